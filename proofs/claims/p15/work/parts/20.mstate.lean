def T_M : u_T := fun k => match k with
  | 0 => ("ListForgeModel", "thrown", "I", false)
  | 1 => ("ListForgeModel", "today", "I", false)
  | 2 => ("ListForgeModel", "asked", "I", false)
  | 3 => ("ListForgeModel", "posts", "I", false)
  | 4 => ("ListForgeModel", "sentMany", "I", false)
  | 5 => ("ListForgeModel", "state", "[I", true)
  | 6 => ("ListForgeModel", "way", "[I", true)
  | 7 => ("ListForgeModel", "since", "[I", true)
  | 8 => ("ListForgeModel", "code", "[I", true)
  | 9 => ("ListForgeModel", "warning", "[I", true)
  | 10 => ("ListForgeModel", "bounced", "[I", true)
  | 11 => ("ListForgeModel", "moderates", "[Z", true)
  | 12 => ("ListForgeModel", "banned", "[Z", true)
  | 13 => ("ListForgeModel", "score", "[D", true)
  | 14 => ("ListForgeModel", "open", "[Z", true)
  | 15 => ("ListForgeModel", "watched", "[Z", true)
  | 16 => ("ListForgeModel", "barred", "[Z", true)
  | 17 => ("ListForgeModel", "greatest", "[I", true)
  | 18 => ("ListForgeModel", "full", "[I", true)
  | 19 => ("ListForgeModel", "best", "[D", true)
  | 20 => ("ListForgeModel", "pList", "[I", true)
  | 21 => ("ListForgeModel", "pFrom", "[I", true)
  | 22 => ("ListForgeModel", "pSize", "[I", true)
  | 23 => ("ListForgeModel", "pState", "[I", true)
  | 24 => ("ListForgeModel", "bundle", "[I", true)
  | 25 => ("ListForgeModel", "bSize", "[I", true)
  | 26 => ("ListForgeModel", "bDay", "[I", true)
  | 27 => ("ListForgeModel", "outTo", "[I", true)
  | 28 => ("ListForgeModel", "outList", "[I", true)
  | 29 => ("ListForgeModel", "outSort", "[I", true)
  | _ => ("ListForgeModel", "outNumber", "[I", true)
def t_M : Nat → FieldType := fun k => match k with
  | 0 => .int
  | 1 => .int
  | 2 => .int
  | 3 => .int
  | 4 => .int
  | 5 => .array .int
  | 6 => .array .int
  | 7 => .array .int
  | 8 => .array .int
  | 9 => .array .int
  | 10 => .array .int
  | 11 => .array .boolean
  | 12 => .array .boolean
  | 13 => .array .double
  | 14 => .array .boolean
  | 15 => .array .boolean
  | 16 => .array .boolean
  | 17 => .array .int
  | 18 => .array .int
  | 19 => .array .double
  | 20 => .array .int
  | 21 => .array .int
  | 22 => .array .int
  | 23 => .array .int
  | 24 => .array .int
  | 25 => .array .int
  | 26 => .array .int
  | 27 => .array .int
  | 28 => .array .int
  | 29 => .array .int
  | _ => .array .int
theorem n_M : ∀ a, a < 31 → ∀ b, b < 31 → a ≠ b → (T_M a).2.1 ≠ (T_M b).2.1 := by decide +kernel
theorem t_M_ok : ∀ k, k < 31 → parseFieldDescriptor (T_M k).2.2.1 = some (t_M k) := by decide +kernel
theorem in_M {c0 : Cond} : ∀ w ∈ u_ws "ListForgeModel" T_M 31, w ∈ c0 :: big := fun w h => List.mem_cons_of_mem _ ((show ∀ w ∈ u_ws "ListForgeModel" T_M 31, w ∈ big by decide +kernel) w h)
abbrev clm : List vw_C := [("ListForgeModel", T_M, 31)]
/-- the reference's world -/
def mE (ad : Nat → Nat) (ka : Nat → ClassId) (t : Mem) (i : Nat) : va_E :=
  if i = 0 then .inr (0, [.int (gI t 0 0), .int (gI t 1 0), .int (gI t 2 0), .int (gI t 3 0), .int (gI t 4 0), .ref (ad 1), .ref (ad 2), .ref (ad 3), .ref (ad 4), .ref (ad 5), .ref (ad 6), .ref (ad 7), .ref (ad 8), .ref (ad 9), .ref (ad 10), .ref (ad 11), .ref (ad 12), .ref (ad 13), .ref (ad 14), .ref (ad 15), .ref (ad 16), .ref (ad 17), .ref (ad 18), .ref (ad 19), .ref (ad 20), .ref (ad 21), .ref (ad 22), .ref (ad 23), .ref (ad 24), .ref (ad 25), .ref (ad 26)])
  else if i = 1 then .inl (ka 0, 36, .inl (fun q => gI t 1001 q))
  else if i = 2 then .inl (ka 0, 36, .inl (fun q => gI t 1002 q))
  else if i = 3 then .inl (ka 0, 36, .inl (fun q => gI t 1003 q))
  else if i = 4 then .inl (ka 0, 36, .inl (fun q => gI t 1004 q))
  else if i = 5 then .inl (ka 0, 36, .inl (fun q => gI t 1005 q))
  else if i = 6 then .inl (ka 0, 36, .inl (fun q => gI t 1006 q))
  else if i = 7 then .inl (ka 1, 36, .inl (fun q => gI t 1007 q))
  else if i = 8 then .inl (ka 1, 36, .inl (fun q => gI t 1008 q))
  else if i = 9 then .inl (ka 2, 36, .inr (.inr (.inr (.inl (fun q => gD t 1009 q)))))
  else if i = 10 then .inl (ka 1, 3, .inl (fun q => gI t 1010 q))
  else if i = 11 then .inl (ka 1, 3, .inl (fun q => gI t 1011 q))
  else if i = 12 then .inl (ka 1, 30, .inl (fun q => gI t 1012 q))
  else if i = 13 then .inl (ka 0, 3, .inl (fun q => gI t 1013 q))
  else if i = 14 then .inl (ka 0, 3, .inl (fun q => gI t 1014 q))
  else if i = 15 then .inl (ka 2, 3, .inr (.inr (.inr (.inl (fun q => gD t 1015 q)))))
  else if i = 16 then .inl (ka 0, 40, .inl (fun q => gI t 1016 q))
  else if i = 17 then .inl (ka 0, 40, .inl (fun q => gI t 1017 q))
  else if i = 18 then .inl (ka 0, 40, .inl (fun q => gI t 1018 q))
  else if i = 19 then .inl (ka 0, 40, .inl (fun q => gI t 1019 q))
  else if i = 20 then .inl (ka 0, 3, .inl (fun q => gI t 1020 q))
  else if i = 21 then .inl (ka 0, 120, .inl (fun q => gI t 1021 q))
  else if i = 22 then .inl (ka 0, 120, .inl (fun q => gI t 1022 q))
  else if i = 23 then .inl (ka 0, 60, .inl (fun q => gI t 1023 q))
  else if i = 24 then .inl (ka 0, 60, .inl (fun q => gI t 1024 q))
  else if i = 25 then .inl (ka 0, 60, .inl (fun q => gI t 1025 q))
  else if i = 26 then .inl (ka 0, 60, .inl (fun q => gI t 1026 q))
  else .inl (ka 0, 0, .inl (fun _ => 0))
def mw (ad : Nat → Nat) (ka : Nat → ClassId) (t : Mem) : va_W := fw 27 ad (mE ad ka t)
abbrev mT (ka : Nat → ClassId) : List (ClassId × FieldType) := [(ka 0, .int), (ka 1, .boolean), (ka 2, .double)]
def AM (ad : Nat → Nat) (sz : Nat) : Nat → Prop := fun q => (∃ i, i < 27 ∧ q = ad i) ∨ sz ≤ q
theorem AM_D {ad : Nat → Nat} {ka : Nat → ClassId} {t : Mem} {A : Nat → Prop} {sz : Nat} (h : va_D A (mw ad ka t)) : va_D (AM ad sz) (mw ad ka t) := by
  refine ⟨h.1, fun k q hk => ?_⟩
  have hl := (List.getElem?_eq_some_iff.mp hk).1
  rw [mw, fw_len] at hl
  rw [mw, fw_at hl] at hk
  cases hk
  exact Or.inl ⟨k, hl, rfl⟩
theorem AM_up {ad : Nat → Nat} {a b : Nat} (h : a ≤ b) : ∀ q, AM ad b q → AM ad a q := fun _ hq => hq.elim Or.inl (fun z => Or.inr (Nat.le_trans h z))
theorem at_M {ad : Nat → Nat} {ka : Nat → ClassId} {t : Mem} : (mw ad ka t)[0]? = some (ad 0, .inr (0, [.int (gI t 0 0), .int (gI t 1 0), .int (gI t 2 0), .int (gI t 3 0), .int (gI t 4 0), .ref (ad 1), .ref (ad 2), .ref (ad 3), .ref (ad 4), .ref (ad 5), .ref (ad 6), .ref (ad 7), .ref (ad 8), .ref (ad 9), .ref (ad 10), .ref (ad 11), .ref (ad 12), .ref (ad 13), .ref (ad 14), .ref (ad 15), .ref (ad 16), .ref (ad 17), .ref (ad 18), .ref (ad 19), .ref (ad 20), .ref (ad 21), .ref (ad 22), .ref (ad 23), .ref (ad 24), .ref (ad 25), .ref (ad 26)])) := fw_at' (by decide) rfl
theorem at_m_state {ad : Nat → Nat} {ka : Nat → ClassId} {t : Mem} : (mw ad ka t)[1]? = some (ad 1, .inl (ka 0, 36, .inl (fun q => gI t 1001 q))) := fw_at' (by decide) rfl
theorem at_m_way {ad : Nat → Nat} {ka : Nat → ClassId} {t : Mem} : (mw ad ka t)[2]? = some (ad 2, .inl (ka 0, 36, .inl (fun q => gI t 1002 q))) := fw_at' (by decide) rfl
theorem at_m_since {ad : Nat → Nat} {ka : Nat → ClassId} {t : Mem} : (mw ad ka t)[3]? = some (ad 3, .inl (ka 0, 36, .inl (fun q => gI t 1003 q))) := fw_at' (by decide) rfl
theorem at_m_code {ad : Nat → Nat} {ka : Nat → ClassId} {t : Mem} : (mw ad ka t)[4]? = some (ad 4, .inl (ka 0, 36, .inl (fun q => gI t 1004 q))) := fw_at' (by decide) rfl
theorem at_m_warning {ad : Nat → Nat} {ka : Nat → ClassId} {t : Mem} : (mw ad ka t)[5]? = some (ad 5, .inl (ka 0, 36, .inl (fun q => gI t 1005 q))) := fw_at' (by decide) rfl
theorem at_m_bounced {ad : Nat → Nat} {ka : Nat → ClassId} {t : Mem} : (mw ad ka t)[6]? = some (ad 6, .inl (ka 0, 36, .inl (fun q => gI t 1006 q))) := fw_at' (by decide) rfl
theorem at_m_moderates {ad : Nat → Nat} {ka : Nat → ClassId} {t : Mem} : (mw ad ka t)[7]? = some (ad 7, .inl (ka 1, 36, .inl (fun q => gI t 1007 q))) := fw_at' (by decide) rfl
theorem at_m_banned {ad : Nat → Nat} {ka : Nat → ClassId} {t : Mem} : (mw ad ka t)[8]? = some (ad 8, .inl (ka 1, 36, .inl (fun q => gI t 1008 q))) := fw_at' (by decide) rfl
theorem at_m_score {ad : Nat → Nat} {ka : Nat → ClassId} {t : Mem} : (mw ad ka t)[9]? = some (ad 9, .inl (ka 2, 36, .inr (.inr (.inr (.inl (fun q => gD t 1009 q)))))) := fw_at' (by decide) rfl
theorem at_m_open {ad : Nat → Nat} {ka : Nat → ClassId} {t : Mem} : (mw ad ka t)[10]? = some (ad 10, .inl (ka 1, 3, .inl (fun q => gI t 1010 q))) := fw_at' (by decide) rfl
theorem at_m_watched {ad : Nat → Nat} {ka : Nat → ClassId} {t : Mem} : (mw ad ka t)[11]? = some (ad 11, .inl (ka 1, 3, .inl (fun q => gI t 1011 q))) := fw_at' (by decide) rfl
theorem at_m_barred {ad : Nat → Nat} {ka : Nat → ClassId} {t : Mem} : (mw ad ka t)[12]? = some (ad 12, .inl (ka 1, 30, .inl (fun q => gI t 1012 q))) := fw_at' (by decide) rfl
theorem at_m_greatest {ad : Nat → Nat} {ka : Nat → ClassId} {t : Mem} : (mw ad ka t)[13]? = some (ad 13, .inl (ka 0, 3, .inl (fun q => gI t 1013 q))) := fw_at' (by decide) rfl
theorem at_m_full {ad : Nat → Nat} {ka : Nat → ClassId} {t : Mem} : (mw ad ka t)[14]? = some (ad 14, .inl (ka 0, 3, .inl (fun q => gI t 1014 q))) := fw_at' (by decide) rfl
theorem at_m_best {ad : Nat → Nat} {ka : Nat → ClassId} {t : Mem} : (mw ad ka t)[15]? = some (ad 15, .inl (ka 2, 3, .inr (.inr (.inr (.inl (fun q => gD t 1015 q)))))) := fw_at' (by decide) rfl
theorem at_m_pList {ad : Nat → Nat} {ka : Nat → ClassId} {t : Mem} : (mw ad ka t)[16]? = some (ad 16, .inl (ka 0, 40, .inl (fun q => gI t 1016 q))) := fw_at' (by decide) rfl
theorem at_m_pFrom {ad : Nat → Nat} {ka : Nat → ClassId} {t : Mem} : (mw ad ka t)[17]? = some (ad 17, .inl (ka 0, 40, .inl (fun q => gI t 1017 q))) := fw_at' (by decide) rfl
theorem at_m_pSize {ad : Nat → Nat} {ka : Nat → ClassId} {t : Mem} : (mw ad ka t)[18]? = some (ad 18, .inl (ka 0, 40, .inl (fun q => gI t 1018 q))) := fw_at' (by decide) rfl
theorem at_m_pState {ad : Nat → Nat} {ka : Nat → ClassId} {t : Mem} : (mw ad ka t)[19]? = some (ad 19, .inl (ka 0, 40, .inl (fun q => gI t 1019 q))) := fw_at' (by decide) rfl
theorem at_m_bundle {ad : Nat → Nat} {ka : Nat → ClassId} {t : Mem} : (mw ad ka t)[20]? = some (ad 20, .inl (ka 0, 3, .inl (fun q => gI t 1020 q))) := fw_at' (by decide) rfl
theorem at_m_bSize {ad : Nat → Nat} {ka : Nat → ClassId} {t : Mem} : (mw ad ka t)[21]? = some (ad 21, .inl (ka 0, 120, .inl (fun q => gI t 1021 q))) := fw_at' (by decide) rfl
theorem at_m_bDay {ad : Nat → Nat} {ka : Nat → ClassId} {t : Mem} : (mw ad ka t)[22]? = some (ad 22, .inl (ka 0, 120, .inl (fun q => gI t 1022 q))) := fw_at' (by decide) rfl
theorem at_m_outTo {ad : Nat → Nat} {ka : Nat → ClassId} {t : Mem} : (mw ad ka t)[23]? = some (ad 23, .inl (ka 0, 60, .inl (fun q => gI t 1023 q))) := fw_at' (by decide) rfl
theorem at_m_outList {ad : Nat → Nat} {ka : Nat → ClassId} {t : Mem} : (mw ad ka t)[24]? = some (ad 24, .inl (ka 0, 60, .inl (fun q => gI t 1024 q))) := fw_at' (by decide) rfl
theorem at_m_outSort {ad : Nat → Nat} {ka : Nat → ClassId} {t : Mem} : (mw ad ka t)[25]? = some (ad 25, .inl (ka 0, 60, .inl (fun q => gI t 1025 q))) := fw_at' (by decide) rfl
theorem at_m_outNumber {ad : Nat → Nat} {ka : Nat → ClassId} {t : Mem} : (mw ad ka t)[26]? = some (ad 26, .inl (ka 0, 60, .inl (fun q => gI t 1026 q))) := fw_at' (by decide) rfl
theorem s_M_thrown {ad : Nat → Nat} {ka : Nat → ClassId} {t : Mem} {v : Int32} : (mw ad ka t).set 0 (ad 0, .inr (0, ([.int (gI t 0 0), .int (gI t 1 0), .int (gI t 2 0), .int (gI t 3 0), .int (gI t 4 0), .ref (ad 1), .ref (ad 2), .ref (ad 3), .ref (ad 4), .ref (ad 5), .ref (ad 6), .ref (ad 7), .ref (ad 8), .ref (ad 9), .ref (ad 10), .ref (ad 11), .ref (ad 12), .ref (ad 13), .ref (ad 14), .ref (ad 15), .ref (ad 16), .ref (ad 17), .ref (ad 18), .ref (ad 19), .ref (ad 20), .ref (ad 21), .ref (ad 22), .ref (ad 23), .ref (ad 24), .ref (ad 25), .ref (ad 26)] : List Value).set 0 (.int v))) = mw ad ka (pI t 0 0 v) := by
  refine fw_set _ ?_
  intro i hi
  by_cases h : i = 0
  · subst h
    rw [if_pos rfl]
    show mE ad ka _ 0 = _; unfold mE; simp [gI_pI, gI_pD, gD_pI, gD_pD]
  · rw [if_neg h]
    unfold mE
    simp [gI_pI, gI_pD, gD_pI, gD_pD, h]
theorem s_M_today {ad : Nat → Nat} {ka : Nat → ClassId} {t : Mem} {v : Int32} : (mw ad ka t).set 0 (ad 0, .inr (0, ([.int (gI t 0 0), .int (gI t 1 0), .int (gI t 2 0), .int (gI t 3 0), .int (gI t 4 0), .ref (ad 1), .ref (ad 2), .ref (ad 3), .ref (ad 4), .ref (ad 5), .ref (ad 6), .ref (ad 7), .ref (ad 8), .ref (ad 9), .ref (ad 10), .ref (ad 11), .ref (ad 12), .ref (ad 13), .ref (ad 14), .ref (ad 15), .ref (ad 16), .ref (ad 17), .ref (ad 18), .ref (ad 19), .ref (ad 20), .ref (ad 21), .ref (ad 22), .ref (ad 23), .ref (ad 24), .ref (ad 25), .ref (ad 26)] : List Value).set 1 (.int v))) = mw ad ka (pI t 1 0 v) := by
  refine fw_set _ ?_
  intro i hi
  by_cases h : i = 0
  · subst h
    rw [if_pos rfl]
    show mE ad ka _ 0 = _; unfold mE; simp [gI_pI, gI_pD, gD_pI, gD_pD]
  · rw [if_neg h]
    unfold mE
    simp [gI_pI, gI_pD, gD_pI, gD_pD, h]
theorem s_M_asked {ad : Nat → Nat} {ka : Nat → ClassId} {t : Mem} {v : Int32} : (mw ad ka t).set 0 (ad 0, .inr (0, ([.int (gI t 0 0), .int (gI t 1 0), .int (gI t 2 0), .int (gI t 3 0), .int (gI t 4 0), .ref (ad 1), .ref (ad 2), .ref (ad 3), .ref (ad 4), .ref (ad 5), .ref (ad 6), .ref (ad 7), .ref (ad 8), .ref (ad 9), .ref (ad 10), .ref (ad 11), .ref (ad 12), .ref (ad 13), .ref (ad 14), .ref (ad 15), .ref (ad 16), .ref (ad 17), .ref (ad 18), .ref (ad 19), .ref (ad 20), .ref (ad 21), .ref (ad 22), .ref (ad 23), .ref (ad 24), .ref (ad 25), .ref (ad 26)] : List Value).set 2 (.int v))) = mw ad ka (pI t 2 0 v) := by
  refine fw_set _ ?_
  intro i hi
  by_cases h : i = 0
  · subst h
    rw [if_pos rfl]
    show mE ad ka _ 0 = _; unfold mE; simp [gI_pI, gI_pD, gD_pI, gD_pD]
  · rw [if_neg h]
    unfold mE
    simp [gI_pI, gI_pD, gD_pI, gD_pD, h]
theorem s_M_posts {ad : Nat → Nat} {ka : Nat → ClassId} {t : Mem} {v : Int32} : (mw ad ka t).set 0 (ad 0, .inr (0, ([.int (gI t 0 0), .int (gI t 1 0), .int (gI t 2 0), .int (gI t 3 0), .int (gI t 4 0), .ref (ad 1), .ref (ad 2), .ref (ad 3), .ref (ad 4), .ref (ad 5), .ref (ad 6), .ref (ad 7), .ref (ad 8), .ref (ad 9), .ref (ad 10), .ref (ad 11), .ref (ad 12), .ref (ad 13), .ref (ad 14), .ref (ad 15), .ref (ad 16), .ref (ad 17), .ref (ad 18), .ref (ad 19), .ref (ad 20), .ref (ad 21), .ref (ad 22), .ref (ad 23), .ref (ad 24), .ref (ad 25), .ref (ad 26)] : List Value).set 3 (.int v))) = mw ad ka (pI t 3 0 v) := by
  refine fw_set _ ?_
  intro i hi
  by_cases h : i = 0
  · subst h
    rw [if_pos rfl]
    show mE ad ka _ 0 = _; unfold mE; simp [gI_pI, gI_pD, gD_pI, gD_pD]
  · rw [if_neg h]
    unfold mE
    simp [gI_pI, gI_pD, gD_pI, gD_pD, h]
theorem s_M_sentMany {ad : Nat → Nat} {ka : Nat → ClassId} {t : Mem} {v : Int32} : (mw ad ka t).set 0 (ad 0, .inr (0, ([.int (gI t 0 0), .int (gI t 1 0), .int (gI t 2 0), .int (gI t 3 0), .int (gI t 4 0), .ref (ad 1), .ref (ad 2), .ref (ad 3), .ref (ad 4), .ref (ad 5), .ref (ad 6), .ref (ad 7), .ref (ad 8), .ref (ad 9), .ref (ad 10), .ref (ad 11), .ref (ad 12), .ref (ad 13), .ref (ad 14), .ref (ad 15), .ref (ad 16), .ref (ad 17), .ref (ad 18), .ref (ad 19), .ref (ad 20), .ref (ad 21), .ref (ad 22), .ref (ad 23), .ref (ad 24), .ref (ad 25), .ref (ad 26)] : List Value).set 4 (.int v))) = mw ad ka (pI t 4 0 v) := by
  refine fw_set _ ?_
  intro i hi
  by_cases h : i = 0
  · subst h
    rw [if_pos rfl]
    show mE ad ka _ 0 = _; unfold mE; simp [gI_pI, gI_pD, gD_pI, gD_pD]
  · rw [if_neg h]
    unfold mE
    simp [gI_pI, gI_pD, gD_pI, gD_pD, h]
theorem s_m_state {ad : Nat → Nat} {ka : Nat → ClassId} {t : Mem} {r : Nat} {v : Int32} : (mw ad ka t).set 1 (ad 1, .inl (ka 0, 36, .inl (upd (fun q => gI t 1001 q) r v))) = mw ad ka (pI t 1001 r v) := by
  refine fw_set _ ?_
  intro i hi
  by_cases h : i = 1
  · subst h
    rw [if_pos rfl]
    show Sum.inl (ka 0, 36, Sum.inl (fun q => gI (pI t 1001 r v) 1001 q)) = _; rw [show (fun q => gI (pI t 1001 r v) 1001 q) = upd (fun q => gI t 1001 q) r v from by funext q; simp [gI_pI, upd]]
  · rw [if_neg h]
    unfold mE
    simp [gI_pI, gI_pD, gD_pI, gD_pD, h]
theorem s_m_way {ad : Nat → Nat} {ka : Nat → ClassId} {t : Mem} {r : Nat} {v : Int32} : (mw ad ka t).set 2 (ad 2, .inl (ka 0, 36, .inl (upd (fun q => gI t 1002 q) r v))) = mw ad ka (pI t 1002 r v) := by
  refine fw_set _ ?_
  intro i hi
  by_cases h : i = 2
  · subst h
    rw [if_pos rfl]
    show Sum.inl (ka 0, 36, Sum.inl (fun q => gI (pI t 1002 r v) 1002 q)) = _; rw [show (fun q => gI (pI t 1002 r v) 1002 q) = upd (fun q => gI t 1002 q) r v from by funext q; simp [gI_pI, upd]]
  · rw [if_neg h]
    unfold mE
    simp [gI_pI, gI_pD, gD_pI, gD_pD, h]
theorem s_m_since {ad : Nat → Nat} {ka : Nat → ClassId} {t : Mem} {r : Nat} {v : Int32} : (mw ad ka t).set 3 (ad 3, .inl (ka 0, 36, .inl (upd (fun q => gI t 1003 q) r v))) = mw ad ka (pI t 1003 r v) := by
  refine fw_set _ ?_
  intro i hi
  by_cases h : i = 3
  · subst h
    rw [if_pos rfl]
    show Sum.inl (ka 0, 36, Sum.inl (fun q => gI (pI t 1003 r v) 1003 q)) = _; rw [show (fun q => gI (pI t 1003 r v) 1003 q) = upd (fun q => gI t 1003 q) r v from by funext q; simp [gI_pI, upd]]
  · rw [if_neg h]
    unfold mE
    simp [gI_pI, gI_pD, gD_pI, gD_pD, h]
theorem s_m_code {ad : Nat → Nat} {ka : Nat → ClassId} {t : Mem} {r : Nat} {v : Int32} : (mw ad ka t).set 4 (ad 4, .inl (ka 0, 36, .inl (upd (fun q => gI t 1004 q) r v))) = mw ad ka (pI t 1004 r v) := by
  refine fw_set _ ?_
  intro i hi
  by_cases h : i = 4
  · subst h
    rw [if_pos rfl]
    show Sum.inl (ka 0, 36, Sum.inl (fun q => gI (pI t 1004 r v) 1004 q)) = _; rw [show (fun q => gI (pI t 1004 r v) 1004 q) = upd (fun q => gI t 1004 q) r v from by funext q; simp [gI_pI, upd]]
  · rw [if_neg h]
    unfold mE
    simp [gI_pI, gI_pD, gD_pI, gD_pD, h]
theorem s_m_warning {ad : Nat → Nat} {ka : Nat → ClassId} {t : Mem} {r : Nat} {v : Int32} : (mw ad ka t).set 5 (ad 5, .inl (ka 0, 36, .inl (upd (fun q => gI t 1005 q) r v))) = mw ad ka (pI t 1005 r v) := by
  refine fw_set _ ?_
  intro i hi
  by_cases h : i = 5
  · subst h
    rw [if_pos rfl]
    show Sum.inl (ka 0, 36, Sum.inl (fun q => gI (pI t 1005 r v) 1005 q)) = _; rw [show (fun q => gI (pI t 1005 r v) 1005 q) = upd (fun q => gI t 1005 q) r v from by funext q; simp [gI_pI, upd]]
  · rw [if_neg h]
    unfold mE
    simp [gI_pI, gI_pD, gD_pI, gD_pD, h]
theorem s_m_bounced {ad : Nat → Nat} {ka : Nat → ClassId} {t : Mem} {r : Nat} {v : Int32} : (mw ad ka t).set 6 (ad 6, .inl (ka 0, 36, .inl (upd (fun q => gI t 1006 q) r v))) = mw ad ka (pI t 1006 r v) := by
  refine fw_set _ ?_
  intro i hi
  by_cases h : i = 6
  · subst h
    rw [if_pos rfl]
    show Sum.inl (ka 0, 36, Sum.inl (fun q => gI (pI t 1006 r v) 1006 q)) = _; rw [show (fun q => gI (pI t 1006 r v) 1006 q) = upd (fun q => gI t 1006 q) r v from by funext q; simp [gI_pI, upd]]
  · rw [if_neg h]
    unfold mE
    simp [gI_pI, gI_pD, gD_pI, gD_pD, h]
theorem s_m_moderates {ad : Nat → Nat} {ka : Nat → ClassId} {t : Mem} {r : Nat} {v : Int32} : (mw ad ka t).set 7 (ad 7, .inl (ka 1, 36, .inl (upd (fun q => gI t 1007 q) r v))) = mw ad ka (pI t 1007 r v) := by
  refine fw_set _ ?_
  intro i hi
  by_cases h : i = 7
  · subst h
    rw [if_pos rfl]
    show Sum.inl (ka 1, 36, Sum.inl (fun q => gI (pI t 1007 r v) 1007 q)) = _; rw [show (fun q => gI (pI t 1007 r v) 1007 q) = upd (fun q => gI t 1007 q) r v from by funext q; simp [gI_pI, upd]]
  · rw [if_neg h]
    unfold mE
    simp [gI_pI, gI_pD, gD_pI, gD_pD, h]
theorem s_m_banned {ad : Nat → Nat} {ka : Nat → ClassId} {t : Mem} {r : Nat} {v : Int32} : (mw ad ka t).set 8 (ad 8, .inl (ka 1, 36, .inl (upd (fun q => gI t 1008 q) r v))) = mw ad ka (pI t 1008 r v) := by
  refine fw_set _ ?_
  intro i hi
  by_cases h : i = 8
  · subst h
    rw [if_pos rfl]
    show Sum.inl (ka 1, 36, Sum.inl (fun q => gI (pI t 1008 r v) 1008 q)) = _; rw [show (fun q => gI (pI t 1008 r v) 1008 q) = upd (fun q => gI t 1008 q) r v from by funext q; simp [gI_pI, upd]]
  · rw [if_neg h]
    unfold mE
    simp [gI_pI, gI_pD, gD_pI, gD_pD, h]
theorem s_m_score {ad : Nat → Nat} {ka : Nat → ClassId} {t : Mem} {r : Nat} {v : UInt64} : (mw ad ka t).set 9 (ad 9, .inl (ka 2, 36, .inr (.inr (.inr (.inl (vf_upd (fun q => gD t 1009 q) r v)))))) = mw ad ka (pD t 1009 r v) := by
  refine fw_set _ ?_
  intro i hi
  by_cases h : i = 9
  · subst h
    rw [if_pos rfl]
    show Sum.inl (ka 2, 36, Sum.inr (Sum.inr (Sum.inr (Sum.inl (fun q => gD (pD t 1009 r v) 1009 q))))) = _; rw [show (fun q => gD (pD t 1009 r v) 1009 q) = vf_upd (fun q => gD t 1009 q) r v from by funext q; simp [gD_pD, vf_upd]]
  · rw [if_neg h]
    unfold mE
    simp [gI_pI, gI_pD, gD_pI, gD_pD, h]
theorem s_m_open {ad : Nat → Nat} {ka : Nat → ClassId} {t : Mem} {r : Nat} {v : Int32} : (mw ad ka t).set 10 (ad 10, .inl (ka 1, 3, .inl (upd (fun q => gI t 1010 q) r v))) = mw ad ka (pI t 1010 r v) := by
  refine fw_set _ ?_
  intro i hi
  by_cases h : i = 10
  · subst h
    rw [if_pos rfl]
    show Sum.inl (ka 1, 3, Sum.inl (fun q => gI (pI t 1010 r v) 1010 q)) = _; rw [show (fun q => gI (pI t 1010 r v) 1010 q) = upd (fun q => gI t 1010 q) r v from by funext q; simp [gI_pI, upd]]
  · rw [if_neg h]
    unfold mE
    simp [gI_pI, gI_pD, gD_pI, gD_pD, h]
theorem s_m_watched {ad : Nat → Nat} {ka : Nat → ClassId} {t : Mem} {r : Nat} {v : Int32} : (mw ad ka t).set 11 (ad 11, .inl (ka 1, 3, .inl (upd (fun q => gI t 1011 q) r v))) = mw ad ka (pI t 1011 r v) := by
  refine fw_set _ ?_
  intro i hi
  by_cases h : i = 11
  · subst h
    rw [if_pos rfl]
    show Sum.inl (ka 1, 3, Sum.inl (fun q => gI (pI t 1011 r v) 1011 q)) = _; rw [show (fun q => gI (pI t 1011 r v) 1011 q) = upd (fun q => gI t 1011 q) r v from by funext q; simp [gI_pI, upd]]
  · rw [if_neg h]
    unfold mE
    simp [gI_pI, gI_pD, gD_pI, gD_pD, h]
theorem s_m_barred {ad : Nat → Nat} {ka : Nat → ClassId} {t : Mem} {r : Nat} {v : Int32} : (mw ad ka t).set 12 (ad 12, .inl (ka 1, 30, .inl (upd (fun q => gI t 1012 q) r v))) = mw ad ka (pI t 1012 r v) := by
  refine fw_set _ ?_
  intro i hi
  by_cases h : i = 12
  · subst h
    rw [if_pos rfl]
    show Sum.inl (ka 1, 30, Sum.inl (fun q => gI (pI t 1012 r v) 1012 q)) = _; rw [show (fun q => gI (pI t 1012 r v) 1012 q) = upd (fun q => gI t 1012 q) r v from by funext q; simp [gI_pI, upd]]
  · rw [if_neg h]
    unfold mE
    simp [gI_pI, gI_pD, gD_pI, gD_pD, h]
theorem s_m_greatest {ad : Nat → Nat} {ka : Nat → ClassId} {t : Mem} {r : Nat} {v : Int32} : (mw ad ka t).set 13 (ad 13, .inl (ka 0, 3, .inl (upd (fun q => gI t 1013 q) r v))) = mw ad ka (pI t 1013 r v) := by
  refine fw_set _ ?_
  intro i hi
  by_cases h : i = 13
  · subst h
    rw [if_pos rfl]
    show Sum.inl (ka 0, 3, Sum.inl (fun q => gI (pI t 1013 r v) 1013 q)) = _; rw [show (fun q => gI (pI t 1013 r v) 1013 q) = upd (fun q => gI t 1013 q) r v from by funext q; simp [gI_pI, upd]]
  · rw [if_neg h]
    unfold mE
    simp [gI_pI, gI_pD, gD_pI, gD_pD, h]
theorem s_m_full {ad : Nat → Nat} {ka : Nat → ClassId} {t : Mem} {r : Nat} {v : Int32} : (mw ad ka t).set 14 (ad 14, .inl (ka 0, 3, .inl (upd (fun q => gI t 1014 q) r v))) = mw ad ka (pI t 1014 r v) := by
  refine fw_set _ ?_
  intro i hi
  by_cases h : i = 14
  · subst h
    rw [if_pos rfl]
    show Sum.inl (ka 0, 3, Sum.inl (fun q => gI (pI t 1014 r v) 1014 q)) = _; rw [show (fun q => gI (pI t 1014 r v) 1014 q) = upd (fun q => gI t 1014 q) r v from by funext q; simp [gI_pI, upd]]
  · rw [if_neg h]
    unfold mE
    simp [gI_pI, gI_pD, gD_pI, gD_pD, h]
theorem s_m_best {ad : Nat → Nat} {ka : Nat → ClassId} {t : Mem} {r : Nat} {v : UInt64} : (mw ad ka t).set 15 (ad 15, .inl (ka 2, 3, .inr (.inr (.inr (.inl (vf_upd (fun q => gD t 1015 q) r v)))))) = mw ad ka (pD t 1015 r v) := by
  refine fw_set _ ?_
  intro i hi
  by_cases h : i = 15
  · subst h
    rw [if_pos rfl]
    show Sum.inl (ka 2, 3, Sum.inr (Sum.inr (Sum.inr (Sum.inl (fun q => gD (pD t 1015 r v) 1015 q))))) = _; rw [show (fun q => gD (pD t 1015 r v) 1015 q) = vf_upd (fun q => gD t 1015 q) r v from by funext q; simp [gD_pD, vf_upd]]
  · rw [if_neg h]
    unfold mE
    simp [gI_pI, gI_pD, gD_pI, gD_pD, h]
theorem s_m_pList {ad : Nat → Nat} {ka : Nat → ClassId} {t : Mem} {r : Nat} {v : Int32} : (mw ad ka t).set 16 (ad 16, .inl (ka 0, 40, .inl (upd (fun q => gI t 1016 q) r v))) = mw ad ka (pI t 1016 r v) := by
  refine fw_set _ ?_
  intro i hi
  by_cases h : i = 16
  · subst h
    rw [if_pos rfl]
    show Sum.inl (ka 0, 40, Sum.inl (fun q => gI (pI t 1016 r v) 1016 q)) = _; rw [show (fun q => gI (pI t 1016 r v) 1016 q) = upd (fun q => gI t 1016 q) r v from by funext q; simp [gI_pI, upd]]
  · rw [if_neg h]
    unfold mE
    simp [gI_pI, gI_pD, gD_pI, gD_pD, h]
theorem s_m_pFrom {ad : Nat → Nat} {ka : Nat → ClassId} {t : Mem} {r : Nat} {v : Int32} : (mw ad ka t).set 17 (ad 17, .inl (ka 0, 40, .inl (upd (fun q => gI t 1017 q) r v))) = mw ad ka (pI t 1017 r v) := by
  refine fw_set _ ?_
  intro i hi
  by_cases h : i = 17
  · subst h
    rw [if_pos rfl]
    show Sum.inl (ka 0, 40, Sum.inl (fun q => gI (pI t 1017 r v) 1017 q)) = _; rw [show (fun q => gI (pI t 1017 r v) 1017 q) = upd (fun q => gI t 1017 q) r v from by funext q; simp [gI_pI, upd]]
  · rw [if_neg h]
    unfold mE
    simp [gI_pI, gI_pD, gD_pI, gD_pD, h]
theorem s_m_pSize {ad : Nat → Nat} {ka : Nat → ClassId} {t : Mem} {r : Nat} {v : Int32} : (mw ad ka t).set 18 (ad 18, .inl (ka 0, 40, .inl (upd (fun q => gI t 1018 q) r v))) = mw ad ka (pI t 1018 r v) := by
  refine fw_set _ ?_
  intro i hi
  by_cases h : i = 18
  · subst h
    rw [if_pos rfl]
    show Sum.inl (ka 0, 40, Sum.inl (fun q => gI (pI t 1018 r v) 1018 q)) = _; rw [show (fun q => gI (pI t 1018 r v) 1018 q) = upd (fun q => gI t 1018 q) r v from by funext q; simp [gI_pI, upd]]
  · rw [if_neg h]
    unfold mE
    simp [gI_pI, gI_pD, gD_pI, gD_pD, h]
theorem s_m_pState {ad : Nat → Nat} {ka : Nat → ClassId} {t : Mem} {r : Nat} {v : Int32} : (mw ad ka t).set 19 (ad 19, .inl (ka 0, 40, .inl (upd (fun q => gI t 1019 q) r v))) = mw ad ka (pI t 1019 r v) := by
  refine fw_set _ ?_
  intro i hi
  by_cases h : i = 19
  · subst h
    rw [if_pos rfl]
    show Sum.inl (ka 0, 40, Sum.inl (fun q => gI (pI t 1019 r v) 1019 q)) = _; rw [show (fun q => gI (pI t 1019 r v) 1019 q) = upd (fun q => gI t 1019 q) r v from by funext q; simp [gI_pI, upd]]
  · rw [if_neg h]
    unfold mE
    simp [gI_pI, gI_pD, gD_pI, gD_pD, h]
theorem s_m_bundle {ad : Nat → Nat} {ka : Nat → ClassId} {t : Mem} {r : Nat} {v : Int32} : (mw ad ka t).set 20 (ad 20, .inl (ka 0, 3, .inl (upd (fun q => gI t 1020 q) r v))) = mw ad ka (pI t 1020 r v) := by
  refine fw_set _ ?_
  intro i hi
  by_cases h : i = 20
  · subst h
    rw [if_pos rfl]
    show Sum.inl (ka 0, 3, Sum.inl (fun q => gI (pI t 1020 r v) 1020 q)) = _; rw [show (fun q => gI (pI t 1020 r v) 1020 q) = upd (fun q => gI t 1020 q) r v from by funext q; simp [gI_pI, upd]]
  · rw [if_neg h]
    unfold mE
    simp [gI_pI, gI_pD, gD_pI, gD_pD, h]
theorem s_m_bSize {ad : Nat → Nat} {ka : Nat → ClassId} {t : Mem} {r : Nat} {v : Int32} : (mw ad ka t).set 21 (ad 21, .inl (ka 0, 120, .inl (upd (fun q => gI t 1021 q) r v))) = mw ad ka (pI t 1021 r v) := by
  refine fw_set _ ?_
  intro i hi
  by_cases h : i = 21
  · subst h
    rw [if_pos rfl]
    show Sum.inl (ka 0, 120, Sum.inl (fun q => gI (pI t 1021 r v) 1021 q)) = _; rw [show (fun q => gI (pI t 1021 r v) 1021 q) = upd (fun q => gI t 1021 q) r v from by funext q; simp [gI_pI, upd]]
  · rw [if_neg h]
    unfold mE
    simp [gI_pI, gI_pD, gD_pI, gD_pD, h]
theorem s_m_bDay {ad : Nat → Nat} {ka : Nat → ClassId} {t : Mem} {r : Nat} {v : Int32} : (mw ad ka t).set 22 (ad 22, .inl (ka 0, 120, .inl (upd (fun q => gI t 1022 q) r v))) = mw ad ka (pI t 1022 r v) := by
  refine fw_set _ ?_
  intro i hi
  by_cases h : i = 22
  · subst h
    rw [if_pos rfl]
    show Sum.inl (ka 0, 120, Sum.inl (fun q => gI (pI t 1022 r v) 1022 q)) = _; rw [show (fun q => gI (pI t 1022 r v) 1022 q) = upd (fun q => gI t 1022 q) r v from by funext q; simp [gI_pI, upd]]
  · rw [if_neg h]
    unfold mE
    simp [gI_pI, gI_pD, gD_pI, gD_pD, h]
theorem s_m_outTo {ad : Nat → Nat} {ka : Nat → ClassId} {t : Mem} {r : Nat} {v : Int32} : (mw ad ka t).set 23 (ad 23, .inl (ka 0, 60, .inl (upd (fun q => gI t 1023 q) r v))) = mw ad ka (pI t 1023 r v) := by
  refine fw_set _ ?_
  intro i hi
  by_cases h : i = 23
  · subst h
    rw [if_pos rfl]
    show Sum.inl (ka 0, 60, Sum.inl (fun q => gI (pI t 1023 r v) 1023 q)) = _; rw [show (fun q => gI (pI t 1023 r v) 1023 q) = upd (fun q => gI t 1023 q) r v from by funext q; simp [gI_pI, upd]]
  · rw [if_neg h]
    unfold mE
    simp [gI_pI, gI_pD, gD_pI, gD_pD, h]
theorem s_m_outList {ad : Nat → Nat} {ka : Nat → ClassId} {t : Mem} {r : Nat} {v : Int32} : (mw ad ka t).set 24 (ad 24, .inl (ka 0, 60, .inl (upd (fun q => gI t 1024 q) r v))) = mw ad ka (pI t 1024 r v) := by
  refine fw_set _ ?_
  intro i hi
  by_cases h : i = 24
  · subst h
    rw [if_pos rfl]
    show Sum.inl (ka 0, 60, Sum.inl (fun q => gI (pI t 1024 r v) 1024 q)) = _; rw [show (fun q => gI (pI t 1024 r v) 1024 q) = upd (fun q => gI t 1024 q) r v from by funext q; simp [gI_pI, upd]]
  · rw [if_neg h]
    unfold mE
    simp [gI_pI, gI_pD, gD_pI, gD_pD, h]
theorem s_m_outSort {ad : Nat → Nat} {ka : Nat → ClassId} {t : Mem} {r : Nat} {v : Int32} : (mw ad ka t).set 25 (ad 25, .inl (ka 0, 60, .inl (upd (fun q => gI t 1025 q) r v))) = mw ad ka (pI t 1025 r v) := by
  refine fw_set _ ?_
  intro i hi
  by_cases h : i = 25
  · subst h
    rw [if_pos rfl]
    show Sum.inl (ka 0, 60, Sum.inl (fun q => gI (pI t 1025 r v) 1025 q)) = _; rw [show (fun q => gI (pI t 1025 r v) 1025 q) = upd (fun q => gI t 1025 q) r v from by funext q; simp [gI_pI, upd]]
  · rw [if_neg h]
    unfold mE
    simp [gI_pI, gI_pD, gD_pI, gD_pD, h]
theorem s_m_outNumber {ad : Nat → Nat} {ka : Nat → ClassId} {t : Mem} {r : Nat} {v : Int32} : (mw ad ka t).set 26 (ad 26, .inl (ka 0, 60, .inl (upd (fun q => gI t 1026 q) r v))) = mw ad ka (pI t 1026 r v) := by
  refine fw_set _ ?_
  intro i hi
  by_cases h : i = 26
  · subst h
    rw [if_pos rfl]
    show Sum.inl (ka 0, 60, Sum.inl (fun q => gI (pI t 1026 r v) 1026 q)) = _; rw [show (fun q => gI (pI t 1026 r v) 1026 q) = upd (fun q => gI t 1026 q) r v from by funext q; simp [gI_pI, upd]]
  · rw [if_neg h]
    unfold mE
    simp [gI_pI, gI_pD, gD_pI, gD_pD, h]
