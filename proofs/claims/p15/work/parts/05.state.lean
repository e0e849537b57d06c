/-! a world by an index: N cells at the addresses ad 0 .. ad (N-1), with what w says of each place -/
def fw (N : Nat) (ad : Nat → Nat) (w : Nat → va_E) : va_W := (List.range N).map (fun i => (ad i, w i))
theorem fw_at {N : Nat} {ad : Nat → Nat} {w : Nat → va_E} {k : Nat} (hk : k < N) : (fw N ad w)[k]? = some (ad k, w k) := by
  simp [fw, hk]
theorem fw_at' {N : Nat} {ad : Nat → Nat} {w : Nat → va_E} {k : Nat} {e : va_E} (hk : k < N) (he : w k = e) : (fw N ad w)[k]? = some (ad k, e) := by
  rw [fw_at hk, he]
theorem fw_len {N : Nat} {ad : Nat → Nat} {w : Nat → va_E} : (fw N ad w).length = N := by simp [fw]
theorem fw_set {N : Nat} {ad : Nat → Nat} {w : Nat → va_E} {k : Nat} {e : va_E} (w' : Nat → va_E) (h : ∀ i, i < N → w' i = if i = k then e else w i) : (fw N ad w).set k (ad k, e) = fw N ad w' := by
  apply List.ext_getElem?
  intro j
  by_cases hj : j < N
  · rw [fw_at hj]
    by_cases hk : j = k
    · subst hk
      rw [List.getElem?_set_self (by rw [fw_len]; exact hj), h j hj, if_pos rfl]
    · rw [List.getElem?_set_ne (Ne.symm hk), fw_at hj, h j hj, if_neg hk]
  · rw [List.getElem?_eq_none (by rw [List.length_set, fw_len]; omega), List.getElem?_eq_none (by rw [fw_len]; omega)]
theorem fw_congr {N : Nat} {ad ad' : Nat → Nat} {w w' : Nat → va_E} (ha : ∀ i, i < N → ad i = ad' i) (h : ∀ i, i < N → w i = w' i) : fw N ad w = fw N ad' w' := by
  unfold fw
  apply List.map_congr_left
  intro i hi
  have hi := List.mem_range.mp hi
  rw [ha i hi, h i hi]

/-- a memory: ints and doubles by component and place -/
abbrev Mem : Type := (Nat → Nat → Int32) × (Nat → Nat → UInt64)
def gI (t : Mem) (k j : Nat) : Int32 := t.1 k j
def gD (t : Mem) (k j : Nat) : UInt64 := t.2 k j
def pI (t : Mem) (k j : Nat) (v : Int32) : Mem := (fun k2 j2 => if k2 = k ∧ j2 = j then v else t.1 k2 j2, t.2)
def pD (t : Mem) (k j : Nat) (v : UInt64) : Mem := (t.1, fun k2 j2 => if k2 = k ∧ j2 = j then v else t.2 k2 j2)
theorem gI_pI (t : Mem) (k j k2 j2 : Nat) (v : Int32) : gI (pI t k j v) k2 j2 = if k2 = k ∧ j2 = j then v else gI t k2 j2 := rfl
theorem gI_pD (t : Mem) (k j k2 j2 : Nat) (v : UInt64) : gI (pD t k j v) k2 j2 = gI t k2 j2 := rfl
theorem gD_pI (t : Mem) (k j k2 j2 : Nat) (v : Int32) : gD (pI t k j v) k2 j2 = gD t k2 j2 := rfl
theorem gD_pD (t : Mem) (k j k2 j2 : Nat) (v : UInt64) : gD (pD t k j v) k2 j2 = if k2 = k ∧ j2 = j then v else gD t k2 j2 := rfl
def T_L : u_T := fun k => match k with
  | 0 => ("ListForge$MailingList", "number", "I", true)
  | 1 => ("ListForge$MailingList", "subscriptions", "[LListForge$Subscription;", true)
  | 2 => ("ListForge$MailingList", "banned", "[Z", true)
  | 3 => ("ListForge$MailingList", "barred", "[Z", true)
  | 4 => ("ListForge$MailingList", "open", "Z", false)
  | 5 => ("ListForge$MailingList", "watched", "Z", false)
  | 6 => ("ListForge$MailingList", "greatest", "I", false)
  | 7 => ("ListForge$MailingList", "full", "I", false)
  | 8 => ("ListForge$MailingList", "best", "D", false)
  | 9 => ("ListForge$MailingList", "bundlePosts", "I", false)
  | 10 => ("ListForge$MailingList", "bundleSizes", "I", false)
  | _ => ("ListForge$MailingList", "bundleSince", "I", false)
def t_L : Nat → FieldType := fun k => match k with
  | 0 => .int
  | 1 => .array (.object "ListForge$Subscription")
  | 2 => .array .boolean
  | 3 => .array .boolean
  | 4 => .boolean
  | 5 => .boolean
  | 6 => .int
  | 7 => .int
  | 8 => .double
  | 9 => .int
  | 10 => .int
  | _ => .int
theorem n_L : ∀ a, a < 12 → ∀ b, b < 12 → a ≠ b → (T_L a).2.1 ≠ (T_L b).2.1 := by decide +kernel
theorem t_L_ok : ∀ k, k < 12 → parseFieldDescriptor (T_L k).2.2.1 = some (t_L k) := by decide +kernel
theorem in_L {c0 : Cond} : ∀ w ∈ u_ws "ListForge$MailingList" T_L 12, w ∈ c0 :: big := fun w h => List.mem_cons_of_mem _ ((show ∀ w ∈ u_ws "ListForge$MailingList" T_L 12, w ∈ big by decide +kernel) w h)
def T_O : u_T := fun k => match k with
  | 0 => ("ListForge$Outbox", "addresses", "[I", true)
  | 1 => ("ListForge$Outbox", "lists", "[I", true)
  | 2 => ("ListForge$Outbox", "sorts", "[I", true)
  | 3 => ("ListForge$Outbox", "numbers", "[I", true)
  | 4 => ("ListForge$Outbox", "kept", "I", false)
  | _ => ("ListForge$Outbox", "total", "I", false)
def t_O : Nat → FieldType := fun k => match k with
  | 0 => .array .int
  | 1 => .array .int
  | 2 => .array .int
  | 3 => .array .int
  | 4 => .int
  | _ => .int
theorem n_O : ∀ a, a < 6 → ∀ b, b < 6 → a ≠ b → (T_O a).2.1 ≠ (T_O b).2.1 := by decide +kernel
theorem t_O_ok : ∀ k, k < 6 → parseFieldDescriptor (T_O k).2.2.1 = some (t_O k) := by decide +kernel
theorem in_O {c0 : Cond} : ∀ w ∈ u_ws "ListForge$Outbox" T_O 6, w ∈ c0 :: big := fun w h => List.mem_cons_of_mem _ ((show ∀ w ∈ u_ws "ListForge$Outbox" T_O 6, w ∈ big by decide +kernel) w h)
def T_P : u_T := fun k => match k with
  | 0 => ("ListForge$Post", "list", "I", false)
  | 1 => ("ListForge$Post", "sender", "I", false)
  | 2 => ("ListForge$Post", "size", "I", false)
  | _ => ("ListForge$Post", "fate", "I", false)
def t_P : Nat → FieldType := fun k => match k with
  | 0 => .int
  | 1 => .int
  | 2 => .int
  | _ => .int
theorem n_P : ∀ a, a < 4 → ∀ b, b < 4 → a ≠ b → (T_P a).2.1 ≠ (T_P b).2.1 := by decide +kernel
theorem t_P_ok : ∀ k, k < 4 → parseFieldDescriptor (T_P k).2.2.1 = some (t_P k) := by decide +kernel
theorem in_P {c0 : Cond} : ∀ w ∈ u_ws "ListForge$Post" T_P 4, w ∈ c0 :: big := fun w h => List.mem_cons_of_mem _ ((show ∀ w ∈ u_ws "ListForge$Post" T_P 4, w ∈ big by decide +kernel) w h)
def T_S : u_T := fun k => match k with
  | 0 => ("ListForge$Subscription", "state", "I", false)
  | 1 => ("ListForge$Subscription", "way", "I", false)
  | 2 => ("ListForge$Subscription", "code", "I", false)
  | 3 => ("ListForge$Subscription", "since", "I", false)
  | 4 => ("ListForge$Subscription", "warning", "I", false)
  | 5 => ("ListForge$Subscription", "bounceDay", "I", false)
  | 6 => ("ListForge$Subscription", "moderates", "Z", false)
  | _ => ("ListForge$Subscription", "score", "D", false)
def t_S : Nat → FieldType := fun k => match k with
  | 0 => .int
  | 1 => .int
  | 2 => .int
  | 3 => .int
  | 4 => .int
  | 5 => .int
  | 6 => .boolean
  | _ => .double
theorem n_S : ∀ a, a < 8 → ∀ b, b < 8 → a ≠ b → (T_S a).2.1 ≠ (T_S b).2.1 := by decide +kernel
theorem t_S_ok : ∀ k, k < 8 → parseFieldDescriptor (T_S k).2.2.1 = some (t_S k) := by decide +kernel
theorem in_S {c0 : Cond} : ∀ w ∈ u_ws "ListForge$Subscription" T_S 8, w ∈ c0 :: big := fun w h => List.mem_cons_of_mem _ ((show ∀ w ∈ u_ws "ListForge$Subscription" T_S 8, w ∈ big by decide +kernel) w h)
def T_F : u_T := fun k => match k with
  | 0 => ("ListForge", "lists", "[LListForge$MailingList;", true)
  | 1 => ("ListForge", "posts", "[LListForge$Post;", true)
  | 2 => ("ListForge", "outbox", "LListForge$Outbox;", true)
  | 3 => ("ListForge", "postCount", "I", false)
  | 4 => ("ListForge", "askedBefore", "I", false)
  | _ => ("ListForge", "today", "I", false)
def t_F : Nat → FieldType := fun k => match k with
  | 0 => .array (.object "ListForge$MailingList")
  | 1 => .array (.object "ListForge$Post")
  | 2 => .object "ListForge$Outbox"
  | 3 => .int
  | 4 => .int
  | _ => .int
theorem n_F : ∀ a, a < 6 → ∀ b, b < 6 → a ≠ b → (T_F a).2.1 ≠ (T_F b).2.1 := by decide +kernel
theorem t_F_ok : ∀ k, k < 6 → parseFieldDescriptor (T_F k).2.2.1 = some (t_F k) := by decide +kernel
theorem in_F {c0 : Cond} : ∀ w ∈ u_ws "ListForge" T_F 6, w ∈ c0 :: big := fun w h => List.mem_cons_of_mem _ ((show ∀ w ∈ u_ws "ListForge" T_F 6, w ∈ big by decide +kernel) w h)
/-- the classes whose objects the worlds hold -/
abbrev cls : List vw_C := [("ListForge$MailingList", T_L, 12), ("ListForge$Outbox", T_O, 6), ("ListForge$Post", T_P, 4), ("ListForge$Subscription", T_S, 8), ("ListForge", T_F, 6)]
/-- the class's world: what lies at each of its 96 places, out of a memory -/
def cE (ad : Nat → Nat) (ka : Nat → ClassId) (t : Mem) (i : Nat) : va_E :=
  if i = 0 then .inr (4, [.ref (ad 1), .ref (ad 2), .ref (ad 3), .int (gI t 30 0), .int (gI t 31 0), .int (gI t 32 0)])
  else if i = 1 then .inl (ka 2, 3, .inr (.inr (.inr (.inr (fun q => some (ad (8 + q)))))))
  else if i = 2 then .inl (ka 4, 40, .inr (.inr (.inr (.inr (fun q => some (ad (20 + q)))))))
  else if i = 3 then .inr (1, [.ref (ad 4), .ref (ad 5), .ref (ad 6), .ref (ad 7), .int (gI t 28 0), .int (gI t 29 0)])
  else if i < 8 then .inl (ka 0, 60, .inl (fun q => gI t (1000 + i) q))
  else if i < 11 then .inr (0, [.int (nI (i - 8)), .ref (ad (11 + (i - 8))), .ref (ad (14 + (i - 8))), .ref (ad (17 + (i - 8))), .int (gI t 10 (i - 8)), .int (gI t 11 (i - 8)), .int (gI t 12 (i - 8)), .int (gI t 13 (i - 8)), .double (gD t 1 (i - 8)), .int (gI t 14 (i - 8)), .int (gI t 15 (i - 8)), .int (gI t 16 (i - 8))])
  else if i < 14 then .inl (ka 3, 12, .inr (.inr (.inr (.inr (fun q => some (ad (60 + (12 * (i - 11) + q))))))))
  else if i < 17 then .inl (ka 1, 12, .inl (fun q => gI t (1000 + i) q))
  else if i < 20 then .inl (ka 1, 10, .inl (fun q => gI t (1000 + i) q))
  else if i < 60 then .inr (2, [.int (gI t 20 (i - 20)), .int (gI t 21 (i - 20)), .int (gI t 22 (i - 20)), .int (gI t 23 (i - 20))])
  else .inr (3, [.int (gI t 0 (i - 60)), .int (gI t 1 (i - 60)), .int (gI t 2 (i - 60)), .int (gI t 3 (i - 60)), .int (gI t 4 (i - 60)), .int (gI t 5 (i - 60)), .int (gI t 6 (i - 60)), .double (gD t 0 (i - 60))])
def cw (ad : Nat → Nat) (ka : Nat → ClassId) (t : Mem) : va_W := fw 96 ad (cE ad ka t)
abbrev cT (ka : Nat → ClassId) : List (ClassId × FieldType) := [(ka 0, .int), (ka 1, .boolean), (ka 2, .object "ListForge$MailingList"), (ka 3, .object "ListForge$Subscription"), (ka 4, .object "ListForge$Post")]
/-- which cells a method of the class may change -/
def AX (ad : Nat → Nat) (sz : Nat) : Nat → Prop := fun q => (∃ i, i < 96 ∧ q = ad i) ∨ sz ≤ q
theorem AX_D {ad : Nat → Nat} {ka : Nat → ClassId} {t : Mem} {A : Nat → Prop} {sz : Nat} (h : va_D A (cw ad ka t)) : va_D (AX ad sz) (cw ad ka t) := by
  refine ⟨h.1, fun k q hk => ?_⟩
  have hl := (List.getElem?_eq_some_iff.mp hk).1
  rw [cw, fw_len] at hl
  rw [cw, fw_at hl] at hk
  cases hk
  exact Or.inl ⟨k, hl, rfl⟩
theorem AX_up {ad : Nat → Nat} {a b : Nat} (h : a ≤ b) : ∀ q, AX ad b q → AX ad a q := fun _ hq => hq.elim Or.inl (fun z => Or.inr (Nat.le_trans h z))
theorem AX_new {ad : Nat → Nat} {sz : Nat} : ∀ q : Nat, sz ≤ q → AX ad sz q := fun _ h => Or.inr h
-- what lies where
theorem at_F {ad : Nat → Nat} {ka : Nat → ClassId} {t : Mem}  : (cw ad ka t)[0]? = some (ad (0), .inr (4, [.ref (ad 1), .ref (ad 2), .ref (ad 3), .int (gI t 30 0), .int (gI t 31 0), .int (gI t 32 0)])) := fw_at' (by omega) (by unfold cE; rw [if_pos rfl])
theorem at_lists {ad : Nat → Nat} {ka : Nat → ClassId} {t : Mem}  : (cw ad ka t)[1]? = some (ad (1), .inl (ka 2, 3, .inr (.inr (.inr (.inr (fun q => some (ad (8 + q)))))))) := fw_at' (by omega) (by unfold cE; rw [if_neg (by omega)]; rw [if_pos rfl])
theorem at_posts {ad : Nat → Nat} {ka : Nat → ClassId} {t : Mem}  : (cw ad ka t)[2]? = some (ad (2), .inl (ka 4, 40, .inr (.inr (.inr (.inr (fun q => some (ad (20 + q)))))))) := fw_at' (by omega) (by unfold cE; rw [if_neg (by omega)]; rw [if_neg (by omega)]; rw [if_pos rfl])
theorem at_O {ad : Nat → Nat} {ka : Nat → ClassId} {t : Mem}  : (cw ad ka t)[3]? = some (ad (3), .inr (1, [.ref (ad 4), .ref (ad 5), .ref (ad 6), .ref (ad 7), .int (gI t 28 0), .int (gI t 29 0)])) := fw_at' (by omega) (by unfold cE; rw [if_neg (by omega)]; rw [if_neg (by omega)]; rw [if_neg (by omega)]; rw [if_pos rfl])
theorem at_out {ad : Nat → Nat} {ka : Nat → ClassId} {t : Mem} {u : Nat} (hu : u < 4) : (cw ad ka t)[4 + u]? = some (ad (4 + u), .inl (ka 0, 60, .inl (fun q => gI t (1004 + u) q))) := fw_at' (by omega) (by unfold cE; rw [if_neg (by omega)]; rw [if_neg (by omega)]; rw [if_neg (by omega)]; rw [if_neg (by omega)]; rw [if_pos (by omega), show 1000 + (4 + u) = 1004 + u by omega])
theorem at_L {ad : Nat → Nat} {ka : Nat → ClassId} {t : Mem} {u : Nat} (hu : u < 3) : (cw ad ka t)[8 + u]? = some (ad (8 + u), .inr (0, [.int (nI u), .ref (ad (11 + u)), .ref (ad (14 + u)), .ref (ad (17 + u)), .int (gI t 10 u), .int (gI t 11 u), .int (gI t 12 u), .int (gI t 13 u), .double (gD t 1 u), .int (gI t 14 u), .int (gI t 15 u), .int (gI t 16 u)])) := fw_at' (by omega) (by unfold cE; rw [if_neg (by omega)]; rw [if_neg (by omega)]; rw [if_neg (by omega)]; rw [if_neg (by omega)]; rw [if_neg (by omega)]; rw [if_pos (by omega), show 8 + u - 8 = u by omega])
theorem at_subs {ad : Nat → Nat} {ka : Nat → ClassId} {t : Mem} {u : Nat} (hu : u < 3) : (cw ad ka t)[11 + u]? = some (ad (11 + u), .inl (ka 3, 12, .inr (.inr (.inr (.inr (fun q => some (ad (60 + (12 * u + q))))))))) := fw_at' (by omega) (by unfold cE; rw [if_neg (by omega)]; rw [if_neg (by omega)]; rw [if_neg (by omega)]; rw [if_neg (by omega)]; rw [if_neg (by omega)]; rw [if_neg (by omega)]; rw [if_pos (by omega), show 11 + u - 11 = u by omega])
theorem at_P {ad : Nat → Nat} {ka : Nat → ClassId} {t : Mem} {u : Nat} (hu : u < 40) : (cw ad ka t)[20 + u]? = some (ad (20 + u), .inr (2, [.int (gI t 20 u), .int (gI t 21 u), .int (gI t 22 u), .int (gI t 23 u)])) := fw_at' (by omega) (by unfold cE; rw [if_neg (by omega)]; rw [if_neg (by omega)]; rw [if_neg (by omega)]; rw [if_neg (by omega)]; rw [if_neg (by omega)]; rw [if_neg (by omega)]; rw [if_neg (by omega)]; rw [if_neg (by omega)]; rw [if_neg (by omega)]; rw [if_pos (by omega), show 20 + u - 20 = u by omega])
theorem at_ban {ad : Nat → Nat} {ka : Nat → ClassId} {t : Mem} {u : Nat} (hu : u < 3) : (cw ad ka t)[14 + u]? = some (ad (14 + u), .inl (ka 1, 12, .inl (fun q => gI t (1014 + u) q))) := fw_at' (by omega) (by unfold cE; rw [if_neg (by omega)]; rw [if_neg (by omega)]; rw [if_neg (by omega)]; rw [if_neg (by omega)]; rw [if_neg (by omega)]; rw [if_neg (by omega)]; rw [if_neg (by omega)]; rw [if_pos (by omega), show 1000 + (14 + u) = 1014 + u by omega])
theorem at_bar {ad : Nat → Nat} {ka : Nat → ClassId} {t : Mem} {u : Nat} (hu : u < 3) : (cw ad ka t)[17 + u]? = some (ad (17 + u), .inl (ka 1, 10, .inl (fun q => gI t (1017 + u) q))) := fw_at' (by omega) (by unfold cE; rw [if_neg (by omega)]; rw [if_neg (by omega)]; rw [if_neg (by omega)]; rw [if_neg (by omega)]; rw [if_neg (by omega)]; rw [if_neg (by omega)]; rw [if_neg (by omega)]; rw [if_neg (by omega)]; rw [if_pos (by omega), show 1000 + (17 + u) = 1017 + u by omega])
theorem at_S {ad : Nat → Nat} {ka : Nat → ClassId} {t : Mem} {u : Nat} (hu : u < 36) : (cw ad ka t)[60 + u]? = some (ad (60 + u), .inr (3, [.int (gI t 0 u), .int (gI t 1 u), .int (gI t 2 u), .int (gI t 3 u), .int (gI t 4 u), .int (gI t 5 u), .int (gI t 6 u), .double (gD t 0 u)])) := fw_at' (by omega) (by unfold cE; rw [if_neg (by omega)]; rw [if_neg (by omega)]; rw [if_neg (by omega)]; rw [if_neg (by omega)]; rw [if_neg (by omega)]; rw [if_neg (by omega)]; rw [if_neg (by omega)]; rw [if_neg (by omega)]; rw [if_neg (by omega)]; rw [if_neg (by omega)]; rw [show 60 + u - 60 = u by omega])
-- a write into a cell is a write into the memory
-- a write into a cell is a write into the memory
theorem s_F_postCount {ad : Nat → Nat} {ka : Nat → ClassId} {t : Mem} {v : Int32} : (cw ad ka t).set (0) (ad (0), .inr (4, ([.ref (ad 1), .ref (ad 2), .ref (ad 3), .int (gI t 30 0), .int (gI t 31 0), .int (gI t 32 0)] : List Value).set 3 (.int v))) = cw ad ka (pI t 30 0 v) := by
  refine fw_set _ ?_
  intro i hi
  by_cases h : i = 0
  · subst h
    rw [if_pos rfl]
    have h2 := fw_at' (N := 96) (ad := ad) (w := cE ad ka (pI t 30 0 v)) (k := 0) (by omega) rfl
    rw [show fw 96 ad (cE ad ka (pI t 30 0 v)) = cw ad ka (pI t 30 0 v) from rfl, at_F] at h2
    have h3 := (Prod.mk.inj (Option.some.inj h2)).2
    rw [← h3]
    simp [gI_pI, gI_pD, gD_pI, gD_pD]
  · rw [if_neg h]
    unfold cE
    simp [gI_pI, gI_pD, gD_pI, gD_pD, show ¬ (1000 + i = 30) by omega, h]
theorem s_F_askedBefore {ad : Nat → Nat} {ka : Nat → ClassId} {t : Mem} {v : Int32} : (cw ad ka t).set (0) (ad (0), .inr (4, ([.ref (ad 1), .ref (ad 2), .ref (ad 3), .int (gI t 30 0), .int (gI t 31 0), .int (gI t 32 0)] : List Value).set 4 (.int v))) = cw ad ka (pI t 31 0 v) := by
  refine fw_set _ ?_
  intro i hi
  by_cases h : i = 0
  · subst h
    rw [if_pos rfl]
    have h2 := fw_at' (N := 96) (ad := ad) (w := cE ad ka (pI t 31 0 v)) (k := 0) (by omega) rfl
    rw [show fw 96 ad (cE ad ka (pI t 31 0 v)) = cw ad ka (pI t 31 0 v) from rfl, at_F] at h2
    have h3 := (Prod.mk.inj (Option.some.inj h2)).2
    rw [← h3]
    simp [gI_pI, gI_pD, gD_pI, gD_pD]
  · rw [if_neg h]
    unfold cE
    simp [gI_pI, gI_pD, gD_pI, gD_pD, show ¬ (1000 + i = 31) by omega, h]
theorem s_F_today {ad : Nat → Nat} {ka : Nat → ClassId} {t : Mem} {v : Int32} : (cw ad ka t).set (0) (ad (0), .inr (4, ([.ref (ad 1), .ref (ad 2), .ref (ad 3), .int (gI t 30 0), .int (gI t 31 0), .int (gI t 32 0)] : List Value).set 5 (.int v))) = cw ad ka (pI t 32 0 v) := by
  refine fw_set _ ?_
  intro i hi
  by_cases h : i = 0
  · subst h
    rw [if_pos rfl]
    have h2 := fw_at' (N := 96) (ad := ad) (w := cE ad ka (pI t 32 0 v)) (k := 0) (by omega) rfl
    rw [show fw 96 ad (cE ad ka (pI t 32 0 v)) = cw ad ka (pI t 32 0 v) from rfl, at_F] at h2
    have h3 := (Prod.mk.inj (Option.some.inj h2)).2
    rw [← h3]
    simp [gI_pI, gI_pD, gD_pI, gD_pD]
  · rw [if_neg h]
    unfold cE
    simp [gI_pI, gI_pD, gD_pI, gD_pD, show ¬ (1000 + i = 32) by omega, h]
theorem s_O_kept {ad : Nat → Nat} {ka : Nat → ClassId} {t : Mem} {v : Int32} : (cw ad ka t).set (3) (ad (3), .inr (1, ([.ref (ad 4), .ref (ad 5), .ref (ad 6), .ref (ad 7), .int (gI t 28 0), .int (gI t 29 0)] : List Value).set 4 (.int v))) = cw ad ka (pI t 28 0 v) := by
  refine fw_set _ ?_
  intro i hi
  by_cases h : i = 3
  · subst h
    rw [if_pos rfl]
    have h2 := fw_at' (N := 96) (ad := ad) (w := cE ad ka (pI t 28 0 v)) (k := 3) (by omega) rfl
    rw [show fw 96 ad (cE ad ka (pI t 28 0 v)) = cw ad ka (pI t 28 0 v) from rfl, at_O] at h2
    have h3 := (Prod.mk.inj (Option.some.inj h2)).2
    rw [← h3]
    simp [gI_pI, gI_pD, gD_pI, gD_pD]
  · rw [if_neg h]
    unfold cE
    simp [gI_pI, gI_pD, gD_pI, gD_pD, show ¬ (1000 + i = 28) by omega, h]
theorem s_O_total {ad : Nat → Nat} {ka : Nat → ClassId} {t : Mem} {v : Int32} : (cw ad ka t).set (3) (ad (3), .inr (1, ([.ref (ad 4), .ref (ad 5), .ref (ad 6), .ref (ad 7), .int (gI t 28 0), .int (gI t 29 0)] : List Value).set 5 (.int v))) = cw ad ka (pI t 29 0 v) := by
  refine fw_set _ ?_
  intro i hi
  by_cases h : i = 3
  · subst h
    rw [if_pos rfl]
    have h2 := fw_at' (N := 96) (ad := ad) (w := cE ad ka (pI t 29 0 v)) (k := 3) (by omega) rfl
    rw [show fw 96 ad (cE ad ka (pI t 29 0 v)) = cw ad ka (pI t 29 0 v) from rfl, at_O] at h2
    have h3 := (Prod.mk.inj (Option.some.inj h2)).2
    rw [← h3]
    simp [gI_pI, gI_pD, gD_pI, gD_pD]
  · rw [if_neg h]
    unfold cE
    simp [gI_pI, gI_pD, gD_pI, gD_pD, show ¬ (1000 + i = 29) by omega, h]
theorem s_L_open {ad : Nat → Nat} {ka : Nat → ClassId} {t : Mem} {u : Nat} (hu : u < 3) {v : Int32} : (cw ad ka t).set (8 + u) (ad (8 + u), .inr (0, ([.int (nI u), .ref (ad (11 + u)), .ref (ad (14 + u)), .ref (ad (17 + u)), .int (gI t 10 u), .int (gI t 11 u), .int (gI t 12 u), .int (gI t 13 u), .double (gD t 1 u), .int (gI t 14 u), .int (gI t 15 u), .int (gI t 16 u)] : List Value).set 4 (.int v))) = cw ad ka (pI t 10 u v) := by
  refine fw_set _ ?_
  intro i hi
  by_cases h : i = 8 + u
  · subst h
    rw [if_pos rfl]
    have h2 := fw_at' (N := 96) (ad := ad) (w := cE ad ka (pI t 10 u v)) (k := 8 + u) (by omega) rfl
    rw [show fw 96 ad (cE ad ka (pI t 10 u v)) = cw ad ka (pI t 10 u v) from rfl, at_L hu] at h2
    have h3 := (Prod.mk.inj (Option.some.inj h2)).2
    rw [← h3]
    simp [gI_pI, gI_pD, gD_pI, gD_pD]
  · rw [if_neg h]
    unfold cE
    rcases (show i < 8 ∨ 11 ≤ i ∨ (8 ≤ i ∧ i < 11) by omega) with q | q | q
    · simp [gI_pI, gI_pD, gD_pI, gD_pD, show ¬ (1000 + i = 10) by omega, q]
    · simp [gI_pI, gI_pD, gD_pI, gD_pD, show ¬ (1000 + i = 10) by omega, show ¬ i < 11 by omega]
    · simp [gI_pI, gI_pD, gD_pI, gD_pD, show ¬ (1000 + i = 10) by omega, show ¬ (i - 8 = u) by omega]
theorem s_L_watched {ad : Nat → Nat} {ka : Nat → ClassId} {t : Mem} {u : Nat} (hu : u < 3) {v : Int32} : (cw ad ka t).set (8 + u) (ad (8 + u), .inr (0, ([.int (nI u), .ref (ad (11 + u)), .ref (ad (14 + u)), .ref (ad (17 + u)), .int (gI t 10 u), .int (gI t 11 u), .int (gI t 12 u), .int (gI t 13 u), .double (gD t 1 u), .int (gI t 14 u), .int (gI t 15 u), .int (gI t 16 u)] : List Value).set 5 (.int v))) = cw ad ka (pI t 11 u v) := by
  refine fw_set _ ?_
  intro i hi
  by_cases h : i = 8 + u
  · subst h
    rw [if_pos rfl]
    have h2 := fw_at' (N := 96) (ad := ad) (w := cE ad ka (pI t 11 u v)) (k := 8 + u) (by omega) rfl
    rw [show fw 96 ad (cE ad ka (pI t 11 u v)) = cw ad ka (pI t 11 u v) from rfl, at_L hu] at h2
    have h3 := (Prod.mk.inj (Option.some.inj h2)).2
    rw [← h3]
    simp [gI_pI, gI_pD, gD_pI, gD_pD]
  · rw [if_neg h]
    unfold cE
    rcases (show i < 8 ∨ 11 ≤ i ∨ (8 ≤ i ∧ i < 11) by omega) with q | q | q
    · simp [gI_pI, gI_pD, gD_pI, gD_pD, show ¬ (1000 + i = 11) by omega, q]
    · simp [gI_pI, gI_pD, gD_pI, gD_pD, show ¬ (1000 + i = 11) by omega, show ¬ i < 11 by omega]
    · simp [gI_pI, gI_pD, gD_pI, gD_pD, show ¬ (1000 + i = 11) by omega, show ¬ (i - 8 = u) by omega]
theorem s_L_greatest {ad : Nat → Nat} {ka : Nat → ClassId} {t : Mem} {u : Nat} (hu : u < 3) {v : Int32} : (cw ad ka t).set (8 + u) (ad (8 + u), .inr (0, ([.int (nI u), .ref (ad (11 + u)), .ref (ad (14 + u)), .ref (ad (17 + u)), .int (gI t 10 u), .int (gI t 11 u), .int (gI t 12 u), .int (gI t 13 u), .double (gD t 1 u), .int (gI t 14 u), .int (gI t 15 u), .int (gI t 16 u)] : List Value).set 6 (.int v))) = cw ad ka (pI t 12 u v) := by
  refine fw_set _ ?_
  intro i hi
  by_cases h : i = 8 + u
  · subst h
    rw [if_pos rfl]
    have h2 := fw_at' (N := 96) (ad := ad) (w := cE ad ka (pI t 12 u v)) (k := 8 + u) (by omega) rfl
    rw [show fw 96 ad (cE ad ka (pI t 12 u v)) = cw ad ka (pI t 12 u v) from rfl, at_L hu] at h2
    have h3 := (Prod.mk.inj (Option.some.inj h2)).2
    rw [← h3]
    simp [gI_pI, gI_pD, gD_pI, gD_pD]
  · rw [if_neg h]
    unfold cE
    rcases (show i < 8 ∨ 11 ≤ i ∨ (8 ≤ i ∧ i < 11) by omega) with q | q | q
    · simp [gI_pI, gI_pD, gD_pI, gD_pD, show ¬ (1000 + i = 12) by omega, q]
    · simp [gI_pI, gI_pD, gD_pI, gD_pD, show ¬ (1000 + i = 12) by omega, show ¬ i < 11 by omega]
    · simp [gI_pI, gI_pD, gD_pI, gD_pD, show ¬ (1000 + i = 12) by omega, show ¬ (i - 8 = u) by omega]
theorem s_L_full {ad : Nat → Nat} {ka : Nat → ClassId} {t : Mem} {u : Nat} (hu : u < 3) {v : Int32} : (cw ad ka t).set (8 + u) (ad (8 + u), .inr (0, ([.int (nI u), .ref (ad (11 + u)), .ref (ad (14 + u)), .ref (ad (17 + u)), .int (gI t 10 u), .int (gI t 11 u), .int (gI t 12 u), .int (gI t 13 u), .double (gD t 1 u), .int (gI t 14 u), .int (gI t 15 u), .int (gI t 16 u)] : List Value).set 7 (.int v))) = cw ad ka (pI t 13 u v) := by
  refine fw_set _ ?_
  intro i hi
  by_cases h : i = 8 + u
  · subst h
    rw [if_pos rfl]
    have h2 := fw_at' (N := 96) (ad := ad) (w := cE ad ka (pI t 13 u v)) (k := 8 + u) (by omega) rfl
    rw [show fw 96 ad (cE ad ka (pI t 13 u v)) = cw ad ka (pI t 13 u v) from rfl, at_L hu] at h2
    have h3 := (Prod.mk.inj (Option.some.inj h2)).2
    rw [← h3]
    simp [gI_pI, gI_pD, gD_pI, gD_pD]
  · rw [if_neg h]
    unfold cE
    rcases (show i < 8 ∨ 11 ≤ i ∨ (8 ≤ i ∧ i < 11) by omega) with q | q | q
    · simp [gI_pI, gI_pD, gD_pI, gD_pD, show ¬ (1000 + i = 13) by omega, q]
    · simp [gI_pI, gI_pD, gD_pI, gD_pD, show ¬ (1000 + i = 13) by omega, show ¬ i < 11 by omega]
    · simp [gI_pI, gI_pD, gD_pI, gD_pD, show ¬ (1000 + i = 13) by omega, show ¬ (i - 8 = u) by omega]
theorem s_L_best {ad : Nat → Nat} {ka : Nat → ClassId} {t : Mem} {u : Nat} (hu : u < 3) {v : UInt64} : (cw ad ka t).set (8 + u) (ad (8 + u), .inr (0, ([.int (nI u), .ref (ad (11 + u)), .ref (ad (14 + u)), .ref (ad (17 + u)), .int (gI t 10 u), .int (gI t 11 u), .int (gI t 12 u), .int (gI t 13 u), .double (gD t 1 u), .int (gI t 14 u), .int (gI t 15 u), .int (gI t 16 u)] : List Value).set 8 (.double v))) = cw ad ka (pD t 1 u v) := by
  refine fw_set _ ?_
  intro i hi
  by_cases h : i = 8 + u
  · subst h
    rw [if_pos rfl]
    have h2 := fw_at' (N := 96) (ad := ad) (w := cE ad ka (pD t 1 u v)) (k := 8 + u) (by omega) rfl
    rw [show fw 96 ad (cE ad ka (pD t 1 u v)) = cw ad ka (pD t 1 u v) from rfl, at_L hu] at h2
    have h3 := (Prod.mk.inj (Option.some.inj h2)).2
    rw [← h3]
    simp [gI_pI, gI_pD, gD_pI, gD_pD]
  · rw [if_neg h]
    unfold cE
    rcases (show i < 8 ∨ 11 ≤ i ∨ (8 ≤ i ∧ i < 11) by omega) with q | q | q
    · simp [gI_pI, gI_pD, gD_pI, gD_pD, show ¬ (1000 + i = 5000) by omega, q]
    · simp [gI_pI, gI_pD, gD_pI, gD_pD, show ¬ (1000 + i = 5000) by omega, show ¬ i < 11 by omega]
    · simp [gI_pI, gI_pD, gD_pI, gD_pD, show ¬ (1000 + i = 5000) by omega, show ¬ (i - 8 = u) by omega]
theorem s_L_bundlePosts {ad : Nat → Nat} {ka : Nat → ClassId} {t : Mem} {u : Nat} (hu : u < 3) {v : Int32} : (cw ad ka t).set (8 + u) (ad (8 + u), .inr (0, ([.int (nI u), .ref (ad (11 + u)), .ref (ad (14 + u)), .ref (ad (17 + u)), .int (gI t 10 u), .int (gI t 11 u), .int (gI t 12 u), .int (gI t 13 u), .double (gD t 1 u), .int (gI t 14 u), .int (gI t 15 u), .int (gI t 16 u)] : List Value).set 9 (.int v))) = cw ad ka (pI t 14 u v) := by
  refine fw_set _ ?_
  intro i hi
  by_cases h : i = 8 + u
  · subst h
    rw [if_pos rfl]
    have h2 := fw_at' (N := 96) (ad := ad) (w := cE ad ka (pI t 14 u v)) (k := 8 + u) (by omega) rfl
    rw [show fw 96 ad (cE ad ka (pI t 14 u v)) = cw ad ka (pI t 14 u v) from rfl, at_L hu] at h2
    have h3 := (Prod.mk.inj (Option.some.inj h2)).2
    rw [← h3]
    simp [gI_pI, gI_pD, gD_pI, gD_pD]
  · rw [if_neg h]
    unfold cE
    rcases (show i < 8 ∨ 11 ≤ i ∨ (8 ≤ i ∧ i < 11) by omega) with q | q | q
    · simp [gI_pI, gI_pD, gD_pI, gD_pD, show ¬ (1000 + i = 14) by omega, q]
    · simp [gI_pI, gI_pD, gD_pI, gD_pD, show ¬ (1000 + i = 14) by omega, show ¬ i < 11 by omega]
    · simp [gI_pI, gI_pD, gD_pI, gD_pD, show ¬ (1000 + i = 14) by omega, show ¬ (i - 8 = u) by omega]
theorem s_L_bundleSizes {ad : Nat → Nat} {ka : Nat → ClassId} {t : Mem} {u : Nat} (hu : u < 3) {v : Int32} : (cw ad ka t).set (8 + u) (ad (8 + u), .inr (0, ([.int (nI u), .ref (ad (11 + u)), .ref (ad (14 + u)), .ref (ad (17 + u)), .int (gI t 10 u), .int (gI t 11 u), .int (gI t 12 u), .int (gI t 13 u), .double (gD t 1 u), .int (gI t 14 u), .int (gI t 15 u), .int (gI t 16 u)] : List Value).set 10 (.int v))) = cw ad ka (pI t 15 u v) := by
  refine fw_set _ ?_
  intro i hi
  by_cases h : i = 8 + u
  · subst h
    rw [if_pos rfl]
    have h2 := fw_at' (N := 96) (ad := ad) (w := cE ad ka (pI t 15 u v)) (k := 8 + u) (by omega) rfl
    rw [show fw 96 ad (cE ad ka (pI t 15 u v)) = cw ad ka (pI t 15 u v) from rfl, at_L hu] at h2
    have h3 := (Prod.mk.inj (Option.some.inj h2)).2
    rw [← h3]
    simp [gI_pI, gI_pD, gD_pI, gD_pD]
  · rw [if_neg h]
    unfold cE
    rcases (show i < 8 ∨ 11 ≤ i ∨ (8 ≤ i ∧ i < 11) by omega) with q | q | q
    · simp [gI_pI, gI_pD, gD_pI, gD_pD, show ¬ (1000 + i = 15) by omega, q]
    · simp [gI_pI, gI_pD, gD_pI, gD_pD, show ¬ (1000 + i = 15) by omega, show ¬ i < 11 by omega]
    · simp [gI_pI, gI_pD, gD_pI, gD_pD, show ¬ (1000 + i = 15) by omega, show ¬ (i - 8 = u) by omega]
theorem s_L_bundleSince {ad : Nat → Nat} {ka : Nat → ClassId} {t : Mem} {u : Nat} (hu : u < 3) {v : Int32} : (cw ad ka t).set (8 + u) (ad (8 + u), .inr (0, ([.int (nI u), .ref (ad (11 + u)), .ref (ad (14 + u)), .ref (ad (17 + u)), .int (gI t 10 u), .int (gI t 11 u), .int (gI t 12 u), .int (gI t 13 u), .double (gD t 1 u), .int (gI t 14 u), .int (gI t 15 u), .int (gI t 16 u)] : List Value).set 11 (.int v))) = cw ad ka (pI t 16 u v) := by
  refine fw_set _ ?_
  intro i hi
  by_cases h : i = 8 + u
  · subst h
    rw [if_pos rfl]
    have h2 := fw_at' (N := 96) (ad := ad) (w := cE ad ka (pI t 16 u v)) (k := 8 + u) (by omega) rfl
    rw [show fw 96 ad (cE ad ka (pI t 16 u v)) = cw ad ka (pI t 16 u v) from rfl, at_L hu] at h2
    have h3 := (Prod.mk.inj (Option.some.inj h2)).2
    rw [← h3]
    simp [gI_pI, gI_pD, gD_pI, gD_pD]
  · rw [if_neg h]
    unfold cE
    rcases (show i < 8 ∨ 11 ≤ i ∨ (8 ≤ i ∧ i < 11) by omega) with q | q | q
    · simp [gI_pI, gI_pD, gD_pI, gD_pD, show ¬ (1000 + i = 16) by omega, q]
    · simp [gI_pI, gI_pD, gD_pI, gD_pD, show ¬ (1000 + i = 16) by omega, show ¬ i < 11 by omega]
    · simp [gI_pI, gI_pD, gD_pI, gD_pD, show ¬ (1000 + i = 16) by omega, show ¬ (i - 8 = u) by omega]
theorem s_P_list {ad : Nat → Nat} {ka : Nat → ClassId} {t : Mem} {u : Nat} (hu : u < 40) {v : Int32} : (cw ad ka t).set (20 + u) (ad (20 + u), .inr (2, ([.int (gI t 20 u), .int (gI t 21 u), .int (gI t 22 u), .int (gI t 23 u)] : List Value).set 0 (.int v))) = cw ad ka (pI t 20 u v) := by
  refine fw_set _ ?_
  intro i hi
  by_cases h : i = 20 + u
  · subst h
    rw [if_pos rfl]
    have h2 := fw_at' (N := 96) (ad := ad) (w := cE ad ka (pI t 20 u v)) (k := 20 + u) (by omega) rfl
    rw [show fw 96 ad (cE ad ka (pI t 20 u v)) = cw ad ka (pI t 20 u v) from rfl, at_P hu] at h2
    have h3 := (Prod.mk.inj (Option.some.inj h2)).2
    rw [← h3]
    simp [gI_pI, gI_pD, gD_pI, gD_pD]
  · rw [if_neg h]
    unfold cE
    rcases (show i < 20 ∨ 60 ≤ i ∨ (20 ≤ i ∧ i < 60) by omega) with q | q | q
    · simp [gI_pI, gI_pD, gD_pI, gD_pD, show ¬ (1000 + i = 20) by omega, q]
    · simp [gI_pI, gI_pD, gD_pI, gD_pD, show ¬ (1000 + i = 20) by omega, show ¬ i < 60 by omega]
    · simp [gI_pI, gI_pD, gD_pI, gD_pD, show ¬ (1000 + i = 20) by omega, show ¬ (i - 20 = u) by omega]
theorem s_P_sender {ad : Nat → Nat} {ka : Nat → ClassId} {t : Mem} {u : Nat} (hu : u < 40) {v : Int32} : (cw ad ka t).set (20 + u) (ad (20 + u), .inr (2, ([.int (gI t 20 u), .int (gI t 21 u), .int (gI t 22 u), .int (gI t 23 u)] : List Value).set 1 (.int v))) = cw ad ka (pI t 21 u v) := by
  refine fw_set _ ?_
  intro i hi
  by_cases h : i = 20 + u
  · subst h
    rw [if_pos rfl]
    have h2 := fw_at' (N := 96) (ad := ad) (w := cE ad ka (pI t 21 u v)) (k := 20 + u) (by omega) rfl
    rw [show fw 96 ad (cE ad ka (pI t 21 u v)) = cw ad ka (pI t 21 u v) from rfl, at_P hu] at h2
    have h3 := (Prod.mk.inj (Option.some.inj h2)).2
    rw [← h3]
    simp [gI_pI, gI_pD, gD_pI, gD_pD]
  · rw [if_neg h]
    unfold cE
    rcases (show i < 20 ∨ 60 ≤ i ∨ (20 ≤ i ∧ i < 60) by omega) with q | q | q
    · simp [gI_pI, gI_pD, gD_pI, gD_pD, show ¬ (1000 + i = 21) by omega, q]
    · simp [gI_pI, gI_pD, gD_pI, gD_pD, show ¬ (1000 + i = 21) by omega, show ¬ i < 60 by omega]
    · simp [gI_pI, gI_pD, gD_pI, gD_pD, show ¬ (1000 + i = 21) by omega, show ¬ (i - 20 = u) by omega]
theorem s_P_size {ad : Nat → Nat} {ka : Nat → ClassId} {t : Mem} {u : Nat} (hu : u < 40) {v : Int32} : (cw ad ka t).set (20 + u) (ad (20 + u), .inr (2, ([.int (gI t 20 u), .int (gI t 21 u), .int (gI t 22 u), .int (gI t 23 u)] : List Value).set 2 (.int v))) = cw ad ka (pI t 22 u v) := by
  refine fw_set _ ?_
  intro i hi
  by_cases h : i = 20 + u
  · subst h
    rw [if_pos rfl]
    have h2 := fw_at' (N := 96) (ad := ad) (w := cE ad ka (pI t 22 u v)) (k := 20 + u) (by omega) rfl
    rw [show fw 96 ad (cE ad ka (pI t 22 u v)) = cw ad ka (pI t 22 u v) from rfl, at_P hu] at h2
    have h3 := (Prod.mk.inj (Option.some.inj h2)).2
    rw [← h3]
    simp [gI_pI, gI_pD, gD_pI, gD_pD]
  · rw [if_neg h]
    unfold cE
    rcases (show i < 20 ∨ 60 ≤ i ∨ (20 ≤ i ∧ i < 60) by omega) with q | q | q
    · simp [gI_pI, gI_pD, gD_pI, gD_pD, show ¬ (1000 + i = 22) by omega, q]
    · simp [gI_pI, gI_pD, gD_pI, gD_pD, show ¬ (1000 + i = 22) by omega, show ¬ i < 60 by omega]
    · simp [gI_pI, gI_pD, gD_pI, gD_pD, show ¬ (1000 + i = 22) by omega, show ¬ (i - 20 = u) by omega]
theorem s_P_fate {ad : Nat → Nat} {ka : Nat → ClassId} {t : Mem} {u : Nat} (hu : u < 40) {v : Int32} : (cw ad ka t).set (20 + u) (ad (20 + u), .inr (2, ([.int (gI t 20 u), .int (gI t 21 u), .int (gI t 22 u), .int (gI t 23 u)] : List Value).set 3 (.int v))) = cw ad ka (pI t 23 u v) := by
  refine fw_set _ ?_
  intro i hi
  by_cases h : i = 20 + u
  · subst h
    rw [if_pos rfl]
    have h2 := fw_at' (N := 96) (ad := ad) (w := cE ad ka (pI t 23 u v)) (k := 20 + u) (by omega) rfl
    rw [show fw 96 ad (cE ad ka (pI t 23 u v)) = cw ad ka (pI t 23 u v) from rfl, at_P hu] at h2
    have h3 := (Prod.mk.inj (Option.some.inj h2)).2
    rw [← h3]
    simp [gI_pI, gI_pD, gD_pI, gD_pD]
  · rw [if_neg h]
    unfold cE
    rcases (show i < 20 ∨ 60 ≤ i ∨ (20 ≤ i ∧ i < 60) by omega) with q | q | q
    · simp [gI_pI, gI_pD, gD_pI, gD_pD, show ¬ (1000 + i = 23) by omega, q]
    · simp [gI_pI, gI_pD, gD_pI, gD_pD, show ¬ (1000 + i = 23) by omega, show ¬ i < 60 by omega]
    · simp [gI_pI, gI_pD, gD_pI, gD_pD, show ¬ (1000 + i = 23) by omega, show ¬ (i - 20 = u) by omega]
theorem s_S_state {ad : Nat → Nat} {ka : Nat → ClassId} {t : Mem} {u : Nat} (hu : u < 36) {v : Int32} : (cw ad ka t).set (60 + u) (ad (60 + u), .inr (3, ([.int (gI t 0 u), .int (gI t 1 u), .int (gI t 2 u), .int (gI t 3 u), .int (gI t 4 u), .int (gI t 5 u), .int (gI t 6 u), .double (gD t 0 u)] : List Value).set 0 (.int v))) = cw ad ka (pI t 0 u v) := by
  refine fw_set _ ?_
  intro i hi
  by_cases h : i = 60 + u
  · subst h
    rw [if_pos rfl]
    have h2 := fw_at' (N := 96) (ad := ad) (w := cE ad ka (pI t 0 u v)) (k := 60 + u) (by omega) rfl
    rw [show fw 96 ad (cE ad ka (pI t 0 u v)) = cw ad ka (pI t 0 u v) from rfl, at_S hu] at h2
    have h3 := (Prod.mk.inj (Option.some.inj h2)).2
    rw [← h3]
    simp [gI_pI, gI_pD, gD_pI, gD_pD]
  · rw [if_neg h]
    unfold cE
    rcases (show i < 60 ∨ 96 ≤ i ∨ (60 ≤ i ∧ i < 96) by omega) with q | q | q
    · simp [gI_pI, gI_pD, gD_pI, gD_pD, show ¬ (1000 + i = 0) by omega, q]
    · omega
    · simp [gI_pI, gI_pD, gD_pI, gD_pD, show ¬ (1000 + i = 0) by omega, show ¬ (i - 60 = u) by omega]
theorem s_S_way {ad : Nat → Nat} {ka : Nat → ClassId} {t : Mem} {u : Nat} (hu : u < 36) {v : Int32} : (cw ad ka t).set (60 + u) (ad (60 + u), .inr (3, ([.int (gI t 0 u), .int (gI t 1 u), .int (gI t 2 u), .int (gI t 3 u), .int (gI t 4 u), .int (gI t 5 u), .int (gI t 6 u), .double (gD t 0 u)] : List Value).set 1 (.int v))) = cw ad ka (pI t 1 u v) := by
  refine fw_set _ ?_
  intro i hi
  by_cases h : i = 60 + u
  · subst h
    rw [if_pos rfl]
    have h2 := fw_at' (N := 96) (ad := ad) (w := cE ad ka (pI t 1 u v)) (k := 60 + u) (by omega) rfl
    rw [show fw 96 ad (cE ad ka (pI t 1 u v)) = cw ad ka (pI t 1 u v) from rfl, at_S hu] at h2
    have h3 := (Prod.mk.inj (Option.some.inj h2)).2
    rw [← h3]
    simp [gI_pI, gI_pD, gD_pI, gD_pD]
  · rw [if_neg h]
    unfold cE
    rcases (show i < 60 ∨ 96 ≤ i ∨ (60 ≤ i ∧ i < 96) by omega) with q | q | q
    · simp [gI_pI, gI_pD, gD_pI, gD_pD, show ¬ (1000 + i = 1) by omega, q]
    · omega
    · simp [gI_pI, gI_pD, gD_pI, gD_pD, show ¬ (1000 + i = 1) by omega, show ¬ (i - 60 = u) by omega]
theorem s_S_code {ad : Nat → Nat} {ka : Nat → ClassId} {t : Mem} {u : Nat} (hu : u < 36) {v : Int32} : (cw ad ka t).set (60 + u) (ad (60 + u), .inr (3, ([.int (gI t 0 u), .int (gI t 1 u), .int (gI t 2 u), .int (gI t 3 u), .int (gI t 4 u), .int (gI t 5 u), .int (gI t 6 u), .double (gD t 0 u)] : List Value).set 2 (.int v))) = cw ad ka (pI t 2 u v) := by
  refine fw_set _ ?_
  intro i hi
  by_cases h : i = 60 + u
  · subst h
    rw [if_pos rfl]
    have h2 := fw_at' (N := 96) (ad := ad) (w := cE ad ka (pI t 2 u v)) (k := 60 + u) (by omega) rfl
    rw [show fw 96 ad (cE ad ka (pI t 2 u v)) = cw ad ka (pI t 2 u v) from rfl, at_S hu] at h2
    have h3 := (Prod.mk.inj (Option.some.inj h2)).2
    rw [← h3]
    simp [gI_pI, gI_pD, gD_pI, gD_pD]
  · rw [if_neg h]
    unfold cE
    rcases (show i < 60 ∨ 96 ≤ i ∨ (60 ≤ i ∧ i < 96) by omega) with q | q | q
    · simp [gI_pI, gI_pD, gD_pI, gD_pD, show ¬ (1000 + i = 2) by omega, q]
    · omega
    · simp [gI_pI, gI_pD, gD_pI, gD_pD, show ¬ (1000 + i = 2) by omega, show ¬ (i - 60 = u) by omega]
theorem s_S_since {ad : Nat → Nat} {ka : Nat → ClassId} {t : Mem} {u : Nat} (hu : u < 36) {v : Int32} : (cw ad ka t).set (60 + u) (ad (60 + u), .inr (3, ([.int (gI t 0 u), .int (gI t 1 u), .int (gI t 2 u), .int (gI t 3 u), .int (gI t 4 u), .int (gI t 5 u), .int (gI t 6 u), .double (gD t 0 u)] : List Value).set 3 (.int v))) = cw ad ka (pI t 3 u v) := by
  refine fw_set _ ?_
  intro i hi
  by_cases h : i = 60 + u
  · subst h
    rw [if_pos rfl]
    have h2 := fw_at' (N := 96) (ad := ad) (w := cE ad ka (pI t 3 u v)) (k := 60 + u) (by omega) rfl
    rw [show fw 96 ad (cE ad ka (pI t 3 u v)) = cw ad ka (pI t 3 u v) from rfl, at_S hu] at h2
    have h3 := (Prod.mk.inj (Option.some.inj h2)).2
    rw [← h3]
    simp [gI_pI, gI_pD, gD_pI, gD_pD]
  · rw [if_neg h]
    unfold cE
    rcases (show i < 60 ∨ 96 ≤ i ∨ (60 ≤ i ∧ i < 96) by omega) with q | q | q
    · simp [gI_pI, gI_pD, gD_pI, gD_pD, show ¬ (1000 + i = 3) by omega, q]
    · omega
    · simp [gI_pI, gI_pD, gD_pI, gD_pD, show ¬ (1000 + i = 3) by omega, show ¬ (i - 60 = u) by omega]
theorem s_S_warning {ad : Nat → Nat} {ka : Nat → ClassId} {t : Mem} {u : Nat} (hu : u < 36) {v : Int32} : (cw ad ka t).set (60 + u) (ad (60 + u), .inr (3, ([.int (gI t 0 u), .int (gI t 1 u), .int (gI t 2 u), .int (gI t 3 u), .int (gI t 4 u), .int (gI t 5 u), .int (gI t 6 u), .double (gD t 0 u)] : List Value).set 4 (.int v))) = cw ad ka (pI t 4 u v) := by
  refine fw_set _ ?_
  intro i hi
  by_cases h : i = 60 + u
  · subst h
    rw [if_pos rfl]
    have h2 := fw_at' (N := 96) (ad := ad) (w := cE ad ka (pI t 4 u v)) (k := 60 + u) (by omega) rfl
    rw [show fw 96 ad (cE ad ka (pI t 4 u v)) = cw ad ka (pI t 4 u v) from rfl, at_S hu] at h2
    have h3 := (Prod.mk.inj (Option.some.inj h2)).2
    rw [← h3]
    simp [gI_pI, gI_pD, gD_pI, gD_pD]
  · rw [if_neg h]
    unfold cE
    rcases (show i < 60 ∨ 96 ≤ i ∨ (60 ≤ i ∧ i < 96) by omega) with q | q | q
    · simp [gI_pI, gI_pD, gD_pI, gD_pD, show ¬ (1000 + i = 4) by omega, q]
    · omega
    · simp [gI_pI, gI_pD, gD_pI, gD_pD, show ¬ (1000 + i = 4) by omega, show ¬ (i - 60 = u) by omega]
theorem s_S_bounceDay {ad : Nat → Nat} {ka : Nat → ClassId} {t : Mem} {u : Nat} (hu : u < 36) {v : Int32} : (cw ad ka t).set (60 + u) (ad (60 + u), .inr (3, ([.int (gI t 0 u), .int (gI t 1 u), .int (gI t 2 u), .int (gI t 3 u), .int (gI t 4 u), .int (gI t 5 u), .int (gI t 6 u), .double (gD t 0 u)] : List Value).set 5 (.int v))) = cw ad ka (pI t 5 u v) := by
  refine fw_set _ ?_
  intro i hi
  by_cases h : i = 60 + u
  · subst h
    rw [if_pos rfl]
    have h2 := fw_at' (N := 96) (ad := ad) (w := cE ad ka (pI t 5 u v)) (k := 60 + u) (by omega) rfl
    rw [show fw 96 ad (cE ad ka (pI t 5 u v)) = cw ad ka (pI t 5 u v) from rfl, at_S hu] at h2
    have h3 := (Prod.mk.inj (Option.some.inj h2)).2
    rw [← h3]
    simp [gI_pI, gI_pD, gD_pI, gD_pD]
  · rw [if_neg h]
    unfold cE
    rcases (show i < 60 ∨ 96 ≤ i ∨ (60 ≤ i ∧ i < 96) by omega) with q | q | q
    · simp [gI_pI, gI_pD, gD_pI, gD_pD, show ¬ (1000 + i = 5) by omega, q]
    · omega
    · simp [gI_pI, gI_pD, gD_pI, gD_pD, show ¬ (1000 + i = 5) by omega, show ¬ (i - 60 = u) by omega]
theorem s_S_moderates {ad : Nat → Nat} {ka : Nat → ClassId} {t : Mem} {u : Nat} (hu : u < 36) {v : Int32} : (cw ad ka t).set (60 + u) (ad (60 + u), .inr (3, ([.int (gI t 0 u), .int (gI t 1 u), .int (gI t 2 u), .int (gI t 3 u), .int (gI t 4 u), .int (gI t 5 u), .int (gI t 6 u), .double (gD t 0 u)] : List Value).set 6 (.int v))) = cw ad ka (pI t 6 u v) := by
  refine fw_set _ ?_
  intro i hi
  by_cases h : i = 60 + u
  · subst h
    rw [if_pos rfl]
    have h2 := fw_at' (N := 96) (ad := ad) (w := cE ad ka (pI t 6 u v)) (k := 60 + u) (by omega) rfl
    rw [show fw 96 ad (cE ad ka (pI t 6 u v)) = cw ad ka (pI t 6 u v) from rfl, at_S hu] at h2
    have h3 := (Prod.mk.inj (Option.some.inj h2)).2
    rw [← h3]
    simp [gI_pI, gI_pD, gD_pI, gD_pD]
  · rw [if_neg h]
    unfold cE
    rcases (show i < 60 ∨ 96 ≤ i ∨ (60 ≤ i ∧ i < 96) by omega) with q | q | q
    · simp [gI_pI, gI_pD, gD_pI, gD_pD, show ¬ (1000 + i = 6) by omega, q]
    · omega
    · simp [gI_pI, gI_pD, gD_pI, gD_pD, show ¬ (1000 + i = 6) by omega, show ¬ (i - 60 = u) by omega]
theorem s_S_score {ad : Nat → Nat} {ka : Nat → ClassId} {t : Mem} {u : Nat} (hu : u < 36) {v : UInt64} : (cw ad ka t).set (60 + u) (ad (60 + u), .inr (3, ([.int (gI t 0 u), .int (gI t 1 u), .int (gI t 2 u), .int (gI t 3 u), .int (gI t 4 u), .int (gI t 5 u), .int (gI t 6 u), .double (gD t 0 u)] : List Value).set 7 (.double v))) = cw ad ka (pD t 0 u v) := by
  refine fw_set _ ?_
  intro i hi
  by_cases h : i = 60 + u
  · subst h
    rw [if_pos rfl]
    have h2 := fw_at' (N := 96) (ad := ad) (w := cE ad ka (pD t 0 u v)) (k := 60 + u) (by omega) rfl
    rw [show fw 96 ad (cE ad ka (pD t 0 u v)) = cw ad ka (pD t 0 u v) from rfl, at_S hu] at h2
    have h3 := (Prod.mk.inj (Option.some.inj h2)).2
    rw [← h3]
    simp [gI_pI, gI_pD, gD_pI, gD_pD]
  · rw [if_neg h]
    unfold cE
    rcases (show i < 60 ∨ 96 ≤ i ∨ (60 ≤ i ∧ i < 96) by omega) with q | q | q
    · simp [gI_pI, gI_pD, gD_pI, gD_pD, show ¬ (1000 + i = 5000) by omega, q]
    · omega
    · simp [gI_pI, gI_pD, gD_pI, gD_pD, show ¬ (1000 + i = 5000) by omega, show ¬ (i - 60 = u) by omega]
theorem s_out {ad : Nat → Nat} {ka : Nat → ClassId} {t : Mem} {u r : Nat} (hu : u < 4) {v : Int32} : (cw ad ka t).set (4 + u) (ad (4 + u), .inl (ka 0, 60, .inl (upd (fun q => gI t (1004 + u) q) r v))) = cw ad ka (pI t (1004 + u) r v) := by
  refine fw_set _ ?_
  intro i hi
  by_cases h : i = 4 + u
  · subst h
    rw [if_pos rfl]
    have h2 := fw_at' (N := 96) (ad := ad) (w := cE ad ka (pI t (1004 + u) r v)) (k := 4 + u) (by omega) rfl
    rw [show fw 96 ad (cE ad ka (pI t (1004 + u) r v)) = cw ad ka (pI t (1004 + u) r v) from rfl, at_out hu] at h2
    have h3 := (Prod.mk.inj (Option.some.inj h2)).2
    rw [← h3]
    rw [show (fun q => gI (pI t (1004 + u) r v) (1004 + u) q) = upd (fun q => gI t (1004 + u) q) r v from by funext q; simp [gI_pI, upd]]
  · rw [if_neg h]
    have hn : ∀ k, k < 1000 → (k = 1004 + u ↔ False) := fun k hk => ⟨fun z => by omega, False.elim⟩
    unfold cE
    rcases (show i < 4 ∨ 8 ≤ i ∨ (4 ≤ i ∧ i < 8) by omega) with q | q | q
    · simp [gI_pI, gI_pD, gD_pI, gD_pD, hn, q, show ¬ (1000 + i = 1004 + u) by omega]
    · simp [gI_pI, gI_pD, gD_pI, gD_pD, hn, show ¬ i < 8 by omega, show ¬ (1000 + i = 1004 + u) by omega]
    · simp [gI_pI, gI_pD, gD_pI, gD_pD, hn, show ¬ (1000 + i = 1004 + u) by omega]
theorem s_ban {ad : Nat → Nat} {ka : Nat → ClassId} {t : Mem} {u r : Nat} (hu : u < 3) {v : Int32} : (cw ad ka t).set (14 + u) (ad (14 + u), .inl (ka 1, 12, .inl (upd (fun q => gI t (1014 + u) q) r v))) = cw ad ka (pI t (1014 + u) r v) := by
  refine fw_set _ ?_
  intro i hi
  by_cases h : i = 14 + u
  · subst h
    rw [if_pos rfl]
    have h2 := fw_at' (N := 96) (ad := ad) (w := cE ad ka (pI t (1014 + u) r v)) (k := 14 + u) (by omega) rfl
    rw [show fw 96 ad (cE ad ka (pI t (1014 + u) r v)) = cw ad ka (pI t (1014 + u) r v) from rfl, at_ban hu] at h2
    have h3 := (Prod.mk.inj (Option.some.inj h2)).2
    rw [← h3]
    rw [show (fun q => gI (pI t (1014 + u) r v) (1014 + u) q) = upd (fun q => gI t (1014 + u) q) r v from by funext q; simp [gI_pI, upd]]
  · rw [if_neg h]
    have hn : ∀ k, k < 1000 → (k = 1014 + u ↔ False) := fun k hk => ⟨fun z => by omega, False.elim⟩
    unfold cE
    rcases (show i < 14 ∨ 17 ≤ i ∨ (14 ≤ i ∧ i < 17) by omega) with q | q | q
    · simp [gI_pI, gI_pD, gD_pI, gD_pD, hn, q, show ¬ (1000 + i = 1014 + u) by omega]
    · simp [gI_pI, gI_pD, gD_pI, gD_pD, hn, show ¬ i < 17 by omega, show ¬ (1000 + i = 1014 + u) by omega]
    · simp [gI_pI, gI_pD, gD_pI, gD_pD, hn, show ¬ (1000 + i = 1014 + u) by omega]
theorem s_bar {ad : Nat → Nat} {ka : Nat → ClassId} {t : Mem} {u r : Nat} (hu : u < 3) {v : Int32} : (cw ad ka t).set (17 + u) (ad (17 + u), .inl (ka 1, 10, .inl (upd (fun q => gI t (1017 + u) q) r v))) = cw ad ka (pI t (1017 + u) r v) := by
  refine fw_set _ ?_
  intro i hi
  by_cases h : i = 17 + u
  · subst h
    rw [if_pos rfl]
    have h2 := fw_at' (N := 96) (ad := ad) (w := cE ad ka (pI t (1017 + u) r v)) (k := 17 + u) (by omega) rfl
    rw [show fw 96 ad (cE ad ka (pI t (1017 + u) r v)) = cw ad ka (pI t (1017 + u) r v) from rfl, at_bar hu] at h2
    have h3 := (Prod.mk.inj (Option.some.inj h2)).2
    rw [← h3]
    rw [show (fun q => gI (pI t (1017 + u) r v) (1017 + u) q) = upd (fun q => gI t (1017 + u) q) r v from by funext q; simp [gI_pI, upd]]
  · rw [if_neg h]
    have hn : ∀ k, k < 1000 → (k = 1017 + u ↔ False) := fun k hk => ⟨fun z => by omega, False.elim⟩
    unfold cE
    rcases (show i < 17 ∨ 20 ≤ i ∨ (17 ≤ i ∧ i < 20) by omega) with q | q | q
    · simp [gI_pI, gI_pD, gD_pI, gD_pD, hn, q, show ¬ (1000 + i = 1017 + u) by omega]
    · simp [gI_pI, gI_pD, gD_pI, gD_pD, hn, show ¬ i < 20 by omega, show ¬ (1000 + i = 1017 + u) by omega]
    · simp [gI_pI, gI_pD, gD_pI, gD_pD, hn, show ¬ (1000 + i = 1017 + u) by omega]
