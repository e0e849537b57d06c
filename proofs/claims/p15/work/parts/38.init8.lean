theorem at_arr {D : va_G} {cl : List vw_C} {a : Nat} {cA : ClassId} {n : Nat} {f g : Nat → Option Nat} {H : Heap} (h : ∀ j, j < n → f j = g j) (hf : va_at D cl (a, .inl (cA, n, .inr (.inr (.inr (.inr f))))) H) : va_at D cl (a, .inl (cA, n, .inr (.inr (.inr (.inr g))))) H := by
  have hf : H[a]? = some (arrV cA n (fun j => va_rf (f j))) := hf
  show H[a]? = some (arrV cA n (fun j => va_rf (g j)))
  have e : arrV cA n (fun j => va_rf (f j)) = arrV cA n (fun j => va_rf (g j)) := by
    have e2 : (fun j : Fin n => va_rf (f j.val)) = fun j : Fin n => va_rf (g j.val) := by
      funext j
      rw [h j.val j.isLt]
    simp only [arrV]
    rw [e2]
  rw [hf, e]
/-- the class's first memory -/
def t0 : Mem := (fun k _ => if k = 0 then -1 else if k = 12 then 100 else if k = 13 then 200 else 0, fun k _ => if k = 1 then 4613937818241073152 else 0)
def adF (h0 ql qp qo q0 q1 q2 q3 : Nat) (B : BK) (a : Nat → Nat) (i : Nat) : Nat :=
  if i = 0 then h0 else if i = 1 then ql else if i = 2 then qp else if i = 3 then qo else if i = 4 then q0 else if i = 5 then q1 else if i = 6 then q2 else if i = 7 then q3
  else if i < 11 then B.hL (i - 8) else if i < 14 then B.qa (i - 11) else if i < 17 then B.qb (i - 14) else if i < 20 then B.qc (i - 17) else if i < 60 then a (i - 20) else B.a ((i - 60) / 12) ((i - 60) % 12)
def wE (ad : Nat → Nat) (ka : Nat → ClassId) (B : BK) (a : Nat → Nat) (i : Nat) : va_E :=
  if i = 1 then lE ka B.hL 3 else if i = 2 then pE ka a 40 else if i = 11 then sE ka (B.a 0) 12 else if i = 12 then sE ka (B.a 1) 12 else if i = 13 then sE ka (B.a 2) 12 else cE ad ka t0 i
def isF : List Nat := [0, 1, 50, 91, 92, 93, 94, 95, 2, 18, 34, 3, 19, 35, 16, 32, 48, 17, 33, 49, 51, 52, 53, 54, 55, 56, 57, 58, 59, 60, 61, 62, 63, 64, 65, 66, 67, 68, 69, 70, 71, 72, 73, 74, 75, 76, 77, 78, 79, 80, 81, 82, 83, 84, 85, 86, 87, 88, 89, 90, 4, 5, 6, 7, 8, 9, 10, 11, 12, 13, 14, 15, 20, 21, 22, 23, 24, 25, 26, 27, 28, 29, 30, 31, 36, 37, 38, 39, 40, 41, 42, 43, 44, 45, 46, 47]
set_option maxHeartbeats 4000000 in
set_option maxRecDepth 100000 in
theorem isF_map {ka : Nat → ClassId} {h0 ql qp qo q0 q1 q2 q3 : Nat} {B : BK} {a : Nat → Nat} : isF.map (fun i => (((h0, .inr (4, [.ref ql, .ref qp, .ref qo, .int 0, .int 0, .int 0])) :: vF ka ql qp qo q0 q1 q2 q3 B a) : va_W)[i]?) = (fw 96 (adF h0 ql qp qo q0 q1 q2 q3 B a) (wE (adF h0 ql qp qo q0 q1 q2 q3 B a) ka B a)).map some := rfl
theorem va_P.isub {D : va_G} {cl : List vw_C} {ws ws' : va_W} {H : Heap} (h : va_P D cl ws H) (is : List Nat) (hs : is.map (fun i => ws[i]?) = ws'.map some) : va_P D cl ws' H := by
  intro k q hk
  have h1 : (is.map (fun i => ws[i]?))[k]? = some (some q) := by rw [hs, List.getElem?_map, hk]; rfl
  rw [List.getElem?_map] at h1
  cases hi : is[k]? with
  | none => rw [hi] at h1; cases h1
  | some i =>
    rw [hi] at h1
    exact h i q (Option.some.inj h1)
set_option maxHeartbeats 4000000 in
set_option maxRecDepth 100000 in
theorem cw_of {D : va_G} {A : Nat → Prop} {H : Heap} {ka : Nat → ClassId} {h0 ql qp qo q0 q1 q2 q3 : Nat} {B : BK} {a : Nat → Nat} (hP : va_P D cls ((h0, .inr (4, [.ref ql, .ref qp, .ref qo, .int 0, .int 0, .int 0])) :: vF ka ql qp qo q0 q1 q2 q3 B a) H) (hD : va_D A ((h0, .inr (4, [.ref ql, .ref qp, .ref qo, .int 0, .int 0, .int 0])) :: vF ka ql qp qo q0 q1 q2 q3 B a)) : va_P D cls (cw (adF h0 ql qp qo q0 q1 q2 q3 B a) ka t0) H ∧ va_D A (cw (adF h0 ql qp qo q0 q1 q2 q3 B a) ka t0) := by
  have h1 := va_P.isub hP isF isF_map
  have h2 := hD.sub isF (by decide +kernel) isF_map
  generalize hE : adF h0 ql qp qo q0 q1 q2 q3 B a = ad at h1 h2 ⊢
  have e8 : ∀ j, j < 3 → ad (8 + j) = B.hL j := fun j hj => by
    rw [← hE]
    rcases (show j = 0 ∨ j = 1 ∨ j = 2 by omega) with rfl | rfl | rfl <;> rfl
  have e20 : ∀ j, j < 40 → ad (20 + j) = a j := fun j hj => by
    rw [← hE]
    unfold adF
    rw [if_neg (by omega), if_neg (by omega), if_neg (by omega), if_neg (by omega), if_neg (by omega), if_neg (by omega), if_neg (by omega), if_neg (by omega), if_neg (by omega), if_neg (by omega), if_neg (by omega), if_neg (by omega), if_pos (by omega), show 20 + j - 20 = j by omega]
  have e60 : ∀ v, v < 3 → ∀ j, j < 12 → ad (60 + (12 * v + j)) = B.a v j := fun v hv j hj => by
    rw [← hE]
    unfold adF
    rw [if_neg (by omega), if_neg (by omega), if_neg (by omega), if_neg (by omega), if_neg (by omega), if_neg (by omega), if_neg (by omega), if_neg (by omega), if_neg (by omega), if_neg (by omega), if_neg (by omega), if_neg (by omega), if_neg (by omega), show (60 + (12 * v + j) - 60) / 12 = v by omega, show (60 + (12 * v + j) - 60) % 12 = j by omega]
  constructor
  · intro k q hk
    have hl := (List.getElem?_eq_some_iff.mp hk).1
    rw [cw, fw_len] at hl
    rw [cw, fw_at hl] at hk
    cases hk
    have h3 := h1 k _ (fw_at hl)
    by_cases k1 : k = 1
    · subst k1
      exact at_arr (f := fun i => if i < 3 then some (B.hL i) else none) (g := fun q => some (ad (8 + q))) (fun j hj => by show (if j < 3 then some (B.hL j) else none) = some (ad (8 + j)); rw [if_pos hj, e8 j hj]) h3
    · by_cases k2 : k = 2
      · subst k2
        exact at_arr (f := fun i => if i < 40 then some (a i) else none) (g := fun q => some (ad (20 + q))) (fun j hj => by show (if j < 40 then some (a j) else none) = some (ad (20 + j)); rw [if_pos hj, e20 j hj]) h3
      · by_cases k11 : k = 11
        · subst k11
          exact at_arr (f := fun i => if i < 12 then some (B.a 0 i) else none) (g := fun q => some (ad (60 + (12 * 0 + q)))) (fun j hj => by show (if j < 12 then some (B.a 0 j) else none) = some (ad (60 + (12 * 0 + j))); rw [if_pos hj, e60 0 (by omega) j hj]) h3
        · by_cases k12 : k = 12
          · subst k12
            exact at_arr (f := fun i => if i < 12 then some (B.a 1 i) else none) (g := fun q => some (ad (60 + (12 * 1 + q)))) (fun j hj => by show (if j < 12 then some (B.a 1 j) else none) = some (ad (60 + (12 * 1 + j))); rw [if_pos hj, e60 1 (by omega) j hj]) h3
          · by_cases k13 : k = 13
            · subst k13
              exact at_arr (f := fun i => if i < 12 then some (B.a 2 i) else none) (g := fun q => some (ad (60 + (12 * 2 + q)))) (fun j hj => by show (if j < 12 then some (B.a 2 j) else none) = some (ad (60 + (12 * 2 + j))); rw [if_pos hj, e60 2 (by omega) j hj]) h3
            · unfold wE at h3
              rw [if_neg k1, if_neg k2, if_neg k11, if_neg k12, if_neg k13] at h3
              exact h3
  · refine ⟨fun i j p q hi hj e => ?_, fun k q hk => ?_⟩
    · have li := (List.getElem?_eq_some_iff.mp hi).1
      have lj := (List.getElem?_eq_some_iff.mp hj).1
      rw [cw, fw_len] at li lj
      rw [cw, fw_at li] at hi
      rw [cw, fw_at lj] at hj
      cases hi
      cases hj
      exact h2.1 i j _ _ (fw_at li) (fw_at lj) e
    · have hl := (List.getElem?_eq_some_iff.mp hk).1
      rw [cw, fw_len] at hl
      rw [cw, fw_at hl] at hk
      cases hk
      exact h2.2 k (ad k, wE ad ka B a k) (fw_at hl)
