/-! the first memories -/
theorem t0_hi {k j : Nat} (h : 14 ≤ k) : gI t0 k j = 0 := by
  show (if k = 0 then (-1 : Int32) else if k = 12 then 100 else if k = 13 then 200 else 0) = 0
  rw [if_neg (by omega), if_neg (by omega), if_neg (by omega)]
theorem OKX_0 : OKX t0 := ⟨fun _ => Or.inl rfl, fun _ => Or.inl rfl, fun _ => Or.inl rfl, fun k j hk => Or.inl (t0_hi (by omega)), ⟨0, by omega, rfl⟩, ⟨0, by omega, rfl⟩, fun _ => ⟨0, by omega, rfl⟩, fun _ => NN_0⟩
theorem u0_state {j : Nat} (h : j < 36) : gI (u0j 36) 1001 j = -1 := by
  show (if j < 36 then (-1 : Int32) else 0) = -1
  rw [if_pos h]
theorem REL_0 : REL t0 (u0j 36) := by
  refine ⟨fun j hj => ?_, fun l hl => ?_, fun p hp => ⟨rfl, rfl, rfl, rfl⟩, rfl, rfl, rfl⟩
  · refine ⟨(u0_state hj).symm, rfl, rfl, rfl, rfl, rfl, Or.inl rfl, fun q => absurd rfl q, fun _ => rfl, fun q => absurd (show (-1 : Int32) = 2 from q) (by decide), fun q => ?_⟩
    rcases q with q | q
    · exact absurd (show (-1 : Int32) = 0 from q) (by decide)
    · exact absurd (show (-1 : Int32) = 1 from q) (by decide)
  · refine ⟨rfl, rfl, ?_, ?_, ?_, fun a ha => ?_, fun r hr => ?_⟩
    · rcases (show l = 0 ∨ l = 1 ∨ l = 2 by omega) with rfl | rfl | rfl <;> rfl
    · rcases (show l = 0 ∨ l = 1 ∨ l = 2 by omega) with rfl | rfl | rfl <;> rfl
    · rcases (show l = 0 ∨ l = 1 ∨ l = 2 by omega) with rfl | rfl | rfl <;> rfl
    · rw [t0_hi (by omega)]; rfl
    · rw [t0_hi (by omega)]; rfl
theorem ASK_0 : ASK 0 36 t0 := ⟨rfl, fun j _ h => absurd (show (-1 : Int32) = 0 from h) (by decide)⟩
theorem MOK_0 : MOK (u0j 36) := ⟨0, 0, by omega, ⟨⟨0, by omega, rfl⟩, fun _ => NN_0⟩, by omega, rfl, fun _ => ⟨0, by omega, rfl⟩, fun r hr => absurd hr (by omega), fun _ v _ => ⟨0, by omega, rfl⟩, fun v _ => ⟨0, by omega, rfl⟩, fun _ => Or.inl rfl, fun _ => Or.inl rfl⟩
