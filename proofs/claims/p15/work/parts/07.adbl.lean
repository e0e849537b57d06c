/-! doubles that are no NaN -/
/-- no NaN, and its sign is + -/
def NN (x : UInt64) : Prop := (∃ c q, FP.Core.val64 x = FP.Core.Datum.fin false c q) ∨ FP.Core.val64 x = FP.Core.Datum.inf false
theorem nan_of {x : UInt64} (h1 : FP.Core.val64 x ≠ FP.Core.Datum.nan) : vf_n64 x := by
  have h2 := (FP.Core.ne_nan x).mp h1
  unfold vf_n64
  rw [UInt64.le_iff_toNat_le, UInt64.toNat_and]
  have e : x.toNat &&& (0x7fffffffffffffff : UInt64).toNat = x.toNat % 2 ^ 63 := Nat.and_two_pow_sub_one_eq_mod x.toNat 63
  rw [e]
  exact h2
theorem NN_nan {x : UInt64} (h : NN x) : vf_n64 x := nan_of (by rcases h with ⟨c, q, h⟩ | h <;> rw [h] <;> exact FP.Core.Datum.noConfusion)
theorem NN_round {s : Bool} {c : Nat} {q : Int} {x : UInt64} (hs : s = false) (h : FP.Core.val64 x = FP.Core.round FP.Core.b64 (FP.Core.Datum.fin s c q)) : NN x := by
  subst hs
  unfold NN
  rw [h]
  exact FP.Core.roundRatio_cases FP.Core.b64 false c 1 q
theorem NN_mul {x k : UInt64} {c : Nat} {q : Int} (hx : NN x) (hk : FP.Core.val64 k = FP.Core.Datum.fin false (c + 1) q) : NN (FP.dmul x k) := by
  have h := FP.Core.val64_dmul x k
  rw [hk] at h
  rcases hx with ⟨a, b, hx⟩ | hx
  · rw [hx] at h
    exact NN_round (s := false) rfl h
  · rw [hx] at h
    refine Or.inr ?_
    rw [h]
    rfl
theorem NN_add {x k : UInt64} (hx : NN x) (hk : NN k) : NN (FP.dadd x k) := by
  have h := FP.Core.val64_dadd x k
  rcases hx with ⟨a, b, hx⟩ | hx <;> rcases hk with ⟨c, d, hk⟩ | hk <;> rw [hx, hk] at h
  · refine NN_round ?_ h
    have h0 : 0 ≤ FP.Core.sumUnits false a b false c d (min b d) := by
      unfold FP.Core.sumUnits FP.Core.signed
      simp only [Bool.false_eq_true, if_false]
      omega
    unfold FP.Core.sumSign
    split
    · rfl
    · exact decide_eq_false (by omega)
  · exact Or.inr (by rw [h]; rfl)
  · exact Or.inr (by rw [h]; rfl)
  · exact Or.inr (by rw [h]; rfl)
theorem NN_0 : NN FP.dconst0 := Or.inl ⟨0, -1074, by decide +kernel⟩
theorem NN_1 : NN FP.dconst1 := Or.inl ⟨4503599627370496, -52, by decide +kernel⟩
theorem NN_h : NN 4602678819172646912 := Or.inl ⟨4503599627370496, -53, by decide +kernel⟩
theorem v_875 : FP.Core.val64 4606056518893174784 = FP.Core.Datum.fin false (7881299347898367 + 1) (-53) := by decide +kernel
theorem NN_875 {x : UInt64} (h : NN x) : NN (FP.dmul x 4606056518893174784) := NN_mul h v_875
theorem v_125 : FP.Core.val64 4593671619917905920 = FP.Core.Datum.fin false 4503599627370496 (-55) := by decide +kernel
/-- an int times 0.125 is no NaN -/
theorem nan_125 (x : Int32) : vf_n64 (FP.dmul (FP.i2d x) 4593671619917905920) := by
  refine nan_of ?_
  have h := FP.Core.val64_dmul (FP.i2d x) 4593671619917905920
  have h2 := FP.Core.val64_i2d x
  rw [v_125] at h
  have h3 : (∃ s c q, FP.Core.val64 (FP.i2d x) = FP.Core.Datum.fin s c q) ∨ ∃ s, FP.Core.val64 (FP.i2d x) = FP.Core.Datum.inf s := by
    rw [show FP.Core.val64 (FP.i2d x) = _ from h2]
    unfold FP.Core.ofInt FP.Core.round
    rcases FP.Core.roundRatio_cases FP.Core.b64 (decide (x.toInt < 0)) x.toInt.natAbs 1 0 with ⟨c, q, e⟩ | e
    · exact Or.inl ⟨_, c, q, e⟩
    · exact Or.inr ⟨_, e⟩
  rcases h3 with ⟨s, c, q, e⟩ | ⟨s, e⟩
  · rw [e] at h
    rw [show FP.Core.val64 (FP.dmul (FP.i2d x) 4593671619917905920) = _ from h]
    exact FP.Core.roundRatio_ne_nan _ _ _ _ _
  · rw [e] at h
    rw [show FP.Core.val64 (FP.dmul (FP.i2d x) 4593671619917905920) = _ from h]
    exact FP.Core.Datum.noConfusion
