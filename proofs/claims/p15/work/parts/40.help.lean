/-! the law's helpers: what they take as given, and what they leave -/
abbrev oL (f : Nat → Int64) : vp_A := (1, .inr (.inl f))
abbrev oD (f : Nat → UInt64) : vp_A := (1, .inr (.inr (.inr (.inl f))))
def NCP : List (String × String) := [("java/lang/IllegalArgumentException", "java/lang/IllegalStateException"), ("java/lang/IllegalArgumentException", "java/lang/UnsupportedOperationException"), ("java/lang/IllegalArgumentException", "java/util/NoSuchElementException"), ("java/lang/IllegalArgumentException", "java/lang/IndexOutOfBoundsException"), ("java/lang/IllegalStateException", "java/lang/IllegalArgumentException"), ("java/lang/IllegalStateException", "java/lang/UnsupportedOperationException"), ("java/lang/IllegalStateException", "java/util/NoSuchElementException"), ("java/lang/IllegalStateException", "java/lang/IndexOutOfBoundsException"), ("java/lang/UnsupportedOperationException", "java/lang/IllegalArgumentException"), ("java/lang/UnsupportedOperationException", "java/lang/IllegalStateException"), ("java/lang/UnsupportedOperationException", "java/util/NoSuchElementException"), ("java/lang/UnsupportedOperationException", "java/lang/IndexOutOfBoundsException"), ("java/util/NoSuchElementException", "java/lang/IllegalArgumentException"), ("java/util/NoSuchElementException", "java/lang/IllegalStateException"), ("java/util/NoSuchElementException", "java/lang/UnsupportedOperationException"), ("java/util/NoSuchElementException", "java/lang/IndexOutOfBoundsException"), ("java/lang/IndexOutOfBoundsException", "java/lang/IllegalArgumentException"), ("java/lang/IndexOutOfBoundsException", "java/lang/IllegalStateException"), ("java/lang/IndexOutOfBoundsException", "java/lang/UnsupportedOperationException"), ("java/lang/IndexOutOfBoundsException", "java/util/NoSuchElementException")]
def PH (D : va_G) (ad : Nat → Nat) (ka : Nat → ClassId) (sa : Nat → Nat) (sz : Nat) (t : Mem) (qo : Nat) (kl : ClassId) (ty : FieldType) (o : vp_A) (U : State) : Prop := PZ D ad ka sa sz t U ∧ (va_P D cls [(qo, .inl (kl, o))] U.heap ∧ va_K D cls [(kl, ty)] U) ∧ (∀ i, i < 96 → ad i ≠ qo) ∧ ∀ q ∈ NCP, va_Nc q.1 q.2 U
theorem PH_blind {D : va_G} {ad : Nat → Nat} {ka : Nat → ClassId} {sa : Nat → Nat} {sz : Nat} {t : Mem} {qo : Nat} {kl : ClassId} {ty : FieldType} {o : vp_A} {av : List Value} : FrameBlind (va_Pc av (PH D ad ka sa sz t qo kl ty o)) := fun a U g mk q => by
  obtain ⟨q0, qz, ⟨qP, qK⟩, qn, qc⟩ := q
  obtain ⟨-, qz2⟩ := PZ_blind (av := av) a U g mk ⟨q0, qz⟩
  exact ⟨q0, qz2, ⟨qP, va_K.moved (u := U) (U := U.calling g mk a) (Vm.Alike.refl U.vm) qK⟩, qn, fun q hq => va_Nc.moved (u := U) (U := U.calling g mk a) (Vm.Alike.refl U.vm) (qc q hq)⟩
def AO (ad : Nat → Nat) (qo sz : Nat) : Nat → Prop := fun q => AX ad sz q ∨ q = qo
def BH (D : va_G) (ad : Nat → Nat) (ka : Nat → ClassId) (sz qo : Nat) (kl : ClassId) (t : Mem) (o : vp_A) (U : State) : Prop := BX D ad ka sz t U ∧ va_P D cls [(qo, .inl (kl, o))] U.heap
theorem app_at {ad : Nat → Nat} {ka : Nat → ClassId} {t : Mem} {z q : Nat × va_E} {k : Nat} (hk : (cw ad ka t ++ [z])[k]? = some q) : (k < 96 ∧ q = (ad k, cE ad ka t k)) ∨ (k = 96 ∧ q = z) := by
  by_cases h : k < 96
  · rw [List.getElem?_append_left (by rw [cw, fw_len]; exact h), cw, fw_at h] at hk
    exact Or.inl ⟨h, (Option.some.inj hk).symm⟩
  · have hl := (List.getElem?_eq_some_iff.mp hk).1
    rw [List.length_append, cw, fw_len] at hl
    have hk6 : k = 96 := by
      simp at hl
      omega
    subst hk6
    rw [List.getElem?_append_right (by rw [cw, fw_len]; omega), cw, fw_len] at hk
    exact Or.inr ⟨rfl, (Option.some.inj hk).symm⟩
theorem oj {D : va_G} {ad : Nat → Nat} {ka : Nat → ClassId} {t : Mem} {sz qo : Nat} {e : va_E} {H : Heap} (hP : va_P D cls (cw ad ka t) H) (hD : va_D (AX ad sz) (cw ad ka t)) (hPo : va_P D cls [(qo, e)] H) (hne : ∀ i, i < 96 → ad i ≠ qo) : va_P D cls (cw ad ka t ++ [(qo, e)]) H ∧ va_D (AO ad qo sz) (cw ad ka t ++ [(qo, e)]) := by
  refine ⟨hP.app hPo, fun i j p q hi hj e9 => ?_, fun k q hk => ?_⟩
  · rcases app_at hi with ⟨h1, rfl⟩ | ⟨rfl, rfl⟩ <;> rcases app_at hj with ⟨h2, rfl⟩ | ⟨rfl, rfl⟩
    · exact hD.1 i j _ _ (fw_at h1) (fw_at h2) e9
    · exact absurd e9 (hne i h1)
    · exact absurd e9.symm (hne j h2)
    · rfl
  · rcases app_at hk with ⟨h1, rfl⟩ | ⟨rfl, rfl⟩
    · exact Or.inl (hD.2 k _ (fw_at h1))
    · exact Or.inr rfl
theorem va_Pl {D : va_G} {cl : List vw_C} {a b : va_W} {H : Heap} (h : va_P D cl (a ++ b) H) : va_P D cl a H := fun k q hk => h k q (by rw [List.getElem?_append_left (List.getElem?_eq_some_iff.mp hk).1]; exact hk)
theorem va_Pr {D : va_G} {cl : List vw_C} {a b : va_W} {H : Heap} (h : va_P D cl (a ++ b) H) : va_P D cl b H := fun k q hk => h (a.length + k) q (by rw [List.getElem?_append_right (by omega), Nat.add_sub_cancel_left]; exact hk)
theorem va_Dl {ad : Nat → Nat} {ka : Nat → ClassId} {t : Mem} {sz : Nat} {A : Nat → Prop} {b : va_W} (h : va_D A (cw ad ka t ++ b)) : va_D (AX ad sz) (cw ad ka t) := by
  refine AX_D (A := A) ⟨fun i j p q hi hj e => h.1 i j p q ?_ ?_ e, fun k q hk => h.2 k q ?_⟩
  · rw [List.getElem?_append_left (List.getElem?_eq_some_iff.mp hi).1]; exact hi
  · rw [List.getElem?_append_left (List.getElem?_eq_some_iff.mp hj).1]; exact hj
  · rw [List.getElem?_append_left (List.getElem?_eq_some_iff.mp hk).1]; exact hk
/-- a cell outside what the class's call may change is as it was -/
theorem o_kept {D : va_G} {ad : Nat → Nat} {sz qo : Nat} {e : va_E} {H H1 : Heap} (h : va_P D cls [(qo, e)] H) (hsz : sz = H.size) (hne : ∀ i, i < 96 → ad i ≠ qo) (hk : ∀ q : Nat, q < H.size → ¬ AX ad sz q → H1[q]? = H[q]?) : va_P D cls [(qo, e)] H1 := by
  have hlt : qo < H.size := (h 0 _ rfl).lt
  refine h.kept (fun k q hq => ?_)
  have hq2 : q = (qo, e) := by
    match k, hq with
    | 0, hq => exact (Option.some.inj hq).symm
    | k + 1, hq => simp at hq
  subst hq2
  exact hk qo hlt (fun hA => hA.elim (fun ⟨i, h1, h2⟩ => hne i h1 h2.symm) (fun h9 => by omega))
theorem met_ofWH {l : Launch} {y : MethodName} {ws ws' : List Cond} {rm : Room} {Pc : Array Value → State → Prop} {Qc : Array Value → State → Outcome → State → Prop} {mc ms : Nat} {free : Addr → Prop} {cc : ByteArray} {maxL : Nat} {ret : Option FieldType} {hh : List (Nat × Nat × Nat × Nat)}
    (hy : plainName y.cls = true) (hw : ws = Cond.codeWith y cc maxL ret hh :: ws')
    (body : ∀ p e s m args below meth c s₁, BodyLoose p l y (headSpec ws rm) cc maxL ret e s m args below meth c s₁ → c.maxLocals = maxL → Pc args s →
      W p l e (headSpec ws rm).room s m args below meth c s.heap [] 0 0 (MQ below Qc args s mc ms free) (entryFrame m args maxL)) : Met l y ws rm Pc Qc mc ms free := by
  refine MetFree.of_bodyS (code := cc) (maxLocals := maxL) (ret := ret) hy ?_ ?_
  · intro args s m h hn
    obtain ⟨m9, meth, c, hn9, h1, h2, h3, h4, -, h5, h6, -⟩ := Cond.codeWith_spec (atoms_spec (ws := ws) h _ (by rw [hw]; exact List.mem_cons_self))
    cases hn.symm.trans hn9
    exact ⟨meth, c, h1, h2, h3, h4, h5, h6⟩
  · intro p e s m args below meth c s₁ B hml hP _
    have hh0 : s₁.heap = s.heap := by rw [B.state]; rfl
    obtain ⟨t, a1, o, b1, b2, b3⟩ := body p e s m args below meth c s₁ B hml hP s₁ hh0 (Stand.of_body B)
    exact ⟨t, o, a1, b1, b2, ⟨b3.1, b3.2⟩⟩
theorem gsw {c0 : Cond} {own : String} {idx n : Nat} {y : MethodName} {b : ByteArray} {r : Option FieldType} {hh : List (Nat × Nat × Nat × Nat)} (h1 : Cond.methodLink own idx y ∈ big) (h2 : Cond.static y ∈ big) (h3 : Cond.initialized y.cls ∈ big) (h5 : Cond.codeWith y b n r hh ∈ big) : GoodIn (c0 :: big) (va_wsS own idx y (Cond.codeWith y b n r hh :: big)) := gi_c h1 (gi_c h2 (gi_c h3 (gi_c h5 gi_0)))
/-- confirm, as a relation -/
def cfR (t : Mem) (k0 : Int32) (n : Nat) (r : Int32) (t' : Mem) : Prop := (n = 0 ∧ ∃ j, j < 36 ∧ mchR t k0 j ∧ (∀ i, i < j → ¬ mchR t k0 i) ∧ r = nI (j % 12) ∧ t' = S_becomeLive t j (gI t 32 0)) ∨ (n = 1 ∧ (∀ i, i < 36 → ¬ mchR t k0 i) ∧ r = 0 ∧ t' = t)
def zb (r : Int32) : Int64 := if r = 0 then 0 else 1
