/-! throwing: what a method that may throw takes as given, and how it leaves -/
def NB : List Cond := [.castable "java/lang/IllegalArgumentException" "java/lang/IllegalArgumentException", .castable "java/lang/IllegalStateException" "java/lang/IllegalStateException", .castable "java/lang/UnsupportedOperationException" "java/lang/UnsupportedOperationException", .castable "java/util/NoSuchElementException" "java/util/NoSuchElementException", .castable "java/lang/IndexOutOfBoundsException" "java/lang/IndexOutOfBoundsException",
  .declares ⟨"java/lang/RuntimeException", "<init>", "()V"⟩, .declares ⟨"java/lang/RuntimeException", "<init>", "(Ljava/lang/String;)V"⟩, .declares ⟨"java/lang/Exception", "<init>", "()V"⟩, .declares ⟨"java/lang/Exception", "<init>", "(Ljava/lang/String;)V"⟩, .declares ⟨"java/lang/Throwable", "<init>", "()V"⟩, .declares ⟨"java/lang/Throwable", "<init>", "(Ljava/lang/String;)V"⟩]
theorem NB_ot : ∀ w ∈ NB, w.onTables = true := by decide +kernel
theorem Nw_decl {x : MethodName} {s U : State} (hW : s.WarmedH U.vm) (hZ : va_Nw (.declares x) s) : va_Nw (.declares x) U := va_tabs rfl (rfl : (s.setVm U.vm).vm = U.vm) (by rw [Cond.declares_setVm hW.alike]; exact hZ)
theorem NB_warm {s U : State} (hW : s.WarmedH U.vm) (h : ∀ w ∈ NB, va_Nw w s) : ∀ w ∈ NB, va_Nw w U := by
  intro w hw
  have h9 := h w hw
  simp only [NB, List.mem_cons, List.not_mem_nil, or_false] at hw
  rcases hw with rfl | rfl | rfl | rfl | rfl | rfl | rfl | rfl | rfl | rfl | rfl <;> first | exact va_Nw.warmC hW h9 | exact Nw_decl hW h9
def STRS : List (Nat × String) := [(252, "a number is not as said"), (56, "there is a subscription"), (67, "the address is banned"), (92, "nothing waits for this code"), (248, "there is no subscription"), (105, "the subscription is not confirmed"), (140, "there is no room for another post"), (146, "the sender may not post here"), (164, "no such post is held"), (169, "only a moderator of the list may judge"), (178, "the subscription is not live"), (196, "the subscription is not stopped"), (209, "nothing is kept there")]
def ZX (ad : Nat → Nat) (sz : Nat) (sa : Nat → Nat) (U : State) : Prop := (∀ w ∈ NB, va_Nw w U) ∧ vx_Zq Bundle.tN "UNASSIGNED_STACK" Bundle.steD (AX ad sz) U U.heap ∧ vx_Zq Bundle.tN "SUPPRESSED_SENTINEL" Bundle.listD (AX ad sz) U U.heap ∧ ∀ q ∈ STRS, vk_R "ListForge" q.1 q.2 (sa q.1) U
theorem ZX_at {ad : Nat → Nat} {sa : Nat → Nat} {s U : State} {H : Heap} {locs : List Loc} (hU : U.heap = H) (hW : s.WarmedH U.vm) (h : ZX ad s.heap.size sa s) (hS : va_S (AX ad s.heap.size) s.heap H locs) : ZX ad H.size sa U := by
  refine ⟨NB_warm hW h.1, ?_, ?_, fun q hq => vk_R.warm hW (h.2.2.2 q hq)⟩
  · rw [hU]; exact (vx_Zq.moved hW.alike (h.2.1.kept hS.2.1)).narrow (AX_up hS.1)
  · rw [hU]; exact (vx_Zq.moved hW.alike (h.2.2.1.kept hS.2.1)).narrow (AX_up hS.1)
def PZ (D : va_G) (ad : Nat → Nat) (ka : Nat → ClassId) (sa : Nat → Nat) (sz : Nat) (t : Mem) (U : State) : Prop := PX D ad ka sz t U ∧ ZX ad sz sa U
theorem PZ_blind {D : va_G} {ad : Nat → Nat} {ka : Nat → ClassId} {sa : Nat → Nat} {sz : Nat} {t : Mem} {av : List Value} : FrameBlind (va_Pc av (PZ D ad ka sa sz t)) := fun a U g mk q => by
  obtain ⟨q0, ⟨q1, qP, qK, qD⟩, z1, z2, z3, z4⟩ := q
  exact ⟨q0, ⟨q1, qP, va_K.moved (u := U) (U := U.calling g mk a) (Vm.Alike.refl U.vm) qK, qD⟩, fun w hw => va_Nw.same (NB_ot w hw) (u := U) rfl (z1 w hw), vx_Zq.moved (u := U) (U := U.calling g mk a) (Vm.Alike.refl U.vm) z2, vx_Zq.moved (u := U) (U := U.calling g mk a) (Vm.Alike.refl U.vm) z3, fun q hq => vk_R.same (u := U) rfl (z4 q hq)⟩
def XT (D : va_G) (ad : Nat → Nat) (ka : Nat → ClassId) (sz : Nat) (t : Mem) (P : String → Prop) : String → State → State → Prop := vx_X (S := Unit) (fun _ => True) (fun E _ U => P E ∧ BX D ad ka sz t U) (AX ad sz)
theorem XT_at {D : va_G} {ad : Nat → Nat} {ka : Nat → ClassId} {t : Mem} {P : String → Prop} {E : String} {s t9 : State} {H : Heap} {locs : List Loc} (hP : va_P D cls (cw ad ka t) H) (hK : va_K D cls (cT ka) s) (hD : va_D (AX ad s.heap.size) (cw ad ka t)) (hS : va_S (AX ad s.heap.size) s.heap H locs) (hE : P E) (ha : s.vm.Alike t9.vm) (hz : H.size ≤ t9.heap.size) (hk : ∀ q : Nat, q < H.size → t9.heap[q]? = H[q]?) : XT D ad ka s.heap.size t P E s t9 :=
  ⟨(), trivial, ⟨hE, hP.kept (fun k q h9 => hk q.1 (hP k q h9).lt), va_K.moved ha hK, hD⟩, ⟨Nat.le_trans hS.1 hz, fun q h1 h2 => (hk q (Nat.lt_of_lt_of_le h1 hS.1)).trans (hS.2.1 q h1 h2)⟩⟩
theorem XT_out {D : va_G} {ad : Nat → Nat} {ka : Nat → ClassId} {t : Mem} {P : String → Prop} {E : String} {s t9 tq : State} {H1 : Heap} {locs : List Loc} {sz : Nat} (ht : tq.heap = H1) (hB : BX D ad ka sz t tq) (hA : ∀ q, AX ad sz q → AX ad s.heap.size q) (hK : va_K D cls (cT ka) s) (hS : va_S (AX ad s.heap.size) s.heap H1 locs) (hE : P E) (e9 : t9.heap = H1) (a9 : s.vm.Alike t9.vm) : XT D ad ka s.heap.size t P E s t9 :=
  ⟨(), trivial, ⟨hE, by rw [e9, ← ht]; exact hB.1, va_K.moved a9 hK, hB.2.2.weaken (fun _ q _ z => hA q.1 z)⟩, hS.F e9⟩
theorem vx_callr {p : Program} {l : Launch} {e : Env} {R : Room} {s : State} {m : MethodId} {args : Array Value} {below : List Frame} {meth : Method} {c : Code} {H : Heap} {locs : List Loc} {cells slots : Nat} {Q : State → Prop} {mc ms : Nat} {free : Addr → Prop} {A0 A1 : Nat → Prop} {H0 : Heap} {a : Array Value} {pc : Nat} {ls : Array Slot} {st0 rest : List Value} {S SX : Type} {post : S → Prop} {px : SX → Prop} {B : S → Nat → State → Prop} {BX : String → SX → State → Prop} {AX : Nat → Prop} (hr : vx_Run p l e R s m args below meth c H locs cells slots mc ms (F0 m pc ls st0) rest (va_Qr post B A1 a) (vx_X px BX AX) free) (hS : va_S A0 H0 H locs) (hA : ∀ q, q < H.size → A1 q → A0 q) (hf : ∀ q, free q → A0 q) (hAX : ∀ q, q < H.size → AX q → A0 q)
    (kx : ∀ (E : String) (ce : Cell) (q9 : Addr) (u : SX) (t : State) (H1 : Heap) (locs1 : List Loc), t.heap = H1 → s.vm.Alike t.vm → px u → BX E u t → H.size ≤ H1.size → (∀ q : Nat, q < H.size → ¬ AX q → H1[q]? = H[q]?) → va_S A0 H0 H1 locs1 → H1[q9]? = some ce → ce.vm = .none → s.vm.findClass E = some ce.cls → vx_W p l e R s m args below meth c H1 locs1 (cells + mc) (slots + ms) Q (F0 m pc ls rest) q9)
    (kk : ∀ (u : S) (ra : Nat) (t : State) (H1 : Heap) (locs1 : List Loc), t.heap = H1 → s.vm.Alike t.vm → post u → B u ra t → H.size ≤ H1.size → (∀ q : Nat, q < H.size → ¬ A1 q → H1[q]? = H[q]?) → va_S A0 H0 H1 locs1 → W p l e R s m args below meth c H1 locs1 (cells + mc) (slots + ms) Q (F0 m (pc + 3) ls (.ref ra :: rest))) : W p l e R s m args below meth c H locs cells slots Q (F0 m pc ls st0) := by
  intro T hT X
  rcases hr T hT X with ⟨v, st₀, t, T', L, h0, X', hL, e1, e2, ⟨⟨u, r, hv, hp, hb⟩, hF⟩, st⟩ | ⟨q, st₀, t, T', L, E, ce, h0, X', hL, e1, e2, ⟨u, hp, hb, hF⟩, hce, hcv, hcl, st⟩
  · cases hv
    obtain ⟨k1, k2, k3⟩ := vx_keep h0 e1 hS hA hf hL hF
    obtain ⟨t2, a1, b1⟩ := kk u r t T'.heap (locs ++ L) e1.symm (by rw [← e2]; exact X'.warmed.alike) hp hb k1 k2 k3 T' rfl X'
    exact ⟨t2, st t2 a1, b1⟩
  · obtain ⟨k1, k2, k3⟩ := vx_keep h0 e1 hS hAX hf hL hF
    obtain ⟨t2, a1, b1⟩ := kx E ce q u t T'.heap (locs ++ L) e1.symm (by rw [← e2]; exact X'.warmed.alike) hp hb k1 k2 k3 (by rw [e1]; exact hce) hcv hcl T' rfl X'
    exact ⟨t2, st.trans a1, b1⟩
/-- the words of each 'throw new E(text)' in ListForge -/
abbrev RTE : List String := ["java/lang/RuntimeException", "java/lang/Exception"]
theorem hatO {args : Array Value} {s : State} {c0 : Cond} {L : List Cond} (hts : ∀ w ∈ c0 :: big, w.before args s = true) (hz : ∀ w ∈ NB, va_Nw w s) (h1 : ∀ w ∈ L.filter goodWord, w ∈ big) (h2 : ∀ w ∈ L.filter (fun w => !goodWord w), w ∈ NB) : ∀ w ∈ L, w.before args s = true :=
  vx_hat (fun w hw => bg hts (h1 w hw)) h2 (fun w hw => va_Nw.use (NB_ot w hw) (hz w hw))
abbrev e_IAE : String := "java/lang/IllegalArgumentException"
theorem ag_IAE : ∀ w ∈ (vx_atS "ListForge" 254 e_IAE RTE).filter goodWord, w ∈ big := by decide +kernel
theorem an_IAE : ∀ w ∈ (vx_atS "ListForge" 254 e_IAE RTE).filter (fun w => !goodWord w), w ∈ NB := by decide +kernel
theorem ao_IAE : ∀ w ∈ Cond.classLink "ListForge" 250 e_IAE :: Cond.initialized e_IAE :: vx_atS "ListForge" 254 e_IAE RTE, vx_ot w = true := by decide +kernel
abbrev e_ISE : String := "java/lang/IllegalStateException"
theorem ag_ISE : ∀ w ∈ (vx_atS "ListForge" 58 e_ISE RTE).filter goodWord, w ∈ big := by decide +kernel
theorem an_ISE : ∀ w ∈ (vx_atS "ListForge" 58 e_ISE RTE).filter (fun w => !goodWord w), w ∈ NB := by decide +kernel
theorem ao_ISE : ∀ w ∈ Cond.classLink "ListForge" 54 e_ISE :: Cond.initialized e_ISE :: vx_atS "ListForge" 58 e_ISE RTE, vx_ot w = true := by decide +kernel
abbrev e_UOE : String := "java/lang/UnsupportedOperationException"
theorem ag_UOE : ∀ w ∈ (vx_atS "ListForge" 69 e_UOE RTE).filter goodWord, w ∈ big := by decide +kernel
theorem an_UOE : ∀ w ∈ (vx_atS "ListForge" 69 e_UOE RTE).filter (fun w => !goodWord w), w ∈ NB := by decide +kernel
theorem ao_UOE : ∀ w ∈ Cond.classLink "ListForge" 65 e_UOE :: Cond.initialized e_UOE :: vx_atS "ListForge" 69 e_UOE RTE, vx_ot w = true := by decide +kernel
abbrev e_NSE : String := "java/util/NoSuchElementException"



abbrev e_IOE : String := "java/lang/IndexOutOfBoundsException"
theorem ag_IOE : ∀ w ∈ (vx_atS "ListForge" 211 e_IOE RTE).filter goodWord, w ∈ big := by decide +kernel
theorem an_IOE : ∀ w ∈ (vx_atS "ListForge" 211 e_IOE RTE).filter (fun w => !goodWord w), w ∈ NB := by decide +kernel
theorem ao_IOE : ∀ w ∈ Cond.classLink "ListForge" 207 e_IOE :: Cond.initialized e_IOE :: vx_atS "ListForge" 211 e_IOE RTE, vx_ot w = true := by decide +kernel
