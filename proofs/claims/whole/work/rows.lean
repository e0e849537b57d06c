section
-- ===== PART A: goes FIRST, ahead of the names: the tables' words, and 'selects' of the private methods out of them =====
/-- a private method of a class that the tables say can be made, by its rows of tables_1 -/
def lw_okq (q : MethodName × Nat) : Prop := (q.1.cls ≠ "java/lang/invoke/MethodHandle" ∧ q.1.cls ≠ "java/lang/invoke/VarHandle") ∧ Cond.instantiable q.1.cls q.2 ∈ tables_1 ∧ Cond.privateMethod q.1 ∈ tables_1 ∧ Cond.instanceMethod q.1 ∈ tables_1
theorem lw_p0 : lw_okq (⟨"java/lang/Throwable", "fillInStackTrace", "(I)Ljava/lang/Throwable;"⟩, 6) := ⟨⟨by decide +kernel, by decide +kernel⟩, List.mem_of_getElem? (i := 254) (by decide +kernel), List.mem_of_getElem? (i := 252) (by decide +kernel), List.mem_of_getElem? (i := 253) (by decide +kernel)⟩
theorem lw_p1 : lw_okq (⟨"ListForge", "existing", "(II)LListForge$Subscription;"⟩, 6) := ⟨⟨by decide +kernel, by decide +kernel⟩, List.mem_of_getElem? (i := 16) (by decide +kernel), List.mem_of_getElem? (i := 359) (by decide +kernel), List.mem_of_getElem? (i := 360) (by decide +kernel)⟩
theorem lw_p2 : lw_okq (⟨"ListForge", "letThrough", "(I)V"⟩, 6) := ⟨⟨by decide +kernel, by decide +kernel⟩, List.mem_of_getElem? (i := 16) (by decide +kernel), List.mem_of_getElem? (i := 449) (by decide +kernel), List.mem_of_getElem? (i := 450) (by decide +kernel)⟩
theorem lw_p3 : lw_okq (⟨"ListForge", "postsThatAre", "(I)I"⟩, 6) := ⟨⟨by decide +kernel, by decide +kernel⟩, List.mem_of_getElem? (i := 16) (by decide +kernel), List.mem_of_getElem? (i := 478) (by decide +kernel), List.mem_of_getElem? (i := 479) (by decide +kernel)⟩
theorem lw_p4 : lw_okq (⟨"ListForgeModel", "refuse", "(I)I"⟩, 31) := ⟨⟨by decide +kernel, by decide +kernel⟩, List.mem_of_getElem? (i := 584) (by decide +kernel), List.mem_of_getElem? (i := 700) (by decide +kernel), List.mem_of_getElem? (i := 701) (by decide +kernel)⟩
theorem lw_p5 : lw_okq (⟨"ListForgeModel", "send", "(IIII)V"⟩, 31) := ⟨⟨by decide +kernel, by decide +kernel⟩, List.mem_of_getElem? (i := 584) (by decide +kernel), List.mem_of_getElem? (i := 704) (by decide +kernel), List.mem_of_getElem? (i := 705) (by decide +kernel)⟩
theorem lw_p6 : lw_okq (⟨"ListForgeModel", "pass", "(I)V"⟩, 31) := ⟨⟨by decide +kernel, by decide +kernel⟩, List.mem_of_getElem? (i := 584) (by decide +kernel), List.mem_of_getElem? (i := 738) (by decide +kernel), List.mem_of_getElem? (i := 739) (by decide +kernel)⟩
theorem lw_p7 : lw_okq (⟨"ListForgeModel", "isLive", "(III)Z"⟩, 31) := ⟨⟨by decide +kernel, by decide +kernel⟩, List.mem_of_getElem? (i := 584) (by decide +kernel), List.mem_of_getElem? (i := 742) (by decide +kernel), List.mem_of_getElem? (i := 743) (by decide +kernel)⟩
theorem lw_p8 : lw_okq (⟨"ListForgeModel", "digest", "(I)V"⟩, 31) := ⟨⟨by decide +kernel, by decide +kernel⟩, List.mem_of_getElem? (i := 584) (by decide +kernel), List.mem_of_getElem? (i := 746) (by decide +kernel), List.mem_of_getElem? (i := 747) (by decide +kernel)⟩
theorem lw_p9 : lw_okq (⟨"ListForgeModel", "waiting", "(I)I"⟩, 31) := ⟨⟨by decide +kernel, by decide +kernel⟩, List.mem_of_getElem? (i := 584) (by decide +kernel), List.mem_of_getElem? (i := 754) (by decide +kernel), List.mem_of_getElem? (i := 755) (by decide +kernel)⟩
theorem lw_p10 : lw_okq (⟨"ListForgeModel", "day", "(II)V"⟩, 31) := ⟨⟨by decide +kernel, by decide +kernel⟩, List.mem_of_getElem? (i := 584) (by decide +kernel), List.mem_of_getElem? (i := 770) (by decide +kernel), List.mem_of_getElem? (i := 771) (by decide +kernel)⟩
def lw_privs_1 : List (MethodName × Nat) := [(⟨"java/lang/Throwable", "fillInStackTrace", "(I)Ljava/lang/Throwable;"⟩, 6), (⟨"ListForge", "existing", "(II)LListForge$Subscription;"⟩, 6), (⟨"ListForge", "letThrough", "(I)V"⟩, 6), (⟨"ListForge", "postsThatAre", "(I)I"⟩, 6), (⟨"ListForgeModel", "refuse", "(I)I"⟩, 31), (⟨"ListForgeModel", "send", "(IIII)V"⟩, 31), (⟨"ListForgeModel", "pass", "(I)V"⟩, 31), (⟨"ListForgeModel", "isLive", "(III)Z"⟩, 31), (⟨"ListForgeModel", "digest", "(I)V"⟩, 31), (⟨"ListForgeModel", "waiting", "(I)I"⟩, 31), (⟨"ListForgeModel", "day", "(II)V"⟩, 31)]
theorem lw_r1 : ∀ q ∈ lw_privs_1, lw_okq q := List.forall_mem_cons.mpr ⟨lw_p0, List.forall_mem_cons.mpr ⟨lw_p1, List.forall_mem_cons.mpr ⟨lw_p2, List.forall_mem_cons.mpr ⟨lw_p3, List.forall_mem_cons.mpr ⟨lw_p4, List.forall_mem_cons.mpr ⟨lw_p5, List.forall_mem_cons.mpr ⟨lw_p6, List.forall_mem_cons.mpr ⟨lw_p7, List.forall_mem_cons.mpr ⟨lw_p8, List.forall_mem_cons.mpr ⟨lw_p9, List.forall_mem_cons.mpr ⟨lw_p10, fun _ h => absurd h List.not_mem_nil⟩⟩⟩⟩⟩⟩⟩⟩⟩⟩⟩
def lw_privs : List (MethodName × Nat) := lw_privs_1
def lw_tbl : List Cond := k2_sels lw_privs ++ tables_1
theorem lw_privs_ok : ∀ q ∈ lw_privs, lw_okq q := lw_r1
end
section
/-! ===== BEGIN words of one list among another's, by their places ===== -/
theorem goodIn_r {big : List Cond} (ws : List Cond) (ps : List Nat) (hp : ws = ps.filterMap (fun i => big[i]?)) (h : ws.all goodWord = true) : GoodIn big ws := by
  intro w hw
  have h1 := List.all_eq_true.mp h w hw
  rw [hp] at hw
  obtain ⟨i, -, hi⟩ := List.mem_filterMap.mp hw
  have hm : w ∈ big := by first | exact List.mem_of_getElem? hi | exact List.getElem?_mem hi
  exact ⟨hm, good_of_word h1⟩
theorem goodIn_app {big a b : List Cond} (ha : GoodIn big a) (hb : GoodIn big b) : GoodIn big (a ++ b) := fun w h => (List.mem_append.mp h).elim (ha w) (hb w)
theorem goodIn_ca {big a b : List Cond} {c : Cond} (ha : GoodIn big (c :: a)) (hb : GoodIn big b) : GoodIn big (c :: (a ++ b)) := fun w h => (List.mem_cons.mp h).elim (fun e => ha w (List.mem_cons.mpr (Or.inl e))) (fun h => (List.mem_append.mp h).elim (fun h => ha w (List.mem_cons.mpr (Or.inr h))) (hb w))
theorem goodIn_sub {big ws : List Cond} (hm : ∀ w ∈ ws, w ∈ big) (h : ws.all goodWord = true) : GoodIn big ws := fun w hw => ⟨hm w hw, good_of_word (List.all_eq_true.mp h w hw)⟩
/-! ===== END ===== -/

/-! ===== BEGIN exceptions that leave a method, and their catching by the caller (launches without stack traces) ===== -/
section VXA
/-! The laws vx_back, vx_callV, vx_callS, vx_callSW, vx_throw0, vx_throwS follow proofs of the library, with one case more: JvmDerived/Free/Laws.lean (Back.of_free), Shelf42/LK1.lean (callV, callS), Shelf/KitTraced.lean (throwNew0V, throwNewS). -/
/-- where a method has thrown q: the class by its name, the cell, what was written, the world -/
def vx_T (XC : String → State → State → Prop) (st : State) (q : Addr) (t : State) (mc ms : Nat) (free : Addr → Prop) : Prop :=
  ∃ (E : String) (ce : Cell) (L : List Loc), XC E st t ∧ t.heap[q]? = some ce ∧ ce.vm = .none ∧ st.vm.findClass E = some ce.cls ∧ st.WarmedH t.vm ∧ st.sameButNew ({ t with vm := st.vm } : State) L mc ms ∧ ∀ z ∈ L, free z.base
def vx_Q (Qc : Array Value → State → Outcome → State → Prop) (XC : String → State → State → Prop) (mc ms : Nat) (free : Addr → Prop) : Array Value → State → Outcome → State → Prop := fun a st o t =>
  (Qc a st o t ∧ ∃ L, FrameEnd st o t L mc ms ∧ ∀ q ∈ L, free q.base) ∨ ∃ q, o = .threw q ∧ vx_T XC st q t mc ms free
/-- a callee that returns or throws -/
def vx_Met (l : Launch) (y : MethodName) (ws : List Cond) (rm : Room) (Pc : Array Value → State → Prop) (Qc : Array Value → State → Outcome → State → Prop) (XC : String → State → State → Prop) (mc ms : Nat) (free : Addr → Prop) : Prop :=
  MetFree l y (headSpec ws rm) Pc (fun _ _ _ _ _ => True) (vx_Q Qc XC mc ms free)
def vx_Post (XC : String → State → State → Prop) (mc ms : Nat) (free : Addr → Prop) : Pt → Array Value → Addr → Pt → Prop := fun A a q B =>
  ∃ (g : JFrame) (mk : MethodId) (t : State) (L : List Loc) (E : String) (ce : Cell), B.U.heap = t.heap ∧ B.U.vm = t.vm ∧ XC E (A.U.calling g mk a) t ∧ t.heap[q]? = some ce ∧ ce.vm = .none ∧ A.U.vm.findClass E = some ce.cls ∧ B.locs = A.locs ++ L ∧ (∀ z ∈ L, free z.base) ∧ B.cells = A.cells + mc ∧ B.slots = A.slots + ms
def vx_Back (l : Launch) (R : Room) (p : Program) (e : Env) (below : List Frame) (s : State) (sargs : Array Value) (y : MethodName) (len W9 : Nat)
    (Pre : Pt → Array Value → Prop) (Post : Pt → Array Value → Option Value → Pt → Prop) (PostX : Pt → Array Value → Addr → Pt → Prop) : Prop :=
  ∀ (m : MethodId) (meth : Method) (c : Code) (A : Pt) (g : JFrame) (ig : Instr) (mk : MethodId) (a : Array Value),
    Stand p l e R s m sargs below meth c A.U A.locs A.cells A.slots → g.method = m → g.locals.size = c.maxLocals → decode c.code g.pc = .ok (ig, len) →
    2 * g.monitorRoom + (g.stack.map fun v => v.category).sum ≤ W9 → A.U.methodNamed? y = some mk → Pre A a →
    (∃ (v : Option Value) (B : Pt), Stand p l e R s m sargs below meth c B.U B.locs B.cells B.slots ∧ Post A a v B ∧
      Steps p.tables e below (doInvoke e (A.U.setTop g) [] mk a).1 (B.U.setTop { g with pc := g.pc + len, stack := v.toList ++ g.stack })) ∨
    (∃ (q : Addr) (B : Pt), Stand p l e R s m sargs below meth c B.U B.locs B.cells B.slots ∧ PostX A a q B ∧
      Steps p.tables e below (doInvoke e (A.U.setTop g) [] mk a).1 ((B.U.setTop g).pushFrame (.throwing q)))
section Payer
variable {l : Launch} {R : Room} {p : Program} {e : Env} {below : List Frame} {s : State} {sargs : Array Value} {y : MethodName} {len W9 : Nat}
theorem vx_back {ws : List Cond} {rm : Room} {Pc : Array Value → State → Prop} {Qc : Array Value → State → Outcome → State → Prop} {XC : String → State → State → Prop} {mc ms : Nat} {free : Addr → Prop} {bytes : ByteArray} {maxL : Nat} {ret : Option FieldType}
    (hM : vx_Met l y ws rm Pc Qc XC mc ms free) (hblind : FrameBlind Pc) (hrc : rm.cells = mc) (hrs : rm.slots = ms)
    (hframes : rm.frames + 1 ≤ R.frames) (hlocals : W9 + (maxL + 11) + rm.locals ≤ R.locals)
    (hws : ∀ w ∈ ws, ∀ a' U, s.WarmedH U.vm → w.before a' U = true) (hcode : Cond.code y bytes maxL ret ∈ ws) (hinit : ∀ a' U, s.WarmedH U.vm → (Cond.initialized y.cls).before a' U = true) :
    vx_Back l R p e below s sargs y len W9 (PreOf R mc ms Pc) (PostOf Qc mc ms free) (vx_Post XC mc ms free) := by
  intro m meth c A g ig mk a X hg hsize hdg hW hn hp
  have h1 : (headSpec ws rm).pre.before a A.U = true := atoms_intro fun w hw => hws w hw _ _ X.warmed
  have h2 : (Cond.code y bytes maxL ret).before a A.U = true := hws _ hcode _ _ X.warmed
  have h3 : (Cond.initialized y.cls).before a A.U = true := hinit _ _ X.warmed
  have h4 : A.cells + (headSpec ws rm).room.cells ≤ R.cells := by rw [show (headSpec ws rm).room.cells = mc from hrc]; exact hp.1
  have h5 : A.slots + (headSpec ws rm).room.slots ≤ R.slots := by rw [show (headSpec ws rm).room.slots = ms from hrs]; exact hp.2.1
  have hPc : Pc a (A.U.calling g mk a) := hblind _ _ _ _ hp.2.2
  obtain ⟨U, Ls, c0, s0⟩ := A
  dsimp only [Pt.U, Pt.locs, Pt.cells, Pt.slots] at h1 h2 h3 h4 h5 X hn hPc ⊢
  obtain ⟨methY, cY, hmY, hcY, -, hlY, -, -, -, -⟩ := Cond.code_spec hn h2
  obtain ⟨kY, hkY, -⟩ := className_of_methodNamed hn
  have hinitY : kY.init = .initialized := Cond.initialized_spec (findClass_of_methodNamed hn) hkY h3
  have h : At U g.method c below := by rw [hg]; exact X.here
  have hlocals9 : W9 + (maxL + 11) + (headSpec ws rm).room.locals ≤ R.locals := hlocals
  have happ : (headSpec ws rm).appliesLoose y e.platform (U.calling g mk a) = true :=
    Spec.appliesLoose_calling (g := g) h hdg hn hkY hinitY
      (X.room_calling (g := g) (R' := (headSpec ws rm).room) hsize hmY hcY hframes (by rw [hlY]; omega) h4 h5) h1
  obtain ⟨mid, hmid⟩ := h.above
  have hfr : (U.setTop g).frames = (.java g :: mid) ++ below := by rw [State.frames_setTop' g h.top, hmid]; rfl
  obtain ⟨o, s₂, hsteps, -, hend, hq⟩ := Steps.callFree hM p X.admits X.cas X.clock (acts := []) hfr happ hPc trivial
  have hq' : vx_Q Qc XC mc ms free a (U.calling g mk a) o s₂ := hq
  rw [State.frames_setTop' g h.top] at hend
  obtain ⟨g₀, hg0⟩ := Option.isSome_iff_exists.mp h.top
  obtain ⟨r, hr⟩ := State.topJava?_eq_some.mp hg0
  have hr' : (({ U with heap := s₂.heap, slotsUsed := s₂.slotsUsed } : State).setVm s₂.vm).frames = .java g₀ :: r := hr
  rcases hq' with ⟨hqc, L, hfe, hL⟩ | ⟨q, rfl, E, ce, L, hx, hce, hcv, hcl, hW₂, hsm, hL⟩
  · obtain ⟨⟨v, rfl⟩, hW₂, e2, q2, q3, q4, q5, q6⟩ := id hfe
    have e3 : s₂ = ({ (U.calling g mk a).setFrames s₂.frames with heap := s₂.heap, slotsUsed := s₂.slotsUsed } : State).setVm s₂.vm := by
      have : s₂ = ({ s₂ with vm := (U.calling g mk a).vm } : State).setVm s₂.vm := rfl
      rw [e2] at this
      exact this
    obtain ⟨c₂, i₂, len₂, hc₂, hd₂, hf₂⟩ := hend
    have hW' : U.WarmedH s₂.vm := hW₂
    have hcc : c₂ = c := by
      have h1 : s₂.code? g.method = U.code? g.method := by
        rw [State.code?_eq, State.code?_eq, hW'.alike.method?]
      exact Option.some.inj (hc₂.symm.trans (h1.trans h.code))
    subst hcc
    have hlen : len₂ = len := by rw [hdg] at hd₂; cases hd₂; rfl
    subst hlen
    have hs₂ : s₂ = (({ U with heap := s₂.heap, slotsUsed := s₂.slotsUsed } : State).setVm s₂.vm).setTop { g with pc := g.pc + len₂, stack := v.toList ++ g.stack } := by
      refine e3.trans ?_
      rw [hf₂, State.calling_eq h.top, State.setFrames_setFrames, State.setTop_of_frames _ hr', hr]
      rfl
    have hsame : U.sameButNew ({ U with heap := s₂.heap, slotsUsed := s₂.slotsUsed } : State) L mc ms := by
      refine ⟨?_, q2, q3, q4, q5, q6⟩
      obtain ⟨t, ht, -⟩ := State.frames_cons hr
      show ({ U with heap := s₂.heap, slotsUsed := s₂.slotsUsed } : State) = { U.setFrames U.frames with heap := s₂.heap, slotsUsed := s₂.slotsUsed }
      rw [State.setFrames_self ht]
    subst hg
    refine Or.inl ⟨v, ⟨(({ U with heap := s₂.heap, slotsUsed := s₂.slotsUsed } : State).setVm s₂.vm), Ls ++ L, c0 + mc, s0 + ms⟩,
      ⟨X.admits, X.cas, X.clock, X.frames, X.room, X.hears, X.method, X.code, (X.here.setHeapUsed s₂.heap s₂.slotsUsed).setVm hW'.alike, X.tail, State.WarmedH.trans X.warmed hW', X.limits, X.bytes, X.same.trans (hsame.setVm s.vm)⟩,
      ⟨g, mk, s₂, L, rfl, rfl, hqc, rfl, hL, rfl, rfl⟩, ?_⟩
    show Steps p.tables e below _ ((({ U with heap := s₂.heap, slotsUsed := s₂.slotsUsed } : State).setVm s₂.vm).setTop { g with pc := g.pc + len₂, stack := v.toList ++ g.stack })
    rw [← hs₂]
    exact hsteps
  · obtain ⟨e2, q2, q3, q4, q5, q6⟩ := id hsm
    have e3 : s₂ = ({ (U.calling g mk a).setFrames s₂.frames with heap := s₂.heap, slotsUsed := s₂.slotsUsed } : State).setVm s₂.vm := by
      have : s₂ = ({ s₂ with vm := (U.calling g mk a).vm } : State).setVm s₂.vm := rfl
      rw [e2] at this
      exact this
    have hf₂ : s₂.frames = .throwing q :: .java g :: U.frames.tail := hend
    have hW' : U.WarmedH s₂.vm := hW₂
    have hs₂ : s₂ = ((({ U with heap := s₂.heap, slotsUsed := s₂.slotsUsed } : State).setVm s₂.vm).setTop g).pushFrame (.throwing q) := by
      refine e3.trans ?_
      rw [hf₂, State.calling_eq h.top, State.setFrames_setFrames, State.pushFrame, State.frames_setTop _ hr', State.setTop_of_frames _ hr', State.setFrames_setFrames, hr]
      rfl
    have hsame : U.sameButNew ({ U with heap := s₂.heap, slotsUsed := s₂.slotsUsed } : State) L mc ms := by
      refine ⟨?_, q2, q3, q4, q5, q6⟩
      obtain ⟨t, ht, -⟩ := State.frames_cons hr
      show ({ U with heap := s₂.heap, slotsUsed := s₂.slotsUsed } : State) = { U.setFrames U.frames with heap := s₂.heap, slotsUsed := s₂.slotsUsed }
      rw [State.setFrames_self ht]
    subst hg
    refine Or.inr ⟨q, ⟨(({ U with heap := s₂.heap, slotsUsed := s₂.slotsUsed } : State).setVm s₂.vm), Ls ++ L, c0 + mc, s0 + ms⟩,
      ⟨X.admits, X.cas, X.clock, X.frames, X.room, X.hears, X.method, X.code, (X.here.setHeapUsed s₂.heap s₂.slotsUsed).setVm hW'.alike, X.tail, State.WarmedH.trans X.warmed hW', X.limits, X.bytes, X.same.trans (hsame.setVm s.vm)⟩,
      ⟨g, mk, s₂, L, E, ce, rfl, rfl, hx, hce, hcv, hcl, rfl, hL, rfl, rfl⟩, ?_⟩
    show Steps p.tables e below _ (((({ U with heap := s₂.heap, slotsUsed := s₂.slotsUsed } : State).setVm s₂.vm).setTop g).pushFrame (.throwing q))
    rw [← hs₂]
    exact hsteps
end Payer
section Calls
variable {p : Program} {l : Launch} {e : Env} {R : Room} {s : State} {m : MethodId} {args : Array Value} {below : List Frame} {meth : Method} {c : Code} {T : State} {locs : List Loc} {cells slots : Nat}
theorem vx_callV (X : Stand p l e R s m args below meth c T locs cells slots) (hexec : p.tables.exec = Jvm.exec) {own C : String} {index : Nat} {y : MethodName} {bytes : ByteArray} {maxL : Nat} {ret : Option FieldType}
    (hown : s.vm.findClass own = some m.cls) (hlink : (Cond.methodLink own index y).before args s = true) (hinst : (Cond.instanceMethod y).before args s = true) (hsel : (Cond.selects C y y).before args s = true)
    (hcode : (Cond.code y bytes maxL ret).before args s = true) (hy : y.cls ≠ "java/lang/invoke/MethodHandle" ∧ y.cls ≠ "java/lang/invoke/VarHandle")
    {W9 : Nat} {Pre : Pt → Array Value → Prop} {Post : Pt → Array Value → Option Value → Pt → Prop} {PostX : Pt → Array Value → Addr → Pt → Prop} (hK : vx_Back l R p e below s args y 3 W9 Pre Post PostX)
    {b : Addr} {cellB : Cell} (hcell : T.heap[b]? = some cellB) (hobj : cellB.vm.isStatics = false) (hcls : s.vm.findClass C = some cellB.cls)
    {g : JFrame} (hg : g.method = m) (hsize : g.locals.size = c.maxLocals) {argsL rest : List Value} (hlen : ∀ sig, parseMethodDescriptor y.desc = some sig → argsL.length = sig.parameters.length)
    (hstack : g.stack = argsL.reverse ++ .ref b :: rest) (hW : 2 * g.monitorRoom + (rest.map fun v => v.category).sum ≤ W9) (hdg : decode c.code g.pc = .ok (.invokevirtual index, 3))
    (hpre : ∀ vm₁, s.WarmedH vm₁ → Pre ⟨T.setVm vm₁, locs, cells, slots⟩ (Value.ref b :: argsL).toArray) :
    (∃ (v : Option Value) (vm₁ : Vm) (B : Pt), s.WarmedH vm₁ ∧ Stand p l e R s m args below meth c B.U B.locs B.cells B.slots ∧ Post ⟨T.setVm vm₁, locs, cells, slots⟩ (Value.ref b :: argsL).toArray v B ∧
      ∀ target, Steps p.tables e below (B.U.setTop { g with pc := g.pc + 3, stack := v.toList ++ rest }) target → Steps p.tables e below (T.setTop g) target) ∨
    (∃ (q : Addr) (vm₁ : Vm) (B : Pt), s.WarmedH vm₁ ∧ Stand p l e R s m args below meth c B.U B.locs B.cells B.slots ∧ PostX ⟨T.setVm vm₁, locs, cells, slots⟩ (Value.ref b :: argsL).toArray q B ∧
      Steps p.tables e below (T.setTop g) ((B.U.setTop { g with stack := rest }).pushFrame (.throwing q))) := by
  obtain ⟨mk, methM, hnamed, hmethM, hstM, habM⟩ := Cond.instanceMethod_spec hinst
  obtain ⟨methM', cM, hmethM', -, -, -, -, -, -, hsigM⟩ := Cond.code_spec hnamed hcode
  cases hmethM.symm.trans hmethM'
  obtain ⟨c2, r2, m2, q1, q2, q3, q4, kP, hkP, hkPi⟩ := Cond.selects_spec hsel
  cases hcls.symm.trans q1
  cases (State.methodFound?_of_named hnamed hy).symm.trans q2
  cases hnamed.symm.trans q3
  have hselP : selectMethod e.platform s.vm cellB.cls mk = .method mk := by rw [Launch.admits_selectMethod X.admits]; exact q4
  obtain ⟨vm₁, X₁, hstep₁⟩ := X.invokevirtual hexec hown hlink hnamed hmethM hstM hkP hkPi hy (a := b) (cell := cellB) hcell
    (fun z h => by rw [h] at hobj; cases hobj) hselP hmethM habM hkP hkPi (g := g) hg (argsL := argsL) (rest := rest) (hlen _ hsigM) hstack hdg
  rcases hK m meth c ⟨T.setVm vm₁, locs, cells, slots⟩ { g with stack := rest } (.invokevirtual index) mk (Value.ref b :: argsL).toArray X₁ hg hsize hdg hW (X₁.named hnamed) (hpre vm₁ X₁.warmed) with ⟨v, B, X', hpost, hsteps⟩ | ⟨q, B, X', hpost, hsteps⟩
  · exact Or.inl ⟨v, vm₁, B, X₁.warmed, X', hpost, fun target h => hstep₁ _ fun acts => by rw [doInvoke_state]; exact hsteps.trans h⟩
  · exact Or.inr ⟨q, vm₁, B, X₁.warmed, X', hpost, hstep₁ _ fun acts => by rw [doInvoke_state]; exact hsteps⟩
theorem vx_callS (X : Stand p l e R s m args below meth c T locs cells slots) (hexec : p.tables.exec = Jvm.exec) {own : String} {index : Nat} {y : MethodName} {bytes : ByteArray} {maxL : Nat} {ret : Option FieldType}
    (hown : s.vm.findClass own = some m.cls) (hlink : (Cond.methodLink own index y).before args s = true) (hstat : (Cond.static y).before args s = true) (hinit : (Cond.initialized y.cls).before args s = true)
    (hcode : (Cond.code y bytes maxL ret).before args s = true) (hy : y.cls ≠ "java/lang/invoke/MethodHandle" ∧ y.cls ≠ "java/lang/invoke/VarHandle")
    {W9 : Nat} {Pre : Pt → Array Value → Prop} {Post : Pt → Array Value → Option Value → Pt → Prop} {PostX : Pt → Array Value → Addr → Pt → Prop} (hK : vx_Back l R p e below s args y 3 W9 Pre Post PostX)
    {g : JFrame} (hg : g.method = m) (hsize : g.locals.size = c.maxLocals) {argsL rest : List Value} (hlen : ∀ sig, parseMethodDescriptor y.desc = some sig → argsL.length = sig.parameters.length)
    (hstack : g.stack = argsL.reverse ++ rest) (hW : 2 * g.monitorRoom + (rest.map fun v => v.category).sum ≤ W9) (hdg : decode c.code g.pc = .ok (.invokestatic index, 3))
    (hpre : ∀ vm₁, s.WarmedH vm₁ → Pre ⟨T.setVm vm₁, locs, cells, slots⟩ argsL.toArray) :
    (∃ (v : Option Value) (vm₁ : Vm) (B : Pt), s.WarmedH vm₁ ∧ Stand p l e R s m args below meth c B.U B.locs B.cells B.slots ∧ Post ⟨T.setVm vm₁, locs, cells, slots⟩ argsL.toArray v B ∧
      ∀ target, Steps p.tables e below (B.U.setTop { g with pc := g.pc + 3, stack := v.toList ++ rest }) target → Steps p.tables e below (T.setTop g) target) ∨
    (∃ (q : Addr) (vm₁ : Vm) (B : Pt), s.WarmedH vm₁ ∧ Stand p l e R s m args below meth c B.U B.locs B.cells B.slots ∧ PostX ⟨T.setVm vm₁, locs, cells, slots⟩ argsL.toArray q B ∧
      Steps p.tables e below (T.setTop g) ((B.U.setTop { g with stack := rest }).pushFrame (.throwing q))) := by
  obtain ⟨mk, hnamed⟩ := Cond.code_named hcode
  obtain ⟨methM, cM, hmethM, -, -, -, -, -, -, hsigM⟩ := Cond.code_spec hnamed hcode
  have hstatic : methM.isStatic = true := Cond.static_spec hnamed hmethM hstat
  obtain ⟨kP, hkP, -⟩ := className_of_methodNamed hnamed
  have hinitP : kP.init = .initialized := Cond.initialized_spec (findClass_of_methodNamed hnamed) hkP hinit
  obtain ⟨vm₁, X₁, hstep₁⟩ := X.invokestatic hexec hown hlink hnamed hmethM hstatic hkP hinitP hy (g := g) hg (argsL := argsL) (rest := rest) (hlen _ hsigM) hstack hdg
  rcases hK m meth c ⟨T.setVm vm₁, locs, cells, slots⟩ { g with stack := rest } (.invokestatic index) mk argsL.toArray X₁ hg hsize hdg hW (X₁.named hnamed) (hpre vm₁ X₁.warmed) with ⟨v, B, X', hpost, hsteps⟩ | ⟨q, B, X', hpost, hsteps⟩
  · exact Or.inl ⟨v, vm₁, B, X₁.warmed, X', hpost, fun target h => hstep₁ _ fun acts => by rw [doInvoke_state]; exact hsteps.trans h⟩
  · exact Or.inr ⟨q, vm₁, B, X₁.warmed, X', hpost, hstep₁ _ fun acts => by rw [doInvoke_state]; exact hsteps⟩
end Calls
theorem vx_cls {s : State} {T : State} {vm₁ : Vm} {E : String} {k : ClassId} (hW : s.WarmedH vm₁) (h : (T.setVm vm₁).vm.findClass E = some k) : s.vm.findClass E = some k := by
  have h1 : vm₁.findClass E = some k := h
  rw [hW.alike.findClass] at h1
  exact h1
/-- the method's frame g, with q thrown over it -/
def vx_W (p : Program) (l : Launch) (e : Env) (R : Room) (s : State) (m : MethodId) (args : Array Value) (below : List Frame) (meth : Method) (c : Code) (H : Heap) (locs : List Loc) (cells slots : Nat) (Q : State → Prop) (g : JFrame) (q : Addr) : Prop :=
  ∀ T : State, T.heap = H → Stand p l e R s m args below meth c T locs cells slots → ∃ t, Steps p.tables e below ((T.setTop g).pushFrame (.throwing q)) t ∧ Q t
def vx_Run (p : Program) (l : Launch) (e : Env) (R : Room) (s : State) (m : MethodId) (args : Array Value) (below : List Frame) (meth : Method) (c : Code) (H : Heap) (locs : List Loc) (cells slots mc ms : Nat) (g : JFrame) (rest : List Value) (Qa : State → Outcome → State → Prop) (XC : String → State → State → Prop) (free : Addr → Prop) : Prop :=
  ∀ T : State, T.heap = H → Stand p l e R s m args below meth c T locs cells slots →
    (∃ (v : Option Value) (st₀ t T' : State) (L : List Loc), st₀.heap = H ∧ Stand p l e R s m args below meth c T' (locs ++ L) (cells + mc) (slots + ms) ∧ (∀ q ∈ L, free q.base) ∧ T'.heap = t.heap ∧ T'.vm = t.vm ∧ Qa st₀ (.returned v) t ∧
      Goes p e below T g T' { g with pc := g.pc + 3, stack := v.toList ++ rest }) ∨
    (∃ (q : Addr) (st₀ t T' : State) (L : List Loc) (E : String) (ce : Cell), st₀.heap = H ∧ Stand p l e R s m args below meth c T' (locs ++ L) (cells + mc) (slots + ms) ∧ (∀ z ∈ L, free z.base) ∧ T'.heap = t.heap ∧ T'.vm = t.vm ∧ XC E st₀ t ∧ t.heap[q]? = some ce ∧ ce.vm = .none ∧ s.vm.findClass E = some ce.cls ∧
      Steps p.tables e below (T.setTop g) ((T'.setTop { g with stack := rest }).pushFrame (.throwing q)))
def vx_X {S : Type} (px : S → Prop) (B : String → S → State → Prop) (A : Nat → Prop) : String → State → State → Prop := fun E st t => ∃ u : S, px u ∧ B E u t ∧ va_F A st t
section Runs
variable {p : Program} {l : Launch} {e : Env} {R : Room} {s : State} {m : MethodId} {args : Array Value} {below : List Frame} {meth : Method} {c : Code} {H : Heap} {locs : List Loc} {cells slots : Nat}
variable {y : MethodName} {bytes cc : ByteArray} {maxL nL mc ms n index : Nat} {ret : Option FieldType} {ws : List Cond} {rm : Room} {Pc : Array Value → State → Prop} {Qc : Array Value → State → Outcome → State → Prop} {XC : String → State → State → Prop} {free : Addr → Prop} {Ts : List Cond} {own C : String} {b : Addr} {As rest : List Value} {g : JFrame}
theorem vx_callBack (cb : CallB R s args own index y bytes maxL ret ws rm mc ms n) (hM : vx_Met l y ws rm Pc Qc XC mc ms free) (hbl : FrameBlind Pc) : vx_Back l R p e below s args y 3 8 (PreOf R mc ms Pc) (PostOf Qc mc ms free) (vx_Post XC mc ms free) := by
  obtain ⟨hrc, hrs, hfr, hlo, hws, hcw, -, hini, -⟩ := cb
  exact vx_back (bytes := bytes) (maxL := maxL) (ret := ret) hM hbl hrc hrs hfr hlo hws hcw (fun a' U hW => word_at hW (Or.inl (by first | rfl | simp [Cond.onTables, Cond.keeps, Cond.steady])) hini)
theorem vx_runV (S : CallFix p m c cc nL s args Ts own) (hM : vx_Met l y ws rm Pc Qc XC mc ms free) (cw : CallW R s args own C index y bytes maxL ret ws rm mc ms n) (hp : PreV s H C b Pc As)
    (hg : g.method = m) (hn : As.length = n) (hsize : g.locals.size = nL) (hstack : g.stack = As.reverse ++ .ref b :: rest) (hW : 2 * g.monitorRoom + (rest.map fun v => v.category).sum ≤ 8) (hdg : decode cc g.pc = .ok (.invokevirtual index, 3)) (hf : cells + mc ≤ R.cells ∧ slots + ms ≤ R.slots) :
    vx_Run p l e R s m args below meth c H locs cells slots mc ms g rest (Qc (Value.ref b :: As).toArray) XC free := by
  have hK : vx_Back l R p e below s args y 3 8 (PreOf R mc ms Pc) (PostOf Qc mc ms free) (vx_Post XC mc ms free) := vx_callBack cw.1 hM hp.1
  obtain ⟨⟨-, -, -, -, -, -, hcode, -, hy, hlen, hl⟩, hin, hse⟩ := cw
  obtain ⟨hx, hb, hml, ho, -⟩ := S
  obtain ⟨-, ⟨cellB, hcB, hoB, hclB⟩, hPc⟩ := hp
  intro T hT X
  rcases vx_callV X hx (C := C) (bytes := bytes) (maxL := maxL) (ret := ret) ho hl hin hse hcode hy hK (by rw [hT]; exact hcB) hoB hclB hg (hsize.trans hml.symm) (argsL := As) (rest := rest) (fun sig h => hn.trans (hlen sig h)) hstack hW (by rw [hb]; exact hdg)
    (fun vm₁ hW₁ => ⟨hf.1, hf.2, hPc (T.setVm vm₁) hT hW₁⟩) with ⟨v, vm₁, ⟨U', l2, c2, s2⟩, hW₁, X', ⟨g', mk, t, L, e1, e2, hq, h1, hL, h2, h3⟩, st⟩ | ⟨q, vm₁, ⟨U', l2, c2, s2⟩, hW₁, X', ⟨g', mk, t, L, E, ce, e1, e2, hq, hce, hcv, hcl, h1, hL, h2, h3⟩, st⟩
  · dsimp only [Pt.U, Pt.locs, Pt.cells, Pt.slots] at X' e1 e2 h1 h2 h3 st
    subst h1; subst h2; subst h3
    exact Or.inl ⟨v, (T.setVm vm₁).calling g' mk (Value.ref b :: As).toArray, t, U', L, hT, X', hL, e1, e2, hq, st⟩
  · dsimp only [Pt.U, Pt.locs, Pt.cells, Pt.slots] at X' e1 e2 h1 h2 h3 st hcl
    subst h1; subst h2; subst h3
    exact Or.inr ⟨q, (T.setVm vm₁).calling g' mk (Value.ref b :: As).toArray, t, U', L, E, ce, hT, X', hL, e1, e2, hq, hce, hcv, vx_cls hW₁ hcl, st⟩
theorem vx_runS (S : CallFix p m c cc nL s args Ts own) (hM : vx_Met l y ws rm Pc Qc XC mc ms free) (cw : CallB R s args own index y bytes maxL ret ws rm mc ms n ∧ (Cond.static y).before args s = true) (hp : PreS s H Pc As)
    (hg : g.method = m) (hn : As.length = n) (hsize : g.locals.size = nL) (hstack : g.stack = As.reverse ++ rest) (hW : 2 * g.monitorRoom + (rest.map fun v => v.category).sum ≤ 8) (hdg : decode cc g.pc = .ok (.invokestatic index, 3)) (hf : cells + mc ≤ R.cells ∧ slots + ms ≤ R.slots) :
    vx_Run p l e R s m args below meth c H locs cells slots mc ms g rest (Qc As.toArray) XC free := by
  have hK : vx_Back l R p e below s args y 3 8 (PreOf R mc ms Pc) (PostOf Qc mc ms free) (vx_Post XC mc ms free) := vx_callBack cw.1 hM hp.1
  obtain ⟨⟨-, -, -, -, -, -, hcode, hini, hy, hlen, hl⟩, hstt⟩ := cw
  obtain ⟨hx, hb, hml, ho, -⟩ := S
  intro T hT X
  rcases vx_callS X hx (bytes := bytes) (maxL := maxL) (ret := ret) ho hl hstt hini hcode hy hK hg (hsize.trans hml.symm) (argsL := As) (rest := rest) (fun sig h => hn.trans (hlen sig h)) hstack hW (by rw [hb]; exact hdg)
    (fun vm₁ hW₁ => ⟨hf.1, hf.2, hp.2 (T.setVm vm₁) hT hW₁⟩) with ⟨v, vm₁, ⟨U', l2, c2, s2⟩, hW₁, X', ⟨g', mk, t, L, e1, e2, hq, h1, hL, h2, h3⟩, st⟩ | ⟨q, vm₁, ⟨U', l2, c2, s2⟩, hW₁, X', ⟨g', mk, t, L, E, ce, e1, e2, hq, hce, hcv, hcl, h1, hL, h2, h3⟩, st⟩
  · dsimp only [Pt.U, Pt.locs, Pt.cells, Pt.slots] at X' e1 e2 h1 h2 h3 st
    subst h1; subst h2; subst h3
    exact Or.inl ⟨v, (T.setVm vm₁).calling g' mk As.toArray, t, U', L, hT, X', hL, e1, e2, hq, st⟩
  · dsimp only [Pt.U, Pt.locs, Pt.cells, Pt.slots] at X' e1 e2 h1 h2 h3 st hcl
    subst h1; subst h2; subst h3
    exact Or.inr ⟨q, (T.setVm vm₁).calling g' mk As.toArray, t, U', L, E, ce, hT, X', hL, e1, e2, hq, hce, hcv, vx_cls hW₁ hcl, st⟩
end Runs
section Rows
variable {p : Program} {l : Launch} {e : Env} {R : Room} {s : State} {m : MethodId} {args : Array Value} {below : List Frame} {meth : Method} {c : Code} {H : Heap} {locs : List Loc} {cells slots : Nat} {Q : State → Prop}
variable {mc ms : Nat} {free : Addr → Prop} {A0 A1 : Nat → Prop} {H0 : Heap} {a : Array Value} {pc : Nat} {ls : Array Slot} {st0 rest : List Value}
theorem vx_keep {st₀ t T' : State} {L : List Loc} (h0 : st₀.heap = H) (e1 : T'.heap = t.heap) (hS : va_S A0 H0 H locs) (hA : ∀ q, q < H.size → A1 q → A0 q) (hf : ∀ q, free q → A0 q) (hL : ∀ q ∈ L, free q.base) (hF : va_F A1 st₀ t) :
    H.size ≤ T'.heap.size ∧ (∀ q : Nat, q < H.size → ¬ A1 q → T'.heap[q]? = H[q]?) ∧ va_S A0 H0 T'.heap (locs ++ L) := by
  obtain ⟨hz, hk⟩ := hF
  rw [h0] at hz hk
  exact ⟨by rw [e1]; exact hz, fun q h1 h2 => by rw [e1]; exact hk q h1 h2,
    ⟨Nat.le_trans hS.1 (by rw [e1]; exact hz), fun q h1 h2 => by rw [e1, hk q (Nat.lt_of_lt_of_le h1 hS.1) (fun z => h2 (hA q (Nat.lt_of_lt_of_le h1 hS.1) z))]; exact hS.2.1 q h1 h2, fun q hq => by
      rcases List.mem_append.mp hq with h | h
      · exact hS.2.2 q h
      · exact hf _ (hL q h)⟩⟩
theorem vx_calli {S SX : Type} {post : Int32 → S → Prop} {px : SX → Prop} {B : S → State → Prop} {BX : String → SX → State → Prop} {AX : Nat → Prop} (hr : vx_Run p l e R s m args below meth c H locs cells slots mc ms (F0 m pc ls st0) rest (va_Qi post B A1 a) (vx_X px BX AX) free) (hS : va_S A0 H0 H locs) (hA : ∀ q, q < H.size → A1 q → A0 q) (hf : ∀ q, free q → A0 q) (hAX : ∀ q, q < H.size → AX q → A0 q)
    (kx : ∀ (E : String) (ce : Cell) (q9 : Addr) (u : SX) (t : State) (H1 : Heap) (locs1 : List Loc), t.heap = H1 → s.vm.Alike t.vm → px u → BX E u t → H.size ≤ H1.size → (∀ q : Nat, q < H.size → ¬ AX q → H1[q]? = H[q]?) → va_S A0 H0 H1 locs1 → H1[q9]? = some ce → ce.vm = .none → s.vm.findClass E = some ce.cls → vx_W p l e R s m args below meth c H1 locs1 (cells + mc) (slots + ms) Q (F0 m pc ls rest) q9)
    (kk : ∀ (r : Int32) (u : S) (t : State) (H1 : Heap) (locs1 : List Loc), t.heap = H1 → s.vm.Alike t.vm → post r u → B u t → H.size ≤ H1.size → (∀ q : Nat, q < H.size → ¬ A1 q → H1[q]? = H[q]?) → va_S A0 H0 H1 locs1 → W p l e R s m args below meth c H1 locs1 (cells + mc) (slots + ms) Q (F0 m (pc + 3) ls (.int r :: rest))) : W p l e R s m args below meth c H locs cells slots Q (F0 m pc ls st0) := by
  intro T hT X
  rcases hr T hT X with ⟨v, st₀, t, T', L, h0, X', hL, e1, e2, ⟨⟨r, u, hv, hp, hb⟩, hF⟩, st⟩ | ⟨q, st₀, t, T', L, E, ce, h0, X', hL, e1, e2, ⟨u, hp, hb, hF⟩, hce, hcv, hcl, st⟩
  · cases hv
    obtain ⟨k1, k2, k3⟩ := vx_keep h0 e1 hS hA hf hL hF
    obtain ⟨t2, a1, b1⟩ := kk r u t T'.heap (locs ++ L) e1.symm (by rw [← e2]; exact X'.warmed.alike) hp hb k1 k2 k3 T' rfl X'
    exact ⟨t2, st t2 a1, b1⟩
  · obtain ⟨k1, k2, k3⟩ := vx_keep h0 e1 hS hAX hf hL hF
    obtain ⟨t2, a1, b1⟩ := kx E ce q u t T'.heap (locs ++ L) e1.symm (by rw [← e2]; exact X'.warmed.alike) hp hb k1 k2 k3 (by rw [e1]; exact hce) hcv hcl T' rfl X'
    exact ⟨t2, st.trans a1, b1⟩
theorem vx_calll {S SX : Type} {post : Int64 → S → Prop} {px : SX → Prop} {B : S → State → Prop} {BX : String → SX → State → Prop} {AX : Nat → Prop} (hr : vx_Run p l e R s m args below meth c H locs cells slots mc ms (F0 m pc ls st0) rest (va_Ql post B A1 a) (vx_X px BX AX) free) (hS : va_S A0 H0 H locs) (hA : ∀ q, q < H.size → A1 q → A0 q) (hf : ∀ q, free q → A0 q) (hAX : ∀ q, q < H.size → AX q → A0 q)
    (kx : ∀ (E : String) (ce : Cell) (q9 : Addr) (u : SX) (t : State) (H1 : Heap) (locs1 : List Loc), t.heap = H1 → s.vm.Alike t.vm → px u → BX E u t → H.size ≤ H1.size → (∀ q : Nat, q < H.size → ¬ AX q → H1[q]? = H[q]?) → va_S A0 H0 H1 locs1 → H1[q9]? = some ce → ce.vm = .none → s.vm.findClass E = some ce.cls → vx_W p l e R s m args below meth c H1 locs1 (cells + mc) (slots + ms) Q (F0 m pc ls rest) q9)
    (kk : ∀ (r : Int64) (u : S) (t : State) (H1 : Heap) (locs1 : List Loc), t.heap = H1 → s.vm.Alike t.vm → post r u → B u t → H.size ≤ H1.size → (∀ q : Nat, q < H.size → ¬ A1 q → H1[q]? = H[q]?) → va_S A0 H0 H1 locs1 → W p l e R s m args below meth c H1 locs1 (cells + mc) (slots + ms) Q (F0 m (pc + 3) ls (.long r :: rest))) : W p l e R s m args below meth c H locs cells slots Q (F0 m pc ls st0) := by
  intro T hT X
  rcases hr T hT X with ⟨v, st₀, t, T', L, h0, X', hL, e1, e2, ⟨⟨r, u, hv, hp, hb⟩, hF⟩, st⟩ | ⟨q, st₀, t, T', L, E, ce, h0, X', hL, e1, e2, ⟨u, hp, hb, hF⟩, hce, hcv, hcl, st⟩
  · cases hv
    obtain ⟨k1, k2, k3⟩ := vx_keep h0 e1 hS hA hf hL hF
    obtain ⟨t2, a1, b1⟩ := kk r u t T'.heap (locs ++ L) e1.symm (by rw [← e2]; exact X'.warmed.alike) hp hb k1 k2 k3 T' rfl X'
    exact ⟨t2, st t2 a1, b1⟩
  · obtain ⟨k1, k2, k3⟩ := vx_keep h0 e1 hS hAX hf hL hF
    obtain ⟨t2, a1, b1⟩ := kx E ce q u t T'.heap (locs ++ L) e1.symm (by rw [← e2]; exact X'.warmed.alike) hp hb k1 k2 k3 (by rw [e1]; exact hce) hcv hcl T' rfl X'
    exact ⟨t2, st.trans a1, b1⟩
theorem vx_callf {S SX : Type} {post : UInt32 → S → Prop} {px : SX → Prop} {B : S → State → Prop} {BX : String → SX → State → Prop} {AX : Nat → Prop} (hr : vx_Run p l e R s m args below meth c H locs cells slots mc ms (F0 m pc ls st0) rest (va_Qf post B A1 a) (vx_X px BX AX) free) (hS : va_S A0 H0 H locs) (hA : ∀ q, q < H.size → A1 q → A0 q) (hf : ∀ q, free q → A0 q) (hAX : ∀ q, q < H.size → AX q → A0 q)
    (kx : ∀ (E : String) (ce : Cell) (q9 : Addr) (u : SX) (t : State) (H1 : Heap) (locs1 : List Loc), t.heap = H1 → s.vm.Alike t.vm → px u → BX E u t → H.size ≤ H1.size → (∀ q : Nat, q < H.size → ¬ AX q → H1[q]? = H[q]?) → va_S A0 H0 H1 locs1 → H1[q9]? = some ce → ce.vm = .none → s.vm.findClass E = some ce.cls → vx_W p l e R s m args below meth c H1 locs1 (cells + mc) (slots + ms) Q (F0 m pc ls rest) q9)
    (kk : ∀ (r : UInt32) (u : S) (t : State) (H1 : Heap) (locs1 : List Loc), t.heap = H1 → s.vm.Alike t.vm → post r u → B u t → H.size ≤ H1.size → (∀ q : Nat, q < H.size → ¬ A1 q → H1[q]? = H[q]?) → va_S A0 H0 H1 locs1 → W p l e R s m args below meth c H1 locs1 (cells + mc) (slots + ms) Q (F0 m (pc + 3) ls (.float r :: rest))) : W p l e R s m args below meth c H locs cells slots Q (F0 m pc ls st0) := by
  intro T hT X
  rcases hr T hT X with ⟨v, st₀, t, T', L, h0, X', hL, e1, e2, ⟨⟨r, u, hv, hp, hb⟩, hF⟩, st⟩ | ⟨q, st₀, t, T', L, E, ce, h0, X', hL, e1, e2, ⟨u, hp, hb, hF⟩, hce, hcv, hcl, st⟩
  · cases hv
    obtain ⟨k1, k2, k3⟩ := vx_keep h0 e1 hS hA hf hL hF
    obtain ⟨t2, a1, b1⟩ := kk r u t T'.heap (locs ++ L) e1.symm (by rw [← e2]; exact X'.warmed.alike) hp hb k1 k2 k3 T' rfl X'
    exact ⟨t2, st t2 a1, b1⟩
  · obtain ⟨k1, k2, k3⟩ := vx_keep h0 e1 hS hAX hf hL hF
    obtain ⟨t2, a1, b1⟩ := kx E ce q u t T'.heap (locs ++ L) e1.symm (by rw [← e2]; exact X'.warmed.alike) hp hb k1 k2 k3 (by rw [e1]; exact hce) hcv hcl T' rfl X'
    exact ⟨t2, st.trans a1, b1⟩
theorem vx_calld {S SX : Type} {post : UInt64 → S → Prop} {px : SX → Prop} {B : S → State → Prop} {BX : String → SX → State → Prop} {AX : Nat → Prop} (hr : vx_Run p l e R s m args below meth c H locs cells slots mc ms (F0 m pc ls st0) rest (va_Qd post B A1 a) (vx_X px BX AX) free) (hS : va_S A0 H0 H locs) (hA : ∀ q, q < H.size → A1 q → A0 q) (hf : ∀ q, free q → A0 q) (hAX : ∀ q, q < H.size → AX q → A0 q)
    (kx : ∀ (E : String) (ce : Cell) (q9 : Addr) (u : SX) (t : State) (H1 : Heap) (locs1 : List Loc), t.heap = H1 → s.vm.Alike t.vm → px u → BX E u t → H.size ≤ H1.size → (∀ q : Nat, q < H.size → ¬ AX q → H1[q]? = H[q]?) → va_S A0 H0 H1 locs1 → H1[q9]? = some ce → ce.vm = .none → s.vm.findClass E = some ce.cls → vx_W p l e R s m args below meth c H1 locs1 (cells + mc) (slots + ms) Q (F0 m pc ls rest) q9)
    (kk : ∀ (r : UInt64) (u : S) (t : State) (H1 : Heap) (locs1 : List Loc), t.heap = H1 → s.vm.Alike t.vm → post r u → B u t → H.size ≤ H1.size → (∀ q : Nat, q < H.size → ¬ A1 q → H1[q]? = H[q]?) → va_S A0 H0 H1 locs1 → W p l e R s m args below meth c H1 locs1 (cells + mc) (slots + ms) Q (F0 m (pc + 3) ls (.double r :: rest))) : W p l e R s m args below meth c H locs cells slots Q (F0 m pc ls st0) := by
  intro T hT X
  rcases hr T hT X with ⟨v, st₀, t, T', L, h0, X', hL, e1, e2, ⟨⟨r, u, hv, hp, hb⟩, hF⟩, st⟩ | ⟨q, st₀, t, T', L, E, ce, h0, X', hL, e1, e2, ⟨u, hp, hb, hF⟩, hce, hcv, hcl, st⟩
  · cases hv
    obtain ⟨k1, k2, k3⟩ := vx_keep h0 e1 hS hA hf hL hF
    obtain ⟨t2, a1, b1⟩ := kk r u t T'.heap (locs ++ L) e1.symm (by rw [← e2]; exact X'.warmed.alike) hp hb k1 k2 k3 T' rfl X'
    exact ⟨t2, st t2 a1, b1⟩
  · obtain ⟨k1, k2, k3⟩ := vx_keep h0 e1 hS hAX hf hL hF
    obtain ⟨t2, a1, b1⟩ := kx E ce q u t T'.heap (locs ++ L) e1.symm (by rw [← e2]; exact X'.warmed.alike) hp hb k1 k2 k3 (by rw [e1]; exact hce) hcv hcl T' rfl X'
    exact ⟨t2, st.trans a1, b1⟩
theorem vx_callv {S SX : Type} {post : S → Prop} {px : SX → Prop} {B : S → State → Prop} {BX : String → SX → State → Prop} {AX : Nat → Prop} (hr : vx_Run p l e R s m args below meth c H locs cells slots mc ms (F0 m pc ls st0) rest (va_Qv post B A1 a) (vx_X px BX AX) free) (hS : va_S A0 H0 H locs) (hA : ∀ q, q < H.size → A1 q → A0 q) (hf : ∀ q, free q → A0 q) (hAX : ∀ q, q < H.size → AX q → A0 q)
    (kx : ∀ (E : String) (ce : Cell) (q9 : Addr) (u : SX) (t : State) (H1 : Heap) (locs1 : List Loc), t.heap = H1 → s.vm.Alike t.vm → px u → BX E u t → H.size ≤ H1.size → (∀ q : Nat, q < H.size → ¬ AX q → H1[q]? = H[q]?) → va_S A0 H0 H1 locs1 → H1[q9]? = some ce → ce.vm = .none → s.vm.findClass E = some ce.cls → vx_W p l e R s m args below meth c H1 locs1 (cells + mc) (slots + ms) Q (F0 m pc ls rest) q9)
    (kk : ∀ (u : S) (t : State) (H1 : Heap) (locs1 : List Loc), t.heap = H1 → s.vm.Alike t.vm → post u → B u t → H.size ≤ H1.size → (∀ q : Nat, q < H.size → ¬ A1 q → H1[q]? = H[q]?) → va_S A0 H0 H1 locs1 → W p l e R s m args below meth c H1 locs1 (cells + mc) (slots + ms) Q (F0 m (pc + 3) ls (rest))) : W p l e R s m args below meth c H locs cells slots Q (F0 m pc ls st0) := by
  intro T hT X
  rcases hr T hT X with ⟨v, st₀, t, T', L, h0, X', hL, e1, e2, ⟨⟨u, hv, hp, hb⟩, hF⟩, st⟩ | ⟨q, st₀, t, T', L, E, ce, h0, X', hL, e1, e2, ⟨u, hp, hb, hF⟩, hce, hcv, hcl, st⟩
  · cases hv
    obtain ⟨k1, k2, k3⟩ := vx_keep h0 e1 hS hA hf hL hF
    obtain ⟨t2, a1, b1⟩ := kk u t T'.heap (locs ++ L) e1.symm (by rw [← e2]; exact X'.warmed.alike) hp hb k1 k2 k3 T' rfl X'
    exact ⟨t2, st t2 a1, b1⟩
  · obtain ⟨k1, k2, k3⟩ := vx_keep h0 e1 hS hAX hf hL hF
    obtain ⟨t2, a1, b1⟩ := kx E ce q u t T'.heap (locs ++ L) e1.symm (by rw [← e2]; exact X'.warmed.alike) hp hb k1 k2 k3 (by rw [e1]; exact hce) hcv hcl T' rfl X'
    exact ⟨t2, st.trans a1, b1⟩
/-- caught by the row x of this method's table; the rows ahead don't take it -/
theorem vx_catch {own name : String} {E : String} {ce : Cell} {q : Addr} (hown : s.vm.findClass own = some m.cls) (pre : List ExceptionTableEntry) (x : ExceptionTableEntry) (suf : List ExceptionTableEntry) (hsplit : c.exceptionTable.toList = pre ++ x :: suf)
    (hpass : ∀ z ∈ pre, covers z pc = false ∨ (z.catchType ≠ 0 ∧ ∃ nm : String, (Cond.classLink own z.catchType nm).before args s = true ∧ va_Nc E nm s)) (hx : covers x pc = true) (h0 : x.catchType ≠ 0)
    (hlink : (Cond.classLink own x.catchType name).before args s = true) (hcast : (Cond.castable E name).before args s = true) (hcell : H[q]? = some ce) (hv : ce.vm = .none) (hcl : s.vm.findClass E = some ce.cls)
    (kk : W p l e R s m args below meth c H locs cells slots Q (F0 m x.handlerPc ls [.ref q])) : vx_W p l e R s m args below meth c H locs cells slots Q (F0 m pc ls rest) q := by
  intro T hT X
  have hpl : e.platform.magicAccessors = ({} : Platform).magicAccessors := by rw [X.admits.platform]
  obtain ⟨c3, c4, hc3, hc4, hasg⟩ := Cond.castable_spec hcast
  cases Option.some.inj (hc3.symm.trans hcl)
  obtain ⟨c5, hc5, hcl5⟩ := Cond.classLink_spec hown hlink e.platform hpl
  cases Option.some.inj (hc4.symm.trans hc5)
  obtain ⟨vm', X', st⟩ := X.thenCaughtThrough q (g := F0 m pc ls rest) rfl (Steps.refl _) (by rw [hT]; exact hcell) (by rw [hv]; rfl) (by obtain ⟨k9, h9, -⟩ := Vm.findClass_spec hcl; exact ⟨k9, h9⟩) pre x suf hsplit
    (fun z hz => by
      rcases hpass z hz with h | ⟨hz0, nm, hl1, hn1⟩
      · exact Or.inl h
      · obtain ⟨c6, hc6, hcl6⟩ := Cond.classLink_spec hown hl1 e.platform hpl
        obtain ⟨a8, b8, h1, h2, h3⟩ := hn1
        cases Option.some.inj (h1.symm.trans hcl)
        cases Option.some.inj (h2.symm.trans hc6)
        exact Or.inr ⟨hz0, _, hcl6, h3⟩) hx (Or.inr ⟨h0, c4, hcl5, hasg⟩)
  obtain ⟨t, a1, b1⟩ := kk (T.setVm vm') hT X'
  exact ⟨t, st.trans a1, b1⟩
end Rows
section Ends
variable {p : Program} {l : Launch} {e : Env} {R : Room} {s : State} {m : MethodId} {args : Array Value} {below : List Frame} {meth : Method} {c : Code} {H : Heap} {locs : List Loc} {cells slots : Nat} {Q : State → Prop}
variable {mc ms : Nat} {free : Addr → Prop} {A0 A1 : Nat → Prop} {H0 : Heap} {a : Array Value} {ls : Array Slot} {st0 rest : List Value}
variable {Qc : Array Value → State → Outcome → State → Prop} {XC : String → State → State → Prop}
/-- what a body that may throw owes at its end -/
def vx_MQ (below : List Frame) (Qc : Array Value → State → Outcome → State → Prop) (XC : String → State → State → Prop) (a : Array Value) (s : State) (mc ms : Nat) (free : Addr → Prop) : State → Prop := fun t =>
  ∃ o, t.status = .running ∧ Ended t below o ∧ vx_Q Qc XC mc ms free a s o t
theorem vx_ret {g : JFrame} {mc ms : Nat} (k : W p l e R s m args below meth c H locs cells slots (MQ below Qc args s mc ms free) g) : W p l e R s m args below meth c H locs cells slots (vx_MQ below Qc XC args s mc ms free) g := by
  intro T hT X
  obtain ⟨t, a1, o, b1, b2, b3, b4⟩ := k T hT X
  exact ⟨t, a1, o, b1, b2, Or.inl ⟨b3, b4⟩⟩
/-- not caught here: it goes on to the caller -/
theorem vx_widen {g : JFrame} {q : Addr} {k n : Nat} (h1 : cells ≤ k) (h2 : slots ≤ n) (kk : vx_W p l e R s m args below meth c H locs k n Q g q) : vx_W p l e R s m args below meth c H locs cells slots Q g q := fun T hT X => kk T hT (stand_widen X h1 h2)
theorem vx_out {pc : Nat} {E : String} {ce : Cell} {q : Addr} {mc ms : Nat} (hout : ∀ x ∈ c.exceptionTable.toList, covers x pc = false) (hlocks : meth.locks = false) (hcell : H[q]? = some ce) (hv : ce.vm = .none) (hcl : s.vm.findClass E = some ce.cls)
    (hx : ∀ t : State, t.heap = H → s.vm.Alike t.vm → XC E s t) (hf : ∀ z ∈ locs, free z.base) (hc : cells ≤ mc) (hs : slots ≤ ms) :
    vx_W p l e R s m args below meth c H locs cells slots (vx_MQ below Qc XC args s mc ms free) (F0 m pc ls rest) q := by
  intro T hT X
  obtain ⟨st1, hrun, hend, hW, hsm⟩ := X.leaveThrown q (g := F0 m pc ls rest) rfl rfl rfl hout hlocks
  have hcell9 : (T.setFrames (.throwing q :: below)).heap[q]? = some ce := by
    show T.heap[q]? = some ce
    rw [hT]; exact hcell
  exact ⟨_, st1, .threw q, hrun, hend, Or.inr ⟨q, rfl, E, ce, locs, hx _ hT hW.alike, hcell9, hv, hcl, hW, hsm.mono hc hs, hf⟩⟩
theorem vx_frame {U : State} {k n : Nat} (h : s.sameButNew ({ U with vm := s.vm } : State) locs k n) : s.heap.size ≤ U.heap.size ∧ ∀ q : Nat, q < s.heap.size → (∀ z ∈ locs, z.base ≠ q) → U.heap[q]? = s.heap[q]? := by
  obtain ⟨-, h2, -, -, -, h6⟩ := h
  refine ⟨h2, fun q hq hz => ?_⟩
  obtain ⟨c9, e1, e2, e3, e4⟩ := h6 q _ (Array.getElem?_eq_getElem hq)
  have hs : c9.slots = (s.heap[q]).slots := Array.ext_getElem? fun i => e4 i fun hm => hz _ hm rfl
  have h9 : c9 = s.heap[q] := by
    rw [hs] at e2
    exact e2
  have e5 : U.heap[q]? = some c9 := e1
  rw [e5, h9, Array.getElem?_eq_getElem hq]
/-- the words of a throw but the four that speak of the heap -/
def vx_no (w : Cond) : Bool := decide (w ≠ .isRef (.static Bundle.tN "UNASSIGNED_STACK" Bundle.steD)) && decide (w ≠ .isRef (.static Bundle.tN "SUPPRESSED_SENTINEL" Bundle.listD)) && decide (w ≠ .laysStatic Bundle.tN "UNASSIGNED_STACK" Bundle.steD) && decide (w ≠ .laysStatic Bundle.tN "SUPPRESSED_SENTINEL" Bundle.listD)
def vx_at0 (own : String) (ic : Nat) (X : String) (names : List String) : List Cond := (Bundle.ownAtoms0 own ic X names).filter vx_no
def vx_atS (own : String) (ic : Nat) (X : String) (names : List String) : List Cond := (Bundle.ownAtoms own ic X names).filter vx_no
/-- a word that the tables alone decide, or a good one -/
def vx_ot (w : Cond) : Bool := w.onTables || goodWord w
theorem vx_ot_at {args a' : Array Value} {s U : State} {w : Cond} (hW : s.WarmedH U.vm) (hvm : s.vm = U.vm) (hg : vx_ot w = true) (h : w.before args s = true) : w.before a' U = true := by
  simp only [vx_ot, Bool.or_eq_true] at hg
  rcases hg with hg | hg
  · exact va_tabs hg hvm h
  · exact word_at hW (good_of_word hg) h
/-- a list's words: the good ones out of the method's own list, the others by premises of their own -/
theorem vx_hat {args : Array Value} {s : State} {L B : List Cond} (h1 : ∀ w ∈ L.filter goodWord, w.before args s = true) (h2 : ∀ w ∈ L.filter (fun w => !goodWord w), w ∈ B) (h3 : ∀ w ∈ B, w.before args s = true) : ∀ w ∈ L, w.before args s = true := by
  intro w hw
  by_cases g : goodWord w = true
  · exact h1 w (List.mem_filter.mpr ⟨hw, g⟩)
  · refine h3 w (h2 w (List.mem_filter.mpr ⟨hw, ?_⟩))
    show (!goodWord w) = true
    cases hgw : goodWord w
    · rfl
    · exact absurd hgw g
theorem vx_c {args : Array Value} {s : State} {w : Cond} {B : List Cond} (h : w.before args s = true) (t : ∀ w ∈ B, w.before args s = true) : ∀ w' ∈ w :: B, w'.before args s = true := fun w' h' => (List.mem_cons.mp h').elim (fun e => by rw [e]; exact h) (t w')
theorem vx_n {args : Array Value} {s : State} : ∀ w ∈ ([] : List Cond), w.before args s = true := fun _ h => nomatch h
theorem vx_own {args : Array Value} {s : State} {L : List Cond} (h1 : ∀ w ∈ L.filter vx_no, w.before args s = true)
    (hU : (Cond.isRef (.static Bundle.tN "UNASSIGNED_STACK" Bundle.steD)).before args s = true) (hN : (Cond.isRef (.static Bundle.tN "SUPPRESSED_SENTINEL" Bundle.listD)).before args s = true)
    (lU : (Cond.laysStatic Bundle.tN "UNASSIGNED_STACK" Bundle.steD).before args s = true) (lN : (Cond.laysStatic Bundle.tN "SUPPRESSED_SENTINEL" Bundle.listD).before args s = true) : ∀ w ∈ L, w.before args s = true := by
  intro w hw
  by_cases e1 : w = .isRef (.static Bundle.tN "UNASSIGNED_STACK" Bundle.steD)
  · rw [e1]; exact hU
  · by_cases e2 : w = .isRef (.static Bundle.tN "SUPPRESSED_SENTINEL" Bundle.listD)
    · rw [e2]; exact hN
    · by_cases e3 : w = .laysStatic Bundle.tN "UNASSIGNED_STACK" Bundle.steD
      · rw [e3]; exact lU
      · by_cases e4 : w = .laysStatic Bundle.tN "SUPPRESSED_SENTINEL" Bundle.listD
        · rw [e4]; exact lN
        · exact h1 w (List.mem_filter.mpr ⟨hw, by unfold vx_no; rw [decide_eq_true e1, decide_eq_true e2, decide_eq_true e3, decide_eq_true e4]; rfl⟩)
/-- where a static field lies, its class's statics cell in H -/
def vx_L (C n d : String) (A : Nat → Prop) (U : State) (H : Heap) : Prop := ∃ (c : ClassId) (k : Class) (i : Nat) (f : Field) (a : Nat) (cell : Cell), U.vm.findClass C = some c ∧ U.fieldFound? C n d = some (c, k, i, f) ∧ f.isStatic = true ∧ k.statics = some a ∧ H[a]? = some cell ∧ cell.vm.isStatics = true ∧ cell.cls = c ∧ f.slot < cell.slots.size ∧ k.staticTypes[f.slot]? = some f.type ∧ ¬ A a
theorem vx_L.moved {C n d : String} {A : Nat → Prop} {u U : State} {H : Heap} (hvm : u.vm.Alike U.vm) (h : vx_L C n d A u H) : vx_L C n d A U H := by
  obtain ⟨c, k, i, f, a, cell, h1, h2, h3, h4, h5, h6, h7, h8, h9, h10⟩ := h
  obtain ⟨k', hi', he⟩ := State.fieldFound?_setVm hvm h2
  exact ⟨c, k', i, f, a, cell, by rw [hvm.findClass]; exact h1, hi', h3, by rw [he]; exact h4, h5, h6, h7, h8, by rw [he]; exact h9, h10⟩
theorem vx_L.kept {C n d : String} {A : Nat → Prop} {U : State} {H H1 : Heap} (h : vx_L C n d A U H) (hq : ∀ a : Nat, a < H.size → ¬ A a → H1[a]? = H[a]?) : vx_L C n d A U H1 := by
  obtain ⟨c, k, i, f, a, cell, h1, h2, h3, h4, h5, h6, h7, h8, h9, h10⟩ := h
  exact ⟨c, k, i, f, a, cell, h1, h2, h3, h4, by rw [hq a (Array.getElem?_eq_some_iff.mp h5).1 h10]; exact h5, h6, h7, h8, h9, h10⟩
theorem vx_L.narrow {C n d : String} {A B : Nat → Prop} {U : State} {H : Heap} (h : vx_L C n d A U H) (hAB : ∀ q, B q → A q) : vx_L C n d B U H := by
  obtain ⟨c, k, i, f, a, cell, h1, h2, h3, h4, h5, h6, h7, h8, h9, h10⟩ := h
  exact ⟨c, k, i, f, a, cell, h1, h2, h3, h4, h5, h6, h7, h8, h9, fun z => h10 (hAB _ z)⟩
theorem vx_L.word {C n d : String} {A : Nat → Prop} {s : State} {args : Array Value} (h : vx_L C n d A s s.heap) : (Cond.laysStatic C n d).before args s = true := by
  obtain ⟨c, k, i, f, a, cell, h1, h2, h3, h4, h5, h6, h7, h8, h9, -⟩ := h
  show (Cond.laysStatic C n d).holds args s none s [] = true
  exact Cond.laysStatic_of h1 h2 h3 h4 h5 h6 h7 h8 h9
/-- .. and what it holds: null or some reference -/
def vx_Zq (C n d : String) (A : Nat → Prop) (U : State) (H : Heap) : Prop := va_Zq C n d A U H ∧ vx_L C n d A U H
theorem vx_Zq.moved {C n d : String} {A : Nat → Prop} {u U : State} {H : Heap} (hvm : u.vm.Alike U.vm) (h : vx_Zq C n d A u H) : vx_Zq C n d A U H := ⟨va_Zq.moved hvm h.1, vx_L.moved hvm h.2⟩
theorem vx_Zq.kept {C n d : String} {A : Nat → Prop} {U : State} {H H1 : Heap} (h : vx_Zq C n d A U H) (hq : ∀ a : Nat, a < H.size → ¬ A a → H1[a]? = H[a]?) : vx_Zq C n d A U H1 := ⟨va_Zq.kept h.1 hq, vx_L.kept h.2 hq⟩
theorem vx_Zq.narrow {C n d : String} {A B : Nat → Prop} {U : State} {H : Heap} (h : vx_Zq C n d A U H) (hAB : ∀ q, B q → A q) : vx_Zq C n d B U H := ⟨va_Zq.narrow h.1 hAB, vx_L.narrow h.2 hAB⟩
theorem vx_Zqof {args : Array Value} {s : State} {C n d : String} {A : Nat → Prop} (hl : (Cond.laysStatic C n d).before args s = true) (hini : (Cond.initialized C).before args s = true) (h : (Cond.isRef (.static C n d)).before args s = true) (hA : ∀ a : Nat, a < s.heap.size → ¬ A a) : vx_Zq C n d A s s.heap := by
  refine ⟨va_Zqof hl hini h hA, ?_⟩
  obtain ⟨c, k, i, f, a, cell, h1, h2, h3, h4, h5, h6, h7, h8, h9⟩ := Cond.laysStatic_spec hl
  exact ⟨c, k, i, f, a, cell, h1, h2, h3, h4, h5, h6, h7, h8, h9, hA a (Array.getElem?_eq_some_iff.mp h5).1⟩
theorem vx_isRef {C n d : String} {v : Value} {A : Nat → Prop} {s : State} {args : Array Value} (h : va_Z C n d v A s s.heap) (hv : v.isRef = true) : (Cond.isRef (.static C n d)).before args s = true := by
  obtain ⟨cf, kf, fi, f, a, cell, h1, h2, h3, h4, h5, h6, h7, -⟩ := h
  have he : (Term.static C n d).eval args s none [] s = some v := by
    simp [Term.eval, State.fieldNamed?, h1, h2, h4, h5, h6, h7]
  simp only [Cond.before, Cond.holds, Cond.value, he]
  cases v <;> simp_all [Value.isRef]
theorem vx_isRefq {C n d : String} {A : Nat → Prop} {s : State} {args : Array Value} (h : va_Zq C n d A s s.heap) : (Cond.isRef (.static C n d)).before args s = true := by
  rcases h with h | ⟨t, h⟩
  · exact vx_isRef h rfl
  · exact vx_isRef h rfl
/-- the same frame, seen from here: as if the method were called anew in this heap -/
theorem vx_rebase {T : State} (X : Stand p l e R s m args below meth c T locs cells slots) {R' : Room} (hf : R'.frames ≤ R.frames) (hl : R'.locals ≤ R.locals) (hc : cells + R'.cells ≤ R.cells) (hs : slots + R'.slots ≤ R.slots) :
    Stand p l e R' ((T.setVm s.vm).setFrames (.invoking m args :: below)) m args below meth c T [] 0 0 := by
  have htop : (T.setVm s.vm).topJava?.isSome := X.here.top
  have hF : ((T.setVm s.vm).setFrames (.invoking m args :: below)).frames = .invoking m args :: below := State.frames_setFrames _ (State.cur_lt_of_top htop)
  obtain ⟨g₀, hg0⟩ := Option.isSome_iff_exists.mp htop
  obtain ⟨r, hr⟩ := State.topJava?_eq_some.mp hg0
  have hl9 : e.platform.stackLimits (T.setVm s.vm).me = e.platform.stackLimits s.me := X.limits
  have hb9 : (T.setVm s.vm).me.stackBytes = s.me.stackBytes := X.bytes
  refine ⟨X.admits, X.cas, X.clock, hF, ?_, X.hears, X.method, X.code, X.here, X.tail, X.warmed, ?_, ?_, ?_⟩
  · have h := X.room
    have hU : ((T.setVm s.vm).setFrames (.invoking m args :: below)).localsInUse = s.localsInUse := by
      rw [State.localsInUse_invoking hF (meth := meth) (c := c) X.method X.code, State.localsInUse_invoking X.frames X.method X.code]
    simp only [State.hasRoom, Bool.and_eq_true, decide_eq_true_eq] at h ⊢
    obtain ⟨⟨⟨⟨h1, h2, h3, h4, h5, h6⟩, h7⟩, h8⟩, h9⟩ := h
    rw [X.frames, List.length_cons] at h2 h3
    have q1 := X.heapSize
    have q2 := X.used
    simp only [hF, hU, List.length_cons, State.stackLimits_setFrames, State.stackBytes_setFrames, hl9, hb9]
    refine ⟨⟨⟨⟨by omega, by omega, by omega, by omega, by omega, h6⟩, ?_⟩, ?_⟩, X.book⟩
    · show T.heap.size + R'.cells ≤ e.platform.maxCells
      omega
    · show T.slotsUsed + R'.slots ≤ e.platform.maxSlots
      omega
  · rw [State.stackLimits_setFrames]; rfl
  · rw [State.stackBytes_setFrames]; rfl
  · refine ⟨?_, Nat.le_refl _, Nat.le_refl _, ?_, ?_, fun a c9 h9 => ⟨c9, h9, rfl, rfl, fun _ _ => rfl⟩⟩
    · obtain ⟨t, ht, -⟩ := State.frames_cons hr
      show T.setVm s.vm = { ((T.setVm s.vm).setFrames (.invoking m args :: below)).setFrames (T.setVm s.vm).frames with heap := T.heap, slotsUsed := T.slotsUsed }
      rw [State.setFrames_setFrames, State.setFrames_self ht]
      rfl
    · show T.slotsUsed = T.slotsUsed + ((T.heap.toList.drop T.heap.size).map (·.slots.size)).sum
      rw [List.drop_eq_nil_of_le (Nat.le_of_eq Array.length_toList)]
      rfl
    · show ((T.heap.toList.drop T.heap.size).map (·.slots.size)).sum ≤ 0
      rw [List.drop_eq_nil_of_le (Nat.le_of_eq Array.length_toList)]
      exact Nat.le_refl _
/-- 'throw new E()': new; dup; invokespecial; athrow -/
theorem vx_throw0 {cc : ByteArray} {pc : Nat} (hexec : p.tables.exec = Jvm.exec) (hb : c.code = cc) (hl : l.stackTraces = false) {own cls : String} {names : List String} {ik ic mc ms : Nat} {A : Nat → Prop}
    (hown : s.vm.findClass own = some m.cls) (hcls : Bundle.fit cls = true) (hnames : ∀ n ∈ names, Bundle.fit n = true)
    (hk : (Cond.classLink own ik cls).before args s = true) (hini : (Cond.initialized cls).before args s = true) (hat : ∀ w ∈ vx_at0 own ic cls names, w.before args s = true)
    (hgood : ∀ w ∈ Cond.classLink own ik cls :: Cond.initialized cls :: vx_at0 own ic cls names, vx_ot w = true)
    (hU : vx_Zq Bundle.tN "UNASSIGNED_STACK" Bundle.steD A s s.heap) (hN : vx_Zq Bundle.tN "SUPPRESSED_SENTINEL" Bundle.listD A s s.heap) (hS : va_S A s.heap H locs) (hsize : ls.size = c.maxLocals)
    (d0 : decode cc pc = .ok (.new ik, 3)) (d3 : decode cc (pc + 3) = .ok (.dup, 1)) (d4 : decode cc (pc + 4) = .ok (.invokespecial ic, 3)) (d7 : decode cc (pc + 7) = .ok (.athrow, 1))
    (hout : ∀ x ∈ c.exceptionTable.toList, covers x (pc + 7) = false)
    (hRframes : names.length + 3 < R.frames) (hRlocals : (rest.map fun v => v.category).sum + (13 * (names.length + 1) + 42) ≤ R.locals) (hRcells : cells + 1 ≤ R.cells) (hRslots : slots + 6 ≤ R.slots) (hlocks : meth.locks = false)
    (hx : ∀ t : State, s.vm.Alike t.vm → H.size ≤ t.heap.size → (∀ q : Nat, q < H.size → t.heap[q]? = H[q]?) → XC cls s t)
    (hf : ∀ z ∈ locs, free z.base) (hc : cells + 1 ≤ mc) (hs : slots + 6 ≤ ms) :
    W p l e R s m args below meth c H locs cells slots (vx_MQ below Qc XC args s mc ms free) (F0 m pc ls rest) := by
  intro T hT X
  have htr : e.platform.stackTraces = false := (show e.platform.stackTraces = l.stackTraces by rw [X.admits.platform]).trans hl
  have Y := vx_rebase X (R' := { frames := R.frames, locals := R.locals, cells := 1, slots := 6 }) (Nat.le_refl _) (Nat.le_refl _) hRcells hRslots
  obtain ⟨s', hA⟩ : ∃ z, z = (T.setVm s.vm).setFrames (.invoking m args :: below) := ⟨_, rfl⟩
  rw [← hA] at Y
  have hvm : s'.vm = s.vm := by rw [hA]; rfl
  have hhp : s'.heap = H := by rw [hA]; exact hT
  have hW0 : s.WarmedH s'.vm := by rw [hvm]; exact State.WarmedH.refl s
  have hat' : ∀ w ∈ vx_at0 own ic cls names, w.before args s' = true := fun w hw => vx_ot_at hW0 hvm.symm (hgood w (List.mem_cons_of_mem _ (List.mem_cons_of_mem _ hw))) (hat w hw)
  have hk' : (Cond.classLink own ik cls).before args s' = true := vx_ot_at hW0 hvm.symm (hgood _ List.mem_cons_self) hk
  have hini' : (Cond.initialized cls).before args s' = true := vx_ot_at hW0 hvm.symm (hgood _ (List.mem_cons_of_mem _ List.mem_cons_self)) hini
  have hU' : vx_Zq Bundle.tN "UNASSIGNED_STACK" Bundle.steD A s' s'.heap := by rw [hhp]; exact vx_Zq.moved hW0.alike (hU.kept hS.2.1)
  have hN' : vx_Zq Bundle.tN "SUPPRESSED_SENTINEL" Bundle.listD A s' s'.heap := by rw [hhp]; exact vx_Zq.moved hW0.alike (hN.kept hS.2.1)
  have h : ∀ w ∈ Bundle.ownAtoms0 own ic cls names, w.before args s' = true := vx_own hat' (vx_isRefq hU'.1) (vx_isRefq hN'.1) hU'.2.word hN'.2.word
  have hown' : s'.vm.findClass own = some m.cls := by rw [hvm]; exact hown
  have hins : (Cond.instantiable cls 6).before args s' = true := h _ (by simp [Bundle.ownAtoms0])
  obtain ⟨vm₁, cX, kX, hfX, hkX, -, -, X₁, st1⟩ := Y.newCold hexec (own := own) (C := cls) (index := ik) (n := 6) hown' hk' hins hini'
    (g := F0 m pc ls rest) rfl (by rw [hb]; exact d0) (Nat.le_refl _) (Nat.le_refl _)
  generalize hT1 : (T.setVm vm₁).pushCell { cls := cX, slots := kX.instanceTypes.map defaultValue, vm := .none } = T1 at X₁ st1
  have hcat : (Value.ref T.heap.size).category = 1 := rfl
  have hcellA : T1.heap[T.heap.size]? = some (freshCell cX kX) := by rw [← hT1]; exact State.heap_pushCell_size _ _
  have d3' : decode c.code (pc + 3) = .ok (.dup, 1) := by rw [hb]; exact d3
  obtain ⟨U, hsteps, hrun, hend, hW, hsame, ce, hce, hO⟩ := X₁.ctorThrow0 hexec htr (own := own) (cls := cls) (names := names) (ic := ic) hown' hcls hnames h (fun x hx => nomatch hx) hfX hkX hcellA (by rw [hhp, hT]; exact Nat.le_refl _)
    (g := { method := m, pc := pc + 4, locals := ls, stack := .ref T.heap.size :: .ref T.heap.size :: rest, locked := none }) rfl hsize rfl rfl (rest := rest) rfl
    (by rw [hb]; exact d4) (by rw [hb]; exact d7) hout hRframes (by simp only [List.map_cons, List.sum_cons, hcat]; omega) hlocks
  obtain ⟨f1, f2⟩ := vx_frame hsame
  rw [hhp] at f1 f2
  have hWs : s.WarmedH U.vm := State.WarmedH.trans hW0 hW
  have hcl : s.vm.findClass cls = some ce.cls := by
    have h9 := hO.cls
    rw [hvm] at h9
    exact h9
  have hall : s.sameButNew ({ U with vm := s.vm } : State) locs mc ms := by
    subst hA
    obtain ⟨e1, e2⟩ := hsame
    rw [State.setFrames_setFrames] at e1
    have h2 : (T.setVm s.vm).sameButNew ({ U with vm := s.vm } : State) [] (0 + 1) (0 + 6) := ⟨e1, e2⟩
    have h3 := X.same.trans h2
    rw [List.append_nil] at h3
    exact h3.mono hc hs
  refine ⟨U, ?_, .threw T.heap.size, hrun, hend, Or.inr ⟨T.heap.size, rfl, cls, ce, locs, hx U hWs.alike f1 (fun q hq => f2 q hq (fun z hz => nomatch hz)), hce, hO.vm, hcl, hWs, hall, hf⟩⟩
  refine st1 _ ?_
  show Steps p.tables e below (T1.setTop { method := m, pc := pc + 3, locals := ls, stack := .ref T.heap.size :: rest, locked := none }) _
  jvm_step X₁.here [X₁.here.top, hexec, d3', Value.category]
  exact hsteps
/-- 'throw new E("text")': new; dup; ldc; invokespecial; athrow -/
theorem vx_throwS {cc : ByteArray} {pc : Nat} (hexec : p.tables.exec = Jvm.exec) (hb : c.code = cc) (hl : l.stackTraces = false) {own cls text : String} {names : List String} {ik is ic mc ms sa : Nat} {A : Nat → Prop}
    (hown : s.vm.findClass own = some m.cls) (hcls : Bundle.fit cls = true) (hnames : ∀ n ∈ names, Bundle.fit n = true)
    (hk : (Cond.classLink own ik cls).before args s = true) (hini : (Cond.initialized cls).before args s = true) (hstr : vk_R own is text sa s) (hat : ∀ w ∈ vx_atS own ic cls names, w.before args s = true)
    (hgood : ∀ w ∈ Cond.classLink own ik cls :: Cond.initialized cls :: vx_atS own ic cls names, vx_ot w = true)
    (hU : vx_Zq Bundle.tN "UNASSIGNED_STACK" Bundle.steD A s s.heap) (hN : vx_Zq Bundle.tN "SUPPRESSED_SENTINEL" Bundle.listD A s s.heap) (hS : va_S A s.heap H locs) (hsize : ls.size = c.maxLocals)
    (d0 : decode cc pc = .ok (.new ik, 3)) (d3 : decode cc (pc + 3) = .ok (.dup, 1)) (d4 : decode cc (pc + 4) = .ok (.ldc is, 2)) (d6 : decode cc (pc + 6) = .ok (.invokespecial ic, 3)) (d9 : decode cc (pc + 9) = .ok (.athrow, 1))
    (hout : ∀ x ∈ c.exceptionTable.toList, covers x (pc + 9) = false)
    (hRframes : names.length + 3 < R.frames) (hRlocals : (rest.map fun v => v.category).sum + (13 * (names.length + 1) + 43) ≤ R.locals) (hRcells : cells + 1 ≤ R.cells) (hRslots : slots + 6 ≤ R.slots) (hlocks : meth.locks = false)
    (hx : ∀ t : State, s.vm.Alike t.vm → H.size ≤ t.heap.size → (∀ q : Nat, q < H.size → t.heap[q]? = H[q]?) → XC cls s t)
    (hf : ∀ z ∈ locs, free z.base) (hc : cells + 1 ≤ mc) (hs : slots + 6 ≤ ms) :
    W p l e R s m args below meth c H locs cells slots (vx_MQ below Qc XC args s mc ms free) (F0 m pc ls rest) := by
  intro T hT X
  have htr : e.platform.stackTraces = false := (show e.platform.stackTraces = l.stackTraces by rw [X.admits.platform]).trans hl
  have Y := vx_rebase X (R' := { frames := R.frames, locals := R.locals, cells := 1, slots := 6 }) (Nat.le_refl _) (Nat.le_refl _) hRcells hRslots
  obtain ⟨s', hA⟩ : ∃ z, z = (T.setVm s.vm).setFrames (.invoking m args :: below) := ⟨_, rfl⟩
  rw [← hA] at Y
  have hvm : s'.vm = s.vm := by rw [hA]; rfl
  have hhp : s'.heap = H := by rw [hA]; exact hT
  have hW0 : s.WarmedH s'.vm := by rw [hvm]; exact State.WarmedH.refl s
  have hat' : ∀ w ∈ vx_atS own ic cls names, w.before args s' = true := fun w hw => vx_ot_at hW0 hvm.symm (hgood w (List.mem_cons_of_mem _ (List.mem_cons_of_mem _ hw))) (hat w hw)
  have hk' : (Cond.classLink own ik cls).before args s' = true := vx_ot_at hW0 hvm.symm (hgood _ List.mem_cons_self) hk
  have hini' : (Cond.initialized cls).before args s' = true := vx_ot_at hW0 hvm.symm (hgood _ (List.mem_cons_of_mem _ List.mem_cons_self)) hini
  have hU' : vx_Zq Bundle.tN "UNASSIGNED_STACK" Bundle.steD A s' s'.heap := by rw [hhp]; exact vx_Zq.moved hW0.alike (hU.kept hS.2.1)
  have hN' : vx_Zq Bundle.tN "SUPPRESSED_SENTINEL" Bundle.listD A s' s'.heap := by rw [hhp]; exact vx_Zq.moved hW0.alike (hN.kept hS.2.1)
  have h : ∀ w ∈ Bundle.ownAtoms own ic cls names, w.before args s' = true := vx_own hat' (vx_isRefq hU'.1) (vx_isRefq hN'.1) hU'.2.word hN'.2.word
  have hown' : s'.vm.findClass own = some m.cls := by rw [hvm]; exact hown
  have hins : (Cond.instantiable cls 6).before args s' = true := h _ (by simp [Bundle.ownAtoms])
  obtain ⟨vm₁, cX, kX, hfX, hkX, -, -, X₁, st1⟩ := Y.newCold hexec (own := own) (C := cls) (index := ik) (n := 6) hown' hk' hins hini'
    (g := F0 m pc ls rest) rfl (by rw [hb]; exact d0) (Nat.le_refl _) (Nat.le_refl _)
  generalize hT1 : (T.setVm vm₁).pushCell { cls := cX, slots := kX.instanceTypes.map defaultValue, vm := .none } = T1 at X₁ st1
  have hcat : (Value.ref T.heap.size).category = 1 := rfl
  have hcellA : T1.heap[T.heap.size]? = some (freshCell cX kX) := by rw [← hT1]; exact State.heap_pushCell_size _ _
  have d3' : decode c.code (pc + 3) = .ok (.dup, 1) := by rw [hb]; exact d3
  have d4' : decode c.code (pc + 4) = .ok (.ldc is, 2) := by rw [hb]; exact d4
  have hstr' : vk_R own is text sa s' := vk_R.warm hW0 hstr
  obtain ⟨U, hsteps, hrun, hend, hW, hsame, ce, hce, hO⟩ := X₁.ctorThrowS hexec htr (own := own) (cls := cls) (names := names) (ic := ic) hown' hcls hnames h (fun x hx => nomatch hx) hfX hkX hcellA (by rw [hhp, hT]; exact Nat.le_refl _) (msg := .ref sa) rfl
    (g := { method := m, pc := pc + 6, locals := ls, stack := .ref sa :: .ref T.heap.size :: .ref T.heap.size :: rest, locked := none }) rfl hsize rfl rfl (rest := rest) rfl
    (by rw [hb]; exact d6) (by rw [hb]; exact d9) hout hRframes (by simp only [List.map_cons, List.sum_cons, hcat]; omega) hlocks
  obtain ⟨f1, f2⟩ := vx_frame hsame
  rw [hhp] at f1 f2
  have hWs : s.WarmedH U.vm := State.WarmedH.trans hW0 hW
  have hcl : s.vm.findClass cls = some ce.cls := by
    have h9 := hO.cls
    rw [hvm] at h9
    exact h9
  have hall : s.sameButNew ({ U with vm := s.vm } : State) locs mc ms := by
    subst hA
    obtain ⟨e1, e2⟩ := hsame
    rw [State.setFrames_setFrames] at e1
    have h2 : (T.setVm s.vm).sameButNew ({ U with vm := s.vm } : State) [] (0 + 1) (0 + 6) := ⟨e1, e2⟩
    have h3 := X.same.trans h2
    rw [List.append_nil] at h3
    exact h3.mono hc hs
  refine ⟨U, ?_, .threw T.heap.size, hrun, hend, Or.inr ⟨T.heap.size, rfl, cls, ce, locs, hx U hWs.alike f1 (fun q hq => f2 q hq (fun z hz => nomatch hz)), hce, hO.vm, hcl, hWs, hall, hf⟩⟩
  refine st1 _ ?_
  show Steps p.tables e below (T1.setTop { method := m, pc := pc + 3, locals := ls, stack := .ref T.heap.size :: rest, locked := none }) _
  jvm_step X₁.here [X₁.here.top, hexec, d3', Value.category]
  exact X₁.ldcString hexec (own := own) (text := text) (index := is) (a := sa) hown' hstr'.1 hstr'.2
    (g := { method := m, pc := pc + 4, locals := ls, stack := .ref T.heap.size :: .ref T.heap.size :: rest, locked := none }) rfl d4' _ hsteps
/-- 'throw new E("text")', the text by a wide index -/
theorem vx_throwSW {cc : ByteArray} {pc : Nat} (hexec : p.tables.exec = Jvm.exec) (hb : c.code = cc) (hl : l.stackTraces = false) {own cls text : String} {names : List String} {ik is ic mc ms sa : Nat} {A : Nat → Prop}
    (hown : s.vm.findClass own = some m.cls) (hcls : Bundle.fit cls = true) (hnames : ∀ n ∈ names, Bundle.fit n = true)
    (hk : (Cond.classLink own ik cls).before args s = true) (hini : (Cond.initialized cls).before args s = true) (hstr : vk_R own is text sa s) (hat : ∀ w ∈ vx_atS own ic cls names, w.before args s = true)
    (hgood : ∀ w ∈ Cond.classLink own ik cls :: Cond.initialized cls :: vx_atS own ic cls names, vx_ot w = true)
    (hU : vx_Zq Bundle.tN "UNASSIGNED_STACK" Bundle.steD A s s.heap) (hN : vx_Zq Bundle.tN "SUPPRESSED_SENTINEL" Bundle.listD A s s.heap) (hS : va_S A s.heap H locs) (hsize : ls.size = c.maxLocals)
    (d0 : decode cc pc = .ok (.new ik, 3)) (d3 : decode cc (pc + 3) = .ok (.dup, 1)) (d4 : decode cc (pc + 4) = .ok (.ldc_w is, 3)) (d7 : decode cc (pc + 7) = .ok (.invokespecial ic, 3)) (d10 : decode cc (pc + 10) = .ok (.athrow, 1))
    (hout : ∀ x ∈ c.exceptionTable.toList, covers x (pc + 10) = false)
    (hRframes : names.length + 3 < R.frames) (hRlocals : (rest.map fun v => v.category).sum + (13 * (names.length + 1) + 43) ≤ R.locals) (hRcells : cells + 1 ≤ R.cells) (hRslots : slots + 6 ≤ R.slots) (hlocks : meth.locks = false)
    (hx : ∀ t : State, s.vm.Alike t.vm → H.size ≤ t.heap.size → (∀ q : Nat, q < H.size → t.heap[q]? = H[q]?) → XC cls s t)
    (hf : ∀ z ∈ locs, free z.base) (hc : cells + 1 ≤ mc) (hs : slots + 6 ≤ ms) :
    W p l e R s m args below meth c H locs cells slots (vx_MQ below Qc XC args s mc ms free) (F0 m pc ls rest) := by
  intro T hT X
  have htr : e.platform.stackTraces = false := (show e.platform.stackTraces = l.stackTraces by rw [X.admits.platform]).trans hl
  have Y := vx_rebase X (R' := { frames := R.frames, locals := R.locals, cells := 1, slots := 6 }) (Nat.le_refl _) (Nat.le_refl _) hRcells hRslots
  obtain ⟨s', hA⟩ : ∃ z, z = (T.setVm s.vm).setFrames (.invoking m args :: below) := ⟨_, rfl⟩
  rw [← hA] at Y
  have hvm : s'.vm = s.vm := by rw [hA]; rfl
  have hhp : s'.heap = H := by rw [hA]; exact hT
  have hW0 : s.WarmedH s'.vm := by rw [hvm]; exact State.WarmedH.refl s
  have hat' : ∀ w ∈ vx_atS own ic cls names, w.before args s' = true := fun w hw => vx_ot_at hW0 hvm.symm (hgood w (List.mem_cons_of_mem _ (List.mem_cons_of_mem _ hw))) (hat w hw)
  have hk' : (Cond.classLink own ik cls).before args s' = true := vx_ot_at hW0 hvm.symm (hgood _ List.mem_cons_self) hk
  have hini' : (Cond.initialized cls).before args s' = true := vx_ot_at hW0 hvm.symm (hgood _ (List.mem_cons_of_mem _ List.mem_cons_self)) hini
  have hU' : vx_Zq Bundle.tN "UNASSIGNED_STACK" Bundle.steD A s' s'.heap := by rw [hhp]; exact vx_Zq.moved hW0.alike (hU.kept hS.2.1)
  have hN' : vx_Zq Bundle.tN "SUPPRESSED_SENTINEL" Bundle.listD A s' s'.heap := by rw [hhp]; exact vx_Zq.moved hW0.alike (hN.kept hS.2.1)
  have h : ∀ w ∈ Bundle.ownAtoms own ic cls names, w.before args s' = true := vx_own hat' (vx_isRefq hU'.1) (vx_isRefq hN'.1) hU'.2.word hN'.2.word
  have hown' : s'.vm.findClass own = some m.cls := by rw [hvm]; exact hown
  have hins : (Cond.instantiable cls 6).before args s' = true := h _ (by simp [Bundle.ownAtoms])
  obtain ⟨vm₁, cX, kX, hfX, hkX, -, -, X₁, st1⟩ := Y.newCold hexec (own := own) (C := cls) (index := ik) (n := 6) hown' hk' hins hini'
    (g := F0 m pc ls rest) rfl (by rw [hb]; exact d0) (Nat.le_refl _) (Nat.le_refl _)
  generalize hT1 : (T.setVm vm₁).pushCell { cls := cX, slots := kX.instanceTypes.map defaultValue, vm := .none } = T1 at X₁ st1
  have hcat : (Value.ref T.heap.size).category = 1 := rfl
  have hcellA : T1.heap[T.heap.size]? = some (freshCell cX kX) := by rw [← hT1]; exact State.heap_pushCell_size _ _
  have d3' : decode c.code (pc + 3) = .ok (.dup, 1) := by rw [hb]; exact d3
  have d4' : decode c.code (pc + 4) = .ok (.ldc_w is, 3) := by rw [hb]; exact d4
  have hstr' : vk_R own is text sa s' := vk_R.warm hW0 hstr
  obtain ⟨U, hsteps, hrun, hend, hW, hsame, ce, hce, hO⟩ := X₁.ctorThrowS hexec htr (own := own) (cls := cls) (names := names) (ic := ic) hown' hcls hnames h (fun x hx => nomatch hx) hfX hkX hcellA (by rw [hhp, hT]; exact Nat.le_refl _) (msg := .ref sa) rfl
    (g := { method := m, pc := pc + 7, locals := ls, stack := .ref sa :: .ref T.heap.size :: .ref T.heap.size :: rest, locked := none }) rfl hsize rfl rfl (rest := rest) rfl
    (by rw [hb]; exact d7) (by rw [hb]; exact d10) hout hRframes (by simp only [List.map_cons, List.sum_cons, hcat]; omega) hlocks
  obtain ⟨f1, f2⟩ := vx_frame hsame
  rw [hhp] at f1 f2
  have hWs : s.WarmedH U.vm := State.WarmedH.trans hW0 hW
  have hcl : s.vm.findClass cls = some ce.cls := by
    have h9 := hO.cls
    rw [hvm] at h9
    exact h9
  have hall : s.sameButNew ({ U with vm := s.vm } : State) locs mc ms := by
    subst hA
    obtain ⟨e1, e2⟩ := hsame
    rw [State.setFrames_setFrames] at e1
    have h2 : (T.setVm s.vm).sameButNew ({ U with vm := s.vm } : State) [] (0 + 1) (0 + 6) := ⟨e1, e2⟩
    have h3 := X.same.trans h2
    rw [List.append_nil] at h3
    exact h3.mono hc hs
  refine ⟨U, ?_, .threw T.heap.size, hrun, hend, Or.inr ⟨T.heap.size, rfl, cls, ce, locs, hx U hWs.alike f1 (fun q hq => f2 q hq (fun z hz => nomatch hz)), hce, hO.vm, hcl, hWs, hall, hf⟩⟩
  refine st1 _ ?_
  show Steps p.tables e below (T1.setTop { method := m, pc := pc + 3, locals := ls, stack := .ref T.heap.size :: rest, locked := none }) _
  jvm_step X₁.here [X₁.here.top, hexec, d3', Value.category]
  exact X₁.ldcStringW hexec (own := own) (text := text) (index := is) (a := sa) hown' hstr'.1 hstr'.2
    (g := { method := m, pc := pc + 4, locals := ls, stack := .ref T.heap.size :: .ref T.heap.size :: rest, locked := none }) rfl d4' _ hsteps
end Ends
section Bodies
variable {l : Launch}
theorem vx_ofW {y : MethodName} {ws ws' : List Cond} {rm : Room} {Pc : Array Value → State → Prop} {Qc : Array Value → State → Outcome → State → Prop} {XC : String → State → State → Prop} {mc ms : Nat} {free : Addr → Prop} {cc : ByteArray} {maxL : Nat} {ret : Option FieldType}
    (hy : plainName y.cls = true) (hw : ws = Cond.code y cc maxL ret :: ws')
    (body : ∀ p e s m args below meth c s₁, BodyLoose p l y (headSpec ws rm) cc maxL ret e s m args below meth c s₁ → c.maxLocals = maxL → (∀ x ∈ c.exceptionTable.toList, False) → Pc args s →
      W p l e (headSpec ws rm).room s m args below meth c s.heap [] 0 0 (vx_MQ below Qc XC args s mc ms free) (entryFrame m args maxL)) : vx_Met l y ws rm Pc Qc XC mc ms free := by
  refine MetFree.of_bodyS (code := cc) (maxLocals := maxL) (ret := ret) hy ?_ ?_
  · intro args s m h hn
    obtain ⟨meth, c, h1, h2, h3, h4, h5, h6, -, -⟩ := Cond.code_spec hn (atoms_spec (ws := ws) h _ (by rw [hw]; exact List.mem_cons_self))
    exact ⟨meth, c, h1, h2, h3, h4, h5, h6⟩
  · intro p e s m args below meth c s₁ B hml hP _
    have hh0 : s₁.heap = s.heap := by rw [B.state]; rfl
    have ht : ∀ x ∈ c.exceptionTable.toList, False := by
      obtain ⟨meth9, c9, h1, h2, -, -, -, -, h7, -⟩ := Cond.code_spec B.named (atoms_spec (ws := ws) B.pre _ (by rw [hw]; exact List.mem_cons_self))
      cases Option.some.inj (h1.symm.trans B.method)
      cases Option.some.inj (h2.symm.trans (Stand.of_body B).code)
      intro x hx
      rw [Array.isEmpty_iff.mp h7] at hx
      cases hx
    obtain ⟨t, a1, o, b1, b2, b3⟩ := body p e s m args below meth c s₁ B hml ht hP s₁ hh0 (Stand.of_body B)
    exact ⟨t, o, a1, b1, b2, b3⟩
/-- the table of a body with handlers -/
theorem vx_table {p : Program} {x y : MethodName} {S : Spec} {cc bytes : ByteArray} {maxL maxL' : Nat} {ret ret' : Option FieldType} {e : Env} {s s₁ : State} {m : MethodId} {args : Array Value} {below : List Frame} {meth : Method} {c : Code} {hh : List (Nat × Nat × Nat × Nat)}
    (B : BodyLoose p l y S cc maxL ret e s m args below meth c s₁) (h : (Cond.codeWith y bytes maxL' ret' hh).before args s = true) : c.exceptionTable.toList = tableOf hh := by
  obtain ⟨m9, meth9, c9, hn9, h1, h2, -, -, h6, -⟩ := Cond.codeWith_spec h
  cases Option.some.inj (hn9.symm.trans B.named)
  cases Option.some.inj (h1.symm.trans B.method)
  cases Option.some.inj (h2.symm.trans (Stand.of_body B).code)
  rw [← h6, table_eq]
end Bodies
end VXA
/-! ===== END ===== -/
/-! ===== BEGIN a static call of a method with an exception table ===== -/
section VXS
variable {p : Program} {l : Launch} {e : Env} {R : Room} {s : State} {m : MethodId} {args : Array Value} {below : List Frame} {meth : Method} {c : Code} {T : State} {H : Heap} {locs : List Loc} {cells slots : Nat}
abbrev vx_CSW (R : Room) (s : State) (args : Array Value) (own : String) (index : Nat) (y : MethodName) (bytes : ByteArray) (maxL : Nat) (ret : Option FieldType) (hh : List (Nat × Nat × Nat × Nat)) (ws : List Cond) (rm : Room) (mc ms n : Nat) : Prop :=
  (rm.cells = mc ∧ rm.slots = ms ∧ rm.frames + 1 ≤ R.frames ∧ 8 + (maxL + 11) + rm.locals ≤ R.locals ∧ (∀ w ∈ ws, ∀ (a' : Array Value) (U : State), s.WarmedH U.vm → w.before a' U = true) ∧ Cond.codeWith y bytes maxL ret hh ∈ ws) ∧
  (Cond.codeWith y bytes maxL ret hh).before args s = true ∧ (Cond.initialized y.cls).before args s = true ∧ (y.cls ≠ "java/lang/invoke/MethodHandle" ∧ y.cls ≠ "java/lang/invoke/VarHandle") ∧
  (∀ sig, parseMethodDescriptor y.desc = some sig → n = sig.parameters.length) ∧ (Cond.methodLink own index y).before args s = true ∧ (Cond.static y).before args s = true
theorem vx_cwSW {own : String} {index maxL mc ms : Nat} {y : MethodName} {bytes : ByteArray} {ret : Option FieldType} {hh : List (Nat × Nat × Nat × Nat)} {Ts ws ws' : List Cond} {rm : Room} (n : Nat) (ht : ∀ w ∈ Ts, w.before args s = true) (hT : GoodIn Ts (va_wsS own index y ws)) (hw : ws = Cond.codeWith y bytes maxL ret hh :: ws') (hrc : rm.cells = mc) (hrs : rm.slots = ms)
    (hd : y.cls ≠ "java/lang/invoke/MethodHandle" ∧ y.cls ≠ "java/lang/invoke/VarHandle" ∧ (parseMethodDescriptor y.desc).map (fun d => d.parameters.length) = some n) (hR : rm.frames + 1 ≤ R.frames ∧ 8 + (maxL + 11) + rm.locals ≤ R.locals) :
    vx_CSW R s args own index y bytes maxL ret hh ws rm mc ms n := by
  have ok : ∀ w ∈ va_wsS own index y ws, w.before args s = true := fun w h => ht w (hT w h).1
  have hG : GoodIn Ts ws := fun w h => hT w (by unfold va_wsS; exact List.mem_append_right _ h)
  have hc : Cond.codeWith y bytes maxL ret hh ∈ ws := by rw [hw]; exact List.mem_cons_self
  refine ⟨⟨hrc, hrs, hR.1, hR.2, pay_in ht hG, hc⟩, ht _ (hG _ hc).1, ok _ (by simp [va_wsS]), ⟨hd.1, hd.2.1⟩, fun sig h => ?_, ok _ (by simp [va_wsS]), ok _ (by simp [va_wsS])⟩
  have h2 := hd.2.2
  rw [h] at h2
  exact (Option.some.inj h2).symm
theorem vx_callSW (X : Stand p l e R s m args below meth c T locs cells slots) (hexec : p.tables.exec = Jvm.exec) {own : String} {index : Nat} {y : MethodName} {bytes : ByteArray} {maxL : Nat} {ret : Option FieldType} {hh : List (Nat × Nat × Nat × Nat)}
    (hown : s.vm.findClass own = some m.cls) (hlink : (Cond.methodLink own index y).before args s = true) (hstat : (Cond.static y).before args s = true) (hinit : (Cond.initialized y.cls).before args s = true)
    (hcode : (Cond.codeWith y bytes maxL ret hh).before args s = true) (hy : y.cls ≠ "java/lang/invoke/MethodHandle" ∧ y.cls ≠ "java/lang/invoke/VarHandle")
    {W9 : Nat} {Pre : Pt → Array Value → Prop} {Post : Pt → Array Value → Option Value → Pt → Prop} (hK : Back l R p e below s args y 3 W9 Pre Post)
    {g : JFrame} (hg : g.method = m) (hsize : g.locals.size = c.maxLocals) {argsL rest : List Value} (hlen : ∀ sig, parseMethodDescriptor y.desc = some sig → argsL.length = sig.parameters.length)
    (hstack : g.stack = argsL.reverse ++ rest) (hW : 2 * g.monitorRoom + (rest.map fun v => v.category).sum ≤ W9) (hdg : decode c.code g.pc = .ok (.invokestatic index, 3))
    (hpre : ∀ vm₁, s.WarmedH vm₁ → Pre ⟨T.setVm vm₁, locs, cells, slots⟩ argsL.toArray) :
    ∃ (v : Option Value) (vm₁ : Vm) (B : Pt), s.WarmedH vm₁ ∧ Stand p l e R s m args below meth c B.U B.locs B.cells B.slots ∧ Post ⟨T.setVm vm₁, locs, cells, slots⟩ argsL.toArray v B ∧
      ∀ target, Steps p.tables e below (B.U.setTop { g with pc := g.pc + 3, stack := v.toList ++ rest }) target → Steps p.tables e below (T.setTop g) target := by
  obtain ⟨mk, methM, cM, hnamed, hmethM, -, -, -, -, -, -, hsigM⟩ := Cond.codeWith_spec hcode
  have hstatic : methM.isStatic = true := Cond.static_spec hnamed hmethM hstat
  obtain ⟨kP, hkP, -⟩ := className_of_methodNamed hnamed
  have hinitP : kP.init = .initialized := Cond.initialized_spec (findClass_of_methodNamed hnamed) hkP hinit
  obtain ⟨vm₁, X₁, hstep₁⟩ := X.invokestatic hexec hown hlink hnamed hmethM hstatic hkP hinitP hy (g := g) hg (argsL := argsL) (rest := rest) (hlen _ hsigM) hstack hdg
  obtain ⟨v, B, X', hpost, hsteps⟩ := hK m meth c ⟨T.setVm vm₁, locs, cells, slots⟩ { g with stack := rest } (.invokestatic index) mk argsL.toArray X₁ hg hsize hdg hW (X₁.named hnamed) (hpre vm₁ X₁.warmed)
  exact ⟨v, vm₁, B, X₁.warmed, X', hpost, fun target h => hstep₁ _ fun acts => by rw [doInvoke_state]; exact hsteps.trans h⟩
theorem vx_runSW {y : MethodName} {bytes cc : ByteArray} {maxL nL mc ms n index : Nat} {ret : Option FieldType} {hh : List (Nat × Nat × Nat × Nat)} {ws : List Cond} {rm : Room} {Pc : Array Value → State → Prop} {Qc : Array Value → State → Outcome → State → Prop} {free : Addr → Prop} {Ts : List Cond} {own : String} {As rest : List Value} {g : JFrame}
    (S : CallFix p m c cc nL s args Ts own) (hM : Met l y ws rm Pc Qc mc ms free) (cw : vx_CSW R s args own index y bytes maxL ret hh ws rm mc ms n) (hp : PreS s H Pc As)
    (hg : g.method = m) (hn : As.length = n) (hsize : g.locals.size = nL) (hstack : g.stack = As.reverse ++ rest) (hW : 2 * g.monitorRoom + (rest.map fun v => v.category).sum ≤ 8) (hdg : decode cc g.pc = .ok (.invokestatic index, 3)) (hf : cells + mc ≤ R.cells ∧ slots + ms ≤ R.slots) :
    va_Run p l e R s m args below meth c H locs cells slots mc ms g rest (Qc As.toArray) (free) := by
  obtain ⟨⟨hrc, hrs, hfr, hlo, hws, hcw⟩, hcode, hini, hy, hlen, hl, hstt⟩ := cw
  have hK : Back l R p e below s args y 3 8 (PreOf R mc ms Pc) (PostOf Qc mc ms free) := va_backW (hh := hh) (bytes := bytes) (maxL := maxL) (ret := ret) hM hp.1 hrc hrs hfr hlo hws hcw (fun a' U hW => word_at hW (Or.inl (by first | rfl | simp [Cond.onTables, Cond.keeps, Cond.steady])) hini)
  obtain ⟨hx, hb, hml, ho, -⟩ := S
  intro T hT X
  obtain ⟨v, vm₁, ⟨U', l2, c2, s2⟩, hW₁, X', ⟨g', mk, t, L, e1, e2, hq, h1, hL, h2, h3⟩, st⟩ := vx_callSW X hx (hh := hh) (bytes := bytes) (maxL := maxL) (ret := ret) ho hl hstt hini hcode hy hK hg (hsize.trans hml.symm) (argsL := As) (rest := rest) (fun sig h => hn.trans (hlen sig h)) hstack hW (by rw [hb]; exact hdg)
    (fun vm₁ hW₁ => ⟨hf.1, hf.2, hp.2 (T.setVm vm₁) hT hW₁⟩)
  dsimp only [Pt.U, Pt.locs, Pt.cells, Pt.slots] at X' e1 e2 h1 h2 h3 st
  subst h1; subst h2; subst h3
  exact ⟨v, (T.setVm vm₁).calling g' mk As.toArray, t, U', L, hT, X', hL, e1, e2, hq, st⟩
/-- not caught here, past rows that name other classes: it goes on to the caller -/
theorem vx_outP {p : Program} {l : Launch} {e : Env} {R : Room} {s : State} {m : MethodId} {args : Array Value} {below : List Frame} {meth : Method} {c : Code} {H : Heap} {locs : List Loc} {cells slots : Nat} {free : Addr → Prop} {ls : Array Slot} {rest : List Value} {Qc : Array Value → State → Outcome → State → Prop} {XC : String → State → State → Prop}
    {pc : Nat} {own E : String} {ce : Cell} {q : Addr} {mc ms : Nat} (hown : s.vm.findClass own = some m.cls) (hlocks : meth.locks = false)
    (hpass : ∀ z ∈ c.exceptionTable.toList, covers z pc = false ∨ (z.catchType ≠ 0 ∧ ∃ nm : String, (Cond.classLink own z.catchType nm).before args s = true ∧ va_Nc E nm s)) (hcell : H[q]? = some ce) (hv : ce.vm = .none) (hcl : s.vm.findClass E = some ce.cls)
    (hx : ∀ t : State, t.heap = H → s.vm.Alike t.vm → XC E s t) (hf : ∀ z ∈ locs, free z.base) (hc : cells ≤ mc) (hs : slots ≤ ms) :
    vx_W p l e R s m args below meth c H locs cells slots (vx_MQ below Qc XC args s mc ms free) (F0 m pc ls rest) q := by
  intro T hT X
  have hpl : e.platform.magicAccessors = ({} : Platform).magicAccessors := by rw [X.admits.platform]
  obtain ⟨vm', hW', X', st⟩ := X.outThrough hlocks q (g := F0 m pc ls rest) rfl rfl rfl (cell := ce) (by rw [hT]; exact hcell) (by rw [hv]; rfl)
    (by obtain ⟨k9, h9, -⟩ := Vm.findClass_spec hcl; exact ⟨k9, h9⟩) (fun z hz => by
      rcases hpass z hz with h | ⟨hz0, nm, hl1, hn1⟩
      · exact Or.inl h
      · obtain ⟨c6, hc6, hcl6⟩ := Cond.classLink_spec hown hl1 e.platform hpl
        obtain ⟨a8, b8, h1, h2, h3⟩ := hn1
        cases Option.some.inj (h1.symm.trans hcl)
        cases Option.some.inj (h2.symm.trans hc6)
        exact Or.inr ⟨hz0, _, hcl6, h3⟩)
  obtain ⟨g₀, hfr⟩ := X'.frames_eq
  have hcell9 : ((T.setVm vm').setFrames (.throwing q :: below)).heap[q]? = some ce := by
    show T.heap[q]? = some ce
    rw [hT]; exact hcell
  have hend : Ended ((T.setVm vm').setFrames (.throwing q :: below)) below (.threw q) := State.frames_setFrames _ (State.cur_lt_of_frames hfr)
  refine ⟨(T.setVm vm').setFrames (.throwing q :: below), ?_, .threw q, X'.here.running, hend, Or.inr ⟨q, rfl, E, ce, locs, hx _ hT (X'.ends _).1.alike, hcell9, hv, hcl, (X'.ends _).1, (X'.ends _).2.mono hc hs, hf⟩⟩
  rw [X.pushThrowing_eq]
  exact st
/-- a thing of a world lies in the heap -/
theorem vx_lt {D : va_G} {cl : List vw_C} {ws : va_W} {H1 : Heap} (h : va_P D cl ws H1) {k : Nat} {q : Nat × va_E} (hk : ws[k]? = some q) : q.1 < H1.size := (h k q hk).lt
end VXS
/-! ===== END ===== -/
/-! ===== BEGIN methods with a table of their own: called by a name, returning or throwing ===== -/
section VXH
/-! vx_backW, vx_callVX, vx_callSX, vx_callVW, vx_runVW, vx_runVX, vx_runSX, vx_ofWH follow the same proofs as their sisters above (Free/Laws.lean, Shelf42/LK1.lean); vx_outP calls Shelf42/NT130.lean (outThrough). -/
section
variable {l : Launch} {R : Room} {p : Program} {e : Env} {below : List Frame} {s : State} {sargs : Array Value} {y : MethodName} {len W9 : Nat}
theorem vx_backW {ws : List Cond} {rm : Room} {Pc : Array Value → State → Prop} {Qc : Array Value → State → Outcome → State → Prop} {XC : String → State → State → Prop} {mc ms : Nat} {free : Addr → Prop} {bytes : ByteArray} {maxL : Nat} {ret : Option FieldType} {hh : List (Nat × Nat × Nat × Nat)}
    (hM : vx_Met l y ws rm Pc Qc XC mc ms free) (hblind : FrameBlind Pc) (hrc : rm.cells = mc) (hrs : rm.slots = ms)
    (hframes : rm.frames + 1 ≤ R.frames) (hlocals : W9 + (maxL + 11) + rm.locals ≤ R.locals)
    (hws : ∀ w ∈ ws, ∀ a' U, s.WarmedH U.vm → w.before a' U = true) (hcode : Cond.codeWith y bytes maxL ret hh ∈ ws) (hinit : ∀ a' U, s.WarmedH U.vm → (Cond.initialized y.cls).before a' U = true) :
    vx_Back l R p e below s sargs y len W9 (PreOf R mc ms Pc) (PostOf Qc mc ms free) (vx_Post XC mc ms free) := by
  intro m meth c A g ig mk a X hg hsize hdg hW hn hp
  have h1 : (headSpec ws rm).pre.before a A.U = true := atoms_intro fun w hw => hws w hw _ _ X.warmed
  have h2 : (Cond.codeWith y bytes maxL ret hh).before a A.U = true := hws _ hcode _ _ X.warmed
  have h3 : (Cond.initialized y.cls).before a A.U = true := hinit _ _ X.warmed
  have h4 : A.cells + (headSpec ws rm).room.cells ≤ R.cells := by rw [show (headSpec ws rm).room.cells = mc from hrc]; exact hp.1
  have h5 : A.slots + (headSpec ws rm).room.slots ≤ R.slots := by rw [show (headSpec ws rm).room.slots = ms from hrs]; exact hp.2.1
  have hPc : Pc a (A.U.calling g mk a) := hblind _ _ _ _ hp.2.2
  obtain ⟨U, Ls, c0, s0⟩ := A
  dsimp only [Pt.U, Pt.locs, Pt.cells, Pt.slots] at h1 h2 h3 h4 h5 X hn hPc ⊢
  obtain ⟨m9, methY, cY, hn9, hmY, hcY, -, hlY, -⟩ := Cond.codeWith_spec h2
  cases Option.some.inj (hn9.symm.trans hn)
  obtain ⟨kY, hkY, -⟩ := className_of_methodNamed hn
  have hinitY : kY.init = .initialized := Cond.initialized_spec (findClass_of_methodNamed hn) hkY h3
  have h : At U g.method c below := by rw [hg]; exact X.here
  have hlocals9 : W9 + (maxL + 11) + (headSpec ws rm).room.locals ≤ R.locals := hlocals
  have happ : (headSpec ws rm).appliesLoose y e.platform (U.calling g mk a) = true :=
    Spec.appliesLoose_calling (g := g) h hdg hn hkY hinitY
      (X.room_calling (g := g) (R' := (headSpec ws rm).room) hsize hmY hcY hframes (by rw [hlY]; omega) h4 h5) h1
  obtain ⟨mid, hmid⟩ := h.above
  have hfr : (U.setTop g).frames = (.java g :: mid) ++ below := by rw [State.frames_setTop' g h.top, hmid]; rfl
  obtain ⟨o, s₂, hsteps, -, hend, hq⟩ := Steps.callFree hM p X.admits X.cas X.clock (acts := []) hfr happ hPc trivial
  have hq' : vx_Q Qc XC mc ms free a (U.calling g mk a) o s₂ := hq
  rw [State.frames_setTop' g h.top] at hend
  obtain ⟨g₀, hg0⟩ := Option.isSome_iff_exists.mp h.top
  obtain ⟨r, hr⟩ := State.topJava?_eq_some.mp hg0
  have hr' : (({ U with heap := s₂.heap, slotsUsed := s₂.slotsUsed } : State).setVm s₂.vm).frames = .java g₀ :: r := hr
  rcases hq' with ⟨hqc, L, hfe, hL⟩ | ⟨q, rfl, E, ce, L, hx, hce, hcv, hcl, hW₂, hsm, hL⟩
  · obtain ⟨⟨v, rfl⟩, hW₂, e2, q2, q3, q4, q5, q6⟩ := id hfe
    have e3 : s₂ = ({ (U.calling g mk a).setFrames s₂.frames with heap := s₂.heap, slotsUsed := s₂.slotsUsed } : State).setVm s₂.vm := by
      have : s₂ = ({ s₂ with vm := (U.calling g mk a).vm } : State).setVm s₂.vm := rfl
      rw [e2] at this
      exact this
    obtain ⟨c₂, i₂, len₂, hc₂, hd₂, hf₂⟩ := hend
    have hW' : U.WarmedH s₂.vm := hW₂
    have hcc : c₂ = c := by
      have h1 : s₂.code? g.method = U.code? g.method := by
        rw [State.code?_eq, State.code?_eq, hW'.alike.method?]
      exact Option.some.inj (hc₂.symm.trans (h1.trans h.code))
    subst hcc
    have hlen : len₂ = len := by rw [hdg] at hd₂; cases hd₂; rfl
    subst hlen
    have hs₂ : s₂ = (({ U with heap := s₂.heap, slotsUsed := s₂.slotsUsed } : State).setVm s₂.vm).setTop { g with pc := g.pc + len₂, stack := v.toList ++ g.stack } := by
      refine e3.trans ?_
      rw [hf₂, State.calling_eq h.top, State.setFrames_setFrames, State.setTop_of_frames _ hr', hr]
      rfl
    have hsame : U.sameButNew ({ U with heap := s₂.heap, slotsUsed := s₂.slotsUsed } : State) L mc ms := by
      refine ⟨?_, q2, q3, q4, q5, q6⟩
      obtain ⟨t, ht, -⟩ := State.frames_cons hr
      show ({ U with heap := s₂.heap, slotsUsed := s₂.slotsUsed } : State) = { U.setFrames U.frames with heap := s₂.heap, slotsUsed := s₂.slotsUsed }
      rw [State.setFrames_self ht]
    subst hg
    refine Or.inl ⟨v, ⟨(({ U with heap := s₂.heap, slotsUsed := s₂.slotsUsed } : State).setVm s₂.vm), Ls ++ L, c0 + mc, s0 + ms⟩,
      ⟨X.admits, X.cas, X.clock, X.frames, X.room, X.hears, X.method, X.code, (X.here.setHeapUsed s₂.heap s₂.slotsUsed).setVm hW'.alike, X.tail, State.WarmedH.trans X.warmed hW', X.limits, X.bytes, X.same.trans (hsame.setVm s.vm)⟩,
      ⟨g, mk, s₂, L, rfl, rfl, hqc, rfl, hL, rfl, rfl⟩, ?_⟩
    show Steps p.tables e below _ ((({ U with heap := s₂.heap, slotsUsed := s₂.slotsUsed } : State).setVm s₂.vm).setTop { g with pc := g.pc + len₂, stack := v.toList ++ g.stack })
    rw [← hs₂]
    exact hsteps
  · obtain ⟨e2, q2, q3, q4, q5, q6⟩ := id hsm
    have e3 : s₂ = ({ (U.calling g mk a).setFrames s₂.frames with heap := s₂.heap, slotsUsed := s₂.slotsUsed } : State).setVm s₂.vm := by
      have : s₂ = ({ s₂ with vm := (U.calling g mk a).vm } : State).setVm s₂.vm := rfl
      rw [e2] at this
      exact this
    have hf₂ : s₂.frames = .throwing q :: .java g :: U.frames.tail := hend
    have hW' : U.WarmedH s₂.vm := hW₂
    have hs₂ : s₂ = ((({ U with heap := s₂.heap, slotsUsed := s₂.slotsUsed } : State).setVm s₂.vm).setTop g).pushFrame (.throwing q) := by
      refine e3.trans ?_
      rw [hf₂, State.calling_eq h.top, State.setFrames_setFrames, State.pushFrame, State.frames_setTop _ hr', State.setTop_of_frames _ hr', State.setFrames_setFrames, hr]
      rfl
    have hsame : U.sameButNew ({ U with heap := s₂.heap, slotsUsed := s₂.slotsUsed } : State) L mc ms := by
      refine ⟨?_, q2, q3, q4, q5, q6⟩
      obtain ⟨t, ht, -⟩ := State.frames_cons hr
      show ({ U with heap := s₂.heap, slotsUsed := s₂.slotsUsed } : State) = { U.setFrames U.frames with heap := s₂.heap, slotsUsed := s₂.slotsUsed }
      rw [State.setFrames_self ht]
    subst hg
    refine Or.inr ⟨q, ⟨(({ U with heap := s₂.heap, slotsUsed := s₂.slotsUsed } : State).setVm s₂.vm), Ls ++ L, c0 + mc, s0 + ms⟩,
      ⟨X.admits, X.cas, X.clock, X.frames, X.room, X.hears, X.method, X.code, (X.here.setHeapUsed s₂.heap s₂.slotsUsed).setVm hW'.alike, X.tail, State.WarmedH.trans X.warmed hW', X.limits, X.bytes, X.same.trans (hsame.setVm s.vm)⟩,
      ⟨g, mk, s₂, L, E, ce, rfl, rfl, hx, hce, hcv, hcl, rfl, hL, rfl, rfl⟩, ?_⟩
    show Steps p.tables e below _ (((({ U with heap := s₂.heap, slotsUsed := s₂.slotsUsed } : State).setVm s₂.vm).setTop g).pushFrame (.throwing q))
    rw [← hs₂]
    exact hsteps
end
variable {p : Program} {l : Launch} {e : Env} {R : Room} {s : State} {m : MethodId} {args : Array Value} {below : List Frame} {meth : Method} {c : Code} {T : State} {H : Heap} {locs : List Loc} {cells slots : Nat}
theorem vx_callVX (X : Stand p l e R s m args below meth c T locs cells slots) (hexec : p.tables.exec = Jvm.exec) {own C : String} {index : Nat} {y : MethodName} {bytes : ByteArray} {maxL : Nat} {ret : Option FieldType} {hh : List (Nat × Nat × Nat × Nat)}
    (hown : s.vm.findClass own = some m.cls) (hlink : (Cond.methodLink own index y).before args s = true) (hinst : (Cond.instanceMethod y).before args s = true) (hsel : (Cond.selects C y y).before args s = true)
    (hcode : (Cond.codeWith y bytes maxL ret hh).before args s = true) (hy : y.cls ≠ "java/lang/invoke/MethodHandle" ∧ y.cls ≠ "java/lang/invoke/VarHandle")
    {W9 : Nat} {Pre : Pt → Array Value → Prop} {Post : Pt → Array Value → Option Value → Pt → Prop} {PostX : Pt → Array Value → Addr → Pt → Prop} (hK : vx_Back l R p e below s args y 3 W9 Pre Post PostX)
    {b : Addr} {cellB : Cell} (hcell : T.heap[b]? = some cellB) (hobj : cellB.vm.isStatics = false) (hcls : s.vm.findClass C = some cellB.cls)
    {g : JFrame} (hg : g.method = m) (hsize : g.locals.size = c.maxLocals) {argsL rest : List Value} (hlen : ∀ sig, parseMethodDescriptor y.desc = some sig → argsL.length = sig.parameters.length)
    (hstack : g.stack = argsL.reverse ++ .ref b :: rest) (hW : 2 * g.monitorRoom + (rest.map fun v => v.category).sum ≤ W9) (hdg : decode c.code g.pc = .ok (.invokevirtual index, 3))
    (hpre : ∀ vm₁, s.WarmedH vm₁ → Pre ⟨T.setVm vm₁, locs, cells, slots⟩ (Value.ref b :: argsL).toArray) :
    (∃ (v : Option Value) (vm₁ : Vm) (B : Pt), s.WarmedH vm₁ ∧ Stand p l e R s m args below meth c B.U B.locs B.cells B.slots ∧ Post ⟨T.setVm vm₁, locs, cells, slots⟩ (Value.ref b :: argsL).toArray v B ∧
      ∀ target, Steps p.tables e below (B.U.setTop { g with pc := g.pc + 3, stack := v.toList ++ rest }) target → Steps p.tables e below (T.setTop g) target) ∨
    (∃ (q : Addr) (vm₁ : Vm) (B : Pt), s.WarmedH vm₁ ∧ Stand p l e R s m args below meth c B.U B.locs B.cells B.slots ∧ PostX ⟨T.setVm vm₁, locs, cells, slots⟩ (Value.ref b :: argsL).toArray q B ∧
      Steps p.tables e below (T.setTop g) ((B.U.setTop { g with stack := rest }).pushFrame (.throwing q))) := by
  obtain ⟨mk, methM, hnamed, hmethM, hstM, habM⟩ := Cond.instanceMethod_spec hinst
  obtain ⟨m8, methM', cM, hn8, hmethM', -, -, -, -, -, -, hsigM⟩ := Cond.codeWith_spec hcode
  cases Option.some.inj (hn8.symm.trans hnamed)
  cases hmethM.symm.trans hmethM'
  obtain ⟨c2, r2, m2, q1, q2, q3, q4, kP, hkP, hkPi⟩ := Cond.selects_spec hsel
  cases hcls.symm.trans q1
  cases (State.methodFound?_of_named hnamed hy).symm.trans q2
  cases hnamed.symm.trans q3
  have hselP : selectMethod e.platform s.vm cellB.cls mk = .method mk := by rw [Launch.admits_selectMethod X.admits]; exact q4
  obtain ⟨vm₁, X₁, hstep₁⟩ := X.invokevirtual hexec hown hlink hnamed hmethM hstM hkP hkPi hy (a := b) (cell := cellB) hcell
    (fun z h => by rw [h] at hobj; cases hobj) hselP hmethM habM hkP hkPi (g := g) hg (argsL := argsL) (rest := rest) (hlen _ hsigM) hstack hdg
  rcases hK m meth c ⟨T.setVm vm₁, locs, cells, slots⟩ { g with stack := rest } (.invokevirtual index) mk (Value.ref b :: argsL).toArray X₁ hg hsize hdg hW (X₁.named hnamed) (hpre vm₁ X₁.warmed) with ⟨v, B, X', hpost, hsteps⟩ | ⟨q, B, X', hpost, hsteps⟩
  · exact Or.inl ⟨v, vm₁, B, X₁.warmed, X', hpost, fun target h => hstep₁ _ fun acts => by rw [doInvoke_state]; exact hsteps.trans h⟩
  · exact Or.inr ⟨q, vm₁, B, X₁.warmed, X', hpost, hstep₁ _ fun acts => by rw [doInvoke_state]; exact hsteps⟩
theorem vx_callSX (X : Stand p l e R s m args below meth c T locs cells slots) (hexec : p.tables.exec = Jvm.exec) {own : String} {index : Nat} {y : MethodName} {bytes : ByteArray} {maxL : Nat} {ret : Option FieldType} {hh : List (Nat × Nat × Nat × Nat)}
    (hown : s.vm.findClass own = some m.cls) (hlink : (Cond.methodLink own index y).before args s = true) (hstat : (Cond.static y).before args s = true) (hinit : (Cond.initialized y.cls).before args s = true)
    (hcode : (Cond.codeWith y bytes maxL ret hh).before args s = true) (hy : y.cls ≠ "java/lang/invoke/MethodHandle" ∧ y.cls ≠ "java/lang/invoke/VarHandle")
    {W9 : Nat} {Pre : Pt → Array Value → Prop} {Post : Pt → Array Value → Option Value → Pt → Prop} {PostX : Pt → Array Value → Addr → Pt → Prop} (hK : vx_Back l R p e below s args y 3 W9 Pre Post PostX)
    {g : JFrame} (hg : g.method = m) (hsize : g.locals.size = c.maxLocals) {argsL rest : List Value} (hlen : ∀ sig, parseMethodDescriptor y.desc = some sig → argsL.length = sig.parameters.length)
    (hstack : g.stack = argsL.reverse ++ rest) (hW : 2 * g.monitorRoom + (rest.map fun v => v.category).sum ≤ W9) (hdg : decode c.code g.pc = .ok (.invokestatic index, 3))
    (hpre : ∀ vm₁, s.WarmedH vm₁ → Pre ⟨T.setVm vm₁, locs, cells, slots⟩ argsL.toArray) :
    (∃ (v : Option Value) (vm₁ : Vm) (B : Pt), s.WarmedH vm₁ ∧ Stand p l e R s m args below meth c B.U B.locs B.cells B.slots ∧ Post ⟨T.setVm vm₁, locs, cells, slots⟩ argsL.toArray v B ∧
      ∀ target, Steps p.tables e below (B.U.setTop { g with pc := g.pc + 3, stack := v.toList ++ rest }) target → Steps p.tables e below (T.setTop g) target) ∨
    (∃ (q : Addr) (vm₁ : Vm) (B : Pt), s.WarmedH vm₁ ∧ Stand p l e R s m args below meth c B.U B.locs B.cells B.slots ∧ PostX ⟨T.setVm vm₁, locs, cells, slots⟩ argsL.toArray q B ∧
      Steps p.tables e below (T.setTop g) ((B.U.setTop { g with stack := rest }).pushFrame (.throwing q))) := by
  obtain ⟨mk, methM, cM, hnamed, hmethM, -, -, -, -, -, -, hsigM⟩ := Cond.codeWith_spec hcode
  have hstatic : methM.isStatic = true := Cond.static_spec hnamed hmethM hstat
  obtain ⟨kP, hkP, -⟩ := className_of_methodNamed hnamed
  have hinitP : kP.init = .initialized := Cond.initialized_spec (findClass_of_methodNamed hnamed) hkP hinit
  obtain ⟨vm₁, X₁, hstep₁⟩ := X.invokestatic hexec hown hlink hnamed hmethM hstatic hkP hinitP hy (g := g) hg (argsL := argsL) (rest := rest) (hlen _ hsigM) hstack hdg
  rcases hK m meth c ⟨T.setVm vm₁, locs, cells, slots⟩ { g with stack := rest } (.invokestatic index) mk argsL.toArray X₁ hg hsize hdg hW (X₁.named hnamed) (hpre vm₁ X₁.warmed) with ⟨v, B, X', hpost, hsteps⟩ | ⟨q, B, X', hpost, hsteps⟩
  · exact Or.inl ⟨v, vm₁, B, X₁.warmed, X', hpost, fun target h => hstep₁ _ fun acts => by rw [doInvoke_state]; exact hsteps.trans h⟩
  · exact Or.inr ⟨q, vm₁, B, X₁.warmed, X', hpost, hstep₁ _ fun acts => by rw [doInvoke_state]; exact hsteps⟩
theorem vx_callVW (X : Stand p l e R s m args below meth c T locs cells slots) (hexec : p.tables.exec = Jvm.exec) {own C : String} {index : Nat} {y : MethodName} {bytes : ByteArray} {maxL : Nat} {ret : Option FieldType} {hh : List (Nat × Nat × Nat × Nat)}
    (hown : s.vm.findClass own = some m.cls) (hlink : (Cond.methodLink own index y).before args s = true) (hinst : (Cond.instanceMethod y).before args s = true) (hsel : (Cond.selects C y y).before args s = true)
    (hcode : (Cond.codeWith y bytes maxL ret hh).before args s = true) (hy : y.cls ≠ "java/lang/invoke/MethodHandle" ∧ y.cls ≠ "java/lang/invoke/VarHandle")
    {W9 : Nat} {Pre : Pt → Array Value → Prop} {Post : Pt → Array Value → Option Value → Pt → Prop} (hK : Back l R p e below s args y 3 W9 Pre Post)
    {b : Addr} {cellB : Cell} (hcell : T.heap[b]? = some cellB) (hobj : cellB.vm.isStatics = false) (hcls : s.vm.findClass C = some cellB.cls)
    {g : JFrame} (hg : g.method = m) (hsize : g.locals.size = c.maxLocals) {argsL rest : List Value} (hlen : ∀ sig, parseMethodDescriptor y.desc = some sig → argsL.length = sig.parameters.length)
    (hstack : g.stack = argsL.reverse ++ .ref b :: rest) (hW : 2 * g.monitorRoom + (rest.map fun v => v.category).sum ≤ W9) (hdg : decode c.code g.pc = .ok (.invokevirtual index, 3))
    (hpre : ∀ vm₁, s.WarmedH vm₁ → Pre ⟨T.setVm vm₁, locs, cells, slots⟩ (Value.ref b :: argsL).toArray) :
    ∃ (v : Option Value) (vm₁ : Vm) (B : Pt), s.WarmedH vm₁ ∧ Stand p l e R s m args below meth c B.U B.locs B.cells B.slots ∧ Post ⟨T.setVm vm₁, locs, cells, slots⟩ (Value.ref b :: argsL).toArray v B ∧
      ∀ target, Steps p.tables e below (B.U.setTop { g with pc := g.pc + 3, stack := v.toList ++ rest }) target → Steps p.tables e below (T.setTop g) target := by
  obtain ⟨mk, methM, hnamed, hmethM, hstM, habM⟩ := Cond.instanceMethod_spec hinst
  obtain ⟨m8, methM', cM, hn8, hmethM', -, -, -, -, -, -, hsigM⟩ := Cond.codeWith_spec hcode
  cases Option.some.inj (hn8.symm.trans hnamed)
  cases hmethM.symm.trans hmethM'
  obtain ⟨c2, r2, m2, q1, q2, q3, q4, kP, hkP, hkPi⟩ := Cond.selects_spec hsel
  cases hcls.symm.trans q1
  cases (State.methodFound?_of_named hnamed hy).symm.trans q2
  cases hnamed.symm.trans q3
  have hselP : selectMethod e.platform s.vm cellB.cls mk = .method mk := by rw [Launch.admits_selectMethod X.admits]; exact q4
  obtain ⟨vm₁, X₁, hstep₁⟩ := X.invokevirtual hexec hown hlink hnamed hmethM hstM hkP hkPi hy (a := b) (cell := cellB) hcell
    (fun z h => by rw [h] at hobj; cases hobj) hselP hmethM habM hkP hkPi (g := g) hg (argsL := argsL) (rest := rest) (hlen _ hsigM) hstack hdg
  obtain ⟨v, B, X', hpost, hsteps⟩ := hK m meth c ⟨T.setVm vm₁, locs, cells, slots⟩ { g with stack := rest } (.invokevirtual index) mk (Value.ref b :: argsL).toArray X₁ hg hsize hdg hW (X₁.named hnamed) (hpre vm₁ X₁.warmed)
  exact ⟨v, vm₁, B, X₁.warmed, X', hpost, fun target h => hstep₁ _ fun acts => by rw [doInvoke_state]; exact hsteps.trans h⟩
abbrev vx_CVW (R : Room) (s : State) (args : Array Value) (own C : String) (index : Nat) (y : MethodName) (bytes : ByteArray) (maxL : Nat) (ret : Option FieldType) (hh : List (Nat × Nat × Nat × Nat)) (ws : List Cond) (rm : Room) (mc ms n : Nat) : Prop :=
  (rm.cells = mc ∧ rm.slots = ms ∧ rm.frames + 1 ≤ R.frames ∧ 8 + (maxL + 11) + rm.locals ≤ R.locals ∧ (∀ w ∈ ws, ∀ (a' : Array Value) (U : State), s.WarmedH U.vm → w.before a' U = true) ∧ Cond.codeWith y bytes maxL ret hh ∈ ws) ∧
  (Cond.codeWith y bytes maxL ret hh).before args s = true ∧ (Cond.initialized y.cls).before args s = true ∧ (y.cls ≠ "java/lang/invoke/MethodHandle" ∧ y.cls ≠ "java/lang/invoke/VarHandle") ∧
  (∀ sig, parseMethodDescriptor y.desc = some sig → n = sig.parameters.length) ∧ (Cond.methodLink own index y).before args s = true ∧ (Cond.instanceMethod y).before args s = true ∧ (Cond.selects C y y).before args s = true
theorem vx_cwVW {own C : String} {index maxL mc ms : Nat} {y : MethodName} {bytes : ByteArray} {ret : Option FieldType} {hh : List (Nat × Nat × Nat × Nat)} {Ts ws ws' : List Cond} {rm : Room} (n : Nat) (ht : ∀ w ∈ Ts, w.before args s = true) (hT : GoodIn Ts (wsV own index C y ws)) (hw : ws = Cond.codeWith y bytes maxL ret hh :: ws') (hrc : rm.cells = mc) (hrs : rm.slots = ms)
    (hd : y.cls = C ∧ y.cls ≠ "java/lang/invoke/MethodHandle" ∧ y.cls ≠ "java/lang/invoke/VarHandle" ∧ (parseMethodDescriptor y.desc).map (fun d => d.parameters.length) = some n) (hR : rm.frames + 1 ≤ R.frames ∧ 8 + (maxL + 11) + rm.locals ≤ R.locals) :
    vx_CVW R s args own C index y bytes maxL ret hh ws rm mc ms n := by
  obtain ⟨hC, hd⟩ := hd
  subst hC
  have ok : ∀ w ∈ wsV own index y.cls y ws, w.before args s = true := fun w h => ht w (hT w h).1
  have hG : GoodIn Ts ws := fun w h => hT w (by unfold wsV; exact List.mem_append_right _ h)
  have hc : Cond.codeWith y bytes maxL ret hh ∈ ws := by rw [hw]; exact List.mem_cons_self
  refine ⟨⟨hrc, hrs, hR.1, hR.2, pay_in ht hG, hc⟩, ht _ (hG _ hc).1, ok _ (by simp [wsV]), ⟨hd.1, hd.2.1⟩, fun sig h => ?_, ok _ (by simp [wsV]), ok _ (by simp [wsV]), ok _ (by simp [wsV])⟩
  have h2 := hd.2.2
  rw [h] at h2
  exact (Option.some.inj h2).symm
theorem vx_runVW {y : MethodName} {bytes cc : ByteArray} {maxL nL mc ms n index : Nat} {ret : Option FieldType} {hh : List (Nat × Nat × Nat × Nat)} {ws : List Cond} {rm : Room} {Pc : Array Value → State → Prop} {Qc : Array Value → State → Outcome → State → Prop} {free : Addr → Prop} {Ts : List Cond} {own C : String} {b : Addr} {As rest : List Value} {g : JFrame}
    (S : CallFix p m c cc nL s args Ts own) (hM : Met l y ws rm Pc Qc mc ms free) (cw : vx_CVW R s args own C index y bytes maxL ret hh ws rm mc ms n) (hp : PreV s H C b Pc As)
    (hg : g.method = m) (hn : As.length = n) (hsize : g.locals.size = nL) (hstack : g.stack = As.reverse ++ .ref b :: rest) (hW : 2 * g.monitorRoom + (rest.map fun v => v.category).sum ≤ 8) (hdg : decode cc g.pc = .ok (.invokevirtual index, 3)) (hf : cells + mc ≤ R.cells ∧ slots + ms ≤ R.slots) :
    va_Run p l e R s m args below meth c H locs cells slots mc ms g rest (Qc (Value.ref b :: As).toArray) free := by
  obtain ⟨⟨hrc, hrs, hfr, hlo, hws, hcw⟩, hcode, hini, hy, hlen, hl, hin, hse⟩ := cw
  have hK : Back l R p e below s args y 3 8 (PreOf R mc ms Pc) (PostOf Qc mc ms free) := va_backW (hh := hh) (bytes := bytes) (maxL := maxL) (ret := ret) hM hp.1 hrc hrs hfr hlo hws hcw (fun a' U hW => word_at hW (Or.inl (by first | rfl | simp [Cond.onTables, Cond.keeps, Cond.steady])) hini)
  obtain ⟨hx, hb, hml, ho, -⟩ := S
  obtain ⟨-, ⟨cellB, hcB, hoB, hclB⟩, hPc⟩ := hp
  intro T hT X
  obtain ⟨v, vm₁, ⟨U', l2, c2, s2⟩, hW₁, X', ⟨g', mk, t, L, e1, e2, hq, h1, hL, h2, h3⟩, st⟩ := vx_callVW X hx (C := C) (hh := hh) (bytes := bytes) (maxL := maxL) (ret := ret) ho hl hin hse hcode hy hK (by rw [hT]; exact hcB) hoB hclB hg (hsize.trans hml.symm) (argsL := As) (rest := rest) (fun sig h => hn.trans (hlen sig h)) hstack hW (by rw [hb]; exact hdg)
    (fun vm₁ hW₁ => ⟨hf.1, hf.2, hPc (T.setVm vm₁) hT hW₁⟩)
  dsimp only [Pt.U, Pt.locs, Pt.cells, Pt.slots] at X' e1 e2 h1 h2 h3 st
  subst h1; subst h2; subst h3
  exact ⟨v, (T.setVm vm₁).calling g' mk (Value.ref b :: As).toArray, t, U', L, hT, X', hL, e1, e2, hq, st⟩
section
variable {y : MethodName} {bytes cc : ByteArray} {maxL nL mc ms n index : Nat} {ret : Option FieldType} {ws : List Cond} {rm : Room} {Pc : Array Value → State → Prop} {Qc : Array Value → State → Outcome → State → Prop} {XC : String → State → State → Prop} {free : Addr → Prop} {Ts : List Cond} {own C : String} {b : Addr} {As rest : List Value} {g : JFrame}
theorem vx_runVX {hh : List (Nat × Nat × Nat × Nat)} (S : CallFix p m c cc nL s args Ts own) (hM : vx_Met l y ws rm Pc Qc XC mc ms free) (cw : vx_CVW R s args own C index y bytes maxL ret hh ws rm mc ms n) (hp : PreV s H C b Pc As)
    (hg : g.method = m) (hn : As.length = n) (hsize : g.locals.size = nL) (hstack : g.stack = As.reverse ++ .ref b :: rest) (hW : 2 * g.monitorRoom + (rest.map fun v => v.category).sum ≤ 8) (hdg : decode cc g.pc = .ok (.invokevirtual index, 3)) (hf : cells + mc ≤ R.cells ∧ slots + ms ≤ R.slots) :
    vx_Run p l e R s m args below meth c H locs cells slots mc ms g rest (Qc (Value.ref b :: As).toArray) XC free := by
  obtain ⟨⟨hrc, hrs, hfr, hlo, hws, hcw⟩, hcode, hini, hy, hlen, hl, hin, hse⟩ := cw
  have hK : vx_Back l R p e below s args y 3 8 (PreOf R mc ms Pc) (PostOf Qc mc ms free) (vx_Post XC mc ms free) := vx_backW (hh := hh) (bytes := bytes) (maxL := maxL) (ret := ret) hM hp.1 hrc hrs hfr hlo hws hcw (fun a' U hW => word_at hW (Or.inl (by first | rfl | simp [Cond.onTables, Cond.keeps, Cond.steady])) hini)
  obtain ⟨hx, hb, hml, ho, -⟩ := S
  obtain ⟨-, ⟨cellB, hcB, hoB, hclB⟩, hPc⟩ := hp
  intro T hT X
  rcases vx_callVX X hx (C := C) (hh := hh) (bytes := bytes) (maxL := maxL) (ret := ret) ho hl hin hse hcode hy hK (by rw [hT]; exact hcB) hoB hclB hg (hsize.trans hml.symm) (argsL := As) (rest := rest) (fun sig h => hn.trans (hlen sig h)) hstack hW (by rw [hb]; exact hdg)
    (fun vm₁ hW₁ => ⟨hf.1, hf.2, hPc (T.setVm vm₁) hT hW₁⟩) with ⟨v, vm₁, ⟨U', l2, c2, s2⟩, hW₁, X', ⟨g', mk, t, L, e1, e2, hq, h1, hL, h2, h3⟩, st⟩ | ⟨q, vm₁, ⟨U', l2, c2, s2⟩, hW₁, X', ⟨g', mk, t, L, E, ce, e1, e2, hq, hce, hcv, hcl, h1, hL, h2, h3⟩, st⟩
  · dsimp only [Pt.U, Pt.locs, Pt.cells, Pt.slots] at X' e1 e2 h1 h2 h3 st
    subst h1; subst h2; subst h3
    exact Or.inl ⟨v, (T.setVm vm₁).calling g' mk (Value.ref b :: As).toArray, t, U', L, hT, X', hL, e1, e2, hq, st⟩
  · dsimp only [Pt.U, Pt.locs, Pt.cells, Pt.slots] at X' e1 e2 h1 h2 h3 st hcl
    subst h1; subst h2; subst h3
    exact Or.inr ⟨q, (T.setVm vm₁).calling g' mk (Value.ref b :: As).toArray, t, U', L, E, ce, hT, X', hL, e1, e2, hq, hce, hcv, vx_cls hW₁ hcl, st⟩
theorem vx_runSX {hh : List (Nat × Nat × Nat × Nat)} (S : CallFix p m c cc nL s args Ts own) (hM : vx_Met l y ws rm Pc Qc XC mc ms free) (cw : vx_CSW R s args own index y bytes maxL ret hh ws rm mc ms n) (hp : PreS s H Pc As)
    (hg : g.method = m) (hn : As.length = n) (hsize : g.locals.size = nL) (hstack : g.stack = As.reverse ++ rest) (hW : 2 * g.monitorRoom + (rest.map fun v => v.category).sum ≤ 8) (hdg : decode cc g.pc = .ok (.invokestatic index, 3)) (hf : cells + mc ≤ R.cells ∧ slots + ms ≤ R.slots) :
    vx_Run p l e R s m args below meth c H locs cells slots mc ms g rest (Qc As.toArray) XC free := by
  obtain ⟨⟨hrc, hrs, hfr, hlo, hws, hcw⟩, hcode, hini, hy, hlen, hl, hstt⟩ := cw
  have hK : vx_Back l R p e below s args y 3 8 (PreOf R mc ms Pc) (PostOf Qc mc ms free) (vx_Post XC mc ms free) := vx_backW (hh := hh) (bytes := bytes) (maxL := maxL) (ret := ret) hM hp.1 hrc hrs hfr hlo hws hcw (fun a' U hW => word_at hW (Or.inl (by first | rfl | simp [Cond.onTables, Cond.keeps, Cond.steady])) hini)
  obtain ⟨hx, hb, hml, ho, -⟩ := S
  intro T hT X
  rcases vx_callSX X hx (hh := hh) (bytes := bytes) (maxL := maxL) (ret := ret) ho hl hstt hini hcode hy hK hg (hsize.trans hml.symm) (argsL := As) (rest := rest) (fun sig h => hn.trans (hlen sig h)) hstack hW (by rw [hb]; exact hdg)
    (fun vm₁ hW₁ => ⟨hf.1, hf.2, hp.2 (T.setVm vm₁) hT hW₁⟩) with ⟨v, vm₁, ⟨U', l2, c2, s2⟩, hW₁, X', ⟨g', mk, t, L, e1, e2, hq, h1, hL, h2, h3⟩, st⟩ | ⟨q, vm₁, ⟨U', l2, c2, s2⟩, hW₁, X', ⟨g', mk, t, L, E, ce, e1, e2, hq, hce, hcv, hcl, h1, hL, h2, h3⟩, st⟩
  · dsimp only [Pt.U, Pt.locs, Pt.cells, Pt.slots] at X' e1 e2 h1 h2 h3 st
    subst h1; subst h2; subst h3
    exact Or.inl ⟨v, (T.setVm vm₁).calling g' mk As.toArray, t, U', L, hT, X', hL, e1, e2, hq, st⟩
  · dsimp only [Pt.U, Pt.locs, Pt.cells, Pt.slots] at X' e1 e2 h1 h2 h3 st hcl
    subst h1; subst h2; subst h3
    exact Or.inr ⟨q, (T.setVm vm₁).calling g' mk As.toArray, t, U', L, E, ce, hT, X', hL, e1, e2, hq, hce, hcv, vx_cls hW₁ hcl, st⟩
end
end VXH
theorem vx_ofWH {l : Launch} {y : MethodName} {ws ws' : List Cond} {rm : Room} {Pc : Array Value → State → Prop} {Qc : Array Value → State → Outcome → State → Prop} {XC : String → State → State → Prop} {mc ms : Nat} {free : Addr → Prop} {cc : ByteArray} {maxL : Nat} {ret : Option FieldType} {hh : List (Nat × Nat × Nat × Nat)}
    (hy : plainName y.cls = true) (hw : ws = Cond.codeWith y cc maxL ret hh :: ws')
    (body : ∀ p e s m args below meth c s₁, BodyLoose p l y (headSpec ws rm) cc maxL ret e s m args below meth c s₁ → c.maxLocals = maxL → Pc args s →
      W p l e (headSpec ws rm).room s m args below meth c s.heap [] 0 0 (vx_MQ below Qc XC args s mc ms free) (entryFrame m args maxL)) : vx_Met l y ws rm Pc Qc XC mc ms free := by
  refine MetFree.of_bodyS (code := cc) (maxLocals := maxL) (ret := ret) hy ?_ ?_
  · intro args s m h hn
    obtain ⟨m9, meth, c, hn9, h1, h2, h3, h4, -, h5, h6, -⟩ := Cond.codeWith_spec (atoms_spec (ws := ws) h _ (by rw [hw]; exact List.mem_cons_self))
    cases hn.symm.trans hn9
    exact ⟨meth, c, h1, h2, h3, h4, h5, h6⟩
  · intro p e s m args below meth c s₁ B hml hP _
    have hh0 : s₁.heap = s.heap := by rw [B.state]; rfl
    obtain ⟨t, a1, o, b1, b2, b3⟩ := body p e s m args below meth c s₁ B hml hP s₁ hh0 (Stand.of_body B)
    exact ⟨t, o, a1, b1, b2, b3⟩
/-! ===== END ===== -/
end
section
/-! names: by my own program out of the Statement and the listing -/
/-- the words that every contract takes: those of the tables that a call may hand on -/
def big : List Cond := lw_tbl.filter goodWord
theorem big_of {w : Cond} {i : Nat} (h : tables_1[i]? = some w) (g : goodWord w = true) : w ∈ big := List.mem_filter.mpr ⟨List.mem_append_right _ (List.mem_of_getElem? h), g⟩
theorem big_sel {w : Cond} {i : Nat} (h : (k2_sels lw_privs)[i]? = some w) (g : goodWord w = true) : w ∈ big := List.mem_filter.mpr ⟨List.mem_append_left _ (List.mem_of_getElem? h), g⟩
theorem gi_0 {c : Cond} : GoodIn (c :: big) big := fun _ h => ⟨List.mem_cons_of_mem _ h, good_of_word (List.mem_filter.mp h).2⟩
theorem gi_c {c w : Cond} {ws : List Cond} (h : w ∈ big) (k : GoodIn (c :: big) ws) : GoodIn (c :: big) (w :: ws) := fun _ q => (List.mem_cons.mp q).elim (fun e => by rw [e]; exact ⟨List.mem_cons_of_mem _ h, good_of_word (List.mem_filter.mp h).2⟩) (k _)
theorem bg {args : Array Value} {s : State} {c w : Cond} (hts : ∀ w ∈ c :: big, w.before args s = true) (h : w ∈ big) : w.before args s = true := hts w (List.mem_cons_of_mem _ h)
end
section
abbrev b_F_init : ByteArray := prog_1_method_1_code
def y_F_init : MethodName := ⟨"ListForge", "<init>", "()V"⟩
abbrev b_F_ask : ByteArray := prog_1_method_2_code
def y_F_ask : MethodName := ⟨"ListForge", "ask", "(III)I"⟩
abbrev b_F_confirm : ByteArray := prog_1_method_3_code
def y_F_confirm : MethodName := ⟨"ListForge", "confirm", "(I)I"⟩
abbrev b_F_leave : ByteArray := prog_1_method_4_code
def y_F_leave : MethodName := ⟨"ListForge", "leave", "(II)I"⟩
abbrev b_F_way : ByteArray := prog_1_method_5_code
def y_F_way : MethodName := ⟨"ListForge", "way", "(III)I"⟩
abbrev b_F_moderator : ByteArray := prog_1_method_6_code
def y_F_moderator : MethodName := ⟨"ListForge", "moderator", "(IIZ)Z"⟩
abbrev b_F_ban : ByteArray := prog_1_method_7_code
def y_F_ban : MethodName := ⟨"ListForge", "ban", "(IIZ)Z"⟩
abbrev b_F_setting : ByteArray := prog_1_method_8_code
def y_F_setting : MethodName := ⟨"ListForge", "setting", "(IID)D"⟩
abbrev b_F_post : ByteArray := prog_1_method_9_code
def y_F_post : MethodName := ⟨"ListForge", "post", "(IIII)I"⟩
abbrev b_F_judge : ByteArray := prog_1_method_10_code
def y_F_judge : MethodName := ⟨"ListForge", "judge", "(III)I"⟩
abbrev b_F_bounce : ByteArray := prog_1_method_11_code
def y_F_bounce : MethodName := ⟨"ListForge", "bounce", "(IIZ)D"⟩
abbrev b_F_renew : ByteArray := prog_1_method_12_code
def y_F_renew : MethodName := ⟨"ListForge", "renew", "(II)I"⟩
abbrev b_F_tick : ByteArray := prog_1_method_13_code
def y_F_tick : MethodName := ⟨"ListForge", "tick", "(I)I"⟩
abbrev b_F_told : ByteArray := prog_1_method_14_code
def y_F_told : MethodName := ⟨"ListForge", "told", "(III)I"⟩
abbrev b_F_score : ByteArray := prog_1_method_15_code
def y_F_score : MethodName := ⟨"ListForge", "score", "(II)D"⟩
abbrev b_F_sent : ByteArray := prog_1_method_16_code
def y_F_sent : MethodName := ⟨"ListForge", "sent", "(II)I"⟩
abbrev b_F_count : ByteArray := prog_1_method_17_code
def y_F_count : MethodName := ⟨"ListForge", "count", "(I)I"⟩
abbrev b_F_countOfList : ByteArray := prog_1_method_18_code
def y_F_countOfList : MethodName := ⟨"ListForge", "countOfList", "(LListForge$MailingList;I)I"⟩
abbrev b_F_postsThatAre : ByteArray := prog_1_method_19_code
def y_F_postsThatAre : MethodName := ⟨"ListForge", "postsThatAre", "(I)I"⟩
abbrev b_F_letThrough : ByteArray := prog_1_method_20_code
def y_F_letThrough : MethodName := ⟨"ListForge", "letThrough", "(I)V"⟩
abbrev b_F_existing : ByteArray := prog_1_method_21_code
def y_F_existing : MethodName := ⟨"ListForge", "existing", "(II)LListForge$Subscription;"⟩
abbrev b_F_requirePlace : ByteArray := prog_1_method_22_code
def y_F_requirePlace : MethodName := ⟨"ListForge", "requirePlace", "(II)V"⟩
abbrev b_F_require : ByteArray := prog_1_method_23_code
def y_F_require : MethodName := ⟨"ListForge", "require", "(Z)V"⟩
abbrev b_F_isWithin : ByteArray := prog_1_method_24_code
def y_F_isWithin : MethodName := ⟨"ListForge", "isWithin", "(III)Z"⟩
abbrev b_L_init : ByteArray := prog_2_method_1_code
def y_L_init : MethodName := ⟨"ListForge$MailingList", "<init>", "(I)V"⟩
abbrev b_L_changeOpen : ByteArray := prog_2_method_2_code
def y_L_changeOpen : MethodName := ⟨"ListForge$MailingList", "changeOpen", "(Z)D"⟩
abbrev b_L_changeWatched : ByteArray := prog_2_method_3_code
def y_L_changeWatched : MethodName := ⟨"ListForge$MailingList", "changeWatched", "(Z)D"⟩
abbrev b_L_changeGreatest : ByteArray := prog_2_method_4_code
def y_L_changeGreatest : MethodName := ⟨"ListForge$MailingList", "changeGreatest", "(I)D"⟩
abbrev b_L_changeFull : ByteArray := prog_2_method_5_code
def y_L_changeFull : MethodName := ⟨"ListForge$MailingList", "changeFull", "(I)D"⟩
abbrev b_L_changeBest : ByteArray := prog_2_method_6_code
def y_L_changeBest : MethodName := ⟨"ListForge$MailingList", "changeBest", "(D)D"⟩
abbrev b_L_changeBarred : ByteArray := prog_2_method_7_code
def y_L_changeBarred : MethodName := ⟨"ListForge$MailingList", "changeBarred", "(IZ)D"⟩
abbrev b_L_subscriptionCount : ByteArray := prog_2_method_8_code
def y_L_subscriptionCount : MethodName := ⟨"ListForge$MailingList", "subscriptionCount", "()I"⟩
abbrev b_L_liveCount : ByteArray := prog_2_method_9_code
def y_L_liveCount : MethodName := ⟨"ListForge$MailingList", "liveCount", "()I"⟩
abbrev b_L_refusesSender : ByteArray := prog_2_method_10_code
def y_L_refusesSender : MethodName := ⟨"ListForge$MailingList", "refusesSender", "(I)Z"⟩
abbrev b_L_holdsBack : ByteArray := prog_2_method_11_code
def y_L_holdsBack : MethodName := ⟨"ListForge$MailingList", "holdsBack", "(III)Z"⟩
abbrev b_L_tellModerators : ByteArray := prog_2_method_12_code
def y_L_tellModerators : MethodName := ⟨"ListForge$MailingList", "tellModerators", "(ILListForge$Outbox;)V"⟩
abbrev b_L_deliver : ByteArray := prog_2_method_13_code
def y_L_deliver : MethodName := ⟨"ListForge$MailingList", "deliver", "(ILListForge$Post;ILListForge$Outbox;)V"⟩
abbrev b_L_addToBundle : ByteArray := prog_2_method_14_code
def y_L_addToBundle : MethodName := ⟨"ListForge$MailingList", "addToBundle", "(II)V"⟩
abbrev b_L_sendBundle : ByteArray := prog_2_method_15_code
def y_L_sendBundle : MethodName := ⟨"ListForge$MailingList", "sendBundle", "(LListForge$Outbox;)V"⟩
abbrev b_L_beginDay : ByteArray := prog_2_method_16_code
def y_L_beginDay : MethodName := ⟨"ListForge$MailingList", "beginDay", "(ILListForge$Outbox;)V"⟩
abbrev b_L_beginDayOf : ByteArray := prog_2_method_17_code
def y_L_beginDayOf : MethodName := ⟨"ListForge$MailingList", "beginDayOf", "(IILListForge$Outbox;)V"⟩
abbrev b_L_warnAgain : ByteArray := prog_2_method_18_code
def y_L_warnAgain : MethodName := ⟨"ListForge$MailingList", "warnAgain", "(ILListForge$Outbox;)V"⟩
abbrev b_O_init : ByteArray := prog_3_method_1_code
def y_O_init : MethodName := ⟨"ListForge$Outbox", "<init>", "()V"⟩
abbrev b_O_add : ByteArray := prog_3_method_2_code
def y_O_add : MethodName := ⟨"ListForge$Outbox", "add", "(IIII)V"⟩
abbrev b_P_init : ByteArray := prog_4_method_1_code
def y_P_init : MethodName := ⟨"ListForge$Post", "<init>", "()V"⟩
abbrev b_P_comeIn : ByteArray := prog_4_method_2_code
def y_P_comeIn : MethodName := ⟨"ListForge$Post", "comeIn", "(III)V"⟩
abbrev b_S_init : ByteArray := prog_5_method_1_code
def y_S_init : MethodName := ⟨"ListForge$Subscription", "<init>", "()V"⟩
abbrev b_S_begin : ByteArray := prog_5_method_2_code
def y_S_begin : MethodName := ⟨"ListForge$Subscription", "begin", "(III)V"⟩
abbrev b_S_becomeLive : ByteArray := prog_5_method_3_code
def y_S_becomeLive : MethodName := ⟨"ListForge$Subscription", "becomeLive", "(I)V"⟩
abbrev b_S_stop : ByteArray := prog_5_method_4_code
def y_S_stop : MethodName := ⟨"ListForge$Subscription", "stop", "(I)V"⟩
abbrev b_S_end : ByteArray := prog_5_method_5_code
def y_S_end : MethodName := ⟨"ListForge$Subscription", "end", "()V"⟩
abbrev b_S_takes : ByteArray := prog_5_method_6_code
def y_S_takes : MethodName := ⟨"ListForge$Subscription", "takes", "(I)Z"⟩
abbrev b_S_fade : ByteArray := prog_5_method_7_code
def y_S_fade : MethodName := ⟨"ListForge$Subscription", "fade", "(I)V"⟩
abbrev b_M_init : ByteArray := prog_7_method_1_code
def y_M_init : MethodName := ⟨"ListForgeModel", "<init>", "()V"⟩
abbrev b_M_thrown : ByteArray := prog_7_method_2_code
def y_M_thrown : MethodName := ⟨"ListForgeModel", "thrown", "()I"⟩
abbrev b_M_in : ByteArray := prog_7_method_3_code
def y_M_in : MethodName := ⟨"ListForgeModel", "in", "(III)Z"⟩
abbrev b_M_isPlace : ByteArray := prog_7_method_4_code
def y_M_isPlace : MethodName := ⟨"ListForgeModel", "isPlace", "(II)Z"⟩
abbrev b_M_refuse : ByteArray := prog_7_method_5_code
def y_M_refuse : MethodName := ⟨"ListForgeModel", "refuse", "(I)I"⟩
abbrev b_M_send : ByteArray := prog_7_method_6_code
def y_M_send : MethodName := ⟨"ListForgeModel", "send", "(IIII)V"⟩
abbrev b_M_ask : ByteArray := prog_7_method_7_code
def y_M_ask : MethodName := ⟨"ListForgeModel", "ask", "(III)I"⟩
abbrev b_M_confirm : ByteArray := prog_7_method_8_code
def y_M_confirm : MethodName := ⟨"ListForgeModel", "confirm", "(I)I"⟩
abbrev b_M_leave : ByteArray := prog_7_method_9_code
def y_M_leave : MethodName := ⟨"ListForgeModel", "leave", "(II)I"⟩
abbrev b_M_way : ByteArray := prog_7_method_10_code
def y_M_way : MethodName := ⟨"ListForgeModel", "way", "(III)I"⟩
abbrev b_M_moderator : ByteArray := prog_7_method_11_code
def y_M_moderator : MethodName := ⟨"ListForgeModel", "moderator", "(IIZ)Z"⟩
abbrev b_M_ban : ByteArray := prog_7_method_12_code
def y_M_ban : MethodName := ⟨"ListForgeModel", "ban", "(IIZ)Z"⟩
abbrev b_M_setting : ByteArray := prog_7_method_13_code
def y_M_setting : MethodName := ⟨"ListForgeModel", "setting", "(IID)D"⟩
abbrev b_M_post : ByteArray := prog_7_method_14_code
def y_M_post : MethodName := ⟨"ListForgeModel", "post", "(IIII)I"⟩
abbrev b_M_isLive : ByteArray := prog_7_method_15_code
def y_M_isLive : MethodName := ⟨"ListForgeModel", "isLive", "(III)Z"⟩
abbrev b_M_pass : ByteArray := prog_7_method_16_code
def y_M_pass : MethodName := ⟨"ListForgeModel", "pass", "(I)V"⟩
abbrev b_M_digest : ByteArray := prog_7_method_17_code
def y_M_digest : MethodName := ⟨"ListForgeModel", "digest", "(I)V"⟩
abbrev b_M_waiting : ByteArray := prog_7_method_18_code
def y_M_waiting : MethodName := ⟨"ListForgeModel", "waiting", "(I)I"⟩
abbrev b_M_judge : ByteArray := prog_7_method_19_code
def y_M_judge : MethodName := ⟨"ListForgeModel", "judge", "(III)I"⟩
abbrev b_M_bounce : ByteArray := prog_7_method_20_code
def y_M_bounce : MethodName := ⟨"ListForgeModel", "bounce", "(IIZ)D"⟩
abbrev b_M_renew : ByteArray := prog_7_method_21_code
def y_M_renew : MethodName := ⟨"ListForgeModel", "renew", "(II)I"⟩
abbrev b_M_day : ByteArray := prog_7_method_22_code
def y_M_day : MethodName := ⟨"ListForgeModel", "day", "(II)V"⟩
abbrev b_M_tick : ByteArray := prog_7_method_23_code
def y_M_tick : MethodName := ⟨"ListForgeModel", "tick", "(I)I"⟩
abbrev b_M_told : ByteArray := prog_7_method_24_code
def y_M_told : MethodName := ⟨"ListForgeModel", "told", "(III)I"⟩
abbrev b_M_score : ByteArray := prog_7_method_25_code
def y_M_score : MethodName := ⟨"ListForgeModel", "score", "(II)D"⟩
abbrev b_M_sent : ByteArray := prog_7_method_26_code
def y_M_sent : MethodName := ⟨"ListForgeModel", "sent", "(II)I"⟩
abbrev b_M_count : ByteArray := prog_7_method_27_code
def y_M_count : MethodName := ⟨"ListForgeModel", "count", "(I)I"⟩
abbrev b_W_ask : ByteArray := method_3_code
def y_W_ask : MethodName := ⟨"ListForgeLaw", "ask", "(LListForge;III[J)I"⟩
abbrev b_W_confirm : ByteArray := method_4_code
def y_W_confirm : MethodName := ⟨"ListForgeLaw", "confirm", "(LListForge;I[J)I"⟩
abbrev b_W_leave : ByteArray := method_5_code
def y_W_leave : MethodName := ⟨"ListForgeLaw", "leave", "(LListForge;II[J)I"⟩
abbrev b_W_way : ByteArray := method_6_code
def y_W_way : MethodName := ⟨"ListForgeLaw", "way", "(LListForge;III[J)I"⟩
abbrev b_W_moderator : ByteArray := method_7_code
def y_W_moderator : MethodName := ⟨"ListForgeLaw", "moderator", "(LListForge;IIZ[J)I"⟩
abbrev b_W_ban : ByteArray := method_8_code
def y_W_ban : MethodName := ⟨"ListForgeLaw", "ban", "(LListForge;IIZ[J)I"⟩
abbrev b_W_setting : ByteArray := method_9_code
def y_W_setting : MethodName := ⟨"ListForgeLaw", "setting", "(LListForge;IID[D)I"⟩
abbrev b_W_post : ByteArray := method_10_code
def y_W_post : MethodName := ⟨"ListForgeLaw", "post", "(LListForge;IIII[J)I"⟩
abbrev b_W_judge : ByteArray := method_11_code
def y_W_judge : MethodName := ⟨"ListForgeLaw", "judge", "(LListForge;III[J)I"⟩
abbrev b_W_bounce : ByteArray := method_12_code
def y_W_bounce : MethodName := ⟨"ListForgeLaw", "bounce", "(LListForge;IIZ[D)I"⟩
abbrev b_W_renew : ByteArray := method_13_code
def y_W_renew : MethodName := ⟨"ListForgeLaw", "renew", "(LListForge;II[J)I"⟩
abbrev b_W_tick : ByteArray := method_14_code
def y_W_tick : MethodName := ⟨"ListForgeLaw", "tick", "(LListForge;I[J)I"⟩
abbrev b_W_told : ByteArray := method_15_code
def y_W_told : MethodName := ⟨"ListForgeLaw", "told", "(LListForge;III[J)I"⟩
abbrev b_W_score : ByteArray := method_16_code
def y_W_score : MethodName := ⟨"ListForgeLaw", "score", "(LListForge;II[D)I"⟩
abbrev b_W_sent : ByteArray := method_17_code
def y_W_sent : MethodName := ⟨"ListForgeLaw", "sent", "(LListForge;II[J)I"⟩
abbrev b_W_count : ByteArray := method_18_code
def y_W_count : MethodName := ⟨"ListForgeLaw", "count", "(LListForge;I[J)I"⟩
abbrev b_W_law : ByteArray := code
def y_W_law : MethodName := ⟨"ListForgeLaw", "law", "([I)Z"⟩
end
section
theorem mw_0 : (Cond.initialized "ListForgeLaw") ∈ big := big_of (i := 0) (by decide +kernel) (by decide +kernel)
theorem mw_1 : (Cond.initialized "ListForge") ∈ big := big_of (i := 1) (by decide +kernel) (by decide +kernel)
theorem mw_2 : (Cond.initialized "ListForge$MailingList") ∈ big := big_of (i := 2) (by decide +kernel) (by decide +kernel)
theorem mw_3 : (Cond.initialized "ListForge$Subscription") ∈ big := big_of (i := 3) (by decide +kernel) (by decide +kernel)
theorem mw_4 : (Cond.initialized "ListForge$Post") ∈ big := big_of (i := 4) (by decide +kernel) (by decide +kernel)
theorem mw_5 : (Cond.initialized "ListForge$Outbox") ∈ big := big_of (i := 5) (by decide +kernel) (by decide +kernel)
theorem mw_6 : (Cond.initialized "ListForgeModel") ∈ big := big_of (i := 6) (by decide +kernel) (by decide +kernel)
theorem mw_7 : (Cond.initialized "java/lang/Throwable") ∈ big := big_of (i := 7) (by decide +kernel) (by decide +kernel)
theorem mw_8 : (Cond.initialized "java/lang/Exception") ∈ big := big_of (i := 8) (by decide +kernel) (by decide +kernel)
theorem mw_9 : (Cond.initialized "java/lang/RuntimeException") ∈ big := big_of (i := 9) (by decide +kernel) (by decide +kernel)
theorem mw_10 : (Cond.initialized "java/lang/IllegalArgumentException") ∈ big := big_of (i := 10) (by decide +kernel) (by decide +kernel)
theorem mw_11 : (Cond.initialized "java/lang/IllegalStateException") ∈ big := big_of (i := 11) (by decide +kernel) (by decide +kernel)
theorem mw_12 : (Cond.initialized "java/lang/UnsupportedOperationException") ∈ big := big_of (i := 12) (by decide +kernel) (by decide +kernel)
theorem mw_13 : (Cond.initialized "java/util/NoSuchElementException") ∈ big := big_of (i := 13) (by decide +kernel) (by decide +kernel)
theorem mw_14 : (Cond.initialized "java/lang/IndexOutOfBoundsException") ∈ big := big_of (i := 14) (by decide +kernel) (by decide +kernel)
theorem mw_15 : (Cond.classLink "ListForgeLaw" 8 "ListForge") ∈ big := big_of (i := 15) (by decide +kernel) (by decide +kernel)
theorem mw_16 : (Cond.instantiable "ListForge" 6) ∈ big := big_of (i := 16) (by decide +kernel) (by decide +kernel)
theorem mw_17 : (Cond.methodLink "ListForgeLaw" 75 ({ cls := "ListForge", name := "<init>", desc := "()V" } : MethodName)) ∈ big := big_of (i := 17) (by decide +kernel) (by decide +kernel)
theorem mw_18 : (Cond.instanceMethod ({ cls := "ListForge", name := "<init>", desc := "()V" } : MethodName)) ∈ big := big_of (i := 18) (by decide +kernel) (by decide +kernel)
theorem mw_19 : (Cond.code ({ cls := "ListForge", name := "<init>", desc := "()V" } : MethodName) prog_1_method_1_code 2 (Option.none : Option FieldType)) ∈ big := big_of (i := 19) (by decide +kernel) (by decide +kernel)
theorem mw_20 : (Cond.methodLink "ListForge" 1 ({ cls := "java/lang/Object", name := "<init>", desc := "()V" } : MethodName)) ∈ big := big_of (i := 20) (by decide +kernel) (by decide +kernel)
theorem mw_21 : (Cond.instanceMethod ({ cls := "java/lang/Object", name := "<init>", desc := "()V" } : MethodName)) ∈ big := big_of (i := 21) (by decide +kernel) (by decide +kernel)
theorem mw_22 : (Cond.code ({ cls := "java/lang/Object", name := "<init>", desc := "()V" } : MethodName) object_method_1_code 1 (Option.none : Option FieldType)) ∈ big := big_of (i := 22) (by decide +kernel) (by decide +kernel)
theorem mw_23 : (Cond.classLink "ListForge" 9 "ListForge$MailingList") ∈ big := big_of (i := 23) (by decide +kernel) (by decide +kernel)
theorem mw_25 : (Cond.instantiable "ListForge$MailingList" 12) ∈ big := big_of (i := 25) (by decide +kernel) (by decide +kernel)
theorem mw_26 : (Cond.methodLink "ListForge" 15 ({ cls := "ListForge$MailingList", name := "<init>", desc := "(I)V" } : MethodName)) ∈ big := big_of (i := 26) (by decide +kernel) (by decide +kernel)
theorem mw_27 : (Cond.instanceMethod ({ cls := "ListForge$MailingList", name := "<init>", desc := "(I)V" } : MethodName)) ∈ big := big_of (i := 27) (by decide +kernel) (by decide +kernel)
theorem mw_28 : (Cond.code ({ cls := "ListForge$MailingList", name := "<init>", desc := "(I)V" } : MethodName) prog_2_method_1_code 3 (Option.none : Option FieldType)) ∈ big := big_of (i := 28) (by decide +kernel) (by decide +kernel)
theorem mw_29 : (Cond.methodLink "ListForge$MailingList" 3 ({ cls := "java/lang/Object", name := "<init>", desc := "()V" } : MethodName)) ∈ big := big_of (i := 29) (by decide +kernel) (by decide +kernel)
theorem mw_30 : (Cond.classLink "ListForge$MailingList" 15 "ListForge$Subscription") ∈ big := big_of (i := 30) (by decide +kernel) (by decide +kernel)
theorem mw_32 : (Cond.instantiable "ListForge$Subscription" 8) ∈ big := big_of (i := 32) (by decide +kernel) (by decide +kernel)
theorem mw_33 : (Cond.methodLink "ListForge$MailingList" 21 ({ cls := "ListForge$Subscription", name := "<init>", desc := "()V" } : MethodName)) ∈ big := big_of (i := 33) (by decide +kernel) (by decide +kernel)
theorem mw_34 : (Cond.instanceMethod ({ cls := "ListForge$Subscription", name := "<init>", desc := "()V" } : MethodName)) ∈ big := big_of (i := 34) (by decide +kernel) (by decide +kernel)
theorem mw_35 : (Cond.code ({ cls := "ListForge$Subscription", name := "<init>", desc := "()V" } : MethodName) prog_5_method_1_code 1 (Option.none : Option FieldType)) ∈ big := big_of (i := 35) (by decide +kernel) (by decide +kernel)
theorem mw_36 : (Cond.methodLink "ListForge$Subscription" 3 ({ cls := "java/lang/Object", name := "<init>", desc := "()V" } : MethodName)) ∈ big := big_of (i := 36) (by decide +kernel) (by decide +kernel)
theorem mw_37 : (Cond.fieldLink "ListForge$Subscription" 9 "ListForge$Subscription" "state" "I") ∈ big := big_of (i := 37) (by decide +kernel) (by decide +kernel)
theorem mw_38 : (Cond.fieldLink "ListForge" 48 "ListForge$Subscription" "state" "I") ∈ big := big_of (i := 38) (by decide +kernel) (by decide +kernel)
theorem mw_39 : (Cond.fieldLink "ListForge$MailingList" 48 "ListForge$Subscription" "state" "I") ∈ big := big_of (i := 39) (by decide +kernel) (by decide +kernel)
theorem mw_40 : (Cond.fieldLink "ListForge$Subscription" 15 "ListForge$Subscription" "way" "I") ∈ big := big_of (i := 40) (by decide +kernel) (by decide +kernel)
theorem mw_41 : (Cond.fieldLink "ListForge" 102 "ListForge$Subscription" "way" "I") ∈ big := big_of (i := 41) (by decide +kernel) (by decide +kernel)
theorem mw_42 : (Cond.fieldLink "ListForge$Subscription" 18 "ListForge$Subscription" "code" "I") ∈ big := big_of (i := 42) (by decide +kernel) (by decide +kernel)
theorem mw_43 : (Cond.fieldLink "ListForge" 84 "ListForge$Subscription" "code" "I") ∈ big := big_of (i := 43) (by decide +kernel) (by decide +kernel)
theorem mw_44 : (Cond.fieldLink "ListForge$Subscription" 21 "ListForge$Subscription" "since" "I") ∈ big := big_of (i := 44) (by decide +kernel) (by decide +kernel)
theorem mw_45 : (Cond.fieldLink "ListForge" 201 "ListForge$Subscription" "since" "I") ∈ big := big_of (i := 45) (by decide +kernel) (by decide +kernel)
theorem mw_46 : (Cond.fieldLink "ListForge$MailingList" 93 "ListForge$Subscription" "since" "I") ∈ big := big_of (i := 46) (by decide +kernel) (by decide +kernel)
theorem mw_47 : (Cond.fieldLink "ListForge$Subscription" 24 "ListForge$Subscription" "warning" "I") ∈ big := big_of (i := 47) (by decide +kernel) (by decide +kernel)
theorem mw_48 : (Cond.fieldLink "ListForge" 193 "ListForge$Subscription" "warning" "I") ∈ big := big_of (i := 48) (by decide +kernel) (by decide +kernel)
theorem mw_49 : (Cond.fieldLink "ListForge$MailingList" 107 "ListForge$Subscription" "warning" "I") ∈ big := big_of (i := 49) (by decide +kernel) (by decide +kernel)
theorem mw_50 : (Cond.fieldLink "ListForge$Subscription" 27 "ListForge$Subscription" "bounceDay" "I") ∈ big := big_of (i := 50) (by decide +kernel) (by decide +kernel)
theorem mw_51 : (Cond.fieldLink "ListForge" 180 "ListForge$Subscription" "bounceDay" "I") ∈ big := big_of (i := 51) (by decide +kernel) (by decide +kernel)
theorem mw_52 : (Cond.fieldLink "ListForge$Subscription" 34 "ListForge$Subscription" "moderates" "Z") ∈ big := big_of (i := 52) (by decide +kernel) (by decide +kernel)
theorem mw_53 : (Cond.fieldLink "ListForge" 107 "ListForge$Subscription" "moderates" "Z") ∈ big := big_of (i := 53) (by decide +kernel) (by decide +kernel)
theorem mw_54 : (Cond.fieldLink "ListForge$MailingList" 51 "ListForge$Subscription" "moderates" "Z") ∈ big := big_of (i := 54) (by decide +kernel) (by decide +kernel)
theorem mw_55 : (Cond.fieldLink "ListForge$Subscription" 30 "ListForge$Subscription" "score" "D") ∈ big := big_of (i := 55) (by decide +kernel) (by decide +kernel)
theorem mw_56 : (Cond.fieldLink "ListForge" 183 "ListForge$Subscription" "score" "D") ∈ big := big_of (i := 56) (by decide +kernel) (by decide +kernel)
theorem mw_57 : (Cond.lays "ListForge$Subscription" "ListForge$Subscription" "state" "I") ∈ big := big_of (i := 57) (by decide +kernel) (by decide +kernel)
theorem mw_58 : (Cond.soleField "ListForge$Subscription" "state") ∈ big := big_of (i := 58) (by decide +kernel) (by decide +kernel)
theorem mw_59 : (Cond.lays "ListForge$Subscription" "ListForge$Subscription" "way" "I") ∈ big := big_of (i := 59) (by decide +kernel) (by decide +kernel)
theorem mw_60 : (Cond.soleField "ListForge$Subscription" "way") ∈ big := big_of (i := 60) (by decide +kernel) (by decide +kernel)
theorem mw_61 : (Cond.lays "ListForge$Subscription" "ListForge$Subscription" "code" "I") ∈ big := big_of (i := 61) (by decide +kernel) (by decide +kernel)
theorem mw_62 : (Cond.soleField "ListForge$Subscription" "code") ∈ big := big_of (i := 62) (by decide +kernel) (by decide +kernel)
theorem mw_63 : (Cond.lays "ListForge$Subscription" "ListForge$Subscription" "since" "I") ∈ big := big_of (i := 63) (by decide +kernel) (by decide +kernel)
theorem mw_64 : (Cond.soleField "ListForge$Subscription" "since") ∈ big := big_of (i := 64) (by decide +kernel) (by decide +kernel)
theorem mw_65 : (Cond.lays "ListForge$Subscription" "ListForge$Subscription" "warning" "I") ∈ big := big_of (i := 65) (by decide +kernel) (by decide +kernel)
theorem mw_66 : (Cond.soleField "ListForge$Subscription" "warning") ∈ big := big_of (i := 66) (by decide +kernel) (by decide +kernel)
theorem mw_67 : (Cond.lays "ListForge$Subscription" "ListForge$Subscription" "bounceDay" "I") ∈ big := big_of (i := 67) (by decide +kernel) (by decide +kernel)
theorem mw_68 : (Cond.soleField "ListForge$Subscription" "bounceDay") ∈ big := big_of (i := 68) (by decide +kernel) (by decide +kernel)
theorem mw_69 : (Cond.lays "ListForge$Subscription" "ListForge$Subscription" "moderates" "Z") ∈ big := big_of (i := 69) (by decide +kernel) (by decide +kernel)
theorem mw_70 : (Cond.soleField "ListForge$Subscription" "moderates") ∈ big := big_of (i := 70) (by decide +kernel) (by decide +kernel)
theorem mw_71 : (Cond.lays "ListForge$Subscription" "ListForge$Subscription" "score" "D") ∈ big := big_of (i := 71) (by decide +kernel) (by decide +kernel)
theorem mw_72 : (Cond.soleField "ListForge$Subscription" "score") ∈ big := big_of (i := 72) (by decide +kernel) (by decide +kernel)
theorem mw_73 : (Cond.superclass "ListForge$Subscription" "java/lang/Object") ∈ big := big_of (i := 73) (by decide +kernel) (by decide +kernel)
theorem mw_74 : (Cond.constantDouble "ListForge$MailingList" 35 (4613937818241073152 : UInt64)) ∈ big := big_of (i := 74) (by decide +kernel) (by decide +kernel)
theorem mw_75 : (Cond.fieldLink "ListForge$MailingList" 9 "ListForge$MailingList" "number" "I") ∈ big := big_of (i := 75) (by decide +kernel) (by decide +kernel)
theorem mw_76 : (Cond.fieldLink "ListForge$MailingList" 17 "ListForge$MailingList" "subscriptions" "[LListForge$Subscription;") ∈ big := big_of (i := 76) (by decide +kernel) (by decide +kernel)
theorem mw_77 : (Cond.fieldLink "ListForge" 44 "ListForge$MailingList" "subscriptions" "[LListForge$Subscription;") ∈ big := big_of (i := 77) (by decide +kernel) (by decide +kernel)
theorem mw_78 : (Cond.fieldLink "ListForge$MailingList" 22 "ListForge$MailingList" "banned" "[Z") ∈ big := big_of (i := 78) (by decide +kernel) (by decide +kernel)
theorem mw_79 : (Cond.fieldLink "ListForge" 61 "ListForge$MailingList" "banned" "[Z") ∈ big := big_of (i := 79) (by decide +kernel) (by decide +kernel)
theorem mw_80 : (Cond.fieldLink "ListForge$MailingList" 26 "ListForge$MailingList" "barred" "[Z") ∈ big := big_of (i := 80) (by decide +kernel) (by decide +kernel)
theorem mw_81 : (Cond.fieldLink "ListForge$MailingList" 41 "ListForge$MailingList" "open" "Z") ∈ big := big_of (i := 81) (by decide +kernel) (by decide +kernel)
theorem mw_82 : (Cond.fieldLink "ListForge$MailingList" 45 "ListForge$MailingList" "watched" "Z") ∈ big := big_of (i := 82) (by decide +kernel) (by decide +kernel)
theorem mw_83 : (Cond.fieldLink "ListForge$MailingList" 29 "ListForge$MailingList" "greatest" "I") ∈ big := big_of (i := 83) (by decide +kernel) (by decide +kernel)
theorem mw_84 : (Cond.fieldLink "ListForge$MailingList" 32 "ListForge$MailingList" "full" "I") ∈ big := big_of (i := 84) (by decide +kernel) (by decide +kernel)
theorem mw_85 : (Cond.fieldLink "ListForge$MailingList" 37 "ListForge$MailingList" "best" "D") ∈ big := big_of (i := 85) (by decide +kernel) (by decide +kernel)
theorem mw_86 : (Cond.fieldLink "ListForge" 187 "ListForge$MailingList" "best" "D") ∈ big := big_of (i := 86) (by decide +kernel) (by decide +kernel)
theorem mw_87 : (Cond.fieldLink "ListForge$MailingList" 83 "ListForge$MailingList" "bundlePosts" "I") ∈ big := big_of (i := 87) (by decide +kernel) (by decide +kernel)
theorem mw_88 : (Cond.fieldLink "ListForge" 238 "ListForge$MailingList" "bundlePosts" "I") ∈ big := big_of (i := 88) (by decide +kernel) (by decide +kernel)
theorem mw_89 : (Cond.fieldLink "ListForge$MailingList" 76 "ListForge$MailingList" "bundleSizes" "I") ∈ big := big_of (i := 89) (by decide +kernel) (by decide +kernel)
theorem mw_90 : (Cond.fieldLink "ListForge" 241 "ListForge$MailingList" "bundleSizes" "I") ∈ big := big_of (i := 90) (by decide +kernel) (by decide +kernel)
theorem mw_91 : (Cond.fieldLink "ListForge$MailingList" 86 "ListForge$MailingList" "bundleSince" "I") ∈ big := big_of (i := 91) (by decide +kernel) (by decide +kernel)
theorem mw_92 : (Cond.laysFinal "ListForge$MailingList" "ListForge$MailingList" "number" "I") ∈ big := big_of (i := 92) (by decide +kernel) (by decide +kernel)
theorem mw_93 : (Cond.soleField "ListForge$MailingList" "number") ∈ big := big_of (i := 93) (by decide +kernel) (by decide +kernel)
theorem mw_94 : (Cond.laysFinal "ListForge$MailingList" "ListForge$MailingList" "subscriptions" "[LListForge$Subscription;") ∈ big := big_of (i := 94) (by decide +kernel) (by decide +kernel)
theorem mw_95 : (Cond.soleField "ListForge$MailingList" "subscriptions") ∈ big := big_of (i := 95) (by decide +kernel) (by decide +kernel)
theorem mw_96 : (Cond.laysFinal "ListForge$MailingList" "ListForge$MailingList" "banned" "[Z") ∈ big := big_of (i := 96) (by decide +kernel) (by decide +kernel)
theorem mw_97 : (Cond.soleField "ListForge$MailingList" "banned") ∈ big := big_of (i := 97) (by decide +kernel) (by decide +kernel)
theorem mw_98 : (Cond.laysFinal "ListForge$MailingList" "ListForge$MailingList" "barred" "[Z") ∈ big := big_of (i := 98) (by decide +kernel) (by decide +kernel)
theorem mw_99 : (Cond.soleField "ListForge$MailingList" "barred") ∈ big := big_of (i := 99) (by decide +kernel) (by decide +kernel)
theorem mw_100 : (Cond.lays "ListForge$MailingList" "ListForge$MailingList" "open" "Z") ∈ big := big_of (i := 100) (by decide +kernel) (by decide +kernel)
theorem mw_101 : (Cond.soleField "ListForge$MailingList" "open") ∈ big := big_of (i := 101) (by decide +kernel) (by decide +kernel)
theorem mw_102 : (Cond.lays "ListForge$MailingList" "ListForge$MailingList" "watched" "Z") ∈ big := big_of (i := 102) (by decide +kernel) (by decide +kernel)
theorem mw_103 : (Cond.soleField "ListForge$MailingList" "watched") ∈ big := big_of (i := 103) (by decide +kernel) (by decide +kernel)
theorem mw_104 : (Cond.lays "ListForge$MailingList" "ListForge$MailingList" "greatest" "I") ∈ big := big_of (i := 104) (by decide +kernel) (by decide +kernel)
theorem mw_105 : (Cond.soleField "ListForge$MailingList" "greatest") ∈ big := big_of (i := 105) (by decide +kernel) (by decide +kernel)
theorem mw_106 : (Cond.lays "ListForge$MailingList" "ListForge$MailingList" "full" "I") ∈ big := big_of (i := 106) (by decide +kernel) (by decide +kernel)
theorem mw_107 : (Cond.soleField "ListForge$MailingList" "full") ∈ big := big_of (i := 107) (by decide +kernel) (by decide +kernel)
theorem mw_108 : (Cond.lays "ListForge$MailingList" "ListForge$MailingList" "best" "D") ∈ big := big_of (i := 108) (by decide +kernel) (by decide +kernel)
theorem mw_109 : (Cond.soleField "ListForge$MailingList" "best") ∈ big := big_of (i := 109) (by decide +kernel) (by decide +kernel)
theorem mw_110 : (Cond.lays "ListForge$MailingList" "ListForge$MailingList" "bundlePosts" "I") ∈ big := big_of (i := 110) (by decide +kernel) (by decide +kernel)
theorem mw_111 : (Cond.soleField "ListForge$MailingList" "bundlePosts") ∈ big := big_of (i := 111) (by decide +kernel) (by decide +kernel)
theorem mw_112 : (Cond.lays "ListForge$MailingList" "ListForge$MailingList" "bundleSizes" "I") ∈ big := big_of (i := 112) (by decide +kernel) (by decide +kernel)
theorem mw_113 : (Cond.soleField "ListForge$MailingList" "bundleSizes") ∈ big := big_of (i := 113) (by decide +kernel) (by decide +kernel)
theorem mw_114 : (Cond.lays "ListForge$MailingList" "ListForge$MailingList" "bundleSince" "I") ∈ big := big_of (i := 114) (by decide +kernel) (by decide +kernel)
theorem mw_115 : (Cond.soleField "ListForge$MailingList" "bundleSince") ∈ big := big_of (i := 115) (by decide +kernel) (by decide +kernel)
theorem mw_116 : (Cond.superclass "ListForge$MailingList" "java/lang/Object") ∈ big := big_of (i := 116) (by decide +kernel) (by decide +kernel)
theorem mw_117 : (Cond.arrayClass FieldType.boolean) ∈ big := big_of (i := 117) (by decide +kernel) (by decide +kernel)
theorem mw_118 : (Cond.classLink "ListForge" 18 "ListForge$Post") ∈ big := big_of (i := 118) (by decide +kernel) (by decide +kernel)
theorem mw_120 : (Cond.instantiable "ListForge$Post" 4) ∈ big := big_of (i := 120) (by decide +kernel) (by decide +kernel)
theorem mw_122 : (Cond.instanceMethod ({ cls := "ListForge$Post", name := "<init>", desc := "()V" } : MethodName)) ∈ big := big_of (i := 122) (by decide +kernel) (by decide +kernel)
theorem mw_123 : (Cond.code ({ cls := "ListForge$Post", name := "<init>", desc := "()V" } : MethodName) prog_4_method_1_code 1 (Option.none : Option FieldType)) ∈ big := big_of (i := 123) (by decide +kernel) (by decide +kernel)
theorem mw_124 : (Cond.methodLink "ListForge$Post" 3 ({ cls := "java/lang/Object", name := "<init>", desc := "()V" } : MethodName)) ∈ big := big_of (i := 124) (by decide +kernel) (by decide +kernel)
theorem mw_125 : (Cond.fieldLink "ListForge$Post" 9 "ListForge$Post" "list" "I") ∈ big := big_of (i := 125) (by decide +kernel) (by decide +kernel)
theorem mw_126 : (Cond.fieldLink "ListForge" 166 "ListForge$Post" "list" "I") ∈ big := big_of (i := 126) (by decide +kernel) (by decide +kernel)
theorem mw_127 : (Cond.fieldLink "ListForge$Post" 15 "ListForge$Post" "sender" "I") ∈ big := big_of (i := 127) (by decide +kernel) (by decide +kernel)
theorem mw_128 : (Cond.fieldLink "ListForge" 171 "ListForge$Post" "sender" "I") ∈ big := big_of (i := 128) (by decide +kernel) (by decide +kernel)
theorem mw_129 : (Cond.fieldLink "ListForge$MailingList" 64 "ListForge$Post" "sender" "I") ∈ big := big_of (i := 129) (by decide +kernel) (by decide +kernel)
theorem mw_130 : (Cond.fieldLink "ListForge$Post" 18 "ListForge$Post" "size" "I") ∈ big := big_of (i := 130) (by decide +kernel) (by decide +kernel)
theorem mw_131 : (Cond.fieldLink "ListForge$MailingList" 69 "ListForge$Post" "size" "I") ∈ big := big_of (i := 131) (by decide +kernel) (by decide +kernel)
theorem mw_132 : (Cond.fieldLink "ListForge$Post" 21 "ListForge$Post" "fate" "I") ∈ big := big_of (i := 132) (by decide +kernel) (by decide +kernel)
theorem mw_133 : (Cond.fieldLink "ListForge" 161 "ListForge$Post" "fate" "I") ∈ big := big_of (i := 133) (by decide +kernel) (by decide +kernel)
theorem mw_134 : (Cond.lays "ListForge$Post" "ListForge$Post" "list" "I") ∈ big := big_of (i := 134) (by decide +kernel) (by decide +kernel)
theorem mw_135 : (Cond.soleField "ListForge$Post" "list") ∈ big := big_of (i := 135) (by decide +kernel) (by decide +kernel)
theorem mw_136 : (Cond.lays "ListForge$Post" "ListForge$Post" "sender" "I") ∈ big := big_of (i := 136) (by decide +kernel) (by decide +kernel)
theorem mw_137 : (Cond.soleField "ListForge$Post" "sender") ∈ big := big_of (i := 137) (by decide +kernel) (by decide +kernel)
theorem mw_138 : (Cond.lays "ListForge$Post" "ListForge$Post" "size" "I") ∈ big := big_of (i := 138) (by decide +kernel) (by decide +kernel)
theorem mw_139 : (Cond.soleField "ListForge$Post" "size") ∈ big := big_of (i := 139) (by decide +kernel) (by decide +kernel)
theorem mw_140 : (Cond.lays "ListForge$Post" "ListForge$Post" "fate" "I") ∈ big := big_of (i := 140) (by decide +kernel) (by decide +kernel)
theorem mw_141 : (Cond.soleField "ListForge$Post" "fate") ∈ big := big_of (i := 141) (by decide +kernel) (by decide +kernel)
theorem mw_142 : (Cond.superclass "ListForge$Post" "java/lang/Object") ∈ big := big_of (i := 142) (by decide +kernel) (by decide +kernel)
theorem mw_143 : (Cond.classLink "ListForge" 25 "ListForge$Outbox") ∈ big := big_of (i := 143) (by decide +kernel) (by decide +kernel)
theorem mw_144 : (Cond.instantiable "ListForge$Outbox" 6) ∈ big := big_of (i := 144) (by decide +kernel) (by decide +kernel)
theorem mw_145 : (Cond.methodLink "ListForge" 27 ({ cls := "ListForge$Outbox", name := "<init>", desc := "()V" } : MethodName)) ∈ big := big_of (i := 145) (by decide +kernel) (by decide +kernel)
theorem mw_146 : (Cond.instanceMethod ({ cls := "ListForge$Outbox", name := "<init>", desc := "()V" } : MethodName)) ∈ big := big_of (i := 146) (by decide +kernel) (by decide +kernel)
theorem mw_147 : (Cond.code ({ cls := "ListForge$Outbox", name := "<init>", desc := "()V" } : MethodName) prog_3_method_1_code 1 (Option.none : Option FieldType)) ∈ big := big_of (i := 147) (by decide +kernel) (by decide +kernel)
theorem mw_148 : (Cond.methodLink "ListForge$Outbox" 1 ({ cls := "java/lang/Object", name := "<init>", desc := "()V" } : MethodName)) ∈ big := big_of (i := 148) (by decide +kernel) (by decide +kernel)
theorem mw_149 : (Cond.fieldLink "ListForge$Outbox" 9 "ListForge$Outbox" "addresses" "[I") ∈ big := big_of (i := 149) (by decide +kernel) (by decide +kernel)
theorem mw_150 : (Cond.fieldLink "ListForge" 212 "ListForge$Outbox" "addresses" "[I") ∈ big := big_of (i := 150) (by decide +kernel) (by decide +kernel)
theorem mw_151 : (Cond.fieldLink "ListForge$Outbox" 13 "ListForge$Outbox" "lists" "[I") ∈ big := big_of (i := 151) (by decide +kernel) (by decide +kernel)
theorem mw_152 : (Cond.fieldLink "ListForge" 216 "ListForge$Outbox" "lists" "[I") ∈ big := big_of (i := 152) (by decide +kernel) (by decide +kernel)
theorem mw_153 : (Cond.fieldLink "ListForge$Outbox" 16 "ListForge$Outbox" "sorts" "[I") ∈ big := big_of (i := 153) (by decide +kernel) (by decide +kernel)
theorem mw_154 : (Cond.fieldLink "ListForge" 218 "ListForge$Outbox" "sorts" "[I") ∈ big := big_of (i := 154) (by decide +kernel) (by decide +kernel)
theorem mw_155 : (Cond.fieldLink "ListForge$Outbox" 19 "ListForge$Outbox" "numbers" "[I") ∈ big := big_of (i := 155) (by decide +kernel) (by decide +kernel)
theorem mw_156 : (Cond.fieldLink "ListForge" 221 "ListForge$Outbox" "numbers" "[I") ∈ big := big_of (i := 156) (by decide +kernel) (by decide +kernel)
theorem mw_157 : (Cond.fieldLink "ListForge$Outbox" 26 "ListForge$Outbox" "kept" "I") ∈ big := big_of (i := 157) (by decide +kernel) (by decide +kernel)
theorem mw_158 : (Cond.fieldLink "ListForge" 204 "ListForge$Outbox" "kept" "I") ∈ big := big_of (i := 158) (by decide +kernel) (by decide +kernel)
theorem mw_159 : (Cond.fieldLink "ListForge$Outbox" 22 "ListForge$Outbox" "total" "I") ∈ big := big_of (i := 159) (by decide +kernel) (by decide +kernel)
theorem mw_160 : (Cond.fieldLink "ListForge" 224 "ListForge$Outbox" "total" "I") ∈ big := big_of (i := 160) (by decide +kernel) (by decide +kernel)
theorem mw_161 : (Cond.laysFinal "ListForge$Outbox" "ListForge$Outbox" "addresses" "[I") ∈ big := big_of (i := 161) (by decide +kernel) (by decide +kernel)
theorem mw_162 : (Cond.soleField "ListForge$Outbox" "addresses") ∈ big := big_of (i := 162) (by decide +kernel) (by decide +kernel)
theorem mw_163 : (Cond.laysFinal "ListForge$Outbox" "ListForge$Outbox" "lists" "[I") ∈ big := big_of (i := 163) (by decide +kernel) (by decide +kernel)
theorem mw_164 : (Cond.soleField "ListForge$Outbox" "lists") ∈ big := big_of (i := 164) (by decide +kernel) (by decide +kernel)
theorem mw_165 : (Cond.laysFinal "ListForge$Outbox" "ListForge$Outbox" "sorts" "[I") ∈ big := big_of (i := 165) (by decide +kernel) (by decide +kernel)
theorem mw_166 : (Cond.soleField "ListForge$Outbox" "sorts") ∈ big := big_of (i := 166) (by decide +kernel) (by decide +kernel)
theorem mw_167 : (Cond.laysFinal "ListForge$Outbox" "ListForge$Outbox" "numbers" "[I") ∈ big := big_of (i := 167) (by decide +kernel) (by decide +kernel)
theorem mw_168 : (Cond.soleField "ListForge$Outbox" "numbers") ∈ big := big_of (i := 168) (by decide +kernel) (by decide +kernel)
theorem mw_169 : (Cond.lays "ListForge$Outbox" "ListForge$Outbox" "kept" "I") ∈ big := big_of (i := 169) (by decide +kernel) (by decide +kernel)
theorem mw_170 : (Cond.soleField "ListForge$Outbox" "kept") ∈ big := big_of (i := 170) (by decide +kernel) (by decide +kernel)
theorem mw_171 : (Cond.lays "ListForge$Outbox" "ListForge$Outbox" "total" "I") ∈ big := big_of (i := 171) (by decide +kernel) (by decide +kernel)
theorem mw_172 : (Cond.soleField "ListForge$Outbox" "total") ∈ big := big_of (i := 172) (by decide +kernel) (by decide +kernel)
theorem mw_173 : (Cond.superclass "ListForge$Outbox" "java/lang/Object") ∈ big := big_of (i := 173) (by decide +kernel) (by decide +kernel)
theorem mw_174 : (Cond.arrayClass FieldType.int) ∈ big := big_of (i := 174) (by decide +kernel) (by decide +kernel)
theorem mw_175 : (Cond.fieldLink "ListForge" 11 "ListForge" "lists" "[LListForge$MailingList;") ∈ big := big_of (i := 175) (by decide +kernel) (by decide +kernel)
theorem mw_176 : (Cond.fieldLink "ListForge" 20 "ListForge" "posts" "[LListForge$Post;") ∈ big := big_of (i := 176) (by decide +kernel) (by decide +kernel)
theorem mw_177 : (Cond.fieldLink "ListForge" 28 "ListForge" "outbox" "LListForge$Outbox;") ∈ big := big_of (i := 177) (by decide +kernel) (by decide +kernel)
theorem mw_178 : (Cond.fieldLink "ListForge" 137 "ListForge" "postCount" "I") ∈ big := big_of (i := 178) (by decide +kernel) (by decide +kernel)
theorem mw_179 : (Cond.fieldLink "ListForge" 70 "ListForge" "askedBefore" "I") ∈ big := big_of (i := 179) (by decide +kernel) (by decide +kernel)
theorem mw_180 : (Cond.fieldLink "ListForge" 73 "ListForge" "today" "I") ∈ big := big_of (i := 180) (by decide +kernel) (by decide +kernel)
theorem mw_181 : (Cond.laysFinal "ListForge" "ListForge" "lists" "[LListForge$MailingList;") ∈ big := big_of (i := 181) (by decide +kernel) (by decide +kernel)
theorem mw_182 : (Cond.soleField "ListForge" "lists") ∈ big := big_of (i := 182) (by decide +kernel) (by decide +kernel)
theorem mw_183 : (Cond.laysFinal "ListForge" "ListForge" "posts" "[LListForge$Post;") ∈ big := big_of (i := 183) (by decide +kernel) (by decide +kernel)
theorem mw_184 : (Cond.soleField "ListForge" "posts") ∈ big := big_of (i := 184) (by decide +kernel) (by decide +kernel)
theorem mw_185 : (Cond.laysFinal "ListForge" "ListForge" "outbox" "LListForge$Outbox;") ∈ big := big_of (i := 185) (by decide +kernel) (by decide +kernel)
theorem mw_186 : (Cond.soleField "ListForge" "outbox") ∈ big := big_of (i := 186) (by decide +kernel) (by decide +kernel)
theorem mw_187 : (Cond.lays "ListForge" "ListForge" "postCount" "I") ∈ big := big_of (i := 187) (by decide +kernel) (by decide +kernel)
theorem mw_188 : (Cond.soleField "ListForge" "postCount") ∈ big := big_of (i := 188) (by decide +kernel) (by decide +kernel)
theorem mw_189 : (Cond.lays "ListForge" "ListForge" "askedBefore" "I") ∈ big := big_of (i := 189) (by decide +kernel) (by decide +kernel)
theorem mw_190 : (Cond.soleField "ListForge" "askedBefore") ∈ big := big_of (i := 190) (by decide +kernel) (by decide +kernel)
theorem mw_191 : (Cond.lays "ListForge" "ListForge" "today" "I") ∈ big := big_of (i := 191) (by decide +kernel) (by decide +kernel)
theorem mw_192 : (Cond.soleField "ListForge" "today") ∈ big := big_of (i := 192) (by decide +kernel) (by decide +kernel)
theorem mw_193 : (Cond.superclass "ListForge" "java/lang/Object") ∈ big := big_of (i := 193) (by decide +kernel) (by decide +kernel)
theorem mw_194 : (Cond.methodLink "ListForgeLaw" 79 ({ cls := "ListForgeLaw", name := "ask", desc := "(LListForge;III[J)I" } : MethodName)) ∈ big := big_of (i := 194) (by decide +kernel) (by decide +kernel)
theorem mw_195 : (Cond.static ({ cls := "ListForgeLaw", name := "ask", desc := "(LListForge;III[J)I" } : MethodName)) ∈ big := big_of (i := 195) (by decide +kernel) (by decide +kernel)
theorem mw_196 : (Cond.codeWith ({ cls := "ListForgeLaw", name := "ask", desc := "(LListForge;III[J)I" } : MethodName) method_3_code 6 (Option.some FieldType.int) [(0, 12, 15, 13), (0, 12, 19, 15), (0, 12, 23, 17)]) ∈ big := big_of (i := 196) (by decide +kernel) (by decide +kernel)
theorem mw_197 : (Cond.classLink "ListForgeLaw" 13 "java/lang/IllegalArgumentException") ∈ big := big_of (i := 197) (by decide +kernel) (by decide +kernel)
theorem mw_198 : (Cond.classLink "ListForgeLaw" 15 "java/lang/IllegalStateException") ∈ big := big_of (i := 198) (by decide +kernel) (by decide +kernel)
theorem mw_199 : (Cond.classLink "ListForgeLaw" 17 "java/lang/UnsupportedOperationException") ∈ big := big_of (i := 199) (by decide +kernel) (by decide +kernel)
theorem mw_200 : (Cond.methodLink "ListForgeLaw" 7 ({ cls := "ListForge", name := "ask", desc := "(III)I" } : MethodName)) ∈ big := big_of (i := 200) (by decide +kernel) (by decide +kernel)
theorem mw_201 : (Cond.instanceMethod ({ cls := "ListForge", name := "ask", desc := "(III)I" } : MethodName)) ∈ big := big_of (i := 201) (by decide +kernel) (by decide +kernel)
theorem mw_202 : (Cond.selects "ListForge" ({ cls := "ListForge", name := "ask", desc := "(III)I" } : MethodName) ({ cls := "ListForge", name := "ask", desc := "(III)I" } : MethodName)) ∈ big := big_of (i := 202) (by decide +kernel) (by decide +kernel)
theorem mw_203 : (Cond.code ({ cls := "ListForge", name := "ask", desc := "(III)I" } : MethodName) prog_1_method_2_code 7 (Option.some FieldType.int)) ∈ big := big_of (i := 203) (by decide +kernel) (by decide +kernel)
theorem mw_204 : (Cond.methodLink "ListForge" 32 ({ cls := "ListForge", name := "requirePlace", desc := "(II)V" } : MethodName)) ∈ big := big_of (i := 204) (by decide +kernel) (by decide +kernel)
theorem mw_205 : (Cond.static ({ cls := "ListForge", name := "requirePlace", desc := "(II)V" } : MethodName)) ∈ big := big_of (i := 205) (by decide +kernel) (by decide +kernel)
theorem mw_206 : (Cond.code ({ cls := "ListForge", name := "requirePlace", desc := "(II)V" } : MethodName) prog_1_method_22_code 2 (Option.none : Option FieldType)) ∈ big := big_of (i := 206) (by decide +kernel) (by decide +kernel)
theorem mw_207 : (Cond.methodLink "ListForge" 36 ({ cls := "ListForge", name := "isWithin", desc := "(III)Z" } : MethodName)) ∈ big := big_of (i := 207) (by decide +kernel) (by decide +kernel)
theorem mw_208 : (Cond.static ({ cls := "ListForge", name := "isWithin", desc := "(III)Z" } : MethodName)) ∈ big := big_of (i := 208) (by decide +kernel) (by decide +kernel)
theorem mw_209 : (Cond.code ({ cls := "ListForge", name := "isWithin", desc := "(III)Z" } : MethodName) prog_1_method_24_code 3 (Option.some FieldType.boolean)) ∈ big := big_of (i := 209) (by decide +kernel) (by decide +kernel)
theorem mw_210 : (Cond.methodLink "ListForge" 40 ({ cls := "ListForge", name := "require", desc := "(Z)V" } : MethodName)) ∈ big := big_of (i := 210) (by decide +kernel) (by decide +kernel)
theorem mw_211 : (Cond.static ({ cls := "ListForge", name := "require", desc := "(Z)V" } : MethodName)) ∈ big := big_of (i := 211) (by decide +kernel) (by decide +kernel)
theorem mw_212 : (Cond.code ({ cls := "ListForge", name := "require", desc := "(Z)V" } : MethodName) prog_1_method_23_code 1 (Option.none : Option FieldType)) ∈ big := big_of (i := 212) (by decide +kernel) (by decide +kernel)
theorem mw_213 : (Cond.classLink "ListForge" 250 "java/lang/IllegalArgumentException") ∈ big := big_of (i := 213) (by decide +kernel) (by decide +kernel)
theorem mw_214 : (Cond.instantiable "java/lang/IllegalArgumentException" 6) ∈ big := big_of (i := 214) (by decide +kernel) (by decide +kernel)
theorem mw_222 : (Cond.selects "java/lang/IllegalArgumentException" ({ cls := "java/lang/Throwable", name := "fillInStackTrace", desc := "(I)Ljava/lang/Throwable;" } : MethodName) ({ cls := "java/lang/Throwable", name := "fillInStackTrace", desc := "(I)Ljava/lang/Throwable;" } : MethodName)) ∈ big := big_of (i := 222) (by decide +kernel) (by decide +kernel)
theorem mw_223 : (Cond.selects "java/lang/IllegalArgumentException" ({ cls := "java/lang/Throwable", name := "fillInStackTrace", desc := "()Ljava/lang/Throwable;" } : MethodName) ({ cls := "java/lang/Throwable", name := "fillInStackTrace", desc := "()Ljava/lang/Throwable;" } : MethodName)) ∈ big := big_of (i := 223) (by decide +kernel) (by decide +kernel)
theorem mw_224 : (Cond.lays "java/lang/IllegalArgumentException" "java/lang/Throwable" "cause" "Ljava/lang/Throwable;") ∈ big := big_of (i := 224) (by decide +kernel) (by decide +kernel)
theorem mw_225 : (Cond.lays "java/lang/Throwable" "java/lang/Throwable" "cause" "Ljava/lang/Throwable;") ∈ big := big_of (i := 225) (by decide +kernel) (by decide +kernel)
theorem mw_226 : (Cond.lays "java/lang/IllegalArgumentException" "java/lang/Throwable" "stackTrace" "[Ljava/lang/StackTraceElement;") ∈ big := big_of (i := 226) (by decide +kernel) (by decide +kernel)
theorem mw_227 : (Cond.lays "java/lang/Throwable" "java/lang/Throwable" "stackTrace" "[Ljava/lang/StackTraceElement;") ∈ big := big_of (i := 227) (by decide +kernel) (by decide +kernel)
theorem mw_228 : (Cond.lays "java/lang/IllegalArgumentException" "java/lang/Throwable" "suppressedExceptions" "Ljava/util/List;") ∈ big := big_of (i := 228) (by decide +kernel) (by decide +kernel)
theorem mw_229 : (Cond.lays "java/lang/Throwable" "java/lang/Throwable" "suppressedExceptions" "Ljava/util/List;") ∈ big := big_of (i := 229) (by decide +kernel) (by decide +kernel)
theorem mw_230 : (Cond.lays "java/lang/IllegalArgumentException" "java/lang/Throwable" "detailMessage" "Ljava/lang/String;") ∈ big := big_of (i := 230) (by decide +kernel) (by decide +kernel)
theorem mw_231 : (Cond.lays "java/lang/Throwable" "java/lang/Throwable" "detailMessage" "Ljava/lang/String;") ∈ big := big_of (i := 231) (by decide +kernel) (by decide +kernel)
theorem mw_232 : (Cond.lays "java/lang/IllegalArgumentException" "java/lang/Throwable" "backtrace" "Ljava/lang/Object;") ∈ big := big_of (i := 232) (by decide +kernel) (by decide +kernel)
theorem mw_233 : (Cond.lays "java/lang/Throwable" "java/lang/Throwable" "backtrace" "Ljava/lang/Object;") ∈ big := big_of (i := 233) (by decide +kernel) (by decide +kernel)
theorem mw_234 : (Cond.fieldLink "java/lang/Throwable" 198 "java/lang/Throwable" "backtrace" "Ljava/lang/Object;") ∈ big := big_of (i := 234) (by decide +kernel) (by decide +kernel)
theorem mw_235 : (Cond.superclass "java/lang/Throwable" "java/lang/Object") ∈ big := big_of (i := 235) (by decide +kernel) (by decide +kernel)
theorem mw_236 : (Cond.instanceMethod ({ cls := "java/lang/Throwable", name := "<init>", desc := "()V" } : MethodName)) ∈ big := big_of (i := 236) (by decide +kernel) (by decide +kernel)
theorem mw_237 : (Cond.code ({ cls := "java/lang/Throwable", name := "<init>", desc := "()V" } : MethodName) prog_14_method_1_code 1 (Option.none : Option FieldType)) ∈ big := big_of (i := 237) (by decide +kernel) (by decide +kernel)
theorem mw_238 : (Cond.methodLink "java/lang/Throwable" 1 ({ cls := "java/lang/Object", name := "<init>", desc := "()V" } : MethodName)) ∈ big := big_of (i := 238) (by decide +kernel) (by decide +kernel)
theorem mw_239 : (Cond.fieldLink "java/lang/Throwable" 13 "java/lang/Throwable" "UNASSIGNED_STACK" "[Ljava/lang/StackTraceElement;") ∈ big := big_of (i := 239) (by decide +kernel) (by decide +kernel)
theorem mw_241 : (Cond.fieldLink "java/lang/Throwable" 20 "java/lang/Throwable" "SUPPRESSED_SENTINEL" "Ljava/util/List;") ∈ big := big_of (i := 241) (by decide +kernel) (by decide +kernel)
theorem mw_243 : (Cond.methodLink "java/lang/Throwable" 27 ({ cls := "java/lang/Throwable", name := "fillInStackTrace", desc := "()Ljava/lang/Throwable;" } : MethodName)) ∈ big := big_of (i := 243) (by decide +kernel) (by decide +kernel)
theorem mw_244 : (Cond.instanceMethod ({ cls := "java/lang/Throwable", name := "fillInStackTrace", desc := "()Ljava/lang/Throwable;" } : MethodName)) ∈ big := big_of (i := 244) (by decide +kernel) (by decide +kernel)
theorem mw_245 : (Cond.sameMethod "java/lang/Throwable" "java/lang/Throwable" "fillInStackTrace" "()Ljava/lang/Throwable;") ∈ big := big_of (i := 245) (by decide +kernel) (by decide +kernel)
theorem mw_246 : (Cond.selects "java/lang/IllegalStateException" ({ cls := "java/lang/Throwable", name := "fillInStackTrace", desc := "()Ljava/lang/Throwable;" } : MethodName) ({ cls := "java/lang/Throwable", name := "fillInStackTrace", desc := "()Ljava/lang/Throwable;" } : MethodName)) ∈ big := big_of (i := 246) (by decide +kernel) (by decide +kernel)
theorem mw_247 : (Cond.selects "java/lang/IndexOutOfBoundsException" ({ cls := "java/lang/Throwable", name := "fillInStackTrace", desc := "()Ljava/lang/Throwable;" } : MethodName) ({ cls := "java/lang/Throwable", name := "fillInStackTrace", desc := "()Ljava/lang/Throwable;" } : MethodName)) ∈ big := big_of (i := 247) (by decide +kernel) (by decide +kernel)
theorem mw_248 : (Cond.selects "java/lang/UnsupportedOperationException" ({ cls := "java/lang/Throwable", name := "fillInStackTrace", desc := "()Ljava/lang/Throwable;" } : MethodName) ({ cls := "java/lang/Throwable", name := "fillInStackTrace", desc := "()Ljava/lang/Throwable;" } : MethodName)) ∈ big := big_of (i := 248) (by decide +kernel) (by decide +kernel)
theorem mw_249 : (Cond.selects "java/util/NoSuchElementException" ({ cls := "java/lang/Throwable", name := "fillInStackTrace", desc := "()Ljava/lang/Throwable;" } : MethodName) ({ cls := "java/lang/Throwable", name := "fillInStackTrace", desc := "()Ljava/lang/Throwable;" } : MethodName)) ∈ big := big_of (i := 249) (by decide +kernel) (by decide +kernel)
theorem mw_250 : (Cond.codeSync ({ cls := "java/lang/Throwable", name := "fillInStackTrace", desc := "()Ljava/lang/Throwable;" } : MethodName) prog_14_method_18_code 1 (Option.some (FieldType.object "java/lang/Throwable"))) ∈ big := big_of (i := 250) (by decide +kernel) (by decide +kernel)
theorem mw_251 : (Cond.methodLink "java/lang/Throwable" 202 ({ cls := "java/lang/Throwable", name := "fillInStackTrace", desc := "(I)Ljava/lang/Throwable;" } : MethodName)) ∈ big := big_of (i := 251) (by decide +kernel) (by decide +kernel)
theorem mw_253 : (Cond.instanceMethod ({ cls := "java/lang/Throwable", name := "fillInStackTrace", desc := "(I)Ljava/lang/Throwable;" } : MethodName)) ∈ big := big_of (i := 253) (by decide +kernel) (by decide +kernel)
theorem mw_254 : (Cond.instantiable "java/lang/Throwable" 6) ∈ big := big_of (i := 254) (by decide +kernel) (by decide +kernel)
theorem mw_255 : (Cond.native ({ cls := "java/lang/Throwable", name := "fillInStackTrace", desc := "(I)Ljava/lang/Throwable;" } : MethodName)) ∈ big := big_of (i := 255) (by decide +kernel) (by decide +kernel)
theorem mw_257 : (Cond.methodLink "ListForge" 254 ({ cls := "java/lang/IllegalArgumentException", name := "<init>", desc := "(Ljava/lang/String;)V" } : MethodName)) ∈ big := big_of (i := 257) (by decide +kernel) (by decide +kernel)
theorem mw_258 : (Cond.instanceMethod ({ cls := "java/lang/IllegalArgumentException", name := "<init>", desc := "(Ljava/lang/String;)V" } : MethodName)) ∈ big := big_of (i := 258) (by decide +kernel) (by decide +kernel)
theorem mw_259 : (Cond.code ({ cls := "java/lang/IllegalArgumentException", name := "<init>", desc := "(Ljava/lang/String;)V" } : MethodName) prog_9_method_2_code 2 (Option.none : Option FieldType)) ∈ big := big_of (i := 259) (by decide +kernel) (by decide +kernel)
theorem mw_260 : (Cond.methodLink "java/lang/IllegalArgumentException" 7 ({ cls := "java/lang/RuntimeException", name := "<init>", desc := "(Ljava/lang/String;)V" } : MethodName)) ∈ big := big_of (i := 260) (by decide +kernel) (by decide +kernel)
theorem mw_261 : (Cond.instanceMethod ({ cls := "java/lang/RuntimeException", name := "<init>", desc := "(Ljava/lang/String;)V" } : MethodName)) ∈ big := big_of (i := 261) (by decide +kernel) (by decide +kernel)
theorem mw_262 : (Cond.code ({ cls := "java/lang/RuntimeException", name := "<init>", desc := "(Ljava/lang/String;)V" } : MethodName) prog_12_method_2_code 2 (Option.none : Option FieldType)) ∈ big := big_of (i := 262) (by decide +kernel) (by decide +kernel)
theorem mw_263 : (Cond.methodLink "java/lang/RuntimeException" 7 ({ cls := "java/lang/Exception", name := "<init>", desc := "(Ljava/lang/String;)V" } : MethodName)) ∈ big := big_of (i := 263) (by decide +kernel) (by decide +kernel)
theorem mw_264 : (Cond.instanceMethod ({ cls := "java/lang/Exception", name := "<init>", desc := "(Ljava/lang/String;)V" } : MethodName)) ∈ big := big_of (i := 264) (by decide +kernel) (by decide +kernel)
theorem mw_265 : (Cond.code ({ cls := "java/lang/Exception", name := "<init>", desc := "(Ljava/lang/String;)V" } : MethodName) prog_8_method_2_code 2 (Option.none : Option FieldType)) ∈ big := big_of (i := 265) (by decide +kernel) (by decide +kernel)
theorem mw_266 : (Cond.methodLink "java/lang/Exception" 7 ({ cls := "java/lang/Throwable", name := "<init>", desc := "(Ljava/lang/String;)V" } : MethodName)) ∈ big := big_of (i := 266) (by decide +kernel) (by decide +kernel)
theorem mw_267 : (Cond.instanceMethod ({ cls := "java/lang/Throwable", name := "<init>", desc := "(Ljava/lang/String;)V" } : MethodName)) ∈ big := big_of (i := 267) (by decide +kernel) (by decide +kernel)
theorem mw_268 : (Cond.code ({ cls := "java/lang/Throwable", name := "<init>", desc := "(Ljava/lang/String;)V" } : MethodName) prog_14_method_2_code 2 (Option.none : Option FieldType)) ∈ big := big_of (i := 268) (by decide +kernel) (by decide +kernel)
theorem mw_269 : (Cond.fieldLink "java/lang/Throwable" 198 "java/lang/Throwable" "backtrace" "Ljava/lang/Object;") ∈ big := big_of (i := 269) (by decide +kernel) (by decide +kernel)
theorem mw_270 : (Cond.fieldLink "java/lang/Throwable" 31 "java/lang/Throwable" "detailMessage" "Ljava/lang/String;") ∈ big := big_of (i := 270) (by decide +kernel) (by decide +kernel)
theorem mw_271 : (Cond.fieldLink "java/lang/Throwable" 7 "java/lang/Throwable" "cause" "Ljava/lang/Throwable;") ∈ big := big_of (i := 271) (by decide +kernel) (by decide +kernel)
theorem mw_272 : (Cond.fieldLink "java/lang/Throwable" 17 "java/lang/Throwable" "stackTrace" "[Ljava/lang/StackTraceElement;") ∈ big := big_of (i := 272) (by decide +kernel) (by decide +kernel)
theorem mw_273 : (Cond.fieldLink "java/lang/Throwable" 24 "java/lang/Throwable" "suppressedExceptions" "Ljava/util/List;") ∈ big := big_of (i := 273) (by decide +kernel) (by decide +kernel)
theorem mw_274 : (Cond.soleField "java/lang/Throwable" "backtrace") ∈ big := big_of (i := 274) (by decide +kernel) (by decide +kernel)
theorem mw_275 : (Cond.soleField "java/lang/Throwable" "detailMessage") ∈ big := big_of (i := 275) (by decide +kernel) (by decide +kernel)
theorem mw_276 : (Cond.soleField "java/lang/Throwable" "cause") ∈ big := big_of (i := 276) (by decide +kernel) (by decide +kernel)
theorem mw_277 : (Cond.soleField "java/lang/Throwable" "stackTrace") ∈ big := big_of (i := 277) (by decide +kernel) (by decide +kernel)
theorem mw_278 : (Cond.lays "java/lang/IllegalArgumentException" "java/lang/Throwable" "depth" "I") ∈ big := big_of (i := 278) (by decide +kernel) (by decide +kernel)
theorem mw_279 : (Cond.soleField "java/lang/Throwable" "depth") ∈ big := big_of (i := 279) (by decide +kernel) (by decide +kernel)
theorem mw_280 : (Cond.soleField "java/lang/Throwable" "suppressedExceptions") ∈ big := big_of (i := 280) (by decide +kernel) (by decide +kernel)
theorem mw_281 : (Cond.superclass "java/lang/IllegalArgumentException" "java/lang/RuntimeException") ∈ big := big_of (i := 281) (by decide +kernel) (by decide +kernel)
theorem mw_282 : (Cond.arrayClass FieldType.byte) ∈ big := big_of (i := 282) (by decide +kernel) (by decide +kernel)
theorem mw_283 : (Cond.classLink "ListForge" 54 "java/lang/IllegalStateException") ∈ big := big_of (i := 283) (by decide +kernel) (by decide +kernel)
theorem mw_284 : (Cond.instantiable "java/lang/IllegalStateException" 6) ∈ big := big_of (i := 284) (by decide +kernel) (by decide +kernel)
theorem mw_286 : (Cond.selects "java/lang/IllegalStateException" ({ cls := "java/lang/Throwable", name := "fillInStackTrace", desc := "(I)Ljava/lang/Throwable;" } : MethodName) ({ cls := "java/lang/Throwable", name := "fillInStackTrace", desc := "(I)Ljava/lang/Throwable;" } : MethodName)) ∈ big := big_of (i := 286) (by decide +kernel) (by decide +kernel)
theorem mw_287 : (Cond.lays "java/lang/IllegalStateException" "java/lang/Throwable" "cause" "Ljava/lang/Throwable;") ∈ big := big_of (i := 287) (by decide +kernel) (by decide +kernel)
theorem mw_288 : (Cond.lays "java/lang/IllegalStateException" "java/lang/Throwable" "stackTrace" "[Ljava/lang/StackTraceElement;") ∈ big := big_of (i := 288) (by decide +kernel) (by decide +kernel)
theorem mw_289 : (Cond.lays "java/lang/IllegalStateException" "java/lang/Throwable" "suppressedExceptions" "Ljava/util/List;") ∈ big := big_of (i := 289) (by decide +kernel) (by decide +kernel)
theorem mw_290 : (Cond.lays "java/lang/IllegalStateException" "java/lang/Throwable" "detailMessage" "Ljava/lang/String;") ∈ big := big_of (i := 290) (by decide +kernel) (by decide +kernel)
theorem mw_291 : (Cond.lays "java/lang/IllegalStateException" "java/lang/Throwable" "backtrace" "Ljava/lang/Object;") ∈ big := big_of (i := 291) (by decide +kernel) (by decide +kernel)
theorem mw_293 : (Cond.methodLink "ListForge" 58 ({ cls := "java/lang/IllegalStateException", name := "<init>", desc := "(Ljava/lang/String;)V" } : MethodName)) ∈ big := big_of (i := 293) (by decide +kernel) (by decide +kernel)
theorem mw_294 : (Cond.instanceMethod ({ cls := "java/lang/IllegalStateException", name := "<init>", desc := "(Ljava/lang/String;)V" } : MethodName)) ∈ big := big_of (i := 294) (by decide +kernel) (by decide +kernel)
theorem mw_295 : (Cond.code ({ cls := "java/lang/IllegalStateException", name := "<init>", desc := "(Ljava/lang/String;)V" } : MethodName) prog_10_method_2_code 2 (Option.none : Option FieldType)) ∈ big := big_of (i := 295) (by decide +kernel) (by decide +kernel)
theorem mw_296 : (Cond.methodLink "java/lang/IllegalStateException" 7 ({ cls := "java/lang/RuntimeException", name := "<init>", desc := "(Ljava/lang/String;)V" } : MethodName)) ∈ big := big_of (i := 296) (by decide +kernel) (by decide +kernel)
theorem mw_297 : (Cond.lays "java/lang/IllegalStateException" "java/lang/Throwable" "depth" "I") ∈ big := big_of (i := 297) (by decide +kernel) (by decide +kernel)
theorem mw_298 : (Cond.superclass "java/lang/IllegalStateException" "java/lang/RuntimeException") ∈ big := big_of (i := 298) (by decide +kernel) (by decide +kernel)
theorem mw_299 : (Cond.classLink "ListForge" 65 "java/lang/UnsupportedOperationException") ∈ big := big_of (i := 299) (by decide +kernel) (by decide +kernel)
theorem mw_300 : (Cond.instantiable "java/lang/UnsupportedOperationException" 6) ∈ big := big_of (i := 300) (by decide +kernel) (by decide +kernel)
theorem mw_302 : (Cond.selects "java/lang/UnsupportedOperationException" ({ cls := "java/lang/Throwable", name := "fillInStackTrace", desc := "(I)Ljava/lang/Throwable;" } : MethodName) ({ cls := "java/lang/Throwable", name := "fillInStackTrace", desc := "(I)Ljava/lang/Throwable;" } : MethodName)) ∈ big := big_of (i := 302) (by decide +kernel) (by decide +kernel)
theorem mw_303 : (Cond.lays "java/lang/UnsupportedOperationException" "java/lang/Throwable" "cause" "Ljava/lang/Throwable;") ∈ big := big_of (i := 303) (by decide +kernel) (by decide +kernel)
theorem mw_304 : (Cond.lays "java/lang/UnsupportedOperationException" "java/lang/Throwable" "stackTrace" "[Ljava/lang/StackTraceElement;") ∈ big := big_of (i := 304) (by decide +kernel) (by decide +kernel)
theorem mw_305 : (Cond.lays "java/lang/UnsupportedOperationException" "java/lang/Throwable" "suppressedExceptions" "Ljava/util/List;") ∈ big := big_of (i := 305) (by decide +kernel) (by decide +kernel)
theorem mw_306 : (Cond.lays "java/lang/UnsupportedOperationException" "java/lang/Throwable" "detailMessage" "Ljava/lang/String;") ∈ big := big_of (i := 306) (by decide +kernel) (by decide +kernel)
theorem mw_307 : (Cond.lays "java/lang/UnsupportedOperationException" "java/lang/Throwable" "backtrace" "Ljava/lang/Object;") ∈ big := big_of (i := 307) (by decide +kernel) (by decide +kernel)
theorem mw_309 : (Cond.methodLink "ListForge" 69 ({ cls := "java/lang/UnsupportedOperationException", name := "<init>", desc := "(Ljava/lang/String;)V" } : MethodName)) ∈ big := big_of (i := 309) (by decide +kernel) (by decide +kernel)
theorem mw_310 : (Cond.instanceMethod ({ cls := "java/lang/UnsupportedOperationException", name := "<init>", desc := "(Ljava/lang/String;)V" } : MethodName)) ∈ big := big_of (i := 310) (by decide +kernel) (by decide +kernel)
theorem mw_311 : (Cond.code ({ cls := "java/lang/UnsupportedOperationException", name := "<init>", desc := "(Ljava/lang/String;)V" } : MethodName) prog_15_method_2_code 2 (Option.none : Option FieldType)) ∈ big := big_of (i := 311) (by decide +kernel) (by decide +kernel)
theorem mw_312 : (Cond.methodLink "java/lang/UnsupportedOperationException" 7 ({ cls := "java/lang/RuntimeException", name := "<init>", desc := "(Ljava/lang/String;)V" } : MethodName)) ∈ big := big_of (i := 312) (by decide +kernel) (by decide +kernel)
theorem mw_313 : (Cond.lays "java/lang/UnsupportedOperationException" "java/lang/Throwable" "depth" "I") ∈ big := big_of (i := 313) (by decide +kernel) (by decide +kernel)
theorem mw_314 : (Cond.superclass "java/lang/UnsupportedOperationException" "java/lang/RuntimeException") ∈ big := big_of (i := 314) (by decide +kernel) (by decide +kernel)
theorem mw_315 : (Cond.methodLink "ListForge" 76 ({ cls := "ListForge$Subscription", name := "begin", desc := "(III)V" } : MethodName)) ∈ big := big_of (i := 315) (by decide +kernel) (by decide +kernel)
theorem mw_316 : (Cond.instanceMethod ({ cls := "ListForge$Subscription", name := "begin", desc := "(III)V" } : MethodName)) ∈ big := big_of (i := 316) (by decide +kernel) (by decide +kernel)
theorem mw_317 : (Cond.selects "ListForge$Subscription" ({ cls := "ListForge$Subscription", name := "begin", desc := "(III)V" } : MethodName) ({ cls := "ListForge$Subscription", name := "begin", desc := "(III)V" } : MethodName)) ∈ big := big_of (i := 317) (by decide +kernel) (by decide +kernel)
theorem mw_318 : (Cond.code ({ cls := "ListForge$Subscription", name := "begin", desc := "(III)V" } : MethodName) prog_5_method_2_code 4 (Option.none : Option FieldType)) ∈ big := big_of (i := 318) (by decide +kernel) (by decide +kernel)
theorem mw_319 : (Cond.methodLink "ListForge" 80 ({ cls := "ListForge$Outbox", name := "add", desc := "(IIII)V" } : MethodName)) ∈ big := big_of (i := 319) (by decide +kernel) (by decide +kernel)
theorem mw_320 : (Cond.instanceMethod ({ cls := "ListForge$Outbox", name := "add", desc := "(IIII)V" } : MethodName)) ∈ big := big_of (i := 320) (by decide +kernel) (by decide +kernel)
theorem mw_321 : (Cond.selects "ListForge$Outbox" ({ cls := "ListForge$Outbox", name := "add", desc := "(IIII)V" } : MethodName) ({ cls := "ListForge$Outbox", name := "add", desc := "(IIII)V" } : MethodName)) ∈ big := big_of (i := 321) (by decide +kernel) (by decide +kernel)
theorem mw_322 : (Cond.code ({ cls := "ListForge$Outbox", name := "add", desc := "(IIII)V" } : MethodName) prog_3_method_2_code 5 (Option.none : Option FieldType)) ∈ big := big_of (i := 322) (by decide +kernel) (by decide +kernel)
theorem mw_323 : (Cond.methodLink "ListForgeLaw" 89 ({ cls := "ListForgeLaw", name := "confirm", desc := "(LListForge;I[J)I" } : MethodName)) ∈ big := big_of (i := 323) (by decide +kernel) (by decide +kernel)
theorem mw_324 : (Cond.static ({ cls := "ListForgeLaw", name := "confirm", desc := "(LListForge;I[J)I" } : MethodName)) ∈ big := big_of (i := 324) (by decide +kernel) (by decide +kernel)
theorem mw_325 : (Cond.codeWith ({ cls := "ListForgeLaw", name := "confirm", desc := "(LListForge;I[J)I" } : MethodName) method_4_code 4 (Option.some FieldType.int) [(0, 9, 12, 23)]) ∈ big := big_of (i := 325) (by decide +kernel) (by decide +kernel)
theorem mw_326 : (Cond.classLink "ListForgeLaw" 23 "java/util/NoSuchElementException") ∈ big := big_of (i := 326) (by decide +kernel) (by decide +kernel)
theorem mw_327 : (Cond.methodLink "ListForgeLaw" 19 ({ cls := "ListForge", name := "confirm", desc := "(I)I" } : MethodName)) ∈ big := big_of (i := 327) (by decide +kernel) (by decide +kernel)
theorem mw_328 : (Cond.instanceMethod ({ cls := "ListForge", name := "confirm", desc := "(I)I" } : MethodName)) ∈ big := big_of (i := 328) (by decide +kernel) (by decide +kernel)
theorem mw_329 : (Cond.selects "ListForge" ({ cls := "ListForge", name := "confirm", desc := "(I)I" } : MethodName) ({ cls := "ListForge", name := "confirm", desc := "(I)I" } : MethodName)) ∈ big := big_of (i := 329) (by decide +kernel) (by decide +kernel)
theorem mw_330 : (Cond.code ({ cls := "ListForge", name := "confirm", desc := "(I)I" } : MethodName) prog_1_method_3_code 5 (Option.some FieldType.int)) ∈ big := big_of (i := 330) (by decide +kernel) (by decide +kernel)
theorem mw_331 : (Cond.methodLink "ListForge" 87 ({ cls := "ListForge$Subscription", name := "becomeLive", desc := "(I)V" } : MethodName)) ∈ big := big_of (i := 331) (by decide +kernel) (by decide +kernel)
theorem mw_332 : (Cond.instanceMethod ({ cls := "ListForge$Subscription", name := "becomeLive", desc := "(I)V" } : MethodName)) ∈ big := big_of (i := 332) (by decide +kernel) (by decide +kernel)
theorem mw_333 : (Cond.selects "ListForge$Subscription" ({ cls := "ListForge$Subscription", name := "becomeLive", desc := "(I)V" } : MethodName) ({ cls := "ListForge$Subscription", name := "becomeLive", desc := "(I)V" } : MethodName)) ∈ big := big_of (i := 333) (by decide +kernel) (by decide +kernel)
theorem mw_334 : (Cond.code ({ cls := "ListForge$Subscription", name := "becomeLive", desc := "(I)V" } : MethodName) prog_5_method_3_code 2 (Option.none : Option FieldType)) ∈ big := big_of (i := 334) (by decide +kernel) (by decide +kernel)
theorem mw_335 : (Cond.classLink "ListForge" 90 "java/util/NoSuchElementException") ∈ big := big_of (i := 335) (by decide +kernel) (by decide +kernel)
theorem mw_336 : (Cond.instantiable "java/util/NoSuchElementException" 6) ∈ big := big_of (i := 336) (by decide +kernel) (by decide +kernel)
theorem mw_338 : (Cond.selects "java/util/NoSuchElementException" ({ cls := "java/lang/Throwable", name := "fillInStackTrace", desc := "(I)Ljava/lang/Throwable;" } : MethodName) ({ cls := "java/lang/Throwable", name := "fillInStackTrace", desc := "(I)Ljava/lang/Throwable;" } : MethodName)) ∈ big := big_of (i := 338) (by decide +kernel) (by decide +kernel)
theorem mw_339 : (Cond.lays "java/util/NoSuchElementException" "java/lang/Throwable" "cause" "Ljava/lang/Throwable;") ∈ big := big_of (i := 339) (by decide +kernel) (by decide +kernel)
theorem mw_340 : (Cond.lays "java/util/NoSuchElementException" "java/lang/Throwable" "stackTrace" "[Ljava/lang/StackTraceElement;") ∈ big := big_of (i := 340) (by decide +kernel) (by decide +kernel)
theorem mw_341 : (Cond.lays "java/util/NoSuchElementException" "java/lang/Throwable" "suppressedExceptions" "Ljava/util/List;") ∈ big := big_of (i := 341) (by decide +kernel) (by decide +kernel)
theorem mw_342 : (Cond.lays "java/util/NoSuchElementException" "java/lang/Throwable" "detailMessage" "Ljava/lang/String;") ∈ big := big_of (i := 342) (by decide +kernel) (by decide +kernel)
theorem mw_343 : (Cond.lays "java/util/NoSuchElementException" "java/lang/Throwable" "backtrace" "Ljava/lang/Object;") ∈ big := big_of (i := 343) (by decide +kernel) (by decide +kernel)
theorem mw_345 : (Cond.methodLink "ListForge" 94 ({ cls := "java/util/NoSuchElementException", name := "<init>", desc := "(Ljava/lang/String;)V" } : MethodName)) ∈ big := big_of (i := 345) (by decide +kernel) (by decide +kernel)
theorem mw_346 : (Cond.instanceMethod ({ cls := "java/util/NoSuchElementException", name := "<init>", desc := "(Ljava/lang/String;)V" } : MethodName)) ∈ big := big_of (i := 346) (by decide +kernel) (by decide +kernel)
theorem mw_347 : (Cond.code ({ cls := "java/util/NoSuchElementException", name := "<init>", desc := "(Ljava/lang/String;)V" } : MethodName) prog_16_method_4_code 2 (Option.none : Option FieldType)) ∈ big := big_of (i := 347) (by decide +kernel) (by decide +kernel)
theorem mw_348 : (Cond.methodLink "java/util/NoSuchElementException" 13 ({ cls := "java/lang/RuntimeException", name := "<init>", desc := "(Ljava/lang/String;)V" } : MethodName)) ∈ big := big_of (i := 348) (by decide +kernel) (by decide +kernel)
theorem mw_349 : (Cond.lays "java/util/NoSuchElementException" "java/lang/Throwable" "depth" "I") ∈ big := big_of (i := 349) (by decide +kernel) (by decide +kernel)
theorem mw_350 : (Cond.superclass "java/util/NoSuchElementException" "java/lang/RuntimeException") ∈ big := big_of (i := 350) (by decide +kernel) (by decide +kernel)
theorem mw_351 : (Cond.methodLink "ListForgeLaw" 93 ({ cls := "ListForgeLaw", name := "leave", desc := "(LListForge;II[J)I" } : MethodName)) ∈ big := big_of (i := 351) (by decide +kernel) (by decide +kernel)
theorem mw_352 : (Cond.static ({ cls := "ListForgeLaw", name := "leave", desc := "(LListForge;II[J)I" } : MethodName)) ∈ big := big_of (i := 352) (by decide +kernel) (by decide +kernel)
theorem mw_353 : (Cond.codeWith ({ cls := "ListForgeLaw", name := "leave", desc := "(LListForge;II[J)I" } : MethodName) method_5_code 5 (Option.some FieldType.int) [(0, 10, 13, 13), (0, 10, 17, 23)]) ∈ big := big_of (i := 353) (by decide +kernel) (by decide +kernel)
theorem mw_354 : (Cond.methodLink "ListForgeLaw" 25 ({ cls := "ListForge", name := "leave", desc := "(II)I" } : MethodName)) ∈ big := big_of (i := 354) (by decide +kernel) (by decide +kernel)
theorem mw_355 : (Cond.instanceMethod ({ cls := "ListForge", name := "leave", desc := "(II)I" } : MethodName)) ∈ big := big_of (i := 355) (by decide +kernel) (by decide +kernel)
theorem mw_356 : (Cond.selects "ListForge" ({ cls := "ListForge", name := "leave", desc := "(II)I" } : MethodName) ({ cls := "ListForge", name := "leave", desc := "(II)I" } : MethodName)) ∈ big := big_of (i := 356) (by decide +kernel) (by decide +kernel)
theorem mw_357 : (Cond.code ({ cls := "ListForge", name := "leave", desc := "(II)I" } : MethodName) prog_1_method_4_code 5 (Option.some FieldType.int)) ∈ big := big_of (i := 357) (by decide +kernel) (by decide +kernel)
theorem mw_358 : (Cond.methodLink "ListForge" 95 ({ cls := "ListForge", name := "existing", desc := "(II)LListForge$Subscription;" } : MethodName)) ∈ big := big_of (i := 358) (by decide +kernel) (by decide +kernel)
theorem mw_360 : (Cond.instanceMethod ({ cls := "ListForge", name := "existing", desc := "(II)LListForge$Subscription;" } : MethodName)) ∈ big := big_of (i := 360) (by decide +kernel) (by decide +kernel)
theorem mw_361 : (Cond.code ({ cls := "ListForge", name := "existing", desc := "(II)LListForge$Subscription;" } : MethodName) prog_1_method_21_code 4 (Option.some (FieldType.object "ListForge$Subscription"))) ∈ big := big_of (i := 361) (by decide +kernel) (by decide +kernel)
theorem mw_363 : (Cond.methodLink "ListForge" 99 ({ cls := "ListForge$Subscription", name := "end", desc := "()V" } : MethodName)) ∈ big := big_of (i := 363) (by decide +kernel) (by decide +kernel)
theorem mw_364 : (Cond.instanceMethod ({ cls := "ListForge$Subscription", name := "end", desc := "()V" } : MethodName)) ∈ big := big_of (i := 364) (by decide +kernel) (by decide +kernel)
theorem mw_365 : (Cond.selects "ListForge$Subscription" ({ cls := "ListForge$Subscription", name := "end", desc := "()V" } : MethodName) ({ cls := "ListForge$Subscription", name := "end", desc := "()V" } : MethodName)) ∈ big := big_of (i := 365) (by decide +kernel) (by decide +kernel)
theorem mw_366 : (Cond.code ({ cls := "ListForge$Subscription", name := "end", desc := "()V" } : MethodName) prog_5_method_5_code 1 (Option.none : Option FieldType)) ∈ big := big_of (i := 366) (by decide +kernel) (by decide +kernel)
theorem mw_367 : (Cond.methodLink "ListForgeLaw" 97 ({ cls := "ListForgeLaw", name := "way", desc := "(LListForge;III[J)I" } : MethodName)) ∈ big := big_of (i := 367) (by decide +kernel) (by decide +kernel)
theorem mw_368 : (Cond.static ({ cls := "ListForgeLaw", name := "way", desc := "(LListForge;III[J)I" } : MethodName)) ∈ big := big_of (i := 368) (by decide +kernel) (by decide +kernel)
theorem mw_369 : (Cond.codeWith ({ cls := "ListForgeLaw", name := "way", desc := "(LListForge;III[J)I" } : MethodName) method_6_code 6 (Option.some FieldType.int) [(0, 12, 15, 13), (0, 12, 19, 23)]) ∈ big := big_of (i := 369) (by decide +kernel) (by decide +kernel)
theorem mw_370 : (Cond.methodLink "ListForgeLaw" 29 ({ cls := "ListForge", name := "way", desc := "(III)I" } : MethodName)) ∈ big := big_of (i := 370) (by decide +kernel) (by decide +kernel)
theorem mw_371 : (Cond.instanceMethod ({ cls := "ListForge", name := "way", desc := "(III)I" } : MethodName)) ∈ big := big_of (i := 371) (by decide +kernel) (by decide +kernel)
theorem mw_372 : (Cond.selects "ListForge" ({ cls := "ListForge", name := "way", desc := "(III)I" } : MethodName) ({ cls := "ListForge", name := "way", desc := "(III)I" } : MethodName)) ∈ big := big_of (i := 372) (by decide +kernel) (by decide +kernel)
theorem mw_373 : (Cond.code ({ cls := "ListForge", name := "way", desc := "(III)I" } : MethodName) prog_1_method_5_code 6 (Option.some FieldType.int)) ∈ big := big_of (i := 373) (by decide +kernel) (by decide +kernel)
theorem mw_374 : (Cond.methodLink "ListForgeLaw" 100 ({ cls := "ListForgeLaw", name := "moderator", desc := "(LListForge;IIZ[J)I" } : MethodName)) ∈ big := big_of (i := 374) (by decide +kernel) (by decide +kernel)
theorem mw_375 : (Cond.static ({ cls := "ListForgeLaw", name := "moderator", desc := "(LListForge;IIZ[J)I" } : MethodName)) ∈ big := big_of (i := 375) (by decide +kernel) (by decide +kernel)
theorem mw_376 : (Cond.codeWith ({ cls := "ListForgeLaw", name := "moderator", desc := "(LListForge;IIZ[J)I" } : MethodName) method_7_code 6 (Option.some FieldType.int) [(0, 19, 22, 13), (0, 19, 26, 23), (0, 19, 30, 15)]) ∈ big := big_of (i := 376) (by decide +kernel) (by decide +kernel)
theorem mw_377 : (Cond.methodLink "ListForgeLaw" 32 ({ cls := "ListForge", name := "moderator", desc := "(IIZ)Z" } : MethodName)) ∈ big := big_of (i := 377) (by decide +kernel) (by decide +kernel)
theorem mw_378 : (Cond.instanceMethod ({ cls := "ListForge", name := "moderator", desc := "(IIZ)Z" } : MethodName)) ∈ big := big_of (i := 378) (by decide +kernel) (by decide +kernel)
theorem mw_379 : (Cond.selects "ListForge" ({ cls := "ListForge", name := "moderator", desc := "(IIZ)Z" } : MethodName) ({ cls := "ListForge", name := "moderator", desc := "(IIZ)Z" } : MethodName)) ∈ big := big_of (i := 379) (by decide +kernel) (by decide +kernel)
theorem mw_380 : (Cond.code ({ cls := "ListForge", name := "moderator", desc := "(IIZ)Z" } : MethodName) prog_1_method_6_code 6 (Option.some FieldType.boolean)) ∈ big := big_of (i := 380) (by decide +kernel) (by decide +kernel)
theorem mw_382 : (Cond.methodLink "ListForgeLaw" 104 ({ cls := "ListForgeLaw", name := "ban", desc := "(LListForge;IIZ[J)I" } : MethodName)) ∈ big := big_of (i := 382) (by decide +kernel) (by decide +kernel)
theorem mw_383 : (Cond.static ({ cls := "ListForgeLaw", name := "ban", desc := "(LListForge;IIZ[J)I" } : MethodName)) ∈ big := big_of (i := 383) (by decide +kernel) (by decide +kernel)
theorem mw_384 : (Cond.codeWith ({ cls := "ListForgeLaw", name := "ban", desc := "(LListForge;IIZ[J)I" } : MethodName) method_8_code 6 (Option.some FieldType.int) [(0, 19, 22, 13)]) ∈ big := big_of (i := 384) (by decide +kernel) (by decide +kernel)
theorem mw_385 : (Cond.methodLink "ListForgeLaw" 36 ({ cls := "ListForge", name := "ban", desc := "(IIZ)Z" } : MethodName)) ∈ big := big_of (i := 385) (by decide +kernel) (by decide +kernel)
theorem mw_386 : (Cond.instanceMethod ({ cls := "ListForge", name := "ban", desc := "(IIZ)Z" } : MethodName)) ∈ big := big_of (i := 386) (by decide +kernel) (by decide +kernel)
theorem mw_387 : (Cond.selects "ListForge" ({ cls := "ListForge", name := "ban", desc := "(IIZ)Z" } : MethodName) ({ cls := "ListForge", name := "ban", desc := "(IIZ)Z" } : MethodName)) ∈ big := big_of (i := 387) (by decide +kernel) (by decide +kernel)
theorem mw_388 : (Cond.code ({ cls := "ListForge", name := "ban", desc := "(IIZ)Z" } : MethodName) prog_1_method_7_code 6 (Option.some FieldType.boolean)) ∈ big := big_of (i := 388) (by decide +kernel) (by decide +kernel)
theorem mw_389 : (Cond.methodLink "ListForgeLaw" 109 ({ cls := "ListForgeLaw", name := "setting", desc := "(LListForge;IID[D)I" } : MethodName)) ∈ big := big_of (i := 389) (by decide +kernel) (by decide +kernel)
theorem mw_390 : (Cond.static ({ cls := "ListForgeLaw", name := "setting", desc := "(LListForge;IID[D)I" } : MethodName)) ∈ big := big_of (i := 390) (by decide +kernel) (by decide +kernel)
theorem mw_391 : (Cond.codeWith ({ cls := "ListForgeLaw", name := "setting", desc := "(LListForge;IID[D)I" } : MethodName) method_9_code 7 (Option.some FieldType.int) [(0, 11, 14, 13)]) ∈ big := big_of (i := 391) (by decide +kernel) (by decide +kernel)
theorem mw_392 : (Cond.methodLink "ListForgeLaw" 39 ({ cls := "ListForge", name := "setting", desc := "(IID)D" } : MethodName)) ∈ big := big_of (i := 392) (by decide +kernel) (by decide +kernel)
theorem mw_393 : (Cond.instanceMethod ({ cls := "ListForge", name := "setting", desc := "(IID)D" } : MethodName)) ∈ big := big_of (i := 393) (by decide +kernel) (by decide +kernel)
theorem mw_394 : (Cond.selects "ListForge" ({ cls := "ListForge", name := "setting", desc := "(IID)D" } : MethodName) ({ cls := "ListForge", name := "setting", desc := "(IID)D" } : MethodName)) ∈ big := big_of (i := 394) (by decide +kernel) (by decide +kernel)
theorem mw_395 : (Cond.code ({ cls := "ListForge", name := "setting", desc := "(IID)D" } : MethodName) prog_1_method_8_code 6 (Option.some FieldType.double)) ∈ big := big_of (i := 395) (by decide +kernel) (by decide +kernel)
theorem mw_396 : (Cond.methodLink "ListForge" 111 ({ cls := "ListForge$MailingList", name := "changeOpen", desc := "(Z)D" } : MethodName)) ∈ big := big_of (i := 396) (by decide +kernel) (by decide +kernel)
theorem mw_397 : (Cond.instanceMethod ({ cls := "ListForge$MailingList", name := "changeOpen", desc := "(Z)D" } : MethodName)) ∈ big := big_of (i := 397) (by decide +kernel) (by decide +kernel)
theorem mw_398 : (Cond.selects "ListForge$MailingList" ({ cls := "ListForge$MailingList", name := "changeOpen", desc := "(Z)D" } : MethodName) ({ cls := "ListForge$MailingList", name := "changeOpen", desc := "(Z)D" } : MethodName)) ∈ big := big_of (i := 398) (by decide +kernel) (by decide +kernel)
theorem mw_399 : (Cond.code ({ cls := "ListForge$MailingList", name := "changeOpen", desc := "(Z)D" } : MethodName) prog_2_method_2_code 4 (Option.some FieldType.double)) ∈ big := big_of (i := 399) (by decide +kernel) (by decide +kernel)
theorem mw_400 : (Cond.methodLink "ListForge" 115 ({ cls := "ListForge$MailingList", name := "changeWatched", desc := "(Z)D" } : MethodName)) ∈ big := big_of (i := 400) (by decide +kernel) (by decide +kernel)
theorem mw_401 : (Cond.instanceMethod ({ cls := "ListForge$MailingList", name := "changeWatched", desc := "(Z)D" } : MethodName)) ∈ big := big_of (i := 401) (by decide +kernel) (by decide +kernel)
theorem mw_402 : (Cond.selects "ListForge$MailingList" ({ cls := "ListForge$MailingList", name := "changeWatched", desc := "(Z)D" } : MethodName) ({ cls := "ListForge$MailingList", name := "changeWatched", desc := "(Z)D" } : MethodName)) ∈ big := big_of (i := 402) (by decide +kernel) (by decide +kernel)
theorem mw_403 : (Cond.code ({ cls := "ListForge$MailingList", name := "changeWatched", desc := "(Z)D" } : MethodName) prog_2_method_3_code 4 (Option.some FieldType.double)) ∈ big := big_of (i := 403) (by decide +kernel) (by decide +kernel)
theorem mw_404 : (Cond.methodLink "ListForge" 118 ({ cls := "ListForge$MailingList", name := "changeGreatest", desc := "(I)D" } : MethodName)) ∈ big := big_of (i := 404) (by decide +kernel) (by decide +kernel)
theorem mw_405 : (Cond.instanceMethod ({ cls := "ListForge$MailingList", name := "changeGreatest", desc := "(I)D" } : MethodName)) ∈ big := big_of (i := 405) (by decide +kernel) (by decide +kernel)
theorem mw_406 : (Cond.selects "ListForge$MailingList" ({ cls := "ListForge$MailingList", name := "changeGreatest", desc := "(I)D" } : MethodName) ({ cls := "ListForge$MailingList", name := "changeGreatest", desc := "(I)D" } : MethodName)) ∈ big := big_of (i := 406) (by decide +kernel) (by decide +kernel)
theorem mw_407 : (Cond.code ({ cls := "ListForge$MailingList", name := "changeGreatest", desc := "(I)D" } : MethodName) prog_2_method_4_code 4 (Option.some FieldType.double)) ∈ big := big_of (i := 407) (by decide +kernel) (by decide +kernel)
theorem mw_408 : (Cond.methodLink "ListForge" 122 ({ cls := "ListForge$MailingList", name := "changeFull", desc := "(I)D" } : MethodName)) ∈ big := big_of (i := 408) (by decide +kernel) (by decide +kernel)
theorem mw_409 : (Cond.instanceMethod ({ cls := "ListForge$MailingList", name := "changeFull", desc := "(I)D" } : MethodName)) ∈ big := big_of (i := 409) (by decide +kernel) (by decide +kernel)
theorem mw_410 : (Cond.selects "ListForge$MailingList" ({ cls := "ListForge$MailingList", name := "changeFull", desc := "(I)D" } : MethodName) ({ cls := "ListForge$MailingList", name := "changeFull", desc := "(I)D" } : MethodName)) ∈ big := big_of (i := 410) (by decide +kernel) (by decide +kernel)
theorem mw_411 : (Cond.code ({ cls := "ListForge$MailingList", name := "changeFull", desc := "(I)D" } : MethodName) prog_2_method_5_code 4 (Option.some FieldType.double)) ∈ big := big_of (i := 411) (by decide +kernel) (by decide +kernel)
theorem mw_412 : (Cond.constantDouble "ListForge" 125 (4602678819172646912 : UInt64)) ∈ big := big_of (i := 412) (by decide +kernel) (by decide +kernel)
theorem mw_413 : (Cond.constantDouble "ListForge" 127 (4621819117588971520 : UInt64)) ∈ big := big_of (i := 413) (by decide +kernel) (by decide +kernel)
theorem mw_414 : (Cond.methodLink "ListForge" 129 ({ cls := "ListForge$MailingList", name := "changeBest", desc := "(D)D" } : MethodName)) ∈ big := big_of (i := 414) (by decide +kernel) (by decide +kernel)
theorem mw_415 : (Cond.instanceMethod ({ cls := "ListForge$MailingList", name := "changeBest", desc := "(D)D" } : MethodName)) ∈ big := big_of (i := 415) (by decide +kernel) (by decide +kernel)
theorem mw_416 : (Cond.selects "ListForge$MailingList" ({ cls := "ListForge$MailingList", name := "changeBest", desc := "(D)D" } : MethodName) ({ cls := "ListForge$MailingList", name := "changeBest", desc := "(D)D" } : MethodName)) ∈ big := big_of (i := 416) (by decide +kernel) (by decide +kernel)
theorem mw_417 : (Cond.code ({ cls := "ListForge$MailingList", name := "changeBest", desc := "(D)D" } : MethodName) prog_2_method_6_code 5 (Option.some FieldType.double)) ∈ big := big_of (i := 417) (by decide +kernel) (by decide +kernel)
theorem mw_418 : (Cond.methodLink "ListForge" 133 ({ cls := "ListForge$MailingList", name := "changeBarred", desc := "(IZ)D" } : MethodName)) ∈ big := big_of (i := 418) (by decide +kernel) (by decide +kernel)
theorem mw_419 : (Cond.instanceMethod ({ cls := "ListForge$MailingList", name := "changeBarred", desc := "(IZ)D" } : MethodName)) ∈ big := big_of (i := 419) (by decide +kernel) (by decide +kernel)
theorem mw_420 : (Cond.selects "ListForge$MailingList" ({ cls := "ListForge$MailingList", name := "changeBarred", desc := "(IZ)D" } : MethodName) ({ cls := "ListForge$MailingList", name := "changeBarred", desc := "(IZ)D" } : MethodName)) ∈ big := big_of (i := 420) (by decide +kernel) (by decide +kernel)
theorem mw_421 : (Cond.code ({ cls := "ListForge$MailingList", name := "changeBarred", desc := "(IZ)D" } : MethodName) prog_2_method_7_code 5 (Option.some FieldType.double)) ∈ big := big_of (i := 421) (by decide +kernel) (by decide +kernel)
theorem mw_422 : (Cond.methodLink "ListForgeLaw" 113 ({ cls := "ListForgeLaw", name := "post", desc := "(LListForge;IIII[J)I" } : MethodName)) ∈ big := big_of (i := 422) (by decide +kernel) (by decide +kernel)
theorem mw_423 : (Cond.static ({ cls := "ListForgeLaw", name := "post", desc := "(LListForge;IIII[J)I" } : MethodName)) ∈ big := big_of (i := 423) (by decide +kernel) (by decide +kernel)
theorem mw_424 : (Cond.codeWith ({ cls := "ListForgeLaw", name := "post", desc := "(LListForge;IIII[J)I" } : MethodName) method_10_code 7 (Option.some FieldType.int) [(0, 14, 17, 13), (0, 14, 21, 15), (0, 14, 25, 17)]) ∈ big := big_of (i := 424) (by decide +kernel) (by decide +kernel)
theorem mw_425 : (Cond.methodLink "ListForgeLaw" 43 ({ cls := "ListForge", name := "post", desc := "(IIII)I" } : MethodName)) ∈ big := big_of (i := 425) (by decide +kernel) (by decide +kernel)
theorem mw_426 : (Cond.instanceMethod ({ cls := "ListForge", name := "post", desc := "(IIII)I" } : MethodName)) ∈ big := big_of (i := 426) (by decide +kernel) (by decide +kernel)
theorem mw_427 : (Cond.selects "ListForge" ({ cls := "ListForge", name := "post", desc := "(IIII)I" } : MethodName) ({ cls := "ListForge", name := "post", desc := "(IIII)I" } : MethodName)) ∈ big := big_of (i := 427) (by decide +kernel) (by decide +kernel)
theorem mw_428 : (Cond.code ({ cls := "ListForge", name := "post", desc := "(IIII)I" } : MethodName) prog_1_method_9_code 7 (Option.some FieldType.int)) ∈ big := big_of (i := 428) (by decide +kernel) (by decide +kernel)
theorem mw_430 : (Cond.methodLink "ListForge" 142 ({ cls := "ListForge$MailingList", name := "refusesSender", desc := "(I)Z" } : MethodName)) ∈ big := big_of (i := 430) (by decide +kernel) (by decide +kernel)
theorem mw_431 : (Cond.instanceMethod ({ cls := "ListForge$MailingList", name := "refusesSender", desc := "(I)Z" } : MethodName)) ∈ big := big_of (i := 431) (by decide +kernel) (by decide +kernel)
theorem mw_432 : (Cond.selects "ListForge$MailingList" ({ cls := "ListForge$MailingList", name := "refusesSender", desc := "(I)Z" } : MethodName) ({ cls := "ListForge$MailingList", name := "refusesSender", desc := "(I)Z" } : MethodName)) ∈ big := big_of (i := 432) (by decide +kernel) (by decide +kernel)
theorem mw_433 : (Cond.code ({ cls := "ListForge$MailingList", name := "refusesSender", desc := "(I)Z" } : MethodName) prog_2_method_10_code 2 (Option.some FieldType.boolean)) ∈ big := big_of (i := 433) (by decide +kernel) (by decide +kernel)
theorem mw_435 : (Cond.methodLink "ListForge" 148 ({ cls := "ListForge$Post", name := "comeIn", desc := "(III)V" } : MethodName)) ∈ big := big_of (i := 435) (by decide +kernel) (by decide +kernel)
theorem mw_436 : (Cond.instanceMethod ({ cls := "ListForge$Post", name := "comeIn", desc := "(III)V" } : MethodName)) ∈ big := big_of (i := 436) (by decide +kernel) (by decide +kernel)
theorem mw_437 : (Cond.selects "ListForge$Post" ({ cls := "ListForge$Post", name := "comeIn", desc := "(III)V" } : MethodName) ({ cls := "ListForge$Post", name := "comeIn", desc := "(III)V" } : MethodName)) ∈ big := big_of (i := 437) (by decide +kernel) (by decide +kernel)
theorem mw_438 : (Cond.code ({ cls := "ListForge$Post", name := "comeIn", desc := "(III)V" } : MethodName) prog_4_method_2_code 4 (Option.none : Option FieldType)) ∈ big := big_of (i := 438) (by decide +kernel) (by decide +kernel)
theorem mw_439 : (Cond.methodLink "ListForge" 151 ({ cls := "ListForge$MailingList", name := "holdsBack", desc := "(III)Z" } : MethodName)) ∈ big := big_of (i := 439) (by decide +kernel) (by decide +kernel)
theorem mw_440 : (Cond.instanceMethod ({ cls := "ListForge$MailingList", name := "holdsBack", desc := "(III)Z" } : MethodName)) ∈ big := big_of (i := 440) (by decide +kernel) (by decide +kernel)
theorem mw_441 : (Cond.selects "ListForge$MailingList" ({ cls := "ListForge$MailingList", name := "holdsBack", desc := "(III)Z" } : MethodName) ({ cls := "ListForge$MailingList", name := "holdsBack", desc := "(III)Z" } : MethodName)) ∈ big := big_of (i := 441) (by decide +kernel) (by decide +kernel)
theorem mw_442 : (Cond.code ({ cls := "ListForge$MailingList", name := "holdsBack", desc := "(III)Z" } : MethodName) prog_2_method_11_code 4 (Option.some FieldType.boolean)) ∈ big := big_of (i := 442) (by decide +kernel) (by decide +kernel)
theorem mw_443 : (Cond.methodLink "ListForge" 154 ({ cls := "ListForge$MailingList", name := "tellModerators", desc := "(ILListForge$Outbox;)V" } : MethodName)) ∈ big := big_of (i := 443) (by decide +kernel) (by decide +kernel)
theorem mw_444 : (Cond.instanceMethod ({ cls := "ListForge$MailingList", name := "tellModerators", desc := "(ILListForge$Outbox;)V" } : MethodName)) ∈ big := big_of (i := 444) (by decide +kernel) (by decide +kernel)
theorem mw_445 : (Cond.selects "ListForge$MailingList" ({ cls := "ListForge$MailingList", name := "tellModerators", desc := "(ILListForge$Outbox;)V" } : MethodName) ({ cls := "ListForge$MailingList", name := "tellModerators", desc := "(ILListForge$Outbox;)V" } : MethodName)) ∈ big := big_of (i := 445) (by decide +kernel) (by decide +kernel)
theorem mw_446 : (Cond.code ({ cls := "ListForge$MailingList", name := "tellModerators", desc := "(ILListForge$Outbox;)V" } : MethodName) prog_2_method_12_code 4 (Option.none : Option FieldType)) ∈ big := big_of (i := 446) (by decide +kernel) (by decide +kernel)
theorem mw_447 : (Cond.methodLink "ListForge$MailingList" 54 ({ cls := "ListForge$Outbox", name := "add", desc := "(IIII)V" } : MethodName)) ∈ big := big_of (i := 447) (by decide +kernel) (by decide +kernel)
theorem mw_448 : (Cond.methodLink "ListForge" 158 ({ cls := "ListForge", name := "letThrough", desc := "(I)V" } : MethodName)) ∈ big := big_of (i := 448) (by decide +kernel) (by decide +kernel)
theorem mw_450 : (Cond.instanceMethod ({ cls := "ListForge", name := "letThrough", desc := "(I)V" } : MethodName)) ∈ big := big_of (i := 450) (by decide +kernel) (by decide +kernel)
theorem mw_451 : (Cond.code ({ cls := "ListForge", name := "letThrough", desc := "(I)V" } : MethodName) prog_1_method_20_code 3 (Option.none : Option FieldType)) ∈ big := big_of (i := 451) (by decide +kernel) (by decide +kernel)
theorem mw_452 : (Cond.methodLink "ListForge" 244 ({ cls := "ListForge$MailingList", name := "deliver", desc := "(ILListForge$Post;ILListForge$Outbox;)V" } : MethodName)) ∈ big := big_of (i := 452) (by decide +kernel) (by decide +kernel)
theorem mw_453 : (Cond.instanceMethod ({ cls := "ListForge$MailingList", name := "deliver", desc := "(ILListForge$Post;ILListForge$Outbox;)V" } : MethodName)) ∈ big := big_of (i := 453) (by decide +kernel) (by decide +kernel)
theorem mw_454 : (Cond.selects "ListForge$MailingList" ({ cls := "ListForge$MailingList", name := "deliver", desc := "(ILListForge$Post;ILListForge$Outbox;)V" } : MethodName) ({ cls := "ListForge$MailingList", name := "deliver", desc := "(ILListForge$Post;ILListForge$Outbox;)V" } : MethodName)) ∈ big := big_of (i := 454) (by decide +kernel) (by decide +kernel)
theorem mw_455 : (Cond.code ({ cls := "ListForge$MailingList", name := "deliver", desc := "(ILListForge$Post;ILListForge$Outbox;)V" } : MethodName) prog_2_method_13_code 7 (Option.none : Option FieldType)) ∈ big := big_of (i := 455) (by decide +kernel) (by decide +kernel)
theorem mw_456 : (Cond.methodLink "ListForge$MailingList" 60 ({ cls := "ListForge$Subscription", name := "takes", desc := "(I)Z" } : MethodName)) ∈ big := big_of (i := 456) (by decide +kernel) (by decide +kernel)
theorem mw_457 : (Cond.instanceMethod ({ cls := "ListForge$Subscription", name := "takes", desc := "(I)Z" } : MethodName)) ∈ big := big_of (i := 457) (by decide +kernel) (by decide +kernel)
theorem mw_458 : (Cond.selects "ListForge$Subscription" ({ cls := "ListForge$Subscription", name := "takes", desc := "(I)Z" } : MethodName) ({ cls := "ListForge$Subscription", name := "takes", desc := "(I)Z" } : MethodName)) ∈ big := big_of (i := 458) (by decide +kernel) (by decide +kernel)
theorem mw_459 : (Cond.code ({ cls := "ListForge$Subscription", name := "takes", desc := "(I)Z" } : MethodName) prog_5_method_6_code 2 (Option.some FieldType.boolean)) ∈ big := big_of (i := 459) (by decide +kernel) (by decide +kernel)
theorem mw_460 : (Cond.methodLink "ListForge$MailingList" 72 ({ cls := "ListForge$MailingList", name := "addToBundle", desc := "(II)V" } : MethodName)) ∈ big := big_of (i := 460) (by decide +kernel) (by decide +kernel)
theorem mw_461 : (Cond.instanceMethod ({ cls := "ListForge$MailingList", name := "addToBundle", desc := "(II)V" } : MethodName)) ∈ big := big_of (i := 461) (by decide +kernel) (by decide +kernel)
theorem mw_462 : (Cond.selects "ListForge$MailingList" ({ cls := "ListForge$MailingList", name := "addToBundle", desc := "(II)V" } : MethodName) ({ cls := "ListForge$MailingList", name := "addToBundle", desc := "(II)V" } : MethodName)) ∈ big := big_of (i := 462) (by decide +kernel) (by decide +kernel)
theorem mw_463 : (Cond.code ({ cls := "ListForge$MailingList", name := "addToBundle", desc := "(II)V" } : MethodName) prog_2_method_14_code 3 (Option.none : Option FieldType)) ∈ big := big_of (i := 463) (by decide +kernel) (by decide +kernel)
theorem mw_464 : (Cond.methodLink "ListForge$MailingList" 79 ({ cls := "ListForge$MailingList", name := "sendBundle", desc := "(LListForge$Outbox;)V" } : MethodName)) ∈ big := big_of (i := 464) (by decide +kernel) (by decide +kernel)
theorem mw_465 : (Cond.instanceMethod ({ cls := "ListForge$MailingList", name := "sendBundle", desc := "(LListForge$Outbox;)V" } : MethodName)) ∈ big := big_of (i := 465) (by decide +kernel) (by decide +kernel)
theorem mw_466 : (Cond.selects "ListForge$MailingList" ({ cls := "ListForge$MailingList", name := "sendBundle", desc := "(LListForge$Outbox;)V" } : MethodName) ({ cls := "ListForge$MailingList", name := "sendBundle", desc := "(LListForge$Outbox;)V" } : MethodName)) ∈ big := big_of (i := 466) (by decide +kernel) (by decide +kernel)
theorem mw_467 : (Cond.code ({ cls := "ListForge$MailingList", name := "sendBundle", desc := "(LListForge$Outbox;)V" } : MethodName) prog_2_method_15_code 3 (Option.none : Option FieldType)) ∈ big := big_of (i := 467) (by decide +kernel) (by decide +kernel)
theorem mw_468 : (Cond.methodLink "ListForgeLaw" 117 ({ cls := "ListForgeLaw", name := "judge", desc := "(LListForge;III[J)I" } : MethodName)) ∈ big := big_of (i := 468) (by decide +kernel) (by decide +kernel)
theorem mw_469 : (Cond.static ({ cls := "ListForgeLaw", name := "judge", desc := "(LListForge;III[J)I" } : MethodName)) ∈ big := big_of (i := 469) (by decide +kernel) (by decide +kernel)
theorem mw_470 : (Cond.codeWith ({ cls := "ListForgeLaw", name := "judge", desc := "(LListForge;III[J)I" } : MethodName) method_11_code 6 (Option.some FieldType.int) [(0, 12, 15, 13), (0, 12, 19, 23), (0, 12, 23, 17)]) ∈ big := big_of (i := 470) (by decide +kernel) (by decide +kernel)
theorem mw_471 : (Cond.methodLink "ListForgeLaw" 47 ({ cls := "ListForge", name := "judge", desc := "(III)I" } : MethodName)) ∈ big := big_of (i := 471) (by decide +kernel) (by decide +kernel)
theorem mw_472 : (Cond.instanceMethod ({ cls := "ListForge", name := "judge", desc := "(III)I" } : MethodName)) ∈ big := big_of (i := 472) (by decide +kernel) (by decide +kernel)
theorem mw_473 : (Cond.selects "ListForge" ({ cls := "ListForge", name := "judge", desc := "(III)I" } : MethodName) ({ cls := "ListForge", name := "judge", desc := "(III)I" } : MethodName)) ∈ big := big_of (i := 473) (by decide +kernel) (by decide +kernel)
theorem mw_474 : (Cond.code ({ cls := "ListForge", name := "judge", desc := "(III)I" } : MethodName) prog_1_method_10_code 5 (Option.some FieldType.int)) ∈ big := big_of (i := 474) (by decide +kernel) (by decide +kernel)
theorem mw_477 : (Cond.methodLink "ListForge" 174 ({ cls := "ListForge", name := "postsThatAre", desc := "(I)I" } : MethodName)) ∈ big := big_of (i := 477) (by decide +kernel) (by decide +kernel)
theorem mw_479 : (Cond.instanceMethod ({ cls := "ListForge", name := "postsThatAre", desc := "(I)I" } : MethodName)) ∈ big := big_of (i := 479) (by decide +kernel) (by decide +kernel)
theorem mw_480 : (Cond.code ({ cls := "ListForge", name := "postsThatAre", desc := "(I)I" } : MethodName) prog_1_method_19_code 4 (Option.some FieldType.int)) ∈ big := big_of (i := 480) (by decide +kernel) (by decide +kernel)
theorem mw_481 : (Cond.methodLink "ListForgeLaw" 120 ({ cls := "ListForgeLaw", name := "bounce", desc := "(LListForge;IIZ[D)I" } : MethodName)) ∈ big := big_of (i := 481) (by decide +kernel) (by decide +kernel)
theorem mw_482 : (Cond.static ({ cls := "ListForgeLaw", name := "bounce", desc := "(LListForge;IIZ[D)I" } : MethodName)) ∈ big := big_of (i := 482) (by decide +kernel) (by decide +kernel)
theorem mw_483 : (Cond.codeWith ({ cls := "ListForgeLaw", name := "bounce", desc := "(LListForge;IIZ[D)I" } : MethodName) method_12_code 6 (Option.some FieldType.int) [(0, 11, 14, 13), (0, 11, 18, 23), (0, 11, 22, 15)]) ∈ big := big_of (i := 483) (by decide +kernel) (by decide +kernel)
theorem mw_484 : (Cond.methodLink "ListForgeLaw" 50 ({ cls := "ListForge", name := "bounce", desc := "(IIZ)D" } : MethodName)) ∈ big := big_of (i := 484) (by decide +kernel) (by decide +kernel)
theorem mw_485 : (Cond.instanceMethod ({ cls := "ListForge", name := "bounce", desc := "(IIZ)D" } : MethodName)) ∈ big := big_of (i := 485) (by decide +kernel) (by decide +kernel)
theorem mw_486 : (Cond.selects "ListForge" ({ cls := "ListForge", name := "bounce", desc := "(IIZ)D" } : MethodName) ({ cls := "ListForge", name := "bounce", desc := "(IIZ)D" } : MethodName)) ∈ big := big_of (i := 486) (by decide +kernel) (by decide +kernel)
theorem mw_487 : (Cond.code ({ cls := "ListForge", name := "bounce", desc := "(IIZ)D" } : MethodName) prog_1_method_11_code 5 (Option.some FieldType.double)) ∈ big := big_of (i := 487) (by decide +kernel) (by decide +kernel)
theorem mw_489 : (Cond.methodLink "ListForge" 190 ({ cls := "ListForge$Subscription", name := "stop", desc := "(I)V" } : MethodName)) ∈ big := big_of (i := 489) (by decide +kernel) (by decide +kernel)
theorem mw_490 : (Cond.instanceMethod ({ cls := "ListForge$Subscription", name := "stop", desc := "(I)V" } : MethodName)) ∈ big := big_of (i := 490) (by decide +kernel) (by decide +kernel)
theorem mw_491 : (Cond.selects "ListForge$Subscription" ({ cls := "ListForge$Subscription", name := "stop", desc := "(I)V" } : MethodName) ({ cls := "ListForge$Subscription", name := "stop", desc := "(I)V" } : MethodName)) ∈ big := big_of (i := 491) (by decide +kernel) (by decide +kernel)
theorem mw_492 : (Cond.code ({ cls := "ListForge$Subscription", name := "stop", desc := "(I)V" } : MethodName) prog_5_method_4_code 2 (Option.none : Option FieldType)) ∈ big := big_of (i := 492) (by decide +kernel) (by decide +kernel)
theorem mw_493 : (Cond.methodLink "ListForgeLaw" 124 ({ cls := "ListForgeLaw", name := "renew", desc := "(LListForge;II[J)I" } : MethodName)) ∈ big := big_of (i := 493) (by decide +kernel) (by decide +kernel)
theorem mw_494 : (Cond.static ({ cls := "ListForgeLaw", name := "renew", desc := "(LListForge;II[J)I" } : MethodName)) ∈ big := big_of (i := 494) (by decide +kernel) (by decide +kernel)
theorem mw_495 : (Cond.codeWith ({ cls := "ListForgeLaw", name := "renew", desc := "(LListForge;II[J)I" } : MethodName) method_13_code 5 (Option.some FieldType.int) [(0, 10, 13, 13), (0, 10, 17, 23), (0, 10, 21, 15)]) ∈ big := big_of (i := 495) (by decide +kernel) (by decide +kernel)
theorem mw_496 : (Cond.methodLink "ListForgeLaw" 54 ({ cls := "ListForge", name := "renew", desc := "(II)I" } : MethodName)) ∈ big := big_of (i := 496) (by decide +kernel) (by decide +kernel)
theorem mw_497 : (Cond.instanceMethod ({ cls := "ListForge", name := "renew", desc := "(II)I" } : MethodName)) ∈ big := big_of (i := 497) (by decide +kernel) (by decide +kernel)
theorem mw_498 : (Cond.selects "ListForge" ({ cls := "ListForge", name := "renew", desc := "(II)I" } : MethodName) ({ cls := "ListForge", name := "renew", desc := "(II)I" } : MethodName)) ∈ big := big_of (i := 498) (by decide +kernel) (by decide +kernel)
theorem mw_499 : (Cond.code ({ cls := "ListForge", name := "renew", desc := "(II)I" } : MethodName) prog_1_method_12_code 5 (Option.some FieldType.int)) ∈ big := big_of (i := 499) (by decide +kernel) (by decide +kernel)
theorem mw_501 : (Cond.methodLink "ListForgeLaw" 127 ({ cls := "ListForgeLaw", name := "tick", desc := "(LListForge;I[J)I" } : MethodName)) ∈ big := big_of (i := 501) (by decide +kernel) (by decide +kernel)
theorem mw_502 : (Cond.static ({ cls := "ListForgeLaw", name := "tick", desc := "(LListForge;I[J)I" } : MethodName)) ∈ big := big_of (i := 502) (by decide +kernel) (by decide +kernel)
theorem mw_503 : (Cond.codeWith ({ cls := "ListForgeLaw", name := "tick", desc := "(LListForge;I[J)I" } : MethodName) method_14_code 4 (Option.some FieldType.int) [(0, 9, 12, 13)]) ∈ big := big_of (i := 503) (by decide +kernel) (by decide +kernel)
theorem mw_504 : (Cond.methodLink "ListForgeLaw" 57 ({ cls := "ListForge", name := "tick", desc := "(I)I" } : MethodName)) ∈ big := big_of (i := 504) (by decide +kernel) (by decide +kernel)
theorem mw_505 : (Cond.instanceMethod ({ cls := "ListForge", name := "tick", desc := "(I)I" } : MethodName)) ∈ big := big_of (i := 505) (by decide +kernel) (by decide +kernel)
theorem mw_506 : (Cond.selects "ListForge" ({ cls := "ListForge", name := "tick", desc := "(I)I" } : MethodName) ({ cls := "ListForge", name := "tick", desc := "(I)I" } : MethodName)) ∈ big := big_of (i := 506) (by decide +kernel) (by decide +kernel)
theorem mw_507 : (Cond.code ({ cls := "ListForge", name := "tick", desc := "(I)I" } : MethodName) prog_1_method_13_code 4 (Option.some FieldType.int)) ∈ big := big_of (i := 507) (by decide +kernel) (by decide +kernel)
theorem mw_508 : (Cond.methodLink "ListForge" 198 ({ cls := "ListForge$MailingList", name := "beginDay", desc := "(ILListForge$Outbox;)V" } : MethodName)) ∈ big := big_of (i := 508) (by decide +kernel) (by decide +kernel)
theorem mw_509 : (Cond.instanceMethod ({ cls := "ListForge$MailingList", name := "beginDay", desc := "(ILListForge$Outbox;)V" } : MethodName)) ∈ big := big_of (i := 509) (by decide +kernel) (by decide +kernel)
theorem mw_510 : (Cond.selects "ListForge$MailingList" ({ cls := "ListForge$MailingList", name := "beginDay", desc := "(ILListForge$Outbox;)V" } : MethodName) ({ cls := "ListForge$MailingList", name := "beginDay", desc := "(ILListForge$Outbox;)V" } : MethodName)) ∈ big := big_of (i := 510) (by decide +kernel) (by decide +kernel)
theorem mw_511 : (Cond.code ({ cls := "ListForge$MailingList", name := "beginDay", desc := "(ILListForge$Outbox;)V" } : MethodName) prog_2_method_16_code 4 (Option.none : Option FieldType)) ∈ big := big_of (i := 511) (by decide +kernel) (by decide +kernel)
theorem mw_512 : (Cond.methodLink "ListForge$MailingList" 89 ({ cls := "ListForge$MailingList", name := "beginDayOf", desc := "(IILListForge$Outbox;)V" } : MethodName)) ∈ big := big_of (i := 512) (by decide +kernel) (by decide +kernel)
theorem mw_513 : (Cond.instanceMethod ({ cls := "ListForge$MailingList", name := "beginDayOf", desc := "(IILListForge$Outbox;)V" } : MethodName)) ∈ big := big_of (i := 513) (by decide +kernel) (by decide +kernel)
theorem mw_514 : (Cond.selects "ListForge$MailingList" ({ cls := "ListForge$MailingList", name := "beginDayOf", desc := "(IILListForge$Outbox;)V" } : MethodName) ({ cls := "ListForge$MailingList", name := "beginDayOf", desc := "(IILListForge$Outbox;)V" } : MethodName)) ∈ big := big_of (i := 514) (by decide +kernel) (by decide +kernel)
theorem mw_515 : (Cond.code ({ cls := "ListForge$MailingList", name := "beginDayOf", desc := "(IILListForge$Outbox;)V" } : MethodName) prog_2_method_17_code 6 (Option.none : Option FieldType)) ∈ big := big_of (i := 515) (by decide +kernel) (by decide +kernel)
theorem mw_516 : (Cond.methodLink "ListForge$MailingList" 96 ({ cls := "ListForge$Subscription", name := "fade", desc := "(I)V" } : MethodName)) ∈ big := big_of (i := 516) (by decide +kernel) (by decide +kernel)
theorem mw_517 : (Cond.instanceMethod ({ cls := "ListForge$Subscription", name := "fade", desc := "(I)V" } : MethodName)) ∈ big := big_of (i := 517) (by decide +kernel) (by decide +kernel)
theorem mw_518 : (Cond.selects "ListForge$Subscription" ({ cls := "ListForge$Subscription", name := "fade", desc := "(I)V" } : MethodName) ({ cls := "ListForge$Subscription", name := "fade", desc := "(I)V" } : MethodName)) ∈ big := big_of (i := 518) (by decide +kernel) (by decide +kernel)
theorem mw_519 : (Cond.code ({ cls := "ListForge$Subscription", name := "fade", desc := "(I)V" } : MethodName) prog_5_method_7_code 4 (Option.none : Option FieldType)) ∈ big := big_of (i := 519) (by decide +kernel) (by decide +kernel)
theorem mw_520 : (Cond.constantDouble "ListForge$Subscription" 38 (4606056518893174784 : UInt64)) ∈ big := big_of (i := 520) (by decide +kernel) (by decide +kernel)
theorem mw_521 : (Cond.constantDouble "ListForge$Subscription" 40 (4598175219545276416 : UInt64)) ∈ big := big_of (i := 521) (by decide +kernel) (by decide +kernel)
theorem mw_522 : (Cond.methodLink "ListForge$MailingList" 100 ({ cls := "ListForge$MailingList", name := "warnAgain", desc := "(ILListForge$Outbox;)V" } : MethodName)) ∈ big := big_of (i := 522) (by decide +kernel) (by decide +kernel)
theorem mw_523 : (Cond.instanceMethod ({ cls := "ListForge$MailingList", name := "warnAgain", desc := "(ILListForge$Outbox;)V" } : MethodName)) ∈ big := big_of (i := 523) (by decide +kernel) (by decide +kernel)
theorem mw_524 : (Cond.selects "ListForge$MailingList" ({ cls := "ListForge$MailingList", name := "warnAgain", desc := "(ILListForge$Outbox;)V" } : MethodName) ({ cls := "ListForge$MailingList", name := "warnAgain", desc := "(ILListForge$Outbox;)V" } : MethodName)) ∈ big := big_of (i := 524) (by decide +kernel) (by decide +kernel)
theorem mw_525 : (Cond.code ({ cls := "ListForge$MailingList", name := "warnAgain", desc := "(ILListForge$Outbox;)V" } : MethodName) prog_2_method_18_code 4 (Option.none : Option FieldType)) ∈ big := big_of (i := 525) (by decide +kernel) (by decide +kernel)
theorem mw_526 : (Cond.methodLink "ListForge$MailingList" 104 ({ cls := "ListForge$Subscription", name := "end", desc := "()V" } : MethodName)) ∈ big := big_of (i := 526) (by decide +kernel) (by decide +kernel)
theorem mw_527 : (Cond.methodLink "ListForgeLaw" 130 ({ cls := "ListForgeLaw", name := "told", desc := "(LListForge;III[J)I" } : MethodName)) ∈ big := big_of (i := 527) (by decide +kernel) (by decide +kernel)
theorem mw_528 : (Cond.static ({ cls := "ListForgeLaw", name := "told", desc := "(LListForge;III[J)I" } : MethodName)) ∈ big := big_of (i := 528) (by decide +kernel) (by decide +kernel)
theorem mw_529 : (Cond.codeWith ({ cls := "ListForgeLaw", name := "told", desc := "(LListForge;III[J)I" } : MethodName) method_15_code 6 (Option.some FieldType.int) [(0, 12, 15, 13), (0, 12, 19, 23)]) ∈ big := big_of (i := 529) (by decide +kernel) (by decide +kernel)
theorem mw_530 : (Cond.methodLink "ListForgeLaw" 60 ({ cls := "ListForge", name := "told", desc := "(III)I" } : MethodName)) ∈ big := big_of (i := 530) (by decide +kernel) (by decide +kernel)
theorem mw_531 : (Cond.instanceMethod ({ cls := "ListForge", name := "told", desc := "(III)I" } : MethodName)) ∈ big := big_of (i := 531) (by decide +kernel) (by decide +kernel)
theorem mw_532 : (Cond.selects "ListForge" ({ cls := "ListForge", name := "told", desc := "(III)I" } : MethodName) ({ cls := "ListForge", name := "told", desc := "(III)I" } : MethodName)) ∈ big := big_of (i := 532) (by decide +kernel) (by decide +kernel)
theorem mw_533 : (Cond.code ({ cls := "ListForge", name := "told", desc := "(III)I" } : MethodName) prog_1_method_14_code 5 (Option.some FieldType.int)) ∈ big := big_of (i := 533) (by decide +kernel) (by decide +kernel)
theorem mw_534 : (Cond.methodLink "ListForgeLaw" 133 ({ cls := "ListForgeLaw", name := "score", desc := "(LListForge;II[D)I" } : MethodName)) ∈ big := big_of (i := 534) (by decide +kernel) (by decide +kernel)
theorem mw_535 : (Cond.static ({ cls := "ListForgeLaw", name := "score", desc := "(LListForge;II[D)I" } : MethodName)) ∈ big := big_of (i := 535) (by decide +kernel) (by decide +kernel)
theorem mw_536 : (Cond.codeWith ({ cls := "ListForgeLaw", name := "score", desc := "(LListForge;II[D)I" } : MethodName) method_16_code 5 (Option.some FieldType.int) [(0, 9, 12, 13), (0, 9, 16, 23)]) ∈ big := big_of (i := 536) (by decide +kernel) (by decide +kernel)
theorem mw_537 : (Cond.methodLink "ListForgeLaw" 63 ({ cls := "ListForge", name := "score", desc := "(II)D" } : MethodName)) ∈ big := big_of (i := 537) (by decide +kernel) (by decide +kernel)
theorem mw_538 : (Cond.instanceMethod ({ cls := "ListForge", name := "score", desc := "(II)D" } : MethodName)) ∈ big := big_of (i := 538) (by decide +kernel) (by decide +kernel)
theorem mw_539 : (Cond.selects "ListForge" ({ cls := "ListForge", name := "score", desc := "(II)D" } : MethodName) ({ cls := "ListForge", name := "score", desc := "(II)D" } : MethodName)) ∈ big := big_of (i := 539) (by decide +kernel) (by decide +kernel)
theorem mw_540 : (Cond.code ({ cls := "ListForge", name := "score", desc := "(II)D" } : MethodName) prog_1_method_15_code 3 (Option.some FieldType.double)) ∈ big := big_of (i := 540) (by decide +kernel) (by decide +kernel)
theorem mw_541 : (Cond.methodLink "ListForgeLaw" 137 ({ cls := "ListForgeLaw", name := "sent", desc := "(LListForge;II[J)I" } : MethodName)) ∈ big := big_of (i := 541) (by decide +kernel) (by decide +kernel)
theorem mw_542 : (Cond.static ({ cls := "ListForgeLaw", name := "sent", desc := "(LListForge;II[J)I" } : MethodName)) ∈ big := big_of (i := 542) (by decide +kernel) (by decide +kernel)
theorem mw_543 : (Cond.codeWith ({ cls := "ListForgeLaw", name := "sent", desc := "(LListForge;II[J)I" } : MethodName) method_17_code 5 (Option.some FieldType.int) [(0, 10, 13, 13), (0, 10, 17, 70)]) ∈ big := big_of (i := 543) (by decide +kernel) (by decide +kernel)
theorem mw_544 : (Cond.classLink "ListForgeLaw" 70 "java/lang/IndexOutOfBoundsException") ∈ big := big_of (i := 544) (by decide +kernel) (by decide +kernel)
theorem mw_545 : (Cond.methodLink "ListForgeLaw" 67 ({ cls := "ListForge", name := "sent", desc := "(II)I" } : MethodName)) ∈ big := big_of (i := 545) (by decide +kernel) (by decide +kernel)
theorem mw_546 : (Cond.instanceMethod ({ cls := "ListForge", name := "sent", desc := "(II)I" } : MethodName)) ∈ big := big_of (i := 546) (by decide +kernel) (by decide +kernel)
theorem mw_547 : (Cond.selects "ListForge" ({ cls := "ListForge", name := "sent", desc := "(II)I" } : MethodName) ({ cls := "ListForge", name := "sent", desc := "(II)I" } : MethodName)) ∈ big := big_of (i := 547) (by decide +kernel) (by decide +kernel)
theorem mw_548 : (Cond.code ({ cls := "ListForge", name := "sent", desc := "(II)I" } : MethodName) prog_1_method_16_code 3 (Option.some FieldType.int)) ∈ big := big_of (i := 548) (by decide +kernel) (by decide +kernel)
theorem mw_549 : (Cond.classLink "ListForge" 207 "java/lang/IndexOutOfBoundsException") ∈ big := big_of (i := 549) (by decide +kernel) (by decide +kernel)
theorem mw_550 : (Cond.instantiable "java/lang/IndexOutOfBoundsException" 6) ∈ big := big_of (i := 550) (by decide +kernel) (by decide +kernel)
theorem mw_552 : (Cond.selects "java/lang/IndexOutOfBoundsException" ({ cls := "java/lang/Throwable", name := "fillInStackTrace", desc := "(I)Ljava/lang/Throwable;" } : MethodName) ({ cls := "java/lang/Throwable", name := "fillInStackTrace", desc := "(I)Ljava/lang/Throwable;" } : MethodName)) ∈ big := big_of (i := 552) (by decide +kernel) (by decide +kernel)
theorem mw_553 : (Cond.lays "java/lang/IndexOutOfBoundsException" "java/lang/Throwable" "cause" "Ljava/lang/Throwable;") ∈ big := big_of (i := 553) (by decide +kernel) (by decide +kernel)
theorem mw_554 : (Cond.lays "java/lang/IndexOutOfBoundsException" "java/lang/Throwable" "stackTrace" "[Ljava/lang/StackTraceElement;") ∈ big := big_of (i := 554) (by decide +kernel) (by decide +kernel)
theorem mw_555 : (Cond.lays "java/lang/IndexOutOfBoundsException" "java/lang/Throwable" "suppressedExceptions" "Ljava/util/List;") ∈ big := big_of (i := 555) (by decide +kernel) (by decide +kernel)
theorem mw_556 : (Cond.lays "java/lang/IndexOutOfBoundsException" "java/lang/Throwable" "detailMessage" "Ljava/lang/String;") ∈ big := big_of (i := 556) (by decide +kernel) (by decide +kernel)
theorem mw_557 : (Cond.lays "java/lang/IndexOutOfBoundsException" "java/lang/Throwable" "backtrace" "Ljava/lang/Object;") ∈ big := big_of (i := 557) (by decide +kernel) (by decide +kernel)
theorem mw_559 : (Cond.methodLink "ListForge" 211 ({ cls := "java/lang/IndexOutOfBoundsException", name := "<init>", desc := "(Ljava/lang/String;)V" } : MethodName)) ∈ big := big_of (i := 559) (by decide +kernel) (by decide +kernel)
theorem mw_560 : (Cond.instanceMethod ({ cls := "java/lang/IndexOutOfBoundsException", name := "<init>", desc := "(Ljava/lang/String;)V" } : MethodName)) ∈ big := big_of (i := 560) (by decide +kernel) (by decide +kernel)
theorem mw_561 : (Cond.code ({ cls := "java/lang/IndexOutOfBoundsException", name := "<init>", desc := "(Ljava/lang/String;)V" } : MethodName) prog_11_method_2_code 2 (Option.none : Option FieldType)) ∈ big := big_of (i := 561) (by decide +kernel) (by decide +kernel)
theorem mw_562 : (Cond.methodLink "java/lang/IndexOutOfBoundsException" 7 ({ cls := "java/lang/RuntimeException", name := "<init>", desc := "(Ljava/lang/String;)V" } : MethodName)) ∈ big := big_of (i := 562) (by decide +kernel) (by decide +kernel)
theorem mw_563 : (Cond.lays "java/lang/IndexOutOfBoundsException" "java/lang/Throwable" "depth" "I") ∈ big := big_of (i := 563) (by decide +kernel) (by decide +kernel)
theorem mw_564 : (Cond.superclass "java/lang/IndexOutOfBoundsException" "java/lang/RuntimeException") ∈ big := big_of (i := 564) (by decide +kernel) (by decide +kernel)
theorem mw_565 : (Cond.methodLink "ListForgeLaw" 140 ({ cls := "ListForgeLaw", name := "count", desc := "(LListForge;I[J)I" } : MethodName)) ∈ big := big_of (i := 565) (by decide +kernel) (by decide +kernel)
theorem mw_566 : (Cond.static ({ cls := "ListForgeLaw", name := "count", desc := "(LListForge;I[J)I" } : MethodName)) ∈ big := big_of (i := 566) (by decide +kernel) (by decide +kernel)
theorem mw_567 : (Cond.codeWith ({ cls := "ListForgeLaw", name := "count", desc := "(LListForge;I[J)I" } : MethodName) method_18_code 4 (Option.some FieldType.int) [(0, 9, 12, 13)]) ∈ big := big_of (i := 567) (by decide +kernel) (by decide +kernel)
theorem mw_568 : (Cond.methodLink "ListForgeLaw" 72 ({ cls := "ListForge", name := "count", desc := "(I)I" } : MethodName)) ∈ big := big_of (i := 568) (by decide +kernel) (by decide +kernel)
theorem mw_569 : (Cond.instanceMethod ({ cls := "ListForge", name := "count", desc := "(I)I" } : MethodName)) ∈ big := big_of (i := 569) (by decide +kernel) (by decide +kernel)
theorem mw_570 : (Cond.selects "ListForge" ({ cls := "ListForge", name := "count", desc := "(I)I" } : MethodName) ({ cls := "ListForge", name := "count", desc := "(I)I" } : MethodName)) ∈ big := big_of (i := 570) (by decide +kernel) (by decide +kernel)
theorem mw_571 : (Cond.code ({ cls := "ListForge", name := "count", desc := "(I)I" } : MethodName) prog_1_method_17_code 2 (Option.some FieldType.int)) ∈ big := big_of (i := 571) (by decide +kernel) (by decide +kernel)
theorem mw_572 : (Cond.methodLink "ListForge" 227 ({ cls := "ListForge", name := "countOfList", desc := "(LListForge$MailingList;I)I" } : MethodName)) ∈ big := big_of (i := 572) (by decide +kernel) (by decide +kernel)
theorem mw_573 : (Cond.static ({ cls := "ListForge", name := "countOfList", desc := "(LListForge$MailingList;I)I" } : MethodName)) ∈ big := big_of (i := 573) (by decide +kernel) (by decide +kernel)
theorem mw_574 : (Cond.code ({ cls := "ListForge", name := "countOfList", desc := "(LListForge$MailingList;I)I" } : MethodName) prog_1_method_18_code 2 (Option.some FieldType.int)) ∈ big := big_of (i := 574) (by decide +kernel) (by decide +kernel)
theorem mw_575 : (Cond.methodLink "ListForge" 231 ({ cls := "ListForge$MailingList", name := "subscriptionCount", desc := "()I" } : MethodName)) ∈ big := big_of (i := 575) (by decide +kernel) (by decide +kernel)
theorem mw_576 : (Cond.instanceMethod ({ cls := "ListForge$MailingList", name := "subscriptionCount", desc := "()I" } : MethodName)) ∈ big := big_of (i := 576) (by decide +kernel) (by decide +kernel)
theorem mw_577 : (Cond.selects "ListForge$MailingList" ({ cls := "ListForge$MailingList", name := "subscriptionCount", desc := "()I" } : MethodName) ({ cls := "ListForge$MailingList", name := "subscriptionCount", desc := "()I" } : MethodName)) ∈ big := big_of (i := 577) (by decide +kernel) (by decide +kernel)
theorem mw_578 : (Cond.code ({ cls := "ListForge$MailingList", name := "subscriptionCount", desc := "()I" } : MethodName) prog_2_method_8_code 3 (Option.some FieldType.int)) ∈ big := big_of (i := 578) (by decide +kernel) (by decide +kernel)
theorem mw_579 : (Cond.methodLink "ListForge" 235 ({ cls := "ListForge$MailingList", name := "liveCount", desc := "()I" } : MethodName)) ∈ big := big_of (i := 579) (by decide +kernel) (by decide +kernel)
theorem mw_580 : (Cond.instanceMethod ({ cls := "ListForge$MailingList", name := "liveCount", desc := "()I" } : MethodName)) ∈ big := big_of (i := 580) (by decide +kernel) (by decide +kernel)
theorem mw_581 : (Cond.selects "ListForge$MailingList" ({ cls := "ListForge$MailingList", name := "liveCount", desc := "()I" } : MethodName) ({ cls := "ListForge$MailingList", name := "liveCount", desc := "()I" } : MethodName)) ∈ big := big_of (i := 581) (by decide +kernel) (by decide +kernel)
theorem mw_582 : (Cond.code ({ cls := "ListForge$MailingList", name := "liveCount", desc := "()I" } : MethodName) prog_2_method_9_code 3 (Option.some FieldType.int)) ∈ big := big_of (i := 582) (by decide +kernel) (by decide +kernel)
theorem mw_583 : (Cond.classLink "ListForgeLaw" 76 "ListForgeModel") ∈ big := big_of (i := 583) (by decide +kernel) (by decide +kernel)
theorem mw_584 : (Cond.instantiable "ListForgeModel" 31) ∈ big := big_of (i := 584) (by decide +kernel) (by decide +kernel)
theorem mw_585 : (Cond.methodLink "ListForgeLaw" 78 ({ cls := "ListForgeModel", name := "<init>", desc := "()V" } : MethodName)) ∈ big := big_of (i := 585) (by decide +kernel) (by decide +kernel)
theorem mw_586 : (Cond.instanceMethod ({ cls := "ListForgeModel", name := "<init>", desc := "()V" } : MethodName)) ∈ big := big_of (i := 586) (by decide +kernel) (by decide +kernel)
theorem mw_587 : (Cond.code ({ cls := "ListForgeModel", name := "<init>", desc := "()V" } : MethodName) prog_7_method_1_code 2 (Option.none : Option FieldType)) ∈ big := big_of (i := 587) (by decide +kernel) (by decide +kernel)
theorem mw_588 : (Cond.methodLink "ListForgeModel" 1 ({ cls := "java/lang/Object", name := "<init>", desc := "()V" } : MethodName)) ∈ big := big_of (i := 588) (by decide +kernel) (by decide +kernel)
theorem mw_589 : (Cond.constantDouble "ListForgeModel" 54 (4613937818241073152 : UInt64)) ∈ big := big_of (i := 589) (by decide +kernel) (by decide +kernel)
theorem mw_590 : (Cond.fieldLink "ListForgeModel" 92 "ListForgeModel" "thrown" "I") ∈ big := big_of (i := 590) (by decide +kernel) (by decide +kernel)
theorem mw_591 : (Cond.fieldLink "ListForgeModel" 111 "ListForgeModel" "today" "I") ∈ big := big_of (i := 591) (by decide +kernel) (by decide +kernel)
theorem mw_592 : (Cond.fieldLink "ListForgeModel" 114 "ListForgeModel" "asked" "I") ∈ big := big_of (i := 592) (by decide +kernel) (by decide +kernel)
theorem mw_593 : (Cond.fieldLink "ListForgeModel" 125 "ListForgeModel" "posts" "I") ∈ big := big_of (i := 593) (by decide +kernel) (by decide +kernel)
theorem mw_594 : (Cond.fieldLink "ListForgeModel" 100 "ListForgeModel" "sentMany" "I") ∈ big := big_of (i := 594) (by decide +kernel) (by decide +kernel)
theorem mw_595 : (Cond.fieldLink "ListForgeModel" 7 "ListForgeModel" "state" "[I") ∈ big := big_of (i := 595) (by decide +kernel) (by decide +kernel)
theorem mw_596 : (Cond.fieldLink "ListForgeModel" 13 "ListForgeModel" "way" "[I") ∈ big := big_of (i := 596) (by decide +kernel) (by decide +kernel)
theorem mw_597 : (Cond.fieldLink "ListForgeModel" 16 "ListForgeModel" "since" "[I") ∈ big := big_of (i := 597) (by decide +kernel) (by decide +kernel)
theorem mw_598 : (Cond.fieldLink "ListForgeModel" 19 "ListForgeModel" "code" "[I") ∈ big := big_of (i := 598) (by decide +kernel) (by decide +kernel)
theorem mw_599 : (Cond.fieldLink "ListForgeModel" 22 "ListForgeModel" "warning" "[I") ∈ big := big_of (i := 599) (by decide +kernel) (by decide +kernel)
theorem mw_600 : (Cond.fieldLink "ListForgeModel" 25 "ListForgeModel" "bounced" "[I") ∈ big := big_of (i := 600) (by decide +kernel) (by decide +kernel)
theorem mw_601 : (Cond.fieldLink "ListForgeModel" 28 "ListForgeModel" "moderates" "[Z") ∈ big := big_of (i := 601) (by decide +kernel) (by decide +kernel)
theorem mw_602 : (Cond.fieldLink "ListForgeModel" 32 "ListForgeModel" "banned" "[Z") ∈ big := big_of (i := 602) (by decide +kernel) (by decide +kernel)
theorem mw_603 : (Cond.fieldLink "ListForgeModel" 35 "ListForgeModel" "score" "[D") ∈ big := big_of (i := 603) (by decide +kernel) (by decide +kernel)
theorem mw_604 : (Cond.fieldLink "ListForgeModel" 39 "ListForgeModel" "open" "[Z") ∈ big := big_of (i := 604) (by decide +kernel) (by decide +kernel)
theorem mw_605 : (Cond.fieldLink "ListForgeModel" 42 "ListForgeModel" "watched" "[Z") ∈ big := big_of (i := 605) (by decide +kernel) (by decide +kernel)
theorem mw_606 : (Cond.fieldLink "ListForgeModel" 45 "ListForgeModel" "barred" "[Z") ∈ big := big_of (i := 606) (by decide +kernel) (by decide +kernel)
theorem mw_607 : (Cond.fieldLink "ListForgeModel" 48 "ListForgeModel" "greatest" "[I") ∈ big := big_of (i := 607) (by decide +kernel) (by decide +kernel)
theorem mw_608 : (Cond.fieldLink "ListForgeModel" 51 "ListForgeModel" "full" "[I") ∈ big := big_of (i := 608) (by decide +kernel) (by decide +kernel)
theorem mw_609 : (Cond.fieldLink "ListForgeModel" 56 "ListForgeModel" "best" "[D") ∈ big := big_of (i := 609) (by decide +kernel) (by decide +kernel)
theorem mw_610 : (Cond.fieldLink "ListForgeModel" 59 "ListForgeModel" "pList" "[I") ∈ big := big_of (i := 610) (by decide +kernel) (by decide +kernel)
theorem mw_611 : (Cond.fieldLink "ListForgeModel" 62 "ListForgeModel" "pFrom" "[I") ∈ big := big_of (i := 611) (by decide +kernel) (by decide +kernel)
theorem mw_612 : (Cond.fieldLink "ListForgeModel" 65 "ListForgeModel" "pSize" "[I") ∈ big := big_of (i := 612) (by decide +kernel) (by decide +kernel)
theorem mw_613 : (Cond.fieldLink "ListForgeModel" 68 "ListForgeModel" "pState" "[I") ∈ big := big_of (i := 613) (by decide +kernel) (by decide +kernel)
theorem mw_614 : (Cond.fieldLink "ListForgeModel" 71 "ListForgeModel" "bundle" "[I") ∈ big := big_of (i := 614) (by decide +kernel) (by decide +kernel)
theorem mw_615 : (Cond.fieldLink "ListForgeModel" 74 "ListForgeModel" "bSize" "[I") ∈ big := big_of (i := 615) (by decide +kernel) (by decide +kernel)
theorem mw_616 : (Cond.fieldLink "ListForgeModel" 77 "ListForgeModel" "bDay" "[I") ∈ big := big_of (i := 616) (by decide +kernel) (by decide +kernel)
theorem mw_617 : (Cond.fieldLink "ListForgeModel" 80 "ListForgeModel" "outTo" "[I") ∈ big := big_of (i := 617) (by decide +kernel) (by decide +kernel)
theorem mw_618 : (Cond.fieldLink "ListForgeModel" 83 "ListForgeModel" "outList" "[I") ∈ big := big_of (i := 618) (by decide +kernel) (by decide +kernel)
theorem mw_619 : (Cond.fieldLink "ListForgeModel" 86 "ListForgeModel" "outSort" "[I") ∈ big := big_of (i := 619) (by decide +kernel) (by decide +kernel)
theorem mw_620 : (Cond.fieldLink "ListForgeModel" 89 "ListForgeModel" "outNumber" "[I") ∈ big := big_of (i := 620) (by decide +kernel) (by decide +kernel)
theorem mw_621 : (Cond.lays "ListForgeModel" "ListForgeModel" "thrown" "I") ∈ big := big_of (i := 621) (by decide +kernel) (by decide +kernel)
theorem mw_622 : (Cond.soleField "ListForgeModel" "thrown") ∈ big := big_of (i := 622) (by decide +kernel) (by decide +kernel)
theorem mw_623 : (Cond.lays "ListForgeModel" "ListForgeModel" "today" "I") ∈ big := big_of (i := 623) (by decide +kernel) (by decide +kernel)
theorem mw_624 : (Cond.soleField "ListForgeModel" "today") ∈ big := big_of (i := 624) (by decide +kernel) (by decide +kernel)
theorem mw_625 : (Cond.lays "ListForgeModel" "ListForgeModel" "asked" "I") ∈ big := big_of (i := 625) (by decide +kernel) (by decide +kernel)
theorem mw_626 : (Cond.soleField "ListForgeModel" "asked") ∈ big := big_of (i := 626) (by decide +kernel) (by decide +kernel)
theorem mw_627 : (Cond.lays "ListForgeModel" "ListForgeModel" "posts" "I") ∈ big := big_of (i := 627) (by decide +kernel) (by decide +kernel)
theorem mw_628 : (Cond.soleField "ListForgeModel" "posts") ∈ big := big_of (i := 628) (by decide +kernel) (by decide +kernel)
theorem mw_629 : (Cond.lays "ListForgeModel" "ListForgeModel" "sentMany" "I") ∈ big := big_of (i := 629) (by decide +kernel) (by decide +kernel)
theorem mw_630 : (Cond.soleField "ListForgeModel" "sentMany") ∈ big := big_of (i := 630) (by decide +kernel) (by decide +kernel)
theorem mw_631 : (Cond.laysFinal "ListForgeModel" "ListForgeModel" "state" "[I") ∈ big := big_of (i := 631) (by decide +kernel) (by decide +kernel)
theorem mw_632 : (Cond.soleField "ListForgeModel" "state") ∈ big := big_of (i := 632) (by decide +kernel) (by decide +kernel)
theorem mw_633 : (Cond.laysFinal "ListForgeModel" "ListForgeModel" "way" "[I") ∈ big := big_of (i := 633) (by decide +kernel) (by decide +kernel)
theorem mw_634 : (Cond.soleField "ListForgeModel" "way") ∈ big := big_of (i := 634) (by decide +kernel) (by decide +kernel)
theorem mw_635 : (Cond.laysFinal "ListForgeModel" "ListForgeModel" "since" "[I") ∈ big := big_of (i := 635) (by decide +kernel) (by decide +kernel)
theorem mw_636 : (Cond.soleField "ListForgeModel" "since") ∈ big := big_of (i := 636) (by decide +kernel) (by decide +kernel)
theorem mw_637 : (Cond.laysFinal "ListForgeModel" "ListForgeModel" "code" "[I") ∈ big := big_of (i := 637) (by decide +kernel) (by decide +kernel)
theorem mw_638 : (Cond.soleField "ListForgeModel" "code") ∈ big := big_of (i := 638) (by decide +kernel) (by decide +kernel)
theorem mw_639 : (Cond.laysFinal "ListForgeModel" "ListForgeModel" "warning" "[I") ∈ big := big_of (i := 639) (by decide +kernel) (by decide +kernel)
theorem mw_640 : (Cond.soleField "ListForgeModel" "warning") ∈ big := big_of (i := 640) (by decide +kernel) (by decide +kernel)
theorem mw_641 : (Cond.laysFinal "ListForgeModel" "ListForgeModel" "bounced" "[I") ∈ big := big_of (i := 641) (by decide +kernel) (by decide +kernel)
theorem mw_642 : (Cond.soleField "ListForgeModel" "bounced") ∈ big := big_of (i := 642) (by decide +kernel) (by decide +kernel)
theorem mw_643 : (Cond.laysFinal "ListForgeModel" "ListForgeModel" "moderates" "[Z") ∈ big := big_of (i := 643) (by decide +kernel) (by decide +kernel)
theorem mw_644 : (Cond.soleField "ListForgeModel" "moderates") ∈ big := big_of (i := 644) (by decide +kernel) (by decide +kernel)
theorem mw_645 : (Cond.laysFinal "ListForgeModel" "ListForgeModel" "banned" "[Z") ∈ big := big_of (i := 645) (by decide +kernel) (by decide +kernel)
theorem mw_646 : (Cond.soleField "ListForgeModel" "banned") ∈ big := big_of (i := 646) (by decide +kernel) (by decide +kernel)
theorem mw_647 : (Cond.laysFinal "ListForgeModel" "ListForgeModel" "score" "[D") ∈ big := big_of (i := 647) (by decide +kernel) (by decide +kernel)
theorem mw_648 : (Cond.soleField "ListForgeModel" "score") ∈ big := big_of (i := 648) (by decide +kernel) (by decide +kernel)
theorem mw_649 : (Cond.laysFinal "ListForgeModel" "ListForgeModel" "open" "[Z") ∈ big := big_of (i := 649) (by decide +kernel) (by decide +kernel)
theorem mw_650 : (Cond.soleField "ListForgeModel" "open") ∈ big := big_of (i := 650) (by decide +kernel) (by decide +kernel)
theorem mw_651 : (Cond.laysFinal "ListForgeModel" "ListForgeModel" "watched" "[Z") ∈ big := big_of (i := 651) (by decide +kernel) (by decide +kernel)
theorem mw_652 : (Cond.soleField "ListForgeModel" "watched") ∈ big := big_of (i := 652) (by decide +kernel) (by decide +kernel)
theorem mw_653 : (Cond.laysFinal "ListForgeModel" "ListForgeModel" "barred" "[Z") ∈ big := big_of (i := 653) (by decide +kernel) (by decide +kernel)
theorem mw_654 : (Cond.soleField "ListForgeModel" "barred") ∈ big := big_of (i := 654) (by decide +kernel) (by decide +kernel)
theorem mw_655 : (Cond.laysFinal "ListForgeModel" "ListForgeModel" "greatest" "[I") ∈ big := big_of (i := 655) (by decide +kernel) (by decide +kernel)
theorem mw_656 : (Cond.soleField "ListForgeModel" "greatest") ∈ big := big_of (i := 656) (by decide +kernel) (by decide +kernel)
theorem mw_657 : (Cond.laysFinal "ListForgeModel" "ListForgeModel" "full" "[I") ∈ big := big_of (i := 657) (by decide +kernel) (by decide +kernel)
theorem mw_658 : (Cond.soleField "ListForgeModel" "full") ∈ big := big_of (i := 658) (by decide +kernel) (by decide +kernel)
theorem mw_659 : (Cond.laysFinal "ListForgeModel" "ListForgeModel" "best" "[D") ∈ big := big_of (i := 659) (by decide +kernel) (by decide +kernel)
theorem mw_660 : (Cond.soleField "ListForgeModel" "best") ∈ big := big_of (i := 660) (by decide +kernel) (by decide +kernel)
theorem mw_661 : (Cond.laysFinal "ListForgeModel" "ListForgeModel" "pList" "[I") ∈ big := big_of (i := 661) (by decide +kernel) (by decide +kernel)
theorem mw_662 : (Cond.soleField "ListForgeModel" "pList") ∈ big := big_of (i := 662) (by decide +kernel) (by decide +kernel)
theorem mw_663 : (Cond.laysFinal "ListForgeModel" "ListForgeModel" "pFrom" "[I") ∈ big := big_of (i := 663) (by decide +kernel) (by decide +kernel)
theorem mw_664 : (Cond.soleField "ListForgeModel" "pFrom") ∈ big := big_of (i := 664) (by decide +kernel) (by decide +kernel)
theorem mw_665 : (Cond.laysFinal "ListForgeModel" "ListForgeModel" "pSize" "[I") ∈ big := big_of (i := 665) (by decide +kernel) (by decide +kernel)
theorem mw_666 : (Cond.soleField "ListForgeModel" "pSize") ∈ big := big_of (i := 666) (by decide +kernel) (by decide +kernel)
theorem mw_667 : (Cond.laysFinal "ListForgeModel" "ListForgeModel" "pState" "[I") ∈ big := big_of (i := 667) (by decide +kernel) (by decide +kernel)
theorem mw_668 : (Cond.soleField "ListForgeModel" "pState") ∈ big := big_of (i := 668) (by decide +kernel) (by decide +kernel)
theorem mw_669 : (Cond.laysFinal "ListForgeModel" "ListForgeModel" "bundle" "[I") ∈ big := big_of (i := 669) (by decide +kernel) (by decide +kernel)
theorem mw_670 : (Cond.soleField "ListForgeModel" "bundle") ∈ big := big_of (i := 670) (by decide +kernel) (by decide +kernel)
theorem mw_671 : (Cond.laysFinal "ListForgeModel" "ListForgeModel" "bSize" "[I") ∈ big := big_of (i := 671) (by decide +kernel) (by decide +kernel)
theorem mw_672 : (Cond.soleField "ListForgeModel" "bSize") ∈ big := big_of (i := 672) (by decide +kernel) (by decide +kernel)
theorem mw_673 : (Cond.laysFinal "ListForgeModel" "ListForgeModel" "bDay" "[I") ∈ big := big_of (i := 673) (by decide +kernel) (by decide +kernel)
theorem mw_674 : (Cond.soleField "ListForgeModel" "bDay") ∈ big := big_of (i := 674) (by decide +kernel) (by decide +kernel)
theorem mw_675 : (Cond.laysFinal "ListForgeModel" "ListForgeModel" "outTo" "[I") ∈ big := big_of (i := 675) (by decide +kernel) (by decide +kernel)
theorem mw_676 : (Cond.soleField "ListForgeModel" "outTo") ∈ big := big_of (i := 676) (by decide +kernel) (by decide +kernel)
theorem mw_677 : (Cond.laysFinal "ListForgeModel" "ListForgeModel" "outList" "[I") ∈ big := big_of (i := 677) (by decide +kernel) (by decide +kernel)
theorem mw_678 : (Cond.soleField "ListForgeModel" "outList") ∈ big := big_of (i := 678) (by decide +kernel) (by decide +kernel)
theorem mw_679 : (Cond.laysFinal "ListForgeModel" "ListForgeModel" "outSort" "[I") ∈ big := big_of (i := 679) (by decide +kernel) (by decide +kernel)
theorem mw_680 : (Cond.soleField "ListForgeModel" "outSort") ∈ big := big_of (i := 680) (by decide +kernel) (by decide +kernel)
theorem mw_681 : (Cond.laysFinal "ListForgeModel" "ListForgeModel" "outNumber" "[I") ∈ big := big_of (i := 681) (by decide +kernel) (by decide +kernel)
theorem mw_682 : (Cond.soleField "ListForgeModel" "outNumber") ∈ big := big_of (i := 682) (by decide +kernel) (by decide +kernel)
theorem mw_683 : (Cond.superclass "ListForgeModel" "java/lang/Object") ∈ big := big_of (i := 683) (by decide +kernel) (by decide +kernel)
theorem mw_684 : (Cond.arrayClass FieldType.double) ∈ big := big_of (i := 684) (by decide +kernel) (by decide +kernel)
theorem mw_685 : (Cond.methodLink "ListForgeLaw" 85 ({ cls := "ListForgeModel", name := "thrown", desc := "()I" } : MethodName)) ∈ big := big_of (i := 685) (by decide +kernel) (by decide +kernel)
theorem mw_686 : (Cond.instanceMethod ({ cls := "ListForgeModel", name := "thrown", desc := "()I" } : MethodName)) ∈ big := big_of (i := 686) (by decide +kernel) (by decide +kernel)
theorem mw_687 : (Cond.selects "ListForgeModel" ({ cls := "ListForgeModel", name := "thrown", desc := "()I" } : MethodName) ({ cls := "ListForgeModel", name := "thrown", desc := "()I" } : MethodName)) ∈ big := big_of (i := 687) (by decide +kernel) (by decide +kernel)
theorem mw_688 : (Cond.code ({ cls := "ListForgeModel", name := "thrown", desc := "()I" } : MethodName) prog_7_method_2_code 1 (Option.some FieldType.int)) ∈ big := big_of (i := 688) (by decide +kernel) (by decide +kernel)
theorem mw_689 : (Cond.methodLink "ListForgeLaw" 84 ({ cls := "ListForgeModel", name := "ask", desc := "(III)I" } : MethodName)) ∈ big := big_of (i := 689) (by decide +kernel) (by decide +kernel)
theorem mw_690 : (Cond.instanceMethod ({ cls := "ListForgeModel", name := "ask", desc := "(III)I" } : MethodName)) ∈ big := big_of (i := 690) (by decide +kernel) (by decide +kernel)
theorem mw_691 : (Cond.selects "ListForgeModel" ({ cls := "ListForgeModel", name := "ask", desc := "(III)I" } : MethodName) ({ cls := "ListForgeModel", name := "ask", desc := "(III)I" } : MethodName)) ∈ big := big_of (i := 691) (by decide +kernel) (by decide +kernel)
theorem mw_692 : (Cond.code ({ cls := "ListForgeModel", name := "ask", desc := "(III)I" } : MethodName) prog_7_method_7_code 5 (Option.some FieldType.int)) ∈ big := big_of (i := 692) (by decide +kernel) (by decide +kernel)
theorem mw_693 : (Cond.methodLink "ListForgeModel" 103 ({ cls := "ListForgeModel", name := "isPlace", desc := "(II)Z" } : MethodName)) ∈ big := big_of (i := 693) (by decide +kernel) (by decide +kernel)
theorem mw_694 : (Cond.static ({ cls := "ListForgeModel", name := "isPlace", desc := "(II)Z" } : MethodName)) ∈ big := big_of (i := 694) (by decide +kernel) (by decide +kernel)
theorem mw_695 : (Cond.code ({ cls := "ListForgeModel", name := "isPlace", desc := "(II)Z" } : MethodName) prog_7_method_4_code 2 (Option.some FieldType.boolean)) ∈ big := big_of (i := 695) (by decide +kernel) (by decide +kernel)
theorem mw_696 : (Cond.methodLink "ListForgeModel" 96 ({ cls := "ListForgeModel", name := "in", desc := "(III)Z" } : MethodName)) ∈ big := big_of (i := 696) (by decide +kernel) (by decide +kernel)
theorem mw_697 : (Cond.static ({ cls := "ListForgeModel", name := "in", desc := "(III)Z" } : MethodName)) ∈ big := big_of (i := 697) (by decide +kernel) (by decide +kernel)
theorem mw_698 : (Cond.code ({ cls := "ListForgeModel", name := "in", desc := "(III)Z" } : MethodName) prog_7_method_3_code 3 (Option.some FieldType.boolean)) ∈ big := big_of (i := 698) (by decide +kernel) (by decide +kernel)
theorem mw_699 : (Cond.methodLink "ListForgeModel" 107 ({ cls := "ListForgeModel", name := "refuse", desc := "(I)I" } : MethodName)) ∈ big := big_of (i := 699) (by decide +kernel) (by decide +kernel)
theorem mw_701 : (Cond.instanceMethod ({ cls := "ListForgeModel", name := "refuse", desc := "(I)I" } : MethodName)) ∈ big := big_of (i := 701) (by decide +kernel) (by decide +kernel)
theorem mw_702 : (Cond.code ({ cls := "ListForgeModel", name := "refuse", desc := "(I)I" } : MethodName) prog_7_method_5_code 2 (Option.some FieldType.int)) ∈ big := big_of (i := 702) (by decide +kernel) (by decide +kernel)
theorem mw_703 : (Cond.methodLink "ListForgeModel" 117 ({ cls := "ListForgeModel", name := "send", desc := "(IIII)V" } : MethodName)) ∈ big := big_of (i := 703) (by decide +kernel) (by decide +kernel)
theorem mw_705 : (Cond.instanceMethod ({ cls := "ListForgeModel", name := "send", desc := "(IIII)V" } : MethodName)) ∈ big := big_of (i := 705) (by decide +kernel) (by decide +kernel)
theorem mw_706 : (Cond.code ({ cls := "ListForgeModel", name := "send", desc := "(IIII)V" } : MethodName) prog_7_method_6_code 5 (Option.none : Option FieldType)) ∈ big := big_of (i := 706) (by decide +kernel) (by decide +kernel)
theorem mw_707 : (Cond.methodLink "ListForgeLaw" 92 ({ cls := "ListForgeModel", name := "confirm", desc := "(I)I" } : MethodName)) ∈ big := big_of (i := 707) (by decide +kernel) (by decide +kernel)
theorem mw_708 : (Cond.instanceMethod ({ cls := "ListForgeModel", name := "confirm", desc := "(I)I" } : MethodName)) ∈ big := big_of (i := 708) (by decide +kernel) (by decide +kernel)
theorem mw_709 : (Cond.selects "ListForgeModel" ({ cls := "ListForgeModel", name := "confirm", desc := "(I)I" } : MethodName) ({ cls := "ListForgeModel", name := "confirm", desc := "(I)I" } : MethodName)) ∈ big := big_of (i := 709) (by decide +kernel) (by decide +kernel)
theorem mw_710 : (Cond.code ({ cls := "ListForgeModel", name := "confirm", desc := "(I)I" } : MethodName) prog_7_method_8_code 3 (Option.some FieldType.int)) ∈ big := big_of (i := 710) (by decide +kernel) (by decide +kernel)
theorem mw_711 : (Cond.methodLink "ListForgeLaw" 96 ({ cls := "ListForgeModel", name := "leave", desc := "(II)I" } : MethodName)) ∈ big := big_of (i := 711) (by decide +kernel) (by decide +kernel)
theorem mw_712 : (Cond.instanceMethod ({ cls := "ListForgeModel", name := "leave", desc := "(II)I" } : MethodName)) ∈ big := big_of (i := 712) (by decide +kernel) (by decide +kernel)
theorem mw_713 : (Cond.selects "ListForgeModel" ({ cls := "ListForgeModel", name := "leave", desc := "(II)I" } : MethodName) ({ cls := "ListForgeModel", name := "leave", desc := "(II)I" } : MethodName)) ∈ big := big_of (i := 713) (by decide +kernel) (by decide +kernel)
theorem mw_714 : (Cond.code ({ cls := "ListForgeModel", name := "leave", desc := "(II)I" } : MethodName) prog_7_method_9_code 5 (Option.some FieldType.int)) ∈ big := big_of (i := 714) (by decide +kernel) (by decide +kernel)
theorem mw_715 : (Cond.methodLink "ListForgeLaw" 99 ({ cls := "ListForgeModel", name := "way", desc := "(III)I" } : MethodName)) ∈ big := big_of (i := 715) (by decide +kernel) (by decide +kernel)
theorem mw_716 : (Cond.instanceMethod ({ cls := "ListForgeModel", name := "way", desc := "(III)I" } : MethodName)) ∈ big := big_of (i := 716) (by decide +kernel) (by decide +kernel)
theorem mw_717 : (Cond.selects "ListForgeModel" ({ cls := "ListForgeModel", name := "way", desc := "(III)I" } : MethodName) ({ cls := "ListForgeModel", name := "way", desc := "(III)I" } : MethodName)) ∈ big := big_of (i := 717) (by decide +kernel) (by decide +kernel)
theorem mw_718 : (Cond.code ({ cls := "ListForgeModel", name := "way", desc := "(III)I" } : MethodName) prog_7_method_10_code 6 (Option.some FieldType.int)) ∈ big := big_of (i := 718) (by decide +kernel) (by decide +kernel)
theorem mw_719 : (Cond.methodLink "ListForgeLaw" 103 ({ cls := "ListForgeModel", name := "moderator", desc := "(IIZ)Z" } : MethodName)) ∈ big := big_of (i := 719) (by decide +kernel) (by decide +kernel)
theorem mw_720 : (Cond.instanceMethod ({ cls := "ListForgeModel", name := "moderator", desc := "(IIZ)Z" } : MethodName)) ∈ big := big_of (i := 720) (by decide +kernel) (by decide +kernel)
theorem mw_721 : (Cond.selects "ListForgeModel" ({ cls := "ListForgeModel", name := "moderator", desc := "(IIZ)Z" } : MethodName) ({ cls := "ListForgeModel", name := "moderator", desc := "(IIZ)Z" } : MethodName)) ∈ big := big_of (i := 721) (by decide +kernel) (by decide +kernel)
theorem mw_722 : (Cond.code ({ cls := "ListForgeModel", name := "moderator", desc := "(IIZ)Z" } : MethodName) prog_7_method_11_code 6 (Option.some FieldType.boolean)) ∈ big := big_of (i := 722) (by decide +kernel) (by decide +kernel)
theorem mw_723 : (Cond.methodLink "ListForgeLaw" 106 ({ cls := "ListForgeModel", name := "ban", desc := "(IIZ)Z" } : MethodName)) ∈ big := big_of (i := 723) (by decide +kernel) (by decide +kernel)
theorem mw_724 : (Cond.instanceMethod ({ cls := "ListForgeModel", name := "ban", desc := "(IIZ)Z" } : MethodName)) ∈ big := big_of (i := 724) (by decide +kernel) (by decide +kernel)
theorem mw_725 : (Cond.selects "ListForgeModel" ({ cls := "ListForgeModel", name := "ban", desc := "(IIZ)Z" } : MethodName) ({ cls := "ListForgeModel", name := "ban", desc := "(IIZ)Z" } : MethodName)) ∈ big := big_of (i := 725) (by decide +kernel) (by decide +kernel)
theorem mw_726 : (Cond.code ({ cls := "ListForgeModel", name := "ban", desc := "(IIZ)Z" } : MethodName) prog_7_method_12_code 6 (Option.some FieldType.boolean)) ∈ big := big_of (i := 726) (by decide +kernel) (by decide +kernel)
theorem mw_727 : (Cond.methodLink "ListForgeLaw" 112 ({ cls := "ListForgeModel", name := "setting", desc := "(IID)D" } : MethodName)) ∈ big := big_of (i := 727) (by decide +kernel) (by decide +kernel)
theorem mw_728 : (Cond.instanceMethod ({ cls := "ListForgeModel", name := "setting", desc := "(IID)D" } : MethodName)) ∈ big := big_of (i := 728) (by decide +kernel) (by decide +kernel)
theorem mw_729 : (Cond.selects "ListForgeModel" ({ cls := "ListForgeModel", name := "setting", desc := "(IID)D" } : MethodName) ({ cls := "ListForgeModel", name := "setting", desc := "(IID)D" } : MethodName)) ∈ big := big_of (i := 729) (by decide +kernel) (by decide +kernel)
theorem mw_730 : (Cond.code ({ cls := "ListForgeModel", name := "setting", desc := "(IID)D" } : MethodName) prog_7_method_13_code 9 (Option.some FieldType.double)) ∈ big := big_of (i := 730) (by decide +kernel) (by decide +kernel)
theorem mw_731 : (Cond.constantDouble "ListForgeModel" 121 (4602678819172646912 : UInt64)) ∈ big := big_of (i := 731) (by decide +kernel) (by decide +kernel)
theorem mw_732 : (Cond.constantDouble "ListForgeModel" 123 (4621819117588971520 : UInt64)) ∈ big := big_of (i := 732) (by decide +kernel) (by decide +kernel)
theorem mw_733 : (Cond.methodLink "ListForgeLaw" 116 ({ cls := "ListForgeModel", name := "post", desc := "(IIII)I" } : MethodName)) ∈ big := big_of (i := 733) (by decide +kernel) (by decide +kernel)
theorem mw_734 : (Cond.instanceMethod ({ cls := "ListForgeModel", name := "post", desc := "(IIII)I" } : MethodName)) ∈ big := big_of (i := 734) (by decide +kernel) (by decide +kernel)
theorem mw_735 : (Cond.selects "ListForgeModel" ({ cls := "ListForgeModel", name := "post", desc := "(IIII)I" } : MethodName) ({ cls := "ListForgeModel", name := "post", desc := "(IIII)I" } : MethodName)) ∈ big := big_of (i := 735) (by decide +kernel) (by decide +kernel)
theorem mw_736 : (Cond.code ({ cls := "ListForgeModel", name := "post", desc := "(IIII)I" } : MethodName) prog_7_method_14_code 10 (Option.some FieldType.int)) ∈ big := big_of (i := 736) (by decide +kernel) (by decide +kernel)
theorem mw_737 : (Cond.methodLink "ListForgeModel" 128 ({ cls := "ListForgeModel", name := "pass", desc := "(I)V" } : MethodName)) ∈ big := big_of (i := 737) (by decide +kernel) (by decide +kernel)
theorem mw_739 : (Cond.instanceMethod ({ cls := "ListForgeModel", name := "pass", desc := "(I)V" } : MethodName)) ∈ big := big_of (i := 739) (by decide +kernel) (by decide +kernel)
theorem mw_740 : (Cond.code ({ cls := "ListForgeModel", name := "pass", desc := "(I)V" } : MethodName) prog_7_method_16_code 6 (Option.none : Option FieldType)) ∈ big := big_of (i := 740) (by decide +kernel) (by decide +kernel)
theorem mw_741 : (Cond.methodLink "ListForgeModel" 132 ({ cls := "ListForgeModel", name := "isLive", desc := "(III)Z" } : MethodName)) ∈ big := big_of (i := 741) (by decide +kernel) (by decide +kernel)
theorem mw_743 : (Cond.instanceMethod ({ cls := "ListForgeModel", name := "isLive", desc := "(III)Z" } : MethodName)) ∈ big := big_of (i := 743) (by decide +kernel) (by decide +kernel)
theorem mw_744 : (Cond.code ({ cls := "ListForgeModel", name := "isLive", desc := "(III)Z" } : MethodName) prog_7_method_15_code 5 (Option.some FieldType.boolean)) ∈ big := big_of (i := 744) (by decide +kernel) (by decide +kernel)
theorem mw_745 : (Cond.methodLink "ListForgeModel" 135 ({ cls := "ListForgeModel", name := "digest", desc := "(I)V" } : MethodName)) ∈ big := big_of (i := 745) (by decide +kernel) (by decide +kernel)
theorem mw_747 : (Cond.instanceMethod ({ cls := "ListForgeModel", name := "digest", desc := "(I)V" } : MethodName)) ∈ big := big_of (i := 747) (by decide +kernel) (by decide +kernel)
theorem mw_748 : (Cond.code ({ cls := "ListForgeModel", name := "digest", desc := "(I)V" } : MethodName) prog_7_method_17_code 3 (Option.none : Option FieldType)) ∈ big := big_of (i := 748) (by decide +kernel) (by decide +kernel)
theorem mw_749 : (Cond.methodLink "ListForgeLaw" 119 ({ cls := "ListForgeModel", name := "judge", desc := "(III)I" } : MethodName)) ∈ big := big_of (i := 749) (by decide +kernel) (by decide +kernel)
theorem mw_750 : (Cond.instanceMethod ({ cls := "ListForgeModel", name := "judge", desc := "(III)I" } : MethodName)) ∈ big := big_of (i := 750) (by decide +kernel) (by decide +kernel)
theorem mw_751 : (Cond.selects "ListForgeModel" ({ cls := "ListForgeModel", name := "judge", desc := "(III)I" } : MethodName) ({ cls := "ListForgeModel", name := "judge", desc := "(III)I" } : MethodName)) ∈ big := big_of (i := 751) (by decide +kernel) (by decide +kernel)
theorem mw_752 : (Cond.code ({ cls := "ListForgeModel", name := "judge", desc := "(III)I" } : MethodName) prog_7_method_19_code 5 (Option.some FieldType.int)) ∈ big := big_of (i := 752) (by decide +kernel) (by decide +kernel)
theorem mw_753 : (Cond.methodLink "ListForgeModel" 138 ({ cls := "ListForgeModel", name := "waiting", desc := "(I)I" } : MethodName)) ∈ big := big_of (i := 753) (by decide +kernel) (by decide +kernel)
theorem mw_755 : (Cond.instanceMethod ({ cls := "ListForgeModel", name := "waiting", desc := "(I)I" } : MethodName)) ∈ big := big_of (i := 755) (by decide +kernel) (by decide +kernel)
theorem mw_756 : (Cond.code ({ cls := "ListForgeModel", name := "waiting", desc := "(I)I" } : MethodName) prog_7_method_18_code 4 (Option.some FieldType.int)) ∈ big := big_of (i := 756) (by decide +kernel) (by decide +kernel)
theorem mw_757 : (Cond.methodLink "ListForgeLaw" 123 ({ cls := "ListForgeModel", name := "bounce", desc := "(IIZ)D" } : MethodName)) ∈ big := big_of (i := 757) (by decide +kernel) (by decide +kernel)
theorem mw_758 : (Cond.instanceMethod ({ cls := "ListForgeModel", name := "bounce", desc := "(IIZ)D" } : MethodName)) ∈ big := big_of (i := 758) (by decide +kernel) (by decide +kernel)
theorem mw_759 : (Cond.selects "ListForgeModel" ({ cls := "ListForgeModel", name := "bounce", desc := "(IIZ)D" } : MethodName) ({ cls := "ListForgeModel", name := "bounce", desc := "(IIZ)D" } : MethodName)) ∈ big := big_of (i := 759) (by decide +kernel) (by decide +kernel)
theorem mw_760 : (Cond.code ({ cls := "ListForgeModel", name := "bounce", desc := "(IIZ)D" } : MethodName) prog_7_method_20_code 5 (Option.some FieldType.double)) ∈ big := big_of (i := 760) (by decide +kernel) (by decide +kernel)
theorem mw_761 : (Cond.methodLink "ListForgeLaw" 126 ({ cls := "ListForgeModel", name := "renew", desc := "(II)I" } : MethodName)) ∈ big := big_of (i := 761) (by decide +kernel) (by decide +kernel)
theorem mw_762 : (Cond.instanceMethod ({ cls := "ListForgeModel", name := "renew", desc := "(II)I" } : MethodName)) ∈ big := big_of (i := 762) (by decide +kernel) (by decide +kernel)
theorem mw_763 : (Cond.selects "ListForgeModel" ({ cls := "ListForgeModel", name := "renew", desc := "(II)I" } : MethodName) ({ cls := "ListForgeModel", name := "renew", desc := "(II)I" } : MethodName)) ∈ big := big_of (i := 763) (by decide +kernel) (by decide +kernel)
theorem mw_764 : (Cond.code ({ cls := "ListForgeModel", name := "renew", desc := "(II)I" } : MethodName) prog_7_method_21_code 4 (Option.some FieldType.int)) ∈ big := big_of (i := 764) (by decide +kernel) (by decide +kernel)
theorem mw_765 : (Cond.methodLink "ListForgeLaw" 129 ({ cls := "ListForgeModel", name := "tick", desc := "(I)I" } : MethodName)) ∈ big := big_of (i := 765) (by decide +kernel) (by decide +kernel)
theorem mw_766 : (Cond.instanceMethod ({ cls := "ListForgeModel", name := "tick", desc := "(I)I" } : MethodName)) ∈ big := big_of (i := 766) (by decide +kernel) (by decide +kernel)
theorem mw_767 : (Cond.selects "ListForgeModel" ({ cls := "ListForgeModel", name := "tick", desc := "(I)I" } : MethodName) ({ cls := "ListForgeModel", name := "tick", desc := "(I)I" } : MethodName)) ∈ big := big_of (i := 767) (by decide +kernel) (by decide +kernel)
theorem mw_768 : (Cond.code ({ cls := "ListForgeModel", name := "tick", desc := "(I)I" } : MethodName) prog_7_method_23_code 5 (Option.some FieldType.int)) ∈ big := big_of (i := 768) (by decide +kernel) (by decide +kernel)
theorem mw_769 : (Cond.methodLink "ListForgeModel" 145 ({ cls := "ListForgeModel", name := "day", desc := "(II)V" } : MethodName)) ∈ big := big_of (i := 769) (by decide +kernel) (by decide +kernel)
theorem mw_771 : (Cond.instanceMethod ({ cls := "ListForgeModel", name := "day", desc := "(II)V" } : MethodName)) ∈ big := big_of (i := 771) (by decide +kernel) (by decide +kernel)
theorem mw_772 : (Cond.code ({ cls := "ListForgeModel", name := "day", desc := "(II)V" } : MethodName) prog_7_method_22_code 4 (Option.none : Option FieldType)) ∈ big := big_of (i := 772) (by decide +kernel) (by decide +kernel)
theorem mw_773 : (Cond.constantDouble "ListForgeModel" 141 (4606056518893174784 : UInt64)) ∈ big := big_of (i := 773) (by decide +kernel) (by decide +kernel)
theorem mw_774 : (Cond.constantDouble "ListForgeModel" 143 (4598175219545276416 : UInt64)) ∈ big := big_of (i := 774) (by decide +kernel) (by decide +kernel)
theorem mw_775 : (Cond.methodLink "ListForgeLaw" 132 ({ cls := "ListForgeModel", name := "told", desc := "(III)I" } : MethodName)) ∈ big := big_of (i := 775) (by decide +kernel) (by decide +kernel)
theorem mw_776 : (Cond.instanceMethod ({ cls := "ListForgeModel", name := "told", desc := "(III)I" } : MethodName)) ∈ big := big_of (i := 776) (by decide +kernel) (by decide +kernel)
theorem mw_777 : (Cond.selects "ListForgeModel" ({ cls := "ListForgeModel", name := "told", desc := "(III)I" } : MethodName) ({ cls := "ListForgeModel", name := "told", desc := "(III)I" } : MethodName)) ∈ big := big_of (i := 777) (by decide +kernel) (by decide +kernel)
theorem mw_778 : (Cond.code ({ cls := "ListForgeModel", name := "told", desc := "(III)I" } : MethodName) prog_7_method_24_code 5 (Option.some FieldType.int)) ∈ big := big_of (i := 778) (by decide +kernel) (by decide +kernel)
theorem mw_779 : (Cond.methodLink "ListForgeLaw" 136 ({ cls := "ListForgeModel", name := "score", desc := "(II)D" } : MethodName)) ∈ big := big_of (i := 779) (by decide +kernel) (by decide +kernel)
theorem mw_780 : (Cond.instanceMethod ({ cls := "ListForgeModel", name := "score", desc := "(II)D" } : MethodName)) ∈ big := big_of (i := 780) (by decide +kernel) (by decide +kernel)
theorem mw_781 : (Cond.selects "ListForgeModel" ({ cls := "ListForgeModel", name := "score", desc := "(II)D" } : MethodName) ({ cls := "ListForgeModel", name := "score", desc := "(II)D" } : MethodName)) ∈ big := big_of (i := 781) (by decide +kernel) (by decide +kernel)
theorem mw_782 : (Cond.code ({ cls := "ListForgeModel", name := "score", desc := "(II)D" } : MethodName) prog_7_method_25_code 4 (Option.some FieldType.double)) ∈ big := big_of (i := 782) (by decide +kernel) (by decide +kernel)
theorem mw_783 : (Cond.methodLink "ListForgeLaw" 139 ({ cls := "ListForgeModel", name := "sent", desc := "(II)I" } : MethodName)) ∈ big := big_of (i := 783) (by decide +kernel) (by decide +kernel)
theorem mw_784 : (Cond.instanceMethod ({ cls := "ListForgeModel", name := "sent", desc := "(II)I" } : MethodName)) ∈ big := big_of (i := 784) (by decide +kernel) (by decide +kernel)
theorem mw_785 : (Cond.selects "ListForgeModel" ({ cls := "ListForgeModel", name := "sent", desc := "(II)I" } : MethodName) ({ cls := "ListForgeModel", name := "sent", desc := "(II)I" } : MethodName)) ∈ big := big_of (i := 785) (by decide +kernel) (by decide +kernel)
theorem mw_786 : (Cond.code ({ cls := "ListForgeModel", name := "sent", desc := "(II)I" } : MethodName) prog_7_method_26_code 3 (Option.some FieldType.int)) ∈ big := big_of (i := 786) (by decide +kernel) (by decide +kernel)
theorem mw_787 : (Cond.methodLink "ListForgeLaw" 142 ({ cls := "ListForgeModel", name := "count", desc := "(I)I" } : MethodName)) ∈ big := big_of (i := 787) (by decide +kernel) (by decide +kernel)
theorem mw_788 : (Cond.instanceMethod ({ cls := "ListForgeModel", name := "count", desc := "(I)I" } : MethodName)) ∈ big := big_of (i := 788) (by decide +kernel) (by decide +kernel)
theorem mw_789 : (Cond.selects "ListForgeModel" ({ cls := "ListForgeModel", name := "count", desc := "(I)I" } : MethodName) ({ cls := "ListForgeModel", name := "count", desc := "(I)I" } : MethodName)) ∈ big := big_of (i := 789) (by decide +kernel) (by decide +kernel)
theorem mw_790 : (Cond.code ({ cls := "ListForgeModel", name := "count", desc := "(I)I" } : MethodName) prog_7_method_27_code 5 (Option.some FieldType.int)) ∈ big := big_of (i := 790) (by decide +kernel) (by decide +kernel)
theorem mw_791 : (Cond.constantDouble "ListForgeLaw" 107 (4593671619917905920 : UInt64)) ∈ big := big_of (i := 791) (by decide +kernel) (by decide +kernel)
theorem mw_792 : (Cond.arrayClass FieldType.long) ∈ big := big_of (i := 792) (by decide +kernel) (by decide +kernel)
theorem mw_793 : (Cond.sameMethod "java/lang/Throwable" "java/lang/Throwable" "fillInStackTrace" "(I)Ljava/lang/Throwable;") ∈ big := big_of (i := 793) (by decide +kernel) (by decide +kernel)
end
section
theorem d_F_init_0 : decode b_F_init 0 = .ok (.aload_n 0, 1) := by decide +kernel
theorem d_F_init_1 : decode b_F_init 1 = .ok (.invokespecial 1, 3) := by decide +kernel
theorem d_F_init_4 : decode b_F_init 4 = .ok (.aload_n 0, 1) := by decide +kernel
theorem d_F_init_5 : decode b_F_init 5 = .ok (.iconst 3, 1) := by decide +kernel
theorem d_F_init_6 : decode b_F_init 6 = .ok (.anewarray 9, 3) := by decide +kernel
theorem d_F_init_9 : decode b_F_init 9 = .ok (.putfield 11, 3) := by decide +kernel
theorem d_F_init_12 : decode b_F_init 12 = .ok (.iconst 0, 1) := by decide +kernel
theorem d_F_init_13 : decode b_F_init 13 = .ok (.istore_n 1, 1) := by decide +kernel
theorem d_F_init_14 : decode b_F_init 14 = .ok (.iload_n 1, 1) := by decide +kernel
theorem d_F_init_15 : decode b_F_init 15 = .ok (.iconst 3, 1) := by decide +kernel
theorem d_F_init_16 : decode b_F_init 16 = .ok (.if_icmp .ge 23, 3) := by decide +kernel
theorem d_F_init_19 : decode b_F_init 19 = .ok (.aload_n 0, 1) := by decide +kernel
theorem d_F_init_20 : decode b_F_init 20 = .ok (.getfield 11, 3) := by decide +kernel
theorem d_F_init_23 : decode b_F_init 23 = .ok (.iload_n 1, 1) := by decide +kernel
theorem d_F_init_24 : decode b_F_init 24 = .ok (.new 9, 3) := by decide +kernel
theorem d_F_init_27 : decode b_F_init 27 = .ok (.dup, 1) := by decide +kernel
theorem d_F_init_28 : decode b_F_init 28 = .ok (.iload_n 1, 1) := by decide +kernel
theorem d_F_init_29 : decode b_F_init 29 = .ok (.invokespecial 15, 3) := by decide +kernel
theorem d_F_init_32 : decode b_F_init 32 = .ok (.aastore, 1) := by decide +kernel
theorem d_F_init_33 : decode b_F_init 33 = .ok (.iinc 1 1, 3) := by decide +kernel
theorem d_F_init_36 : decode b_F_init 36 = .ok (.goto (-22), 3) := by decide +kernel
theorem d_F_init_39 : decode b_F_init 39 = .ok (.aload_n 0, 1) := by decide +kernel
theorem d_F_init_40 : decode b_F_init 40 = .ok (.bipush 40, 2) := by decide +kernel
theorem d_F_init_42 : decode b_F_init 42 = .ok (.anewarray 18, 3) := by decide +kernel
theorem d_F_init_45 : decode b_F_init 45 = .ok (.putfield 20, 3) := by decide +kernel
theorem d_F_init_48 : decode b_F_init 48 = .ok (.iconst 0, 1) := by decide +kernel
theorem d_F_init_49 : decode b_F_init 49 = .ok (.istore_n 1, 1) := by decide +kernel
theorem d_F_init_50 : decode b_F_init 50 = .ok (.iload_n 1, 1) := by decide +kernel
theorem d_F_init_51 : decode b_F_init 51 = .ok (.bipush 40, 2) := by decide +kernel
theorem d_F_init_53 : decode b_F_init 53 = .ok (.if_icmp .ge 22, 3) := by decide +kernel
theorem d_F_init_56 : decode b_F_init 56 = .ok (.aload_n 0, 1) := by decide +kernel
theorem d_F_init_57 : decode b_F_init 57 = .ok (.getfield 20, 3) := by decide +kernel
theorem d_F_init_60 : decode b_F_init 60 = .ok (.iload_n 1, 1) := by decide +kernel
theorem d_F_init_61 : decode b_F_init 61 = .ok (.new 18, 3) := by decide +kernel
theorem d_F_init_64 : decode b_F_init 64 = .ok (.dup, 1) := by decide +kernel
theorem d_F_init_65 : decode b_F_init 65 = .ok (.invokespecial 24, 3) := by decide +kernel
theorem d_F_init_68 : decode b_F_init 68 = .ok (.aastore, 1) := by decide +kernel
theorem d_F_init_69 : decode b_F_init 69 = .ok (.iinc 1 1, 3) := by decide +kernel
theorem d_F_init_72 : decode b_F_init 72 = .ok (.goto (-22), 3) := by decide +kernel
theorem d_F_init_75 : decode b_F_init 75 = .ok (.aload_n 0, 1) := by decide +kernel
theorem d_F_init_76 : decode b_F_init 76 = .ok (.new 25, 3) := by decide +kernel
theorem d_F_init_79 : decode b_F_init 79 = .ok (.dup, 1) := by decide +kernel
theorem d_F_init_80 : decode b_F_init 80 = .ok (.invokespecial 27, 3) := by decide +kernel
theorem d_F_init_83 : decode b_F_init 83 = .ok (.putfield 28, 3) := by decide +kernel
theorem d_F_init_86 : decode b_F_init 86 = .ok (.return_, 1) := by decide +kernel
theorem d_F_ask_0 : decode b_F_ask 0 = .ok (.iload_n 1, 1) := by decide +kernel
theorem d_F_ask_1 : decode b_F_ask 1 = .ok (.iload_n 2, 1) := by decide +kernel
theorem d_F_ask_2 : decode b_F_ask 2 = .ok (.invokestatic 32, 3) := by decide +kernel
theorem d_F_ask_5 : decode b_F_ask 5 = .ok (.iload_n 3, 1) := by decide +kernel
theorem d_F_ask_6 : decode b_F_ask 6 = .ok (.iconst 0, 1) := by decide +kernel
theorem d_F_ask_7 : decode b_F_ask 7 = .ok (.iconst 2, 1) := by decide +kernel
theorem d_F_ask_8 : decode b_F_ask 8 = .ok (.invokestatic 36, 3) := by decide +kernel
theorem d_F_ask_11 : decode b_F_ask 11 = .ok (.invokestatic 40, 3) := by decide +kernel
theorem d_F_ask_14 : decode b_F_ask 14 = .ok (.aload_n 0, 1) := by decide +kernel
theorem d_F_ask_15 : decode b_F_ask 15 = .ok (.getfield 11, 3) := by decide +kernel
theorem d_F_ask_18 : decode b_F_ask 18 = .ok (.iload_n 1, 1) := by decide +kernel
theorem d_F_ask_19 : decode b_F_ask 19 = .ok (.aaload, 1) := by decide +kernel
theorem d_F_ask_20 : decode b_F_ask 20 = .ok (.astore 4, 2) := by decide +kernel
theorem d_F_ask_22 : decode b_F_ask 22 = .ok (.aload 4, 2) := by decide +kernel
theorem d_F_ask_24 : decode b_F_ask 24 = .ok (.getfield 44, 3) := by decide +kernel
theorem d_F_ask_27 : decode b_F_ask 27 = .ok (.iload_n 2, 1) := by decide +kernel
theorem d_F_ask_28 : decode b_F_ask 28 = .ok (.aaload, 1) := by decide +kernel
theorem d_F_ask_29 : decode b_F_ask 29 = .ok (.astore 5, 2) := by decide +kernel
theorem d_F_ask_31 : decode b_F_ask 31 = .ok (.aload 5, 2) := by decide +kernel
theorem d_F_ask_33 : decode b_F_ask 33 = .ok (.getfield 48, 3) := by decide +kernel
theorem d_F_ask_36 : decode b_F_ask 36 = .ok (.iconst (-1), 1) := by decide +kernel
theorem d_F_ask_37 : decode b_F_ask 37 = .ok (.if_icmp .eq 13, 3) := by decide +kernel
theorem d_F_ask_40 : decode b_F_ask 40 = .ok (.new 54, 3) := by decide +kernel
theorem d_F_ask_43 : decode b_F_ask 43 = .ok (.dup, 1) := by decide +kernel
theorem d_F_ask_44 : decode b_F_ask 44 = .ok (.ldc 56, 2) := by decide +kernel
theorem d_F_ask_46 : decode b_F_ask 46 = .ok (.invokespecial 58, 3) := by decide +kernel
theorem d_F_ask_49 : decode b_F_ask 49 = .ok (.athrow, 1) := by decide +kernel
theorem d_F_ask_50 : decode b_F_ask 50 = .ok (.aload 4, 2) := by decide +kernel
theorem d_F_ask_52 : decode b_F_ask 52 = .ok (.getfield 61, 3) := by decide +kernel
theorem d_F_ask_55 : decode b_F_ask 55 = .ok (.iload_n 2, 1) := by decide +kernel
theorem d_F_ask_56 : decode b_F_ask 56 = .ok (.baload, 1) := by decide +kernel
theorem d_F_ask_57 : decode b_F_ask 57 = .ok (.ifCond .eq 13, 3) := by decide +kernel
theorem d_F_ask_60 : decode b_F_ask 60 = .ok (.new 65, 3) := by decide +kernel
theorem d_F_ask_63 : decode b_F_ask 63 = .ok (.dup, 1) := by decide +kernel
theorem d_F_ask_64 : decode b_F_ask 64 = .ok (.ldc 67, 2) := by decide +kernel
theorem d_F_ask_66 : decode b_F_ask 66 = .ok (.invokespecial 69, 3) := by decide +kernel
theorem d_F_ask_69 : decode b_F_ask 69 = .ok (.athrow, 1) := by decide +kernel
theorem d_F_ask_70 : decode b_F_ask 70 = .ok (.sipush 1000, 3) := by decide +kernel
theorem d_F_ask_73 : decode b_F_ask 73 = .ok (.aload_n 0, 1) := by decide +kernel
theorem d_F_ask_74 : decode b_F_ask 74 = .ok (.getfield 70, 3) := by decide +kernel
theorem d_F_ask_77 : decode b_F_ask 77 = .ok (.imul, 1) := by decide +kernel
theorem d_F_ask_78 : decode b_F_ask 78 = .ok (.bipush 100, 2) := by decide +kernel
theorem d_F_ask_80 : decode b_F_ask 80 = .ok (.iload_n 1, 1) := by decide +kernel
theorem d_F_ask_81 : decode b_F_ask 81 = .ok (.imul, 1) := by decide +kernel
theorem d_F_ask_82 : decode b_F_ask 82 = .ok (.iadd, 1) := by decide +kernel
theorem d_F_ask_83 : decode b_F_ask 83 = .ok (.iload_n 2, 1) := by decide +kernel
theorem d_F_ask_84 : decode b_F_ask 84 = .ok (.iadd, 1) := by decide +kernel
theorem d_F_ask_85 : decode b_F_ask 85 = .ok (.istore 6, 2) := by decide +kernel
theorem d_F_ask_87 : decode b_F_ask 87 = .ok (.aload_n 0, 1) := by decide +kernel
theorem d_F_ask_88 : decode b_F_ask 88 = .ok (.dup, 1) := by decide +kernel
theorem d_F_ask_89 : decode b_F_ask 89 = .ok (.getfield 70, 3) := by decide +kernel
theorem d_F_ask_92 : decode b_F_ask 92 = .ok (.iconst 1, 1) := by decide +kernel
theorem d_F_ask_93 : decode b_F_ask 93 = .ok (.iadd, 1) := by decide +kernel
theorem d_F_ask_94 : decode b_F_ask 94 = .ok (.putfield 70, 3) := by decide +kernel
theorem d_F_ask_97 : decode b_F_ask 97 = .ok (.aload 5, 2) := by decide +kernel
theorem d_F_ask_99 : decode b_F_ask 99 = .ok (.iload_n 3, 1) := by decide +kernel
theorem d_F_ask_100 : decode b_F_ask 100 = .ok (.iload 6, 2) := by decide +kernel
theorem d_F_ask_102 : decode b_F_ask 102 = .ok (.aload_n 0, 1) := by decide +kernel
theorem d_F_ask_103 : decode b_F_ask 103 = .ok (.getfield 73, 3) := by decide +kernel
theorem d_F_ask_106 : decode b_F_ask 106 = .ok (.invokevirtual 76, 3) := by decide +kernel
theorem d_F_ask_109 : decode b_F_ask 109 = .ok (.aload_n 0, 1) := by decide +kernel
theorem d_F_ask_110 : decode b_F_ask 110 = .ok (.getfield 28, 3) := by decide +kernel
theorem d_F_ask_113 : decode b_F_ask 113 = .ok (.iload_n 2, 1) := by decide +kernel
theorem d_F_ask_114 : decode b_F_ask 114 = .ok (.iload_n 1, 1) := by decide +kernel
theorem d_F_ask_115 : decode b_F_ask 115 = .ok (.iconst 2, 1) := by decide +kernel
theorem d_F_ask_116 : decode b_F_ask 116 = .ok (.iconst 0, 1) := by decide +kernel
theorem d_F_ask_117 : decode b_F_ask 117 = .ok (.invokevirtual 80, 3) := by decide +kernel
theorem d_F_ask_120 : decode b_F_ask 120 = .ok (.iload 6, 2) := by decide +kernel
theorem d_F_ask_122 : decode b_F_ask 122 = .ok (.ireturn, 1) := by decide +kernel
theorem d_F_confirm_0 : decode b_F_confirm 0 = .ok (.iconst 0, 1) := by decide +kernel
theorem d_F_confirm_1 : decode b_F_confirm 1 = .ok (.istore_n 2, 1) := by decide +kernel
theorem d_F_confirm_2 : decode b_F_confirm 2 = .ok (.iload_n 2, 1) := by decide +kernel
theorem d_F_confirm_3 : decode b_F_confirm 3 = .ok (.iconst 3, 1) := by decide +kernel
theorem d_F_confirm_4 : decode b_F_confirm 4 = .ok (.if_icmp .ge 64, 3) := by decide +kernel
theorem d_F_confirm_7 : decode b_F_confirm 7 = .ok (.iconst 0, 1) := by decide +kernel
theorem d_F_confirm_8 : decode b_F_confirm 8 = .ok (.istore_n 3, 1) := by decide +kernel
theorem d_F_confirm_9 : decode b_F_confirm 9 = .ok (.iload_n 3, 1) := by decide +kernel
theorem d_F_confirm_10 : decode b_F_confirm 10 = .ok (.bipush 12, 2) := by decide +kernel
theorem d_F_confirm_12 : decode b_F_confirm 12 = .ok (.if_icmp .ge 50, 3) := by decide +kernel
theorem d_F_confirm_15 : decode b_F_confirm 15 = .ok (.aload_n 0, 1) := by decide +kernel
theorem d_F_confirm_16 : decode b_F_confirm 16 = .ok (.getfield 11, 3) := by decide +kernel
theorem d_F_confirm_19 : decode b_F_confirm 19 = .ok (.iload_n 2, 1) := by decide +kernel
theorem d_F_confirm_20 : decode b_F_confirm 20 = .ok (.aaload, 1) := by decide +kernel
theorem d_F_confirm_21 : decode b_F_confirm 21 = .ok (.getfield 44, 3) := by decide +kernel
theorem d_F_confirm_24 : decode b_F_confirm 24 = .ok (.iload_n 3, 1) := by decide +kernel
theorem d_F_confirm_25 : decode b_F_confirm 25 = .ok (.aaload, 1) := by decide +kernel
theorem d_F_confirm_26 : decode b_F_confirm 26 = .ok (.astore 4, 2) := by decide +kernel
theorem d_F_confirm_28 : decode b_F_confirm 28 = .ok (.aload 4, 2) := by decide +kernel
theorem d_F_confirm_30 : decode b_F_confirm 30 = .ok (.getfield 48, 3) := by decide +kernel
theorem d_F_confirm_33 : decode b_F_confirm 33 = .ok (.ifCond .ne 23, 3) := by decide +kernel
theorem d_F_confirm_36 : decode b_F_confirm 36 = .ok (.aload 4, 2) := by decide +kernel
theorem d_F_confirm_38 : decode b_F_confirm 38 = .ok (.getfield 84, 3) := by decide +kernel
theorem d_F_confirm_41 : decode b_F_confirm 41 = .ok (.iload_n 1, 1) := by decide +kernel
theorem d_F_confirm_42 : decode b_F_confirm 42 = .ok (.if_icmp .ne 14, 3) := by decide +kernel
theorem d_F_confirm_45 : decode b_F_confirm 45 = .ok (.aload 4, 2) := by decide +kernel
theorem d_F_confirm_47 : decode b_F_confirm 47 = .ok (.aload_n 0, 1) := by decide +kernel
theorem d_F_confirm_48 : decode b_F_confirm 48 = .ok (.getfield 73, 3) := by decide +kernel
theorem d_F_confirm_51 : decode b_F_confirm 51 = .ok (.invokevirtual 87, 3) := by decide +kernel
theorem d_F_confirm_54 : decode b_F_confirm 54 = .ok (.iload_n 3, 1) := by decide +kernel
theorem d_F_confirm_55 : decode b_F_confirm 55 = .ok (.ireturn, 1) := by decide +kernel
theorem d_F_confirm_56 : decode b_F_confirm 56 = .ok (.iinc 3 1, 3) := by decide +kernel
theorem d_F_confirm_59 : decode b_F_confirm 59 = .ok (.goto (-50), 3) := by decide +kernel
theorem d_F_confirm_62 : decode b_F_confirm 62 = .ok (.iinc 2 1, 3) := by decide +kernel
theorem d_F_confirm_65 : decode b_F_confirm 65 = .ok (.goto (-63), 3) := by decide +kernel
theorem d_F_confirm_68 : decode b_F_confirm 68 = .ok (.new 90, 3) := by decide +kernel
theorem d_F_confirm_71 : decode b_F_confirm 71 = .ok (.dup, 1) := by decide +kernel
theorem d_F_confirm_72 : decode b_F_confirm 72 = .ok (.ldc 92, 2) := by decide +kernel
theorem d_F_confirm_74 : decode b_F_confirm 74 = .ok (.invokespecial 94, 3) := by decide +kernel
theorem d_F_confirm_77 : decode b_F_confirm 77 = .ok (.athrow, 1) := by decide +kernel
theorem d_F_leave_0 : decode b_F_leave 0 = .ok (.aload_n 0, 1) := by decide +kernel
theorem d_F_leave_1 : decode b_F_leave 1 = .ok (.iload_n 1, 1) := by decide +kernel
theorem d_F_leave_2 : decode b_F_leave 2 = .ok (.iload_n 2, 1) := by decide +kernel
theorem d_F_leave_3 : decode b_F_leave 3 = .ok (.invokevirtual 95, 3) := by decide +kernel
theorem d_F_leave_6 : decode b_F_leave 6 = .ok (.astore_n 3, 1) := by decide +kernel
theorem d_F_leave_7 : decode b_F_leave 7 = .ok (.aload_n 3, 1) := by decide +kernel
theorem d_F_leave_8 : decode b_F_leave 8 = .ok (.getfield 48, 3) := by decide +kernel
theorem d_F_leave_11 : decode b_F_leave 11 = .ok (.istore 4, 2) := by decide +kernel
theorem d_F_leave_13 : decode b_F_leave 13 = .ok (.aload_n 3, 1) := by decide +kernel
theorem d_F_leave_14 : decode b_F_leave 14 = .ok (.invokevirtual 99, 3) := by decide +kernel
theorem d_F_leave_17 : decode b_F_leave 17 = .ok (.iload 4, 2) := by decide +kernel
theorem d_F_leave_19 : decode b_F_leave 19 = .ok (.ireturn, 1) := by decide +kernel
theorem d_F_way_0 : decode b_F_way 0 = .ok (.iload_n 3, 1) := by decide +kernel
theorem d_F_way_1 : decode b_F_way 1 = .ok (.iconst 0, 1) := by decide +kernel
theorem d_F_way_2 : decode b_F_way 2 = .ok (.iconst 2, 1) := by decide +kernel
theorem d_F_way_3 : decode b_F_way 3 = .ok (.invokestatic 36, 3) := by decide +kernel
theorem d_F_way_6 : decode b_F_way 6 = .ok (.invokestatic 40, 3) := by decide +kernel
theorem d_F_way_9 : decode b_F_way 9 = .ok (.aload_n 0, 1) := by decide +kernel
theorem d_F_way_10 : decode b_F_way 10 = .ok (.iload_n 1, 1) := by decide +kernel
theorem d_F_way_11 : decode b_F_way 11 = .ok (.iload_n 2, 1) := by decide +kernel
theorem d_F_way_12 : decode b_F_way 12 = .ok (.invokevirtual 95, 3) := by decide +kernel
theorem d_F_way_15 : decode b_F_way 15 = .ok (.astore 4, 2) := by decide +kernel
theorem d_F_way_17 : decode b_F_way 17 = .ok (.aload 4, 2) := by decide +kernel
theorem d_F_way_19 : decode b_F_way 19 = .ok (.getfield 102, 3) := by decide +kernel
theorem d_F_way_22 : decode b_F_way 22 = .ok (.istore 5, 2) := by decide +kernel
theorem d_F_way_24 : decode b_F_way 24 = .ok (.aload 4, 2) := by decide +kernel
theorem d_F_way_26 : decode b_F_way 26 = .ok (.iload_n 3, 1) := by decide +kernel
theorem d_F_way_27 : decode b_F_way 27 = .ok (.putfield 102, 3) := by decide +kernel
theorem d_F_way_30 : decode b_F_way 30 = .ok (.iload 5, 2) := by decide +kernel
theorem d_F_way_32 : decode b_F_way 32 = .ok (.ireturn, 1) := by decide +kernel
theorem d_F_moderator_0 : decode b_F_moderator 0 = .ok (.aload_n 0, 1) := by decide +kernel
theorem d_F_moderator_1 : decode b_F_moderator 1 = .ok (.iload_n 1, 1) := by decide +kernel
theorem d_F_moderator_2 : decode b_F_moderator 2 = .ok (.iload_n 2, 1) := by decide +kernel
theorem d_F_moderator_3 : decode b_F_moderator 3 = .ok (.invokevirtual 95, 3) := by decide +kernel
theorem d_F_moderator_6 : decode b_F_moderator 6 = .ok (.astore 4, 2) := by decide +kernel
theorem d_F_moderator_8 : decode b_F_moderator 8 = .ok (.aload 4, 2) := by decide +kernel
theorem d_F_moderator_10 : decode b_F_moderator 10 = .ok (.getfield 48, 3) := by decide +kernel
theorem d_F_moderator_13 : decode b_F_moderator 13 = .ok (.ifCond .ne 13, 3) := by decide +kernel
theorem d_F_moderator_16 : decode b_F_moderator 16 = .ok (.new 54, 3) := by decide +kernel
theorem d_F_moderator_19 : decode b_F_moderator 19 = .ok (.dup, 1) := by decide +kernel
theorem d_F_moderator_20 : decode b_F_moderator 20 = .ok (.ldc 105, 2) := by decide +kernel
theorem d_F_moderator_22 : decode b_F_moderator 22 = .ok (.invokespecial 58, 3) := by decide +kernel
theorem d_F_moderator_25 : decode b_F_moderator 25 = .ok (.athrow, 1) := by decide +kernel
theorem d_F_moderator_26 : decode b_F_moderator 26 = .ok (.aload 4, 2) := by decide +kernel
theorem d_F_moderator_28 : decode b_F_moderator 28 = .ok (.getfield 107, 3) := by decide +kernel
theorem d_F_moderator_31 : decode b_F_moderator 31 = .ok (.istore 5, 2) := by decide +kernel
theorem d_F_moderator_33 : decode b_F_moderator 33 = .ok (.aload 4, 2) := by decide +kernel
theorem d_F_moderator_35 : decode b_F_moderator 35 = .ok (.iload_n 3, 1) := by decide +kernel
theorem d_F_moderator_36 : decode b_F_moderator 36 = .ok (.putfield 107, 3) := by decide +kernel
theorem d_F_moderator_39 : decode b_F_moderator 39 = .ok (.iload 5, 2) := by decide +kernel
theorem d_F_moderator_41 : decode b_F_moderator 41 = .ok (.ireturn, 1) := by decide +kernel
theorem d_F_ban_0 : decode b_F_ban 0 = .ok (.iload_n 1, 1) := by decide +kernel
theorem d_F_ban_1 : decode b_F_ban 1 = .ok (.iload_n 2, 1) := by decide +kernel
theorem d_F_ban_2 : decode b_F_ban 2 = .ok (.invokestatic 32, 3) := by decide +kernel
theorem d_F_ban_5 : decode b_F_ban 5 = .ok (.aload_n 0, 1) := by decide +kernel
theorem d_F_ban_6 : decode b_F_ban 6 = .ok (.getfield 11, 3) := by decide +kernel
theorem d_F_ban_9 : decode b_F_ban 9 = .ok (.iload_n 1, 1) := by decide +kernel
theorem d_F_ban_10 : decode b_F_ban 10 = .ok (.aaload, 1) := by decide +kernel
theorem d_F_ban_11 : decode b_F_ban 11 = .ok (.astore 4, 2) := by decide +kernel
theorem d_F_ban_13 : decode b_F_ban 13 = .ok (.aload 4, 2) := by decide +kernel
theorem d_F_ban_15 : decode b_F_ban 15 = .ok (.getfield 61, 3) := by decide +kernel
theorem d_F_ban_18 : decode b_F_ban 18 = .ok (.iload_n 2, 1) := by decide +kernel
theorem d_F_ban_19 : decode b_F_ban 19 = .ok (.baload, 1) := by decide +kernel
theorem d_F_ban_20 : decode b_F_ban 20 = .ok (.istore 5, 2) := by decide +kernel
theorem d_F_ban_22 : decode b_F_ban 22 = .ok (.aload 4, 2) := by decide +kernel
theorem d_F_ban_24 : decode b_F_ban 24 = .ok (.getfield 61, 3) := by decide +kernel
theorem d_F_ban_27 : decode b_F_ban 27 = .ok (.iload_n 2, 1) := by decide +kernel
theorem d_F_ban_28 : decode b_F_ban 28 = .ok (.iload_n 3, 1) := by decide +kernel
theorem d_F_ban_29 : decode b_F_ban 29 = .ok (.bastore, 1) := by decide +kernel
theorem d_F_ban_30 : decode b_F_ban 30 = .ok (.iload_n 3, 1) := by decide +kernel
theorem d_F_ban_31 : decode b_F_ban 31 = .ok (.ifCond .eq 13, 3) := by decide +kernel
theorem d_F_ban_34 : decode b_F_ban 34 = .ok (.aload 4, 2) := by decide +kernel
theorem d_F_ban_36 : decode b_F_ban 36 = .ok (.getfield 44, 3) := by decide +kernel
theorem d_F_ban_39 : decode b_F_ban 39 = .ok (.iload_n 2, 1) := by decide +kernel
theorem d_F_ban_40 : decode b_F_ban 40 = .ok (.aaload, 1) := by decide +kernel
theorem d_F_ban_41 : decode b_F_ban 41 = .ok (.invokevirtual 99, 3) := by decide +kernel
theorem d_F_ban_44 : decode b_F_ban 44 = .ok (.iload 5, 2) := by decide +kernel
theorem d_F_ban_46 : decode b_F_ban 46 = .ok (.ireturn, 1) := by decide +kernel
theorem d_F_setting_0 : decode b_F_setting 0 = .ok (.iload_n 1, 1) := by decide +kernel
theorem d_F_setting_1 : decode b_F_setting 1 = .ok (.iconst 0, 1) := by decide +kernel
theorem d_F_setting_2 : decode b_F_setting 2 = .ok (.iconst 2, 1) := by decide +kernel
theorem d_F_setting_3 : decode b_F_setting 3 = .ok (.invokestatic 36, 3) := by decide +kernel
theorem d_F_setting_6 : decode b_F_setting 6 = .ok (.invokestatic 40, 3) := by decide +kernel
theorem d_F_setting_9 : decode b_F_setting 9 = .ok (.aload_n 0, 1) := by decide +kernel
theorem d_F_setting_10 : decode b_F_setting 10 = .ok (.getfield 11, 3) := by decide +kernel
theorem d_F_setting_13 : decode b_F_setting 13 = .ok (.iload_n 1, 1) := by decide +kernel
theorem d_F_setting_14 : decode b_F_setting 14 = .ok (.aaload, 1) := by decide +kernel
theorem d_F_setting_15 : decode b_F_setting 15 = .ok (.astore 5, 2) := by decide +kernel
theorem d_F_setting_17 : decode b_F_setting 17 = .ok (.iload_n 2, 1) := by decide +kernel
theorem d_F_setting_18 : decode b_F_setting 18 = .ok (.tableswitch 139 0 4 #[34, 51, 68, 88, 108], 34) := by decide +kernel
theorem d_F_setting_52 : decode b_F_setting 52 = .ok (.aload 5, 2) := by decide +kernel
theorem d_F_setting_54 : decode b_F_setting 54 = .ok (.dload_n 3, 1) := by decide +kernel
theorem d_F_setting_55 : decode b_F_setting 55 = .ok (.dconst 0, 1) := by decide +kernel
theorem d_F_setting_56 : decode b_F_setting 56 = .ok (.dcmp .l, 1) := by decide +kernel
theorem d_F_setting_57 : decode b_F_setting 57 = .ok (.ifCond .eq 7, 3) := by decide +kernel
theorem d_F_setting_60 : decode b_F_setting 60 = .ok (.iconst 1, 1) := by decide +kernel
theorem d_F_setting_61 : decode b_F_setting 61 = .ok (.goto 4, 3) := by decide +kernel
theorem d_F_setting_64 : decode b_F_setting 64 = .ok (.iconst 0, 1) := by decide +kernel
theorem d_F_setting_65 : decode b_F_setting 65 = .ok (.invokevirtual 111, 3) := by decide +kernel
theorem d_F_setting_68 : decode b_F_setting 68 = .ok (.dreturn, 1) := by decide +kernel
theorem d_F_setting_69 : decode b_F_setting 69 = .ok (.aload 5, 2) := by decide +kernel
theorem d_F_setting_71 : decode b_F_setting 71 = .ok (.dload_n 3, 1) := by decide +kernel
theorem d_F_setting_72 : decode b_F_setting 72 = .ok (.dconst 0, 1) := by decide +kernel
theorem d_F_setting_73 : decode b_F_setting 73 = .ok (.dcmp .l, 1) := by decide +kernel
theorem d_F_setting_74 : decode b_F_setting 74 = .ok (.ifCond .eq 7, 3) := by decide +kernel
theorem d_F_setting_77 : decode b_F_setting 77 = .ok (.iconst 1, 1) := by decide +kernel
theorem d_F_setting_78 : decode b_F_setting 78 = .ok (.goto 4, 3) := by decide +kernel
theorem d_F_setting_81 : decode b_F_setting 81 = .ok (.iconst 0, 1) := by decide +kernel
theorem d_F_setting_82 : decode b_F_setting 82 = .ok (.invokevirtual 115, 3) := by decide +kernel
theorem d_F_setting_85 : decode b_F_setting 85 = .ok (.dreturn, 1) := by decide +kernel
theorem d_F_setting_86 : decode b_F_setting 86 = .ok (.dload_n 3, 1) := by decide +kernel
theorem d_F_setting_87 : decode b_F_setting 87 = .ok (.d2i, 1) := by decide +kernel
theorem d_F_setting_88 : decode b_F_setting 88 = .ok (.iconst 1, 1) := by decide +kernel
theorem d_F_setting_89 : decode b_F_setting 89 = .ok (.sipush 1000, 3) := by decide +kernel
theorem d_F_setting_92 : decode b_F_setting 92 = .ok (.invokestatic 36, 3) := by decide +kernel
theorem d_F_setting_95 : decode b_F_setting 95 = .ok (.invokestatic 40, 3) := by decide +kernel
theorem d_F_setting_98 : decode b_F_setting 98 = .ok (.aload 5, 2) := by decide +kernel
theorem d_F_setting_100 : decode b_F_setting 100 = .ok (.dload_n 3, 1) := by decide +kernel
theorem d_F_setting_101 : decode b_F_setting 101 = .ok (.d2i, 1) := by decide +kernel
theorem d_F_setting_102 : decode b_F_setting 102 = .ok (.invokevirtual 118, 3) := by decide +kernel
theorem d_F_setting_105 : decode b_F_setting 105 = .ok (.dreturn, 1) := by decide +kernel
theorem d_F_setting_106 : decode b_F_setting 106 = .ok (.dload_n 3, 1) := by decide +kernel
theorem d_F_setting_107 : decode b_F_setting 107 = .ok (.d2i, 1) := by decide +kernel
theorem d_F_setting_108 : decode b_F_setting 108 = .ok (.iconst 1, 1) := by decide +kernel
theorem d_F_setting_109 : decode b_F_setting 109 = .ok (.sipush 1000, 3) := by decide +kernel
theorem d_F_setting_112 : decode b_F_setting 112 = .ok (.invokestatic 36, 3) := by decide +kernel
theorem d_F_setting_115 : decode b_F_setting 115 = .ok (.invokestatic 40, 3) := by decide +kernel
theorem d_F_setting_118 : decode b_F_setting 118 = .ok (.aload 5, 2) := by decide +kernel
theorem d_F_setting_120 : decode b_F_setting 120 = .ok (.dload_n 3, 1) := by decide +kernel
theorem d_F_setting_121 : decode b_F_setting 121 = .ok (.d2i, 1) := by decide +kernel
theorem d_F_setting_122 : decode b_F_setting 122 = .ok (.invokevirtual 122, 3) := by decide +kernel
theorem d_F_setting_125 : decode b_F_setting 125 = .ok (.dreturn, 1) := by decide +kernel
theorem d_F_setting_126 : decode b_F_setting 126 = .ok (.dload_n 3, 1) := by decide +kernel
theorem d_F_setting_127 : decode b_F_setting 127 = .ok (.ldc2_w 125, 3) := by decide +kernel
theorem d_F_setting_130 : decode b_F_setting 130 = .ok (.dcmp .l, 1) := by decide +kernel
theorem d_F_setting_131 : decode b_F_setting 131 = .ok (.ifCond .lt 15, 3) := by decide +kernel
theorem d_F_setting_134 : decode b_F_setting 134 = .ok (.dload_n 3, 1) := by decide +kernel
theorem d_F_setting_135 : decode b_F_setting 135 = .ok (.ldc2_w 127, 3) := by decide +kernel
theorem d_F_setting_138 : decode b_F_setting 138 = .ok (.dcmp .g, 1) := by decide +kernel
theorem d_F_setting_139 : decode b_F_setting 139 = .ok (.ifCond .gt 7, 3) := by decide +kernel
theorem d_F_setting_142 : decode b_F_setting 142 = .ok (.iconst 1, 1) := by decide +kernel
theorem d_F_setting_143 : decode b_F_setting 143 = .ok (.goto 4, 3) := by decide +kernel
theorem d_F_setting_146 : decode b_F_setting 146 = .ok (.iconst 0, 1) := by decide +kernel
theorem d_F_setting_147 : decode b_F_setting 147 = .ok (.invokestatic 40, 3) := by decide +kernel
theorem d_F_setting_150 : decode b_F_setting 150 = .ok (.aload 5, 2) := by decide +kernel
theorem d_F_setting_152 : decode b_F_setting 152 = .ok (.dload_n 3, 1) := by decide +kernel
theorem d_F_setting_153 : decode b_F_setting 153 = .ok (.invokevirtual 129, 3) := by decide +kernel
theorem d_F_setting_156 : decode b_F_setting 156 = .ok (.dreturn, 1) := by decide +kernel
theorem d_F_setting_157 : decode b_F_setting 157 = .ok (.iload_n 2, 1) := by decide +kernel
theorem d_F_setting_158 : decode b_F_setting 158 = .ok (.bipush 10, 2) := by decide +kernel
theorem d_F_setting_160 : decode b_F_setting 160 = .ok (.bipush 19, 2) := by decide +kernel
theorem d_F_setting_162 : decode b_F_setting 162 = .ok (.invokestatic 36, 3) := by decide +kernel
theorem d_F_setting_165 : decode b_F_setting 165 = .ok (.invokestatic 40, 3) := by decide +kernel
theorem d_F_setting_168 : decode b_F_setting 168 = .ok (.aload 5, 2) := by decide +kernel
theorem d_F_setting_170 : decode b_F_setting 170 = .ok (.iload_n 2, 1) := by decide +kernel
theorem d_F_setting_171 : decode b_F_setting 171 = .ok (.bipush 10, 2) := by decide +kernel
theorem d_F_setting_173 : decode b_F_setting 173 = .ok (.isub, 1) := by decide +kernel
theorem d_F_setting_174 : decode b_F_setting 174 = .ok (.dload_n 3, 1) := by decide +kernel
theorem d_F_setting_175 : decode b_F_setting 175 = .ok (.dconst 0, 1) := by decide +kernel
theorem d_F_setting_176 : decode b_F_setting 176 = .ok (.dcmp .l, 1) := by decide +kernel
theorem d_F_setting_177 : decode b_F_setting 177 = .ok (.ifCond .eq 7, 3) := by decide +kernel
theorem d_F_setting_180 : decode b_F_setting 180 = .ok (.iconst 1, 1) := by decide +kernel
theorem d_F_setting_181 : decode b_F_setting 181 = .ok (.goto 4, 3) := by decide +kernel
theorem d_F_setting_184 : decode b_F_setting 184 = .ok (.iconst 0, 1) := by decide +kernel
theorem d_F_setting_185 : decode b_F_setting 185 = .ok (.invokevirtual 133, 3) := by decide +kernel
theorem d_F_setting_188 : decode b_F_setting 188 = .ok (.dreturn, 1) := by decide +kernel
theorem d_F_post_0 : decode b_F_post 0 = .ok (.iload_n 1, 1) := by decide +kernel
theorem d_F_post_1 : decode b_F_post 1 = .ok (.iload_n 2, 1) := by decide +kernel
theorem d_F_post_2 : decode b_F_post 2 = .ok (.invokestatic 32, 3) := by decide +kernel
theorem d_F_post_5 : decode b_F_post 5 = .ok (.iload_n 3, 1) := by decide +kernel
theorem d_F_post_6 : decode b_F_post 6 = .ok (.iconst 1, 1) := by decide +kernel
theorem d_F_post_7 : decode b_F_post 7 = .ok (.sipush 1000, 3) := by decide +kernel
theorem d_F_post_10 : decode b_F_post 10 = .ok (.invokestatic 36, 3) := by decide +kernel
theorem d_F_post_13 : decode b_F_post 13 = .ok (.ifCond .eq 18, 3) := by decide +kernel
theorem d_F_post_16 : decode b_F_post 16 = .ok (.iload 4, 2) := by decide +kernel
theorem d_F_post_18 : decode b_F_post 18 = .ok (.iconst 0, 1) := by decide +kernel
theorem d_F_post_19 : decode b_F_post 19 = .ok (.bipush 9, 2) := by decide +kernel
theorem d_F_post_21 : decode b_F_post 21 = .ok (.invokestatic 36, 3) := by decide +kernel
theorem d_F_post_24 : decode b_F_post 24 = .ok (.ifCond .eq 7, 3) := by decide +kernel
theorem d_F_post_27 : decode b_F_post 27 = .ok (.iconst 1, 1) := by decide +kernel
theorem d_F_post_28 : decode b_F_post 28 = .ok (.goto 4, 3) := by decide +kernel
theorem d_F_post_31 : decode b_F_post 31 = .ok (.iconst 0, 1) := by decide +kernel
theorem d_F_post_32 : decode b_F_post 32 = .ok (.invokestatic 40, 3) := by decide +kernel
theorem d_F_post_35 : decode b_F_post 35 = .ok (.aload_n 0, 1) := by decide +kernel
theorem d_F_post_36 : decode b_F_post 36 = .ok (.getfield 137, 3) := by decide +kernel
theorem d_F_post_39 : decode b_F_post 39 = .ok (.bipush 40, 2) := by decide +kernel
theorem d_F_post_41 : decode b_F_post 41 = .ok (.if_icmp .lt 13, 3) := by decide +kernel
theorem d_F_post_44 : decode b_F_post 44 = .ok (.new 54, 3) := by decide +kernel
theorem d_F_post_47 : decode b_F_post 47 = .ok (.dup, 1) := by decide +kernel
theorem d_F_post_48 : decode b_F_post 48 = .ok (.ldc 140, 2) := by decide +kernel
theorem d_F_post_50 : decode b_F_post 50 = .ok (.invokespecial 58, 3) := by decide +kernel
theorem d_F_post_53 : decode b_F_post 53 = .ok (.athrow, 1) := by decide +kernel
theorem d_F_post_54 : decode b_F_post 54 = .ok (.aload_n 0, 1) := by decide +kernel
theorem d_F_post_55 : decode b_F_post 55 = .ok (.getfield 11, 3) := by decide +kernel
theorem d_F_post_58 : decode b_F_post 58 = .ok (.iload_n 1, 1) := by decide +kernel
theorem d_F_post_59 : decode b_F_post 59 = .ok (.aaload, 1) := by decide +kernel
theorem d_F_post_60 : decode b_F_post 60 = .ok (.astore 5, 2) := by decide +kernel
theorem d_F_post_62 : decode b_F_post 62 = .ok (.aload 5, 2) := by decide +kernel
theorem d_F_post_64 : decode b_F_post 64 = .ok (.iload_n 2, 1) := by decide +kernel
theorem d_F_post_65 : decode b_F_post 65 = .ok (.invokevirtual 142, 3) := by decide +kernel
theorem d_F_post_68 : decode b_F_post 68 = .ok (.ifCond .eq 13, 3) := by decide +kernel
theorem d_F_post_71 : decode b_F_post 71 = .ok (.new 65, 3) := by decide +kernel
theorem d_F_post_74 : decode b_F_post 74 = .ok (.dup, 1) := by decide +kernel
theorem d_F_post_75 : decode b_F_post 75 = .ok (.ldc 146, 2) := by decide +kernel
theorem d_F_post_77 : decode b_F_post 77 = .ok (.invokespecial 69, 3) := by decide +kernel
theorem d_F_post_80 : decode b_F_post 80 = .ok (.athrow, 1) := by decide +kernel
theorem d_F_post_81 : decode b_F_post 81 = .ok (.aload_n 0, 1) := by decide +kernel
theorem d_F_post_82 : decode b_F_post 82 = .ok (.getfield 137, 3) := by decide +kernel
theorem d_F_post_85 : decode b_F_post 85 = .ok (.istore 6, 2) := by decide +kernel
theorem d_F_post_87 : decode b_F_post 87 = .ok (.aload_n 0, 1) := by decide +kernel
theorem d_F_post_88 : decode b_F_post 88 = .ok (.dup, 1) := by decide +kernel
theorem d_F_post_89 : decode b_F_post 89 = .ok (.getfield 137, 3) := by decide +kernel
theorem d_F_post_92 : decode b_F_post 92 = .ok (.iconst 1, 1) := by decide +kernel
theorem d_F_post_93 : decode b_F_post 93 = .ok (.iadd, 1) := by decide +kernel
theorem d_F_post_94 : decode b_F_post 94 = .ok (.putfield 137, 3) := by decide +kernel
theorem d_F_post_97 : decode b_F_post 97 = .ok (.aload_n 0, 1) := by decide +kernel
theorem d_F_post_98 : decode b_F_post 98 = .ok (.getfield 20, 3) := by decide +kernel
theorem d_F_post_101 : decode b_F_post 101 = .ok (.iload 6, 2) := by decide +kernel
theorem d_F_post_103 : decode b_F_post 103 = .ok (.aaload, 1) := by decide +kernel
theorem d_F_post_104 : decode b_F_post 104 = .ok (.iload_n 1, 1) := by decide +kernel
theorem d_F_post_105 : decode b_F_post 105 = .ok (.iload_n 2, 1) := by decide +kernel
theorem d_F_post_106 : decode b_F_post 106 = .ok (.iload_n 3, 1) := by decide +kernel
theorem d_F_post_107 : decode b_F_post 107 = .ok (.invokevirtual 148, 3) := by decide +kernel
theorem d_F_post_110 : decode b_F_post 110 = .ok (.aload 5, 2) := by decide +kernel
theorem d_F_post_112 : decode b_F_post 112 = .ok (.iload_n 2, 1) := by decide +kernel
theorem d_F_post_113 : decode b_F_post 113 = .ok (.iload_n 3, 1) := by decide +kernel
theorem d_F_post_114 : decode b_F_post 114 = .ok (.iload 4, 2) := by decide +kernel
theorem d_F_post_116 : decode b_F_post 116 = .ok (.invokevirtual 151, 3) := by decide +kernel
theorem d_F_post_119 : decode b_F_post 119 = .ok (.ifCond .eq 17, 3) := by decide +kernel
theorem d_F_post_122 : decode b_F_post 122 = .ok (.aload 5, 2) := by decide +kernel
theorem d_F_post_124 : decode b_F_post 124 = .ok (.iload 6, 2) := by decide +kernel
theorem d_F_post_126 : decode b_F_post 126 = .ok (.aload_n 0, 1) := by decide +kernel
theorem d_F_post_127 : decode b_F_post 127 = .ok (.getfield 28, 3) := by decide +kernel
theorem d_F_post_130 : decode b_F_post 130 = .ok (.invokevirtual 154, 3) := by decide +kernel
theorem d_F_post_133 : decode b_F_post 133 = .ok (.goto 9, 3) := by decide +kernel
theorem d_F_post_136 : decode b_F_post 136 = .ok (.aload_n 0, 1) := by decide +kernel
theorem d_F_post_137 : decode b_F_post 137 = .ok (.iload 6, 2) := by decide +kernel
theorem d_F_post_139 : decode b_F_post 139 = .ok (.invokevirtual 158, 3) := by decide +kernel
theorem d_F_post_142 : decode b_F_post 142 = .ok (.iload 6, 2) := by decide +kernel
theorem d_F_post_144 : decode b_F_post 144 = .ok (.ireturn, 1) := by decide +kernel
theorem d_F_judge_0 : decode b_F_judge 0 = .ok (.iload_n 1, 1) := by decide +kernel
theorem d_F_judge_1 : decode b_F_judge 1 = .ok (.iconst 0, 1) := by decide +kernel
theorem d_F_judge_2 : decode b_F_judge 2 = .ok (.bipush 11, 2) := by decide +kernel
theorem d_F_judge_4 : decode b_F_judge 4 = .ok (.invokestatic 36, 3) := by decide +kernel
theorem d_F_judge_7 : decode b_F_judge 7 = .ok (.ifCond .eq 16, 3) := by decide +kernel
theorem d_F_judge_10 : decode b_F_judge 10 = .ok (.iload_n 3, 1) := by decide +kernel
theorem d_F_judge_11 : decode b_F_judge 11 = .ok (.iconst 0, 1) := by decide +kernel
theorem d_F_judge_12 : decode b_F_judge 12 = .ok (.iconst 2, 1) := by decide +kernel
theorem d_F_judge_13 : decode b_F_judge 13 = .ok (.invokestatic 36, 3) := by decide +kernel
theorem d_F_judge_16 : decode b_F_judge 16 = .ok (.ifCond .eq 7, 3) := by decide +kernel
theorem d_F_judge_19 : decode b_F_judge 19 = .ok (.iconst 1, 1) := by decide +kernel
theorem d_F_judge_20 : decode b_F_judge 20 = .ok (.goto 4, 3) := by decide +kernel
theorem d_F_judge_23 : decode b_F_judge 23 = .ok (.iconst 0, 1) := by decide +kernel
theorem d_F_judge_24 : decode b_F_judge 24 = .ok (.invokestatic 40, 3) := by decide +kernel
theorem d_F_judge_27 : decode b_F_judge 27 = .ok (.iload_n 2, 1) := by decide +kernel
theorem d_F_judge_28 : decode b_F_judge 28 = .ok (.iconst 0, 1) := by decide +kernel
theorem d_F_judge_29 : decode b_F_judge 29 = .ok (.aload_n 0, 1) := by decide +kernel
theorem d_F_judge_30 : decode b_F_judge 30 = .ok (.getfield 137, 3) := by decide +kernel
theorem d_F_judge_33 : decode b_F_judge 33 = .ok (.iconst 1, 1) := by decide +kernel
theorem d_F_judge_34 : decode b_F_judge 34 = .ok (.isub, 1) := by decide +kernel
theorem d_F_judge_35 : decode b_F_judge 35 = .ok (.invokestatic 36, 3) := by decide +kernel
theorem d_F_judge_38 : decode b_F_judge 38 = .ok (.ifCond .eq 15, 3) := by decide +kernel
theorem d_F_judge_41 : decode b_F_judge 41 = .ok (.aload_n 0, 1) := by decide +kernel
theorem d_F_judge_42 : decode b_F_judge 42 = .ok (.getfield 20, 3) := by decide +kernel
theorem d_F_judge_45 : decode b_F_judge 45 = .ok (.iload_n 2, 1) := by decide +kernel
theorem d_F_judge_46 : decode b_F_judge 46 = .ok (.aaload, 1) := by decide +kernel
theorem d_F_judge_47 : decode b_F_judge 47 = .ok (.getfield 161, 3) := by decide +kernel
theorem d_F_judge_50 : decode b_F_judge 50 = .ok (.ifCond .eq 13, 3) := by decide +kernel
theorem d_F_judge_53 : decode b_F_judge 53 = .ok (.new 90, 3) := by decide +kernel
theorem d_F_judge_56 : decode b_F_judge 56 = .ok (.dup, 1) := by decide +kernel
theorem d_F_judge_57 : decode b_F_judge 57 = .ok (.ldc 164, 2) := by decide +kernel
theorem d_F_judge_59 : decode b_F_judge 59 = .ok (.invokespecial 94, 3) := by decide +kernel
theorem d_F_judge_62 : decode b_F_judge 62 = .ok (.athrow, 1) := by decide +kernel
theorem d_F_judge_63 : decode b_F_judge 63 = .ok (.aload_n 0, 1) := by decide +kernel
theorem d_F_judge_64 : decode b_F_judge 64 = .ok (.getfield 20, 3) := by decide +kernel
theorem d_F_judge_67 : decode b_F_judge 67 = .ok (.iload_n 2, 1) := by decide +kernel
theorem d_F_judge_68 : decode b_F_judge 68 = .ok (.aaload, 1) := by decide +kernel
theorem d_F_judge_69 : decode b_F_judge 69 = .ok (.astore 4, 2) := by decide +kernel
theorem d_F_judge_71 : decode b_F_judge 71 = .ok (.aload_n 0, 1) := by decide +kernel
theorem d_F_judge_72 : decode b_F_judge 72 = .ok (.getfield 11, 3) := by decide +kernel
theorem d_F_judge_75 : decode b_F_judge 75 = .ok (.aload 4, 2) := by decide +kernel
theorem d_F_judge_77 : decode b_F_judge 77 = .ok (.getfield 166, 3) := by decide +kernel
theorem d_F_judge_80 : decode b_F_judge 80 = .ok (.aaload, 1) := by decide +kernel
theorem d_F_judge_81 : decode b_F_judge 81 = .ok (.getfield 44, 3) := by decide +kernel
theorem d_F_judge_84 : decode b_F_judge 84 = .ok (.iload_n 1, 1) := by decide +kernel
theorem d_F_judge_85 : decode b_F_judge 85 = .ok (.aaload, 1) := by decide +kernel
theorem d_F_judge_86 : decode b_F_judge 86 = .ok (.getfield 107, 3) := by decide +kernel
theorem d_F_judge_89 : decode b_F_judge 89 = .ok (.ifCond .ne 13, 3) := by decide +kernel
theorem d_F_judge_92 : decode b_F_judge 92 = .ok (.new 65, 3) := by decide +kernel
theorem d_F_judge_95 : decode b_F_judge 95 = .ok (.dup, 1) := by decide +kernel
theorem d_F_judge_96 : decode b_F_judge 96 = .ok (.ldc 169, 2) := by decide +kernel
theorem d_F_judge_98 : decode b_F_judge 98 = .ok (.invokespecial 69, 3) := by decide +kernel
theorem d_F_judge_101 : decode b_F_judge 101 = .ok (.athrow, 1) := by decide +kernel
theorem d_F_judge_102 : decode b_F_judge 102 = .ok (.iload_n 3, 1) := by decide +kernel
theorem d_F_judge_103 : decode b_F_judge 103 = .ok (.ifCond .ne 11, 3) := by decide +kernel
theorem d_F_judge_106 : decode b_F_judge 106 = .ok (.aload_n 0, 1) := by decide +kernel
theorem d_F_judge_107 : decode b_F_judge 107 = .ok (.iload_n 2, 1) := by decide +kernel
theorem d_F_judge_108 : decode b_F_judge 108 = .ok (.invokevirtual 158, 3) := by decide +kernel
theorem d_F_judge_111 : decode b_F_judge 111 = .ok (.goto 9, 3) := by decide +kernel
theorem d_F_judge_114 : decode b_F_judge 114 = .ok (.aload 4, 2) := by decide +kernel
theorem d_F_judge_116 : decode b_F_judge 116 = .ok (.iconst 2, 1) := by decide +kernel
theorem d_F_judge_117 : decode b_F_judge 117 = .ok (.putfield 161, 3) := by decide +kernel
theorem d_F_judge_120 : decode b_F_judge 120 = .ok (.iload_n 3, 1) := by decide +kernel
theorem d_F_judge_121 : decode b_F_judge 121 = .ok (.iconst 1, 1) := by decide +kernel
theorem d_F_judge_122 : decode b_F_judge 122 = .ok (.if_icmp .ne 22, 3) := by decide +kernel
theorem d_F_judge_125 : decode b_F_judge 125 = .ok (.aload_n 0, 1) := by decide +kernel
theorem d_F_judge_126 : decode b_F_judge 126 = .ok (.getfield 28, 3) := by decide +kernel
theorem d_F_judge_129 : decode b_F_judge 129 = .ok (.aload 4, 2) := by decide +kernel
theorem d_F_judge_131 : decode b_F_judge 131 = .ok (.getfield 171, 3) := by decide +kernel
theorem d_F_judge_134 : decode b_F_judge 134 = .ok (.aload 4, 2) := by decide +kernel
theorem d_F_judge_136 : decode b_F_judge 136 = .ok (.getfield 166, 3) := by decide +kernel
theorem d_F_judge_139 : decode b_F_judge 139 = .ok (.iconst 4, 1) := by decide +kernel
theorem d_F_judge_140 : decode b_F_judge 140 = .ok (.iload_n 2, 1) := by decide +kernel
theorem d_F_judge_141 : decode b_F_judge 141 = .ok (.invokevirtual 80, 3) := by decide +kernel
theorem d_F_judge_144 : decode b_F_judge 144 = .ok (.aload_n 0, 1) := by decide +kernel
theorem d_F_judge_145 : decode b_F_judge 145 = .ok (.iconst 0, 1) := by decide +kernel
theorem d_F_judge_146 : decode b_F_judge 146 = .ok (.invokevirtual 174, 3) := by decide +kernel
theorem d_F_judge_149 : decode b_F_judge 149 = .ok (.ireturn, 1) := by decide +kernel
theorem d_F_bounce_0 : decode b_F_bounce 0 = .ok (.aload_n 0, 1) := by decide +kernel
theorem d_F_bounce_1 : decode b_F_bounce 1 = .ok (.iload_n 1, 1) := by decide +kernel
theorem d_F_bounce_2 : decode b_F_bounce 2 = .ok (.iload_n 2, 1) := by decide +kernel
theorem d_F_bounce_3 : decode b_F_bounce 3 = .ok (.invokevirtual 95, 3) := by decide +kernel
theorem d_F_bounce_6 : decode b_F_bounce 6 = .ok (.astore 4, 2) := by decide +kernel
theorem d_F_bounce_8 : decode b_F_bounce 8 = .ok (.aload 4, 2) := by decide +kernel
theorem d_F_bounce_10 : decode b_F_bounce 10 = .ok (.getfield 48, 3) := by decide +kernel
theorem d_F_bounce_13 : decode b_F_bounce 13 = .ok (.iconst 1, 1) := by decide +kernel
theorem d_F_bounce_14 : decode b_F_bounce 14 = .ok (.if_icmp .eq 13, 3) := by decide +kernel
theorem d_F_bounce_17 : decode b_F_bounce 17 = .ok (.new 54, 3) := by decide +kernel
theorem d_F_bounce_20 : decode b_F_bounce 20 = .ok (.dup, 1) := by decide +kernel
theorem d_F_bounce_21 : decode b_F_bounce 21 = .ok (.ldc 178, 2) := by decide +kernel
theorem d_F_bounce_23 : decode b_F_bounce 23 = .ok (.invokespecial 58, 3) := by decide +kernel
theorem d_F_bounce_26 : decode b_F_bounce 26 = .ok (.athrow, 1) := by decide +kernel
theorem d_F_bounce_27 : decode b_F_bounce 27 = .ok (.aload 4, 2) := by decide +kernel
theorem d_F_bounce_29 : decode b_F_bounce 29 = .ok (.getfield 180, 3) := by decide +kernel
theorem d_F_bounce_32 : decode b_F_bounce 32 = .ok (.aload_n 0, 1) := by decide +kernel
theorem d_F_bounce_33 : decode b_F_bounce 33 = .ok (.getfield 73, 3) := by decide +kernel
theorem d_F_bounce_36 : decode b_F_bounce 36 = .ok (.if_icmp .eq 75, 3) := by decide +kernel
theorem d_F_bounce_39 : decode b_F_bounce 39 = .ok (.aload 4, 2) := by decide +kernel
theorem d_F_bounce_41 : decode b_F_bounce 41 = .ok (.aload_n 0, 1) := by decide +kernel
theorem d_F_bounce_42 : decode b_F_bounce 42 = .ok (.getfield 73, 3) := by decide +kernel
theorem d_F_bounce_45 : decode b_F_bounce 45 = .ok (.putfield 180, 3) := by decide +kernel
theorem d_F_bounce_48 : decode b_F_bounce 48 = .ok (.aload 4, 2) := by decide +kernel
theorem d_F_bounce_50 : decode b_F_bounce 50 = .ok (.dup, 1) := by decide +kernel
theorem d_F_bounce_51 : decode b_F_bounce 51 = .ok (.getfield 183, 3) := by decide +kernel
theorem d_F_bounce_54 : decode b_F_bounce 54 = .ok (.iload_n 3, 1) := by decide +kernel
theorem d_F_bounce_55 : decode b_F_bounce 55 = .ok (.ifCond .eq 7, 3) := by decide +kernel
theorem d_F_bounce_58 : decode b_F_bounce 58 = .ok (.dconst 1, 1) := by decide +kernel
theorem d_F_bounce_59 : decode b_F_bounce 59 = .ok (.goto 6, 3) := by decide +kernel
theorem d_F_bounce_62 : decode b_F_bounce 62 = .ok (.ldc2_w 125, 3) := by decide +kernel
theorem d_F_bounce_65 : decode b_F_bounce 65 = .ok (.dadd, 1) := by decide +kernel
theorem d_F_bounce_66 : decode b_F_bounce 66 = .ok (.putfield 183, 3) := by decide +kernel
theorem d_F_bounce_69 : decode b_F_bounce 69 = .ok (.aload 4, 2) := by decide +kernel
theorem d_F_bounce_71 : decode b_F_bounce 71 = .ok (.getfield 183, 3) := by decide +kernel
theorem d_F_bounce_74 : decode b_F_bounce 74 = .ok (.aload_n 0, 1) := by decide +kernel
theorem d_F_bounce_75 : decode b_F_bounce 75 = .ok (.getfield 11, 3) := by decide +kernel
theorem d_F_bounce_78 : decode b_F_bounce 78 = .ok (.iload_n 1, 1) := by decide +kernel
theorem d_F_bounce_79 : decode b_F_bounce 79 = .ok (.aaload, 1) := by decide +kernel
theorem d_F_bounce_80 : decode b_F_bounce 80 = .ok (.getfield 187, 3) := by decide +kernel
theorem d_F_bounce_83 : decode b_F_bounce 83 = .ok (.dcmp .l, 1) := by decide +kernel
theorem d_F_bounce_84 : decode b_F_bounce 84 = .ok (.ifCond .lt 27, 3) := by decide +kernel
theorem d_F_bounce_87 : decode b_F_bounce 87 = .ok (.aload 4, 2) := by decide +kernel
theorem d_F_bounce_89 : decode b_F_bounce 89 = .ok (.aload_n 0, 1) := by decide +kernel
theorem d_F_bounce_90 : decode b_F_bounce 90 = .ok (.getfield 73, 3) := by decide +kernel
theorem d_F_bounce_93 : decode b_F_bounce 93 = .ok (.invokevirtual 190, 3) := by decide +kernel
theorem d_F_bounce_96 : decode b_F_bounce 96 = .ok (.aload_n 0, 1) := by decide +kernel
theorem d_F_bounce_97 : decode b_F_bounce 97 = .ok (.getfield 28, 3) := by decide +kernel
theorem d_F_bounce_100 : decode b_F_bounce 100 = .ok (.iload_n 2, 1) := by decide +kernel
theorem d_F_bounce_101 : decode b_F_bounce 101 = .ok (.iload_n 1, 1) := by decide +kernel
theorem d_F_bounce_102 : decode b_F_bounce 102 = .ok (.iconst 5, 1) := by decide +kernel
theorem d_F_bounce_103 : decode b_F_bounce 103 = .ok (.aload 4, 2) := by decide +kernel
theorem d_F_bounce_105 : decode b_F_bounce 105 = .ok (.getfield 193, 3) := by decide +kernel
theorem d_F_bounce_108 : decode b_F_bounce 108 = .ok (.invokevirtual 80, 3) := by decide +kernel
theorem d_F_bounce_111 : decode b_F_bounce 111 = .ok (.aload 4, 2) := by decide +kernel
theorem d_F_bounce_113 : decode b_F_bounce 113 = .ok (.getfield 183, 3) := by decide +kernel
theorem d_F_bounce_116 : decode b_F_bounce 116 = .ok (.dreturn, 1) := by decide +kernel
theorem d_F_renew_0 : decode b_F_renew 0 = .ok (.aload_n 0, 1) := by decide +kernel
theorem d_F_renew_1 : decode b_F_renew 1 = .ok (.iload_n 1, 1) := by decide +kernel
theorem d_F_renew_2 : decode b_F_renew 2 = .ok (.iload_n 2, 1) := by decide +kernel
theorem d_F_renew_3 : decode b_F_renew 3 = .ok (.invokevirtual 95, 3) := by decide +kernel
theorem d_F_renew_6 : decode b_F_renew 6 = .ok (.astore_n 3, 1) := by decide +kernel
theorem d_F_renew_7 : decode b_F_renew 7 = .ok (.aload_n 3, 1) := by decide +kernel
theorem d_F_renew_8 : decode b_F_renew 8 = .ok (.getfield 48, 3) := by decide +kernel
theorem d_F_renew_11 : decode b_F_renew 11 = .ok (.iconst 2, 1) := by decide +kernel
theorem d_F_renew_12 : decode b_F_renew 12 = .ok (.if_icmp .eq 13, 3) := by decide +kernel
theorem d_F_renew_15 : decode b_F_renew 15 = .ok (.new 54, 3) := by decide +kernel
theorem d_F_renew_18 : decode b_F_renew 18 = .ok (.dup, 1) := by decide +kernel
theorem d_F_renew_19 : decode b_F_renew 19 = .ok (.ldc 196, 2) := by decide +kernel
theorem d_F_renew_21 : decode b_F_renew 21 = .ok (.invokespecial 58, 3) := by decide +kernel
theorem d_F_renew_24 : decode b_F_renew 24 = .ok (.athrow, 1) := by decide +kernel
theorem d_F_renew_25 : decode b_F_renew 25 = .ok (.aload_n 3, 1) := by decide +kernel
theorem d_F_renew_26 : decode b_F_renew 26 = .ok (.getfield 193, 3) := by decide +kernel
theorem d_F_renew_29 : decode b_F_renew 29 = .ok (.istore 4, 2) := by decide +kernel
theorem d_F_renew_31 : decode b_F_renew 31 = .ok (.aload_n 3, 1) := by decide +kernel
theorem d_F_renew_32 : decode b_F_renew 32 = .ok (.aload_n 0, 1) := by decide +kernel
theorem d_F_renew_33 : decode b_F_renew 33 = .ok (.getfield 73, 3) := by decide +kernel
theorem d_F_renew_36 : decode b_F_renew 36 = .ok (.invokevirtual 87, 3) := by decide +kernel
theorem d_F_renew_39 : decode b_F_renew 39 = .ok (.iload 4, 2) := by decide +kernel
theorem d_F_renew_41 : decode b_F_renew 41 = .ok (.ireturn, 1) := by decide +kernel
theorem d_F_tick_0 : decode b_F_tick 0 = .ok (.iload_n 1, 1) := by decide +kernel
theorem d_F_tick_1 : decode b_F_tick 1 = .ok (.iconst 1, 1) := by decide +kernel
theorem d_F_tick_2 : decode b_F_tick 2 = .ok (.bipush 20, 2) := by decide +kernel
theorem d_F_tick_4 : decode b_F_tick 4 = .ok (.invokestatic 36, 3) := by decide +kernel
theorem d_F_tick_7 : decode b_F_tick 7 = .ok (.invokestatic 40, 3) := by decide +kernel
theorem d_F_tick_10 : decode b_F_tick 10 = .ok (.iconst 0, 1) := by decide +kernel
theorem d_F_tick_11 : decode b_F_tick 11 = .ok (.istore_n 2, 1) := by decide +kernel
theorem d_F_tick_12 : decode b_F_tick 12 = .ok (.iload_n 2, 1) := by decide +kernel
theorem d_F_tick_13 : decode b_F_tick 13 = .ok (.iload_n 1, 1) := by decide +kernel
theorem d_F_tick_14 : decode b_F_tick 14 = .ok (.if_icmp .ge 49, 3) := by decide +kernel
theorem d_F_tick_17 : decode b_F_tick 17 = .ok (.aload_n 0, 1) := by decide +kernel
theorem d_F_tick_18 : decode b_F_tick 18 = .ok (.dup, 1) := by decide +kernel
theorem d_F_tick_19 : decode b_F_tick 19 = .ok (.getfield 73, 3) := by decide +kernel
theorem d_F_tick_22 : decode b_F_tick 22 = .ok (.iconst 1, 1) := by decide +kernel
theorem d_F_tick_23 : decode b_F_tick 23 = .ok (.iadd, 1) := by decide +kernel
theorem d_F_tick_24 : decode b_F_tick 24 = .ok (.putfield 73, 3) := by decide +kernel
theorem d_F_tick_27 : decode b_F_tick 27 = .ok (.iconst 0, 1) := by decide +kernel
theorem d_F_tick_28 : decode b_F_tick 28 = .ok (.istore_n 3, 1) := by decide +kernel
theorem d_F_tick_29 : decode b_F_tick 29 = .ok (.iload_n 3, 1) := by decide +kernel
theorem d_F_tick_30 : decode b_F_tick 30 = .ok (.iconst 3, 1) := by decide +kernel
theorem d_F_tick_31 : decode b_F_tick 31 = .ok (.if_icmp .ge 26, 3) := by decide +kernel
theorem d_F_tick_34 : decode b_F_tick 34 = .ok (.aload_n 0, 1) := by decide +kernel
theorem d_F_tick_35 : decode b_F_tick 35 = .ok (.getfield 11, 3) := by decide +kernel
theorem d_F_tick_38 : decode b_F_tick 38 = .ok (.iload_n 3, 1) := by decide +kernel
theorem d_F_tick_39 : decode b_F_tick 39 = .ok (.aaload, 1) := by decide +kernel
theorem d_F_tick_40 : decode b_F_tick 40 = .ok (.aload_n 0, 1) := by decide +kernel
theorem d_F_tick_41 : decode b_F_tick 41 = .ok (.getfield 73, 3) := by decide +kernel
theorem d_F_tick_44 : decode b_F_tick 44 = .ok (.aload_n 0, 1) := by decide +kernel
theorem d_F_tick_45 : decode b_F_tick 45 = .ok (.getfield 28, 3) := by decide +kernel
theorem d_F_tick_48 : decode b_F_tick 48 = .ok (.invokevirtual 198, 3) := by decide +kernel
theorem d_F_tick_51 : decode b_F_tick 51 = .ok (.iinc 3 1, 3) := by decide +kernel
theorem d_F_tick_54 : decode b_F_tick 54 = .ok (.goto (-25), 3) := by decide +kernel
theorem d_F_tick_57 : decode b_F_tick 57 = .ok (.iinc 2 1, 3) := by decide +kernel
theorem d_F_tick_60 : decode b_F_tick 60 = .ok (.goto (-48), 3) := by decide +kernel
theorem d_F_tick_63 : decode b_F_tick 63 = .ok (.aload_n 0, 1) := by decide +kernel
theorem d_F_tick_64 : decode b_F_tick 64 = .ok (.getfield 73, 3) := by decide +kernel
theorem d_F_tick_67 : decode b_F_tick 67 = .ok (.ireturn, 1) := by decide +kernel
theorem d_F_told_0 : decode b_F_told 0 = .ok (.iload_n 3, 1) := by decide +kernel
theorem d_F_told_1 : decode b_F_told 1 = .ok (.iconst 0, 1) := by decide +kernel
theorem d_F_told_2 : decode b_F_told 2 = .ok (.iconst 4, 1) := by decide +kernel
theorem d_F_told_3 : decode b_F_told 3 = .ok (.invokestatic 36, 3) := by decide +kernel
theorem d_F_told_6 : decode b_F_told 6 = .ok (.invokestatic 40, 3) := by decide +kernel
theorem d_F_told_9 : decode b_F_told 9 = .ok (.aload_n 0, 1) := by decide +kernel
theorem d_F_told_10 : decode b_F_told 10 = .ok (.iload_n 1, 1) := by decide +kernel
theorem d_F_told_11 : decode b_F_told 11 = .ok (.iload_n 2, 1) := by decide +kernel
theorem d_F_told_12 : decode b_F_told 12 = .ok (.invokevirtual 95, 3) := by decide +kernel
theorem d_F_told_15 : decode b_F_told 15 = .ok (.astore 4, 2) := by decide +kernel
theorem d_F_told_17 : decode b_F_told 17 = .ok (.iload_n 3, 1) := by decide +kernel
theorem d_F_told_18 : decode b_F_told 18 = .ok (.tableswitch 62 0 3 #[30, 36, 42, 56], 30) := by decide +kernel
theorem d_F_told_48 : decode b_F_told 48 = .ok (.aload 4, 2) := by decide +kernel
theorem d_F_told_50 : decode b_F_told 50 = .ok (.getfield 48, 3) := by decide +kernel
theorem d_F_told_53 : decode b_F_told 53 = .ok (.ireturn, 1) := by decide +kernel
theorem d_F_told_54 : decode b_F_told 54 = .ok (.aload 4, 2) := by decide +kernel
theorem d_F_told_56 : decode b_F_told 56 = .ok (.getfield 102, 3) := by decide +kernel
theorem d_F_told_59 : decode b_F_told 59 = .ok (.ireturn, 1) := by decide +kernel
theorem d_F_told_60 : decode b_F_told 60 = .ok (.aload 4, 2) := by decide +kernel
theorem d_F_told_62 : decode b_F_told 62 = .ok (.getfield 107, 3) := by decide +kernel
theorem d_F_told_65 : decode b_F_told 65 = .ok (.ifCond .eq 7, 3) := by decide +kernel
theorem d_F_told_68 : decode b_F_told 68 = .ok (.iconst 1, 1) := by decide +kernel
theorem d_F_told_69 : decode b_F_told 69 = .ok (.goto 4, 3) := by decide +kernel
theorem d_F_told_72 : decode b_F_told 72 = .ok (.iconst 0, 1) := by decide +kernel
theorem d_F_told_73 : decode b_F_told 73 = .ok (.ireturn, 1) := by decide +kernel
theorem d_F_told_74 : decode b_F_told 74 = .ok (.aload 4, 2) := by decide +kernel
theorem d_F_told_76 : decode b_F_told 76 = .ok (.getfield 193, 3) := by decide +kernel
theorem d_F_told_79 : decode b_F_told 79 = .ok (.ireturn, 1) := by decide +kernel
theorem d_F_told_80 : decode b_F_told 80 = .ok (.aload 4, 2) := by decide +kernel
theorem d_F_told_82 : decode b_F_told 82 = .ok (.getfield 201, 3) := by decide +kernel
theorem d_F_told_85 : decode b_F_told 85 = .ok (.ireturn, 1) := by decide +kernel
theorem d_F_score_0 : decode b_F_score 0 = .ok (.aload_n 0, 1) := by decide +kernel
theorem d_F_score_1 : decode b_F_score 1 = .ok (.iload_n 1, 1) := by decide +kernel
theorem d_F_score_2 : decode b_F_score 2 = .ok (.iload_n 2, 1) := by decide +kernel
theorem d_F_score_3 : decode b_F_score 3 = .ok (.invokevirtual 95, 3) := by decide +kernel
theorem d_F_score_6 : decode b_F_score 6 = .ok (.getfield 183, 3) := by decide +kernel
theorem d_F_score_9 : decode b_F_score 9 = .ok (.dreturn, 1) := by decide +kernel
theorem d_F_sent_0 : decode b_F_sent 0 = .ok (.iload_n 2, 1) := by decide +kernel
theorem d_F_sent_1 : decode b_F_sent 1 = .ok (.iconst 0, 1) := by decide +kernel
theorem d_F_sent_2 : decode b_F_sent 2 = .ok (.iconst 3, 1) := by decide +kernel
theorem d_F_sent_3 : decode b_F_sent 3 = .ok (.invokestatic 36, 3) := by decide +kernel
theorem d_F_sent_6 : decode b_F_sent 6 = .ok (.invokestatic 40, 3) := by decide +kernel
theorem d_F_sent_9 : decode b_F_sent 9 = .ok (.iload_n 1, 1) := by decide +kernel
theorem d_F_sent_10 : decode b_F_sent 10 = .ok (.iconst 0, 1) := by decide +kernel
theorem d_F_sent_11 : decode b_F_sent 11 = .ok (.aload_n 0, 1) := by decide +kernel
theorem d_F_sent_12 : decode b_F_sent 12 = .ok (.getfield 28, 3) := by decide +kernel
theorem d_F_sent_15 : decode b_F_sent 15 = .ok (.getfield 204, 3) := by decide +kernel
theorem d_F_sent_18 : decode b_F_sent 18 = .ok (.iconst 1, 1) := by decide +kernel
theorem d_F_sent_19 : decode b_F_sent 19 = .ok (.isub, 1) := by decide +kernel
theorem d_F_sent_20 : decode b_F_sent 20 = .ok (.invokestatic 36, 3) := by decide +kernel
theorem d_F_sent_23 : decode b_F_sent 23 = .ok (.ifCond .ne 13, 3) := by decide +kernel
theorem d_F_sent_26 : decode b_F_sent 26 = .ok (.new 207, 3) := by decide +kernel
theorem d_F_sent_29 : decode b_F_sent 29 = .ok (.dup, 1) := by decide +kernel
theorem d_F_sent_30 : decode b_F_sent 30 = .ok (.ldc 209, 2) := by decide +kernel
theorem d_F_sent_32 : decode b_F_sent 32 = .ok (.invokespecial 211, 3) := by decide +kernel
theorem d_F_sent_35 : decode b_F_sent 35 = .ok (.athrow, 1) := by decide +kernel
theorem d_F_sent_36 : decode b_F_sent 36 = .ok (.iload_n 2, 1) := by decide +kernel
theorem d_F_sent_37 : decode b_F_sent 37 = .ok (.tableswitch 57 0 2 #[27, 37, 47], 27) := by decide +kernel
theorem d_F_sent_64 : decode b_F_sent 64 = .ok (.aload_n 0, 1) := by decide +kernel
theorem d_F_sent_65 : decode b_F_sent 65 = .ok (.getfield 28, 3) := by decide +kernel
theorem d_F_sent_68 : decode b_F_sent 68 = .ok (.getfield 212, 3) := by decide +kernel
theorem d_F_sent_71 : decode b_F_sent 71 = .ok (.iload_n 1, 1) := by decide +kernel
theorem d_F_sent_72 : decode b_F_sent 72 = .ok (.iaload, 1) := by decide +kernel
theorem d_F_sent_73 : decode b_F_sent 73 = .ok (.ireturn, 1) := by decide +kernel
theorem d_F_sent_74 : decode b_F_sent 74 = .ok (.aload_n 0, 1) := by decide +kernel
theorem d_F_sent_75 : decode b_F_sent 75 = .ok (.getfield 28, 3) := by decide +kernel
theorem d_F_sent_78 : decode b_F_sent 78 = .ok (.getfield 216, 3) := by decide +kernel
theorem d_F_sent_81 : decode b_F_sent 81 = .ok (.iload_n 1, 1) := by decide +kernel
theorem d_F_sent_82 : decode b_F_sent 82 = .ok (.iaload, 1) := by decide +kernel
theorem d_F_sent_83 : decode b_F_sent 83 = .ok (.ireturn, 1) := by decide +kernel
theorem d_F_sent_84 : decode b_F_sent 84 = .ok (.aload_n 0, 1) := by decide +kernel
theorem d_F_sent_85 : decode b_F_sent 85 = .ok (.getfield 28, 3) := by decide +kernel
theorem d_F_sent_88 : decode b_F_sent 88 = .ok (.getfield 218, 3) := by decide +kernel
theorem d_F_sent_91 : decode b_F_sent 91 = .ok (.iload_n 1, 1) := by decide +kernel
theorem d_F_sent_92 : decode b_F_sent 92 = .ok (.iaload, 1) := by decide +kernel
theorem d_F_sent_93 : decode b_F_sent 93 = .ok (.ireturn, 1) := by decide +kernel
theorem d_F_sent_94 : decode b_F_sent 94 = .ok (.aload_n 0, 1) := by decide +kernel
theorem d_F_sent_95 : decode b_F_sent 95 = .ok (.getfield 28, 3) := by decide +kernel
theorem d_F_sent_98 : decode b_F_sent 98 = .ok (.getfield 221, 3) := by decide +kernel
theorem d_F_sent_101 : decode b_F_sent 101 = .ok (.iload_n 1, 1) := by decide +kernel
theorem d_F_sent_102 : decode b_F_sent 102 = .ok (.iaload, 1) := by decide +kernel
theorem d_F_sent_103 : decode b_F_sent 103 = .ok (.ireturn, 1) := by decide +kernel
theorem d_F_count_0 : decode b_F_count 0 = .ok (.iload_n 1, 1) := by decide +kernel
theorem d_F_count_1 : decode b_F_count 1 = .ok (.tableswitch 65 0 4 #[35, 40, 45, 51, 57], 35) := by decide +kernel
theorem d_F_count_36 : decode b_F_count 36 = .ok (.aload_n 0, 1) := by decide +kernel
theorem d_F_count_37 : decode b_F_count 37 = .ok (.getfield 73, 3) := by decide +kernel
theorem d_F_count_40 : decode b_F_count 40 = .ok (.ireturn, 1) := by decide +kernel
theorem d_F_count_41 : decode b_F_count 41 = .ok (.aload_n 0, 1) := by decide +kernel
theorem d_F_count_42 : decode b_F_count 42 = .ok (.getfield 137, 3) := by decide +kernel
theorem d_F_count_45 : decode b_F_count 45 = .ok (.ireturn, 1) := by decide +kernel
theorem d_F_count_46 : decode b_F_count 46 = .ok (.aload_n 0, 1) := by decide +kernel
theorem d_F_count_47 : decode b_F_count 47 = .ok (.iconst 0, 1) := by decide +kernel
theorem d_F_count_48 : decode b_F_count 48 = .ok (.invokevirtual 174, 3) := by decide +kernel
theorem d_F_count_51 : decode b_F_count 51 = .ok (.ireturn, 1) := by decide +kernel
theorem d_F_count_52 : decode b_F_count 52 = .ok (.aload_n 0, 1) := by decide +kernel
theorem d_F_count_53 : decode b_F_count 53 = .ok (.iconst 1, 1) := by decide +kernel
theorem d_F_count_54 : decode b_F_count 54 = .ok (.invokevirtual 174, 3) := by decide +kernel
theorem d_F_count_57 : decode b_F_count 57 = .ok (.ireturn, 1) := by decide +kernel
theorem d_F_count_58 : decode b_F_count 58 = .ok (.aload_n 0, 1) := by decide +kernel
theorem d_F_count_59 : decode b_F_count 59 = .ok (.getfield 28, 3) := by decide +kernel
theorem d_F_count_62 : decode b_F_count 62 = .ok (.getfield 224, 3) := by decide +kernel
theorem d_F_count_65 : decode b_F_count 65 = .ok (.ireturn, 1) := by decide +kernel
theorem d_F_count_66 : decode b_F_count 66 = .ok (.iload_n 1, 1) := by decide +kernel
theorem d_F_count_67 : decode b_F_count 67 = .ok (.bipush 10, 2) := by decide +kernel
theorem d_F_count_69 : decode b_F_count 69 = .ok (.bipush 49, 2) := by decide +kernel
theorem d_F_count_71 : decode b_F_count 71 = .ok (.invokestatic 36, 3) := by decide +kernel
theorem d_F_count_74 : decode b_F_count 74 = .ok (.ifCond .eq 15, 3) := by decide +kernel
theorem d_F_count_77 : decode b_F_count 77 = .ok (.iload_n 1, 1) := by decide +kernel
theorem d_F_count_78 : decode b_F_count 78 = .ok (.bipush 10, 2) := by decide +kernel
theorem d_F_count_80 : decode b_F_count 80 = .ok (.irem, 1) := by decide +kernel
theorem d_F_count_81 : decode b_F_count 81 = .ok (.iconst 3, 1) := by decide +kernel
end
section
theorem d_F_count_82 : decode b_F_count 82 = .ok (.if_icmp .ge 7, 3) := by decide +kernel
theorem d_F_count_85 : decode b_F_count 85 = .ok (.iconst 1, 1) := by decide +kernel
theorem d_F_count_86 : decode b_F_count 86 = .ok (.goto 4, 3) := by decide +kernel
theorem d_F_count_89 : decode b_F_count 89 = .ok (.iconst 0, 1) := by decide +kernel
theorem d_F_count_90 : decode b_F_count 90 = .ok (.invokestatic 40, 3) := by decide +kernel
theorem d_F_count_93 : decode b_F_count 93 = .ok (.aload_n 0, 1) := by decide +kernel
theorem d_F_count_94 : decode b_F_count 94 = .ok (.getfield 11, 3) := by decide +kernel
theorem d_F_count_97 : decode b_F_count 97 = .ok (.iload_n 1, 1) := by decide +kernel
theorem d_F_count_98 : decode b_F_count 98 = .ok (.bipush 10, 2) := by decide +kernel
theorem d_F_count_100 : decode b_F_count 100 = .ok (.irem, 1) := by decide +kernel
theorem d_F_count_101 : decode b_F_count 101 = .ok (.aaload, 1) := by decide +kernel
theorem d_F_count_102 : decode b_F_count 102 = .ok (.iload_n 1, 1) := by decide +kernel
theorem d_F_count_103 : decode b_F_count 103 = .ok (.bipush 10, 2) := by decide +kernel
theorem d_F_count_105 : decode b_F_count 105 = .ok (.idiv, 1) := by decide +kernel
theorem d_F_count_106 : decode b_F_count 106 = .ok (.invokestatic 227, 3) := by decide +kernel
theorem d_F_count_109 : decode b_F_count 109 = .ok (.ireturn, 1) := by decide +kernel
theorem d_F_countOfList_0 : decode b_F_countOfList 0 = .ok (.iload_n 1, 1) := by decide +kernel
theorem d_F_countOfList_1 : decode b_F_countOfList 1 = .ok (.tableswitch 42 1 3 #[27, 32, 37], 27) := by decide +kernel
theorem d_F_countOfList_28 : decode b_F_countOfList 28 = .ok (.aload_n 0, 1) := by decide +kernel
theorem d_F_countOfList_29 : decode b_F_countOfList 29 = .ok (.invokevirtual 231, 3) := by decide +kernel
theorem d_F_countOfList_32 : decode b_F_countOfList 32 = .ok (.ireturn, 1) := by decide +kernel
theorem d_F_countOfList_33 : decode b_F_countOfList 33 = .ok (.aload_n 0, 1) := by decide +kernel
theorem d_F_countOfList_34 : decode b_F_countOfList 34 = .ok (.invokevirtual 235, 3) := by decide +kernel
theorem d_F_countOfList_37 : decode b_F_countOfList 37 = .ok (.ireturn, 1) := by decide +kernel
theorem d_F_countOfList_38 : decode b_F_countOfList 38 = .ok (.aload_n 0, 1) := by decide +kernel
theorem d_F_countOfList_39 : decode b_F_countOfList 39 = .ok (.getfield 238, 3) := by decide +kernel
theorem d_F_countOfList_42 : decode b_F_countOfList 42 = .ok (.ireturn, 1) := by decide +kernel
theorem d_F_countOfList_43 : decode b_F_countOfList 43 = .ok (.aload_n 0, 1) := by decide +kernel
theorem d_F_countOfList_44 : decode b_F_countOfList 44 = .ok (.getfield 241, 3) := by decide +kernel
theorem d_F_countOfList_47 : decode b_F_countOfList 47 = .ok (.ireturn, 1) := by decide +kernel
theorem d_F_postsThatAre_0 : decode b_F_postsThatAre 0 = .ok (.iconst 0, 1) := by decide +kernel
theorem d_F_postsThatAre_1 : decode b_F_postsThatAre 1 = .ok (.istore_n 2, 1) := by decide +kernel
theorem d_F_postsThatAre_2 : decode b_F_postsThatAre 2 = .ok (.iconst 0, 1) := by decide +kernel
theorem d_F_postsThatAre_3 : decode b_F_postsThatAre 3 = .ok (.istore_n 3, 1) := by decide +kernel
theorem d_F_postsThatAre_4 : decode b_F_postsThatAre 4 = .ok (.iload_n 3, 1) := by decide +kernel
theorem d_F_postsThatAre_5 : decode b_F_postsThatAre 5 = .ok (.aload_n 0, 1) := by decide +kernel
theorem d_F_postsThatAre_6 : decode b_F_postsThatAre 6 = .ok (.getfield 137, 3) := by decide +kernel
theorem d_F_postsThatAre_9 : decode b_F_postsThatAre 9 = .ok (.if_icmp .ge 25, 3) := by decide +kernel
theorem d_F_postsThatAre_12 : decode b_F_postsThatAre 12 = .ok (.aload_n 0, 1) := by decide +kernel
theorem d_F_postsThatAre_13 : decode b_F_postsThatAre 13 = .ok (.getfield 20, 3) := by decide +kernel
theorem d_F_postsThatAre_16 : decode b_F_postsThatAre 16 = .ok (.iload_n 3, 1) := by decide +kernel
theorem d_F_postsThatAre_17 : decode b_F_postsThatAre 17 = .ok (.aaload, 1) := by decide +kernel
theorem d_F_postsThatAre_18 : decode b_F_postsThatAre 18 = .ok (.getfield 161, 3) := by decide +kernel
theorem d_F_postsThatAre_21 : decode b_F_postsThatAre 21 = .ok (.iload_n 1, 1) := by decide +kernel
theorem d_F_postsThatAre_22 : decode b_F_postsThatAre 22 = .ok (.if_icmp .ne 6, 3) := by decide +kernel
theorem d_F_postsThatAre_25 : decode b_F_postsThatAre 25 = .ok (.iinc 2 1, 3) := by decide +kernel
theorem d_F_postsThatAre_28 : decode b_F_postsThatAre 28 = .ok (.iinc 3 1, 3) := by decide +kernel
theorem d_F_postsThatAre_31 : decode b_F_postsThatAre 31 = .ok (.goto (-27), 3) := by decide +kernel
theorem d_F_postsThatAre_34 : decode b_F_postsThatAre 34 = .ok (.iload_n 2, 1) := by decide +kernel
theorem d_F_postsThatAre_35 : decode b_F_postsThatAre 35 = .ok (.ireturn, 1) := by decide +kernel
theorem d_F_letThrough_0 : decode b_F_letThrough 0 = .ok (.aload_n 0, 1) := by decide +kernel
theorem d_F_letThrough_1 : decode b_F_letThrough 1 = .ok (.getfield 20, 3) := by decide +kernel
theorem d_F_letThrough_4 : decode b_F_letThrough 4 = .ok (.iload_n 1, 1) := by decide +kernel
theorem d_F_letThrough_5 : decode b_F_letThrough 5 = .ok (.aaload, 1) := by decide +kernel
theorem d_F_letThrough_6 : decode b_F_letThrough 6 = .ok (.astore_n 2, 1) := by decide +kernel
theorem d_F_letThrough_7 : decode b_F_letThrough 7 = .ok (.aload_n 2, 1) := by decide +kernel
theorem d_F_letThrough_8 : decode b_F_letThrough 8 = .ok (.iconst 1, 1) := by decide +kernel
theorem d_F_letThrough_9 : decode b_F_letThrough 9 = .ok (.putfield 161, 3) := by decide +kernel
theorem d_F_letThrough_12 : decode b_F_letThrough 12 = .ok (.aload_n 0, 1) := by decide +kernel
theorem d_F_letThrough_13 : decode b_F_letThrough 13 = .ok (.getfield 11, 3) := by decide +kernel
theorem d_F_letThrough_16 : decode b_F_letThrough 16 = .ok (.aload_n 2, 1) := by decide +kernel
theorem d_F_letThrough_17 : decode b_F_letThrough 17 = .ok (.getfield 166, 3) := by decide +kernel
theorem d_F_letThrough_20 : decode b_F_letThrough 20 = .ok (.aaload, 1) := by decide +kernel
theorem d_F_letThrough_21 : decode b_F_letThrough 21 = .ok (.iload_n 1, 1) := by decide +kernel
theorem d_F_letThrough_22 : decode b_F_letThrough 22 = .ok (.aload_n 2, 1) := by decide +kernel
theorem d_F_letThrough_23 : decode b_F_letThrough 23 = .ok (.aload_n 0, 1) := by decide +kernel
theorem d_F_letThrough_24 : decode b_F_letThrough 24 = .ok (.getfield 73, 3) := by decide +kernel
theorem d_F_letThrough_27 : decode b_F_letThrough 27 = .ok (.aload_n 0, 1) := by decide +kernel
theorem d_F_letThrough_28 : decode b_F_letThrough 28 = .ok (.getfield 28, 3) := by decide +kernel
theorem d_F_letThrough_31 : decode b_F_letThrough 31 = .ok (.invokevirtual 244, 3) := by decide +kernel
theorem d_F_letThrough_34 : decode b_F_letThrough 34 = .ok (.return_, 1) := by decide +kernel
theorem d_F_existing_0 : decode b_F_existing 0 = .ok (.iload_n 1, 1) := by decide +kernel
theorem d_F_existing_1 : decode b_F_existing 1 = .ok (.iload_n 2, 1) := by decide +kernel
theorem d_F_existing_2 : decode b_F_existing 2 = .ok (.invokestatic 32, 3) := by decide +kernel
theorem d_F_existing_5 : decode b_F_existing 5 = .ok (.aload_n 0, 1) := by decide +kernel
theorem d_F_existing_6 : decode b_F_existing 6 = .ok (.getfield 11, 3) := by decide +kernel
theorem d_F_existing_9 : decode b_F_existing 9 = .ok (.iload_n 1, 1) := by decide +kernel
theorem d_F_existing_10 : decode b_F_existing 10 = .ok (.aaload, 1) := by decide +kernel
theorem d_F_existing_11 : decode b_F_existing 11 = .ok (.getfield 44, 3) := by decide +kernel
theorem d_F_existing_14 : decode b_F_existing 14 = .ok (.iload_n 2, 1) := by decide +kernel
theorem d_F_existing_15 : decode b_F_existing 15 = .ok (.aaload, 1) := by decide +kernel
theorem d_F_existing_16 : decode b_F_existing 16 = .ok (.astore_n 3, 1) := by decide +kernel
theorem d_F_existing_17 : decode b_F_existing 17 = .ok (.aload_n 3, 1) := by decide +kernel
theorem d_F_existing_18 : decode b_F_existing 18 = .ok (.getfield 48, 3) := by decide +kernel
theorem d_F_existing_21 : decode b_F_existing 21 = .ok (.iconst (-1), 1) := by decide +kernel
theorem d_F_existing_22 : decode b_F_existing 22 = .ok (.if_icmp .ne 13, 3) := by decide +kernel
theorem d_F_existing_25 : decode b_F_existing 25 = .ok (.new 90, 3) := by decide +kernel
theorem d_F_existing_28 : decode b_F_existing 28 = .ok (.dup, 1) := by decide +kernel
theorem d_F_existing_29 : decode b_F_existing 29 = .ok (.ldc 248, 2) := by decide +kernel
theorem d_F_existing_31 : decode b_F_existing 31 = .ok (.invokespecial 94, 3) := by decide +kernel
theorem d_F_existing_34 : decode b_F_existing 34 = .ok (.athrow, 1) := by decide +kernel
theorem d_F_existing_35 : decode b_F_existing 35 = .ok (.aload_n 3, 1) := by decide +kernel
theorem d_F_existing_36 : decode b_F_existing 36 = .ok (.areturn, 1) := by decide +kernel
theorem d_F_requirePlace_0 : decode b_F_requirePlace 0 = .ok (.iload_n 0, 1) := by decide +kernel
theorem d_F_requirePlace_1 : decode b_F_requirePlace 1 = .ok (.iconst 0, 1) := by decide +kernel
theorem d_F_requirePlace_2 : decode b_F_requirePlace 2 = .ok (.iconst 2, 1) := by decide +kernel
theorem d_F_requirePlace_3 : decode b_F_requirePlace 3 = .ok (.invokestatic 36, 3) := by decide +kernel
theorem d_F_requirePlace_6 : decode b_F_requirePlace 6 = .ok (.ifCond .eq 17, 3) := by decide +kernel
theorem d_F_requirePlace_9 : decode b_F_requirePlace 9 = .ok (.iload_n 1, 1) := by decide +kernel
theorem d_F_requirePlace_10 : decode b_F_requirePlace 10 = .ok (.iconst 0, 1) := by decide +kernel
theorem d_F_requirePlace_11 : decode b_F_requirePlace 11 = .ok (.bipush 11, 2) := by decide +kernel
theorem d_F_requirePlace_13 : decode b_F_requirePlace 13 = .ok (.invokestatic 36, 3) := by decide +kernel
theorem d_F_requirePlace_16 : decode b_F_requirePlace 16 = .ok (.ifCond .eq 7, 3) := by decide +kernel
theorem d_F_requirePlace_19 : decode b_F_requirePlace 19 = .ok (.iconst 1, 1) := by decide +kernel
theorem d_F_requirePlace_20 : decode b_F_requirePlace 20 = .ok (.goto 4, 3) := by decide +kernel
theorem d_F_requirePlace_23 : decode b_F_requirePlace 23 = .ok (.iconst 0, 1) := by decide +kernel
theorem d_F_requirePlace_24 : decode b_F_requirePlace 24 = .ok (.invokestatic 40, 3) := by decide +kernel
theorem d_F_requirePlace_27 : decode b_F_requirePlace 27 = .ok (.return_, 1) := by decide +kernel
theorem d_F_require_0 : decode b_F_require 0 = .ok (.iload_n 0, 1) := by decide +kernel
theorem d_F_require_1 : decode b_F_require 1 = .ok (.ifCond .ne 13, 3) := by decide +kernel
theorem d_F_require_4 : decode b_F_require 4 = .ok (.new 250, 3) := by decide +kernel
theorem d_F_require_7 : decode b_F_require 7 = .ok (.dup, 1) := by decide +kernel
theorem d_F_require_8 : decode b_F_require 8 = .ok (.ldc 252, 2) := by decide +kernel
theorem d_F_require_10 : decode b_F_require 10 = .ok (.invokespecial 254, 3) := by decide +kernel
theorem d_F_require_13 : decode b_F_require 13 = .ok (.athrow, 1) := by decide +kernel
theorem d_F_require_14 : decode b_F_require 14 = .ok (.return_, 1) := by decide +kernel
theorem d_F_isWithin_0 : decode b_F_isWithin 0 = .ok (.iload_n 0, 1) := by decide +kernel
theorem d_F_isWithin_1 : decode b_F_isWithin 1 = .ok (.iload_n 1, 1) := by decide +kernel
theorem d_F_isWithin_2 : decode b_F_isWithin 2 = .ok (.if_icmp .lt 12, 3) := by decide +kernel
theorem d_F_isWithin_5 : decode b_F_isWithin 5 = .ok (.iload_n 0, 1) := by decide +kernel
theorem d_F_isWithin_6 : decode b_F_isWithin 6 = .ok (.iload_n 2, 1) := by decide +kernel
theorem d_F_isWithin_7 : decode b_F_isWithin 7 = .ok (.if_icmp .gt 7, 3) := by decide +kernel
theorem d_F_isWithin_10 : decode b_F_isWithin 10 = .ok (.iconst 1, 1) := by decide +kernel
theorem d_F_isWithin_11 : decode b_F_isWithin 11 = .ok (.goto 4, 3) := by decide +kernel
theorem d_F_isWithin_14 : decode b_F_isWithin 14 = .ok (.iconst 0, 1) := by decide +kernel
theorem d_F_isWithin_15 : decode b_F_isWithin 15 = .ok (.ireturn, 1) := by decide +kernel
theorem d_L_init_0 : decode b_L_init 0 = .ok (.aload_n 0, 1) := by decide +kernel
theorem d_L_init_1 : decode b_L_init 1 = .ok (.invokespecial 3, 3) := by decide +kernel
theorem d_L_init_4 : decode b_L_init 4 = .ok (.aload_n 0, 1) := by decide +kernel
theorem d_L_init_5 : decode b_L_init 5 = .ok (.iload_n 1, 1) := by decide +kernel
theorem d_L_init_6 : decode b_L_init 6 = .ok (.putfield 9, 3) := by decide +kernel
theorem d_L_init_9 : decode b_L_init 9 = .ok (.aload_n 0, 1) := by decide +kernel
theorem d_L_init_10 : decode b_L_init 10 = .ok (.bipush 12, 2) := by decide +kernel
theorem d_L_init_12 : decode b_L_init 12 = .ok (.anewarray 15, 3) := by decide +kernel
theorem d_L_init_15 : decode b_L_init 15 = .ok (.putfield 17, 3) := by decide +kernel
theorem d_L_init_18 : decode b_L_init 18 = .ok (.iconst 0, 1) := by decide +kernel
theorem d_L_init_19 : decode b_L_init 19 = .ok (.istore_n 2, 1) := by decide +kernel
theorem d_L_init_20 : decode b_L_init 20 = .ok (.iload_n 2, 1) := by decide +kernel
theorem d_L_init_21 : decode b_L_init 21 = .ok (.bipush 12, 2) := by decide +kernel
theorem d_L_init_23 : decode b_L_init 23 = .ok (.if_icmp .ge 22, 3) := by decide +kernel
theorem d_L_init_26 : decode b_L_init 26 = .ok (.aload_n 0, 1) := by decide +kernel
theorem d_L_init_27 : decode b_L_init 27 = .ok (.getfield 17, 3) := by decide +kernel
theorem d_L_init_30 : decode b_L_init 30 = .ok (.iload_n 2, 1) := by decide +kernel
theorem d_L_init_31 : decode b_L_init 31 = .ok (.new 15, 3) := by decide +kernel
theorem d_L_init_34 : decode b_L_init 34 = .ok (.dup, 1) := by decide +kernel
theorem d_L_init_35 : decode b_L_init 35 = .ok (.invokespecial 21, 3) := by decide +kernel
theorem d_L_init_38 : decode b_L_init 38 = .ok (.aastore, 1) := by decide +kernel
theorem d_L_init_39 : decode b_L_init 39 = .ok (.iinc 2 1, 3) := by decide +kernel
theorem d_L_init_42 : decode b_L_init 42 = .ok (.goto (-22), 3) := by decide +kernel
theorem d_L_init_45 : decode b_L_init 45 = .ok (.aload_n 0, 1) := by decide +kernel
theorem d_L_init_46 : decode b_L_init 46 = .ok (.bipush 12, 2) := by decide +kernel
theorem d_L_init_48 : decode b_L_init 48 = .ok (.newarray .boolean, 2) := by decide +kernel
theorem d_L_init_50 : decode b_L_init 50 = .ok (.putfield 22, 3) := by decide +kernel
theorem d_L_init_53 : decode b_L_init 53 = .ok (.aload_n 0, 1) := by decide +kernel
theorem d_L_init_54 : decode b_L_init 54 = .ok (.bipush 10, 2) := by decide +kernel
theorem d_L_init_56 : decode b_L_init 56 = .ok (.newarray .boolean, 2) := by decide +kernel
theorem d_L_init_58 : decode b_L_init 58 = .ok (.putfield 26, 3) := by decide +kernel
theorem d_L_init_61 : decode b_L_init 61 = .ok (.aload_n 0, 1) := by decide +kernel
theorem d_L_init_62 : decode b_L_init 62 = .ok (.bipush 100, 2) := by decide +kernel
theorem d_L_init_64 : decode b_L_init 64 = .ok (.putfield 29, 3) := by decide +kernel
theorem d_L_init_67 : decode b_L_init 67 = .ok (.aload_n 0, 1) := by decide +kernel
theorem d_L_init_68 : decode b_L_init 68 = .ok (.sipush 200, 3) := by decide +kernel
theorem d_L_init_71 : decode b_L_init 71 = .ok (.putfield 32, 3) := by decide +kernel
theorem d_L_init_74 : decode b_L_init 74 = .ok (.aload_n 0, 1) := by decide +kernel
theorem d_L_init_75 : decode b_L_init 75 = .ok (.ldc2_w 35, 3) := by decide +kernel
theorem d_L_init_78 : decode b_L_init 78 = .ok (.putfield 37, 3) := by decide +kernel
theorem d_L_init_81 : decode b_L_init 81 = .ok (.return_, 1) := by decide +kernel
theorem d_L_changeOpen_0 : decode b_L_changeOpen 0 = .ok (.aload_n 0, 1) := by decide +kernel
theorem d_L_changeOpen_1 : decode b_L_changeOpen 1 = .ok (.getfield 41, 3) := by decide +kernel
theorem d_L_changeOpen_4 : decode b_L_changeOpen 4 = .ok (.ifCond .eq 7, 3) := by decide +kernel
theorem d_L_changeOpen_7 : decode b_L_changeOpen 7 = .ok (.dconst 1, 1) := by decide +kernel
theorem d_L_changeOpen_8 : decode b_L_changeOpen 8 = .ok (.goto 4, 3) := by decide +kernel
theorem d_L_changeOpen_11 : decode b_L_changeOpen 11 = .ok (.dconst 0, 1) := by decide +kernel
theorem d_L_changeOpen_12 : decode b_L_changeOpen 12 = .ok (.dstore_n 2, 1) := by decide +kernel
theorem d_L_changeOpen_13 : decode b_L_changeOpen 13 = .ok (.aload_n 0, 1) := by decide +kernel
theorem d_L_changeOpen_14 : decode b_L_changeOpen 14 = .ok (.iload_n 1, 1) := by decide +kernel
theorem d_L_changeOpen_15 : decode b_L_changeOpen 15 = .ok (.putfield 41, 3) := by decide +kernel
theorem d_L_changeOpen_18 : decode b_L_changeOpen 18 = .ok (.dload_n 2, 1) := by decide +kernel
theorem d_L_changeOpen_19 : decode b_L_changeOpen 19 = .ok (.dreturn, 1) := by decide +kernel
theorem d_L_changeWatched_0 : decode b_L_changeWatched 0 = .ok (.aload_n 0, 1) := by decide +kernel
theorem d_L_changeWatched_1 : decode b_L_changeWatched 1 = .ok (.getfield 45, 3) := by decide +kernel
theorem d_L_changeWatched_4 : decode b_L_changeWatched 4 = .ok (.ifCond .eq 7, 3) := by decide +kernel
theorem d_L_changeWatched_7 : decode b_L_changeWatched 7 = .ok (.dconst 1, 1) := by decide +kernel
theorem d_L_changeWatched_8 : decode b_L_changeWatched 8 = .ok (.goto 4, 3) := by decide +kernel
theorem d_L_changeWatched_11 : decode b_L_changeWatched 11 = .ok (.dconst 0, 1) := by decide +kernel
theorem d_L_changeWatched_12 : decode b_L_changeWatched 12 = .ok (.dstore_n 2, 1) := by decide +kernel
theorem d_L_changeWatched_13 : decode b_L_changeWatched 13 = .ok (.aload_n 0, 1) := by decide +kernel
theorem d_L_changeWatched_14 : decode b_L_changeWatched 14 = .ok (.iload_n 1, 1) := by decide +kernel
theorem d_L_changeWatched_15 : decode b_L_changeWatched 15 = .ok (.putfield 45, 3) := by decide +kernel
theorem d_L_changeWatched_18 : decode b_L_changeWatched 18 = .ok (.dload_n 2, 1) := by decide +kernel
theorem d_L_changeWatched_19 : decode b_L_changeWatched 19 = .ok (.dreturn, 1) := by decide +kernel
theorem d_L_changeGreatest_0 : decode b_L_changeGreatest 0 = .ok (.aload_n 0, 1) := by decide +kernel
theorem d_L_changeGreatest_1 : decode b_L_changeGreatest 1 = .ok (.getfield 29, 3) := by decide +kernel
theorem d_L_changeGreatest_4 : decode b_L_changeGreatest 4 = .ok (.i2d, 1) := by decide +kernel
theorem d_L_changeGreatest_5 : decode b_L_changeGreatest 5 = .ok (.dstore_n 2, 1) := by decide +kernel
theorem d_L_changeGreatest_6 : decode b_L_changeGreatest 6 = .ok (.aload_n 0, 1) := by decide +kernel
theorem d_L_changeGreatest_7 : decode b_L_changeGreatest 7 = .ok (.iload_n 1, 1) := by decide +kernel
theorem d_L_changeGreatest_8 : decode b_L_changeGreatest 8 = .ok (.putfield 29, 3) := by decide +kernel
theorem d_L_changeGreatest_11 : decode b_L_changeGreatest 11 = .ok (.dload_n 2, 1) := by decide +kernel
theorem d_L_changeGreatest_12 : decode b_L_changeGreatest 12 = .ok (.dreturn, 1) := by decide +kernel
theorem d_L_changeFull_0 : decode b_L_changeFull 0 = .ok (.aload_n 0, 1) := by decide +kernel
theorem d_L_changeFull_1 : decode b_L_changeFull 1 = .ok (.getfield 32, 3) := by decide +kernel
theorem d_L_changeFull_4 : decode b_L_changeFull 4 = .ok (.i2d, 1) := by decide +kernel
theorem d_L_changeFull_5 : decode b_L_changeFull 5 = .ok (.dstore_n 2, 1) := by decide +kernel
theorem d_L_changeFull_6 : decode b_L_changeFull 6 = .ok (.aload_n 0, 1) := by decide +kernel
theorem d_L_changeFull_7 : decode b_L_changeFull 7 = .ok (.iload_n 1, 1) := by decide +kernel
theorem d_L_changeFull_8 : decode b_L_changeFull 8 = .ok (.putfield 32, 3) := by decide +kernel
theorem d_L_changeFull_11 : decode b_L_changeFull 11 = .ok (.dload_n 2, 1) := by decide +kernel
theorem d_L_changeFull_12 : decode b_L_changeFull 12 = .ok (.dreturn, 1) := by decide +kernel
theorem d_L_changeBest_0 : decode b_L_changeBest 0 = .ok (.aload_n 0, 1) := by decide +kernel
theorem d_L_changeBest_1 : decode b_L_changeBest 1 = .ok (.getfield 37, 3) := by decide +kernel
theorem d_L_changeBest_4 : decode b_L_changeBest 4 = .ok (.dstore_n 3, 1) := by decide +kernel
theorem d_L_changeBest_5 : decode b_L_changeBest 5 = .ok (.aload_n 0, 1) := by decide +kernel
theorem d_L_changeBest_6 : decode b_L_changeBest 6 = .ok (.dload_n 1, 1) := by decide +kernel
theorem d_L_changeBest_7 : decode b_L_changeBest 7 = .ok (.putfield 37, 3) := by decide +kernel
theorem d_L_changeBest_10 : decode b_L_changeBest 10 = .ok (.dload_n 3, 1) := by decide +kernel
theorem d_L_changeBest_11 : decode b_L_changeBest 11 = .ok (.dreturn, 1) := by decide +kernel
theorem d_L_changeBarred_0 : decode b_L_changeBarred 0 = .ok (.aload_n 0, 1) := by decide +kernel
theorem d_L_changeBarred_1 : decode b_L_changeBarred 1 = .ok (.getfield 26, 3) := by decide +kernel
theorem d_L_changeBarred_4 : decode b_L_changeBarred 4 = .ok (.iload_n 1, 1) := by decide +kernel
theorem d_L_changeBarred_5 : decode b_L_changeBarred 5 = .ok (.baload, 1) := by decide +kernel
theorem d_L_changeBarred_6 : decode b_L_changeBarred 6 = .ok (.ifCond .eq 7, 3) := by decide +kernel
theorem d_L_changeBarred_9 : decode b_L_changeBarred 9 = .ok (.dconst 1, 1) := by decide +kernel
theorem d_L_changeBarred_10 : decode b_L_changeBarred 10 = .ok (.goto 4, 3) := by decide +kernel
theorem d_L_changeBarred_13 : decode b_L_changeBarred 13 = .ok (.dconst 0, 1) := by decide +kernel
theorem d_L_changeBarred_14 : decode b_L_changeBarred 14 = .ok (.dstore_n 3, 1) := by decide +kernel
theorem d_L_changeBarred_15 : decode b_L_changeBarred 15 = .ok (.aload_n 0, 1) := by decide +kernel
theorem d_L_changeBarred_16 : decode b_L_changeBarred 16 = .ok (.getfield 26, 3) := by decide +kernel
theorem d_L_changeBarred_19 : decode b_L_changeBarred 19 = .ok (.iload_n 1, 1) := by decide +kernel
theorem d_L_changeBarred_20 : decode b_L_changeBarred 20 = .ok (.iload_n 2, 1) := by decide +kernel
theorem d_L_changeBarred_21 : decode b_L_changeBarred 21 = .ok (.bastore, 1) := by decide +kernel
theorem d_L_changeBarred_22 : decode b_L_changeBarred 22 = .ok (.dload_n 3, 1) := by decide +kernel
theorem d_L_changeBarred_23 : decode b_L_changeBarred 23 = .ok (.dreturn, 1) := by decide +kernel
theorem d_L_subscriptionCount_0 : decode b_L_subscriptionCount 0 = .ok (.iconst 0, 1) := by decide +kernel
theorem d_L_subscriptionCount_1 : decode b_L_subscriptionCount 1 = .ok (.istore_n 1, 1) := by decide +kernel
theorem d_L_subscriptionCount_2 : decode b_L_subscriptionCount 2 = .ok (.iconst 0, 1) := by decide +kernel
theorem d_L_subscriptionCount_3 : decode b_L_subscriptionCount 3 = .ok (.istore_n 2, 1) := by decide +kernel
theorem d_L_subscriptionCount_4 : decode b_L_subscriptionCount 4 = .ok (.iload_n 2, 1) := by decide +kernel
theorem d_L_subscriptionCount_5 : decode b_L_subscriptionCount 5 = .ok (.bipush 12, 2) := by decide +kernel
theorem d_L_subscriptionCount_7 : decode b_L_subscriptionCount 7 = .ok (.if_icmp .ge 25, 3) := by decide +kernel
theorem d_L_subscriptionCount_10 : decode b_L_subscriptionCount 10 = .ok (.aload_n 0, 1) := by decide +kernel
theorem d_L_subscriptionCount_11 : decode b_L_subscriptionCount 11 = .ok (.getfield 17, 3) := by decide +kernel
theorem d_L_subscriptionCount_14 : decode b_L_subscriptionCount 14 = .ok (.iload_n 2, 1) := by decide +kernel
theorem d_L_subscriptionCount_15 : decode b_L_subscriptionCount 15 = .ok (.aaload, 1) := by decide +kernel
theorem d_L_subscriptionCount_16 : decode b_L_subscriptionCount 16 = .ok (.getfield 48, 3) := by decide +kernel
theorem d_L_subscriptionCount_19 : decode b_L_subscriptionCount 19 = .ok (.iconst (-1), 1) := by decide +kernel
theorem d_L_subscriptionCount_20 : decode b_L_subscriptionCount 20 = .ok (.if_icmp .eq 6, 3) := by decide +kernel
theorem d_L_subscriptionCount_23 : decode b_L_subscriptionCount 23 = .ok (.iinc 1 1, 3) := by decide +kernel
theorem d_L_subscriptionCount_26 : decode b_L_subscriptionCount 26 = .ok (.iinc 2 1, 3) := by decide +kernel
theorem d_L_subscriptionCount_29 : decode b_L_subscriptionCount 29 = .ok (.goto (-25), 3) := by decide +kernel
theorem d_L_subscriptionCount_32 : decode b_L_subscriptionCount 32 = .ok (.iload_n 1, 1) := by decide +kernel
theorem d_L_subscriptionCount_33 : decode b_L_subscriptionCount 33 = .ok (.ireturn, 1) := by decide +kernel
theorem d_L_liveCount_0 : decode b_L_liveCount 0 = .ok (.iconst 0, 1) := by decide +kernel
theorem d_L_liveCount_1 : decode b_L_liveCount 1 = .ok (.istore_n 1, 1) := by decide +kernel
theorem d_L_liveCount_2 : decode b_L_liveCount 2 = .ok (.iconst 0, 1) := by decide +kernel
theorem d_L_liveCount_3 : decode b_L_liveCount 3 = .ok (.istore_n 2, 1) := by decide +kernel
theorem d_L_liveCount_4 : decode b_L_liveCount 4 = .ok (.iload_n 2, 1) := by decide +kernel
theorem d_L_liveCount_5 : decode b_L_liveCount 5 = .ok (.bipush 12, 2) := by decide +kernel
theorem d_L_liveCount_7 : decode b_L_liveCount 7 = .ok (.if_icmp .ge 25, 3) := by decide +kernel
theorem d_L_liveCount_10 : decode b_L_liveCount 10 = .ok (.aload_n 0, 1) := by decide +kernel
theorem d_L_liveCount_11 : decode b_L_liveCount 11 = .ok (.getfield 17, 3) := by decide +kernel
theorem d_L_liveCount_14 : decode b_L_liveCount 14 = .ok (.iload_n 2, 1) := by decide +kernel
theorem d_L_liveCount_15 : decode b_L_liveCount 15 = .ok (.aaload, 1) := by decide +kernel
theorem d_L_liveCount_16 : decode b_L_liveCount 16 = .ok (.getfield 48, 3) := by decide +kernel
theorem d_L_liveCount_19 : decode b_L_liveCount 19 = .ok (.iconst 1, 1) := by decide +kernel
theorem d_L_liveCount_20 : decode b_L_liveCount 20 = .ok (.if_icmp .ne 6, 3) := by decide +kernel
theorem d_L_liveCount_23 : decode b_L_liveCount 23 = .ok (.iinc 1 1, 3) := by decide +kernel
theorem d_L_liveCount_26 : decode b_L_liveCount 26 = .ok (.iinc 2 1, 3) := by decide +kernel
theorem d_L_liveCount_29 : decode b_L_liveCount 29 = .ok (.goto (-25), 3) := by decide +kernel
theorem d_L_liveCount_32 : decode b_L_liveCount 32 = .ok (.iload_n 1, 1) := by decide +kernel
theorem d_L_liveCount_33 : decode b_L_liveCount 33 = .ok (.ireturn, 1) := by decide +kernel
theorem d_L_refusesSender_0 : decode b_L_refusesSender 0 = .ok (.aload_n 0, 1) := by decide +kernel
theorem d_L_refusesSender_1 : decode b_L_refusesSender 1 = .ok (.getfield 22, 3) := by decide +kernel
theorem d_L_refusesSender_4 : decode b_L_refusesSender 4 = .ok (.iload_n 1, 1) := by decide +kernel
theorem d_L_refusesSender_5 : decode b_L_refusesSender 5 = .ok (.baload, 1) := by decide +kernel
theorem d_L_refusesSender_6 : decode b_L_refusesSender 6 = .ok (.ifCond .ne 23, 3) := by decide +kernel
theorem d_L_refusesSender_9 : decode b_L_refusesSender 9 = .ok (.aload_n 0, 1) := by decide +kernel
theorem d_L_refusesSender_10 : decode b_L_refusesSender 10 = .ok (.getfield 17, 3) := by decide +kernel
theorem d_L_refusesSender_13 : decode b_L_refusesSender 13 = .ok (.iload_n 1, 1) := by decide +kernel
theorem d_L_refusesSender_14 : decode b_L_refusesSender 14 = .ok (.aaload, 1) := by decide +kernel
theorem d_L_refusesSender_15 : decode b_L_refusesSender 15 = .ok (.getfield 48, 3) := by decide +kernel
theorem d_L_refusesSender_18 : decode b_L_refusesSender 18 = .ok (.iconst 1, 1) := by decide +kernel
theorem d_L_refusesSender_19 : decode b_L_refusesSender 19 = .ok (.if_icmp .eq 14, 3) := by decide +kernel
theorem d_L_refusesSender_22 : decode b_L_refusesSender 22 = .ok (.aload_n 0, 1) := by decide +kernel
theorem d_L_refusesSender_23 : decode b_L_refusesSender 23 = .ok (.getfield 41, 3) := by decide +kernel
theorem d_L_refusesSender_26 : decode b_L_refusesSender 26 = .ok (.ifCond .ne 7, 3) := by decide +kernel
theorem d_L_refusesSender_29 : decode b_L_refusesSender 29 = .ok (.iconst 1, 1) := by decide +kernel
theorem d_L_refusesSender_30 : decode b_L_refusesSender 30 = .ok (.goto 4, 3) := by decide +kernel
theorem d_L_refusesSender_33 : decode b_L_refusesSender 33 = .ok (.iconst 0, 1) := by decide +kernel
theorem d_L_refusesSender_34 : decode b_L_refusesSender 34 = .ok (.ireturn, 1) := by decide +kernel
theorem d_L_holdsBack_0 : decode b_L_holdsBack 0 = .ok (.aload_n 0, 1) := by decide +kernel
theorem d_L_holdsBack_1 : decode b_L_holdsBack 1 = .ok (.getfield 17, 3) := by decide +kernel
theorem d_L_holdsBack_4 : decode b_L_holdsBack 4 = .ok (.iload_n 1, 1) := by decide +kernel
theorem d_L_holdsBack_5 : decode b_L_holdsBack 5 = .ok (.aaload, 1) := by decide +kernel
theorem d_L_holdsBack_6 : decode b_L_holdsBack 6 = .ok (.getfield 51, 3) := by decide +kernel
theorem d_L_holdsBack_9 : decode b_L_holdsBack 9 = .ok (.ifCond .eq 5, 3) := by decide +kernel
theorem d_L_holdsBack_12 : decode b_L_holdsBack 12 = .ok (.iconst 0, 1) := by decide +kernel
theorem d_L_holdsBack_13 : decode b_L_holdsBack 13 = .ok (.ireturn, 1) := by decide +kernel
theorem d_L_holdsBack_14 : decode b_L_holdsBack 14 = .ok (.iload_n 2, 1) := by decide +kernel
theorem d_L_holdsBack_15 : decode b_L_holdsBack 15 = .ok (.aload_n 0, 1) := by decide +kernel
theorem d_L_holdsBack_16 : decode b_L_holdsBack 16 = .ok (.getfield 29, 3) := by decide +kernel
theorem d_L_holdsBack_19 : decode b_L_holdsBack 19 = .ok (.if_icmp .gt 19, 3) := by decide +kernel
theorem d_L_holdsBack_22 : decode b_L_holdsBack 22 = .ok (.aload_n 0, 1) := by decide +kernel
theorem d_L_holdsBack_23 : decode b_L_holdsBack 23 = .ok (.getfield 26, 3) := by decide +kernel
theorem d_L_holdsBack_26 : decode b_L_holdsBack 26 = .ok (.iload_n 3, 1) := by decide +kernel
theorem d_L_holdsBack_27 : decode b_L_holdsBack 27 = .ok (.baload, 1) := by decide +kernel
theorem d_L_holdsBack_28 : decode b_L_holdsBack 28 = .ok (.ifCond .ne 10, 3) := by decide +kernel
theorem d_L_holdsBack_31 : decode b_L_holdsBack 31 = .ok (.aload_n 0, 1) := by decide +kernel
theorem d_L_holdsBack_32 : decode b_L_holdsBack 32 = .ok (.getfield 45, 3) := by decide +kernel
theorem d_L_holdsBack_35 : decode b_L_holdsBack 35 = .ok (.ifCond .eq 7, 3) := by decide +kernel
theorem d_L_holdsBack_38 : decode b_L_holdsBack 38 = .ok (.iconst 1, 1) := by decide +kernel
theorem d_L_holdsBack_39 : decode b_L_holdsBack 39 = .ok (.goto 4, 3) := by decide +kernel
theorem d_L_holdsBack_42 : decode b_L_holdsBack 42 = .ok (.iconst 0, 1) := by decide +kernel
theorem d_L_holdsBack_43 : decode b_L_holdsBack 43 = .ok (.ireturn, 1) := by decide +kernel
theorem d_L_tellModerators_0 : decode b_L_tellModerators 0 = .ok (.iconst 0, 1) := by decide +kernel
theorem d_L_tellModerators_1 : decode b_L_tellModerators 1 = .ok (.istore_n 3, 1) := by decide +kernel
theorem d_L_tellModerators_2 : decode b_L_tellModerators 2 = .ok (.iload_n 3, 1) := by decide +kernel
theorem d_L_tellModerators_3 : decode b_L_tellModerators 3 = .ok (.bipush 12, 2) := by decide +kernel
theorem d_L_tellModerators_5 : decode b_L_tellModerators 5 = .ok (.if_icmp .ge 32, 3) := by decide +kernel
theorem d_L_tellModerators_8 : decode b_L_tellModerators 8 = .ok (.aload_n 0, 1) := by decide +kernel
theorem d_L_tellModerators_9 : decode b_L_tellModerators 9 = .ok (.getfield 17, 3) := by decide +kernel
theorem d_L_tellModerators_12 : decode b_L_tellModerators 12 = .ok (.iload_n 3, 1) := by decide +kernel
theorem d_L_tellModerators_13 : decode b_L_tellModerators 13 = .ok (.aaload, 1) := by decide +kernel
theorem d_L_tellModerators_14 : decode b_L_tellModerators 14 = .ok (.getfield 51, 3) := by decide +kernel
theorem d_L_tellModerators_17 : decode b_L_tellModerators 17 = .ok (.ifCond .eq 14, 3) := by decide +kernel
theorem d_L_tellModerators_20 : decode b_L_tellModerators 20 = .ok (.aload_n 2, 1) := by decide +kernel
theorem d_L_tellModerators_21 : decode b_L_tellModerators 21 = .ok (.iload_n 3, 1) := by decide +kernel
theorem d_L_tellModerators_22 : decode b_L_tellModerators 22 = .ok (.aload_n 0, 1) := by decide +kernel
theorem d_L_tellModerators_23 : decode b_L_tellModerators 23 = .ok (.getfield 9, 3) := by decide +kernel
theorem d_L_tellModerators_26 : decode b_L_tellModerators 26 = .ok (.iconst 3, 1) := by decide +kernel
theorem d_L_tellModerators_27 : decode b_L_tellModerators 27 = .ok (.iload_n 1, 1) := by decide +kernel
theorem d_L_tellModerators_28 : decode b_L_tellModerators 28 = .ok (.invokevirtual 54, 3) := by decide +kernel
theorem d_L_tellModerators_31 : decode b_L_tellModerators 31 = .ok (.iinc 3 1, 3) := by decide +kernel
theorem d_L_tellModerators_34 : decode b_L_tellModerators 34 = .ok (.goto (-32), 3) := by decide +kernel
theorem d_L_tellModerators_37 : decode b_L_tellModerators 37 = .ok (.return_, 1) := by decide +kernel
theorem d_L_deliver_0 : decode b_L_deliver 0 = .ok (.iconst 0, 1) := by decide +kernel
theorem d_L_deliver_1 : decode b_L_deliver 1 = .ok (.istore 5, 2) := by decide +kernel
theorem d_L_deliver_3 : decode b_L_deliver 3 = .ok (.iconst 0, 1) := by decide +kernel
theorem d_L_deliver_4 : decode b_L_deliver 4 = .ok (.istore 6, 2) := by decide +kernel
theorem d_L_deliver_6 : decode b_L_deliver 6 = .ok (.iload 6, 2) := by decide +kernel
theorem d_L_deliver_8 : decode b_L_deliver 8 = .ok (.bipush 12, 2) := by decide +kernel
theorem d_L_deliver_10 : decode b_L_deliver 10 = .ok (.if_icmp .ge 71, 3) := by decide +kernel
theorem d_L_deliver_13 : decode b_L_deliver 13 = .ok (.aload_n 0, 1) := by decide +kernel
theorem d_L_deliver_14 : decode b_L_deliver 14 = .ok (.getfield 17, 3) := by decide +kernel
theorem d_L_deliver_17 : decode b_L_deliver 17 = .ok (.iload 6, 2) := by decide +kernel
theorem d_L_deliver_19 : decode b_L_deliver 19 = .ok (.aaload, 1) := by decide +kernel
theorem d_L_deliver_20 : decode b_L_deliver 20 = .ok (.iconst 0, 1) := by decide +kernel
theorem d_L_deliver_21 : decode b_L_deliver 21 = .ok (.invokevirtual 60, 3) := by decide +kernel
theorem d_L_deliver_24 : decode b_L_deliver 24 = .ok (.ifCond .eq 25, 3) := by decide +kernel
theorem d_L_deliver_27 : decode b_L_deliver 27 = .ok (.iload 6, 2) := by decide +kernel
theorem d_L_deliver_29 : decode b_L_deliver 29 = .ok (.aload_n 2, 1) := by decide +kernel
theorem d_L_deliver_30 : decode b_L_deliver 30 = .ok (.getfield 64, 3) := by decide +kernel
theorem d_L_deliver_33 : decode b_L_deliver 33 = .ok (.if_icmp .eq 16, 3) := by decide +kernel
theorem d_L_deliver_36 : decode b_L_deliver 36 = .ok (.aload 4, 2) := by decide +kernel
theorem d_L_deliver_38 : decode b_L_deliver 38 = .ok (.iload 6, 2) := by decide +kernel
theorem d_L_deliver_40 : decode b_L_deliver 40 = .ok (.aload_n 0, 1) := by decide +kernel
theorem d_L_deliver_41 : decode b_L_deliver 41 = .ok (.getfield 9, 3) := by decide +kernel
theorem d_L_deliver_44 : decode b_L_deliver 44 = .ok (.iconst 0, 1) := by decide +kernel
theorem d_L_deliver_45 : decode b_L_deliver 45 = .ok (.iload_n 1, 1) := by decide +kernel
theorem d_L_deliver_46 : decode b_L_deliver 46 = .ok (.invokevirtual 54, 3) := by decide +kernel
theorem d_L_deliver_49 : decode b_L_deliver 49 = .ok (.iload 5, 2) := by decide +kernel
theorem d_L_deliver_51 : decode b_L_deliver 51 = .ok (.ifCond .ne 17, 3) := by decide +kernel
theorem d_L_deliver_54 : decode b_L_deliver 54 = .ok (.aload_n 0, 1) := by decide +kernel
theorem d_L_deliver_55 : decode b_L_deliver 55 = .ok (.getfield 17, 3) := by decide +kernel
theorem d_L_deliver_58 : decode b_L_deliver 58 = .ok (.iload 6, 2) := by decide +kernel
theorem d_L_deliver_60 : decode b_L_deliver 60 = .ok (.aaload, 1) := by decide +kernel
theorem d_L_deliver_61 : decode b_L_deliver 61 = .ok (.iconst 1, 1) := by decide +kernel
theorem d_L_deliver_62 : decode b_L_deliver 62 = .ok (.invokevirtual 60, 3) := by decide +kernel
theorem d_L_deliver_65 : decode b_L_deliver 65 = .ok (.ifCond .eq 7, 3) := by decide +kernel
theorem d_L_deliver_68 : decode b_L_deliver 68 = .ok (.iconst 1, 1) := by decide +kernel
theorem d_L_deliver_69 : decode b_L_deliver 69 = .ok (.goto 4, 3) := by decide +kernel
theorem d_L_deliver_72 : decode b_L_deliver 72 = .ok (.iconst 0, 1) := by decide +kernel
theorem d_L_deliver_73 : decode b_L_deliver 73 = .ok (.istore 5, 2) := by decide +kernel
theorem d_L_deliver_75 : decode b_L_deliver 75 = .ok (.iinc 6 1, 3) := by decide +kernel
theorem d_L_deliver_78 : decode b_L_deliver 78 = .ok (.goto (-72), 3) := by decide +kernel
theorem d_L_deliver_81 : decode b_L_deliver 81 = .ok (.iload 5, 2) := by decide +kernel
theorem d_L_deliver_83 : decode b_L_deliver 83 = .ok (.ifCond .eq 12, 3) := by decide +kernel
theorem d_L_deliver_86 : decode b_L_deliver 86 = .ok (.aload_n 0, 1) := by decide +kernel
theorem d_L_deliver_87 : decode b_L_deliver 87 = .ok (.aload_n 2, 1) := by decide +kernel
theorem d_L_deliver_88 : decode b_L_deliver 88 = .ok (.getfield 69, 3) := by decide +kernel
theorem d_L_deliver_91 : decode b_L_deliver 91 = .ok (.iload_n 3, 1) := by decide +kernel
theorem d_L_deliver_92 : decode b_L_deliver 92 = .ok (.invokevirtual 72, 3) := by decide +kernel
theorem d_L_deliver_95 : decode b_L_deliver 95 = .ok (.aload_n 0, 1) := by decide +kernel
theorem d_L_deliver_96 : decode b_L_deliver 96 = .ok (.getfield 76, 3) := by decide +kernel
theorem d_L_deliver_99 : decode b_L_deliver 99 = .ok (.aload_n 0, 1) := by decide +kernel
theorem d_L_deliver_100 : decode b_L_deliver 100 = .ok (.getfield 32, 3) := by decide +kernel
theorem d_L_deliver_103 : decode b_L_deliver 103 = .ok (.if_icmp .lt 9, 3) := by decide +kernel
theorem d_L_deliver_106 : decode b_L_deliver 106 = .ok (.aload_n 0, 1) := by decide +kernel
theorem d_L_deliver_107 : decode b_L_deliver 107 = .ok (.aload 4, 2) := by decide +kernel
theorem d_L_deliver_109 : decode b_L_deliver 109 = .ok (.invokevirtual 79, 3) := by decide +kernel
theorem d_L_deliver_112 : decode b_L_deliver 112 = .ok (.return_, 1) := by decide +kernel
theorem d_L_addToBundle_0 : decode b_L_addToBundle 0 = .ok (.aload_n 0, 1) := by decide +kernel
theorem d_L_addToBundle_1 : decode b_L_addToBundle 1 = .ok (.getfield 83, 3) := by decide +kernel
theorem d_L_addToBundle_4 : decode b_L_addToBundle 4 = .ok (.ifCond .ne 8, 3) := by decide +kernel
theorem d_L_addToBundle_7 : decode b_L_addToBundle 7 = .ok (.aload_n 0, 1) := by decide +kernel
theorem d_L_addToBundle_8 : decode b_L_addToBundle 8 = .ok (.iload_n 2, 1) := by decide +kernel
theorem d_L_addToBundle_9 : decode b_L_addToBundle 9 = .ok (.putfield 86, 3) := by decide +kernel
theorem d_L_addToBundle_12 : decode b_L_addToBundle 12 = .ok (.aload_n 0, 1) := by decide +kernel
theorem d_L_addToBundle_13 : decode b_L_addToBundle 13 = .ok (.dup, 1) := by decide +kernel
theorem d_L_addToBundle_14 : decode b_L_addToBundle 14 = .ok (.getfield 83, 3) := by decide +kernel
theorem d_L_addToBundle_17 : decode b_L_addToBundle 17 = .ok (.iconst 1, 1) := by decide +kernel
theorem d_L_addToBundle_18 : decode b_L_addToBundle 18 = .ok (.iadd, 1) := by decide +kernel
theorem d_L_addToBundle_19 : decode b_L_addToBundle 19 = .ok (.putfield 83, 3) := by decide +kernel
theorem d_L_addToBundle_22 : decode b_L_addToBundle 22 = .ok (.aload_n 0, 1) := by decide +kernel
theorem d_L_addToBundle_23 : decode b_L_addToBundle 23 = .ok (.dup, 1) := by decide +kernel
theorem d_L_addToBundle_24 : decode b_L_addToBundle 24 = .ok (.getfield 76, 3) := by decide +kernel
theorem d_L_addToBundle_27 : decode b_L_addToBundle 27 = .ok (.iload_n 1, 1) := by decide +kernel
theorem d_L_addToBundle_28 : decode b_L_addToBundle 28 = .ok (.iadd, 1) := by decide +kernel
theorem d_L_addToBundle_29 : decode b_L_addToBundle 29 = .ok (.putfield 76, 3) := by decide +kernel
theorem d_L_addToBundle_32 : decode b_L_addToBundle 32 = .ok (.return_, 1) := by decide +kernel
theorem d_L_sendBundle_0 : decode b_L_sendBundle 0 = .ok (.iconst 0, 1) := by decide +kernel
theorem d_L_sendBundle_1 : decode b_L_sendBundle 1 = .ok (.istore_n 2, 1) := by decide +kernel
theorem d_L_sendBundle_2 : decode b_L_sendBundle 2 = .ok (.iload_n 2, 1) := by decide +kernel
theorem d_L_sendBundle_3 : decode b_L_sendBundle 3 = .ok (.bipush 12, 2) := by decide +kernel
theorem d_L_sendBundle_5 : decode b_L_sendBundle 5 = .ok (.if_icmp .ge 36, 3) := by decide +kernel
theorem d_L_sendBundle_8 : decode b_L_sendBundle 8 = .ok (.aload_n 0, 1) := by decide +kernel
theorem d_L_sendBundle_9 : decode b_L_sendBundle 9 = .ok (.getfield 17, 3) := by decide +kernel
theorem d_L_sendBundle_12 : decode b_L_sendBundle 12 = .ok (.iload_n 2, 1) := by decide +kernel
theorem d_L_sendBundle_13 : decode b_L_sendBundle 13 = .ok (.aaload, 1) := by decide +kernel
theorem d_L_sendBundle_14 : decode b_L_sendBundle 14 = .ok (.iconst 1, 1) := by decide +kernel
theorem d_L_sendBundle_15 : decode b_L_sendBundle 15 = .ok (.invokevirtual 60, 3) := by decide +kernel
theorem d_L_sendBundle_18 : decode b_L_sendBundle 18 = .ok (.ifCond .eq 17, 3) := by decide +kernel
theorem d_L_sendBundle_21 : decode b_L_sendBundle 21 = .ok (.aload_n 1, 1) := by decide +kernel
theorem d_L_sendBundle_22 : decode b_L_sendBundle 22 = .ok (.iload_n 2, 1) := by decide +kernel
theorem d_L_sendBundle_23 : decode b_L_sendBundle 23 = .ok (.aload_n 0, 1) := by decide +kernel
theorem d_L_sendBundle_24 : decode b_L_sendBundle 24 = .ok (.getfield 9, 3) := by decide +kernel
theorem d_L_sendBundle_27 : decode b_L_sendBundle 27 = .ok (.iconst 1, 1) := by decide +kernel
theorem d_L_sendBundle_28 : decode b_L_sendBundle 28 = .ok (.aload_n 0, 1) := by decide +kernel
theorem d_L_sendBundle_29 : decode b_L_sendBundle 29 = .ok (.getfield 83, 3) := by decide +kernel
theorem d_L_sendBundle_32 : decode b_L_sendBundle 32 = .ok (.invokevirtual 54, 3) := by decide +kernel
theorem d_L_sendBundle_35 : decode b_L_sendBundle 35 = .ok (.iinc 2 1, 3) := by decide +kernel
theorem d_L_sendBundle_38 : decode b_L_sendBundle 38 = .ok (.goto (-36), 3) := by decide +kernel
theorem d_L_sendBundle_41 : decode b_L_sendBundle 41 = .ok (.aload_n 0, 1) := by decide +kernel
theorem d_L_sendBundle_42 : decode b_L_sendBundle 42 = .ok (.iconst 0, 1) := by decide +kernel
theorem d_L_sendBundle_43 : decode b_L_sendBundle 43 = .ok (.putfield 83, 3) := by decide +kernel
theorem d_L_sendBundle_46 : decode b_L_sendBundle 46 = .ok (.aload_n 0, 1) := by decide +kernel
theorem d_L_sendBundle_47 : decode b_L_sendBundle 47 = .ok (.iconst 0, 1) := by decide +kernel
theorem d_L_sendBundle_48 : decode b_L_sendBundle 48 = .ok (.putfield 76, 3) := by decide +kernel
theorem d_L_sendBundle_51 : decode b_L_sendBundle 51 = .ok (.return_, 1) := by decide +kernel
theorem d_L_beginDay_0 : decode b_L_beginDay 0 = .ok (.iconst 0, 1) := by decide +kernel
theorem d_L_beginDay_1 : decode b_L_beginDay 1 = .ok (.istore_n 3, 1) := by decide +kernel
theorem d_L_beginDay_2 : decode b_L_beginDay 2 = .ok (.iload_n 3, 1) := by decide +kernel
theorem d_L_beginDay_3 : decode b_L_beginDay 3 = .ok (.bipush 12, 2) := by decide +kernel
theorem d_L_beginDay_5 : decode b_L_beginDay 5 = .ok (.if_icmp .ge 16, 3) := by decide +kernel
theorem d_L_beginDay_8 : decode b_L_beginDay 8 = .ok (.aload_n 0, 1) := by decide +kernel
theorem d_L_beginDay_9 : decode b_L_beginDay 9 = .ok (.iload_n 3, 1) := by decide +kernel
theorem d_L_beginDay_10 : decode b_L_beginDay 10 = .ok (.iload_n 1, 1) := by decide +kernel
theorem d_L_beginDay_11 : decode b_L_beginDay 11 = .ok (.aload_n 2, 1) := by decide +kernel
theorem d_L_beginDay_12 : decode b_L_beginDay 12 = .ok (.invokevirtual 89, 3) := by decide +kernel
theorem d_L_beginDay_15 : decode b_L_beginDay 15 = .ok (.iinc 3 1, 3) := by decide +kernel
theorem d_L_beginDay_18 : decode b_L_beginDay 18 = .ok (.goto (-16), 3) := by decide +kernel
theorem d_L_beginDay_21 : decode b_L_beginDay 21 = .ok (.aload_n 0, 1) := by decide +kernel
theorem d_L_beginDay_22 : decode b_L_beginDay 22 = .ok (.getfield 83, 3) := by decide +kernel
theorem d_L_beginDay_25 : decode b_L_beginDay 25 = .ok (.ifCond .le 18, 3) := by decide +kernel
theorem d_L_beginDay_28 : decode b_L_beginDay 28 = .ok (.iload_n 1, 1) := by decide +kernel
theorem d_L_beginDay_29 : decode b_L_beginDay 29 = .ok (.aload_n 0, 1) := by decide +kernel
theorem d_L_beginDay_30 : decode b_L_beginDay 30 = .ok (.getfield 86, 3) := by decide +kernel
theorem d_L_beginDay_33 : decode b_L_beginDay 33 = .ok (.isub, 1) := by decide +kernel
theorem d_L_beginDay_34 : decode b_L_beginDay 34 = .ok (.iconst 2, 1) := by decide +kernel
theorem d_L_beginDay_35 : decode b_L_beginDay 35 = .ok (.if_icmp .le 8, 3) := by decide +kernel
theorem d_L_beginDay_38 : decode b_L_beginDay 38 = .ok (.aload_n 0, 1) := by decide +kernel
theorem d_L_beginDay_39 : decode b_L_beginDay 39 = .ok (.aload_n 2, 1) := by decide +kernel
theorem d_L_beginDay_40 : decode b_L_beginDay 40 = .ok (.invokevirtual 79, 3) := by decide +kernel
theorem d_L_beginDay_43 : decode b_L_beginDay 43 = .ok (.return_, 1) := by decide +kernel
theorem d_L_beginDayOf_0 : decode b_L_beginDayOf 0 = .ok (.aload_n 0, 1) := by decide +kernel
theorem d_L_beginDayOf_1 : decode b_L_beginDayOf 1 = .ok (.getfield 17, 3) := by decide +kernel
theorem d_L_beginDayOf_4 : decode b_L_beginDayOf 4 = .ok (.iload_n 1, 1) := by decide +kernel
theorem d_L_beginDayOf_5 : decode b_L_beginDayOf 5 = .ok (.aaload, 1) := by decide +kernel
theorem d_L_beginDayOf_6 : decode b_L_beginDayOf 6 = .ok (.astore 4, 2) := by decide +kernel
theorem d_L_beginDayOf_8 : decode b_L_beginDayOf 8 = .ok (.iload_n 2, 1) := by decide +kernel
theorem d_L_beginDayOf_9 : decode b_L_beginDayOf 9 = .ok (.aload 4, 2) := by decide +kernel
theorem d_L_beginDayOf_11 : decode b_L_beginDayOf 11 = .ok (.getfield 93, 3) := by decide +kernel
theorem d_L_beginDayOf_14 : decode b_L_beginDayOf 14 = .ok (.isub, 1) := by decide +kernel
theorem d_L_beginDayOf_15 : decode b_L_beginDayOf 15 = .ok (.istore 5, 2) := by decide +kernel
theorem d_L_beginDayOf_17 : decode b_L_beginDayOf 17 = .ok (.aload 4, 2) := by decide +kernel
theorem d_L_beginDayOf_19 : decode b_L_beginDayOf 19 = .ok (.getfield 48, 3) := by decide +kernel
theorem d_L_beginDayOf_22 : decode b_L_beginDayOf 22 = .ok (.iconst 1, 1) := by decide +kernel
theorem d_L_beginDayOf_23 : decode b_L_beginDayOf 23 = .ok (.if_icmp .ne 12, 3) := by decide +kernel
theorem d_L_beginDayOf_26 : decode b_L_beginDayOf 26 = .ok (.aload 4, 2) := by decide +kernel
theorem d_L_beginDayOf_28 : decode b_L_beginDayOf 28 = .ok (.iload_n 2, 1) := by decide +kernel
theorem d_L_beginDayOf_29 : decode b_L_beginDayOf 29 = .ok (.invokevirtual 96, 3) := by decide +kernel
theorem d_L_beginDayOf_32 : decode b_L_beginDayOf 32 = .ok (.goto 47, 3) := by decide +kernel
theorem d_L_beginDayOf_35 : decode b_L_beginDayOf 35 = .ok (.aload 4, 2) := by decide +kernel
theorem d_L_beginDayOf_37 : decode b_L_beginDayOf 37 = .ok (.getfield 48, 3) := by decide +kernel
theorem d_L_beginDayOf_40 : decode b_L_beginDayOf 40 = .ok (.iconst 2, 1) := by decide +kernel
theorem d_L_beginDayOf_41 : decode b_L_beginDayOf 41 = .ok (.if_icmp .ne 19, 3) := by decide +kernel
theorem d_L_beginDayOf_44 : decode b_L_beginDayOf 44 = .ok (.iload 5, 2) := by decide +kernel
theorem d_L_beginDayOf_46 : decode b_L_beginDayOf 46 = .ok (.iconst 3, 1) := by decide +kernel
theorem d_L_beginDayOf_47 : decode b_L_beginDayOf 47 = .ok (.irem, 1) := by decide +kernel
theorem d_L_beginDayOf_48 : decode b_L_beginDayOf 48 = .ok (.ifCond .ne 12, 3) := by decide +kernel
theorem d_L_beginDayOf_51 : decode b_L_beginDayOf 51 = .ok (.aload_n 0, 1) := by decide +kernel
theorem d_L_beginDayOf_52 : decode b_L_beginDayOf 52 = .ok (.iload_n 1, 1) := by decide +kernel
theorem d_L_beginDayOf_53 : decode b_L_beginDayOf 53 = .ok (.aload_n 3, 1) := by decide +kernel
theorem d_L_beginDayOf_54 : decode b_L_beginDayOf 54 = .ok (.invokevirtual 100, 3) := by decide +kernel
theorem d_L_beginDayOf_57 : decode b_L_beginDayOf 57 = .ok (.goto 22, 3) := by decide +kernel
theorem d_L_beginDayOf_60 : decode b_L_beginDayOf 60 = .ok (.aload 4, 2) := by decide +kernel
theorem d_L_beginDayOf_62 : decode b_L_beginDayOf 62 = .ok (.getfield 48, 3) := by decide +kernel
theorem d_L_beginDayOf_65 : decode b_L_beginDayOf 65 = .ok (.ifCond .ne 14, 3) := by decide +kernel
theorem d_L_beginDayOf_68 : decode b_L_beginDayOf 68 = .ok (.iload 5, 2) := by decide +kernel
theorem d_L_beginDayOf_70 : decode b_L_beginDayOf 70 = .ok (.iconst 5, 1) := by decide +kernel
theorem d_L_beginDayOf_71 : decode b_L_beginDayOf 71 = .ok (.if_icmp .lt 8, 3) := by decide +kernel
theorem d_L_beginDayOf_74 : decode b_L_beginDayOf 74 = .ok (.aload 4, 2) := by decide +kernel
theorem d_L_beginDayOf_76 : decode b_L_beginDayOf 76 = .ok (.invokevirtual 104, 3) := by decide +kernel
theorem d_L_beginDayOf_79 : decode b_L_beginDayOf 79 = .ok (.return_, 1) := by decide +kernel
theorem d_L_warnAgain_0 : decode b_L_warnAgain 0 = .ok (.aload_n 0, 1) := by decide +kernel
theorem d_L_warnAgain_1 : decode b_L_warnAgain 1 = .ok (.getfield 17, 3) := by decide +kernel
theorem d_L_warnAgain_4 : decode b_L_warnAgain 4 = .ok (.iload_n 1, 1) := by decide +kernel
theorem d_L_warnAgain_5 : decode b_L_warnAgain 5 = .ok (.aaload, 1) := by decide +kernel
theorem d_L_warnAgain_6 : decode b_L_warnAgain 6 = .ok (.astore_n 3, 1) := by decide +kernel
theorem d_L_warnAgain_7 : decode b_L_warnAgain 7 = .ok (.aload_n 3, 1) := by decide +kernel
theorem d_L_warnAgain_8 : decode b_L_warnAgain 8 = .ok (.getfield 107, 3) := by decide +kernel
theorem d_L_warnAgain_11 : decode b_L_warnAgain 11 = .ok (.iconst 3, 1) := by decide +kernel
theorem d_L_warnAgain_12 : decode b_L_warnAgain 12 = .ok (.if_icmp .lt 22, 3) := by decide +kernel
theorem d_L_warnAgain_15 : decode b_L_warnAgain 15 = .ok (.aload_n 3, 1) := by decide +kernel
theorem d_L_warnAgain_16 : decode b_L_warnAgain 16 = .ok (.invokevirtual 104, 3) := by decide +kernel
theorem d_L_warnAgain_19 : decode b_L_warnAgain 19 = .ok (.aload_n 2, 1) := by decide +kernel
theorem d_L_warnAgain_20 : decode b_L_warnAgain 20 = .ok (.iload_n 1, 1) := by decide +kernel
theorem d_L_warnAgain_21 : decode b_L_warnAgain 21 = .ok (.aload_n 0, 1) := by decide +kernel
theorem d_L_warnAgain_22 : decode b_L_warnAgain 22 = .ok (.getfield 9, 3) := by decide +kernel
theorem d_L_warnAgain_25 : decode b_L_warnAgain 25 = .ok (.bipush 6, 2) := by decide +kernel
theorem d_L_warnAgain_27 : decode b_L_warnAgain 27 = .ok (.iconst 0, 1) := by decide +kernel
theorem d_L_warnAgain_28 : decode b_L_warnAgain 28 = .ok (.invokevirtual 54, 3) := by decide +kernel
theorem d_L_warnAgain_31 : decode b_L_warnAgain 31 = .ok (.goto 27, 3) := by decide +kernel
theorem d_L_warnAgain_34 : decode b_L_warnAgain 34 = .ok (.aload_n 3, 1) := by decide +kernel
theorem d_L_warnAgain_35 : decode b_L_warnAgain 35 = .ok (.dup, 1) := by decide +kernel
theorem d_L_warnAgain_36 : decode b_L_warnAgain 36 = .ok (.getfield 107, 3) := by decide +kernel
theorem d_L_warnAgain_39 : decode b_L_warnAgain 39 = .ok (.iconst 1, 1) := by decide +kernel
theorem d_L_warnAgain_40 : decode b_L_warnAgain 40 = .ok (.iadd, 1) := by decide +kernel
theorem d_L_warnAgain_41 : decode b_L_warnAgain 41 = .ok (.putfield 107, 3) := by decide +kernel
theorem d_L_warnAgain_44 : decode b_L_warnAgain 44 = .ok (.aload_n 2, 1) := by decide +kernel
theorem d_L_warnAgain_45 : decode b_L_warnAgain 45 = .ok (.iload_n 1, 1) := by decide +kernel
theorem d_L_warnAgain_46 : decode b_L_warnAgain 46 = .ok (.aload_n 0, 1) := by decide +kernel
theorem d_L_warnAgain_47 : decode b_L_warnAgain 47 = .ok (.getfield 9, 3) := by decide +kernel
theorem d_L_warnAgain_50 : decode b_L_warnAgain 50 = .ok (.iconst 5, 1) := by decide +kernel
theorem d_L_warnAgain_51 : decode b_L_warnAgain 51 = .ok (.aload_n 3, 1) := by decide +kernel
theorem d_L_warnAgain_52 : decode b_L_warnAgain 52 = .ok (.getfield 107, 3) := by decide +kernel
theorem d_L_warnAgain_55 : decode b_L_warnAgain 55 = .ok (.invokevirtual 54, 3) := by decide +kernel
theorem d_L_warnAgain_58 : decode b_L_warnAgain 58 = .ok (.return_, 1) := by decide +kernel
theorem d_O_init_0 : decode b_O_init 0 = .ok (.aload_n 0, 1) := by decide +kernel
theorem d_O_init_1 : decode b_O_init 1 = .ok (.invokespecial 1, 3) := by decide +kernel
theorem d_O_init_4 : decode b_O_init 4 = .ok (.aload_n 0, 1) := by decide +kernel
theorem d_O_init_5 : decode b_O_init 5 = .ok (.bipush 60, 2) := by decide +kernel
theorem d_O_init_7 : decode b_O_init 7 = .ok (.newarray .int, 2) := by decide +kernel
theorem d_O_init_9 : decode b_O_init 9 = .ok (.putfield 9, 3) := by decide +kernel
theorem d_O_init_12 : decode b_O_init 12 = .ok (.aload_n 0, 1) := by decide +kernel
theorem d_O_init_13 : decode b_O_init 13 = .ok (.bipush 60, 2) := by decide +kernel
theorem d_O_init_15 : decode b_O_init 15 = .ok (.newarray .int, 2) := by decide +kernel
theorem d_O_init_17 : decode b_O_init 17 = .ok (.putfield 13, 3) := by decide +kernel
theorem d_O_init_20 : decode b_O_init 20 = .ok (.aload_n 0, 1) := by decide +kernel
theorem d_O_init_21 : decode b_O_init 21 = .ok (.bipush 60, 2) := by decide +kernel
theorem d_O_init_23 : decode b_O_init 23 = .ok (.newarray .int, 2) := by decide +kernel
theorem d_O_init_25 : decode b_O_init 25 = .ok (.putfield 16, 3) := by decide +kernel
theorem d_O_init_28 : decode b_O_init 28 = .ok (.aload_n 0, 1) := by decide +kernel
theorem d_O_init_29 : decode b_O_init 29 = .ok (.bipush 60, 2) := by decide +kernel
theorem d_O_init_31 : decode b_O_init 31 = .ok (.newarray .int, 2) := by decide +kernel
theorem d_O_init_33 : decode b_O_init 33 = .ok (.putfield 19, 3) := by decide +kernel
theorem d_O_init_36 : decode b_O_init 36 = .ok (.return_, 1) := by decide +kernel
theorem d_O_add_0 : decode b_O_add 0 = .ok (.aload_n 0, 1) := by decide +kernel
theorem d_O_add_1 : decode b_O_add 1 = .ok (.dup, 1) := by decide +kernel
theorem d_O_add_2 : decode b_O_add 2 = .ok (.getfield 22, 3) := by decide +kernel
theorem d_O_add_5 : decode b_O_add 5 = .ok (.iconst 1, 1) := by decide +kernel
theorem d_O_add_6 : decode b_O_add 6 = .ok (.iadd, 1) := by decide +kernel
theorem d_O_add_7 : decode b_O_add 7 = .ok (.putfield 22, 3) := by decide +kernel
theorem d_O_add_10 : decode b_O_add 10 = .ok (.aload_n 0, 1) := by decide +kernel
theorem d_O_add_11 : decode b_O_add 11 = .ok (.getfield 26, 3) := by decide +kernel
theorem d_O_add_14 : decode b_O_add 14 = .ok (.bipush 60, 2) := by decide +kernel
theorem d_O_add_16 : decode b_O_add 16 = .ok (.if_icmp .ge 54, 3) := by decide +kernel
theorem d_O_add_19 : decode b_O_add 19 = .ok (.aload_n 0, 1) := by decide +kernel
theorem d_O_add_20 : decode b_O_add 20 = .ok (.getfield 9, 3) := by decide +kernel
theorem d_O_add_23 : decode b_O_add 23 = .ok (.aload_n 0, 1) := by decide +kernel
theorem d_O_add_24 : decode b_O_add 24 = .ok (.getfield 26, 3) := by decide +kernel
theorem d_O_add_27 : decode b_O_add 27 = .ok (.iload_n 1, 1) := by decide +kernel
theorem d_O_add_28 : decode b_O_add 28 = .ok (.iastore, 1) := by decide +kernel
theorem d_O_add_29 : decode b_O_add 29 = .ok (.aload_n 0, 1) := by decide +kernel
theorem d_O_add_30 : decode b_O_add 30 = .ok (.getfield 13, 3) := by decide +kernel
theorem d_O_add_33 : decode b_O_add 33 = .ok (.aload_n 0, 1) := by decide +kernel
theorem d_O_add_34 : decode b_O_add 34 = .ok (.getfield 26, 3) := by decide +kernel
theorem d_O_add_37 : decode b_O_add 37 = .ok (.iload_n 2, 1) := by decide +kernel
theorem d_O_add_38 : decode b_O_add 38 = .ok (.iastore, 1) := by decide +kernel
theorem d_O_add_39 : decode b_O_add 39 = .ok (.aload_n 0, 1) := by decide +kernel
theorem d_O_add_40 : decode b_O_add 40 = .ok (.getfield 16, 3) := by decide +kernel
theorem d_O_add_43 : decode b_O_add 43 = .ok (.aload_n 0, 1) := by decide +kernel
theorem d_O_add_44 : decode b_O_add 44 = .ok (.getfield 26, 3) := by decide +kernel
theorem d_O_add_47 : decode b_O_add 47 = .ok (.iload_n 3, 1) := by decide +kernel
theorem d_O_add_48 : decode b_O_add 48 = .ok (.iastore, 1) := by decide +kernel
theorem d_O_add_49 : decode b_O_add 49 = .ok (.aload_n 0, 1) := by decide +kernel
theorem d_O_add_50 : decode b_O_add 50 = .ok (.getfield 19, 3) := by decide +kernel
theorem d_O_add_53 : decode b_O_add 53 = .ok (.aload_n 0, 1) := by decide +kernel
theorem d_O_add_54 : decode b_O_add 54 = .ok (.getfield 26, 3) := by decide +kernel
theorem d_O_add_57 : decode b_O_add 57 = .ok (.iload 4, 2) := by decide +kernel
theorem d_O_add_59 : decode b_O_add 59 = .ok (.iastore, 1) := by decide +kernel
theorem d_O_add_60 : decode b_O_add 60 = .ok (.aload_n 0, 1) := by decide +kernel
theorem d_O_add_61 : decode b_O_add 61 = .ok (.dup, 1) := by decide +kernel
theorem d_O_add_62 : decode b_O_add 62 = .ok (.getfield 26, 3) := by decide +kernel
theorem d_O_add_65 : decode b_O_add 65 = .ok (.iconst 1, 1) := by decide +kernel
theorem d_O_add_66 : decode b_O_add 66 = .ok (.iadd, 1) := by decide +kernel
theorem d_O_add_67 : decode b_O_add 67 = .ok (.putfield 26, 3) := by decide +kernel
theorem d_O_add_70 : decode b_O_add 70 = .ok (.return_, 1) := by decide +kernel
theorem d_P_init_0 : decode b_P_init 0 = .ok (.aload_n 0, 1) := by decide +kernel
theorem d_P_init_1 : decode b_P_init 1 = .ok (.invokespecial 3, 3) := by decide +kernel
theorem d_P_init_4 : decode b_P_init 4 = .ok (.return_, 1) := by decide +kernel
theorem d_P_comeIn_0 : decode b_P_comeIn 0 = .ok (.aload_n 0, 1) := by decide +kernel
theorem d_P_comeIn_1 : decode b_P_comeIn 1 = .ok (.iload_n 1, 1) := by decide +kernel
theorem d_P_comeIn_2 : decode b_P_comeIn 2 = .ok (.putfield 9, 3) := by decide +kernel
theorem d_P_comeIn_5 : decode b_P_comeIn 5 = .ok (.aload_n 0, 1) := by decide +kernel
theorem d_P_comeIn_6 : decode b_P_comeIn 6 = .ok (.iload_n 2, 1) := by decide +kernel
theorem d_P_comeIn_7 : decode b_P_comeIn 7 = .ok (.putfield 15, 3) := by decide +kernel
theorem d_P_comeIn_10 : decode b_P_comeIn 10 = .ok (.aload_n 0, 1) := by decide +kernel
theorem d_P_comeIn_11 : decode b_P_comeIn 11 = .ok (.iload_n 3, 1) := by decide +kernel
theorem d_P_comeIn_12 : decode b_P_comeIn 12 = .ok (.putfield 18, 3) := by decide +kernel
theorem d_P_comeIn_15 : decode b_P_comeIn 15 = .ok (.aload_n 0, 1) := by decide +kernel
theorem d_P_comeIn_16 : decode b_P_comeIn 16 = .ok (.iconst 0, 1) := by decide +kernel
theorem d_P_comeIn_17 : decode b_P_comeIn 17 = .ok (.putfield 21, 3) := by decide +kernel
theorem d_P_comeIn_20 : decode b_P_comeIn 20 = .ok (.return_, 1) := by decide +kernel
theorem d_S_init_0 : decode b_S_init 0 = .ok (.aload_n 0, 1) := by decide +kernel
theorem d_S_init_1 : decode b_S_init 1 = .ok (.invokespecial 3, 3) := by decide +kernel
theorem d_S_init_4 : decode b_S_init 4 = .ok (.aload_n 0, 1) := by decide +kernel
theorem d_S_init_5 : decode b_S_init 5 = .ok (.iconst (-1), 1) := by decide +kernel
theorem d_S_init_6 : decode b_S_init 6 = .ok (.putfield 9, 3) := by decide +kernel
theorem d_S_init_9 : decode b_S_init 9 = .ok (.return_, 1) := by decide +kernel
theorem d_S_begin_0 : decode b_S_begin 0 = .ok (.aload_n 0, 1) := by decide +kernel
theorem d_S_begin_1 : decode b_S_begin 1 = .ok (.iconst 0, 1) := by decide +kernel
theorem d_S_begin_2 : decode b_S_begin 2 = .ok (.putfield 9, 3) := by decide +kernel
theorem d_S_begin_5 : decode b_S_begin 5 = .ok (.aload_n 0, 1) := by decide +kernel
theorem d_S_begin_6 : decode b_S_begin 6 = .ok (.iload_n 1, 1) := by decide +kernel
theorem d_S_begin_7 : decode b_S_begin 7 = .ok (.putfield 15, 3) := by decide +kernel
theorem d_S_begin_10 : decode b_S_begin 10 = .ok (.aload_n 0, 1) := by decide +kernel
theorem d_S_begin_11 : decode b_S_begin 11 = .ok (.iload_n 2, 1) := by decide +kernel
theorem d_S_begin_12 : decode b_S_begin 12 = .ok (.putfield 18, 3) := by decide +kernel
theorem d_S_begin_15 : decode b_S_begin 15 = .ok (.aload_n 0, 1) := by decide +kernel
theorem d_S_begin_16 : decode b_S_begin 16 = .ok (.iload_n 3, 1) := by decide +kernel
theorem d_S_begin_17 : decode b_S_begin 17 = .ok (.putfield 21, 3) := by decide +kernel
theorem d_S_begin_20 : decode b_S_begin 20 = .ok (.aload_n 0, 1) := by decide +kernel
theorem d_S_begin_21 : decode b_S_begin 21 = .ok (.iconst 0, 1) := by decide +kernel
theorem d_S_begin_22 : decode b_S_begin 22 = .ok (.putfield 24, 3) := by decide +kernel
theorem d_S_begin_25 : decode b_S_begin 25 = .ok (.aload_n 0, 1) := by decide +kernel
theorem d_S_begin_26 : decode b_S_begin 26 = .ok (.iconst (-1), 1) := by decide +kernel
theorem d_S_begin_27 : decode b_S_begin 27 = .ok (.putfield 27, 3) := by decide +kernel
theorem d_S_begin_30 : decode b_S_begin 30 = .ok (.aload_n 0, 1) := by decide +kernel
theorem d_S_begin_31 : decode b_S_begin 31 = .ok (.dconst 0, 1) := by decide +kernel
theorem d_S_begin_32 : decode b_S_begin 32 = .ok (.putfield 30, 3) := by decide +kernel
theorem d_S_begin_35 : decode b_S_begin 35 = .ok (.return_, 1) := by decide +kernel
theorem d_S_becomeLive_0 : decode b_S_becomeLive 0 = .ok (.aload_n 0, 1) := by decide +kernel
theorem d_S_becomeLive_1 : decode b_S_becomeLive 1 = .ok (.iconst 1, 1) := by decide +kernel
theorem d_S_becomeLive_2 : decode b_S_becomeLive 2 = .ok (.putfield 9, 3) := by decide +kernel
theorem d_S_becomeLive_5 : decode b_S_becomeLive 5 = .ok (.aload_n 0, 1) := by decide +kernel
theorem d_S_becomeLive_6 : decode b_S_becomeLive 6 = .ok (.iload_n 1, 1) := by decide +kernel
theorem d_S_becomeLive_7 : decode b_S_becomeLive 7 = .ok (.putfield 21, 3) := by decide +kernel
theorem d_S_becomeLive_10 : decode b_S_becomeLive 10 = .ok (.aload_n 0, 1) := by decide +kernel
theorem d_S_becomeLive_11 : decode b_S_becomeLive 11 = .ok (.iconst 0, 1) := by decide +kernel
theorem d_S_becomeLive_12 : decode b_S_becomeLive 12 = .ok (.putfield 24, 3) := by decide +kernel
theorem d_S_becomeLive_15 : decode b_S_becomeLive 15 = .ok (.aload_n 0, 1) := by decide +kernel
theorem d_S_becomeLive_16 : decode b_S_becomeLive 16 = .ok (.dconst 0, 1) := by decide +kernel
theorem d_S_becomeLive_17 : decode b_S_becomeLive 17 = .ok (.putfield 30, 3) := by decide +kernel
theorem d_S_becomeLive_20 : decode b_S_becomeLive 20 = .ok (.return_, 1) := by decide +kernel
theorem d_S_stop_0 : decode b_S_stop 0 = .ok (.aload_n 0, 1) := by decide +kernel
theorem d_S_stop_1 : decode b_S_stop 1 = .ok (.iconst 2, 1) := by decide +kernel
theorem d_S_stop_2 : decode b_S_stop 2 = .ok (.putfield 9, 3) := by decide +kernel
theorem d_S_stop_5 : decode b_S_stop 5 = .ok (.aload_n 0, 1) := by decide +kernel
theorem d_S_stop_6 : decode b_S_stop 6 = .ok (.iload_n 1, 1) := by decide +kernel
theorem d_S_stop_7 : decode b_S_stop 7 = .ok (.putfield 21, 3) := by decide +kernel
theorem d_S_stop_10 : decode b_S_stop 10 = .ok (.aload_n 0, 1) := by decide +kernel
theorem d_S_stop_11 : decode b_S_stop 11 = .ok (.iconst 1, 1) := by decide +kernel
theorem d_S_stop_12 : decode b_S_stop 12 = .ok (.putfield 24, 3) := by decide +kernel
theorem d_S_stop_15 : decode b_S_stop 15 = .ok (.return_, 1) := by decide +kernel
theorem d_S_end_0 : decode b_S_end 0 = .ok (.aload_n 0, 1) := by decide +kernel
theorem d_S_end_1 : decode b_S_end 1 = .ok (.iconst (-1), 1) := by decide +kernel
theorem d_S_end_2 : decode b_S_end 2 = .ok (.putfield 9, 3) := by decide +kernel
theorem d_S_end_5 : decode b_S_end 5 = .ok (.aload_n 0, 1) := by decide +kernel
theorem d_S_end_6 : decode b_S_end 6 = .ok (.iconst 0, 1) := by decide +kernel
theorem d_S_end_7 : decode b_S_end 7 = .ok (.putfield 34, 3) := by decide +kernel
theorem d_S_end_10 : decode b_S_end 10 = .ok (.return_, 1) := by decide +kernel
theorem d_S_takes_0 : decode b_S_takes 0 = .ok (.aload_n 0, 1) := by decide +kernel
theorem d_S_takes_1 : decode b_S_takes 1 = .ok (.getfield 9, 3) := by decide +kernel
theorem d_S_takes_4 : decode b_S_takes 4 = .ok (.iconst 1, 1) := by decide +kernel
theorem d_S_takes_5 : decode b_S_takes 5 = .ok (.if_icmp .ne 15, 3) := by decide +kernel
theorem d_S_takes_8 : decode b_S_takes 8 = .ok (.aload_n 0, 1) := by decide +kernel
theorem d_S_takes_9 : decode b_S_takes 9 = .ok (.getfield 15, 3) := by decide +kernel
theorem d_S_takes_12 : decode b_S_takes 12 = .ok (.iload_n 1, 1) := by decide +kernel
theorem d_S_takes_13 : decode b_S_takes 13 = .ok (.if_icmp .ne 7, 3) := by decide +kernel
theorem d_S_takes_16 : decode b_S_takes 16 = .ok (.iconst 1, 1) := by decide +kernel
theorem d_S_takes_17 : decode b_S_takes 17 = .ok (.goto 4, 3) := by decide +kernel
theorem d_S_takes_20 : decode b_S_takes 20 = .ok (.iconst 0, 1) := by decide +kernel
theorem d_S_takes_21 : decode b_S_takes 21 = .ok (.ireturn, 1) := by decide +kernel
theorem d_S_fade_0 : decode b_S_fade 0 = .ok (.aload_n 0, 1) := by decide +kernel
theorem d_S_fade_1 : decode b_S_fade 1 = .ok (.getfield 27, 3) := by decide +kernel
theorem d_S_fade_4 : decode b_S_fade 4 = .ok (.iload_n 1, 1) := by decide +kernel
theorem d_S_fade_5 : decode b_S_fade 5 = .ok (.iconst 1, 1) := by decide +kernel
theorem d_S_fade_6 : decode b_S_fade 6 = .ok (.isub, 1) := by decide +kernel
theorem d_S_fade_7 : decode b_S_fade 7 = .ok (.if_icmp .eq 29, 3) := by decide +kernel
theorem d_S_fade_10 : decode b_S_fade 10 = .ok (.aload_n 0, 1) := by decide +kernel
theorem d_S_fade_11 : decode b_S_fade 11 = .ok (.getfield 30, 3) := by decide +kernel
theorem d_S_fade_14 : decode b_S_fade 14 = .ok (.ldc2_w 38, 3) := by decide +kernel
theorem d_S_fade_17 : decode b_S_fade 17 = .ok (.dmul, 1) := by decide +kernel
theorem d_S_fade_18 : decode b_S_fade 18 = .ok (.dstore_n 2, 1) := by decide +kernel
theorem d_S_fade_19 : decode b_S_fade 19 = .ok (.aload_n 0, 1) := by decide +kernel
theorem d_S_fade_20 : decode b_S_fade 20 = .ok (.dload_n 2, 1) := by decide +kernel
theorem d_S_fade_21 : decode b_S_fade 21 = .ok (.ldc2_w 40, 3) := by decide +kernel
theorem d_S_fade_24 : decode b_S_fade 24 = .ok (.dcmp .g, 1) := by decide +kernel
theorem d_S_fade_25 : decode b_S_fade 25 = .ok (.ifCond .ge 7, 3) := by decide +kernel
end
section
theorem d_S_fade_28 : decode b_S_fade 28 = .ok (.dconst 0, 1) := by decide +kernel
theorem d_S_fade_29 : decode b_S_fade 29 = .ok (.goto 4, 3) := by decide +kernel
theorem d_S_fade_32 : decode b_S_fade 32 = .ok (.dload_n 2, 1) := by decide +kernel
theorem d_S_fade_33 : decode b_S_fade 33 = .ok (.putfield 30, 3) := by decide +kernel
theorem d_S_fade_36 : decode b_S_fade 36 = .ok (.return_, 1) := by decide +kernel
theorem d_M_init_0 : decode b_M_init 0 = .ok (.aload_n 0, 1) := by decide +kernel
theorem d_M_init_1 : decode b_M_init 1 = .ok (.invokespecial 1, 3) := by decide +kernel
theorem d_M_init_4 : decode b_M_init 4 = .ok (.aload_n 0, 1) := by decide +kernel
theorem d_M_init_5 : decode b_M_init 5 = .ok (.bipush 36, 2) := by decide +kernel
theorem d_M_init_7 : decode b_M_init 7 = .ok (.newarray .int, 2) := by decide +kernel
theorem d_M_init_9 : decode b_M_init 9 = .ok (.putfield 7, 3) := by decide +kernel
theorem d_M_init_12 : decode b_M_init 12 = .ok (.aload_n 0, 1) := by decide +kernel
theorem d_M_init_13 : decode b_M_init 13 = .ok (.bipush 36, 2) := by decide +kernel
theorem d_M_init_15 : decode b_M_init 15 = .ok (.newarray .int, 2) := by decide +kernel
theorem d_M_init_17 : decode b_M_init 17 = .ok (.putfield 13, 3) := by decide +kernel
theorem d_M_init_20 : decode b_M_init 20 = .ok (.aload_n 0, 1) := by decide +kernel
theorem d_M_init_21 : decode b_M_init 21 = .ok (.bipush 36, 2) := by decide +kernel
theorem d_M_init_23 : decode b_M_init 23 = .ok (.newarray .int, 2) := by decide +kernel
theorem d_M_init_25 : decode b_M_init 25 = .ok (.putfield 16, 3) := by decide +kernel
theorem d_M_init_28 : decode b_M_init 28 = .ok (.aload_n 0, 1) := by decide +kernel
theorem d_M_init_29 : decode b_M_init 29 = .ok (.bipush 36, 2) := by decide +kernel
theorem d_M_init_31 : decode b_M_init 31 = .ok (.newarray .int, 2) := by decide +kernel
theorem d_M_init_33 : decode b_M_init 33 = .ok (.putfield 19, 3) := by decide +kernel
theorem d_M_init_36 : decode b_M_init 36 = .ok (.aload_n 0, 1) := by decide +kernel
theorem d_M_init_37 : decode b_M_init 37 = .ok (.bipush 36, 2) := by decide +kernel
theorem d_M_init_39 : decode b_M_init 39 = .ok (.newarray .int, 2) := by decide +kernel
theorem d_M_init_41 : decode b_M_init 41 = .ok (.putfield 22, 3) := by decide +kernel
theorem d_M_init_44 : decode b_M_init 44 = .ok (.aload_n 0, 1) := by decide +kernel
theorem d_M_init_45 : decode b_M_init 45 = .ok (.bipush 36, 2) := by decide +kernel
theorem d_M_init_47 : decode b_M_init 47 = .ok (.newarray .int, 2) := by decide +kernel
theorem d_M_init_49 : decode b_M_init 49 = .ok (.putfield 25, 3) := by decide +kernel
theorem d_M_init_52 : decode b_M_init 52 = .ok (.aload_n 0, 1) := by decide +kernel
theorem d_M_init_53 : decode b_M_init 53 = .ok (.bipush 36, 2) := by decide +kernel
theorem d_M_init_55 : decode b_M_init 55 = .ok (.newarray .boolean, 2) := by decide +kernel
theorem d_M_init_57 : decode b_M_init 57 = .ok (.putfield 28, 3) := by decide +kernel
theorem d_M_init_60 : decode b_M_init 60 = .ok (.aload_n 0, 1) := by decide +kernel
theorem d_M_init_61 : decode b_M_init 61 = .ok (.bipush 36, 2) := by decide +kernel
theorem d_M_init_63 : decode b_M_init 63 = .ok (.newarray .boolean, 2) := by decide +kernel
theorem d_M_init_65 : decode b_M_init 65 = .ok (.putfield 32, 3) := by decide +kernel
theorem d_M_init_68 : decode b_M_init 68 = .ok (.aload_n 0, 1) := by decide +kernel
theorem d_M_init_69 : decode b_M_init 69 = .ok (.bipush 36, 2) := by decide +kernel
theorem d_M_init_71 : decode b_M_init 71 = .ok (.newarray .double, 2) := by decide +kernel
theorem d_M_init_73 : decode b_M_init 73 = .ok (.putfield 35, 3) := by decide +kernel
theorem d_M_init_76 : decode b_M_init 76 = .ok (.aload_n 0, 1) := by decide +kernel
theorem d_M_init_77 : decode b_M_init 77 = .ok (.iconst 3, 1) := by decide +kernel
theorem d_M_init_78 : decode b_M_init 78 = .ok (.newarray .boolean, 2) := by decide +kernel
theorem d_M_init_80 : decode b_M_init 80 = .ok (.putfield 39, 3) := by decide +kernel
theorem d_M_init_83 : decode b_M_init 83 = .ok (.aload_n 0, 1) := by decide +kernel
theorem d_M_init_84 : decode b_M_init 84 = .ok (.iconst 3, 1) := by decide +kernel
theorem d_M_init_85 : decode b_M_init 85 = .ok (.newarray .boolean, 2) := by decide +kernel
theorem d_M_init_87 : decode b_M_init 87 = .ok (.putfield 42, 3) := by decide +kernel
theorem d_M_init_90 : decode b_M_init 90 = .ok (.aload_n 0, 1) := by decide +kernel
theorem d_M_init_91 : decode b_M_init 91 = .ok (.bipush 30, 2) := by decide +kernel
theorem d_M_init_93 : decode b_M_init 93 = .ok (.newarray .boolean, 2) := by decide +kernel
theorem d_M_init_95 : decode b_M_init 95 = .ok (.putfield 45, 3) := by decide +kernel
theorem d_M_init_98 : decode b_M_init 98 = .ok (.aload_n 0, 1) := by decide +kernel
theorem d_M_init_99 : decode b_M_init 99 = .ok (.iconst 3, 1) := by decide +kernel
theorem d_M_init_100 : decode b_M_init 100 = .ok (.newarray .int, 2) := by decide +kernel
theorem d_M_init_102 : decode b_M_init 102 = .ok (.dup, 1) := by decide +kernel
theorem d_M_init_103 : decode b_M_init 103 = .ok (.iconst 0, 1) := by decide +kernel
theorem d_M_init_104 : decode b_M_init 104 = .ok (.bipush 100, 2) := by decide +kernel
theorem d_M_init_106 : decode b_M_init 106 = .ok (.iastore, 1) := by decide +kernel
theorem d_M_init_107 : decode b_M_init 107 = .ok (.dup, 1) := by decide +kernel
theorem d_M_init_108 : decode b_M_init 108 = .ok (.iconst 1, 1) := by decide +kernel
theorem d_M_init_109 : decode b_M_init 109 = .ok (.bipush 100, 2) := by decide +kernel
theorem d_M_init_111 : decode b_M_init 111 = .ok (.iastore, 1) := by decide +kernel
theorem d_M_init_112 : decode b_M_init 112 = .ok (.dup, 1) := by decide +kernel
theorem d_M_init_113 : decode b_M_init 113 = .ok (.iconst 2, 1) := by decide +kernel
theorem d_M_init_114 : decode b_M_init 114 = .ok (.bipush 100, 2) := by decide +kernel
theorem d_M_init_116 : decode b_M_init 116 = .ok (.iastore, 1) := by decide +kernel
theorem d_M_init_117 : decode b_M_init 117 = .ok (.putfield 48, 3) := by decide +kernel
theorem d_M_init_120 : decode b_M_init 120 = .ok (.aload_n 0, 1) := by decide +kernel
theorem d_M_init_121 : decode b_M_init 121 = .ok (.iconst 3, 1) := by decide +kernel
theorem d_M_init_122 : decode b_M_init 122 = .ok (.newarray .int, 2) := by decide +kernel
theorem d_M_init_124 : decode b_M_init 124 = .ok (.dup, 1) := by decide +kernel
theorem d_M_init_125 : decode b_M_init 125 = .ok (.iconst 0, 1) := by decide +kernel
theorem d_M_init_126 : decode b_M_init 126 = .ok (.sipush 200, 3) := by decide +kernel
theorem d_M_init_129 : decode b_M_init 129 = .ok (.iastore, 1) := by decide +kernel
theorem d_M_init_130 : decode b_M_init 130 = .ok (.dup, 1) := by decide +kernel
theorem d_M_init_131 : decode b_M_init 131 = .ok (.iconst 1, 1) := by decide +kernel
theorem d_M_init_132 : decode b_M_init 132 = .ok (.sipush 200, 3) := by decide +kernel
theorem d_M_init_135 : decode b_M_init 135 = .ok (.iastore, 1) := by decide +kernel
theorem d_M_init_136 : decode b_M_init 136 = .ok (.dup, 1) := by decide +kernel
theorem d_M_init_137 : decode b_M_init 137 = .ok (.iconst 2, 1) := by decide +kernel
theorem d_M_init_138 : decode b_M_init 138 = .ok (.sipush 200, 3) := by decide +kernel
theorem d_M_init_141 : decode b_M_init 141 = .ok (.iastore, 1) := by decide +kernel
theorem d_M_init_142 : decode b_M_init 142 = .ok (.putfield 51, 3) := by decide +kernel
theorem d_M_init_145 : decode b_M_init 145 = .ok (.aload_n 0, 1) := by decide +kernel
theorem d_M_init_146 : decode b_M_init 146 = .ok (.iconst 3, 1) := by decide +kernel
theorem d_M_init_147 : decode b_M_init 147 = .ok (.newarray .double, 2) := by decide +kernel
theorem d_M_init_149 : decode b_M_init 149 = .ok (.dup, 1) := by decide +kernel
theorem d_M_init_150 : decode b_M_init 150 = .ok (.iconst 0, 1) := by decide +kernel
theorem d_M_init_151 : decode b_M_init 151 = .ok (.ldc2_w 54, 3) := by decide +kernel
theorem d_M_init_154 : decode b_M_init 154 = .ok (.dastore, 1) := by decide +kernel
theorem d_M_init_155 : decode b_M_init 155 = .ok (.dup, 1) := by decide +kernel
theorem d_M_init_156 : decode b_M_init 156 = .ok (.iconst 1, 1) := by decide +kernel
theorem d_M_init_157 : decode b_M_init 157 = .ok (.ldc2_w 54, 3) := by decide +kernel
theorem d_M_init_160 : decode b_M_init 160 = .ok (.dastore, 1) := by decide +kernel
theorem d_M_init_161 : decode b_M_init 161 = .ok (.dup, 1) := by decide +kernel
theorem d_M_init_162 : decode b_M_init 162 = .ok (.iconst 2, 1) := by decide +kernel
theorem d_M_init_163 : decode b_M_init 163 = .ok (.ldc2_w 54, 3) := by decide +kernel
theorem d_M_init_166 : decode b_M_init 166 = .ok (.dastore, 1) := by decide +kernel
theorem d_M_init_167 : decode b_M_init 167 = .ok (.putfield 56, 3) := by decide +kernel
theorem d_M_init_170 : decode b_M_init 170 = .ok (.aload_n 0, 1) := by decide +kernel
theorem d_M_init_171 : decode b_M_init 171 = .ok (.bipush 40, 2) := by decide +kernel
theorem d_M_init_173 : decode b_M_init 173 = .ok (.newarray .int, 2) := by decide +kernel
theorem d_M_init_175 : decode b_M_init 175 = .ok (.putfield 59, 3) := by decide +kernel
theorem d_M_init_178 : decode b_M_init 178 = .ok (.aload_n 0, 1) := by decide +kernel
theorem d_M_init_179 : decode b_M_init 179 = .ok (.bipush 40, 2) := by decide +kernel
theorem d_M_init_181 : decode b_M_init 181 = .ok (.newarray .int, 2) := by decide +kernel
theorem d_M_init_183 : decode b_M_init 183 = .ok (.putfield 62, 3) := by decide +kernel
theorem d_M_init_186 : decode b_M_init 186 = .ok (.aload_n 0, 1) := by decide +kernel
theorem d_M_init_187 : decode b_M_init 187 = .ok (.bipush 40, 2) := by decide +kernel
theorem d_M_init_189 : decode b_M_init 189 = .ok (.newarray .int, 2) := by decide +kernel
theorem d_M_init_191 : decode b_M_init 191 = .ok (.putfield 65, 3) := by decide +kernel
theorem d_M_init_194 : decode b_M_init 194 = .ok (.aload_n 0, 1) := by decide +kernel
theorem d_M_init_195 : decode b_M_init 195 = .ok (.bipush 40, 2) := by decide +kernel
theorem d_M_init_197 : decode b_M_init 197 = .ok (.newarray .int, 2) := by decide +kernel
theorem d_M_init_199 : decode b_M_init 199 = .ok (.putfield 68, 3) := by decide +kernel
theorem d_M_init_202 : decode b_M_init 202 = .ok (.aload_n 0, 1) := by decide +kernel
theorem d_M_init_203 : decode b_M_init 203 = .ok (.iconst 3, 1) := by decide +kernel
theorem d_M_init_204 : decode b_M_init 204 = .ok (.newarray .int, 2) := by decide +kernel
theorem d_M_init_206 : decode b_M_init 206 = .ok (.putfield 71, 3) := by decide +kernel
theorem d_M_init_209 : decode b_M_init 209 = .ok (.aload_n 0, 1) := by decide +kernel
theorem d_M_init_210 : decode b_M_init 210 = .ok (.bipush 120, 2) := by decide +kernel
theorem d_M_init_212 : decode b_M_init 212 = .ok (.newarray .int, 2) := by decide +kernel
theorem d_M_init_214 : decode b_M_init 214 = .ok (.putfield 74, 3) := by decide +kernel
theorem d_M_init_217 : decode b_M_init 217 = .ok (.aload_n 0, 1) := by decide +kernel
theorem d_M_init_218 : decode b_M_init 218 = .ok (.bipush 120, 2) := by decide +kernel
theorem d_M_init_220 : decode b_M_init 220 = .ok (.newarray .int, 2) := by decide +kernel
theorem d_M_init_222 : decode b_M_init 222 = .ok (.putfield 77, 3) := by decide +kernel
theorem d_M_init_225 : decode b_M_init 225 = .ok (.aload_n 0, 1) := by decide +kernel
theorem d_M_init_226 : decode b_M_init 226 = .ok (.bipush 60, 2) := by decide +kernel
theorem d_M_init_228 : decode b_M_init 228 = .ok (.newarray .int, 2) := by decide +kernel
theorem d_M_init_230 : decode b_M_init 230 = .ok (.putfield 80, 3) := by decide +kernel
theorem d_M_init_233 : decode b_M_init 233 = .ok (.aload_n 0, 1) := by decide +kernel
theorem d_M_init_234 : decode b_M_init 234 = .ok (.bipush 60, 2) := by decide +kernel
theorem d_M_init_236 : decode b_M_init 236 = .ok (.newarray .int, 2) := by decide +kernel
theorem d_M_init_238 : decode b_M_init 238 = .ok (.putfield 83, 3) := by decide +kernel
theorem d_M_init_241 : decode b_M_init 241 = .ok (.aload_n 0, 1) := by decide +kernel
theorem d_M_init_242 : decode b_M_init 242 = .ok (.bipush 60, 2) := by decide +kernel
theorem d_M_init_244 : decode b_M_init 244 = .ok (.newarray .int, 2) := by decide +kernel
theorem d_M_init_246 : decode b_M_init 246 = .ok (.putfield 86, 3) := by decide +kernel
theorem d_M_init_249 : decode b_M_init 249 = .ok (.aload_n 0, 1) := by decide +kernel
theorem d_M_init_250 : decode b_M_init 250 = .ok (.bipush 60, 2) := by decide +kernel
theorem d_M_init_252 : decode b_M_init 252 = .ok (.newarray .int, 2) := by decide +kernel
theorem d_M_init_254 : decode b_M_init 254 = .ok (.putfield 89, 3) := by decide +kernel
theorem d_M_init_257 : decode b_M_init 257 = .ok (.iconst 0, 1) := by decide +kernel
theorem d_M_init_258 : decode b_M_init 258 = .ok (.istore_n 1, 1) := by decide +kernel
theorem d_M_init_259 : decode b_M_init 259 = .ok (.iload_n 1, 1) := by decide +kernel
theorem d_M_init_260 : decode b_M_init 260 = .ok (.bipush 36, 2) := by decide +kernel
theorem d_M_init_262 : decode b_M_init 262 = .ok (.if_icmp .ge 16, 3) := by decide +kernel
theorem d_M_init_265 : decode b_M_init 265 = .ok (.aload_n 0, 1) := by decide +kernel
theorem d_M_init_266 : decode b_M_init 266 = .ok (.getfield 7, 3) := by decide +kernel
theorem d_M_init_269 : decode b_M_init 269 = .ok (.iload_n 1, 1) := by decide +kernel
theorem d_M_init_270 : decode b_M_init 270 = .ok (.iconst (-1), 1) := by decide +kernel
theorem d_M_init_271 : decode b_M_init 271 = .ok (.iastore, 1) := by decide +kernel
theorem d_M_init_272 : decode b_M_init 272 = .ok (.iinc 1 1, 3) := by decide +kernel
theorem d_M_init_275 : decode b_M_init 275 = .ok (.goto (-16), 3) := by decide +kernel
theorem d_M_init_278 : decode b_M_init 278 = .ok (.return_, 1) := by decide +kernel
theorem d_M_thrown_0 : decode b_M_thrown 0 = .ok (.aload_n 0, 1) := by decide +kernel
theorem d_M_thrown_1 : decode b_M_thrown 1 = .ok (.getfield 92, 3) := by decide +kernel
theorem d_M_thrown_4 : decode b_M_thrown 4 = .ok (.ireturn, 1) := by decide +kernel
theorem d_M_in_0 : decode b_M_in 0 = .ok (.iload_n 0, 1) := by decide +kernel
theorem d_M_in_1 : decode b_M_in 1 = .ok (.iload_n 1, 1) := by decide +kernel
theorem d_M_in_2 : decode b_M_in 2 = .ok (.if_icmp .lt 12, 3) := by decide +kernel
theorem d_M_in_5 : decode b_M_in 5 = .ok (.iload_n 0, 1) := by decide +kernel
theorem d_M_in_6 : decode b_M_in 6 = .ok (.iload_n 2, 1) := by decide +kernel
theorem d_M_in_7 : decode b_M_in 7 = .ok (.if_icmp .gt 7, 3) := by decide +kernel
theorem d_M_in_10 : decode b_M_in 10 = .ok (.iconst 1, 1) := by decide +kernel
theorem d_M_in_11 : decode b_M_in 11 = .ok (.goto 4, 3) := by decide +kernel
theorem d_M_in_14 : decode b_M_in 14 = .ok (.iconst 0, 1) := by decide +kernel
theorem d_M_in_15 : decode b_M_in 15 = .ok (.ireturn, 1) := by decide +kernel
theorem d_M_isPlace_0 : decode b_M_isPlace 0 = .ok (.iload_n 0, 1) := by decide +kernel
theorem d_M_isPlace_1 : decode b_M_isPlace 1 = .ok (.iconst 0, 1) := by decide +kernel
theorem d_M_isPlace_2 : decode b_M_isPlace 2 = .ok (.iconst 2, 1) := by decide +kernel
theorem d_M_isPlace_3 : decode b_M_isPlace 3 = .ok (.invokestatic 96, 3) := by decide +kernel
theorem d_M_isPlace_6 : decode b_M_isPlace 6 = .ok (.ifCond .eq 17, 3) := by decide +kernel
theorem d_M_isPlace_9 : decode b_M_isPlace 9 = .ok (.iload_n 1, 1) := by decide +kernel
theorem d_M_isPlace_10 : decode b_M_isPlace 10 = .ok (.iconst 0, 1) := by decide +kernel
theorem d_M_isPlace_11 : decode b_M_isPlace 11 = .ok (.bipush 11, 2) := by decide +kernel
theorem d_M_isPlace_13 : decode b_M_isPlace 13 = .ok (.invokestatic 96, 3) := by decide +kernel
theorem d_M_isPlace_16 : decode b_M_isPlace 16 = .ok (.ifCond .eq 7, 3) := by decide +kernel
theorem d_M_isPlace_19 : decode b_M_isPlace 19 = .ok (.iconst 1, 1) := by decide +kernel
theorem d_M_isPlace_20 : decode b_M_isPlace 20 = .ok (.goto 4, 3) := by decide +kernel
theorem d_M_isPlace_23 : decode b_M_isPlace 23 = .ok (.iconst 0, 1) := by decide +kernel
theorem d_M_isPlace_24 : decode b_M_isPlace 24 = .ok (.ireturn, 1) := by decide +kernel
theorem d_M_refuse_0 : decode b_M_refuse 0 = .ok (.aload_n 0, 1) := by decide +kernel
theorem d_M_refuse_1 : decode b_M_refuse 1 = .ok (.iload_n 1, 1) := by decide +kernel
theorem d_M_refuse_2 : decode b_M_refuse 2 = .ok (.putfield 92, 3) := by decide +kernel
theorem d_M_refuse_5 : decode b_M_refuse 5 = .ok (.iconst 0, 1) := by decide +kernel
theorem d_M_refuse_6 : decode b_M_refuse 6 = .ok (.ireturn, 1) := by decide +kernel
theorem d_M_send_0 : decode b_M_send 0 = .ok (.aload_n 0, 1) := by decide +kernel
theorem d_M_send_1 : decode b_M_send 1 = .ok (.getfield 100, 3) := by decide +kernel
theorem d_M_send_4 : decode b_M_send 4 = .ok (.bipush 60, 2) := by decide +kernel
theorem d_M_send_6 : decode b_M_send 6 = .ok (.if_icmp .ge 44, 3) := by decide +kernel
theorem d_M_send_9 : decode b_M_send 9 = .ok (.aload_n 0, 1) := by decide +kernel
theorem d_M_send_10 : decode b_M_send 10 = .ok (.getfield 80, 3) := by decide +kernel
theorem d_M_send_13 : decode b_M_send 13 = .ok (.aload_n 0, 1) := by decide +kernel
theorem d_M_send_14 : decode b_M_send 14 = .ok (.getfield 100, 3) := by decide +kernel
theorem d_M_send_17 : decode b_M_send 17 = .ok (.iload_n 1, 1) := by decide +kernel
theorem d_M_send_18 : decode b_M_send 18 = .ok (.iastore, 1) := by decide +kernel
theorem d_M_send_19 : decode b_M_send 19 = .ok (.aload_n 0, 1) := by decide +kernel
theorem d_M_send_20 : decode b_M_send 20 = .ok (.getfield 83, 3) := by decide +kernel
theorem d_M_send_23 : decode b_M_send 23 = .ok (.aload_n 0, 1) := by decide +kernel
theorem d_M_send_24 : decode b_M_send 24 = .ok (.getfield 100, 3) := by decide +kernel
theorem d_M_send_27 : decode b_M_send 27 = .ok (.iload_n 2, 1) := by decide +kernel
theorem d_M_send_28 : decode b_M_send 28 = .ok (.iastore, 1) := by decide +kernel
theorem d_M_send_29 : decode b_M_send 29 = .ok (.aload_n 0, 1) := by decide +kernel
theorem d_M_send_30 : decode b_M_send 30 = .ok (.getfield 86, 3) := by decide +kernel
theorem d_M_send_33 : decode b_M_send 33 = .ok (.aload_n 0, 1) := by decide +kernel
theorem d_M_send_34 : decode b_M_send 34 = .ok (.getfield 100, 3) := by decide +kernel
theorem d_M_send_37 : decode b_M_send 37 = .ok (.iload_n 3, 1) := by decide +kernel
theorem d_M_send_38 : decode b_M_send 38 = .ok (.iastore, 1) := by decide +kernel
theorem d_M_send_39 : decode b_M_send 39 = .ok (.aload_n 0, 1) := by decide +kernel
theorem d_M_send_40 : decode b_M_send 40 = .ok (.getfield 89, 3) := by decide +kernel
theorem d_M_send_43 : decode b_M_send 43 = .ok (.aload_n 0, 1) := by decide +kernel
theorem d_M_send_44 : decode b_M_send 44 = .ok (.getfield 100, 3) := by decide +kernel
theorem d_M_send_47 : decode b_M_send 47 = .ok (.iload 4, 2) := by decide +kernel
theorem d_M_send_49 : decode b_M_send 49 = .ok (.iastore, 1) := by decide +kernel
theorem d_M_send_50 : decode b_M_send 50 = .ok (.aload_n 0, 1) := by decide +kernel
theorem d_M_send_51 : decode b_M_send 51 = .ok (.dup, 1) := by decide +kernel
theorem d_M_send_52 : decode b_M_send 52 = .ok (.getfield 100, 3) := by decide +kernel
theorem d_M_send_55 : decode b_M_send 55 = .ok (.iconst 1, 1) := by decide +kernel
theorem d_M_send_56 : decode b_M_send 56 = .ok (.iadd, 1) := by decide +kernel
theorem d_M_send_57 : decode b_M_send 57 = .ok (.putfield 100, 3) := by decide +kernel
theorem d_M_send_60 : decode b_M_send 60 = .ok (.return_, 1) := by decide +kernel
theorem d_M_ask_0 : decode b_M_ask 0 = .ok (.iload_n 1, 1) := by decide +kernel
theorem d_M_ask_1 : decode b_M_ask 1 = .ok (.iload_n 2, 1) := by decide +kernel
theorem d_M_ask_2 : decode b_M_ask 2 = .ok (.invokestatic 103, 3) := by decide +kernel
theorem d_M_ask_5 : decode b_M_ask 5 = .ok (.ifCond .eq 12, 3) := by decide +kernel
theorem d_M_ask_8 : decode b_M_ask 8 = .ok (.iload_n 3, 1) := by decide +kernel
theorem d_M_ask_9 : decode b_M_ask 9 = .ok (.iconst 0, 1) := by decide +kernel
theorem d_M_ask_10 : decode b_M_ask 10 = .ok (.iconst 2, 1) := by decide +kernel
theorem d_M_ask_11 : decode b_M_ask 11 = .ok (.invokestatic 96, 3) := by decide +kernel
theorem d_M_ask_14 : decode b_M_ask 14 = .ok (.ifCond .ne 9, 3) := by decide +kernel
theorem d_M_ask_17 : decode b_M_ask 17 = .ok (.aload_n 0, 1) := by decide +kernel
theorem d_M_ask_18 : decode b_M_ask 18 = .ok (.iconst 1, 1) := by decide +kernel
theorem d_M_ask_19 : decode b_M_ask 19 = .ok (.invokevirtual 107, 3) := by decide +kernel
theorem d_M_ask_22 : decode b_M_ask 22 = .ok (.ireturn, 1) := by decide +kernel
theorem d_M_ask_23 : decode b_M_ask 23 = .ok (.bipush 12, 2) := by decide +kernel
theorem d_M_ask_25 : decode b_M_ask 25 = .ok (.iload_n 1, 1) := by decide +kernel
theorem d_M_ask_26 : decode b_M_ask 26 = .ok (.imul, 1) := by decide +kernel
theorem d_M_ask_27 : decode b_M_ask 27 = .ok (.iload_n 2, 1) := by decide +kernel
theorem d_M_ask_28 : decode b_M_ask 28 = .ok (.iadd, 1) := by decide +kernel
theorem d_M_ask_29 : decode b_M_ask 29 = .ok (.istore 4, 2) := by decide +kernel
theorem d_M_ask_31 : decode b_M_ask 31 = .ok (.aload_n 0, 1) := by decide +kernel
theorem d_M_ask_32 : decode b_M_ask 32 = .ok (.getfield 7, 3) := by decide +kernel
theorem d_M_ask_35 : decode b_M_ask 35 = .ok (.iload 4, 2) := by decide +kernel
theorem d_M_ask_37 : decode b_M_ask 37 = .ok (.iaload, 1) := by decide +kernel
theorem d_M_ask_38 : decode b_M_ask 38 = .ok (.iconst (-1), 1) := by decide +kernel
theorem d_M_ask_39 : decode b_M_ask 39 = .ok (.if_icmp .eq 9, 3) := by decide +kernel
theorem d_M_ask_42 : decode b_M_ask 42 = .ok (.aload_n 0, 1) := by decide +kernel
theorem d_M_ask_43 : decode b_M_ask 43 = .ok (.iconst 2, 1) := by decide +kernel
theorem d_M_ask_44 : decode b_M_ask 44 = .ok (.invokevirtual 107, 3) := by decide +kernel
theorem d_M_ask_47 : decode b_M_ask 47 = .ok (.ireturn, 1) := by decide +kernel
theorem d_M_ask_48 : decode b_M_ask 48 = .ok (.aload_n 0, 1) := by decide +kernel
theorem d_M_ask_49 : decode b_M_ask 49 = .ok (.getfield 32, 3) := by decide +kernel
theorem d_M_ask_52 : decode b_M_ask 52 = .ok (.iload 4, 2) := by decide +kernel
theorem d_M_ask_54 : decode b_M_ask 54 = .ok (.baload, 1) := by decide +kernel
theorem d_M_ask_55 : decode b_M_ask 55 = .ok (.ifCond .eq 9, 3) := by decide +kernel
theorem d_M_ask_58 : decode b_M_ask 58 = .ok (.aload_n 0, 1) := by decide +kernel
theorem d_M_ask_59 : decode b_M_ask 59 = .ok (.iconst 3, 1) := by decide +kernel
theorem d_M_ask_60 : decode b_M_ask 60 = .ok (.invokevirtual 107, 3) := by decide +kernel
theorem d_M_ask_63 : decode b_M_ask 63 = .ok (.ireturn, 1) := by decide +kernel
theorem d_M_ask_64 : decode b_M_ask 64 = .ok (.aload_n 0, 1) := by decide +kernel
theorem d_M_ask_65 : decode b_M_ask 65 = .ok (.iconst 0, 1) := by decide +kernel
theorem d_M_ask_66 : decode b_M_ask 66 = .ok (.putfield 92, 3) := by decide +kernel
theorem d_M_ask_69 : decode b_M_ask 69 = .ok (.aload_n 0, 1) := by decide +kernel
theorem d_M_ask_70 : decode b_M_ask 70 = .ok (.getfield 7, 3) := by decide +kernel
theorem d_M_ask_73 : decode b_M_ask 73 = .ok (.iload 4, 2) := by decide +kernel
theorem d_M_ask_75 : decode b_M_ask 75 = .ok (.iconst 0, 1) := by decide +kernel
theorem d_M_ask_76 : decode b_M_ask 76 = .ok (.iastore, 1) := by decide +kernel
theorem d_M_ask_77 : decode b_M_ask 77 = .ok (.aload_n 0, 1) := by decide +kernel
theorem d_M_ask_78 : decode b_M_ask 78 = .ok (.getfield 13, 3) := by decide +kernel
theorem d_M_ask_81 : decode b_M_ask 81 = .ok (.iload 4, 2) := by decide +kernel
theorem d_M_ask_83 : decode b_M_ask 83 = .ok (.iload_n 3, 1) := by decide +kernel
theorem d_M_ask_84 : decode b_M_ask 84 = .ok (.iastore, 1) := by decide +kernel
theorem d_M_ask_85 : decode b_M_ask 85 = .ok (.aload_n 0, 1) := by decide +kernel
theorem d_M_ask_86 : decode b_M_ask 86 = .ok (.getfield 16, 3) := by decide +kernel
theorem d_M_ask_89 : decode b_M_ask 89 = .ok (.iload 4, 2) := by decide +kernel
theorem d_M_ask_91 : decode b_M_ask 91 = .ok (.aload_n 0, 1) := by decide +kernel
theorem d_M_ask_92 : decode b_M_ask 92 = .ok (.getfield 111, 3) := by decide +kernel
theorem d_M_ask_95 : decode b_M_ask 95 = .ok (.iastore, 1) := by decide +kernel
theorem d_M_ask_96 : decode b_M_ask 96 = .ok (.aload_n 0, 1) := by decide +kernel
theorem d_M_ask_97 : decode b_M_ask 97 = .ok (.getfield 28, 3) := by decide +kernel
theorem d_M_ask_100 : decode b_M_ask 100 = .ok (.iload 4, 2) := by decide +kernel
theorem d_M_ask_102 : decode b_M_ask 102 = .ok (.iconst 0, 1) := by decide +kernel
theorem d_M_ask_103 : decode b_M_ask 103 = .ok (.bastore, 1) := by decide +kernel
theorem d_M_ask_104 : decode b_M_ask 104 = .ok (.aload_n 0, 1) := by decide +kernel
theorem d_M_ask_105 : decode b_M_ask 105 = .ok (.getfield 35, 3) := by decide +kernel
theorem d_M_ask_108 : decode b_M_ask 108 = .ok (.iload 4, 2) := by decide +kernel
theorem d_M_ask_110 : decode b_M_ask 110 = .ok (.dconst 0, 1) := by decide +kernel
theorem d_M_ask_111 : decode b_M_ask 111 = .ok (.dastore, 1) := by decide +kernel
theorem d_M_ask_112 : decode b_M_ask 112 = .ok (.aload_n 0, 1) := by decide +kernel
theorem d_M_ask_113 : decode b_M_ask 113 = .ok (.getfield 22, 3) := by decide +kernel
theorem d_M_ask_116 : decode b_M_ask 116 = .ok (.iload 4, 2) := by decide +kernel
theorem d_M_ask_118 : decode b_M_ask 118 = .ok (.iconst 0, 1) := by decide +kernel
theorem d_M_ask_119 : decode b_M_ask 119 = .ok (.iastore, 1) := by decide +kernel
theorem d_M_ask_120 : decode b_M_ask 120 = .ok (.aload_n 0, 1) := by decide +kernel
theorem d_M_ask_121 : decode b_M_ask 121 = .ok (.getfield 25, 3) := by decide +kernel
theorem d_M_ask_124 : decode b_M_ask 124 = .ok (.iload 4, 2) := by decide +kernel
theorem d_M_ask_126 : decode b_M_ask 126 = .ok (.iconst (-1), 1) := by decide +kernel
theorem d_M_ask_127 : decode b_M_ask 127 = .ok (.iastore, 1) := by decide +kernel
theorem d_M_ask_128 : decode b_M_ask 128 = .ok (.aload_n 0, 1) := by decide +kernel
theorem d_M_ask_129 : decode b_M_ask 129 = .ok (.getfield 19, 3) := by decide +kernel
theorem d_M_ask_132 : decode b_M_ask 132 = .ok (.iload 4, 2) := by decide +kernel
theorem d_M_ask_134 : decode b_M_ask 134 = .ok (.sipush 1000, 3) := by decide +kernel
theorem d_M_ask_137 : decode b_M_ask 137 = .ok (.aload_n 0, 1) := by decide +kernel
theorem d_M_ask_138 : decode b_M_ask 138 = .ok (.getfield 114, 3) := by decide +kernel
theorem d_M_ask_141 : decode b_M_ask 141 = .ok (.imul, 1) := by decide +kernel
theorem d_M_ask_142 : decode b_M_ask 142 = .ok (.bipush 100, 2) := by decide +kernel
theorem d_M_ask_144 : decode b_M_ask 144 = .ok (.iload_n 1, 1) := by decide +kernel
theorem d_M_ask_145 : decode b_M_ask 145 = .ok (.imul, 1) := by decide +kernel
theorem d_M_ask_146 : decode b_M_ask 146 = .ok (.iadd, 1) := by decide +kernel
theorem d_M_ask_147 : decode b_M_ask 147 = .ok (.iload_n 2, 1) := by decide +kernel
theorem d_M_ask_148 : decode b_M_ask 148 = .ok (.iadd, 1) := by decide +kernel
theorem d_M_ask_149 : decode b_M_ask 149 = .ok (.iastore, 1) := by decide +kernel
theorem d_M_ask_150 : decode b_M_ask 150 = .ok (.aload_n 0, 1) := by decide +kernel
theorem d_M_ask_151 : decode b_M_ask 151 = .ok (.dup, 1) := by decide +kernel
theorem d_M_ask_152 : decode b_M_ask 152 = .ok (.getfield 114, 3) := by decide +kernel
theorem d_M_ask_155 : decode b_M_ask 155 = .ok (.iconst 1, 1) := by decide +kernel
theorem d_M_ask_156 : decode b_M_ask 156 = .ok (.iadd, 1) := by decide +kernel
theorem d_M_ask_157 : decode b_M_ask 157 = .ok (.putfield 114, 3) := by decide +kernel
theorem d_M_ask_160 : decode b_M_ask 160 = .ok (.aload_n 0, 1) := by decide +kernel
theorem d_M_ask_161 : decode b_M_ask 161 = .ok (.iload_n 2, 1) := by decide +kernel
theorem d_M_ask_162 : decode b_M_ask 162 = .ok (.iload_n 1, 1) := by decide +kernel
theorem d_M_ask_163 : decode b_M_ask 163 = .ok (.iconst 2, 1) := by decide +kernel
theorem d_M_ask_164 : decode b_M_ask 164 = .ok (.iconst 0, 1) := by decide +kernel
theorem d_M_ask_165 : decode b_M_ask 165 = .ok (.invokevirtual 117, 3) := by decide +kernel
theorem d_M_ask_168 : decode b_M_ask 168 = .ok (.aload_n 0, 1) := by decide +kernel
theorem d_M_ask_169 : decode b_M_ask 169 = .ok (.getfield 19, 3) := by decide +kernel
theorem d_M_ask_172 : decode b_M_ask 172 = .ok (.iload 4, 2) := by decide +kernel
theorem d_M_ask_174 : decode b_M_ask 174 = .ok (.iaload, 1) := by decide +kernel
theorem d_M_ask_175 : decode b_M_ask 175 = .ok (.ireturn, 1) := by decide +kernel
theorem d_M_confirm_0 : decode b_M_confirm 0 = .ok (.iconst 0, 1) := by decide +kernel
theorem d_M_confirm_1 : decode b_M_confirm 1 = .ok (.istore_n 2, 1) := by decide +kernel
theorem d_M_confirm_2 : decode b_M_confirm 2 = .ok (.iload_n 2, 1) := by decide +kernel
theorem d_M_confirm_3 : decode b_M_confirm 3 = .ok (.bipush 36, 2) := by decide +kernel
theorem d_M_confirm_5 : decode b_M_confirm 5 = .ok (.if_icmp .ge 65, 3) := by decide +kernel
theorem d_M_confirm_8 : decode b_M_confirm 8 = .ok (.aload_n 0, 1) := by decide +kernel
theorem d_M_confirm_9 : decode b_M_confirm 9 = .ok (.getfield 7, 3) := by decide +kernel
theorem d_M_confirm_12 : decode b_M_confirm 12 = .ok (.iload_n 2, 1) := by decide +kernel
theorem d_M_confirm_13 : decode b_M_confirm 13 = .ok (.iaload, 1) := by decide +kernel
theorem d_M_confirm_14 : decode b_M_confirm 14 = .ok (.ifCond .ne 50, 3) := by decide +kernel
theorem d_M_confirm_17 : decode b_M_confirm 17 = .ok (.aload_n 0, 1) := by decide +kernel
theorem d_M_confirm_18 : decode b_M_confirm 18 = .ok (.getfield 19, 3) := by decide +kernel
theorem d_M_confirm_21 : decode b_M_confirm 21 = .ok (.iload_n 2, 1) := by decide +kernel
theorem d_M_confirm_22 : decode b_M_confirm 22 = .ok (.iaload, 1) := by decide +kernel
theorem d_M_confirm_23 : decode b_M_confirm 23 = .ok (.iload_n 1, 1) := by decide +kernel
theorem d_M_confirm_24 : decode b_M_confirm 24 = .ok (.if_icmp .eq 6, 3) := by decide +kernel
theorem d_M_confirm_27 : decode b_M_confirm 27 = .ok (.goto 37, 3) := by decide +kernel
theorem d_M_confirm_30 : decode b_M_confirm 30 = .ok (.aload_n 0, 1) := by decide +kernel
theorem d_M_confirm_31 : decode b_M_confirm 31 = .ok (.iconst 0, 1) := by decide +kernel
theorem d_M_confirm_32 : decode b_M_confirm 32 = .ok (.putfield 92, 3) := by decide +kernel
theorem d_M_confirm_35 : decode b_M_confirm 35 = .ok (.aload_n 0, 1) := by decide +kernel
theorem d_M_confirm_36 : decode b_M_confirm 36 = .ok (.getfield 7, 3) := by decide +kernel
theorem d_M_confirm_39 : decode b_M_confirm 39 = .ok (.iload_n 2, 1) := by decide +kernel
theorem d_M_confirm_40 : decode b_M_confirm 40 = .ok (.iconst 1, 1) := by decide +kernel
theorem d_M_confirm_41 : decode b_M_confirm 41 = .ok (.iastore, 1) := by decide +kernel
theorem d_M_confirm_42 : decode b_M_confirm 42 = .ok (.aload_n 0, 1) := by decide +kernel
theorem d_M_confirm_43 : decode b_M_confirm 43 = .ok (.getfield 16, 3) := by decide +kernel
theorem d_M_confirm_46 : decode b_M_confirm 46 = .ok (.iload_n 2, 1) := by decide +kernel
theorem d_M_confirm_47 : decode b_M_confirm 47 = .ok (.aload_n 0, 1) := by decide +kernel
theorem d_M_confirm_48 : decode b_M_confirm 48 = .ok (.getfield 111, 3) := by decide +kernel
theorem d_M_confirm_51 : decode b_M_confirm 51 = .ok (.iastore, 1) := by decide +kernel
theorem d_M_confirm_52 : decode b_M_confirm 52 = .ok (.aload_n 0, 1) := by decide +kernel
theorem d_M_confirm_53 : decode b_M_confirm 53 = .ok (.getfield 35, 3) := by decide +kernel
theorem d_M_confirm_56 : decode b_M_confirm 56 = .ok (.iload_n 2, 1) := by decide +kernel
theorem d_M_confirm_57 : decode b_M_confirm 57 = .ok (.dconst 0, 1) := by decide +kernel
theorem d_M_confirm_58 : decode b_M_confirm 58 = .ok (.dastore, 1) := by decide +kernel
theorem d_M_confirm_59 : decode b_M_confirm 59 = .ok (.iload_n 2, 1) := by decide +kernel
theorem d_M_confirm_60 : decode b_M_confirm 60 = .ok (.bipush 12, 2) := by decide +kernel
theorem d_M_confirm_62 : decode b_M_confirm 62 = .ok (.irem, 1) := by decide +kernel
theorem d_M_confirm_63 : decode b_M_confirm 63 = .ok (.ireturn, 1) := by decide +kernel
theorem d_M_confirm_64 : decode b_M_confirm 64 = .ok (.iinc 2 1, 3) := by decide +kernel
theorem d_M_confirm_67 : decode b_M_confirm 67 = .ok (.goto (-65), 3) := by decide +kernel
theorem d_M_confirm_70 : decode b_M_confirm 70 = .ok (.aload_n 0, 1) := by decide +kernel
theorem d_M_confirm_71 : decode b_M_confirm 71 = .ok (.iconst 1, 1) := by decide +kernel
theorem d_M_confirm_72 : decode b_M_confirm 72 = .ok (.invokevirtual 107, 3) := by decide +kernel
theorem d_M_confirm_75 : decode b_M_confirm 75 = .ok (.ireturn, 1) := by decide +kernel
theorem d_M_leave_0 : decode b_M_leave 0 = .ok (.iload_n 1, 1) := by decide +kernel
theorem d_M_leave_1 : decode b_M_leave 1 = .ok (.iload_n 2, 1) := by decide +kernel
theorem d_M_leave_2 : decode b_M_leave 2 = .ok (.invokestatic 103, 3) := by decide +kernel
theorem d_M_leave_5 : decode b_M_leave 5 = .ok (.ifCond .ne 9, 3) := by decide +kernel
theorem d_M_leave_8 : decode b_M_leave 8 = .ok (.aload_n 0, 1) := by decide +kernel
theorem d_M_leave_9 : decode b_M_leave 9 = .ok (.iconst 1, 1) := by decide +kernel
theorem d_M_leave_10 : decode b_M_leave 10 = .ok (.invokevirtual 107, 3) := by decide +kernel
theorem d_M_leave_13 : decode b_M_leave 13 = .ok (.ireturn, 1) := by decide +kernel
theorem d_M_leave_14 : decode b_M_leave 14 = .ok (.bipush 12, 2) := by decide +kernel
theorem d_M_leave_16 : decode b_M_leave 16 = .ok (.iload_n 1, 1) := by decide +kernel
theorem d_M_leave_17 : decode b_M_leave 17 = .ok (.imul, 1) := by decide +kernel
theorem d_M_leave_18 : decode b_M_leave 18 = .ok (.iload_n 2, 1) := by decide +kernel
theorem d_M_leave_19 : decode b_M_leave 19 = .ok (.iadd, 1) := by decide +kernel
theorem d_M_leave_20 : decode b_M_leave 20 = .ok (.istore_n 3, 1) := by decide +kernel
theorem d_M_leave_21 : decode b_M_leave 21 = .ok (.aload_n 0, 1) := by decide +kernel
theorem d_M_leave_22 : decode b_M_leave 22 = .ok (.getfield 7, 3) := by decide +kernel
theorem d_M_leave_25 : decode b_M_leave 25 = .ok (.iload_n 3, 1) := by decide +kernel
theorem d_M_leave_26 : decode b_M_leave 26 = .ok (.iaload, 1) := by decide +kernel
theorem d_M_leave_27 : decode b_M_leave 27 = .ok (.istore 4, 2) := by decide +kernel
theorem d_M_leave_29 : decode b_M_leave 29 = .ok (.iload 4, 2) := by decide +kernel
theorem d_M_leave_31 : decode b_M_leave 31 = .ok (.iconst (-1), 1) := by decide +kernel
theorem d_M_leave_32 : decode b_M_leave 32 = .ok (.if_icmp .ne 9, 3) := by decide +kernel
theorem d_M_leave_35 : decode b_M_leave 35 = .ok (.aload_n 0, 1) := by decide +kernel
theorem d_M_leave_36 : decode b_M_leave 36 = .ok (.iconst 2, 1) := by decide +kernel
theorem d_M_leave_37 : decode b_M_leave 37 = .ok (.invokevirtual 107, 3) := by decide +kernel
theorem d_M_leave_40 : decode b_M_leave 40 = .ok (.ireturn, 1) := by decide +kernel
theorem d_M_leave_41 : decode b_M_leave 41 = .ok (.aload_n 0, 1) := by decide +kernel
theorem d_M_leave_42 : decode b_M_leave 42 = .ok (.iconst 0, 1) := by decide +kernel
theorem d_M_leave_43 : decode b_M_leave 43 = .ok (.putfield 92, 3) := by decide +kernel
theorem d_M_leave_46 : decode b_M_leave 46 = .ok (.aload_n 0, 1) := by decide +kernel
theorem d_M_leave_47 : decode b_M_leave 47 = .ok (.getfield 7, 3) := by decide +kernel
theorem d_M_leave_50 : decode b_M_leave 50 = .ok (.iload_n 3, 1) := by decide +kernel
theorem d_M_leave_51 : decode b_M_leave 51 = .ok (.iconst (-1), 1) := by decide +kernel
theorem d_M_leave_52 : decode b_M_leave 52 = .ok (.iastore, 1) := by decide +kernel
theorem d_M_leave_53 : decode b_M_leave 53 = .ok (.iload 4, 2) := by decide +kernel
theorem d_M_leave_55 : decode b_M_leave 55 = .ok (.ireturn, 1) := by decide +kernel
theorem d_M_way_0 : decode b_M_way 0 = .ok (.iload_n 1, 1) := by decide +kernel
theorem d_M_way_1 : decode b_M_way 1 = .ok (.iload_n 2, 1) := by decide +kernel
theorem d_M_way_2 : decode b_M_way 2 = .ok (.invokestatic 103, 3) := by decide +kernel
theorem d_M_way_5 : decode b_M_way 5 = .ok (.ifCond .eq 12, 3) := by decide +kernel
theorem d_M_way_8 : decode b_M_way 8 = .ok (.iload_n 3, 1) := by decide +kernel
theorem d_M_way_9 : decode b_M_way 9 = .ok (.iconst 0, 1) := by decide +kernel
theorem d_M_way_10 : decode b_M_way 10 = .ok (.iconst 2, 1) := by decide +kernel
theorem d_M_way_11 : decode b_M_way 11 = .ok (.invokestatic 96, 3) := by decide +kernel
theorem d_M_way_14 : decode b_M_way 14 = .ok (.ifCond .ne 9, 3) := by decide +kernel
theorem d_M_way_17 : decode b_M_way 17 = .ok (.aload_n 0, 1) := by decide +kernel
theorem d_M_way_18 : decode b_M_way 18 = .ok (.iconst 1, 1) := by decide +kernel
theorem d_M_way_19 : decode b_M_way 19 = .ok (.invokevirtual 107, 3) := by decide +kernel
theorem d_M_way_22 : decode b_M_way 22 = .ok (.ireturn, 1) := by decide +kernel
theorem d_M_way_23 : decode b_M_way 23 = .ok (.bipush 12, 2) := by decide +kernel
theorem d_M_way_25 : decode b_M_way 25 = .ok (.iload_n 1, 1) := by decide +kernel
theorem d_M_way_26 : decode b_M_way 26 = .ok (.imul, 1) := by decide +kernel
theorem d_M_way_27 : decode b_M_way 27 = .ok (.iload_n 2, 1) := by decide +kernel
theorem d_M_way_28 : decode b_M_way 28 = .ok (.iadd, 1) := by decide +kernel
theorem d_M_way_29 : decode b_M_way 29 = .ok (.istore 4, 2) := by decide +kernel
theorem d_M_way_31 : decode b_M_way 31 = .ok (.aload_n 0, 1) := by decide +kernel
theorem d_M_way_32 : decode b_M_way 32 = .ok (.getfield 13, 3) := by decide +kernel
theorem d_M_way_35 : decode b_M_way 35 = .ok (.iload 4, 2) := by decide +kernel
theorem d_M_way_37 : decode b_M_way 37 = .ok (.iaload, 1) := by decide +kernel
theorem d_M_way_38 : decode b_M_way 38 = .ok (.istore 5, 2) := by decide +kernel
theorem d_M_way_40 : decode b_M_way 40 = .ok (.aload_n 0, 1) := by decide +kernel
theorem d_M_way_41 : decode b_M_way 41 = .ok (.getfield 7, 3) := by decide +kernel
theorem d_M_way_44 : decode b_M_way 44 = .ok (.iload 4, 2) := by decide +kernel
theorem d_M_way_46 : decode b_M_way 46 = .ok (.iaload, 1) := by decide +kernel
theorem d_M_way_47 : decode b_M_way 47 = .ok (.iconst (-1), 1) := by decide +kernel
theorem d_M_way_48 : decode b_M_way 48 = .ok (.if_icmp .ne 9, 3) := by decide +kernel
theorem d_M_way_51 : decode b_M_way 51 = .ok (.aload_n 0, 1) := by decide +kernel
theorem d_M_way_52 : decode b_M_way 52 = .ok (.iconst 2, 1) := by decide +kernel
theorem d_M_way_53 : decode b_M_way 53 = .ok (.invokevirtual 107, 3) := by decide +kernel
theorem d_M_way_56 : decode b_M_way 56 = .ok (.ireturn, 1) := by decide +kernel
theorem d_M_way_57 : decode b_M_way 57 = .ok (.aload_n 0, 1) := by decide +kernel
theorem d_M_way_58 : decode b_M_way 58 = .ok (.iconst 0, 1) := by decide +kernel
theorem d_M_way_59 : decode b_M_way 59 = .ok (.putfield 92, 3) := by decide +kernel
theorem d_M_way_62 : decode b_M_way 62 = .ok (.aload_n 0, 1) := by decide +kernel
theorem d_M_way_63 : decode b_M_way 63 = .ok (.getfield 13, 3) := by decide +kernel
theorem d_M_way_66 : decode b_M_way 66 = .ok (.iload 4, 2) := by decide +kernel
theorem d_M_way_68 : decode b_M_way 68 = .ok (.iload_n 3, 1) := by decide +kernel
theorem d_M_way_69 : decode b_M_way 69 = .ok (.iastore, 1) := by decide +kernel
theorem d_M_way_70 : decode b_M_way 70 = .ok (.iload 5, 2) := by decide +kernel
theorem d_M_way_72 : decode b_M_way 72 = .ok (.ireturn, 1) := by decide +kernel
theorem d_M_moderator_0 : decode b_M_moderator 0 = .ok (.aload_n 0, 1) := by decide +kernel
theorem d_M_moderator_1 : decode b_M_moderator 1 = .ok (.iload_n 1, 1) := by decide +kernel
theorem d_M_moderator_2 : decode b_M_moderator 2 = .ok (.iload_n 2, 1) := by decide +kernel
theorem d_M_moderator_3 : decode b_M_moderator 3 = .ok (.invokestatic 103, 3) := by decide +kernel
theorem d_M_moderator_6 : decode b_M_moderator 6 = .ok (.ifCond .ne 7, 3) := by decide +kernel
theorem d_M_moderator_9 : decode b_M_moderator 9 = .ok (.iconst 1, 1) := by decide +kernel
theorem d_M_moderator_10 : decode b_M_moderator 10 = .ok (.goto 41, 3) := by decide +kernel
theorem d_M_moderator_13 : decode b_M_moderator 13 = .ok (.aload_n 0, 1) := by decide +kernel
theorem d_M_moderator_14 : decode b_M_moderator 14 = .ok (.getfield 7, 3) := by decide +kernel
theorem d_M_moderator_17 : decode b_M_moderator 17 = .ok (.bipush 12, 2) := by decide +kernel
theorem d_M_moderator_19 : decode b_M_moderator 19 = .ok (.iload_n 1, 1) := by decide +kernel
theorem d_M_moderator_20 : decode b_M_moderator 20 = .ok (.imul, 1) := by decide +kernel
theorem d_M_moderator_21 : decode b_M_moderator 21 = .ok (.iload_n 2, 1) := by decide +kernel
theorem d_M_moderator_22 : decode b_M_moderator 22 = .ok (.iadd, 1) := by decide +kernel
theorem d_M_moderator_23 : decode b_M_moderator 23 = .ok (.iaload, 1) := by decide +kernel
theorem d_M_moderator_24 : decode b_M_moderator 24 = .ok (.iconst (-1), 1) := by decide +kernel
theorem d_M_moderator_25 : decode b_M_moderator 25 = .ok (.if_icmp .ne 7, 3) := by decide +kernel
theorem d_M_moderator_28 : decode b_M_moderator 28 = .ok (.iconst 2, 1) := by decide +kernel
theorem d_M_moderator_29 : decode b_M_moderator 29 = .ok (.goto 22, 3) := by decide +kernel
theorem d_M_moderator_32 : decode b_M_moderator 32 = .ok (.aload_n 0, 1) := by decide +kernel
theorem d_M_moderator_33 : decode b_M_moderator 33 = .ok (.getfield 7, 3) := by decide +kernel
theorem d_M_moderator_36 : decode b_M_moderator 36 = .ok (.bipush 12, 2) := by decide +kernel
theorem d_M_moderator_38 : decode b_M_moderator 38 = .ok (.iload_n 1, 1) := by decide +kernel
theorem d_M_moderator_39 : decode b_M_moderator 39 = .ok (.imul, 1) := by decide +kernel
theorem d_M_moderator_40 : decode b_M_moderator 40 = .ok (.iload_n 2, 1) := by decide +kernel
theorem d_M_moderator_41 : decode b_M_moderator 41 = .ok (.iadd, 1) := by decide +kernel
theorem d_M_moderator_42 : decode b_M_moderator 42 = .ok (.iaload, 1) := by decide +kernel
theorem d_M_moderator_43 : decode b_M_moderator 43 = .ok (.ifCond .ne 7, 3) := by decide +kernel
theorem d_M_moderator_46 : decode b_M_moderator 46 = .ok (.iconst 3, 1) := by decide +kernel
theorem d_M_moderator_47 : decode b_M_moderator 47 = .ok (.goto 4, 3) := by decide +kernel
theorem d_M_moderator_50 : decode b_M_moderator 50 = .ok (.iconst 0, 1) := by decide +kernel
theorem d_M_moderator_51 : decode b_M_moderator 51 = .ok (.putfield 92, 3) := by decide +kernel
theorem d_M_moderator_54 : decode b_M_moderator 54 = .ok (.aload_n 0, 1) := by decide +kernel
theorem d_M_moderator_55 : decode b_M_moderator 55 = .ok (.getfield 92, 3) := by decide +kernel
theorem d_M_moderator_58 : decode b_M_moderator 58 = .ok (.ifCond .le 5, 3) := by decide +kernel
theorem d_M_moderator_61 : decode b_M_moderator 61 = .ok (.iconst 0, 1) := by decide +kernel
theorem d_M_moderator_62 : decode b_M_moderator 62 = .ok (.ireturn, 1) := by decide +kernel
theorem d_M_moderator_63 : decode b_M_moderator 63 = .ok (.bipush 12, 2) := by decide +kernel
theorem d_M_moderator_65 : decode b_M_moderator 65 = .ok (.iload_n 1, 1) := by decide +kernel
theorem d_M_moderator_66 : decode b_M_moderator 66 = .ok (.imul, 1) := by decide +kernel
theorem d_M_moderator_67 : decode b_M_moderator 67 = .ok (.iload_n 2, 1) := by decide +kernel
theorem d_M_moderator_68 : decode b_M_moderator 68 = .ok (.iadd, 1) := by decide +kernel
theorem d_M_moderator_69 : decode b_M_moderator 69 = .ok (.istore 4, 2) := by decide +kernel
theorem d_M_moderator_71 : decode b_M_moderator 71 = .ok (.aload_n 0, 1) := by decide +kernel
theorem d_M_moderator_72 : decode b_M_moderator 72 = .ok (.getfield 28, 3) := by decide +kernel
theorem d_M_moderator_75 : decode b_M_moderator 75 = .ok (.iload 4, 2) := by decide +kernel
theorem d_M_moderator_77 : decode b_M_moderator 77 = .ok (.baload, 1) := by decide +kernel
theorem d_M_moderator_78 : decode b_M_moderator 78 = .ok (.istore 5, 2) := by decide +kernel
theorem d_M_moderator_80 : decode b_M_moderator 80 = .ok (.aload_n 0, 1) := by decide +kernel
theorem d_M_moderator_81 : decode b_M_moderator 81 = .ok (.getfield 28, 3) := by decide +kernel
theorem d_M_moderator_84 : decode b_M_moderator 84 = .ok (.iload 4, 2) := by decide +kernel
theorem d_M_moderator_86 : decode b_M_moderator 86 = .ok (.iload_n 3, 1) := by decide +kernel
theorem d_M_moderator_87 : decode b_M_moderator 87 = .ok (.bastore, 1) := by decide +kernel
theorem d_M_moderator_88 : decode b_M_moderator 88 = .ok (.iload 5, 2) := by decide +kernel
theorem d_M_moderator_90 : decode b_M_moderator 90 = .ok (.ireturn, 1) := by decide +kernel
theorem d_M_ban_0 : decode b_M_ban 0 = .ok (.aload_n 0, 1) := by decide +kernel
theorem d_M_ban_1 : decode b_M_ban 1 = .ok (.iload_n 1, 1) := by decide +kernel
theorem d_M_ban_2 : decode b_M_ban 2 = .ok (.iload_n 2, 1) := by decide +kernel
theorem d_M_ban_3 : decode b_M_ban 3 = .ok (.invokestatic 103, 3) := by decide +kernel
theorem d_M_ban_6 : decode b_M_ban 6 = .ok (.ifCond .eq 7, 3) := by decide +kernel
theorem d_M_ban_9 : decode b_M_ban 9 = .ok (.iconst 0, 1) := by decide +kernel
theorem d_M_ban_10 : decode b_M_ban 10 = .ok (.goto 4, 3) := by decide +kernel
theorem d_M_ban_13 : decode b_M_ban 13 = .ok (.iconst 1, 1) := by decide +kernel
theorem d_M_ban_14 : decode b_M_ban 14 = .ok (.putfield 92, 3) := by decide +kernel
theorem d_M_ban_17 : decode b_M_ban 17 = .ok (.aload_n 0, 1) := by decide +kernel
theorem d_M_ban_18 : decode b_M_ban 18 = .ok (.getfield 92, 3) := by decide +kernel
theorem d_M_ban_21 : decode b_M_ban 21 = .ok (.ifCond .le 5, 3) := by decide +kernel
theorem d_M_ban_24 : decode b_M_ban 24 = .ok (.iconst 0, 1) := by decide +kernel
theorem d_M_ban_25 : decode b_M_ban 25 = .ok (.ireturn, 1) := by decide +kernel
theorem d_M_ban_26 : decode b_M_ban 26 = .ok (.bipush 12, 2) := by decide +kernel
theorem d_M_ban_28 : decode b_M_ban 28 = .ok (.iload_n 1, 1) := by decide +kernel
theorem d_M_ban_29 : decode b_M_ban 29 = .ok (.imul, 1) := by decide +kernel
theorem d_M_ban_30 : decode b_M_ban 30 = .ok (.iload_n 2, 1) := by decide +kernel
theorem d_M_ban_31 : decode b_M_ban 31 = .ok (.iadd, 1) := by decide +kernel
theorem d_M_ban_32 : decode b_M_ban 32 = .ok (.istore 4, 2) := by decide +kernel
theorem d_M_ban_34 : decode b_M_ban 34 = .ok (.aload_n 0, 1) := by decide +kernel
theorem d_M_ban_35 : decode b_M_ban 35 = .ok (.getfield 32, 3) := by decide +kernel
theorem d_M_ban_38 : decode b_M_ban 38 = .ok (.iload 4, 2) := by decide +kernel
theorem d_M_ban_40 : decode b_M_ban 40 = .ok (.baload, 1) := by decide +kernel
theorem d_M_ban_41 : decode b_M_ban 41 = .ok (.istore 5, 2) := by decide +kernel
theorem d_M_ban_43 : decode b_M_ban 43 = .ok (.aload_n 0, 1) := by decide +kernel
theorem d_M_ban_44 : decode b_M_ban 44 = .ok (.getfield 32, 3) := by decide +kernel
theorem d_M_ban_47 : decode b_M_ban 47 = .ok (.iload 4, 2) := by decide +kernel
theorem d_M_ban_49 : decode b_M_ban 49 = .ok (.iload_n 3, 1) := by decide +kernel
theorem d_M_ban_50 : decode b_M_ban 50 = .ok (.bastore, 1) := by decide +kernel
theorem d_M_ban_51 : decode b_M_ban 51 = .ok (.iload_n 3, 1) := by decide +kernel
theorem d_M_ban_52 : decode b_M_ban 52 = .ok (.ifCond .eq 11, 3) := by decide +kernel
theorem d_M_ban_55 : decode b_M_ban 55 = .ok (.aload_n 0, 1) := by decide +kernel
theorem d_M_ban_56 : decode b_M_ban 56 = .ok (.getfield 7, 3) := by decide +kernel
theorem d_M_ban_59 : decode b_M_ban 59 = .ok (.iload 4, 2) := by decide +kernel
theorem d_M_ban_61 : decode b_M_ban 61 = .ok (.iconst (-1), 1) := by decide +kernel
theorem d_M_ban_62 : decode b_M_ban 62 = .ok (.iastore, 1) := by decide +kernel
theorem d_M_ban_63 : decode b_M_ban 63 = .ok (.iload 5, 2) := by decide +kernel
theorem d_M_ban_65 : decode b_M_ban 65 = .ok (.ireturn, 1) := by decide +kernel
theorem d_M_setting_0 : decode b_M_setting 0 = .ok (.dload_n 3, 1) := by decide +kernel
theorem d_M_setting_1 : decode b_M_setting 1 = .ok (.d2i, 1) := by decide +kernel
theorem d_M_setting_2 : decode b_M_setting 2 = .ok (.istore 5, 2) := by decide +kernel
theorem d_M_setting_4 : decode b_M_setting 4 = .ok (.iload_n 1, 1) := by decide +kernel
theorem d_M_setting_5 : decode b_M_setting 5 = .ok (.iconst 0, 1) := by decide +kernel
theorem d_M_setting_6 : decode b_M_setting 6 = .ok (.iconst 2, 1) := by decide +kernel
theorem d_M_setting_7 : decode b_M_setting 7 = .ok (.invokestatic 96, 3) := by decide +kernel
theorem d_M_setting_10 : decode b_M_setting 10 = .ok (.ifCond .eq 23, 3) := by decide +kernel
theorem d_M_setting_13 : decode b_M_setting 13 = .ok (.iload_n 2, 1) := by decide +kernel
theorem d_M_setting_14 : decode b_M_setting 14 = .ok (.iconst 0, 1) := by decide +kernel
theorem d_M_setting_15 : decode b_M_setting 15 = .ok (.iconst 4, 1) := by decide +kernel
theorem d_M_setting_16 : decode b_M_setting 16 = .ok (.invokestatic 96, 3) := by decide +kernel
theorem d_M_setting_19 : decode b_M_setting 19 = .ok (.ifCond .ne 21, 3) := by decide +kernel
theorem d_M_setting_22 : decode b_M_setting 22 = .ok (.iload_n 2, 1) := by decide +kernel
theorem d_M_setting_23 : decode b_M_setting 23 = .ok (.bipush 10, 2) := by decide +kernel
theorem d_M_setting_25 : decode b_M_setting 25 = .ok (.bipush 19, 2) := by decide +kernel
theorem d_M_setting_27 : decode b_M_setting 27 = .ok (.invokestatic 96, 3) := by decide +kernel
theorem d_M_setting_30 : decode b_M_setting 30 = .ok (.ifCond .ne 10, 3) := by decide +kernel
theorem d_M_setting_33 : decode b_M_setting 33 = .ok (.aload_n 0, 1) := by decide +kernel
theorem d_M_setting_34 : decode b_M_setting 34 = .ok (.iconst 1, 1) := by decide +kernel
theorem d_M_setting_35 : decode b_M_setting 35 = .ok (.invokevirtual 107, 3) := by decide +kernel
theorem d_M_setting_38 : decode b_M_setting 38 = .ok (.i2d, 1) := by decide +kernel
theorem d_M_setting_39 : decode b_M_setting 39 = .ok (.dreturn, 1) := by decide +kernel
theorem d_M_setting_40 : decode b_M_setting 40 = .ok (.iload_n 2, 1) := by decide +kernel
theorem d_M_setting_41 : decode b_M_setting 41 = .ok (.iconst 2, 1) := by decide +kernel
theorem d_M_setting_42 : decode b_M_setting 42 = .ok (.if_icmp .eq 8, 3) := by decide +kernel
theorem d_M_setting_45 : decode b_M_setting 45 = .ok (.iload_n 2, 1) := by decide +kernel
theorem d_M_setting_46 : decode b_M_setting 46 = .ok (.iconst 3, 1) := by decide +kernel
theorem d_M_setting_47 : decode b_M_setting 47 = .ok (.if_icmp .ne 15, 3) := by decide +kernel
theorem d_M_setting_50 : decode b_M_setting 50 = .ok (.iload 5, 2) := by decide +kernel
theorem d_M_setting_52 : decode b_M_setting 52 = .ok (.iconst 1, 1) := by decide +kernel
theorem d_M_setting_53 : decode b_M_setting 53 = .ok (.sipush 1000, 3) := by decide +kernel
theorem d_M_setting_56 : decode b_M_setting 56 = .ok (.invokestatic 96, 3) := by decide +kernel
theorem d_M_setting_59 : decode b_M_setting 59 = .ok (.ifCond .eq 24, 3) := by decide +kernel
theorem d_M_setting_62 : decode b_M_setting 62 = .ok (.iload_n 2, 1) := by decide +kernel
theorem d_M_setting_63 : decode b_M_setting 63 = .ok (.iconst 4, 1) := by decide +kernel
theorem d_M_setting_64 : decode b_M_setting 64 = .ok (.if_icmp .ne 26, 3) := by decide +kernel
theorem d_M_setting_67 : decode b_M_setting 67 = .ok (.dload_n 3, 1) := by decide +kernel
theorem d_M_setting_68 : decode b_M_setting 68 = .ok (.ldc2_w 121, 3) := by decide +kernel
theorem d_M_setting_71 : decode b_M_setting 71 = .ok (.dcmp .l, 1) := by decide +kernel
theorem d_M_setting_72 : decode b_M_setting 72 = .ok (.ifCond .lt 11, 3) := by decide +kernel
theorem d_M_setting_75 : decode b_M_setting 75 = .ok (.dload_n 3, 1) := by decide +kernel
theorem d_M_setting_76 : decode b_M_setting 76 = .ok (.ldc2_w 123, 3) := by decide +kernel
theorem d_M_setting_79 : decode b_M_setting 79 = .ok (.dcmp .g, 1) := by decide +kernel
theorem d_M_setting_80 : decode b_M_setting 80 = .ok (.ifCond .le 10, 3) := by decide +kernel
theorem d_M_setting_83 : decode b_M_setting 83 = .ok (.aload_n 0, 1) := by decide +kernel
theorem d_M_setting_84 : decode b_M_setting 84 = .ok (.iconst 1, 1) := by decide +kernel
theorem d_M_setting_85 : decode b_M_setting 85 = .ok (.invokevirtual 107, 3) := by decide +kernel
theorem d_M_setting_88 : decode b_M_setting 88 = .ok (.i2d, 1) := by decide +kernel
theorem d_M_setting_89 : decode b_M_setting 89 = .ok (.dreturn, 1) := by decide +kernel
theorem d_M_setting_90 : decode b_M_setting 90 = .ok (.aload_n 0, 1) := by decide +kernel
theorem d_M_setting_91 : decode b_M_setting 91 = .ok (.iconst 0, 1) := by decide +kernel
theorem d_M_setting_92 : decode b_M_setting 92 = .ok (.putfield 92, 3) := by decide +kernel
theorem d_M_setting_95 : decode b_M_setting 95 = .ok (.dconst 0, 1) := by decide +kernel
theorem d_M_setting_96 : decode b_M_setting 96 = .ok (.dstore 6, 2) := by decide +kernel
theorem d_M_setting_98 : decode b_M_setting 98 = .ok (.dload_n 3, 1) := by decide +kernel
theorem d_M_setting_99 : decode b_M_setting 99 = .ok (.dconst 0, 1) := by decide +kernel
theorem d_M_setting_100 : decode b_M_setting 100 = .ok (.dcmp .l, 1) := by decide +kernel
theorem d_M_setting_101 : decode b_M_setting 101 = .ok (.ifCond .eq 7, 3) := by decide +kernel
theorem d_M_setting_104 : decode b_M_setting 104 = .ok (.iconst 1, 1) := by decide +kernel
theorem d_M_setting_105 : decode b_M_setting 105 = .ok (.goto 4, 3) := by decide +kernel
theorem d_M_setting_108 : decode b_M_setting 108 = .ok (.iconst 0, 1) := by decide +kernel
theorem d_M_setting_109 : decode b_M_setting 109 = .ok (.istore 8, 2) := by decide +kernel
theorem d_M_setting_111 : decode b_M_setting 111 = .ok (.iload_n 2, 1) := by decide +kernel
theorem d_M_setting_112 : decode b_M_setting 112 = .ok (.tableswitch 148 0 4 #[36, 63, 90, 110, 130], 36) := by decide +kernel
theorem d_M_setting_148 : decode b_M_setting 148 = .ok (.aload_n 0, 1) := by decide +kernel
theorem d_M_setting_149 : decode b_M_setting 149 = .ok (.getfield 39, 3) := by decide +kernel
theorem d_M_setting_152 : decode b_M_setting 152 = .ok (.iload_n 1, 1) := by decide +kernel
theorem d_M_setting_153 : decode b_M_setting 153 = .ok (.baload, 1) := by decide +kernel
theorem d_M_setting_154 : decode b_M_setting 154 = .ok (.ifCond .eq 7, 3) := by decide +kernel
theorem d_M_setting_157 : decode b_M_setting 157 = .ok (.dconst 1, 1) := by decide +kernel
theorem d_M_setting_158 : decode b_M_setting 158 = .ok (.goto 4, 3) := by decide +kernel
theorem d_M_setting_161 : decode b_M_setting 161 = .ok (.dconst 0, 1) := by decide +kernel
theorem d_M_setting_162 : decode b_M_setting 162 = .ok (.dstore 6, 2) := by decide +kernel
theorem d_M_setting_164 : decode b_M_setting 164 = .ok (.aload_n 0, 1) := by decide +kernel
theorem d_M_setting_165 : decode b_M_setting 165 = .ok (.getfield 39, 3) := by decide +kernel
theorem d_M_setting_168 : decode b_M_setting 168 = .ok (.iload_n 1, 1) := by decide +kernel
theorem d_M_setting_169 : decode b_M_setting 169 = .ok (.iload 8, 2) := by decide +kernel
theorem d_M_setting_171 : decode b_M_setting 171 = .ok (.bastore, 1) := by decide +kernel
theorem d_M_setting_172 : decode b_M_setting 172 = .ok (.goto 128, 3) := by decide +kernel
theorem d_M_setting_175 : decode b_M_setting 175 = .ok (.aload_n 0, 1) := by decide +kernel
theorem d_M_setting_176 : decode b_M_setting 176 = .ok (.getfield 42, 3) := by decide +kernel
theorem d_M_setting_179 : decode b_M_setting 179 = .ok (.iload_n 1, 1) := by decide +kernel
theorem d_M_setting_180 : decode b_M_setting 180 = .ok (.baload, 1) := by decide +kernel
theorem d_M_setting_181 : decode b_M_setting 181 = .ok (.ifCond .eq 7, 3) := by decide +kernel
theorem d_M_setting_184 : decode b_M_setting 184 = .ok (.dconst 1, 1) := by decide +kernel
theorem d_M_setting_185 : decode b_M_setting 185 = .ok (.goto 4, 3) := by decide +kernel
theorem d_M_setting_188 : decode b_M_setting 188 = .ok (.dconst 0, 1) := by decide +kernel
theorem d_M_setting_189 : decode b_M_setting 189 = .ok (.dstore 6, 2) := by decide +kernel
theorem d_M_setting_191 : decode b_M_setting 191 = .ok (.aload_n 0, 1) := by decide +kernel
theorem d_M_setting_192 : decode b_M_setting 192 = .ok (.getfield 42, 3) := by decide +kernel
theorem d_M_setting_195 : decode b_M_setting 195 = .ok (.iload_n 1, 1) := by decide +kernel
theorem d_M_setting_196 : decode b_M_setting 196 = .ok (.iload 8, 2) := by decide +kernel
theorem d_M_setting_198 : decode b_M_setting 198 = .ok (.bastore, 1) := by decide +kernel
theorem d_M_setting_199 : decode b_M_setting 199 = .ok (.goto 101, 3) := by decide +kernel
theorem d_M_setting_202 : decode b_M_setting 202 = .ok (.aload_n 0, 1) := by decide +kernel
theorem d_M_setting_203 : decode b_M_setting 203 = .ok (.getfield 48, 3) := by decide +kernel
theorem d_M_setting_206 : decode b_M_setting 206 = .ok (.iload_n 1, 1) := by decide +kernel
theorem d_M_setting_207 : decode b_M_setting 207 = .ok (.iaload, 1) := by decide +kernel
theorem d_M_setting_208 : decode b_M_setting 208 = .ok (.i2d, 1) := by decide +kernel
theorem d_M_setting_209 : decode b_M_setting 209 = .ok (.dstore 6, 2) := by decide +kernel
theorem d_M_setting_211 : decode b_M_setting 211 = .ok (.aload_n 0, 1) := by decide +kernel
theorem d_M_setting_212 : decode b_M_setting 212 = .ok (.getfield 48, 3) := by decide +kernel
theorem d_M_setting_215 : decode b_M_setting 215 = .ok (.iload_n 1, 1) := by decide +kernel
theorem d_M_setting_216 : decode b_M_setting 216 = .ok (.iload 5, 2) := by decide +kernel
theorem d_M_setting_218 : decode b_M_setting 218 = .ok (.iastore, 1) := by decide +kernel
theorem d_M_setting_219 : decode b_M_setting 219 = .ok (.goto 81, 3) := by decide +kernel
theorem d_M_setting_222 : decode b_M_setting 222 = .ok (.aload_n 0, 1) := by decide +kernel
theorem d_M_setting_223 : decode b_M_setting 223 = .ok (.getfield 51, 3) := by decide +kernel
theorem d_M_setting_226 : decode b_M_setting 226 = .ok (.iload_n 1, 1) := by decide +kernel
theorem d_M_setting_227 : decode b_M_setting 227 = .ok (.iaload, 1) := by decide +kernel
theorem d_M_setting_228 : decode b_M_setting 228 = .ok (.i2d, 1) := by decide +kernel
theorem d_M_setting_229 : decode b_M_setting 229 = .ok (.dstore 6, 2) := by decide +kernel
theorem d_M_setting_231 : decode b_M_setting 231 = .ok (.aload_n 0, 1) := by decide +kernel
theorem d_M_setting_232 : decode b_M_setting 232 = .ok (.getfield 51, 3) := by decide +kernel
theorem d_M_setting_235 : decode b_M_setting 235 = .ok (.iload_n 1, 1) := by decide +kernel
theorem d_M_setting_236 : decode b_M_setting 236 = .ok (.iload 5, 2) := by decide +kernel
theorem d_M_setting_238 : decode b_M_setting 238 = .ok (.iastore, 1) := by decide +kernel
theorem d_M_setting_239 : decode b_M_setting 239 = .ok (.goto 61, 3) := by decide +kernel
theorem d_M_setting_242 : decode b_M_setting 242 = .ok (.aload_n 0, 1) := by decide +kernel
theorem d_M_setting_243 : decode b_M_setting 243 = .ok (.getfield 56, 3) := by decide +kernel
theorem d_M_setting_246 : decode b_M_setting 246 = .ok (.iload_n 1, 1) := by decide +kernel
theorem d_M_setting_247 : decode b_M_setting 247 = .ok (.daload, 1) := by decide +kernel
theorem d_M_setting_248 : decode b_M_setting 248 = .ok (.dstore 6, 2) := by decide +kernel
theorem d_M_setting_250 : decode b_M_setting 250 = .ok (.aload_n 0, 1) := by decide +kernel
theorem d_M_setting_251 : decode b_M_setting 251 = .ok (.getfield 56, 3) := by decide +kernel
theorem d_M_setting_254 : decode b_M_setting 254 = .ok (.iload_n 1, 1) := by decide +kernel
theorem d_M_setting_255 : decode b_M_setting 255 = .ok (.dload_n 3, 1) := by decide +kernel
theorem d_M_setting_256 : decode b_M_setting 256 = .ok (.dastore, 1) := by decide +kernel
theorem d_M_setting_257 : decode b_M_setting 257 = .ok (.goto 43, 3) := by decide +kernel
theorem d_M_setting_260 : decode b_M_setting 260 = .ok (.aload_n 0, 1) := by decide +kernel
theorem d_M_setting_261 : decode b_M_setting 261 = .ok (.getfield 45, 3) := by decide +kernel
theorem d_M_setting_264 : decode b_M_setting 264 = .ok (.bipush 10, 2) := by decide +kernel
theorem d_M_setting_266 : decode b_M_setting 266 = .ok (.iload_n 1, 1) := by decide +kernel
theorem d_M_setting_267 : decode b_M_setting 267 = .ok (.imul, 1) := by decide +kernel
theorem d_M_setting_268 : decode b_M_setting 268 = .ok (.iload_n 2, 1) := by decide +kernel
theorem d_M_setting_269 : decode b_M_setting 269 = .ok (.iadd, 1) := by decide +kernel
theorem d_M_setting_270 : decode b_M_setting 270 = .ok (.bipush 10, 2) := by decide +kernel
theorem d_M_setting_272 : decode b_M_setting 272 = .ok (.isub, 1) := by decide +kernel
theorem d_M_setting_273 : decode b_M_setting 273 = .ok (.baload, 1) := by decide +kernel
theorem d_M_setting_274 : decode b_M_setting 274 = .ok (.ifCond .eq 7, 3) := by decide +kernel
theorem d_M_setting_277 : decode b_M_setting 277 = .ok (.dconst 1, 1) := by decide +kernel
theorem d_M_setting_278 : decode b_M_setting 278 = .ok (.goto 4, 3) := by decide +kernel
theorem d_M_setting_281 : decode b_M_setting 281 = .ok (.dconst 0, 1) := by decide +kernel
theorem d_M_setting_282 : decode b_M_setting 282 = .ok (.dstore 6, 2) := by decide +kernel
end
section
theorem d_M_setting_284 : decode b_M_setting 284 = .ok (.aload_n 0, 1) := by decide +kernel
theorem d_M_setting_285 : decode b_M_setting 285 = .ok (.getfield 45, 3) := by decide +kernel
theorem d_M_setting_288 : decode b_M_setting 288 = .ok (.bipush 10, 2) := by decide +kernel
theorem d_M_setting_290 : decode b_M_setting 290 = .ok (.iload_n 1, 1) := by decide +kernel
theorem d_M_setting_291 : decode b_M_setting 291 = .ok (.imul, 1) := by decide +kernel
theorem d_M_setting_292 : decode b_M_setting 292 = .ok (.iload_n 2, 1) := by decide +kernel
theorem d_M_setting_293 : decode b_M_setting 293 = .ok (.iadd, 1) := by decide +kernel
theorem d_M_setting_294 : decode b_M_setting 294 = .ok (.bipush 10, 2) := by decide +kernel
theorem d_M_setting_296 : decode b_M_setting 296 = .ok (.isub, 1) := by decide +kernel
theorem d_M_setting_297 : decode b_M_setting 297 = .ok (.iload 8, 2) := by decide +kernel
theorem d_M_setting_299 : decode b_M_setting 299 = .ok (.bastore, 1) := by decide +kernel
theorem d_M_setting_300 : decode b_M_setting 300 = .ok (.dload 6, 2) := by decide +kernel
theorem d_M_setting_302 : decode b_M_setting 302 = .ok (.dreturn, 1) := by decide +kernel
theorem d_M_post_0 : decode b_M_post 0 = .ok (.iload_n 1, 1) := by decide +kernel
theorem d_M_post_1 : decode b_M_post 1 = .ok (.iload_n 2, 1) := by decide +kernel
theorem d_M_post_2 : decode b_M_post 2 = .ok (.invokestatic 103, 3) := by decide +kernel
theorem d_M_post_5 : decode b_M_post 5 = .ok (.ifCond .eq 25, 3) := by decide +kernel
theorem d_M_post_8 : decode b_M_post 8 = .ok (.iload_n 3, 1) := by decide +kernel
theorem d_M_post_9 : decode b_M_post 9 = .ok (.iconst 1, 1) := by decide +kernel
theorem d_M_post_10 : decode b_M_post 10 = .ok (.sipush 1000, 3) := by decide +kernel
theorem d_M_post_13 : decode b_M_post 13 = .ok (.invokestatic 96, 3) := by decide +kernel
theorem d_M_post_16 : decode b_M_post 16 = .ok (.ifCond .eq 14, 3) := by decide +kernel
theorem d_M_post_19 : decode b_M_post 19 = .ok (.iload 4, 2) := by decide +kernel
theorem d_M_post_21 : decode b_M_post 21 = .ok (.iconst 0, 1) := by decide +kernel
theorem d_M_post_22 : decode b_M_post 22 = .ok (.bipush 9, 2) := by decide +kernel
theorem d_M_post_24 : decode b_M_post 24 = .ok (.invokestatic 96, 3) := by decide +kernel
theorem d_M_post_27 : decode b_M_post 27 = .ok (.ifCond .ne 9, 3) := by decide +kernel
theorem d_M_post_30 : decode b_M_post 30 = .ok (.aload_n 0, 1) := by decide +kernel
theorem d_M_post_31 : decode b_M_post 31 = .ok (.iconst 1, 1) := by decide +kernel
theorem d_M_post_32 : decode b_M_post 32 = .ok (.invokevirtual 107, 3) := by decide +kernel
theorem d_M_post_35 : decode b_M_post 35 = .ok (.ireturn, 1) := by decide +kernel
theorem d_M_post_36 : decode b_M_post 36 = .ok (.aload_n 0, 1) := by decide +kernel
theorem d_M_post_37 : decode b_M_post 37 = .ok (.getfield 125, 3) := by decide +kernel
theorem d_M_post_40 : decode b_M_post 40 = .ok (.bipush 40, 2) := by decide +kernel
theorem d_M_post_42 : decode b_M_post 42 = .ok (.if_icmp .ne 9, 3) := by decide +kernel
theorem d_M_post_45 : decode b_M_post 45 = .ok (.aload_n 0, 1) := by decide +kernel
theorem d_M_post_46 : decode b_M_post 46 = .ok (.iconst 2, 1) := by decide +kernel
theorem d_M_post_47 : decode b_M_post 47 = .ok (.invokevirtual 107, 3) := by decide +kernel
theorem d_M_post_50 : decode b_M_post 50 = .ok (.ireturn, 1) := by decide +kernel
theorem d_M_post_51 : decode b_M_post 51 = .ok (.bipush 12, 2) := by decide +kernel
theorem d_M_post_53 : decode b_M_post 53 = .ok (.iload_n 1, 1) := by decide +kernel
theorem d_M_post_54 : decode b_M_post 54 = .ok (.imul, 1) := by decide +kernel
theorem d_M_post_55 : decode b_M_post 55 = .ok (.iload_n 2, 1) := by decide +kernel
theorem d_M_post_56 : decode b_M_post 56 = .ok (.iadd, 1) := by decide +kernel
theorem d_M_post_57 : decode b_M_post 57 = .ok (.istore 5, 2) := by decide +kernel
theorem d_M_post_59 : decode b_M_post 59 = .ok (.aload_n 0, 1) := by decide +kernel
theorem d_M_post_60 : decode b_M_post 60 = .ok (.getfield 125, 3) := by decide +kernel
theorem d_M_post_63 : decode b_M_post 63 = .ok (.istore 6, 2) := by decide +kernel
theorem d_M_post_65 : decode b_M_post 65 = .ok (.aload_n 0, 1) := by decide +kernel
theorem d_M_post_66 : decode b_M_post 66 = .ok (.getfield 32, 3) := by decide +kernel
theorem d_M_post_69 : decode b_M_post 69 = .ok (.iload 5, 2) := by decide +kernel
theorem d_M_post_71 : decode b_M_post 71 = .ok (.baload, 1) := by decide +kernel
theorem d_M_post_72 : decode b_M_post 72 = .ok (.ifCond .ne 23, 3) := by decide +kernel
theorem d_M_post_75 : decode b_M_post 75 = .ok (.aload_n 0, 1) := by decide +kernel
theorem d_M_post_76 : decode b_M_post 76 = .ok (.getfield 7, 3) := by decide +kernel
theorem d_M_post_79 : decode b_M_post 79 = .ok (.iload 5, 2) := by decide +kernel
theorem d_M_post_81 : decode b_M_post 81 = .ok (.iaload, 1) := by decide +kernel
theorem d_M_post_82 : decode b_M_post 82 = .ok (.iconst 1, 1) := by decide +kernel
theorem d_M_post_83 : decode b_M_post 83 = .ok (.if_icmp .eq 18, 3) := by decide +kernel
theorem d_M_post_86 : decode b_M_post 86 = .ok (.aload_n 0, 1) := by decide +kernel
theorem d_M_post_87 : decode b_M_post 87 = .ok (.getfield 39, 3) := by decide +kernel
theorem d_M_post_90 : decode b_M_post 90 = .ok (.iload_n 1, 1) := by decide +kernel
theorem d_M_post_91 : decode b_M_post 91 = .ok (.baload, 1) := by decide +kernel
theorem d_M_post_92 : decode b_M_post 92 = .ok (.ifCond .ne 9, 3) := by decide +kernel
theorem d_M_post_95 : decode b_M_post 95 = .ok (.aload_n 0, 1) := by decide +kernel
theorem d_M_post_96 : decode b_M_post 96 = .ok (.iconst 3, 1) := by decide +kernel
theorem d_M_post_97 : decode b_M_post 97 = .ok (.invokevirtual 107, 3) := by decide +kernel
theorem d_M_post_100 : decode b_M_post 100 = .ok (.ireturn, 1) := by decide +kernel
theorem d_M_post_101 : decode b_M_post 101 = .ok (.aload_n 0, 1) := by decide +kernel
theorem d_M_post_102 : decode b_M_post 102 = .ok (.iconst 0, 1) := by decide +kernel
theorem d_M_post_103 : decode b_M_post 103 = .ok (.putfield 92, 3) := by decide +kernel
theorem d_M_post_106 : decode b_M_post 106 = .ok (.aload_n 0, 1) := by decide +kernel
theorem d_M_post_107 : decode b_M_post 107 = .ok (.getfield 59, 3) := by decide +kernel
theorem d_M_post_110 : decode b_M_post 110 = .ok (.iload 6, 2) := by decide +kernel
theorem d_M_post_112 : decode b_M_post 112 = .ok (.iload_n 1, 1) := by decide +kernel
theorem d_M_post_113 : decode b_M_post 113 = .ok (.iastore, 1) := by decide +kernel
theorem d_M_post_114 : decode b_M_post 114 = .ok (.aload_n 0, 1) := by decide +kernel
theorem d_M_post_115 : decode b_M_post 115 = .ok (.getfield 62, 3) := by decide +kernel
theorem d_M_post_118 : decode b_M_post 118 = .ok (.iload 6, 2) := by decide +kernel
theorem d_M_post_120 : decode b_M_post 120 = .ok (.iload_n 2, 1) := by decide +kernel
theorem d_M_post_121 : decode b_M_post 121 = .ok (.iastore, 1) := by decide +kernel
theorem d_M_post_122 : decode b_M_post 122 = .ok (.aload_n 0, 1) := by decide +kernel
theorem d_M_post_123 : decode b_M_post 123 = .ok (.getfield 65, 3) := by decide +kernel
theorem d_M_post_126 : decode b_M_post 126 = .ok (.iload 6, 2) := by decide +kernel
theorem d_M_post_128 : decode b_M_post 128 = .ok (.iload_n 3, 1) := by decide +kernel
theorem d_M_post_129 : decode b_M_post 129 = .ok (.iastore, 1) := by decide +kernel
theorem d_M_post_130 : decode b_M_post 130 = .ok (.aload_n 0, 1) := by decide +kernel
theorem d_M_post_131 : decode b_M_post 131 = .ok (.dup, 1) := by decide +kernel
theorem d_M_post_132 : decode b_M_post 132 = .ok (.getfield 125, 3) := by decide +kernel
theorem d_M_post_135 : decode b_M_post 135 = .ok (.iconst 1, 1) := by decide +kernel
theorem d_M_post_136 : decode b_M_post 136 = .ok (.iadd, 1) := by decide +kernel
theorem d_M_post_137 : decode b_M_post 137 = .ok (.putfield 125, 3) := by decide +kernel
theorem d_M_post_140 : decode b_M_post 140 = .ok (.aload_n 0, 1) := by decide +kernel
theorem d_M_post_141 : decode b_M_post 141 = .ok (.getfield 7, 3) := by decide +kernel
theorem d_M_post_144 : decode b_M_post 144 = .ok (.iload 5, 2) := by decide +kernel
theorem d_M_post_146 : decode b_M_post 146 = .ok (.iaload, 1) := by decide +kernel
theorem d_M_post_147 : decode b_M_post 147 = .ok (.iconst (-1), 1) := by decide +kernel
theorem d_M_post_148 : decode b_M_post 148 = .ok (.if_icmp .eq 17, 3) := by decide +kernel
theorem d_M_post_151 : decode b_M_post 151 = .ok (.aload_n 0, 1) := by decide +kernel
theorem d_M_post_152 : decode b_M_post 152 = .ok (.getfield 28, 3) := by decide +kernel
theorem d_M_post_155 : decode b_M_post 155 = .ok (.iload 5, 2) := by decide +kernel
theorem d_M_post_157 : decode b_M_post 157 = .ok (.baload, 1) := by decide +kernel
theorem d_M_post_158 : decode b_M_post 158 = .ok (.ifCond .eq 7, 3) := by decide +kernel
theorem d_M_post_161 : decode b_M_post 161 = .ok (.iconst 1, 1) := by decide +kernel
theorem d_M_post_162 : decode b_M_post 162 = .ok (.goto 4, 3) := by decide +kernel
theorem d_M_post_165 : decode b_M_post 165 = .ok (.iconst 0, 1) := by decide +kernel
theorem d_M_post_166 : decode b_M_post 166 = .ok (.istore 7, 2) := by decide +kernel
theorem d_M_post_168 : decode b_M_post 168 = .ok (.iload 7, 2) := by decide +kernel
theorem d_M_post_170 : decode b_M_post 170 = .ok (.ifCond .ne 41, 3) := by decide +kernel
theorem d_M_post_173 : decode b_M_post 173 = .ok (.iload_n 3, 1) := by decide +kernel
theorem d_M_post_174 : decode b_M_post 174 = .ok (.aload_n 0, 1) := by decide +kernel
theorem d_M_post_175 : decode b_M_post 175 = .ok (.getfield 48, 3) := by decide +kernel
theorem d_M_post_178 : decode b_M_post 178 = .ok (.iload_n 1, 1) := by decide +kernel
theorem d_M_post_179 : decode b_M_post 179 = .ok (.iaload, 1) := by decide +kernel
theorem d_M_post_180 : decode b_M_post 180 = .ok (.if_icmp .gt 27, 3) := by decide +kernel
theorem d_M_post_183 : decode b_M_post 183 = .ok (.aload_n 0, 1) := by decide +kernel
theorem d_M_post_184 : decode b_M_post 184 = .ok (.getfield 45, 3) := by decide +kernel
theorem d_M_post_187 : decode b_M_post 187 = .ok (.bipush 10, 2) := by decide +kernel
theorem d_M_post_189 : decode b_M_post 189 = .ok (.iload_n 1, 1) := by decide +kernel
theorem d_M_post_190 : decode b_M_post 190 = .ok (.imul, 1) := by decide +kernel
theorem d_M_post_191 : decode b_M_post 191 = .ok (.iload 4, 2) := by decide +kernel
theorem d_M_post_193 : decode b_M_post 193 = .ok (.iadd, 1) := by decide +kernel
theorem d_M_post_194 : decode b_M_post 194 = .ok (.baload, 1) := by decide +kernel
theorem d_M_post_195 : decode b_M_post 195 = .ok (.ifCond .ne 12, 3) := by decide +kernel
theorem d_M_post_198 : decode b_M_post 198 = .ok (.aload_n 0, 1) := by decide +kernel
theorem d_M_post_199 : decode b_M_post 199 = .ok (.getfield 42, 3) := by decide +kernel
theorem d_M_post_202 : decode b_M_post 202 = .ok (.iload_n 1, 1) := by decide +kernel
theorem d_M_post_203 : decode b_M_post 203 = .ok (.baload, 1) := by decide +kernel
theorem d_M_post_204 : decode b_M_post 204 = .ok (.ifCond .eq 7, 3) := by decide +kernel
theorem d_M_post_207 : decode b_M_post 207 = .ok (.iconst 1, 1) := by decide +kernel
theorem d_M_post_208 : decode b_M_post 208 = .ok (.goto 4, 3) := by decide +kernel
theorem d_M_post_211 : decode b_M_post 211 = .ok (.iconst 0, 1) := by decide +kernel
theorem d_M_post_212 : decode b_M_post 212 = .ok (.istore 8, 2) := by decide +kernel
theorem d_M_post_214 : decode b_M_post 214 = .ok (.aload_n 0, 1) := by decide +kernel
theorem d_M_post_215 : decode b_M_post 215 = .ok (.getfield 68, 3) := by decide +kernel
theorem d_M_post_218 : decode b_M_post 218 = .ok (.iload 6, 2) := by decide +kernel
theorem d_M_post_220 : decode b_M_post 220 = .ok (.iload 8, 2) := by decide +kernel
theorem d_M_post_222 : decode b_M_post 222 = .ok (.ifCond .eq 7, 3) := by decide +kernel
theorem d_M_post_225 : decode b_M_post 225 = .ok (.iconst 0, 1) := by decide +kernel
theorem d_M_post_226 : decode b_M_post 226 = .ok (.goto 4, 3) := by decide +kernel
theorem d_M_post_229 : decode b_M_post 229 = .ok (.iconst 1, 1) := by decide +kernel
theorem d_M_post_230 : decode b_M_post 230 = .ok (.iastore, 1) := by decide +kernel
theorem d_M_post_231 : decode b_M_post 231 = .ok (.iload 8, 2) := by decide +kernel
theorem d_M_post_233 : decode b_M_post 233 = .ok (.ifCond .eq 60, 3) := by decide +kernel
theorem d_M_post_236 : decode b_M_post 236 = .ok (.iconst 0, 1) := by decide +kernel
theorem d_M_post_237 : decode b_M_post 237 = .ok (.istore 9, 2) := by decide +kernel
theorem d_M_post_239 : decode b_M_post 239 = .ok (.iload 9, 2) := by decide +kernel
theorem d_M_post_241 : decode b_M_post 241 = .ok (.bipush 12, 2) := by decide +kernel
theorem d_M_post_243 : decode b_M_post 243 = .ok (.if_icmp .ge 50, 3) := by decide +kernel
theorem d_M_post_246 : decode b_M_post 246 = .ok (.aload_n 0, 1) := by decide +kernel
theorem d_M_post_247 : decode b_M_post 247 = .ok (.getfield 7, 3) := by decide +kernel
theorem d_M_post_250 : decode b_M_post 250 = .ok (.bipush 12, 2) := by decide +kernel
theorem d_M_post_252 : decode b_M_post 252 = .ok (.iload_n 1, 1) := by decide +kernel
theorem d_M_post_253 : decode b_M_post 253 = .ok (.imul, 1) := by decide +kernel
theorem d_M_post_254 : decode b_M_post 254 = .ok (.iload 9, 2) := by decide +kernel
theorem d_M_post_256 : decode b_M_post 256 = .ok (.iadd, 1) := by decide +kernel
theorem d_M_post_257 : decode b_M_post 257 = .ok (.iaload, 1) := by decide +kernel
theorem d_M_post_258 : decode b_M_post 258 = .ok (.iconst (-1), 1) := by decide +kernel
theorem d_M_post_259 : decode b_M_post 259 = .ok (.if_icmp .eq 28, 3) := by decide +kernel
theorem d_M_post_262 : decode b_M_post 262 = .ok (.aload_n 0, 1) := by decide +kernel
theorem d_M_post_263 : decode b_M_post 263 = .ok (.getfield 28, 3) := by decide +kernel
theorem d_M_post_266 : decode b_M_post 266 = .ok (.bipush 12, 2) := by decide +kernel
theorem d_M_post_268 : decode b_M_post 268 = .ok (.iload_n 1, 1) := by decide +kernel
theorem d_M_post_269 : decode b_M_post 269 = .ok (.imul, 1) := by decide +kernel
theorem d_M_post_270 : decode b_M_post 270 = .ok (.iload 9, 2) := by decide +kernel
theorem d_M_post_272 : decode b_M_post 272 = .ok (.iadd, 1) := by decide +kernel
theorem d_M_post_273 : decode b_M_post 273 = .ok (.baload, 1) := by decide +kernel
theorem d_M_post_274 : decode b_M_post 274 = .ok (.ifCond .eq 13, 3) := by decide +kernel
theorem d_M_post_277 : decode b_M_post 277 = .ok (.aload_n 0, 1) := by decide +kernel
theorem d_M_post_278 : decode b_M_post 278 = .ok (.iload 9, 2) := by decide +kernel
theorem d_M_post_280 : decode b_M_post 280 = .ok (.iload_n 1, 1) := by decide +kernel
theorem d_M_post_281 : decode b_M_post 281 = .ok (.iconst 3, 1) := by decide +kernel
theorem d_M_post_282 : decode b_M_post 282 = .ok (.iload 6, 2) := by decide +kernel
theorem d_M_post_284 : decode b_M_post 284 = .ok (.invokevirtual 117, 3) := by decide +kernel
theorem d_M_post_287 : decode b_M_post 287 = .ok (.iinc 9 1, 3) := by decide +kernel
theorem d_M_post_290 : decode b_M_post 290 = .ok (.goto (-51), 3) := by decide +kernel
theorem d_M_post_293 : decode b_M_post 293 = .ok (.iload 8, 2) := by decide +kernel
theorem d_M_post_295 : decode b_M_post 295 = .ok (.ifCond .ne 9, 3) := by decide +kernel
theorem d_M_post_298 : decode b_M_post 298 = .ok (.aload_n 0, 1) := by decide +kernel
theorem d_M_post_299 : decode b_M_post 299 = .ok (.iload 6, 2) := by decide +kernel
theorem d_M_post_301 : decode b_M_post 301 = .ok (.invokevirtual 128, 3) := by decide +kernel
theorem d_M_post_304 : decode b_M_post 304 = .ok (.iload 6, 2) := by decide +kernel
theorem d_M_post_306 : decode b_M_post 306 = .ok (.ireturn, 1) := by decide +kernel
theorem d_M_isLive_0 : decode b_M_isLive 0 = .ok (.bipush 12, 2) := by decide +kernel
theorem d_M_isLive_2 : decode b_M_isLive 2 = .ok (.iload_n 1, 1) := by decide +kernel
theorem d_M_isLive_3 : decode b_M_isLive 3 = .ok (.imul, 1) := by decide +kernel
theorem d_M_isLive_4 : decode b_M_isLive 4 = .ok (.iload_n 2, 1) := by decide +kernel
theorem d_M_isLive_5 : decode b_M_isLive 5 = .ok (.iadd, 1) := by decide +kernel
theorem d_M_isLive_6 : decode b_M_isLive 6 = .ok (.istore 4, 2) := by decide +kernel
theorem d_M_isLive_8 : decode b_M_isLive 8 = .ok (.aload_n 0, 1) := by decide +kernel
theorem d_M_isLive_9 : decode b_M_isLive 9 = .ok (.getfield 7, 3) := by decide +kernel
theorem d_M_isLive_12 : decode b_M_isLive 12 = .ok (.iload 4, 2) := by decide +kernel
theorem d_M_isLive_14 : decode b_M_isLive 14 = .ok (.iaload, 1) := by decide +kernel
theorem d_M_isLive_15 : decode b_M_isLive 15 = .ok (.iconst 1, 1) := by decide +kernel
theorem d_M_isLive_16 : decode b_M_isLive 16 = .ok (.if_icmp .ne 18, 3) := by decide +kernel
theorem d_M_isLive_19 : decode b_M_isLive 19 = .ok (.aload_n 0, 1) := by decide +kernel
theorem d_M_isLive_20 : decode b_M_isLive 20 = .ok (.getfield 13, 3) := by decide +kernel
theorem d_M_isLive_23 : decode b_M_isLive 23 = .ok (.iload 4, 2) := by decide +kernel
theorem d_M_isLive_25 : decode b_M_isLive 25 = .ok (.iaload, 1) := by decide +kernel
theorem d_M_isLive_26 : decode b_M_isLive 26 = .ok (.iload_n 3, 1) := by decide +kernel
theorem d_M_isLive_27 : decode b_M_isLive 27 = .ok (.if_icmp .ne 7, 3) := by decide +kernel
theorem d_M_isLive_30 : decode b_M_isLive 30 = .ok (.iconst 1, 1) := by decide +kernel
theorem d_M_isLive_31 : decode b_M_isLive 31 = .ok (.goto 4, 3) := by decide +kernel
theorem d_M_isLive_34 : decode b_M_isLive 34 = .ok (.iconst 0, 1) := by decide +kernel
theorem d_M_isLive_35 : decode b_M_isLive 35 = .ok (.ireturn, 1) := by decide +kernel
theorem d_M_pass_0 : decode b_M_pass 0 = .ok (.aload_n 0, 1) := by decide +kernel
theorem d_M_pass_1 : decode b_M_pass 1 = .ok (.getfield 59, 3) := by decide +kernel
theorem d_M_pass_4 : decode b_M_pass 4 = .ok (.iload_n 1, 1) := by decide +kernel
theorem d_M_pass_5 : decode b_M_pass 5 = .ok (.iaload, 1) := by decide +kernel
theorem d_M_pass_6 : decode b_M_pass 6 = .ok (.istore_n 2, 1) := by decide +kernel
theorem d_M_pass_7 : decode b_M_pass 7 = .ok (.iconst 0, 1) := by decide +kernel
theorem d_M_pass_8 : decode b_M_pass 8 = .ok (.istore_n 3, 1) := by decide +kernel
theorem d_M_pass_9 : decode b_M_pass 9 = .ok (.iconst 0, 1) := by decide +kernel
theorem d_M_pass_10 : decode b_M_pass 10 = .ok (.istore 4, 2) := by decide +kernel
theorem d_M_pass_12 : decode b_M_pass 12 = .ok (.iconst 0, 1) := by decide +kernel
theorem d_M_pass_13 : decode b_M_pass 13 = .ok (.istore 5, 2) := by decide +kernel
theorem d_M_pass_15 : decode b_M_pass 15 = .ok (.iload 5, 2) := by decide +kernel
theorem d_M_pass_17 : decode b_M_pass 17 = .ok (.bipush 12, 2) := by decide +kernel
theorem d_M_pass_19 : decode b_M_pass 19 = .ok (.if_icmp .ge 53, 3) := by decide +kernel
theorem d_M_pass_22 : decode b_M_pass 22 = .ok (.aload_n 0, 1) := by decide +kernel
theorem d_M_pass_23 : decode b_M_pass 23 = .ok (.iload_n 2, 1) := by decide +kernel
theorem d_M_pass_24 : decode b_M_pass 24 = .ok (.iload 5, 2) := by decide +kernel
theorem d_M_pass_26 : decode b_M_pass 26 = .ok (.iconst 0, 1) := by decide +kernel
theorem d_M_pass_27 : decode b_M_pass 27 = .ok (.invokevirtual 132, 3) := by decide +kernel
theorem d_M_pass_30 : decode b_M_pass 30 = .ok (.ifCond .eq 23, 3) := by decide +kernel
theorem d_M_pass_33 : decode b_M_pass 33 = .ok (.iload 5, 2) := by decide +kernel
theorem d_M_pass_35 : decode b_M_pass 35 = .ok (.aload_n 0, 1) := by decide +kernel
theorem d_M_pass_36 : decode b_M_pass 36 = .ok (.getfield 62, 3) := by decide +kernel
theorem d_M_pass_39 : decode b_M_pass 39 = .ok (.iload_n 1, 1) := by decide +kernel
theorem d_M_pass_40 : decode b_M_pass 40 = .ok (.iaload, 1) := by decide +kernel
theorem d_M_pass_41 : decode b_M_pass 41 = .ok (.if_icmp .eq 12, 3) := by decide +kernel
theorem d_M_pass_44 : decode b_M_pass 44 = .ok (.aload_n 0, 1) := by decide +kernel
theorem d_M_pass_45 : decode b_M_pass 45 = .ok (.iload 5, 2) := by decide +kernel
theorem d_M_pass_47 : decode b_M_pass 47 = .ok (.iload_n 2, 1) := by decide +kernel
theorem d_M_pass_48 : decode b_M_pass 48 = .ok (.iconst 0, 1) := by decide +kernel
theorem d_M_pass_49 : decode b_M_pass 49 = .ok (.iload_n 1, 1) := by decide +kernel
theorem d_M_pass_50 : decode b_M_pass 50 = .ok (.invokevirtual 117, 3) := by decide +kernel
theorem d_M_pass_53 : decode b_M_pass 53 = .ok (.iload 4, 2) := by decide +kernel
theorem d_M_pass_55 : decode b_M_pass 55 = .ok (.aload_n 0, 1) := by decide +kernel
theorem d_M_pass_56 : decode b_M_pass 56 = .ok (.iload_n 2, 1) := by decide +kernel
theorem d_M_pass_57 : decode b_M_pass 57 = .ok (.iload 5, 2) := by decide +kernel
theorem d_M_pass_59 : decode b_M_pass 59 = .ok (.iconst 1, 1) := by decide +kernel
theorem d_M_pass_60 : decode b_M_pass 60 = .ok (.invokevirtual 132, 3) := by decide +kernel
theorem d_M_pass_63 : decode b_M_pass 63 = .ok (.ior, 1) := by decide +kernel
theorem d_M_pass_64 : decode b_M_pass 64 = .ok (.istore 4, 2) := by decide +kernel
theorem d_M_pass_66 : decode b_M_pass 66 = .ok (.iinc 5 1, 3) := by decide +kernel
theorem d_M_pass_69 : decode b_M_pass 69 = .ok (.goto (-54), 3) := by decide +kernel
theorem d_M_pass_72 : decode b_M_pass 72 = .ok (.iload 4, 2) := by decide +kernel
theorem d_M_pass_74 : decode b_M_pass 74 = .ok (.ifCond .ne 4, 3) := by decide +kernel
theorem d_M_pass_77 : decode b_M_pass 77 = .ok (.return_, 1) := by decide +kernel
theorem d_M_pass_78 : decode b_M_pass 78 = .ok (.aload_n 0, 1) := by decide +kernel
theorem d_M_pass_79 : decode b_M_pass 79 = .ok (.getfield 74, 3) := by decide +kernel
theorem d_M_pass_82 : decode b_M_pass 82 = .ok (.bipush 40, 2) := by decide +kernel
theorem d_M_pass_84 : decode b_M_pass 84 = .ok (.iload_n 2, 1) := by decide +kernel
theorem d_M_pass_85 : decode b_M_pass 85 = .ok (.imul, 1) := by decide +kernel
theorem d_M_pass_86 : decode b_M_pass 86 = .ok (.aload_n 0, 1) := by decide +kernel
theorem d_M_pass_87 : decode b_M_pass 87 = .ok (.getfield 71, 3) := by decide +kernel
theorem d_M_pass_90 : decode b_M_pass 90 = .ok (.iload_n 2, 1) := by decide +kernel
theorem d_M_pass_91 : decode b_M_pass 91 = .ok (.iaload, 1) := by decide +kernel
theorem d_M_pass_92 : decode b_M_pass 92 = .ok (.iadd, 1) := by decide +kernel
theorem d_M_pass_93 : decode b_M_pass 93 = .ok (.aload_n 0, 1) := by decide +kernel
theorem d_M_pass_94 : decode b_M_pass 94 = .ok (.getfield 65, 3) := by decide +kernel
theorem d_M_pass_97 : decode b_M_pass 97 = .ok (.iload_n 1, 1) := by decide +kernel
theorem d_M_pass_98 : decode b_M_pass 98 = .ok (.iaload, 1) := by decide +kernel
theorem d_M_pass_99 : decode b_M_pass 99 = .ok (.iastore, 1) := by decide +kernel
theorem d_M_pass_100 : decode b_M_pass 100 = .ok (.aload_n 0, 1) := by decide +kernel
theorem d_M_pass_101 : decode b_M_pass 101 = .ok (.getfield 77, 3) := by decide +kernel
theorem d_M_pass_104 : decode b_M_pass 104 = .ok (.bipush 40, 2) := by decide +kernel
theorem d_M_pass_106 : decode b_M_pass 106 = .ok (.iload_n 2, 1) := by decide +kernel
theorem d_M_pass_107 : decode b_M_pass 107 = .ok (.imul, 1) := by decide +kernel
theorem d_M_pass_108 : decode b_M_pass 108 = .ok (.aload_n 0, 1) := by decide +kernel
theorem d_M_pass_109 : decode b_M_pass 109 = .ok (.getfield 71, 3) := by decide +kernel
theorem d_M_pass_112 : decode b_M_pass 112 = .ok (.iload_n 2, 1) := by decide +kernel
theorem d_M_pass_113 : decode b_M_pass 113 = .ok (.iaload, 1) := by decide +kernel
theorem d_M_pass_114 : decode b_M_pass 114 = .ok (.iadd, 1) := by decide +kernel
theorem d_M_pass_115 : decode b_M_pass 115 = .ok (.aload_n 0, 1) := by decide +kernel
theorem d_M_pass_116 : decode b_M_pass 116 = .ok (.getfield 111, 3) := by decide +kernel
theorem d_M_pass_119 : decode b_M_pass 119 = .ok (.iastore, 1) := by decide +kernel
theorem d_M_pass_120 : decode b_M_pass 120 = .ok (.aload_n 0, 1) := by decide +kernel
theorem d_M_pass_121 : decode b_M_pass 121 = .ok (.getfield 71, 3) := by decide +kernel
theorem d_M_pass_124 : decode b_M_pass 124 = .ok (.iload_n 2, 1) := by decide +kernel
theorem d_M_pass_125 : decode b_M_pass 125 = .ok (.dup2, 1) := by decide +kernel
theorem d_M_pass_126 : decode b_M_pass 126 = .ok (.iaload, 1) := by decide +kernel
theorem d_M_pass_127 : decode b_M_pass 127 = .ok (.iconst 1, 1) := by decide +kernel
theorem d_M_pass_128 : decode b_M_pass 128 = .ok (.iadd, 1) := by decide +kernel
theorem d_M_pass_129 : decode b_M_pass 129 = .ok (.iastore, 1) := by decide +kernel
theorem d_M_pass_130 : decode b_M_pass 130 = .ok (.iconst 0, 1) := by decide +kernel
theorem d_M_pass_131 : decode b_M_pass 131 = .ok (.istore 5, 2) := by decide +kernel
theorem d_M_pass_133 : decode b_M_pass 133 = .ok (.iload 5, 2) := by decide +kernel
theorem d_M_pass_135 : decode b_M_pass 135 = .ok (.aload_n 0, 1) := by decide +kernel
theorem d_M_pass_136 : decode b_M_pass 136 = .ok (.getfield 71, 3) := by decide +kernel
theorem d_M_pass_139 : decode b_M_pass 139 = .ok (.iload_n 2, 1) := by decide +kernel
theorem d_M_pass_140 : decode b_M_pass 140 = .ok (.iaload, 1) := by decide +kernel
theorem d_M_pass_141 : decode b_M_pass 141 = .ok (.if_icmp .ge 24, 3) := by decide +kernel
theorem d_M_pass_144 : decode b_M_pass 144 = .ok (.iload_n 3, 1) := by decide +kernel
theorem d_M_pass_145 : decode b_M_pass 145 = .ok (.aload_n 0, 1) := by decide +kernel
theorem d_M_pass_146 : decode b_M_pass 146 = .ok (.getfield 74, 3) := by decide +kernel
theorem d_M_pass_149 : decode b_M_pass 149 = .ok (.bipush 40, 2) := by decide +kernel
theorem d_M_pass_151 : decode b_M_pass 151 = .ok (.iload_n 2, 1) := by decide +kernel
theorem d_M_pass_152 : decode b_M_pass 152 = .ok (.imul, 1) := by decide +kernel
theorem d_M_pass_153 : decode b_M_pass 153 = .ok (.iload 5, 2) := by decide +kernel
theorem d_M_pass_155 : decode b_M_pass 155 = .ok (.iadd, 1) := by decide +kernel
theorem d_M_pass_156 : decode b_M_pass 156 = .ok (.iaload, 1) := by decide +kernel
theorem d_M_pass_157 : decode b_M_pass 157 = .ok (.iadd, 1) := by decide +kernel
theorem d_M_pass_158 : decode b_M_pass 158 = .ok (.istore_n 3, 1) := by decide +kernel
theorem d_M_pass_159 : decode b_M_pass 159 = .ok (.iinc 5 1, 3) := by decide +kernel
theorem d_M_pass_162 : decode b_M_pass 162 = .ok (.goto (-29), 3) := by decide +kernel
theorem d_M_pass_165 : decode b_M_pass 165 = .ok (.iload_n 3, 1) := by decide +kernel
theorem d_M_pass_166 : decode b_M_pass 166 = .ok (.aload_n 0, 1) := by decide +kernel
theorem d_M_pass_167 : decode b_M_pass 167 = .ok (.getfield 51, 3) := by decide +kernel
theorem d_M_pass_170 : decode b_M_pass 170 = .ok (.iload_n 2, 1) := by decide +kernel
theorem d_M_pass_171 : decode b_M_pass 171 = .ok (.iaload, 1) := by decide +kernel
theorem d_M_pass_172 : decode b_M_pass 172 = .ok (.if_icmp .lt 8, 3) := by decide +kernel
theorem d_M_pass_175 : decode b_M_pass 175 = .ok (.aload_n 0, 1) := by decide +kernel
theorem d_M_pass_176 : decode b_M_pass 176 = .ok (.iload_n 2, 1) := by decide +kernel
theorem d_M_pass_177 : decode b_M_pass 177 = .ok (.invokevirtual 135, 3) := by decide +kernel
theorem d_M_pass_180 : decode b_M_pass 180 = .ok (.return_, 1) := by decide +kernel
theorem d_M_digest_0 : decode b_M_digest 0 = .ok (.iconst 0, 1) := by decide +kernel
theorem d_M_digest_1 : decode b_M_digest 1 = .ok (.istore_n 2, 1) := by decide +kernel
theorem d_M_digest_2 : decode b_M_digest 2 = .ok (.iload_n 2, 1) := by decide +kernel
theorem d_M_digest_3 : decode b_M_digest 3 = .ok (.bipush 12, 2) := by decide +kernel
theorem d_M_digest_5 : decode b_M_digest 5 = .ok (.if_icmp .ge 32, 3) := by decide +kernel
theorem d_M_digest_8 : decode b_M_digest 8 = .ok (.aload_n 0, 1) := by decide +kernel
theorem d_M_digest_9 : decode b_M_digest 9 = .ok (.iload_n 1, 1) := by decide +kernel
theorem d_M_digest_10 : decode b_M_digest 10 = .ok (.iload_n 2, 1) := by decide +kernel
theorem d_M_digest_11 : decode b_M_digest 11 = .ok (.iconst 1, 1) := by decide +kernel
theorem d_M_digest_12 : decode b_M_digest 12 = .ok (.invokevirtual 132, 3) := by decide +kernel
theorem d_M_digest_15 : decode b_M_digest 15 = .ok (.ifCond .eq 16, 3) := by decide +kernel
theorem d_M_digest_18 : decode b_M_digest 18 = .ok (.aload_n 0, 1) := by decide +kernel
theorem d_M_digest_19 : decode b_M_digest 19 = .ok (.iload_n 2, 1) := by decide +kernel
theorem d_M_digest_20 : decode b_M_digest 20 = .ok (.iload_n 1, 1) := by decide +kernel
theorem d_M_digest_21 : decode b_M_digest 21 = .ok (.iconst 1, 1) := by decide +kernel
theorem d_M_digest_22 : decode b_M_digest 22 = .ok (.aload_n 0, 1) := by decide +kernel
theorem d_M_digest_23 : decode b_M_digest 23 = .ok (.getfield 71, 3) := by decide +kernel
theorem d_M_digest_26 : decode b_M_digest 26 = .ok (.iload_n 1, 1) := by decide +kernel
theorem d_M_digest_27 : decode b_M_digest 27 = .ok (.iaload, 1) := by decide +kernel
theorem d_M_digest_28 : decode b_M_digest 28 = .ok (.invokevirtual 117, 3) := by decide +kernel
theorem d_M_digest_31 : decode b_M_digest 31 = .ok (.iinc 2 1, 3) := by decide +kernel
theorem d_M_digest_34 : decode b_M_digest 34 = .ok (.goto (-32), 3) := by decide +kernel
theorem d_M_digest_37 : decode b_M_digest 37 = .ok (.aload_n 0, 1) := by decide +kernel
theorem d_M_digest_38 : decode b_M_digest 38 = .ok (.getfield 71, 3) := by decide +kernel
theorem d_M_digest_41 : decode b_M_digest 41 = .ok (.iload_n 1, 1) := by decide +kernel
theorem d_M_digest_42 : decode b_M_digest 42 = .ok (.iconst 0, 1) := by decide +kernel
theorem d_M_digest_43 : decode b_M_digest 43 = .ok (.iastore, 1) := by decide +kernel
theorem d_M_digest_44 : decode b_M_digest 44 = .ok (.return_, 1) := by decide +kernel
theorem d_M_waiting_0 : decode b_M_waiting 0 = .ok (.iconst 0, 1) := by decide +kernel
theorem d_M_waiting_1 : decode b_M_waiting 1 = .ok (.istore_n 2, 1) := by decide +kernel
theorem d_M_waiting_2 : decode b_M_waiting 2 = .ok (.iconst 0, 1) := by decide +kernel
theorem d_M_waiting_3 : decode b_M_waiting 3 = .ok (.istore_n 3, 1) := by decide +kernel
theorem d_M_waiting_4 : decode b_M_waiting 4 = .ok (.iload_n 3, 1) := by decide +kernel
theorem d_M_waiting_5 : decode b_M_waiting 5 = .ok (.aload_n 0, 1) := by decide +kernel
theorem d_M_waiting_6 : decode b_M_waiting 6 = .ok (.getfield 125, 3) := by decide +kernel
theorem d_M_waiting_9 : decode b_M_waiting 9 = .ok (.if_icmp .ge 22, 3) := by decide +kernel
theorem d_M_waiting_12 : decode b_M_waiting 12 = .ok (.aload_n 0, 1) := by decide +kernel
theorem d_M_waiting_13 : decode b_M_waiting 13 = .ok (.getfield 68, 3) := by decide +kernel
theorem d_M_waiting_16 : decode b_M_waiting 16 = .ok (.iload_n 3, 1) := by decide +kernel
theorem d_M_waiting_17 : decode b_M_waiting 17 = .ok (.iaload, 1) := by decide +kernel
theorem d_M_waiting_18 : decode b_M_waiting 18 = .ok (.iload_n 1, 1) := by decide +kernel
theorem d_M_waiting_19 : decode b_M_waiting 19 = .ok (.if_icmp .ne 6, 3) := by decide +kernel
theorem d_M_waiting_22 : decode b_M_waiting 22 = .ok (.iinc 2 1, 3) := by decide +kernel
theorem d_M_waiting_25 : decode b_M_waiting 25 = .ok (.iinc 3 1, 3) := by decide +kernel
theorem d_M_waiting_28 : decode b_M_waiting 28 = .ok (.goto (-24), 3) := by decide +kernel
theorem d_M_waiting_31 : decode b_M_waiting 31 = .ok (.iload_n 2, 1) := by decide +kernel
theorem d_M_waiting_32 : decode b_M_waiting 32 = .ok (.ireturn, 1) := by decide +kernel
theorem d_M_judge_0 : decode b_M_judge 0 = .ok (.iload_n 1, 1) := by decide +kernel
theorem d_M_judge_1 : decode b_M_judge 1 = .ok (.iconst 0, 1) := by decide +kernel
theorem d_M_judge_2 : decode b_M_judge 2 = .ok (.bipush 11, 2) := by decide +kernel
theorem d_M_judge_4 : decode b_M_judge 4 = .ok (.invokestatic 96, 3) := by decide +kernel
theorem d_M_judge_7 : decode b_M_judge 7 = .ok (.ifCond .eq 12, 3) := by decide +kernel
theorem d_M_judge_10 : decode b_M_judge 10 = .ok (.iload_n 3, 1) := by decide +kernel
theorem d_M_judge_11 : decode b_M_judge 11 = .ok (.iconst 0, 1) := by decide +kernel
theorem d_M_judge_12 : decode b_M_judge 12 = .ok (.iconst 2, 1) := by decide +kernel
theorem d_M_judge_13 : decode b_M_judge 13 = .ok (.invokestatic 96, 3) := by decide +kernel
theorem d_M_judge_16 : decode b_M_judge 16 = .ok (.ifCond .ne 9, 3) := by decide +kernel
theorem d_M_judge_19 : decode b_M_judge 19 = .ok (.aload_n 0, 1) := by decide +kernel
theorem d_M_judge_20 : decode b_M_judge 20 = .ok (.iconst 1, 1) := by decide +kernel
theorem d_M_judge_21 : decode b_M_judge 21 = .ok (.invokevirtual 107, 3) := by decide +kernel
theorem d_M_judge_24 : decode b_M_judge 24 = .ok (.ireturn, 1) := by decide +kernel
theorem d_M_judge_25 : decode b_M_judge 25 = .ok (.iload_n 2, 1) := by decide +kernel
theorem d_M_judge_26 : decode b_M_judge 26 = .ok (.iconst 0, 1) := by decide +kernel
theorem d_M_judge_27 : decode b_M_judge 27 = .ok (.aload_n 0, 1) := by decide +kernel
theorem d_M_judge_28 : decode b_M_judge 28 = .ok (.getfield 125, 3) := by decide +kernel
theorem d_M_judge_31 : decode b_M_judge 31 = .ok (.iconst 1, 1) := by decide +kernel
theorem d_M_judge_32 : decode b_M_judge 32 = .ok (.isub, 1) := by decide +kernel
theorem d_M_judge_33 : decode b_M_judge 33 = .ok (.invokestatic 96, 3) := by decide +kernel
theorem d_M_judge_36 : decode b_M_judge 36 = .ok (.ifCond .eq 12, 3) := by decide +kernel
theorem d_M_judge_39 : decode b_M_judge 39 = .ok (.aload_n 0, 1) := by decide +kernel
theorem d_M_judge_40 : decode b_M_judge 40 = .ok (.getfield 68, 3) := by decide +kernel
theorem d_M_judge_43 : decode b_M_judge 43 = .ok (.iload_n 2, 1) := by decide +kernel
theorem d_M_judge_44 : decode b_M_judge 44 = .ok (.iaload, 1) := by decide +kernel
theorem d_M_judge_45 : decode b_M_judge 45 = .ok (.ifCond .eq 9, 3) := by decide +kernel
theorem d_M_judge_48 : decode b_M_judge 48 = .ok (.aload_n 0, 1) := by decide +kernel
theorem d_M_judge_49 : decode b_M_judge 49 = .ok (.iconst 2, 1) := by decide +kernel
theorem d_M_judge_50 : decode b_M_judge 50 = .ok (.invokevirtual 107, 3) := by decide +kernel
theorem d_M_judge_53 : decode b_M_judge 53 = .ok (.ireturn, 1) := by decide +kernel
theorem d_M_judge_54 : decode b_M_judge 54 = .ok (.bipush 12, 2) := by decide +kernel
theorem d_M_judge_56 : decode b_M_judge 56 = .ok (.aload_n 0, 1) := by decide +kernel
theorem d_M_judge_57 : decode b_M_judge 57 = .ok (.getfield 59, 3) := by decide +kernel
theorem d_M_judge_60 : decode b_M_judge 60 = .ok (.iload_n 2, 1) := by decide +kernel
theorem d_M_judge_61 : decode b_M_judge 61 = .ok (.iaload, 1) := by decide +kernel
theorem d_M_judge_62 : decode b_M_judge 62 = .ok (.imul, 1) := by decide +kernel
theorem d_M_judge_63 : decode b_M_judge 63 = .ok (.iload_n 1, 1) := by decide +kernel
theorem d_M_judge_64 : decode b_M_judge 64 = .ok (.iadd, 1) := by decide +kernel
theorem d_M_judge_65 : decode b_M_judge 65 = .ok (.istore 4, 2) := by decide +kernel
theorem d_M_judge_67 : decode b_M_judge 67 = .ok (.aload_n 0, 1) := by decide +kernel
theorem d_M_judge_68 : decode b_M_judge 68 = .ok (.getfield 7, 3) := by decide +kernel
theorem d_M_judge_71 : decode b_M_judge 71 = .ok (.iload 4, 2) := by decide +kernel
theorem d_M_judge_73 : decode b_M_judge 73 = .ok (.iaload, 1) := by decide +kernel
theorem d_M_judge_74 : decode b_M_judge 74 = .ok (.iconst (-1), 1) := by decide +kernel
theorem d_M_judge_75 : decode b_M_judge 75 = .ok (.if_icmp .eq 13, 3) := by decide +kernel
theorem d_M_judge_78 : decode b_M_judge 78 = .ok (.aload_n 0, 1) := by decide +kernel
theorem d_M_judge_79 : decode b_M_judge 79 = .ok (.getfield 28, 3) := by decide +kernel
theorem d_M_judge_82 : decode b_M_judge 82 = .ok (.iload 4, 2) := by decide +kernel
theorem d_M_judge_84 : decode b_M_judge 84 = .ok (.baload, 1) := by decide +kernel
theorem d_M_judge_85 : decode b_M_judge 85 = .ok (.ifCond .ne 9, 3) := by decide +kernel
theorem d_M_judge_88 : decode b_M_judge 88 = .ok (.aload_n 0, 1) := by decide +kernel
theorem d_M_judge_89 : decode b_M_judge 89 = .ok (.iconst 3, 1) := by decide +kernel
theorem d_M_judge_90 : decode b_M_judge 90 = .ok (.invokevirtual 107, 3) := by decide +kernel
theorem d_M_judge_93 : decode b_M_judge 93 = .ok (.ireturn, 1) := by decide +kernel
theorem d_M_judge_94 : decode b_M_judge 94 = .ok (.aload_n 0, 1) := by decide +kernel
theorem d_M_judge_95 : decode b_M_judge 95 = .ok (.iconst 0, 1) := by decide +kernel
theorem d_M_judge_96 : decode b_M_judge 96 = .ok (.putfield 92, 3) := by decide +kernel
theorem d_M_judge_99 : decode b_M_judge 99 = .ok (.aload_n 0, 1) := by decide +kernel
theorem d_M_judge_100 : decode b_M_judge 100 = .ok (.getfield 68, 3) := by decide +kernel
theorem d_M_judge_103 : decode b_M_judge 103 = .ok (.iload_n 2, 1) := by decide +kernel
theorem d_M_judge_104 : decode b_M_judge 104 = .ok (.iload_n 3, 1) := by decide +kernel
theorem d_M_judge_105 : decode b_M_judge 105 = .ok (.ifCond .ne 7, 3) := by decide +kernel
theorem d_M_judge_108 : decode b_M_judge 108 = .ok (.iconst 1, 1) := by decide +kernel
theorem d_M_judge_109 : decode b_M_judge 109 = .ok (.goto 4, 3) := by decide +kernel
theorem d_M_judge_112 : decode b_M_judge 112 = .ok (.iconst 2, 1) := by decide +kernel
theorem d_M_judge_113 : decode b_M_judge 113 = .ok (.iastore, 1) := by decide +kernel
theorem d_M_judge_114 : decode b_M_judge 114 = .ok (.iload_n 3, 1) := by decide +kernel
theorem d_M_judge_115 : decode b_M_judge 115 = .ok (.ifCond .ne 8, 3) := by decide +kernel
theorem d_M_judge_118 : decode b_M_judge 118 = .ok (.aload_n 0, 1) := by decide +kernel
theorem d_M_judge_119 : decode b_M_judge 119 = .ok (.iload_n 2, 1) := by decide +kernel
theorem d_M_judge_120 : decode b_M_judge 120 = .ok (.invokevirtual 128, 3) := by decide +kernel
theorem d_M_judge_123 : decode b_M_judge 123 = .ok (.iload_n 3, 1) := by decide +kernel
theorem d_M_judge_124 : decode b_M_judge 124 = .ok (.iconst 1, 1) := by decide +kernel
theorem d_M_judge_125 : decode b_M_judge 125 = .ok (.if_icmp .ne 21, 3) := by decide +kernel
theorem d_M_judge_128 : decode b_M_judge 128 = .ok (.aload_n 0, 1) := by decide +kernel
theorem d_M_judge_129 : decode b_M_judge 129 = .ok (.aload_n 0, 1) := by decide +kernel
theorem d_M_judge_130 : decode b_M_judge 130 = .ok (.getfield 62, 3) := by decide +kernel
theorem d_M_judge_133 : decode b_M_judge 133 = .ok (.iload_n 2, 1) := by decide +kernel
theorem d_M_judge_134 : decode b_M_judge 134 = .ok (.iaload, 1) := by decide +kernel
theorem d_M_judge_135 : decode b_M_judge 135 = .ok (.aload_n 0, 1) := by decide +kernel
theorem d_M_judge_136 : decode b_M_judge 136 = .ok (.getfield 59, 3) := by decide +kernel
theorem d_M_judge_139 : decode b_M_judge 139 = .ok (.iload_n 2, 1) := by decide +kernel
theorem d_M_judge_140 : decode b_M_judge 140 = .ok (.iaload, 1) := by decide +kernel
theorem d_M_judge_141 : decode b_M_judge 141 = .ok (.iconst 4, 1) := by decide +kernel
theorem d_M_judge_142 : decode b_M_judge 142 = .ok (.iload_n 2, 1) := by decide +kernel
theorem d_M_judge_143 : decode b_M_judge 143 = .ok (.invokevirtual 117, 3) := by decide +kernel
theorem d_M_judge_146 : decode b_M_judge 146 = .ok (.aload_n 0, 1) := by decide +kernel
theorem d_M_judge_147 : decode b_M_judge 147 = .ok (.iconst 0, 1) := by decide +kernel
theorem d_M_judge_148 : decode b_M_judge 148 = .ok (.invokevirtual 138, 3) := by decide +kernel
theorem d_M_judge_151 : decode b_M_judge 151 = .ok (.ireturn, 1) := by decide +kernel
theorem d_M_bounce_0 : decode b_M_bounce 0 = .ok (.iload_n 1, 1) := by decide +kernel
theorem d_M_bounce_1 : decode b_M_bounce 1 = .ok (.iload_n 2, 1) := by decide +kernel
theorem d_M_bounce_2 : decode b_M_bounce 2 = .ok (.invokestatic 103, 3) := by decide +kernel
theorem d_M_bounce_5 : decode b_M_bounce 5 = .ok (.ifCond .ne 10, 3) := by decide +kernel
theorem d_M_bounce_8 : decode b_M_bounce 8 = .ok (.aload_n 0, 1) := by decide +kernel
theorem d_M_bounce_9 : decode b_M_bounce 9 = .ok (.iconst 1, 1) := by decide +kernel
theorem d_M_bounce_10 : decode b_M_bounce 10 = .ok (.invokevirtual 107, 3) := by decide +kernel
theorem d_M_bounce_13 : decode b_M_bounce 13 = .ok (.i2d, 1) := by decide +kernel
theorem d_M_bounce_14 : decode b_M_bounce 14 = .ok (.dreturn, 1) := by decide +kernel
theorem d_M_bounce_15 : decode b_M_bounce 15 = .ok (.bipush 12, 2) := by decide +kernel
theorem d_M_bounce_17 : decode b_M_bounce 17 = .ok (.iload_n 1, 1) := by decide +kernel
theorem d_M_bounce_18 : decode b_M_bounce 18 = .ok (.imul, 1) := by decide +kernel
theorem d_M_bounce_19 : decode b_M_bounce 19 = .ok (.iload_n 2, 1) := by decide +kernel
theorem d_M_bounce_20 : decode b_M_bounce 20 = .ok (.iadd, 1) := by decide +kernel
theorem d_M_bounce_21 : decode b_M_bounce 21 = .ok (.istore 4, 2) := by decide +kernel
theorem d_M_bounce_23 : decode b_M_bounce 23 = .ok (.aload_n 0, 1) := by decide +kernel
theorem d_M_bounce_24 : decode b_M_bounce 24 = .ok (.getfield 7, 3) := by decide +kernel
theorem d_M_bounce_27 : decode b_M_bounce 27 = .ok (.iload 4, 2) := by decide +kernel
theorem d_M_bounce_29 : decode b_M_bounce 29 = .ok (.iaload, 1) := by decide +kernel
theorem d_M_bounce_30 : decode b_M_bounce 30 = .ok (.iconst (-1), 1) := by decide +kernel
theorem d_M_bounce_31 : decode b_M_bounce 31 = .ok (.if_icmp .ne 10, 3) := by decide +kernel
theorem d_M_bounce_34 : decode b_M_bounce 34 = .ok (.aload_n 0, 1) := by decide +kernel
theorem d_M_bounce_35 : decode b_M_bounce 35 = .ok (.iconst 2, 1) := by decide +kernel
theorem d_M_bounce_36 : decode b_M_bounce 36 = .ok (.invokevirtual 107, 3) := by decide +kernel
theorem d_M_bounce_39 : decode b_M_bounce 39 = .ok (.i2d, 1) := by decide +kernel
theorem d_M_bounce_40 : decode b_M_bounce 40 = .ok (.dreturn, 1) := by decide +kernel
theorem d_M_bounce_41 : decode b_M_bounce 41 = .ok (.aload_n 0, 1) := by decide +kernel
theorem d_M_bounce_42 : decode b_M_bounce 42 = .ok (.getfield 7, 3) := by decide +kernel
theorem d_M_bounce_45 : decode b_M_bounce 45 = .ok (.iload 4, 2) := by decide +kernel
theorem d_M_bounce_47 : decode b_M_bounce 47 = .ok (.iaload, 1) := by decide +kernel
theorem d_M_bounce_48 : decode b_M_bounce 48 = .ok (.iconst 1, 1) := by decide +kernel
theorem d_M_bounce_49 : decode b_M_bounce 49 = .ok (.if_icmp .eq 10, 3) := by decide +kernel
theorem d_M_bounce_52 : decode b_M_bounce 52 = .ok (.aload_n 0, 1) := by decide +kernel
theorem d_M_bounce_53 : decode b_M_bounce 53 = .ok (.iconst 3, 1) := by decide +kernel
theorem d_M_bounce_54 : decode b_M_bounce 54 = .ok (.invokevirtual 107, 3) := by decide +kernel
theorem d_M_bounce_57 : decode b_M_bounce 57 = .ok (.i2d, 1) := by decide +kernel
theorem d_M_bounce_58 : decode b_M_bounce 58 = .ok (.dreturn, 1) := by decide +kernel
theorem d_M_bounce_59 : decode b_M_bounce 59 = .ok (.aload_n 0, 1) := by decide +kernel
theorem d_M_bounce_60 : decode b_M_bounce 60 = .ok (.iconst 0, 1) := by decide +kernel
theorem d_M_bounce_61 : decode b_M_bounce 61 = .ok (.putfield 92, 3) := by decide +kernel
theorem d_M_bounce_64 : decode b_M_bounce 64 = .ok (.aload_n 0, 1) := by decide +kernel
theorem d_M_bounce_65 : decode b_M_bounce 65 = .ok (.getfield 25, 3) := by decide +kernel
theorem d_M_bounce_68 : decode b_M_bounce 68 = .ok (.iload 4, 2) := by decide +kernel
theorem d_M_bounce_70 : decode b_M_bounce 70 = .ok (.iaload, 1) := by decide +kernel
theorem d_M_bounce_71 : decode b_M_bounce 71 = .ok (.aload_n 0, 1) := by decide +kernel
theorem d_M_bounce_72 : decode b_M_bounce 72 = .ok (.getfield 111, 3) := by decide +kernel
theorem d_M_bounce_75 : decode b_M_bounce 75 = .ok (.if_icmp .ne 11, 3) := by decide +kernel
theorem d_M_bounce_78 : decode b_M_bounce 78 = .ok (.aload_n 0, 1) := by decide +kernel
theorem d_M_bounce_79 : decode b_M_bounce 79 = .ok (.getfield 35, 3) := by decide +kernel
theorem d_M_bounce_82 : decode b_M_bounce 82 = .ok (.iload 4, 2) := by decide +kernel
theorem d_M_bounce_84 : decode b_M_bounce 84 = .ok (.daload, 1) := by decide +kernel
theorem d_M_bounce_85 : decode b_M_bounce 85 = .ok (.dreturn, 1) := by decide +kernel
theorem d_M_bounce_86 : decode b_M_bounce 86 = .ok (.aload_n 0, 1) := by decide +kernel
theorem d_M_bounce_87 : decode b_M_bounce 87 = .ok (.getfield 25, 3) := by decide +kernel
theorem d_M_bounce_90 : decode b_M_bounce 90 = .ok (.iload 4, 2) := by decide +kernel
theorem d_M_bounce_92 : decode b_M_bounce 92 = .ok (.aload_n 0, 1) := by decide +kernel
theorem d_M_bounce_93 : decode b_M_bounce 93 = .ok (.getfield 111, 3) := by decide +kernel
theorem d_M_bounce_96 : decode b_M_bounce 96 = .ok (.iastore, 1) := by decide +kernel
theorem d_M_bounce_97 : decode b_M_bounce 97 = .ok (.aload_n 0, 1) := by decide +kernel
theorem d_M_bounce_98 : decode b_M_bounce 98 = .ok (.getfield 35, 3) := by decide +kernel
theorem d_M_bounce_101 : decode b_M_bounce 101 = .ok (.iload 4, 2) := by decide +kernel
theorem d_M_bounce_103 : decode b_M_bounce 103 = .ok (.dup2, 1) := by decide +kernel
theorem d_M_bounce_104 : decode b_M_bounce 104 = .ok (.daload, 1) := by decide +kernel
theorem d_M_bounce_105 : decode b_M_bounce 105 = .ok (.iload_n 3, 1) := by decide +kernel
theorem d_M_bounce_106 : decode b_M_bounce 106 = .ok (.ifCond .eq 7, 3) := by decide +kernel
theorem d_M_bounce_109 : decode b_M_bounce 109 = .ok (.dconst 1, 1) := by decide +kernel
theorem d_M_bounce_110 : decode b_M_bounce 110 = .ok (.goto 6, 3) := by decide +kernel
theorem d_M_bounce_113 : decode b_M_bounce 113 = .ok (.ldc2_w 121, 3) := by decide +kernel
theorem d_M_bounce_116 : decode b_M_bounce 116 = .ok (.dadd, 1) := by decide +kernel
theorem d_M_bounce_117 : decode b_M_bounce 117 = .ok (.dastore, 1) := by decide +kernel
theorem d_M_bounce_118 : decode b_M_bounce 118 = .ok (.aload_n 0, 1) := by decide +kernel
theorem d_M_bounce_119 : decode b_M_bounce 119 = .ok (.getfield 35, 3) := by decide +kernel
theorem d_M_bounce_122 : decode b_M_bounce 122 = .ok (.iload 4, 2) := by decide +kernel
theorem d_M_bounce_124 : decode b_M_bounce 124 = .ok (.daload, 1) := by decide +kernel
theorem d_M_bounce_125 : decode b_M_bounce 125 = .ok (.aload_n 0, 1) := by decide +kernel
theorem d_M_bounce_126 : decode b_M_bounce 126 = .ok (.getfield 56, 3) := by decide +kernel
theorem d_M_bounce_129 : decode b_M_bounce 129 = .ok (.iload_n 1, 1) := by decide +kernel
theorem d_M_bounce_130 : decode b_M_bounce 130 = .ok (.daload, 1) := by decide +kernel
theorem d_M_bounce_131 : decode b_M_bounce 131 = .ok (.dcmp .l, 1) := by decide +kernel
theorem d_M_bounce_132 : decode b_M_bounce 132 = .ok (.ifCond .lt 38, 3) := by decide +kernel
theorem d_M_bounce_135 : decode b_M_bounce 135 = .ok (.aload_n 0, 1) := by decide +kernel
theorem d_M_bounce_136 : decode b_M_bounce 136 = .ok (.getfield 7, 3) := by decide +kernel
theorem d_M_bounce_139 : decode b_M_bounce 139 = .ok (.iload 4, 2) := by decide +kernel
theorem d_M_bounce_141 : decode b_M_bounce 141 = .ok (.iconst 2, 1) := by decide +kernel
theorem d_M_bounce_142 : decode b_M_bounce 142 = .ok (.iastore, 1) := by decide +kernel
theorem d_M_bounce_143 : decode b_M_bounce 143 = .ok (.aload_n 0, 1) := by decide +kernel
theorem d_M_bounce_144 : decode b_M_bounce 144 = .ok (.getfield 16, 3) := by decide +kernel
theorem d_M_bounce_147 : decode b_M_bounce 147 = .ok (.iload 4, 2) := by decide +kernel
theorem d_M_bounce_149 : decode b_M_bounce 149 = .ok (.aload_n 0, 1) := by decide +kernel
theorem d_M_bounce_150 : decode b_M_bounce 150 = .ok (.getfield 111, 3) := by decide +kernel
theorem d_M_bounce_153 : decode b_M_bounce 153 = .ok (.iastore, 1) := by decide +kernel
theorem d_M_bounce_154 : decode b_M_bounce 154 = .ok (.aload_n 0, 1) := by decide +kernel
theorem d_M_bounce_155 : decode b_M_bounce 155 = .ok (.getfield 22, 3) := by decide +kernel
theorem d_M_bounce_158 : decode b_M_bounce 158 = .ok (.iload 4, 2) := by decide +kernel
theorem d_M_bounce_160 : decode b_M_bounce 160 = .ok (.iconst 1, 1) := by decide +kernel
theorem d_M_bounce_161 : decode b_M_bounce 161 = .ok (.iastore, 1) := by decide +kernel
theorem d_M_bounce_162 : decode b_M_bounce 162 = .ok (.aload_n 0, 1) := by decide +kernel
theorem d_M_bounce_163 : decode b_M_bounce 163 = .ok (.iload_n 2, 1) := by decide +kernel
theorem d_M_bounce_164 : decode b_M_bounce 164 = .ok (.iload_n 1, 1) := by decide +kernel
theorem d_M_bounce_165 : decode b_M_bounce 165 = .ok (.iconst 5, 1) := by decide +kernel
theorem d_M_bounce_166 : decode b_M_bounce 166 = .ok (.iconst 1, 1) := by decide +kernel
theorem d_M_bounce_167 : decode b_M_bounce 167 = .ok (.invokevirtual 117, 3) := by decide +kernel
theorem d_M_bounce_170 : decode b_M_bounce 170 = .ok (.aload_n 0, 1) := by decide +kernel
theorem d_M_bounce_171 : decode b_M_bounce 171 = .ok (.getfield 35, 3) := by decide +kernel
theorem d_M_bounce_174 : decode b_M_bounce 174 = .ok (.iload 4, 2) := by decide +kernel
theorem d_M_bounce_176 : decode b_M_bounce 176 = .ok (.daload, 1) := by decide +kernel
theorem d_M_bounce_177 : decode b_M_bounce 177 = .ok (.dreturn, 1) := by decide +kernel
theorem d_M_renew_0 : decode b_M_renew 0 = .ok (.iload_n 1, 1) := by decide +kernel
theorem d_M_renew_1 : decode b_M_renew 1 = .ok (.iload_n 2, 1) := by decide +kernel
theorem d_M_renew_2 : decode b_M_renew 2 = .ok (.invokestatic 103, 3) := by decide +kernel
theorem d_M_renew_5 : decode b_M_renew 5 = .ok (.ifCond .ne 9, 3) := by decide +kernel
theorem d_M_renew_8 : decode b_M_renew 8 = .ok (.aload_n 0, 1) := by decide +kernel
theorem d_M_renew_9 : decode b_M_renew 9 = .ok (.iconst 1, 1) := by decide +kernel
theorem d_M_renew_10 : decode b_M_renew 10 = .ok (.invokevirtual 107, 3) := by decide +kernel
theorem d_M_renew_13 : decode b_M_renew 13 = .ok (.ireturn, 1) := by decide +kernel
theorem d_M_renew_14 : decode b_M_renew 14 = .ok (.bipush 12, 2) := by decide +kernel
theorem d_M_renew_16 : decode b_M_renew 16 = .ok (.iload_n 1, 1) := by decide +kernel
theorem d_M_renew_17 : decode b_M_renew 17 = .ok (.imul, 1) := by decide +kernel
theorem d_M_renew_18 : decode b_M_renew 18 = .ok (.iload_n 2, 1) := by decide +kernel
theorem d_M_renew_19 : decode b_M_renew 19 = .ok (.iadd, 1) := by decide +kernel
theorem d_M_renew_20 : decode b_M_renew 20 = .ok (.istore_n 3, 1) := by decide +kernel
theorem d_M_renew_21 : decode b_M_renew 21 = .ok (.aload_n 0, 1) := by decide +kernel
theorem d_M_renew_22 : decode b_M_renew 22 = .ok (.getfield 7, 3) := by decide +kernel
theorem d_M_renew_25 : decode b_M_renew 25 = .ok (.iload_n 3, 1) := by decide +kernel
theorem d_M_renew_26 : decode b_M_renew 26 = .ok (.iaload, 1) := by decide +kernel
theorem d_M_renew_27 : decode b_M_renew 27 = .ok (.iconst (-1), 1) := by decide +kernel
theorem d_M_renew_28 : decode b_M_renew 28 = .ok (.if_icmp .ne 9, 3) := by decide +kernel
theorem d_M_renew_31 : decode b_M_renew 31 = .ok (.aload_n 0, 1) := by decide +kernel
theorem d_M_renew_32 : decode b_M_renew 32 = .ok (.iconst 2, 1) := by decide +kernel
theorem d_M_renew_33 : decode b_M_renew 33 = .ok (.invokevirtual 107, 3) := by decide +kernel
theorem d_M_renew_36 : decode b_M_renew 36 = .ok (.ireturn, 1) := by decide +kernel
theorem d_M_renew_37 : decode b_M_renew 37 = .ok (.aload_n 0, 1) := by decide +kernel
theorem d_M_renew_38 : decode b_M_renew 38 = .ok (.getfield 7, 3) := by decide +kernel
theorem d_M_renew_41 : decode b_M_renew 41 = .ok (.iload_n 3, 1) := by decide +kernel
theorem d_M_renew_42 : decode b_M_renew 42 = .ok (.iaload, 1) := by decide +kernel
theorem d_M_renew_43 : decode b_M_renew 43 = .ok (.iconst 2, 1) := by decide +kernel
theorem d_M_renew_44 : decode b_M_renew 44 = .ok (.if_icmp .eq 9, 3) := by decide +kernel
theorem d_M_renew_47 : decode b_M_renew 47 = .ok (.aload_n 0, 1) := by decide +kernel
theorem d_M_renew_48 : decode b_M_renew 48 = .ok (.iconst 3, 1) := by decide +kernel
theorem d_M_renew_49 : decode b_M_renew 49 = .ok (.invokevirtual 107, 3) := by decide +kernel
theorem d_M_renew_52 : decode b_M_renew 52 = .ok (.ireturn, 1) := by decide +kernel
theorem d_M_renew_53 : decode b_M_renew 53 = .ok (.aload_n 0, 1) := by decide +kernel
theorem d_M_renew_54 : decode b_M_renew 54 = .ok (.iconst 0, 1) := by decide +kernel
theorem d_M_renew_55 : decode b_M_renew 55 = .ok (.putfield 92, 3) := by decide +kernel
theorem d_M_renew_58 : decode b_M_renew 58 = .ok (.aload_n 0, 1) := by decide +kernel
theorem d_M_renew_59 : decode b_M_renew 59 = .ok (.getfield 7, 3) := by decide +kernel
theorem d_M_renew_62 : decode b_M_renew 62 = .ok (.iload_n 3, 1) := by decide +kernel
theorem d_M_renew_63 : decode b_M_renew 63 = .ok (.iconst 1, 1) := by decide +kernel
theorem d_M_renew_64 : decode b_M_renew 64 = .ok (.iastore, 1) := by decide +kernel
theorem d_M_renew_65 : decode b_M_renew 65 = .ok (.aload_n 0, 1) := by decide +kernel
theorem d_M_renew_66 : decode b_M_renew 66 = .ok (.getfield 16, 3) := by decide +kernel
theorem d_M_renew_69 : decode b_M_renew 69 = .ok (.iload_n 3, 1) := by decide +kernel
theorem d_M_renew_70 : decode b_M_renew 70 = .ok (.aload_n 0, 1) := by decide +kernel
theorem d_M_renew_71 : decode b_M_renew 71 = .ok (.getfield 111, 3) := by decide +kernel
theorem d_M_renew_74 : decode b_M_renew 74 = .ok (.iastore, 1) := by decide +kernel
theorem d_M_renew_75 : decode b_M_renew 75 = .ok (.aload_n 0, 1) := by decide +kernel
theorem d_M_renew_76 : decode b_M_renew 76 = .ok (.getfield 35, 3) := by decide +kernel
theorem d_M_renew_79 : decode b_M_renew 79 = .ok (.iload_n 3, 1) := by decide +kernel
theorem d_M_renew_80 : decode b_M_renew 80 = .ok (.dconst 0, 1) := by decide +kernel
theorem d_M_renew_81 : decode b_M_renew 81 = .ok (.dastore, 1) := by decide +kernel
theorem d_M_renew_82 : decode b_M_renew 82 = .ok (.aload_n 0, 1) := by decide +kernel
theorem d_M_renew_83 : decode b_M_renew 83 = .ok (.getfield 22, 3) := by decide +kernel
theorem d_M_renew_86 : decode b_M_renew 86 = .ok (.iload_n 3, 1) := by decide +kernel
theorem d_M_renew_87 : decode b_M_renew 87 = .ok (.iaload, 1) := by decide +kernel
theorem d_M_renew_88 : decode b_M_renew 88 = .ok (.ireturn, 1) := by decide +kernel
theorem d_M_day_0 : decode b_M_day 0 = .ok (.bipush 12, 2) := by decide +kernel
theorem d_M_day_2 : decode b_M_day 2 = .ok (.iload_n 1, 1) := by decide +kernel
theorem d_M_day_3 : decode b_M_day 3 = .ok (.imul, 1) := by decide +kernel
theorem d_M_day_4 : decode b_M_day 4 = .ok (.iload_n 2, 1) := by decide +kernel
theorem d_M_day_5 : decode b_M_day 5 = .ok (.iadd, 1) := by decide +kernel
theorem d_M_day_6 : decode b_M_day 6 = .ok (.istore_n 3, 1) := by decide +kernel
theorem d_M_day_7 : decode b_M_day 7 = .ok (.aload_n 0, 1) := by decide +kernel
theorem d_M_day_8 : decode b_M_day 8 = .ok (.getfield 7, 3) := by decide +kernel
theorem d_M_day_11 : decode b_M_day 11 = .ok (.iload_n 3, 1) := by decide +kernel
theorem d_M_day_12 : decode b_M_day 12 = .ok (.iaload, 1) := by decide +kernel
theorem d_M_day_13 : decode b_M_day 13 = .ok (.iconst 1, 1) := by decide +kernel
theorem d_M_day_14 : decode b_M_day 14 = .ok (.if_icmp .ne 50, 3) := by decide +kernel
theorem d_M_day_17 : decode b_M_day 17 = .ok (.aload_n 0, 1) := by decide +kernel
theorem d_M_day_18 : decode b_M_day 18 = .ok (.getfield 25, 3) := by decide +kernel
theorem d_M_day_21 : decode b_M_day 21 = .ok (.iload_n 3, 1) := by decide +kernel
theorem d_M_day_22 : decode b_M_day 22 = .ok (.iaload, 1) := by decide +kernel
theorem d_M_day_23 : decode b_M_day 23 = .ok (.aload_n 0, 1) := by decide +kernel
theorem d_M_day_24 : decode b_M_day 24 = .ok (.getfield 111, 3) := by decide +kernel
theorem d_M_day_27 : decode b_M_day 27 = .ok (.iconst 1, 1) := by decide +kernel
theorem d_M_day_28 : decode b_M_day 28 = .ok (.isub, 1) := by decide +kernel
theorem d_M_day_29 : decode b_M_day 29 = .ok (.if_icmp .eq 35, 3) := by decide +kernel
theorem d_M_day_32 : decode b_M_day 32 = .ok (.aload_n 0, 1) := by decide +kernel
theorem d_M_day_33 : decode b_M_day 33 = .ok (.getfield 35, 3) := by decide +kernel
theorem d_M_day_36 : decode b_M_day 36 = .ok (.iload_n 3, 1) := by decide +kernel
theorem d_M_day_37 : decode b_M_day 37 = .ok (.dup2, 1) := by decide +kernel
theorem d_M_day_38 : decode b_M_day 38 = .ok (.daload, 1) := by decide +kernel
theorem d_M_day_39 : decode b_M_day 39 = .ok (.ldc2_w 141, 3) := by decide +kernel
theorem d_M_day_42 : decode b_M_day 42 = .ok (.dmul, 1) := by decide +kernel
theorem d_M_day_43 : decode b_M_day 43 = .ok (.dastore, 1) := by decide +kernel
theorem d_M_day_44 : decode b_M_day 44 = .ok (.aload_n 0, 1) := by decide +kernel
theorem d_M_day_45 : decode b_M_day 45 = .ok (.getfield 35, 3) := by decide +kernel
theorem d_M_day_48 : decode b_M_day 48 = .ok (.iload_n 3, 1) := by decide +kernel
theorem d_M_day_49 : decode b_M_day 49 = .ok (.daload, 1) := by decide +kernel
theorem d_M_day_50 : decode b_M_day 50 = .ok (.ldc2_w 143, 3) := by decide +kernel
theorem d_M_day_53 : decode b_M_day 53 = .ok (.dcmp .g, 1) := by decide +kernel
theorem d_M_day_54 : decode b_M_day 54 = .ok (.ifCond .ge 10, 3) := by decide +kernel
theorem d_M_day_57 : decode b_M_day 57 = .ok (.aload_n 0, 1) := by decide +kernel
theorem d_M_day_58 : decode b_M_day 58 = .ok (.getfield 35, 3) := by decide +kernel
theorem d_M_day_61 : decode b_M_day 61 = .ok (.iload_n 3, 1) := by decide +kernel
theorem d_M_day_62 : decode b_M_day 62 = .ok (.dconst 0, 1) := by decide +kernel
theorem d_M_day_63 : decode b_M_day 63 = .ok (.dastore, 1) := by decide +kernel
theorem d_M_day_64 : decode b_M_day 64 = .ok (.aload_n 0, 1) := by decide +kernel
theorem d_M_day_65 : decode b_M_day 65 = .ok (.getfield 7, 3) := by decide +kernel
theorem d_M_day_68 : decode b_M_day 68 = .ok (.iload_n 3, 1) := by decide +kernel
theorem d_M_day_69 : decode b_M_day 69 = .ok (.iaload, 1) := by decide +kernel
theorem d_M_day_70 : decode b_M_day 70 = .ok (.ifCond .ne 25, 3) := by decide +kernel
theorem d_M_day_73 : decode b_M_day 73 = .ok (.aload_n 0, 1) := by decide +kernel
theorem d_M_day_74 : decode b_M_day 74 = .ok (.getfield 16, 3) := by decide +kernel
theorem d_M_day_77 : decode b_M_day 77 = .ok (.iload_n 3, 1) := by decide +kernel
theorem d_M_day_78 : decode b_M_day 78 = .ok (.iaload, 1) := by decide +kernel
theorem d_M_day_79 : decode b_M_day 79 = .ok (.aload_n 0, 1) := by decide +kernel
theorem d_M_day_80 : decode b_M_day 80 = .ok (.getfield 111, 3) := by decide +kernel
theorem d_M_day_83 : decode b_M_day 83 = .ok (.iconst 5, 1) := by decide +kernel
theorem d_M_day_84 : decode b_M_day 84 = .ok (.isub, 1) := by decide +kernel
theorem d_M_day_85 : decode b_M_day 85 = .ok (.if_icmp .ne 10, 3) := by decide +kernel
theorem d_M_day_88 : decode b_M_day 88 = .ok (.aload_n 0, 1) := by decide +kernel
theorem d_M_day_89 : decode b_M_day 89 = .ok (.getfield 7, 3) := by decide +kernel
theorem d_M_day_92 : decode b_M_day 92 = .ok (.iload_n 3, 1) := by decide +kernel
theorem d_M_day_93 : decode b_M_day 93 = .ok (.iconst (-1), 1) := by decide +kernel
theorem d_M_day_94 : decode b_M_day 94 = .ok (.iastore, 1) := by decide +kernel
theorem d_M_day_95 : decode b_M_day 95 = .ok (.aload_n 0, 1) := by decide +kernel
theorem d_M_day_96 : decode b_M_day 96 = .ok (.getfield 7, 3) := by decide +kernel
theorem d_M_day_99 : decode b_M_day 99 = .ok (.iload_n 3, 1) := by decide +kernel
theorem d_M_day_100 : decode b_M_day 100 = .ok (.iaload, 1) := by decide +kernel
theorem d_M_day_101 : decode b_M_day 101 = .ok (.iconst 2, 1) := by decide +kernel
theorem d_M_day_102 : decode b_M_day 102 = .ok (.if_icmp .ne 19, 3) := by decide +kernel
theorem d_M_day_105 : decode b_M_day 105 = .ok (.aload_n 0, 1) := by decide +kernel
theorem d_M_day_106 : decode b_M_day 106 = .ok (.getfield 111, 3) := by decide +kernel
theorem d_M_day_109 : decode b_M_day 109 = .ok (.aload_n 0, 1) := by decide +kernel
theorem d_M_day_110 : decode b_M_day 110 = .ok (.getfield 16, 3) := by decide +kernel
theorem d_M_day_113 : decode b_M_day 113 = .ok (.iload_n 3, 1) := by decide +kernel
theorem d_M_day_114 : decode b_M_day 114 = .ok (.iaload, 1) := by decide +kernel
theorem d_M_day_115 : decode b_M_day 115 = .ok (.isub, 1) := by decide +kernel
theorem d_M_day_116 : decode b_M_day 116 = .ok (.iconst 3, 1) := by decide +kernel
theorem d_M_day_117 : decode b_M_day 117 = .ok (.irem, 1) := by decide +kernel
theorem d_M_day_118 : decode b_M_day 118 = .ok (.ifCond .eq 4, 3) := by decide +kernel
theorem d_M_day_121 : decode b_M_day 121 = .ok (.return_, 1) := by decide +kernel
theorem d_M_day_122 : decode b_M_day 122 = .ok (.aload_n 0, 1) := by decide +kernel
theorem d_M_day_123 : decode b_M_day 123 = .ok (.getfield 22, 3) := by decide +kernel
theorem d_M_day_126 : decode b_M_day 126 = .ok (.iload_n 3, 1) := by decide +kernel
end
section
theorem d_M_day_127 : decode b_M_day 127 = .ok (.iaload, 1) := by decide +kernel
theorem d_M_day_128 : decode b_M_day 128 = .ok (.iconst 3, 1) := by decide +kernel
theorem d_M_day_129 : decode b_M_day 129 = .ok (.if_icmp .ne 22, 3) := by decide +kernel
theorem d_M_day_132 : decode b_M_day 132 = .ok (.aload_n 0, 1) := by decide +kernel
theorem d_M_day_133 : decode b_M_day 133 = .ok (.getfield 7, 3) := by decide +kernel
theorem d_M_day_136 : decode b_M_day 136 = .ok (.iload_n 3, 1) := by decide +kernel
theorem d_M_day_137 : decode b_M_day 137 = .ok (.iconst (-1), 1) := by decide +kernel
theorem d_M_day_138 : decode b_M_day 138 = .ok (.iastore, 1) := by decide +kernel
theorem d_M_day_139 : decode b_M_day 139 = .ok (.aload_n 0, 1) := by decide +kernel
theorem d_M_day_140 : decode b_M_day 140 = .ok (.iload_n 2, 1) := by decide +kernel
theorem d_M_day_141 : decode b_M_day 141 = .ok (.iload_n 1, 1) := by decide +kernel
theorem d_M_day_142 : decode b_M_day 142 = .ok (.bipush 6, 2) := by decide +kernel
theorem d_M_day_144 : decode b_M_day 144 = .ok (.iconst 0, 1) := by decide +kernel
theorem d_M_day_145 : decode b_M_day 145 = .ok (.invokevirtual 117, 3) := by decide +kernel
theorem d_M_day_148 : decode b_M_day 148 = .ok (.goto 26, 3) := by decide +kernel
theorem d_M_day_151 : decode b_M_day 151 = .ok (.aload_n 0, 1) := by decide +kernel
theorem d_M_day_152 : decode b_M_day 152 = .ok (.getfield 22, 3) := by decide +kernel
theorem d_M_day_155 : decode b_M_day 155 = .ok (.iload_n 3, 1) := by decide +kernel
theorem d_M_day_156 : decode b_M_day 156 = .ok (.dup2, 1) := by decide +kernel
theorem d_M_day_157 : decode b_M_day 157 = .ok (.iaload, 1) := by decide +kernel
theorem d_M_day_158 : decode b_M_day 158 = .ok (.iconst 1, 1) := by decide +kernel
theorem d_M_day_159 : decode b_M_day 159 = .ok (.iadd, 1) := by decide +kernel
theorem d_M_day_160 : decode b_M_day 160 = .ok (.iastore, 1) := by decide +kernel
theorem d_M_day_161 : decode b_M_day 161 = .ok (.aload_n 0, 1) := by decide +kernel
theorem d_M_day_162 : decode b_M_day 162 = .ok (.iload_n 2, 1) := by decide +kernel
theorem d_M_day_163 : decode b_M_day 163 = .ok (.iload_n 1, 1) := by decide +kernel
theorem d_M_day_164 : decode b_M_day 164 = .ok (.iconst 5, 1) := by decide +kernel
theorem d_M_day_165 : decode b_M_day 165 = .ok (.aload_n 0, 1) := by decide +kernel
theorem d_M_day_166 : decode b_M_day 166 = .ok (.getfield 22, 3) := by decide +kernel
theorem d_M_day_169 : decode b_M_day 169 = .ok (.iload_n 3, 1) := by decide +kernel
theorem d_M_day_170 : decode b_M_day 170 = .ok (.iaload, 1) := by decide +kernel
theorem d_M_day_171 : decode b_M_day 171 = .ok (.invokevirtual 117, 3) := by decide +kernel
theorem d_M_day_174 : decode b_M_day 174 = .ok (.return_, 1) := by decide +kernel
theorem d_M_tick_0 : decode b_M_tick 0 = .ok (.iload_n 1, 1) := by decide +kernel
theorem d_M_tick_1 : decode b_M_tick 1 = .ok (.iconst 1, 1) := by decide +kernel
theorem d_M_tick_2 : decode b_M_tick 2 = .ok (.bipush 20, 2) := by decide +kernel
theorem d_M_tick_4 : decode b_M_tick 4 = .ok (.invokestatic 96, 3) := by decide +kernel
theorem d_M_tick_7 : decode b_M_tick 7 = .ok (.ifCond .ne 9, 3) := by decide +kernel
theorem d_M_tick_10 : decode b_M_tick 10 = .ok (.aload_n 0, 1) := by decide +kernel
theorem d_M_tick_11 : decode b_M_tick 11 = .ok (.iconst 1, 1) := by decide +kernel
theorem d_M_tick_12 : decode b_M_tick 12 = .ok (.invokevirtual 107, 3) := by decide +kernel
theorem d_M_tick_15 : decode b_M_tick 15 = .ok (.ireturn, 1) := by decide +kernel
theorem d_M_tick_16 : decode b_M_tick 16 = .ok (.aload_n 0, 1) := by decide +kernel
theorem d_M_tick_17 : decode b_M_tick 17 = .ok (.iconst 0, 1) := by decide +kernel
theorem d_M_tick_18 : decode b_M_tick 18 = .ok (.putfield 92, 3) := by decide +kernel
theorem d_M_tick_21 : decode b_M_tick 21 = .ok (.iconst 0, 1) := by decide +kernel
theorem d_M_tick_22 : decode b_M_tick 22 = .ok (.istore_n 2, 1) := by decide +kernel
theorem d_M_tick_23 : decode b_M_tick 23 = .ok (.iload_n 2, 1) := by decide +kernel
theorem d_M_tick_24 : decode b_M_tick 24 = .ok (.iload_n 1, 1) := by decide +kernel
theorem d_M_tick_25 : decode b_M_tick 25 = .ok (.if_icmp .ge 87, 3) := by decide +kernel
theorem d_M_tick_28 : decode b_M_tick 28 = .ok (.aload_n 0, 1) := by decide +kernel
theorem d_M_tick_29 : decode b_M_tick 29 = .ok (.dup, 1) := by decide +kernel
theorem d_M_tick_30 : decode b_M_tick 30 = .ok (.getfield 111, 3) := by decide +kernel
theorem d_M_tick_33 : decode b_M_tick 33 = .ok (.iconst 1, 1) := by decide +kernel
theorem d_M_tick_34 : decode b_M_tick 34 = .ok (.iadd, 1) := by decide +kernel
theorem d_M_tick_35 : decode b_M_tick 35 = .ok (.putfield 111, 3) := by decide +kernel
theorem d_M_tick_38 : decode b_M_tick 38 = .ok (.iconst 0, 1) := by decide +kernel
theorem d_M_tick_39 : decode b_M_tick 39 = .ok (.istore_n 3, 1) := by decide +kernel
theorem d_M_tick_40 : decode b_M_tick 40 = .ok (.iload_n 3, 1) := by decide +kernel
theorem d_M_tick_41 : decode b_M_tick 41 = .ok (.iconst 3, 1) := by decide +kernel
theorem d_M_tick_42 : decode b_M_tick 42 = .ok (.if_icmp .ge 64, 3) := by decide +kernel
theorem d_M_tick_45 : decode b_M_tick 45 = .ok (.iconst 0, 1) := by decide +kernel
theorem d_M_tick_46 : decode b_M_tick 46 = .ok (.istore 4, 2) := by decide +kernel
theorem d_M_tick_48 : decode b_M_tick 48 = .ok (.iload 4, 2) := by decide +kernel
theorem d_M_tick_50 : decode b_M_tick 50 = .ok (.bipush 12, 2) := by decide +kernel
theorem d_M_tick_52 : decode b_M_tick 52 = .ok (.if_icmp .ge 16, 3) := by decide +kernel
theorem d_M_tick_55 : decode b_M_tick 55 = .ok (.aload_n 0, 1) := by decide +kernel
theorem d_M_tick_56 : decode b_M_tick 56 = .ok (.iload_n 3, 1) := by decide +kernel
theorem d_M_tick_57 : decode b_M_tick 57 = .ok (.iload 4, 2) := by decide +kernel
theorem d_M_tick_59 : decode b_M_tick 59 = .ok (.invokevirtual 145, 3) := by decide +kernel
theorem d_M_tick_62 : decode b_M_tick 62 = .ok (.iinc 4 1, 3) := by decide +kernel
theorem d_M_tick_65 : decode b_M_tick 65 = .ok (.goto (-17), 3) := by decide +kernel
theorem d_M_tick_68 : decode b_M_tick 68 = .ok (.aload_n 0, 1) := by decide +kernel
theorem d_M_tick_69 : decode b_M_tick 69 = .ok (.getfield 71, 3) := by decide +kernel
theorem d_M_tick_72 : decode b_M_tick 72 = .ok (.iload_n 3, 1) := by decide +kernel
theorem d_M_tick_73 : decode b_M_tick 73 = .ok (.iaload, 1) := by decide +kernel
theorem d_M_tick_74 : decode b_M_tick 74 = .ok (.ifCond .le 26, 3) := by decide +kernel
theorem d_M_tick_77 : decode b_M_tick 77 = .ok (.aload_n 0, 1) := by decide +kernel
theorem d_M_tick_78 : decode b_M_tick 78 = .ok (.getfield 111, 3) := by decide +kernel
theorem d_M_tick_81 : decode b_M_tick 81 = .ok (.aload_n 0, 1) := by decide +kernel
theorem d_M_tick_82 : decode b_M_tick 82 = .ok (.getfield 77, 3) := by decide +kernel
theorem d_M_tick_85 : decode b_M_tick 85 = .ok (.bipush 40, 2) := by decide +kernel
theorem d_M_tick_87 : decode b_M_tick 87 = .ok (.iload_n 3, 1) := by decide +kernel
theorem d_M_tick_88 : decode b_M_tick 88 = .ok (.imul, 1) := by decide +kernel
theorem d_M_tick_89 : decode b_M_tick 89 = .ok (.iaload, 1) := by decide +kernel
theorem d_M_tick_90 : decode b_M_tick 90 = .ok (.isub, 1) := by decide +kernel
theorem d_M_tick_91 : decode b_M_tick 91 = .ok (.iconst 2, 1) := by decide +kernel
theorem d_M_tick_92 : decode b_M_tick 92 = .ok (.if_icmp .le 8, 3) := by decide +kernel
theorem d_M_tick_95 : decode b_M_tick 95 = .ok (.aload_n 0, 1) := by decide +kernel
theorem d_M_tick_96 : decode b_M_tick 96 = .ok (.iload_n 3, 1) := by decide +kernel
theorem d_M_tick_97 : decode b_M_tick 97 = .ok (.invokevirtual 135, 3) := by decide +kernel
theorem d_M_tick_100 : decode b_M_tick 100 = .ok (.iinc 3 1, 3) := by decide +kernel
theorem d_M_tick_103 : decode b_M_tick 103 = .ok (.goto (-63), 3) := by decide +kernel
theorem d_M_tick_106 : decode b_M_tick 106 = .ok (.iinc 2 1, 3) := by decide +kernel
theorem d_M_tick_109 : decode b_M_tick 109 = .ok (.goto (-86), 3) := by decide +kernel
theorem d_M_tick_112 : decode b_M_tick 112 = .ok (.aload_n 0, 1) := by decide +kernel
theorem d_M_tick_113 : decode b_M_tick 113 = .ok (.getfield 111, 3) := by decide +kernel
theorem d_M_tick_116 : decode b_M_tick 116 = .ok (.ireturn, 1) := by decide +kernel
theorem d_M_told_0 : decode b_M_told 0 = .ok (.iload_n 1, 1) := by decide +kernel
theorem d_M_told_1 : decode b_M_told 1 = .ok (.iload_n 2, 1) := by decide +kernel
theorem d_M_told_2 : decode b_M_told 2 = .ok (.invokestatic 103, 3) := by decide +kernel
theorem d_M_told_5 : decode b_M_told 5 = .ok (.ifCond .eq 12, 3) := by decide +kernel
theorem d_M_told_8 : decode b_M_told 8 = .ok (.iload_n 3, 1) := by decide +kernel
theorem d_M_told_9 : decode b_M_told 9 = .ok (.iconst 0, 1) := by decide +kernel
theorem d_M_told_10 : decode b_M_told 10 = .ok (.iconst 4, 1) := by decide +kernel
theorem d_M_told_11 : decode b_M_told 11 = .ok (.invokestatic 96, 3) := by decide +kernel
theorem d_M_told_14 : decode b_M_told 14 = .ok (.ifCond .ne 9, 3) := by decide +kernel
theorem d_M_told_17 : decode b_M_told 17 = .ok (.aload_n 0, 1) := by decide +kernel
theorem d_M_told_18 : decode b_M_told 18 = .ok (.iconst 1, 1) := by decide +kernel
theorem d_M_told_19 : decode b_M_told 19 = .ok (.invokevirtual 107, 3) := by decide +kernel
theorem d_M_told_22 : decode b_M_told 22 = .ok (.ireturn, 1) := by decide +kernel
theorem d_M_told_23 : decode b_M_told 23 = .ok (.bipush 12, 2) := by decide +kernel
theorem d_M_told_25 : decode b_M_told 25 = .ok (.iload_n 1, 1) := by decide +kernel
theorem d_M_told_26 : decode b_M_told 26 = .ok (.imul, 1) := by decide +kernel
theorem d_M_told_27 : decode b_M_told 27 = .ok (.iload_n 2, 1) := by decide +kernel
theorem d_M_told_28 : decode b_M_told 28 = .ok (.iadd, 1) := by decide +kernel
theorem d_M_told_29 : decode b_M_told 29 = .ok (.istore 4, 2) := by decide +kernel
theorem d_M_told_31 : decode b_M_told 31 = .ok (.aload_n 0, 1) := by decide +kernel
theorem d_M_told_32 : decode b_M_told 32 = .ok (.getfield 7, 3) := by decide +kernel
theorem d_M_told_35 : decode b_M_told 35 = .ok (.iload 4, 2) := by decide +kernel
theorem d_M_told_37 : decode b_M_told 37 = .ok (.iaload, 1) := by decide +kernel
theorem d_M_told_38 : decode b_M_told 38 = .ok (.iconst (-1), 1) := by decide +kernel
theorem d_M_told_39 : decode b_M_told 39 = .ok (.if_icmp .ne 9, 3) := by decide +kernel
theorem d_M_told_42 : decode b_M_told 42 = .ok (.aload_n 0, 1) := by decide +kernel
theorem d_M_told_43 : decode b_M_told 43 = .ok (.iconst 2, 1) := by decide +kernel
theorem d_M_told_44 : decode b_M_told 44 = .ok (.invokevirtual 107, 3) := by decide +kernel
theorem d_M_told_47 : decode b_M_told 47 = .ok (.ireturn, 1) := by decide +kernel
theorem d_M_told_48 : decode b_M_told 48 = .ok (.aload_n 0, 1) := by decide +kernel
theorem d_M_told_49 : decode b_M_told 49 = .ok (.iconst 0, 1) := by decide +kernel
theorem d_M_told_50 : decode b_M_told 50 = .ok (.putfield 92, 3) := by decide +kernel
theorem d_M_told_53 : decode b_M_told 53 = .ok (.iload_n 3, 1) := by decide +kernel
theorem d_M_told_54 : decode b_M_told 54 = .ok (.tableswitch 85 0 3 #[30, 38, 46, 62], 30) := by decide +kernel
theorem d_M_told_84 : decode b_M_told 84 = .ok (.aload_n 0, 1) := by decide +kernel
theorem d_M_told_85 : decode b_M_told 85 = .ok (.getfield 7, 3) := by decide +kernel
theorem d_M_told_88 : decode b_M_told 88 = .ok (.iload 4, 2) := by decide +kernel
theorem d_M_told_90 : decode b_M_told 90 = .ok (.iaload, 1) := by decide +kernel
theorem d_M_told_91 : decode b_M_told 91 = .ok (.ireturn, 1) := by decide +kernel
theorem d_M_told_92 : decode b_M_told 92 = .ok (.aload_n 0, 1) := by decide +kernel
theorem d_M_told_93 : decode b_M_told 93 = .ok (.getfield 13, 3) := by decide +kernel
theorem d_M_told_96 : decode b_M_told 96 = .ok (.iload 4, 2) := by decide +kernel
theorem d_M_told_98 : decode b_M_told 98 = .ok (.iaload, 1) := by decide +kernel
theorem d_M_told_99 : decode b_M_told 99 = .ok (.ireturn, 1) := by decide +kernel
theorem d_M_told_100 : decode b_M_told 100 = .ok (.aload_n 0, 1) := by decide +kernel
theorem d_M_told_101 : decode b_M_told 101 = .ok (.getfield 28, 3) := by decide +kernel
theorem d_M_told_104 : decode b_M_told 104 = .ok (.iload 4, 2) := by decide +kernel
theorem d_M_told_106 : decode b_M_told 106 = .ok (.baload, 1) := by decide +kernel
theorem d_M_told_107 : decode b_M_told 107 = .ok (.ifCond .eq 7, 3) := by decide +kernel
theorem d_M_told_110 : decode b_M_told 110 = .ok (.iconst 1, 1) := by decide +kernel
theorem d_M_told_111 : decode b_M_told 111 = .ok (.goto 4, 3) := by decide +kernel
theorem d_M_told_114 : decode b_M_told 114 = .ok (.iconst 0, 1) := by decide +kernel
theorem d_M_told_115 : decode b_M_told 115 = .ok (.ireturn, 1) := by decide +kernel
theorem d_M_told_116 : decode b_M_told 116 = .ok (.aload_n 0, 1) := by decide +kernel
theorem d_M_told_117 : decode b_M_told 117 = .ok (.getfield 7, 3) := by decide +kernel
theorem d_M_told_120 : decode b_M_told 120 = .ok (.iload 4, 2) := by decide +kernel
theorem d_M_told_122 : decode b_M_told 122 = .ok (.iaload, 1) := by decide +kernel
theorem d_M_told_123 : decode b_M_told 123 = .ok (.iconst 2, 1) := by decide +kernel
theorem d_M_told_124 : decode b_M_told 124 = .ok (.if_icmp .ne 13, 3) := by decide +kernel
theorem d_M_told_127 : decode b_M_told 127 = .ok (.aload_n 0, 1) := by decide +kernel
theorem d_M_told_128 : decode b_M_told 128 = .ok (.getfield 22, 3) := by decide +kernel
theorem d_M_told_131 : decode b_M_told 131 = .ok (.iload 4, 2) := by decide +kernel
theorem d_M_told_133 : decode b_M_told 133 = .ok (.iaload, 1) := by decide +kernel
theorem d_M_told_134 : decode b_M_told 134 = .ok (.goto 4, 3) := by decide +kernel
theorem d_M_told_137 : decode b_M_told 137 = .ok (.iconst 0, 1) := by decide +kernel
theorem d_M_told_138 : decode b_M_told 138 = .ok (.ireturn, 1) := by decide +kernel
theorem d_M_told_139 : decode b_M_told 139 = .ok (.aload_n 0, 1) := by decide +kernel
theorem d_M_told_140 : decode b_M_told 140 = .ok (.getfield 16, 3) := by decide +kernel
theorem d_M_told_143 : decode b_M_told 143 = .ok (.iload 4, 2) := by decide +kernel
theorem d_M_told_145 : decode b_M_told 145 = .ok (.iaload, 1) := by decide +kernel
theorem d_M_told_146 : decode b_M_told 146 = .ok (.ireturn, 1) := by decide +kernel
theorem d_M_score_0 : decode b_M_score 0 = .ok (.iload_n 1, 1) := by decide +kernel
theorem d_M_score_1 : decode b_M_score 1 = .ok (.iload_n 2, 1) := by decide +kernel
theorem d_M_score_2 : decode b_M_score 2 = .ok (.invokestatic 103, 3) := by decide +kernel
theorem d_M_score_5 : decode b_M_score 5 = .ok (.ifCond .ne 10, 3) := by decide +kernel
theorem d_M_score_8 : decode b_M_score 8 = .ok (.aload_n 0, 1) := by decide +kernel
theorem d_M_score_9 : decode b_M_score 9 = .ok (.iconst 1, 1) := by decide +kernel
theorem d_M_score_10 : decode b_M_score 10 = .ok (.invokevirtual 107, 3) := by decide +kernel
theorem d_M_score_13 : decode b_M_score 13 = .ok (.i2d, 1) := by decide +kernel
theorem d_M_score_14 : decode b_M_score 14 = .ok (.dreturn, 1) := by decide +kernel
theorem d_M_score_15 : decode b_M_score 15 = .ok (.bipush 12, 2) := by decide +kernel
theorem d_M_score_17 : decode b_M_score 17 = .ok (.iload_n 1, 1) := by decide +kernel
theorem d_M_score_18 : decode b_M_score 18 = .ok (.imul, 1) := by decide +kernel
theorem d_M_score_19 : decode b_M_score 19 = .ok (.iload_n 2, 1) := by decide +kernel
theorem d_M_score_20 : decode b_M_score 20 = .ok (.iadd, 1) := by decide +kernel
theorem d_M_score_21 : decode b_M_score 21 = .ok (.istore_n 3, 1) := by decide +kernel
theorem d_M_score_22 : decode b_M_score 22 = .ok (.aload_n 0, 1) := by decide +kernel
theorem d_M_score_23 : decode b_M_score 23 = .ok (.getfield 7, 3) := by decide +kernel
theorem d_M_score_26 : decode b_M_score 26 = .ok (.iload_n 3, 1) := by decide +kernel
theorem d_M_score_27 : decode b_M_score 27 = .ok (.iaload, 1) := by decide +kernel
theorem d_M_score_28 : decode b_M_score 28 = .ok (.iconst (-1), 1) := by decide +kernel
theorem d_M_score_29 : decode b_M_score 29 = .ok (.if_icmp .ne 10, 3) := by decide +kernel
theorem d_M_score_32 : decode b_M_score 32 = .ok (.aload_n 0, 1) := by decide +kernel
theorem d_M_score_33 : decode b_M_score 33 = .ok (.iconst 2, 1) := by decide +kernel
theorem d_M_score_34 : decode b_M_score 34 = .ok (.invokevirtual 107, 3) := by decide +kernel
theorem d_M_score_37 : decode b_M_score 37 = .ok (.i2d, 1) := by decide +kernel
theorem d_M_score_38 : decode b_M_score 38 = .ok (.dreturn, 1) := by decide +kernel
theorem d_M_score_39 : decode b_M_score 39 = .ok (.aload_n 0, 1) := by decide +kernel
theorem d_M_score_40 : decode b_M_score 40 = .ok (.iconst 0, 1) := by decide +kernel
theorem d_M_score_41 : decode b_M_score 41 = .ok (.putfield 92, 3) := by decide +kernel
theorem d_M_score_44 : decode b_M_score 44 = .ok (.aload_n 0, 1) := by decide +kernel
theorem d_M_score_45 : decode b_M_score 45 = .ok (.getfield 35, 3) := by decide +kernel
theorem d_M_score_48 : decode b_M_score 48 = .ok (.iload_n 3, 1) := by decide +kernel
theorem d_M_score_49 : decode b_M_score 49 = .ok (.daload, 1) := by decide +kernel
theorem d_M_score_50 : decode b_M_score 50 = .ok (.dreturn, 1) := by decide +kernel
theorem d_M_sent_0 : decode b_M_sent 0 = .ok (.iload_n 2, 1) := by decide +kernel
theorem d_M_sent_1 : decode b_M_sent 1 = .ok (.iconst 0, 1) := by decide +kernel
theorem d_M_sent_2 : decode b_M_sent 2 = .ok (.iconst 3, 1) := by decide +kernel
theorem d_M_sent_3 : decode b_M_sent 3 = .ok (.invokestatic 96, 3) := by decide +kernel
theorem d_M_sent_6 : decode b_M_sent 6 = .ok (.ifCond .ne 9, 3) := by decide +kernel
theorem d_M_sent_9 : decode b_M_sent 9 = .ok (.aload_n 0, 1) := by decide +kernel
theorem d_M_sent_10 : decode b_M_sent 10 = .ok (.iconst 1, 1) := by decide +kernel
theorem d_M_sent_11 : decode b_M_sent 11 = .ok (.invokevirtual 107, 3) := by decide +kernel
theorem d_M_sent_14 : decode b_M_sent 14 = .ok (.ireturn, 1) := by decide +kernel
theorem d_M_sent_15 : decode b_M_sent 15 = .ok (.iload_n 1, 1) := by decide +kernel
theorem d_M_sent_16 : decode b_M_sent 16 = .ok (.iconst 0, 1) := by decide +kernel
theorem d_M_sent_17 : decode b_M_sent 17 = .ok (.bipush 59, 2) := by decide +kernel
theorem d_M_sent_19 : decode b_M_sent 19 = .ok (.invokestatic 96, 3) := by decide +kernel
theorem d_M_sent_22 : decode b_M_sent 22 = .ok (.ifCond .eq 11, 3) := by decide +kernel
theorem d_M_sent_25 : decode b_M_sent 25 = .ok (.iload_n 1, 1) := by decide +kernel
theorem d_M_sent_26 : decode b_M_sent 26 = .ok (.aload_n 0, 1) := by decide +kernel
theorem d_M_sent_27 : decode b_M_sent 27 = .ok (.getfield 100, 3) := by decide +kernel
theorem d_M_sent_30 : decode b_M_sent 30 = .ok (.if_icmp .lt 9, 3) := by decide +kernel
theorem d_M_sent_33 : decode b_M_sent 33 = .ok (.aload_n 0, 1) := by decide +kernel
theorem d_M_sent_34 : decode b_M_sent 34 = .ok (.iconst 2, 1) := by decide +kernel
theorem d_M_sent_35 : decode b_M_sent 35 = .ok (.invokevirtual 107, 3) := by decide +kernel
theorem d_M_sent_38 : decode b_M_sent 38 = .ok (.ireturn, 1) := by decide +kernel
theorem d_M_sent_39 : decode b_M_sent 39 = .ok (.aload_n 0, 1) := by decide +kernel
theorem d_M_sent_40 : decode b_M_sent 40 = .ok (.iconst 0, 1) := by decide +kernel
theorem d_M_sent_41 : decode b_M_sent 41 = .ok (.putfield 92, 3) := by decide +kernel
theorem d_M_sent_44 : decode b_M_sent 44 = .ok (.iload_n 2, 1) := by decide +kernel
theorem d_M_sent_45 : decode b_M_sent 45 = .ok (.ifCond .ne 12, 3) := by decide +kernel
theorem d_M_sent_48 : decode b_M_sent 48 = .ok (.aload_n 0, 1) := by decide +kernel
theorem d_M_sent_49 : decode b_M_sent 49 = .ok (.getfield 80, 3) := by decide +kernel
theorem d_M_sent_52 : decode b_M_sent 52 = .ok (.iload_n 1, 1) := by decide +kernel
theorem d_M_sent_53 : decode b_M_sent 53 = .ok (.iaload, 1) := by decide +kernel
theorem d_M_sent_54 : decode b_M_sent 54 = .ok (.goto 37, 3) := by decide +kernel
theorem d_M_sent_57 : decode b_M_sent 57 = .ok (.iload_n 2, 1) := by decide +kernel
theorem d_M_sent_58 : decode b_M_sent 58 = .ok (.iconst 1, 1) := by decide +kernel
theorem d_M_sent_59 : decode b_M_sent 59 = .ok (.if_icmp .ne 12, 3) := by decide +kernel
theorem d_M_sent_62 : decode b_M_sent 62 = .ok (.aload_n 0, 1) := by decide +kernel
theorem d_M_sent_63 : decode b_M_sent 63 = .ok (.getfield 83, 3) := by decide +kernel
theorem d_M_sent_66 : decode b_M_sent 66 = .ok (.iload_n 1, 1) := by decide +kernel
theorem d_M_sent_67 : decode b_M_sent 67 = .ok (.iaload, 1) := by decide +kernel
theorem d_M_sent_68 : decode b_M_sent 68 = .ok (.goto 23, 3) := by decide +kernel
theorem d_M_sent_71 : decode b_M_sent 71 = .ok (.iload_n 2, 1) := by decide +kernel
theorem d_M_sent_72 : decode b_M_sent 72 = .ok (.iconst 2, 1) := by decide +kernel
theorem d_M_sent_73 : decode b_M_sent 73 = .ok (.if_icmp .ne 12, 3) := by decide +kernel
theorem d_M_sent_76 : decode b_M_sent 76 = .ok (.aload_n 0, 1) := by decide +kernel
theorem d_M_sent_77 : decode b_M_sent 77 = .ok (.getfield 86, 3) := by decide +kernel
theorem d_M_sent_80 : decode b_M_sent 80 = .ok (.iload_n 1, 1) := by decide +kernel
theorem d_M_sent_81 : decode b_M_sent 81 = .ok (.iaload, 1) := by decide +kernel
theorem d_M_sent_82 : decode b_M_sent 82 = .ok (.goto 9, 3) := by decide +kernel
theorem d_M_sent_85 : decode b_M_sent 85 = .ok (.aload_n 0, 1) := by decide +kernel
theorem d_M_sent_86 : decode b_M_sent 86 = .ok (.getfield 89, 3) := by decide +kernel
theorem d_M_sent_89 : decode b_M_sent 89 = .ok (.iload_n 1, 1) := by decide +kernel
theorem d_M_sent_90 : decode b_M_sent 90 = .ok (.iaload, 1) := by decide +kernel
theorem d_M_sent_91 : decode b_M_sent 91 = .ok (.ireturn, 1) := by decide +kernel
theorem d_M_count_0 : decode b_M_count 0 = .ok (.aload_n 0, 1) := by decide +kernel
theorem d_M_count_1 : decode b_M_count 1 = .ok (.iconst 0, 1) := by decide +kernel
theorem d_M_count_2 : decode b_M_count 2 = .ok (.putfield 92, 3) := by decide +kernel
theorem d_M_count_5 : decode b_M_count 5 = .ok (.iload_n 1, 1) := by decide +kernel
theorem d_M_count_6 : decode b_M_count 6 = .ok (.tableswitch 61 0 4 #[34, 39, 44, 50, 56], 34) := by decide +kernel
theorem d_M_count_40 : decode b_M_count 40 = .ok (.aload_n 0, 1) := by decide +kernel
theorem d_M_count_41 : decode b_M_count 41 = .ok (.getfield 111, 3) := by decide +kernel
theorem d_M_count_44 : decode b_M_count 44 = .ok (.ireturn, 1) := by decide +kernel
theorem d_M_count_45 : decode b_M_count 45 = .ok (.aload_n 0, 1) := by decide +kernel
theorem d_M_count_46 : decode b_M_count 46 = .ok (.getfield 125, 3) := by decide +kernel
theorem d_M_count_49 : decode b_M_count 49 = .ok (.ireturn, 1) := by decide +kernel
theorem d_M_count_50 : decode b_M_count 50 = .ok (.aload_n 0, 1) := by decide +kernel
theorem d_M_count_51 : decode b_M_count 51 = .ok (.iconst 0, 1) := by decide +kernel
theorem d_M_count_52 : decode b_M_count 52 = .ok (.invokevirtual 138, 3) := by decide +kernel
theorem d_M_count_55 : decode b_M_count 55 = .ok (.ireturn, 1) := by decide +kernel
theorem d_M_count_56 : decode b_M_count 56 = .ok (.aload_n 0, 1) := by decide +kernel
theorem d_M_count_57 : decode b_M_count 57 = .ok (.iconst 1, 1) := by decide +kernel
theorem d_M_count_58 : decode b_M_count 58 = .ok (.invokevirtual 138, 3) := by decide +kernel
theorem d_M_count_61 : decode b_M_count 61 = .ok (.ireturn, 1) := by decide +kernel
theorem d_M_count_62 : decode b_M_count 62 = .ok (.aload_n 0, 1) := by decide +kernel
theorem d_M_count_63 : decode b_M_count 63 = .ok (.getfield 100, 3) := by decide +kernel
theorem d_M_count_66 : decode b_M_count 66 = .ok (.ireturn, 1) := by decide +kernel
theorem d_M_count_67 : decode b_M_count 67 = .ok (.iload_n 1, 1) := by decide +kernel
theorem d_M_count_68 : decode b_M_count 68 = .ok (.bipush 10, 2) := by decide +kernel
theorem d_M_count_70 : decode b_M_count 70 = .ok (.irem, 1) := by decide +kernel
theorem d_M_count_71 : decode b_M_count 71 = .ok (.istore_n 2, 1) := by decide +kernel
theorem d_M_count_72 : decode b_M_count 72 = .ok (.iconst 0, 1) := by decide +kernel
theorem d_M_count_73 : decode b_M_count 73 = .ok (.istore_n 3, 1) := by decide +kernel
theorem d_M_count_74 : decode b_M_count 74 = .ok (.iload_n 1, 1) := by decide +kernel
theorem d_M_count_75 : decode b_M_count 75 = .ok (.bipush 10, 2) := by decide +kernel
theorem d_M_count_77 : decode b_M_count 77 = .ok (.bipush 49, 2) := by decide +kernel
theorem d_M_count_79 : decode b_M_count 79 = .ok (.invokestatic 96, 3) := by decide +kernel
theorem d_M_count_82 : decode b_M_count 82 = .ok (.ifCond .eq 8, 3) := by decide +kernel
theorem d_M_count_85 : decode b_M_count 85 = .ok (.iload_n 2, 1) := by decide +kernel
theorem d_M_count_86 : decode b_M_count 86 = .ok (.iconst 3, 1) := by decide +kernel
theorem d_M_count_87 : decode b_M_count 87 = .ok (.if_icmp .lt 9, 3) := by decide +kernel
theorem d_M_count_90 : decode b_M_count 90 = .ok (.aload_n 0, 1) := by decide +kernel
theorem d_M_count_91 : decode b_M_count 91 = .ok (.iconst 1, 1) := by decide +kernel
theorem d_M_count_92 : decode b_M_count 92 = .ok (.invokevirtual 107, 3) := by decide +kernel
theorem d_M_count_95 : decode b_M_count 95 = .ok (.ireturn, 1) := by decide +kernel
theorem d_M_count_96 : decode b_M_count 96 = .ok (.iload_n 1, 1) := by decide +kernel
theorem d_M_count_97 : decode b_M_count 97 = .ok (.bipush 40, 2) := by decide +kernel
theorem d_M_count_99 : decode b_M_count 99 = .ok (.if_icmp .lt 38, 3) := by decide +kernel
theorem d_M_count_102 : decode b_M_count 102 = .ok (.iconst 0, 1) := by decide +kernel
theorem d_M_count_103 : decode b_M_count 103 = .ok (.istore 4, 2) := by decide +kernel
theorem d_M_count_105 : decode b_M_count 105 = .ok (.iload 4, 2) := by decide +kernel
theorem d_M_count_107 : decode b_M_count 107 = .ok (.aload_n 0, 1) := by decide +kernel
theorem d_M_count_108 : decode b_M_count 108 = .ok (.getfield 71, 3) := by decide +kernel
theorem d_M_count_111 : decode b_M_count 111 = .ok (.iload_n 2, 1) := by decide +kernel
theorem d_M_count_112 : decode b_M_count 112 = .ok (.iaload, 1) := by decide +kernel
theorem d_M_count_113 : decode b_M_count 113 = .ok (.if_icmp .ge 24, 3) := by decide +kernel
theorem d_M_count_116 : decode b_M_count 116 = .ok (.iload_n 3, 1) := by decide +kernel
theorem d_M_count_117 : decode b_M_count 117 = .ok (.aload_n 0, 1) := by decide +kernel
theorem d_M_count_118 : decode b_M_count 118 = .ok (.getfield 74, 3) := by decide +kernel
theorem d_M_count_121 : decode b_M_count 121 = .ok (.bipush 40, 2) := by decide +kernel
theorem d_M_count_123 : decode b_M_count 123 = .ok (.iload_n 2, 1) := by decide +kernel
theorem d_M_count_124 : decode b_M_count 124 = .ok (.imul, 1) := by decide +kernel
theorem d_M_count_125 : decode b_M_count 125 = .ok (.iload 4, 2) := by decide +kernel
theorem d_M_count_127 : decode b_M_count 127 = .ok (.iadd, 1) := by decide +kernel
theorem d_M_count_128 : decode b_M_count 128 = .ok (.iaload, 1) := by decide +kernel
theorem d_M_count_129 : decode b_M_count 129 = .ok (.iadd, 1) := by decide +kernel
theorem d_M_count_130 : decode b_M_count 130 = .ok (.istore_n 3, 1) := by decide +kernel
theorem d_M_count_131 : decode b_M_count 131 = .ok (.iinc 4 1, 3) := by decide +kernel
theorem d_M_count_134 : decode b_M_count 134 = .ok (.goto (-29), 3) := by decide +kernel
theorem d_M_count_137 : decode b_M_count 137 = .ok (.iload_n 1, 1) := by decide +kernel
theorem d_M_count_138 : decode b_M_count 138 = .ok (.bipush 30, 2) := by decide +kernel
theorem d_M_count_140 : decode b_M_count 140 = .ok (.if_icmp .ge 63, 3) := by decide +kernel
theorem d_M_count_143 : decode b_M_count 143 = .ok (.iconst 0, 1) := by decide +kernel
theorem d_M_count_144 : decode b_M_count 144 = .ok (.istore 4, 2) := by decide +kernel
theorem d_M_count_146 : decode b_M_count 146 = .ok (.iload 4, 2) := by decide +kernel
theorem d_M_count_148 : decode b_M_count 148 = .ok (.bipush 12, 2) := by decide +kernel
theorem d_M_count_150 : decode b_M_count 150 = .ok (.if_icmp .ge 53, 3) := by decide +kernel
theorem d_M_count_153 : decode b_M_count 153 = .ok (.iload_n 1, 1) := by decide +kernel
theorem d_M_count_154 : decode b_M_count 154 = .ok (.bipush 20, 2) := by decide +kernel
theorem d_M_count_156 : decode b_M_count 156 = .ok (.if_icmp .ge 22, 3) := by decide +kernel
theorem d_M_count_159 : decode b_M_count 159 = .ok (.aload_n 0, 1) := by decide +kernel
theorem d_M_count_160 : decode b_M_count 160 = .ok (.getfield 7, 3) := by decide +kernel
theorem d_M_count_163 : decode b_M_count 163 = .ok (.bipush 12, 2) := by decide +kernel
theorem d_M_count_165 : decode b_M_count 165 = .ok (.iload_n 2, 1) := by decide +kernel
theorem d_M_count_166 : decode b_M_count 166 = .ok (.imul, 1) := by decide +kernel
theorem d_M_count_167 : decode b_M_count 167 = .ok (.iload 4, 2) := by decide +kernel
theorem d_M_count_169 : decode b_M_count 169 = .ok (.iadd, 1) := by decide +kernel
theorem d_M_count_170 : decode b_M_count 170 = .ok (.iaload, 1) := by decide +kernel
theorem d_M_count_171 : decode b_M_count 171 = .ok (.iconst (-1), 1) := by decide +kernel
theorem d_M_count_172 : decode b_M_count 172 = .ok (.if_icmp .eq 25, 3) := by decide +kernel
theorem d_M_count_175 : decode b_M_count 175 = .ok (.goto 19, 3) := by decide +kernel
theorem d_M_count_178 : decode b_M_count 178 = .ok (.aload_n 0, 1) := by decide +kernel
theorem d_M_count_179 : decode b_M_count 179 = .ok (.getfield 7, 3) := by decide +kernel
theorem d_M_count_182 : decode b_M_count 182 = .ok (.bipush 12, 2) := by decide +kernel
theorem d_M_count_184 : decode b_M_count 184 = .ok (.iload_n 2, 1) := by decide +kernel
theorem d_M_count_185 : decode b_M_count 185 = .ok (.imul, 1) := by decide +kernel
theorem d_M_count_186 : decode b_M_count 186 = .ok (.iload 4, 2) := by decide +kernel
theorem d_M_count_188 : decode b_M_count 188 = .ok (.iadd, 1) := by decide +kernel
theorem d_M_count_189 : decode b_M_count 189 = .ok (.iaload, 1) := by decide +kernel
theorem d_M_count_190 : decode b_M_count 190 = .ok (.iconst 1, 1) := by decide +kernel
theorem d_M_count_191 : decode b_M_count 191 = .ok (.if_icmp .ne 6, 3) := by decide +kernel
theorem d_M_count_194 : decode b_M_count 194 = .ok (.iinc 3 1, 3) := by decide +kernel
theorem d_M_count_197 : decode b_M_count 197 = .ok (.iinc 4 1, 3) := by decide +kernel
theorem d_M_count_200 : decode b_M_count 200 = .ok (.goto (-54), 3) := by decide +kernel
theorem d_M_count_203 : decode b_M_count 203 = .ok (.iload_n 1, 1) := by decide +kernel
theorem d_M_count_204 : decode b_M_count 204 = .ok (.bipush 30, 2) := by decide +kernel
theorem d_M_count_206 : decode b_M_count 206 = .ok (.bipush 39, 2) := by decide +kernel
theorem d_M_count_208 : decode b_M_count 208 = .ok (.invokestatic 96, 3) := by decide +kernel
theorem d_M_count_211 : decode b_M_count 211 = .ok (.ifCond .eq 12, 3) := by decide +kernel
theorem d_M_count_214 : decode b_M_count 214 = .ok (.aload_n 0, 1) := by decide +kernel
theorem d_M_count_215 : decode b_M_count 215 = .ok (.getfield 71, 3) := by decide +kernel
theorem d_M_count_218 : decode b_M_count 218 = .ok (.iload_n 2, 1) := by decide +kernel
theorem d_M_count_219 : decode b_M_count 219 = .ok (.iaload, 1) := by decide +kernel
theorem d_M_count_220 : decode b_M_count 220 = .ok (.goto 4, 3) := by decide +kernel
theorem d_M_count_223 : decode b_M_count 223 = .ok (.iload_n 3, 1) := by decide +kernel
theorem d_M_count_224 : decode b_M_count 224 = .ok (.ireturn, 1) := by decide +kernel
theorem d_W_ask_0 : decode b_W_ask 0 = .ok (.aload 4, 2) := by decide +kernel
theorem d_W_ask_2 : decode b_W_ask 2 = .ok (.iconst 0, 1) := by decide +kernel
theorem d_W_ask_3 : decode b_W_ask 3 = .ok (.aload_n 0, 1) := by decide +kernel
theorem d_W_ask_4 : decode b_W_ask 4 = .ok (.iload_n 1, 1) := by decide +kernel
theorem d_W_ask_5 : decode b_W_ask 5 = .ok (.iload_n 2, 1) := by decide +kernel
theorem d_W_ask_6 : decode b_W_ask 6 = .ok (.iload_n 3, 1) := by decide +kernel
theorem d_W_ask_7 : decode b_W_ask 7 = .ok (.invokevirtual 7, 3) := by decide +kernel
theorem d_W_ask_10 : decode b_W_ask 10 = .ok (.i2l, 1) := by decide +kernel
theorem d_W_ask_11 : decode b_W_ask 11 = .ok (.lastore, 1) := by decide +kernel
theorem d_W_ask_12 : decode b_W_ask 12 = .ok (.goto 15, 3) := by decide +kernel
theorem d_W_ask_15 : decode b_W_ask 15 = .ok (.astore 5, 2) := by decide +kernel
theorem d_W_ask_17 : decode b_W_ask 17 = .ok (.iconst 1, 1) := by decide +kernel
theorem d_W_ask_18 : decode b_W_ask 18 = .ok (.ireturn, 1) := by decide +kernel
theorem d_W_ask_19 : decode b_W_ask 19 = .ok (.astore 5, 2) := by decide +kernel
theorem d_W_ask_21 : decode b_W_ask 21 = .ok (.iconst 2, 1) := by decide +kernel
theorem d_W_ask_22 : decode b_W_ask 22 = .ok (.ireturn, 1) := by decide +kernel
theorem d_W_ask_23 : decode b_W_ask 23 = .ok (.astore 5, 2) := by decide +kernel
theorem d_W_ask_25 : decode b_W_ask 25 = .ok (.iconst 3, 1) := by decide +kernel
theorem d_W_ask_26 : decode b_W_ask 26 = .ok (.ireturn, 1) := by decide +kernel
theorem d_W_ask_27 : decode b_W_ask 27 = .ok (.iconst 0, 1) := by decide +kernel
theorem d_W_ask_28 : decode b_W_ask 28 = .ok (.ireturn, 1) := by decide +kernel
theorem d_W_confirm_0 : decode b_W_confirm 0 = .ok (.aload_n 2, 1) := by decide +kernel
theorem d_W_confirm_1 : decode b_W_confirm 1 = .ok (.iconst 0, 1) := by decide +kernel
theorem d_W_confirm_2 : decode b_W_confirm 2 = .ok (.aload_n 0, 1) := by decide +kernel
theorem d_W_confirm_3 : decode b_W_confirm 3 = .ok (.iload_n 1, 1) := by decide +kernel
theorem d_W_confirm_4 : decode b_W_confirm 4 = .ok (.invokevirtual 19, 3) := by decide +kernel
theorem d_W_confirm_7 : decode b_W_confirm 7 = .ok (.i2l, 1) := by decide +kernel
theorem d_W_confirm_8 : decode b_W_confirm 8 = .ok (.lastore, 1) := by decide +kernel
theorem d_W_confirm_9 : decode b_W_confirm 9 = .ok (.goto 6, 3) := by decide +kernel
theorem d_W_confirm_12 : decode b_W_confirm 12 = .ok (.astore_n 3, 1) := by decide +kernel
theorem d_W_confirm_13 : decode b_W_confirm 13 = .ok (.iconst 1, 1) := by decide +kernel
theorem d_W_confirm_14 : decode b_W_confirm 14 = .ok (.ireturn, 1) := by decide +kernel
theorem d_W_confirm_15 : decode b_W_confirm 15 = .ok (.iconst 0, 1) := by decide +kernel
theorem d_W_confirm_16 : decode b_W_confirm 16 = .ok (.ireturn, 1) := by decide +kernel
theorem d_W_leave_0 : decode b_W_leave 0 = .ok (.aload_n 3, 1) := by decide +kernel
theorem d_W_leave_1 : decode b_W_leave 1 = .ok (.iconst 0, 1) := by decide +kernel
theorem d_W_leave_2 : decode b_W_leave 2 = .ok (.aload_n 0, 1) := by decide +kernel
theorem d_W_leave_3 : decode b_W_leave 3 = .ok (.iload_n 1, 1) := by decide +kernel
theorem d_W_leave_4 : decode b_W_leave 4 = .ok (.iload_n 2, 1) := by decide +kernel
theorem d_W_leave_5 : decode b_W_leave 5 = .ok (.invokevirtual 25, 3) := by decide +kernel
theorem d_W_leave_8 : decode b_W_leave 8 = .ok (.i2l, 1) := by decide +kernel
theorem d_W_leave_9 : decode b_W_leave 9 = .ok (.lastore, 1) := by decide +kernel
theorem d_W_leave_10 : decode b_W_leave 10 = .ok (.goto 11, 3) := by decide +kernel
theorem d_W_leave_13 : decode b_W_leave 13 = .ok (.astore 4, 2) := by decide +kernel
theorem d_W_leave_15 : decode b_W_leave 15 = .ok (.iconst 1, 1) := by decide +kernel
theorem d_W_leave_16 : decode b_W_leave 16 = .ok (.ireturn, 1) := by decide +kernel
theorem d_W_leave_17 : decode b_W_leave 17 = .ok (.astore 4, 2) := by decide +kernel
theorem d_W_leave_19 : decode b_W_leave 19 = .ok (.iconst 2, 1) := by decide +kernel
theorem d_W_leave_20 : decode b_W_leave 20 = .ok (.ireturn, 1) := by decide +kernel
theorem d_W_leave_21 : decode b_W_leave 21 = .ok (.iconst 0, 1) := by decide +kernel
theorem d_W_leave_22 : decode b_W_leave 22 = .ok (.ireturn, 1) := by decide +kernel
theorem d_W_way_0 : decode b_W_way 0 = .ok (.aload 4, 2) := by decide +kernel
theorem d_W_way_2 : decode b_W_way 2 = .ok (.iconst 0, 1) := by decide +kernel
theorem d_W_way_3 : decode b_W_way 3 = .ok (.aload_n 0, 1) := by decide +kernel
theorem d_W_way_4 : decode b_W_way 4 = .ok (.iload_n 1, 1) := by decide +kernel
theorem d_W_way_5 : decode b_W_way 5 = .ok (.iload_n 2, 1) := by decide +kernel
theorem d_W_way_6 : decode b_W_way 6 = .ok (.iload_n 3, 1) := by decide +kernel
theorem d_W_way_7 : decode b_W_way 7 = .ok (.invokevirtual 29, 3) := by decide +kernel
theorem d_W_way_10 : decode b_W_way 10 = .ok (.i2l, 1) := by decide +kernel
theorem d_W_way_11 : decode b_W_way 11 = .ok (.lastore, 1) := by decide +kernel
theorem d_W_way_12 : decode b_W_way 12 = .ok (.goto 11, 3) := by decide +kernel
theorem d_W_way_15 : decode b_W_way 15 = .ok (.astore 5, 2) := by decide +kernel
theorem d_W_way_17 : decode b_W_way 17 = .ok (.iconst 1, 1) := by decide +kernel
theorem d_W_way_18 : decode b_W_way 18 = .ok (.ireturn, 1) := by decide +kernel
theorem d_W_way_19 : decode b_W_way 19 = .ok (.astore 5, 2) := by decide +kernel
theorem d_W_way_21 : decode b_W_way 21 = .ok (.iconst 2, 1) := by decide +kernel
theorem d_W_way_22 : decode b_W_way 22 = .ok (.ireturn, 1) := by decide +kernel
theorem d_W_way_23 : decode b_W_way 23 = .ok (.iconst 0, 1) := by decide +kernel
theorem d_W_way_24 : decode b_W_way 24 = .ok (.ireturn, 1) := by decide +kernel
theorem d_W_moderator_0 : decode b_W_moderator 0 = .ok (.aload 4, 2) := by decide +kernel
theorem d_W_moderator_2 : decode b_W_moderator 2 = .ok (.iconst 0, 1) := by decide +kernel
theorem d_W_moderator_3 : decode b_W_moderator 3 = .ok (.aload_n 0, 1) := by decide +kernel
theorem d_W_moderator_4 : decode b_W_moderator 4 = .ok (.iload_n 1, 1) := by decide +kernel
theorem d_W_moderator_5 : decode b_W_moderator 5 = .ok (.iload_n 2, 1) := by decide +kernel
theorem d_W_moderator_6 : decode b_W_moderator 6 = .ok (.iload_n 3, 1) := by decide +kernel
theorem d_W_moderator_7 : decode b_W_moderator 7 = .ok (.invokevirtual 32, 3) := by decide +kernel
theorem d_W_moderator_10 : decode b_W_moderator 10 = .ok (.ifCond .eq 7, 3) := by decide +kernel
theorem d_W_moderator_13 : decode b_W_moderator 13 = .ok (.lconst 1, 1) := by decide +kernel
theorem d_W_moderator_14 : decode b_W_moderator 14 = .ok (.goto 4, 3) := by decide +kernel
theorem d_W_moderator_17 : decode b_W_moderator 17 = .ok (.lconst 0, 1) := by decide +kernel
theorem d_W_moderator_18 : decode b_W_moderator 18 = .ok (.lastore, 1) := by decide +kernel
theorem d_W_moderator_19 : decode b_W_moderator 19 = .ok (.goto 15, 3) := by decide +kernel
theorem d_W_moderator_22 : decode b_W_moderator 22 = .ok (.astore 5, 2) := by decide +kernel
theorem d_W_moderator_24 : decode b_W_moderator 24 = .ok (.iconst 1, 1) := by decide +kernel
theorem d_W_moderator_25 : decode b_W_moderator 25 = .ok (.ireturn, 1) := by decide +kernel
theorem d_W_moderator_26 : decode b_W_moderator 26 = .ok (.astore 5, 2) := by decide +kernel
theorem d_W_moderator_28 : decode b_W_moderator 28 = .ok (.iconst 2, 1) := by decide +kernel
theorem d_W_moderator_29 : decode b_W_moderator 29 = .ok (.ireturn, 1) := by decide +kernel
theorem d_W_moderator_30 : decode b_W_moderator 30 = .ok (.astore 5, 2) := by decide +kernel
theorem d_W_moderator_32 : decode b_W_moderator 32 = .ok (.iconst 3, 1) := by decide +kernel
theorem d_W_moderator_33 : decode b_W_moderator 33 = .ok (.ireturn, 1) := by decide +kernel
theorem d_W_moderator_34 : decode b_W_moderator 34 = .ok (.iconst 0, 1) := by decide +kernel
theorem d_W_moderator_35 : decode b_W_moderator 35 = .ok (.ireturn, 1) := by decide +kernel
theorem d_W_ban_0 : decode b_W_ban 0 = .ok (.aload 4, 2) := by decide +kernel
theorem d_W_ban_2 : decode b_W_ban 2 = .ok (.iconst 0, 1) := by decide +kernel
theorem d_W_ban_3 : decode b_W_ban 3 = .ok (.aload_n 0, 1) := by decide +kernel
theorem d_W_ban_4 : decode b_W_ban 4 = .ok (.iload_n 1, 1) := by decide +kernel
theorem d_W_ban_5 : decode b_W_ban 5 = .ok (.iload_n 2, 1) := by decide +kernel
theorem d_W_ban_6 : decode b_W_ban 6 = .ok (.iload_n 3, 1) := by decide +kernel
theorem d_W_ban_7 : decode b_W_ban 7 = .ok (.invokevirtual 36, 3) := by decide +kernel
theorem d_W_ban_10 : decode b_W_ban 10 = .ok (.ifCond .eq 7, 3) := by decide +kernel
theorem d_W_ban_13 : decode b_W_ban 13 = .ok (.lconst 1, 1) := by decide +kernel
theorem d_W_ban_14 : decode b_W_ban 14 = .ok (.goto 4, 3) := by decide +kernel
theorem d_W_ban_17 : decode b_W_ban 17 = .ok (.lconst 0, 1) := by decide +kernel
theorem d_W_ban_18 : decode b_W_ban 18 = .ok (.lastore, 1) := by decide +kernel
theorem d_W_ban_19 : decode b_W_ban 19 = .ok (.goto 7, 3) := by decide +kernel
theorem d_W_ban_22 : decode b_W_ban 22 = .ok (.astore 5, 2) := by decide +kernel
theorem d_W_ban_24 : decode b_W_ban 24 = .ok (.iconst 1, 1) := by decide +kernel
theorem d_W_ban_25 : decode b_W_ban 25 = .ok (.ireturn, 1) := by decide +kernel
theorem d_W_ban_26 : decode b_W_ban 26 = .ok (.iconst 0, 1) := by decide +kernel
theorem d_W_ban_27 : decode b_W_ban 27 = .ok (.ireturn, 1) := by decide +kernel
theorem d_W_setting_0 : decode b_W_setting 0 = .ok (.aload 5, 2) := by decide +kernel
theorem d_W_setting_2 : decode b_W_setting 2 = .ok (.iconst 0, 1) := by decide +kernel
theorem d_W_setting_3 : decode b_W_setting 3 = .ok (.aload_n 0, 1) := by decide +kernel
theorem d_W_setting_4 : decode b_W_setting 4 = .ok (.iload_n 1, 1) := by decide +kernel
theorem d_W_setting_5 : decode b_W_setting 5 = .ok (.iload_n 2, 1) := by decide +kernel
theorem d_W_setting_6 : decode b_W_setting 6 = .ok (.dload_n 3, 1) := by decide +kernel
theorem d_W_setting_7 : decode b_W_setting 7 = .ok (.invokevirtual 39, 3) := by decide +kernel
theorem d_W_setting_10 : decode b_W_setting 10 = .ok (.dastore, 1) := by decide +kernel
theorem d_W_setting_11 : decode b_W_setting 11 = .ok (.goto 7, 3) := by decide +kernel
theorem d_W_setting_14 : decode b_W_setting 14 = .ok (.astore 6, 2) := by decide +kernel
theorem d_W_setting_16 : decode b_W_setting 16 = .ok (.iconst 1, 1) := by decide +kernel
theorem d_W_setting_17 : decode b_W_setting 17 = .ok (.ireturn, 1) := by decide +kernel
theorem d_W_setting_18 : decode b_W_setting 18 = .ok (.iconst 0, 1) := by decide +kernel
theorem d_W_setting_19 : decode b_W_setting 19 = .ok (.ireturn, 1) := by decide +kernel
theorem d_W_post_0 : decode b_W_post 0 = .ok (.aload 5, 2) := by decide +kernel
theorem d_W_post_2 : decode b_W_post 2 = .ok (.iconst 0, 1) := by decide +kernel
theorem d_W_post_3 : decode b_W_post 3 = .ok (.aload_n 0, 1) := by decide +kernel
theorem d_W_post_4 : decode b_W_post 4 = .ok (.iload_n 1, 1) := by decide +kernel
theorem d_W_post_5 : decode b_W_post 5 = .ok (.iload_n 2, 1) := by decide +kernel
theorem d_W_post_6 : decode b_W_post 6 = .ok (.iload_n 3, 1) := by decide +kernel
theorem d_W_post_7 : decode b_W_post 7 = .ok (.iload 4, 2) := by decide +kernel
theorem d_W_post_9 : decode b_W_post 9 = .ok (.invokevirtual 43, 3) := by decide +kernel
theorem d_W_post_12 : decode b_W_post 12 = .ok (.i2l, 1) := by decide +kernel
theorem d_W_post_13 : decode b_W_post 13 = .ok (.lastore, 1) := by decide +kernel
theorem d_W_post_14 : decode b_W_post 14 = .ok (.goto 15, 3) := by decide +kernel
theorem d_W_post_17 : decode b_W_post 17 = .ok (.astore 6, 2) := by decide +kernel
theorem d_W_post_19 : decode b_W_post 19 = .ok (.iconst 1, 1) := by decide +kernel
theorem d_W_post_20 : decode b_W_post 20 = .ok (.ireturn, 1) := by decide +kernel
theorem d_W_post_21 : decode b_W_post 21 = .ok (.astore 6, 2) := by decide +kernel
theorem d_W_post_23 : decode b_W_post 23 = .ok (.iconst 2, 1) := by decide +kernel
theorem d_W_post_24 : decode b_W_post 24 = .ok (.ireturn, 1) := by decide +kernel
theorem d_W_post_25 : decode b_W_post 25 = .ok (.astore 6, 2) := by decide +kernel
theorem d_W_post_27 : decode b_W_post 27 = .ok (.iconst 3, 1) := by decide +kernel
theorem d_W_post_28 : decode b_W_post 28 = .ok (.ireturn, 1) := by decide +kernel
theorem d_W_post_29 : decode b_W_post 29 = .ok (.iconst 0, 1) := by decide +kernel
theorem d_W_post_30 : decode b_W_post 30 = .ok (.ireturn, 1) := by decide +kernel
theorem d_W_judge_0 : decode b_W_judge 0 = .ok (.aload 4, 2) := by decide +kernel
theorem d_W_judge_2 : decode b_W_judge 2 = .ok (.iconst 0, 1) := by decide +kernel
theorem d_W_judge_3 : decode b_W_judge 3 = .ok (.aload_n 0, 1) := by decide +kernel
theorem d_W_judge_4 : decode b_W_judge 4 = .ok (.iload_n 1, 1) := by decide +kernel
theorem d_W_judge_5 : decode b_W_judge 5 = .ok (.iload_n 2, 1) := by decide +kernel
theorem d_W_judge_6 : decode b_W_judge 6 = .ok (.iload_n 3, 1) := by decide +kernel
theorem d_W_judge_7 : decode b_W_judge 7 = .ok (.invokevirtual 47, 3) := by decide +kernel
theorem d_W_judge_10 : decode b_W_judge 10 = .ok (.i2l, 1) := by decide +kernel
theorem d_W_judge_11 : decode b_W_judge 11 = .ok (.lastore, 1) := by decide +kernel
theorem d_W_judge_12 : decode b_W_judge 12 = .ok (.goto 15, 3) := by decide +kernel
theorem d_W_judge_15 : decode b_W_judge 15 = .ok (.astore 5, 2) := by decide +kernel
theorem d_W_judge_17 : decode b_W_judge 17 = .ok (.iconst 1, 1) := by decide +kernel
theorem d_W_judge_18 : decode b_W_judge 18 = .ok (.ireturn, 1) := by decide +kernel
theorem d_W_judge_19 : decode b_W_judge 19 = .ok (.astore 5, 2) := by decide +kernel
theorem d_W_judge_21 : decode b_W_judge 21 = .ok (.iconst 2, 1) := by decide +kernel
theorem d_W_judge_22 : decode b_W_judge 22 = .ok (.ireturn, 1) := by decide +kernel
theorem d_W_judge_23 : decode b_W_judge 23 = .ok (.astore 5, 2) := by decide +kernel
theorem d_W_judge_25 : decode b_W_judge 25 = .ok (.iconst 3, 1) := by decide +kernel
theorem d_W_judge_26 : decode b_W_judge 26 = .ok (.ireturn, 1) := by decide +kernel
theorem d_W_judge_27 : decode b_W_judge 27 = .ok (.iconst 0, 1) := by decide +kernel
theorem d_W_judge_28 : decode b_W_judge 28 = .ok (.ireturn, 1) := by decide +kernel
theorem d_W_bounce_0 : decode b_W_bounce 0 = .ok (.aload 4, 2) := by decide +kernel
theorem d_W_bounce_2 : decode b_W_bounce 2 = .ok (.iconst 0, 1) := by decide +kernel
theorem d_W_bounce_3 : decode b_W_bounce 3 = .ok (.aload_n 0, 1) := by decide +kernel
theorem d_W_bounce_4 : decode b_W_bounce 4 = .ok (.iload_n 1, 1) := by decide +kernel
theorem d_W_bounce_5 : decode b_W_bounce 5 = .ok (.iload_n 2, 1) := by decide +kernel
theorem d_W_bounce_6 : decode b_W_bounce 6 = .ok (.iload_n 3, 1) := by decide +kernel
theorem d_W_bounce_7 : decode b_W_bounce 7 = .ok (.invokevirtual 50, 3) := by decide +kernel
theorem d_W_bounce_10 : decode b_W_bounce 10 = .ok (.dastore, 1) := by decide +kernel
theorem d_W_bounce_11 : decode b_W_bounce 11 = .ok (.goto 15, 3) := by decide +kernel
theorem d_W_bounce_14 : decode b_W_bounce 14 = .ok (.astore 5, 2) := by decide +kernel
theorem d_W_bounce_16 : decode b_W_bounce 16 = .ok (.iconst 1, 1) := by decide +kernel
theorem d_W_bounce_17 : decode b_W_bounce 17 = .ok (.ireturn, 1) := by decide +kernel
theorem d_W_bounce_18 : decode b_W_bounce 18 = .ok (.astore 5, 2) := by decide +kernel
theorem d_W_bounce_20 : decode b_W_bounce 20 = .ok (.iconst 2, 1) := by decide +kernel
theorem d_W_bounce_21 : decode b_W_bounce 21 = .ok (.ireturn, 1) := by decide +kernel
theorem d_W_bounce_22 : decode b_W_bounce 22 = .ok (.astore 5, 2) := by decide +kernel
theorem d_W_bounce_24 : decode b_W_bounce 24 = .ok (.iconst 3, 1) := by decide +kernel
theorem d_W_bounce_25 : decode b_W_bounce 25 = .ok (.ireturn, 1) := by decide +kernel
theorem d_W_bounce_26 : decode b_W_bounce 26 = .ok (.iconst 0, 1) := by decide +kernel
theorem d_W_bounce_27 : decode b_W_bounce 27 = .ok (.ireturn, 1) := by decide +kernel
theorem d_W_renew_0 : decode b_W_renew 0 = .ok (.aload_n 3, 1) := by decide +kernel
theorem d_W_renew_1 : decode b_W_renew 1 = .ok (.iconst 0, 1) := by decide +kernel
theorem d_W_renew_2 : decode b_W_renew 2 = .ok (.aload_n 0, 1) := by decide +kernel
theorem d_W_renew_3 : decode b_W_renew 3 = .ok (.iload_n 1, 1) := by decide +kernel
theorem d_W_renew_4 : decode b_W_renew 4 = .ok (.iload_n 2, 1) := by decide +kernel
theorem d_W_renew_5 : decode b_W_renew 5 = .ok (.invokevirtual 54, 3) := by decide +kernel
theorem d_W_renew_8 : decode b_W_renew 8 = .ok (.i2l, 1) := by decide +kernel
theorem d_W_renew_9 : decode b_W_renew 9 = .ok (.lastore, 1) := by decide +kernel
theorem d_W_renew_10 : decode b_W_renew 10 = .ok (.goto 15, 3) := by decide +kernel
theorem d_W_renew_13 : decode b_W_renew 13 = .ok (.astore 4, 2) := by decide +kernel
theorem d_W_renew_15 : decode b_W_renew 15 = .ok (.iconst 1, 1) := by decide +kernel
theorem d_W_renew_16 : decode b_W_renew 16 = .ok (.ireturn, 1) := by decide +kernel
theorem d_W_renew_17 : decode b_W_renew 17 = .ok (.astore 4, 2) := by decide +kernel
theorem d_W_renew_19 : decode b_W_renew 19 = .ok (.iconst 2, 1) := by decide +kernel
theorem d_W_renew_20 : decode b_W_renew 20 = .ok (.ireturn, 1) := by decide +kernel
theorem d_W_renew_21 : decode b_W_renew 21 = .ok (.astore 4, 2) := by decide +kernel
theorem d_W_renew_23 : decode b_W_renew 23 = .ok (.iconst 3, 1) := by decide +kernel
theorem d_W_renew_24 : decode b_W_renew 24 = .ok (.ireturn, 1) := by decide +kernel
theorem d_W_renew_25 : decode b_W_renew 25 = .ok (.iconst 0, 1) := by decide +kernel
theorem d_W_renew_26 : decode b_W_renew 26 = .ok (.ireturn, 1) := by decide +kernel
theorem d_W_tick_0 : decode b_W_tick 0 = .ok (.aload_n 2, 1) := by decide +kernel
theorem d_W_tick_1 : decode b_W_tick 1 = .ok (.iconst 0, 1) := by decide +kernel
theorem d_W_tick_2 : decode b_W_tick 2 = .ok (.aload_n 0, 1) := by decide +kernel
theorem d_W_tick_3 : decode b_W_tick 3 = .ok (.iload_n 1, 1) := by decide +kernel
theorem d_W_tick_4 : decode b_W_tick 4 = .ok (.invokevirtual 57, 3) := by decide +kernel
theorem d_W_tick_7 : decode b_W_tick 7 = .ok (.i2l, 1) := by decide +kernel
theorem d_W_tick_8 : decode b_W_tick 8 = .ok (.lastore, 1) := by decide +kernel
theorem d_W_tick_9 : decode b_W_tick 9 = .ok (.goto 6, 3) := by decide +kernel
theorem d_W_tick_12 : decode b_W_tick 12 = .ok (.astore_n 3, 1) := by decide +kernel
theorem d_W_tick_13 : decode b_W_tick 13 = .ok (.iconst 1, 1) := by decide +kernel
theorem d_W_tick_14 : decode b_W_tick 14 = .ok (.ireturn, 1) := by decide +kernel
theorem d_W_tick_15 : decode b_W_tick 15 = .ok (.iconst 0, 1) := by decide +kernel
theorem d_W_tick_16 : decode b_W_tick 16 = .ok (.ireturn, 1) := by decide +kernel
theorem d_W_told_0 : decode b_W_told 0 = .ok (.aload 4, 2) := by decide +kernel
theorem d_W_told_2 : decode b_W_told 2 = .ok (.iconst 0, 1) := by decide +kernel
theorem d_W_told_3 : decode b_W_told 3 = .ok (.aload_n 0, 1) := by decide +kernel
theorem d_W_told_4 : decode b_W_told 4 = .ok (.iload_n 1, 1) := by decide +kernel
theorem d_W_told_5 : decode b_W_told 5 = .ok (.iload_n 2, 1) := by decide +kernel
theorem d_W_told_6 : decode b_W_told 6 = .ok (.iload_n 3, 1) := by decide +kernel
theorem d_W_told_7 : decode b_W_told 7 = .ok (.invokevirtual 60, 3) := by decide +kernel
theorem d_W_told_10 : decode b_W_told 10 = .ok (.i2l, 1) := by decide +kernel
theorem d_W_told_11 : decode b_W_told 11 = .ok (.lastore, 1) := by decide +kernel
theorem d_W_told_12 : decode b_W_told 12 = .ok (.goto 11, 3) := by decide +kernel
theorem d_W_told_15 : decode b_W_told 15 = .ok (.astore 5, 2) := by decide +kernel
theorem d_W_told_17 : decode b_W_told 17 = .ok (.iconst 1, 1) := by decide +kernel
theorem d_W_told_18 : decode b_W_told 18 = .ok (.ireturn, 1) := by decide +kernel
theorem d_W_told_19 : decode b_W_told 19 = .ok (.astore 5, 2) := by decide +kernel
theorem d_W_told_21 : decode b_W_told 21 = .ok (.iconst 2, 1) := by decide +kernel
theorem d_W_told_22 : decode b_W_told 22 = .ok (.ireturn, 1) := by decide +kernel
theorem d_W_told_23 : decode b_W_told 23 = .ok (.iconst 0, 1) := by decide +kernel
theorem d_W_told_24 : decode b_W_told 24 = .ok (.ireturn, 1) := by decide +kernel
theorem d_W_score_0 : decode b_W_score 0 = .ok (.aload_n 3, 1) := by decide +kernel
theorem d_W_score_1 : decode b_W_score 1 = .ok (.iconst 0, 1) := by decide +kernel
theorem d_W_score_2 : decode b_W_score 2 = .ok (.aload_n 0, 1) := by decide +kernel
theorem d_W_score_3 : decode b_W_score 3 = .ok (.iload_n 1, 1) := by decide +kernel
theorem d_W_score_4 : decode b_W_score 4 = .ok (.iload_n 2, 1) := by decide +kernel
theorem d_W_score_5 : decode b_W_score 5 = .ok (.invokevirtual 63, 3) := by decide +kernel
theorem d_W_score_8 : decode b_W_score 8 = .ok (.dastore, 1) := by decide +kernel
theorem d_W_score_9 : decode b_W_score 9 = .ok (.goto 11, 3) := by decide +kernel
theorem d_W_score_12 : decode b_W_score 12 = .ok (.astore 4, 2) := by decide +kernel
theorem d_W_score_14 : decode b_W_score 14 = .ok (.iconst 1, 1) := by decide +kernel
theorem d_W_score_15 : decode b_W_score 15 = .ok (.ireturn, 1) := by decide +kernel
theorem d_W_score_16 : decode b_W_score 16 = .ok (.astore 4, 2) := by decide +kernel
theorem d_W_score_18 : decode b_W_score 18 = .ok (.iconst 2, 1) := by decide +kernel
theorem d_W_score_19 : decode b_W_score 19 = .ok (.ireturn, 1) := by decide +kernel
theorem d_W_score_20 : decode b_W_score 20 = .ok (.iconst 0, 1) := by decide +kernel
theorem d_W_score_21 : decode b_W_score 21 = .ok (.ireturn, 1) := by decide +kernel
theorem d_W_sent_0 : decode b_W_sent 0 = .ok (.aload_n 3, 1) := by decide +kernel
theorem d_W_sent_1 : decode b_W_sent 1 = .ok (.iconst 0, 1) := by decide +kernel
theorem d_W_sent_2 : decode b_W_sent 2 = .ok (.aload_n 0, 1) := by decide +kernel
theorem d_W_sent_3 : decode b_W_sent 3 = .ok (.iload_n 1, 1) := by decide +kernel
theorem d_W_sent_4 : decode b_W_sent 4 = .ok (.iload_n 2, 1) := by decide +kernel
theorem d_W_sent_5 : decode b_W_sent 5 = .ok (.invokevirtual 67, 3) := by decide +kernel
theorem d_W_sent_8 : decode b_W_sent 8 = .ok (.i2l, 1) := by decide +kernel
theorem d_W_sent_9 : decode b_W_sent 9 = .ok (.lastore, 1) := by decide +kernel
theorem d_W_sent_10 : decode b_W_sent 10 = .ok (.goto 11, 3) := by decide +kernel
theorem d_W_sent_13 : decode b_W_sent 13 = .ok (.astore 4, 2) := by decide +kernel
theorem d_W_sent_15 : decode b_W_sent 15 = .ok (.iconst 1, 1) := by decide +kernel
theorem d_W_sent_16 : decode b_W_sent 16 = .ok (.ireturn, 1) := by decide +kernel
theorem d_W_sent_17 : decode b_W_sent 17 = .ok (.astore 4, 2) := by decide +kernel
theorem d_W_sent_19 : decode b_W_sent 19 = .ok (.iconst 2, 1) := by decide +kernel
theorem d_W_sent_20 : decode b_W_sent 20 = .ok (.ireturn, 1) := by decide +kernel
theorem d_W_sent_21 : decode b_W_sent 21 = .ok (.iconst 0, 1) := by decide +kernel
theorem d_W_sent_22 : decode b_W_sent 22 = .ok (.ireturn, 1) := by decide +kernel
theorem d_W_count_0 : decode b_W_count 0 = .ok (.aload_n 2, 1) := by decide +kernel
theorem d_W_count_1 : decode b_W_count 1 = .ok (.iconst 0, 1) := by decide +kernel
theorem d_W_count_2 : decode b_W_count 2 = .ok (.aload_n 0, 1) := by decide +kernel
theorem d_W_count_3 : decode b_W_count 3 = .ok (.iload_n 1, 1) := by decide +kernel
theorem d_W_count_4 : decode b_W_count 4 = .ok (.invokevirtual 72, 3) := by decide +kernel
theorem d_W_count_7 : decode b_W_count 7 = .ok (.i2l, 1) := by decide +kernel
theorem d_W_count_8 : decode b_W_count 8 = .ok (.lastore, 1) := by decide +kernel
theorem d_W_count_9 : decode b_W_count 9 = .ok (.goto 6, 3) := by decide +kernel
theorem d_W_count_12 : decode b_W_count 12 = .ok (.astore_n 3, 1) := by decide +kernel
theorem d_W_count_13 : decode b_W_count 13 = .ok (.iconst 1, 1) := by decide +kernel
theorem d_W_count_14 : decode b_W_count 14 = .ok (.ireturn, 1) := by decide +kernel
theorem d_W_count_15 : decode b_W_count 15 = .ok (.iconst 0, 1) := by decide +kernel
theorem d_W_count_16 : decode b_W_count 16 = .ok (.ireturn, 1) := by decide +kernel
theorem d_W_law_0 : decode b_W_law 0 = .ok (.new 8, 3) := by decide +kernel
theorem d_W_law_3 : decode b_W_law 3 = .ok (.dup, 1) := by decide +kernel
theorem d_W_law_4 : decode b_W_law 4 = .ok (.invokespecial 75, 3) := by decide +kernel
theorem d_W_law_7 : decode b_W_law 7 = .ok (.astore_n 1, 1) := by decide +kernel
theorem d_W_law_8 : decode b_W_law 8 = .ok (.new 76, 3) := by decide +kernel
theorem d_W_law_11 : decode b_W_law 11 = .ok (.dup, 1) := by decide +kernel
theorem d_W_law_12 : decode b_W_law 12 = .ok (.invokespecial 78, 3) := by decide +kernel
theorem d_W_law_15 : decode b_W_law 15 = .ok (.astore_n 2, 1) := by decide +kernel
theorem d_W_law_16 : decode b_W_law 16 = .ok (.iconst 1, 1) := by decide +kernel
theorem d_W_law_17 : decode b_W_law 17 = .ok (.newarray .long, 2) := by decide +kernel
theorem d_W_law_19 : decode b_W_law 19 = .ok (.astore_n 3, 1) := by decide +kernel
theorem d_W_law_20 : decode b_W_law 20 = .ok (.iconst 1, 1) := by decide +kernel
theorem d_W_law_21 : decode b_W_law 21 = .ok (.newarray .double, 2) := by decide +kernel
theorem d_W_law_23 : decode b_W_law 23 = .ok (.astore 4, 2) := by decide +kernel
theorem d_W_law_25 : decode b_W_law 25 = .ok (.iconst 0, 1) := by decide +kernel
theorem d_W_law_26 : decode b_W_law 26 = .ok (.istore 5, 2) := by decide +kernel
theorem d_W_law_28 : decode b_W_law 28 = .ok (.iload 5, 2) := by decide +kernel
theorem d_W_law_30 : decode b_W_law 30 = .ok (.aload_n 0, 1) := by decide +kernel
theorem d_W_law_31 : decode b_W_law 31 = .ok (.arraylength, 1) := by decide +kernel
theorem d_W_law_32 : decode b_W_law 32 = .ok (.iconst 5, 1) := by decide +kernel
theorem d_W_law_33 : decode b_W_law 33 = .ok (.isub, 1) := by decide +kernel
theorem d_W_law_34 : decode b_W_law 34 = .ok (.if_icmp .gt 1403, 3) := by decide +kernel
theorem d_W_law_37 : decode b_W_law 37 = .ok (.aload_n 0, 1) := by decide +kernel
theorem d_W_law_38 : decode b_W_law 38 = .ok (.iload 5, 2) := by decide +kernel
theorem d_W_law_40 : decode b_W_law 40 = .ok (.iaload, 1) := by decide +kernel
theorem d_W_law_41 : decode b_W_law 41 = .ok (.bipush 15, 2) := by decide +kernel
theorem d_W_law_43 : decode b_W_law 43 = .ok (.iand, 1) := by decide +kernel
theorem d_W_law_44 : decode b_W_law 44 = .ok (.tableswitch 1387 0 15 #[80, 160, 216, 284, 364, 467, 570, 681, 773, 853, 970, 1038, 1094, 1174, 1263, 1331], 80) := by decide +kernel
theorem d_W_law_124 : decode b_W_law 124 = .ok (.aload_n 1, 1) := by decide +kernel
theorem d_W_law_125 : decode b_W_law 125 = .ok (.aload_n 0, 1) := by decide +kernel
theorem d_W_law_126 : decode b_W_law 126 = .ok (.iload 5, 2) := by decide +kernel
theorem d_W_law_128 : decode b_W_law 128 = .ok (.iconst 1, 1) := by decide +kernel
theorem d_W_law_129 : decode b_W_law 129 = .ok (.iadd, 1) := by decide +kernel
theorem d_W_law_130 : decode b_W_law 130 = .ok (.iaload, 1) := by decide +kernel
theorem d_W_law_131 : decode b_W_law 131 = .ok (.aload_n 0, 1) := by decide +kernel
theorem d_W_law_132 : decode b_W_law 132 = .ok (.iload 5, 2) := by decide +kernel
theorem d_W_law_134 : decode b_W_law 134 = .ok (.iconst 2, 1) := by decide +kernel
theorem d_W_law_135 : decode b_W_law 135 = .ok (.iadd, 1) := by decide +kernel
theorem d_W_law_136 : decode b_W_law 136 = .ok (.iaload, 1) := by decide +kernel
theorem d_W_law_137 : decode b_W_law 137 = .ok (.aload_n 0, 1) := by decide +kernel
theorem d_W_law_138 : decode b_W_law 138 = .ok (.iload 5, 2) := by decide +kernel
theorem d_W_law_140 : decode b_W_law 140 = .ok (.iconst 3, 1) := by decide +kernel
theorem d_W_law_141 : decode b_W_law 141 = .ok (.iadd, 1) := by decide +kernel
theorem d_W_law_142 : decode b_W_law 142 = .ok (.iaload, 1) := by decide +kernel
theorem d_W_law_143 : decode b_W_law 143 = .ok (.aload_n 3, 1) := by decide +kernel
theorem d_W_law_144 : decode b_W_law 144 = .ok (.invokestatic 79, 3) := by decide +kernel
theorem d_W_law_147 : decode b_W_law 147 = .ok (.istore 6, 2) := by decide +kernel
theorem d_W_law_149 : decode b_W_law 149 = .ok (.aload_n 2, 1) := by decide +kernel
end
section
theorem d_W_law_150 : decode b_W_law 150 = .ok (.aload_n 0, 1) := by decide +kernel
theorem d_W_law_151 : decode b_W_law 151 = .ok (.iload 5, 2) := by decide +kernel
theorem d_W_law_153 : decode b_W_law 153 = .ok (.iconst 1, 1) := by decide +kernel
theorem d_W_law_154 : decode b_W_law 154 = .ok (.iadd, 1) := by decide +kernel
theorem d_W_law_155 : decode b_W_law 155 = .ok (.iaload, 1) := by decide +kernel
theorem d_W_law_156 : decode b_W_law 156 = .ok (.aload_n 0, 1) := by decide +kernel
theorem d_W_law_157 : decode b_W_law 157 = .ok (.iload 5, 2) := by decide +kernel
theorem d_W_law_159 : decode b_W_law 159 = .ok (.iconst 2, 1) := by decide +kernel
theorem d_W_law_160 : decode b_W_law 160 = .ok (.iadd, 1) := by decide +kernel
theorem d_W_law_161 : decode b_W_law 161 = .ok (.iaload, 1) := by decide +kernel
theorem d_W_law_162 : decode b_W_law 162 = .ok (.aload_n 0, 1) := by decide +kernel
theorem d_W_law_163 : decode b_W_law 163 = .ok (.iload 5, 2) := by decide +kernel
theorem d_W_law_165 : decode b_W_law 165 = .ok (.iconst 3, 1) := by decide +kernel
theorem d_W_law_166 : decode b_W_law 166 = .ok (.iadd, 1) := by decide +kernel
theorem d_W_law_167 : decode b_W_law 167 = .ok (.iaload, 1) := by decide +kernel
theorem d_W_law_168 : decode b_W_law 168 = .ok (.invokevirtual 84, 3) := by decide +kernel
theorem d_W_law_171 : decode b_W_law 171 = .ok (.istore 7, 2) := by decide +kernel
theorem d_W_law_173 : decode b_W_law 173 = .ok (.aload_n 2, 1) := by decide +kernel
theorem d_W_law_174 : decode b_W_law 174 = .ok (.invokevirtual 85, 3) := by decide +kernel
theorem d_W_law_177 : decode b_W_law 177 = .ok (.iload 6, 2) := by decide +kernel
theorem d_W_law_179 : decode b_W_law 179 = .ok (.if_icmp .eq 5, 3) := by decide +kernel
theorem d_W_law_182 : decode b_W_law 182 = .ok (.iconst 0, 1) := by decide +kernel
theorem d_W_law_183 : decode b_W_law 183 = .ok (.ireturn, 1) := by decide +kernel
theorem d_W_law_184 : decode b_W_law 184 = .ok (.iload 6, 2) := by decide +kernel
theorem d_W_law_186 : decode b_W_law 186 = .ok (.ifCond .ne 15, 3) := by decide +kernel
theorem d_W_law_189 : decode b_W_law 189 = .ok (.aload_n 3, 1) := by decide +kernel
theorem d_W_law_190 : decode b_W_law 190 = .ok (.iconst 0, 1) := by decide +kernel
theorem d_W_law_191 : decode b_W_law 191 = .ok (.laload, 1) := by decide +kernel
theorem d_W_law_192 : decode b_W_law 192 = .ok (.iload 7, 2) := by decide +kernel
theorem d_W_law_194 : decode b_W_law 194 = .ok (.i2l, 1) := by decide +kernel
theorem d_W_law_195 : decode b_W_law 195 = .ok (.lcmp, 1) := by decide +kernel
theorem d_W_law_196 : decode b_W_law 196 = .ok (.ifCond .eq 5, 3) := by decide +kernel
theorem d_W_law_199 : decode b_W_law 199 = .ok (.iconst 0, 1) := by decide +kernel
theorem d_W_law_200 : decode b_W_law 200 = .ok (.ireturn, 1) := by decide +kernel
theorem d_W_law_201 : decode b_W_law 201 = .ok (.goto 1230, 3) := by decide +kernel
theorem d_W_law_204 : decode b_W_law 204 = .ok (.aload_n 1, 1) := by decide +kernel
theorem d_W_law_205 : decode b_W_law 205 = .ok (.aload_n 0, 1) := by decide +kernel
theorem d_W_law_206 : decode b_W_law 206 = .ok (.iload 5, 2) := by decide +kernel
theorem d_W_law_208 : decode b_W_law 208 = .ok (.iconst 1, 1) := by decide +kernel
theorem d_W_law_209 : decode b_W_law 209 = .ok (.iadd, 1) := by decide +kernel
theorem d_W_law_210 : decode b_W_law 210 = .ok (.iaload, 1) := by decide +kernel
theorem d_W_law_211 : decode b_W_law 211 = .ok (.aload_n 3, 1) := by decide +kernel
theorem d_W_law_212 : decode b_W_law 212 = .ok (.invokestatic 89, 3) := by decide +kernel
theorem d_W_law_215 : decode b_W_law 215 = .ok (.istore 6, 2) := by decide +kernel
theorem d_W_law_217 : decode b_W_law 217 = .ok (.aload_n 2, 1) := by decide +kernel
theorem d_W_law_218 : decode b_W_law 218 = .ok (.aload_n 0, 1) := by decide +kernel
theorem d_W_law_219 : decode b_W_law 219 = .ok (.iload 5, 2) := by decide +kernel
theorem d_W_law_221 : decode b_W_law 221 = .ok (.iconst 1, 1) := by decide +kernel
theorem d_W_law_222 : decode b_W_law 222 = .ok (.iadd, 1) := by decide +kernel
theorem d_W_law_223 : decode b_W_law 223 = .ok (.iaload, 1) := by decide +kernel
theorem d_W_law_224 : decode b_W_law 224 = .ok (.invokevirtual 92, 3) := by decide +kernel
theorem d_W_law_227 : decode b_W_law 227 = .ok (.istore 7, 2) := by decide +kernel
theorem d_W_law_229 : decode b_W_law 229 = .ok (.aload_n 2, 1) := by decide +kernel
theorem d_W_law_230 : decode b_W_law 230 = .ok (.invokevirtual 85, 3) := by decide +kernel
theorem d_W_law_233 : decode b_W_law 233 = .ok (.iload 6, 2) := by decide +kernel
theorem d_W_law_235 : decode b_W_law 235 = .ok (.if_icmp .eq 5, 3) := by decide +kernel
theorem d_W_law_238 : decode b_W_law 238 = .ok (.iconst 0, 1) := by decide +kernel
theorem d_W_law_239 : decode b_W_law 239 = .ok (.ireturn, 1) := by decide +kernel
theorem d_W_law_240 : decode b_W_law 240 = .ok (.iload 6, 2) := by decide +kernel
theorem d_W_law_242 : decode b_W_law 242 = .ok (.ifCond .ne 15, 3) := by decide +kernel
theorem d_W_law_245 : decode b_W_law 245 = .ok (.aload_n 3, 1) := by decide +kernel
theorem d_W_law_246 : decode b_W_law 246 = .ok (.iconst 0, 1) := by decide +kernel
theorem d_W_law_247 : decode b_W_law 247 = .ok (.laload, 1) := by decide +kernel
theorem d_W_law_248 : decode b_W_law 248 = .ok (.iload 7, 2) := by decide +kernel
theorem d_W_law_250 : decode b_W_law 250 = .ok (.i2l, 1) := by decide +kernel
theorem d_W_law_251 : decode b_W_law 251 = .ok (.lcmp, 1) := by decide +kernel
theorem d_W_law_252 : decode b_W_law 252 = .ok (.ifCond .eq 5, 3) := by decide +kernel
theorem d_W_law_255 : decode b_W_law 255 = .ok (.iconst 0, 1) := by decide +kernel
theorem d_W_law_256 : decode b_W_law 256 = .ok (.ireturn, 1) := by decide +kernel
theorem d_W_law_257 : decode b_W_law 257 = .ok (.goto 1174, 3) := by decide +kernel
theorem d_W_law_260 : decode b_W_law 260 = .ok (.aload_n 1, 1) := by decide +kernel
theorem d_W_law_261 : decode b_W_law 261 = .ok (.aload_n 0, 1) := by decide +kernel
theorem d_W_law_262 : decode b_W_law 262 = .ok (.iload 5, 2) := by decide +kernel
theorem d_W_law_264 : decode b_W_law 264 = .ok (.iconst 1, 1) := by decide +kernel
theorem d_W_law_265 : decode b_W_law 265 = .ok (.iadd, 1) := by decide +kernel
theorem d_W_law_266 : decode b_W_law 266 = .ok (.iaload, 1) := by decide +kernel
theorem d_W_law_267 : decode b_W_law 267 = .ok (.aload_n 0, 1) := by decide +kernel
theorem d_W_law_268 : decode b_W_law 268 = .ok (.iload 5, 2) := by decide +kernel
theorem d_W_law_270 : decode b_W_law 270 = .ok (.iconst 2, 1) := by decide +kernel
theorem d_W_law_271 : decode b_W_law 271 = .ok (.iadd, 1) := by decide +kernel
theorem d_W_law_272 : decode b_W_law 272 = .ok (.iaload, 1) := by decide +kernel
theorem d_W_law_273 : decode b_W_law 273 = .ok (.aload_n 3, 1) := by decide +kernel
theorem d_W_law_274 : decode b_W_law 274 = .ok (.invokestatic 93, 3) := by decide +kernel
theorem d_W_law_277 : decode b_W_law 277 = .ok (.istore 6, 2) := by decide +kernel
theorem d_W_law_279 : decode b_W_law 279 = .ok (.aload_n 2, 1) := by decide +kernel
theorem d_W_law_280 : decode b_W_law 280 = .ok (.aload_n 0, 1) := by decide +kernel
theorem d_W_law_281 : decode b_W_law 281 = .ok (.iload 5, 2) := by decide +kernel
theorem d_W_law_283 : decode b_W_law 283 = .ok (.iconst 1, 1) := by decide +kernel
theorem d_W_law_284 : decode b_W_law 284 = .ok (.iadd, 1) := by decide +kernel
theorem d_W_law_285 : decode b_W_law 285 = .ok (.iaload, 1) := by decide +kernel
theorem d_W_law_286 : decode b_W_law 286 = .ok (.aload_n 0, 1) := by decide +kernel
theorem d_W_law_287 : decode b_W_law 287 = .ok (.iload 5, 2) := by decide +kernel
theorem d_W_law_289 : decode b_W_law 289 = .ok (.iconst 2, 1) := by decide +kernel
theorem d_W_law_290 : decode b_W_law 290 = .ok (.iadd, 1) := by decide +kernel
theorem d_W_law_291 : decode b_W_law 291 = .ok (.iaload, 1) := by decide +kernel
theorem d_W_law_292 : decode b_W_law 292 = .ok (.invokevirtual 96, 3) := by decide +kernel
theorem d_W_law_295 : decode b_W_law 295 = .ok (.istore 7, 2) := by decide +kernel
theorem d_W_law_297 : decode b_W_law 297 = .ok (.aload_n 2, 1) := by decide +kernel
theorem d_W_law_298 : decode b_W_law 298 = .ok (.invokevirtual 85, 3) := by decide +kernel
theorem d_W_law_301 : decode b_W_law 301 = .ok (.iload 6, 2) := by decide +kernel
theorem d_W_law_303 : decode b_W_law 303 = .ok (.if_icmp .eq 5, 3) := by decide +kernel
theorem d_W_law_306 : decode b_W_law 306 = .ok (.iconst 0, 1) := by decide +kernel
theorem d_W_law_307 : decode b_W_law 307 = .ok (.ireturn, 1) := by decide +kernel
theorem d_W_law_308 : decode b_W_law 308 = .ok (.iload 6, 2) := by decide +kernel
theorem d_W_law_310 : decode b_W_law 310 = .ok (.ifCond .ne 15, 3) := by decide +kernel
theorem d_W_law_313 : decode b_W_law 313 = .ok (.aload_n 3, 1) := by decide +kernel
theorem d_W_law_314 : decode b_W_law 314 = .ok (.iconst 0, 1) := by decide +kernel
theorem d_W_law_315 : decode b_W_law 315 = .ok (.laload, 1) := by decide +kernel
theorem d_W_law_316 : decode b_W_law 316 = .ok (.iload 7, 2) := by decide +kernel
theorem d_W_law_318 : decode b_W_law 318 = .ok (.i2l, 1) := by decide +kernel
theorem d_W_law_319 : decode b_W_law 319 = .ok (.lcmp, 1) := by decide +kernel
theorem d_W_law_320 : decode b_W_law 320 = .ok (.ifCond .eq 5, 3) := by decide +kernel
theorem d_W_law_323 : decode b_W_law 323 = .ok (.iconst 0, 1) := by decide +kernel
theorem d_W_law_324 : decode b_W_law 324 = .ok (.ireturn, 1) := by decide +kernel
theorem d_W_law_325 : decode b_W_law 325 = .ok (.goto 1106, 3) := by decide +kernel
theorem d_W_law_328 : decode b_W_law 328 = .ok (.aload_n 1, 1) := by decide +kernel
theorem d_W_law_329 : decode b_W_law 329 = .ok (.aload_n 0, 1) := by decide +kernel
theorem d_W_law_330 : decode b_W_law 330 = .ok (.iload 5, 2) := by decide +kernel
theorem d_W_law_332 : decode b_W_law 332 = .ok (.iconst 1, 1) := by decide +kernel
theorem d_W_law_333 : decode b_W_law 333 = .ok (.iadd, 1) := by decide +kernel
theorem d_W_law_334 : decode b_W_law 334 = .ok (.iaload, 1) := by decide +kernel
theorem d_W_law_335 : decode b_W_law 335 = .ok (.aload_n 0, 1) := by decide +kernel
theorem d_W_law_336 : decode b_W_law 336 = .ok (.iload 5, 2) := by decide +kernel
theorem d_W_law_338 : decode b_W_law 338 = .ok (.iconst 2, 1) := by decide +kernel
theorem d_W_law_339 : decode b_W_law 339 = .ok (.iadd, 1) := by decide +kernel
theorem d_W_law_340 : decode b_W_law 340 = .ok (.iaload, 1) := by decide +kernel
theorem d_W_law_341 : decode b_W_law 341 = .ok (.aload_n 0, 1) := by decide +kernel
theorem d_W_law_342 : decode b_W_law 342 = .ok (.iload 5, 2) := by decide +kernel
theorem d_W_law_344 : decode b_W_law 344 = .ok (.iconst 3, 1) := by decide +kernel
theorem d_W_law_345 : decode b_W_law 345 = .ok (.iadd, 1) := by decide +kernel
theorem d_W_law_346 : decode b_W_law 346 = .ok (.iaload, 1) := by decide +kernel
theorem d_W_law_347 : decode b_W_law 347 = .ok (.aload_n 3, 1) := by decide +kernel
theorem d_W_law_348 : decode b_W_law 348 = .ok (.invokestatic 97, 3) := by decide +kernel
theorem d_W_law_351 : decode b_W_law 351 = .ok (.istore 6, 2) := by decide +kernel
theorem d_W_law_353 : decode b_W_law 353 = .ok (.aload_n 2, 1) := by decide +kernel
theorem d_W_law_354 : decode b_W_law 354 = .ok (.aload_n 0, 1) := by decide +kernel
theorem d_W_law_355 : decode b_W_law 355 = .ok (.iload 5, 2) := by decide +kernel
theorem d_W_law_357 : decode b_W_law 357 = .ok (.iconst 1, 1) := by decide +kernel
theorem d_W_law_358 : decode b_W_law 358 = .ok (.iadd, 1) := by decide +kernel
theorem d_W_law_359 : decode b_W_law 359 = .ok (.iaload, 1) := by decide +kernel
theorem d_W_law_360 : decode b_W_law 360 = .ok (.aload_n 0, 1) := by decide +kernel
theorem d_W_law_361 : decode b_W_law 361 = .ok (.iload 5, 2) := by decide +kernel
theorem d_W_law_363 : decode b_W_law 363 = .ok (.iconst 2, 1) := by decide +kernel
theorem d_W_law_364 : decode b_W_law 364 = .ok (.iadd, 1) := by decide +kernel
theorem d_W_law_365 : decode b_W_law 365 = .ok (.iaload, 1) := by decide +kernel
theorem d_W_law_366 : decode b_W_law 366 = .ok (.aload_n 0, 1) := by decide +kernel
theorem d_W_law_367 : decode b_W_law 367 = .ok (.iload 5, 2) := by decide +kernel
theorem d_W_law_369 : decode b_W_law 369 = .ok (.iconst 3, 1) := by decide +kernel
theorem d_W_law_370 : decode b_W_law 370 = .ok (.iadd, 1) := by decide +kernel
theorem d_W_law_371 : decode b_W_law 371 = .ok (.iaload, 1) := by decide +kernel
theorem d_W_law_372 : decode b_W_law 372 = .ok (.invokevirtual 99, 3) := by decide +kernel
theorem d_W_law_375 : decode b_W_law 375 = .ok (.istore 7, 2) := by decide +kernel
theorem d_W_law_377 : decode b_W_law 377 = .ok (.aload_n 2, 1) := by decide +kernel
theorem d_W_law_378 : decode b_W_law 378 = .ok (.invokevirtual 85, 3) := by decide +kernel
theorem d_W_law_381 : decode b_W_law 381 = .ok (.iload 6, 2) := by decide +kernel
theorem d_W_law_383 : decode b_W_law 383 = .ok (.if_icmp .eq 5, 3) := by decide +kernel
theorem d_W_law_386 : decode b_W_law 386 = .ok (.iconst 0, 1) := by decide +kernel
theorem d_W_law_387 : decode b_W_law 387 = .ok (.ireturn, 1) := by decide +kernel
theorem d_W_law_388 : decode b_W_law 388 = .ok (.iload 6, 2) := by decide +kernel
theorem d_W_law_390 : decode b_W_law 390 = .ok (.ifCond .ne 15, 3) := by decide +kernel
theorem d_W_law_393 : decode b_W_law 393 = .ok (.aload_n 3, 1) := by decide +kernel
theorem d_W_law_394 : decode b_W_law 394 = .ok (.iconst 0, 1) := by decide +kernel
theorem d_W_law_395 : decode b_W_law 395 = .ok (.laload, 1) := by decide +kernel
theorem d_W_law_396 : decode b_W_law 396 = .ok (.iload 7, 2) := by decide +kernel
theorem d_W_law_398 : decode b_W_law 398 = .ok (.i2l, 1) := by decide +kernel
theorem d_W_law_399 : decode b_W_law 399 = .ok (.lcmp, 1) := by decide +kernel
theorem d_W_law_400 : decode b_W_law 400 = .ok (.ifCond .eq 5, 3) := by decide +kernel
theorem d_W_law_403 : decode b_W_law 403 = .ok (.iconst 0, 1) := by decide +kernel
theorem d_W_law_404 : decode b_W_law 404 = .ok (.ireturn, 1) := by decide +kernel
theorem d_W_law_405 : decode b_W_law 405 = .ok (.goto 1026, 3) := by decide +kernel
theorem d_W_law_408 : decode b_W_law 408 = .ok (.aload_n 1, 1) := by decide +kernel
theorem d_W_law_409 : decode b_W_law 409 = .ok (.aload_n 0, 1) := by decide +kernel
theorem d_W_law_410 : decode b_W_law 410 = .ok (.iload 5, 2) := by decide +kernel
theorem d_W_law_412 : decode b_W_law 412 = .ok (.iconst 1, 1) := by decide +kernel
theorem d_W_law_413 : decode b_W_law 413 = .ok (.iadd, 1) := by decide +kernel
theorem d_W_law_414 : decode b_W_law 414 = .ok (.iaload, 1) := by decide +kernel
theorem d_W_law_415 : decode b_W_law 415 = .ok (.aload_n 0, 1) := by decide +kernel
theorem d_W_law_416 : decode b_W_law 416 = .ok (.iload 5, 2) := by decide +kernel
theorem d_W_law_418 : decode b_W_law 418 = .ok (.iconst 2, 1) := by decide +kernel
theorem d_W_law_419 : decode b_W_law 419 = .ok (.iadd, 1) := by decide +kernel
theorem d_W_law_420 : decode b_W_law 420 = .ok (.iaload, 1) := by decide +kernel
theorem d_W_law_421 : decode b_W_law 421 = .ok (.aload_n 0, 1) := by decide +kernel
theorem d_W_law_422 : decode b_W_law 422 = .ok (.iload 5, 2) := by decide +kernel
theorem d_W_law_424 : decode b_W_law 424 = .ok (.iconst 3, 1) := by decide +kernel
theorem d_W_law_425 : decode b_W_law 425 = .ok (.iadd, 1) := by decide +kernel
theorem d_W_law_426 : decode b_W_law 426 = .ok (.iaload, 1) := by decide +kernel
theorem d_W_law_427 : decode b_W_law 427 = .ok (.ifCond .eq 7, 3) := by decide +kernel
theorem d_W_law_430 : decode b_W_law 430 = .ok (.iconst 1, 1) := by decide +kernel
theorem d_W_law_431 : decode b_W_law 431 = .ok (.goto 4, 3) := by decide +kernel
theorem d_W_law_434 : decode b_W_law 434 = .ok (.iconst 0, 1) := by decide +kernel
theorem d_W_law_435 : decode b_W_law 435 = .ok (.aload_n 3, 1) := by decide +kernel
theorem d_W_law_436 : decode b_W_law 436 = .ok (.invokestatic 100, 3) := by decide +kernel
theorem d_W_law_439 : decode b_W_law 439 = .ok (.istore 6, 2) := by decide +kernel
theorem d_W_law_441 : decode b_W_law 441 = .ok (.aload_n 2, 1) := by decide +kernel
theorem d_W_law_442 : decode b_W_law 442 = .ok (.aload_n 0, 1) := by decide +kernel
theorem d_W_law_443 : decode b_W_law 443 = .ok (.iload 5, 2) := by decide +kernel
theorem d_W_law_445 : decode b_W_law 445 = .ok (.iconst 1, 1) := by decide +kernel
theorem d_W_law_446 : decode b_W_law 446 = .ok (.iadd, 1) := by decide +kernel
theorem d_W_law_447 : decode b_W_law 447 = .ok (.iaload, 1) := by decide +kernel
theorem d_W_law_448 : decode b_W_law 448 = .ok (.aload_n 0, 1) := by decide +kernel
theorem d_W_law_449 : decode b_W_law 449 = .ok (.iload 5, 2) := by decide +kernel
theorem d_W_law_451 : decode b_W_law 451 = .ok (.iconst 2, 1) := by decide +kernel
theorem d_W_law_452 : decode b_W_law 452 = .ok (.iadd, 1) := by decide +kernel
theorem d_W_law_453 : decode b_W_law 453 = .ok (.iaload, 1) := by decide +kernel
theorem d_W_law_454 : decode b_W_law 454 = .ok (.aload_n 0, 1) := by decide +kernel
theorem d_W_law_455 : decode b_W_law 455 = .ok (.iload 5, 2) := by decide +kernel
theorem d_W_law_457 : decode b_W_law 457 = .ok (.iconst 3, 1) := by decide +kernel
theorem d_W_law_458 : decode b_W_law 458 = .ok (.iadd, 1) := by decide +kernel
theorem d_W_law_459 : decode b_W_law 459 = .ok (.iaload, 1) := by decide +kernel
theorem d_W_law_460 : decode b_W_law 460 = .ok (.ifCond .eq 7, 3) := by decide +kernel
theorem d_W_law_463 : decode b_W_law 463 = .ok (.iconst 1, 1) := by decide +kernel
theorem d_W_law_464 : decode b_W_law 464 = .ok (.goto 4, 3) := by decide +kernel
theorem d_W_law_467 : decode b_W_law 467 = .ok (.iconst 0, 1) := by decide +kernel
theorem d_W_law_468 : decode b_W_law 468 = .ok (.invokevirtual 103, 3) := by decide +kernel
theorem d_W_law_471 : decode b_W_law 471 = .ok (.istore 7, 2) := by decide +kernel
theorem d_W_law_473 : decode b_W_law 473 = .ok (.aload_n 2, 1) := by decide +kernel
theorem d_W_law_474 : decode b_W_law 474 = .ok (.invokevirtual 85, 3) := by decide +kernel
theorem d_W_law_477 : decode b_W_law 477 = .ok (.iload 6, 2) := by decide +kernel
theorem d_W_law_479 : decode b_W_law 479 = .ok (.if_icmp .eq 5, 3) := by decide +kernel
theorem d_W_law_482 : decode b_W_law 482 = .ok (.iconst 0, 1) := by decide +kernel
theorem d_W_law_483 : decode b_W_law 483 = .ok (.ireturn, 1) := by decide +kernel
theorem d_W_law_484 : decode b_W_law 484 = .ok (.iload 6, 2) := by decide +kernel
theorem d_W_law_486 : decode b_W_law 486 = .ok (.ifCond .ne 22, 3) := by decide +kernel
theorem d_W_law_489 : decode b_W_law 489 = .ok (.aload_n 3, 1) := by decide +kernel
theorem d_W_law_490 : decode b_W_law 490 = .ok (.iconst 0, 1) := by decide +kernel
theorem d_W_law_491 : decode b_W_law 491 = .ok (.laload, 1) := by decide +kernel
theorem d_W_law_492 : decode b_W_law 492 = .ok (.iload 7, 2) := by decide +kernel
theorem d_W_law_494 : decode b_W_law 494 = .ok (.ifCond .eq 7, 3) := by decide +kernel
theorem d_W_law_497 : decode b_W_law 497 = .ok (.lconst 1, 1) := by decide +kernel
theorem d_W_law_498 : decode b_W_law 498 = .ok (.goto 4, 3) := by decide +kernel
theorem d_W_law_501 : decode b_W_law 501 = .ok (.lconst 0, 1) := by decide +kernel
theorem d_W_law_502 : decode b_W_law 502 = .ok (.lcmp, 1) := by decide +kernel
theorem d_W_law_503 : decode b_W_law 503 = .ok (.ifCond .eq 5, 3) := by decide +kernel
theorem d_W_law_506 : decode b_W_law 506 = .ok (.iconst 0, 1) := by decide +kernel
theorem d_W_law_507 : decode b_W_law 507 = .ok (.ireturn, 1) := by decide +kernel
theorem d_W_law_508 : decode b_W_law 508 = .ok (.goto 923, 3) := by decide +kernel
theorem d_W_law_511 : decode b_W_law 511 = .ok (.aload_n 1, 1) := by decide +kernel
theorem d_W_law_512 : decode b_W_law 512 = .ok (.aload_n 0, 1) := by decide +kernel
theorem d_W_law_513 : decode b_W_law 513 = .ok (.iload 5, 2) := by decide +kernel
theorem d_W_law_515 : decode b_W_law 515 = .ok (.iconst 1, 1) := by decide +kernel
theorem d_W_law_516 : decode b_W_law 516 = .ok (.iadd, 1) := by decide +kernel
theorem d_W_law_517 : decode b_W_law 517 = .ok (.iaload, 1) := by decide +kernel
theorem d_W_law_518 : decode b_W_law 518 = .ok (.aload_n 0, 1) := by decide +kernel
theorem d_W_law_519 : decode b_W_law 519 = .ok (.iload 5, 2) := by decide +kernel
theorem d_W_law_521 : decode b_W_law 521 = .ok (.iconst 2, 1) := by decide +kernel
theorem d_W_law_522 : decode b_W_law 522 = .ok (.iadd, 1) := by decide +kernel
theorem d_W_law_523 : decode b_W_law 523 = .ok (.iaload, 1) := by decide +kernel
theorem d_W_law_524 : decode b_W_law 524 = .ok (.aload_n 0, 1) := by decide +kernel
theorem d_W_law_525 : decode b_W_law 525 = .ok (.iload 5, 2) := by decide +kernel
theorem d_W_law_527 : decode b_W_law 527 = .ok (.iconst 3, 1) := by decide +kernel
theorem d_W_law_528 : decode b_W_law 528 = .ok (.iadd, 1) := by decide +kernel
theorem d_W_law_529 : decode b_W_law 529 = .ok (.iaload, 1) := by decide +kernel
theorem d_W_law_530 : decode b_W_law 530 = .ok (.ifCond .eq 7, 3) := by decide +kernel
theorem d_W_law_533 : decode b_W_law 533 = .ok (.iconst 1, 1) := by decide +kernel
theorem d_W_law_534 : decode b_W_law 534 = .ok (.goto 4, 3) := by decide +kernel
theorem d_W_law_537 : decode b_W_law 537 = .ok (.iconst 0, 1) := by decide +kernel
theorem d_W_law_538 : decode b_W_law 538 = .ok (.aload_n 3, 1) := by decide +kernel
theorem d_W_law_539 : decode b_W_law 539 = .ok (.invokestatic 104, 3) := by decide +kernel
theorem d_W_law_542 : decode b_W_law 542 = .ok (.istore 6, 2) := by decide +kernel
theorem d_W_law_544 : decode b_W_law 544 = .ok (.aload_n 2, 1) := by decide +kernel
theorem d_W_law_545 : decode b_W_law 545 = .ok (.aload_n 0, 1) := by decide +kernel
theorem d_W_law_546 : decode b_W_law 546 = .ok (.iload 5, 2) := by decide +kernel
theorem d_W_law_548 : decode b_W_law 548 = .ok (.iconst 1, 1) := by decide +kernel
theorem d_W_law_549 : decode b_W_law 549 = .ok (.iadd, 1) := by decide +kernel
theorem d_W_law_550 : decode b_W_law 550 = .ok (.iaload, 1) := by decide +kernel
theorem d_W_law_551 : decode b_W_law 551 = .ok (.aload_n 0, 1) := by decide +kernel
theorem d_W_law_552 : decode b_W_law 552 = .ok (.iload 5, 2) := by decide +kernel
theorem d_W_law_554 : decode b_W_law 554 = .ok (.iconst 2, 1) := by decide +kernel
theorem d_W_law_555 : decode b_W_law 555 = .ok (.iadd, 1) := by decide +kernel
theorem d_W_law_556 : decode b_W_law 556 = .ok (.iaload, 1) := by decide +kernel
theorem d_W_law_557 : decode b_W_law 557 = .ok (.aload_n 0, 1) := by decide +kernel
theorem d_W_law_558 : decode b_W_law 558 = .ok (.iload 5, 2) := by decide +kernel
theorem d_W_law_560 : decode b_W_law 560 = .ok (.iconst 3, 1) := by decide +kernel
theorem d_W_law_561 : decode b_W_law 561 = .ok (.iadd, 1) := by decide +kernel
theorem d_W_law_562 : decode b_W_law 562 = .ok (.iaload, 1) := by decide +kernel
theorem d_W_law_563 : decode b_W_law 563 = .ok (.ifCond .eq 7, 3) := by decide +kernel
theorem d_W_law_566 : decode b_W_law 566 = .ok (.iconst 1, 1) := by decide +kernel
theorem d_W_law_567 : decode b_W_law 567 = .ok (.goto 4, 3) := by decide +kernel
theorem d_W_law_570 : decode b_W_law 570 = .ok (.iconst 0, 1) := by decide +kernel
theorem d_W_law_571 : decode b_W_law 571 = .ok (.invokevirtual 106, 3) := by decide +kernel
theorem d_W_law_574 : decode b_W_law 574 = .ok (.istore 7, 2) := by decide +kernel
theorem d_W_law_576 : decode b_W_law 576 = .ok (.aload_n 2, 1) := by decide +kernel
theorem d_W_law_577 : decode b_W_law 577 = .ok (.invokevirtual 85, 3) := by decide +kernel
theorem d_W_law_580 : decode b_W_law 580 = .ok (.iload 6, 2) := by decide +kernel
theorem d_W_law_582 : decode b_W_law 582 = .ok (.if_icmp .eq 5, 3) := by decide +kernel
theorem d_W_law_585 : decode b_W_law 585 = .ok (.iconst 0, 1) := by decide +kernel
theorem d_W_law_586 : decode b_W_law 586 = .ok (.ireturn, 1) := by decide +kernel
theorem d_W_law_587 : decode b_W_law 587 = .ok (.iload 6, 2) := by decide +kernel
theorem d_W_law_589 : decode b_W_law 589 = .ok (.ifCond .ne 22, 3) := by decide +kernel
theorem d_W_law_592 : decode b_W_law 592 = .ok (.aload_n 3, 1) := by decide +kernel
theorem d_W_law_593 : decode b_W_law 593 = .ok (.iconst 0, 1) := by decide +kernel
theorem d_W_law_594 : decode b_W_law 594 = .ok (.laload, 1) := by decide +kernel
theorem d_W_law_595 : decode b_W_law 595 = .ok (.iload 7, 2) := by decide +kernel
theorem d_W_law_597 : decode b_W_law 597 = .ok (.ifCond .eq 7, 3) := by decide +kernel
theorem d_W_law_600 : decode b_W_law 600 = .ok (.lconst 1, 1) := by decide +kernel
theorem d_W_law_601 : decode b_W_law 601 = .ok (.goto 4, 3) := by decide +kernel
theorem d_W_law_604 : decode b_W_law 604 = .ok (.lconst 0, 1) := by decide +kernel
theorem d_W_law_605 : decode b_W_law 605 = .ok (.lcmp, 1) := by decide +kernel
theorem d_W_law_606 : decode b_W_law 606 = .ok (.ifCond .eq 5, 3) := by decide +kernel
theorem d_W_law_609 : decode b_W_law 609 = .ok (.iconst 0, 1) := by decide +kernel
theorem d_W_law_610 : decode b_W_law 610 = .ok (.ireturn, 1) := by decide +kernel
theorem d_W_law_611 : decode b_W_law 611 = .ok (.goto 820, 3) := by decide +kernel
theorem d_W_law_614 : decode b_W_law 614 = .ok (.aload_n 1, 1) := by decide +kernel
theorem d_W_law_615 : decode b_W_law 615 = .ok (.aload_n 0, 1) := by decide +kernel
theorem d_W_law_616 : decode b_W_law 616 = .ok (.iload 5, 2) := by decide +kernel
theorem d_W_law_618 : decode b_W_law 618 = .ok (.iconst 1, 1) := by decide +kernel
theorem d_W_law_619 : decode b_W_law 619 = .ok (.iadd, 1) := by decide +kernel
theorem d_W_law_620 : decode b_W_law 620 = .ok (.iaload, 1) := by decide +kernel
theorem d_W_law_621 : decode b_W_law 621 = .ok (.aload_n 0, 1) := by decide +kernel
theorem d_W_law_622 : decode b_W_law 622 = .ok (.iload 5, 2) := by decide +kernel
theorem d_W_law_624 : decode b_W_law 624 = .ok (.iconst 2, 1) := by decide +kernel
theorem d_W_law_625 : decode b_W_law 625 = .ok (.iadd, 1) := by decide +kernel
theorem d_W_law_626 : decode b_W_law 626 = .ok (.iaload, 1) := by decide +kernel
theorem d_W_law_627 : decode b_W_law 627 = .ok (.aload_n 0, 1) := by decide +kernel
theorem d_W_law_628 : decode b_W_law 628 = .ok (.iload 5, 2) := by decide +kernel
theorem d_W_law_630 : decode b_W_law 630 = .ok (.iconst 3, 1) := by decide +kernel
theorem d_W_law_631 : decode b_W_law 631 = .ok (.iadd, 1) := by decide +kernel
theorem d_W_law_632 : decode b_W_law 632 = .ok (.iaload, 1) := by decide +kernel
theorem d_W_law_633 : decode b_W_law 633 = .ok (.i2d, 1) := by decide +kernel
theorem d_W_law_634 : decode b_W_law 634 = .ok (.ldc2_w 107, 3) := by decide +kernel
theorem d_W_law_637 : decode b_W_law 637 = .ok (.dmul, 1) := by decide +kernel
theorem d_W_law_638 : decode b_W_law 638 = .ok (.aload 4, 2) := by decide +kernel
theorem d_W_law_640 : decode b_W_law 640 = .ok (.invokestatic 109, 3) := by decide +kernel
theorem d_W_law_643 : decode b_W_law 643 = .ok (.istore 6, 2) := by decide +kernel
theorem d_W_law_645 : decode b_W_law 645 = .ok (.aload_n 2, 1) := by decide +kernel
theorem d_W_law_646 : decode b_W_law 646 = .ok (.aload_n 0, 1) := by decide +kernel
theorem d_W_law_647 : decode b_W_law 647 = .ok (.iload 5, 2) := by decide +kernel
theorem d_W_law_649 : decode b_W_law 649 = .ok (.iconst 1, 1) := by decide +kernel
theorem d_W_law_650 : decode b_W_law 650 = .ok (.iadd, 1) := by decide +kernel
theorem d_W_law_651 : decode b_W_law 651 = .ok (.iaload, 1) := by decide +kernel
theorem d_W_law_652 : decode b_W_law 652 = .ok (.aload_n 0, 1) := by decide +kernel
theorem d_W_law_653 : decode b_W_law 653 = .ok (.iload 5, 2) := by decide +kernel
theorem d_W_law_655 : decode b_W_law 655 = .ok (.iconst 2, 1) := by decide +kernel
theorem d_W_law_656 : decode b_W_law 656 = .ok (.iadd, 1) := by decide +kernel
theorem d_W_law_657 : decode b_W_law 657 = .ok (.iaload, 1) := by decide +kernel
theorem d_W_law_658 : decode b_W_law 658 = .ok (.aload_n 0, 1) := by decide +kernel
theorem d_W_law_659 : decode b_W_law 659 = .ok (.iload 5, 2) := by decide +kernel
theorem d_W_law_661 : decode b_W_law 661 = .ok (.iconst 3, 1) := by decide +kernel
theorem d_W_law_662 : decode b_W_law 662 = .ok (.iadd, 1) := by decide +kernel
theorem d_W_law_663 : decode b_W_law 663 = .ok (.iaload, 1) := by decide +kernel
theorem d_W_law_664 : decode b_W_law 664 = .ok (.i2d, 1) := by decide +kernel
theorem d_W_law_665 : decode b_W_law 665 = .ok (.ldc2_w 107, 3) := by decide +kernel
theorem d_W_law_668 : decode b_W_law 668 = .ok (.dmul, 1) := by decide +kernel
theorem d_W_law_669 : decode b_W_law 669 = .ok (.invokevirtual 112, 3) := by decide +kernel
theorem d_W_law_672 : decode b_W_law 672 = .ok (.dstore 7, 2) := by decide +kernel
theorem d_W_law_674 : decode b_W_law 674 = .ok (.aload_n 2, 1) := by decide +kernel
theorem d_W_law_675 : decode b_W_law 675 = .ok (.invokevirtual 85, 3) := by decide +kernel
theorem d_W_law_678 : decode b_W_law 678 = .ok (.iload 6, 2) := by decide +kernel
theorem d_W_law_680 : decode b_W_law 680 = .ok (.if_icmp .eq 5, 3) := by decide +kernel
theorem d_W_law_683 : decode b_W_law 683 = .ok (.iconst 0, 1) := by decide +kernel
theorem d_W_law_684 : decode b_W_law 684 = .ok (.ireturn, 1) := by decide +kernel
theorem d_W_law_685 : decode b_W_law 685 = .ok (.iload 6, 2) := by decide +kernel
theorem d_W_law_687 : decode b_W_law 687 = .ok (.ifCond .ne 35, 3) := by decide +kernel
theorem d_W_law_690 : decode b_W_law 690 = .ok (.aload 4, 2) := by decide +kernel
theorem d_W_law_692 : decode b_W_law 692 = .ok (.iconst 0, 1) := by decide +kernel
theorem d_W_law_693 : decode b_W_law 693 = .ok (.daload, 1) := by decide +kernel
theorem d_W_law_694 : decode b_W_law 694 = .ok (.dload 7, 2) := by decide +kernel
theorem d_W_law_696 : decode b_W_law 696 = .ok (.dcmp .l, 1) := by decide +kernel
theorem d_W_law_697 : decode b_W_law 697 = .ok (.ifCond .eq 25, 3) := by decide +kernel
theorem d_W_law_700 : decode b_W_law 700 = .ok (.aload 4, 2) := by decide +kernel
theorem d_W_law_702 : decode b_W_law 702 = .ok (.iconst 0, 1) := by decide +kernel
theorem d_W_law_703 : decode b_W_law 703 = .ok (.daload, 1) := by decide +kernel
theorem d_W_law_704 : decode b_W_law 704 = .ok (.aload 4, 2) := by decide +kernel
theorem d_W_law_706 : decode b_W_law 706 = .ok (.iconst 0, 1) := by decide +kernel
theorem d_W_law_707 : decode b_W_law 707 = .ok (.daload, 1) := by decide +kernel
theorem d_W_law_708 : decode b_W_law 708 = .ok (.dcmp .l, 1) := by decide +kernel
theorem d_W_law_709 : decode b_W_law 709 = .ok (.ifCond .eq 11, 3) := by decide +kernel
theorem d_W_law_712 : decode b_W_law 712 = .ok (.dload 7, 2) := by decide +kernel
theorem d_W_law_714 : decode b_W_law 714 = .ok (.dload 7, 2) := by decide +kernel
theorem d_W_law_716 : decode b_W_law 716 = .ok (.dcmp .l, 1) := by decide +kernel
theorem d_W_law_717 : decode b_W_law 717 = .ok (.ifCond .ne 5, 3) := by decide +kernel
theorem d_W_law_720 : decode b_W_law 720 = .ok (.iconst 0, 1) := by decide +kernel
theorem d_W_law_721 : decode b_W_law 721 = .ok (.ireturn, 1) := by decide +kernel
theorem d_W_law_722 : decode b_W_law 722 = .ok (.goto 709, 3) := by decide +kernel
theorem d_W_law_725 : decode b_W_law 725 = .ok (.aload_n 1, 1) := by decide +kernel
theorem d_W_law_726 : decode b_W_law 726 = .ok (.aload_n 0, 1) := by decide +kernel
theorem d_W_law_727 : decode b_W_law 727 = .ok (.iload 5, 2) := by decide +kernel
theorem d_W_law_729 : decode b_W_law 729 = .ok (.iconst 1, 1) := by decide +kernel
theorem d_W_law_730 : decode b_W_law 730 = .ok (.iadd, 1) := by decide +kernel
theorem d_W_law_731 : decode b_W_law 731 = .ok (.iaload, 1) := by decide +kernel
theorem d_W_law_732 : decode b_W_law 732 = .ok (.aload_n 0, 1) := by decide +kernel
theorem d_W_law_733 : decode b_W_law 733 = .ok (.iload 5, 2) := by decide +kernel
theorem d_W_law_735 : decode b_W_law 735 = .ok (.iconst 2, 1) := by decide +kernel
theorem d_W_law_736 : decode b_W_law 736 = .ok (.iadd, 1) := by decide +kernel
theorem d_W_law_737 : decode b_W_law 737 = .ok (.iaload, 1) := by decide +kernel
theorem d_W_law_738 : decode b_W_law 738 = .ok (.aload_n 0, 1) := by decide +kernel
theorem d_W_law_739 : decode b_W_law 739 = .ok (.iload 5, 2) := by decide +kernel
theorem d_W_law_741 : decode b_W_law 741 = .ok (.iconst 3, 1) := by decide +kernel
theorem d_W_law_742 : decode b_W_law 742 = .ok (.iadd, 1) := by decide +kernel
theorem d_W_law_743 : decode b_W_law 743 = .ok (.iaload, 1) := by decide +kernel
theorem d_W_law_744 : decode b_W_law 744 = .ok (.aload_n 0, 1) := by decide +kernel
theorem d_W_law_745 : decode b_W_law 745 = .ok (.iload 5, 2) := by decide +kernel
theorem d_W_law_747 : decode b_W_law 747 = .ok (.iconst 4, 1) := by decide +kernel
theorem d_W_law_748 : decode b_W_law 748 = .ok (.iadd, 1) := by decide +kernel
theorem d_W_law_749 : decode b_W_law 749 = .ok (.iaload, 1) := by decide +kernel
theorem d_W_law_750 : decode b_W_law 750 = .ok (.aload_n 3, 1) := by decide +kernel
theorem d_W_law_751 : decode b_W_law 751 = .ok (.invokestatic 113, 3) := by decide +kernel
theorem d_W_law_754 : decode b_W_law 754 = .ok (.istore 6, 2) := by decide +kernel
theorem d_W_law_756 : decode b_W_law 756 = .ok (.aload_n 2, 1) := by decide +kernel
theorem d_W_law_757 : decode b_W_law 757 = .ok (.aload_n 0, 1) := by decide +kernel
theorem d_W_law_758 : decode b_W_law 758 = .ok (.iload 5, 2) := by decide +kernel
theorem d_W_law_760 : decode b_W_law 760 = .ok (.iconst 1, 1) := by decide +kernel
theorem d_W_law_761 : decode b_W_law 761 = .ok (.iadd, 1) := by decide +kernel
theorem d_W_law_762 : decode b_W_law 762 = .ok (.iaload, 1) := by decide +kernel
theorem d_W_law_763 : decode b_W_law 763 = .ok (.aload_n 0, 1) := by decide +kernel
theorem d_W_law_764 : decode b_W_law 764 = .ok (.iload 5, 2) := by decide +kernel
theorem d_W_law_766 : decode b_W_law 766 = .ok (.iconst 2, 1) := by decide +kernel
theorem d_W_law_767 : decode b_W_law 767 = .ok (.iadd, 1) := by decide +kernel
theorem d_W_law_768 : decode b_W_law 768 = .ok (.iaload, 1) := by decide +kernel
theorem d_W_law_769 : decode b_W_law 769 = .ok (.aload_n 0, 1) := by decide +kernel
theorem d_W_law_770 : decode b_W_law 770 = .ok (.iload 5, 2) := by decide +kernel
theorem d_W_law_772 : decode b_W_law 772 = .ok (.iconst 3, 1) := by decide +kernel
theorem d_W_law_773 : decode b_W_law 773 = .ok (.iadd, 1) := by decide +kernel
theorem d_W_law_774 : decode b_W_law 774 = .ok (.iaload, 1) := by decide +kernel
theorem d_W_law_775 : decode b_W_law 775 = .ok (.aload_n 0, 1) := by decide +kernel
theorem d_W_law_776 : decode b_W_law 776 = .ok (.iload 5, 2) := by decide +kernel
theorem d_W_law_778 : decode b_W_law 778 = .ok (.iconst 4, 1) := by decide +kernel
theorem d_W_law_779 : decode b_W_law 779 = .ok (.iadd, 1) := by decide +kernel
theorem d_W_law_780 : decode b_W_law 780 = .ok (.iaload, 1) := by decide +kernel
theorem d_W_law_781 : decode b_W_law 781 = .ok (.invokevirtual 116, 3) := by decide +kernel
theorem d_W_law_784 : decode b_W_law 784 = .ok (.istore 7, 2) := by decide +kernel
theorem d_W_law_786 : decode b_W_law 786 = .ok (.aload_n 2, 1) := by decide +kernel
theorem d_W_law_787 : decode b_W_law 787 = .ok (.invokevirtual 85, 3) := by decide +kernel
theorem d_W_law_790 : decode b_W_law 790 = .ok (.iload 6, 2) := by decide +kernel
theorem d_W_law_792 : decode b_W_law 792 = .ok (.if_icmp .eq 5, 3) := by decide +kernel
theorem d_W_law_795 : decode b_W_law 795 = .ok (.iconst 0, 1) := by decide +kernel
theorem d_W_law_796 : decode b_W_law 796 = .ok (.ireturn, 1) := by decide +kernel
theorem d_W_law_797 : decode b_W_law 797 = .ok (.iload 6, 2) := by decide +kernel
theorem d_W_law_799 : decode b_W_law 799 = .ok (.ifCond .ne 15, 3) := by decide +kernel
theorem d_W_law_802 : decode b_W_law 802 = .ok (.aload_n 3, 1) := by decide +kernel
theorem d_W_law_803 : decode b_W_law 803 = .ok (.iconst 0, 1) := by decide +kernel
theorem d_W_law_804 : decode b_W_law 804 = .ok (.laload, 1) := by decide +kernel
theorem d_W_law_805 : decode b_W_law 805 = .ok (.iload 7, 2) := by decide +kernel
theorem d_W_law_807 : decode b_W_law 807 = .ok (.i2l, 1) := by decide +kernel
theorem d_W_law_808 : decode b_W_law 808 = .ok (.lcmp, 1) := by decide +kernel
theorem d_W_law_809 : decode b_W_law 809 = .ok (.ifCond .eq 5, 3) := by decide +kernel
theorem d_W_law_812 : decode b_W_law 812 = .ok (.iconst 0, 1) := by decide +kernel
theorem d_W_law_813 : decode b_W_law 813 = .ok (.ireturn, 1) := by decide +kernel
theorem d_W_law_814 : decode b_W_law 814 = .ok (.goto 617, 3) := by decide +kernel
theorem d_W_law_817 : decode b_W_law 817 = .ok (.aload_n 1, 1) := by decide +kernel
theorem d_W_law_818 : decode b_W_law 818 = .ok (.aload_n 0, 1) := by decide +kernel
theorem d_W_law_819 : decode b_W_law 819 = .ok (.iload 5, 2) := by decide +kernel
theorem d_W_law_821 : decode b_W_law 821 = .ok (.iconst 1, 1) := by decide +kernel
theorem d_W_law_822 : decode b_W_law 822 = .ok (.iadd, 1) := by decide +kernel
theorem d_W_law_823 : decode b_W_law 823 = .ok (.iaload, 1) := by decide +kernel
theorem d_W_law_824 : decode b_W_law 824 = .ok (.aload_n 0, 1) := by decide +kernel
theorem d_W_law_825 : decode b_W_law 825 = .ok (.iload 5, 2) := by decide +kernel
theorem d_W_law_827 : decode b_W_law 827 = .ok (.iconst 2, 1) := by decide +kernel
theorem d_W_law_828 : decode b_W_law 828 = .ok (.iadd, 1) := by decide +kernel
theorem d_W_law_829 : decode b_W_law 829 = .ok (.iaload, 1) := by decide +kernel
theorem d_W_law_830 : decode b_W_law 830 = .ok (.aload_n 0, 1) := by decide +kernel
theorem d_W_law_831 : decode b_W_law 831 = .ok (.iload 5, 2) := by decide +kernel
theorem d_W_law_833 : decode b_W_law 833 = .ok (.iconst 3, 1) := by decide +kernel
theorem d_W_law_834 : decode b_W_law 834 = .ok (.iadd, 1) := by decide +kernel
theorem d_W_law_835 : decode b_W_law 835 = .ok (.iaload, 1) := by decide +kernel
theorem d_W_law_836 : decode b_W_law 836 = .ok (.aload_n 3, 1) := by decide +kernel
theorem d_W_law_837 : decode b_W_law 837 = .ok (.invokestatic 117, 3) := by decide +kernel
theorem d_W_law_840 : decode b_W_law 840 = .ok (.istore 6, 2) := by decide +kernel
theorem d_W_law_842 : decode b_W_law 842 = .ok (.aload_n 2, 1) := by decide +kernel
theorem d_W_law_843 : decode b_W_law 843 = .ok (.aload_n 0, 1) := by decide +kernel
theorem d_W_law_844 : decode b_W_law 844 = .ok (.iload 5, 2) := by decide +kernel
theorem d_W_law_846 : decode b_W_law 846 = .ok (.iconst 1, 1) := by decide +kernel
theorem d_W_law_847 : decode b_W_law 847 = .ok (.iadd, 1) := by decide +kernel
theorem d_W_law_848 : decode b_W_law 848 = .ok (.iaload, 1) := by decide +kernel
theorem d_W_law_849 : decode b_W_law 849 = .ok (.aload_n 0, 1) := by decide +kernel
theorem d_W_law_850 : decode b_W_law 850 = .ok (.iload 5, 2) := by decide +kernel
theorem d_W_law_852 : decode b_W_law 852 = .ok (.iconst 2, 1) := by decide +kernel
theorem d_W_law_853 : decode b_W_law 853 = .ok (.iadd, 1) := by decide +kernel
theorem d_W_law_854 : decode b_W_law 854 = .ok (.iaload, 1) := by decide +kernel
theorem d_W_law_855 : decode b_W_law 855 = .ok (.aload_n 0, 1) := by decide +kernel
theorem d_W_law_856 : decode b_W_law 856 = .ok (.iload 5, 2) := by decide +kernel
theorem d_W_law_858 : decode b_W_law 858 = .ok (.iconst 3, 1) := by decide +kernel
theorem d_W_law_859 : decode b_W_law 859 = .ok (.iadd, 1) := by decide +kernel
theorem d_W_law_860 : decode b_W_law 860 = .ok (.iaload, 1) := by decide +kernel
theorem d_W_law_861 : decode b_W_law 861 = .ok (.invokevirtual 119, 3) := by decide +kernel
theorem d_W_law_864 : decode b_W_law 864 = .ok (.istore 7, 2) := by decide +kernel
theorem d_W_law_866 : decode b_W_law 866 = .ok (.aload_n 2, 1) := by decide +kernel
theorem d_W_law_867 : decode b_W_law 867 = .ok (.invokevirtual 85, 3) := by decide +kernel
theorem d_W_law_870 : decode b_W_law 870 = .ok (.iload 6, 2) := by decide +kernel
theorem d_W_law_872 : decode b_W_law 872 = .ok (.if_icmp .eq 5, 3) := by decide +kernel
theorem d_W_law_875 : decode b_W_law 875 = .ok (.iconst 0, 1) := by decide +kernel
theorem d_W_law_876 : decode b_W_law 876 = .ok (.ireturn, 1) := by decide +kernel
theorem d_W_law_877 : decode b_W_law 877 = .ok (.iload 6, 2) := by decide +kernel
theorem d_W_law_879 : decode b_W_law 879 = .ok (.ifCond .ne 15, 3) := by decide +kernel
theorem d_W_law_882 : decode b_W_law 882 = .ok (.aload_n 3, 1) := by decide +kernel
theorem d_W_law_883 : decode b_W_law 883 = .ok (.iconst 0, 1) := by decide +kernel
theorem d_W_law_884 : decode b_W_law 884 = .ok (.laload, 1) := by decide +kernel
theorem d_W_law_885 : decode b_W_law 885 = .ok (.iload 7, 2) := by decide +kernel
theorem d_W_law_887 : decode b_W_law 887 = .ok (.i2l, 1) := by decide +kernel
theorem d_W_law_888 : decode b_W_law 888 = .ok (.lcmp, 1) := by decide +kernel
theorem d_W_law_889 : decode b_W_law 889 = .ok (.ifCond .eq 5, 3) := by decide +kernel
theorem d_W_law_892 : decode b_W_law 892 = .ok (.iconst 0, 1) := by decide +kernel
theorem d_W_law_893 : decode b_W_law 893 = .ok (.ireturn, 1) := by decide +kernel
theorem d_W_law_894 : decode b_W_law 894 = .ok (.goto 537, 3) := by decide +kernel
theorem d_W_law_897 : decode b_W_law 897 = .ok (.aload_n 1, 1) := by decide +kernel
theorem d_W_law_898 : decode b_W_law 898 = .ok (.aload_n 0, 1) := by decide +kernel
theorem d_W_law_899 : decode b_W_law 899 = .ok (.iload 5, 2) := by decide +kernel
theorem d_W_law_901 : decode b_W_law 901 = .ok (.iconst 1, 1) := by decide +kernel
theorem d_W_law_902 : decode b_W_law 902 = .ok (.iadd, 1) := by decide +kernel
theorem d_W_law_903 : decode b_W_law 903 = .ok (.iaload, 1) := by decide +kernel
theorem d_W_law_904 : decode b_W_law 904 = .ok (.aload_n 0, 1) := by decide +kernel
theorem d_W_law_905 : decode b_W_law 905 = .ok (.iload 5, 2) := by decide +kernel
theorem d_W_law_907 : decode b_W_law 907 = .ok (.iconst 2, 1) := by decide +kernel
theorem d_W_law_908 : decode b_W_law 908 = .ok (.iadd, 1) := by decide +kernel
theorem d_W_law_909 : decode b_W_law 909 = .ok (.iaload, 1) := by decide +kernel
theorem d_W_law_910 : decode b_W_law 910 = .ok (.aload_n 0, 1) := by decide +kernel
theorem d_W_law_911 : decode b_W_law 911 = .ok (.iload 5, 2) := by decide +kernel
theorem d_W_law_913 : decode b_W_law 913 = .ok (.iconst 3, 1) := by decide +kernel
theorem d_W_law_914 : decode b_W_law 914 = .ok (.iadd, 1) := by decide +kernel
theorem d_W_law_915 : decode b_W_law 915 = .ok (.iaload, 1) := by decide +kernel
theorem d_W_law_916 : decode b_W_law 916 = .ok (.ifCond .eq 7, 3) := by decide +kernel
theorem d_W_law_919 : decode b_W_law 919 = .ok (.iconst 1, 1) := by decide +kernel
theorem d_W_law_920 : decode b_W_law 920 = .ok (.goto 4, 3) := by decide +kernel
theorem d_W_law_923 : decode b_W_law 923 = .ok (.iconst 0, 1) := by decide +kernel
theorem d_W_law_924 : decode b_W_law 924 = .ok (.aload 4, 2) := by decide +kernel
theorem d_W_law_926 : decode b_W_law 926 = .ok (.invokestatic 120, 3) := by decide +kernel
theorem d_W_law_929 : decode b_W_law 929 = .ok (.istore 6, 2) := by decide +kernel
theorem d_W_law_931 : decode b_W_law 931 = .ok (.aload_n 2, 1) := by decide +kernel
theorem d_W_law_932 : decode b_W_law 932 = .ok (.aload_n 0, 1) := by decide +kernel
theorem d_W_law_933 : decode b_W_law 933 = .ok (.iload 5, 2) := by decide +kernel
theorem d_W_law_935 : decode b_W_law 935 = .ok (.iconst 1, 1) := by decide +kernel
theorem d_W_law_936 : decode b_W_law 936 = .ok (.iadd, 1) := by decide +kernel
theorem d_W_law_937 : decode b_W_law 937 = .ok (.iaload, 1) := by decide +kernel
theorem d_W_law_938 : decode b_W_law 938 = .ok (.aload_n 0, 1) := by decide +kernel
theorem d_W_law_939 : decode b_W_law 939 = .ok (.iload 5, 2) := by decide +kernel
theorem d_W_law_941 : decode b_W_law 941 = .ok (.iconst 2, 1) := by decide +kernel
theorem d_W_law_942 : decode b_W_law 942 = .ok (.iadd, 1) := by decide +kernel
theorem d_W_law_943 : decode b_W_law 943 = .ok (.iaload, 1) := by decide +kernel
theorem d_W_law_944 : decode b_W_law 944 = .ok (.aload_n 0, 1) := by decide +kernel
theorem d_W_law_945 : decode b_W_law 945 = .ok (.iload 5, 2) := by decide +kernel
theorem d_W_law_947 : decode b_W_law 947 = .ok (.iconst 3, 1) := by decide +kernel
theorem d_W_law_948 : decode b_W_law 948 = .ok (.iadd, 1) := by decide +kernel
theorem d_W_law_949 : decode b_W_law 949 = .ok (.iaload, 1) := by decide +kernel
theorem d_W_law_950 : decode b_W_law 950 = .ok (.ifCond .eq 7, 3) := by decide +kernel
theorem d_W_law_953 : decode b_W_law 953 = .ok (.iconst 1, 1) := by decide +kernel
theorem d_W_law_954 : decode b_W_law 954 = .ok (.goto 4, 3) := by decide +kernel
theorem d_W_law_957 : decode b_W_law 957 = .ok (.iconst 0, 1) := by decide +kernel
theorem d_W_law_958 : decode b_W_law 958 = .ok (.invokevirtual 123, 3) := by decide +kernel
theorem d_W_law_961 : decode b_W_law 961 = .ok (.dstore 7, 2) := by decide +kernel
theorem d_W_law_963 : decode b_W_law 963 = .ok (.aload_n 2, 1) := by decide +kernel
theorem d_W_law_964 : decode b_W_law 964 = .ok (.invokevirtual 85, 3) := by decide +kernel
theorem d_W_law_967 : decode b_W_law 967 = .ok (.iload 6, 2) := by decide +kernel
theorem d_W_law_969 : decode b_W_law 969 = .ok (.if_icmp .eq 5, 3) := by decide +kernel
theorem d_W_law_972 : decode b_W_law 972 = .ok (.iconst 0, 1) := by decide +kernel
theorem d_W_law_973 : decode b_W_law 973 = .ok (.ireturn, 1) := by decide +kernel
theorem d_W_law_974 : decode b_W_law 974 = .ok (.iload 6, 2) := by decide +kernel
theorem d_W_law_976 : decode b_W_law 976 = .ok (.ifCond .ne 35, 3) := by decide +kernel
theorem d_W_law_979 : decode b_W_law 979 = .ok (.aload 4, 2) := by decide +kernel
theorem d_W_law_981 : decode b_W_law 981 = .ok (.iconst 0, 1) := by decide +kernel
theorem d_W_law_982 : decode b_W_law 982 = .ok (.daload, 1) := by decide +kernel
theorem d_W_law_983 : decode b_W_law 983 = .ok (.dload 7, 2) := by decide +kernel
theorem d_W_law_985 : decode b_W_law 985 = .ok (.dcmp .l, 1) := by decide +kernel
theorem d_W_law_986 : decode b_W_law 986 = .ok (.ifCond .eq 25, 3) := by decide +kernel
theorem d_W_law_989 : decode b_W_law 989 = .ok (.aload 4, 2) := by decide +kernel
theorem d_W_law_991 : decode b_W_law 991 = .ok (.iconst 0, 1) := by decide +kernel
theorem d_W_law_992 : decode b_W_law 992 = .ok (.daload, 1) := by decide +kernel
theorem d_W_law_993 : decode b_W_law 993 = .ok (.aload 4, 2) := by decide +kernel
theorem d_W_law_995 : decode b_W_law 995 = .ok (.iconst 0, 1) := by decide +kernel
theorem d_W_law_996 : decode b_W_law 996 = .ok (.daload, 1) := by decide +kernel
theorem d_W_law_997 : decode b_W_law 997 = .ok (.dcmp .l, 1) := by decide +kernel
theorem d_W_law_998 : decode b_W_law 998 = .ok (.ifCond .eq 11, 3) := by decide +kernel
theorem d_W_law_1001 : decode b_W_law 1001 = .ok (.dload 7, 2) := by decide +kernel
theorem d_W_law_1003 : decode b_W_law 1003 = .ok (.dload 7, 2) := by decide +kernel
theorem d_W_law_1005 : decode b_W_law 1005 = .ok (.dcmp .l, 1) := by decide +kernel
theorem d_W_law_1006 : decode b_W_law 1006 = .ok (.ifCond .ne 5, 3) := by decide +kernel
theorem d_W_law_1009 : decode b_W_law 1009 = .ok (.iconst 0, 1) := by decide +kernel
theorem d_W_law_1010 : decode b_W_law 1010 = .ok (.ireturn, 1) := by decide +kernel
theorem d_W_law_1011 : decode b_W_law 1011 = .ok (.goto 420, 3) := by decide +kernel
theorem d_W_law_1014 : decode b_W_law 1014 = .ok (.aload_n 1, 1) := by decide +kernel
theorem d_W_law_1015 : decode b_W_law 1015 = .ok (.aload_n 0, 1) := by decide +kernel
theorem d_W_law_1016 : decode b_W_law 1016 = .ok (.iload 5, 2) := by decide +kernel
theorem d_W_law_1018 : decode b_W_law 1018 = .ok (.iconst 1, 1) := by decide +kernel
theorem d_W_law_1019 : decode b_W_law 1019 = .ok (.iadd, 1) := by decide +kernel
theorem d_W_law_1020 : decode b_W_law 1020 = .ok (.iaload, 1) := by decide +kernel
theorem d_W_law_1021 : decode b_W_law 1021 = .ok (.aload_n 0, 1) := by decide +kernel
theorem d_W_law_1022 : decode b_W_law 1022 = .ok (.iload 5, 2) := by decide +kernel
theorem d_W_law_1024 : decode b_W_law 1024 = .ok (.iconst 2, 1) := by decide +kernel
theorem d_W_law_1025 : decode b_W_law 1025 = .ok (.iadd, 1) := by decide +kernel
theorem d_W_law_1026 : decode b_W_law 1026 = .ok (.iaload, 1) := by decide +kernel
theorem d_W_law_1027 : decode b_W_law 1027 = .ok (.aload_n 3, 1) := by decide +kernel
theorem d_W_law_1028 : decode b_W_law 1028 = .ok (.invokestatic 124, 3) := by decide +kernel
theorem d_W_law_1031 : decode b_W_law 1031 = .ok (.istore 6, 2) := by decide +kernel
theorem d_W_law_1033 : decode b_W_law 1033 = .ok (.aload_n 2, 1) := by decide +kernel
theorem d_W_law_1034 : decode b_W_law 1034 = .ok (.aload_n 0, 1) := by decide +kernel
theorem d_W_law_1035 : decode b_W_law 1035 = .ok (.iload 5, 2) := by decide +kernel
theorem d_W_law_1037 : decode b_W_law 1037 = .ok (.iconst 1, 1) := by decide +kernel
theorem d_W_law_1038 : decode b_W_law 1038 = .ok (.iadd, 1) := by decide +kernel
theorem d_W_law_1039 : decode b_W_law 1039 = .ok (.iaload, 1) := by decide +kernel
theorem d_W_law_1040 : decode b_W_law 1040 = .ok (.aload_n 0, 1) := by decide +kernel
theorem d_W_law_1041 : decode b_W_law 1041 = .ok (.iload 5, 2) := by decide +kernel
theorem d_W_law_1043 : decode b_W_law 1043 = .ok (.iconst 2, 1) := by decide +kernel
theorem d_W_law_1044 : decode b_W_law 1044 = .ok (.iadd, 1) := by decide +kernel
theorem d_W_law_1045 : decode b_W_law 1045 = .ok (.iaload, 1) := by decide +kernel
theorem d_W_law_1046 : decode b_W_law 1046 = .ok (.invokevirtual 126, 3) := by decide +kernel
theorem d_W_law_1049 : decode b_W_law 1049 = .ok (.istore 7, 2) := by decide +kernel
theorem d_W_law_1051 : decode b_W_law 1051 = .ok (.aload_n 2, 1) := by decide +kernel
theorem d_W_law_1052 : decode b_W_law 1052 = .ok (.invokevirtual 85, 3) := by decide +kernel
theorem d_W_law_1055 : decode b_W_law 1055 = .ok (.iload 6, 2) := by decide +kernel
theorem d_W_law_1057 : decode b_W_law 1057 = .ok (.if_icmp .eq 5, 3) := by decide +kernel
theorem d_W_law_1060 : decode b_W_law 1060 = .ok (.iconst 0, 1) := by decide +kernel
theorem d_W_law_1061 : decode b_W_law 1061 = .ok (.ireturn, 1) := by decide +kernel
theorem d_W_law_1062 : decode b_W_law 1062 = .ok (.iload 6, 2) := by decide +kernel
theorem d_W_law_1064 : decode b_W_law 1064 = .ok (.ifCond .ne 15, 3) := by decide +kernel
theorem d_W_law_1067 : decode b_W_law 1067 = .ok (.aload_n 3, 1) := by decide +kernel
theorem d_W_law_1068 : decode b_W_law 1068 = .ok (.iconst 0, 1) := by decide +kernel
theorem d_W_law_1069 : decode b_W_law 1069 = .ok (.laload, 1) := by decide +kernel
theorem d_W_law_1070 : decode b_W_law 1070 = .ok (.iload 7, 2) := by decide +kernel
theorem d_W_law_1072 : decode b_W_law 1072 = .ok (.i2l, 1) := by decide +kernel
theorem d_W_law_1073 : decode b_W_law 1073 = .ok (.lcmp, 1) := by decide +kernel
theorem d_W_law_1074 : decode b_W_law 1074 = .ok (.ifCond .eq 5, 3) := by decide +kernel
theorem d_W_law_1077 : decode b_W_law 1077 = .ok (.iconst 0, 1) := by decide +kernel
theorem d_W_law_1078 : decode b_W_law 1078 = .ok (.ireturn, 1) := by decide +kernel
theorem d_W_law_1079 : decode b_W_law 1079 = .ok (.goto 352, 3) := by decide +kernel
theorem d_W_law_1082 : decode b_W_law 1082 = .ok (.aload_n 1, 1) := by decide +kernel
theorem d_W_law_1083 : decode b_W_law 1083 = .ok (.aload_n 0, 1) := by decide +kernel
theorem d_W_law_1084 : decode b_W_law 1084 = .ok (.iload 5, 2) := by decide +kernel
theorem d_W_law_1086 : decode b_W_law 1086 = .ok (.iconst 1, 1) := by decide +kernel
theorem d_W_law_1087 : decode b_W_law 1087 = .ok (.iadd, 1) := by decide +kernel
theorem d_W_law_1088 : decode b_W_law 1088 = .ok (.iaload, 1) := by decide +kernel
theorem d_W_law_1089 : decode b_W_law 1089 = .ok (.aload_n 3, 1) := by decide +kernel
theorem d_W_law_1090 : decode b_W_law 1090 = .ok (.invokestatic 127, 3) := by decide +kernel
theorem d_W_law_1093 : decode b_W_law 1093 = .ok (.istore 6, 2) := by decide +kernel
theorem d_W_law_1095 : decode b_W_law 1095 = .ok (.aload_n 2, 1) := by decide +kernel
theorem d_W_law_1096 : decode b_W_law 1096 = .ok (.aload_n 0, 1) := by decide +kernel
theorem d_W_law_1097 : decode b_W_law 1097 = .ok (.iload 5, 2) := by decide +kernel
theorem d_W_law_1099 : decode b_W_law 1099 = .ok (.iconst 1, 1) := by decide +kernel
theorem d_W_law_1100 : decode b_W_law 1100 = .ok (.iadd, 1) := by decide +kernel
theorem d_W_law_1101 : decode b_W_law 1101 = .ok (.iaload, 1) := by decide +kernel
theorem d_W_law_1102 : decode b_W_law 1102 = .ok (.invokevirtual 129, 3) := by decide +kernel
theorem d_W_law_1105 : decode b_W_law 1105 = .ok (.istore 7, 2) := by decide +kernel
theorem d_W_law_1107 : decode b_W_law 1107 = .ok (.aload_n 2, 1) := by decide +kernel
theorem d_W_law_1108 : decode b_W_law 1108 = .ok (.invokevirtual 85, 3) := by decide +kernel
theorem d_W_law_1111 : decode b_W_law 1111 = .ok (.iload 6, 2) := by decide +kernel
theorem d_W_law_1113 : decode b_W_law 1113 = .ok (.if_icmp .eq 5, 3) := by decide +kernel
theorem d_W_law_1116 : decode b_W_law 1116 = .ok (.iconst 0, 1) := by decide +kernel
theorem d_W_law_1117 : decode b_W_law 1117 = .ok (.ireturn, 1) := by decide +kernel
theorem d_W_law_1118 : decode b_W_law 1118 = .ok (.iload 6, 2) := by decide +kernel
theorem d_W_law_1120 : decode b_W_law 1120 = .ok (.ifCond .ne 15, 3) := by decide +kernel
theorem d_W_law_1123 : decode b_W_law 1123 = .ok (.aload_n 3, 1) := by decide +kernel
theorem d_W_law_1124 : decode b_W_law 1124 = .ok (.iconst 0, 1) := by decide +kernel
theorem d_W_law_1125 : decode b_W_law 1125 = .ok (.laload, 1) := by decide +kernel
theorem d_W_law_1126 : decode b_W_law 1126 = .ok (.iload 7, 2) := by decide +kernel
theorem d_W_law_1128 : decode b_W_law 1128 = .ok (.i2l, 1) := by decide +kernel
theorem d_W_law_1129 : decode b_W_law 1129 = .ok (.lcmp, 1) := by decide +kernel
theorem d_W_law_1130 : decode b_W_law 1130 = .ok (.ifCond .eq 5, 3) := by decide +kernel
theorem d_W_law_1133 : decode b_W_law 1133 = .ok (.iconst 0, 1) := by decide +kernel
theorem d_W_law_1134 : decode b_W_law 1134 = .ok (.ireturn, 1) := by decide +kernel
theorem d_W_law_1135 : decode b_W_law 1135 = .ok (.goto 296, 3) := by decide +kernel
theorem d_W_law_1138 : decode b_W_law 1138 = .ok (.aload_n 1, 1) := by decide +kernel
theorem d_W_law_1139 : decode b_W_law 1139 = .ok (.aload_n 0, 1) := by decide +kernel
theorem d_W_law_1140 : decode b_W_law 1140 = .ok (.iload 5, 2) := by decide +kernel
theorem d_W_law_1142 : decode b_W_law 1142 = .ok (.iconst 1, 1) := by decide +kernel
theorem d_W_law_1143 : decode b_W_law 1143 = .ok (.iadd, 1) := by decide +kernel
theorem d_W_law_1144 : decode b_W_law 1144 = .ok (.iaload, 1) := by decide +kernel
theorem d_W_law_1145 : decode b_W_law 1145 = .ok (.aload_n 0, 1) := by decide +kernel
theorem d_W_law_1146 : decode b_W_law 1146 = .ok (.iload 5, 2) := by decide +kernel
theorem d_W_law_1148 : decode b_W_law 1148 = .ok (.iconst 2, 1) := by decide +kernel
theorem d_W_law_1149 : decode b_W_law 1149 = .ok (.iadd, 1) := by decide +kernel
theorem d_W_law_1150 : decode b_W_law 1150 = .ok (.iaload, 1) := by decide +kernel
theorem d_W_law_1151 : decode b_W_law 1151 = .ok (.aload_n 0, 1) := by decide +kernel
theorem d_W_law_1152 : decode b_W_law 1152 = .ok (.iload 5, 2) := by decide +kernel
theorem d_W_law_1154 : decode b_W_law 1154 = .ok (.iconst 3, 1) := by decide +kernel
theorem d_W_law_1155 : decode b_W_law 1155 = .ok (.iadd, 1) := by decide +kernel
theorem d_W_law_1156 : decode b_W_law 1156 = .ok (.iaload, 1) := by decide +kernel
theorem d_W_law_1157 : decode b_W_law 1157 = .ok (.aload_n 3, 1) := by decide +kernel
theorem d_W_law_1158 : decode b_W_law 1158 = .ok (.invokestatic 130, 3) := by decide +kernel
theorem d_W_law_1161 : decode b_W_law 1161 = .ok (.istore 6, 2) := by decide +kernel
theorem d_W_law_1163 : decode b_W_law 1163 = .ok (.aload_n 2, 1) := by decide +kernel
theorem d_W_law_1164 : decode b_W_law 1164 = .ok (.aload_n 0, 1) := by decide +kernel
theorem d_W_law_1165 : decode b_W_law 1165 = .ok (.iload 5, 2) := by decide +kernel
theorem d_W_law_1167 : decode b_W_law 1167 = .ok (.iconst 1, 1) := by decide +kernel
theorem d_W_law_1168 : decode b_W_law 1168 = .ok (.iadd, 1) := by decide +kernel
theorem d_W_law_1169 : decode b_W_law 1169 = .ok (.iaload, 1) := by decide +kernel
theorem d_W_law_1170 : decode b_W_law 1170 = .ok (.aload_n 0, 1) := by decide +kernel
theorem d_W_law_1171 : decode b_W_law 1171 = .ok (.iload 5, 2) := by decide +kernel
theorem d_W_law_1173 : decode b_W_law 1173 = .ok (.iconst 2, 1) := by decide +kernel
theorem d_W_law_1174 : decode b_W_law 1174 = .ok (.iadd, 1) := by decide +kernel
theorem d_W_law_1175 : decode b_W_law 1175 = .ok (.iaload, 1) := by decide +kernel
theorem d_W_law_1176 : decode b_W_law 1176 = .ok (.aload_n 0, 1) := by decide +kernel
theorem d_W_law_1177 : decode b_W_law 1177 = .ok (.iload 5, 2) := by decide +kernel
theorem d_W_law_1179 : decode b_W_law 1179 = .ok (.iconst 3, 1) := by decide +kernel
theorem d_W_law_1180 : decode b_W_law 1180 = .ok (.iadd, 1) := by decide +kernel
theorem d_W_law_1181 : decode b_W_law 1181 = .ok (.iaload, 1) := by decide +kernel
theorem d_W_law_1182 : decode b_W_law 1182 = .ok (.invokevirtual 132, 3) := by decide +kernel
theorem d_W_law_1185 : decode b_W_law 1185 = .ok (.istore 7, 2) := by decide +kernel
theorem d_W_law_1187 : decode b_W_law 1187 = .ok (.aload_n 2, 1) := by decide +kernel
theorem d_W_law_1188 : decode b_W_law 1188 = .ok (.invokevirtual 85, 3) := by decide +kernel
theorem d_W_law_1191 : decode b_W_law 1191 = .ok (.iload 6, 2) := by decide +kernel
theorem d_W_law_1193 : decode b_W_law 1193 = .ok (.if_icmp .eq 5, 3) := by decide +kernel
theorem d_W_law_1196 : decode b_W_law 1196 = .ok (.iconst 0, 1) := by decide +kernel
theorem d_W_law_1197 : decode b_W_law 1197 = .ok (.ireturn, 1) := by decide +kernel
theorem d_W_law_1198 : decode b_W_law 1198 = .ok (.iload 6, 2) := by decide +kernel
theorem d_W_law_1200 : decode b_W_law 1200 = .ok (.ifCond .ne 15, 3) := by decide +kernel
theorem d_W_law_1203 : decode b_W_law 1203 = .ok (.aload_n 3, 1) := by decide +kernel
theorem d_W_law_1204 : decode b_W_law 1204 = .ok (.iconst 0, 1) := by decide +kernel
theorem d_W_law_1205 : decode b_W_law 1205 = .ok (.laload, 1) := by decide +kernel
theorem d_W_law_1206 : decode b_W_law 1206 = .ok (.iload 7, 2) := by decide +kernel
theorem d_W_law_1208 : decode b_W_law 1208 = .ok (.i2l, 1) := by decide +kernel
theorem d_W_law_1209 : decode b_W_law 1209 = .ok (.lcmp, 1) := by decide +kernel
theorem d_W_law_1210 : decode b_W_law 1210 = .ok (.ifCond .eq 5, 3) := by decide +kernel
end
section
theorem d_W_law_1213 : decode b_W_law 1213 = .ok (.iconst 0, 1) := by decide +kernel
theorem d_W_law_1214 : decode b_W_law 1214 = .ok (.ireturn, 1) := by decide +kernel
theorem d_W_law_1215 : decode b_W_law 1215 = .ok (.goto 216, 3) := by decide +kernel
theorem d_W_law_1218 : decode b_W_law 1218 = .ok (.aload_n 1, 1) := by decide +kernel
theorem d_W_law_1219 : decode b_W_law 1219 = .ok (.aload_n 0, 1) := by decide +kernel
theorem d_W_law_1220 : decode b_W_law 1220 = .ok (.iload 5, 2) := by decide +kernel
theorem d_W_law_1222 : decode b_W_law 1222 = .ok (.iconst 1, 1) := by decide +kernel
theorem d_W_law_1223 : decode b_W_law 1223 = .ok (.iadd, 1) := by decide +kernel
theorem d_W_law_1224 : decode b_W_law 1224 = .ok (.iaload, 1) := by decide +kernel
theorem d_W_law_1225 : decode b_W_law 1225 = .ok (.aload_n 0, 1) := by decide +kernel
theorem d_W_law_1226 : decode b_W_law 1226 = .ok (.iload 5, 2) := by decide +kernel
theorem d_W_law_1228 : decode b_W_law 1228 = .ok (.iconst 2, 1) := by decide +kernel
theorem d_W_law_1229 : decode b_W_law 1229 = .ok (.iadd, 1) := by decide +kernel
theorem d_W_law_1230 : decode b_W_law 1230 = .ok (.iaload, 1) := by decide +kernel
theorem d_W_law_1231 : decode b_W_law 1231 = .ok (.aload 4, 2) := by decide +kernel
theorem d_W_law_1233 : decode b_W_law 1233 = .ok (.invokestatic 133, 3) := by decide +kernel
theorem d_W_law_1236 : decode b_W_law 1236 = .ok (.istore 6, 2) := by decide +kernel
theorem d_W_law_1238 : decode b_W_law 1238 = .ok (.aload_n 2, 1) := by decide +kernel
theorem d_W_law_1239 : decode b_W_law 1239 = .ok (.aload_n 0, 1) := by decide +kernel
theorem d_W_law_1240 : decode b_W_law 1240 = .ok (.iload 5, 2) := by decide +kernel
theorem d_W_law_1242 : decode b_W_law 1242 = .ok (.iconst 1, 1) := by decide +kernel
theorem d_W_law_1243 : decode b_W_law 1243 = .ok (.iadd, 1) := by decide +kernel
theorem d_W_law_1244 : decode b_W_law 1244 = .ok (.iaload, 1) := by decide +kernel
theorem d_W_law_1245 : decode b_W_law 1245 = .ok (.aload_n 0, 1) := by decide +kernel
theorem d_W_law_1246 : decode b_W_law 1246 = .ok (.iload 5, 2) := by decide +kernel
theorem d_W_law_1248 : decode b_W_law 1248 = .ok (.iconst 2, 1) := by decide +kernel
theorem d_W_law_1249 : decode b_W_law 1249 = .ok (.iadd, 1) := by decide +kernel
theorem d_W_law_1250 : decode b_W_law 1250 = .ok (.iaload, 1) := by decide +kernel
theorem d_W_law_1251 : decode b_W_law 1251 = .ok (.invokevirtual 136, 3) := by decide +kernel
theorem d_W_law_1254 : decode b_W_law 1254 = .ok (.dstore 7, 2) := by decide +kernel
theorem d_W_law_1256 : decode b_W_law 1256 = .ok (.aload_n 2, 1) := by decide +kernel
theorem d_W_law_1257 : decode b_W_law 1257 = .ok (.invokevirtual 85, 3) := by decide +kernel
theorem d_W_law_1260 : decode b_W_law 1260 = .ok (.iload 6, 2) := by decide +kernel
theorem d_W_law_1262 : decode b_W_law 1262 = .ok (.if_icmp .eq 5, 3) := by decide +kernel
theorem d_W_law_1265 : decode b_W_law 1265 = .ok (.iconst 0, 1) := by decide +kernel
theorem d_W_law_1266 : decode b_W_law 1266 = .ok (.ireturn, 1) := by decide +kernel
theorem d_W_law_1267 : decode b_W_law 1267 = .ok (.iload 6, 2) := by decide +kernel
theorem d_W_law_1269 : decode b_W_law 1269 = .ok (.ifCond .ne 35, 3) := by decide +kernel
theorem d_W_law_1272 : decode b_W_law 1272 = .ok (.aload 4, 2) := by decide +kernel
theorem d_W_law_1274 : decode b_W_law 1274 = .ok (.iconst 0, 1) := by decide +kernel
theorem d_W_law_1275 : decode b_W_law 1275 = .ok (.daload, 1) := by decide +kernel
theorem d_W_law_1276 : decode b_W_law 1276 = .ok (.dload 7, 2) := by decide +kernel
theorem d_W_law_1278 : decode b_W_law 1278 = .ok (.dcmp .l, 1) := by decide +kernel
theorem d_W_law_1279 : decode b_W_law 1279 = .ok (.ifCond .eq 25, 3) := by decide +kernel
theorem d_W_law_1282 : decode b_W_law 1282 = .ok (.aload 4, 2) := by decide +kernel
theorem d_W_law_1284 : decode b_W_law 1284 = .ok (.iconst 0, 1) := by decide +kernel
theorem d_W_law_1285 : decode b_W_law 1285 = .ok (.daload, 1) := by decide +kernel
theorem d_W_law_1286 : decode b_W_law 1286 = .ok (.aload 4, 2) := by decide +kernel
theorem d_W_law_1288 : decode b_W_law 1288 = .ok (.iconst 0, 1) := by decide +kernel
theorem d_W_law_1289 : decode b_W_law 1289 = .ok (.daload, 1) := by decide +kernel
theorem d_W_law_1290 : decode b_W_law 1290 = .ok (.dcmp .l, 1) := by decide +kernel
theorem d_W_law_1291 : decode b_W_law 1291 = .ok (.ifCond .eq 11, 3) := by decide +kernel
theorem d_W_law_1294 : decode b_W_law 1294 = .ok (.dload 7, 2) := by decide +kernel
theorem d_W_law_1296 : decode b_W_law 1296 = .ok (.dload 7, 2) := by decide +kernel
theorem d_W_law_1298 : decode b_W_law 1298 = .ok (.dcmp .l, 1) := by decide +kernel
theorem d_W_law_1299 : decode b_W_law 1299 = .ok (.ifCond .ne 5, 3) := by decide +kernel
theorem d_W_law_1302 : decode b_W_law 1302 = .ok (.iconst 0, 1) := by decide +kernel
theorem d_W_law_1303 : decode b_W_law 1303 = .ok (.ireturn, 1) := by decide +kernel
theorem d_W_law_1304 : decode b_W_law 1304 = .ok (.goto 127, 3) := by decide +kernel
theorem d_W_law_1307 : decode b_W_law 1307 = .ok (.aload_n 1, 1) := by decide +kernel
theorem d_W_law_1308 : decode b_W_law 1308 = .ok (.aload_n 0, 1) := by decide +kernel
theorem d_W_law_1309 : decode b_W_law 1309 = .ok (.iload 5, 2) := by decide +kernel
theorem d_W_law_1311 : decode b_W_law 1311 = .ok (.iconst 1, 1) := by decide +kernel
theorem d_W_law_1312 : decode b_W_law 1312 = .ok (.iadd, 1) := by decide +kernel
theorem d_W_law_1313 : decode b_W_law 1313 = .ok (.iaload, 1) := by decide +kernel
theorem d_W_law_1314 : decode b_W_law 1314 = .ok (.aload_n 0, 1) := by decide +kernel
theorem d_W_law_1315 : decode b_W_law 1315 = .ok (.iload 5, 2) := by decide +kernel
theorem d_W_law_1317 : decode b_W_law 1317 = .ok (.iconst 2, 1) := by decide +kernel
theorem d_W_law_1318 : decode b_W_law 1318 = .ok (.iadd, 1) := by decide +kernel
theorem d_W_law_1319 : decode b_W_law 1319 = .ok (.iaload, 1) := by decide +kernel
theorem d_W_law_1320 : decode b_W_law 1320 = .ok (.aload_n 3, 1) := by decide +kernel
theorem d_W_law_1321 : decode b_W_law 1321 = .ok (.invokestatic 137, 3) := by decide +kernel
theorem d_W_law_1324 : decode b_W_law 1324 = .ok (.istore 6, 2) := by decide +kernel
theorem d_W_law_1326 : decode b_W_law 1326 = .ok (.aload_n 2, 1) := by decide +kernel
theorem d_W_law_1327 : decode b_W_law 1327 = .ok (.aload_n 0, 1) := by decide +kernel
theorem d_W_law_1328 : decode b_W_law 1328 = .ok (.iload 5, 2) := by decide +kernel
theorem d_W_law_1330 : decode b_W_law 1330 = .ok (.iconst 1, 1) := by decide +kernel
theorem d_W_law_1331 : decode b_W_law 1331 = .ok (.iadd, 1) := by decide +kernel
theorem d_W_law_1332 : decode b_W_law 1332 = .ok (.iaload, 1) := by decide +kernel
theorem d_W_law_1333 : decode b_W_law 1333 = .ok (.aload_n 0, 1) := by decide +kernel
theorem d_W_law_1334 : decode b_W_law 1334 = .ok (.iload 5, 2) := by decide +kernel
theorem d_W_law_1336 : decode b_W_law 1336 = .ok (.iconst 2, 1) := by decide +kernel
theorem d_W_law_1337 : decode b_W_law 1337 = .ok (.iadd, 1) := by decide +kernel
theorem d_W_law_1338 : decode b_W_law 1338 = .ok (.iaload, 1) := by decide +kernel
theorem d_W_law_1339 : decode b_W_law 1339 = .ok (.invokevirtual 139, 3) := by decide +kernel
theorem d_W_law_1342 : decode b_W_law 1342 = .ok (.istore 7, 2) := by decide +kernel
theorem d_W_law_1344 : decode b_W_law 1344 = .ok (.aload_n 2, 1) := by decide +kernel
theorem d_W_law_1345 : decode b_W_law 1345 = .ok (.invokevirtual 85, 3) := by decide +kernel
theorem d_W_law_1348 : decode b_W_law 1348 = .ok (.iload 6, 2) := by decide +kernel
theorem d_W_law_1350 : decode b_W_law 1350 = .ok (.if_icmp .eq 5, 3) := by decide +kernel
theorem d_W_law_1353 : decode b_W_law 1353 = .ok (.iconst 0, 1) := by decide +kernel
theorem d_W_law_1354 : decode b_W_law 1354 = .ok (.ireturn, 1) := by decide +kernel
theorem d_W_law_1355 : decode b_W_law 1355 = .ok (.iload 6, 2) := by decide +kernel
theorem d_W_law_1357 : decode b_W_law 1357 = .ok (.ifCond .ne 15, 3) := by decide +kernel
theorem d_W_law_1360 : decode b_W_law 1360 = .ok (.aload_n 3, 1) := by decide +kernel
theorem d_W_law_1361 : decode b_W_law 1361 = .ok (.iconst 0, 1) := by decide +kernel
theorem d_W_law_1362 : decode b_W_law 1362 = .ok (.laload, 1) := by decide +kernel
theorem d_W_law_1363 : decode b_W_law 1363 = .ok (.iload 7, 2) := by decide +kernel
theorem d_W_law_1365 : decode b_W_law 1365 = .ok (.i2l, 1) := by decide +kernel
theorem d_W_law_1366 : decode b_W_law 1366 = .ok (.lcmp, 1) := by decide +kernel
theorem d_W_law_1367 : decode b_W_law 1367 = .ok (.ifCond .eq 5, 3) := by decide +kernel
theorem d_W_law_1370 : decode b_W_law 1370 = .ok (.iconst 0, 1) := by decide +kernel
theorem d_W_law_1371 : decode b_W_law 1371 = .ok (.ireturn, 1) := by decide +kernel
theorem d_W_law_1372 : decode b_W_law 1372 = .ok (.goto 59, 3) := by decide +kernel
theorem d_W_law_1375 : decode b_W_law 1375 = .ok (.aload_n 1, 1) := by decide +kernel
theorem d_W_law_1376 : decode b_W_law 1376 = .ok (.aload_n 0, 1) := by decide +kernel
theorem d_W_law_1377 : decode b_W_law 1377 = .ok (.iload 5, 2) := by decide +kernel
theorem d_W_law_1379 : decode b_W_law 1379 = .ok (.iconst 1, 1) := by decide +kernel
theorem d_W_law_1380 : decode b_W_law 1380 = .ok (.iadd, 1) := by decide +kernel
theorem d_W_law_1381 : decode b_W_law 1381 = .ok (.iaload, 1) := by decide +kernel
theorem d_W_law_1382 : decode b_W_law 1382 = .ok (.aload_n 3, 1) := by decide +kernel
theorem d_W_law_1383 : decode b_W_law 1383 = .ok (.invokestatic 140, 3) := by decide +kernel
theorem d_W_law_1386 : decode b_W_law 1386 = .ok (.istore 6, 2) := by decide +kernel
theorem d_W_law_1388 : decode b_W_law 1388 = .ok (.aload_n 2, 1) := by decide +kernel
theorem d_W_law_1389 : decode b_W_law 1389 = .ok (.aload_n 0, 1) := by decide +kernel
theorem d_W_law_1390 : decode b_W_law 1390 = .ok (.iload 5, 2) := by decide +kernel
theorem d_W_law_1392 : decode b_W_law 1392 = .ok (.iconst 1, 1) := by decide +kernel
theorem d_W_law_1393 : decode b_W_law 1393 = .ok (.iadd, 1) := by decide +kernel
theorem d_W_law_1394 : decode b_W_law 1394 = .ok (.iaload, 1) := by decide +kernel
theorem d_W_law_1395 : decode b_W_law 1395 = .ok (.invokevirtual 142, 3) := by decide +kernel
theorem d_W_law_1398 : decode b_W_law 1398 = .ok (.istore 7, 2) := by decide +kernel
theorem d_W_law_1400 : decode b_W_law 1400 = .ok (.aload_n 2, 1) := by decide +kernel
theorem d_W_law_1401 : decode b_W_law 1401 = .ok (.invokevirtual 85, 3) := by decide +kernel
theorem d_W_law_1404 : decode b_W_law 1404 = .ok (.iload 6, 2) := by decide +kernel
theorem d_W_law_1406 : decode b_W_law 1406 = .ok (.if_icmp .eq 5, 3) := by decide +kernel
theorem d_W_law_1409 : decode b_W_law 1409 = .ok (.iconst 0, 1) := by decide +kernel
theorem d_W_law_1410 : decode b_W_law 1410 = .ok (.ireturn, 1) := by decide +kernel
theorem d_W_law_1411 : decode b_W_law 1411 = .ok (.iload 6, 2) := by decide +kernel
theorem d_W_law_1413 : decode b_W_law 1413 = .ok (.ifCond .ne 15, 3) := by decide +kernel
theorem d_W_law_1416 : decode b_W_law 1416 = .ok (.aload_n 3, 1) := by decide +kernel
theorem d_W_law_1417 : decode b_W_law 1417 = .ok (.iconst 0, 1) := by decide +kernel
theorem d_W_law_1418 : decode b_W_law 1418 = .ok (.laload, 1) := by decide +kernel
theorem d_W_law_1419 : decode b_W_law 1419 = .ok (.iload 7, 2) := by decide +kernel
theorem d_W_law_1421 : decode b_W_law 1421 = .ok (.i2l, 1) := by decide +kernel
theorem d_W_law_1422 : decode b_W_law 1422 = .ok (.lcmp, 1) := by decide +kernel
theorem d_W_law_1423 : decode b_W_law 1423 = .ok (.ifCond .eq 5, 3) := by decide +kernel
theorem d_W_law_1426 : decode b_W_law 1426 = .ok (.iconst 0, 1) := by decide +kernel
theorem d_W_law_1427 : decode b_W_law 1427 = .ok (.ireturn, 1) := by decide +kernel
theorem d_W_law_1428 : decode b_W_law 1428 = .ok (.goto 3, 3) := by decide +kernel
theorem d_W_law_1431 : decode b_W_law 1431 = .ok (.iinc 5 5, 3) := by decide +kernel
theorem d_W_law_1434 : decode b_W_law 1434 = .ok (.goto (-1406), 3) := by decide +kernel
theorem d_W_law_1437 : decode b_W_law 1437 = .ok (.iconst 1, 1) := by decide +kernel
theorem d_W_law_1438 : decode b_W_law 1438 = .ok (.ireturn, 1) := by decide +kernel
end
section
/-! a world by an index: N cells at the addresses ad 0 .. ad (N-1), with what w says of each place -/
def fw (N : Nat) (ad : Nat → Nat) (w : Nat → va_E) : va_W := (List.range N).map (fun i => (ad i, w i))
theorem fw_at {N : Nat} {ad : Nat → Nat} {w : Nat → va_E} {k : Nat} (hk : k < N) : (fw N ad w)[k]? = some (ad k, w k) := by
  simp [fw, hk]
theorem fw_at' {N : Nat} {ad : Nat → Nat} {w : Nat → va_E} {k : Nat} {e : va_E} (hk : k < N) (he : w k = e) : (fw N ad w)[k]? = some (ad k, e) := by
  rw [fw_at hk, he]
theorem fw_len {N : Nat} {ad : Nat → Nat} {w : Nat → va_E} : (fw N ad w).length = N := by simp [fw]
theorem fw_set {N : Nat} {ad : Nat → Nat} {w : Nat → va_E} {k : Nat} {e : va_E} (w' : Nat → va_E) (h : ∀ i, i < N → w' i = if i = k then e else w i) : (fw N ad w).set k (ad k, e) = fw N ad w' := by
  apply List.ext_getElem?
  intro j
  by_cases hj : j < N
  · rw [fw_at hj]
    by_cases hk : j = k
    · subst hk
      rw [List.getElem?_set_self (by rw [fw_len]; exact hj), h j hj, if_pos rfl]
    · rw [List.getElem?_set_ne (Ne.symm hk), fw_at hj, h j hj, if_neg hk]
  · rw [List.getElem?_eq_none (by rw [List.length_set, fw_len]; omega), List.getElem?_eq_none (by rw [fw_len]; omega)]
theorem fw_congr {N : Nat} {ad ad' : Nat → Nat} {w w' : Nat → va_E} (ha : ∀ i, i < N → ad i = ad' i) (h : ∀ i, i < N → w i = w' i) : fw N ad w = fw N ad' w' := by
  unfold fw
  apply List.map_congr_left
  intro i hi
  have hi := List.mem_range.mp hi
  rw [ha i hi, h i hi]

/-- a memory: ints and doubles by component and place -/
abbrev Mem : Type := (Nat → Nat → Int32) × (Nat → Nat → UInt64)
def gI (t : Mem) (k j : Nat) : Int32 := t.1 k j
def gD (t : Mem) (k j : Nat) : UInt64 := t.2 k j
def pI (t : Mem) (k j : Nat) (v : Int32) : Mem := (fun k2 j2 => if k2 = k ∧ j2 = j then v else t.1 k2 j2, t.2)
def pD (t : Mem) (k j : Nat) (v : UInt64) : Mem := (t.1, fun k2 j2 => if k2 = k ∧ j2 = j then v else t.2 k2 j2)
theorem gI_pI (t : Mem) (k j k2 j2 : Nat) (v : Int32) : gI (pI t k j v) k2 j2 = if k2 = k ∧ j2 = j then v else gI t k2 j2 := rfl
theorem gI_pD (t : Mem) (k j k2 j2 : Nat) (v : UInt64) : gI (pD t k j v) k2 j2 = gI t k2 j2 := rfl
theorem gD_pI (t : Mem) (k j k2 j2 : Nat) (v : Int32) : gD (pI t k j v) k2 j2 = gD t k2 j2 := rfl
theorem gD_pD (t : Mem) (k j k2 j2 : Nat) (v : UInt64) : gD (pD t k j v) k2 j2 = if k2 = k ∧ j2 = j then v else gD t k2 j2 := rfl
def T_L : u_T := fun k => match k with
  | 0 => ("ListForge$MailingList", "number", "I", true)
  | 1 => ("ListForge$MailingList", "subscriptions", "[LListForge$Subscription;", true)
  | 2 => ("ListForge$MailingList", "banned", "[Z", true)
  | 3 => ("ListForge$MailingList", "barred", "[Z", true)
  | 4 => ("ListForge$MailingList", "open", "Z", false)
  | 5 => ("ListForge$MailingList", "watched", "Z", false)
  | 6 => ("ListForge$MailingList", "greatest", "I", false)
  | 7 => ("ListForge$MailingList", "full", "I", false)
  | 8 => ("ListForge$MailingList", "best", "D", false)
  | 9 => ("ListForge$MailingList", "bundlePosts", "I", false)
  | 10 => ("ListForge$MailingList", "bundleSizes", "I", false)
  | _ => ("ListForge$MailingList", "bundleSince", "I", false)
def t_L : Nat → FieldType := fun k => match k with
  | 0 => .int
  | 1 => .array (.object "ListForge$Subscription")
  | 2 => .array .boolean
  | 3 => .array .boolean
  | 4 => .boolean
  | 5 => .boolean
  | 6 => .int
  | 7 => .int
  | 8 => .double
  | 9 => .int
  | 10 => .int
  | _ => .int
theorem n_L : ∀ a, a < 12 → ∀ b, b < 12 → a ≠ b → (T_L a).2.1 ≠ (T_L b).2.1 := by decide +kernel
theorem t_L_ok : ∀ k, k < 12 → parseFieldDescriptor (T_L k).2.2.1 = some (t_L k) := by decide +kernel
theorem in_L {c0 : Cond} : ∀ w ∈ u_ws "ListForge$MailingList" T_L 12, w ∈ c0 :: big := fun w h => List.mem_cons_of_mem _ ((show ∀ w ∈ u_ws "ListForge$MailingList" T_L 12, w ∈ big by decide +kernel) w h)
def T_O : u_T := fun k => match k with
  | 0 => ("ListForge$Outbox", "addresses", "[I", true)
  | 1 => ("ListForge$Outbox", "lists", "[I", true)
  | 2 => ("ListForge$Outbox", "sorts", "[I", true)
  | 3 => ("ListForge$Outbox", "numbers", "[I", true)
  | 4 => ("ListForge$Outbox", "kept", "I", false)
  | _ => ("ListForge$Outbox", "total", "I", false)
def t_O : Nat → FieldType := fun k => match k with
  | 0 => .array .int
  | 1 => .array .int
  | 2 => .array .int
  | 3 => .array .int
  | 4 => .int
  | _ => .int
theorem n_O : ∀ a, a < 6 → ∀ b, b < 6 → a ≠ b → (T_O a).2.1 ≠ (T_O b).2.1 := by decide +kernel
theorem t_O_ok : ∀ k, k < 6 → parseFieldDescriptor (T_O k).2.2.1 = some (t_O k) := by decide +kernel
theorem in_O {c0 : Cond} : ∀ w ∈ u_ws "ListForge$Outbox" T_O 6, w ∈ c0 :: big := fun w h => List.mem_cons_of_mem _ ((show ∀ w ∈ u_ws "ListForge$Outbox" T_O 6, w ∈ big by decide +kernel) w h)
def T_P : u_T := fun k => match k with
  | 0 => ("ListForge$Post", "list", "I", false)
  | 1 => ("ListForge$Post", "sender", "I", false)
  | 2 => ("ListForge$Post", "size", "I", false)
  | _ => ("ListForge$Post", "fate", "I", false)
def t_P : Nat → FieldType := fun k => match k with
  | 0 => .int
  | 1 => .int
  | 2 => .int
  | _ => .int
theorem n_P : ∀ a, a < 4 → ∀ b, b < 4 → a ≠ b → (T_P a).2.1 ≠ (T_P b).2.1 := by decide +kernel
theorem t_P_ok : ∀ k, k < 4 → parseFieldDescriptor (T_P k).2.2.1 = some (t_P k) := by decide +kernel
theorem in_P {c0 : Cond} : ∀ w ∈ u_ws "ListForge$Post" T_P 4, w ∈ c0 :: big := fun w h => List.mem_cons_of_mem _ ((show ∀ w ∈ u_ws "ListForge$Post" T_P 4, w ∈ big by decide +kernel) w h)
def T_S : u_T := fun k => match k with
  | 0 => ("ListForge$Subscription", "state", "I", false)
  | 1 => ("ListForge$Subscription", "way", "I", false)
  | 2 => ("ListForge$Subscription", "code", "I", false)
  | 3 => ("ListForge$Subscription", "since", "I", false)
  | 4 => ("ListForge$Subscription", "warning", "I", false)
  | 5 => ("ListForge$Subscription", "bounceDay", "I", false)
  | 6 => ("ListForge$Subscription", "moderates", "Z", false)
  | _ => ("ListForge$Subscription", "score", "D", false)
def t_S : Nat → FieldType := fun k => match k with
  | 0 => .int
  | 1 => .int
  | 2 => .int
  | 3 => .int
  | 4 => .int
  | 5 => .int
  | 6 => .boolean
  | _ => .double
theorem n_S : ∀ a, a < 8 → ∀ b, b < 8 → a ≠ b → (T_S a).2.1 ≠ (T_S b).2.1 := by decide +kernel
theorem t_S_ok : ∀ k, k < 8 → parseFieldDescriptor (T_S k).2.2.1 = some (t_S k) := by decide +kernel
theorem in_S {c0 : Cond} : ∀ w ∈ u_ws "ListForge$Subscription" T_S 8, w ∈ c0 :: big := fun w h => List.mem_cons_of_mem _ ((show ∀ w ∈ u_ws "ListForge$Subscription" T_S 8, w ∈ big by decide +kernel) w h)
def T_F : u_T := fun k => match k with
  | 0 => ("ListForge", "lists", "[LListForge$MailingList;", true)
  | 1 => ("ListForge", "posts", "[LListForge$Post;", true)
  | 2 => ("ListForge", "outbox", "LListForge$Outbox;", true)
  | 3 => ("ListForge", "postCount", "I", false)
  | 4 => ("ListForge", "askedBefore", "I", false)
  | _ => ("ListForge", "today", "I", false)
def t_F : Nat → FieldType := fun k => match k with
  | 0 => .array (.object "ListForge$MailingList")
  | 1 => .array (.object "ListForge$Post")
  | 2 => .object "ListForge$Outbox"
  | 3 => .int
  | 4 => .int
  | _ => .int
theorem n_F : ∀ a, a < 6 → ∀ b, b < 6 → a ≠ b → (T_F a).2.1 ≠ (T_F b).2.1 := by decide +kernel
theorem t_F_ok : ∀ k, k < 6 → parseFieldDescriptor (T_F k).2.2.1 = some (t_F k) := by decide +kernel
theorem in_F {c0 : Cond} : ∀ w ∈ u_ws "ListForge" T_F 6, w ∈ c0 :: big := fun w h => List.mem_cons_of_mem _ ((show ∀ w ∈ u_ws "ListForge" T_F 6, w ∈ big by decide +kernel) w h)
/-- the classes whose objects the worlds hold -/
abbrev cls : List vw_C := [("ListForge$MailingList", T_L, 12), ("ListForge$Outbox", T_O, 6), ("ListForge$Post", T_P, 4), ("ListForge$Subscription", T_S, 8), ("ListForge", T_F, 6)]
/-- the class's world: what lies at each of its 96 places, out of a memory -/
def cE (ad : Nat → Nat) (ka : Nat → ClassId) (t : Mem) (i : Nat) : va_E :=
  if i = 0 then .inr (4, [.ref (ad 1), .ref (ad 2), .ref (ad 3), .int (gI t 30 0), .int (gI t 31 0), .int (gI t 32 0)])
  else if i = 1 then .inl (ka 2, 3, .inr (.inr (.inr (.inr (fun q => some (ad (8 + q)))))))
  else if i = 2 then .inl (ka 4, 40, .inr (.inr (.inr (.inr (fun q => some (ad (20 + q)))))))
  else if i = 3 then .inr (1, [.ref (ad 4), .ref (ad 5), .ref (ad 6), .ref (ad 7), .int (gI t 28 0), .int (gI t 29 0)])
  else if i < 8 then .inl (ka 0, 60, .inl (fun q => gI t (1000 + i) q))
  else if i < 11 then .inr (0, [.int (nI (i - 8)), .ref (ad (11 + (i - 8))), .ref (ad (14 + (i - 8))), .ref (ad (17 + (i - 8))), .int (gI t 10 (i - 8)), .int (gI t 11 (i - 8)), .int (gI t 12 (i - 8)), .int (gI t 13 (i - 8)), .double (gD t 1 (i - 8)), .int (gI t 14 (i - 8)), .int (gI t 15 (i - 8)), .int (gI t 16 (i - 8))])
  else if i < 14 then .inl (ka 3, 12, .inr (.inr (.inr (.inr (fun q => some (ad (60 + (12 * (i - 11) + q))))))))
  else if i < 17 then .inl (ka 1, 12, .inl (fun q => gI t (1000 + i) q))
  else if i < 20 then .inl (ka 1, 10, .inl (fun q => gI t (1000 + i) q))
  else if i < 60 then .inr (2, [.int (gI t 20 (i - 20)), .int (gI t 21 (i - 20)), .int (gI t 22 (i - 20)), .int (gI t 23 (i - 20))])
  else .inr (3, [.int (gI t 0 (i - 60)), .int (gI t 1 (i - 60)), .int (gI t 2 (i - 60)), .int (gI t 3 (i - 60)), .int (gI t 4 (i - 60)), .int (gI t 5 (i - 60)), .int (gI t 6 (i - 60)), .double (gD t 0 (i - 60))])
def cw (ad : Nat → Nat) (ka : Nat → ClassId) (t : Mem) : va_W := fw 96 ad (cE ad ka t)
abbrev cT (ka : Nat → ClassId) : List (ClassId × FieldType) := [(ka 0, .int), (ka 1, .boolean), (ka 2, .object "ListForge$MailingList"), (ka 3, .object "ListForge$Subscription"), (ka 4, .object "ListForge$Post")]
/-- which cells a method of the class may change -/
def AX (ad : Nat → Nat) (sz : Nat) : Nat → Prop := fun q => (∃ i, i < 96 ∧ q = ad i) ∨ sz ≤ q
theorem AX_D {ad : Nat → Nat} {ka : Nat → ClassId} {t : Mem} {A : Nat → Prop} {sz : Nat} (h : va_D A (cw ad ka t)) : va_D (AX ad sz) (cw ad ka t) := by
  refine ⟨h.1, fun k q hk => ?_⟩
  have hl := (List.getElem?_eq_some_iff.mp hk).1
  rw [cw, fw_len] at hl
  rw [cw, fw_at hl] at hk
  cases hk
  exact Or.inl ⟨k, hl, rfl⟩
theorem AX_up {ad : Nat → Nat} {a b : Nat} (h : a ≤ b) : ∀ q, AX ad b q → AX ad a q := fun _ hq => hq.elim Or.inl (fun z => Or.inr (Nat.le_trans h z))
theorem AX_new {ad : Nat → Nat} {sz : Nat} : ∀ q : Nat, sz ≤ q → AX ad sz q := fun _ h => Or.inr h
-- what lies where
theorem at_F {ad : Nat → Nat} {ka : Nat → ClassId} {t : Mem}  : (cw ad ka t)[0]? = some (ad (0), .inr (4, [.ref (ad 1), .ref (ad 2), .ref (ad 3), .int (gI t 30 0), .int (gI t 31 0), .int (gI t 32 0)])) := fw_at' (by omega) (by unfold cE; rw [if_pos rfl])
theorem at_lists {ad : Nat → Nat} {ka : Nat → ClassId} {t : Mem}  : (cw ad ka t)[1]? = some (ad (1), .inl (ka 2, 3, .inr (.inr (.inr (.inr (fun q => some (ad (8 + q)))))))) := fw_at' (by omega) (by unfold cE; rw [if_neg (by omega)]; rw [if_pos rfl])
theorem at_posts {ad : Nat → Nat} {ka : Nat → ClassId} {t : Mem}  : (cw ad ka t)[2]? = some (ad (2), .inl (ka 4, 40, .inr (.inr (.inr (.inr (fun q => some (ad (20 + q)))))))) := fw_at' (by omega) (by unfold cE; rw [if_neg (by omega)]; rw [if_neg (by omega)]; rw [if_pos rfl])
theorem at_O {ad : Nat → Nat} {ka : Nat → ClassId} {t : Mem}  : (cw ad ka t)[3]? = some (ad (3), .inr (1, [.ref (ad 4), .ref (ad 5), .ref (ad 6), .ref (ad 7), .int (gI t 28 0), .int (gI t 29 0)])) := fw_at' (by omega) (by unfold cE; rw [if_neg (by omega)]; rw [if_neg (by omega)]; rw [if_neg (by omega)]; rw [if_pos rfl])
theorem at_out {ad : Nat → Nat} {ka : Nat → ClassId} {t : Mem} {u : Nat} (hu : u < 4) : (cw ad ka t)[4 + u]? = some (ad (4 + u), .inl (ka 0, 60, .inl (fun q => gI t (1004 + u) q))) := fw_at' (by omega) (by unfold cE; rw [if_neg (by omega)]; rw [if_neg (by omega)]; rw [if_neg (by omega)]; rw [if_neg (by omega)]; rw [if_pos (by omega), show 1000 + (4 + u) = 1004 + u by omega])
theorem at_L {ad : Nat → Nat} {ka : Nat → ClassId} {t : Mem} {u : Nat} (hu : u < 3) : (cw ad ka t)[8 + u]? = some (ad (8 + u), .inr (0, [.int (nI u), .ref (ad (11 + u)), .ref (ad (14 + u)), .ref (ad (17 + u)), .int (gI t 10 u), .int (gI t 11 u), .int (gI t 12 u), .int (gI t 13 u), .double (gD t 1 u), .int (gI t 14 u), .int (gI t 15 u), .int (gI t 16 u)])) := fw_at' (by omega) (by unfold cE; rw [if_neg (by omega)]; rw [if_neg (by omega)]; rw [if_neg (by omega)]; rw [if_neg (by omega)]; rw [if_neg (by omega)]; rw [if_pos (by omega), show 8 + u - 8 = u by omega])
theorem at_subs {ad : Nat → Nat} {ka : Nat → ClassId} {t : Mem} {u : Nat} (hu : u < 3) : (cw ad ka t)[11 + u]? = some (ad (11 + u), .inl (ka 3, 12, .inr (.inr (.inr (.inr (fun q => some (ad (60 + (12 * u + q))))))))) := fw_at' (by omega) (by unfold cE; rw [if_neg (by omega)]; rw [if_neg (by omega)]; rw [if_neg (by omega)]; rw [if_neg (by omega)]; rw [if_neg (by omega)]; rw [if_neg (by omega)]; rw [if_pos (by omega), show 11 + u - 11 = u by omega])
theorem at_P {ad : Nat → Nat} {ka : Nat → ClassId} {t : Mem} {u : Nat} (hu : u < 40) : (cw ad ka t)[20 + u]? = some (ad (20 + u), .inr (2, [.int (gI t 20 u), .int (gI t 21 u), .int (gI t 22 u), .int (gI t 23 u)])) := fw_at' (by omega) (by unfold cE; rw [if_neg (by omega)]; rw [if_neg (by omega)]; rw [if_neg (by omega)]; rw [if_neg (by omega)]; rw [if_neg (by omega)]; rw [if_neg (by omega)]; rw [if_neg (by omega)]; rw [if_neg (by omega)]; rw [if_neg (by omega)]; rw [if_pos (by omega), show 20 + u - 20 = u by omega])
theorem at_ban {ad : Nat → Nat} {ka : Nat → ClassId} {t : Mem} {u : Nat} (hu : u < 3) : (cw ad ka t)[14 + u]? = some (ad (14 + u), .inl (ka 1, 12, .inl (fun q => gI t (1014 + u) q))) := fw_at' (by omega) (by unfold cE; rw [if_neg (by omega)]; rw [if_neg (by omega)]; rw [if_neg (by omega)]; rw [if_neg (by omega)]; rw [if_neg (by omega)]; rw [if_neg (by omega)]; rw [if_neg (by omega)]; rw [if_pos (by omega), show 1000 + (14 + u) = 1014 + u by omega])
theorem at_bar {ad : Nat → Nat} {ka : Nat → ClassId} {t : Mem} {u : Nat} (hu : u < 3) : (cw ad ka t)[17 + u]? = some (ad (17 + u), .inl (ka 1, 10, .inl (fun q => gI t (1017 + u) q))) := fw_at' (by omega) (by unfold cE; rw [if_neg (by omega)]; rw [if_neg (by omega)]; rw [if_neg (by omega)]; rw [if_neg (by omega)]; rw [if_neg (by omega)]; rw [if_neg (by omega)]; rw [if_neg (by omega)]; rw [if_neg (by omega)]; rw [if_pos (by omega), show 1000 + (17 + u) = 1017 + u by omega])
theorem at_S {ad : Nat → Nat} {ka : Nat → ClassId} {t : Mem} {u : Nat} (hu : u < 36) : (cw ad ka t)[60 + u]? = some (ad (60 + u), .inr (3, [.int (gI t 0 u), .int (gI t 1 u), .int (gI t 2 u), .int (gI t 3 u), .int (gI t 4 u), .int (gI t 5 u), .int (gI t 6 u), .double (gD t 0 u)])) := fw_at' (by omega) (by unfold cE; rw [if_neg (by omega)]; rw [if_neg (by omega)]; rw [if_neg (by omega)]; rw [if_neg (by omega)]; rw [if_neg (by omega)]; rw [if_neg (by omega)]; rw [if_neg (by omega)]; rw [if_neg (by omega)]; rw [if_neg (by omega)]; rw [if_neg (by omega)]; rw [show 60 + u - 60 = u by omega])
-- a write into a cell is a write into the memory
-- a write into a cell is a write into the memory
theorem s_F_postCount {ad : Nat → Nat} {ka : Nat → ClassId} {t : Mem} {v : Int32} : (cw ad ka t).set (0) (ad (0), .inr (4, ([.ref (ad 1), .ref (ad 2), .ref (ad 3), .int (gI t 30 0), .int (gI t 31 0), .int (gI t 32 0)] : List Value).set 3 (.int v))) = cw ad ka (pI t 30 0 v) := by
  refine fw_set _ ?_
  intro i hi
  by_cases h : i = 0
  · subst h
    rw [if_pos rfl]
    have h2 := fw_at' (N := 96) (ad := ad) (w := cE ad ka (pI t 30 0 v)) (k := 0) (by omega) rfl
    rw [show fw 96 ad (cE ad ka (pI t 30 0 v)) = cw ad ka (pI t 30 0 v) from rfl, at_F] at h2
    have h3 := (Prod.mk.inj (Option.some.inj h2)).2
    rw [← h3]
    simp [gI_pI, gI_pD, gD_pI, gD_pD]
  · rw [if_neg h]
    unfold cE
    simp [gI_pI, gI_pD, gD_pI, gD_pD, show ¬ (1000 + i = 30) by omega, h]
theorem s_F_askedBefore {ad : Nat → Nat} {ka : Nat → ClassId} {t : Mem} {v : Int32} : (cw ad ka t).set (0) (ad (0), .inr (4, ([.ref (ad 1), .ref (ad 2), .ref (ad 3), .int (gI t 30 0), .int (gI t 31 0), .int (gI t 32 0)] : List Value).set 4 (.int v))) = cw ad ka (pI t 31 0 v) := by
  refine fw_set _ ?_
  intro i hi
  by_cases h : i = 0
  · subst h
    rw [if_pos rfl]
    have h2 := fw_at' (N := 96) (ad := ad) (w := cE ad ka (pI t 31 0 v)) (k := 0) (by omega) rfl
    rw [show fw 96 ad (cE ad ka (pI t 31 0 v)) = cw ad ka (pI t 31 0 v) from rfl, at_F] at h2
    have h3 := (Prod.mk.inj (Option.some.inj h2)).2
    rw [← h3]
    simp [gI_pI, gI_pD, gD_pI, gD_pD]
  · rw [if_neg h]
    unfold cE
    simp [gI_pI, gI_pD, gD_pI, gD_pD, show ¬ (1000 + i = 31) by omega, h]
theorem s_F_today {ad : Nat → Nat} {ka : Nat → ClassId} {t : Mem} {v : Int32} : (cw ad ka t).set (0) (ad (0), .inr (4, ([.ref (ad 1), .ref (ad 2), .ref (ad 3), .int (gI t 30 0), .int (gI t 31 0), .int (gI t 32 0)] : List Value).set 5 (.int v))) = cw ad ka (pI t 32 0 v) := by
  refine fw_set _ ?_
  intro i hi
  by_cases h : i = 0
  · subst h
    rw [if_pos rfl]
    have h2 := fw_at' (N := 96) (ad := ad) (w := cE ad ka (pI t 32 0 v)) (k := 0) (by omega) rfl
    rw [show fw 96 ad (cE ad ka (pI t 32 0 v)) = cw ad ka (pI t 32 0 v) from rfl, at_F] at h2
    have h3 := (Prod.mk.inj (Option.some.inj h2)).2
    rw [← h3]
    simp [gI_pI, gI_pD, gD_pI, gD_pD]
  · rw [if_neg h]
    unfold cE
    simp [gI_pI, gI_pD, gD_pI, gD_pD, show ¬ (1000 + i = 32) by omega, h]
theorem s_O_kept {ad : Nat → Nat} {ka : Nat → ClassId} {t : Mem} {v : Int32} : (cw ad ka t).set (3) (ad (3), .inr (1, ([.ref (ad 4), .ref (ad 5), .ref (ad 6), .ref (ad 7), .int (gI t 28 0), .int (gI t 29 0)] : List Value).set 4 (.int v))) = cw ad ka (pI t 28 0 v) := by
  refine fw_set _ ?_
  intro i hi
  by_cases h : i = 3
  · subst h
    rw [if_pos rfl]
    have h2 := fw_at' (N := 96) (ad := ad) (w := cE ad ka (pI t 28 0 v)) (k := 3) (by omega) rfl
    rw [show fw 96 ad (cE ad ka (pI t 28 0 v)) = cw ad ka (pI t 28 0 v) from rfl, at_O] at h2
    have h3 := (Prod.mk.inj (Option.some.inj h2)).2
    rw [← h3]
    simp [gI_pI, gI_pD, gD_pI, gD_pD]
  · rw [if_neg h]
    unfold cE
    simp [gI_pI, gI_pD, gD_pI, gD_pD, show ¬ (1000 + i = 28) by omega, h]
theorem s_O_total {ad : Nat → Nat} {ka : Nat → ClassId} {t : Mem} {v : Int32} : (cw ad ka t).set (3) (ad (3), .inr (1, ([.ref (ad 4), .ref (ad 5), .ref (ad 6), .ref (ad 7), .int (gI t 28 0), .int (gI t 29 0)] : List Value).set 5 (.int v))) = cw ad ka (pI t 29 0 v) := by
  refine fw_set _ ?_
  intro i hi
  by_cases h : i = 3
  · subst h
    rw [if_pos rfl]
    have h2 := fw_at' (N := 96) (ad := ad) (w := cE ad ka (pI t 29 0 v)) (k := 3) (by omega) rfl
    rw [show fw 96 ad (cE ad ka (pI t 29 0 v)) = cw ad ka (pI t 29 0 v) from rfl, at_O] at h2
    have h3 := (Prod.mk.inj (Option.some.inj h2)).2
    rw [← h3]
    simp [gI_pI, gI_pD, gD_pI, gD_pD]
  · rw [if_neg h]
    unfold cE
    simp [gI_pI, gI_pD, gD_pI, gD_pD, show ¬ (1000 + i = 29) by omega, h]
theorem s_L_open {ad : Nat → Nat} {ka : Nat → ClassId} {t : Mem} {u : Nat} (hu : u < 3) {v : Int32} : (cw ad ka t).set (8 + u) (ad (8 + u), .inr (0, ([.int (nI u), .ref (ad (11 + u)), .ref (ad (14 + u)), .ref (ad (17 + u)), .int (gI t 10 u), .int (gI t 11 u), .int (gI t 12 u), .int (gI t 13 u), .double (gD t 1 u), .int (gI t 14 u), .int (gI t 15 u), .int (gI t 16 u)] : List Value).set 4 (.int v))) = cw ad ka (pI t 10 u v) := by
  refine fw_set _ ?_
  intro i hi
  by_cases h : i = 8 + u
  · subst h
    rw [if_pos rfl]
    have h2 := fw_at' (N := 96) (ad := ad) (w := cE ad ka (pI t 10 u v)) (k := 8 + u) (by omega) rfl
    rw [show fw 96 ad (cE ad ka (pI t 10 u v)) = cw ad ka (pI t 10 u v) from rfl, at_L hu] at h2
    have h3 := (Prod.mk.inj (Option.some.inj h2)).2
    rw [← h3]
    simp [gI_pI, gI_pD, gD_pI, gD_pD]
  · rw [if_neg h]
    unfold cE
    rcases (show i < 8 ∨ 11 ≤ i ∨ (8 ≤ i ∧ i < 11) by omega) with q | q | q
    · simp [gI_pI, gI_pD, gD_pI, gD_pD, show ¬ (1000 + i = 10) by omega, q]
    · simp [gI_pI, gI_pD, gD_pI, gD_pD, show ¬ (1000 + i = 10) by omega, show ¬ i < 11 by omega]
    · simp [gI_pI, gI_pD, gD_pI, gD_pD, show ¬ (1000 + i = 10) by omega, show ¬ (i - 8 = u) by omega]
theorem s_L_watched {ad : Nat → Nat} {ka : Nat → ClassId} {t : Mem} {u : Nat} (hu : u < 3) {v : Int32} : (cw ad ka t).set (8 + u) (ad (8 + u), .inr (0, ([.int (nI u), .ref (ad (11 + u)), .ref (ad (14 + u)), .ref (ad (17 + u)), .int (gI t 10 u), .int (gI t 11 u), .int (gI t 12 u), .int (gI t 13 u), .double (gD t 1 u), .int (gI t 14 u), .int (gI t 15 u), .int (gI t 16 u)] : List Value).set 5 (.int v))) = cw ad ka (pI t 11 u v) := by
  refine fw_set _ ?_
  intro i hi
  by_cases h : i = 8 + u
  · subst h
    rw [if_pos rfl]
    have h2 := fw_at' (N := 96) (ad := ad) (w := cE ad ka (pI t 11 u v)) (k := 8 + u) (by omega) rfl
    rw [show fw 96 ad (cE ad ka (pI t 11 u v)) = cw ad ka (pI t 11 u v) from rfl, at_L hu] at h2
    have h3 := (Prod.mk.inj (Option.some.inj h2)).2
    rw [← h3]
    simp [gI_pI, gI_pD, gD_pI, gD_pD]
  · rw [if_neg h]
    unfold cE
    rcases (show i < 8 ∨ 11 ≤ i ∨ (8 ≤ i ∧ i < 11) by omega) with q | q | q
    · simp [gI_pI, gI_pD, gD_pI, gD_pD, show ¬ (1000 + i = 11) by omega, q]
    · simp [gI_pI, gI_pD, gD_pI, gD_pD, show ¬ (1000 + i = 11) by omega, show ¬ i < 11 by omega]
    · simp [gI_pI, gI_pD, gD_pI, gD_pD, show ¬ (1000 + i = 11) by omega, show ¬ (i - 8 = u) by omega]
theorem s_L_greatest {ad : Nat → Nat} {ka : Nat → ClassId} {t : Mem} {u : Nat} (hu : u < 3) {v : Int32} : (cw ad ka t).set (8 + u) (ad (8 + u), .inr (0, ([.int (nI u), .ref (ad (11 + u)), .ref (ad (14 + u)), .ref (ad (17 + u)), .int (gI t 10 u), .int (gI t 11 u), .int (gI t 12 u), .int (gI t 13 u), .double (gD t 1 u), .int (gI t 14 u), .int (gI t 15 u), .int (gI t 16 u)] : List Value).set 6 (.int v))) = cw ad ka (pI t 12 u v) := by
  refine fw_set _ ?_
  intro i hi
  by_cases h : i = 8 + u
  · subst h
    rw [if_pos rfl]
    have h2 := fw_at' (N := 96) (ad := ad) (w := cE ad ka (pI t 12 u v)) (k := 8 + u) (by omega) rfl
    rw [show fw 96 ad (cE ad ka (pI t 12 u v)) = cw ad ka (pI t 12 u v) from rfl, at_L hu] at h2
    have h3 := (Prod.mk.inj (Option.some.inj h2)).2
    rw [← h3]
    simp [gI_pI, gI_pD, gD_pI, gD_pD]
  · rw [if_neg h]
    unfold cE
    rcases (show i < 8 ∨ 11 ≤ i ∨ (8 ≤ i ∧ i < 11) by omega) with q | q | q
    · simp [gI_pI, gI_pD, gD_pI, gD_pD, show ¬ (1000 + i = 12) by omega, q]
    · simp [gI_pI, gI_pD, gD_pI, gD_pD, show ¬ (1000 + i = 12) by omega, show ¬ i < 11 by omega]
    · simp [gI_pI, gI_pD, gD_pI, gD_pD, show ¬ (1000 + i = 12) by omega, show ¬ (i - 8 = u) by omega]
theorem s_L_full {ad : Nat → Nat} {ka : Nat → ClassId} {t : Mem} {u : Nat} (hu : u < 3) {v : Int32} : (cw ad ka t).set (8 + u) (ad (8 + u), .inr (0, ([.int (nI u), .ref (ad (11 + u)), .ref (ad (14 + u)), .ref (ad (17 + u)), .int (gI t 10 u), .int (gI t 11 u), .int (gI t 12 u), .int (gI t 13 u), .double (gD t 1 u), .int (gI t 14 u), .int (gI t 15 u), .int (gI t 16 u)] : List Value).set 7 (.int v))) = cw ad ka (pI t 13 u v) := by
  refine fw_set _ ?_
  intro i hi
  by_cases h : i = 8 + u
  · subst h
    rw [if_pos rfl]
    have h2 := fw_at' (N := 96) (ad := ad) (w := cE ad ka (pI t 13 u v)) (k := 8 + u) (by omega) rfl
    rw [show fw 96 ad (cE ad ka (pI t 13 u v)) = cw ad ka (pI t 13 u v) from rfl, at_L hu] at h2
    have h3 := (Prod.mk.inj (Option.some.inj h2)).2
    rw [← h3]
    simp [gI_pI, gI_pD, gD_pI, gD_pD]
  · rw [if_neg h]
    unfold cE
    rcases (show i < 8 ∨ 11 ≤ i ∨ (8 ≤ i ∧ i < 11) by omega) with q | q | q
    · simp [gI_pI, gI_pD, gD_pI, gD_pD, show ¬ (1000 + i = 13) by omega, q]
    · simp [gI_pI, gI_pD, gD_pI, gD_pD, show ¬ (1000 + i = 13) by omega, show ¬ i < 11 by omega]
    · simp [gI_pI, gI_pD, gD_pI, gD_pD, show ¬ (1000 + i = 13) by omega, show ¬ (i - 8 = u) by omega]
theorem s_L_best {ad : Nat → Nat} {ka : Nat → ClassId} {t : Mem} {u : Nat} (hu : u < 3) {v : UInt64} : (cw ad ka t).set (8 + u) (ad (8 + u), .inr (0, ([.int (nI u), .ref (ad (11 + u)), .ref (ad (14 + u)), .ref (ad (17 + u)), .int (gI t 10 u), .int (gI t 11 u), .int (gI t 12 u), .int (gI t 13 u), .double (gD t 1 u), .int (gI t 14 u), .int (gI t 15 u), .int (gI t 16 u)] : List Value).set 8 (.double v))) = cw ad ka (pD t 1 u v) := by
  refine fw_set _ ?_
  intro i hi
  by_cases h : i = 8 + u
  · subst h
    rw [if_pos rfl]
    have h2 := fw_at' (N := 96) (ad := ad) (w := cE ad ka (pD t 1 u v)) (k := 8 + u) (by omega) rfl
    rw [show fw 96 ad (cE ad ka (pD t 1 u v)) = cw ad ka (pD t 1 u v) from rfl, at_L hu] at h2
    have h3 := (Prod.mk.inj (Option.some.inj h2)).2
    rw [← h3]
    simp [gI_pI, gI_pD, gD_pI, gD_pD]
  · rw [if_neg h]
    unfold cE
    rcases (show i < 8 ∨ 11 ≤ i ∨ (8 ≤ i ∧ i < 11) by omega) with q | q | q
    · simp [gI_pI, gI_pD, gD_pI, gD_pD, show ¬ (1000 + i = 5000) by omega, q]
    · simp [gI_pI, gI_pD, gD_pI, gD_pD, show ¬ (1000 + i = 5000) by omega, show ¬ i < 11 by omega]
    · simp [gI_pI, gI_pD, gD_pI, gD_pD, show ¬ (1000 + i = 5000) by omega, show ¬ (i - 8 = u) by omega]
theorem s_L_bundlePosts {ad : Nat → Nat} {ka : Nat → ClassId} {t : Mem} {u : Nat} (hu : u < 3) {v : Int32} : (cw ad ka t).set (8 + u) (ad (8 + u), .inr (0, ([.int (nI u), .ref (ad (11 + u)), .ref (ad (14 + u)), .ref (ad (17 + u)), .int (gI t 10 u), .int (gI t 11 u), .int (gI t 12 u), .int (gI t 13 u), .double (gD t 1 u), .int (gI t 14 u), .int (gI t 15 u), .int (gI t 16 u)] : List Value).set 9 (.int v))) = cw ad ka (pI t 14 u v) := by
  refine fw_set _ ?_
  intro i hi
  by_cases h : i = 8 + u
  · subst h
    rw [if_pos rfl]
    have h2 := fw_at' (N := 96) (ad := ad) (w := cE ad ka (pI t 14 u v)) (k := 8 + u) (by omega) rfl
    rw [show fw 96 ad (cE ad ka (pI t 14 u v)) = cw ad ka (pI t 14 u v) from rfl, at_L hu] at h2
    have h3 := (Prod.mk.inj (Option.some.inj h2)).2
    rw [← h3]
    simp [gI_pI, gI_pD, gD_pI, gD_pD]
  · rw [if_neg h]
    unfold cE
    rcases (show i < 8 ∨ 11 ≤ i ∨ (8 ≤ i ∧ i < 11) by omega) with q | q | q
    · simp [gI_pI, gI_pD, gD_pI, gD_pD, show ¬ (1000 + i = 14) by omega, q]
    · simp [gI_pI, gI_pD, gD_pI, gD_pD, show ¬ (1000 + i = 14) by omega, show ¬ i < 11 by omega]
    · simp [gI_pI, gI_pD, gD_pI, gD_pD, show ¬ (1000 + i = 14) by omega, show ¬ (i - 8 = u) by omega]
theorem s_L_bundleSizes {ad : Nat → Nat} {ka : Nat → ClassId} {t : Mem} {u : Nat} (hu : u < 3) {v : Int32} : (cw ad ka t).set (8 + u) (ad (8 + u), .inr (0, ([.int (nI u), .ref (ad (11 + u)), .ref (ad (14 + u)), .ref (ad (17 + u)), .int (gI t 10 u), .int (gI t 11 u), .int (gI t 12 u), .int (gI t 13 u), .double (gD t 1 u), .int (gI t 14 u), .int (gI t 15 u), .int (gI t 16 u)] : List Value).set 10 (.int v))) = cw ad ka (pI t 15 u v) := by
  refine fw_set _ ?_
  intro i hi
  by_cases h : i = 8 + u
  · subst h
    rw [if_pos rfl]
    have h2 := fw_at' (N := 96) (ad := ad) (w := cE ad ka (pI t 15 u v)) (k := 8 + u) (by omega) rfl
    rw [show fw 96 ad (cE ad ka (pI t 15 u v)) = cw ad ka (pI t 15 u v) from rfl, at_L hu] at h2
    have h3 := (Prod.mk.inj (Option.some.inj h2)).2
    rw [← h3]
    simp [gI_pI, gI_pD, gD_pI, gD_pD]
  · rw [if_neg h]
    unfold cE
    rcases (show i < 8 ∨ 11 ≤ i ∨ (8 ≤ i ∧ i < 11) by omega) with q | q | q
    · simp [gI_pI, gI_pD, gD_pI, gD_pD, show ¬ (1000 + i = 15) by omega, q]
    · simp [gI_pI, gI_pD, gD_pI, gD_pD, show ¬ (1000 + i = 15) by omega, show ¬ i < 11 by omega]
    · simp [gI_pI, gI_pD, gD_pI, gD_pD, show ¬ (1000 + i = 15) by omega, show ¬ (i - 8 = u) by omega]
theorem s_L_bundleSince {ad : Nat → Nat} {ka : Nat → ClassId} {t : Mem} {u : Nat} (hu : u < 3) {v : Int32} : (cw ad ka t).set (8 + u) (ad (8 + u), .inr (0, ([.int (nI u), .ref (ad (11 + u)), .ref (ad (14 + u)), .ref (ad (17 + u)), .int (gI t 10 u), .int (gI t 11 u), .int (gI t 12 u), .int (gI t 13 u), .double (gD t 1 u), .int (gI t 14 u), .int (gI t 15 u), .int (gI t 16 u)] : List Value).set 11 (.int v))) = cw ad ka (pI t 16 u v) := by
  refine fw_set _ ?_
  intro i hi
  by_cases h : i = 8 + u
  · subst h
    rw [if_pos rfl]
    have h2 := fw_at' (N := 96) (ad := ad) (w := cE ad ka (pI t 16 u v)) (k := 8 + u) (by omega) rfl
    rw [show fw 96 ad (cE ad ka (pI t 16 u v)) = cw ad ka (pI t 16 u v) from rfl, at_L hu] at h2
    have h3 := (Prod.mk.inj (Option.some.inj h2)).2
    rw [← h3]
    simp [gI_pI, gI_pD, gD_pI, gD_pD]
  · rw [if_neg h]
    unfold cE
    rcases (show i < 8 ∨ 11 ≤ i ∨ (8 ≤ i ∧ i < 11) by omega) with q | q | q
    · simp [gI_pI, gI_pD, gD_pI, gD_pD, show ¬ (1000 + i = 16) by omega, q]
    · simp [gI_pI, gI_pD, gD_pI, gD_pD, show ¬ (1000 + i = 16) by omega, show ¬ i < 11 by omega]
    · simp [gI_pI, gI_pD, gD_pI, gD_pD, show ¬ (1000 + i = 16) by omega, show ¬ (i - 8 = u) by omega]
theorem s_P_list {ad : Nat → Nat} {ka : Nat → ClassId} {t : Mem} {u : Nat} (hu : u < 40) {v : Int32} : (cw ad ka t).set (20 + u) (ad (20 + u), .inr (2, ([.int (gI t 20 u), .int (gI t 21 u), .int (gI t 22 u), .int (gI t 23 u)] : List Value).set 0 (.int v))) = cw ad ka (pI t 20 u v) := by
  refine fw_set _ ?_
  intro i hi
  by_cases h : i = 20 + u
  · subst h
    rw [if_pos rfl]
    have h2 := fw_at' (N := 96) (ad := ad) (w := cE ad ka (pI t 20 u v)) (k := 20 + u) (by omega) rfl
    rw [show fw 96 ad (cE ad ka (pI t 20 u v)) = cw ad ka (pI t 20 u v) from rfl, at_P hu] at h2
    have h3 := (Prod.mk.inj (Option.some.inj h2)).2
    rw [← h3]
    simp [gI_pI, gI_pD, gD_pI, gD_pD]
  · rw [if_neg h]
    unfold cE
    rcases (show i < 20 ∨ 60 ≤ i ∨ (20 ≤ i ∧ i < 60) by omega) with q | q | q
    · simp [gI_pI, gI_pD, gD_pI, gD_pD, show ¬ (1000 + i = 20) by omega, q]
    · simp [gI_pI, gI_pD, gD_pI, gD_pD, show ¬ (1000 + i = 20) by omega, show ¬ i < 60 by omega]
    · simp [gI_pI, gI_pD, gD_pI, gD_pD, show ¬ (1000 + i = 20) by omega, show ¬ (i - 20 = u) by omega]
theorem s_P_sender {ad : Nat → Nat} {ka : Nat → ClassId} {t : Mem} {u : Nat} (hu : u < 40) {v : Int32} : (cw ad ka t).set (20 + u) (ad (20 + u), .inr (2, ([.int (gI t 20 u), .int (gI t 21 u), .int (gI t 22 u), .int (gI t 23 u)] : List Value).set 1 (.int v))) = cw ad ka (pI t 21 u v) := by
  refine fw_set _ ?_
  intro i hi
  by_cases h : i = 20 + u
  · subst h
    rw [if_pos rfl]
    have h2 := fw_at' (N := 96) (ad := ad) (w := cE ad ka (pI t 21 u v)) (k := 20 + u) (by omega) rfl
    rw [show fw 96 ad (cE ad ka (pI t 21 u v)) = cw ad ka (pI t 21 u v) from rfl, at_P hu] at h2
    have h3 := (Prod.mk.inj (Option.some.inj h2)).2
    rw [← h3]
    simp [gI_pI, gI_pD, gD_pI, gD_pD]
  · rw [if_neg h]
    unfold cE
    rcases (show i < 20 ∨ 60 ≤ i ∨ (20 ≤ i ∧ i < 60) by omega) with q | q | q
    · simp [gI_pI, gI_pD, gD_pI, gD_pD, show ¬ (1000 + i = 21) by omega, q]
    · simp [gI_pI, gI_pD, gD_pI, gD_pD, show ¬ (1000 + i = 21) by omega, show ¬ i < 60 by omega]
    · simp [gI_pI, gI_pD, gD_pI, gD_pD, show ¬ (1000 + i = 21) by omega, show ¬ (i - 20 = u) by omega]
theorem s_P_size {ad : Nat → Nat} {ka : Nat → ClassId} {t : Mem} {u : Nat} (hu : u < 40) {v : Int32} : (cw ad ka t).set (20 + u) (ad (20 + u), .inr (2, ([.int (gI t 20 u), .int (gI t 21 u), .int (gI t 22 u), .int (gI t 23 u)] : List Value).set 2 (.int v))) = cw ad ka (pI t 22 u v) := by
  refine fw_set _ ?_
  intro i hi
  by_cases h : i = 20 + u
  · subst h
    rw [if_pos rfl]
    have h2 := fw_at' (N := 96) (ad := ad) (w := cE ad ka (pI t 22 u v)) (k := 20 + u) (by omega) rfl
    rw [show fw 96 ad (cE ad ka (pI t 22 u v)) = cw ad ka (pI t 22 u v) from rfl, at_P hu] at h2
    have h3 := (Prod.mk.inj (Option.some.inj h2)).2
    rw [← h3]
    simp [gI_pI, gI_pD, gD_pI, gD_pD]
  · rw [if_neg h]
    unfold cE
    rcases (show i < 20 ∨ 60 ≤ i ∨ (20 ≤ i ∧ i < 60) by omega) with q | q | q
    · simp [gI_pI, gI_pD, gD_pI, gD_pD, show ¬ (1000 + i = 22) by omega, q]
    · simp [gI_pI, gI_pD, gD_pI, gD_pD, show ¬ (1000 + i = 22) by omega, show ¬ i < 60 by omega]
    · simp [gI_pI, gI_pD, gD_pI, gD_pD, show ¬ (1000 + i = 22) by omega, show ¬ (i - 20 = u) by omega]
theorem s_P_fate {ad : Nat → Nat} {ka : Nat → ClassId} {t : Mem} {u : Nat} (hu : u < 40) {v : Int32} : (cw ad ka t).set (20 + u) (ad (20 + u), .inr (2, ([.int (gI t 20 u), .int (gI t 21 u), .int (gI t 22 u), .int (gI t 23 u)] : List Value).set 3 (.int v))) = cw ad ka (pI t 23 u v) := by
  refine fw_set _ ?_
  intro i hi
  by_cases h : i = 20 + u
  · subst h
    rw [if_pos rfl]
    have h2 := fw_at' (N := 96) (ad := ad) (w := cE ad ka (pI t 23 u v)) (k := 20 + u) (by omega) rfl
    rw [show fw 96 ad (cE ad ka (pI t 23 u v)) = cw ad ka (pI t 23 u v) from rfl, at_P hu] at h2
    have h3 := (Prod.mk.inj (Option.some.inj h2)).2
    rw [← h3]
    simp [gI_pI, gI_pD, gD_pI, gD_pD]
  · rw [if_neg h]
    unfold cE
    rcases (show i < 20 ∨ 60 ≤ i ∨ (20 ≤ i ∧ i < 60) by omega) with q | q | q
    · simp [gI_pI, gI_pD, gD_pI, gD_pD, show ¬ (1000 + i = 23) by omega, q]
    · simp [gI_pI, gI_pD, gD_pI, gD_pD, show ¬ (1000 + i = 23) by omega, show ¬ i < 60 by omega]
    · simp [gI_pI, gI_pD, gD_pI, gD_pD, show ¬ (1000 + i = 23) by omega, show ¬ (i - 20 = u) by omega]
theorem s_S_state {ad : Nat → Nat} {ka : Nat → ClassId} {t : Mem} {u : Nat} (hu : u < 36) {v : Int32} : (cw ad ka t).set (60 + u) (ad (60 + u), .inr (3, ([.int (gI t 0 u), .int (gI t 1 u), .int (gI t 2 u), .int (gI t 3 u), .int (gI t 4 u), .int (gI t 5 u), .int (gI t 6 u), .double (gD t 0 u)] : List Value).set 0 (.int v))) = cw ad ka (pI t 0 u v) := by
  refine fw_set _ ?_
  intro i hi
  by_cases h : i = 60 + u
  · subst h
    rw [if_pos rfl]
    have h2 := fw_at' (N := 96) (ad := ad) (w := cE ad ka (pI t 0 u v)) (k := 60 + u) (by omega) rfl
    rw [show fw 96 ad (cE ad ka (pI t 0 u v)) = cw ad ka (pI t 0 u v) from rfl, at_S hu] at h2
    have h3 := (Prod.mk.inj (Option.some.inj h2)).2
    rw [← h3]
    simp [gI_pI, gI_pD, gD_pI, gD_pD]
  · rw [if_neg h]
    unfold cE
    rcases (show i < 60 ∨ 96 ≤ i ∨ (60 ≤ i ∧ i < 96) by omega) with q | q | q
    · simp [gI_pI, gI_pD, gD_pI, gD_pD, show ¬ (1000 + i = 0) by omega, q]
    · omega
    · simp [gI_pI, gI_pD, gD_pI, gD_pD, show ¬ (1000 + i = 0) by omega, show ¬ (i - 60 = u) by omega]
theorem s_S_way {ad : Nat → Nat} {ka : Nat → ClassId} {t : Mem} {u : Nat} (hu : u < 36) {v : Int32} : (cw ad ka t).set (60 + u) (ad (60 + u), .inr (3, ([.int (gI t 0 u), .int (gI t 1 u), .int (gI t 2 u), .int (gI t 3 u), .int (gI t 4 u), .int (gI t 5 u), .int (gI t 6 u), .double (gD t 0 u)] : List Value).set 1 (.int v))) = cw ad ka (pI t 1 u v) := by
  refine fw_set _ ?_
  intro i hi
  by_cases h : i = 60 + u
  · subst h
    rw [if_pos rfl]
    have h2 := fw_at' (N := 96) (ad := ad) (w := cE ad ka (pI t 1 u v)) (k := 60 + u) (by omega) rfl
    rw [show fw 96 ad (cE ad ka (pI t 1 u v)) = cw ad ka (pI t 1 u v) from rfl, at_S hu] at h2
    have h3 := (Prod.mk.inj (Option.some.inj h2)).2
    rw [← h3]
    simp [gI_pI, gI_pD, gD_pI, gD_pD]
  · rw [if_neg h]
    unfold cE
    rcases (show i < 60 ∨ 96 ≤ i ∨ (60 ≤ i ∧ i < 96) by omega) with q | q | q
    · simp [gI_pI, gI_pD, gD_pI, gD_pD, show ¬ (1000 + i = 1) by omega, q]
    · omega
    · simp [gI_pI, gI_pD, gD_pI, gD_pD, show ¬ (1000 + i = 1) by omega, show ¬ (i - 60 = u) by omega]
theorem s_S_code {ad : Nat → Nat} {ka : Nat → ClassId} {t : Mem} {u : Nat} (hu : u < 36) {v : Int32} : (cw ad ka t).set (60 + u) (ad (60 + u), .inr (3, ([.int (gI t 0 u), .int (gI t 1 u), .int (gI t 2 u), .int (gI t 3 u), .int (gI t 4 u), .int (gI t 5 u), .int (gI t 6 u), .double (gD t 0 u)] : List Value).set 2 (.int v))) = cw ad ka (pI t 2 u v) := by
  refine fw_set _ ?_
  intro i hi
  by_cases h : i = 60 + u
  · subst h
    rw [if_pos rfl]
    have h2 := fw_at' (N := 96) (ad := ad) (w := cE ad ka (pI t 2 u v)) (k := 60 + u) (by omega) rfl
    rw [show fw 96 ad (cE ad ka (pI t 2 u v)) = cw ad ka (pI t 2 u v) from rfl, at_S hu] at h2
    have h3 := (Prod.mk.inj (Option.some.inj h2)).2
    rw [← h3]
    simp [gI_pI, gI_pD, gD_pI, gD_pD]
  · rw [if_neg h]
    unfold cE
    rcases (show i < 60 ∨ 96 ≤ i ∨ (60 ≤ i ∧ i < 96) by omega) with q | q | q
    · simp [gI_pI, gI_pD, gD_pI, gD_pD, show ¬ (1000 + i = 2) by omega, q]
    · omega
    · simp [gI_pI, gI_pD, gD_pI, gD_pD, show ¬ (1000 + i = 2) by omega, show ¬ (i - 60 = u) by omega]
theorem s_S_since {ad : Nat → Nat} {ka : Nat → ClassId} {t : Mem} {u : Nat} (hu : u < 36) {v : Int32} : (cw ad ka t).set (60 + u) (ad (60 + u), .inr (3, ([.int (gI t 0 u), .int (gI t 1 u), .int (gI t 2 u), .int (gI t 3 u), .int (gI t 4 u), .int (gI t 5 u), .int (gI t 6 u), .double (gD t 0 u)] : List Value).set 3 (.int v))) = cw ad ka (pI t 3 u v) := by
  refine fw_set _ ?_
  intro i hi
  by_cases h : i = 60 + u
  · subst h
    rw [if_pos rfl]
    have h2 := fw_at' (N := 96) (ad := ad) (w := cE ad ka (pI t 3 u v)) (k := 60 + u) (by omega) rfl
    rw [show fw 96 ad (cE ad ka (pI t 3 u v)) = cw ad ka (pI t 3 u v) from rfl, at_S hu] at h2
    have h3 := (Prod.mk.inj (Option.some.inj h2)).2
    rw [← h3]
    simp [gI_pI, gI_pD, gD_pI, gD_pD]
  · rw [if_neg h]
    unfold cE
    rcases (show i < 60 ∨ 96 ≤ i ∨ (60 ≤ i ∧ i < 96) by omega) with q | q | q
    · simp [gI_pI, gI_pD, gD_pI, gD_pD, show ¬ (1000 + i = 3) by omega, q]
    · omega
    · simp [gI_pI, gI_pD, gD_pI, gD_pD, show ¬ (1000 + i = 3) by omega, show ¬ (i - 60 = u) by omega]
theorem s_S_warning {ad : Nat → Nat} {ka : Nat → ClassId} {t : Mem} {u : Nat} (hu : u < 36) {v : Int32} : (cw ad ka t).set (60 + u) (ad (60 + u), .inr (3, ([.int (gI t 0 u), .int (gI t 1 u), .int (gI t 2 u), .int (gI t 3 u), .int (gI t 4 u), .int (gI t 5 u), .int (gI t 6 u), .double (gD t 0 u)] : List Value).set 4 (.int v))) = cw ad ka (pI t 4 u v) := by
  refine fw_set _ ?_
  intro i hi
  by_cases h : i = 60 + u
  · subst h
    rw [if_pos rfl]
    have h2 := fw_at' (N := 96) (ad := ad) (w := cE ad ka (pI t 4 u v)) (k := 60 + u) (by omega) rfl
    rw [show fw 96 ad (cE ad ka (pI t 4 u v)) = cw ad ka (pI t 4 u v) from rfl, at_S hu] at h2
    have h3 := (Prod.mk.inj (Option.some.inj h2)).2
    rw [← h3]
    simp [gI_pI, gI_pD, gD_pI, gD_pD]
  · rw [if_neg h]
    unfold cE
    rcases (show i < 60 ∨ 96 ≤ i ∨ (60 ≤ i ∧ i < 96) by omega) with q | q | q
    · simp [gI_pI, gI_pD, gD_pI, gD_pD, show ¬ (1000 + i = 4) by omega, q]
    · omega
    · simp [gI_pI, gI_pD, gD_pI, gD_pD, show ¬ (1000 + i = 4) by omega, show ¬ (i - 60 = u) by omega]
theorem s_S_bounceDay {ad : Nat → Nat} {ka : Nat → ClassId} {t : Mem} {u : Nat} (hu : u < 36) {v : Int32} : (cw ad ka t).set (60 + u) (ad (60 + u), .inr (3, ([.int (gI t 0 u), .int (gI t 1 u), .int (gI t 2 u), .int (gI t 3 u), .int (gI t 4 u), .int (gI t 5 u), .int (gI t 6 u), .double (gD t 0 u)] : List Value).set 5 (.int v))) = cw ad ka (pI t 5 u v) := by
  refine fw_set _ ?_
  intro i hi
  by_cases h : i = 60 + u
  · subst h
    rw [if_pos rfl]
    have h2 := fw_at' (N := 96) (ad := ad) (w := cE ad ka (pI t 5 u v)) (k := 60 + u) (by omega) rfl
    rw [show fw 96 ad (cE ad ka (pI t 5 u v)) = cw ad ka (pI t 5 u v) from rfl, at_S hu] at h2
    have h3 := (Prod.mk.inj (Option.some.inj h2)).2
    rw [← h3]
    simp [gI_pI, gI_pD, gD_pI, gD_pD]
  · rw [if_neg h]
    unfold cE
    rcases (show i < 60 ∨ 96 ≤ i ∨ (60 ≤ i ∧ i < 96) by omega) with q | q | q
    · simp [gI_pI, gI_pD, gD_pI, gD_pD, show ¬ (1000 + i = 5) by omega, q]
    · omega
    · simp [gI_pI, gI_pD, gD_pI, gD_pD, show ¬ (1000 + i = 5) by omega, show ¬ (i - 60 = u) by omega]
theorem s_S_moderates {ad : Nat → Nat} {ka : Nat → ClassId} {t : Mem} {u : Nat} (hu : u < 36) {v : Int32} : (cw ad ka t).set (60 + u) (ad (60 + u), .inr (3, ([.int (gI t 0 u), .int (gI t 1 u), .int (gI t 2 u), .int (gI t 3 u), .int (gI t 4 u), .int (gI t 5 u), .int (gI t 6 u), .double (gD t 0 u)] : List Value).set 6 (.int v))) = cw ad ka (pI t 6 u v) := by
  refine fw_set _ ?_
  intro i hi
  by_cases h : i = 60 + u
  · subst h
    rw [if_pos rfl]
    have h2 := fw_at' (N := 96) (ad := ad) (w := cE ad ka (pI t 6 u v)) (k := 60 + u) (by omega) rfl
    rw [show fw 96 ad (cE ad ka (pI t 6 u v)) = cw ad ka (pI t 6 u v) from rfl, at_S hu] at h2
    have h3 := (Prod.mk.inj (Option.some.inj h2)).2
    rw [← h3]
    simp [gI_pI, gI_pD, gD_pI, gD_pD]
  · rw [if_neg h]
    unfold cE
    rcases (show i < 60 ∨ 96 ≤ i ∨ (60 ≤ i ∧ i < 96) by omega) with q | q | q
    · simp [gI_pI, gI_pD, gD_pI, gD_pD, show ¬ (1000 + i = 6) by omega, q]
    · omega
    · simp [gI_pI, gI_pD, gD_pI, gD_pD, show ¬ (1000 + i = 6) by omega, show ¬ (i - 60 = u) by omega]
theorem s_S_score {ad : Nat → Nat} {ka : Nat → ClassId} {t : Mem} {u : Nat} (hu : u < 36) {v : UInt64} : (cw ad ka t).set (60 + u) (ad (60 + u), .inr (3, ([.int (gI t 0 u), .int (gI t 1 u), .int (gI t 2 u), .int (gI t 3 u), .int (gI t 4 u), .int (gI t 5 u), .int (gI t 6 u), .double (gD t 0 u)] : List Value).set 7 (.double v))) = cw ad ka (pD t 0 u v) := by
  refine fw_set _ ?_
  intro i hi
  by_cases h : i = 60 + u
  · subst h
    rw [if_pos rfl]
    have h2 := fw_at' (N := 96) (ad := ad) (w := cE ad ka (pD t 0 u v)) (k := 60 + u) (by omega) rfl
    rw [show fw 96 ad (cE ad ka (pD t 0 u v)) = cw ad ka (pD t 0 u v) from rfl, at_S hu] at h2
    have h3 := (Prod.mk.inj (Option.some.inj h2)).2
    rw [← h3]
    simp [gI_pI, gI_pD, gD_pI, gD_pD]
  · rw [if_neg h]
    unfold cE
    rcases (show i < 60 ∨ 96 ≤ i ∨ (60 ≤ i ∧ i < 96) by omega) with q | q | q
    · simp [gI_pI, gI_pD, gD_pI, gD_pD, show ¬ (1000 + i = 5000) by omega, q]
    · omega
    · simp [gI_pI, gI_pD, gD_pI, gD_pD, show ¬ (1000 + i = 5000) by omega, show ¬ (i - 60 = u) by omega]
theorem s_out {ad : Nat → Nat} {ka : Nat → ClassId} {t : Mem} {u r : Nat} (hu : u < 4) {v : Int32} : (cw ad ka t).set (4 + u) (ad (4 + u), .inl (ka 0, 60, .inl (upd (fun q => gI t (1004 + u) q) r v))) = cw ad ka (pI t (1004 + u) r v) := by
  refine fw_set _ ?_
  intro i hi
  by_cases h : i = 4 + u
  · subst h
    rw [if_pos rfl]
    have h2 := fw_at' (N := 96) (ad := ad) (w := cE ad ka (pI t (1004 + u) r v)) (k := 4 + u) (by omega) rfl
    rw [show fw 96 ad (cE ad ka (pI t (1004 + u) r v)) = cw ad ka (pI t (1004 + u) r v) from rfl, at_out hu] at h2
    have h3 := (Prod.mk.inj (Option.some.inj h2)).2
    rw [← h3]
    rw [show (fun q => gI (pI t (1004 + u) r v) (1004 + u) q) = upd (fun q => gI t (1004 + u) q) r v from by funext q; simp [gI_pI, upd]]
  · rw [if_neg h]
    have hn : ∀ k, k < 1000 → (k = 1004 + u ↔ False) := fun k hk => ⟨fun z => by omega, False.elim⟩
    unfold cE
    rcases (show i < 4 ∨ 8 ≤ i ∨ (4 ≤ i ∧ i < 8) by omega) with q | q | q
    · simp [gI_pI, gI_pD, gD_pI, gD_pD, hn, q, show ¬ (1000 + i = 1004 + u) by omega]
    · simp [gI_pI, gI_pD, gD_pI, gD_pD, hn, show ¬ i < 8 by omega, show ¬ (1000 + i = 1004 + u) by omega]
    · simp [gI_pI, gI_pD, gD_pI, gD_pD, hn, show ¬ (1000 + i = 1004 + u) by omega]
theorem s_ban {ad : Nat → Nat} {ka : Nat → ClassId} {t : Mem} {u r : Nat} (hu : u < 3) {v : Int32} : (cw ad ka t).set (14 + u) (ad (14 + u), .inl (ka 1, 12, .inl (upd (fun q => gI t (1014 + u) q) r v))) = cw ad ka (pI t (1014 + u) r v) := by
  refine fw_set _ ?_
  intro i hi
  by_cases h : i = 14 + u
  · subst h
    rw [if_pos rfl]
    have h2 := fw_at' (N := 96) (ad := ad) (w := cE ad ka (pI t (1014 + u) r v)) (k := 14 + u) (by omega) rfl
    rw [show fw 96 ad (cE ad ka (pI t (1014 + u) r v)) = cw ad ka (pI t (1014 + u) r v) from rfl, at_ban hu] at h2
    have h3 := (Prod.mk.inj (Option.some.inj h2)).2
    rw [← h3]
    rw [show (fun q => gI (pI t (1014 + u) r v) (1014 + u) q) = upd (fun q => gI t (1014 + u) q) r v from by funext q; simp [gI_pI, upd]]
  · rw [if_neg h]
    have hn : ∀ k, k < 1000 → (k = 1014 + u ↔ False) := fun k hk => ⟨fun z => by omega, False.elim⟩
    unfold cE
    rcases (show i < 14 ∨ 17 ≤ i ∨ (14 ≤ i ∧ i < 17) by omega) with q | q | q
    · simp [gI_pI, gI_pD, gD_pI, gD_pD, hn, q, show ¬ (1000 + i = 1014 + u) by omega]
    · simp [gI_pI, gI_pD, gD_pI, gD_pD, hn, show ¬ i < 17 by omega, show ¬ (1000 + i = 1014 + u) by omega]
    · simp [gI_pI, gI_pD, gD_pI, gD_pD, hn, show ¬ (1000 + i = 1014 + u) by omega]
theorem s_bar {ad : Nat → Nat} {ka : Nat → ClassId} {t : Mem} {u r : Nat} (hu : u < 3) {v : Int32} : (cw ad ka t).set (17 + u) (ad (17 + u), .inl (ka 1, 10, .inl (upd (fun q => gI t (1017 + u) q) r v))) = cw ad ka (pI t (1017 + u) r v) := by
  refine fw_set _ ?_
  intro i hi
  by_cases h : i = 17 + u
  · subst h
    rw [if_pos rfl]
    have h2 := fw_at' (N := 96) (ad := ad) (w := cE ad ka (pI t (1017 + u) r v)) (k := 17 + u) (by omega) rfl
    rw [show fw 96 ad (cE ad ka (pI t (1017 + u) r v)) = cw ad ka (pI t (1017 + u) r v) from rfl, at_bar hu] at h2
    have h3 := (Prod.mk.inj (Option.some.inj h2)).2
    rw [← h3]
    rw [show (fun q => gI (pI t (1017 + u) r v) (1017 + u) q) = upd (fun q => gI t (1017 + u) q) r v from by funext q; simp [gI_pI, upd]]
  · rw [if_neg h]
    have hn : ∀ k, k < 1000 → (k = 1017 + u ↔ False) := fun k hk => ⟨fun z => by omega, False.elim⟩
    unfold cE
    rcases (show i < 17 ∨ 20 ≤ i ∨ (17 ≤ i ∧ i < 20) by omega) with q | q | q
    · simp [gI_pI, gI_pD, gD_pI, gD_pD, hn, q, show ¬ (1000 + i = 1017 + u) by omega]
    · simp [gI_pI, gI_pD, gD_pI, gD_pD, hn, show ¬ i < 20 by omega, show ¬ (1000 + i = 1017 + u) by omega]
    · simp [gI_pI, gI_pD, gD_pI, gD_pD, hn, show ¬ (1000 + i = 1017 + u) by omega]
end
section
section RWX
variable {p : Program} {l : Launch} {e : Env} {R : Room} {s : State} {m : MethodId} {args : Array Value} {below : List Frame} {meth : Method} {c : Code} {H : Heap} {locs : List Loc} {cells slots : Nat} {Q : State → Prop} {cc : ByteArray} {pc : Nat} {ls : Array Slot} {rest : List Value} {D : va_G} {A : Nat → Prop} {H0 : Heap} {ad : Nat → Nat} {ka : Nat → ClassId} {t : Mem} {c0 : Cond} {own : String} {idx : Nat}
theorem g_F_lists (hx : p.tables.exec = Jvm.exec) (hb : c.code = cc) (hts : ∀ w ∈ c0 :: big, w.before args s = true) (hown : s.vm.findClass own = some m.cls) (hK : va_K D cls (cT ka) s) (hP : va_P D cls (cw ad ka t) H) (hlink : Cond.fieldLink own idx "ListForge" "lists" "[LListForge$MailingList;" ∈ big) (hdg : decode cc pc = .ok (.getfield idx, 3)) (kk : W p l e R s m args below meth c H locs cells slots Q (F0 m (pc + 3) ls (.ref (ad 1) :: rest))) : W p l e R s m args below meth c H locs cells slots Q (F0 m pc ls (.ref (ad (0)) :: rest)) :=
  va_get (D := D) (ci := 4) (C := "ListForge") (T := T_F) (N := 6) hx hb hts in_F hown hK hP (0) (at_F) rfl 0 (by decide) (bg hts hlink) (fun _ h9 => h9) rfl hdg kk
theorem g_F_posts (hx : p.tables.exec = Jvm.exec) (hb : c.code = cc) (hts : ∀ w ∈ c0 :: big, w.before args s = true) (hown : s.vm.findClass own = some m.cls) (hK : va_K D cls (cT ka) s) (hP : va_P D cls (cw ad ka t) H) (hlink : Cond.fieldLink own idx "ListForge" "posts" "[LListForge$Post;" ∈ big) (hdg : decode cc pc = .ok (.getfield idx, 3)) (kk : W p l e R s m args below meth c H locs cells slots Q (F0 m (pc + 3) ls (.ref (ad 2) :: rest))) : W p l e R s m args below meth c H locs cells slots Q (F0 m pc ls (.ref (ad (0)) :: rest)) :=
  va_get (D := D) (ci := 4) (C := "ListForge") (T := T_F) (N := 6) hx hb hts in_F hown hK hP (0) (at_F) rfl 1 (by decide) (bg hts hlink) (fun _ h9 => h9) rfl hdg kk
theorem g_F_outbox (hx : p.tables.exec = Jvm.exec) (hb : c.code = cc) (hts : ∀ w ∈ c0 :: big, w.before args s = true) (hown : s.vm.findClass own = some m.cls) (hK : va_K D cls (cT ka) s) (hP : va_P D cls (cw ad ka t) H) (hlink : Cond.fieldLink own idx "ListForge" "outbox" "LListForge$Outbox;" ∈ big) (hdg : decode cc pc = .ok (.getfield idx, 3)) (kk : W p l e R s m args below meth c H locs cells slots Q (F0 m (pc + 3) ls (.ref (ad 3) :: rest))) : W p l e R s m args below meth c H locs cells slots Q (F0 m pc ls (.ref (ad (0)) :: rest)) :=
  va_get (D := D) (ci := 4) (C := "ListForge") (T := T_F) (N := 6) hx hb hts in_F hown hK hP (0) (at_F) rfl 2 (by decide) (bg hts hlink) (fun _ h9 => h9) rfl hdg kk
theorem g_F_postCount (hx : p.tables.exec = Jvm.exec) (hb : c.code = cc) (hts : ∀ w ∈ c0 :: big, w.before args s = true) (hown : s.vm.findClass own = some m.cls) (hK : va_K D cls (cT ka) s) (hP : va_P D cls (cw ad ka t) H) (hlink : Cond.fieldLink own idx "ListForge" "postCount" "I" ∈ big) (hdg : decode cc pc = .ok (.getfield idx, 3)) (kk : W p l e R s m args below meth c H locs cells slots Q (F0 m (pc + 3) ls (.int (gI t 30 0) :: rest))) : W p l e R s m args below meth c H locs cells slots Q (F0 m pc ls (.ref (ad (0)) :: rest)) :=
  va_get (D := D) (ci := 4) (C := "ListForge") (T := T_F) (N := 6) hx hb hts in_F hown hK hP (0) (at_F) rfl 3 (by decide) (bg hts hlink) (fun _ h9 => h9) rfl hdg kk
theorem p_F_postCount (hx : p.tables.exec = Jvm.exec) (hb : c.code = cc) (hts : ∀ w ∈ c0 :: big, w.before args s = true) (hown : s.vm.findClass own = some m.cls) (hK : va_K D cls (cT ka) s) (hP : va_P D cls (cw ad ka t) H) (hD : va_D A (cw ad ka t)) (hS : va_S A H0 H locs) {v : Int32} (hlink : Cond.fieldLink own idx "ListForge" "postCount" "I" ∈ big) (hdg : decode cc pc = .ok (.putfield idx, 3)) (kk : ∀ (H1 : Heap) (locs1 : List Loc), va_P D cls (cw ad ka (pI t 30 0 v)) H1 → va_D A (cw ad ka (pI t 30 0 v)) → va_S A H0 H1 locs1 → W p l e R s m args below meth c H1 locs1 cells slots Q (F0 m (pc + 3) ls rest)) : W p l e R s m args below meth c H locs cells slots Q (F0 m pc ls (.int v :: .ref (ad (0)) :: rest)) :=
  va_put (D := D) (ci := 4) (ty := .int) (C := "ListForge") (T := T_F) (N := 6) hx hb hts in_F t_F t_F_ok n_F hown hK hP hD hS (0) (at_F) rfl 3 (by decide) (bg hts hlink) (fun _ h9 => h9) rfl (by decide +kernel) rfl rfl (Nat.le_of_ble_eq_true rfl) hdg (fun H1 locs1 h1 h2 h3 => kk H1 locs1 (s_F_postCount ▸ h1) (s_F_postCount ▸ h2) h3)
theorem g_F_askedBefore (hx : p.tables.exec = Jvm.exec) (hb : c.code = cc) (hts : ∀ w ∈ c0 :: big, w.before args s = true) (hown : s.vm.findClass own = some m.cls) (hK : va_K D cls (cT ka) s) (hP : va_P D cls (cw ad ka t) H) (hlink : Cond.fieldLink own idx "ListForge" "askedBefore" "I" ∈ big) (hdg : decode cc pc = .ok (.getfield idx, 3)) (kk : W p l e R s m args below meth c H locs cells slots Q (F0 m (pc + 3) ls (.int (gI t 31 0) :: rest))) : W p l e R s m args below meth c H locs cells slots Q (F0 m pc ls (.ref (ad (0)) :: rest)) :=
  va_get (D := D) (ci := 4) (C := "ListForge") (T := T_F) (N := 6) hx hb hts in_F hown hK hP (0) (at_F) rfl 4 (by decide) (bg hts hlink) (fun _ h9 => h9) rfl hdg kk
theorem p_F_askedBefore (hx : p.tables.exec = Jvm.exec) (hb : c.code = cc) (hts : ∀ w ∈ c0 :: big, w.before args s = true) (hown : s.vm.findClass own = some m.cls) (hK : va_K D cls (cT ka) s) (hP : va_P D cls (cw ad ka t) H) (hD : va_D A (cw ad ka t)) (hS : va_S A H0 H locs) {v : Int32} (hlink : Cond.fieldLink own idx "ListForge" "askedBefore" "I" ∈ big) (hdg : decode cc pc = .ok (.putfield idx, 3)) (kk : ∀ (H1 : Heap) (locs1 : List Loc), va_P D cls (cw ad ka (pI t 31 0 v)) H1 → va_D A (cw ad ka (pI t 31 0 v)) → va_S A H0 H1 locs1 → W p l e R s m args below meth c H1 locs1 cells slots Q (F0 m (pc + 3) ls rest)) : W p l e R s m args below meth c H locs cells slots Q (F0 m pc ls (.int v :: .ref (ad (0)) :: rest)) :=
  va_put (D := D) (ci := 4) (ty := .int) (C := "ListForge") (T := T_F) (N := 6) hx hb hts in_F t_F t_F_ok n_F hown hK hP hD hS (0) (at_F) rfl 4 (by decide) (bg hts hlink) (fun _ h9 => h9) rfl (by decide +kernel) rfl rfl (Nat.le_of_ble_eq_true rfl) hdg (fun H1 locs1 h1 h2 h3 => kk H1 locs1 (s_F_askedBefore ▸ h1) (s_F_askedBefore ▸ h2) h3)
theorem g_F_today (hx : p.tables.exec = Jvm.exec) (hb : c.code = cc) (hts : ∀ w ∈ c0 :: big, w.before args s = true) (hown : s.vm.findClass own = some m.cls) (hK : va_K D cls (cT ka) s) (hP : va_P D cls (cw ad ka t) H) (hlink : Cond.fieldLink own idx "ListForge" "today" "I" ∈ big) (hdg : decode cc pc = .ok (.getfield idx, 3)) (kk : W p l e R s m args below meth c H locs cells slots Q (F0 m (pc + 3) ls (.int (gI t 32 0) :: rest))) : W p l e R s m args below meth c H locs cells slots Q (F0 m pc ls (.ref (ad (0)) :: rest)) :=
  va_get (D := D) (ci := 4) (C := "ListForge") (T := T_F) (N := 6) hx hb hts in_F hown hK hP (0) (at_F) rfl 5 (by decide) (bg hts hlink) (fun _ h9 => h9) rfl hdg kk
theorem p_F_today (hx : p.tables.exec = Jvm.exec) (hb : c.code = cc) (hts : ∀ w ∈ c0 :: big, w.before args s = true) (hown : s.vm.findClass own = some m.cls) (hK : va_K D cls (cT ka) s) (hP : va_P D cls (cw ad ka t) H) (hD : va_D A (cw ad ka t)) (hS : va_S A H0 H locs) {v : Int32} (hlink : Cond.fieldLink own idx "ListForge" "today" "I" ∈ big) (hdg : decode cc pc = .ok (.putfield idx, 3)) (kk : ∀ (H1 : Heap) (locs1 : List Loc), va_P D cls (cw ad ka (pI t 32 0 v)) H1 → va_D A (cw ad ka (pI t 32 0 v)) → va_S A H0 H1 locs1 → W p l e R s m args below meth c H1 locs1 cells slots Q (F0 m (pc + 3) ls rest)) : W p l e R s m args below meth c H locs cells slots Q (F0 m pc ls (.int v :: .ref (ad (0)) :: rest)) :=
  va_put (D := D) (ci := 4) (ty := .int) (C := "ListForge") (T := T_F) (N := 6) hx hb hts in_F t_F t_F_ok n_F hown hK hP hD hS (0) (at_F) rfl 5 (by decide) (bg hts hlink) (fun _ h9 => h9) rfl (by decide +kernel) rfl rfl (Nat.le_of_ble_eq_true rfl) hdg (fun H1 locs1 h1 h2 h3 => kk H1 locs1 (s_F_today ▸ h1) (s_F_today ▸ h2) h3)
theorem g_O_addresses (hx : p.tables.exec = Jvm.exec) (hb : c.code = cc) (hts : ∀ w ∈ c0 :: big, w.before args s = true) (hown : s.vm.findClass own = some m.cls) (hK : va_K D cls (cT ka) s) (hP : va_P D cls (cw ad ka t) H) (hlink : Cond.fieldLink own idx "ListForge$Outbox" "addresses" "[I" ∈ big) (hdg : decode cc pc = .ok (.getfield idx, 3)) (kk : W p l e R s m args below meth c H locs cells slots Q (F0 m (pc + 3) ls (.ref (ad 4) :: rest))) : W p l e R s m args below meth c H locs cells slots Q (F0 m pc ls (.ref (ad (3)) :: rest)) :=
  va_get (D := D) (ci := 1) (C := "ListForge$Outbox") (T := T_O) (N := 6) hx hb hts in_O hown hK hP (3) (at_O) rfl 0 (by decide) (bg hts hlink) (fun _ h9 => h9) rfl hdg kk
theorem g_O_lists (hx : p.tables.exec = Jvm.exec) (hb : c.code = cc) (hts : ∀ w ∈ c0 :: big, w.before args s = true) (hown : s.vm.findClass own = some m.cls) (hK : va_K D cls (cT ka) s) (hP : va_P D cls (cw ad ka t) H) (hlink : Cond.fieldLink own idx "ListForge$Outbox" "lists" "[I" ∈ big) (hdg : decode cc pc = .ok (.getfield idx, 3)) (kk : W p l e R s m args below meth c H locs cells slots Q (F0 m (pc + 3) ls (.ref (ad 5) :: rest))) : W p l e R s m args below meth c H locs cells slots Q (F0 m pc ls (.ref (ad (3)) :: rest)) :=
  va_get (D := D) (ci := 1) (C := "ListForge$Outbox") (T := T_O) (N := 6) hx hb hts in_O hown hK hP (3) (at_O) rfl 1 (by decide) (bg hts hlink) (fun _ h9 => h9) rfl hdg kk
theorem g_O_sorts (hx : p.tables.exec = Jvm.exec) (hb : c.code = cc) (hts : ∀ w ∈ c0 :: big, w.before args s = true) (hown : s.vm.findClass own = some m.cls) (hK : va_K D cls (cT ka) s) (hP : va_P D cls (cw ad ka t) H) (hlink : Cond.fieldLink own idx "ListForge$Outbox" "sorts" "[I" ∈ big) (hdg : decode cc pc = .ok (.getfield idx, 3)) (kk : W p l e R s m args below meth c H locs cells slots Q (F0 m (pc + 3) ls (.ref (ad 6) :: rest))) : W p l e R s m args below meth c H locs cells slots Q (F0 m pc ls (.ref (ad (3)) :: rest)) :=
  va_get (D := D) (ci := 1) (C := "ListForge$Outbox") (T := T_O) (N := 6) hx hb hts in_O hown hK hP (3) (at_O) rfl 2 (by decide) (bg hts hlink) (fun _ h9 => h9) rfl hdg kk
theorem g_O_numbers (hx : p.tables.exec = Jvm.exec) (hb : c.code = cc) (hts : ∀ w ∈ c0 :: big, w.before args s = true) (hown : s.vm.findClass own = some m.cls) (hK : va_K D cls (cT ka) s) (hP : va_P D cls (cw ad ka t) H) (hlink : Cond.fieldLink own idx "ListForge$Outbox" "numbers" "[I" ∈ big) (hdg : decode cc pc = .ok (.getfield idx, 3)) (kk : W p l e R s m args below meth c H locs cells slots Q (F0 m (pc + 3) ls (.ref (ad 7) :: rest))) : W p l e R s m args below meth c H locs cells slots Q (F0 m pc ls (.ref (ad (3)) :: rest)) :=
  va_get (D := D) (ci := 1) (C := "ListForge$Outbox") (T := T_O) (N := 6) hx hb hts in_O hown hK hP (3) (at_O) rfl 3 (by decide) (bg hts hlink) (fun _ h9 => h9) rfl hdg kk
theorem g_O_kept (hx : p.tables.exec = Jvm.exec) (hb : c.code = cc) (hts : ∀ w ∈ c0 :: big, w.before args s = true) (hown : s.vm.findClass own = some m.cls) (hK : va_K D cls (cT ka) s) (hP : va_P D cls (cw ad ka t) H) (hlink : Cond.fieldLink own idx "ListForge$Outbox" "kept" "I" ∈ big) (hdg : decode cc pc = .ok (.getfield idx, 3)) (kk : W p l e R s m args below meth c H locs cells slots Q (F0 m (pc + 3) ls (.int (gI t 28 0) :: rest))) : W p l e R s m args below meth c H locs cells slots Q (F0 m pc ls (.ref (ad (3)) :: rest)) :=
  va_get (D := D) (ci := 1) (C := "ListForge$Outbox") (T := T_O) (N := 6) hx hb hts in_O hown hK hP (3) (at_O) rfl 4 (by decide) (bg hts hlink) (fun _ h9 => h9) rfl hdg kk
theorem p_O_kept (hx : p.tables.exec = Jvm.exec) (hb : c.code = cc) (hts : ∀ w ∈ c0 :: big, w.before args s = true) (hown : s.vm.findClass own = some m.cls) (hK : va_K D cls (cT ka) s) (hP : va_P D cls (cw ad ka t) H) (hD : va_D A (cw ad ka t)) (hS : va_S A H0 H locs) {v : Int32} (hlink : Cond.fieldLink own idx "ListForge$Outbox" "kept" "I" ∈ big) (hdg : decode cc pc = .ok (.putfield idx, 3)) (kk : ∀ (H1 : Heap) (locs1 : List Loc), va_P D cls (cw ad ka (pI t 28 0 v)) H1 → va_D A (cw ad ka (pI t 28 0 v)) → va_S A H0 H1 locs1 → W p l e R s m args below meth c H1 locs1 cells slots Q (F0 m (pc + 3) ls rest)) : W p l e R s m args below meth c H locs cells slots Q (F0 m pc ls (.int v :: .ref (ad (3)) :: rest)) :=
  va_put (D := D) (ci := 1) (ty := .int) (C := "ListForge$Outbox") (T := T_O) (N := 6) hx hb hts in_O t_O t_O_ok n_O hown hK hP hD hS (3) (at_O) rfl 4 (by decide) (bg hts hlink) (fun _ h9 => h9) rfl (by decide +kernel) rfl rfl (Nat.le_of_ble_eq_true rfl) hdg (fun H1 locs1 h1 h2 h3 => kk H1 locs1 (s_O_kept ▸ h1) (s_O_kept ▸ h2) h3)
theorem g_O_total (hx : p.tables.exec = Jvm.exec) (hb : c.code = cc) (hts : ∀ w ∈ c0 :: big, w.before args s = true) (hown : s.vm.findClass own = some m.cls) (hK : va_K D cls (cT ka) s) (hP : va_P D cls (cw ad ka t) H) (hlink : Cond.fieldLink own idx "ListForge$Outbox" "total" "I" ∈ big) (hdg : decode cc pc = .ok (.getfield idx, 3)) (kk : W p l e R s m args below meth c H locs cells slots Q (F0 m (pc + 3) ls (.int (gI t 29 0) :: rest))) : W p l e R s m args below meth c H locs cells slots Q (F0 m pc ls (.ref (ad (3)) :: rest)) :=
  va_get (D := D) (ci := 1) (C := "ListForge$Outbox") (T := T_O) (N := 6) hx hb hts in_O hown hK hP (3) (at_O) rfl 5 (by decide) (bg hts hlink) (fun _ h9 => h9) rfl hdg kk
theorem p_O_total (hx : p.tables.exec = Jvm.exec) (hb : c.code = cc) (hts : ∀ w ∈ c0 :: big, w.before args s = true) (hown : s.vm.findClass own = some m.cls) (hK : va_K D cls (cT ka) s) (hP : va_P D cls (cw ad ka t) H) (hD : va_D A (cw ad ka t)) (hS : va_S A H0 H locs) {v : Int32} (hlink : Cond.fieldLink own idx "ListForge$Outbox" "total" "I" ∈ big) (hdg : decode cc pc = .ok (.putfield idx, 3)) (kk : ∀ (H1 : Heap) (locs1 : List Loc), va_P D cls (cw ad ka (pI t 29 0 v)) H1 → va_D A (cw ad ka (pI t 29 0 v)) → va_S A H0 H1 locs1 → W p l e R s m args below meth c H1 locs1 cells slots Q (F0 m (pc + 3) ls rest)) : W p l e R s m args below meth c H locs cells slots Q (F0 m pc ls (.int v :: .ref (ad (3)) :: rest)) :=
  va_put (D := D) (ci := 1) (ty := .int) (C := "ListForge$Outbox") (T := T_O) (N := 6) hx hb hts in_O t_O t_O_ok n_O hown hK hP hD hS (3) (at_O) rfl 5 (by decide) (bg hts hlink) (fun _ h9 => h9) rfl (by decide +kernel) rfl rfl (Nat.le_of_ble_eq_true rfl) hdg (fun H1 locs1 h1 h2 h3 => kk H1 locs1 (s_O_total ▸ h1) (s_O_total ▸ h2) h3)
theorem g_L_number (hx : p.tables.exec = Jvm.exec) (hb : c.code = cc) (hts : ∀ w ∈ c0 :: big, w.before args s = true) (hown : s.vm.findClass own = some m.cls) (hK : va_K D cls (cT ka) s) (hP : va_P D cls (cw ad ka t) H) {u : Nat} (hu : u < 3) (hlink : Cond.fieldLink own idx "ListForge$MailingList" "number" "I" ∈ big) (hdg : decode cc pc = .ok (.getfield idx, 3)) (kk : W p l e R s m args below meth c H locs cells slots Q (F0 m (pc + 3) ls (.int (nI u) :: rest))) : W p l e R s m args below meth c H locs cells slots Q (F0 m pc ls (.ref (ad (8 + u)) :: rest)) :=
  va_get (D := D) (ci := 0) (C := "ListForge$MailingList") (T := T_L) (N := 12) hx hb hts in_L hown hK hP (8 + u) (at_L hu) rfl 0 (by decide) (bg hts hlink) (fun _ h9 => h9) rfl hdg kk
theorem g_L_subscriptions (hx : p.tables.exec = Jvm.exec) (hb : c.code = cc) (hts : ∀ w ∈ c0 :: big, w.before args s = true) (hown : s.vm.findClass own = some m.cls) (hK : va_K D cls (cT ka) s) (hP : va_P D cls (cw ad ka t) H) {u : Nat} (hu : u < 3) (hlink : Cond.fieldLink own idx "ListForge$MailingList" "subscriptions" "[LListForge$Subscription;" ∈ big) (hdg : decode cc pc = .ok (.getfield idx, 3)) (kk : W p l e R s m args below meth c H locs cells slots Q (F0 m (pc + 3) ls (.ref (ad (11 + u)) :: rest))) : W p l e R s m args below meth c H locs cells slots Q (F0 m pc ls (.ref (ad (8 + u)) :: rest)) :=
  va_get (D := D) (ci := 0) (C := "ListForge$MailingList") (T := T_L) (N := 12) hx hb hts in_L hown hK hP (8 + u) (at_L hu) rfl 1 (by decide) (bg hts hlink) (fun _ h9 => h9) rfl hdg kk
theorem g_L_banned (hx : p.tables.exec = Jvm.exec) (hb : c.code = cc) (hts : ∀ w ∈ c0 :: big, w.before args s = true) (hown : s.vm.findClass own = some m.cls) (hK : va_K D cls (cT ka) s) (hP : va_P D cls (cw ad ka t) H) {u : Nat} (hu : u < 3) (hlink : Cond.fieldLink own idx "ListForge$MailingList" "banned" "[Z" ∈ big) (hdg : decode cc pc = .ok (.getfield idx, 3)) (kk : W p l e R s m args below meth c H locs cells slots Q (F0 m (pc + 3) ls (.ref (ad (14 + u)) :: rest))) : W p l e R s m args below meth c H locs cells slots Q (F0 m pc ls (.ref (ad (8 + u)) :: rest)) :=
  va_get (D := D) (ci := 0) (C := "ListForge$MailingList") (T := T_L) (N := 12) hx hb hts in_L hown hK hP (8 + u) (at_L hu) rfl 2 (by decide) (bg hts hlink) (fun _ h9 => h9) rfl hdg kk
theorem g_L_barred (hx : p.tables.exec = Jvm.exec) (hb : c.code = cc) (hts : ∀ w ∈ c0 :: big, w.before args s = true) (hown : s.vm.findClass own = some m.cls) (hK : va_K D cls (cT ka) s) (hP : va_P D cls (cw ad ka t) H) {u : Nat} (hu : u < 3) (hlink : Cond.fieldLink own idx "ListForge$MailingList" "barred" "[Z" ∈ big) (hdg : decode cc pc = .ok (.getfield idx, 3)) (kk : W p l e R s m args below meth c H locs cells slots Q (F0 m (pc + 3) ls (.ref (ad (17 + u)) :: rest))) : W p l e R s m args below meth c H locs cells slots Q (F0 m pc ls (.ref (ad (8 + u)) :: rest)) :=
  va_get (D := D) (ci := 0) (C := "ListForge$MailingList") (T := T_L) (N := 12) hx hb hts in_L hown hK hP (8 + u) (at_L hu) rfl 3 (by decide) (bg hts hlink) (fun _ h9 => h9) rfl hdg kk
theorem g_L_open (hx : p.tables.exec = Jvm.exec) (hb : c.code = cc) (hts : ∀ w ∈ c0 :: big, w.before args s = true) (hown : s.vm.findClass own = some m.cls) (hK : va_K D cls (cT ka) s) (hP : va_P D cls (cw ad ka t) H) {u : Nat} (hu : u < 3) (hlink : Cond.fieldLink own idx "ListForge$MailingList" "open" "Z" ∈ big) (hdg : decode cc pc = .ok (.getfield idx, 3)) (kk : W p l e R s m args below meth c H locs cells slots Q (F0 m (pc + 3) ls (.int (gI t 10 u) :: rest))) : W p l e R s m args below meth c H locs cells slots Q (F0 m pc ls (.ref (ad (8 + u)) :: rest)) :=
  va_get (D := D) (ci := 0) (C := "ListForge$MailingList") (T := T_L) (N := 12) hx hb hts in_L hown hK hP (8 + u) (at_L hu) rfl 4 (by decide) (bg hts hlink) (fun _ h9 => h9) rfl hdg kk
theorem p_L_open (hx : p.tables.exec = Jvm.exec) (hb : c.code = cc) (hts : ∀ w ∈ c0 :: big, w.before args s = true) (hown : s.vm.findClass own = some m.cls) (hK : va_K D cls (cT ka) s) (hP : va_P D cls (cw ad ka t) H) (hD : va_D A (cw ad ka t)) (hS : va_S A H0 H locs) {u : Nat} (hu : u < 3) {v : Int32} (hz : v = 0 ∨ v = 1) (hlink : Cond.fieldLink own idx "ListForge$MailingList" "open" "Z" ∈ big) (hdg : decode cc pc = .ok (.putfield idx, 3)) (kk : ∀ (H1 : Heap) (locs1 : List Loc), va_P D cls (cw ad ka (pI t 10 u v)) H1 → va_D A (cw ad ka (pI t 10 u v)) → va_S A H0 H1 locs1 → W p l e R s m args below meth c H1 locs1 cells slots Q (F0 m (pc + 3) ls rest)) : W p l e R s m args below meth c H locs cells slots Q (F0 m pc ls (.int v :: .ref (ad (8 + u)) :: rest)) :=
  va_put (D := D) (ci := 0) (ty := .boolean) (C := "ListForge$MailingList") (T := T_L) (N := 12) hx hb hts in_L t_L t_L_ok n_L hown hK hP hD hS (8 + u) (at_L hu) rfl 4 (by decide) (bg hts hlink) (fun _ h9 => h9) rfl (by decide +kernel) (by rcases hz with rfl | rfl <;> rfl) (by rcases hz with rfl | rfl <;> rfl) (Nat.le_of_ble_eq_true rfl) hdg (fun H1 locs1 h1 h2 h3 => kk H1 locs1 (s_L_open hu ▸ h1) (s_L_open hu ▸ h2) h3)
theorem g_L_watched (hx : p.tables.exec = Jvm.exec) (hb : c.code = cc) (hts : ∀ w ∈ c0 :: big, w.before args s = true) (hown : s.vm.findClass own = some m.cls) (hK : va_K D cls (cT ka) s) (hP : va_P D cls (cw ad ka t) H) {u : Nat} (hu : u < 3) (hlink : Cond.fieldLink own idx "ListForge$MailingList" "watched" "Z" ∈ big) (hdg : decode cc pc = .ok (.getfield idx, 3)) (kk : W p l e R s m args below meth c H locs cells slots Q (F0 m (pc + 3) ls (.int (gI t 11 u) :: rest))) : W p l e R s m args below meth c H locs cells slots Q (F0 m pc ls (.ref (ad (8 + u)) :: rest)) :=
  va_get (D := D) (ci := 0) (C := "ListForge$MailingList") (T := T_L) (N := 12) hx hb hts in_L hown hK hP (8 + u) (at_L hu) rfl 5 (by decide) (bg hts hlink) (fun _ h9 => h9) rfl hdg kk
theorem p_L_watched (hx : p.tables.exec = Jvm.exec) (hb : c.code = cc) (hts : ∀ w ∈ c0 :: big, w.before args s = true) (hown : s.vm.findClass own = some m.cls) (hK : va_K D cls (cT ka) s) (hP : va_P D cls (cw ad ka t) H) (hD : va_D A (cw ad ka t)) (hS : va_S A H0 H locs) {u : Nat} (hu : u < 3) {v : Int32} (hz : v = 0 ∨ v = 1) (hlink : Cond.fieldLink own idx "ListForge$MailingList" "watched" "Z" ∈ big) (hdg : decode cc pc = .ok (.putfield idx, 3)) (kk : ∀ (H1 : Heap) (locs1 : List Loc), va_P D cls (cw ad ka (pI t 11 u v)) H1 → va_D A (cw ad ka (pI t 11 u v)) → va_S A H0 H1 locs1 → W p l e R s m args below meth c H1 locs1 cells slots Q (F0 m (pc + 3) ls rest)) : W p l e R s m args below meth c H locs cells slots Q (F0 m pc ls (.int v :: .ref (ad (8 + u)) :: rest)) :=
  va_put (D := D) (ci := 0) (ty := .boolean) (C := "ListForge$MailingList") (T := T_L) (N := 12) hx hb hts in_L t_L t_L_ok n_L hown hK hP hD hS (8 + u) (at_L hu) rfl 5 (by decide) (bg hts hlink) (fun _ h9 => h9) rfl (by decide +kernel) (by rcases hz with rfl | rfl <;> rfl) (by rcases hz with rfl | rfl <;> rfl) (Nat.le_of_ble_eq_true rfl) hdg (fun H1 locs1 h1 h2 h3 => kk H1 locs1 (s_L_watched hu ▸ h1) (s_L_watched hu ▸ h2) h3)
theorem g_L_greatest (hx : p.tables.exec = Jvm.exec) (hb : c.code = cc) (hts : ∀ w ∈ c0 :: big, w.before args s = true) (hown : s.vm.findClass own = some m.cls) (hK : va_K D cls (cT ka) s) (hP : va_P D cls (cw ad ka t) H) {u : Nat} (hu : u < 3) (hlink : Cond.fieldLink own idx "ListForge$MailingList" "greatest" "I" ∈ big) (hdg : decode cc pc = .ok (.getfield idx, 3)) (kk : W p l e R s m args below meth c H locs cells slots Q (F0 m (pc + 3) ls (.int (gI t 12 u) :: rest))) : W p l e R s m args below meth c H locs cells slots Q (F0 m pc ls (.ref (ad (8 + u)) :: rest)) :=
  va_get (D := D) (ci := 0) (C := "ListForge$MailingList") (T := T_L) (N := 12) hx hb hts in_L hown hK hP (8 + u) (at_L hu) rfl 6 (by decide) (bg hts hlink) (fun _ h9 => h9) rfl hdg kk
theorem p_L_greatest (hx : p.tables.exec = Jvm.exec) (hb : c.code = cc) (hts : ∀ w ∈ c0 :: big, w.before args s = true) (hown : s.vm.findClass own = some m.cls) (hK : va_K D cls (cT ka) s) (hP : va_P D cls (cw ad ka t) H) (hD : va_D A (cw ad ka t)) (hS : va_S A H0 H locs) {u : Nat} (hu : u < 3) {v : Int32} (hlink : Cond.fieldLink own idx "ListForge$MailingList" "greatest" "I" ∈ big) (hdg : decode cc pc = .ok (.putfield idx, 3)) (kk : ∀ (H1 : Heap) (locs1 : List Loc), va_P D cls (cw ad ka (pI t 12 u v)) H1 → va_D A (cw ad ka (pI t 12 u v)) → va_S A H0 H1 locs1 → W p l e R s m args below meth c H1 locs1 cells slots Q (F0 m (pc + 3) ls rest)) : W p l e R s m args below meth c H locs cells slots Q (F0 m pc ls (.int v :: .ref (ad (8 + u)) :: rest)) :=
  va_put (D := D) (ci := 0) (ty := .int) (C := "ListForge$MailingList") (T := T_L) (N := 12) hx hb hts in_L t_L t_L_ok n_L hown hK hP hD hS (8 + u) (at_L hu) rfl 6 (by decide) (bg hts hlink) (fun _ h9 => h9) rfl (by decide +kernel) rfl rfl (Nat.le_of_ble_eq_true rfl) hdg (fun H1 locs1 h1 h2 h3 => kk H1 locs1 (s_L_greatest hu ▸ h1) (s_L_greatest hu ▸ h2) h3)
theorem g_L_full (hx : p.tables.exec = Jvm.exec) (hb : c.code = cc) (hts : ∀ w ∈ c0 :: big, w.before args s = true) (hown : s.vm.findClass own = some m.cls) (hK : va_K D cls (cT ka) s) (hP : va_P D cls (cw ad ka t) H) {u : Nat} (hu : u < 3) (hlink : Cond.fieldLink own idx "ListForge$MailingList" "full" "I" ∈ big) (hdg : decode cc pc = .ok (.getfield idx, 3)) (kk : W p l e R s m args below meth c H locs cells slots Q (F0 m (pc + 3) ls (.int (gI t 13 u) :: rest))) : W p l e R s m args below meth c H locs cells slots Q (F0 m pc ls (.ref (ad (8 + u)) :: rest)) :=
  va_get (D := D) (ci := 0) (C := "ListForge$MailingList") (T := T_L) (N := 12) hx hb hts in_L hown hK hP (8 + u) (at_L hu) rfl 7 (by decide) (bg hts hlink) (fun _ h9 => h9) rfl hdg kk
theorem p_L_full (hx : p.tables.exec = Jvm.exec) (hb : c.code = cc) (hts : ∀ w ∈ c0 :: big, w.before args s = true) (hown : s.vm.findClass own = some m.cls) (hK : va_K D cls (cT ka) s) (hP : va_P D cls (cw ad ka t) H) (hD : va_D A (cw ad ka t)) (hS : va_S A H0 H locs) {u : Nat} (hu : u < 3) {v : Int32} (hlink : Cond.fieldLink own idx "ListForge$MailingList" "full" "I" ∈ big) (hdg : decode cc pc = .ok (.putfield idx, 3)) (kk : ∀ (H1 : Heap) (locs1 : List Loc), va_P D cls (cw ad ka (pI t 13 u v)) H1 → va_D A (cw ad ka (pI t 13 u v)) → va_S A H0 H1 locs1 → W p l e R s m args below meth c H1 locs1 cells slots Q (F0 m (pc + 3) ls rest)) : W p l e R s m args below meth c H locs cells slots Q (F0 m pc ls (.int v :: .ref (ad (8 + u)) :: rest)) :=
  va_put (D := D) (ci := 0) (ty := .int) (C := "ListForge$MailingList") (T := T_L) (N := 12) hx hb hts in_L t_L t_L_ok n_L hown hK hP hD hS (8 + u) (at_L hu) rfl 7 (by decide) (bg hts hlink) (fun _ h9 => h9) rfl (by decide +kernel) rfl rfl (Nat.le_of_ble_eq_true rfl) hdg (fun H1 locs1 h1 h2 h3 => kk H1 locs1 (s_L_full hu ▸ h1) (s_L_full hu ▸ h2) h3)
theorem g_L_best (hx : p.tables.exec = Jvm.exec) (hb : c.code = cc) (hts : ∀ w ∈ c0 :: big, w.before args s = true) (hown : s.vm.findClass own = some m.cls) (hK : va_K D cls (cT ka) s) (hP : va_P D cls (cw ad ka t) H) {u : Nat} (hu : u < 3) (hlink : Cond.fieldLink own idx "ListForge$MailingList" "best" "D" ∈ big) (hdg : decode cc pc = .ok (.getfield idx, 3)) (kk : W p l e R s m args below meth c H locs cells slots Q (F0 m (pc + 3) ls (.double (gD t 1 u) :: rest))) : W p l e R s m args below meth c H locs cells slots Q (F0 m pc ls (.ref (ad (8 + u)) :: rest)) :=
  va_get (D := D) (ci := 0) (C := "ListForge$MailingList") (T := T_L) (N := 12) hx hb hts in_L hown hK hP (8 + u) (at_L hu) rfl 8 (by decide) (bg hts hlink) (fun _ h9 => h9) rfl hdg kk
theorem p_L_best (hx : p.tables.exec = Jvm.exec) (hb : c.code = cc) (hts : ∀ w ∈ c0 :: big, w.before args s = true) (hown : s.vm.findClass own = some m.cls) (hK : va_K D cls (cT ka) s) (hP : va_P D cls (cw ad ka t) H) (hD : va_D A (cw ad ka t)) (hS : va_S A H0 H locs) {u : Nat} (hu : u < 3) {v : UInt64} (hlink : Cond.fieldLink own idx "ListForge$MailingList" "best" "D" ∈ big) (hdg : decode cc pc = .ok (.putfield idx, 3)) (kk : ∀ (H1 : Heap) (locs1 : List Loc), va_P D cls (cw ad ka (pD t 1 u v)) H1 → va_D A (cw ad ka (pD t 1 u v)) → va_S A H0 H1 locs1 → W p l e R s m args below meth c H1 locs1 cells slots Q (F0 m (pc + 3) ls rest)) : W p l e R s m args below meth c H locs cells slots Q (F0 m pc ls (.double v :: .ref (ad (8 + u)) :: rest)) :=
  va_put (D := D) (ci := 0) (ty := .double) (C := "ListForge$MailingList") (T := T_L) (N := 12) hx hb hts in_L t_L t_L_ok n_L hown hK hP hD hS (8 + u) (at_L hu) rfl 8 (by decide) (bg hts hlink) (fun _ h9 => h9) rfl (by decide +kernel) rfl rfl (Nat.le_of_ble_eq_true rfl) hdg (fun H1 locs1 h1 h2 h3 => kk H1 locs1 (s_L_best hu ▸ h1) (s_L_best hu ▸ h2) h3)
theorem g_L_bundlePosts (hx : p.tables.exec = Jvm.exec) (hb : c.code = cc) (hts : ∀ w ∈ c0 :: big, w.before args s = true) (hown : s.vm.findClass own = some m.cls) (hK : va_K D cls (cT ka) s) (hP : va_P D cls (cw ad ka t) H) {u : Nat} (hu : u < 3) (hlink : Cond.fieldLink own idx "ListForge$MailingList" "bundlePosts" "I" ∈ big) (hdg : decode cc pc = .ok (.getfield idx, 3)) (kk : W p l e R s m args below meth c H locs cells slots Q (F0 m (pc + 3) ls (.int (gI t 14 u) :: rest))) : W p l e R s m args below meth c H locs cells slots Q (F0 m pc ls (.ref (ad (8 + u)) :: rest)) :=
  va_get (D := D) (ci := 0) (C := "ListForge$MailingList") (T := T_L) (N := 12) hx hb hts in_L hown hK hP (8 + u) (at_L hu) rfl 9 (by decide) (bg hts hlink) (fun _ h9 => h9) rfl hdg kk
theorem p_L_bundlePosts (hx : p.tables.exec = Jvm.exec) (hb : c.code = cc) (hts : ∀ w ∈ c0 :: big, w.before args s = true) (hown : s.vm.findClass own = some m.cls) (hK : va_K D cls (cT ka) s) (hP : va_P D cls (cw ad ka t) H) (hD : va_D A (cw ad ka t)) (hS : va_S A H0 H locs) {u : Nat} (hu : u < 3) {v : Int32} (hlink : Cond.fieldLink own idx "ListForge$MailingList" "bundlePosts" "I" ∈ big) (hdg : decode cc pc = .ok (.putfield idx, 3)) (kk : ∀ (H1 : Heap) (locs1 : List Loc), va_P D cls (cw ad ka (pI t 14 u v)) H1 → va_D A (cw ad ka (pI t 14 u v)) → va_S A H0 H1 locs1 → W p l e R s m args below meth c H1 locs1 cells slots Q (F0 m (pc + 3) ls rest)) : W p l e R s m args below meth c H locs cells slots Q (F0 m pc ls (.int v :: .ref (ad (8 + u)) :: rest)) :=
  va_put (D := D) (ci := 0) (ty := .int) (C := "ListForge$MailingList") (T := T_L) (N := 12) hx hb hts in_L t_L t_L_ok n_L hown hK hP hD hS (8 + u) (at_L hu) rfl 9 (by decide) (bg hts hlink) (fun _ h9 => h9) rfl (by decide +kernel) rfl rfl (Nat.le_of_ble_eq_true rfl) hdg (fun H1 locs1 h1 h2 h3 => kk H1 locs1 (s_L_bundlePosts hu ▸ h1) (s_L_bundlePosts hu ▸ h2) h3)
theorem g_L_bundleSizes (hx : p.tables.exec = Jvm.exec) (hb : c.code = cc) (hts : ∀ w ∈ c0 :: big, w.before args s = true) (hown : s.vm.findClass own = some m.cls) (hK : va_K D cls (cT ka) s) (hP : va_P D cls (cw ad ka t) H) {u : Nat} (hu : u < 3) (hlink : Cond.fieldLink own idx "ListForge$MailingList" "bundleSizes" "I" ∈ big) (hdg : decode cc pc = .ok (.getfield idx, 3)) (kk : W p l e R s m args below meth c H locs cells slots Q (F0 m (pc + 3) ls (.int (gI t 15 u) :: rest))) : W p l e R s m args below meth c H locs cells slots Q (F0 m pc ls (.ref (ad (8 + u)) :: rest)) :=
  va_get (D := D) (ci := 0) (C := "ListForge$MailingList") (T := T_L) (N := 12) hx hb hts in_L hown hK hP (8 + u) (at_L hu) rfl 10 (by decide) (bg hts hlink) (fun _ h9 => h9) rfl hdg kk
theorem p_L_bundleSizes (hx : p.tables.exec = Jvm.exec) (hb : c.code = cc) (hts : ∀ w ∈ c0 :: big, w.before args s = true) (hown : s.vm.findClass own = some m.cls) (hK : va_K D cls (cT ka) s) (hP : va_P D cls (cw ad ka t) H) (hD : va_D A (cw ad ka t)) (hS : va_S A H0 H locs) {u : Nat} (hu : u < 3) {v : Int32} (hlink : Cond.fieldLink own idx "ListForge$MailingList" "bundleSizes" "I" ∈ big) (hdg : decode cc pc = .ok (.putfield idx, 3)) (kk : ∀ (H1 : Heap) (locs1 : List Loc), va_P D cls (cw ad ka (pI t 15 u v)) H1 → va_D A (cw ad ka (pI t 15 u v)) → va_S A H0 H1 locs1 → W p l e R s m args below meth c H1 locs1 cells slots Q (F0 m (pc + 3) ls rest)) : W p l e R s m args below meth c H locs cells slots Q (F0 m pc ls (.int v :: .ref (ad (8 + u)) :: rest)) :=
  va_put (D := D) (ci := 0) (ty := .int) (C := "ListForge$MailingList") (T := T_L) (N := 12) hx hb hts in_L t_L t_L_ok n_L hown hK hP hD hS (8 + u) (at_L hu) rfl 10 (by decide) (bg hts hlink) (fun _ h9 => h9) rfl (by decide +kernel) rfl rfl (Nat.le_of_ble_eq_true rfl) hdg (fun H1 locs1 h1 h2 h3 => kk H1 locs1 (s_L_bundleSizes hu ▸ h1) (s_L_bundleSizes hu ▸ h2) h3)
theorem g_L_bundleSince (hx : p.tables.exec = Jvm.exec) (hb : c.code = cc) (hts : ∀ w ∈ c0 :: big, w.before args s = true) (hown : s.vm.findClass own = some m.cls) (hK : va_K D cls (cT ka) s) (hP : va_P D cls (cw ad ka t) H) {u : Nat} (hu : u < 3) (hlink : Cond.fieldLink own idx "ListForge$MailingList" "bundleSince" "I" ∈ big) (hdg : decode cc pc = .ok (.getfield idx, 3)) (kk : W p l e R s m args below meth c H locs cells slots Q (F0 m (pc + 3) ls (.int (gI t 16 u) :: rest))) : W p l e R s m args below meth c H locs cells slots Q (F0 m pc ls (.ref (ad (8 + u)) :: rest)) :=
  va_get (D := D) (ci := 0) (C := "ListForge$MailingList") (T := T_L) (N := 12) hx hb hts in_L hown hK hP (8 + u) (at_L hu) rfl 11 (by decide) (bg hts hlink) (fun _ h9 => h9) rfl hdg kk
theorem p_L_bundleSince (hx : p.tables.exec = Jvm.exec) (hb : c.code = cc) (hts : ∀ w ∈ c0 :: big, w.before args s = true) (hown : s.vm.findClass own = some m.cls) (hK : va_K D cls (cT ka) s) (hP : va_P D cls (cw ad ka t) H) (hD : va_D A (cw ad ka t)) (hS : va_S A H0 H locs) {u : Nat} (hu : u < 3) {v : Int32} (hlink : Cond.fieldLink own idx "ListForge$MailingList" "bundleSince" "I" ∈ big) (hdg : decode cc pc = .ok (.putfield idx, 3)) (kk : ∀ (H1 : Heap) (locs1 : List Loc), va_P D cls (cw ad ka (pI t 16 u v)) H1 → va_D A (cw ad ka (pI t 16 u v)) → va_S A H0 H1 locs1 → W p l e R s m args below meth c H1 locs1 cells slots Q (F0 m (pc + 3) ls rest)) : W p l e R s m args below meth c H locs cells slots Q (F0 m pc ls (.int v :: .ref (ad (8 + u)) :: rest)) :=
  va_put (D := D) (ci := 0) (ty := .int) (C := "ListForge$MailingList") (T := T_L) (N := 12) hx hb hts in_L t_L t_L_ok n_L hown hK hP hD hS (8 + u) (at_L hu) rfl 11 (by decide) (bg hts hlink) (fun _ h9 => h9) rfl (by decide +kernel) rfl rfl (Nat.le_of_ble_eq_true rfl) hdg (fun H1 locs1 h1 h2 h3 => kk H1 locs1 (s_L_bundleSince hu ▸ h1) (s_L_bundleSince hu ▸ h2) h3)
theorem g_P_list (hx : p.tables.exec = Jvm.exec) (hb : c.code = cc) (hts : ∀ w ∈ c0 :: big, w.before args s = true) (hown : s.vm.findClass own = some m.cls) (hK : va_K D cls (cT ka) s) (hP : va_P D cls (cw ad ka t) H) {u : Nat} (hu : u < 40) (hlink : Cond.fieldLink own idx "ListForge$Post" "list" "I" ∈ big) (hdg : decode cc pc = .ok (.getfield idx, 3)) (kk : W p l e R s m args below meth c H locs cells slots Q (F0 m (pc + 3) ls (.int (gI t 20 u) :: rest))) : W p l e R s m args below meth c H locs cells slots Q (F0 m pc ls (.ref (ad (20 + u)) :: rest)) :=
  va_get (D := D) (ci := 2) (C := "ListForge$Post") (T := T_P) (N := 4) hx hb hts in_P hown hK hP (20 + u) (at_P hu) rfl 0 (by decide) (bg hts hlink) (fun _ h9 => h9) rfl hdg kk
theorem p_P_list (hx : p.tables.exec = Jvm.exec) (hb : c.code = cc) (hts : ∀ w ∈ c0 :: big, w.before args s = true) (hown : s.vm.findClass own = some m.cls) (hK : va_K D cls (cT ka) s) (hP : va_P D cls (cw ad ka t) H) (hD : va_D A (cw ad ka t)) (hS : va_S A H0 H locs) {u : Nat} (hu : u < 40) {v : Int32} (hlink : Cond.fieldLink own idx "ListForge$Post" "list" "I" ∈ big) (hdg : decode cc pc = .ok (.putfield idx, 3)) (kk : ∀ (H1 : Heap) (locs1 : List Loc), va_P D cls (cw ad ka (pI t 20 u v)) H1 → va_D A (cw ad ka (pI t 20 u v)) → va_S A H0 H1 locs1 → W p l e R s m args below meth c H1 locs1 cells slots Q (F0 m (pc + 3) ls rest)) : W p l e R s m args below meth c H locs cells slots Q (F0 m pc ls (.int v :: .ref (ad (20 + u)) :: rest)) :=
  va_put (D := D) (ci := 2) (ty := .int) (C := "ListForge$Post") (T := T_P) (N := 4) hx hb hts in_P t_P t_P_ok n_P hown hK hP hD hS (20 + u) (at_P hu) rfl 0 (by decide) (bg hts hlink) (fun _ h9 => h9) rfl (by decide +kernel) rfl rfl (Nat.le_of_ble_eq_true rfl) hdg (fun H1 locs1 h1 h2 h3 => kk H1 locs1 (s_P_list hu ▸ h1) (s_P_list hu ▸ h2) h3)
theorem g_P_sender (hx : p.tables.exec = Jvm.exec) (hb : c.code = cc) (hts : ∀ w ∈ c0 :: big, w.before args s = true) (hown : s.vm.findClass own = some m.cls) (hK : va_K D cls (cT ka) s) (hP : va_P D cls (cw ad ka t) H) {u : Nat} (hu : u < 40) (hlink : Cond.fieldLink own idx "ListForge$Post" "sender" "I" ∈ big) (hdg : decode cc pc = .ok (.getfield idx, 3)) (kk : W p l e R s m args below meth c H locs cells slots Q (F0 m (pc + 3) ls (.int (gI t 21 u) :: rest))) : W p l e R s m args below meth c H locs cells slots Q (F0 m pc ls (.ref (ad (20 + u)) :: rest)) :=
  va_get (D := D) (ci := 2) (C := "ListForge$Post") (T := T_P) (N := 4) hx hb hts in_P hown hK hP (20 + u) (at_P hu) rfl 1 (by decide) (bg hts hlink) (fun _ h9 => h9) rfl hdg kk
theorem p_P_sender (hx : p.tables.exec = Jvm.exec) (hb : c.code = cc) (hts : ∀ w ∈ c0 :: big, w.before args s = true) (hown : s.vm.findClass own = some m.cls) (hK : va_K D cls (cT ka) s) (hP : va_P D cls (cw ad ka t) H) (hD : va_D A (cw ad ka t)) (hS : va_S A H0 H locs) {u : Nat} (hu : u < 40) {v : Int32} (hlink : Cond.fieldLink own idx "ListForge$Post" "sender" "I" ∈ big) (hdg : decode cc pc = .ok (.putfield idx, 3)) (kk : ∀ (H1 : Heap) (locs1 : List Loc), va_P D cls (cw ad ka (pI t 21 u v)) H1 → va_D A (cw ad ka (pI t 21 u v)) → va_S A H0 H1 locs1 → W p l e R s m args below meth c H1 locs1 cells slots Q (F0 m (pc + 3) ls rest)) : W p l e R s m args below meth c H locs cells slots Q (F0 m pc ls (.int v :: .ref (ad (20 + u)) :: rest)) :=
  va_put (D := D) (ci := 2) (ty := .int) (C := "ListForge$Post") (T := T_P) (N := 4) hx hb hts in_P t_P t_P_ok n_P hown hK hP hD hS (20 + u) (at_P hu) rfl 1 (by decide) (bg hts hlink) (fun _ h9 => h9) rfl (by decide +kernel) rfl rfl (Nat.le_of_ble_eq_true rfl) hdg (fun H1 locs1 h1 h2 h3 => kk H1 locs1 (s_P_sender hu ▸ h1) (s_P_sender hu ▸ h2) h3)
theorem g_P_size (hx : p.tables.exec = Jvm.exec) (hb : c.code = cc) (hts : ∀ w ∈ c0 :: big, w.before args s = true) (hown : s.vm.findClass own = some m.cls) (hK : va_K D cls (cT ka) s) (hP : va_P D cls (cw ad ka t) H) {u : Nat} (hu : u < 40) (hlink : Cond.fieldLink own idx "ListForge$Post" "size" "I" ∈ big) (hdg : decode cc pc = .ok (.getfield idx, 3)) (kk : W p l e R s m args below meth c H locs cells slots Q (F0 m (pc + 3) ls (.int (gI t 22 u) :: rest))) : W p l e R s m args below meth c H locs cells slots Q (F0 m pc ls (.ref (ad (20 + u)) :: rest)) :=
  va_get (D := D) (ci := 2) (C := "ListForge$Post") (T := T_P) (N := 4) hx hb hts in_P hown hK hP (20 + u) (at_P hu) rfl 2 (by decide) (bg hts hlink) (fun _ h9 => h9) rfl hdg kk
theorem p_P_size (hx : p.tables.exec = Jvm.exec) (hb : c.code = cc) (hts : ∀ w ∈ c0 :: big, w.before args s = true) (hown : s.vm.findClass own = some m.cls) (hK : va_K D cls (cT ka) s) (hP : va_P D cls (cw ad ka t) H) (hD : va_D A (cw ad ka t)) (hS : va_S A H0 H locs) {u : Nat} (hu : u < 40) {v : Int32} (hlink : Cond.fieldLink own idx "ListForge$Post" "size" "I" ∈ big) (hdg : decode cc pc = .ok (.putfield idx, 3)) (kk : ∀ (H1 : Heap) (locs1 : List Loc), va_P D cls (cw ad ka (pI t 22 u v)) H1 → va_D A (cw ad ka (pI t 22 u v)) → va_S A H0 H1 locs1 → W p l e R s m args below meth c H1 locs1 cells slots Q (F0 m (pc + 3) ls rest)) : W p l e R s m args below meth c H locs cells slots Q (F0 m pc ls (.int v :: .ref (ad (20 + u)) :: rest)) :=
  va_put (D := D) (ci := 2) (ty := .int) (C := "ListForge$Post") (T := T_P) (N := 4) hx hb hts in_P t_P t_P_ok n_P hown hK hP hD hS (20 + u) (at_P hu) rfl 2 (by decide) (bg hts hlink) (fun _ h9 => h9) rfl (by decide +kernel) rfl rfl (Nat.le_of_ble_eq_true rfl) hdg (fun H1 locs1 h1 h2 h3 => kk H1 locs1 (s_P_size hu ▸ h1) (s_P_size hu ▸ h2) h3)
theorem g_P_fate (hx : p.tables.exec = Jvm.exec) (hb : c.code = cc) (hts : ∀ w ∈ c0 :: big, w.before args s = true) (hown : s.vm.findClass own = some m.cls) (hK : va_K D cls (cT ka) s) (hP : va_P D cls (cw ad ka t) H) {u : Nat} (hu : u < 40) (hlink : Cond.fieldLink own idx "ListForge$Post" "fate" "I" ∈ big) (hdg : decode cc pc = .ok (.getfield idx, 3)) (kk : W p l e R s m args below meth c H locs cells slots Q (F0 m (pc + 3) ls (.int (gI t 23 u) :: rest))) : W p l e R s m args below meth c H locs cells slots Q (F0 m pc ls (.ref (ad (20 + u)) :: rest)) :=
  va_get (D := D) (ci := 2) (C := "ListForge$Post") (T := T_P) (N := 4) hx hb hts in_P hown hK hP (20 + u) (at_P hu) rfl 3 (by decide) (bg hts hlink) (fun _ h9 => h9) rfl hdg kk
theorem p_P_fate (hx : p.tables.exec = Jvm.exec) (hb : c.code = cc) (hts : ∀ w ∈ c0 :: big, w.before args s = true) (hown : s.vm.findClass own = some m.cls) (hK : va_K D cls (cT ka) s) (hP : va_P D cls (cw ad ka t) H) (hD : va_D A (cw ad ka t)) (hS : va_S A H0 H locs) {u : Nat} (hu : u < 40) {v : Int32} (hlink : Cond.fieldLink own idx "ListForge$Post" "fate" "I" ∈ big) (hdg : decode cc pc = .ok (.putfield idx, 3)) (kk : ∀ (H1 : Heap) (locs1 : List Loc), va_P D cls (cw ad ka (pI t 23 u v)) H1 → va_D A (cw ad ka (pI t 23 u v)) → va_S A H0 H1 locs1 → W p l e R s m args below meth c H1 locs1 cells slots Q (F0 m (pc + 3) ls rest)) : W p l e R s m args below meth c H locs cells slots Q (F0 m pc ls (.int v :: .ref (ad (20 + u)) :: rest)) :=
  va_put (D := D) (ci := 2) (ty := .int) (C := "ListForge$Post") (T := T_P) (N := 4) hx hb hts in_P t_P t_P_ok n_P hown hK hP hD hS (20 + u) (at_P hu) rfl 3 (by decide) (bg hts hlink) (fun _ h9 => h9) rfl (by decide +kernel) rfl rfl (Nat.le_of_ble_eq_true rfl) hdg (fun H1 locs1 h1 h2 h3 => kk H1 locs1 (s_P_fate hu ▸ h1) (s_P_fate hu ▸ h2) h3)
theorem g_S_state (hx : p.tables.exec = Jvm.exec) (hb : c.code = cc) (hts : ∀ w ∈ c0 :: big, w.before args s = true) (hown : s.vm.findClass own = some m.cls) (hK : va_K D cls (cT ka) s) (hP : va_P D cls (cw ad ka t) H) {u : Nat} (hu : u < 36) (hlink : Cond.fieldLink own idx "ListForge$Subscription" "state" "I" ∈ big) (hdg : decode cc pc = .ok (.getfield idx, 3)) (kk : W p l e R s m args below meth c H locs cells slots Q (F0 m (pc + 3) ls (.int (gI t 0 u) :: rest))) : W p l e R s m args below meth c H locs cells slots Q (F0 m pc ls (.ref (ad (60 + u)) :: rest)) :=
  va_get (D := D) (ci := 3) (C := "ListForge$Subscription") (T := T_S) (N := 8) hx hb hts in_S hown hK hP (60 + u) (at_S hu) rfl 0 (by decide) (bg hts hlink) (fun _ h9 => h9) rfl hdg kk
theorem p_S_state (hx : p.tables.exec = Jvm.exec) (hb : c.code = cc) (hts : ∀ w ∈ c0 :: big, w.before args s = true) (hown : s.vm.findClass own = some m.cls) (hK : va_K D cls (cT ka) s) (hP : va_P D cls (cw ad ka t) H) (hD : va_D A (cw ad ka t)) (hS : va_S A H0 H locs) {u : Nat} (hu : u < 36) {v : Int32} (hlink : Cond.fieldLink own idx "ListForge$Subscription" "state" "I" ∈ big) (hdg : decode cc pc = .ok (.putfield idx, 3)) (kk : ∀ (H1 : Heap) (locs1 : List Loc), va_P D cls (cw ad ka (pI t 0 u v)) H1 → va_D A (cw ad ka (pI t 0 u v)) → va_S A H0 H1 locs1 → W p l e R s m args below meth c H1 locs1 cells slots Q (F0 m (pc + 3) ls rest)) : W p l e R s m args below meth c H locs cells slots Q (F0 m pc ls (.int v :: .ref (ad (60 + u)) :: rest)) :=
  va_put (D := D) (ci := 3) (ty := .int) (C := "ListForge$Subscription") (T := T_S) (N := 8) hx hb hts in_S t_S t_S_ok n_S hown hK hP hD hS (60 + u) (at_S hu) rfl 0 (by decide) (bg hts hlink) (fun _ h9 => h9) rfl (by decide +kernel) rfl rfl (Nat.le_of_ble_eq_true rfl) hdg (fun H1 locs1 h1 h2 h3 => kk H1 locs1 (s_S_state hu ▸ h1) (s_S_state hu ▸ h2) h3)
theorem g_S_way (hx : p.tables.exec = Jvm.exec) (hb : c.code = cc) (hts : ∀ w ∈ c0 :: big, w.before args s = true) (hown : s.vm.findClass own = some m.cls) (hK : va_K D cls (cT ka) s) (hP : va_P D cls (cw ad ka t) H) {u : Nat} (hu : u < 36) (hlink : Cond.fieldLink own idx "ListForge$Subscription" "way" "I" ∈ big) (hdg : decode cc pc = .ok (.getfield idx, 3)) (kk : W p l e R s m args below meth c H locs cells slots Q (F0 m (pc + 3) ls (.int (gI t 1 u) :: rest))) : W p l e R s m args below meth c H locs cells slots Q (F0 m pc ls (.ref (ad (60 + u)) :: rest)) :=
  va_get (D := D) (ci := 3) (C := "ListForge$Subscription") (T := T_S) (N := 8) hx hb hts in_S hown hK hP (60 + u) (at_S hu) rfl 1 (by decide) (bg hts hlink) (fun _ h9 => h9) rfl hdg kk
theorem p_S_way (hx : p.tables.exec = Jvm.exec) (hb : c.code = cc) (hts : ∀ w ∈ c0 :: big, w.before args s = true) (hown : s.vm.findClass own = some m.cls) (hK : va_K D cls (cT ka) s) (hP : va_P D cls (cw ad ka t) H) (hD : va_D A (cw ad ka t)) (hS : va_S A H0 H locs) {u : Nat} (hu : u < 36) {v : Int32} (hlink : Cond.fieldLink own idx "ListForge$Subscription" "way" "I" ∈ big) (hdg : decode cc pc = .ok (.putfield idx, 3)) (kk : ∀ (H1 : Heap) (locs1 : List Loc), va_P D cls (cw ad ka (pI t 1 u v)) H1 → va_D A (cw ad ka (pI t 1 u v)) → va_S A H0 H1 locs1 → W p l e R s m args below meth c H1 locs1 cells slots Q (F0 m (pc + 3) ls rest)) : W p l e R s m args below meth c H locs cells slots Q (F0 m pc ls (.int v :: .ref (ad (60 + u)) :: rest)) :=
  va_put (D := D) (ci := 3) (ty := .int) (C := "ListForge$Subscription") (T := T_S) (N := 8) hx hb hts in_S t_S t_S_ok n_S hown hK hP hD hS (60 + u) (at_S hu) rfl 1 (by decide) (bg hts hlink) (fun _ h9 => h9) rfl (by decide +kernel) rfl rfl (Nat.le_of_ble_eq_true rfl) hdg (fun H1 locs1 h1 h2 h3 => kk H1 locs1 (s_S_way hu ▸ h1) (s_S_way hu ▸ h2) h3)
theorem g_S_code (hx : p.tables.exec = Jvm.exec) (hb : c.code = cc) (hts : ∀ w ∈ c0 :: big, w.before args s = true) (hown : s.vm.findClass own = some m.cls) (hK : va_K D cls (cT ka) s) (hP : va_P D cls (cw ad ka t) H) {u : Nat} (hu : u < 36) (hlink : Cond.fieldLink own idx "ListForge$Subscription" "code" "I" ∈ big) (hdg : decode cc pc = .ok (.getfield idx, 3)) (kk : W p l e R s m args below meth c H locs cells slots Q (F0 m (pc + 3) ls (.int (gI t 2 u) :: rest))) : W p l e R s m args below meth c H locs cells slots Q (F0 m pc ls (.ref (ad (60 + u)) :: rest)) :=
  va_get (D := D) (ci := 3) (C := "ListForge$Subscription") (T := T_S) (N := 8) hx hb hts in_S hown hK hP (60 + u) (at_S hu) rfl 2 (by decide) (bg hts hlink) (fun _ h9 => h9) rfl hdg kk
theorem p_S_code (hx : p.tables.exec = Jvm.exec) (hb : c.code = cc) (hts : ∀ w ∈ c0 :: big, w.before args s = true) (hown : s.vm.findClass own = some m.cls) (hK : va_K D cls (cT ka) s) (hP : va_P D cls (cw ad ka t) H) (hD : va_D A (cw ad ka t)) (hS : va_S A H0 H locs) {u : Nat} (hu : u < 36) {v : Int32} (hlink : Cond.fieldLink own idx "ListForge$Subscription" "code" "I" ∈ big) (hdg : decode cc pc = .ok (.putfield idx, 3)) (kk : ∀ (H1 : Heap) (locs1 : List Loc), va_P D cls (cw ad ka (pI t 2 u v)) H1 → va_D A (cw ad ka (pI t 2 u v)) → va_S A H0 H1 locs1 → W p l e R s m args below meth c H1 locs1 cells slots Q (F0 m (pc + 3) ls rest)) : W p l e R s m args below meth c H locs cells slots Q (F0 m pc ls (.int v :: .ref (ad (60 + u)) :: rest)) :=
  va_put (D := D) (ci := 3) (ty := .int) (C := "ListForge$Subscription") (T := T_S) (N := 8) hx hb hts in_S t_S t_S_ok n_S hown hK hP hD hS (60 + u) (at_S hu) rfl 2 (by decide) (bg hts hlink) (fun _ h9 => h9) rfl (by decide +kernel) rfl rfl (Nat.le_of_ble_eq_true rfl) hdg (fun H1 locs1 h1 h2 h3 => kk H1 locs1 (s_S_code hu ▸ h1) (s_S_code hu ▸ h2) h3)
theorem g_S_since (hx : p.tables.exec = Jvm.exec) (hb : c.code = cc) (hts : ∀ w ∈ c0 :: big, w.before args s = true) (hown : s.vm.findClass own = some m.cls) (hK : va_K D cls (cT ka) s) (hP : va_P D cls (cw ad ka t) H) {u : Nat} (hu : u < 36) (hlink : Cond.fieldLink own idx "ListForge$Subscription" "since" "I" ∈ big) (hdg : decode cc pc = .ok (.getfield idx, 3)) (kk : W p l e R s m args below meth c H locs cells slots Q (F0 m (pc + 3) ls (.int (gI t 3 u) :: rest))) : W p l e R s m args below meth c H locs cells slots Q (F0 m pc ls (.ref (ad (60 + u)) :: rest)) :=
  va_get (D := D) (ci := 3) (C := "ListForge$Subscription") (T := T_S) (N := 8) hx hb hts in_S hown hK hP (60 + u) (at_S hu) rfl 3 (by decide) (bg hts hlink) (fun _ h9 => h9) rfl hdg kk
theorem p_S_since (hx : p.tables.exec = Jvm.exec) (hb : c.code = cc) (hts : ∀ w ∈ c0 :: big, w.before args s = true) (hown : s.vm.findClass own = some m.cls) (hK : va_K D cls (cT ka) s) (hP : va_P D cls (cw ad ka t) H) (hD : va_D A (cw ad ka t)) (hS : va_S A H0 H locs) {u : Nat} (hu : u < 36) {v : Int32} (hlink : Cond.fieldLink own idx "ListForge$Subscription" "since" "I" ∈ big) (hdg : decode cc pc = .ok (.putfield idx, 3)) (kk : ∀ (H1 : Heap) (locs1 : List Loc), va_P D cls (cw ad ka (pI t 3 u v)) H1 → va_D A (cw ad ka (pI t 3 u v)) → va_S A H0 H1 locs1 → W p l e R s m args below meth c H1 locs1 cells slots Q (F0 m (pc + 3) ls rest)) : W p l e R s m args below meth c H locs cells slots Q (F0 m pc ls (.int v :: .ref (ad (60 + u)) :: rest)) :=
  va_put (D := D) (ci := 3) (ty := .int) (C := "ListForge$Subscription") (T := T_S) (N := 8) hx hb hts in_S t_S t_S_ok n_S hown hK hP hD hS (60 + u) (at_S hu) rfl 3 (by decide) (bg hts hlink) (fun _ h9 => h9) rfl (by decide +kernel) rfl rfl (Nat.le_of_ble_eq_true rfl) hdg (fun H1 locs1 h1 h2 h3 => kk H1 locs1 (s_S_since hu ▸ h1) (s_S_since hu ▸ h2) h3)
theorem g_S_warning (hx : p.tables.exec = Jvm.exec) (hb : c.code = cc) (hts : ∀ w ∈ c0 :: big, w.before args s = true) (hown : s.vm.findClass own = some m.cls) (hK : va_K D cls (cT ka) s) (hP : va_P D cls (cw ad ka t) H) {u : Nat} (hu : u < 36) (hlink : Cond.fieldLink own idx "ListForge$Subscription" "warning" "I" ∈ big) (hdg : decode cc pc = .ok (.getfield idx, 3)) (kk : W p l e R s m args below meth c H locs cells slots Q (F0 m (pc + 3) ls (.int (gI t 4 u) :: rest))) : W p l e R s m args below meth c H locs cells slots Q (F0 m pc ls (.ref (ad (60 + u)) :: rest)) :=
  va_get (D := D) (ci := 3) (C := "ListForge$Subscription") (T := T_S) (N := 8) hx hb hts in_S hown hK hP (60 + u) (at_S hu) rfl 4 (by decide) (bg hts hlink) (fun _ h9 => h9) rfl hdg kk
theorem p_S_warning (hx : p.tables.exec = Jvm.exec) (hb : c.code = cc) (hts : ∀ w ∈ c0 :: big, w.before args s = true) (hown : s.vm.findClass own = some m.cls) (hK : va_K D cls (cT ka) s) (hP : va_P D cls (cw ad ka t) H) (hD : va_D A (cw ad ka t)) (hS : va_S A H0 H locs) {u : Nat} (hu : u < 36) {v : Int32} (hlink : Cond.fieldLink own idx "ListForge$Subscription" "warning" "I" ∈ big) (hdg : decode cc pc = .ok (.putfield idx, 3)) (kk : ∀ (H1 : Heap) (locs1 : List Loc), va_P D cls (cw ad ka (pI t 4 u v)) H1 → va_D A (cw ad ka (pI t 4 u v)) → va_S A H0 H1 locs1 → W p l e R s m args below meth c H1 locs1 cells slots Q (F0 m (pc + 3) ls rest)) : W p l e R s m args below meth c H locs cells slots Q (F0 m pc ls (.int v :: .ref (ad (60 + u)) :: rest)) :=
  va_put (D := D) (ci := 3) (ty := .int) (C := "ListForge$Subscription") (T := T_S) (N := 8) hx hb hts in_S t_S t_S_ok n_S hown hK hP hD hS (60 + u) (at_S hu) rfl 4 (by decide) (bg hts hlink) (fun _ h9 => h9) rfl (by decide +kernel) rfl rfl (Nat.le_of_ble_eq_true rfl) hdg (fun H1 locs1 h1 h2 h3 => kk H1 locs1 (s_S_warning hu ▸ h1) (s_S_warning hu ▸ h2) h3)
theorem g_S_bounceDay (hx : p.tables.exec = Jvm.exec) (hb : c.code = cc) (hts : ∀ w ∈ c0 :: big, w.before args s = true) (hown : s.vm.findClass own = some m.cls) (hK : va_K D cls (cT ka) s) (hP : va_P D cls (cw ad ka t) H) {u : Nat} (hu : u < 36) (hlink : Cond.fieldLink own idx "ListForge$Subscription" "bounceDay" "I" ∈ big) (hdg : decode cc pc = .ok (.getfield idx, 3)) (kk : W p l e R s m args below meth c H locs cells slots Q (F0 m (pc + 3) ls (.int (gI t 5 u) :: rest))) : W p l e R s m args below meth c H locs cells slots Q (F0 m pc ls (.ref (ad (60 + u)) :: rest)) :=
  va_get (D := D) (ci := 3) (C := "ListForge$Subscription") (T := T_S) (N := 8) hx hb hts in_S hown hK hP (60 + u) (at_S hu) rfl 5 (by decide) (bg hts hlink) (fun _ h9 => h9) rfl hdg kk
theorem p_S_bounceDay (hx : p.tables.exec = Jvm.exec) (hb : c.code = cc) (hts : ∀ w ∈ c0 :: big, w.before args s = true) (hown : s.vm.findClass own = some m.cls) (hK : va_K D cls (cT ka) s) (hP : va_P D cls (cw ad ka t) H) (hD : va_D A (cw ad ka t)) (hS : va_S A H0 H locs) {u : Nat} (hu : u < 36) {v : Int32} (hlink : Cond.fieldLink own idx "ListForge$Subscription" "bounceDay" "I" ∈ big) (hdg : decode cc pc = .ok (.putfield idx, 3)) (kk : ∀ (H1 : Heap) (locs1 : List Loc), va_P D cls (cw ad ka (pI t 5 u v)) H1 → va_D A (cw ad ka (pI t 5 u v)) → va_S A H0 H1 locs1 → W p l e R s m args below meth c H1 locs1 cells slots Q (F0 m (pc + 3) ls rest)) : W p l e R s m args below meth c H locs cells slots Q (F0 m pc ls (.int v :: .ref (ad (60 + u)) :: rest)) :=
  va_put (D := D) (ci := 3) (ty := .int) (C := "ListForge$Subscription") (T := T_S) (N := 8) hx hb hts in_S t_S t_S_ok n_S hown hK hP hD hS (60 + u) (at_S hu) rfl 5 (by decide) (bg hts hlink) (fun _ h9 => h9) rfl (by decide +kernel) rfl rfl (Nat.le_of_ble_eq_true rfl) hdg (fun H1 locs1 h1 h2 h3 => kk H1 locs1 (s_S_bounceDay hu ▸ h1) (s_S_bounceDay hu ▸ h2) h3)
theorem g_S_moderates (hx : p.tables.exec = Jvm.exec) (hb : c.code = cc) (hts : ∀ w ∈ c0 :: big, w.before args s = true) (hown : s.vm.findClass own = some m.cls) (hK : va_K D cls (cT ka) s) (hP : va_P D cls (cw ad ka t) H) {u : Nat} (hu : u < 36) (hlink : Cond.fieldLink own idx "ListForge$Subscription" "moderates" "Z" ∈ big) (hdg : decode cc pc = .ok (.getfield idx, 3)) (kk : W p l e R s m args below meth c H locs cells slots Q (F0 m (pc + 3) ls (.int (gI t 6 u) :: rest))) : W p l e R s m args below meth c H locs cells slots Q (F0 m pc ls (.ref (ad (60 + u)) :: rest)) :=
  va_get (D := D) (ci := 3) (C := "ListForge$Subscription") (T := T_S) (N := 8) hx hb hts in_S hown hK hP (60 + u) (at_S hu) rfl 6 (by decide) (bg hts hlink) (fun _ h9 => h9) rfl hdg kk
theorem p_S_moderates (hx : p.tables.exec = Jvm.exec) (hb : c.code = cc) (hts : ∀ w ∈ c0 :: big, w.before args s = true) (hown : s.vm.findClass own = some m.cls) (hK : va_K D cls (cT ka) s) (hP : va_P D cls (cw ad ka t) H) (hD : va_D A (cw ad ka t)) (hS : va_S A H0 H locs) {u : Nat} (hu : u < 36) {v : Int32} (hz : v = 0 ∨ v = 1) (hlink : Cond.fieldLink own idx "ListForge$Subscription" "moderates" "Z" ∈ big) (hdg : decode cc pc = .ok (.putfield idx, 3)) (kk : ∀ (H1 : Heap) (locs1 : List Loc), va_P D cls (cw ad ka (pI t 6 u v)) H1 → va_D A (cw ad ka (pI t 6 u v)) → va_S A H0 H1 locs1 → W p l e R s m args below meth c H1 locs1 cells slots Q (F0 m (pc + 3) ls rest)) : W p l e R s m args below meth c H locs cells slots Q (F0 m pc ls (.int v :: .ref (ad (60 + u)) :: rest)) :=
  va_put (D := D) (ci := 3) (ty := .boolean) (C := "ListForge$Subscription") (T := T_S) (N := 8) hx hb hts in_S t_S t_S_ok n_S hown hK hP hD hS (60 + u) (at_S hu) rfl 6 (by decide) (bg hts hlink) (fun _ h9 => h9) rfl (by decide +kernel) (by rcases hz with rfl | rfl <;> rfl) (by rcases hz with rfl | rfl <;> rfl) (Nat.le_of_ble_eq_true rfl) hdg (fun H1 locs1 h1 h2 h3 => kk H1 locs1 (s_S_moderates hu ▸ h1) (s_S_moderates hu ▸ h2) h3)
theorem g_S_score (hx : p.tables.exec = Jvm.exec) (hb : c.code = cc) (hts : ∀ w ∈ c0 :: big, w.before args s = true) (hown : s.vm.findClass own = some m.cls) (hK : va_K D cls (cT ka) s) (hP : va_P D cls (cw ad ka t) H) {u : Nat} (hu : u < 36) (hlink : Cond.fieldLink own idx "ListForge$Subscription" "score" "D" ∈ big) (hdg : decode cc pc = .ok (.getfield idx, 3)) (kk : W p l e R s m args below meth c H locs cells slots Q (F0 m (pc + 3) ls (.double (gD t 0 u) :: rest))) : W p l e R s m args below meth c H locs cells slots Q (F0 m pc ls (.ref (ad (60 + u)) :: rest)) :=
  va_get (D := D) (ci := 3) (C := "ListForge$Subscription") (T := T_S) (N := 8) hx hb hts in_S hown hK hP (60 + u) (at_S hu) rfl 7 (by decide) (bg hts hlink) (fun _ h9 => h9) rfl hdg kk
theorem p_S_score (hx : p.tables.exec = Jvm.exec) (hb : c.code = cc) (hts : ∀ w ∈ c0 :: big, w.before args s = true) (hown : s.vm.findClass own = some m.cls) (hK : va_K D cls (cT ka) s) (hP : va_P D cls (cw ad ka t) H) (hD : va_D A (cw ad ka t)) (hS : va_S A H0 H locs) {u : Nat} (hu : u < 36) {v : UInt64} (hlink : Cond.fieldLink own idx "ListForge$Subscription" "score" "D" ∈ big) (hdg : decode cc pc = .ok (.putfield idx, 3)) (kk : ∀ (H1 : Heap) (locs1 : List Loc), va_P D cls (cw ad ka (pD t 0 u v)) H1 → va_D A (cw ad ka (pD t 0 u v)) → va_S A H0 H1 locs1 → W p l e R s m args below meth c H1 locs1 cells slots Q (F0 m (pc + 3) ls rest)) : W p l e R s m args below meth c H locs cells slots Q (F0 m pc ls (.double v :: .ref (ad (60 + u)) :: rest)) :=
  va_put (D := D) (ci := 3) (ty := .double) (C := "ListForge$Subscription") (T := T_S) (N := 8) hx hb hts in_S t_S t_S_ok n_S hown hK hP hD hS (60 + u) (at_S hu) rfl 7 (by decide) (bg hts hlink) (fun _ h9 => h9) rfl (by decide +kernel) rfl rfl (Nat.le_of_ble_eq_true rfl) hdg (fun H1 locs1 h1 h2 h3 => kk H1 locs1 (s_S_score hu ▸ h1) (s_S_score hu ▸ h2) h3)
theorem a_lists (hx : p.tables.exec = Jvm.exec) (hb : c.code = cc) (hK : va_K D cls (cT ka) s) (hP : va_P D cls (cw ad ka t) H)  {r : Nat} (hr : r < 3) {i : Int32} (hi : i = nI r) (hdg : decode cc pc = .ok (.aaload, 1)) (kk : W p l e R s m args below meth c H locs cells slots Q (F0 m (pc + 1) ls (.ref (ad (8 + r)) :: rest))) : W p l e R s m args below meth c H locs cells slots Q (F0 m pc ls (.int i :: .ref (ad (1)) :: rest)) := by
  subst hi
  refine va_aldq (D := D) hx hb hK hP (1) 2 (at_lists) rfl (vp_in_nI hr (by decide)) hdg ?_
  rw [nI_clamp (by omega)]
  exact kk
theorem a_posts (hx : p.tables.exec = Jvm.exec) (hb : c.code = cc) (hK : va_K D cls (cT ka) s) (hP : va_P D cls (cw ad ka t) H)  {r : Nat} (hr : r < 40) {i : Int32} (hi : i = nI r) (hdg : decode cc pc = .ok (.aaload, 1)) (kk : W p l e R s m args below meth c H locs cells slots Q (F0 m (pc + 1) ls (.ref (ad (20 + r)) :: rest))) : W p l e R s m args below meth c H locs cells slots Q (F0 m pc ls (.int i :: .ref (ad (2)) :: rest)) := by
  subst hi
  refine va_aldq (D := D) hx hb hK hP (2) 4 (at_posts) rfl (vp_in_nI hr (by decide)) hdg ?_
  rw [nI_clamp (by omega)]
  exact kk
theorem a_subs (hx : p.tables.exec = Jvm.exec) (hb : c.code = cc) (hK : va_K D cls (cT ka) s) (hP : va_P D cls (cw ad ka t) H) {u : Nat} (hu : u < 3) {r : Nat} (hr : r < 12) {i : Int32} (hi : i = nI r) (hdg : decode cc pc = .ok (.aaload, 1)) (kk : W p l e R s m args below meth c H locs cells slots Q (F0 m (pc + 1) ls (.ref (ad (60 + (12 * u + r))) :: rest))) : W p l e R s m args below meth c H locs cells slots Q (F0 m pc ls (.int i :: .ref (ad (11 + u)) :: rest)) := by
  subst hi
  refine va_aldq (D := D) hx hb hK hP (11 + u) 3 (at_subs hu) rfl (vp_in_nI hr (by decide)) hdg ?_
  rw [nI_clamp (by omega)]
  exact kk
theorem g_out (hx : p.tables.exec = Jvm.exec) (hb : c.code = cc) (hK : va_K D cls (cT ka) s) (hP : va_P D cls (cw ad ka t) H) {u : Nat} (hu : u < 4) {r : Nat} (hr : r < 60) {i : Int32} (hi : i = nI r) (hdg : decode cc pc = .ok (.iaload, 1)) (kk : W p l e R s m args below meth c H locs cells slots Q (F0 m (pc + 1) ls (.int (gI t (1004 + u) r) :: rest))) : W p l e R s m args below meth c H locs cells slots Q (F0 m pc ls (.int i :: .ref (ad (4 + u)) :: rest)) := by
  subst hi
  refine va_iald (D := D) hx hb hK hP (4 + u) 0 (at_out hu) rfl (vp_in_nI hr (by decide)) hdg ?_
  rw [nI_clamp (by omega)]
  exact kk
theorem p_out (hx : p.tables.exec = Jvm.exec) (hb : c.code = cc) (hK : va_K D cls (cT ka) s) (hP : va_P D cls (cw ad ka t) H) (hD : va_D A (cw ad ka t)) (hS : va_S A H0 H locs) {u : Nat} (hu : u < 4) {r : Nat} (hr : r < 60) {i : Int32} (hi : i = nI r) {v : Int32} (hdg : decode cc pc = .ok (.iastore, 1)) (kk : ∀ (H1 : Heap) (locs1 : List Loc), va_P D cls (cw ad ka (pI t (1004 + u) r v)) H1 → va_D A (cw ad ka (pI t (1004 + u) r v)) → va_S A H0 H1 locs1 → W p l e R s m args below meth c H1 locs1 cells slots Q (F0 m (pc + 1) ls rest)) : W p l e R s m args below meth c H locs cells slots Q (F0 m pc ls (.int v :: .int i :: .ref (ad (4 + u)) :: rest)) := by
  subst hi
  refine va_iast (D := D) hx hb hK hP hD hS (4 + u) 0 (at_out hu) rfl (vp_in_nI hr (by decide)) hdg (fun H1 locs1 h1 h2 h3 => ?_)
  rw [nI_clamp (by omega)] at h1 h2
  exact kk H1 locs1 (s_out hu ▸ h1) (s_out hu ▸ h2) h3
theorem g_ban (hx : p.tables.exec = Jvm.exec) (hb : c.code = cc) (hK : va_K D cls (cT ka) s) (hP : va_P D cls (cw ad ka t) H) {u : Nat} (hu : u < 3) {r : Nat} (hr : r < 12) {i : Int32} (hi : i = nI r) (hdg : decode cc pc = .ok (.baload, 1)) (kk : W p l e R s m args below meth c H locs cells slots Q (F0 m (pc + 1) ls (.int (gI t (1014 + u) r) :: rest))) : W p l e R s m args below meth c H locs cells slots Q (F0 m pc ls (.int i :: .ref (ad (14 + u)) :: rest)) := by
  subst hi
  refine va_zald (D := D) hx hb hK hP (14 + u) 1 (at_ban hu) rfl (vp_in_nI hr (by decide)) hdg ?_
  rw [nI_clamp (by omega)]
  exact kk
theorem p_ban (hx : p.tables.exec = Jvm.exec) (hb : c.code = cc) (hK : va_K D cls (cT ka) s) (hP : va_P D cls (cw ad ka t) H) (hD : va_D A (cw ad ka t)) (hS : va_S A H0 H locs) {u : Nat} (hu : u < 3) {r : Nat} (hr : r < 12) {i : Int32} (hi : i = nI r) {v : Int32} (hz : v = 0 ∨ v = 1) (hdg : decode cc pc = .ok (.bastore, 1)) (kk : ∀ (H1 : Heap) (locs1 : List Loc), va_P D cls (cw ad ka (pI t (1014 + u) r v)) H1 → va_D A (cw ad ka (pI t (1014 + u) r v)) → va_S A H0 H1 locs1 → W p l e R s m args below meth c H1 locs1 cells slots Q (F0 m (pc + 1) ls rest)) : W p l e R s m args below meth c H locs cells slots Q (F0 m pc ls (.int v :: .int i :: .ref (ad (14 + u)) :: rest)) := by
  subst hi
  refine va_zast (D := D) hx hb hK hP hD hS (14 + u) 1 (at_ban hu) rfl (vp_in_nI hr (by decide)) hdg (fun H1 locs1 h1 h2 h3 => ?_)
  rw [nI_clamp (by omega), show vp_nar .boolean v = v by rcases hz with rfl | rfl <;> rfl] at h1 h2
  exact kk H1 locs1 (s_ban hu ▸ h1) (s_ban hu ▸ h2) h3
theorem g_bar (hx : p.tables.exec = Jvm.exec) (hb : c.code = cc) (hK : va_K D cls (cT ka) s) (hP : va_P D cls (cw ad ka t) H) {u : Nat} (hu : u < 3) {r : Nat} (hr : r < 10) {i : Int32} (hi : i = nI r) (hdg : decode cc pc = .ok (.baload, 1)) (kk : W p l e R s m args below meth c H locs cells slots Q (F0 m (pc + 1) ls (.int (gI t (1017 + u) r) :: rest))) : W p l e R s m args below meth c H locs cells slots Q (F0 m pc ls (.int i :: .ref (ad (17 + u)) :: rest)) := by
  subst hi
  refine va_zald (D := D) hx hb hK hP (17 + u) 1 (at_bar hu) rfl (vp_in_nI hr (by decide)) hdg ?_
  rw [nI_clamp (by omega)]
  exact kk
theorem p_bar (hx : p.tables.exec = Jvm.exec) (hb : c.code = cc) (hK : va_K D cls (cT ka) s) (hP : va_P D cls (cw ad ka t) H) (hD : va_D A (cw ad ka t)) (hS : va_S A H0 H locs) {u : Nat} (hu : u < 3) {r : Nat} (hr : r < 10) {i : Int32} (hi : i = nI r) {v : Int32} (hz : v = 0 ∨ v = 1) (hdg : decode cc pc = .ok (.bastore, 1)) (kk : ∀ (H1 : Heap) (locs1 : List Loc), va_P D cls (cw ad ka (pI t (1017 + u) r v)) H1 → va_D A (cw ad ka (pI t (1017 + u) r v)) → va_S A H0 H1 locs1 → W p l e R s m args below meth c H1 locs1 cells slots Q (F0 m (pc + 1) ls rest)) : W p l e R s m args below meth c H locs cells slots Q (F0 m pc ls (.int v :: .int i :: .ref (ad (17 + u)) :: rest)) := by
  subst hi
  refine va_zast (D := D) hx hb hK hP hD hS (17 + u) 1 (at_bar hu) rfl (vp_in_nI hr (by decide)) hdg (fun H1 locs1 h1 h2 h3 => ?_)
  rw [nI_clamp (by omega), show vp_nar .boolean v = v by rcases hz with rfl | rfl <;> rfl] at h1 h2
  exact kk H1 locs1 (s_bar hu ▸ h1) (s_bar hu ▸ h2) h3
end RWX
end
section
/-! doubles that are no NaN -/
/-- no NaN, and its sign is + -/
def NN (x : UInt64) : Prop := (∃ c q, FP.Core.val64 x = FP.Core.Datum.fin false c q) ∨ FP.Core.val64 x = FP.Core.Datum.inf false
theorem nan_of {x : UInt64} (h1 : FP.Core.val64 x ≠ FP.Core.Datum.nan) : vf_n64 x := by
  have h2 := (FP.Core.ne_nan x).mp h1
  unfold vf_n64
  rw [UInt64.le_iff_toNat_le, UInt64.toNat_and]
  have e : x.toNat &&& (0x7fffffffffffffff : UInt64).toNat = x.toNat % 2 ^ 63 := Nat.and_two_pow_sub_one_eq_mod x.toNat 63
  rw [e]
  exact h2
theorem NN_nan {x : UInt64} (h : NN x) : vf_n64 x := nan_of (by rcases h with ⟨c, q, h⟩ | h <;> rw [h] <;> exact FP.Core.Datum.noConfusion)
theorem NN_round {s : Bool} {c : Nat} {q : Int} {x : UInt64} (hs : s = false) (h : FP.Core.val64 x = FP.Core.round FP.Core.b64 (FP.Core.Datum.fin s c q)) : NN x := by
  subst hs
  unfold NN
  rw [h]
  exact FP.Core.roundRatio_cases FP.Core.b64 false c 1 q
theorem NN_mul {x k : UInt64} {c : Nat} {q : Int} (hx : NN x) (hk : FP.Core.val64 k = FP.Core.Datum.fin false (c + 1) q) : NN (FP.dmul x k) := by
  have h := FP.Core.val64_dmul x k
  rw [hk] at h
  rcases hx with ⟨a, b, hx⟩ | hx
  · rw [hx] at h
    exact NN_round (s := false) rfl h
  · rw [hx] at h
    refine Or.inr ?_
    rw [h]
    rfl
theorem NN_add {x k : UInt64} (hx : NN x) (hk : NN k) : NN (FP.dadd x k) := by
  have h := FP.Core.val64_dadd x k
  rcases hx with ⟨a, b, hx⟩ | hx <;> rcases hk with ⟨c, d, hk⟩ | hk <;> rw [hx, hk] at h
  · refine NN_round ?_ h
    have h0 : 0 ≤ FP.Core.sumUnits false a b false c d (min b d) := by
      unfold FP.Core.sumUnits FP.Core.signed
      simp only [Bool.false_eq_true, if_false]
      omega
    unfold FP.Core.sumSign
    split
    · rfl
    · exact decide_eq_false (by omega)
  · exact Or.inr (by rw [h]; rfl)
  · exact Or.inr (by rw [h]; rfl)
  · exact Or.inr (by rw [h]; rfl)
theorem NN_0 : NN FP.dconst0 := Or.inl ⟨0, -1074, by decide +kernel⟩
theorem NN_1 : NN FP.dconst1 := Or.inl ⟨4503599627370496, -52, by decide +kernel⟩
theorem NN_h : NN 4602678819172646912 := Or.inl ⟨4503599627370496, -53, by decide +kernel⟩
theorem v_875 : FP.Core.val64 4606056518893174784 = FP.Core.Datum.fin false (7881299347898367 + 1) (-53) := by decide +kernel
theorem NN_875 {x : UInt64} (h : NN x) : NN (FP.dmul x 4606056518893174784) := NN_mul h v_875
theorem v_125 : FP.Core.val64 4593671619917905920 = FP.Core.Datum.fin false 4503599627370496 (-55) := by decide +kernel
/-- an int times 0.125 is no NaN -/
theorem nan_125 (x : Int32) : vf_n64 (FP.dmul (FP.i2d x) 4593671619917905920) := by
  refine nan_of ?_
  have h := FP.Core.val64_dmul (FP.i2d x) 4593671619917905920
  have h2 := FP.Core.val64_i2d x
  rw [v_125] at h
  have h3 : (∃ s c q, FP.Core.val64 (FP.i2d x) = FP.Core.Datum.fin s c q) ∨ ∃ s, FP.Core.val64 (FP.i2d x) = FP.Core.Datum.inf s := by
    rw [show FP.Core.val64 (FP.i2d x) = _ from h2]
    unfold FP.Core.ofInt FP.Core.round
    rcases FP.Core.roundRatio_cases FP.Core.b64 (decide (x.toInt < 0)) x.toInt.natAbs 1 0 with ⟨c, q, e⟩ | e
    · exact Or.inl ⟨_, c, q, e⟩
    · exact Or.inr ⟨_, e⟩
  rcases h3 with ⟨s, c, q, e⟩ | ⟨s, e⟩
  · rw [e] at h
    rw [show FP.Core.val64 (FP.dmul (FP.i2d x) 4593671619917905920) = _ from h]
    exact FP.Core.roundRatio_ne_nan _ _ _ _ _
  · rw [e] at h
    rw [show FP.Core.val64 (FP.dmul (FP.i2d x) 4593671619917905920) = _ from h]
    exact FP.Core.Datum.noConfusion
end
section
/-! loops, and what always holds of the class's memory -/
def lp {S : Type} (f : Nat → S → S) : Nat → Nat → S → S
  | 0, _, t => t
  | n + 1, a, t => lp f n (a + 1) (f a t)
theorem lp_step {S : Type} {f : Nat → S → S} {N a : Nat} {t : S} (h : a < N) : lp f (N - a) a t = lp f (N - (a + 1)) (a + 1) (f a t) := by
  rw [show N - a = (N - (a + 1)) + 1 by omega]
  rfl
theorem lp_next {S : Type} {f : Nat → S → S} {N a : Nat} {t t2 z : S} (h : a < N) (hF : lp f (N - a) a t = z) (hs : f a t = t2) : lp f (N - (a + 1)) (a + 1) t2 = z := by
  rw [← hF, lp_step h, hs]
theorem lp_end {S : Type} {f : Nat → S → S} {N : Nat} {t z : S} (hF : lp f (N - N) N t = z) : t = z := by
  rw [Nat.sub_self] at hF
  exact hF
theorem lp_inv {S : Type} {f : Nat → S → S} (P : S → Prop) (hf : ∀ a t, P t → P (f a t)) : ∀ (n a : Nat) (t : S), P t → P (lp f n a t) := by
  intro n
  induction n with
  | zero => intro a t h; exact h
  | succ n ih => intro a t h; exact ih _ _ (hf a t h)
theorem nI_lt_of {N a : Nat} {x : Int32} (hx : x = nI N) (ha : a ≤ N) (h : ¬ x ≤ nI a) : a < N := by
  rcases Nat.lt_or_ge a N with q | q
  · exact q
  · have e : a = N := by omega
    subst e
    exact absurd (by rw [hx]; exact Int32.le_refl _) h
theorem nI_eq_of {N a : Nat} {x : Int32} (hx : x = nI N) (hN : N < 2 ^ 31) (ha : a ≤ N) (h : x ≤ nI a) : a = N := by
  rcases Nat.lt_or_ge a N with q | q
  · exact absurd (by rw [← hx]; exact h) (nI_ge q hN)
  · omega
def b01 (v : Int32) : Prop := v = 0 ∨ v = 1
theorem b01_0 : b01 0 := Or.inl rfl
theorem b01_1 : b01 1 := Or.inr rfl
theorem b01_nar {v : Int32} (h : b01 v) : narrow .boolean (.int v) = .int v := by rcases h with rfl | rfl <;> rfl
def OKX (t : Mem) : Prop := (∀ j, b01 (gI t 6 j)) ∧ (∀ j, b01 (gI t 10 j)) ∧ (∀ j, b01 (gI t 11 j)) ∧ (∀ k j, 1014 ≤ k → b01 (gI t k j)) ∧ (∃ k, k ≤ 60 ∧ gI t 28 0 = nI k) ∧ (∃ n, n ≤ 40 ∧ gI t 30 0 = nI n) ∧ (∀ j, ∃ u, u < 3 ∧ gI t 20 j = nI u) ∧ ∀ j, NN (gD t 0 j)
theorem OKX_pI {t : Mem} {k j : Nat} {v : Int32} (h : OKX t) (hb : (k = 6 ∨ k = 10 ∨ k = 11 ∨ 1014 ≤ k) → b01 v) (h28 : k = 28 → ∃ n, n ≤ 60 ∧ v = nI n) (h30 : k = 30 → ∃ n, n ≤ 40 ∧ v = nI n) (h20 : k = 20 → ∃ u, u < 3 ∧ v = nI u) : OKX (pI t k j v) := by
  obtain ⟨h1, h2, h3, h4, h5, h6, h7, h8⟩ := h
  refine ⟨fun i => ?_, fun i => ?_, fun i => ?_, fun k2 i hk => ?_, ?_, ?_, fun i => ?_, fun i => h8 i⟩
  · rw [gI_pI]; split
    · exact hb (by omega)
    · exact h1 i
  · rw [gI_pI]; split
    · exact hb (by omega)
    · exact h2 i
  · rw [gI_pI]; split
    · exact hb (by omega)
    · exact h3 i
  · rw [gI_pI]; split
    · exact hb (by omega)
    · exact h4 k2 i hk
  · rw [gI_pI]; split
    · exact h28 (by omega)
    · exact h5
  · rw [gI_pI]; split
    · exact h30 (by omega)
    · exact h6
  · rw [gI_pI]; split
    · exact h20 (by omega)
    · exact h7 i
theorem OKX_f {t : Mem} {k j : Nat} {v : Int32} (h : OKX t) (hc : k < 1014 ∧ k ≠ 6 ∧ k ≠ 10 ∧ k ≠ 11 ∧ k ≠ 28 ∧ k ≠ 30 ∧ k ≠ 20) : OKX (pI t k j v) := OKX_pI h (fun q => absurd q (by omega)) (fun q => absurd q (by omega)) (fun q => absurd q (by omega)) (fun q => absurd q (by omega))
theorem OKX_b {t : Mem} {k j : Nat} {v : Int32} (h : OKX t) (hv : b01 v) (hc : k ≠ 28 ∧ k ≠ 30 ∧ k ≠ 20) : OKX (pI t k j v) := OKX_pI h (fun _ => hv) (fun q => absurd q (by omega)) (fun q => absurd q (by omega)) (fun q => absurd q (by omega))
theorem OKX_pD {t : Mem} {k j : Nat} {v : UInt64} (h : OKX t) (hv : k = 0 → NN v) : OKX (pD t k j v) := by
  obtain ⟨h1, h2, h3, h4, h5, h6, h7, h8⟩ := h
  refine ⟨h1, h2, h3, h4, h5, h6, h7, fun i => ?_⟩
  rw [gD_pD]; split
  · exact hv (by omega)
  · exact h8 i
theorem OKX_kept {t : Mem} (h : OKX t) : ∃ k, k ≤ 60 ∧ gI t 28 0 = nI k := h.2.2.2.2.1
theorem OKX_NN {t : Mem} (h : OKX t) (j : Nat) : NN (gD t 0 j) := h.2.2.2.2.2.2.2 j
/-! what the class's methods do to its memory -/
def S_begin (t : Mem) (u : Nat) (w c d : Int32) : Mem := pD (pI (pI (pI (pI (pI (pI t 0 u 0) 1 u w) 2 u c) 3 u d) 4 u 0) 5 u (-1)) 0 u FP.dconst0
def S_becomeLive (t : Mem) (u : Nat) (d : Int32) : Mem := pD (pI (pI (pI t 0 u 1) 3 u d) 4 u 0) 0 u FP.dconst0
def S_stop (t : Mem) (u : Nat) (d : Int32) : Mem := pI (pI (pI t 0 u 2) 3 u d) 4 u 1
def S_end (t : Mem) (u : Nat) : Mem := pI (pI t 0 u (-1)) 6 u 0
def S_takes (t : Mem) (u : Nat) (w : Int32) : Int32 := if gI t 0 u = 1 then (if gI t 1 u = w then 1 else 0) else 0
def fadeD (x : UInt64) : UInt64 := if 0 ≤ Op.cmpValue (FP.dcmp (FP.dmul x 4606056518893174784) 4598175219545276416) .g then FP.dmul x 4606056518893174784 else FP.dconst0
def S_fade (t : Mem) (u : Nat) (d : Int32) : Mem := if gI t 5 u = d - 1 then t else pD t 0 u (fadeD (gD t 0 u))
def P_comeIn (t : Mem) (u : Nat) (x a z : Int32) : Mem := pI (pI (pI (pI t 20 u x) 21 u a) 22 u z) 23 u 0
def O_add (t : Mem) (a x s n : Int32) : Mem := if (gI t 28 0).toNatClampNeg < 60 then pI (pI (pI (pI (pI (pI t 29 0 (gI t 29 0 + 1)) 1004 (gI t 28 0).toNatClampNeg a) 1005 (gI t 28 0).toNatClampNeg x) 1006 (gI t 28 0).toNatClampNeg s) 1007 (gI t 28 0).toNatClampNeg n) 28 0 (gI t 28 0 + 1) else pI t 29 0 (gI t 29 0 + 1)
theorem OKX_begin {t : Mem} {u : Nat} {w c d : Int32} (h : OKX t) : OKX (S_begin t u w c d) := OKX_pD (OKX_f (OKX_f (OKX_f (OKX_f (OKX_f (OKX_f h (by decide)) (by decide)) (by decide)) (by decide)) (by decide)) (by decide)) (fun _ => NN_0)
theorem OKX_live {t : Mem} {u : Nat} {d : Int32} (h : OKX t) : OKX (S_becomeLive t u d) := OKX_pD (OKX_f (OKX_f (OKX_f h (by decide)) (by decide)) (by decide)) (fun _ => NN_0)
theorem OKX_stop {t : Mem} {u : Nat} {d : Int32} (h : OKX t) : OKX (S_stop t u d) := OKX_f (OKX_f (OKX_f h (by decide)) (by decide)) (by decide)
theorem OKX_end {t : Mem} {u : Nat} (h : OKX t) : OKX (S_end t u) := OKX_b (OKX_f h (by decide)) b01_0 (by decide)
theorem NN_fade {x : UInt64} (h : NN x) : NN (fadeD x) := by
  unfold fadeD
  split
  · exact NN_875 h
  · exact NN_0
theorem OKX_fade {t : Mem} {u : Nat} {d : Int32} (h : OKX t) : OKX (S_fade t u d) := by
  unfold S_fade
  split
  · exact h
  · exact OKX_pD h (fun _ => NN_fade (OKX_NN h u))
theorem OKX_comeIn {t : Mem} {u : Nat} {x a z : Int32} (h : OKX t) (hx : ∃ u, u < 3 ∧ x = nI u) : OKX (P_comeIn t u x a z) := OKX_f (OKX_f (OKX_f (OKX_pI h (fun q => absurd q (by omega)) (fun q => absurd q (by omega)) (fun q => absurd q (by omega)) (fun _ => hx)) (by decide)) (by decide)) (by decide)
theorem OKX_add {t : Mem} {a x s n : Int32} (h : OKX t) : OKX (O_add t a x s n) := by
  obtain ⟨k, hk, e⟩ := OKX_kept h
  unfold O_add
  split
  · rename_i q
    rw [e, nI_clamp (by omega)] at q
    refine OKX_pI (OKX_f (OKX_f (OKX_f (OKX_f (OKX_f h (by decide)) (by decide)) (by decide)) (by decide)) (by decide)) (fun q => absurd q (by omega)) (fun _ => ⟨k + 1, by omega, ?_⟩) (fun q => absurd q (by omega)) (fun q => absurd q (by omega))
    rw [e, nI_1]
  · exact OKX_f h (by decide)
def bd (x : Int32) : UInt64 := if x = 0 then FP.dconst0 else FP.dconst1
def L_subs (t : Mem) (u : Nat) : Int32 := lp (fun a n => if gI t 0 (12 * u + a) = -1 then n else n + 1) 12 0 0
def L_lives (t : Mem) (u : Nat) : Int32 := lp (fun a n => if gI t 0 (12 * u + a) = 1 then n + 1 else n) 12 0 0
def L_refuses (t : Mem) (u a : Nat) : Int32 := if gI t (1014 + u) a = 0 then (if gI t 0 (12 * u + a) = 1 then 0 else if gI t 10 u = 0 then 1 else 0) else 1
def L_holds (t : Mem) (u a : Nat) (z : Int32) (r : Nat) : Int32 := if gI t 6 (12 * u + a) = 0 then (if gI t 12 u < z then 1 else if gI t (1017 + u) r = 0 then (if gI t 11 u = 0 then 0 else 1) else 1) else 0
def tellF (u : Nat) (p : Int32) (a : Nat) (t : Mem) : Mem := if gI t 6 (12 * u + a) = 0 then t else O_add t (nI a) (nI u) 3 p
def L_tell (t : Mem) (u : Nat) (p : Int32) : Mem := lp (tellF u p) 12 0 t
def sendF (u : Nat) (a : Nat) (t : Mem) : Mem := if S_takes t (12 * u + a) 1 = 0 then t else O_add t (nI a) (nI u) 1 (gI t 14 u)
def L_send (t : Mem) (u : Nat) : Mem := pI (pI (lp (sendF u) 12 0 t) 14 u 0) 15 u 0
def L_addB (t : Mem) (u : Nat) (z d : Int32) : Mem := if gI t 14 u = 0 then pI (pI (pI t 16 u d) 14 u (gI t 14 u + 1)) 15 u (gI t 15 u + z) else pI (pI t 14 u (gI t 14 u + 1)) 15 u (gI t 15 u + z)
def delA (u r : Nat) (p : Int32) (a : Nat) (t : Mem) : Mem := if S_takes t (12 * u + a) 0 = 0 then t else if nI a = gI t 21 r then t else O_add t (nI a) (nI u) 0 p
def delF (u r : Nat) (p : Int32) (a : Nat) (x : Mem × Int32) : Mem × Int32 := (delA u r p a x.1, if x.2 = 0 then (if S_takes (delA u r p a x.1) (12 * u + a) 1 = 0 then 0 else 1) else 1)
def delB (x : Mem × Int32) (u r : Nat) (d : Int32) : Mem := if x.2 = 0 then x.1 else L_addB x.1 u (gI x.1 22 r) d
def delC (t : Mem) (u : Nat) : Mem := if gI t 15 u < gI t 13 u then t else L_send t u
def L_deliver (t : Mem) (u r : Nat) (p d : Int32) : Mem := delC (delB (lp (delF u r p) 12 0 (t, 0)) u r d) u
def L_warn (t : Mem) (u a : Nat) : Mem := if gI t 4 (12 * u + a) < 3 then O_add (pI t 4 (12 * u + a) (gI t 4 (12 * u + a) + 1)) (nI a) (nI u) 5 (gI t 4 (12 * u + a) + 1) else O_add (S_end t (12 * u + a)) (nI a) (nI u) 6 0
def L_dayOf (t : Mem) (u a : Nat) (d : Int32) : Mem := if gI t 0 (12 * u + a) = 1 then S_fade t (12 * u + a) d else if gI t 0 (12 * u + a) = 2 ∧ (d - gI t 3 (12 * u + a)) - (d - gI t 3 (12 * u + a)) / 3 * 3 = 0 then L_warn t u a else if gI t 0 (12 * u + a) = 0 ∧ ¬ (d - gI t 3 (12 * u + a)) < 5 then S_end t (12 * u + a) else t
def L_day (t : Mem) (u : Nat) (d : Int32) : Mem := if ¬ gI (lp (fun a t => L_dayOf t u a d) 12 0 t) 14 u ≤ 0 ∧ ¬ d - gI (lp (fun a t => L_dayOf t u a d) 12 0 t) 16 u ≤ 2 then L_send (lp (fun a t => L_dayOf t u a d) 12 0 t) u else lp (fun a t => L_dayOf t u a d) 12 0 t
theorem OKX_tell {t : Mem} {u : Nat} {p : Int32} (h : OKX t) : OKX (L_tell t u p) := lp_inv OKX (fun a t h => by unfold tellF; split; exact h; exact OKX_add h) _ _ _ h
theorem OKX_send {t : Mem} {u : Nat} (h : OKX t) : OKX (L_send t u) := OKX_f (OKX_f (lp_inv OKX (fun a t h => by unfold sendF; split; exact h; exact OKX_add h) _ _ _ h) (by decide)) (by decide)
theorem OKX_addB {t : Mem} {u : Nat} {z d : Int32} (h : OKX t) : OKX (L_addB t u z d) := by
  unfold L_addB
  split
  · exact OKX_f (OKX_f (OKX_f h (by decide)) (by decide)) (by decide)
  · exact OKX_f (OKX_f h (by decide)) (by decide)
theorem OKX_delA {t : Mem} {u r : Nat} {p : Int32} {a : Nat} (h : OKX t) : OKX (delA u r p a t) := by
  unfold delA
  split
  · exact h
  · split
    · exact h
    · exact OKX_add h
theorem OKX_deliver {t : Mem} {u r : Nat} {p d : Int32} (h : OKX t) : OKX (L_deliver t u r p d) := by
  have h1 : OKX (lp (delF u r p) 12 0 (t, 0)).1 := lp_inv (fun x : Mem × Int32 => OKX x.1) (fun a x h => OKX_delA h) _ _ _ h
  have h2 : OKX (delB (lp (delF u r p) 12 0 (t, 0)) u r d) := by
    unfold delB
    split
    · exact h1
    · exact OKX_addB h1
  unfold L_deliver delC
  split
  · exact h2
  · exact OKX_send h2
theorem OKX_warn {t : Mem} {u a : Nat} (h : OKX t) : OKX (L_warn t u a) := by
  unfold L_warn
  split
  · exact OKX_add (OKX_f h (by decide))
  · exact OKX_add (OKX_end h)
theorem OKX_dayOf {t : Mem} {u a : Nat} {d : Int32} (h : OKX t) : OKX (L_dayOf t u a d) := by
  unfold L_dayOf
  split
  · exact OKX_fade h
  · split
    · exact OKX_warn h
    · split
      · exact OKX_end h
      · exact h
theorem OKX_day {t : Mem} {u : Nat} {d : Int32} (h : OKX t) : OKX (L_day t u d) := by
  have h1 : OKX (lp (fun a t => L_dayOf t u a d) 12 0 t) := lp_inv OKX (fun a t h => OKX_dayOf h) _ _ _ h
  unfold L_day
  split
  · exact OKX_send h1
  · exact h1
end
section
/-- a contract's start and end over the class's world -/
def PX (D : va_G) (ad : Nat → Nat) (ka : Nat → ClassId) (sz : Nat) (t : Mem) (U : State) : Prop := U.heap.size = sz ∧ va_P D cls (cw ad ka t) U.heap ∧ va_K D cls (cT ka) U ∧ va_D (fun _ => True) (cw ad ka t)
def BX (D : va_G) (ad : Nat → Nat) (ka : Nat → ClassId) (sz : Nat) (t : Mem) (U : State) : Prop := va_P D cls (cw ad ka t) U.heap ∧ va_K D cls (cT ka) U ∧ va_D (AX ad sz) (cw ad ka t)
theorem PX_blind {D : va_G} {ad : Nat → Nat} {ka : Nat → ClassId} {sz : Nat} {t : Mem} {av : List Value} : FrameBlind (va_Pc av (PX D ad ka sz t)) := fun a U g mk q => by
  obtain ⟨q0, q1, qP, qK, qD⟩ := q
  exact ⟨q0, q1, qP, va_K.moved (u := U) (U := U.calling g mk a) (Vm.Alike.refl U.vm) qK, qD⟩
theorem PX_at {D : va_G} {ad : Nat → Nat} {ka : Nat → ClassId} {t : Mem} {A : Nat → Prop} {s U : State} {H : Heap} (hU : U.heap = H) (hW : s.WarmedH U.vm) (hP : va_P D cls (cw ad ka t) H) (hK : va_K D cls (cT ka) s) (hD : va_D A (cw ad ka t)) : PX D ad ka H.size t U := ⟨by rw [hU], by rw [hU]; exact hP, va_K.moved hW.alike hK, hD.weaken (fun _ _ _ _ => trivial)⟩
theorem BX_at {D : va_G} {ad : Nat → Nat} {ka : Nat → ClassId} {t : Mem} {sz : Nat} {s U : State} {H : Heap} (hU : U.heap = H) (hW : s.WarmedH U.vm) (hP : va_P D cls (cw ad ka t) H) (hK : va_K D cls (cT ka) s) (hD : va_D (AX ad sz) (cw ad ka t)) : BX D ad ka sz t U := ⟨by rw [hU]; exact hP, va_K.moved hW.alike hK, hD⟩
theorem BX_back {D : va_G} {ad : Nat → Nat} {ka : Nat → ClassId} {t : Mem} {sz sz0 : Nat} {U : State} {H : Heap} (ht : U.heap = H) (h : BX D ad ka sz t U) (hA : ∀ q, AX ad sz q → AX ad sz0 q) : va_P D cls (cw ad ka t) H ∧ va_D (AX ad sz0) (cw ad ka t) := ⟨ht ▸ h.1, h.2.2.weaken (fun _ q _ z => hA q.1 z)⟩
theorem gv {c0 : Cond} {own C : String} {idx n : Nat} {y : MethodName} {b : ByteArray} {r : Option FieldType} (h1 : Cond.methodLink own idx y ∈ big) (h2 : Cond.instanceMethod y ∈ big) (h3 : Cond.selects C y y ∈ big) (h4 : Cond.initialized C ∈ big) (h5 : Cond.code y b n r ∈ big) : GoodIn (c0 :: big) (wsV own idx C y (Cond.code y b n r :: big)) := gi_c h1 (gi_c h2 (gi_c h3 (gi_c h4 (gi_c h5 gi_0))))
theorem gs {c0 : Cond} {own : String} {idx n : Nat} {y : MethodName} {b : ByteArray} {r : Option FieldType} (h1 : Cond.methodLink own idx y ∈ big) (h2 : Cond.static y ∈ big) (h3 : Cond.initialized own ∈ big) (h5 : Cond.code y b n r ∈ big) : GoodIn (c0 :: big) (wsS own idx y (Cond.code y b n r :: big)) := gi_c h1 (gi_c h2 (gi_c h3 (gi_c h5 gi_0)))

set_option maxHeartbeats 4000000 in
set_option maxRecDepth 100000 in
theorem c_S_begin (l : Launch) (D : va_G) (ad : Nat → Nat) (ka : Nat → ClassId) (sz : Nat) (t : Mem) (u : Nat) (hu : u < 36) (w c0 d : Int32) : Met l y_S_begin (Cond.code y_S_begin b_S_begin 4 none :: big) ({ frames := 0, cells := 0, slots := 0, locals := 0 }) (va_Pc [.ref (ad (60 + u)), .int (w), .int (c0), .int (d)] (PX D ad ka sz t)) (va_Qv (fun t' : Mem => t' = S_begin t u w c0 d) (BX D ad ka sz) (AX ad sz)) 0 0 (AX ad sz) := by
  refine Met.ofW (cc := b_S_begin) (maxL := 4) (ret := none) (by decide) rfl ?_
  intro p e s m args below meth c s₁ B hml hv
  obtain ⟨rfl, hsz, hP, hK, hD0⟩ := hv
  have hx := B.exec
  have hb := B.bytes
  have hr := B.returns
  have hlocks := B.notSynchronized
  have hts := atoms_spec (ws := Cond.code y_S_begin b_S_begin 4 none :: big) B.pre
  have hown : s.vm.findClass "ListForge$Subscription" = some m.cls := findClass_of_methodNamed B.named
  subst hsz
  have hD : va_D (AX ad s.heap.size) (cw ad ka t) := AX_D hD0
  have hS : va_S (AX ad s.heap.size) s.heap s.heap [] := va_S.rf
  have hl := lv_entry ([.ref (ad (60 + u)), .int (w), .int (c0), .int (d)]) (n := 4) (Nat.le_of_ble_eq_true rfl)
  rw [lg_entry_eq]
  generalize (lg_sl ([.ref (ad (60 + u)), .int (w), .int (c0), .int (d)]) ++ List.replicate (4 - (lg_sl ([.ref (ad (60 + u)), .int (w), .int (c0), .int (d)])).length) Slot.unset).toArray = ls at hl ⊢
  have hl : lv_has ls 4 [(0, .ref (ad (60 + u))), (1, .int (w)), (2, .int (c0)), (3, .int (d))] := hl

  refine lv_aload_n hx hb d_S_begin_0 rfl (lv_at hl 0 rfl) ?_
  refine lv_iconst (v := 0) hx hb d_S_begin_1 (by decide) ?_
  refine p_S_state hx hb hts hown hK hP hD hS hu mw_37 d_S_begin_2 (fun H locs hP hD hS => ?_)
  refine lv_aload_n hx hb d_S_begin_5 rfl (lv_at hl 0 rfl) ?_
  refine lv_iload_n hx hb d_S_begin_6 rfl (lv_at hl 1 rfl) ?_
  refine p_S_way hx hb hts hown hK hP hD hS hu mw_40 d_S_begin_7 (fun H locs hP hD hS => ?_)
  refine lv_aload_n hx hb d_S_begin_10 rfl (lv_at hl 0 rfl) ?_
  refine lv_iload_n hx hb d_S_begin_11 rfl (lv_at hl 2 rfl) ?_
  refine p_S_code hx hb hts hown hK hP hD hS hu mw_42 d_S_begin_12 (fun H locs hP hD hS => ?_)
  refine lv_aload_n hx hb d_S_begin_15 rfl (lv_at hl 0 rfl) ?_
  refine lv_iload_n hx hb d_S_begin_16 rfl (lv_at hl 3 rfl) ?_
  refine p_S_since hx hb hts hown hK hP hD hS hu mw_44 d_S_begin_17 (fun H locs hP hD hS => ?_)
  refine lv_aload_n hx hb d_S_begin_20 rfl (lv_at hl 0 rfl) ?_
  refine lv_iconst (v := 0) hx hb d_S_begin_21 (by decide) ?_
  refine p_S_warning hx hb hts hown hK hP hD hS hu mw_47 d_S_begin_22 (fun H locs hP hD hS => ?_)
  refine lv_aload_n hx hb d_S_begin_25 rfl (lv_at hl 0 rfl) ?_
  refine lv_iconst (v := -1) hx hb d_S_begin_26 (by decide) ?_
  refine p_S_bounceDay hx hb hts hown hK hP hD hS hu mw_50 d_S_begin_27 (fun H locs hP hD hS => ?_)
  refine lv_aload_n hx hb d_S_begin_30 rfl (lv_at hl 0 rfl) ?_
  refine lv_dconst0 hx hb d_S_begin_31 ?_
  refine p_S_score hx hb hts hown hK hP hD hS hu mw_55 d_S_begin_32 (fun H locs hP hD hS => ?_)
  exact W.vret hx hb hr (fun t9 ht hW => ⟨⟨(pD (pI (pI (pI (pI (pI (pI t 0 u 0) 1 u w) 2 u c0) 3 u d) 4 u 0) 5 u (-1)) 0 u FP.dconst0), rfl, rfl, BX_at ht hW hP hK hD⟩, hS.F ht⟩) hS.2.2 d_S_begin_35
set_option maxHeartbeats 4000000 in
set_option maxRecDepth 100000 in
theorem c_S_becomeLive (l : Launch) (D : va_G) (ad : Nat → Nat) (ka : Nat → ClassId) (sz : Nat) (t : Mem) (u : Nat) (hu : u < 36) (d : Int32) : Met l y_S_becomeLive (Cond.code y_S_becomeLive b_S_becomeLive 2 none :: big) ({ frames := 0, cells := 0, slots := 0, locals := 0 }) (va_Pc [.ref (ad (60 + u)), .int (d)] (PX D ad ka sz t)) (va_Qv (fun t' : Mem => t' = S_becomeLive t u d) (BX D ad ka sz) (AX ad sz)) 0 0 (AX ad sz) := by
  refine Met.ofW (cc := b_S_becomeLive) (maxL := 2) (ret := none) (by decide) rfl ?_
  intro p e s m args below meth c s₁ B hml hv
  obtain ⟨rfl, hsz, hP, hK, hD0⟩ := hv
  have hx := B.exec
  have hb := B.bytes
  have hr := B.returns
  have hlocks := B.notSynchronized
  have hts := atoms_spec (ws := Cond.code y_S_becomeLive b_S_becomeLive 2 none :: big) B.pre
  have hown : s.vm.findClass "ListForge$Subscription" = some m.cls := findClass_of_methodNamed B.named
  subst hsz
  have hD : va_D (AX ad s.heap.size) (cw ad ka t) := AX_D hD0
  have hS : va_S (AX ad s.heap.size) s.heap s.heap [] := va_S.rf
  have hl := lv_entry ([.ref (ad (60 + u)), .int (d)]) (n := 2) (Nat.le_of_ble_eq_true rfl)
  rw [lg_entry_eq]
  generalize (lg_sl ([.ref (ad (60 + u)), .int (d)]) ++ List.replicate (2 - (lg_sl ([.ref (ad (60 + u)), .int (d)])).length) Slot.unset).toArray = ls at hl ⊢
  have hl : lv_has ls 2 [(0, .ref (ad (60 + u))), (1, .int (d))] := hl

  refine lv_aload_n hx hb d_S_becomeLive_0 rfl (lv_at hl 0 rfl) ?_
  refine lv_iconst (v := 1) hx hb d_S_becomeLive_1 (by decide) ?_
  refine p_S_state hx hb hts hown hK hP hD hS hu mw_37 d_S_becomeLive_2 (fun H locs hP hD hS => ?_)
  refine lv_aload_n hx hb d_S_becomeLive_5 rfl (lv_at hl 0 rfl) ?_
  refine lv_iload_n hx hb d_S_becomeLive_6 rfl (lv_at hl 1 rfl) ?_
  refine p_S_since hx hb hts hown hK hP hD hS hu mw_44 d_S_becomeLive_7 (fun H locs hP hD hS => ?_)
  refine lv_aload_n hx hb d_S_becomeLive_10 rfl (lv_at hl 0 rfl) ?_
  refine lv_iconst (v := 0) hx hb d_S_becomeLive_11 (by decide) ?_
  refine p_S_warning hx hb hts hown hK hP hD hS hu mw_47 d_S_becomeLive_12 (fun H locs hP hD hS => ?_)
  refine lv_aload_n hx hb d_S_becomeLive_15 rfl (lv_at hl 0 rfl) ?_
  refine lv_dconst0 hx hb d_S_becomeLive_16 ?_
  refine p_S_score hx hb hts hown hK hP hD hS hu mw_55 d_S_becomeLive_17 (fun H locs hP hD hS => ?_)
  exact W.vret hx hb hr (fun t9 ht hW => ⟨⟨(pD (pI (pI (pI t 0 u 1) 3 u d) 4 u 0) 0 u FP.dconst0), rfl, rfl, BX_at ht hW hP hK hD⟩, hS.F ht⟩) hS.2.2 d_S_becomeLive_20
set_option maxHeartbeats 4000000 in
set_option maxRecDepth 100000 in
theorem c_S_stop (l : Launch) (D : va_G) (ad : Nat → Nat) (ka : Nat → ClassId) (sz : Nat) (t : Mem) (u : Nat) (hu : u < 36) (d : Int32) : Met l y_S_stop (Cond.code y_S_stop b_S_stop 2 none :: big) ({ frames := 0, cells := 0, slots := 0, locals := 0 }) (va_Pc [.ref (ad (60 + u)), .int (d)] (PX D ad ka sz t)) (va_Qv (fun t' : Mem => t' = S_stop t u d) (BX D ad ka sz) (AX ad sz)) 0 0 (AX ad sz) := by
  refine Met.ofW (cc := b_S_stop) (maxL := 2) (ret := none) (by decide) rfl ?_
  intro p e s m args below meth c s₁ B hml hv
  obtain ⟨rfl, hsz, hP, hK, hD0⟩ := hv
  have hx := B.exec
  have hb := B.bytes
  have hr := B.returns
  have hlocks := B.notSynchronized
  have hts := atoms_spec (ws := Cond.code y_S_stop b_S_stop 2 none :: big) B.pre
  have hown : s.vm.findClass "ListForge$Subscription" = some m.cls := findClass_of_methodNamed B.named
  subst hsz
  have hD : va_D (AX ad s.heap.size) (cw ad ka t) := AX_D hD0
  have hS : va_S (AX ad s.heap.size) s.heap s.heap [] := va_S.rf
  have hl := lv_entry ([.ref (ad (60 + u)), .int (d)]) (n := 2) (Nat.le_of_ble_eq_true rfl)
  rw [lg_entry_eq]
  generalize (lg_sl ([.ref (ad (60 + u)), .int (d)]) ++ List.replicate (2 - (lg_sl ([.ref (ad (60 + u)), .int (d)])).length) Slot.unset).toArray = ls at hl ⊢
  have hl : lv_has ls 2 [(0, .ref (ad (60 + u))), (1, .int (d))] := hl

  refine lv_aload_n hx hb d_S_stop_0 rfl (lv_at hl 0 rfl) ?_
  refine lv_iconst (v := 2) hx hb d_S_stop_1 (by decide) ?_
  refine p_S_state hx hb hts hown hK hP hD hS hu mw_37 d_S_stop_2 (fun H locs hP hD hS => ?_)
  refine lv_aload_n hx hb d_S_stop_5 rfl (lv_at hl 0 rfl) ?_
  refine lv_iload_n hx hb d_S_stop_6 rfl (lv_at hl 1 rfl) ?_
  refine p_S_since hx hb hts hown hK hP hD hS hu mw_44 d_S_stop_7 (fun H locs hP hD hS => ?_)
  refine lv_aload_n hx hb d_S_stop_10 rfl (lv_at hl 0 rfl) ?_
  refine lv_iconst (v := 1) hx hb d_S_stop_11 (by decide) ?_
  refine p_S_warning hx hb hts hown hK hP hD hS hu mw_47 d_S_stop_12 (fun H locs hP hD hS => ?_)
  exact W.vret hx hb hr (fun t9 ht hW => ⟨⟨(pI (pI (pI t 0 u 2) 3 u d) 4 u 1), rfl, rfl, BX_at ht hW hP hK hD⟩, hS.F ht⟩) hS.2.2 d_S_stop_15
set_option maxHeartbeats 4000000 in
set_option maxRecDepth 100000 in
theorem c_S_end (l : Launch) (D : va_G) (ad : Nat → Nat) (ka : Nat → ClassId) (sz : Nat) (t : Mem) (u : Nat) (hu : u < 36) : Met l y_S_end (Cond.code y_S_end b_S_end 1 none :: big) ({ frames := 0, cells := 0, slots := 0, locals := 0 }) (va_Pc [.ref (ad (60 + u))] (PX D ad ka sz t)) (va_Qv (fun t' : Mem => t' = S_end t u) (BX D ad ka sz) (AX ad sz)) 0 0 (AX ad sz) := by
  refine Met.ofW (cc := b_S_end) (maxL := 1) (ret := none) (by decide) rfl ?_
  intro p e s m args below meth c s₁ B hml hv
  obtain ⟨rfl, hsz, hP, hK, hD0⟩ := hv
  have hx := B.exec
  have hb := B.bytes
  have hr := B.returns
  have hlocks := B.notSynchronized
  have hts := atoms_spec (ws := Cond.code y_S_end b_S_end 1 none :: big) B.pre
  have hown : s.vm.findClass "ListForge$Subscription" = some m.cls := findClass_of_methodNamed B.named
  subst hsz
  have hD : va_D (AX ad s.heap.size) (cw ad ka t) := AX_D hD0
  have hS : va_S (AX ad s.heap.size) s.heap s.heap [] := va_S.rf
  have hl := lv_entry ([.ref (ad (60 + u))]) (n := 1) (Nat.le_of_ble_eq_true rfl)
  rw [lg_entry_eq]
  generalize (lg_sl ([.ref (ad (60 + u))]) ++ List.replicate (1 - (lg_sl ([.ref (ad (60 + u))])).length) Slot.unset).toArray = ls at hl ⊢
  have hl : lv_has ls 1 [(0, .ref (ad (60 + u)))] := hl

  refine lv_aload_n hx hb d_S_end_0 rfl (lv_at hl 0 rfl) ?_
  refine lv_iconst (v := -1) hx hb d_S_end_1 (by decide) ?_
  refine p_S_state hx hb hts hown hK hP hD hS hu mw_37 d_S_end_2 (fun H locs hP hD hS => ?_)
  refine lv_aload_n hx hb d_S_end_5 rfl (lv_at hl 0 rfl) ?_
  refine lv_iconst (v := 0) hx hb d_S_end_6 (by decide) ?_
  refine p_S_moderates hx hb hts hown hK hP hD hS hu (by decide) mw_52 d_S_end_7 (fun H locs hP hD hS => ?_)
  exact W.vret hx hb hr (fun t9 ht hW => ⟨⟨(pI (pI t 0 u (-1)) 6 u 0), rfl, rfl, BX_at ht hW hP hK hD⟩, hS.F ht⟩) hS.2.2 d_S_end_10
set_option maxHeartbeats 4000000 in
set_option maxRecDepth 100000 in
theorem c_S_takes (l : Launch) (D : va_G) (ad : Nat → Nat) (ka : Nat → ClassId) (sz : Nat) (t : Mem) (u : Nat) (hu : u < 36) (w : Int32) : Met l y_S_takes (Cond.code y_S_takes b_S_takes 2 (some .boolean) :: big) ({ frames := 0, cells := 0, slots := 0, locals := 0 }) (va_Pc [.ref (ad (60 + u)), .int (w)] (PX D ad ka sz t)) (va_Qi (fun (r : Int32) (t' : Mem) => r = S_takes t u w ∧ t' = t) (BX D ad ka sz) (AX ad sz)) 0 0 (AX ad sz) := by
  refine Met.ofW (cc := b_S_takes) (maxL := 2) (ret := (some .boolean)) (by decide) rfl ?_
  intro p e s m args below meth c s₁ B hml hv
  obtain ⟨rfl, hsz, hP, hK, hD0⟩ := hv
  have hx := B.exec
  have hb := B.bytes
  have hr := B.returns
  have hlocks := B.notSynchronized
  have hts := atoms_spec (ws := Cond.code y_S_takes b_S_takes 2 (some .boolean) :: big) B.pre
  have hown : s.vm.findClass "ListForge$Subscription" = some m.cls := findClass_of_methodNamed B.named
  subst hsz
  have hD : va_D (AX ad s.heap.size) (cw ad ka t) := AX_D hD0
  have hS : va_S (AX ad s.heap.size) s.heap s.heap [] := va_S.rf
  have hl := lv_entry ([.ref (ad (60 + u)), .int (w)]) (n := 2) (Nat.le_of_ble_eq_true rfl)
  rw [lg_entry_eq]
  generalize (lg_sl ([.ref (ad (60 + u)), .int (w)]) ++ List.replicate (2 - (lg_sl ([.ref (ad (60 + u)), .int (w)])).length) Slot.unset).toArray = ls at hl ⊢
  have hl : lv_has ls 2 [(0, .ref (ad (60 + u))), (1, .int (w))] := hl

  refine lv_aload_n hx hb d_S_takes_0 rfl (lv_at hl 0 rfl) ?_
  refine g_S_state hx hb hts hown hK hP hu mw_37 d_S_takes_1 ?_
  refine lv_iconst (v := 1) hx hb d_S_takes_4 (by decide) ?_
  refine lv_icmp_ne (tgt := 20) hx hb d_S_takes_5 (by decide) (fun c1 => ?_) (fun c1 => ?_)
  · have _u : True := trivial
    refine lv_iconst (v := 0) hx hb d_S_takes_20 (by decide) ?_
    exact W.zret (v := 0) hx hb hr rfl (fun t9 ht hW => ⟨⟨0, t, rfl, ⟨by simp [S_takes, c1], rfl⟩, BX_at ht hW hP hK hD⟩, hS.F ht⟩) hS.2.2 d_S_takes_21
  · have _u : True := trivial
    refine lv_aload_n hx hb d_S_takes_8 rfl (lv_at hl 0 rfl) ?_
    refine g_S_way hx hb hts hown hK hP hu mw_40 d_S_takes_9 ?_
    refine lv_iload_n hx hb d_S_takes_12 rfl (lv_at hl 1 rfl) ?_
    refine lv_icmp_ne (tgt := 20) hx hb d_S_takes_13 (by decide) (fun c2 => ?_) (fun c2 => ?_)
    · have _u : True := trivial
      refine lv_iconst (v := 0) hx hb d_S_takes_20 (by decide) ?_
      exact W.zret (v := 0) hx hb hr rfl (fun t9 ht hW => ⟨⟨0, t, rfl, ⟨by simp [S_takes, c1, c2], rfl⟩, BX_at ht hW hP hK hD⟩, hS.F ht⟩) hS.2.2 d_S_takes_21
    · have _u : True := trivial
      refine lv_iconst (v := 1) hx hb d_S_takes_16 (by decide) ?_
      refine lv_goto (tgt := 21) hx hb d_S_takes_17 (by decide) ?_
      exact W.zret (v := 1) hx hb hr rfl (fun t9 ht hW => ⟨⟨1, t, rfl, ⟨by simp [S_takes, c1, c2], rfl⟩, BX_at ht hW hP hK hD⟩, hS.F ht⟩) hS.2.2 d_S_takes_21
set_option maxHeartbeats 4000000 in
set_option maxRecDepth 100000 in
theorem c_S_fade (l : Launch) (D : va_G) (ad : Nat → Nat) (ka : Nat → ClassId) (sz : Nat) (t : Mem) (u : Nat) (hu : u < 36) (ho : OKX t) (d : Int32) : Met l y_S_fade (Cond.code y_S_fade b_S_fade 4 none :: big) ({ frames := 0, cells := 0, slots := 0, locals := 0 }) (va_Pc [.ref (ad (60 + u)), .int (d)] (PX D ad ka sz t)) (va_Qv (fun t' : Mem => t' = S_fade t u d) (BX D ad ka sz) (AX ad sz)) 0 0 (AX ad sz) := by
  refine Met.ofW (cc := b_S_fade) (maxL := 4) (ret := none) (by decide) rfl ?_
  intro p e s m args below meth c s₁ B hml hv
  obtain ⟨rfl, hsz, hP, hK, hD0⟩ := hv
  have hx := B.exec
  have hb := B.bytes
  have hr := B.returns
  have hlocks := B.notSynchronized
  have hts := atoms_spec (ws := Cond.code y_S_fade b_S_fade 4 none :: big) B.pre
  have hown : s.vm.findClass "ListForge$Subscription" = some m.cls := findClass_of_methodNamed B.named
  subst hsz
  have hD : va_D (AX ad s.heap.size) (cw ad ka t) := AX_D hD0
  have hS : va_S (AX ad s.heap.size) s.heap s.heap [] := va_S.rf
  have hl := lv_entry ([.ref (ad (60 + u)), .int (d)]) (n := 4) (Nat.le_of_ble_eq_true rfl)
  rw [lg_entry_eq]
  generalize (lg_sl ([.ref (ad (60 + u)), .int (d)]) ++ List.replicate (4 - (lg_sl ([.ref (ad (60 + u)), .int (d)])).length) Slot.unset).toArray = ls at hl ⊢
  have hl : lv_has ls 4 [(0, .ref (ad (60 + u))), (1, .int (d))] := hl

  refine lv_aload_n hx hb d_S_fade_0 rfl (lv_at hl 0 rfl) ?_
  refine g_S_bounceDay hx hb hts hown hK hP hu mw_50 d_S_fade_1 ?_
  refine lv_iload_n hx hb d_S_fade_4 rfl (lv_at hl 1 rfl) ?_
  refine lv_iconst (v := 1) hx hb d_S_fade_5 (by decide) ?_
  refine lv_isub hx hb d_S_fade_6 ?_
  refine lv_icmp_eq (tgt := 36) hx hb d_S_fade_7 (by decide) (fun c1 => ?_) (fun c1 => ?_)
  · have _u : True := trivial
    exact W.vret hx hb hr (fun t9 ht hW => ⟨⟨t, rfl, (by simp [S_fade, fadeD, c1]), BX_at ht hW hP hK hD⟩, hS.F ht⟩) hS.2.2 d_S_fade_36
  · have _u : True := trivial
    refine lv_aload_n hx hb d_S_fade_10 rfl (lv_at hl 0 rfl) ?_
    refine g_S_score hx hb hts hown hK hP hu mw_55 d_S_fade_11 ?_
    refine lv_ldc2d (own := "ListForge$Subscription") (v := 4606056518893174784) hx hb hown (bg hts mw_520) d_S_fade_14 ?_
    refine lv_dmul hx hb d_S_fade_17 (NN_nan (NN_875 (OKX_NN ho u))) ?_
    refine lv_dstore_n (lv' := [(2, .double (FP.dmul (gD t 0 u) 4606056518893174784)), (0, .ref (ad (60 + u))), (1, .int (d))]) hx hb d_S_fade_18 rfl hl (by decide) rfl (fun ls hl => ?_)
    refine lv_aload_n hx hb d_S_fade_19 rfl (lv_at hl 1 rfl) ?_
    refine lv_dload_n hx hb d_S_fade_20 rfl (lv_at hl 0 rfl) ?_
    refine lv_ldc2d (own := "ListForge$Subscription") (v := 4598175219545276416) hx hb hown (bg hts mw_521) d_S_fade_21 ?_
    refine lv_dcmp hx hb d_S_fade_24 ?_
    refine lv_if_ge (tgt := 32) hx hb d_S_fade_25 (by decide) (fun c2 => ?_) (fun c2 => ?_)
    · have _u : True := trivial
      refine lv_dload_n hx hb d_S_fade_32 rfl (lv_at hl 0 rfl) ?_
      refine p_S_score hx hb hts hown hK hP hD hS hu mw_55 d_S_fade_33 (fun H locs hP hD hS => ?_)
      exact W.vret hx hb hr (fun t9 ht hW => ⟨⟨(pD t 0 u (FP.dmul (gD t 0 u) 4606056518893174784)), rfl, (by simp [S_fade, fadeD, c1, c2]), BX_at ht hW hP hK hD⟩, hS.F ht⟩) hS.2.2 d_S_fade_36
    · have _u : True := trivial
      refine lv_dconst0 hx hb d_S_fade_28 ?_
      refine lv_goto (tgt := 33) hx hb d_S_fade_29 (by decide) ?_
      refine p_S_score hx hb hts hown hK hP hD hS hu mw_55 d_S_fade_33 (fun H locs hP hD hS => ?_)
      exact W.vret hx hb hr (fun t9 ht hW => ⟨⟨(pD t 0 u FP.dconst0), rfl, (by simp [S_fade, fadeD, c1, c2]), BX_at ht hW hP hK hD⟩, hS.F ht⟩) hS.2.2 d_S_fade_36
set_option maxHeartbeats 4000000 in
set_option maxRecDepth 100000 in
theorem c_P_comeIn (l : Launch) (D : va_G) (ad : Nat → Nat) (ka : Nat → ClassId) (sz : Nat) (t : Mem) (u : Nat) (hu : u < 40) (x a z : Int32) : Met l y_P_comeIn (Cond.code y_P_comeIn b_P_comeIn 4 none :: big) ({ frames := 0, cells := 0, slots := 0, locals := 0 }) (va_Pc [.ref (ad (20 + u)), .int (x), .int (a), .int (z)] (PX D ad ka sz t)) (va_Qv (fun t' : Mem => t' = P_comeIn t u x a z) (BX D ad ka sz) (AX ad sz)) 0 0 (AX ad sz) := by
  refine Met.ofW (cc := b_P_comeIn) (maxL := 4) (ret := none) (by decide) rfl ?_
  intro p e s m args below meth c s₁ B hml hv
  obtain ⟨rfl, hsz, hP, hK, hD0⟩ := hv
  have hx := B.exec
  have hb := B.bytes
  have hr := B.returns
  have hlocks := B.notSynchronized
  have hts := atoms_spec (ws := Cond.code y_P_comeIn b_P_comeIn 4 none :: big) B.pre
  have hown : s.vm.findClass "ListForge$Post" = some m.cls := findClass_of_methodNamed B.named
  subst hsz
  have hD : va_D (AX ad s.heap.size) (cw ad ka t) := AX_D hD0
  have hS : va_S (AX ad s.heap.size) s.heap s.heap [] := va_S.rf
  have hl := lv_entry ([.ref (ad (20 + u)), .int (x), .int (a), .int (z)]) (n := 4) (Nat.le_of_ble_eq_true rfl)
  rw [lg_entry_eq]
  generalize (lg_sl ([.ref (ad (20 + u)), .int (x), .int (a), .int (z)]) ++ List.replicate (4 - (lg_sl ([.ref (ad (20 + u)), .int (x), .int (a), .int (z)])).length) Slot.unset).toArray = ls at hl ⊢
  have hl : lv_has ls 4 [(0, .ref (ad (20 + u))), (1, .int (x)), (2, .int (a)), (3, .int (z))] := hl

  refine lv_aload_n hx hb d_P_comeIn_0 rfl (lv_at hl 0 rfl) ?_
  refine lv_iload_n hx hb d_P_comeIn_1 rfl (lv_at hl 1 rfl) ?_
  refine p_P_list hx hb hts hown hK hP hD hS hu mw_125 d_P_comeIn_2 (fun H locs hP hD hS => ?_)
  refine lv_aload_n hx hb d_P_comeIn_5 rfl (lv_at hl 0 rfl) ?_
  refine lv_iload_n hx hb d_P_comeIn_6 rfl (lv_at hl 2 rfl) ?_
  refine p_P_sender hx hb hts hown hK hP hD hS hu mw_127 d_P_comeIn_7 (fun H locs hP hD hS => ?_)
  refine lv_aload_n hx hb d_P_comeIn_10 rfl (lv_at hl 0 rfl) ?_
  refine lv_iload_n hx hb d_P_comeIn_11 rfl (lv_at hl 3 rfl) ?_
  refine p_P_size hx hb hts hown hK hP hD hS hu mw_130 d_P_comeIn_12 (fun H locs hP hD hS => ?_)
  refine lv_aload_n hx hb d_P_comeIn_15 rfl (lv_at hl 0 rfl) ?_
  refine lv_iconst (v := 0) hx hb d_P_comeIn_16 (by decide) ?_
  refine p_P_fate hx hb hts hown hK hP hD hS hu mw_132 d_P_comeIn_17 (fun H locs hP hD hS => ?_)
  exact W.vret hx hb hr (fun t9 ht hW => ⟨⟨(pI (pI (pI (pI t 20 u x) 21 u a) 22 u z) 23 u 0), rfl, rfl, BX_at ht hW hP hK hD⟩, hS.F ht⟩) hS.2.2 d_P_comeIn_20
set_option maxHeartbeats 4000000 in
set_option maxRecDepth 100000 in
theorem c_O_add (l : Launch) (D : va_G) (ad : Nat → Nat) (ka : Nat → ClassId) (sz : Nat) (t : Mem) (ho : OKX t) (a x s0 n0 : Int32) : Met l y_O_add (Cond.code y_O_add b_O_add 5 none :: big) ({ frames := 0, cells := 0, slots := 0, locals := 0 }) (va_Pc [.ref (ad (3)), .int (a), .int (x), .int (s0), .int (n0)] (PX D ad ka sz t)) (va_Qv (fun t' : Mem => t' = O_add t a x s0 n0) (BX D ad ka sz) (AX ad sz)) 0 0 (AX ad sz) := by
  refine Met.ofW (cc := b_O_add) (maxL := 5) (ret := none) (by decide) rfl ?_
  intro p e s m args below meth c s₁ B hml hv
  obtain ⟨rfl, hsz, hP, hK, hD0⟩ := hv
  have hx := B.exec
  have hb := B.bytes
  have hr := B.returns
  have hlocks := B.notSynchronized
  have hts := atoms_spec (ws := Cond.code y_O_add b_O_add 5 none :: big) B.pre
  have hown : s.vm.findClass "ListForge$Outbox" = some m.cls := findClass_of_methodNamed B.named
  subst hsz
  have hD : va_D (AX ad s.heap.size) (cw ad ka t) := AX_D hD0
  have hS : va_S (AX ad s.heap.size) s.heap s.heap [] := va_S.rf
  have hl := lv_entry ([.ref (ad (3)), .int (a), .int (x), .int (s0), .int (n0)]) (n := 5) (Nat.le_of_ble_eq_true rfl)
  rw [lg_entry_eq]
  generalize (lg_sl ([.ref (ad (3)), .int (a), .int (x), .int (s0), .int (n0)]) ++ List.replicate (5 - (lg_sl ([.ref (ad (3)), .int (a), .int (x), .int (s0), .int (n0)])).length) Slot.unset).toArray = ls at hl ⊢
  have hl : lv_has ls 5 [(0, .ref (ad (3))), (1, .int (a)), (2, .int (x)), (3, .int (s0)), (4, .int (n0))] := hl

  obtain ⟨k, hk0, hk⟩ := OKX_kept ho
  have hkc : (nI k).toNatClampNeg = k := nI_clamp (by omega)
  refine lv_aload_n hx hb d_O_add_0 rfl (lv_at hl 0 rfl) ?_
  refine lv_dup hx hb d_O_add_1 rfl ?_
  refine g_O_total hx hb hts hown hK hP mw_159 d_O_add_2 ?_
  refine lv_iconst (v := 1) hx hb d_O_add_5 (by decide) ?_
  refine lv_iadd hx hb d_O_add_6 ?_
  refine p_O_total hx hb hts hown hK hP hD hS mw_159 d_O_add_7 (fun H locs hP hD hS => ?_)
  refine lv_aload_n hx hb d_O_add_10 rfl (lv_at hl 0 rfl) ?_
  refine g_O_kept hx hb hts hown hK hP mw_157 d_O_add_11 ?_
  refine lv_bipush (v := 60) hx hb d_O_add_14 (by decide) ?_
  refine lv_icmp_ge (tgt := 70) hx hb d_O_add_16 (by decide) (fun c1 => ?_) (fun c1 => ?_)
  · have _u : True := trivial
    have hk6 : ¬ k < 60 := by have q := nI_eq_of (x := 60) (N := 60) rfl (by decide) hk0 (by simpa [gI_pI, hk] using c1); omega
    exact W.vret hx hb hr (fun t9 ht hW => ⟨⟨(pI t 29 0 ((gI t 29 0) + 1)), rfl, (by simp [O_add, gI_pI, hk, hkc, hk6]), BX_at ht hW hP hK hD⟩, hS.F ht⟩) hS.2.2 d_O_add_70
  · have _u : True := trivial
    have hk6 : k < 60 := nI_lt_of (x := 60) (N := 60) rfl hk0 (by simpa [gI_pI, hk] using c1)
    refine lv_aload_n hx hb d_O_add_19 rfl (lv_at hl 0 rfl) ?_
    refine g_O_addresses hx hb hts hown hK hP mw_149 d_O_add_20 ?_
    refine lv_aload_n hx hb d_O_add_23 rfl (lv_at hl 0 rfl) ?_
    refine g_O_kept hx hb hts hown hK hP mw_157 d_O_add_24 ?_
    refine lv_iload_n hx hb d_O_add_27 rfl (lv_at hl 1 rfl) ?_
    refine p_out (u := 0) hx hb hK hP hD hS (by decide) (r := k) hk6 (by simp [gI_pI, hk]) d_O_add_28 (fun H locs hP hD hS => ?_)
    refine lv_aload_n hx hb d_O_add_29 rfl (lv_at hl 0 rfl) ?_
    refine g_O_lists hx hb hts hown hK hP mw_151 d_O_add_30 ?_
    refine lv_aload_n hx hb d_O_add_33 rfl (lv_at hl 0 rfl) ?_
    refine g_O_kept hx hb hts hown hK hP mw_157 d_O_add_34 ?_
    refine lv_iload_n hx hb d_O_add_37 rfl (lv_at hl 2 rfl) ?_
    refine p_out (u := 1) hx hb hK hP hD hS (by decide) (r := k) hk6 (by simp [gI_pI, hk]) d_O_add_38 (fun H locs hP hD hS => ?_)
    refine lv_aload_n hx hb d_O_add_39 rfl (lv_at hl 0 rfl) ?_
    refine g_O_sorts hx hb hts hown hK hP mw_153 d_O_add_40 ?_
    refine lv_aload_n hx hb d_O_add_43 rfl (lv_at hl 0 rfl) ?_
    refine g_O_kept hx hb hts hown hK hP mw_157 d_O_add_44 ?_
    refine lv_iload_n hx hb d_O_add_47 rfl (lv_at hl 3 rfl) ?_
    refine p_out (u := 2) hx hb hK hP hD hS (by decide) (r := k) hk6 (by simp [gI_pI, hk]) d_O_add_48 (fun H locs hP hD hS => ?_)
    refine lv_aload_n hx hb d_O_add_49 rfl (lv_at hl 0 rfl) ?_
    refine g_O_numbers hx hb hts hown hK hP mw_155 d_O_add_50 ?_
    refine lv_aload_n hx hb d_O_add_53 rfl (lv_at hl 0 rfl) ?_
    refine g_O_kept hx hb hts hown hK hP mw_157 d_O_add_54 ?_
    refine lv_iload hx hb d_O_add_57 (lv_at hl 4 rfl) ?_
    refine p_out (u := 3) hx hb hK hP hD hS (by decide) (r := k) hk6 (by simp [gI_pI, hk]) d_O_add_59 (fun H locs hP hD hS => ?_)
    refine lv_aload_n hx hb d_O_add_60 rfl (lv_at hl 0 rfl) ?_
    refine lv_dup hx hb d_O_add_61 rfl ?_
    refine g_O_kept hx hb hts hown hK hP mw_157 d_O_add_62 ?_
    refine lv_iconst (v := 1) hx hb d_O_add_65 (by decide) ?_
    refine lv_iadd hx hb d_O_add_66 ?_
    refine p_O_kept hx hb hts hown hK hP hD hS mw_157 d_O_add_67 (fun H locs hP hD hS => ?_)
    exact W.vret hx hb hr (fun t9 ht hW => ⟨⟨(pI (pI (pI (pI (pI (pI t 29 0 ((gI t 29 0) + 1)) (1004 + 0) k a) (1004 + 1) k x) (1004 + 2) k s0) (1004 + 3) k n0) 28 0 ((gI (pI (pI (pI (pI (pI t 29 0 ((gI t 29 0) + 1)) (1004 + 0) k a) (1004 + 1) k x) (1004 + 2) k s0) (1004 + 3) k n0) 28 0) + 1)), rfl, (by simp [O_add, gI_pI, hk, hkc, hk6]), BX_at ht hW hP hK hD⟩, hS.F ht⟩) hS.2.2 d_O_add_70
end
section
set_option maxHeartbeats 4000000 in
set_option maxRecDepth 100000 in
theorem c_L_changeOpen (l : Launch) (D : va_G) (ad : Nat → Nat) (ka : Nat → ClassId) (sz : Nat) (t : Mem) (u : Nat) (hu : u < 3) (v : Int32) (hz : b01 v) : Met l y_L_changeOpen (Cond.code y_L_changeOpen b_L_changeOpen 4 (some .double) :: big) ({ frames := 0, cells := 0, slots := 0, locals := 0 }) (va_Pc [.ref (ad (8 + u)), .int (v)] (PX D ad ka sz t)) (va_Qd (fun (r : UInt64) (t' : Mem) => r = bd (gI t 10 u) ∧ t' = pI t 10 u v) (BX D ad ka sz) (AX ad sz)) 0 0 (AX ad sz) := by
  refine Met.ofW (cc := b_L_changeOpen) (maxL := 4) (ret := (some .double)) (by decide) rfl ?_
  intro p e s m args below meth c s₁ B hml hv
  obtain ⟨rfl, hsz, hP, hK, hD0⟩ := hv
  have hx := B.exec
  have hb := B.bytes
  have hr := B.returns
  have hlocks := B.notSynchronized
  have hts := atoms_spec (ws := Cond.code y_L_changeOpen b_L_changeOpen 4 (some .double) :: big) B.pre
  have hown : s.vm.findClass "ListForge$MailingList" = some m.cls := findClass_of_methodNamed B.named
  subst hsz
  have hD : va_D (AX ad s.heap.size) (cw ad ka t) := AX_D hD0
  have hS : va_S (AX ad s.heap.size) s.heap s.heap [] := va_S.rf
  have hl := lv_entry ([.ref (ad (8 + u)), .int (v)]) (n := 4) (Nat.le_of_ble_eq_true rfl)
  rw [lg_entry_eq]
  generalize (lg_sl ([.ref (ad (8 + u)), .int (v)]) ++ List.replicate (4 - (lg_sl ([.ref (ad (8 + u)), .int (v)])).length) Slot.unset).toArray = ls at hl ⊢
  have hl : lv_has ls 4 [(0, .ref (ad (8 + u))), (1, .int (v))] := hl

  refine lv_aload_n hx hb d_L_changeOpen_0 rfl (lv_at hl 0 rfl) ?_
  refine g_L_open hx hb hts hown hK hP hu mw_81 d_L_changeOpen_1 ?_
  refine lv_if_eq (tgt := 11) hx hb d_L_changeOpen_4 (by decide) (fun c1 => ?_) (fun c1 => ?_)
  · have _u : True := trivial
    refine lv_dconst0 hx hb d_L_changeOpen_11 ?_
    refine lv_dstore_n (lv' := [(2, .double (FP.dconst0)), (0, .ref (ad (8 + u))), (1, .int (v))]) hx hb d_L_changeOpen_12 rfl hl (by decide) rfl (fun ls hl => ?_)
    refine lv_aload_n hx hb d_L_changeOpen_13 rfl (lv_at hl 1 rfl) ?_
    refine lv_iload_n hx hb d_L_changeOpen_14 rfl (lv_at hl 2 rfl) ?_
    refine p_L_open hx hb hts hown hK hP hD hS hu hz mw_81 d_L_changeOpen_15 (fun H locs hP hD hS => ?_)
    refine lv_dload_n hx hb d_L_changeOpen_18 rfl (lv_at hl 0 rfl) ?_
    exact W.dret (v := FP.dconst0) hx hb hr (fun t9 ht hW => ⟨⟨FP.dconst0, (pI t 10 u v), rfl, ⟨by simp [bd, c1], rfl⟩, BX_at ht hW hP hK hD⟩, hS.F ht⟩) hS.2.2 d_L_changeOpen_19
  · have _u : True := trivial
    refine lv_dconst1 hx hb d_L_changeOpen_7 ?_
    refine lv_goto (tgt := 12) hx hb d_L_changeOpen_8 (by decide) ?_
    refine lv_dstore_n (lv' := [(2, .double (FP.dconst1)), (0, .ref (ad (8 + u))), (1, .int (v))]) hx hb d_L_changeOpen_12 rfl hl (by decide) rfl (fun ls hl => ?_)
    refine lv_aload_n hx hb d_L_changeOpen_13 rfl (lv_at hl 1 rfl) ?_
    refine lv_iload_n hx hb d_L_changeOpen_14 rfl (lv_at hl 2 rfl) ?_
    refine p_L_open hx hb hts hown hK hP hD hS hu hz mw_81 d_L_changeOpen_15 (fun H locs hP hD hS => ?_)
    refine lv_dload_n hx hb d_L_changeOpen_18 rfl (lv_at hl 0 rfl) ?_
    exact W.dret (v := FP.dconst1) hx hb hr (fun t9 ht hW => ⟨⟨FP.dconst1, (pI t 10 u v), rfl, ⟨by simp [bd, c1], rfl⟩, BX_at ht hW hP hK hD⟩, hS.F ht⟩) hS.2.2 d_L_changeOpen_19
set_option maxHeartbeats 4000000 in
set_option maxRecDepth 100000 in
theorem c_L_changeWatched (l : Launch) (D : va_G) (ad : Nat → Nat) (ka : Nat → ClassId) (sz : Nat) (t : Mem) (u : Nat) (hu : u < 3) (v : Int32) (hz : b01 v) : Met l y_L_changeWatched (Cond.code y_L_changeWatched b_L_changeWatched 4 (some .double) :: big) ({ frames := 0, cells := 0, slots := 0, locals := 0 }) (va_Pc [.ref (ad (8 + u)), .int (v)] (PX D ad ka sz t)) (va_Qd (fun (r : UInt64) (t' : Mem) => r = bd (gI t 11 u) ∧ t' = pI t 11 u v) (BX D ad ka sz) (AX ad sz)) 0 0 (AX ad sz) := by
  refine Met.ofW (cc := b_L_changeWatched) (maxL := 4) (ret := (some .double)) (by decide) rfl ?_
  intro p e s m args below meth c s₁ B hml hv
  obtain ⟨rfl, hsz, hP, hK, hD0⟩ := hv
  have hx := B.exec
  have hb := B.bytes
  have hr := B.returns
  have hlocks := B.notSynchronized
  have hts := atoms_spec (ws := Cond.code y_L_changeWatched b_L_changeWatched 4 (some .double) :: big) B.pre
  have hown : s.vm.findClass "ListForge$MailingList" = some m.cls := findClass_of_methodNamed B.named
  subst hsz
  have hD : va_D (AX ad s.heap.size) (cw ad ka t) := AX_D hD0
  have hS : va_S (AX ad s.heap.size) s.heap s.heap [] := va_S.rf
  have hl := lv_entry ([.ref (ad (8 + u)), .int (v)]) (n := 4) (Nat.le_of_ble_eq_true rfl)
  rw [lg_entry_eq]
  generalize (lg_sl ([.ref (ad (8 + u)), .int (v)]) ++ List.replicate (4 - (lg_sl ([.ref (ad (8 + u)), .int (v)])).length) Slot.unset).toArray = ls at hl ⊢
  have hl : lv_has ls 4 [(0, .ref (ad (8 + u))), (1, .int (v))] := hl

  refine lv_aload_n hx hb d_L_changeWatched_0 rfl (lv_at hl 0 rfl) ?_
  refine g_L_watched hx hb hts hown hK hP hu mw_82 d_L_changeWatched_1 ?_
  refine lv_if_eq (tgt := 11) hx hb d_L_changeWatched_4 (by decide) (fun c1 => ?_) (fun c1 => ?_)
  · have _u : True := trivial
    refine lv_dconst0 hx hb d_L_changeWatched_11 ?_
    refine lv_dstore_n (lv' := [(2, .double (FP.dconst0)), (0, .ref (ad (8 + u))), (1, .int (v))]) hx hb d_L_changeWatched_12 rfl hl (by decide) rfl (fun ls hl => ?_)
    refine lv_aload_n hx hb d_L_changeWatched_13 rfl (lv_at hl 1 rfl) ?_
    refine lv_iload_n hx hb d_L_changeWatched_14 rfl (lv_at hl 2 rfl) ?_
    refine p_L_watched hx hb hts hown hK hP hD hS hu hz mw_82 d_L_changeWatched_15 (fun H locs hP hD hS => ?_)
    refine lv_dload_n hx hb d_L_changeWatched_18 rfl (lv_at hl 0 rfl) ?_
    exact W.dret (v := FP.dconst0) hx hb hr (fun t9 ht hW => ⟨⟨FP.dconst0, (pI t 11 u v), rfl, ⟨by simp [bd, c1], rfl⟩, BX_at ht hW hP hK hD⟩, hS.F ht⟩) hS.2.2 d_L_changeWatched_19
  · have _u : True := trivial
    refine lv_dconst1 hx hb d_L_changeWatched_7 ?_
    refine lv_goto (tgt := 12) hx hb d_L_changeWatched_8 (by decide) ?_
    refine lv_dstore_n (lv' := [(2, .double (FP.dconst1)), (0, .ref (ad (8 + u))), (1, .int (v))]) hx hb d_L_changeWatched_12 rfl hl (by decide) rfl (fun ls hl => ?_)
    refine lv_aload_n hx hb d_L_changeWatched_13 rfl (lv_at hl 1 rfl) ?_
    refine lv_iload_n hx hb d_L_changeWatched_14 rfl (lv_at hl 2 rfl) ?_
    refine p_L_watched hx hb hts hown hK hP hD hS hu hz mw_82 d_L_changeWatched_15 (fun H locs hP hD hS => ?_)
    refine lv_dload_n hx hb d_L_changeWatched_18 rfl (lv_at hl 0 rfl) ?_
    exact W.dret (v := FP.dconst1) hx hb hr (fun t9 ht hW => ⟨⟨FP.dconst1, (pI t 11 u v), rfl, ⟨by simp [bd, c1], rfl⟩, BX_at ht hW hP hK hD⟩, hS.F ht⟩) hS.2.2 d_L_changeWatched_19
set_option maxHeartbeats 4000000 in
set_option maxRecDepth 100000 in
theorem c_L_changeGreatest (l : Launch) (D : va_G) (ad : Nat → Nat) (ka : Nat → ClassId) (sz : Nat) (t : Mem) (u : Nat) (hu : u < 3) (v : Int32) : Met l y_L_changeGreatest (Cond.code y_L_changeGreatest b_L_changeGreatest 4 (some .double) :: big) ({ frames := 0, cells := 0, slots := 0, locals := 0 }) (va_Pc [.ref (ad (8 + u)), .int (v)] (PX D ad ka sz t)) (va_Qd (fun (r : UInt64) (t' : Mem) => r = FP.i2d (gI t 12 u) ∧ t' = pI t 12 u v) (BX D ad ka sz) (AX ad sz)) 0 0 (AX ad sz) := by
  refine Met.ofW (cc := b_L_changeGreatest) (maxL := 4) (ret := (some .double)) (by decide) rfl ?_
  intro p e s m args below meth c s₁ B hml hv
  obtain ⟨rfl, hsz, hP, hK, hD0⟩ := hv
  have hx := B.exec
  have hb := B.bytes
  have hr := B.returns
  have hlocks := B.notSynchronized
  have hts := atoms_spec (ws := Cond.code y_L_changeGreatest b_L_changeGreatest 4 (some .double) :: big) B.pre
  have hown : s.vm.findClass "ListForge$MailingList" = some m.cls := findClass_of_methodNamed B.named
  subst hsz
  have hD : va_D (AX ad s.heap.size) (cw ad ka t) := AX_D hD0
  have hS : va_S (AX ad s.heap.size) s.heap s.heap [] := va_S.rf
  have hl := lv_entry ([.ref (ad (8 + u)), .int (v)]) (n := 4) (Nat.le_of_ble_eq_true rfl)
  rw [lg_entry_eq]
  generalize (lg_sl ([.ref (ad (8 + u)), .int (v)]) ++ List.replicate (4 - (lg_sl ([.ref (ad (8 + u)), .int (v)])).length) Slot.unset).toArray = ls at hl ⊢
  have hl : lv_has ls 4 [(0, .ref (ad (8 + u))), (1, .int (v))] := hl

  refine lv_aload_n hx hb d_L_changeGreatest_0 rfl (lv_at hl 0 rfl) ?_
  refine g_L_greatest hx hb hts hown hK hP hu mw_83 d_L_changeGreatest_1 ?_
  refine lv_i2d hx hb d_L_changeGreatest_4 ?_
  refine lv_dstore_n (lv' := [(2, .double (FP.i2d (gI t 12 u))), (0, .ref (ad (8 + u))), (1, .int (v))]) hx hb d_L_changeGreatest_5 rfl hl (by decide) rfl (fun ls hl => ?_)
  refine lv_aload_n hx hb d_L_changeGreatest_6 rfl (lv_at hl 1 rfl) ?_
  refine lv_iload_n hx hb d_L_changeGreatest_7 rfl (lv_at hl 2 rfl) ?_
  refine p_L_greatest hx hb hts hown hK hP hD hS hu mw_83 d_L_changeGreatest_8 (fun H locs hP hD hS => ?_)
  refine lv_dload_n hx hb d_L_changeGreatest_11 rfl (lv_at hl 0 rfl) ?_
  exact W.dret (v := FP.i2d (gI t 12 u)) hx hb hr (fun t9 ht hW => ⟨⟨FP.i2d (gI t 12 u), (pI t 12 u v), rfl, ⟨rfl, rfl⟩, BX_at ht hW hP hK hD⟩, hS.F ht⟩) hS.2.2 d_L_changeGreatest_12
set_option maxHeartbeats 4000000 in
set_option maxRecDepth 100000 in
theorem c_L_changeFull (l : Launch) (D : va_G) (ad : Nat → Nat) (ka : Nat → ClassId) (sz : Nat) (t : Mem) (u : Nat) (hu : u < 3) (v : Int32) : Met l y_L_changeFull (Cond.code y_L_changeFull b_L_changeFull 4 (some .double) :: big) ({ frames := 0, cells := 0, slots := 0, locals := 0 }) (va_Pc [.ref (ad (8 + u)), .int (v)] (PX D ad ka sz t)) (va_Qd (fun (r : UInt64) (t' : Mem) => r = FP.i2d (gI t 13 u) ∧ t' = pI t 13 u v) (BX D ad ka sz) (AX ad sz)) 0 0 (AX ad sz) := by
  refine Met.ofW (cc := b_L_changeFull) (maxL := 4) (ret := (some .double)) (by decide) rfl ?_
  intro p e s m args below meth c s₁ B hml hv
  obtain ⟨rfl, hsz, hP, hK, hD0⟩ := hv
  have hx := B.exec
  have hb := B.bytes
  have hr := B.returns
  have hlocks := B.notSynchronized
  have hts := atoms_spec (ws := Cond.code y_L_changeFull b_L_changeFull 4 (some .double) :: big) B.pre
  have hown : s.vm.findClass "ListForge$MailingList" = some m.cls := findClass_of_methodNamed B.named
  subst hsz
  have hD : va_D (AX ad s.heap.size) (cw ad ka t) := AX_D hD0
  have hS : va_S (AX ad s.heap.size) s.heap s.heap [] := va_S.rf
  have hl := lv_entry ([.ref (ad (8 + u)), .int (v)]) (n := 4) (Nat.le_of_ble_eq_true rfl)
  rw [lg_entry_eq]
  generalize (lg_sl ([.ref (ad (8 + u)), .int (v)]) ++ List.replicate (4 - (lg_sl ([.ref (ad (8 + u)), .int (v)])).length) Slot.unset).toArray = ls at hl ⊢
  have hl : lv_has ls 4 [(0, .ref (ad (8 + u))), (1, .int (v))] := hl

  refine lv_aload_n hx hb d_L_changeFull_0 rfl (lv_at hl 0 rfl) ?_
  refine g_L_full hx hb hts hown hK hP hu mw_84 d_L_changeFull_1 ?_
  refine lv_i2d hx hb d_L_changeFull_4 ?_
  refine lv_dstore_n (lv' := [(2, .double (FP.i2d (gI t 13 u))), (0, .ref (ad (8 + u))), (1, .int (v))]) hx hb d_L_changeFull_5 rfl hl (by decide) rfl (fun ls hl => ?_)
  refine lv_aload_n hx hb d_L_changeFull_6 rfl (lv_at hl 1 rfl) ?_
  refine lv_iload_n hx hb d_L_changeFull_7 rfl (lv_at hl 2 rfl) ?_
  refine p_L_full hx hb hts hown hK hP hD hS hu mw_84 d_L_changeFull_8 (fun H locs hP hD hS => ?_)
  refine lv_dload_n hx hb d_L_changeFull_11 rfl (lv_at hl 0 rfl) ?_
  exact W.dret (v := FP.i2d (gI t 13 u)) hx hb hr (fun t9 ht hW => ⟨⟨FP.i2d (gI t 13 u), (pI t 13 u v), rfl, ⟨rfl, rfl⟩, BX_at ht hW hP hK hD⟩, hS.F ht⟩) hS.2.2 d_L_changeFull_12
set_option maxHeartbeats 4000000 in
set_option maxRecDepth 100000 in
theorem c_L_changeBest (l : Launch) (D : va_G) (ad : Nat → Nat) (ka : Nat → ClassId) (sz : Nat) (t : Mem) (u : Nat) (hu : u < 3) (v : UInt64) : Met l y_L_changeBest (Cond.code y_L_changeBest b_L_changeBest 5 (some .double) :: big) ({ frames := 0, cells := 0, slots := 0, locals := 0 }) (va_Pc [.ref (ad (8 + u)), .double (v)] (PX D ad ka sz t)) (va_Qd (fun (r : UInt64) (t' : Mem) => r = gD t 1 u ∧ t' = pD t 1 u v) (BX D ad ka sz) (AX ad sz)) 0 0 (AX ad sz) := by
  refine Met.ofW (cc := b_L_changeBest) (maxL := 5) (ret := (some .double)) (by decide) rfl ?_
  intro p e s m args below meth c s₁ B hml hv
  obtain ⟨rfl, hsz, hP, hK, hD0⟩ := hv
  have hx := B.exec
  have hb := B.bytes
  have hr := B.returns
  have hlocks := B.notSynchronized
  have hts := atoms_spec (ws := Cond.code y_L_changeBest b_L_changeBest 5 (some .double) :: big) B.pre
  have hown : s.vm.findClass "ListForge$MailingList" = some m.cls := findClass_of_methodNamed B.named
  subst hsz
  have hD : va_D (AX ad s.heap.size) (cw ad ka t) := AX_D hD0
  have hS : va_S (AX ad s.heap.size) s.heap s.heap [] := va_S.rf
  have hl := lv_entry ([.ref (ad (8 + u)), .double (v)]) (n := 5) (Nat.le_of_ble_eq_true rfl)
  rw [lg_entry_eq]
  generalize (lg_sl ([.ref (ad (8 + u)), .double (v)]) ++ List.replicate (5 - (lg_sl ([.ref (ad (8 + u)), .double (v)])).length) Slot.unset).toArray = ls at hl ⊢
  have hl : lv_has ls 5 [(0, .ref (ad (8 + u))), (1, .double (v))] := hl

  refine lv_aload_n hx hb d_L_changeBest_0 rfl (lv_at hl 0 rfl) ?_
  refine g_L_best hx hb hts hown hK hP hu mw_85 d_L_changeBest_1 ?_
  refine lv_dstore_n (lv' := [(3, .double (gD t 1 u)), (0, .ref (ad (8 + u))), (1, .double (v))]) hx hb d_L_changeBest_4 rfl hl (by decide) rfl (fun ls hl => ?_)
  refine lv_aload_n hx hb d_L_changeBest_5 rfl (lv_at hl 1 rfl) ?_
  refine lv_dload_n hx hb d_L_changeBest_6 rfl (lv_at hl 2 rfl) ?_
  refine p_L_best hx hb hts hown hK hP hD hS hu mw_85 d_L_changeBest_7 (fun H locs hP hD hS => ?_)
  refine lv_dload_n hx hb d_L_changeBest_10 rfl (lv_at hl 0 rfl) ?_
  exact W.dret (v := gD t 1 u) hx hb hr (fun t9 ht hW => ⟨⟨gD t 1 u, (pD t 1 u v), rfl, ⟨rfl, rfl⟩, BX_at ht hW hP hK hD⟩, hS.F ht⟩) hS.2.2 d_L_changeBest_11
set_option maxHeartbeats 4000000 in
set_option maxRecDepth 100000 in
theorem c_L_changeBarred (l : Launch) (D : va_G) (ad : Nat → Nat) (ka : Nat → ClassId) (sz : Nat) (t : Mem) (u : Nat) (hu : u < 3) (a : Nat) (hlt : a < 10) (v : Int32) (hz : b01 v) : Met l y_L_changeBarred (Cond.code y_L_changeBarred b_L_changeBarred 5 (some .double) :: big) ({ frames := 0, cells := 0, slots := 0, locals := 0 }) (va_Pc [.ref (ad (8 + u)), .int (nI a), .int (v)] (PX D ad ka sz t)) (va_Qd (fun (r : UInt64) (t' : Mem) => r = bd (gI t (1017 + u) a) ∧ t' = pI t (1017 + u) a v) (BX D ad ka sz) (AX ad sz)) 0 0 (AX ad sz) := by
  refine Met.ofW (cc := b_L_changeBarred) (maxL := 5) (ret := (some .double)) (by decide) rfl ?_
  intro p e s m args below meth c s₁ B hml hv
  obtain ⟨rfl, hsz, hP, hK, hD0⟩ := hv
  have hx := B.exec
  have hb := B.bytes
  have hr := B.returns
  have hlocks := B.notSynchronized
  have hts := atoms_spec (ws := Cond.code y_L_changeBarred b_L_changeBarred 5 (some .double) :: big) B.pre
  have hown : s.vm.findClass "ListForge$MailingList" = some m.cls := findClass_of_methodNamed B.named
  subst hsz
  have hD : va_D (AX ad s.heap.size) (cw ad ka t) := AX_D hD0
  have hS : va_S (AX ad s.heap.size) s.heap s.heap [] := va_S.rf
  have hl := lv_entry ([.ref (ad (8 + u)), .int (nI a), .int (v)]) (n := 5) (Nat.le_of_ble_eq_true rfl)
  rw [lg_entry_eq]
  generalize (lg_sl ([.ref (ad (8 + u)), .int (nI a), .int (v)]) ++ List.replicate (5 - (lg_sl ([.ref (ad (8 + u)), .int (nI a), .int (v)])).length) Slot.unset).toArray = ls at hl ⊢
  have hl : lv_has ls 5 [(0, .ref (ad (8 + u))), (1, .int (nI a)), (2, .int (v))] := hl

  refine lv_aload_n hx hb d_L_changeBarred_0 rfl (lv_at hl 0 rfl) ?_
  refine g_L_barred hx hb hts hown hK hP hu mw_80 d_L_changeBarred_1 ?_
  refine lv_iload_n hx hb d_L_changeBarred_4 rfl (lv_at hl 1 rfl) ?_
  refine g_bar (u := u) hx hb hK hP hu (r := a) hlt rfl d_L_changeBarred_5 ?_
  refine lv_if_eq (tgt := 13) hx hb d_L_changeBarred_6 (by decide) (fun c1 => ?_) (fun c1 => ?_)
  · have _u : True := trivial
    refine lv_dconst0 hx hb d_L_changeBarred_13 ?_
    refine lv_dstore_n (lv' := [(3, .double (FP.dconst0)), (0, .ref (ad (8 + u))), (1, .int (nI a)), (2, .int (v))]) hx hb d_L_changeBarred_14 rfl hl (by decide) rfl (fun ls hl => ?_)
    refine lv_aload_n hx hb d_L_changeBarred_15 rfl (lv_at hl 1 rfl) ?_
    refine g_L_barred hx hb hts hown hK hP hu mw_80 d_L_changeBarred_16 ?_
    refine lv_iload_n hx hb d_L_changeBarred_19 rfl (lv_at hl 2 rfl) ?_
    refine lv_iload_n hx hb d_L_changeBarred_20 rfl (lv_at hl 3 rfl) ?_
    refine p_bar (u := u) hx hb hK hP hD hS hu (r := a) hlt rfl hz d_L_changeBarred_21 (fun H locs hP hD hS => ?_)
    refine lv_dload_n hx hb d_L_changeBarred_22 rfl (lv_at hl 0 rfl) ?_
    exact W.dret (v := FP.dconst0) hx hb hr (fun t9 ht hW => ⟨⟨FP.dconst0, (pI t (1017 + u) a v), rfl, ⟨by simp [bd, c1], rfl⟩, BX_at ht hW hP hK hD⟩, hS.F ht⟩) hS.2.2 d_L_changeBarred_23
  · have _u : True := trivial
    refine lv_dconst1 hx hb d_L_changeBarred_9 ?_
    refine lv_goto (tgt := 14) hx hb d_L_changeBarred_10 (by decide) ?_
    refine lv_dstore_n (lv' := [(3, .double (FP.dconst1)), (0, .ref (ad (8 + u))), (1, .int (nI a)), (2, .int (v))]) hx hb d_L_changeBarred_14 rfl hl (by decide) rfl (fun ls hl => ?_)
    refine lv_aload_n hx hb d_L_changeBarred_15 rfl (lv_at hl 1 rfl) ?_
    refine g_L_barred hx hb hts hown hK hP hu mw_80 d_L_changeBarred_16 ?_
    refine lv_iload_n hx hb d_L_changeBarred_19 rfl (lv_at hl 2 rfl) ?_
    refine lv_iload_n hx hb d_L_changeBarred_20 rfl (lv_at hl 3 rfl) ?_
    refine p_bar (u := u) hx hb hK hP hD hS hu (r := a) hlt rfl hz d_L_changeBarred_21 (fun H locs hP hD hS => ?_)
    refine lv_dload_n hx hb d_L_changeBarred_22 rfl (lv_at hl 0 rfl) ?_
    exact W.dret (v := FP.dconst1) hx hb hr (fun t9 ht hW => ⟨⟨FP.dconst1, (pI t (1017 + u) a v), rfl, ⟨by simp [bd, c1], rfl⟩, BX_at ht hW hP hK hD⟩, hS.F ht⟩) hS.2.2 d_L_changeBarred_23
set_option maxHeartbeats 4000000 in
set_option maxRecDepth 100000 in
theorem c_L_subscriptionCount (l : Launch) (D : va_G) (ad : Nat → Nat) (ka : Nat → ClassId) (sz : Nat) (t : Mem) (u : Nat) (hu : u < 3) : Met l y_L_subscriptionCount (Cond.code y_L_subscriptionCount b_L_subscriptionCount 3 (some .int) :: big) ({ frames := 0, cells := 0, slots := 0, locals := 0 }) (va_Pc [.ref (ad (8 + u))] (PX D ad ka sz t)) (va_Qi (fun (r : Int32) (t' : Mem) => r = L_subs t u ∧ t' = t) (BX D ad ka sz) (AX ad sz)) 0 0 (AX ad sz) := by
  refine Met.ofW (cc := b_L_subscriptionCount) (maxL := 3) (ret := (some .int)) (by decide) rfl ?_
  intro p e s m args below meth c s₁ B hml hv
  obtain ⟨rfl, hsz, hP, hK, hD0⟩ := hv
  have hx := B.exec
  have hb := B.bytes
  have hr := B.returns
  have hlocks := B.notSynchronized
  have hts := atoms_spec (ws := Cond.code y_L_subscriptionCount b_L_subscriptionCount 3 (some .int) :: big) B.pre
  have hown : s.vm.findClass "ListForge$MailingList" = some m.cls := findClass_of_methodNamed B.named
  subst hsz
  have hD : va_D (AX ad s.heap.size) (cw ad ka t) := AX_D hD0
  have hS : va_S (AX ad s.heap.size) s.heap s.heap [] := va_S.rf
  have hl := lv_entry ([.ref (ad (8 + u))]) (n := 3) (Nat.le_of_ble_eq_true rfl)
  rw [lg_entry_eq]
  generalize (lg_sl ([.ref (ad (8 + u))]) ++ List.replicate (3 - (lg_sl ([.ref (ad (8 + u))])).length) Slot.unset).toArray = ls at hl ⊢
  have hl : lv_has ls 3 [(0, .ref (ad (8 + u)))] := hl

  refine lv_iconst (v := 0) hx hb d_L_subscriptionCount_0 (by decide) ?_
  refine lv_istore_n (lv' := [(1, .int (0)), (0, .ref (ad (8 + u)))]) hx hb d_L_subscriptionCount_1 rfl hl (by decide) rfl (fun ls hl => ?_)
  refine lv_iconst (v := 0) hx hb d_L_subscriptionCount_2 (by decide) ?_
  refine lv_istore_n (lv' := [(2, .int (0)), (1, .int (0)), (0, .ref (ad (8 + u)))]) hx hb d_L_subscriptionCount_3 rfl hl (by decide) rfl (fun ls hl => ?_)
  have hloop : ∀ (n a : Nat) (f : Int32) (t1 : Mem) (H : Heap) (locs : List Loc) (ls : Array Slot), a ≤ 12 → 12 + 1 ≤ a + n → t1 = t → lp (fun a n => if gI t 0 (12 * u + a) = -1 then n else n + 1) (12 - a) a f = lp (fun a n => if gI t 0 (12 * u + a) = -1 then n else n + 1) 12 0 0 → va_P D cls (cw ad ka t1) H → va_D (AX ad s.heap.size) (cw ad ka t1) → va_S (AX ad s.heap.size) s.heap H locs → lv_has ls 3 [(0, .ref (ad (8 + u))), (1, .int (f)), (2, .int (nI a))] → W p l e ({ frames := 0, cells := 0, slots := 0, locals := 0 }) s m ([.ref (ad (8 + u))] : List Value).toArray below meth c H locs 0 0 (MQ below (va_Qi (fun (r : Int32) (t' : Mem) => r = L_subs t u ∧ t' = t) (BX D ad ka s.heap.size) (AX ad s.heap.size)) ([.ref (ad (8 + u))] : List Value).toArray s 0 0 (AX ad s.heap.size)) (F0 m 4 ls []) := by
    intro n
    induction n with
    | zero => intro a f t1 H locs ls h1 h2; exact absurd h2 (by omega)
    | succ n ih =>
      intro a f t1 H locs ls ha hn ho hF hP hD hS hl
      refine lv_iload_n hx hb d_L_subscriptionCount_4 rfl (lv_at hl 2 rfl) ?_
      refine lv_bipush (v := 12) hx hb d_L_subscriptionCount_5 (by decide) ?_
      refine lv_icmp_ge (tgt := 32) hx hb d_L_subscriptionCount_7 (by decide) (fun c1 => ?_) (fun c1 => ?_)
      · have _u : True := trivial
        obtain rfl := nI_eq_of (x := 12) (N := 12) rfl (by decide) ha c1
        have hE := lp_end hF
        refine lv_iload_n hx hb d_L_subscriptionCount_32 rfl (lv_at hl 1 rfl) ?_
        exact W.iret (v := f) hx hb hr (fun t9 ht hW => ⟨⟨f, t1, rfl, ⟨hE, ho⟩, BX_at ht hW hP hK hD⟩, hS.F ht⟩) hS.2.2 d_L_subscriptionCount_33
      · have _u : True := trivial
        have hlt : a < 12 := nI_lt_of (x := 12) (N := 12) rfl ha c1
        refine lv_aload_n hx hb d_L_subscriptionCount_10 rfl (lv_at hl 0 rfl) ?_
        refine g_L_subscriptions hx hb hts hown hK hP hu mw_76 d_L_subscriptionCount_11 ?_
        refine lv_iload_n hx hb d_L_subscriptionCount_14 rfl (lv_at hl 2 rfl) ?_
        refine a_subs hx hb hK hP hu (r := a) hlt rfl d_L_subscriptionCount_15 ?_
        refine g_S_state hx hb hts hown hK hP (by omega) mw_39 d_L_subscriptionCount_16 ?_
        refine lv_iconst (v := -1) hx hb d_L_subscriptionCount_19 (by decide) ?_
        refine lv_icmp_eq (tgt := 26) hx hb d_L_subscriptionCount_20 (by decide) (fun c2 => ?_) (fun c2 => ?_)
        · have _u : True := trivial
          refine lv_iinc (v := nI (a + 1)) (lv' := [(2, .int (nI (a + 1))), (0, .ref (ad (8 + u))), (1, .int (f))]) hx hb d_L_subscriptionCount_26 hl (k := 2) rfl (nI_1 _) (by decide) rfl (fun ls hl => ?_)
          refine lv_goto (tgt := 4) hx hb d_L_subscriptionCount_29 (by decide) ?_
          exact ih (a + 1) f t1 H _ ls (by omega) (by omega) ho (lp_next hlt hF (by rw [ho] at c2; simp [c2])) hP hD hS (lv_sub hl [1, 2, 0] rfl)
        · have _u : True := trivial
          refine lv_iinc (v := f + 1) (lv' := [(1, .int (f + 1)), (0, .ref (ad (8 + u))), (2, .int (nI a))]) hx hb d_L_subscriptionCount_23 hl (k := 1) rfl (rfl) (by decide) rfl (fun ls hl => ?_)
          refine lv_iinc (v := nI (a + 1)) (lv' := [(2, .int (nI (a + 1))), (1, .int (f + 1)), (0, .ref (ad (8 + u)))]) hx hb d_L_subscriptionCount_26 hl (k := 2) rfl (nI_1 _) (by decide) rfl (fun ls hl => ?_)
          refine lv_goto (tgt := 4) hx hb d_L_subscriptionCount_29 (by decide) ?_
          exact ih (a + 1) (f + 1) t1 H _ ls (by omega) (by omega) ho (lp_next hlt hF (by rw [ho] at c2; simp [c2])) hP hD hS (lv_sub hl [2, 1, 0] rfl)
  exact hloop (12 + 1) 0 0 t s.heap _ ls (by omega) (by omega) rfl rfl hP hD hS (lv_sub hl [2, 1, 0] rfl)
set_option maxHeartbeats 4000000 in
set_option maxRecDepth 100000 in
theorem c_L_liveCount (l : Launch) (D : va_G) (ad : Nat → Nat) (ka : Nat → ClassId) (sz : Nat) (t : Mem) (u : Nat) (hu : u < 3) : Met l y_L_liveCount (Cond.code y_L_liveCount b_L_liveCount 3 (some .int) :: big) ({ frames := 0, cells := 0, slots := 0, locals := 0 }) (va_Pc [.ref (ad (8 + u))] (PX D ad ka sz t)) (va_Qi (fun (r : Int32) (t' : Mem) => r = L_lives t u ∧ t' = t) (BX D ad ka sz) (AX ad sz)) 0 0 (AX ad sz) := by
  refine Met.ofW (cc := b_L_liveCount) (maxL := 3) (ret := (some .int)) (by decide) rfl ?_
  intro p e s m args below meth c s₁ B hml hv
  obtain ⟨rfl, hsz, hP, hK, hD0⟩ := hv
  have hx := B.exec
  have hb := B.bytes
  have hr := B.returns
  have hlocks := B.notSynchronized
  have hts := atoms_spec (ws := Cond.code y_L_liveCount b_L_liveCount 3 (some .int) :: big) B.pre
  have hown : s.vm.findClass "ListForge$MailingList" = some m.cls := findClass_of_methodNamed B.named
  subst hsz
  have hD : va_D (AX ad s.heap.size) (cw ad ka t) := AX_D hD0
  have hS : va_S (AX ad s.heap.size) s.heap s.heap [] := va_S.rf
  have hl := lv_entry ([.ref (ad (8 + u))]) (n := 3) (Nat.le_of_ble_eq_true rfl)
  rw [lg_entry_eq]
  generalize (lg_sl ([.ref (ad (8 + u))]) ++ List.replicate (3 - (lg_sl ([.ref (ad (8 + u))])).length) Slot.unset).toArray = ls at hl ⊢
  have hl : lv_has ls 3 [(0, .ref (ad (8 + u)))] := hl

  refine lv_iconst (v := 0) hx hb d_L_liveCount_0 (by decide) ?_
  refine lv_istore_n (lv' := [(1, .int (0)), (0, .ref (ad (8 + u)))]) hx hb d_L_liveCount_1 rfl hl (by decide) rfl (fun ls hl => ?_)
  refine lv_iconst (v := 0) hx hb d_L_liveCount_2 (by decide) ?_
  refine lv_istore_n (lv' := [(2, .int (0)), (1, .int (0)), (0, .ref (ad (8 + u)))]) hx hb d_L_liveCount_3 rfl hl (by decide) rfl (fun ls hl => ?_)
  have hloop : ∀ (n a : Nat) (f : Int32) (t1 : Mem) (H : Heap) (locs : List Loc) (ls : Array Slot), a ≤ 12 → 12 + 1 ≤ a + n → t1 = t → lp (fun a n => if gI t 0 (12 * u + a) = 1 then n + 1 else n) (12 - a) a f = lp (fun a n => if gI t 0 (12 * u + a) = 1 then n + 1 else n) 12 0 0 → va_P D cls (cw ad ka t1) H → va_D (AX ad s.heap.size) (cw ad ka t1) → va_S (AX ad s.heap.size) s.heap H locs → lv_has ls 3 [(0, .ref (ad (8 + u))), (1, .int (f)), (2, .int (nI a))] → W p l e ({ frames := 0, cells := 0, slots := 0, locals := 0 }) s m ([.ref (ad (8 + u))] : List Value).toArray below meth c H locs 0 0 (MQ below (va_Qi (fun (r : Int32) (t' : Mem) => r = L_lives t u ∧ t' = t) (BX D ad ka s.heap.size) (AX ad s.heap.size)) ([.ref (ad (8 + u))] : List Value).toArray s 0 0 (AX ad s.heap.size)) (F0 m 4 ls []) := by
    intro n
    induction n with
    | zero => intro a f t1 H locs ls h1 h2; exact absurd h2 (by omega)
    | succ n ih =>
      intro a f t1 H locs ls ha hn ho hF hP hD hS hl
      refine lv_iload_n hx hb d_L_liveCount_4 rfl (lv_at hl 2 rfl) ?_
      refine lv_bipush (v := 12) hx hb d_L_liveCount_5 (by decide) ?_
      refine lv_icmp_ge (tgt := 32) hx hb d_L_liveCount_7 (by decide) (fun c1 => ?_) (fun c1 => ?_)
      · have _u : True := trivial
        obtain rfl := nI_eq_of (x := 12) (N := 12) rfl (by decide) ha c1
        have hE := lp_end hF
        refine lv_iload_n hx hb d_L_liveCount_32 rfl (lv_at hl 1 rfl) ?_
        exact W.iret (v := f) hx hb hr (fun t9 ht hW => ⟨⟨f, t1, rfl, ⟨hE, ho⟩, BX_at ht hW hP hK hD⟩, hS.F ht⟩) hS.2.2 d_L_liveCount_33
      · have _u : True := trivial
        have hlt : a < 12 := nI_lt_of (x := 12) (N := 12) rfl ha c1
        refine lv_aload_n hx hb d_L_liveCount_10 rfl (lv_at hl 0 rfl) ?_
        refine g_L_subscriptions hx hb hts hown hK hP hu mw_76 d_L_liveCount_11 ?_
        refine lv_iload_n hx hb d_L_liveCount_14 rfl (lv_at hl 2 rfl) ?_
        refine a_subs hx hb hK hP hu (r := a) hlt rfl d_L_liveCount_15 ?_
        refine g_S_state hx hb hts hown hK hP (by omega) mw_39 d_L_liveCount_16 ?_
        refine lv_iconst (v := 1) hx hb d_L_liveCount_19 (by decide) ?_
        refine lv_icmp_ne (tgt := 26) hx hb d_L_liveCount_20 (by decide) (fun c2 => ?_) (fun c2 => ?_)
        · have _u : True := trivial
          refine lv_iinc (v := nI (a + 1)) (lv' := [(2, .int (nI (a + 1))), (0, .ref (ad (8 + u))), (1, .int (f))]) hx hb d_L_liveCount_26 hl (k := 2) rfl (nI_1 _) (by decide) rfl (fun ls hl => ?_)
          refine lv_goto (tgt := 4) hx hb d_L_liveCount_29 (by decide) ?_
          exact ih (a + 1) f t1 H _ ls (by omega) (by omega) ho (lp_next hlt hF (by rw [ho] at c2; simp [c2])) hP hD hS (lv_sub hl [1, 2, 0] rfl)
        · have _u : True := trivial
          refine lv_iinc (v := f + 1) (lv' := [(1, .int (f + 1)), (0, .ref (ad (8 + u))), (2, .int (nI a))]) hx hb d_L_liveCount_23 hl (k := 1) rfl (rfl) (by decide) rfl (fun ls hl => ?_)
          refine lv_iinc (v := nI (a + 1)) (lv' := [(2, .int (nI (a + 1))), (1, .int (f + 1)), (0, .ref (ad (8 + u)))]) hx hb d_L_liveCount_26 hl (k := 2) rfl (nI_1 _) (by decide) rfl (fun ls hl => ?_)
          refine lv_goto (tgt := 4) hx hb d_L_liveCount_29 (by decide) ?_
          exact ih (a + 1) (f + 1) t1 H _ ls (by omega) (by omega) ho (lp_next hlt hF (by rw [ho] at c2; simp [c2])) hP hD hS (lv_sub hl [2, 1, 0] rfl)
  exact hloop (12 + 1) 0 0 t s.heap _ ls (by omega) (by omega) rfl rfl hP hD hS (lv_sub hl [2, 1, 0] rfl)
set_option maxHeartbeats 4000000 in
set_option maxRecDepth 100000 in
theorem c_L_refusesSender (l : Launch) (D : va_G) (ad : Nat → Nat) (ka : Nat → ClassId) (sz : Nat) (t : Mem) (u : Nat) (hu : u < 3) (a : Nat) (hlt : a < 12) : Met l y_L_refusesSender (Cond.code y_L_refusesSender b_L_refusesSender 2 (some .boolean) :: big) ({ frames := 0, cells := 0, slots := 0, locals := 0 }) (va_Pc [.ref (ad (8 + u)), .int (nI a)] (PX D ad ka sz t)) (va_Qi (fun (r : Int32) (t' : Mem) => r = L_refuses t u a ∧ t' = t) (BX D ad ka sz) (AX ad sz)) 0 0 (AX ad sz) := by
  refine Met.ofW (cc := b_L_refusesSender) (maxL := 2) (ret := (some .boolean)) (by decide) rfl ?_
  intro p e s m args below meth c s₁ B hml hv
  obtain ⟨rfl, hsz, hP, hK, hD0⟩ := hv
  have hx := B.exec
  have hb := B.bytes
  have hr := B.returns
  have hlocks := B.notSynchronized
  have hts := atoms_spec (ws := Cond.code y_L_refusesSender b_L_refusesSender 2 (some .boolean) :: big) B.pre
  have hown : s.vm.findClass "ListForge$MailingList" = some m.cls := findClass_of_methodNamed B.named
  subst hsz
  have hD : va_D (AX ad s.heap.size) (cw ad ka t) := AX_D hD0
  have hS : va_S (AX ad s.heap.size) s.heap s.heap [] := va_S.rf
  have hl := lv_entry ([.ref (ad (8 + u)), .int (nI a)]) (n := 2) (Nat.le_of_ble_eq_true rfl)
  rw [lg_entry_eq]
  generalize (lg_sl ([.ref (ad (8 + u)), .int (nI a)]) ++ List.replicate (2 - (lg_sl ([.ref (ad (8 + u)), .int (nI a)])).length) Slot.unset).toArray = ls at hl ⊢
  have hl : lv_has ls 2 [(0, .ref (ad (8 + u))), (1, .int (nI a))] := hl

  refine lv_aload_n hx hb d_L_refusesSender_0 rfl (lv_at hl 0 rfl) ?_
  refine g_L_banned hx hb hts hown hK hP hu mw_78 d_L_refusesSender_1 ?_
  refine lv_iload_n hx hb d_L_refusesSender_4 rfl (lv_at hl 1 rfl) ?_
  refine g_ban (u := u) hx hb hK hP hu (r := a) hlt rfl d_L_refusesSender_5 ?_
  refine lv_if_ne (tgt := 29) hx hb d_L_refusesSender_6 (by decide) (fun c1 => ?_) (fun c1 => ?_)
  · have _u : True := trivial
    refine lv_iconst (v := 1) hx hb d_L_refusesSender_29 (by decide) ?_
    refine lv_goto (tgt := 34) hx hb d_L_refusesSender_30 (by decide) ?_
    exact W.zret (v := 1) hx hb hr rfl (fun t9 ht hW => ⟨⟨1, t, rfl, ⟨by simp [L_refuses, c1], rfl⟩, BX_at ht hW hP hK hD⟩, hS.F ht⟩) hS.2.2 d_L_refusesSender_34
  · have _u : True := trivial
    refine lv_aload_n hx hb d_L_refusesSender_9 rfl (lv_at hl 0 rfl) ?_
    refine g_L_subscriptions hx hb hts hown hK hP hu mw_76 d_L_refusesSender_10 ?_
    refine lv_iload_n hx hb d_L_refusesSender_13 rfl (lv_at hl 1 rfl) ?_
    refine a_subs hx hb hK hP hu (r := a) hlt rfl d_L_refusesSender_14 ?_
    refine g_S_state hx hb hts hown hK hP (by omega) mw_39 d_L_refusesSender_15 ?_
    refine lv_iconst (v := 1) hx hb d_L_refusesSender_18 (by decide) ?_
    refine lv_icmp_eq (tgt := 33) hx hb d_L_refusesSender_19 (by decide) (fun c2 => ?_) (fun c2 => ?_)
    · have _u : True := trivial
      refine lv_iconst (v := 0) hx hb d_L_refusesSender_33 (by decide) ?_
      exact W.zret (v := 0) hx hb hr rfl (fun t9 ht hW => ⟨⟨0, t, rfl, ⟨by simp [L_refuses, c1, c2], rfl⟩, BX_at ht hW hP hK hD⟩, hS.F ht⟩) hS.2.2 d_L_refusesSender_34
    · have _u : True := trivial
      refine lv_aload_n hx hb d_L_refusesSender_22 rfl (lv_at hl 0 rfl) ?_
      refine g_L_open hx hb hts hown hK hP hu mw_81 d_L_refusesSender_23 ?_
      refine lv_if_ne (tgt := 33) hx hb d_L_refusesSender_26 (by decide) (fun c3 => ?_) (fun c3 => ?_)
      · have _u : True := trivial
        refine lv_iconst (v := 0) hx hb d_L_refusesSender_33 (by decide) ?_
        exact W.zret (v := 0) hx hb hr rfl (fun t9 ht hW => ⟨⟨0, t, rfl, ⟨by simp [L_refuses, c1, c2, c3], rfl⟩, BX_at ht hW hP hK hD⟩, hS.F ht⟩) hS.2.2 d_L_refusesSender_34
      · have _u : True := trivial
        refine lv_iconst (v := 1) hx hb d_L_refusesSender_29 (by decide) ?_
        refine lv_goto (tgt := 34) hx hb d_L_refusesSender_30 (by decide) ?_
        exact W.zret (v := 1) hx hb hr rfl (fun t9 ht hW => ⟨⟨1, t, rfl, ⟨by simp [L_refuses, c1, c2, c3], rfl⟩, BX_at ht hW hP hK hD⟩, hS.F ht⟩) hS.2.2 d_L_refusesSender_34
set_option maxHeartbeats 4000000 in
set_option maxRecDepth 100000 in
theorem c_L_holdsBack (l : Launch) (D : va_G) (ad : Nat → Nat) (ka : Nat → ClassId) (sz : Nat) (t : Mem) (u : Nat) (hu : u < 3) (a : Nat) (hlt : a < 12) (z : Int32) (q : Nat) (hq : q < 10) : Met l y_L_holdsBack (Cond.code y_L_holdsBack b_L_holdsBack 4 (some .boolean) :: big) ({ frames := 0, cells := 0, slots := 0, locals := 0 }) (va_Pc [.ref (ad (8 + u)), .int (nI a), .int (z), .int (nI q)] (PX D ad ka sz t)) (va_Qi (fun (r : Int32) (t' : Mem) => r = L_holds t u a z q ∧ t' = t) (BX D ad ka sz) (AX ad sz)) 0 0 (AX ad sz) := by
  refine Met.ofW (cc := b_L_holdsBack) (maxL := 4) (ret := (some .boolean)) (by decide) rfl ?_
  intro p e s m args below meth c s₁ B hml hv
  obtain ⟨rfl, hsz, hP, hK, hD0⟩ := hv
  have hx := B.exec
  have hb := B.bytes
  have hr := B.returns
  have hlocks := B.notSynchronized
  have hts := atoms_spec (ws := Cond.code y_L_holdsBack b_L_holdsBack 4 (some .boolean) :: big) B.pre
  have hown : s.vm.findClass "ListForge$MailingList" = some m.cls := findClass_of_methodNamed B.named
  subst hsz
  have hD : va_D (AX ad s.heap.size) (cw ad ka t) := AX_D hD0
  have hS : va_S (AX ad s.heap.size) s.heap s.heap [] := va_S.rf
  have hl := lv_entry ([.ref (ad (8 + u)), .int (nI a), .int (z), .int (nI q)]) (n := 4) (Nat.le_of_ble_eq_true rfl)
  rw [lg_entry_eq]
  generalize (lg_sl ([.ref (ad (8 + u)), .int (nI a), .int (z), .int (nI q)]) ++ List.replicate (4 - (lg_sl ([.ref (ad (8 + u)), .int (nI a), .int (z), .int (nI q)])).length) Slot.unset).toArray = ls at hl ⊢
  have hl : lv_has ls 4 [(0, .ref (ad (8 + u))), (1, .int (nI a)), (2, .int (z)), (3, .int (nI q))] := hl

  refine lv_aload_n hx hb d_L_holdsBack_0 rfl (lv_at hl 0 rfl) ?_
  refine g_L_subscriptions hx hb hts hown hK hP hu mw_76 d_L_holdsBack_1 ?_
  refine lv_iload_n hx hb d_L_holdsBack_4 rfl (lv_at hl 1 rfl) ?_
  refine a_subs hx hb hK hP hu (r := a) hlt rfl d_L_holdsBack_5 ?_
  refine g_S_moderates hx hb hts hown hK hP (by omega) mw_54 d_L_holdsBack_6 ?_
  refine lv_if_eq (tgt := 14) hx hb d_L_holdsBack_9 (by decide) (fun c1 => ?_) (fun c1 => ?_)
  · have _u : True := trivial
    refine lv_iload_n hx hb d_L_holdsBack_14 rfl (lv_at hl 2 rfl) ?_
    refine lv_aload_n hx hb d_L_holdsBack_15 rfl (lv_at hl 0 rfl) ?_
    refine g_L_greatest hx hb hts hown hK hP hu mw_83 d_L_holdsBack_16 ?_
    refine lv_icmp_gt (tgt := 38) hx hb d_L_holdsBack_19 (by decide) (fun c2 => ?_) (fun c2 => ?_)
    · have _u : True := trivial
      refine lv_iconst (v := 1) hx hb d_L_holdsBack_38 (by decide) ?_
      refine lv_goto (tgt := 43) hx hb d_L_holdsBack_39 (by decide) ?_
      exact W.zret (v := 1) hx hb hr rfl (fun t9 ht hW => ⟨⟨1, t, rfl, ⟨by simp [L_holds, c1, c2], rfl⟩, BX_at ht hW hP hK hD⟩, hS.F ht⟩) hS.2.2 d_L_holdsBack_43
    · have _u : True := trivial
      refine lv_aload_n hx hb d_L_holdsBack_22 rfl (lv_at hl 0 rfl) ?_
      refine g_L_barred hx hb hts hown hK hP hu mw_80 d_L_holdsBack_23 ?_
      refine lv_iload_n hx hb d_L_holdsBack_26 rfl (lv_at hl 3 rfl) ?_
      refine g_bar (u := u) hx hb hK hP hu (r := q) hq rfl d_L_holdsBack_27 ?_
      refine lv_if_ne (tgt := 38) hx hb d_L_holdsBack_28 (by decide) (fun c3 => ?_) (fun c3 => ?_)
      · have _u : True := trivial
        refine lv_iconst (v := 1) hx hb d_L_holdsBack_38 (by decide) ?_
        refine lv_goto (tgt := 43) hx hb d_L_holdsBack_39 (by decide) ?_
        exact W.zret (v := 1) hx hb hr rfl (fun t9 ht hW => ⟨⟨1, t, rfl, ⟨by simp [L_holds, c1, c2, c3], rfl⟩, BX_at ht hW hP hK hD⟩, hS.F ht⟩) hS.2.2 d_L_holdsBack_43
      · have _u : True := trivial
        refine lv_aload_n hx hb d_L_holdsBack_31 rfl (lv_at hl 0 rfl) ?_
        refine g_L_watched hx hb hts hown hK hP hu mw_82 d_L_holdsBack_32 ?_
        refine lv_if_eq (tgt := 42) hx hb d_L_holdsBack_35 (by decide) (fun c4 => ?_) (fun c4 => ?_)
        · have _u : True := trivial
          refine lv_iconst (v := 0) hx hb d_L_holdsBack_42 (by decide) ?_
          exact W.zret (v := 0) hx hb hr rfl (fun t9 ht hW => ⟨⟨0, t, rfl, ⟨by simp [L_holds, c1, c2, c3, c4], rfl⟩, BX_at ht hW hP hK hD⟩, hS.F ht⟩) hS.2.2 d_L_holdsBack_43
        · have _u : True := trivial
          refine lv_iconst (v := 1) hx hb d_L_holdsBack_38 (by decide) ?_
          refine lv_goto (tgt := 43) hx hb d_L_holdsBack_39 (by decide) ?_
          exact W.zret (v := 1) hx hb hr rfl (fun t9 ht hW => ⟨⟨1, t, rfl, ⟨by simp [L_holds, c1, c2, c3, c4], rfl⟩, BX_at ht hW hP hK hD⟩, hS.F ht⟩) hS.2.2 d_L_holdsBack_43
  · have _u : True := trivial
    refine lv_iconst (v := 0) hx hb d_L_holdsBack_12 (by decide) ?_
    exact W.zret (v := 0) hx hb hr rfl (fun t9 ht hW => ⟨⟨0, t, rfl, ⟨by simp [L_holds, c1], rfl⟩, BX_at ht hW hP hK hD⟩, hS.F ht⟩) hS.2.2 d_L_holdsBack_13
set_option maxHeartbeats 4000000 in
set_option maxRecDepth 100000 in
theorem c_L_tellModerators (l : Launch) (D : va_G) (ad : Nat → Nat) (ka : Nat → ClassId) (sz : Nat) (t : Mem) (u : Nat) (hu : u < 3) (ho : OKX t) (p0 : Int32) : Met l y_L_tellModerators (Cond.code y_L_tellModerators b_L_tellModerators 4 none :: big) ({ frames := 1, cells := 0, slots := 0, locals := 24 }) (va_Pc [.ref (ad (8 + u)), .int (p0), .ref (ad (3))] (PX D ad ka sz t)) (va_Qv (fun t' : Mem => t' = L_tell t u p0) (BX D ad ka sz) (AX ad sz)) 0 0 (AX ad sz) := by
  refine Met.ofW (cc := b_L_tellModerators) (maxL := 4) (ret := none) (by decide) rfl ?_
  intro p e s m args below meth c s₁ B hml hv
  obtain ⟨rfl, hsz, hP, hK, hD0⟩ := hv
  have hx := B.exec
  have hb := B.bytes
  have hr := B.returns
  have hlocks := B.notSynchronized
  have hts := atoms_spec (ws := Cond.code y_L_tellModerators b_L_tellModerators 4 none :: big) B.pre
  have hown : s.vm.findClass "ListForge$MailingList" = some m.cls := findClass_of_methodNamed B.named
  subst hsz
  have hD : va_D (AX ad s.heap.size) (cw ad ka t) := AX_D hD0
  have hS : va_S (AX ad s.heap.size) s.heap s.heap [] := va_S.rf
  have hl := lv_entry ([.ref (ad (8 + u)), .int (p0), .ref (ad (3))]) (n := 4) (Nat.le_of_ble_eq_true rfl)
  rw [lg_entry_eq]
  generalize (lg_sl ([.ref (ad (8 + u)), .int (p0), .ref (ad (3))]) ++ List.replicate (4 - (lg_sl ([.ref (ad (8 + u)), .int (p0), .ref (ad (3))])).length) Slot.unset).toArray = ls at hl ⊢
  have hl : lv_has ls 4 [(0, .ref (ad (8 + u))), (1, .int (p0)), (2, .ref (ad (3)))] := hl

  refine lv_iconst (v := 0) hx hb d_L_tellModerators_0 (by decide) ?_
  refine lv_istore_n (lv' := [(3, .int (0)), (0, .ref (ad (8 + u))), (1, .int (p0)), (2, .ref (ad (3)))]) hx hb d_L_tellModerators_1 rfl hl (by decide) rfl (fun ls hl => ?_)
  have hloop : ∀ (n a : Nat) (t1 : Mem) (H : Heap) (locs : List Loc) (ls : Array Slot), a ≤ 12 → 12 + 1 ≤ a + n → OKX t1 → lp (tellF u p0) (12 - a) a t1 = lp (tellF u p0) 12 0 t → va_P D cls (cw ad ka t1) H → va_D (AX ad s.heap.size) (cw ad ka t1) → va_S (AX ad s.heap.size) s.heap H locs → lv_has ls 4 [(0, .ref (ad (8 + u))), (1, .int (p0)), (2, .ref (ad (3))), (3, .int (nI a))] → W p l e ({ frames := 1, cells := 0, slots := 0, locals := 24 }) s m ([.ref (ad (8 + u)), .int (p0), .ref (ad (3))] : List Value).toArray below meth c H locs 0 0 (MQ below (va_Qv (fun t' : Mem => t' = L_tell t u p0) (BX D ad ka s.heap.size) (AX ad s.heap.size)) ([.ref (ad (8 + u)), .int (p0), .ref (ad (3))] : List Value).toArray s 0 0 (AX ad s.heap.size)) (F0 m 2 ls []) := by
    intro n
    induction n with
    | zero => intro a t1 H locs ls h1 h2; exact absurd h2 (by omega)
    | succ n ih =>
      intro a t1 H locs ls ha hn ho hF hP hD hS hl
      refine lv_iload_n hx hb d_L_tellModerators_2 rfl (lv_at hl 3 rfl) ?_
      refine lv_bipush (v := 12) hx hb d_L_tellModerators_3 (by decide) ?_
      refine lv_icmp_ge (tgt := 37) hx hb d_L_tellModerators_5 (by decide) (fun c1 => ?_) (fun c1 => ?_)
      · have _u : True := trivial
        obtain rfl := nI_eq_of (x := 12) (N := 12) rfl (by decide) ha c1
        have hE := lp_end hF
        exact W.vret hx hb hr (fun t9 ht hW => ⟨⟨t1, rfl, hE, BX_at ht hW hP hK hD⟩, hS.F ht⟩) hS.2.2 d_L_tellModerators_37
      · have _u : True := trivial
        have hlt : a < 12 := nI_lt_of (x := 12) (N := 12) rfl ha c1
        refine lv_aload_n hx hb d_L_tellModerators_8 rfl (lv_at hl 0 rfl) ?_
        refine g_L_subscriptions hx hb hts hown hK hP hu mw_76 d_L_tellModerators_9 ?_
        refine lv_iload_n hx hb d_L_tellModerators_12 rfl (lv_at hl 3 rfl) ?_
        refine a_subs hx hb hK hP hu (r := a) hlt rfl d_L_tellModerators_13 ?_
        refine g_S_moderates hx hb hts hown hK hP (by omega) mw_54 d_L_tellModerators_14 ?_
        refine lv_if_eq (tgt := 31) hx hb d_L_tellModerators_17 (by decide) (fun c2 => ?_) (fun c2 => ?_)
        · have _u : True := trivial
          refine lv_iinc (v := nI (a + 1)) (lv' := [(3, .int (nI (a + 1))), (0, .ref (ad (8 + u))), (1, .int (p0)), (2, .ref (ad (3)))]) hx hb d_L_tellModerators_31 hl (k := 3) rfl (nI_1 _) (by decide) rfl (fun ls hl => ?_)
          refine lv_goto (tgt := 2) hx hb d_L_tellModerators_34 (by decide) ?_
          exact ih (a + 1) t1 H _ ls (by omega) (by omega) ho (lp_next hlt hF (by simp [tellF, c1, c2])) hP hD hS (lv_sub hl [1, 2, 3, 0] rfl)
        · have _u : True := trivial
          refine lv_aload_n hx hb d_L_tellModerators_20 rfl (lv_at hl 2 rfl) ?_
          refine lv_iload_n hx hb d_L_tellModerators_21 rfl (lv_at hl 3 rfl) ?_
          refine lv_aload_n hx hb d_L_tellModerators_22 rfl (lv_at hl 0 rfl) ?_
          refine g_L_number hx hb hts hown hK hP hu mw_75 d_L_tellModerators_23 ?_
          refine lv_iconst (v := 3) hx hb d_L_tellModerators_26 (by decide) ?_
          refine lv_iload_n hx hb d_L_tellModerators_27 rfl (lv_at hl 1 rfl) ?_
          have hA1 := hS.1
          refine va_callv (va_runV (As := [.int (nI a), .int (nI u), .int (3), .int (p0)]) (rest := []) ⟨hx, hb, hml, hown, hts⟩ (c_O_add l D ad ka H.size t1 ho (nI a) (nI u) 3 p0) (cwV 4 hts (gv mw_447 mw_320 mw_321 mw_5 mw_322) rfl rfl rfl (by decide +kernel) ⟨Nat.le_of_ble_eq_true rfl, Nat.le_of_ble_eq_true rfl⟩) ⟨PX_blind, va_recv hK hP (ci := 1) (q0 := 3) rfl (at_O), fun U hU hW => ⟨rfl, PX_at hU hW hP hK hD⟩⟩ rfl rfl hl.1 rfl (lv_room (Nat.le_of_ble_eq_true rfl)) d_L_tellModerators_28 ⟨Nat.le_of_ble_eq_true rfl, Nat.le_of_ble_eq_true rfl⟩) hS (fun q _ h => AX_up hA1 q h) (AX_up hA1) (fun t5 tq H1 locs ht hvm hw4 hB hz1 hk1 hS => ?_)
          obtain ⟨hP, hD⟩ := BX_back ht hB (AX_up hA1)
          generalize H1 = H at hP hS ⊢
          rw [hw4] at hP hD
          refine lv_iinc (v := nI (a + 1)) (lv' := [(3, .int (nI (a + 1))), (0, .ref (ad (8 + u))), (1, .int (p0)), (2, .ref (ad (3)))]) hx hb d_L_tellModerators_31 hl (k := 3) rfl (nI_1 _) (by decide) rfl (fun ls hl => ?_)
          refine lv_goto (tgt := 2) hx hb d_L_tellModerators_34 (by decide) ?_
          exact ih (a + 1) (O_add t1 (nI a) (nI u) 3 p0) H _ ls (by omega) (by omega) (OKX_add ho) (lp_next hlt hF (by simp [tellF, c1, c2])) hP hD hS (lv_sub hl [1, 2, 3, 0] rfl)
  exact hloop (12 + 1) 0 t s.heap _ ls (by omega) (by omega) ho rfl hP hD hS (lv_sub hl [1, 2, 3, 0] rfl)
set_option maxHeartbeats 4000000 in
set_option maxRecDepth 100000 in
theorem c_L_sendBundle (l : Launch) (D : va_G) (ad : Nat → Nat) (ka : Nat → ClassId) (sz : Nat) (t : Mem) (u : Nat) (hu : u < 3) (ho : OKX t) : Met l y_L_sendBundle (Cond.code y_L_sendBundle b_L_sendBundle 3 none :: big) ({ frames := 1, cells := 0, slots := 0, locals := 24 }) (va_Pc [.ref (ad (8 + u)), .ref (ad (3))] (PX D ad ka sz t)) (va_Qv (fun t' : Mem => t' = L_send t u) (BX D ad ka sz) (AX ad sz)) 0 0 (AX ad sz) := by
  refine Met.ofW (cc := b_L_sendBundle) (maxL := 3) (ret := none) (by decide) rfl ?_
  intro p e s m args below meth c s₁ B hml hv
  obtain ⟨rfl, hsz, hP, hK, hD0⟩ := hv
  have hx := B.exec
  have hb := B.bytes
  have hr := B.returns
  have hlocks := B.notSynchronized
  have hts := atoms_spec (ws := Cond.code y_L_sendBundle b_L_sendBundle 3 none :: big) B.pre
  have hown : s.vm.findClass "ListForge$MailingList" = some m.cls := findClass_of_methodNamed B.named
  subst hsz
  have hD : va_D (AX ad s.heap.size) (cw ad ka t) := AX_D hD0
  have hS : va_S (AX ad s.heap.size) s.heap s.heap [] := va_S.rf
  have hl := lv_entry ([.ref (ad (8 + u)), .ref (ad (3))]) (n := 3) (Nat.le_of_ble_eq_true rfl)
  rw [lg_entry_eq]
  generalize (lg_sl ([.ref (ad (8 + u)), .ref (ad (3))]) ++ List.replicate (3 - (lg_sl ([.ref (ad (8 + u)), .ref (ad (3))])).length) Slot.unset).toArray = ls at hl ⊢
  have hl : lv_has ls 3 [(0, .ref (ad (8 + u))), (1, .ref (ad (3)))] := hl

  refine lv_iconst (v := 0) hx hb d_L_sendBundle_0 (by decide) ?_
  refine lv_istore_n (lv' := [(2, .int (0)), (0, .ref (ad (8 + u))), (1, .ref (ad (3)))]) hx hb d_L_sendBundle_1 rfl hl (by decide) rfl (fun ls hl => ?_)
  have hloop : ∀ (n a : Nat) (t1 : Mem) (H : Heap) (locs : List Loc) (ls : Array Slot), a ≤ 12 → 12 + 1 ≤ a + n → OKX t1 → lp (sendF u) (12 - a) a t1 = lp (sendF u) 12 0 t → va_P D cls (cw ad ka t1) H → va_D (AX ad s.heap.size) (cw ad ka t1) → va_S (AX ad s.heap.size) s.heap H locs → lv_has ls 3 [(0, .ref (ad (8 + u))), (1, .ref (ad (3))), (2, .int (nI a))] → W p l e ({ frames := 1, cells := 0, slots := 0, locals := 24 }) s m ([.ref (ad (8 + u)), .ref (ad (3))] : List Value).toArray below meth c H locs 0 0 (MQ below (va_Qv (fun t' : Mem => t' = L_send t u) (BX D ad ka s.heap.size) (AX ad s.heap.size)) ([.ref (ad (8 + u)), .ref (ad (3))] : List Value).toArray s 0 0 (AX ad s.heap.size)) (F0 m 2 ls []) := by
    intro n
    induction n with
    | zero => intro a t1 H locs ls h1 h2; exact absurd h2 (by omega)
    | succ n ih =>
      intro a t1 H locs ls ha hn ho hF hP hD hS hl
      refine lv_iload_n hx hb d_L_sendBundle_2 rfl (lv_at hl 2 rfl) ?_
      refine lv_bipush (v := 12) hx hb d_L_sendBundle_3 (by decide) ?_
      refine lv_icmp_ge (tgt := 41) hx hb d_L_sendBundle_5 (by decide) (fun c1 => ?_) (fun c1 => ?_)
      · have _u : True := trivial
        obtain rfl := nI_eq_of (x := 12) (N := 12) rfl (by decide) ha c1
        have hE := lp_end hF
        refine lv_aload_n hx hb d_L_sendBundle_41 rfl (lv_at hl 0 rfl) ?_
        refine lv_iconst (v := 0) hx hb d_L_sendBundle_42 (by decide) ?_
        refine p_L_bundlePosts hx hb hts hown hK hP hD hS hu mw_87 d_L_sendBundle_43 (fun H locs hP hD hS => ?_)
        refine lv_aload_n hx hb d_L_sendBundle_46 rfl (lv_at hl 0 rfl) ?_
        refine lv_iconst (v := 0) hx hb d_L_sendBundle_47 (by decide) ?_
        refine p_L_bundleSizes hx hb hts hown hK hP hD hS hu mw_89 d_L_sendBundle_48 (fun H locs hP hD hS => ?_)
        exact W.vret hx hb hr (fun t9 ht hW => ⟨⟨(pI (pI t1 14 u 0) 15 u 0), rfl, (by rw [L_send, ← hE]), BX_at ht hW hP hK hD⟩, hS.F ht⟩) hS.2.2 d_L_sendBundle_51
      · have _u : True := trivial
        have hlt : a < 12 := nI_lt_of (x := 12) (N := 12) rfl ha c1
        refine lv_aload_n hx hb d_L_sendBundle_8 rfl (lv_at hl 0 rfl) ?_
        refine g_L_subscriptions hx hb hts hown hK hP hu mw_76 d_L_sendBundle_9 ?_
        refine lv_iload_n hx hb d_L_sendBundle_12 rfl (lv_at hl 2 rfl) ?_
        refine a_subs hx hb hK hP hu (r := a) hlt rfl d_L_sendBundle_13 ?_
        refine lv_iconst (v := 1) hx hb d_L_sendBundle_14 (by decide) ?_
        have hA1 := hS.1
        refine va_calli (va_runV (As := [.int (1)]) (rest := []) ⟨hx, hb, hml, hown, hts⟩ (c_S_takes l D ad ka H.size t1 (12 * u + a) (by omega) 1) (cwV 1 hts (gv mw_456 mw_457 mw_458 mw_3 mw_459) rfl rfl rfl (by decide +kernel) ⟨Nat.le_of_ble_eq_true rfl, Nat.le_of_ble_eq_true rfl⟩) ⟨PX_blind, va_recv hK hP (ci := 3) (q0 := 60 + (12 * u + a)) rfl (at_S (by omega)), fun U hU hW => ⟨rfl, PX_at hU hW hP hK hD⟩⟩ rfl rfl hl.1 rfl (lv_room (Nat.le_of_ble_eq_true rfl)) d_L_sendBundle_15 ⟨Nat.le_of_ble_eq_true rfl, Nat.le_of_ble_eq_true rfl⟩) hS (fun q _ h => AX_up hA1 q h) (AX_up hA1) (fun r2 t4 tq H1 locs ht hvm hw3 hB hz1 hk1 hS => ?_)
        obtain ⟨hP, hD⟩ := BX_back ht hB (AX_up hA1)
        generalize H1 = H at hP hS ⊢
        obtain ⟨hwr, hwt⟩ := hw3
        rw [hwt] at hP hD
        rw [hwr]
        refine lv_if_eq (tgt := 35) hx hb d_L_sendBundle_18 (by decide) (fun c5 => ?_) (fun c5 => ?_)
        · have _u : True := trivial
          refine lv_iinc (v := nI (a + 1)) (lv' := [(2, .int (nI (a + 1))), (0, .ref (ad (8 + u))), (1, .ref (ad (3)))]) hx hb d_L_sendBundle_35 hl (k := 2) rfl (nI_1 _) (by decide) rfl (fun ls hl => ?_)
          refine lv_goto (tgt := 2) hx hb d_L_sendBundle_38 (by decide) ?_
          exact ih (a + 1) t1 H _ ls (by omega) (by omega) ho (lp_next hlt hF (by simp [sendF, c1, c5])) hP hD hS (lv_sub hl [1, 2, 0] rfl)
        · have _u : True := trivial
          refine lv_aload_n hx hb d_L_sendBundle_21 rfl (lv_at hl 1 rfl) ?_
          refine lv_iload_n hx hb d_L_sendBundle_22 rfl (lv_at hl 2 rfl) ?_
          refine lv_aload_n hx hb d_L_sendBundle_23 rfl (lv_at hl 0 rfl) ?_
          refine g_L_number hx hb hts hown hK hP hu mw_75 d_L_sendBundle_24 ?_
          refine lv_iconst (v := 1) hx hb d_L_sendBundle_27 (by decide) ?_
          refine lv_aload_n hx hb d_L_sendBundle_28 rfl (lv_at hl 0 rfl) ?_
          refine g_L_bundlePosts hx hb hts hown hK hP hu mw_87 d_L_sendBundle_29 ?_
          have hA1 := hS.1
          refine va_callv (va_runV (As := [.int (nI a), .int (nI u), .int (1), .int (gI t1 14 u)]) (rest := []) ⟨hx, hb, hml, hown, hts⟩ (c_O_add l D ad ka H.size t1 ho (nI a) (nI u) 1 (gI t1 14 u)) (cwV 4 hts (gv mw_447 mw_320 mw_321 mw_5 mw_322) rfl rfl rfl (by decide +kernel) ⟨Nat.le_of_ble_eq_true rfl, Nat.le_of_ble_eq_true rfl⟩) ⟨PX_blind, va_recv hK hP (ci := 1) (q0 := 3) rfl (at_O), fun U hU hW => ⟨rfl, PX_at hU hW hP hK hD⟩⟩ rfl rfl hl.1 rfl (lv_room (Nat.le_of_ble_eq_true rfl)) d_L_sendBundle_32 ⟨Nat.le_of_ble_eq_true rfl, Nat.le_of_ble_eq_true rfl⟩) hS (fun q _ h => AX_up hA1 q h) (AX_up hA1) (fun t8 tq H1 locs ht hvm hw7 hB hz1 hk1 hS => ?_)
          obtain ⟨hP, hD⟩ := BX_back ht hB (AX_up hA1)
          generalize H1 = H at hP hS ⊢
          rw [hw7] at hP hD
          refine lv_iinc (v := nI (a + 1)) (lv' := [(2, .int (nI (a + 1))), (0, .ref (ad (8 + u))), (1, .ref (ad (3)))]) hx hb d_L_sendBundle_35 hl (k := 2) rfl (nI_1 _) (by decide) rfl (fun ls hl => ?_)
          refine lv_goto (tgt := 2) hx hb d_L_sendBundle_38 (by decide) ?_
          exact ih (a + 1) (O_add t1 (nI a) (nI u) 1 (gI t1 14 u)) H _ ls (by omega) (by omega) (OKX_add ho) (lp_next hlt hF (by simp [sendF, c1, c5])) hP hD hS (lv_sub hl [1, 2, 0] rfl)
  exact hloop (12 + 1) 0 t s.heap _ ls (by omega) (by omega) ho rfl hP hD hS (lv_sub hl [1, 2, 0] rfl)
set_option maxHeartbeats 4000000 in
set_option maxRecDepth 100000 in
theorem c_L_addToBundle (l : Launch) (D : va_G) (ad : Nat → Nat) (ka : Nat → ClassId) (sz : Nat) (t : Mem) (u : Nat) (hu : u < 3) (z d : Int32) : Met l y_L_addToBundle (Cond.code y_L_addToBundle b_L_addToBundle 3 none :: big) ({ frames := 0, cells := 0, slots := 0, locals := 0 }) (va_Pc [.ref (ad (8 + u)), .int (z), .int (d)] (PX D ad ka sz t)) (va_Qv (fun t' : Mem => t' = L_addB t u z d) (BX D ad ka sz) (AX ad sz)) 0 0 (AX ad sz) := by
  refine Met.ofW (cc := b_L_addToBundle) (maxL := 3) (ret := none) (by decide) rfl ?_
  intro p e s m args below meth c s₁ B hml hv
  obtain ⟨rfl, hsz, hP, hK, hD0⟩ := hv
  have hx := B.exec
  have hb := B.bytes
  have hr := B.returns
  have hlocks := B.notSynchronized
  have hts := atoms_spec (ws := Cond.code y_L_addToBundle b_L_addToBundle 3 none :: big) B.pre
  have hown : s.vm.findClass "ListForge$MailingList" = some m.cls := findClass_of_methodNamed B.named
  subst hsz
  have hD : va_D (AX ad s.heap.size) (cw ad ka t) := AX_D hD0
  have hS : va_S (AX ad s.heap.size) s.heap s.heap [] := va_S.rf
  have hl := lv_entry ([.ref (ad (8 + u)), .int (z), .int (d)]) (n := 3) (Nat.le_of_ble_eq_true rfl)
  rw [lg_entry_eq]
  generalize (lg_sl ([.ref (ad (8 + u)), .int (z), .int (d)]) ++ List.replicate (3 - (lg_sl ([.ref (ad (8 + u)), .int (z), .int (d)])).length) Slot.unset).toArray = ls at hl ⊢
  have hl : lv_has ls 3 [(0, .ref (ad (8 + u))), (1, .int (z)), (2, .int (d))] := hl

  refine lv_aload_n hx hb d_L_addToBundle_0 rfl (lv_at hl 0 rfl) ?_
  refine g_L_bundlePosts hx hb hts hown hK hP hu mw_87 d_L_addToBundle_1 ?_
  refine lv_if_ne (tgt := 12) hx hb d_L_addToBundle_4 (by decide) (fun c1 => ?_) (fun c1 => ?_)
  · have _u : True := trivial
    refine lv_aload_n hx hb d_L_addToBundle_12 rfl (lv_at hl 0 rfl) ?_
    refine lv_dup hx hb d_L_addToBundle_13 rfl ?_
    refine g_L_bundlePosts hx hb hts hown hK hP hu mw_87 d_L_addToBundle_14 ?_
    refine lv_iconst (v := 1) hx hb d_L_addToBundle_17 (by decide) ?_
    refine lv_iadd hx hb d_L_addToBundle_18 ?_
    refine p_L_bundlePosts hx hb hts hown hK hP hD hS hu mw_87 d_L_addToBundle_19 (fun H locs hP hD hS => ?_)
    refine lv_aload_n hx hb d_L_addToBundle_22 rfl (lv_at hl 0 rfl) ?_
    refine lv_dup hx hb d_L_addToBundle_23 rfl ?_
    refine g_L_bundleSizes hx hb hts hown hK hP hu mw_89 d_L_addToBundle_24 ?_
    refine lv_iload_n hx hb d_L_addToBundle_27 rfl (lv_at hl 1 rfl) ?_
    refine lv_iadd hx hb d_L_addToBundle_28 ?_
    refine p_L_bundleSizes hx hb hts hown hK hP hD hS hu mw_89 d_L_addToBundle_29 (fun H locs hP hD hS => ?_)
    exact W.vret hx hb hr (fun t9 ht hW => ⟨⟨(pI (pI t 14 u ((gI t 14 u) + 1)) 15 u ((gI (pI t 14 u ((gI t 14 u) + 1)) 15 u) + z)), rfl, (by simp [L_addB, gI_pI, c1]), BX_at ht hW hP hK hD⟩, hS.F ht⟩) hS.2.2 d_L_addToBundle_32
  · have _u : True := trivial
    refine lv_aload_n hx hb d_L_addToBundle_7 rfl (lv_at hl 0 rfl) ?_
    refine lv_iload_n hx hb d_L_addToBundle_8 rfl (lv_at hl 2 rfl) ?_
    refine p_L_bundleSince hx hb hts hown hK hP hD hS hu mw_91 d_L_addToBundle_9 (fun H locs hP hD hS => ?_)
    refine lv_aload_n hx hb d_L_addToBundle_12 rfl (lv_at hl 0 rfl) ?_
    refine lv_dup hx hb d_L_addToBundle_13 rfl ?_
    refine g_L_bundlePosts hx hb hts hown hK hP hu mw_87 d_L_addToBundle_14 ?_
    refine lv_iconst (v := 1) hx hb d_L_addToBundle_17 (by decide) ?_
    refine lv_iadd hx hb d_L_addToBundle_18 ?_
    refine p_L_bundlePosts hx hb hts hown hK hP hD hS hu mw_87 d_L_addToBundle_19 (fun H locs hP hD hS => ?_)
    refine lv_aload_n hx hb d_L_addToBundle_22 rfl (lv_at hl 0 rfl) ?_
    refine lv_dup hx hb d_L_addToBundle_23 rfl ?_
    refine g_L_bundleSizes hx hb hts hown hK hP hu mw_89 d_L_addToBundle_24 ?_
    refine lv_iload_n hx hb d_L_addToBundle_27 rfl (lv_at hl 1 rfl) ?_
    refine lv_iadd hx hb d_L_addToBundle_28 ?_
    refine p_L_bundleSizes hx hb hts hown hK hP hD hS hu mw_89 d_L_addToBundle_29 (fun H locs hP hD hS => ?_)
    exact W.vret hx hb hr (fun t9 ht hW => ⟨⟨(pI (pI (pI t 16 u d) 14 u ((gI (pI t 16 u d) 14 u) + 1)) 15 u ((gI (pI (pI t 16 u d) 14 u ((gI (pI t 16 u d) 14 u) + 1)) 15 u) + z)), rfl, (by simp [L_addB, gI_pI, c1]), BX_at ht hW hP hK hD⟩, hS.F ht⟩) hS.2.2 d_L_addToBundle_32
end
section
set_option maxHeartbeats 4000000 in
set_option maxRecDepth 100000 in
theorem c_L_deliver (l : Launch) (D : va_G) (ad : Nat → Nat) (ka : Nat → ClassId) (sz : Nat) (t : Mem) (u : Nat) (hu : u < 3) (r : Nat) (hrp : r < 40) (ho : OKX t) (p0 d : Int32) : Met l y_L_deliver (Cond.code y_L_deliver b_L_deliver 7 none :: big) ({ frames := 2, cells := 0, slots := 0, locals := 46 }) (va_Pc [.ref (ad (8 + u)), .int (p0), .ref (ad (20 + r)), .int (d), .ref (ad (3))] (PX D ad ka sz t)) (va_Qv (fun t' : Mem => t' = L_deliver t u r p0 d) (BX D ad ka sz) (AX ad sz)) 0 0 (AX ad sz) := by
  refine Met.ofW (cc := b_L_deliver) (maxL := 7) (ret := none) (by decide) rfl ?_
  intro p e s m args below meth c s₁ B hml hv
  obtain ⟨rfl, hsz, hP, hK, hD0⟩ := hv
  have hx := B.exec
  have hb := B.bytes
  have hr := B.returns
  have hlocks := B.notSynchronized
  have hts := atoms_spec (ws := Cond.code y_L_deliver b_L_deliver 7 none :: big) B.pre
  have hown : s.vm.findClass "ListForge$MailingList" = some m.cls := findClass_of_methodNamed B.named
  subst hsz
  have hD : va_D (AX ad s.heap.size) (cw ad ka t) := AX_D hD0
  have hS : va_S (AX ad s.heap.size) s.heap s.heap [] := va_S.rf
  have hl := lv_entry ([.ref (ad (8 + u)), .int (p0), .ref (ad (20 + r)), .int (d), .ref (ad (3))]) (n := 7) (Nat.le_of_ble_eq_true rfl)
  rw [lg_entry_eq]
  generalize (lg_sl ([.ref (ad (8 + u)), .int (p0), .ref (ad (20 + r)), .int (d), .ref (ad (3))]) ++ List.replicate (7 - (lg_sl ([.ref (ad (8 + u)), .int (p0), .ref (ad (20 + r)), .int (d), .ref (ad (3))])).length) Slot.unset).toArray = ls at hl ⊢
  have hl : lv_has ls 7 [(0, .ref (ad (8 + u))), (1, .int (p0)), (2, .ref (ad (20 + r))), (3, .int (d)), (4, .ref (ad (3)))] := hl

  refine lv_iconst (v := 0) hx hb d_L_deliver_0 (by decide) ?_
  refine lv_istore (lv' := [(5, .int (0)), (0, .ref (ad (8 + u))), (1, .int (p0)), (2, .ref (ad (20 + r))), (3, .int (d)), (4, .ref (ad (3)))]) hx hb d_L_deliver_1 hl (by decide) rfl (fun ls hl => ?_)
  refine lv_iconst (v := 0) hx hb d_L_deliver_3 (by decide) ?_
  refine lv_istore (lv' := [(6, .int (0)), (5, .int (0)), (0, .ref (ad (8 + u))), (1, .int (p0)), (2, .ref (ad (20 + r))), (3, .int (d)), (4, .ref (ad (3)))]) hx hb d_L_deliver_4 hl (by decide) rfl (fun ls hl => ?_)
  have hloop : ∀ (n a : Nat) (g : Int32) (t1 : Mem) (H : Heap) (locs : List Loc) (ls : Array Slot), a ≤ 12 → 12 + 1 ≤ a + n → OKX t1 → lp (delF u r p0) (12 - a) a (t1, g) = lp (delF u r p0) 12 0 (t, 0) → va_P D cls (cw ad ka t1) H → va_D (AX ad s.heap.size) (cw ad ka t1) → va_S (AX ad s.heap.size) s.heap H locs → lv_has ls 7 [(0, .ref (ad (8 + u))), (1, .int (p0)), (2, .ref (ad (20 + r))), (3, .int (d)), (4, .ref (ad (3))), (5, .int (g)), (6, .int (nI a))] → W p l e ({ frames := 2, cells := 0, slots := 0, locals := 46 }) s m ([.ref (ad (8 + u)), .int (p0), .ref (ad (20 + r)), .int (d), .ref (ad (3))] : List Value).toArray below meth c H locs 0 0 (MQ below (va_Qv (fun t' : Mem => t' = L_deliver t u r p0 d) (BX D ad ka s.heap.size) (AX ad s.heap.size)) ([.ref (ad (8 + u)), .int (p0), .ref (ad (20 + r)), .int (d), .ref (ad (3))] : List Value).toArray s 0 0 (AX ad s.heap.size)) (F0 m 6 ls []) := by
    intro n
    induction n with
    | zero => intro a g t1 H locs ls h1 h2; exact absurd h2 (by omega)
    | succ n ih =>
      intro a g t1 H locs ls ha hn ho hF hP hD hS hl
      refine lv_iload hx hb d_L_deliver_6 (lv_at hl 6 rfl) ?_
      refine lv_bipush (v := 12) hx hb d_L_deliver_8 (by decide) ?_
      refine lv_icmp_ge (tgt := 81) hx hb d_L_deliver_10 (by decide) (fun c1 => ?_) (fun c1 => ?_)
      · have _u : True := trivial
        obtain rfl := nI_eq_of (x := 12) (N := 12) rfl (by decide) ha c1
        have hE := lp_end hF
        refine lv_iload hx hb d_L_deliver_81 (lv_at hl 5 rfl) ?_
        refine lv_if_eq (tgt := 95) hx hb d_L_deliver_83 (by decide) (fun c2 => ?_) (fun c2 => ?_)
        · have _u : True := trivial
          refine lv_aload_n hx hb d_L_deliver_95 rfl (lv_at hl 0 rfl) ?_
          refine g_L_bundleSizes hx hb hts hown hK hP hu mw_89 d_L_deliver_96 ?_
          refine lv_aload_n hx hb d_L_deliver_99 rfl (lv_at hl 0 rfl) ?_
          refine g_L_full hx hb hts hown hK hP hu mw_84 d_L_deliver_100 ?_
          refine lv_icmp_lt (tgt := 112) hx hb d_L_deliver_103 (by decide) (fun c3 => ?_) (fun c3 => ?_)
          · have _u : True := trivial
            exact W.vret hx hb hr (fun t9 ht hW => ⟨⟨t1, rfl, (by unfold L_deliver; rw [← hE]; simp [delB, delC, c2, c3]), BX_at ht hW hP hK hD⟩, hS.F ht⟩) hS.2.2 d_L_deliver_112
          · have _u : True := trivial
            refine lv_aload_n hx hb d_L_deliver_106 rfl (lv_at hl 0 rfl) ?_
            refine lv_aload hx hb d_L_deliver_107 (lv_at hl 4 rfl) ?_
            have hA1 := hS.1
            refine va_callv (va_runV (As := [.ref (ad (3))]) (rest := []) ⟨hx, hb, hml, hown, hts⟩ (c_L_sendBundle l D ad ka H.size t1 u hu ho) (cwV 1 hts (gv mw_464 mw_465 mw_466 mw_2 mw_467) rfl rfl rfl (by decide +kernel) ⟨Nat.le_of_ble_eq_true rfl, Nat.le_of_ble_eq_true rfl⟩) ⟨PX_blind, va_recv hK hP (ci := 0) (q0 := 8 + u) rfl (at_L hu), fun U hU hW => ⟨rfl, PX_at hU hW hP hK hD⟩⟩ rfl rfl hl.1 rfl (lv_room (Nat.le_of_ble_eq_true rfl)) d_L_deliver_109 ⟨Nat.le_of_ble_eq_true rfl, Nat.le_of_ble_eq_true rfl⟩) hS (fun q _ h => AX_up hA1 q h) (AX_up hA1) (fun t6 tq H1 locs ht hvm hw5 hB hz1 hk1 hS => ?_)
            obtain ⟨hP, hD⟩ := BX_back ht hB (AX_up hA1)
            generalize H1 = H at hP hS ⊢
            rw [hw5] at hP hD
            exact W.vret hx hb hr (fun t9 ht hW => ⟨⟨(L_send t1 u), rfl, (by unfold L_deliver; rw [← hE]; simp [delB, delC, c2, c3]), BX_at ht hW hP hK hD⟩, hS.F ht⟩) hS.2.2 d_L_deliver_112
        · have _u : True := trivial
          refine lv_aload_n hx hb d_L_deliver_86 rfl (lv_at hl 0 rfl) ?_
          refine lv_aload_n hx hb d_L_deliver_87 rfl (lv_at hl 2 rfl) ?_
          refine g_P_size hx hb hts hown hK hP hrp mw_131 d_L_deliver_88 ?_
          refine lv_iload_n hx hb d_L_deliver_91 rfl (lv_at hl 3 rfl) ?_
          have hA1 := hS.1
          refine va_callv (va_runV (As := [.int (gI t1 22 r), .int (d)]) (rest := []) ⟨hx, hb, hml, hown, hts⟩ (c_L_addToBundle l D ad ka H.size t1 u hu (gI t1 22 r) d) (cwV 2 hts (gv mw_460 mw_461 mw_462 mw_2 mw_463) rfl rfl rfl (by decide +kernel) ⟨Nat.le_of_ble_eq_true rfl, Nat.le_of_ble_eq_true rfl⟩) ⟨PX_blind, va_recv hK hP (ci := 0) (q0 := 8 + u) rfl (at_L hu), fun U hU hW => ⟨rfl, PX_at hU hW hP hK hD⟩⟩ rfl rfl hl.1 rfl (lv_room (Nat.le_of_ble_eq_true rfl)) d_L_deliver_92 ⟨Nat.le_of_ble_eq_true rfl, Nat.le_of_ble_eq_true rfl⟩) hS (fun q _ h => AX_up hA1 q h) (AX_up hA1) (fun t9 tq H1 locs ht hvm hw8 hB hz1 hk1 hS => ?_)
          obtain ⟨hP, hD⟩ := BX_back ht hB (AX_up hA1)
          generalize H1 = H at hP hS ⊢
          rw [hw8] at hP hD
          refine lv_aload_n hx hb d_L_deliver_95 rfl (lv_at hl 0 rfl) ?_
          refine g_L_bundleSizes hx hb hts hown hK hP hu mw_89 d_L_deliver_96 ?_
          refine lv_aload_n hx hb d_L_deliver_99 rfl (lv_at hl 0 rfl) ?_
          refine g_L_full hx hb hts hown hK hP hu mw_84 d_L_deliver_100 ?_
          refine lv_icmp_lt (tgt := 112) hx hb d_L_deliver_103 (by decide) (fun c10 => ?_) (fun c10 => ?_)
          · have _u : True := trivial
            exact W.vret hx hb hr (fun t9 ht hW => ⟨⟨(L_addB t1 u (gI t1 22 r) d), rfl, (by unfold L_deliver; rw [← hE]; simp [delB, delC, c2, c10]), BX_at ht hW hP hK hD⟩, hS.F ht⟩) hS.2.2 d_L_deliver_112
          · have _u : True := trivial
            refine lv_aload_n hx hb d_L_deliver_106 rfl (lv_at hl 0 rfl) ?_
            refine lv_aload hx hb d_L_deliver_107 (lv_at hl 4 rfl) ?_
            have hA1 := hS.1
            refine va_callv (va_runV (As := [.ref (ad (3))]) (rest := []) ⟨hx, hb, hml, hown, hts⟩ (c_L_sendBundle l D ad ka H.size (L_addB t1 u (gI t1 22 r) d) u hu (OKX_addB ho)) (cwV 1 hts (gv mw_464 mw_465 mw_466 mw_2 mw_467) rfl rfl rfl (by decide +kernel) ⟨Nat.le_of_ble_eq_true rfl, Nat.le_of_ble_eq_true rfl⟩) ⟨PX_blind, va_recv hK hP (ci := 0) (q0 := 8 + u) rfl (at_L hu), fun U hU hW => ⟨rfl, PX_at hU hW hP hK hD⟩⟩ rfl rfl hl.1 rfl (lv_room (Nat.le_of_ble_eq_true rfl)) d_L_deliver_109 ⟨Nat.le_of_ble_eq_true rfl, Nat.le_of_ble_eq_true rfl⟩) hS (fun q _ h => AX_up hA1 q h) (AX_up hA1) (fun t13 tq H1 locs ht hvm hw12 hB hz1 hk1 hS => ?_)
            obtain ⟨hP, hD⟩ := BX_back ht hB (AX_up hA1)
            generalize H1 = H at hP hS ⊢
            rw [hw12] at hP hD
            exact W.vret hx hb hr (fun t9 ht hW => ⟨⟨(L_send (L_addB t1 u (gI t1 22 r) d) u), rfl, (by unfold L_deliver; rw [← hE]; simp [delB, delC, c2, c10]), BX_at ht hW hP hK hD⟩, hS.F ht⟩) hS.2.2 d_L_deliver_112
      · have _u : True := trivial
        have hlt : a < 12 := nI_lt_of (x := 12) (N := 12) rfl ha c1
        refine lv_aload_n hx hb d_L_deliver_13 rfl (lv_at hl 0 rfl) ?_
        refine g_L_subscriptions hx hb hts hown hK hP hu mw_76 d_L_deliver_14 ?_
        refine lv_iload hx hb d_L_deliver_17 (lv_at hl 6 rfl) ?_
        refine a_subs hx hb hK hP hu (r := a) hlt rfl d_L_deliver_19 ?_
        refine lv_iconst (v := 0) hx hb d_L_deliver_20 (by decide) ?_
        have hA1 := hS.1
        refine va_calli (va_runV (As := [.int (0)]) (rest := []) ⟨hx, hb, hml, hown, hts⟩ (c_S_takes l D ad ka H.size t1 (12 * u + a) (by omega) 0) (cwV 1 hts (gv mw_456 mw_457 mw_458 mw_3 mw_459) rfl rfl rfl (by decide +kernel) ⟨Nat.le_of_ble_eq_true rfl, Nat.le_of_ble_eq_true rfl⟩) ⟨PX_blind, va_recv hK hP (ci := 3) (q0 := 60 + (12 * u + a)) rfl (at_S (by omega)), fun U hU hW => ⟨rfl, PX_at hU hW hP hK hD⟩⟩ rfl rfl hl.1 rfl (lv_room (Nat.le_of_ble_eq_true rfl)) d_L_deliver_21 ⟨Nat.le_of_ble_eq_true rfl, Nat.le_of_ble_eq_true rfl⟩) hS (fun q _ h => AX_up hA1 q h) (AX_up hA1) (fun r14 t16 tq H1 locs ht hvm hw15 hB hz1 hk1 hS => ?_)
        obtain ⟨hP, hD⟩ := BX_back ht hB (AX_up hA1)
        generalize H1 = H at hP hS ⊢
        obtain ⟨hwr, hwt⟩ := hw15
        rw [hwt] at hP hD
        rw [hwr]
        refine lv_if_eq (tgt := 49) hx hb d_L_deliver_24 (by decide) (fun c17 => ?_) (fun c17 => ?_)
        · have _u : True := trivial
          refine lv_iload hx hb d_L_deliver_49 (lv_at hl 5 rfl) ?_
          refine lv_if_ne (tgt := 68) hx hb d_L_deliver_51 (by decide) (fun c18 => ?_) (fun c18 => ?_)
          · have _u : True := trivial
            refine lv_iconst (v := 1) hx hb d_L_deliver_68 (by decide) ?_
            refine lv_goto (tgt := 73) hx hb d_L_deliver_69 (by decide) ?_
            refine lv_istore (lv' := [(5, .int (1)), (0, .ref (ad (8 + u))), (1, .int (p0)), (2, .ref (ad (20 + r))), (3, .int (d)), (4, .ref (ad (3))), (6, .int (nI a))]) hx hb d_L_deliver_73 hl (by decide) rfl (fun ls hl => ?_)
            refine lv_iinc (v := nI (a + 1)) (lv' := [(6, .int (nI (a + 1))), (5, .int (1)), (0, .ref (ad (8 + u))), (1, .int (p0)), (2, .ref (ad (20 + r))), (3, .int (d)), (4, .ref (ad (3)))]) hx hb d_L_deliver_75 hl (k := 6) rfl (nI_1 _) (by decide) rfl (fun ls hl => ?_)
            refine lv_goto (tgt := 6) hx hb d_L_deliver_78 (by decide) ?_
            exact ih (a + 1) 1 t1 H _ ls (by omega) (by omega) ho (lp_next hlt hF (by simp [delF, delA, c1, c17, c18])) hP hD hS (lv_sub hl [2, 3, 4, 5, 6, 1, 0] rfl)
          · have _u : True := trivial
            refine lv_aload_n hx hb d_L_deliver_54 rfl (lv_at hl 0 rfl) ?_
            refine g_L_subscriptions hx hb hts hown hK hP hu mw_76 d_L_deliver_55 ?_
            refine lv_iload hx hb d_L_deliver_58 (lv_at hl 6 rfl) ?_
            refine a_subs hx hb hK hP hu (r := a) hlt rfl d_L_deliver_60 ?_
            refine lv_iconst (v := 1) hx hb d_L_deliver_61 (by decide) ?_
            have hA1 := hS.1
            refine va_calli (va_runV (As := [.int (1)]) (rest := []) ⟨hx, hb, hml, hown, hts⟩ (c_S_takes l D ad ka H.size t1 (12 * u + a) (by omega) 1) (cwV 1 hts (gv mw_456 mw_457 mw_458 mw_3 mw_459) rfl rfl rfl (by decide +kernel) ⟨Nat.le_of_ble_eq_true rfl, Nat.le_of_ble_eq_true rfl⟩) ⟨PX_blind, va_recv hK hP (ci := 3) (q0 := 60 + (12 * u + a)) rfl (at_S (by omega)), fun U hU hW => ⟨rfl, PX_at hU hW hP hK hD⟩⟩ rfl rfl hl.1 rfl (lv_room (Nat.le_of_ble_eq_true rfl)) d_L_deliver_62 ⟨Nat.le_of_ble_eq_true rfl, Nat.le_of_ble_eq_true rfl⟩) hS (fun q _ h => AX_up hA1 q h) (AX_up hA1) (fun r19 t21 tq H1 locs ht hvm hw20 hB hz1 hk1 hS => ?_)
            obtain ⟨hP, hD⟩ := BX_back ht hB (AX_up hA1)
            generalize H1 = H at hP hS ⊢
            obtain ⟨hwr, hwt⟩ := hw20
            rw [hwt] at hP hD
            rw [hwr]
            refine lv_if_eq (tgt := 72) hx hb d_L_deliver_65 (by decide) (fun c22 => ?_) (fun c22 => ?_)
            · have _u : True := trivial
              refine lv_iconst (v := 0) hx hb d_L_deliver_72 (by decide) ?_
              refine lv_istore (lv' := [(5, .int (0)), (0, .ref (ad (8 + u))), (1, .int (p0)), (2, .ref (ad (20 + r))), (3, .int (d)), (4, .ref (ad (3))), (6, .int (nI a))]) hx hb d_L_deliver_73 hl (by decide) rfl (fun ls hl => ?_)
              refine lv_iinc (v := nI (a + 1)) (lv' := [(6, .int (nI (a + 1))), (5, .int (0)), (0, .ref (ad (8 + u))), (1, .int (p0)), (2, .ref (ad (20 + r))), (3, .int (d)), (4, .ref (ad (3)))]) hx hb d_L_deliver_75 hl (k := 6) rfl (nI_1 _) (by decide) rfl (fun ls hl => ?_)
              refine lv_goto (tgt := 6) hx hb d_L_deliver_78 (by decide) ?_
              exact ih (a + 1) 0 t1 H _ ls (by omega) (by omega) ho (lp_next hlt hF (by simp [delF, delA, c1, c17, c18, c22])) hP hD hS (lv_sub hl [2, 3, 4, 5, 6, 1, 0] rfl)
            · have _u : True := trivial
              refine lv_iconst (v := 1) hx hb d_L_deliver_68 (by decide) ?_
              refine lv_goto (tgt := 73) hx hb d_L_deliver_69 (by decide) ?_
              refine lv_istore (lv' := [(5, .int (1)), (0, .ref (ad (8 + u))), (1, .int (p0)), (2, .ref (ad (20 + r))), (3, .int (d)), (4, .ref (ad (3))), (6, .int (nI a))]) hx hb d_L_deliver_73 hl (by decide) rfl (fun ls hl => ?_)
              refine lv_iinc (v := nI (a + 1)) (lv' := [(6, .int (nI (a + 1))), (5, .int (1)), (0, .ref (ad (8 + u))), (1, .int (p0)), (2, .ref (ad (20 + r))), (3, .int (d)), (4, .ref (ad (3)))]) hx hb d_L_deliver_75 hl (k := 6) rfl (nI_1 _) (by decide) rfl (fun ls hl => ?_)
              refine lv_goto (tgt := 6) hx hb d_L_deliver_78 (by decide) ?_
              exact ih (a + 1) 1 t1 H _ ls (by omega) (by omega) ho (lp_next hlt hF (by simp [delF, delA, c1, c17, c18, c22])) hP hD hS (lv_sub hl [2, 3, 4, 5, 6, 1, 0] rfl)
        · have _u : True := trivial
          refine lv_iload hx hb d_L_deliver_27 (lv_at hl 6 rfl) ?_
          refine lv_aload_n hx hb d_L_deliver_29 rfl (lv_at hl 2 rfl) ?_
          refine g_P_sender hx hb hts hown hK hP hrp mw_129 d_L_deliver_30 ?_
          refine lv_icmp_eq (tgt := 49) hx hb d_L_deliver_33 (by decide) (fun c23 => ?_) (fun c23 => ?_)
          · have _u : True := trivial
            refine lv_iload hx hb d_L_deliver_49 (lv_at hl 5 rfl) ?_
            refine lv_if_ne (tgt := 68) hx hb d_L_deliver_51 (by decide) (fun c24 => ?_) (fun c24 => ?_)
            · have _u : True := trivial
              refine lv_iconst (v := 1) hx hb d_L_deliver_68 (by decide) ?_
              refine lv_goto (tgt := 73) hx hb d_L_deliver_69 (by decide) ?_
              refine lv_istore (lv' := [(5, .int (1)), (0, .ref (ad (8 + u))), (1, .int (p0)), (2, .ref (ad (20 + r))), (3, .int (d)), (4, .ref (ad (3))), (6, .int (nI a))]) hx hb d_L_deliver_73 hl (by decide) rfl (fun ls hl => ?_)
              refine lv_iinc (v := nI (a + 1)) (lv' := [(6, .int (nI (a + 1))), (5, .int (1)), (0, .ref (ad (8 + u))), (1, .int (p0)), (2, .ref (ad (20 + r))), (3, .int (d)), (4, .ref (ad (3)))]) hx hb d_L_deliver_75 hl (k := 6) rfl (nI_1 _) (by decide) rfl (fun ls hl => ?_)
              refine lv_goto (tgt := 6) hx hb d_L_deliver_78 (by decide) ?_
              exact ih (a + 1) 1 t1 H _ ls (by omega) (by omega) ho (lp_next hlt hF (by simp [delF, delA, c1, c17, c23, c24])) hP hD hS (lv_sub hl [2, 3, 4, 5, 6, 1, 0] rfl)
            · have _u : True := trivial
              refine lv_aload_n hx hb d_L_deliver_54 rfl (lv_at hl 0 rfl) ?_
              refine g_L_subscriptions hx hb hts hown hK hP hu mw_76 d_L_deliver_55 ?_
              refine lv_iload hx hb d_L_deliver_58 (lv_at hl 6 rfl) ?_
              refine a_subs hx hb hK hP hu (r := a) hlt rfl d_L_deliver_60 ?_
              refine lv_iconst (v := 1) hx hb d_L_deliver_61 (by decide) ?_
              have hA1 := hS.1
              refine va_calli (va_runV (As := [.int (1)]) (rest := []) ⟨hx, hb, hml, hown, hts⟩ (c_S_takes l D ad ka H.size t1 (12 * u + a) (by omega) 1) (cwV 1 hts (gv mw_456 mw_457 mw_458 mw_3 mw_459) rfl rfl rfl (by decide +kernel) ⟨Nat.le_of_ble_eq_true rfl, Nat.le_of_ble_eq_true rfl⟩) ⟨PX_blind, va_recv hK hP (ci := 3) (q0 := 60 + (12 * u + a)) rfl (at_S (by omega)), fun U hU hW => ⟨rfl, PX_at hU hW hP hK hD⟩⟩ rfl rfl hl.1 rfl (lv_room (Nat.le_of_ble_eq_true rfl)) d_L_deliver_62 ⟨Nat.le_of_ble_eq_true rfl, Nat.le_of_ble_eq_true rfl⟩) hS (fun q _ h => AX_up hA1 q h) (AX_up hA1) (fun r25 t27 tq H1 locs ht hvm hw26 hB hz1 hk1 hS => ?_)
              obtain ⟨hP, hD⟩ := BX_back ht hB (AX_up hA1)
              generalize H1 = H at hP hS ⊢
              obtain ⟨hwr, hwt⟩ := hw26
              rw [hwt] at hP hD
              rw [hwr]
              refine lv_if_eq (tgt := 72) hx hb d_L_deliver_65 (by decide) (fun c28 => ?_) (fun c28 => ?_)
              · have _u : True := trivial
                refine lv_iconst (v := 0) hx hb d_L_deliver_72 (by decide) ?_
                refine lv_istore (lv' := [(5, .int (0)), (0, .ref (ad (8 + u))), (1, .int (p0)), (2, .ref (ad (20 + r))), (3, .int (d)), (4, .ref (ad (3))), (6, .int (nI a))]) hx hb d_L_deliver_73 hl (by decide) rfl (fun ls hl => ?_)
                refine lv_iinc (v := nI (a + 1)) (lv' := [(6, .int (nI (a + 1))), (5, .int (0)), (0, .ref (ad (8 + u))), (1, .int (p0)), (2, .ref (ad (20 + r))), (3, .int (d)), (4, .ref (ad (3)))]) hx hb d_L_deliver_75 hl (k := 6) rfl (nI_1 _) (by decide) rfl (fun ls hl => ?_)
                refine lv_goto (tgt := 6) hx hb d_L_deliver_78 (by decide) ?_
                exact ih (a + 1) 0 t1 H _ ls (by omega) (by omega) ho (lp_next hlt hF (by simp [delF, delA, c1, c17, c23, c24, c28])) hP hD hS (lv_sub hl [2, 3, 4, 5, 6, 1, 0] rfl)
              · have _u : True := trivial
                refine lv_iconst (v := 1) hx hb d_L_deliver_68 (by decide) ?_
                refine lv_goto (tgt := 73) hx hb d_L_deliver_69 (by decide) ?_
                refine lv_istore (lv' := [(5, .int (1)), (0, .ref (ad (8 + u))), (1, .int (p0)), (2, .ref (ad (20 + r))), (3, .int (d)), (4, .ref (ad (3))), (6, .int (nI a))]) hx hb d_L_deliver_73 hl (by decide) rfl (fun ls hl => ?_)
                refine lv_iinc (v := nI (a + 1)) (lv' := [(6, .int (nI (a + 1))), (5, .int (1)), (0, .ref (ad (8 + u))), (1, .int (p0)), (2, .ref (ad (20 + r))), (3, .int (d)), (4, .ref (ad (3)))]) hx hb d_L_deliver_75 hl (k := 6) rfl (nI_1 _) (by decide) rfl (fun ls hl => ?_)
                refine lv_goto (tgt := 6) hx hb d_L_deliver_78 (by decide) ?_
                exact ih (a + 1) 1 t1 H _ ls (by omega) (by omega) ho (lp_next hlt hF (by simp [delF, delA, c1, c17, c23, c24, c28])) hP hD hS (lv_sub hl [2, 3, 4, 5, 6, 1, 0] rfl)
          · have _u : True := trivial
            refine lv_aload hx hb d_L_deliver_36 (lv_at hl 4 rfl) ?_
            refine lv_iload hx hb d_L_deliver_38 (lv_at hl 6 rfl) ?_
            refine lv_aload_n hx hb d_L_deliver_40 rfl (lv_at hl 0 rfl) ?_
            refine g_L_number hx hb hts hown hK hP hu mw_75 d_L_deliver_41 ?_
            refine lv_iconst (v := 0) hx hb d_L_deliver_44 (by decide) ?_
            refine lv_iload_n hx hb d_L_deliver_45 rfl (lv_at hl 1 rfl) ?_
            have hA1 := hS.1
            refine va_callv (va_runV (As := [.int (nI a), .int (nI u), .int (0), .int (p0)]) (rest := []) ⟨hx, hb, hml, hown, hts⟩ (c_O_add l D ad ka H.size t1 ho (nI a) (nI u) 0 p0) (cwV 4 hts (gv mw_447 mw_320 mw_321 mw_5 mw_322) rfl rfl rfl (by decide +kernel) ⟨Nat.le_of_ble_eq_true rfl, Nat.le_of_ble_eq_true rfl⟩) ⟨PX_blind, va_recv hK hP (ci := 1) (q0 := 3) rfl (at_O), fun U hU hW => ⟨rfl, PX_at hU hW hP hK hD⟩⟩ rfl rfl hl.1 rfl (lv_room (Nat.le_of_ble_eq_true rfl)) d_L_deliver_46 ⟨Nat.le_of_ble_eq_true rfl, Nat.le_of_ble_eq_true rfl⟩) hS (fun q _ h => AX_up hA1 q h) (AX_up hA1) (fun t31 tq H1 locs ht hvm hw30 hB hz1 hk1 hS => ?_)
            obtain ⟨hP, hD⟩ := BX_back ht hB (AX_up hA1)
            generalize H1 = H at hP hS ⊢
            rw [hw30] at hP hD
            refine lv_iload hx hb d_L_deliver_49 (lv_at hl 5 rfl) ?_
            refine lv_if_ne (tgt := 68) hx hb d_L_deliver_51 (by decide) (fun c32 => ?_) (fun c32 => ?_)
            · have _u : True := trivial
              refine lv_iconst (v := 1) hx hb d_L_deliver_68 (by decide) ?_
              refine lv_goto (tgt := 73) hx hb d_L_deliver_69 (by decide) ?_
              refine lv_istore (lv' := [(5, .int (1)), (0, .ref (ad (8 + u))), (1, .int (p0)), (2, .ref (ad (20 + r))), (3, .int (d)), (4, .ref (ad (3))), (6, .int (nI a))]) hx hb d_L_deliver_73 hl (by decide) rfl (fun ls hl => ?_)
              refine lv_iinc (v := nI (a + 1)) (lv' := [(6, .int (nI (a + 1))), (5, .int (1)), (0, .ref (ad (8 + u))), (1, .int (p0)), (2, .ref (ad (20 + r))), (3, .int (d)), (4, .ref (ad (3)))]) hx hb d_L_deliver_75 hl (k := 6) rfl (nI_1 _) (by decide) rfl (fun ls hl => ?_)
              refine lv_goto (tgt := 6) hx hb d_L_deliver_78 (by decide) ?_
              exact ih (a + 1) 1 (O_add t1 (nI a) (nI u) 0 p0) H _ ls (by omega) (by omega) (OKX_add ho) (lp_next hlt hF (by simp [delF, delA, c1, c17, c23, c32])) hP hD hS (lv_sub hl [2, 3, 4, 5, 6, 1, 0] rfl)
            · have _u : True := trivial
              refine lv_aload_n hx hb d_L_deliver_54 rfl (lv_at hl 0 rfl) ?_
              refine g_L_subscriptions hx hb hts hown hK hP hu mw_76 d_L_deliver_55 ?_
              refine lv_iload hx hb d_L_deliver_58 (lv_at hl 6 rfl) ?_
              refine a_subs hx hb hK hP hu (r := a) hlt rfl d_L_deliver_60 ?_
              refine lv_iconst (v := 1) hx hb d_L_deliver_61 (by decide) ?_
              have hA1 := hS.1
              refine va_calli (va_runV (As := [.int (1)]) (rest := []) ⟨hx, hb, hml, hown, hts⟩ (c_S_takes l D ad ka H.size (O_add t1 (nI a) (nI u) 0 p0) (12 * u + a) (by omega) 1) (cwV 1 hts (gv mw_456 mw_457 mw_458 mw_3 mw_459) rfl rfl rfl (by decide +kernel) ⟨Nat.le_of_ble_eq_true rfl, Nat.le_of_ble_eq_true rfl⟩) ⟨PX_blind, va_recv hK hP (ci := 3) (q0 := 60 + (12 * u + a)) rfl (at_S (by omega)), fun U hU hW => ⟨rfl, PX_at hU hW hP hK hD⟩⟩ rfl rfl hl.1 rfl (lv_room (Nat.le_of_ble_eq_true rfl)) d_L_deliver_62 ⟨Nat.le_of_ble_eq_true rfl, Nat.le_of_ble_eq_true rfl⟩) hS (fun q _ h => AX_up hA1 q h) (AX_up hA1) (fun r33 t35 tq H1 locs ht hvm hw34 hB hz1 hk1 hS => ?_)
              obtain ⟨hP, hD⟩ := BX_back ht hB (AX_up hA1)
              generalize H1 = H at hP hS ⊢
              obtain ⟨hwr, hwt⟩ := hw34
              rw [hwt] at hP hD
              rw [hwr]
              refine lv_if_eq (tgt := 72) hx hb d_L_deliver_65 (by decide) (fun c36 => ?_) (fun c36 => ?_)
              · have _u : True := trivial
                refine lv_iconst (v := 0) hx hb d_L_deliver_72 (by decide) ?_
                refine lv_istore (lv' := [(5, .int (0)), (0, .ref (ad (8 + u))), (1, .int (p0)), (2, .ref (ad (20 + r))), (3, .int (d)), (4, .ref (ad (3))), (6, .int (nI a))]) hx hb d_L_deliver_73 hl (by decide) rfl (fun ls hl => ?_)
                refine lv_iinc (v := nI (a + 1)) (lv' := [(6, .int (nI (a + 1))), (5, .int (0)), (0, .ref (ad (8 + u))), (1, .int (p0)), (2, .ref (ad (20 + r))), (3, .int (d)), (4, .ref (ad (3)))]) hx hb d_L_deliver_75 hl (k := 6) rfl (nI_1 _) (by decide) rfl (fun ls hl => ?_)
                refine lv_goto (tgt := 6) hx hb d_L_deliver_78 (by decide) ?_
                exact ih (a + 1) 0 (O_add t1 (nI a) (nI u) 0 p0) H _ ls (by omega) (by omega) (OKX_add ho) (lp_next hlt hF (by simp [delF, delA, c1, c17, c23, c32, c36])) hP hD hS (lv_sub hl [2, 3, 4, 5, 6, 1, 0] rfl)
              · have _u : True := trivial
                refine lv_iconst (v := 1) hx hb d_L_deliver_68 (by decide) ?_
                refine lv_goto (tgt := 73) hx hb d_L_deliver_69 (by decide) ?_
                refine lv_istore (lv' := [(5, .int (1)), (0, .ref (ad (8 + u))), (1, .int (p0)), (2, .ref (ad (20 + r))), (3, .int (d)), (4, .ref (ad (3))), (6, .int (nI a))]) hx hb d_L_deliver_73 hl (by decide) rfl (fun ls hl => ?_)
                refine lv_iinc (v := nI (a + 1)) (lv' := [(6, .int (nI (a + 1))), (5, .int (1)), (0, .ref (ad (8 + u))), (1, .int (p0)), (2, .ref (ad (20 + r))), (3, .int (d)), (4, .ref (ad (3)))]) hx hb d_L_deliver_75 hl (k := 6) rfl (nI_1 _) (by decide) rfl (fun ls hl => ?_)
                refine lv_goto (tgt := 6) hx hb d_L_deliver_78 (by decide) ?_
                exact ih (a + 1) 1 (O_add t1 (nI a) (nI u) 0 p0) H _ ls (by omega) (by omega) (OKX_add ho) (lp_next hlt hF (by simp [delF, delA, c1, c17, c23, c32, c36])) hP hD hS (lv_sub hl [2, 3, 4, 5, 6, 1, 0] rfl)
  exact hloop (12 + 1) 0 0 t s.heap _ ls (by omega) (by omega) ho rfl hP hD hS (lv_sub hl [2, 3, 4, 5, 6, 1, 0] rfl)
set_option maxHeartbeats 4000000 in
set_option maxRecDepth 100000 in
theorem c_L_warnAgain (l : Launch) (D : va_G) (ad : Nat → Nat) (ka : Nat → ClassId) (sz : Nat) (t : Mem) (u : Nat) (hu : u < 3) (a : Nat) (hlt : a < 12) (ho : OKX t) : Met l y_L_warnAgain (Cond.code y_L_warnAgain b_L_warnAgain 4 none :: big) ({ frames := 1, cells := 0, slots := 0, locals := 24 }) (va_Pc [.ref (ad (8 + u)), .int (nI a), .ref (ad (3))] (PX D ad ka sz t)) (va_Qv (fun t' : Mem => t' = L_warn t u a) (BX D ad ka sz) (AX ad sz)) 0 0 (AX ad sz) := by
  refine Met.ofW (cc := b_L_warnAgain) (maxL := 4) (ret := none) (by decide) rfl ?_
  intro p e s m args below meth c s₁ B hml hv
  obtain ⟨rfl, hsz, hP, hK, hD0⟩ := hv
  have hx := B.exec
  have hb := B.bytes
  have hr := B.returns
  have hlocks := B.notSynchronized
  have hts := atoms_spec (ws := Cond.code y_L_warnAgain b_L_warnAgain 4 none :: big) B.pre
  have hown : s.vm.findClass "ListForge$MailingList" = some m.cls := findClass_of_methodNamed B.named
  subst hsz
  have hD : va_D (AX ad s.heap.size) (cw ad ka t) := AX_D hD0
  have hS : va_S (AX ad s.heap.size) s.heap s.heap [] := va_S.rf
  have hl := lv_entry ([.ref (ad (8 + u)), .int (nI a), .ref (ad (3))]) (n := 4) (Nat.le_of_ble_eq_true rfl)
  rw [lg_entry_eq]
  generalize (lg_sl ([.ref (ad (8 + u)), .int (nI a), .ref (ad (3))]) ++ List.replicate (4 - (lg_sl ([.ref (ad (8 + u)), .int (nI a), .ref (ad (3))])).length) Slot.unset).toArray = ls at hl ⊢
  have hl : lv_has ls 4 [(0, .ref (ad (8 + u))), (1, .int (nI a)), (2, .ref (ad (3)))] := hl

  refine lv_aload_n hx hb d_L_warnAgain_0 rfl (lv_at hl 0 rfl) ?_
  refine g_L_subscriptions hx hb hts hown hK hP hu mw_76 d_L_warnAgain_1 ?_
  refine lv_iload_n hx hb d_L_warnAgain_4 rfl (lv_at hl 1 rfl) ?_
  refine a_subs hx hb hK hP hu (r := a) hlt rfl d_L_warnAgain_5 ?_
  refine lv_astore_n (lv' := [(3, .ref (ad (60 + (12 * u + a)))), (0, .ref (ad (8 + u))), (1, .int (nI a)), (2, .ref (ad (3)))]) hx hb d_L_warnAgain_6 rfl hl (by decide) rfl (fun ls hl => ?_)
  refine lv_aload_n hx hb d_L_warnAgain_7 rfl (lv_at hl 0 rfl) ?_
  refine g_S_warning hx hb hts hown hK hP (by omega) mw_49 d_L_warnAgain_8 ?_
  refine lv_iconst (v := 3) hx hb d_L_warnAgain_11 (by decide) ?_
  refine lv_icmp_lt (tgt := 34) hx hb d_L_warnAgain_12 (by decide) (fun c1 => ?_) (fun c1 => ?_)
  · have _u : True := trivial
    refine lv_aload_n hx hb d_L_warnAgain_34 rfl (lv_at hl 0 rfl) ?_
    refine lv_dup hx hb d_L_warnAgain_35 rfl ?_
    refine g_S_warning hx hb hts hown hK hP (by omega) mw_49 d_L_warnAgain_36 ?_
    refine lv_iconst (v := 1) hx hb d_L_warnAgain_39 (by decide) ?_
    refine lv_iadd hx hb d_L_warnAgain_40 ?_
    refine p_S_warning hx hb hts hown hK hP hD hS (by omega) mw_49 d_L_warnAgain_41 (fun H locs hP hD hS => ?_)
    refine lv_aload_n hx hb d_L_warnAgain_44 rfl (lv_at hl 3 rfl) ?_
    refine lv_iload_n hx hb d_L_warnAgain_45 rfl (lv_at hl 2 rfl) ?_
    refine lv_aload_n hx hb d_L_warnAgain_46 rfl (lv_at hl 1 rfl) ?_
    refine g_L_number hx hb hts hown hK hP hu mw_75 d_L_warnAgain_47 ?_
    refine lv_iconst (v := 5) hx hb d_L_warnAgain_50 (by decide) ?_
    refine lv_aload_n hx hb d_L_warnAgain_51 rfl (lv_at hl 0 rfl) ?_
    refine g_S_warning hx hb hts hown hK hP (by omega) mw_49 d_L_warnAgain_52 ?_
    have hA1 := hS.1
    refine va_callv (va_runV (As := [.int (nI a), .int (nI u), .int (5), .int (gI (pI t 4 (12 * u + a) ((gI t 4 (12 * u + a)) + 1)) 4 (12 * u + a))]) (rest := []) ⟨hx, hb, hml, hown, hts⟩ (c_O_add l D ad ka H.size (pI t 4 (12 * u + a) ((gI t 4 (12 * u + a)) + 1)) (OKX_f ho (by decide)) (nI a) (nI u) 5 (gI (pI t 4 (12 * u + a) ((gI t 4 (12 * u + a)) + 1)) 4 (12 * u + a))) (cwV 4 hts (gv mw_447 mw_320 mw_321 mw_5 mw_322) rfl rfl rfl (by decide +kernel) ⟨Nat.le_of_ble_eq_true rfl, Nat.le_of_ble_eq_true rfl⟩) ⟨PX_blind, va_recv hK hP (ci := 1) (q0 := 3) rfl (at_O), fun U hU hW => ⟨rfl, PX_at hU hW hP hK hD⟩⟩ rfl rfl hl.1 rfl (lv_room (Nat.le_of_ble_eq_true rfl)) d_L_warnAgain_55 ⟨Nat.le_of_ble_eq_true rfl, Nat.le_of_ble_eq_true rfl⟩) hS (fun q _ h => AX_up hA1 q h) (AX_up hA1) (fun t4 tq H1 locs ht hvm hw3 hB hz1 hk1 hS => ?_)
    obtain ⟨hP, hD⟩ := BX_back ht hB (AX_up hA1)
    generalize H1 = H at hP hS ⊢
    rw [hw3] at hP hD
    exact W.vret hx hb hr (fun t9 ht hW => ⟨⟨(O_add (pI t 4 (12 * u + a) ((gI t 4 (12 * u + a)) + 1)) (nI a) (nI u) 5 (gI (pI t 4 (12 * u + a) ((gI t 4 (12 * u + a)) + 1)) 4 (12 * u + a))), rfl, (by first | (simp [L_warn, gI_pI, c1]; done) | (exfalso; simp_all; done)), BX_at ht hW hP hK hD⟩, hS.F ht⟩) hS.2.2 d_L_warnAgain_58
  · have _u : True := trivial
    refine lv_aload_n hx hb d_L_warnAgain_15 rfl (lv_at hl 0 rfl) ?_
    have hA1 := hS.1
    refine va_callv (va_runV (As := []) (rest := []) ⟨hx, hb, hml, hown, hts⟩ (c_S_end l D ad ka s.heap.size t (12 * u + a) (by omega)) (cwV 0 hts (gv mw_526 mw_364 mw_365 mw_3 mw_366) rfl rfl rfl (by decide +kernel) ⟨Nat.le_of_ble_eq_true rfl, Nat.le_of_ble_eq_true rfl⟩) ⟨PX_blind, va_recv hK hP (ci := 3) (q0 := 60 + (12 * u + a)) rfl (at_S (by omega)), fun U hU hW => ⟨rfl, PX_at hU hW hP hK hD⟩⟩ rfl rfl hl.1 rfl (lv_room (Nat.le_of_ble_eq_true rfl)) d_L_warnAgain_16 ⟨Nat.le_of_ble_eq_true rfl, Nat.le_of_ble_eq_true rfl⟩) hS (fun q _ h => AX_up hA1 q h) (AX_up hA1) (fun t7 tq H1 locs ht hvm hw6 hB hz1 hk1 hS => ?_)
    obtain ⟨hP, hD⟩ := BX_back ht hB (AX_up hA1)
    generalize H1 = H at hP hS ⊢
    rw [hw6] at hP hD
    refine lv_aload_n hx hb d_L_warnAgain_19 rfl (lv_at hl 3 rfl) ?_
    refine lv_iload_n hx hb d_L_warnAgain_20 rfl (lv_at hl 2 rfl) ?_
    refine lv_aload_n hx hb d_L_warnAgain_21 rfl (lv_at hl 1 rfl) ?_
    refine g_L_number hx hb hts hown hK hP hu mw_75 d_L_warnAgain_22 ?_
    refine lv_bipush (v := 6) hx hb d_L_warnAgain_25 (by decide) ?_
    refine lv_iconst (v := 0) hx hb d_L_warnAgain_27 (by decide) ?_
    have hA1 := hS.1
    refine va_callv (va_runV (As := [.int (nI a), .int (nI u), .int (6), .int (0)]) (rest := []) ⟨hx, hb, hml, hown, hts⟩ (c_O_add l D ad ka H.size (S_end t (12 * u + a) ) (OKX_end ho) (nI a) (nI u) 6 0) (cwV 4 hts (gv mw_447 mw_320 mw_321 mw_5 mw_322) rfl rfl rfl (by decide +kernel) ⟨Nat.le_of_ble_eq_true rfl, Nat.le_of_ble_eq_true rfl⟩) ⟨PX_blind, va_recv hK hP (ci := 1) (q0 := 3) rfl (at_O), fun U hU hW => ⟨rfl, PX_at hU hW hP hK hD⟩⟩ rfl rfl hl.1 rfl (lv_room (Nat.le_of_ble_eq_true rfl)) d_L_warnAgain_28 ⟨Nat.le_of_ble_eq_true rfl, Nat.le_of_ble_eq_true rfl⟩) hS (fun q _ h => AX_up hA1 q h) (AX_up hA1) (fun t10 tq H1 locs ht hvm hw9 hB hz1 hk1 hS => ?_)
    obtain ⟨hP, hD⟩ := BX_back ht hB (AX_up hA1)
    generalize H1 = H at hP hS ⊢
    rw [hw9] at hP hD
    refine lv_goto (tgt := 58) hx hb d_L_warnAgain_31 (by decide) ?_
    exact W.vret hx hb hr (fun t9 ht hW => ⟨⟨(O_add (S_end t (12 * u + a) ) (nI a) (nI u) 6 0), rfl, (by first | (simp [L_warn, gI_pI, c1]; done) | (exfalso; simp_all; done)), BX_at ht hW hP hK hD⟩, hS.F ht⟩) hS.2.2 d_L_warnAgain_58
set_option maxHeartbeats 4000000 in
set_option maxRecDepth 100000 in
theorem c_L_beginDayOf (l : Launch) (D : va_G) (ad : Nat → Nat) (ka : Nat → ClassId) (sz : Nat) (t : Mem) (u : Nat) (hu : u < 3) (a : Nat) (hlt : a < 12) (ho : OKX t) (d : Int32) : Met l y_L_beginDayOf (Cond.code y_L_beginDayOf b_L_beginDayOf 6 none :: big) ({ frames := 2, cells := 0, slots := 0, locals := 47 }) (va_Pc [.ref (ad (8 + u)), .int (nI a), .int (d), .ref (ad (3))] (PX D ad ka sz t)) (va_Qv (fun t' : Mem => t' = L_dayOf t u a d) (BX D ad ka sz) (AX ad sz)) 0 0 (AX ad sz) := by
  refine Met.ofW (cc := b_L_beginDayOf) (maxL := 6) (ret := none) (by decide) rfl ?_
  intro p e s m args below meth c s₁ B hml hv
  obtain ⟨rfl, hsz, hP, hK, hD0⟩ := hv
  have hx := B.exec
  have hb := B.bytes
  have hr := B.returns
  have hlocks := B.notSynchronized
  have hts := atoms_spec (ws := Cond.code y_L_beginDayOf b_L_beginDayOf 6 none :: big) B.pre
  have hown : s.vm.findClass "ListForge$MailingList" = some m.cls := findClass_of_methodNamed B.named
  subst hsz
  have hD : va_D (AX ad s.heap.size) (cw ad ka t) := AX_D hD0
  have hS : va_S (AX ad s.heap.size) s.heap s.heap [] := va_S.rf
  have hl := lv_entry ([.ref (ad (8 + u)), .int (nI a), .int (d), .ref (ad (3))]) (n := 6) (Nat.le_of_ble_eq_true rfl)
  rw [lg_entry_eq]
  generalize (lg_sl ([.ref (ad (8 + u)), .int (nI a), .int (d), .ref (ad (3))]) ++ List.replicate (6 - (lg_sl ([.ref (ad (8 + u)), .int (nI a), .int (d), .ref (ad (3))])).length) Slot.unset).toArray = ls at hl ⊢
  have hl : lv_has ls 6 [(0, .ref (ad (8 + u))), (1, .int (nI a)), (2, .int (d)), (3, .ref (ad (3)))] := hl

  refine lv_aload_n hx hb d_L_beginDayOf_0 rfl (lv_at hl 0 rfl) ?_
  refine g_L_subscriptions hx hb hts hown hK hP hu mw_76 d_L_beginDayOf_1 ?_
  refine lv_iload_n hx hb d_L_beginDayOf_4 rfl (lv_at hl 1 rfl) ?_
  refine a_subs hx hb hK hP hu (r := a) hlt rfl d_L_beginDayOf_5 ?_
  refine lv_astore (lv' := [(4, .ref (ad (60 + (12 * u + a)))), (0, .ref (ad (8 + u))), (1, .int (nI a)), (2, .int (d)), (3, .ref (ad (3)))]) hx hb d_L_beginDayOf_6 hl (by decide) rfl (fun ls hl => ?_)
  refine lv_iload_n hx hb d_L_beginDayOf_8 rfl (lv_at hl 3 rfl) ?_
  refine lv_aload hx hb d_L_beginDayOf_9 (lv_at hl 0 rfl) ?_
  refine g_S_since hx hb hts hown hK hP (by omega) mw_46 d_L_beginDayOf_11 ?_
  refine lv_isub hx hb d_L_beginDayOf_14 ?_
  refine lv_istore (lv' := [(5, .int (d - (gI t 3 (12 * u + a)))), (4, .ref (ad (60 + (12 * u + a)))), (0, .ref (ad (8 + u))), (1, .int (nI a)), (2, .int (d)), (3, .ref (ad (3)))]) hx hb d_L_beginDayOf_15 hl (by decide) rfl (fun ls hl => ?_)
  refine lv_aload hx hb d_L_beginDayOf_17 (lv_at hl 1 rfl) ?_
  refine g_S_state hx hb hts hown hK hP (by omega) mw_39 d_L_beginDayOf_19 ?_
  refine lv_iconst (v := 1) hx hb d_L_beginDayOf_22 (by decide) ?_
  refine lv_icmp_ne (tgt := 35) hx hb d_L_beginDayOf_23 (by decide) (fun c1 => ?_) (fun c1 => ?_)
  · have _u : True := trivial
    refine lv_aload hx hb d_L_beginDayOf_35 (lv_at hl 1 rfl) ?_
    refine g_S_state hx hb hts hown hK hP (by omega) mw_39 d_L_beginDayOf_37 ?_
    refine lv_iconst (v := 2) hx hb d_L_beginDayOf_40 (by decide) ?_
    refine lv_icmp_ne (tgt := 60) hx hb d_L_beginDayOf_41 (by decide) (fun c2 => ?_) (fun c2 => ?_)
    · have _u : True := trivial
      refine lv_aload hx hb d_L_beginDayOf_60 (lv_at hl 1 rfl) ?_
      refine g_S_state hx hb hts hown hK hP (by omega) mw_39 d_L_beginDayOf_62 ?_
      refine lv_if_ne (tgt := 79) hx hb d_L_beginDayOf_65 (by decide) (fun c3 => ?_) (fun c3 => ?_)
      · have _u : True := trivial
        exact W.vret hx hb hr (fun t9 ht hW => ⟨⟨t, rfl, (by first | (simp [L_dayOf, c1, c2, c3]; done) | (exfalso; simp_all; done)), BX_at ht hW hP hK hD⟩, hS.F ht⟩) hS.2.2 d_L_beginDayOf_79
      · have _u : True := trivial
        refine lv_iload hx hb d_L_beginDayOf_68 (lv_at hl 0 rfl) ?_
        refine lv_iconst (v := 5) hx hb d_L_beginDayOf_70 (by decide) ?_
        refine lv_icmp_lt (tgt := 79) hx hb d_L_beginDayOf_71 (by decide) (fun c4 => ?_) (fun c4 => ?_)
        · have _u : True := trivial
          exact W.vret hx hb hr (fun t9 ht hW => ⟨⟨t, rfl, (by first | (simp [L_dayOf, c1, c2, c3, c4]; done) | (exfalso; simp_all; done)), BX_at ht hW hP hK hD⟩, hS.F ht⟩) hS.2.2 d_L_beginDayOf_79
        · have _u : True := trivial
          refine lv_aload hx hb d_L_beginDayOf_74 (lv_at hl 1 rfl) ?_
          have hA1 := hS.1
          refine va_callv (va_runV (As := []) (rest := []) ⟨hx, hb, hml, hown, hts⟩ (c_S_end l D ad ka s.heap.size t (12 * u + a) (by omega)) (cwV 0 hts (gv mw_526 mw_364 mw_365 mw_3 mw_366) rfl rfl rfl (by decide +kernel) ⟨Nat.le_of_ble_eq_true rfl, Nat.le_of_ble_eq_true rfl⟩) ⟨PX_blind, va_recv hK hP (ci := 3) (q0 := 60 + (12 * u + a)) rfl (at_S (by omega)), fun U hU hW => ⟨rfl, PX_at hU hW hP hK hD⟩⟩ rfl rfl hl.1 rfl (lv_room (Nat.le_of_ble_eq_true rfl)) d_L_beginDayOf_76 ⟨Nat.le_of_ble_eq_true rfl, Nat.le_of_ble_eq_true rfl⟩) hS (fun q _ h => AX_up hA1 q h) (AX_up hA1) (fun t7 tq H1 locs ht hvm hw6 hB hz1 hk1 hS => ?_)
          obtain ⟨hP, hD⟩ := BX_back ht hB (AX_up hA1)
          generalize H1 = H at hP hS ⊢
          rw [hw6] at hP hD
          exact W.vret hx hb hr (fun t9 ht hW => ⟨⟨(S_end t (12 * u + a) ), rfl, (by first | (simp [L_dayOf, c1, c2, c3, c4]; done) | (exfalso; simp_all; done)), BX_at ht hW hP hK hD⟩, hS.F ht⟩) hS.2.2 d_L_beginDayOf_79
    · have _u : True := trivial
      refine lv_iload hx hb d_L_beginDayOf_44 (lv_at hl 0 rfl) ?_
      refine lv_iconst (v := 3) hx hb d_L_beginDayOf_46 (by decide) ?_
      refine lv_irem hx hb d_L_beginDayOf_47 (by decide) ?_
      refine lv_if_ne (tgt := 60) hx hb d_L_beginDayOf_48 (by decide) (fun c8 => ?_) (fun c8 => ?_)
      · have _u : True := trivial
        refine lv_aload hx hb d_L_beginDayOf_60 (lv_at hl 1 rfl) ?_
        refine g_S_state hx hb hts hown hK hP (by omega) mw_39 d_L_beginDayOf_62 ?_
        refine lv_if_ne (tgt := 79) hx hb d_L_beginDayOf_65 (by decide) (fun c9 => ?_) (fun c9 => ?_)
        · have _u : True := trivial
          exact W.vret hx hb hr (fun t9 ht hW => ⟨⟨t, rfl, (by first | (simp [L_dayOf, c1, c2, c8, c9]; done) | (exfalso; simp_all; done)), BX_at ht hW hP hK hD⟩, hS.F ht⟩) hS.2.2 d_L_beginDayOf_79
        · have _u : True := trivial
          refine lv_iload hx hb d_L_beginDayOf_68 (lv_at hl 0 rfl) ?_
          refine lv_iconst (v := 5) hx hb d_L_beginDayOf_70 (by decide) ?_
          refine lv_icmp_lt (tgt := 79) hx hb d_L_beginDayOf_71 (by decide) (fun c10 => ?_) (fun c10 => ?_)
          · have _u : True := trivial
            exact W.vret hx hb hr (fun t9 ht hW => ⟨⟨t, rfl, (by first | (simp [L_dayOf, c1, c2, c8, c9, c10]; done) | (exfalso; simp_all; done)), BX_at ht hW hP hK hD⟩, hS.F ht⟩) hS.2.2 d_L_beginDayOf_79
          · have _u : True := trivial
            refine lv_aload hx hb d_L_beginDayOf_74 (lv_at hl 1 rfl) ?_
            have hA1 := hS.1
            refine va_callv (va_runV (As := []) (rest := []) ⟨hx, hb, hml, hown, hts⟩ (c_S_end l D ad ka s.heap.size t (12 * u + a) (by omega)) (cwV 0 hts (gv mw_526 mw_364 mw_365 mw_3 mw_366) rfl rfl rfl (by decide +kernel) ⟨Nat.le_of_ble_eq_true rfl, Nat.le_of_ble_eq_true rfl⟩) ⟨PX_blind, va_recv hK hP (ci := 3) (q0 := 60 + (12 * u + a)) rfl (at_S (by omega)), fun U hU hW => ⟨rfl, PX_at hU hW hP hK hD⟩⟩ rfl rfl hl.1 rfl (lv_room (Nat.le_of_ble_eq_true rfl)) d_L_beginDayOf_76 ⟨Nat.le_of_ble_eq_true rfl, Nat.le_of_ble_eq_true rfl⟩) hS (fun q _ h => AX_up hA1 q h) (AX_up hA1) (fun t13 tq H1 locs ht hvm hw12 hB hz1 hk1 hS => ?_)
            obtain ⟨hP, hD⟩ := BX_back ht hB (AX_up hA1)
            generalize H1 = H at hP hS ⊢
            rw [hw12] at hP hD
            exact W.vret hx hb hr (fun t9 ht hW => ⟨⟨(S_end t (12 * u + a) ), rfl, (by first | (simp [L_dayOf, c1, c2, c8, c9, c10]; done) | (exfalso; simp_all; done)), BX_at ht hW hP hK hD⟩, hS.F ht⟩) hS.2.2 d_L_beginDayOf_79
      · have _u : True := trivial
        refine lv_aload_n hx hb d_L_beginDayOf_51 rfl (lv_at hl 2 rfl) ?_
        refine lv_iload_n hx hb d_L_beginDayOf_52 rfl (lv_at hl 3 rfl) ?_
        refine lv_aload_n hx hb d_L_beginDayOf_53 rfl (lv_at hl 5 rfl) ?_
        have hA1 := hS.1
        refine va_callv (va_runV (As := [.int (nI a), .ref (ad (3))]) (rest := []) ⟨hx, hb, hml, hown, hts⟩ (c_L_warnAgain l D ad ka s.heap.size t u hu a hlt ho) (cwV 2 hts (gv mw_522 mw_523 mw_524 mw_2 mw_525) rfl rfl rfl (by decide +kernel) ⟨Nat.le_of_ble_eq_true rfl, Nat.le_of_ble_eq_true rfl⟩) ⟨PX_blind, va_recv hK hP (ci := 0) (q0 := 8 + u) rfl (at_L hu), fun U hU hW => ⟨rfl, PX_at hU hW hP hK hD⟩⟩ rfl rfl hl.1 rfl (lv_room (Nat.le_of_ble_eq_true rfl)) d_L_beginDayOf_54 ⟨Nat.le_of_ble_eq_true rfl, Nat.le_of_ble_eq_true rfl⟩) hS (fun q _ h => AX_up hA1 q h) (AX_up hA1) (fun t16 tq H1 locs ht hvm hw15 hB hz1 hk1 hS => ?_)
        obtain ⟨hP, hD⟩ := BX_back ht hB (AX_up hA1)
        generalize H1 = H at hP hS ⊢
        rw [hw15] at hP hD
        refine lv_goto (tgt := 79) hx hb d_L_beginDayOf_57 (by decide) ?_
        exact W.vret hx hb hr (fun t9 ht hW => ⟨⟨(L_warn t u a), rfl, (by first | (simp [L_dayOf, c1, c2, c8]; done) | (exfalso; simp_all; done)), BX_at ht hW hP hK hD⟩, hS.F ht⟩) hS.2.2 d_L_beginDayOf_79
  · have _u : True := trivial
    refine lv_aload hx hb d_L_beginDayOf_26 (lv_at hl 1 rfl) ?_
    refine lv_iload_n hx hb d_L_beginDayOf_28 rfl (lv_at hl 4 rfl) ?_
    have hA1 := hS.1
    refine va_callv (va_runV (As := [.int (d)]) (rest := []) ⟨hx, hb, hml, hown, hts⟩ (c_S_fade l D ad ka s.heap.size t (12 * u + a) (by omega) ho d) (cwV 1 hts (gv mw_516 mw_517 mw_518 mw_3 mw_519) rfl rfl rfl (by decide +kernel) ⟨Nat.le_of_ble_eq_true rfl, Nat.le_of_ble_eq_true rfl⟩) ⟨PX_blind, va_recv hK hP (ci := 3) (q0 := 60 + (12 * u + a)) rfl (at_S (by omega)), fun U hU hW => ⟨rfl, PX_at hU hW hP hK hD⟩⟩ rfl rfl hl.1 rfl (lv_room (Nat.le_of_ble_eq_true rfl)) d_L_beginDayOf_29 ⟨Nat.le_of_ble_eq_true rfl, Nat.le_of_ble_eq_true rfl⟩) hS (fun q _ h => AX_up hA1 q h) (AX_up hA1) (fun t19 tq H1 locs ht hvm hw18 hB hz1 hk1 hS => ?_)
    obtain ⟨hP, hD⟩ := BX_back ht hB (AX_up hA1)
    generalize H1 = H at hP hS ⊢
    rw [hw18] at hP hD
    refine lv_goto (tgt := 79) hx hb d_L_beginDayOf_32 (by decide) ?_
    exact W.vret hx hb hr (fun t9 ht hW => ⟨⟨(S_fade t (12 * u + a) d), rfl, (by first | (simp [L_dayOf, c1]; done) | (exfalso; simp_all; done)), BX_at ht hW hP hK hD⟩, hS.F ht⟩) hS.2.2 d_L_beginDayOf_79
set_option maxHeartbeats 4000000 in
set_option maxRecDepth 100000 in
theorem c_L_beginDay (l : Launch) (D : va_G) (ad : Nat → Nat) (ka : Nat → ClassId) (sz : Nat) (t : Mem) (u : Nat) (hu : u < 3) (ho : OKX t) (d : Int32) : Met l y_L_beginDay (Cond.code y_L_beginDay b_L_beginDay 4 none :: big) ({ frames := 3, cells := 0, slots := 0, locals := 72 }) (va_Pc [.ref (ad (8 + u)), .int (d), .ref (ad (3))] (PX D ad ka sz t)) (va_Qv (fun t' : Mem => t' = L_day t u d) (BX D ad ka sz) (AX ad sz)) 0 0 (AX ad sz) := by
  refine Met.ofW (cc := b_L_beginDay) (maxL := 4) (ret := none) (by decide) rfl ?_
  intro p e s m args below meth c s₁ B hml hv
  obtain ⟨rfl, hsz, hP, hK, hD0⟩ := hv
  have hx := B.exec
  have hb := B.bytes
  have hr := B.returns
  have hlocks := B.notSynchronized
  have hts := atoms_spec (ws := Cond.code y_L_beginDay b_L_beginDay 4 none :: big) B.pre
  have hown : s.vm.findClass "ListForge$MailingList" = some m.cls := findClass_of_methodNamed B.named
  subst hsz
  have hD : va_D (AX ad s.heap.size) (cw ad ka t) := AX_D hD0
  have hS : va_S (AX ad s.heap.size) s.heap s.heap [] := va_S.rf
  have hl := lv_entry ([.ref (ad (8 + u)), .int (d), .ref (ad (3))]) (n := 4) (Nat.le_of_ble_eq_true rfl)
  rw [lg_entry_eq]
  generalize (lg_sl ([.ref (ad (8 + u)), .int (d), .ref (ad (3))]) ++ List.replicate (4 - (lg_sl ([.ref (ad (8 + u)), .int (d), .ref (ad (3))])).length) Slot.unset).toArray = ls at hl ⊢
  have hl : lv_has ls 4 [(0, .ref (ad (8 + u))), (1, .int (d)), (2, .ref (ad (3)))] := hl

  refine lv_iconst (v := 0) hx hb d_L_beginDay_0 (by decide) ?_
  refine lv_istore_n (lv' := [(3, .int (0)), (0, .ref (ad (8 + u))), (1, .int (d)), (2, .ref (ad (3)))]) hx hb d_L_beginDay_1 rfl hl (by decide) rfl (fun ls hl => ?_)
  have hloop : ∀ (n a : Nat) (t1 : Mem) (H : Heap) (locs : List Loc) (ls : Array Slot), a ≤ 12 → 12 + 1 ≤ a + n → OKX t1 → lp (fun a t => L_dayOf t u a d) (12 - a) a t1 = lp (fun a t => L_dayOf t u a d) 12 0 t → va_P D cls (cw ad ka t1) H → va_D (AX ad s.heap.size) (cw ad ka t1) → va_S (AX ad s.heap.size) s.heap H locs → lv_has ls 4 [(0, .ref (ad (8 + u))), (1, .int (d)), (2, .ref (ad (3))), (3, .int (nI a))] → W p l e ({ frames := 3, cells := 0, slots := 0, locals := 72 }) s m ([.ref (ad (8 + u)), .int (d), .ref (ad (3))] : List Value).toArray below meth c H locs 0 0 (MQ below (va_Qv (fun t' : Mem => t' = L_day t u d) (BX D ad ka s.heap.size) (AX ad s.heap.size)) ([.ref (ad (8 + u)), .int (d), .ref (ad (3))] : List Value).toArray s 0 0 (AX ad s.heap.size)) (F0 m 2 ls []) := by
    intro n
    induction n with
    | zero => intro a t1 H locs ls h1 h2; exact absurd h2 (by omega)
    | succ n ih =>
      intro a t1 H locs ls ha hn ho hF hP hD hS hl
      refine lv_iload_n hx hb d_L_beginDay_2 rfl (lv_at hl 3 rfl) ?_
      refine lv_bipush (v := 12) hx hb d_L_beginDay_3 (by decide) ?_
      refine lv_icmp_ge (tgt := 21) hx hb d_L_beginDay_5 (by decide) (fun c1 => ?_) (fun c1 => ?_)
      · have _u : True := trivial
        obtain rfl := nI_eq_of (x := 12) (N := 12) rfl (by decide) ha c1
        have hE := lp_end hF
        refine lv_aload_n hx hb d_L_beginDay_21 rfl (lv_at hl 0 rfl) ?_
        refine g_L_bundlePosts hx hb hts hown hK hP hu mw_87 d_L_beginDay_22 ?_
        refine lv_if_le (tgt := 43) hx hb d_L_beginDay_25 (by decide) (fun c2 => ?_) (fun c2 => ?_)
        · have _u : True := trivial
          exact W.vret hx hb hr (fun t9 ht hW => ⟨⟨t1, rfl, (by unfold L_day; rw [← hE]; simp [c2]), BX_at ht hW hP hK hD⟩, hS.F ht⟩) hS.2.2 d_L_beginDay_43
        · have _u : True := trivial
          refine lv_iload_n hx hb d_L_beginDay_28 rfl (lv_at hl 1 rfl) ?_
          refine lv_aload_n hx hb d_L_beginDay_29 rfl (lv_at hl 0 rfl) ?_
          refine g_L_bundleSince hx hb hts hown hK hP hu mw_91 d_L_beginDay_30 ?_
          refine lv_isub hx hb d_L_beginDay_33 ?_
          refine lv_iconst (v := 2) hx hb d_L_beginDay_34 (by decide) ?_
          refine lv_icmp_le (tgt := 43) hx hb d_L_beginDay_35 (by decide) (fun c3 => ?_) (fun c3 => ?_)
          · have _u : True := trivial
            exact W.vret hx hb hr (fun t9 ht hW => ⟨⟨t1, rfl, (by unfold L_day; rw [← hE]; simp [c2, c3]), BX_at ht hW hP hK hD⟩, hS.F ht⟩) hS.2.2 d_L_beginDay_43
          · have _u : True := trivial
            refine lv_aload_n hx hb d_L_beginDay_38 rfl (lv_at hl 0 rfl) ?_
            refine lv_aload_n hx hb d_L_beginDay_39 rfl (lv_at hl 2 rfl) ?_
            have hA1 := hS.1
            refine va_callv (va_runV (As := [.ref (ad (3))]) (rest := []) ⟨hx, hb, hml, hown, hts⟩ (c_L_sendBundle l D ad ka H.size t1 u hu ho) (cwV 1 hts (gv mw_464 mw_465 mw_466 mw_2 mw_467) rfl rfl rfl (by decide +kernel) ⟨Nat.le_of_ble_eq_true rfl, Nat.le_of_ble_eq_true rfl⟩) ⟨PX_blind, va_recv hK hP (ci := 0) (q0 := 8 + u) rfl (at_L hu), fun U hU hW => ⟨rfl, PX_at hU hW hP hK hD⟩⟩ rfl rfl hl.1 rfl (lv_room (Nat.le_of_ble_eq_true rfl)) d_L_beginDay_40 ⟨Nat.le_of_ble_eq_true rfl, Nat.le_of_ble_eq_true rfl⟩) hS (fun q _ h => AX_up hA1 q h) (AX_up hA1) (fun t6 tq H1 locs ht hvm hw5 hB hz1 hk1 hS => ?_)
            obtain ⟨hP, hD⟩ := BX_back ht hB (AX_up hA1)
            generalize H1 = H at hP hS ⊢
            rw [hw5] at hP hD
            exact W.vret hx hb hr (fun t9 ht hW => ⟨⟨(L_send t1 u), rfl, (by unfold L_day; rw [← hE]; simp [c2, c3]), BX_at ht hW hP hK hD⟩, hS.F ht⟩) hS.2.2 d_L_beginDay_43
      · have _u : True := trivial
        have hlt : a < 12 := nI_lt_of (x := 12) (N := 12) rfl ha c1
        refine lv_aload_n hx hb d_L_beginDay_8 rfl (lv_at hl 0 rfl) ?_
        refine lv_iload_n hx hb d_L_beginDay_9 rfl (lv_at hl 3 rfl) ?_
        refine lv_iload_n hx hb d_L_beginDay_10 rfl (lv_at hl 1 rfl) ?_
        refine lv_aload_n hx hb d_L_beginDay_11 rfl (lv_at hl 2 rfl) ?_
        have hA1 := hS.1
        refine va_callv (va_runV (As := [.int (nI a), .int (d), .ref (ad (3))]) (rest := []) ⟨hx, hb, hml, hown, hts⟩ (c_L_beginDayOf l D ad ka H.size t1 u hu a hlt ho d) (cwV 3 hts (gv mw_512 mw_513 mw_514 mw_2 mw_515) rfl rfl rfl (by decide +kernel) ⟨Nat.le_of_ble_eq_true rfl, Nat.le_of_ble_eq_true rfl⟩) ⟨PX_blind, va_recv hK hP (ci := 0) (q0 := 8 + u) rfl (at_L hu), fun U hU hW => ⟨rfl, PX_at hU hW hP hK hD⟩⟩ rfl rfl hl.1 rfl (lv_room (Nat.le_of_ble_eq_true rfl)) d_L_beginDay_12 ⟨Nat.le_of_ble_eq_true rfl, Nat.le_of_ble_eq_true rfl⟩) hS (fun q _ h => AX_up hA1 q h) (AX_up hA1) (fun t9 tq H1 locs ht hvm hw8 hB hz1 hk1 hS => ?_)
        obtain ⟨hP, hD⟩ := BX_back ht hB (AX_up hA1)
        generalize H1 = H at hP hS ⊢
        rw [hw8] at hP hD
        refine lv_iinc (v := nI (a + 1)) (lv' := [(3, .int (nI (a + 1))), (0, .ref (ad (8 + u))), (1, .int (d)), (2, .ref (ad (3)))]) hx hb d_L_beginDay_15 hl (k := 3) rfl (nI_1 _) (by decide) rfl (fun ls hl => ?_)
        refine lv_goto (tgt := 2) hx hb d_L_beginDay_18 (by decide) ?_
        exact ih (a + 1) (L_dayOf t1 u a d) H _ ls (by omega) (by omega) (OKX_dayOf ho) (lp_next hlt hF rfl) hP hD hS (lv_sub hl [1, 2, 3, 0] rfl)
  exact hloop (12 + 1) 0 t s.heap _ ls (by omega) (by omega) ho rfl hP hD hS (lv_sub hl [1, 2, 3, 0] rfl)
end
section
/-! throwing: what a method that may throw takes as given, and how it leaves -/
def NB : List Cond := [.castable "java/lang/IllegalArgumentException" "java/lang/IllegalArgumentException", .castable "java/lang/IllegalStateException" "java/lang/IllegalStateException", .castable "java/lang/UnsupportedOperationException" "java/lang/UnsupportedOperationException", .castable "java/util/NoSuchElementException" "java/util/NoSuchElementException", .castable "java/lang/IndexOutOfBoundsException" "java/lang/IndexOutOfBoundsException",
  .declares ⟨"java/lang/RuntimeException", "<init>", "()V"⟩, .declares ⟨"java/lang/RuntimeException", "<init>", "(Ljava/lang/String;)V"⟩, .declares ⟨"java/lang/Exception", "<init>", "()V"⟩, .declares ⟨"java/lang/Exception", "<init>", "(Ljava/lang/String;)V"⟩, .declares ⟨"java/lang/Throwable", "<init>", "()V"⟩, .declares ⟨"java/lang/Throwable", "<init>", "(Ljava/lang/String;)V"⟩]
theorem NB_ot : ∀ w ∈ NB, w.onTables = true := by decide +kernel
theorem Nw_decl {x : MethodName} {s U : State} (hW : s.WarmedH U.vm) (hZ : va_Nw (.declares x) s) : va_Nw (.declares x) U := va_tabs rfl (rfl : (s.setVm U.vm).vm = U.vm) (by rw [Cond.declares_setVm hW.alike]; exact hZ)
theorem NB_warm {s U : State} (hW : s.WarmedH U.vm) (h : ∀ w ∈ NB, va_Nw w s) : ∀ w ∈ NB, va_Nw w U := by
  intro w hw
  have h9 := h w hw
  simp only [NB, List.mem_cons, List.not_mem_nil, or_false] at hw
  rcases hw with rfl | rfl | rfl | rfl | rfl | rfl | rfl | rfl | rfl | rfl | rfl <;> first | exact va_Nw.warmC hW h9 | exact Nw_decl hW h9
def STRS : List (Nat × String) := [(252, "a number is not as said"), (56, "there is a subscription"), (67, "the address is banned"), (92, "nothing waits for this code"), (248, "there is no subscription"), (105, "the subscription is not confirmed"), (140, "there is no room for another post"), (146, "the sender may not post here"), (164, "no such post is held"), (169, "only a moderator of the list may judge"), (178, "the subscription is not live"), (196, "the subscription is not stopped"), (209, "nothing is kept there")]
def ZX (ad : Nat → Nat) (sz : Nat) (sa : Nat → Nat) (U : State) : Prop := (∀ w ∈ NB, va_Nw w U) ∧ vx_Zq Bundle.tN "UNASSIGNED_STACK" Bundle.steD (AX ad sz) U U.heap ∧ vx_Zq Bundle.tN "SUPPRESSED_SENTINEL" Bundle.listD (AX ad sz) U U.heap ∧ ∀ q ∈ STRS, vk_R "ListForge" q.1 q.2 (sa q.1) U
theorem ZX_at {ad : Nat → Nat} {sa : Nat → Nat} {s U : State} {H : Heap} {locs : List Loc} (hU : U.heap = H) (hW : s.WarmedH U.vm) (h : ZX ad s.heap.size sa s) (hS : va_S (AX ad s.heap.size) s.heap H locs) : ZX ad H.size sa U := by
  refine ⟨NB_warm hW h.1, ?_, ?_, fun q hq => vk_R.warm hW (h.2.2.2 q hq)⟩
  · rw [hU]; exact (vx_Zq.moved hW.alike (h.2.1.kept hS.2.1)).narrow (AX_up hS.1)
  · rw [hU]; exact (vx_Zq.moved hW.alike (h.2.2.1.kept hS.2.1)).narrow (AX_up hS.1)
def PZ (D : va_G) (ad : Nat → Nat) (ka : Nat → ClassId) (sa : Nat → Nat) (sz : Nat) (t : Mem) (U : State) : Prop := PX D ad ka sz t U ∧ ZX ad sz sa U
theorem PZ_blind {D : va_G} {ad : Nat → Nat} {ka : Nat → ClassId} {sa : Nat → Nat} {sz : Nat} {t : Mem} {av : List Value} : FrameBlind (va_Pc av (PZ D ad ka sa sz t)) := fun a U g mk q => by
  obtain ⟨q0, ⟨q1, qP, qK, qD⟩, z1, z2, z3, z4⟩ := q
  exact ⟨q0, ⟨q1, qP, va_K.moved (u := U) (U := U.calling g mk a) (Vm.Alike.refl U.vm) qK, qD⟩, fun w hw => va_Nw.same (NB_ot w hw) (u := U) rfl (z1 w hw), vx_Zq.moved (u := U) (U := U.calling g mk a) (Vm.Alike.refl U.vm) z2, vx_Zq.moved (u := U) (U := U.calling g mk a) (Vm.Alike.refl U.vm) z3, fun q hq => vk_R.same (u := U) rfl (z4 q hq)⟩
def XT (D : va_G) (ad : Nat → Nat) (ka : Nat → ClassId) (sz : Nat) (t : Mem) (P : String → Prop) : String → State → State → Prop := vx_X (S := Unit) (fun _ => True) (fun E _ U => P E ∧ BX D ad ka sz t U) (AX ad sz)
theorem XT_at {D : va_G} {ad : Nat → Nat} {ka : Nat → ClassId} {t : Mem} {P : String → Prop} {E : String} {s t9 : State} {H : Heap} {locs : List Loc} (hP : va_P D cls (cw ad ka t) H) (hK : va_K D cls (cT ka) s) (hD : va_D (AX ad s.heap.size) (cw ad ka t)) (hS : va_S (AX ad s.heap.size) s.heap H locs) (hE : P E) (ha : s.vm.Alike t9.vm) (hz : H.size ≤ t9.heap.size) (hk : ∀ q : Nat, q < H.size → t9.heap[q]? = H[q]?) : XT D ad ka s.heap.size t P E s t9 :=
  ⟨(), trivial, ⟨hE, hP.kept (fun k q h9 => hk q.1 (hP k q h9).lt), va_K.moved ha hK, hD⟩, ⟨Nat.le_trans hS.1 hz, fun q h1 h2 => (hk q (Nat.lt_of_lt_of_le h1 hS.1)).trans (hS.2.1 q h1 h2)⟩⟩
theorem XT_out {D : va_G} {ad : Nat → Nat} {ka : Nat → ClassId} {t : Mem} {P : String → Prop} {E : String} {s t9 tq : State} {H1 : Heap} {locs : List Loc} {sz : Nat} (ht : tq.heap = H1) (hB : BX D ad ka sz t tq) (hA : ∀ q, AX ad sz q → AX ad s.heap.size q) (hK : va_K D cls (cT ka) s) (hS : va_S (AX ad s.heap.size) s.heap H1 locs) (hE : P E) (e9 : t9.heap = H1) (a9 : s.vm.Alike t9.vm) : XT D ad ka s.heap.size t P E s t9 :=
  ⟨(), trivial, ⟨hE, by rw [e9, ← ht]; exact hB.1, va_K.moved a9 hK, hB.2.2.weaken (fun _ q _ z => hA q.1 z)⟩, hS.F e9⟩
theorem vx_callr {p : Program} {l : Launch} {e : Env} {R : Room} {s : State} {m : MethodId} {args : Array Value} {below : List Frame} {meth : Method} {c : Code} {H : Heap} {locs : List Loc} {cells slots : Nat} {Q : State → Prop} {mc ms : Nat} {free : Addr → Prop} {A0 A1 : Nat → Prop} {H0 : Heap} {a : Array Value} {pc : Nat} {ls : Array Slot} {st0 rest : List Value} {S SX : Type} {post : S → Prop} {px : SX → Prop} {B : S → Nat → State → Prop} {BX : String → SX → State → Prop} {AX : Nat → Prop} (hr : vx_Run p l e R s m args below meth c H locs cells slots mc ms (F0 m pc ls st0) rest (va_Qr post B A1 a) (vx_X px BX AX) free) (hS : va_S A0 H0 H locs) (hA : ∀ q, q < H.size → A1 q → A0 q) (hf : ∀ q, free q → A0 q) (hAX : ∀ q, q < H.size → AX q → A0 q)
    (kx : ∀ (E : String) (ce : Cell) (q9 : Addr) (u : SX) (t : State) (H1 : Heap) (locs1 : List Loc), t.heap = H1 → s.vm.Alike t.vm → px u → BX E u t → H.size ≤ H1.size → (∀ q : Nat, q < H.size → ¬ AX q → H1[q]? = H[q]?) → va_S A0 H0 H1 locs1 → H1[q9]? = some ce → ce.vm = .none → s.vm.findClass E = some ce.cls → vx_W p l e R s m args below meth c H1 locs1 (cells + mc) (slots + ms) Q (F0 m pc ls rest) q9)
    (kk : ∀ (u : S) (ra : Nat) (t : State) (H1 : Heap) (locs1 : List Loc), t.heap = H1 → s.vm.Alike t.vm → post u → B u ra t → H.size ≤ H1.size → (∀ q : Nat, q < H.size → ¬ A1 q → H1[q]? = H[q]?) → va_S A0 H0 H1 locs1 → W p l e R s m args below meth c H1 locs1 (cells + mc) (slots + ms) Q (F0 m (pc + 3) ls (.ref ra :: rest))) : W p l e R s m args below meth c H locs cells slots Q (F0 m pc ls st0) := by
  intro T hT X
  rcases hr T hT X with ⟨v, st₀, t, T', L, h0, X', hL, e1, e2, ⟨⟨u, r, hv, hp, hb⟩, hF⟩, st⟩ | ⟨q, st₀, t, T', L, E, ce, h0, X', hL, e1, e2, ⟨u, hp, hb, hF⟩, hce, hcv, hcl, st⟩
  · cases hv
    obtain ⟨k1, k2, k3⟩ := vx_keep h0 e1 hS hA hf hL hF
    obtain ⟨t2, a1, b1⟩ := kk u r t T'.heap (locs ++ L) e1.symm (by rw [← e2]; exact X'.warmed.alike) hp hb k1 k2 k3 T' rfl X'
    exact ⟨t2, st t2 a1, b1⟩
  · obtain ⟨k1, k2, k3⟩ := vx_keep h0 e1 hS hAX hf hL hF
    obtain ⟨t2, a1, b1⟩ := kx E ce q u t T'.heap (locs ++ L) e1.symm (by rw [← e2]; exact X'.warmed.alike) hp hb k1 k2 k3 (by rw [e1]; exact hce) hcv hcl T' rfl X'
    exact ⟨t2, st.trans a1, b1⟩
/-- the words of each 'throw new E(text)' in ListForge -/
abbrev RTE : List String := ["java/lang/RuntimeException", "java/lang/Exception"]
theorem hatO {args : Array Value} {s : State} {c0 : Cond} {L : List Cond} (hts : ∀ w ∈ c0 :: big, w.before args s = true) (hz : ∀ w ∈ NB, va_Nw w s) (h1 : ∀ w ∈ L.filter goodWord, w ∈ big) (h2 : ∀ w ∈ L.filter (fun w => !goodWord w), w ∈ NB) : ∀ w ∈ L, w.before args s = true :=
  vx_hat (fun w hw => bg hts (h1 w hw)) h2 (fun w hw => va_Nw.use (NB_ot w hw) (hz w hw))
abbrev e_IAE : String := "java/lang/IllegalArgumentException"
theorem ag_IAE : ∀ w ∈ (vx_atS "ListForge" 254 e_IAE RTE).filter goodWord, w ∈ big := by decide +kernel
theorem an_IAE : ∀ w ∈ (vx_atS "ListForge" 254 e_IAE RTE).filter (fun w => !goodWord w), w ∈ NB := by decide +kernel
theorem ao_IAE : ∀ w ∈ Cond.classLink "ListForge" 250 e_IAE :: Cond.initialized e_IAE :: vx_atS "ListForge" 254 e_IAE RTE, vx_ot w = true := by decide +kernel
abbrev e_ISE : String := "java/lang/IllegalStateException"
theorem ag_ISE : ∀ w ∈ (vx_atS "ListForge" 58 e_ISE RTE).filter goodWord, w ∈ big := by decide +kernel
theorem an_ISE : ∀ w ∈ (vx_atS "ListForge" 58 e_ISE RTE).filter (fun w => !goodWord w), w ∈ NB := by decide +kernel
theorem ao_ISE : ∀ w ∈ Cond.classLink "ListForge" 54 e_ISE :: Cond.initialized e_ISE :: vx_atS "ListForge" 58 e_ISE RTE, vx_ot w = true := by decide +kernel
abbrev e_UOE : String := "java/lang/UnsupportedOperationException"
theorem ag_UOE : ∀ w ∈ (vx_atS "ListForge" 69 e_UOE RTE).filter goodWord, w ∈ big := by decide +kernel
theorem an_UOE : ∀ w ∈ (vx_atS "ListForge" 69 e_UOE RTE).filter (fun w => !goodWord w), w ∈ NB := by decide +kernel
theorem ao_UOE : ∀ w ∈ Cond.classLink "ListForge" 65 e_UOE :: Cond.initialized e_UOE :: vx_atS "ListForge" 69 e_UOE RTE, vx_ot w = true := by decide +kernel
abbrev e_NSE : String := "java/util/NoSuchElementException"



abbrev e_IOE : String := "java/lang/IndexOutOfBoundsException"
theorem ag_IOE : ∀ w ∈ (vx_atS "ListForge" 211 e_IOE RTE).filter goodWord, w ∈ big := by decide +kernel
theorem an_IOE : ∀ w ∈ (vx_atS "ListForge" 211 e_IOE RTE).filter (fun w => !goodWord w), w ∈ NB := by decide +kernel
theorem ao_IOE : ∀ w ∈ Cond.classLink "ListForge" 207 e_IOE :: Cond.initialized e_IOE :: vx_atS "ListForge" 211 e_IOE RTE, vx_ot w = true := by decide +kernel
end
section
/-! 'throw new NoSuchElementException(text)': its constructor passes the text on by the link 13. Follows the library's Stand.ctorThrowS (JvmDerived/BundleOwnThrow.lean). -/
theorem nt_0 : decode prog_16_method_4_code 0 = .ok (.aload_n 0, 1) := by decide +kernel
theorem nt_1 : decode prog_16_method_4_code 1 = .ok (.aload_n 1, 1) := by decide +kernel
theorem nt_2 : decode prog_16_method_4_code 2 = .ok (.invokespecial 13, 3) := by decide +kernel
theorem nt_5 : decode prog_16_method_4_code 5 = .ok (.return_, 1) := by decide +kernel
def nt_atoms (own : String) (ic : Nat) (X : String) : List Cond :=
  Bundle.throwableAtoms ++ Bundle.throwableSAtoms ++ Bundle.passSAtoms X "java/lang/RuntimeException" 13 prog_16_method_4_code ++ Bundle.chainSAtoms "java/lang/RuntimeException" ["java/lang/Exception"] ++
  [.methodLink own ic (Bundle.initS X), .instantiable X 6, .castable X X, .selects X Bundle.tFill0 Bundle.tFill0, .selects X Bundle.tFill Bundle.tFill,
   .lays X Bundle.tN "cause" "Ljava/lang/Throwable;", .lays X Bundle.tN "stackTrace" Bundle.steD, .lays X Bundle.tN "suppressedExceptions" Bundle.listD, .lays X Bundle.tN "detailMessage" "Ljava/lang/String;",
   .isRef (.static Bundle.tN "UNASSIGNED_STACK" Bundle.steD), .isRef (.static Bundle.tN "SUPPRESSED_SENTINEL" Bundle.listD),
   .fieldLink Bundle.tN 198 Bundle.tN "backtrace" "Ljava/lang/Object;", .lays Bundle.tN Bundle.tN "backtrace" "Ljava/lang/Object;", .lays X Bundle.tN "backtrace" "Ljava/lang/Object;"]
set_option maxHeartbeats 1000000 in
theorem nt_ctor {p : Program} {l : Launch} {e : Env} {R : Room} {s : State} {m₀ : MethodId} {args : Array Value} {below : List Frame} {meth : Method} {c : Code} {W : State} {locs : List Loc} {cells slots : Nat} (X : Stand p l e R s m₀ args below meth c W locs cells slots) (hexec : p.tables.exec = Jvm.exec) (htr : e.platform.stackTraces = false) {own cls : String} {ic : Nat}
    (hown : s.vm.findClass own = some m₀.cls) (hcls : Bundle.fit cls = true) 
    (h : ∀ a ∈ nt_atoms own ic cls, a.before args s = true)
    (hlocs : ∀ x ∈ locs, ∀ cell, s.heap[x.base]? = some cell → cell.vm.isStatics = false)
    {a : Addr} {cX : ClassId} {kX : Class} (hfoundX : s.vm.findClass cls = some cX) (hkX : s.vm.classes[cX]? = some kX) (hcell : W.heap[a]? = some (freshCell cX kX)) (hnew : s.heap.size ≤ a)
    {msg : Value} (hmsg : msg.isRef = true)
    {g : JFrame} (hg : g.method = m₀) (hsize : g.locals.size = c.maxLocals) (hlocked : g.locked = none) (hentered : g.entered = []) {rest : List Value} (hstack : g.stack = msg :: .ref a :: .ref a :: rest)
    (hd6 : decode c.code g.pc = .ok (.invokespecial ic, 3)) (hd9 : decode c.code (g.pc + 3) = .ok (.athrow, 1)) (hout : ∀ x ∈ c.exceptionTable.toList, covers x (g.pc + 3) = false)
    (hRframes : 2 + 3 < R.frames) (hRlocals : 2 * g.monitorRoom + ((Value.ref a :: rest).map fun v => v.category).sum + (13 * (2 + 1) + 42) ≤ R.locals) (hlocks : meth.locks = false := by first | assumption | exact BodyLoose.notSynchronized (by assumption) | exact Body.notSynchronized (by assumption)) :
    ∃ U : State, Steps p.tables e below (W.setTop g) U ∧ U.status = .running ∧ Ended U below (.threw a) ∧ s.WarmedH U.vm ∧ s.sameButNew ({ U with vm := s.vm } : State) locs cells slots ∧
      ∃ ce, U.heap[a]? = some ce ∧ Bundle.OwnCell args s cls a msg ce := by
  have howns : e.platform.frameOwnsMonitors = true := by rw [X.admits.platform]
  have hfin : e.platform.finalization = false := by rw [X.admits.platform]
  have hpl : e.platform.magicAccessors = ({} : Platform).magicAccessors := by rw [X.admits.platform]
  have a' : ∀ x, x ∈ nt_atoms own ic cls → x.holds args s none s [] = true := fun x hx => h x hx
  obtain ⟨T, Z0, L, -, Y⟩ := ThrowableC.of_atoms (args := args) howns hfin hpl (fun x hx => h x (by simp [nt_atoms, hx]))
  obtain ⟨Z, M, LZ, LM, hnZ⟩ := Init0T.ofS_atoms (args := args) hpl L Y (fun x hx => h x (by simp [nt_atoms, hx]))
  obtain ⟨P1, L1, hP1m, hP1s⟩ := PassC.ofS_atoms (args := args) (s := s) hpl (X := cls) (Y := "java/lang/RuntimeException") (index := 13) (bytes := prog_16_method_4_code) (Bundle.fit_spec hcls).1 (by decide) nt_0 nt_1 nt_2 nt_5 (fun x hx => h x (by simp [nt_atoms, hx]))
  obtain ⟨P2, Ps2, hlen2, L2, hL2, hP2m, hk2, hlink2⟩ := Bundle.chainS (args := args) hpl hnZ ["java/lang/Exception"] "java/lang/RuntimeException" (by decide) (by decide) (fun x hx => h x (by simp [nt_atoms, hx]))
  obtain ⟨Ps, hPs⟩ : ∃ z, z = P2 :: Ps2 := ⟨_, rfl⟩
  have hlen : Ps.length = 2 := by rw [hPs, List.length_cons, hlen2]; rfl
  have hL : ∀ P, P ∈ Ps → P.LinksS e.platform s := fun P hP => by
    rw [hPs] at hP
    rcases List.mem_cons.mp hP with rfl | hP
    · exact L2
    · exact hL2 P hP
  have hlink1 : P1.sup = firstOf (Z.m T.toThrowableT) (Ps.map (·.toPassT)) := by rw [hPs]; exact Option.some.inj (hP1s.symm.trans hP2m)
  have hlink : PassesOn (Z.m T.toThrowableT) (Ps.map (·.toPassT)) := by rw [hPs]; exact ⟨hk2, hlink2⟩
              
  have hfound : s.vm.findClass cls = some P1.m.cls := findClass_of_methodNamed hP1m
  cases Option.some.inj (hfoundX.symm.trans hfound)
  obtain ⟨c1, kX', hc1, hk, hord, -, -, hn6⟩ := Cond.instantiable_spec (a' (.instantiable cls 6) (by simp [nt_atoms]))
  cases Option.some.inj (hc1.symm.trans hfound)
  cases Option.some.inj (hkX.symm.trans hk)
  have hsel0 : selectMethod e.platform s.vm P1.m.cls T.fill0 = .method T.fill0 := by
    obtain ⟨c2, r2, m2, q1, q2, q3, q4, -⟩ := Cond.selects_spec (a' (.selects cls Bundle.tFill0 Bundle.tFill0) (by simp [nt_atoms]))
    cases Option.some.inj (q1.symm.trans hfound)
    cases Option.some.inj (q2.symm.trans (State.methodFound?_of_named Y.fill0 (by decide)))
    cases Option.some.inj (q3.symm.trans Y.fill0)
    rw [Launch.admits_selectMethod X.admits]; exact q4
  have hselF : selectMethod e.platform s.vm P1.m.cls T.fill = .method T.fill := by
    obtain ⟨c2, r2, m2, q1, q2, q3, q4, -⟩ := Cond.selects_spec (a' (.selects cls Bundle.tFill Bundle.tFill) (by simp [nt_atoms]))
    cases Option.some.inj (q1.symm.trans hfound)
    cases Option.some.inj (q2.symm.trans (State.methodFound?_of_named Y.fill (by decide)))
    cases Option.some.inj (q3.symm.trans Y.fill)
    rw [Launch.admits_selectMethod X.admits]; exact q4
  obtain ⟨cellS0, hcS0, hiss⟩ := Y.statics
  obtain ⟨u0, hu0⟩ := Cond.staticRefV Y.unassigned L.unassignedStatic L.statics hcS0 hiss (a' (.isRef (.static Bundle.tN "UNASSIGNED_STACK" Bundle.steD)) (by simp [nt_atoms]))
  obtain ⟨sen, hsen⟩ := Cond.staticRefV Y.sentinel L.sentinelStatic L.statics hcS0 hiss (a' (.isRef (.static Bundle.tN "SUPPRESSED_SENTINEL" Bundle.listD)) (by simp [nt_atoms]))
  obtain ⟨ci198, i198, fB, hk198, hg198, ha198, hsB, -, hnB, htB, hffB⟩ := Cond.ownField (t := .object "java/lang/Object") Y.found L.cls (by decide +kernel) (a' (.fieldLink Bundle.tN 198 Bundle.tN "backtrace" "Ljava/lang/Object;") (by simp [nt_atoms])) (a' (.lays Bundle.tN Bundle.tN "backtrace" "Ljava/lang/Object;") (by simp [nt_atoms])) e.platform hpl
  obtain ⟨cellS, hcS', heS, -, hkeep⟩ := X.same.2.2.2.2.2 T.aS cellS0 hcS0
  have hcellS : W.heap[T.aS]? = some cellS := hcS'
  have hout' : ∀ i, (⟨T.aS, i⟩ : Loc) ∉ locs := fun i hmem => by
    have := hlocs _ hmem cellS0 hcS0
    rw [hiss] at this; cases this
  have hknownS : cellS.vm ≠ .unknown := by
    rw [heS]; intro hu
    rw [show cellS0.vm = .unknown from hu] at hiss
    cases hiss
  have hneS : T.aS ≠ a := Nat.ne_of_lt (Nat.lt_of_lt_of_le (Array.getElem?_eq_some_iff.mp hcS0).1 hnew)
  obtain ⟨iM, hffM⟩ := Y.msg
  obtain ⟨tyC, dC, hdC, hdnC⟩ := Cond.laysAt hfound hk Y.cause (a' (.lays cls Bundle.tN "cause" "Ljava/lang/Throwable;") (by simp [nt_atoms]))
  obtain ⟨tyS, dS, hdS, hdnS⟩ := Cond.laysAt hfound hk Y.stack (a' (.lays cls Bundle.tN "stackTrace" Bundle.steD) (by simp [nt_atoms]))
  obtain ⟨tyP, dP, hdP, hdnP⟩ := Cond.laysAt hfound hk Y.supp (a' (.lays cls Bundle.tN "suppressedExceptions" Bundle.listD) (by simp [nt_atoms]))
  obtain ⟨tyM, dM, hdM, hdnM⟩ := Cond.laysAt hfound hk hffM (a' (.lays cls Bundle.tN "detailMessage" "Ljava/lang/String;") (by simp [nt_atoms]))
  obtain ⟨tyB, dB, hdB, hdnB⟩ := Cond.laysAt hfound hk hffB (a' (.lays cls Bundle.tN "backtrace" "Ljava/lang/Object;") (by simp [nt_atoms]))
  have bC := Cond.laysApart hdB hdC hdnB hdnC (by rw [hnB, Y.causeName]; decide)
  have bS := Cond.laysApart hdB hdS hdnB hdnS (by rw [hnB, Y.stackName]; decide)
  have bP := Cond.laysApart hdB hdP hdnB hdnP (by rw [hnB, Y.suppName]; decide)
  have hskip : SkipFacts T e.platform s (fun u => u) u0 ((preparedCellV T.toThrowableT (freshCell P1.m.cls kX) a u0 sen).withEntry W.cur) :=
    ⟨{ ci198 := ci198, i198 := i198, fBack := fB }, ⟨hk198, hg198, ha198, hsB⟩, by
      have := fresh_default (c := P1.m.cls) tyB
      rw [htB] at this
      simpa [preparedCellV, Cell.setSlot, Cell.withEntry, Array.getElem?_setIfInBounds, bC, bS, bP, bC.symm, bS.symm, bP.symm, defaultValue] using this, fun _ _ => rfl⟩
                                     
  obtain ⟨tm, methC, cdC, kC, vm₁, hnC, -, -, -, -, -, -, -, hW₁, st1⟩ := Steps.initColdS (tb := p.tables) (e := e) (below := below) (s := s) (U := W) X.here hexec X.warmed hpl hown (t := Bundle.initS cls) rfl rfl (Bundle.fit_spec hcls).2
    (a' (.methodLink own ic (Bundle.initS cls)) (by simp [nt_atoms])) (h (.instanceMethod (Bundle.initS cls)) (by simp [nt_atoms, Bundle.passSAtoms])) (bytes := prog_16_method_4_code) (maxL := 2) (h (.code (Bundle.initS cls) prog_16_method_4_code 2 none) (by simp [nt_atoms, Bundle.passSAtoms]))
    (f := g) hg (a := a) (msg := msg) (rest := .ref a :: rest) hstack hd6
  cases Option.some.inj (hnC.symm.trans hP1m)
  have X₁ := X.noted hW₁
                                 
  obtain ⟨vm₂, X₂, st2⟩ := X₁.ctorMessageOffV hexec (g := { g with stack := .ref a :: rest }) hg hsize T L Z LZ M LM (P1 :: Ps)
    (fun P hP => by rcases List.mem_cons.mp hP with rfl | hP; exact L1; exact hL P hP) ⟨hlink1, hlink⟩ (u0 := u0) (sen := sen) (self := a) hmsg (cell := freshCell P1.m.cls kX) (cellS := cellS)
    hcell (fun _ => by simp) (by simp) rfl rfl hsel0 hselF hcellS hneS hknownS (by rw [hkeep _ (hout' _)]; exact hu0) (by rw [hkeep _ (hout' _)]; exact hsen)
    (Takes.of_laid hk hord tyC (by rw [Y.causeType]; rfl)) (Takes.of_laid hk hord tyS (by rw [Y.stackType]; exact fits_refV_array _ u0)) (Takes.of_laid hk hord tyP (by rw [Y.suppType]; exact fits_refV_object _ sen))
    (Takes.of_laid hk hord tyM (by rw [Y.msgType]; exact fits_refV_object _ ⟨msg, hmsg⟩)) Y.objLocals hskip htr [] hd6
    (by simp only [List.length_cons, hlen]; omega) (by simp only [List.length_cons, hlen]; exact hRlocals)
                                    
  obtain ⟨hwalk, hrun, hended, hWU, hsame⟩ := X₂.athrowLeaves hexec (g := { g with stack := .ref a :: rest, pc := g.pc + 3 }) hg hlocked hentered hout (a := a) (rest := rest) rfl hd9
  obtain ⟨c3, c4, hc3, hc4, hasg⟩ := Cond.castable_spec (a' (.castable cls cls) (by simp [nt_atoms]))
  cases Option.some.inj (hc3.symm.trans hfound)
  cases Option.some.inj (hc4.symm.trans hfound)
  have hlt : a < ((W.setVm vm₁).setVm vm₂).heap.size := (Array.getElem?_eq_some_iff.mp hcell).1
  have hU := heapAt_setCell_self (s := (W.setVm vm₁).setVm vm₂) (plainBareV T.toThrowableT (freshCell P1.m.cls kX) a u0 sen msg) hlt
  have hnM : T.fMsg.name = "detailMessage" := (State.fieldFound?_type hffM (t := .object "java/lang/String") (by decide +kernel)).1
  have nCS := Cond.laysApart hdC hdS hdnC hdnS (by rw [Y.causeName, Y.stackName]; decide)
  have nCP := Cond.laysApart hdC hdP hdnC hdnP (by rw [Y.causeName, Y.suppName]; decide)
  have nCM := Cond.laysApart hdC hdM hdnC hdnM (by rw [Y.causeName, hnM]; decide)
  have nSP := Cond.laysApart hdS hdP hdnS hdnP (by rw [Y.stackName, Y.suppName]; decide)
  have nSM := Cond.laysApart hdS hdM hdnS hdnM (by rw [Y.stackName, hnM]; decide)
  have nPM := Cond.laysApart hdP hdM hdnP hdnM (by rw [Y.suppName, hnM]; decide)
  have lC : T.fCause.slot < kX.instanceTypes.size := (Array.getElem?_eq_some_iff.mp tyC).1
  have lS : T.fStack.slot < kX.instanceTypes.size := (Array.getElem?_eq_some_iff.mp tyS).1
  have lP : T.fSupp.slot < kX.instanceTypes.size := (Array.getElem?_eq_some_iff.mp tyP).1
  have lM : T.fMsg.slot < kX.instanceTypes.size := (Array.getElem?_eq_some_iff.mp tyM).1
  have evU : ∀ o, (Term.static Bundle.tN "UNASSIGNED_STACK" Bundle.steD).eval args s o [] s = some u0.v := by
    intro o
    simp [Term.eval, State.fieldNamed?, Y.unassigned, L.unassignedStatic, L.statics, hcS0, hiss, hu0]
  have evS : ∀ o, (Term.static Bundle.tN "SUPPRESSED_SENTINEL" Bundle.listD).eval args s o [] s = some sen.v := by
    intro o
    simp [Term.eval, State.fieldNamed?, Y.sentinel, L.sentinelStatic, L.statics, hcS0, hiss, hsen]
  refine ⟨_, st1 _ (fun acts => ?_), hrun, hended, hWU, hsame.weaken (fun y hy hlt' => ?_) (Nat.le_refl _) (Nat.le_refl _), _, hU, ?_⟩
  · rw [doInvoke_state]
    exact st2 _ hwalk
  · rcases List.mem_append.mp hy with h1 | h1
    · exact h1
    · exfalso
      have hb : y.base = a := by
        simp only [List.mem_cons, List.not_mem_nil, or_false] at h1
        rcases h1 with rfl | rfl | rfl | rfl | rfl <;> rfl
      rw [hb] at hlt'
      exact Nat.not_lt.mpr hnew hlt'
  · exact { cls := hfound, self := hasg, monitor := rfl, hash := rfl, vm := rfl, size := by simp [plainBareV, preparedCellV, Cell.setSlot, hn6]
            cause := ⟨_, _, _, _, Y.cause, by simp [plainBareV, preparedCellV, Cell.setSlot, nCS.symm, nCP.symm, nCM.symm, lC]⟩
            stack := ⟨_, _, _, _, u0, Y.stack, by simp [plainBareV, preparedCellV, Cell.setSlot, nSM.symm, lS], evU⟩
            supp := ⟨_, _, _, _, sen, Y.supp, by simp [plainBareV, preparedCellV, Cell.setSlot, nSP, nPM.symm, lP], evS⟩
            msg := ⟨_, _, _, _, hffM, by simp [plainBareV, preparedCellV, Cell.setSlot, lM]⟩
            other := fun O f d c k i fd hf hy n1 n2 n3 n4 => by
              obtain ⟨ty, dd, hdd, hddn⟩ := Cond.laysAt hfound hk hf hy
              have m1 := Cond.laysApart hdd hdC hddn hdnC (by rw [Y.causeName]; exact n1)
              have m2 := Cond.laysApart hdd hdS hddn hdnS (by rw [Y.stackName]; exact n2)
              have m3 := Cond.laysApart hdd hdP hddn hdnP (by rw [Y.suppName]; exact n3)
              have m4 := Cond.laysApart hdd hdM hddn hdnM (by rw [hnM]; exact n4)
              have := fresh_default (c := P1.m.cls) ty
              simpa [plainBareV, preparedCellV, Cell.setSlot, Array.getElem?_setIfInBounds, m1, m2, m3, m4, m1.symm, m2.symm, m3.symm, m4.symm] using this }
def nt_at (own : String) (ic : Nat) (X : String) : List Cond := (nt_atoms own ic X).filter vx_no
theorem nt_throw {p : Program} {l : Launch} {e : Env} {R : Room} {s : State} {m : MethodId} {args : Array Value} {below : List Frame} {meth : Method} {c : Code} {H : Heap} {locs : List Loc} {cells slots : Nat} {free : Addr → Prop} {ls : Array Slot} {rest : List Value} {Qc : Array Value → State → Outcome → State → Prop} {XC : String → State → State → Prop} {cc : ByteArray} {pc : Nat} (hexec : p.tables.exec = Jvm.exec) (hb : c.code = cc) (hl : l.stackTraces = false) {own cls text : String} {ik is ic mc ms sa : Nat} {A : Nat → Prop}
    (hown : s.vm.findClass own = some m.cls) (hcls : Bundle.fit cls = true)
    (hk : (Cond.classLink own ik cls).before args s = true) (hini : (Cond.initialized cls).before args s = true) (hstr : vk_R own is text sa s) (hat : ∀ w ∈ nt_at own ic cls, w.before args s = true)
    (hgood : ∀ w ∈ Cond.classLink own ik cls :: Cond.initialized cls :: nt_at own ic cls, vx_ot w = true)
    (hU : vx_Zq Bundle.tN "UNASSIGNED_STACK" Bundle.steD A s s.heap) (hN : vx_Zq Bundle.tN "SUPPRESSED_SENTINEL" Bundle.listD A s s.heap) (hS : va_S A s.heap H locs) (hsize : ls.size = c.maxLocals)
    (d0 : decode cc pc = .ok (.new ik, 3)) (d3 : decode cc (pc + 3) = .ok (.dup, 1)) (d4 : decode cc (pc + 4) = .ok (.ldc is, 2)) (d6 : decode cc (pc + 6) = .ok (.invokespecial ic, 3)) (d9 : decode cc (pc + 9) = .ok (.athrow, 1))
    (hout : ∀ x ∈ c.exceptionTable.toList, covers x (pc + 9) = false)
    (hRframes : 2 + 3 < R.frames) (hRlocals : (rest.map fun v => v.category).sum + (13 * (2 + 1) + 43) ≤ R.locals) (hRcells : cells + 1 ≤ R.cells) (hRslots : slots + 6 ≤ R.slots) (hlocks : meth.locks = false)
    (hx : ∀ t : State, s.vm.Alike t.vm → H.size ≤ t.heap.size → (∀ q : Nat, q < H.size → t.heap[q]? = H[q]?) → XC cls s t)
    (hf : ∀ z ∈ locs, free z.base) (hc : cells + 1 ≤ mc) (hs : slots + 6 ≤ ms) :
    W p l e R s m args below meth c H locs cells slots (vx_MQ below Qc XC args s mc ms free) (F0 m pc ls rest) := by
  intro T hT X
  have htr : e.platform.stackTraces = false := (show e.platform.stackTraces = l.stackTraces by rw [X.admits.platform]).trans hl
  have Y := vx_rebase X (R' := { frames := R.frames, locals := R.locals, cells := 1, slots := 6 }) (Nat.le_refl _) (Nat.le_refl _) hRcells hRslots
  obtain ⟨s', hA⟩ : ∃ z, z = (T.setVm s.vm).setFrames (.invoking m args :: below) := ⟨_, rfl⟩
  rw [← hA] at Y
  have hvm : s'.vm = s.vm := by rw [hA]; rfl
  have hhp : s'.heap = H := by rw [hA]; exact hT
  have hW0 : s.WarmedH s'.vm := by rw [hvm]; exact State.WarmedH.refl s
  have hat' : ∀ w ∈ nt_at own ic cls, w.before args s' = true := fun w hw => vx_ot_at hW0 hvm.symm (hgood w (List.mem_cons_of_mem _ (List.mem_cons_of_mem _ hw))) (hat w hw)
  have hk' : (Cond.classLink own ik cls).before args s' = true := vx_ot_at hW0 hvm.symm (hgood _ List.mem_cons_self) hk
  have hini' : (Cond.initialized cls).before args s' = true := vx_ot_at hW0 hvm.symm (hgood _ (List.mem_cons_of_mem _ List.mem_cons_self)) hini
  have hU' : vx_Zq Bundle.tN "UNASSIGNED_STACK" Bundle.steD A s' s'.heap := by rw [hhp]; exact vx_Zq.moved hW0.alike (hU.kept hS.2.1)
  have hN' : vx_Zq Bundle.tN "SUPPRESSED_SENTINEL" Bundle.listD A s' s'.heap := by rw [hhp]; exact vx_Zq.moved hW0.alike (hN.kept hS.2.1)
  have h : ∀ w ∈ nt_atoms own ic cls, w.before args s' = true := vx_own hat' (vx_isRefq hU'.1) (vx_isRefq hN'.1) hU'.2.word hN'.2.word
  have hown' : s'.vm.findClass own = some m.cls := by rw [hvm]; exact hown
  have hins : (Cond.instantiable cls 6).before args s' = true := h _ (by simp [nt_atoms])
  obtain ⟨vm₁, cX, kX, hfX, hkX, -, -, X₁, st1⟩ := Y.newCold hexec (own := own) (C := cls) (index := ik) (n := 6) hown' hk' hins hini'
    (g := F0 m pc ls rest) rfl (by rw [hb]; exact d0) (Nat.le_refl _) (Nat.le_refl _)
  generalize hT1 : (T.setVm vm₁).pushCell { cls := cX, slots := kX.instanceTypes.map defaultValue, vm := .none } = T1 at X₁ st1
  have hcat : (Value.ref T.heap.size).category = 1 := rfl
  have hcellA : T1.heap[T.heap.size]? = some (freshCell cX kX) := by rw [← hT1]; exact State.heap_pushCell_size _ _
  have d3' : decode c.code (pc + 3) = .ok (.dup, 1) := by rw [hb]; exact d3
  have d4' : decode c.code (pc + 4) = .ok (.ldc is, 2) := by rw [hb]; exact d4
  have hstr' : vk_R own is text sa s' := vk_R.warm hW0 hstr
  obtain ⟨U, hsteps, hrun, hend, hW, hsame, ce, hce, hO⟩ := nt_ctor X₁ hexec htr (own := own) (cls := cls) (ic := ic) hown' hcls h (fun x hx => nomatch hx) hfX hkX hcellA (by rw [hhp, hT]; exact Nat.le_refl _) (msg := .ref sa) rfl
    (g := { method := m, pc := pc + 6, locals := ls, stack := .ref sa :: .ref T.heap.size :: .ref T.heap.size :: rest, locked := none }) rfl hsize rfl rfl (rest := rest) rfl
    (by rw [hb]; exact d6) (by rw [hb]; exact d9) hout hRframes (by simp only [List.map_cons, List.sum_cons, hcat]; omega) hlocks
  obtain ⟨f1, f2⟩ := vx_frame hsame
  rw [hhp] at f1 f2
  have hWs : s.WarmedH U.vm := State.WarmedH.trans hW0 hW
  have hcl : s.vm.findClass cls = some ce.cls := by
    have h9 := hO.cls
    rw [hvm] at h9
    exact h9
  have hall : s.sameButNew ({ U with vm := s.vm } : State) locs mc ms := by
    subst hA
    obtain ⟨e1, e2⟩ := hsame
    rw [State.setFrames_setFrames] at e1
    have h2 : (T.setVm s.vm).sameButNew ({ U with vm := s.vm } : State) [] (0 + 1) (0 + 6) := ⟨e1, e2⟩
    have h3 := X.same.trans h2
    rw [List.append_nil] at h3
    exact h3.mono hc hs
  refine ⟨U, ?_, .threw T.heap.size, hrun, hend, Or.inr ⟨T.heap.size, rfl, cls, ce, locs, hx U hWs.alike f1 (fun q hq => f2 q hq (fun z hz => nomatch hz)), hce, hO.vm, hcl, hWs, hall, hf⟩⟩
  refine st1 _ ?_
  show Steps p.tables e below (T1.setTop { method := m, pc := pc + 3, locals := ls, stack := .ref T.heap.size :: rest, locked := none }) _
  jvm_step X₁.here [X₁.here.top, hexec, d3', Value.category]
  exact X₁.ldcString hexec (own := own) (text := text) (index := is) (a := sa) hown' hstr'.1 hstr'.2
    (g := { method := m, pc := pc + 4, locals := ls, stack := .ref T.heap.size :: .ref T.heap.size :: rest, locked := none }) rfl d4' _ hsteps
theorem ag_NSE : ∀ w ∈ (nt_at "ListForge" 94 e_NSE).filter goodWord, w ∈ big := by decide +kernel
theorem an_NSE : ∀ w ∈ (nt_at "ListForge" 94 e_NSE).filter (fun w => !goodWord w), w ∈ NB := by decide +kernel
theorem ao_NSE : ∀ w ∈ Cond.classLink "ListForge" 90 e_NSE :: Cond.initialized e_NSE :: nt_at "ListForge" 94 e_NSE, vx_ot w = true := by decide +kernel
end
section
def isW (n lo hi : Int32) : Int32 := if n < lo then 0 else if hi < n then 0 else 1
def PLc (x a : Int32) : Prop := ¬ isW x 0 2 = 0 ∧ ¬ isW a 0 11 = 0
theorem isW_n {x M : Int32} {n : Nat} (hM : M.toInt = n) (h : ¬ isW x 0 M = 0) : ∃ u : Nat, u < n + 1 ∧ x = nI u := by
  unfold isW at h
  split at h
  · exact absurd rfl h
  · rename_i h1
    split at h
    · exact absurd rfl h
    · rename_i h2
      obtain ⟨j, hj, e⟩ := nI_of2 hM h1 (Int32.not_lt.mp h2)
      exact ⟨j, by omega, e⟩
theorem PL_of {x a : Int32} (h : PLc x a) : ∃ u : Nat, u < 3 ∧ x = nI u ∧ ∃ a0 : Nat, a0 < 12 ∧ a = nI a0 := by
  obtain ⟨u, hu, e⟩ := isW_n (n := 2) (by decide) h.1
  obtain ⟨b, hb, e2⟩ := isW_n (n := 11) (by decide) h.2
  exact ⟨u, hu, e, b, hb, e2⟩
set_option maxHeartbeats 4000000 in
set_option maxRecDepth 100000 in
theorem c_F_isWithin (l : Launch) (D : va_G) (ad : Nat → Nat) (ka : Nat → ClassId) (sz : Nat) (t : Mem) (n0 lo hi : Int32) : Met l y_F_isWithin (Cond.code y_F_isWithin b_F_isWithin 3 (some .boolean) :: big) ({ frames := 0, cells := 0, slots := 0, locals := 0 }) (va_Pc [.int (n0), .int (lo), .int (hi)] (PX D ad ka sz t)) (va_Qi (fun (r : Int32) (t' : Mem) => r = isW n0 lo hi ∧ t' = t) (BX D ad ka sz) (AX ad sz)) 0 0 (AX ad sz) := by
  refine Met.ofW (cc := b_F_isWithin) (maxL := 3) (ret := (some .boolean)) (by decide) rfl ?_
  intro p e s m args below meth c s₁ B hml hv
  obtain ⟨rfl, hsz, hP, hK, hD0⟩ := hv
  have hx := B.exec
  have hb := B.bytes
  have hr := B.returns
  have hlocks := B.notSynchronized
  have hts := atoms_spec (ws := Cond.code y_F_isWithin b_F_isWithin 3 (some .boolean) :: big) B.pre
  have hown : s.vm.findClass "ListForge" = some m.cls := findClass_of_methodNamed B.named
  subst hsz
  have hD : va_D (AX ad s.heap.size) (cw ad ka t) := AX_D hD0
  have hS : va_S (AX ad s.heap.size) s.heap s.heap [] := va_S.rf
  have hl := lv_entry ([.int (n0), .int (lo), .int (hi)]) (n := 3) (Nat.le_of_ble_eq_true rfl)
  rw [lg_entry_eq]
  generalize (lg_sl ([.int (n0), .int (lo), .int (hi)]) ++ List.replicate (3 - (lg_sl ([.int (n0), .int (lo), .int (hi)])).length) Slot.unset).toArray = ls at hl ⊢
  have hl : lv_has ls 3 [(0, .int (n0)), (1, .int (lo)), (2, .int (hi))] := hl

  refine lv_iload_n hx hb d_F_isWithin_0 rfl (lv_at hl 0 rfl) ?_
  refine lv_iload_n hx hb d_F_isWithin_1 rfl (lv_at hl 1 rfl) ?_
  refine lv_icmp_lt (tgt := 14) hx hb d_F_isWithin_2 (by decide) (fun c1 => ?_) (fun c1 => ?_)
  · have _u : True := trivial
    refine lv_iconst (v := 0) hx hb d_F_isWithin_14 (by decide) ?_
    exact W.zret (v := 0) hx hb hr rfl (fun t9 ht hW => ⟨⟨0, t, rfl, ⟨by simp [isW, c1], rfl⟩, BX_at ht hW hP hK hD⟩, hS.F ht⟩) hS.2.2 d_F_isWithin_15
  · have _u : True := trivial
    refine lv_iload_n hx hb d_F_isWithin_5 rfl (lv_at hl 0 rfl) ?_
    refine lv_iload_n hx hb d_F_isWithin_6 rfl (lv_at hl 2 rfl) ?_
    refine lv_icmp_gt (tgt := 14) hx hb d_F_isWithin_7 (by decide) (fun c2 => ?_) (fun c2 => ?_)
    · have _u : True := trivial
      refine lv_iconst (v := 0) hx hb d_F_isWithin_14 (by decide) ?_
      exact W.zret (v := 0) hx hb hr rfl (fun t9 ht hW => ⟨⟨0, t, rfl, ⟨by simp [isW, c1, c2], rfl⟩, BX_at ht hW hP hK hD⟩, hS.F ht⟩) hS.2.2 d_F_isWithin_15
    · have _u : True := trivial
      refine lv_iconst (v := 1) hx hb d_F_isWithin_10 (by decide) ?_
      refine lv_goto (tgt := 15) hx hb d_F_isWithin_11 (by decide) ?_
      exact W.zret (v := 1) hx hb hr rfl (fun t9 ht hW => ⟨⟨1, t, rfl, ⟨by simp [isW, c1, c2], rfl⟩, BX_at ht hW hP hK hD⟩, hS.F ht⟩) hS.2.2 d_F_isWithin_15
set_option maxHeartbeats 4000000 in
set_option maxRecDepth 100000 in
theorem c_F_require (l : Launch) (hl0 : l.stackTraces = false) (D : va_G) (ad : Nat → Nat) (ka : Nat → ClassId) (sa : Nat → Nat) (sz : Nat) (t : Mem) (z : Int32) : vx_Met l y_F_require (Cond.code y_F_require b_F_require 1 none :: big) ({ frames := 6, cells := 1, slots := 6, locals := 82 }) (va_Pc [.int (z)] (PZ D ad ka sa sz t)) (va_Qv (fun t' : Mem => t' = t ∧ ¬ z = 0) (BX D ad ka sz) (AX ad sz)) (XT D ad ka sz t (fun E => E = e_IAE ∧ z = 0)) 1 6 (AX ad sz) := by
  refine vx_ofW (cc := b_F_require) (maxL := 1) (ret := none) (by decide) rfl ?_
  intro p e s m args below meth c s₁ B hml hTb hv
  obtain ⟨rfl, ⟨hsz, hP, hK, hD0⟩, hZ⟩ := hv
  have hx := B.exec
  have hb := B.bytes
  have hr := B.returns
  have hlocks := B.notSynchronized
  have hts := atoms_spec (ws := Cond.code y_F_require b_F_require 1 none :: big) B.pre
  have hown : s.vm.findClass "ListForge" = some m.cls := findClass_of_methodNamed B.named
  subst hsz
  have hD : va_D (AX ad s.heap.size) (cw ad ka t) := AX_D hD0
  have hS : va_S (AX ad s.heap.size) s.heap s.heap [] := va_S.rf
  have hl := lv_entry ([.int (z)]) (n := 1) (Nat.le_of_ble_eq_true rfl)
  rw [lg_entry_eq]
  generalize (lg_sl ([.int (z)]) ++ List.replicate (1 - (lg_sl ([.int (z)])).length) Slot.unset).toArray = ls at hl ⊢
  have hl : lv_has ls 1 [(0, .int (z))] := hl

  refine lv_iload_n hx hb d_F_require_0 rfl (lv_at hl 0 rfl) ?_
  refine lv_if_ne (tgt := 14) hx hb d_F_require_1 (by decide) (fun c1 => ?_) (fun c1 => ?_)
  · have _u : True := trivial
    refine vx_ret (W.widen (k := 1) (n := 6) (by decide) (by decide) ?_)
    exact W.vret hx hb hr (fun t9 ht hW => ⟨⟨t, rfl, ⟨rfl, c1⟩, BX_at ht hW hP hK hD⟩, hS.F ht⟩) hS.2.2 d_F_require_14
  · have _u : True := trivial
    exact vx_throwS (names := RTE) (own := "ListForge") (cls := e_IAE) (text := "a number is not as said") hx hb hl0 hown (by decide) (by decide) (bg hts mw_213) (bg hts mw_10) (hZ.2.2.2 (252, "a number is not as said") (by decide)) (hatO hts hZ.1 ag_IAE an_IAE) ao_IAE hZ.2.1 hZ.2.2.1 hS (by rw [hml]; exact hl.1) d_F_require_4 d_F_require_7 d_F_require_8 d_F_require_10 d_F_require_13 (fun x hx9 => (hTb x hx9).elim) (by decide) (Nat.le_of_ble_eq_true rfl) (by decide) (by decide) hlocks (fun t9 a9 z9 k9 => XT_at hP hK hD hS ⟨rfl, c1⟩ a9 z9 k9) (fun z hz => hS.2.2 z hz) (by decide) (by decide)
set_option maxHeartbeats 4000000 in
set_option maxRecDepth 100000 in
theorem c_F_requirePlace (l : Launch) (hl0 : l.stackTraces = false) (D : va_G) (ad : Nat → Nat) (ka : Nat → ClassId) (sa : Nat → Nat) (sz : Nat) (t : Mem) (x a : Int32) : vx_Met l y_F_requirePlace (Cond.code y_F_requirePlace b_F_requirePlace 2 none :: big) ({ frames := 7, cells := 1, slots := 6, locals := 102 }) (va_Pc [.int (x), .int (a)] (PZ D ad ka sa sz t)) (va_Qv (fun t' : Mem => t' = t ∧ PLc x a) (BX D ad ka sz) (AX ad sz)) (XT D ad ka sz t (fun E => E = e_IAE ∧ ¬ PLc x a)) 1 6 (AX ad sz) := by
  refine vx_ofW (cc := b_F_requirePlace) (maxL := 2) (ret := none) (by decide) rfl ?_
  intro p e s m args below meth c s₁ B hml hTb hv
  obtain ⟨rfl, ⟨hsz, hP, hK, hD0⟩, hZ⟩ := hv
  have hx := B.exec
  have hb := B.bytes
  have hr := B.returns
  have hlocks := B.notSynchronized
  have hts := atoms_spec (ws := Cond.code y_F_requirePlace b_F_requirePlace 2 none :: big) B.pre
  have hown : s.vm.findClass "ListForge" = some m.cls := findClass_of_methodNamed B.named
  subst hsz
  have hD : va_D (AX ad s.heap.size) (cw ad ka t) := AX_D hD0
  have hS : va_S (AX ad s.heap.size) s.heap s.heap [] := va_S.rf
  have hl := lv_entry ([.int (x), .int (a)]) (n := 2) (Nat.le_of_ble_eq_true rfl)
  rw [lg_entry_eq]
  generalize (lg_sl ([.int (x), .int (a)]) ++ List.replicate (2 - (lg_sl ([.int (x), .int (a)])).length) Slot.unset).toArray = ls at hl ⊢
  have hl : lv_has ls 2 [(0, .int (x)), (1, .int (a))] := hl

  refine lv_iload_n hx hb d_F_requirePlace_0 rfl (lv_at hl 0 rfl) ?_
  refine lv_iconst (v := 0) hx hb d_F_requirePlace_1 (by decide) ?_
  refine lv_iconst (v := 2) hx hb d_F_requirePlace_2 (by decide) ?_
  have hA1 := hS.1
  refine va_calli (va_runS (As := [.int (x), .int (0), .int (2)]) (rest := []) ⟨hx, hb, hml, hown, hts⟩ (c_F_isWithin l D ad ka s.heap.size t x 0 2) (cwS 3 hts (gs mw_207 mw_208 mw_1 mw_209) rfl rfl rfl (by decide +kernel) ⟨Nat.le_of_ble_eq_true rfl, Nat.le_of_ble_eq_true rfl⟩) ⟨PX_blind, fun U hU hW => ⟨rfl, PX_at hU hW hP hK hD⟩⟩ rfl rfl hl.1 rfl (lv_room (Nat.le_of_ble_eq_true rfl)) d_F_requirePlace_3 ⟨Nat.le_of_ble_eq_true rfl, Nat.le_of_ble_eq_true rfl⟩) hS (fun q _ h => AX_up hA1 q h) (AX_up hA1) (fun r1 t3 tq H1 locs ht hvm hw2 hB hz1 hk1 hS => ?_)
  obtain ⟨hP, hD⟩ := BX_back ht hB (AX_up hA1)
  generalize H1 = H at hP hS ⊢
  obtain ⟨hwr, hwt⟩ := hw2
  rw [hwt] at hP hD
  rw [hwr]
  refine lv_if_eq (tgt := 23) hx hb d_F_requirePlace_6 (by decide) (fun c4 => ?_) (fun c4 => ?_)
  · have _u : True := trivial
    refine lv_iconst (v := 0) hx hb d_F_requirePlace_23 (by decide) ?_
    have hA1 := hS.1
    refine vx_callv (vx_runS (As := [.int (0)]) (rest := []) ⟨hx, hb, hml, hown, hts⟩ (c_F_require l hl0 D ad ka sa H.size t 0) (cwS 1 hts (gs mw_210 mw_211 mw_1 mw_212) rfl rfl rfl (by decide +kernel) ⟨Nat.le_of_ble_eq_true rfl, Nat.le_of_ble_eq_true rfl⟩) ⟨PZ_blind, fun U hU hW => ⟨rfl, PX_at hU hW hP hK hD, ZX_at hU hW hZ hS⟩⟩ rfl rfl hl.1 rfl (lv_room (Nat.le_of_ble_eq_true rfl)) d_F_requirePlace_24 ⟨Nat.le_of_ble_eq_true rfl, Nat.le_of_ble_eq_true rfl⟩) hS (fun q _ h => AX_up hA1 q h) (AX_up hA1) (fun q _ h => AX_up hA1 q h) (fun E ce q9 _ tq H1 locs ht hvm _ hB hz1 hk1 hS hce hcv hcl => vx_out (fun x hx9 => (hTb x hx9).elim) hlocks hce hcv hcl (fun t9 e9 a9 => XT_out ht hB.2 (AX_up hA1) hK hS ⟨hB.1.1, by simp [PLc, c4]⟩ e9 a9) (fun z hz => hS.2.2 z hz) (by decide) (by decide)) (fun t7 tq H1 locs ht hvm hw6 hB hz1 hk1 hS => ?_)
    obtain ⟨hP, hD⟩ := BX_back ht hB (AX_up hA1)
    generalize H1 = H at hP hS ⊢
    obtain ⟨hwt, hz24⟩ := hw6
    exact absurd rfl hz24
  · have _u : True := trivial
    refine lv_iload_n hx hb d_F_requirePlace_9 rfl (lv_at hl 1 rfl) ?_
    refine lv_iconst (v := 0) hx hb d_F_requirePlace_10 (by decide) ?_
    refine lv_bipush (v := 11) hx hb d_F_requirePlace_11 (by decide) ?_
    have hA1 := hS.1
    refine va_calli (va_runS (As := [.int (a), .int (0), .int (11)]) (rest := []) ⟨hx, hb, hml, hown, hts⟩ (c_F_isWithin l D ad ka H.size t a 0 11) (cwS 3 hts (gs mw_207 mw_208 mw_1 mw_209) rfl rfl rfl (by decide +kernel) ⟨Nat.le_of_ble_eq_true rfl, Nat.le_of_ble_eq_true rfl⟩) ⟨PX_blind, fun U hU hW => ⟨rfl, PX_at hU hW hP hK hD⟩⟩ rfl rfl hl.1 rfl (lv_room (Nat.le_of_ble_eq_true rfl)) d_F_requirePlace_13 ⟨Nat.le_of_ble_eq_true rfl, Nat.le_of_ble_eq_true rfl⟩) hS (fun q _ h => AX_up hA1 q h) (AX_up hA1) (fun r8 t10 tq H1 locs ht hvm hw9 hB hz1 hk1 hS => ?_)
    obtain ⟨hP, hD⟩ := BX_back ht hB (AX_up hA1)
    generalize H1 = H at hP hS ⊢
    obtain ⟨hwr, hwt⟩ := hw9
    rw [hwt] at hP hD
    rw [hwr]
    refine lv_if_eq (tgt := 23) hx hb d_F_requirePlace_16 (by decide) (fun c11 => ?_) (fun c11 => ?_)
    · have _u : True := trivial
      refine lv_iconst (v := 0) hx hb d_F_requirePlace_23 (by decide) ?_
      have hA1 := hS.1
      refine vx_callv (vx_runS (As := [.int (0)]) (rest := []) ⟨hx, hb, hml, hown, hts⟩ (c_F_require l hl0 D ad ka sa H.size t 0) (cwS 1 hts (gs mw_210 mw_211 mw_1 mw_212) rfl rfl rfl (by decide +kernel) ⟨Nat.le_of_ble_eq_true rfl, Nat.le_of_ble_eq_true rfl⟩) ⟨PZ_blind, fun U hU hW => ⟨rfl, PX_at hU hW hP hK hD, ZX_at hU hW hZ hS⟩⟩ rfl rfl hl.1 rfl (lv_room (Nat.le_of_ble_eq_true rfl)) d_F_requirePlace_24 ⟨Nat.le_of_ble_eq_true rfl, Nat.le_of_ble_eq_true rfl⟩) hS (fun q _ h => AX_up hA1 q h) (AX_up hA1) (fun q _ h => AX_up hA1 q h) (fun E ce q9 _ tq H1 locs ht hvm _ hB hz1 hk1 hS hce hcv hcl => vx_out (fun x hx9 => (hTb x hx9).elim) hlocks hce hcv hcl (fun t9 e9 a9 => XT_out ht hB.2 (AX_up hA1) hK hS ⟨hB.1.1, by simp [PLc, c4, c11]⟩ e9 a9) (fun z hz => hS.2.2 z hz) (by decide) (by decide)) (fun t14 tq H1 locs ht hvm hw13 hB hz1 hk1 hS => ?_)
      obtain ⟨hP, hD⟩ := BX_back ht hB (AX_up hA1)
      generalize H1 = H at hP hS ⊢
      obtain ⟨hwt, hz24⟩ := hw13
      exact absurd rfl hz24
    · have _u : True := trivial
      refine lv_iconst (v := 1) hx hb d_F_requirePlace_19 (by decide) ?_
      refine lv_goto (tgt := 24) hx hb d_F_requirePlace_20 (by decide) ?_
      have hA1 := hS.1
      refine vx_callv (vx_runS (As := [.int (1)]) (rest := []) ⟨hx, hb, hml, hown, hts⟩ (c_F_require l hl0 D ad ka sa H.size t 1) (cwS 1 hts (gs mw_210 mw_211 mw_1 mw_212) rfl rfl rfl (by decide +kernel) ⟨Nat.le_of_ble_eq_true rfl, Nat.le_of_ble_eq_true rfl⟩) ⟨PZ_blind, fun U hU hW => ⟨rfl, PX_at hU hW hP hK hD, ZX_at hU hW hZ hS⟩⟩ rfl rfl hl.1 rfl (lv_room (Nat.le_of_ble_eq_true rfl)) d_F_requirePlace_24 ⟨Nat.le_of_ble_eq_true rfl, Nat.le_of_ble_eq_true rfl⟩) hS (fun q _ h => AX_up hA1 q h) (AX_up hA1) (fun q _ h => AX_up hA1 q h) (fun E ce q9 _ tq H1 locs ht hvm _ hB hz1 hk1 hS hce hcv hcl => vx_out (fun x hx9 => (hTb x hx9).elim) hlocks hce hcv hcl (fun t9 e9 a9 => XT_out ht hB.2 (AX_up hA1) hK hS (absurd hB.1.2 (by decide)) e9 a9) (fun z hz => hS.2.2 z hz) (by decide) (by decide)) (fun t17 tq H1 locs ht hvm hw16 hB hz1 hk1 hS => ?_)
      obtain ⟨hP, hD⟩ := BX_back ht hB (AX_up hA1)
      generalize H1 = H at hP hS ⊢
      obtain ⟨hwt, hz24⟩ := hw16
      rw [hwt] at hP hD
      refine vx_ret (W.widen (k := 1) (n := 6) (by decide) (by decide) ?_)
      exact W.vret hx hb hr (fun t9 ht hW => ⟨⟨t, rfl, ⟨rfl, c4, c11⟩, BX_at ht hW hP hK hD⟩, hS.F ht⟩) hS.2.2 d_F_requirePlace_27
set_option maxHeartbeats 4000000 in
set_option maxRecDepth 100000 in
theorem c_F_existing (l : Launch) (hl0 : l.stackTraces = false) (D : va_G) (ad : Nat → Nat) (ka : Nat → ClassId) (sa : Nat → Nat) (sz : Nat) (t : Mem) (x a : Int32) : vx_Met l y_F_existing (Cond.code y_F_existing b_F_existing 4 (some (.object "ListForge$Subscription")) :: big) ({ frames := 8, cells := 2, slots := 12, locals := 123 }) (va_Pc [.ref (ad (0)), .int (x), .int (a)] (PZ D ad ka sa sz t)) (va_Qr (fun q : Nat × Nat => q.1 < 3 ∧ q.2 < 12 ∧ x = nI q.1 ∧ a = nI q.2 ∧ ¬ gI t 0 (12 * q.1 + q.2) = -1) (fun (q : Nat × Nat) (ra : Nat) (U : State) => ra = ad (60 + (12 * q.1 + q.2)) ∧ BX D ad ka sz t U) (AX ad sz)) (XT D ad ka sz t (fun E => (E = e_IAE ∧ ¬ PLc x a) ∨ (E = e_NSE ∧ ∃ u a0, u < 3 ∧ a0 < 12 ∧ x = nI u ∧ a = nI a0 ∧ gI t 0 (12 * u + a0) = -1))) 2 12 (AX ad sz) := by
  refine vx_ofW (cc := b_F_existing) (maxL := 4) (ret := (some (.object "ListForge$Subscription"))) (by decide) rfl ?_
  intro p e s m args below meth c s₁ B hml hTb hv
  obtain ⟨rfl, ⟨hsz, hP, hK, hD0⟩, hZ⟩ := hv
  have hx := B.exec
  have hb := B.bytes
  have hr := B.returns
  have hlocks := B.notSynchronized
  have hts := atoms_spec (ws := Cond.code y_F_existing b_F_existing 4 (some (.object "ListForge$Subscription")) :: big) B.pre
  have hown : s.vm.findClass "ListForge" = some m.cls := findClass_of_methodNamed B.named
  subst hsz
  have hD : va_D (AX ad s.heap.size) (cw ad ka t) := AX_D hD0
  have hS : va_S (AX ad s.heap.size) s.heap s.heap [] := va_S.rf
  have hl := lv_entry ([.ref (ad (0)), .int (x), .int (a)]) (n := 4) (Nat.le_of_ble_eq_true rfl)
  rw [lg_entry_eq]
  generalize (lg_sl ([.ref (ad (0)), .int (x), .int (a)]) ++ List.replicate (4 - (lg_sl ([.ref (ad (0)), .int (x), .int (a)])).length) Slot.unset).toArray = ls at hl ⊢
  have hl : lv_has ls 4 [(0, .ref (ad (0))), (1, .int (x)), (2, .int (a))] := hl

  refine lv_iload_n hx hb d_F_existing_0 rfl (lv_at hl 1 rfl) ?_
  refine lv_iload_n hx hb d_F_existing_1 rfl (lv_at hl 2 rfl) ?_
  have hA1 := hS.1
  refine vx_callv (vx_runS (As := [.int (x), .int (a)]) (rest := []) ⟨hx, hb, hml, hown, hts⟩ (c_F_requirePlace l hl0 D ad ka sa s.heap.size t x a) (cwS 2 hts (gs mw_204 mw_205 mw_1 mw_206) rfl rfl rfl (by decide +kernel) ⟨Nat.le_of_ble_eq_true rfl, Nat.le_of_ble_eq_true rfl⟩) ⟨PZ_blind, fun U hU hW => ⟨rfl, PX_at hU hW hP hK hD, ZX_at hU hW hZ hS⟩⟩ rfl rfl hl.1 rfl (lv_room (Nat.le_of_ble_eq_true rfl)) d_F_existing_2 ⟨Nat.le_of_ble_eq_true rfl, Nat.le_of_ble_eq_true rfl⟩) hS (fun q _ h => AX_up hA1 q h) (AX_up hA1) (fun q _ h => AX_up hA1 q h) (fun E ce q9 _ tq H1 locs ht hvm _ hB hz1 hk1 hS hce hcv hcl => vx_out (fun x hx9 => (hTb x hx9).elim) hlocks hce hcv hcl (fun t9 e9 a9 => XT_out ht hB.2 (AX_up hA1) hK hS (Or.inl ⟨hB.1.1, hB.1.2⟩) e9 a9) (fun z hz => hS.2.2 z hz) (by decide) (by decide)) (fun t3 tq H1 locs ht hvm hw2 hB hz1 hk1 hS => ?_)
  obtain ⟨hP, hD⟩ := BX_back ht hB (AX_up hA1)
  generalize H1 = H at hP hS ⊢
  obtain ⟨hwt, hpl⟩ := hw2
  rw [hwt] at hP hD
  obtain ⟨u, hu, hxu, a0, ha0, hau⟩ := PL_of hpl
  refine lv_aload_n hx hb d_F_existing_5 rfl (lv_at hl 0 rfl) ?_
  refine g_F_lists hx hb hts hown hK hP mw_175 d_F_existing_6 ?_
  refine lv_iload_n hx hb d_F_existing_9 rfl (lv_at hl 1 rfl) ?_
  refine a_lists hx hb hK hP (r := u) hu hxu d_F_existing_10 ?_
  refine g_L_subscriptions hx hb hts hown hK hP hu mw_77 d_F_existing_11 ?_
  refine lv_iload_n hx hb d_F_existing_14 rfl (lv_at hl 2 rfl) ?_
  refine a_subs hx hb hK hP hu (r := a0) ha0 hau d_F_existing_15 ?_
  refine lv_astore_n (lv' := [(3, .ref (ad (60 + (12 * u + a0)))), (0, .ref (ad (0))), (1, .int (x)), (2, .int (a))]) hx hb d_F_existing_16 rfl hl (by decide) rfl (fun ls hl => ?_)
  refine lv_aload_n hx hb d_F_existing_17 rfl (lv_at hl 0 rfl) ?_
  refine g_S_state hx hb hts hown hK hP (by omega) mw_38 d_F_existing_18 ?_
  refine lv_iconst (v := -1) hx hb d_F_existing_21 (by decide) ?_
  refine lv_icmp_ne (tgt := 35) hx hb d_F_existing_22 (by decide) (fun c4 => ?_) (fun c4 => ?_)
  · have _u : True := trivial
    refine lv_aload_n hx hb d_F_existing_35 rfl (lv_at hl 0 rfl) ?_
    refine vx_ret (W.widen (k := 2) (n := 12) (by decide) (by decide) ?_)
    exact W.aret (v := .ref (ad (60 + (12 * u + a0)))) hx hb hr (Or.inl ⟨_, rfl⟩) (Or.inr ⟨_, rfl⟩) (fun t9 ht hW => ⟨⟨(u, a0), ad (60 + (12 * u + a0)), rfl, ⟨hu, ha0, hxu, hau, c4⟩, rfl, BX_at ht hW hP hK hD⟩, hS.F ht⟩) hS.2.2 d_F_existing_36
  · have _u : True := trivial
    exact nt_throw (own := "ListForge") (cls := e_NSE) (text := "there is no subscription") hx hb hl0 hown (by decide) (bg hts mw_335) (bg hts mw_13) (hZ.2.2.2 (248, "there is no subscription") (by decide)) (hatO hts hZ.1 ag_NSE an_NSE) ao_NSE hZ.2.1 hZ.2.2.1 hS (by rw [hml]; exact hl.1) d_F_existing_25 d_F_existing_28 d_F_existing_29 d_F_existing_31 d_F_existing_34 (fun x hx9 => (hTb x hx9).elim) (by decide) (Nat.le_of_ble_eq_true rfl) (by decide) (by decide) hlocks (fun t9 a9 z9 k9 => XT_at hP hK hD hS (Or.inr ⟨rfl, u, a0, hu, ha0, hxu, hau, c4⟩) a9 z9 k9) (fun z hz => hS.2.2 z hz) (by decide) (by decide)
end
section
theorem zz_last : True := trivial
end
