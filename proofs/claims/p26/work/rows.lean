section
-- ===== PART A: goes FIRST, ahead of the names: the tables' words, and 'selects' of the private methods out of them =====
/-- a private method of a class that the tables say can be made, by its rows of tables_1 -/
def lw_okq (q : MethodName × Nat) : Prop := (q.1.cls ≠ "java/lang/invoke/MethodHandle" ∧ q.1.cls ≠ "java/lang/invoke/VarHandle") ∧ Cond.instantiable q.1.cls q.2 ∈ tables_1 ∧ Cond.privateMethod q.1 ∈ tables_1 ∧ Cond.instanceMethod q.1 ∈ tables_1
theorem lw_p0 : lw_okq (⟨"java/lang/Throwable", "fillInStackTrace", "(I)Ljava/lang/Throwable;"⟩, 6) := ⟨⟨by decide +kernel, by decide +kernel⟩, List.mem_of_getElem? (i := 140) (by decide +kernel), List.mem_of_getElem? (i := 138) (by decide +kernel), List.mem_of_getElem? (i := 139) (by decide +kernel)⟩
theorem lw_p1 : lw_okq (⟨"RoamLedger", "subscriberOf", "(I)LRoamLedger$Subscriber;"⟩, 8) := ⟨⟨by decide +kernel, by decide +kernel⟩, List.mem_of_getElem? (i := 15) (by decide +kernel), List.mem_of_getElem? (i := 260) (by decide +kernel), List.mem_of_getElem? (i := 261) (by decide +kernel)⟩
theorem lw_p2 : lw_okq (⟨"RoamLedger", "isTalking", "(LRoamLedger$Subscriber;)Z"⟩, 8) := ⟨⟨by decide +kernel, by decide +kernel⟩, List.mem_of_getElem? (i := 15) (by decide +kernel), List.mem_of_getElem? (i := 286) (by decide +kernel), List.mem_of_getElem? (i := 287) (by decide +kernel)⟩
theorem lw_p3 : lw_okq (⟨"RoamLedger$Network", "weighWaysTo", "(I)V"⟩, 4) := ⟨⟨by decide +kernel, by decide +kernel⟩, List.mem_of_getElem? (i := 23) (by decide +kernel), List.mem_of_getElem? (i := 297) (by decide +kernel), List.mem_of_getElem? (i := 298) (by decide +kernel)⟩
theorem lw_p4 : lw_okq (⟨"RoamLedger$Network", "weightOver", "(II)I"⟩, 4) := ⟨⟨by decide +kernel, by decide +kernel⟩, List.mem_of_getElem? (i := 23) (by decide +kernel), List.mem_of_getElem? (i := 306) (by decide +kernel), List.mem_of_getElem? (i := 307) (by decide +kernel)⟩
theorem lw_p5 : lw_okq (⟨"RoamLedger$Network", "nextOnBest", "(I)I"⟩, 4) := ⟨⟨by decide +kernel, by decide +kernel⟩, List.mem_of_getElem? (i := 23) (by decide +kernel), List.mem_of_getElem? (i := 322) (by decide +kernel), List.mem_of_getElem? (i := 323) (by decide +kernel)⟩
theorem lw_p6 : lw_okq (⟨"RoamLedger", "newTalk", "(LRoamLedger$Subscriber;LRoamLedger$Subscriber;LRoamLedger$Route;)LRoamLedger$Talk;"⟩, 8) := ⟨⟨by decide +kernel, by decide +kernel⟩, List.mem_of_getElem? (i := 15) (by decide +kernel), List.mem_of_getElem? (i := 327) (by decide +kernel), List.mem_of_getElem? (i := 328) (by decide +kernel)⟩
theorem lw_p7 : lw_okq (⟨"RoamLedger", "talkOf", "(I)LRoamLedger$Talk;"⟩, 8) := ⟨⟨by decide +kernel, by decide +kernel⟩, List.mem_of_getElem? (i := 15) (by decide +kernel), List.mem_of_getElem? (i := 388) (by decide +kernel), List.mem_of_getElem? (i := 389) (by decide +kernel)⟩
theorem lw_p8 : lw_okq (⟨"RoamLedger", "runOneMinute", "(LRoamLedger$Talk;)Z"⟩, 8) := ⟨⟨by decide +kernel, by decide +kernel⟩, List.mem_of_getElem? (i := 15) (by decide +kernel), List.mem_of_getElem? (i := 399) (by decide +kernel), List.mem_of_getElem? (i := 400) (by decide +kernel)⟩
def lw_privs_1 : List (MethodName × Nat) := [(⟨"java/lang/Throwable", "fillInStackTrace", "(I)Ljava/lang/Throwable;"⟩, 6), (⟨"RoamLedger", "subscriberOf", "(I)LRoamLedger$Subscriber;"⟩, 8), (⟨"RoamLedger", "isTalking", "(LRoamLedger$Subscriber;)Z"⟩, 8), (⟨"RoamLedger$Network", "weighWaysTo", "(I)V"⟩, 4), (⟨"RoamLedger$Network", "weightOver", "(II)I"⟩, 4), (⟨"RoamLedger$Network", "nextOnBest", "(I)I"⟩, 4), (⟨"RoamLedger", "newTalk", "(LRoamLedger$Subscriber;LRoamLedger$Subscriber;LRoamLedger$Route;)LRoamLedger$Talk;"⟩, 8), (⟨"RoamLedger", "talkOf", "(I)LRoamLedger$Talk;"⟩, 8), (⟨"RoamLedger", "runOneMinute", "(LRoamLedger$Talk;)Z"⟩, 8)]
theorem lw_r1 : ∀ q ∈ lw_privs_1, lw_okq q := List.forall_mem_cons.mpr ⟨lw_p0, List.forall_mem_cons.mpr ⟨lw_p1, List.forall_mem_cons.mpr ⟨lw_p2, List.forall_mem_cons.mpr ⟨lw_p3, List.forall_mem_cons.mpr ⟨lw_p4, List.forall_mem_cons.mpr ⟨lw_p5, List.forall_mem_cons.mpr ⟨lw_p6, List.forall_mem_cons.mpr ⟨lw_p7, List.forall_mem_cons.mpr ⟨lw_p8, fun _ h => absurd h List.not_mem_nil⟩⟩⟩⟩⟩⟩⟩⟩⟩
def lw_privs : List (MethodName × Nat) := lw_privs_1
def lw_tbl : List Cond := k2_sels lw_privs ++ tables_1
theorem lw_privs_ok : ∀ q ∈ lw_privs, lw_okq q := lw_r1
end
section
/-! ===== BEGIN words of one list among another's, by their places ===== -/
theorem goodIn_r {big : List Cond} (ws : List Cond) (ps : List Nat) (hp : ws = ps.filterMap (fun i => big[i]?)) (h : ws.all goodWord = true) : GoodIn big ws := by
  intro w hw
  have h1 := List.all_eq_true.mp h w hw
  rw [hp] at hw
  obtain ⟨i, -, hi⟩ := List.mem_filterMap.mp hw
  have hm : w ∈ big := by first | exact List.mem_of_getElem? hi | exact List.getElem?_mem hi
  exact ⟨hm, good_of_word h1⟩
theorem goodIn_app {big a b : List Cond} (ha : GoodIn big a) (hb : GoodIn big b) : GoodIn big (a ++ b) := fun w h => (List.mem_append.mp h).elim (ha w) (hb w)
theorem goodIn_ca {big a b : List Cond} {c : Cond} (ha : GoodIn big (c :: a)) (hb : GoodIn big b) : GoodIn big (c :: (a ++ b)) := fun w h => (List.mem_cons.mp h).elim (fun e => ha w (List.mem_cons.mpr (Or.inl e))) (fun h => (List.mem_append.mp h).elim (fun h => ha w (List.mem_cons.mpr (Or.inr h))) (hb w))
theorem goodIn_sub {big ws : List Cond} (hm : ∀ w ∈ ws, w ∈ big) (h : ws.all goodWord = true) : GoodIn big ws := fun w hw => ⟨hm w hw, good_of_word (List.all_eq_true.mp h w hw)⟩
/-! ===== END ===== -/

/-! ===== BEGIN exceptions that leave a method, and their catching by the caller (launches without stack traces) ===== -/
section VXA
/-! The laws vx_back, vx_callV, vx_callS, vx_callSW, vx_throw0, vx_throwS follow proofs of the library, with one case more: JvmDerived/Free/Laws.lean (Back.of_free), Shelf42/LK1.lean (callV, callS), Shelf/KitTraced.lean (throwNew0V, throwNewS). -/
/-- where a method has thrown q: the class by its name, the cell, what was written, the world -/
def vx_T (XC : String → State → State → Prop) (st : State) (q : Addr) (t : State) (mc ms : Nat) (free : Addr → Prop) : Prop :=
  ∃ (E : String) (ce : Cell) (L : List Loc), XC E st t ∧ t.heap[q]? = some ce ∧ ce.vm = .none ∧ st.vm.findClass E = some ce.cls ∧ st.WarmedH t.vm ∧ st.sameButNew ({ t with vm := st.vm } : State) L mc ms ∧ ∀ z ∈ L, free z.base
def vx_Q (Qc : Array Value → State → Outcome → State → Prop) (XC : String → State → State → Prop) (mc ms : Nat) (free : Addr → Prop) : Array Value → State → Outcome → State → Prop := fun a st o t =>
  (Qc a st o t ∧ ∃ L, FrameEnd st o t L mc ms ∧ ∀ q ∈ L, free q.base) ∨ ∃ q, o = .threw q ∧ vx_T XC st q t mc ms free
/-- a callee that returns or throws -/
def vx_Met (l : Launch) (y : MethodName) (ws : List Cond) (rm : Room) (Pc : Array Value → State → Prop) (Qc : Array Value → State → Outcome → State → Prop) (XC : String → State → State → Prop) (mc ms : Nat) (free : Addr → Prop) : Prop :=
  MetFree l y (headSpec ws rm) Pc (fun _ _ _ _ _ => True) (vx_Q Qc XC mc ms free)
def vx_Post (XC : String → State → State → Prop) (mc ms : Nat) (free : Addr → Prop) : Pt → Array Value → Addr → Pt → Prop := fun A a q B =>
  ∃ (g : JFrame) (mk : MethodId) (t : State) (L : List Loc) (E : String) (ce : Cell), B.U.heap = t.heap ∧ B.U.vm = t.vm ∧ XC E (A.U.calling g mk a) t ∧ t.heap[q]? = some ce ∧ ce.vm = .none ∧ A.U.vm.findClass E = some ce.cls ∧ B.locs = A.locs ++ L ∧ (∀ z ∈ L, free z.base) ∧ B.cells = A.cells + mc ∧ B.slots = A.slots + ms
def vx_Back (l : Launch) (R : Room) (p : Program) (e : Env) (below : List Frame) (s : State) (sargs : Array Value) (y : MethodName) (len W9 : Nat)
    (Pre : Pt → Array Value → Prop) (Post : Pt → Array Value → Option Value → Pt → Prop) (PostX : Pt → Array Value → Addr → Pt → Prop) : Prop :=
  ∀ (m : MethodId) (meth : Method) (c : Code) (A : Pt) (g : JFrame) (ig : Instr) (mk : MethodId) (a : Array Value),
    Stand p l e R s m sargs below meth c A.U A.locs A.cells A.slots → g.method = m → g.locals.size = c.maxLocals → decode c.code g.pc = .ok (ig, len) →
    2 * g.monitorRoom + (g.stack.map fun v => v.category).sum ≤ W9 → A.U.methodNamed? y = some mk → Pre A a →
    (∃ (v : Option Value) (B : Pt), Stand p l e R s m sargs below meth c B.U B.locs B.cells B.slots ∧ Post A a v B ∧
      Steps p.tables e below (doInvoke e (A.U.setTop g) [] mk a).1 (B.U.setTop { g with pc := g.pc + len, stack := v.toList ++ g.stack })) ∨
    (∃ (q : Addr) (B : Pt), Stand p l e R s m sargs below meth c B.U B.locs B.cells B.slots ∧ PostX A a q B ∧
      Steps p.tables e below (doInvoke e (A.U.setTop g) [] mk a).1 ((B.U.setTop g).pushFrame (.throwing q)))
section Payer
variable {l : Launch} {R : Room} {p : Program} {e : Env} {below : List Frame} {s : State} {sargs : Array Value} {y : MethodName} {len W9 : Nat}
theorem vx_back {ws : List Cond} {rm : Room} {Pc : Array Value → State → Prop} {Qc : Array Value → State → Outcome → State → Prop} {XC : String → State → State → Prop} {mc ms : Nat} {free : Addr → Prop} {bytes : ByteArray} {maxL : Nat} {ret : Option FieldType}
    (hM : vx_Met l y ws rm Pc Qc XC mc ms free) (hblind : FrameBlind Pc) (hrc : rm.cells = mc) (hrs : rm.slots = ms)
    (hframes : rm.frames + 1 ≤ R.frames) (hlocals : W9 + (maxL + 11) + rm.locals ≤ R.locals)
    (hws : ∀ w ∈ ws, ∀ a' U, s.WarmedH U.vm → w.before a' U = true) (hcode : Cond.code y bytes maxL ret ∈ ws) (hinit : ∀ a' U, s.WarmedH U.vm → (Cond.initialized y.cls).before a' U = true) :
    vx_Back l R p e below s sargs y len W9 (PreOf R mc ms Pc) (PostOf Qc mc ms free) (vx_Post XC mc ms free) := by
  intro m meth c A g ig mk a X hg hsize hdg hW hn hp
  have h1 : (headSpec ws rm).pre.before a A.U = true := atoms_intro fun w hw => hws w hw _ _ X.warmed
  have h2 : (Cond.code y bytes maxL ret).before a A.U = true := hws _ hcode _ _ X.warmed
  have h3 : (Cond.initialized y.cls).before a A.U = true := hinit _ _ X.warmed
  have h4 : A.cells + (headSpec ws rm).room.cells ≤ R.cells := by rw [show (headSpec ws rm).room.cells = mc from hrc]; exact hp.1
  have h5 : A.slots + (headSpec ws rm).room.slots ≤ R.slots := by rw [show (headSpec ws rm).room.slots = ms from hrs]; exact hp.2.1
  have hPc : Pc a (A.U.calling g mk a) := hblind _ _ _ _ hp.2.2
  obtain ⟨U, Ls, c0, s0⟩ := A
  dsimp only [Pt.U, Pt.locs, Pt.cells, Pt.slots] at h1 h2 h3 h4 h5 X hn hPc ⊢
  obtain ⟨methY, cY, hmY, hcY, -, hlY, -, -, -, -⟩ := Cond.code_spec hn h2
  obtain ⟨kY, hkY, -⟩ := className_of_methodNamed hn
  have hinitY : kY.init = .initialized := Cond.initialized_spec (findClass_of_methodNamed hn) hkY h3
  have h : At U g.method c below := by rw [hg]; exact X.here
  have hlocals9 : W9 + (maxL + 11) + (headSpec ws rm).room.locals ≤ R.locals := hlocals
  have happ : (headSpec ws rm).appliesLoose y e.platform (U.calling g mk a) = true :=
    Spec.appliesLoose_calling (g := g) h hdg hn hkY hinitY
      (X.room_calling (g := g) (R' := (headSpec ws rm).room) hsize hmY hcY hframes (by rw [hlY]; omega) h4 h5) h1
  obtain ⟨mid, hmid⟩ := h.above
  have hfr : (U.setTop g).frames = (.java g :: mid) ++ below := by rw [State.frames_setTop' g h.top, hmid]; rfl
  obtain ⟨o, s₂, hsteps, -, hend, hq⟩ := Steps.callFree hM p X.admits X.cas X.clock (acts := []) hfr happ hPc trivial
  have hq' : vx_Q Qc XC mc ms free a (U.calling g mk a) o s₂ := hq
  rw [State.frames_setTop' g h.top] at hend
  obtain ⟨g₀, hg0⟩ := Option.isSome_iff_exists.mp h.top
  obtain ⟨r, hr⟩ := State.topJava?_eq_some.mp hg0
  have hr' : (({ U with heap := s₂.heap, slotsUsed := s₂.slotsUsed } : State).setVm s₂.vm).frames = .java g₀ :: r := hr
  rcases hq' with ⟨hqc, L, hfe, hL⟩ | ⟨q, rfl, E, ce, L, hx, hce, hcv, hcl, hW₂, hsm, hL⟩
  · obtain ⟨⟨v, rfl⟩, hW₂, e2, q2, q3, q4, q5, q6⟩ := id hfe
    have e3 : s₂ = ({ (U.calling g mk a).setFrames s₂.frames with heap := s₂.heap, slotsUsed := s₂.slotsUsed } : State).setVm s₂.vm := by
      have : s₂ = ({ s₂ with vm := (U.calling g mk a).vm } : State).setVm s₂.vm := rfl
      rw [e2] at this
      exact this
    obtain ⟨c₂, i₂, len₂, hc₂, hd₂, hf₂⟩ := hend
    have hW' : U.WarmedH s₂.vm := hW₂
    have hcc : c₂ = c := by
      have h1 : s₂.code? g.method = U.code? g.method := by
        rw [State.code?_eq, State.code?_eq, hW'.alike.method?]
      exact Option.some.inj (hc₂.symm.trans (h1.trans h.code))
    subst hcc
    have hlen : len₂ = len := by rw [hdg] at hd₂; cases hd₂; rfl
    subst hlen
    have hs₂ : s₂ = (({ U with heap := s₂.heap, slotsUsed := s₂.slotsUsed } : State).setVm s₂.vm).setTop { g with pc := g.pc + len₂, stack := v.toList ++ g.stack } := by
      refine e3.trans ?_
      rw [hf₂, State.calling_eq h.top, State.setFrames_setFrames, State.setTop_of_frames _ hr', hr]
      rfl
    have hsame : U.sameButNew ({ U with heap := s₂.heap, slotsUsed := s₂.slotsUsed } : State) L mc ms := by
      refine ⟨?_, q2, q3, q4, q5, q6⟩
      obtain ⟨t, ht, -⟩ := State.frames_cons hr
      show ({ U with heap := s₂.heap, slotsUsed := s₂.slotsUsed } : State) = { U.setFrames U.frames with heap := s₂.heap, slotsUsed := s₂.slotsUsed }
      rw [State.setFrames_self ht]
    subst hg
    refine Or.inl ⟨v, ⟨(({ U with heap := s₂.heap, slotsUsed := s₂.slotsUsed } : State).setVm s₂.vm), Ls ++ L, c0 + mc, s0 + ms⟩,
      ⟨X.admits, X.cas, X.clock, X.frames, X.room, X.hears, X.method, X.code, (X.here.setHeapUsed s₂.heap s₂.slotsUsed).setVm hW'.alike, X.tail, State.WarmedH.trans X.warmed hW', X.limits, X.bytes, X.same.trans (hsame.setVm s.vm)⟩,
      ⟨g, mk, s₂, L, rfl, rfl, hqc, rfl, hL, rfl, rfl⟩, ?_⟩
    show Steps p.tables e below _ ((({ U with heap := s₂.heap, slotsUsed := s₂.slotsUsed } : State).setVm s₂.vm).setTop { g with pc := g.pc + len₂, stack := v.toList ++ g.stack })
    rw [← hs₂]
    exact hsteps
  · obtain ⟨e2, q2, q3, q4, q5, q6⟩ := id hsm
    have e3 : s₂ = ({ (U.calling g mk a).setFrames s₂.frames with heap := s₂.heap, slotsUsed := s₂.slotsUsed } : State).setVm s₂.vm := by
      have : s₂ = ({ s₂ with vm := (U.calling g mk a).vm } : State).setVm s₂.vm := rfl
      rw [e2] at this
      exact this
    have hf₂ : s₂.frames = .throwing q :: .java g :: U.frames.tail := hend
    have hW' : U.WarmedH s₂.vm := hW₂
    have hs₂ : s₂ = ((({ U with heap := s₂.heap, slotsUsed := s₂.slotsUsed } : State).setVm s₂.vm).setTop g).pushFrame (.throwing q) := by
      refine e3.trans ?_
      rw [hf₂, State.calling_eq h.top, State.setFrames_setFrames, State.pushFrame, State.frames_setTop _ hr', State.setTop_of_frames _ hr', State.setFrames_setFrames, hr]
      rfl
    have hsame : U.sameButNew ({ U with heap := s₂.heap, slotsUsed := s₂.slotsUsed } : State) L mc ms := by
      refine ⟨?_, q2, q3, q4, q5, q6⟩
      obtain ⟨t, ht, -⟩ := State.frames_cons hr
      show ({ U with heap := s₂.heap, slotsUsed := s₂.slotsUsed } : State) = { U.setFrames U.frames with heap := s₂.heap, slotsUsed := s₂.slotsUsed }
      rw [State.setFrames_self ht]
    subst hg
    refine Or.inr ⟨q, ⟨(({ U with heap := s₂.heap, slotsUsed := s₂.slotsUsed } : State).setVm s₂.vm), Ls ++ L, c0 + mc, s0 + ms⟩,
      ⟨X.admits, X.cas, X.clock, X.frames, X.room, X.hears, X.method, X.code, (X.here.setHeapUsed s₂.heap s₂.slotsUsed).setVm hW'.alike, X.tail, State.WarmedH.trans X.warmed hW', X.limits, X.bytes, X.same.trans (hsame.setVm s.vm)⟩,
      ⟨g, mk, s₂, L, E, ce, rfl, rfl, hx, hce, hcv, hcl, rfl, hL, rfl, rfl⟩, ?_⟩
    show Steps p.tables e below _ (((({ U with heap := s₂.heap, slotsUsed := s₂.slotsUsed } : State).setVm s₂.vm).setTop g).pushFrame (.throwing q))
    rw [← hs₂]
    exact hsteps
end Payer
section Calls
variable {p : Program} {l : Launch} {e : Env} {R : Room} {s : State} {m : MethodId} {args : Array Value} {below : List Frame} {meth : Method} {c : Code} {T : State} {locs : List Loc} {cells slots : Nat}
theorem vx_callV (X : Stand p l e R s m args below meth c T locs cells slots) (hexec : p.tables.exec = Jvm.exec) {own C : String} {index : Nat} {y : MethodName} {bytes : ByteArray} {maxL : Nat} {ret : Option FieldType}
    (hown : s.vm.findClass own = some m.cls) (hlink : (Cond.methodLink own index y).before args s = true) (hinst : (Cond.instanceMethod y).before args s = true) (hsel : (Cond.selects C y y).before args s = true)
    (hcode : (Cond.code y bytes maxL ret).before args s = true) (hy : y.cls ≠ "java/lang/invoke/MethodHandle" ∧ y.cls ≠ "java/lang/invoke/VarHandle")
    {W9 : Nat} {Pre : Pt → Array Value → Prop} {Post : Pt → Array Value → Option Value → Pt → Prop} {PostX : Pt → Array Value → Addr → Pt → Prop} (hK : vx_Back l R p e below s args y 3 W9 Pre Post PostX)
    {b : Addr} {cellB : Cell} (hcell : T.heap[b]? = some cellB) (hobj : cellB.vm.isStatics = false) (hcls : s.vm.findClass C = some cellB.cls)
    {g : JFrame} (hg : g.method = m) (hsize : g.locals.size = c.maxLocals) {argsL rest : List Value} (hlen : ∀ sig, parseMethodDescriptor y.desc = some sig → argsL.length = sig.parameters.length)
    (hstack : g.stack = argsL.reverse ++ .ref b :: rest) (hW : 2 * g.monitorRoom + (rest.map fun v => v.category).sum ≤ W9) (hdg : decode c.code g.pc = .ok (.invokevirtual index, 3))
    (hpre : ∀ vm₁, s.WarmedH vm₁ → Pre ⟨T.setVm vm₁, locs, cells, slots⟩ (Value.ref b :: argsL).toArray) :
    (∃ (v : Option Value) (vm₁ : Vm) (B : Pt), s.WarmedH vm₁ ∧ Stand p l e R s m args below meth c B.U B.locs B.cells B.slots ∧ Post ⟨T.setVm vm₁, locs, cells, slots⟩ (Value.ref b :: argsL).toArray v B ∧
      ∀ target, Steps p.tables e below (B.U.setTop { g with pc := g.pc + 3, stack := v.toList ++ rest }) target → Steps p.tables e below (T.setTop g) target) ∨
    (∃ (q : Addr) (vm₁ : Vm) (B : Pt), s.WarmedH vm₁ ∧ Stand p l e R s m args below meth c B.U B.locs B.cells B.slots ∧ PostX ⟨T.setVm vm₁, locs, cells, slots⟩ (Value.ref b :: argsL).toArray q B ∧
      Steps p.tables e below (T.setTop g) ((B.U.setTop { g with stack := rest }).pushFrame (.throwing q))) := by
  obtain ⟨mk, methM, hnamed, hmethM, hstM, habM⟩ := Cond.instanceMethod_spec hinst
  obtain ⟨methM', cM, hmethM', -, -, -, -, -, -, hsigM⟩ := Cond.code_spec hnamed hcode
  cases hmethM.symm.trans hmethM'
  obtain ⟨c2, r2, m2, q1, q2, q3, q4, kP, hkP, hkPi⟩ := Cond.selects_spec hsel
  cases hcls.symm.trans q1
  cases (State.methodFound?_of_named hnamed hy).symm.trans q2
  cases hnamed.symm.trans q3
  have hselP : selectMethod e.platform s.vm cellB.cls mk = .method mk := by rw [Launch.admits_selectMethod X.admits]; exact q4
  obtain ⟨vm₁, X₁, hstep₁⟩ := X.invokevirtual hexec hown hlink hnamed hmethM hstM hkP hkPi hy (a := b) (cell := cellB) hcell
    (fun z h => by rw [h] at hobj; cases hobj) hselP hmethM habM hkP hkPi (g := g) hg (argsL := argsL) (rest := rest) (hlen _ hsigM) hstack hdg
  rcases hK m meth c ⟨T.setVm vm₁, locs, cells, slots⟩ { g with stack := rest } (.invokevirtual index) mk (Value.ref b :: argsL).toArray X₁ hg hsize hdg hW (X₁.named hnamed) (hpre vm₁ X₁.warmed) with ⟨v, B, X', hpost, hsteps⟩ | ⟨q, B, X', hpost, hsteps⟩
  · exact Or.inl ⟨v, vm₁, B, X₁.warmed, X', hpost, fun target h => hstep₁ _ fun acts => by rw [doInvoke_state]; exact hsteps.trans h⟩
  · exact Or.inr ⟨q, vm₁, B, X₁.warmed, X', hpost, hstep₁ _ fun acts => by rw [doInvoke_state]; exact hsteps⟩
theorem vx_callS (X : Stand p l e R s m args below meth c T locs cells slots) (hexec : p.tables.exec = Jvm.exec) {own : String} {index : Nat} {y : MethodName} {bytes : ByteArray} {maxL : Nat} {ret : Option FieldType}
    (hown : s.vm.findClass own = some m.cls) (hlink : (Cond.methodLink own index y).before args s = true) (hstat : (Cond.static y).before args s = true) (hinit : (Cond.initialized y.cls).before args s = true)
    (hcode : (Cond.code y bytes maxL ret).before args s = true) (hy : y.cls ≠ "java/lang/invoke/MethodHandle" ∧ y.cls ≠ "java/lang/invoke/VarHandle")
    {W9 : Nat} {Pre : Pt → Array Value → Prop} {Post : Pt → Array Value → Option Value → Pt → Prop} {PostX : Pt → Array Value → Addr → Pt → Prop} (hK : vx_Back l R p e below s args y 3 W9 Pre Post PostX)
    {g : JFrame} (hg : g.method = m) (hsize : g.locals.size = c.maxLocals) {argsL rest : List Value} (hlen : ∀ sig, parseMethodDescriptor y.desc = some sig → argsL.length = sig.parameters.length)
    (hstack : g.stack = argsL.reverse ++ rest) (hW : 2 * g.monitorRoom + (rest.map fun v => v.category).sum ≤ W9) (hdg : decode c.code g.pc = .ok (.invokestatic index, 3))
    (hpre : ∀ vm₁, s.WarmedH vm₁ → Pre ⟨T.setVm vm₁, locs, cells, slots⟩ argsL.toArray) :
    (∃ (v : Option Value) (vm₁ : Vm) (B : Pt), s.WarmedH vm₁ ∧ Stand p l e R s m args below meth c B.U B.locs B.cells B.slots ∧ Post ⟨T.setVm vm₁, locs, cells, slots⟩ argsL.toArray v B ∧
      ∀ target, Steps p.tables e below (B.U.setTop { g with pc := g.pc + 3, stack := v.toList ++ rest }) target → Steps p.tables e below (T.setTop g) target) ∨
    (∃ (q : Addr) (vm₁ : Vm) (B : Pt), s.WarmedH vm₁ ∧ Stand p l e R s m args below meth c B.U B.locs B.cells B.slots ∧ PostX ⟨T.setVm vm₁, locs, cells, slots⟩ argsL.toArray q B ∧
      Steps p.tables e below (T.setTop g) ((B.U.setTop { g with stack := rest }).pushFrame (.throwing q))) := by
  obtain ⟨mk, hnamed⟩ := Cond.code_named hcode
  obtain ⟨methM, cM, hmethM, -, -, -, -, -, -, hsigM⟩ := Cond.code_spec hnamed hcode
  have hstatic : methM.isStatic = true := Cond.static_spec hnamed hmethM hstat
  obtain ⟨kP, hkP, -⟩ := className_of_methodNamed hnamed
  have hinitP : kP.init = .initialized := Cond.initialized_spec (findClass_of_methodNamed hnamed) hkP hinit
  obtain ⟨vm₁, X₁, hstep₁⟩ := X.invokestatic hexec hown hlink hnamed hmethM hstatic hkP hinitP hy (g := g) hg (argsL := argsL) (rest := rest) (hlen _ hsigM) hstack hdg
  rcases hK m meth c ⟨T.setVm vm₁, locs, cells, slots⟩ { g with stack := rest } (.invokestatic index) mk argsL.toArray X₁ hg hsize hdg hW (X₁.named hnamed) (hpre vm₁ X₁.warmed) with ⟨v, B, X', hpost, hsteps⟩ | ⟨q, B, X', hpost, hsteps⟩
  · exact Or.inl ⟨v, vm₁, B, X₁.warmed, X', hpost, fun target h => hstep₁ _ fun acts => by rw [doInvoke_state]; exact hsteps.trans h⟩
  · exact Or.inr ⟨q, vm₁, B, X₁.warmed, X', hpost, hstep₁ _ fun acts => by rw [doInvoke_state]; exact hsteps⟩
end Calls
theorem vx_cls {s : State} {T : State} {vm₁ : Vm} {E : String} {k : ClassId} (hW : s.WarmedH vm₁) (h : (T.setVm vm₁).vm.findClass E = some k) : s.vm.findClass E = some k := by
  have h1 : vm₁.findClass E = some k := h
  rw [hW.alike.findClass] at h1
  exact h1
/-- the method's frame g, with q thrown over it -/
def vx_W (p : Program) (l : Launch) (e : Env) (R : Room) (s : State) (m : MethodId) (args : Array Value) (below : List Frame) (meth : Method) (c : Code) (H : Heap) (locs : List Loc) (cells slots : Nat) (Q : State → Prop) (g : JFrame) (q : Addr) : Prop :=
  ∀ T : State, T.heap = H → Stand p l e R s m args below meth c T locs cells slots → ∃ t, Steps p.tables e below ((T.setTop g).pushFrame (.throwing q)) t ∧ Q t
def vx_Run (p : Program) (l : Launch) (e : Env) (R : Room) (s : State) (m : MethodId) (args : Array Value) (below : List Frame) (meth : Method) (c : Code) (H : Heap) (locs : List Loc) (cells slots mc ms : Nat) (g : JFrame) (rest : List Value) (Qa : State → Outcome → State → Prop) (XC : String → State → State → Prop) (free : Addr → Prop) : Prop :=
  ∀ T : State, T.heap = H → Stand p l e R s m args below meth c T locs cells slots →
    (∃ (v : Option Value) (st₀ t T' : State) (L : List Loc), st₀.heap = H ∧ Stand p l e R s m args below meth c T' (locs ++ L) (cells + mc) (slots + ms) ∧ (∀ q ∈ L, free q.base) ∧ T'.heap = t.heap ∧ T'.vm = t.vm ∧ Qa st₀ (.returned v) t ∧
      Goes p e below T g T' { g with pc := g.pc + 3, stack := v.toList ++ rest }) ∨
    (∃ (q : Addr) (st₀ t T' : State) (L : List Loc) (E : String) (ce : Cell), st₀.heap = H ∧ Stand p l e R s m args below meth c T' (locs ++ L) (cells + mc) (slots + ms) ∧ (∀ z ∈ L, free z.base) ∧ T'.heap = t.heap ∧ T'.vm = t.vm ∧ XC E st₀ t ∧ t.heap[q]? = some ce ∧ ce.vm = .none ∧ s.vm.findClass E = some ce.cls ∧
      Steps p.tables e below (T.setTop g) ((T'.setTop { g with stack := rest }).pushFrame (.throwing q)))
def vx_X {S : Type} (px : S → Prop) (B : String → S → State → Prop) (A : Nat → Prop) : String → State → State → Prop := fun E st t => ∃ u : S, px u ∧ B E u t ∧ va_F A st t
section Runs
variable {p : Program} {l : Launch} {e : Env} {R : Room} {s : State} {m : MethodId} {args : Array Value} {below : List Frame} {meth : Method} {c : Code} {H : Heap} {locs : List Loc} {cells slots : Nat}
variable {y : MethodName} {bytes cc : ByteArray} {maxL nL mc ms n index : Nat} {ret : Option FieldType} {ws : List Cond} {rm : Room} {Pc : Array Value → State → Prop} {Qc : Array Value → State → Outcome → State → Prop} {XC : String → State → State → Prop} {free : Addr → Prop} {Ts : List Cond} {own C : String} {b : Addr} {As rest : List Value} {g : JFrame}
theorem vx_callBack (cb : CallB R s args own index y bytes maxL ret ws rm mc ms n) (hM : vx_Met l y ws rm Pc Qc XC mc ms free) (hbl : FrameBlind Pc) : vx_Back l R p e below s args y 3 8 (PreOf R mc ms Pc) (PostOf Qc mc ms free) (vx_Post XC mc ms free) := by
  obtain ⟨hrc, hrs, hfr, hlo, hws, hcw, -, hini, -⟩ := cb
  exact vx_back (bytes := bytes) (maxL := maxL) (ret := ret) hM hbl hrc hrs hfr hlo hws hcw (fun a' U hW => word_at hW (Or.inl (by first | rfl | simp [Cond.onTables, Cond.keeps, Cond.steady])) hini)
theorem vx_runV (S : CallFix p m c cc nL s args Ts own) (hM : vx_Met l y ws rm Pc Qc XC mc ms free) (cw : CallW R s args own C index y bytes maxL ret ws rm mc ms n) (hp : PreV s H C b Pc As)
    (hg : g.method = m) (hn : As.length = n) (hsize : g.locals.size = nL) (hstack : g.stack = As.reverse ++ .ref b :: rest) (hW : 2 * g.monitorRoom + (rest.map fun v => v.category).sum ≤ 8) (hdg : decode cc g.pc = .ok (.invokevirtual index, 3)) (hf : cells + mc ≤ R.cells ∧ slots + ms ≤ R.slots) :
    vx_Run p l e R s m args below meth c H locs cells slots mc ms g rest (Qc (Value.ref b :: As).toArray) XC free := by
  have hK : vx_Back l R p e below s args y 3 8 (PreOf R mc ms Pc) (PostOf Qc mc ms free) (vx_Post XC mc ms free) := vx_callBack cw.1 hM hp.1
  obtain ⟨⟨-, -, -, -, -, -, hcode, -, hy, hlen, hl⟩, hin, hse⟩ := cw
  obtain ⟨hx, hb, hml, ho, -⟩ := S
  obtain ⟨-, ⟨cellB, hcB, hoB, hclB⟩, hPc⟩ := hp
  intro T hT X
  rcases vx_callV X hx (C := C) (bytes := bytes) (maxL := maxL) (ret := ret) ho hl hin hse hcode hy hK (by rw [hT]; exact hcB) hoB hclB hg (hsize.trans hml.symm) (argsL := As) (rest := rest) (fun sig h => hn.trans (hlen sig h)) hstack hW (by rw [hb]; exact hdg)
    (fun vm₁ hW₁ => ⟨hf.1, hf.2, hPc (T.setVm vm₁) hT hW₁⟩) with ⟨v, vm₁, ⟨U', l2, c2, s2⟩, hW₁, X', ⟨g', mk, t, L, e1, e2, hq, h1, hL, h2, h3⟩, st⟩ | ⟨q, vm₁, ⟨U', l2, c2, s2⟩, hW₁, X', ⟨g', mk, t, L, E, ce, e1, e2, hq, hce, hcv, hcl, h1, hL, h2, h3⟩, st⟩
  · dsimp only [Pt.U, Pt.locs, Pt.cells, Pt.slots] at X' e1 e2 h1 h2 h3 st
    subst h1; subst h2; subst h3
    exact Or.inl ⟨v, (T.setVm vm₁).calling g' mk (Value.ref b :: As).toArray, t, U', L, hT, X', hL, e1, e2, hq, st⟩
  · dsimp only [Pt.U, Pt.locs, Pt.cells, Pt.slots] at X' e1 e2 h1 h2 h3 st hcl
    subst h1; subst h2; subst h3
    exact Or.inr ⟨q, (T.setVm vm₁).calling g' mk (Value.ref b :: As).toArray, t, U', L, E, ce, hT, X', hL, e1, e2, hq, hce, hcv, vx_cls hW₁ hcl, st⟩
theorem vx_runS (S : CallFix p m c cc nL s args Ts own) (hM : vx_Met l y ws rm Pc Qc XC mc ms free) (cw : CallB R s args own index y bytes maxL ret ws rm mc ms n ∧ (Cond.static y).before args s = true) (hp : PreS s H Pc As)
    (hg : g.method = m) (hn : As.length = n) (hsize : g.locals.size = nL) (hstack : g.stack = As.reverse ++ rest) (hW : 2 * g.monitorRoom + (rest.map fun v => v.category).sum ≤ 8) (hdg : decode cc g.pc = .ok (.invokestatic index, 3)) (hf : cells + mc ≤ R.cells ∧ slots + ms ≤ R.slots) :
    vx_Run p l e R s m args below meth c H locs cells slots mc ms g rest (Qc As.toArray) XC free := by
  have hK : vx_Back l R p e below s args y 3 8 (PreOf R mc ms Pc) (PostOf Qc mc ms free) (vx_Post XC mc ms free) := vx_callBack cw.1 hM hp.1
  obtain ⟨⟨-, -, -, -, -, -, hcode, hini, hy, hlen, hl⟩, hstt⟩ := cw
  obtain ⟨hx, hb, hml, ho, -⟩ := S
  intro T hT X
  rcases vx_callS X hx (bytes := bytes) (maxL := maxL) (ret := ret) ho hl hstt hini hcode hy hK hg (hsize.trans hml.symm) (argsL := As) (rest := rest) (fun sig h => hn.trans (hlen sig h)) hstack hW (by rw [hb]; exact hdg)
    (fun vm₁ hW₁ => ⟨hf.1, hf.2, hp.2 (T.setVm vm₁) hT hW₁⟩) with ⟨v, vm₁, ⟨U', l2, c2, s2⟩, hW₁, X', ⟨g', mk, t, L, e1, e2, hq, h1, hL, h2, h3⟩, st⟩ | ⟨q, vm₁, ⟨U', l2, c2, s2⟩, hW₁, X', ⟨g', mk, t, L, E, ce, e1, e2, hq, hce, hcv, hcl, h1, hL, h2, h3⟩, st⟩
  · dsimp only [Pt.U, Pt.locs, Pt.cells, Pt.slots] at X' e1 e2 h1 h2 h3 st
    subst h1; subst h2; subst h3
    exact Or.inl ⟨v, (T.setVm vm₁).calling g' mk As.toArray, t, U', L, hT, X', hL, e1, e2, hq, st⟩
  · dsimp only [Pt.U, Pt.locs, Pt.cells, Pt.slots] at X' e1 e2 h1 h2 h3 st hcl
    subst h1; subst h2; subst h3
    exact Or.inr ⟨q, (T.setVm vm₁).calling g' mk As.toArray, t, U', L, E, ce, hT, X', hL, e1, e2, hq, hce, hcv, vx_cls hW₁ hcl, st⟩
end Runs
section Rows
variable {p : Program} {l : Launch} {e : Env} {R : Room} {s : State} {m : MethodId} {args : Array Value} {below : List Frame} {meth : Method} {c : Code} {H : Heap} {locs : List Loc} {cells slots : Nat} {Q : State → Prop}
variable {mc ms : Nat} {free : Addr → Prop} {A0 A1 : Nat → Prop} {H0 : Heap} {a : Array Value} {pc : Nat} {ls : Array Slot} {st0 rest : List Value}
theorem vx_keep {st₀ t T' : State} {L : List Loc} (h0 : st₀.heap = H) (e1 : T'.heap = t.heap) (hS : va_S A0 H0 H locs) (hA : ∀ q, q < H.size → A1 q → A0 q) (hf : ∀ q, free q → A0 q) (hL : ∀ q ∈ L, free q.base) (hF : va_F A1 st₀ t) :
    H.size ≤ T'.heap.size ∧ (∀ q : Nat, q < H.size → ¬ A1 q → T'.heap[q]? = H[q]?) ∧ va_S A0 H0 T'.heap (locs ++ L) := by
  obtain ⟨hz, hk⟩ := hF
  rw [h0] at hz hk
  exact ⟨by rw [e1]; exact hz, fun q h1 h2 => by rw [e1]; exact hk q h1 h2,
    ⟨Nat.le_trans hS.1 (by rw [e1]; exact hz), fun q h1 h2 => by rw [e1, hk q (Nat.lt_of_lt_of_le h1 hS.1) (fun z => h2 (hA q (Nat.lt_of_lt_of_le h1 hS.1) z))]; exact hS.2.1 q h1 h2, fun q hq => by
      rcases List.mem_append.mp hq with h | h
      · exact hS.2.2 q h
      · exact hf _ (hL q h)⟩⟩
theorem vx_calli {S SX : Type} {post : Int32 → S → Prop} {px : SX → Prop} {B : S → State → Prop} {BX : String → SX → State → Prop} {AX : Nat → Prop} (hr : vx_Run p l e R s m args below meth c H locs cells slots mc ms (F0 m pc ls st0) rest (va_Qi post B A1 a) (vx_X px BX AX) free) (hS : va_S A0 H0 H locs) (hA : ∀ q, q < H.size → A1 q → A0 q) (hf : ∀ q, free q → A0 q) (hAX : ∀ q, q < H.size → AX q → A0 q)
    (kx : ∀ (E : String) (ce : Cell) (q9 : Addr) (u : SX) (t : State) (H1 : Heap) (locs1 : List Loc), t.heap = H1 → s.vm.Alike t.vm → px u → BX E u t → H.size ≤ H1.size → (∀ q : Nat, q < H.size → ¬ AX q → H1[q]? = H[q]?) → va_S A0 H0 H1 locs1 → H1[q9]? = some ce → ce.vm = .none → s.vm.findClass E = some ce.cls → vx_W p l e R s m args below meth c H1 locs1 (cells + mc) (slots + ms) Q (F0 m pc ls rest) q9)
    (kk : ∀ (r : Int32) (u : S) (t : State) (H1 : Heap) (locs1 : List Loc), t.heap = H1 → s.vm.Alike t.vm → post r u → B u t → H.size ≤ H1.size → (∀ q : Nat, q < H.size → ¬ A1 q → H1[q]? = H[q]?) → va_S A0 H0 H1 locs1 → W p l e R s m args below meth c H1 locs1 (cells + mc) (slots + ms) Q (F0 m (pc + 3) ls (.int r :: rest))) : W p l e R s m args below meth c H locs cells slots Q (F0 m pc ls st0) := by
  intro T hT X
  rcases hr T hT X with ⟨v, st₀, t, T', L, h0, X', hL, e1, e2, ⟨⟨r, u, hv, hp, hb⟩, hF⟩, st⟩ | ⟨q, st₀, t, T', L, E, ce, h0, X', hL, e1, e2, ⟨u, hp, hb, hF⟩, hce, hcv, hcl, st⟩
  · cases hv
    obtain ⟨k1, k2, k3⟩ := vx_keep h0 e1 hS hA hf hL hF
    obtain ⟨t2, a1, b1⟩ := kk r u t T'.heap (locs ++ L) e1.symm (by rw [← e2]; exact X'.warmed.alike) hp hb k1 k2 k3 T' rfl X'
    exact ⟨t2, st t2 a1, b1⟩
  · obtain ⟨k1, k2, k3⟩ := vx_keep h0 e1 hS hAX hf hL hF
    obtain ⟨t2, a1, b1⟩ := kx E ce q u t T'.heap (locs ++ L) e1.symm (by rw [← e2]; exact X'.warmed.alike) hp hb k1 k2 k3 (by rw [e1]; exact hce) hcv hcl T' rfl X'
    exact ⟨t2, st.trans a1, b1⟩
theorem vx_calll {S SX : Type} {post : Int64 → S → Prop} {px : SX → Prop} {B : S → State → Prop} {BX : String → SX → State → Prop} {AX : Nat → Prop} (hr : vx_Run p l e R s m args below meth c H locs cells slots mc ms (F0 m pc ls st0) rest (va_Ql post B A1 a) (vx_X px BX AX) free) (hS : va_S A0 H0 H locs) (hA : ∀ q, q < H.size → A1 q → A0 q) (hf : ∀ q, free q → A0 q) (hAX : ∀ q, q < H.size → AX q → A0 q)
    (kx : ∀ (E : String) (ce : Cell) (q9 : Addr) (u : SX) (t : State) (H1 : Heap) (locs1 : List Loc), t.heap = H1 → s.vm.Alike t.vm → px u → BX E u t → H.size ≤ H1.size → (∀ q : Nat, q < H.size → ¬ AX q → H1[q]? = H[q]?) → va_S A0 H0 H1 locs1 → H1[q9]? = some ce → ce.vm = .none → s.vm.findClass E = some ce.cls → vx_W p l e R s m args below meth c H1 locs1 (cells + mc) (slots + ms) Q (F0 m pc ls rest) q9)
    (kk : ∀ (r : Int64) (u : S) (t : State) (H1 : Heap) (locs1 : List Loc), t.heap = H1 → s.vm.Alike t.vm → post r u → B u t → H.size ≤ H1.size → (∀ q : Nat, q < H.size → ¬ A1 q → H1[q]? = H[q]?) → va_S A0 H0 H1 locs1 → W p l e R s m args below meth c H1 locs1 (cells + mc) (slots + ms) Q (F0 m (pc + 3) ls (.long r :: rest))) : W p l e R s m args below meth c H locs cells slots Q (F0 m pc ls st0) := by
  intro T hT X
  rcases hr T hT X with ⟨v, st₀, t, T', L, h0, X', hL, e1, e2, ⟨⟨r, u, hv, hp, hb⟩, hF⟩, st⟩ | ⟨q, st₀, t, T', L, E, ce, h0, X', hL, e1, e2, ⟨u, hp, hb, hF⟩, hce, hcv, hcl, st⟩
  · cases hv
    obtain ⟨k1, k2, k3⟩ := vx_keep h0 e1 hS hA hf hL hF
    obtain ⟨t2, a1, b1⟩ := kk r u t T'.heap (locs ++ L) e1.symm (by rw [← e2]; exact X'.warmed.alike) hp hb k1 k2 k3 T' rfl X'
    exact ⟨t2, st t2 a1, b1⟩
  · obtain ⟨k1, k2, k3⟩ := vx_keep h0 e1 hS hAX hf hL hF
    obtain ⟨t2, a1, b1⟩ := kx E ce q u t T'.heap (locs ++ L) e1.symm (by rw [← e2]; exact X'.warmed.alike) hp hb k1 k2 k3 (by rw [e1]; exact hce) hcv hcl T' rfl X'
    exact ⟨t2, st.trans a1, b1⟩
theorem vx_callf {S SX : Type} {post : UInt32 → S → Prop} {px : SX → Prop} {B : S → State → Prop} {BX : String → SX → State → Prop} {AX : Nat → Prop} (hr : vx_Run p l e R s m args below meth c H locs cells slots mc ms (F0 m pc ls st0) rest (va_Qf post B A1 a) (vx_X px BX AX) free) (hS : va_S A0 H0 H locs) (hA : ∀ q, q < H.size → A1 q → A0 q) (hf : ∀ q, free q → A0 q) (hAX : ∀ q, q < H.size → AX q → A0 q)
    (kx : ∀ (E : String) (ce : Cell) (q9 : Addr) (u : SX) (t : State) (H1 : Heap) (locs1 : List Loc), t.heap = H1 → s.vm.Alike t.vm → px u → BX E u t → H.size ≤ H1.size → (∀ q : Nat, q < H.size → ¬ AX q → H1[q]? = H[q]?) → va_S A0 H0 H1 locs1 → H1[q9]? = some ce → ce.vm = .none → s.vm.findClass E = some ce.cls → vx_W p l e R s m args below meth c H1 locs1 (cells + mc) (slots + ms) Q (F0 m pc ls rest) q9)
    (kk : ∀ (r : UInt32) (u : S) (t : State) (H1 : Heap) (locs1 : List Loc), t.heap = H1 → s.vm.Alike t.vm → post r u → B u t → H.size ≤ H1.size → (∀ q : Nat, q < H.size → ¬ A1 q → H1[q]? = H[q]?) → va_S A0 H0 H1 locs1 → W p l e R s m args below meth c H1 locs1 (cells + mc) (slots + ms) Q (F0 m (pc + 3) ls (.float r :: rest))) : W p l e R s m args below meth c H locs cells slots Q (F0 m pc ls st0) := by
  intro T hT X
  rcases hr T hT X with ⟨v, st₀, t, T', L, h0, X', hL, e1, e2, ⟨⟨r, u, hv, hp, hb⟩, hF⟩, st⟩ | ⟨q, st₀, t, T', L, E, ce, h0, X', hL, e1, e2, ⟨u, hp, hb, hF⟩, hce, hcv, hcl, st⟩
  · cases hv
    obtain ⟨k1, k2, k3⟩ := vx_keep h0 e1 hS hA hf hL hF
    obtain ⟨t2, a1, b1⟩ := kk r u t T'.heap (locs ++ L) e1.symm (by rw [← e2]; exact X'.warmed.alike) hp hb k1 k2 k3 T' rfl X'
    exact ⟨t2, st t2 a1, b1⟩
  · obtain ⟨k1, k2, k3⟩ := vx_keep h0 e1 hS hAX hf hL hF
    obtain ⟨t2, a1, b1⟩ := kx E ce q u t T'.heap (locs ++ L) e1.symm (by rw [← e2]; exact X'.warmed.alike) hp hb k1 k2 k3 (by rw [e1]; exact hce) hcv hcl T' rfl X'
    exact ⟨t2, st.trans a1, b1⟩
theorem vx_calld {S SX : Type} {post : UInt64 → S → Prop} {px : SX → Prop} {B : S → State → Prop} {BX : String → SX → State → Prop} {AX : Nat → Prop} (hr : vx_Run p l e R s m args below meth c H locs cells slots mc ms (F0 m pc ls st0) rest (va_Qd post B A1 a) (vx_X px BX AX) free) (hS : va_S A0 H0 H locs) (hA : ∀ q, q < H.size → A1 q → A0 q) (hf : ∀ q, free q → A0 q) (hAX : ∀ q, q < H.size → AX q → A0 q)
    (kx : ∀ (E : String) (ce : Cell) (q9 : Addr) (u : SX) (t : State) (H1 : Heap) (locs1 : List Loc), t.heap = H1 → s.vm.Alike t.vm → px u → BX E u t → H.size ≤ H1.size → (∀ q : Nat, q < H.size → ¬ AX q → H1[q]? = H[q]?) → va_S A0 H0 H1 locs1 → H1[q9]? = some ce → ce.vm = .none → s.vm.findClass E = some ce.cls → vx_W p l e R s m args below meth c H1 locs1 (cells + mc) (slots + ms) Q (F0 m pc ls rest) q9)
    (kk : ∀ (r : UInt64) (u : S) (t : State) (H1 : Heap) (locs1 : List Loc), t.heap = H1 → s.vm.Alike t.vm → post r u → B u t → H.size ≤ H1.size → (∀ q : Nat, q < H.size → ¬ A1 q → H1[q]? = H[q]?) → va_S A0 H0 H1 locs1 → W p l e R s m args below meth c H1 locs1 (cells + mc) (slots + ms) Q (F0 m (pc + 3) ls (.double r :: rest))) : W p l e R s m args below meth c H locs cells slots Q (F0 m pc ls st0) := by
  intro T hT X
  rcases hr T hT X with ⟨v, st₀, t, T', L, h0, X', hL, e1, e2, ⟨⟨r, u, hv, hp, hb⟩, hF⟩, st⟩ | ⟨q, st₀, t, T', L, E, ce, h0, X', hL, e1, e2, ⟨u, hp, hb, hF⟩, hce, hcv, hcl, st⟩
  · cases hv
    obtain ⟨k1, k2, k3⟩ := vx_keep h0 e1 hS hA hf hL hF
    obtain ⟨t2, a1, b1⟩ := kk r u t T'.heap (locs ++ L) e1.symm (by rw [← e2]; exact X'.warmed.alike) hp hb k1 k2 k3 T' rfl X'
    exact ⟨t2, st t2 a1, b1⟩
  · obtain ⟨k1, k2, k3⟩ := vx_keep h0 e1 hS hAX hf hL hF
    obtain ⟨t2, a1, b1⟩ := kx E ce q u t T'.heap (locs ++ L) e1.symm (by rw [← e2]; exact X'.warmed.alike) hp hb k1 k2 k3 (by rw [e1]; exact hce) hcv hcl T' rfl X'
    exact ⟨t2, st.trans a1, b1⟩
theorem vx_callv {S SX : Type} {post : S → Prop} {px : SX → Prop} {B : S → State → Prop} {BX : String → SX → State → Prop} {AX : Nat → Prop} (hr : vx_Run p l e R s m args below meth c H locs cells slots mc ms (F0 m pc ls st0) rest (va_Qv post B A1 a) (vx_X px BX AX) free) (hS : va_S A0 H0 H locs) (hA : ∀ q, q < H.size → A1 q → A0 q) (hf : ∀ q, free q → A0 q) (hAX : ∀ q, q < H.size → AX q → A0 q)
    (kx : ∀ (E : String) (ce : Cell) (q9 : Addr) (u : SX) (t : State) (H1 : Heap) (locs1 : List Loc), t.heap = H1 → s.vm.Alike t.vm → px u → BX E u t → H.size ≤ H1.size → (∀ q : Nat, q < H.size → ¬ AX q → H1[q]? = H[q]?) → va_S A0 H0 H1 locs1 → H1[q9]? = some ce → ce.vm = .none → s.vm.findClass E = some ce.cls → vx_W p l e R s m args below meth c H1 locs1 (cells + mc) (slots + ms) Q (F0 m pc ls rest) q9)
    (kk : ∀ (u : S) (t : State) (H1 : Heap) (locs1 : List Loc), t.heap = H1 → s.vm.Alike t.vm → post u → B u t → H.size ≤ H1.size → (∀ q : Nat, q < H.size → ¬ A1 q → H1[q]? = H[q]?) → va_S A0 H0 H1 locs1 → W p l e R s m args below meth c H1 locs1 (cells + mc) (slots + ms) Q (F0 m (pc + 3) ls (rest))) : W p l e R s m args below meth c H locs cells slots Q (F0 m pc ls st0) := by
  intro T hT X
  rcases hr T hT X with ⟨v, st₀, t, T', L, h0, X', hL, e1, e2, ⟨⟨u, hv, hp, hb⟩, hF⟩, st⟩ | ⟨q, st₀, t, T', L, E, ce, h0, X', hL, e1, e2, ⟨u, hp, hb, hF⟩, hce, hcv, hcl, st⟩
  · cases hv
    obtain ⟨k1, k2, k3⟩ := vx_keep h0 e1 hS hA hf hL hF
    obtain ⟨t2, a1, b1⟩ := kk u t T'.heap (locs ++ L) e1.symm (by rw [← e2]; exact X'.warmed.alike) hp hb k1 k2 k3 T' rfl X'
    exact ⟨t2, st t2 a1, b1⟩
  · obtain ⟨k1, k2, k3⟩ := vx_keep h0 e1 hS hAX hf hL hF
    obtain ⟨t2, a1, b1⟩ := kx E ce q u t T'.heap (locs ++ L) e1.symm (by rw [← e2]; exact X'.warmed.alike) hp hb k1 k2 k3 (by rw [e1]; exact hce) hcv hcl T' rfl X'
    exact ⟨t2, st.trans a1, b1⟩
/-- caught by the row x of this method's table; the rows ahead don't take it -/
theorem vx_catch {own name : String} {E : String} {ce : Cell} {q : Addr} (hown : s.vm.findClass own = some m.cls) (pre : List ExceptionTableEntry) (x : ExceptionTableEntry) (suf : List ExceptionTableEntry) (hsplit : c.exceptionTable.toList = pre ++ x :: suf)
    (hpass : ∀ z ∈ pre, covers z pc = false ∨ (z.catchType ≠ 0 ∧ ∃ nm : String, (Cond.classLink own z.catchType nm).before args s = true ∧ va_Nc E nm s)) (hx : covers x pc = true) (h0 : x.catchType ≠ 0)
    (hlink : (Cond.classLink own x.catchType name).before args s = true) (hcast : (Cond.castable E name).before args s = true) (hcell : H[q]? = some ce) (hv : ce.vm = .none) (hcl : s.vm.findClass E = some ce.cls)
    (kk : W p l e R s m args below meth c H locs cells slots Q (F0 m x.handlerPc ls [.ref q])) : vx_W p l e R s m args below meth c H locs cells slots Q (F0 m pc ls rest) q := by
  intro T hT X
  have hpl : e.platform.magicAccessors = ({} : Platform).magicAccessors := by rw [X.admits.platform]
  obtain ⟨c3, c4, hc3, hc4, hasg⟩ := Cond.castable_spec hcast
  cases Option.some.inj (hc3.symm.trans hcl)
  obtain ⟨c5, hc5, hcl5⟩ := Cond.classLink_spec hown hlink e.platform hpl
  cases Option.some.inj (hc4.symm.trans hc5)
  obtain ⟨vm', X', st⟩ := X.thenCaughtThrough q (g := F0 m pc ls rest) rfl (Steps.refl _) (by rw [hT]; exact hcell) (by rw [hv]; rfl) (by obtain ⟨k9, h9, -⟩ := Vm.findClass_spec hcl; exact ⟨k9, h9⟩) pre x suf hsplit
    (fun z hz => by
      rcases hpass z hz with h | ⟨hz0, nm, hl1, hn1⟩
      · exact Or.inl h
      · obtain ⟨c6, hc6, hcl6⟩ := Cond.classLink_spec hown hl1 e.platform hpl
        obtain ⟨a8, b8, h1, h2, h3⟩ := hn1
        cases Option.some.inj (h1.symm.trans hcl)
        cases Option.some.inj (h2.symm.trans hc6)
        exact Or.inr ⟨hz0, _, hcl6, h3⟩) hx (Or.inr ⟨h0, c4, hcl5, hasg⟩)
  obtain ⟨t, a1, b1⟩ := kk (T.setVm vm') hT X'
  exact ⟨t, st.trans a1, b1⟩
end Rows
section Ends
variable {p : Program} {l : Launch} {e : Env} {R : Room} {s : State} {m : MethodId} {args : Array Value} {below : List Frame} {meth : Method} {c : Code} {H : Heap} {locs : List Loc} {cells slots : Nat} {Q : State → Prop}
variable {mc ms : Nat} {free : Addr → Prop} {A0 A1 : Nat → Prop} {H0 : Heap} {a : Array Value} {ls : Array Slot} {st0 rest : List Value}
variable {Qc : Array Value → State → Outcome → State → Prop} {XC : String → State → State → Prop}
/-- what a body that may throw owes at its end -/
def vx_MQ (below : List Frame) (Qc : Array Value → State → Outcome → State → Prop) (XC : String → State → State → Prop) (a : Array Value) (s : State) (mc ms : Nat) (free : Addr → Prop) : State → Prop := fun t =>
  ∃ o, t.status = .running ∧ Ended t below o ∧ vx_Q Qc XC mc ms free a s o t
theorem vx_ret {g : JFrame} {mc ms : Nat} (k : W p l e R s m args below meth c H locs cells slots (MQ below Qc args s mc ms free) g) : W p l e R s m args below meth c H locs cells slots (vx_MQ below Qc XC args s mc ms free) g := by
  intro T hT X
  obtain ⟨t, a1, o, b1, b2, b3, b4⟩ := k T hT X
  exact ⟨t, a1, o, b1, b2, Or.inl ⟨b3, b4⟩⟩
/-- not caught here: it goes on to the caller -/
theorem vx_widen {g : JFrame} {q : Addr} {k n : Nat} (h1 : cells ≤ k) (h2 : slots ≤ n) (kk : vx_W p l e R s m args below meth c H locs k n Q g q) : vx_W p l e R s m args below meth c H locs cells slots Q g q := fun T hT X => kk T hT (stand_widen X h1 h2)
theorem vx_out {pc : Nat} {E : String} {ce : Cell} {q : Addr} {mc ms : Nat} (hout : ∀ x ∈ c.exceptionTable.toList, covers x pc = false) (hlocks : meth.locks = false) (hcell : H[q]? = some ce) (hv : ce.vm = .none) (hcl : s.vm.findClass E = some ce.cls)
    (hx : ∀ t : State, t.heap = H → s.vm.Alike t.vm → XC E s t) (hf : ∀ z ∈ locs, free z.base) (hc : cells ≤ mc) (hs : slots ≤ ms) :
    vx_W p l e R s m args below meth c H locs cells slots (vx_MQ below Qc XC args s mc ms free) (F0 m pc ls rest) q := by
  intro T hT X
  obtain ⟨st1, hrun, hend, hW, hsm⟩ := X.leaveThrown q (g := F0 m pc ls rest) rfl rfl rfl hout hlocks
  have hcell9 : (T.setFrames (.throwing q :: below)).heap[q]? = some ce := by
    show T.heap[q]? = some ce
    rw [hT]; exact hcell
  exact ⟨_, st1, .threw q, hrun, hend, Or.inr ⟨q, rfl, E, ce, locs, hx _ hT hW.alike, hcell9, hv, hcl, hW, hsm.mono hc hs, hf⟩⟩
theorem vx_frame {U : State} {k n : Nat} (h : s.sameButNew ({ U with vm := s.vm } : State) locs k n) : s.heap.size ≤ U.heap.size ∧ ∀ q : Nat, q < s.heap.size → (∀ z ∈ locs, z.base ≠ q) → U.heap[q]? = s.heap[q]? := by
  obtain ⟨-, h2, -, -, -, h6⟩ := h
  refine ⟨h2, fun q hq hz => ?_⟩
  obtain ⟨c9, e1, e2, e3, e4⟩ := h6 q _ (Array.getElem?_eq_getElem hq)
  have hs : c9.slots = (s.heap[q]).slots := Array.ext_getElem? fun i => e4 i fun hm => hz _ hm rfl
  have h9 : c9 = s.heap[q] := by
    rw [hs] at e2
    exact e2
  have e5 : U.heap[q]? = some c9 := e1
  rw [e5, h9, Array.getElem?_eq_getElem hq]
/-- the words of a throw but the four that speak of the heap -/
def vx_no (w : Cond) : Bool := decide (w ≠ .isRef (.static Bundle.tN "UNASSIGNED_STACK" Bundle.steD)) && decide (w ≠ .isRef (.static Bundle.tN "SUPPRESSED_SENTINEL" Bundle.listD)) && decide (w ≠ .laysStatic Bundle.tN "UNASSIGNED_STACK" Bundle.steD) && decide (w ≠ .laysStatic Bundle.tN "SUPPRESSED_SENTINEL" Bundle.listD)
def vx_at0 (own : String) (ic : Nat) (X : String) (names : List String) : List Cond := (Bundle.ownAtoms0 own ic X names).filter vx_no
def vx_atS (own : String) (ic : Nat) (X : String) (names : List String) : List Cond := (Bundle.ownAtoms own ic X names).filter vx_no
/-- a word that the tables alone decide, or a good one -/
def vx_ot (w : Cond) : Bool := w.onTables || goodWord w
theorem vx_ot_at {args a' : Array Value} {s U : State} {w : Cond} (hW : s.WarmedH U.vm) (hvm : s.vm = U.vm) (hg : vx_ot w = true) (h : w.before args s = true) : w.before a' U = true := by
  simp only [vx_ot, Bool.or_eq_true] at hg
  rcases hg with hg | hg
  · exact va_tabs hg hvm h
  · exact word_at hW (good_of_word hg) h
/-- a list's words: the good ones out of the method's own list, the others by premises of their own -/
theorem vx_hat {args : Array Value} {s : State} {L B : List Cond} (h1 : ∀ w ∈ L.filter goodWord, w.before args s = true) (h2 : ∀ w ∈ L.filter (fun w => !goodWord w), w ∈ B) (h3 : ∀ w ∈ B, w.before args s = true) : ∀ w ∈ L, w.before args s = true := by
  intro w hw
  by_cases g : goodWord w = true
  · exact h1 w (List.mem_filter.mpr ⟨hw, g⟩)
  · refine h3 w (h2 w (List.mem_filter.mpr ⟨hw, ?_⟩))
    show (!goodWord w) = true
    cases hgw : goodWord w
    · rfl
    · exact absurd hgw g
theorem vx_c {args : Array Value} {s : State} {w : Cond} {B : List Cond} (h : w.before args s = true) (t : ∀ w ∈ B, w.before args s = true) : ∀ w' ∈ w :: B, w'.before args s = true := fun w' h' => (List.mem_cons.mp h').elim (fun e => by rw [e]; exact h) (t w')
theorem vx_n {args : Array Value} {s : State} : ∀ w ∈ ([] : List Cond), w.before args s = true := fun _ h => nomatch h
theorem vx_own {args : Array Value} {s : State} {L : List Cond} (h1 : ∀ w ∈ L.filter vx_no, w.before args s = true)
    (hU : (Cond.isRef (.static Bundle.tN "UNASSIGNED_STACK" Bundle.steD)).before args s = true) (hN : (Cond.isRef (.static Bundle.tN "SUPPRESSED_SENTINEL" Bundle.listD)).before args s = true)
    (lU : (Cond.laysStatic Bundle.tN "UNASSIGNED_STACK" Bundle.steD).before args s = true) (lN : (Cond.laysStatic Bundle.tN "SUPPRESSED_SENTINEL" Bundle.listD).before args s = true) : ∀ w ∈ L, w.before args s = true := by
  intro w hw
  by_cases e1 : w = .isRef (.static Bundle.tN "UNASSIGNED_STACK" Bundle.steD)
  · rw [e1]; exact hU
  · by_cases e2 : w = .isRef (.static Bundle.tN "SUPPRESSED_SENTINEL" Bundle.listD)
    · rw [e2]; exact hN
    · by_cases e3 : w = .laysStatic Bundle.tN "UNASSIGNED_STACK" Bundle.steD
      · rw [e3]; exact lU
      · by_cases e4 : w = .laysStatic Bundle.tN "SUPPRESSED_SENTINEL" Bundle.listD
        · rw [e4]; exact lN
        · exact h1 w (List.mem_filter.mpr ⟨hw, by unfold vx_no; rw [decide_eq_true e1, decide_eq_true e2, decide_eq_true e3, decide_eq_true e4]; rfl⟩)
/-- where a static field lies, its class's statics cell in H -/
def vx_L (C n d : String) (A : Nat → Prop) (U : State) (H : Heap) : Prop := ∃ (c : ClassId) (k : Class) (i : Nat) (f : Field) (a : Nat) (cell : Cell), U.vm.findClass C = some c ∧ U.fieldFound? C n d = some (c, k, i, f) ∧ f.isStatic = true ∧ k.statics = some a ∧ H[a]? = some cell ∧ cell.vm.isStatics = true ∧ cell.cls = c ∧ f.slot < cell.slots.size ∧ k.staticTypes[f.slot]? = some f.type ∧ ¬ A a
theorem vx_L.moved {C n d : String} {A : Nat → Prop} {u U : State} {H : Heap} (hvm : u.vm.Alike U.vm) (h : vx_L C n d A u H) : vx_L C n d A U H := by
  obtain ⟨c, k, i, f, a, cell, h1, h2, h3, h4, h5, h6, h7, h8, h9, h10⟩ := h
  obtain ⟨k', hi', he⟩ := State.fieldFound?_setVm hvm h2
  exact ⟨c, k', i, f, a, cell, by rw [hvm.findClass]; exact h1, hi', h3, by rw [he]; exact h4, h5, h6, h7, h8, by rw [he]; exact h9, h10⟩
theorem vx_L.kept {C n d : String} {A : Nat → Prop} {U : State} {H H1 : Heap} (h : vx_L C n d A U H) (hq : ∀ a : Nat, a < H.size → ¬ A a → H1[a]? = H[a]?) : vx_L C n d A U H1 := by
  obtain ⟨c, k, i, f, a, cell, h1, h2, h3, h4, h5, h6, h7, h8, h9, h10⟩ := h
  exact ⟨c, k, i, f, a, cell, h1, h2, h3, h4, by rw [hq a (Array.getElem?_eq_some_iff.mp h5).1 h10]; exact h5, h6, h7, h8, h9, h10⟩
theorem vx_L.narrow {C n d : String} {A B : Nat → Prop} {U : State} {H : Heap} (h : vx_L C n d A U H) (hAB : ∀ q, B q → A q) : vx_L C n d B U H := by
  obtain ⟨c, k, i, f, a, cell, h1, h2, h3, h4, h5, h6, h7, h8, h9, h10⟩ := h
  exact ⟨c, k, i, f, a, cell, h1, h2, h3, h4, h5, h6, h7, h8, h9, fun z => h10 (hAB _ z)⟩
theorem vx_L.word {C n d : String} {A : Nat → Prop} {s : State} {args : Array Value} (h : vx_L C n d A s s.heap) : (Cond.laysStatic C n d).before args s = true := by
  obtain ⟨c, k, i, f, a, cell, h1, h2, h3, h4, h5, h6, h7, h8, h9, -⟩ := h
  show (Cond.laysStatic C n d).holds args s none s [] = true
  exact Cond.laysStatic_of h1 h2 h3 h4 h5 h6 h7 h8 h9
/-- .. and what it holds: null or some reference -/
def vx_Zq (C n d : String) (A : Nat → Prop) (U : State) (H : Heap) : Prop := va_Zq C n d A U H ∧ vx_L C n d A U H
theorem vx_Zq.moved {C n d : String} {A : Nat → Prop} {u U : State} {H : Heap} (hvm : u.vm.Alike U.vm) (h : vx_Zq C n d A u H) : vx_Zq C n d A U H := ⟨va_Zq.moved hvm h.1, vx_L.moved hvm h.2⟩
theorem vx_Zq.kept {C n d : String} {A : Nat → Prop} {U : State} {H H1 : Heap} (h : vx_Zq C n d A U H) (hq : ∀ a : Nat, a < H.size → ¬ A a → H1[a]? = H[a]?) : vx_Zq C n d A U H1 := ⟨va_Zq.kept h.1 hq, vx_L.kept h.2 hq⟩
theorem vx_Zq.narrow {C n d : String} {A B : Nat → Prop} {U : State} {H : Heap} (h : vx_Zq C n d A U H) (hAB : ∀ q, B q → A q) : vx_Zq C n d B U H := ⟨va_Zq.narrow h.1 hAB, vx_L.narrow h.2 hAB⟩
theorem vx_Zqof {args : Array Value} {s : State} {C n d : String} {A : Nat → Prop} (hl : (Cond.laysStatic C n d).before args s = true) (hini : (Cond.initialized C).before args s = true) (h : (Cond.isRef (.static C n d)).before args s = true) (hA : ∀ a : Nat, a < s.heap.size → ¬ A a) : vx_Zq C n d A s s.heap := by
  refine ⟨va_Zqof hl hini h hA, ?_⟩
  obtain ⟨c, k, i, f, a, cell, h1, h2, h3, h4, h5, h6, h7, h8, h9⟩ := Cond.laysStatic_spec hl
  exact ⟨c, k, i, f, a, cell, h1, h2, h3, h4, h5, h6, h7, h8, h9, hA a (Array.getElem?_eq_some_iff.mp h5).1⟩
theorem vx_isRef {C n d : String} {v : Value} {A : Nat → Prop} {s : State} {args : Array Value} (h : va_Z C n d v A s s.heap) (hv : v.isRef = true) : (Cond.isRef (.static C n d)).before args s = true := by
  obtain ⟨cf, kf, fi, f, a, cell, h1, h2, h3, h4, h5, h6, h7, -⟩ := h
  have he : (Term.static C n d).eval args s none [] s = some v := by
    simp [Term.eval, State.fieldNamed?, h1, h2, h4, h5, h6, h7]
  simp only [Cond.before, Cond.holds, Cond.value, he]
  cases v <;> simp_all [Value.isRef]
theorem vx_isRefq {C n d : String} {A : Nat → Prop} {s : State} {args : Array Value} (h : va_Zq C n d A s s.heap) : (Cond.isRef (.static C n d)).before args s = true := by
  rcases h with h | ⟨t, h⟩
  · exact vx_isRef h rfl
  · exact vx_isRef h rfl
/-- the same frame, seen from here: as if the method were called anew in this heap -/
theorem vx_rebase {T : State} (X : Stand p l e R s m args below meth c T locs cells slots) {R' : Room} (hf : R'.frames ≤ R.frames) (hl : R'.locals ≤ R.locals) (hc : cells + R'.cells ≤ R.cells) (hs : slots + R'.slots ≤ R.slots) :
    Stand p l e R' ((T.setVm s.vm).setFrames (.invoking m args :: below)) m args below meth c T [] 0 0 := by
  have htop : (T.setVm s.vm).topJava?.isSome := X.here.top
  have hF : ((T.setVm s.vm).setFrames (.invoking m args :: below)).frames = .invoking m args :: below := State.frames_setFrames _ (State.cur_lt_of_top htop)
  obtain ⟨g₀, hg0⟩ := Option.isSome_iff_exists.mp htop
  obtain ⟨r, hr⟩ := State.topJava?_eq_some.mp hg0
  have hl9 : e.platform.stackLimits (T.setVm s.vm).me = e.platform.stackLimits s.me := X.limits
  have hb9 : (T.setVm s.vm).me.stackBytes = s.me.stackBytes := X.bytes
  refine ⟨X.admits, X.cas, X.clock, hF, ?_, X.hears, X.method, X.code, X.here, X.tail, X.warmed, ?_, ?_, ?_⟩
  · have h := X.room
    have hU : ((T.setVm s.vm).setFrames (.invoking m args :: below)).localsInUse = s.localsInUse := by
      rw [State.localsInUse_invoking hF (meth := meth) (c := c) X.method X.code, State.localsInUse_invoking X.frames X.method X.code]
    simp only [State.hasRoom, Bool.and_eq_true, decide_eq_true_eq] at h ⊢
    obtain ⟨⟨⟨⟨h1, h2, h3, h4, h5, h6⟩, h7⟩, h8⟩, h9⟩ := h
    rw [X.frames, List.length_cons] at h2 h3
    have q1 := X.heapSize
    have q2 := X.used
    simp only [hF, hU, List.length_cons, State.stackLimits_setFrames, State.stackBytes_setFrames, hl9, hb9]
    refine ⟨⟨⟨⟨by omega, by omega, by omega, by omega, by omega, h6⟩, ?_⟩, ?_⟩, X.book⟩
    · show T.heap.size + R'.cells ≤ e.platform.maxCells
      omega
    · show T.slotsUsed + R'.slots ≤ e.platform.maxSlots
      omega
  · rw [State.stackLimits_setFrames]; rfl
  · rw [State.stackBytes_setFrames]; rfl
  · refine ⟨?_, Nat.le_refl _, Nat.le_refl _, ?_, ?_, fun a c9 h9 => ⟨c9, h9, rfl, rfl, fun _ _ => rfl⟩⟩
    · obtain ⟨t, ht, -⟩ := State.frames_cons hr
      show T.setVm s.vm = { ((T.setVm s.vm).setFrames (.invoking m args :: below)).setFrames (T.setVm s.vm).frames with heap := T.heap, slotsUsed := T.slotsUsed }
      rw [State.setFrames_setFrames, State.setFrames_self ht]
      rfl
    · show T.slotsUsed = T.slotsUsed + ((T.heap.toList.drop T.heap.size).map (·.slots.size)).sum
      rw [List.drop_eq_nil_of_le (Nat.le_of_eq Array.length_toList)]
      rfl
    · show ((T.heap.toList.drop T.heap.size).map (·.slots.size)).sum ≤ 0
      rw [List.drop_eq_nil_of_le (Nat.le_of_eq Array.length_toList)]
      exact Nat.le_refl _
/-- 'throw new E()': new; dup; invokespecial; athrow -/
theorem vx_throw0 {cc : ByteArray} {pc : Nat} (hexec : p.tables.exec = Jvm.exec) (hb : c.code = cc) (hl : l.stackTraces = false) {own cls : String} {names : List String} {ik ic mc ms : Nat} {A : Nat → Prop}
    (hown : s.vm.findClass own = some m.cls) (hcls : Bundle.fit cls = true) (hnames : ∀ n ∈ names, Bundle.fit n = true)
    (hk : (Cond.classLink own ik cls).before args s = true) (hini : (Cond.initialized cls).before args s = true) (hat : ∀ w ∈ vx_at0 own ic cls names, w.before args s = true)
    (hgood : ∀ w ∈ Cond.classLink own ik cls :: Cond.initialized cls :: vx_at0 own ic cls names, vx_ot w = true)
    (hU : vx_Zq Bundle.tN "UNASSIGNED_STACK" Bundle.steD A s s.heap) (hN : vx_Zq Bundle.tN "SUPPRESSED_SENTINEL" Bundle.listD A s s.heap) (hS : va_S A s.heap H locs) (hsize : ls.size = c.maxLocals)
    (d0 : decode cc pc = .ok (.new ik, 3)) (d3 : decode cc (pc + 3) = .ok (.dup, 1)) (d4 : decode cc (pc + 4) = .ok (.invokespecial ic, 3)) (d7 : decode cc (pc + 7) = .ok (.athrow, 1))
    (hout : ∀ x ∈ c.exceptionTable.toList, covers x (pc + 7) = false)
    (hRframes : names.length + 3 < R.frames) (hRlocals : (rest.map fun v => v.category).sum + (13 * (names.length + 1) + 42) ≤ R.locals) (hRcells : cells + 1 ≤ R.cells) (hRslots : slots + 6 ≤ R.slots) (hlocks : meth.locks = false)
    (hx : ∀ t : State, s.vm.Alike t.vm → H.size ≤ t.heap.size → (∀ q : Nat, q < H.size → t.heap[q]? = H[q]?) → XC cls s t)
    (hf : ∀ z ∈ locs, free z.base) (hc : cells + 1 ≤ mc) (hs : slots + 6 ≤ ms) :
    W p l e R s m args below meth c H locs cells slots (vx_MQ below Qc XC args s mc ms free) (F0 m pc ls rest) := by
  intro T hT X
  have htr : e.platform.stackTraces = false := (show e.platform.stackTraces = l.stackTraces by rw [X.admits.platform]).trans hl
  have Y := vx_rebase X (R' := { frames := R.frames, locals := R.locals, cells := 1, slots := 6 }) (Nat.le_refl _) (Nat.le_refl _) hRcells hRslots
  obtain ⟨s', hA⟩ : ∃ z, z = (T.setVm s.vm).setFrames (.invoking m args :: below) := ⟨_, rfl⟩
  rw [← hA] at Y
  have hvm : s'.vm = s.vm := by rw [hA]; rfl
  have hhp : s'.heap = H := by rw [hA]; exact hT
  have hW0 : s.WarmedH s'.vm := by rw [hvm]; exact State.WarmedH.refl s
  have hat' : ∀ w ∈ vx_at0 own ic cls names, w.before args s' = true := fun w hw => vx_ot_at hW0 hvm.symm (hgood w (List.mem_cons_of_mem _ (List.mem_cons_of_mem _ hw))) (hat w hw)
  have hk' : (Cond.classLink own ik cls).before args s' = true := vx_ot_at hW0 hvm.symm (hgood _ List.mem_cons_self) hk
  have hini' : (Cond.initialized cls).before args s' = true := vx_ot_at hW0 hvm.symm (hgood _ (List.mem_cons_of_mem _ List.mem_cons_self)) hini
  have hU' : vx_Zq Bundle.tN "UNASSIGNED_STACK" Bundle.steD A s' s'.heap := by rw [hhp]; exact vx_Zq.moved hW0.alike (hU.kept hS.2.1)
  have hN' : vx_Zq Bundle.tN "SUPPRESSED_SENTINEL" Bundle.listD A s' s'.heap := by rw [hhp]; exact vx_Zq.moved hW0.alike (hN.kept hS.2.1)
  have h : ∀ w ∈ Bundle.ownAtoms0 own ic cls names, w.before args s' = true := vx_own hat' (vx_isRefq hU'.1) (vx_isRefq hN'.1) hU'.2.word hN'.2.word
  have hown' : s'.vm.findClass own = some m.cls := by rw [hvm]; exact hown
  have hins : (Cond.instantiable cls 6).before args s' = true := h _ (by simp [Bundle.ownAtoms0])
  obtain ⟨vm₁, cX, kX, hfX, hkX, -, -, X₁, st1⟩ := Y.newCold hexec (own := own) (C := cls) (index := ik) (n := 6) hown' hk' hins hini'
    (g := F0 m pc ls rest) rfl (by rw [hb]; exact d0) (Nat.le_refl _) (Nat.le_refl _)
  generalize hT1 : (T.setVm vm₁).pushCell { cls := cX, slots := kX.instanceTypes.map defaultValue, vm := .none } = T1 at X₁ st1
  have hcat : (Value.ref T.heap.size).category = 1 := rfl
  have hcellA : T1.heap[T.heap.size]? = some (freshCell cX kX) := by rw [← hT1]; exact State.heap_pushCell_size _ _
  have d3' : decode c.code (pc + 3) = .ok (.dup, 1) := by rw [hb]; exact d3
  obtain ⟨U, hsteps, hrun, hend, hW, hsame, ce, hce, hO⟩ := X₁.ctorThrow0 hexec htr (own := own) (cls := cls) (names := names) (ic := ic) hown' hcls hnames h (fun x hx => nomatch hx) hfX hkX hcellA (by rw [hhp, hT]; exact Nat.le_refl _)
    (g := { method := m, pc := pc + 4, locals := ls, stack := .ref T.heap.size :: .ref T.heap.size :: rest, locked := none }) rfl hsize rfl rfl (rest := rest) rfl
    (by rw [hb]; exact d4) (by rw [hb]; exact d7) hout hRframes (by simp only [List.map_cons, List.sum_cons, hcat]; omega) hlocks
  obtain ⟨f1, f2⟩ := vx_frame hsame
  rw [hhp] at f1 f2
  have hWs : s.WarmedH U.vm := State.WarmedH.trans hW0 hW
  have hcl : s.vm.findClass cls = some ce.cls := by
    have h9 := hO.cls
    rw [hvm] at h9
    exact h9
  have hall : s.sameButNew ({ U with vm := s.vm } : State) locs mc ms := by
    subst hA
    obtain ⟨e1, e2⟩ := hsame
    rw [State.setFrames_setFrames] at e1
    have h2 : (T.setVm s.vm).sameButNew ({ U with vm := s.vm } : State) [] (0 + 1) (0 + 6) := ⟨e1, e2⟩
    have h3 := X.same.trans h2
    rw [List.append_nil] at h3
    exact h3.mono hc hs
  refine ⟨U, ?_, .threw T.heap.size, hrun, hend, Or.inr ⟨T.heap.size, rfl, cls, ce, locs, hx U hWs.alike f1 (fun q hq => f2 q hq (fun z hz => nomatch hz)), hce, hO.vm, hcl, hWs, hall, hf⟩⟩
  refine st1 _ ?_
  show Steps p.tables e below (T1.setTop { method := m, pc := pc + 3, locals := ls, stack := .ref T.heap.size :: rest, locked := none }) _
  jvm_step X₁.here [X₁.here.top, hexec, d3', Value.category]
  exact hsteps
/-- 'throw new E("text")': new; dup; ldc; invokespecial; athrow -/
theorem vx_throwS {cc : ByteArray} {pc : Nat} (hexec : p.tables.exec = Jvm.exec) (hb : c.code = cc) (hl : l.stackTraces = false) {own cls text : String} {names : List String} {ik is ic mc ms sa : Nat} {A : Nat → Prop}
    (hown : s.vm.findClass own = some m.cls) (hcls : Bundle.fit cls = true) (hnames : ∀ n ∈ names, Bundle.fit n = true)
    (hk : (Cond.classLink own ik cls).before args s = true) (hini : (Cond.initialized cls).before args s = true) (hstr : vk_R own is text sa s) (hat : ∀ w ∈ vx_atS own ic cls names, w.before args s = true)
    (hgood : ∀ w ∈ Cond.classLink own ik cls :: Cond.initialized cls :: vx_atS own ic cls names, vx_ot w = true)
    (hU : vx_Zq Bundle.tN "UNASSIGNED_STACK" Bundle.steD A s s.heap) (hN : vx_Zq Bundle.tN "SUPPRESSED_SENTINEL" Bundle.listD A s s.heap) (hS : va_S A s.heap H locs) (hsize : ls.size = c.maxLocals)
    (d0 : decode cc pc = .ok (.new ik, 3)) (d3 : decode cc (pc + 3) = .ok (.dup, 1)) (d4 : decode cc (pc + 4) = .ok (.ldc is, 2)) (d6 : decode cc (pc + 6) = .ok (.invokespecial ic, 3)) (d9 : decode cc (pc + 9) = .ok (.athrow, 1))
    (hout : ∀ x ∈ c.exceptionTable.toList, covers x (pc + 9) = false)
    (hRframes : names.length + 3 < R.frames) (hRlocals : (rest.map fun v => v.category).sum + (13 * (names.length + 1) + 43) ≤ R.locals) (hRcells : cells + 1 ≤ R.cells) (hRslots : slots + 6 ≤ R.slots) (hlocks : meth.locks = false)
    (hx : ∀ t : State, s.vm.Alike t.vm → H.size ≤ t.heap.size → (∀ q : Nat, q < H.size → t.heap[q]? = H[q]?) → XC cls s t)
    (hf : ∀ z ∈ locs, free z.base) (hc : cells + 1 ≤ mc) (hs : slots + 6 ≤ ms) :
    W p l e R s m args below meth c H locs cells slots (vx_MQ below Qc XC args s mc ms free) (F0 m pc ls rest) := by
  intro T hT X
  have htr : e.platform.stackTraces = false := (show e.platform.stackTraces = l.stackTraces by rw [X.admits.platform]).trans hl
  have Y := vx_rebase X (R' := { frames := R.frames, locals := R.locals, cells := 1, slots := 6 }) (Nat.le_refl _) (Nat.le_refl _) hRcells hRslots
  obtain ⟨s', hA⟩ : ∃ z, z = (T.setVm s.vm).setFrames (.invoking m args :: below) := ⟨_, rfl⟩
  rw [← hA] at Y
  have hvm : s'.vm = s.vm := by rw [hA]; rfl
  have hhp : s'.heap = H := by rw [hA]; exact hT
  have hW0 : s.WarmedH s'.vm := by rw [hvm]; exact State.WarmedH.refl s
  have hat' : ∀ w ∈ vx_atS own ic cls names, w.before args s' = true := fun w hw => vx_ot_at hW0 hvm.symm (hgood w (List.mem_cons_of_mem _ (List.mem_cons_of_mem _ hw))) (hat w hw)
  have hk' : (Cond.classLink own ik cls).before args s' = true := vx_ot_at hW0 hvm.symm (hgood _ List.mem_cons_self) hk
  have hini' : (Cond.initialized cls).before args s' = true := vx_ot_at hW0 hvm.symm (hgood _ (List.mem_cons_of_mem _ List.mem_cons_self)) hini
  have hU' : vx_Zq Bundle.tN "UNASSIGNED_STACK" Bundle.steD A s' s'.heap := by rw [hhp]; exact vx_Zq.moved hW0.alike (hU.kept hS.2.1)
  have hN' : vx_Zq Bundle.tN "SUPPRESSED_SENTINEL" Bundle.listD A s' s'.heap := by rw [hhp]; exact vx_Zq.moved hW0.alike (hN.kept hS.2.1)
  have h : ∀ w ∈ Bundle.ownAtoms own ic cls names, w.before args s' = true := vx_own hat' (vx_isRefq hU'.1) (vx_isRefq hN'.1) hU'.2.word hN'.2.word
  have hown' : s'.vm.findClass own = some m.cls := by rw [hvm]; exact hown
  have hins : (Cond.instantiable cls 6).before args s' = true := h _ (by simp [Bundle.ownAtoms])
  obtain ⟨vm₁, cX, kX, hfX, hkX, -, -, X₁, st1⟩ := Y.newCold hexec (own := own) (C := cls) (index := ik) (n := 6) hown' hk' hins hini'
    (g := F0 m pc ls rest) rfl (by rw [hb]; exact d0) (Nat.le_refl _) (Nat.le_refl _)
  generalize hT1 : (T.setVm vm₁).pushCell { cls := cX, slots := kX.instanceTypes.map defaultValue, vm := .none } = T1 at X₁ st1
  have hcat : (Value.ref T.heap.size).category = 1 := rfl
  have hcellA : T1.heap[T.heap.size]? = some (freshCell cX kX) := by rw [← hT1]; exact State.heap_pushCell_size _ _
  have d3' : decode c.code (pc + 3) = .ok (.dup, 1) := by rw [hb]; exact d3
  have d4' : decode c.code (pc + 4) = .ok (.ldc is, 2) := by rw [hb]; exact d4
  have hstr' : vk_R own is text sa s' := vk_R.warm hW0 hstr
  obtain ⟨U, hsteps, hrun, hend, hW, hsame, ce, hce, hO⟩ := X₁.ctorThrowS hexec htr (own := own) (cls := cls) (names := names) (ic := ic) hown' hcls hnames h (fun x hx => nomatch hx) hfX hkX hcellA (by rw [hhp, hT]; exact Nat.le_refl _) (msg := .ref sa) rfl
    (g := { method := m, pc := pc + 6, locals := ls, stack := .ref sa :: .ref T.heap.size :: .ref T.heap.size :: rest, locked := none }) rfl hsize rfl rfl (rest := rest) rfl
    (by rw [hb]; exact d6) (by rw [hb]; exact d9) hout hRframes (by simp only [List.map_cons, List.sum_cons, hcat]; omega) hlocks
  obtain ⟨f1, f2⟩ := vx_frame hsame
  rw [hhp] at f1 f2
  have hWs : s.WarmedH U.vm := State.WarmedH.trans hW0 hW
  have hcl : s.vm.findClass cls = some ce.cls := by
    have h9 := hO.cls
    rw [hvm] at h9
    exact h9
  have hall : s.sameButNew ({ U with vm := s.vm } : State) locs mc ms := by
    subst hA
    obtain ⟨e1, e2⟩ := hsame
    rw [State.setFrames_setFrames] at e1
    have h2 : (T.setVm s.vm).sameButNew ({ U with vm := s.vm } : State) [] (0 + 1) (0 + 6) := ⟨e1, e2⟩
    have h3 := X.same.trans h2
    rw [List.append_nil] at h3
    exact h3.mono hc hs
  refine ⟨U, ?_, .threw T.heap.size, hrun, hend, Or.inr ⟨T.heap.size, rfl, cls, ce, locs, hx U hWs.alike f1 (fun q hq => f2 q hq (fun z hz => nomatch hz)), hce, hO.vm, hcl, hWs, hall, hf⟩⟩
  refine st1 _ ?_
  show Steps p.tables e below (T1.setTop { method := m, pc := pc + 3, locals := ls, stack := .ref T.heap.size :: rest, locked := none }) _
  jvm_step X₁.here [X₁.here.top, hexec, d3', Value.category]
  exact X₁.ldcString hexec (own := own) (text := text) (index := is) (a := sa) hown' hstr'.1 hstr'.2
    (g := { method := m, pc := pc + 4, locals := ls, stack := .ref T.heap.size :: .ref T.heap.size :: rest, locked := none }) rfl d4' _ hsteps
/-- 'throw new E("text")', the text by a wide index -/
theorem vx_throwSW {cc : ByteArray} {pc : Nat} (hexec : p.tables.exec = Jvm.exec) (hb : c.code = cc) (hl : l.stackTraces = false) {own cls text : String} {names : List String} {ik is ic mc ms sa : Nat} {A : Nat → Prop}
    (hown : s.vm.findClass own = some m.cls) (hcls : Bundle.fit cls = true) (hnames : ∀ n ∈ names, Bundle.fit n = true)
    (hk : (Cond.classLink own ik cls).before args s = true) (hini : (Cond.initialized cls).before args s = true) (hstr : vk_R own is text sa s) (hat : ∀ w ∈ vx_atS own ic cls names, w.before args s = true)
    (hgood : ∀ w ∈ Cond.classLink own ik cls :: Cond.initialized cls :: vx_atS own ic cls names, vx_ot w = true)
    (hU : vx_Zq Bundle.tN "UNASSIGNED_STACK" Bundle.steD A s s.heap) (hN : vx_Zq Bundle.tN "SUPPRESSED_SENTINEL" Bundle.listD A s s.heap) (hS : va_S A s.heap H locs) (hsize : ls.size = c.maxLocals)
    (d0 : decode cc pc = .ok (.new ik, 3)) (d3 : decode cc (pc + 3) = .ok (.dup, 1)) (d4 : decode cc (pc + 4) = .ok (.ldc_w is, 3)) (d7 : decode cc (pc + 7) = .ok (.invokespecial ic, 3)) (d10 : decode cc (pc + 10) = .ok (.athrow, 1))
    (hout : ∀ x ∈ c.exceptionTable.toList, covers x (pc + 10) = false)
    (hRframes : names.length + 3 < R.frames) (hRlocals : (rest.map fun v => v.category).sum + (13 * (names.length + 1) + 43) ≤ R.locals) (hRcells : cells + 1 ≤ R.cells) (hRslots : slots + 6 ≤ R.slots) (hlocks : meth.locks = false)
    (hx : ∀ t : State, s.vm.Alike t.vm → H.size ≤ t.heap.size → (∀ q : Nat, q < H.size → t.heap[q]? = H[q]?) → XC cls s t)
    (hf : ∀ z ∈ locs, free z.base) (hc : cells + 1 ≤ mc) (hs : slots + 6 ≤ ms) :
    W p l e R s m args below meth c H locs cells slots (vx_MQ below Qc XC args s mc ms free) (F0 m pc ls rest) := by
  intro T hT X
  have htr : e.platform.stackTraces = false := (show e.platform.stackTraces = l.stackTraces by rw [X.admits.platform]).trans hl
  have Y := vx_rebase X (R' := { frames := R.frames, locals := R.locals, cells := 1, slots := 6 }) (Nat.le_refl _) (Nat.le_refl _) hRcells hRslots
  obtain ⟨s', hA⟩ : ∃ z, z = (T.setVm s.vm).setFrames (.invoking m args :: below) := ⟨_, rfl⟩
  rw [← hA] at Y
  have hvm : s'.vm = s.vm := by rw [hA]; rfl
  have hhp : s'.heap = H := by rw [hA]; exact hT
  have hW0 : s.WarmedH s'.vm := by rw [hvm]; exact State.WarmedH.refl s
  have hat' : ∀ w ∈ vx_atS own ic cls names, w.before args s' = true := fun w hw => vx_ot_at hW0 hvm.symm (hgood w (List.mem_cons_of_mem _ (List.mem_cons_of_mem _ hw))) (hat w hw)
  have hk' : (Cond.classLink own ik cls).before args s' = true := vx_ot_at hW0 hvm.symm (hgood _ List.mem_cons_self) hk
  have hini' : (Cond.initialized cls).before args s' = true := vx_ot_at hW0 hvm.symm (hgood _ (List.mem_cons_of_mem _ List.mem_cons_self)) hini
  have hU' : vx_Zq Bundle.tN "UNASSIGNED_STACK" Bundle.steD A s' s'.heap := by rw [hhp]; exact vx_Zq.moved hW0.alike (hU.kept hS.2.1)
  have hN' : vx_Zq Bundle.tN "SUPPRESSED_SENTINEL" Bundle.listD A s' s'.heap := by rw [hhp]; exact vx_Zq.moved hW0.alike (hN.kept hS.2.1)
  have h : ∀ w ∈ Bundle.ownAtoms own ic cls names, w.before args s' = true := vx_own hat' (vx_isRefq hU'.1) (vx_isRefq hN'.1) hU'.2.word hN'.2.word
  have hown' : s'.vm.findClass own = some m.cls := by rw [hvm]; exact hown
  have hins : (Cond.instantiable cls 6).before args s' = true := h _ (by simp [Bundle.ownAtoms])
  obtain ⟨vm₁, cX, kX, hfX, hkX, -, -, X₁, st1⟩ := Y.newCold hexec (own := own) (C := cls) (index := ik) (n := 6) hown' hk' hins hini'
    (g := F0 m pc ls rest) rfl (by rw [hb]; exact d0) (Nat.le_refl _) (Nat.le_refl _)
  generalize hT1 : (T.setVm vm₁).pushCell { cls := cX, slots := kX.instanceTypes.map defaultValue, vm := .none } = T1 at X₁ st1
  have hcat : (Value.ref T.heap.size).category = 1 := rfl
  have hcellA : T1.heap[T.heap.size]? = some (freshCell cX kX) := by rw [← hT1]; exact State.heap_pushCell_size _ _
  have d3' : decode c.code (pc + 3) = .ok (.dup, 1) := by rw [hb]; exact d3
  have d4' : decode c.code (pc + 4) = .ok (.ldc_w is, 3) := by rw [hb]; exact d4
  have hstr' : vk_R own is text sa s' := vk_R.warm hW0 hstr
  obtain ⟨U, hsteps, hrun, hend, hW, hsame, ce, hce, hO⟩ := X₁.ctorThrowS hexec htr (own := own) (cls := cls) (names := names) (ic := ic) hown' hcls hnames h (fun x hx => nomatch hx) hfX hkX hcellA (by rw [hhp, hT]; exact Nat.le_refl _) (msg := .ref sa) rfl
    (g := { method := m, pc := pc + 7, locals := ls, stack := .ref sa :: .ref T.heap.size :: .ref T.heap.size :: rest, locked := none }) rfl hsize rfl rfl (rest := rest) rfl
    (by rw [hb]; exact d7) (by rw [hb]; exact d10) hout hRframes (by simp only [List.map_cons, List.sum_cons, hcat]; omega) hlocks
  obtain ⟨f1, f2⟩ := vx_frame hsame
  rw [hhp] at f1 f2
  have hWs : s.WarmedH U.vm := State.WarmedH.trans hW0 hW
  have hcl : s.vm.findClass cls = some ce.cls := by
    have h9 := hO.cls
    rw [hvm] at h9
    exact h9
  have hall : s.sameButNew ({ U with vm := s.vm } : State) locs mc ms := by
    subst hA
    obtain ⟨e1, e2⟩ := hsame
    rw [State.setFrames_setFrames] at e1
    have h2 : (T.setVm s.vm).sameButNew ({ U with vm := s.vm } : State) [] (0 + 1) (0 + 6) := ⟨e1, e2⟩
    have h3 := X.same.trans h2
    rw [List.append_nil] at h3
    exact h3.mono hc hs
  refine ⟨U, ?_, .threw T.heap.size, hrun, hend, Or.inr ⟨T.heap.size, rfl, cls, ce, locs, hx U hWs.alike f1 (fun q hq => f2 q hq (fun z hz => nomatch hz)), hce, hO.vm, hcl, hWs, hall, hf⟩⟩
  refine st1 _ ?_
  show Steps p.tables e below (T1.setTop { method := m, pc := pc + 3, locals := ls, stack := .ref T.heap.size :: rest, locked := none }) _
  jvm_step X₁.here [X₁.here.top, hexec, d3', Value.category]
  exact X₁.ldcStringW hexec (own := own) (text := text) (index := is) (a := sa) hown' hstr'.1 hstr'.2
    (g := { method := m, pc := pc + 4, locals := ls, stack := .ref T.heap.size :: .ref T.heap.size :: rest, locked := none }) rfl d4' _ hsteps
end Ends
section Bodies
variable {l : Launch}
theorem vx_ofW {y : MethodName} {ws ws' : List Cond} {rm : Room} {Pc : Array Value → State → Prop} {Qc : Array Value → State → Outcome → State → Prop} {XC : String → State → State → Prop} {mc ms : Nat} {free : Addr → Prop} {cc : ByteArray} {maxL : Nat} {ret : Option FieldType}
    (hy : plainName y.cls = true) (hw : ws = Cond.code y cc maxL ret :: ws')
    (body : ∀ p e s m args below meth c s₁, BodyLoose p l y (headSpec ws rm) cc maxL ret e s m args below meth c s₁ → c.maxLocals = maxL → (∀ x ∈ c.exceptionTable.toList, False) → Pc args s →
      W p l e (headSpec ws rm).room s m args below meth c s.heap [] 0 0 (vx_MQ below Qc XC args s mc ms free) (entryFrame m args maxL)) : vx_Met l y ws rm Pc Qc XC mc ms free := by
  refine MetFree.of_bodyS (code := cc) (maxLocals := maxL) (ret := ret) hy ?_ ?_
  · intro args s m h hn
    obtain ⟨meth, c, h1, h2, h3, h4, h5, h6, -, -⟩ := Cond.code_spec hn (atoms_spec (ws := ws) h _ (by rw [hw]; exact List.mem_cons_self))
    exact ⟨meth, c, h1, h2, h3, h4, h5, h6⟩
  · intro p e s m args below meth c s₁ B hml hP _
    have hh0 : s₁.heap = s.heap := by rw [B.state]; rfl
    have ht : ∀ x ∈ c.exceptionTable.toList, False := by
      obtain ⟨meth9, c9, h1, h2, -, -, -, -, h7, -⟩ := Cond.code_spec B.named (atoms_spec (ws := ws) B.pre _ (by rw [hw]; exact List.mem_cons_self))
      cases Option.some.inj (h1.symm.trans B.method)
      cases Option.some.inj (h2.symm.trans (Stand.of_body B).code)
      intro x hx
      rw [Array.isEmpty_iff.mp h7] at hx
      cases hx
    obtain ⟨t, a1, o, b1, b2, b3⟩ := body p e s m args below meth c s₁ B hml ht hP s₁ hh0 (Stand.of_body B)
    exact ⟨t, o, a1, b1, b2, b3⟩
/-- the table of a body with handlers -/
theorem vx_table {p : Program} {x y : MethodName} {S : Spec} {cc bytes : ByteArray} {maxL maxL' : Nat} {ret ret' : Option FieldType} {e : Env} {s s₁ : State} {m : MethodId} {args : Array Value} {below : List Frame} {meth : Method} {c : Code} {hh : List (Nat × Nat × Nat × Nat)}
    (B : BodyLoose p l y S cc maxL ret e s m args below meth c s₁) (h : (Cond.codeWith y bytes maxL' ret' hh).before args s = true) : c.exceptionTable.toList = tableOf hh := by
  obtain ⟨m9, meth9, c9, hn9, h1, h2, -, -, h6, -⟩ := Cond.codeWith_spec h
  cases Option.some.inj (hn9.symm.trans B.named)
  cases Option.some.inj (h1.symm.trans B.method)
  cases Option.some.inj (h2.symm.trans (Stand.of_body B).code)
  rw [← h6, table_eq]
end Bodies
end VXA
/-! ===== END ===== -/
/-! ===== BEGIN a static call of a method with an exception table ===== -/
section VXS
variable {p : Program} {l : Launch} {e : Env} {R : Room} {s : State} {m : MethodId} {args : Array Value} {below : List Frame} {meth : Method} {c : Code} {T : State} {H : Heap} {locs : List Loc} {cells slots : Nat}
abbrev vx_CSW (R : Room) (s : State) (args : Array Value) (own : String) (index : Nat) (y : MethodName) (bytes : ByteArray) (maxL : Nat) (ret : Option FieldType) (hh : List (Nat × Nat × Nat × Nat)) (ws : List Cond) (rm : Room) (mc ms n : Nat) : Prop :=
  (rm.cells = mc ∧ rm.slots = ms ∧ rm.frames + 1 ≤ R.frames ∧ 8 + (maxL + 11) + rm.locals ≤ R.locals ∧ (∀ w ∈ ws, ∀ (a' : Array Value) (U : State), s.WarmedH U.vm → w.before a' U = true) ∧ Cond.codeWith y bytes maxL ret hh ∈ ws) ∧
  (Cond.codeWith y bytes maxL ret hh).before args s = true ∧ (Cond.initialized y.cls).before args s = true ∧ (y.cls ≠ "java/lang/invoke/MethodHandle" ∧ y.cls ≠ "java/lang/invoke/VarHandle") ∧
  (∀ sig, parseMethodDescriptor y.desc = some sig → n = sig.parameters.length) ∧ (Cond.methodLink own index y).before args s = true ∧ (Cond.static y).before args s = true
theorem vx_cwSW {own : String} {index maxL mc ms : Nat} {y : MethodName} {bytes : ByteArray} {ret : Option FieldType} {hh : List (Nat × Nat × Nat × Nat)} {Ts ws ws' : List Cond} {rm : Room} (n : Nat) (ht : ∀ w ∈ Ts, w.before args s = true) (hT : GoodIn Ts (va_wsS own index y ws)) (hw : ws = Cond.codeWith y bytes maxL ret hh :: ws') (hrc : rm.cells = mc) (hrs : rm.slots = ms)
    (hd : y.cls ≠ "java/lang/invoke/MethodHandle" ∧ y.cls ≠ "java/lang/invoke/VarHandle" ∧ (parseMethodDescriptor y.desc).map (fun d => d.parameters.length) = some n) (hR : rm.frames + 1 ≤ R.frames ∧ 8 + (maxL + 11) + rm.locals ≤ R.locals) :
    vx_CSW R s args own index y bytes maxL ret hh ws rm mc ms n := by
  have ok : ∀ w ∈ va_wsS own index y ws, w.before args s = true := fun w h => ht w (hT w h).1
  have hG : GoodIn Ts ws := fun w h => hT w (by unfold va_wsS; exact List.mem_append_right _ h)
  have hc : Cond.codeWith y bytes maxL ret hh ∈ ws := by rw [hw]; exact List.mem_cons_self
  refine ⟨⟨hrc, hrs, hR.1, hR.2, pay_in ht hG, hc⟩, ht _ (hG _ hc).1, ok _ (by simp [va_wsS]), ⟨hd.1, hd.2.1⟩, fun sig h => ?_, ok _ (by simp [va_wsS]), ok _ (by simp [va_wsS])⟩
  have h2 := hd.2.2
  rw [h] at h2
  exact (Option.some.inj h2).symm
theorem vx_callSW (X : Stand p l e R s m args below meth c T locs cells slots) (hexec : p.tables.exec = Jvm.exec) {own : String} {index : Nat} {y : MethodName} {bytes : ByteArray} {maxL : Nat} {ret : Option FieldType} {hh : List (Nat × Nat × Nat × Nat)}
    (hown : s.vm.findClass own = some m.cls) (hlink : (Cond.methodLink own index y).before args s = true) (hstat : (Cond.static y).before args s = true) (hinit : (Cond.initialized y.cls).before args s = true)
    (hcode : (Cond.codeWith y bytes maxL ret hh).before args s = true) (hy : y.cls ≠ "java/lang/invoke/MethodHandle" ∧ y.cls ≠ "java/lang/invoke/VarHandle")
    {W9 : Nat} {Pre : Pt → Array Value → Prop} {Post : Pt → Array Value → Option Value → Pt → Prop} (hK : Back l R p e below s args y 3 W9 Pre Post)
    {g : JFrame} (hg : g.method = m) (hsize : g.locals.size = c.maxLocals) {argsL rest : List Value} (hlen : ∀ sig, parseMethodDescriptor y.desc = some sig → argsL.length = sig.parameters.length)
    (hstack : g.stack = argsL.reverse ++ rest) (hW : 2 * g.monitorRoom + (rest.map fun v => v.category).sum ≤ W9) (hdg : decode c.code g.pc = .ok (.invokestatic index, 3))
    (hpre : ∀ vm₁, s.WarmedH vm₁ → Pre ⟨T.setVm vm₁, locs, cells, slots⟩ argsL.toArray) :
    ∃ (v : Option Value) (vm₁ : Vm) (B : Pt), s.WarmedH vm₁ ∧ Stand p l e R s m args below meth c B.U B.locs B.cells B.slots ∧ Post ⟨T.setVm vm₁, locs, cells, slots⟩ argsL.toArray v B ∧
      ∀ target, Steps p.tables e below (B.U.setTop { g with pc := g.pc + 3, stack := v.toList ++ rest }) target → Steps p.tables e below (T.setTop g) target := by
  obtain ⟨mk, methM, cM, hnamed, hmethM, -, -, -, -, -, -, hsigM⟩ := Cond.codeWith_spec hcode
  have hstatic : methM.isStatic = true := Cond.static_spec hnamed hmethM hstat
  obtain ⟨kP, hkP, -⟩ := className_of_methodNamed hnamed
  have hinitP : kP.init = .initialized := Cond.initialized_spec (findClass_of_methodNamed hnamed) hkP hinit
  obtain ⟨vm₁, X₁, hstep₁⟩ := X.invokestatic hexec hown hlink hnamed hmethM hstatic hkP hinitP hy (g := g) hg (argsL := argsL) (rest := rest) (hlen _ hsigM) hstack hdg
  obtain ⟨v, B, X', hpost, hsteps⟩ := hK m meth c ⟨T.setVm vm₁, locs, cells, slots⟩ { g with stack := rest } (.invokestatic index) mk argsL.toArray X₁ hg hsize hdg hW (X₁.named hnamed) (hpre vm₁ X₁.warmed)
  exact ⟨v, vm₁, B, X₁.warmed, X', hpost, fun target h => hstep₁ _ fun acts => by rw [doInvoke_state]; exact hsteps.trans h⟩
theorem vx_runSW {y : MethodName} {bytes cc : ByteArray} {maxL nL mc ms n index : Nat} {ret : Option FieldType} {hh : List (Nat × Nat × Nat × Nat)} {ws : List Cond} {rm : Room} {Pc : Array Value → State → Prop} {Qc : Array Value → State → Outcome → State → Prop} {free : Addr → Prop} {Ts : List Cond} {own : String} {As rest : List Value} {g : JFrame}
    (S : CallFix p m c cc nL s args Ts own) (hM : Met l y ws rm Pc Qc mc ms free) (cw : vx_CSW R s args own index y bytes maxL ret hh ws rm mc ms n) (hp : PreS s H Pc As)
    (hg : g.method = m) (hn : As.length = n) (hsize : g.locals.size = nL) (hstack : g.stack = As.reverse ++ rest) (hW : 2 * g.monitorRoom + (rest.map fun v => v.category).sum ≤ 8) (hdg : decode cc g.pc = .ok (.invokestatic index, 3)) (hf : cells + mc ≤ R.cells ∧ slots + ms ≤ R.slots) :
    va_Run p l e R s m args below meth c H locs cells slots mc ms g rest (Qc As.toArray) (free) := by
  obtain ⟨⟨hrc, hrs, hfr, hlo, hws, hcw⟩, hcode, hini, hy, hlen, hl, hstt⟩ := cw
  have hK : Back l R p e below s args y 3 8 (PreOf R mc ms Pc) (PostOf Qc mc ms free) := va_backW (hh := hh) (bytes := bytes) (maxL := maxL) (ret := ret) hM hp.1 hrc hrs hfr hlo hws hcw (fun a' U hW => word_at hW (Or.inl (by first | rfl | simp [Cond.onTables, Cond.keeps, Cond.steady])) hini)
  obtain ⟨hx, hb, hml, ho, -⟩ := S
  intro T hT X
  obtain ⟨v, vm₁, ⟨U', l2, c2, s2⟩, hW₁, X', ⟨g', mk, t, L, e1, e2, hq, h1, hL, h2, h3⟩, st⟩ := vx_callSW X hx (hh := hh) (bytes := bytes) (maxL := maxL) (ret := ret) ho hl hstt hini hcode hy hK hg (hsize.trans hml.symm) (argsL := As) (rest := rest) (fun sig h => hn.trans (hlen sig h)) hstack hW (by rw [hb]; exact hdg)
    (fun vm₁ hW₁ => ⟨hf.1, hf.2, hp.2 (T.setVm vm₁) hT hW₁⟩)
  dsimp only [Pt.U, Pt.locs, Pt.cells, Pt.slots] at X' e1 e2 h1 h2 h3 st
  subst h1; subst h2; subst h3
  exact ⟨v, (T.setVm vm₁).calling g' mk As.toArray, t, U', L, hT, X', hL, e1, e2, hq, st⟩
/-- not caught here, past rows that name other classes: it goes on to the caller -/
theorem vx_outP {p : Program} {l : Launch} {e : Env} {R : Room} {s : State} {m : MethodId} {args : Array Value} {below : List Frame} {meth : Method} {c : Code} {H : Heap} {locs : List Loc} {cells slots : Nat} {free : Addr → Prop} {ls : Array Slot} {rest : List Value} {Qc : Array Value → State → Outcome → State → Prop} {XC : String → State → State → Prop}
    {pc : Nat} {own E : String} {ce : Cell} {q : Addr} {mc ms : Nat} (hown : s.vm.findClass own = some m.cls) (hlocks : meth.locks = false)
    (hpass : ∀ z ∈ c.exceptionTable.toList, covers z pc = false ∨ (z.catchType ≠ 0 ∧ ∃ nm : String, (Cond.classLink own z.catchType nm).before args s = true ∧ va_Nc E nm s)) (hcell : H[q]? = some ce) (hv : ce.vm = .none) (hcl : s.vm.findClass E = some ce.cls)
    (hx : ∀ t : State, t.heap = H → s.vm.Alike t.vm → XC E s t) (hf : ∀ z ∈ locs, free z.base) (hc : cells ≤ mc) (hs : slots ≤ ms) :
    vx_W p l e R s m args below meth c H locs cells slots (vx_MQ below Qc XC args s mc ms free) (F0 m pc ls rest) q := by
  intro T hT X
  have hpl : e.platform.magicAccessors = ({} : Platform).magicAccessors := by rw [X.admits.platform]
  obtain ⟨vm', hW', X', st⟩ := X.outThrough hlocks q (g := F0 m pc ls rest) rfl rfl rfl (cell := ce) (by rw [hT]; exact hcell) (by rw [hv]; rfl)
    (by obtain ⟨k9, h9, -⟩ := Vm.findClass_spec hcl; exact ⟨k9, h9⟩) (fun z hz => by
      rcases hpass z hz with h | ⟨hz0, nm, hl1, hn1⟩
      · exact Or.inl h
      · obtain ⟨c6, hc6, hcl6⟩ := Cond.classLink_spec hown hl1 e.platform hpl
        obtain ⟨a8, b8, h1, h2, h3⟩ := hn1
        cases Option.some.inj (h1.symm.trans hcl)
        cases Option.some.inj (h2.symm.trans hc6)
        exact Or.inr ⟨hz0, _, hcl6, h3⟩)
  obtain ⟨g₀, hfr⟩ := X'.frames_eq
  have hcell9 : ((T.setVm vm').setFrames (.throwing q :: below)).heap[q]? = some ce := by
    show T.heap[q]? = some ce
    rw [hT]; exact hcell
  have hend : Ended ((T.setVm vm').setFrames (.throwing q :: below)) below (.threw q) := State.frames_setFrames _ (State.cur_lt_of_frames hfr)
  refine ⟨(T.setVm vm').setFrames (.throwing q :: below), ?_, .threw q, X'.here.running, hend, Or.inr ⟨q, rfl, E, ce, locs, hx _ hT (X'.ends _).1.alike, hcell9, hv, hcl, (X'.ends _).1, (X'.ends _).2.mono hc hs, hf⟩⟩
  rw [X.pushThrowing_eq]
  exact st
/-- a thing of a world lies in the heap -/
theorem vx_lt {D : va_G} {cl : List vw_C} {ws : va_W} {H1 : Heap} (h : va_P D cl ws H1) {k : Nat} {q : Nat × va_E} (hk : ws[k]? = some q) : q.1 < H1.size := (h k q hk).lt
end VXS
/-! ===== END ===== -/
/-! ===== BEGIN methods with a table of their own: called by a name, returning or throwing ===== -/
section VXH
/-! vx_backW, vx_callVX, vx_callSX, vx_callVW, vx_runVW, vx_runVX, vx_runSX, vx_ofWH follow the same proofs as their sisters above (Free/Laws.lean, Shelf42/LK1.lean); vx_outP calls Shelf42/NT130.lean (outThrough). -/
section
variable {l : Launch} {R : Room} {p : Program} {e : Env} {below : List Frame} {s : State} {sargs : Array Value} {y : MethodName} {len W9 : Nat}
theorem vx_backW {ws : List Cond} {rm : Room} {Pc : Array Value → State → Prop} {Qc : Array Value → State → Outcome → State → Prop} {XC : String → State → State → Prop} {mc ms : Nat} {free : Addr → Prop} {bytes : ByteArray} {maxL : Nat} {ret : Option FieldType} {hh : List (Nat × Nat × Nat × Nat)}
    (hM : vx_Met l y ws rm Pc Qc XC mc ms free) (hblind : FrameBlind Pc) (hrc : rm.cells = mc) (hrs : rm.slots = ms)
    (hframes : rm.frames + 1 ≤ R.frames) (hlocals : W9 + (maxL + 11) + rm.locals ≤ R.locals)
    (hws : ∀ w ∈ ws, ∀ a' U, s.WarmedH U.vm → w.before a' U = true) (hcode : Cond.codeWith y bytes maxL ret hh ∈ ws) (hinit : ∀ a' U, s.WarmedH U.vm → (Cond.initialized y.cls).before a' U = true) :
    vx_Back l R p e below s sargs y len W9 (PreOf R mc ms Pc) (PostOf Qc mc ms free) (vx_Post XC mc ms free) := by
  intro m meth c A g ig mk a X hg hsize hdg hW hn hp
  have h1 : (headSpec ws rm).pre.before a A.U = true := atoms_intro fun w hw => hws w hw _ _ X.warmed
  have h2 : (Cond.codeWith y bytes maxL ret hh).before a A.U = true := hws _ hcode _ _ X.warmed
  have h3 : (Cond.initialized y.cls).before a A.U = true := hinit _ _ X.warmed
  have h4 : A.cells + (headSpec ws rm).room.cells ≤ R.cells := by rw [show (headSpec ws rm).room.cells = mc from hrc]; exact hp.1
  have h5 : A.slots + (headSpec ws rm).room.slots ≤ R.slots := by rw [show (headSpec ws rm).room.slots = ms from hrs]; exact hp.2.1
  have hPc : Pc a (A.U.calling g mk a) := hblind _ _ _ _ hp.2.2
  obtain ⟨U, Ls, c0, s0⟩ := A
  dsimp only [Pt.U, Pt.locs, Pt.cells, Pt.slots] at h1 h2 h3 h4 h5 X hn hPc ⊢
  obtain ⟨m9, methY, cY, hn9, hmY, hcY, -, hlY, -⟩ := Cond.codeWith_spec h2
  cases Option.some.inj (hn9.symm.trans hn)
  obtain ⟨kY, hkY, -⟩ := className_of_methodNamed hn
  have hinitY : kY.init = .initialized := Cond.initialized_spec (findClass_of_methodNamed hn) hkY h3
  have h : At U g.method c below := by rw [hg]; exact X.here
  have hlocals9 : W9 + (maxL + 11) + (headSpec ws rm).room.locals ≤ R.locals := hlocals
  have happ : (headSpec ws rm).appliesLoose y e.platform (U.calling g mk a) = true :=
    Spec.appliesLoose_calling (g := g) h hdg hn hkY hinitY
      (X.room_calling (g := g) (R' := (headSpec ws rm).room) hsize hmY hcY hframes (by rw [hlY]; omega) h4 h5) h1
  obtain ⟨mid, hmid⟩ := h.above
  have hfr : (U.setTop g).frames = (.java g :: mid) ++ below := by rw [State.frames_setTop' g h.top, hmid]; rfl
  obtain ⟨o, s₂, hsteps, -, hend, hq⟩ := Steps.callFree hM p X.admits X.cas X.clock (acts := []) hfr happ hPc trivial
  have hq' : vx_Q Qc XC mc ms free a (U.calling g mk a) o s₂ := hq
  rw [State.frames_setTop' g h.top] at hend
  obtain ⟨g₀, hg0⟩ := Option.isSome_iff_exists.mp h.top
  obtain ⟨r, hr⟩ := State.topJava?_eq_some.mp hg0
  have hr' : (({ U with heap := s₂.heap, slotsUsed := s₂.slotsUsed } : State).setVm s₂.vm).frames = .java g₀ :: r := hr
  rcases hq' with ⟨hqc, L, hfe, hL⟩ | ⟨q, rfl, E, ce, L, hx, hce, hcv, hcl, hW₂, hsm, hL⟩
  · obtain ⟨⟨v, rfl⟩, hW₂, e2, q2, q3, q4, q5, q6⟩ := id hfe
    have e3 : s₂ = ({ (U.calling g mk a).setFrames s₂.frames with heap := s₂.heap, slotsUsed := s₂.slotsUsed } : State).setVm s₂.vm := by
      have : s₂ = ({ s₂ with vm := (U.calling g mk a).vm } : State).setVm s₂.vm := rfl
      rw [e2] at this
      exact this
    obtain ⟨c₂, i₂, len₂, hc₂, hd₂, hf₂⟩ := hend
    have hW' : U.WarmedH s₂.vm := hW₂
    have hcc : c₂ = c := by
      have h1 : s₂.code? g.method = U.code? g.method := by
        rw [State.code?_eq, State.code?_eq, hW'.alike.method?]
      exact Option.some.inj (hc₂.symm.trans (h1.trans h.code))
    subst hcc
    have hlen : len₂ = len := by rw [hdg] at hd₂; cases hd₂; rfl
    subst hlen
    have hs₂ : s₂ = (({ U with heap := s₂.heap, slotsUsed := s₂.slotsUsed } : State).setVm s₂.vm).setTop { g with pc := g.pc + len₂, stack := v.toList ++ g.stack } := by
      refine e3.trans ?_
      rw [hf₂, State.calling_eq h.top, State.setFrames_setFrames, State.setTop_of_frames _ hr', hr]
      rfl
    have hsame : U.sameButNew ({ U with heap := s₂.heap, slotsUsed := s₂.slotsUsed } : State) L mc ms := by
      refine ⟨?_, q2, q3, q4, q5, q6⟩
      obtain ⟨t, ht, -⟩ := State.frames_cons hr
      show ({ U with heap := s₂.heap, slotsUsed := s₂.slotsUsed } : State) = { U.setFrames U.frames with heap := s₂.heap, slotsUsed := s₂.slotsUsed }
      rw [State.setFrames_self ht]
    subst hg
    refine Or.inl ⟨v, ⟨(({ U with heap := s₂.heap, slotsUsed := s₂.slotsUsed } : State).setVm s₂.vm), Ls ++ L, c0 + mc, s0 + ms⟩,
      ⟨X.admits, X.cas, X.clock, X.frames, X.room, X.hears, X.method, X.code, (X.here.setHeapUsed s₂.heap s₂.slotsUsed).setVm hW'.alike, X.tail, State.WarmedH.trans X.warmed hW', X.limits, X.bytes, X.same.trans (hsame.setVm s.vm)⟩,
      ⟨g, mk, s₂, L, rfl, rfl, hqc, rfl, hL, rfl, rfl⟩, ?_⟩
    show Steps p.tables e below _ ((({ U with heap := s₂.heap, slotsUsed := s₂.slotsUsed } : State).setVm s₂.vm).setTop { g with pc := g.pc + len₂, stack := v.toList ++ g.stack })
    rw [← hs₂]
    exact hsteps
  · obtain ⟨e2, q2, q3, q4, q5, q6⟩ := id hsm
    have e3 : s₂ = ({ (U.calling g mk a).setFrames s₂.frames with heap := s₂.heap, slotsUsed := s₂.slotsUsed } : State).setVm s₂.vm := by
      have : s₂ = ({ s₂ with vm := (U.calling g mk a).vm } : State).setVm s₂.vm := rfl
      rw [e2] at this
      exact this
    have hf₂ : s₂.frames = .throwing q :: .java g :: U.frames.tail := hend
    have hW' : U.WarmedH s₂.vm := hW₂
    have hs₂ : s₂ = ((({ U with heap := s₂.heap, slotsUsed := s₂.slotsUsed } : State).setVm s₂.vm).setTop g).pushFrame (.throwing q) := by
      refine e3.trans ?_
      rw [hf₂, State.calling_eq h.top, State.setFrames_setFrames, State.pushFrame, State.frames_setTop _ hr', State.setTop_of_frames _ hr', State.setFrames_setFrames, hr]
      rfl
    have hsame : U.sameButNew ({ U with heap := s₂.heap, slotsUsed := s₂.slotsUsed } : State) L mc ms := by
      refine ⟨?_, q2, q3, q4, q5, q6⟩
      obtain ⟨t, ht, -⟩ := State.frames_cons hr
      show ({ U with heap := s₂.heap, slotsUsed := s₂.slotsUsed } : State) = { U.setFrames U.frames with heap := s₂.heap, slotsUsed := s₂.slotsUsed }
      rw [State.setFrames_self ht]
    subst hg
    refine Or.inr ⟨q, ⟨(({ U with heap := s₂.heap, slotsUsed := s₂.slotsUsed } : State).setVm s₂.vm), Ls ++ L, c0 + mc, s0 + ms⟩,
      ⟨X.admits, X.cas, X.clock, X.frames, X.room, X.hears, X.method, X.code, (X.here.setHeapUsed s₂.heap s₂.slotsUsed).setVm hW'.alike, X.tail, State.WarmedH.trans X.warmed hW', X.limits, X.bytes, X.same.trans (hsame.setVm s.vm)⟩,
      ⟨g, mk, s₂, L, E, ce, rfl, rfl, hx, hce, hcv, hcl, rfl, hL, rfl, rfl⟩, ?_⟩
    show Steps p.tables e below _ (((({ U with heap := s₂.heap, slotsUsed := s₂.slotsUsed } : State).setVm s₂.vm).setTop g).pushFrame (.throwing q))
    rw [← hs₂]
    exact hsteps
end
variable {p : Program} {l : Launch} {e : Env} {R : Room} {s : State} {m : MethodId} {args : Array Value} {below : List Frame} {meth : Method} {c : Code} {T : State} {H : Heap} {locs : List Loc} {cells slots : Nat}
theorem vx_callVX (X : Stand p l e R s m args below meth c T locs cells slots) (hexec : p.tables.exec = Jvm.exec) {own C : String} {index : Nat} {y : MethodName} {bytes : ByteArray} {maxL : Nat} {ret : Option FieldType} {hh : List (Nat × Nat × Nat × Nat)}
    (hown : s.vm.findClass own = some m.cls) (hlink : (Cond.methodLink own index y).before args s = true) (hinst : (Cond.instanceMethod y).before args s = true) (hsel : (Cond.selects C y y).before args s = true)
    (hcode : (Cond.codeWith y bytes maxL ret hh).before args s = true) (hy : y.cls ≠ "java/lang/invoke/MethodHandle" ∧ y.cls ≠ "java/lang/invoke/VarHandle")
    {W9 : Nat} {Pre : Pt → Array Value → Prop} {Post : Pt → Array Value → Option Value → Pt → Prop} {PostX : Pt → Array Value → Addr → Pt → Prop} (hK : vx_Back l R p e below s args y 3 W9 Pre Post PostX)
    {b : Addr} {cellB : Cell} (hcell : T.heap[b]? = some cellB) (hobj : cellB.vm.isStatics = false) (hcls : s.vm.findClass C = some cellB.cls)
    {g : JFrame} (hg : g.method = m) (hsize : g.locals.size = c.maxLocals) {argsL rest : List Value} (hlen : ∀ sig, parseMethodDescriptor y.desc = some sig → argsL.length = sig.parameters.length)
    (hstack : g.stack = argsL.reverse ++ .ref b :: rest) (hW : 2 * g.monitorRoom + (rest.map fun v => v.category).sum ≤ W9) (hdg : decode c.code g.pc = .ok (.invokevirtual index, 3))
    (hpre : ∀ vm₁, s.WarmedH vm₁ → Pre ⟨T.setVm vm₁, locs, cells, slots⟩ (Value.ref b :: argsL).toArray) :
    (∃ (v : Option Value) (vm₁ : Vm) (B : Pt), s.WarmedH vm₁ ∧ Stand p l e R s m args below meth c B.U B.locs B.cells B.slots ∧ Post ⟨T.setVm vm₁, locs, cells, slots⟩ (Value.ref b :: argsL).toArray v B ∧
      ∀ target, Steps p.tables e below (B.U.setTop { g with pc := g.pc + 3, stack := v.toList ++ rest }) target → Steps p.tables e below (T.setTop g) target) ∨
    (∃ (q : Addr) (vm₁ : Vm) (B : Pt), s.WarmedH vm₁ ∧ Stand p l e R s m args below meth c B.U B.locs B.cells B.slots ∧ PostX ⟨T.setVm vm₁, locs, cells, slots⟩ (Value.ref b :: argsL).toArray q B ∧
      Steps p.tables e below (T.setTop g) ((B.U.setTop { g with stack := rest }).pushFrame (.throwing q))) := by
  obtain ⟨mk, methM, hnamed, hmethM, hstM, habM⟩ := Cond.instanceMethod_spec hinst
  obtain ⟨m8, methM', cM, hn8, hmethM', -, -, -, -, -, -, hsigM⟩ := Cond.codeWith_spec hcode
  cases Option.some.inj (hn8.symm.trans hnamed)
  cases hmethM.symm.trans hmethM'
  obtain ⟨c2, r2, m2, q1, q2, q3, q4, kP, hkP, hkPi⟩ := Cond.selects_spec hsel
  cases hcls.symm.trans q1
  cases (State.methodFound?_of_named hnamed hy).symm.trans q2
  cases hnamed.symm.trans q3
  have hselP : selectMethod e.platform s.vm cellB.cls mk = .method mk := by rw [Launch.admits_selectMethod X.admits]; exact q4
  obtain ⟨vm₁, X₁, hstep₁⟩ := X.invokevirtual hexec hown hlink hnamed hmethM hstM hkP hkPi hy (a := b) (cell := cellB) hcell
    (fun z h => by rw [h] at hobj; cases hobj) hselP hmethM habM hkP hkPi (g := g) hg (argsL := argsL) (rest := rest) (hlen _ hsigM) hstack hdg
  rcases hK m meth c ⟨T.setVm vm₁, locs, cells, slots⟩ { g with stack := rest } (.invokevirtual index) mk (Value.ref b :: argsL).toArray X₁ hg hsize hdg hW (X₁.named hnamed) (hpre vm₁ X₁.warmed) with ⟨v, B, X', hpost, hsteps⟩ | ⟨q, B, X', hpost, hsteps⟩
  · exact Or.inl ⟨v, vm₁, B, X₁.warmed, X', hpost, fun target h => hstep₁ _ fun acts => by rw [doInvoke_state]; exact hsteps.trans h⟩
  · exact Or.inr ⟨q, vm₁, B, X₁.warmed, X', hpost, hstep₁ _ fun acts => by rw [doInvoke_state]; exact hsteps⟩
theorem vx_callSX (X : Stand p l e R s m args below meth c T locs cells slots) (hexec : p.tables.exec = Jvm.exec) {own : String} {index : Nat} {y : MethodName} {bytes : ByteArray} {maxL : Nat} {ret : Option FieldType} {hh : List (Nat × Nat × Nat × Nat)}
    (hown : s.vm.findClass own = some m.cls) (hlink : (Cond.methodLink own index y).before args s = true) (hstat : (Cond.static y).before args s = true) (hinit : (Cond.initialized y.cls).before args s = true)
    (hcode : (Cond.codeWith y bytes maxL ret hh).before args s = true) (hy : y.cls ≠ "java/lang/invoke/MethodHandle" ∧ y.cls ≠ "java/lang/invoke/VarHandle")
    {W9 : Nat} {Pre : Pt → Array Value → Prop} {Post : Pt → Array Value → Option Value → Pt → Prop} {PostX : Pt → Array Value → Addr → Pt → Prop} (hK : vx_Back l R p e below s args y 3 W9 Pre Post PostX)
    {g : JFrame} (hg : g.method = m) (hsize : g.locals.size = c.maxLocals) {argsL rest : List Value} (hlen : ∀ sig, parseMethodDescriptor y.desc = some sig → argsL.length = sig.parameters.length)
    (hstack : g.stack = argsL.reverse ++ rest) (hW : 2 * g.monitorRoom + (rest.map fun v => v.category).sum ≤ W9) (hdg : decode c.code g.pc = .ok (.invokestatic index, 3))
    (hpre : ∀ vm₁, s.WarmedH vm₁ → Pre ⟨T.setVm vm₁, locs, cells, slots⟩ argsL.toArray) :
    (∃ (v : Option Value) (vm₁ : Vm) (B : Pt), s.WarmedH vm₁ ∧ Stand p l e R s m args below meth c B.U B.locs B.cells B.slots ∧ Post ⟨T.setVm vm₁, locs, cells, slots⟩ argsL.toArray v B ∧
      ∀ target, Steps p.tables e below (B.U.setTop { g with pc := g.pc + 3, stack := v.toList ++ rest }) target → Steps p.tables e below (T.setTop g) target) ∨
    (∃ (q : Addr) (vm₁ : Vm) (B : Pt), s.WarmedH vm₁ ∧ Stand p l e R s m args below meth c B.U B.locs B.cells B.slots ∧ PostX ⟨T.setVm vm₁, locs, cells, slots⟩ argsL.toArray q B ∧
      Steps p.tables e below (T.setTop g) ((B.U.setTop { g with stack := rest }).pushFrame (.throwing q))) := by
  obtain ⟨mk, methM, cM, hnamed, hmethM, -, -, -, -, -, -, hsigM⟩ := Cond.codeWith_spec hcode
  have hstatic : methM.isStatic = true := Cond.static_spec hnamed hmethM hstat
  obtain ⟨kP, hkP, -⟩ := className_of_methodNamed hnamed
  have hinitP : kP.init = .initialized := Cond.initialized_spec (findClass_of_methodNamed hnamed) hkP hinit
  obtain ⟨vm₁, X₁, hstep₁⟩ := X.invokestatic hexec hown hlink hnamed hmethM hstatic hkP hinitP hy (g := g) hg (argsL := argsL) (rest := rest) (hlen _ hsigM) hstack hdg
  rcases hK m meth c ⟨T.setVm vm₁, locs, cells, slots⟩ { g with stack := rest } (.invokestatic index) mk argsL.toArray X₁ hg hsize hdg hW (X₁.named hnamed) (hpre vm₁ X₁.warmed) with ⟨v, B, X', hpost, hsteps⟩ | ⟨q, B, X', hpost, hsteps⟩
  · exact Or.inl ⟨v, vm₁, B, X₁.warmed, X', hpost, fun target h => hstep₁ _ fun acts => by rw [doInvoke_state]; exact hsteps.trans h⟩
  · exact Or.inr ⟨q, vm₁, B, X₁.warmed, X', hpost, hstep₁ _ fun acts => by rw [doInvoke_state]; exact hsteps⟩
theorem vx_callVW (X : Stand p l e R s m args below meth c T locs cells slots) (hexec : p.tables.exec = Jvm.exec) {own C : String} {index : Nat} {y : MethodName} {bytes : ByteArray} {maxL : Nat} {ret : Option FieldType} {hh : List (Nat × Nat × Nat × Nat)}
    (hown : s.vm.findClass own = some m.cls) (hlink : (Cond.methodLink own index y).before args s = true) (hinst : (Cond.instanceMethod y).before args s = true) (hsel : (Cond.selects C y y).before args s = true)
    (hcode : (Cond.codeWith y bytes maxL ret hh).before args s = true) (hy : y.cls ≠ "java/lang/invoke/MethodHandle" ∧ y.cls ≠ "java/lang/invoke/VarHandle")
    {W9 : Nat} {Pre : Pt → Array Value → Prop} {Post : Pt → Array Value → Option Value → Pt → Prop} (hK : Back l R p e below s args y 3 W9 Pre Post)
    {b : Addr} {cellB : Cell} (hcell : T.heap[b]? = some cellB) (hobj : cellB.vm.isStatics = false) (hcls : s.vm.findClass C = some cellB.cls)
    {g : JFrame} (hg : g.method = m) (hsize : g.locals.size = c.maxLocals) {argsL rest : List Value} (hlen : ∀ sig, parseMethodDescriptor y.desc = some sig → argsL.length = sig.parameters.length)
    (hstack : g.stack = argsL.reverse ++ .ref b :: rest) (hW : 2 * g.monitorRoom + (rest.map fun v => v.category).sum ≤ W9) (hdg : decode c.code g.pc = .ok (.invokevirtual index, 3))
    (hpre : ∀ vm₁, s.WarmedH vm₁ → Pre ⟨T.setVm vm₁, locs, cells, slots⟩ (Value.ref b :: argsL).toArray) :
    ∃ (v : Option Value) (vm₁ : Vm) (B : Pt), s.WarmedH vm₁ ∧ Stand p l e R s m args below meth c B.U B.locs B.cells B.slots ∧ Post ⟨T.setVm vm₁, locs, cells, slots⟩ (Value.ref b :: argsL).toArray v B ∧
      ∀ target, Steps p.tables e below (B.U.setTop { g with pc := g.pc + 3, stack := v.toList ++ rest }) target → Steps p.tables e below (T.setTop g) target := by
  obtain ⟨mk, methM, hnamed, hmethM, hstM, habM⟩ := Cond.instanceMethod_spec hinst
  obtain ⟨m8, methM', cM, hn8, hmethM', -, -, -, -, -, -, hsigM⟩ := Cond.codeWith_spec hcode
  cases Option.some.inj (hn8.symm.trans hnamed)
  cases hmethM.symm.trans hmethM'
  obtain ⟨c2, r2, m2, q1, q2, q3, q4, kP, hkP, hkPi⟩ := Cond.selects_spec hsel
  cases hcls.symm.trans q1
  cases (State.methodFound?_of_named hnamed hy).symm.trans q2
  cases hnamed.symm.trans q3
  have hselP : selectMethod e.platform s.vm cellB.cls mk = .method mk := by rw [Launch.admits_selectMethod X.admits]; exact q4
  obtain ⟨vm₁, X₁, hstep₁⟩ := X.invokevirtual hexec hown hlink hnamed hmethM hstM hkP hkPi hy (a := b) (cell := cellB) hcell
    (fun z h => by rw [h] at hobj; cases hobj) hselP hmethM habM hkP hkPi (g := g) hg (argsL := argsL) (rest := rest) (hlen _ hsigM) hstack hdg
  obtain ⟨v, B, X', hpost, hsteps⟩ := hK m meth c ⟨T.setVm vm₁, locs, cells, slots⟩ { g with stack := rest } (.invokevirtual index) mk (Value.ref b :: argsL).toArray X₁ hg hsize hdg hW (X₁.named hnamed) (hpre vm₁ X₁.warmed)
  exact ⟨v, vm₁, B, X₁.warmed, X', hpost, fun target h => hstep₁ _ fun acts => by rw [doInvoke_state]; exact hsteps.trans h⟩
abbrev vx_CVW (R : Room) (s : State) (args : Array Value) (own C : String) (index : Nat) (y : MethodName) (bytes : ByteArray) (maxL : Nat) (ret : Option FieldType) (hh : List (Nat × Nat × Nat × Nat)) (ws : List Cond) (rm : Room) (mc ms n : Nat) : Prop :=
  (rm.cells = mc ∧ rm.slots = ms ∧ rm.frames + 1 ≤ R.frames ∧ 8 + (maxL + 11) + rm.locals ≤ R.locals ∧ (∀ w ∈ ws, ∀ (a' : Array Value) (U : State), s.WarmedH U.vm → w.before a' U = true) ∧ Cond.codeWith y bytes maxL ret hh ∈ ws) ∧
  (Cond.codeWith y bytes maxL ret hh).before args s = true ∧ (Cond.initialized y.cls).before args s = true ∧ (y.cls ≠ "java/lang/invoke/MethodHandle" ∧ y.cls ≠ "java/lang/invoke/VarHandle") ∧
  (∀ sig, parseMethodDescriptor y.desc = some sig → n = sig.parameters.length) ∧ (Cond.methodLink own index y).before args s = true ∧ (Cond.instanceMethod y).before args s = true ∧ (Cond.selects C y y).before args s = true
theorem vx_cwVW {own C : String} {index maxL mc ms : Nat} {y : MethodName} {bytes : ByteArray} {ret : Option FieldType} {hh : List (Nat × Nat × Nat × Nat)} {Ts ws ws' : List Cond} {rm : Room} (n : Nat) (ht : ∀ w ∈ Ts, w.before args s = true) (hT : GoodIn Ts (wsV own index C y ws)) (hw : ws = Cond.codeWith y bytes maxL ret hh :: ws') (hrc : rm.cells = mc) (hrs : rm.slots = ms)
    (hd : y.cls = C ∧ y.cls ≠ "java/lang/invoke/MethodHandle" ∧ y.cls ≠ "java/lang/invoke/VarHandle" ∧ (parseMethodDescriptor y.desc).map (fun d => d.parameters.length) = some n) (hR : rm.frames + 1 ≤ R.frames ∧ 8 + (maxL + 11) + rm.locals ≤ R.locals) :
    vx_CVW R s args own C index y bytes maxL ret hh ws rm mc ms n := by
  obtain ⟨hC, hd⟩ := hd
  subst hC
  have ok : ∀ w ∈ wsV own index y.cls y ws, w.before args s = true := fun w h => ht w (hT w h).1
  have hG : GoodIn Ts ws := fun w h => hT w (by unfold wsV; exact List.mem_append_right _ h)
  have hc : Cond.codeWith y bytes maxL ret hh ∈ ws := by rw [hw]; exact List.mem_cons_self
  refine ⟨⟨hrc, hrs, hR.1, hR.2, pay_in ht hG, hc⟩, ht _ (hG _ hc).1, ok _ (by simp [wsV]), ⟨hd.1, hd.2.1⟩, fun sig h => ?_, ok _ (by simp [wsV]), ok _ (by simp [wsV]), ok _ (by simp [wsV])⟩
  have h2 := hd.2.2
  rw [h] at h2
  exact (Option.some.inj h2).symm
theorem vx_runVW {y : MethodName} {bytes cc : ByteArray} {maxL nL mc ms n index : Nat} {ret : Option FieldType} {hh : List (Nat × Nat × Nat × Nat)} {ws : List Cond} {rm : Room} {Pc : Array Value → State → Prop} {Qc : Array Value → State → Outcome → State → Prop} {free : Addr → Prop} {Ts : List Cond} {own C : String} {b : Addr} {As rest : List Value} {g : JFrame}
    (S : CallFix p m c cc nL s args Ts own) (hM : Met l y ws rm Pc Qc mc ms free) (cw : vx_CVW R s args own C index y bytes maxL ret hh ws rm mc ms n) (hp : PreV s H C b Pc As)
    (hg : g.method = m) (hn : As.length = n) (hsize : g.locals.size = nL) (hstack : g.stack = As.reverse ++ .ref b :: rest) (hW : 2 * g.monitorRoom + (rest.map fun v => v.category).sum ≤ 8) (hdg : decode cc g.pc = .ok (.invokevirtual index, 3)) (hf : cells + mc ≤ R.cells ∧ slots + ms ≤ R.slots) :
    va_Run p l e R s m args below meth c H locs cells slots mc ms g rest (Qc (Value.ref b :: As).toArray) free := by
  obtain ⟨⟨hrc, hrs, hfr, hlo, hws, hcw⟩, hcode, hini, hy, hlen, hl, hin, hse⟩ := cw
  have hK : Back l R p e below s args y 3 8 (PreOf R mc ms Pc) (PostOf Qc mc ms free) := va_backW (hh := hh) (bytes := bytes) (maxL := maxL) (ret := ret) hM hp.1 hrc hrs hfr hlo hws hcw (fun a' U hW => word_at hW (Or.inl (by first | rfl | simp [Cond.onTables, Cond.keeps, Cond.steady])) hini)
  obtain ⟨hx, hb, hml, ho, -⟩ := S
  obtain ⟨-, ⟨cellB, hcB, hoB, hclB⟩, hPc⟩ := hp
  intro T hT X
  obtain ⟨v, vm₁, ⟨U', l2, c2, s2⟩, hW₁, X', ⟨g', mk, t, L, e1, e2, hq, h1, hL, h2, h3⟩, st⟩ := vx_callVW X hx (C := C) (hh := hh) (bytes := bytes) (maxL := maxL) (ret := ret) ho hl hin hse hcode hy hK (by rw [hT]; exact hcB) hoB hclB hg (hsize.trans hml.symm) (argsL := As) (rest := rest) (fun sig h => hn.trans (hlen sig h)) hstack hW (by rw [hb]; exact hdg)
    (fun vm₁ hW₁ => ⟨hf.1, hf.2, hPc (T.setVm vm₁) hT hW₁⟩)
  dsimp only [Pt.U, Pt.locs, Pt.cells, Pt.slots] at X' e1 e2 h1 h2 h3 st
  subst h1; subst h2; subst h3
  exact ⟨v, (T.setVm vm₁).calling g' mk (Value.ref b :: As).toArray, t, U', L, hT, X', hL, e1, e2, hq, st⟩
section
variable {y : MethodName} {bytes cc : ByteArray} {maxL nL mc ms n index : Nat} {ret : Option FieldType} {ws : List Cond} {rm : Room} {Pc : Array Value → State → Prop} {Qc : Array Value → State → Outcome → State → Prop} {XC : String → State → State → Prop} {free : Addr → Prop} {Ts : List Cond} {own C : String} {b : Addr} {As rest : List Value} {g : JFrame}
theorem vx_runVX {hh : List (Nat × Nat × Nat × Nat)} (S : CallFix p m c cc nL s args Ts own) (hM : vx_Met l y ws rm Pc Qc XC mc ms free) (cw : vx_CVW R s args own C index y bytes maxL ret hh ws rm mc ms n) (hp : PreV s H C b Pc As)
    (hg : g.method = m) (hn : As.length = n) (hsize : g.locals.size = nL) (hstack : g.stack = As.reverse ++ .ref b :: rest) (hW : 2 * g.monitorRoom + (rest.map fun v => v.category).sum ≤ 8) (hdg : decode cc g.pc = .ok (.invokevirtual index, 3)) (hf : cells + mc ≤ R.cells ∧ slots + ms ≤ R.slots) :
    vx_Run p l e R s m args below meth c H locs cells slots mc ms g rest (Qc (Value.ref b :: As).toArray) XC free := by
  obtain ⟨⟨hrc, hrs, hfr, hlo, hws, hcw⟩, hcode, hini, hy, hlen, hl, hin, hse⟩ := cw
  have hK : vx_Back l R p e below s args y 3 8 (PreOf R mc ms Pc) (PostOf Qc mc ms free) (vx_Post XC mc ms free) := vx_backW (hh := hh) (bytes := bytes) (maxL := maxL) (ret := ret) hM hp.1 hrc hrs hfr hlo hws hcw (fun a' U hW => word_at hW (Or.inl (by first | rfl | simp [Cond.onTables, Cond.keeps, Cond.steady])) hini)
  obtain ⟨hx, hb, hml, ho, -⟩ := S
  obtain ⟨-, ⟨cellB, hcB, hoB, hclB⟩, hPc⟩ := hp
  intro T hT X
  rcases vx_callVX X hx (C := C) (hh := hh) (bytes := bytes) (maxL := maxL) (ret := ret) ho hl hin hse hcode hy hK (by rw [hT]; exact hcB) hoB hclB hg (hsize.trans hml.symm) (argsL := As) (rest := rest) (fun sig h => hn.trans (hlen sig h)) hstack hW (by rw [hb]; exact hdg)
    (fun vm₁ hW₁ => ⟨hf.1, hf.2, hPc (T.setVm vm₁) hT hW₁⟩) with ⟨v, vm₁, ⟨U', l2, c2, s2⟩, hW₁, X', ⟨g', mk, t, L, e1, e2, hq, h1, hL, h2, h3⟩, st⟩ | ⟨q, vm₁, ⟨U', l2, c2, s2⟩, hW₁, X', ⟨g', mk, t, L, E, ce, e1, e2, hq, hce, hcv, hcl, h1, hL, h2, h3⟩, st⟩
  · dsimp only [Pt.U, Pt.locs, Pt.cells, Pt.slots] at X' e1 e2 h1 h2 h3 st
    subst h1; subst h2; subst h3
    exact Or.inl ⟨v, (T.setVm vm₁).calling g' mk (Value.ref b :: As).toArray, t, U', L, hT, X', hL, e1, e2, hq, st⟩
  · dsimp only [Pt.U, Pt.locs, Pt.cells, Pt.slots] at X' e1 e2 h1 h2 h3 st hcl
    subst h1; subst h2; subst h3
    exact Or.inr ⟨q, (T.setVm vm₁).calling g' mk (Value.ref b :: As).toArray, t, U', L, E, ce, hT, X', hL, e1, e2, hq, hce, hcv, vx_cls hW₁ hcl, st⟩
theorem vx_runSX {hh : List (Nat × Nat × Nat × Nat)} (S : CallFix p m c cc nL s args Ts own) (hM : vx_Met l y ws rm Pc Qc XC mc ms free) (cw : vx_CSW R s args own index y bytes maxL ret hh ws rm mc ms n) (hp : PreS s H Pc As)
    (hg : g.method = m) (hn : As.length = n) (hsize : g.locals.size = nL) (hstack : g.stack = As.reverse ++ rest) (hW : 2 * g.monitorRoom + (rest.map fun v => v.category).sum ≤ 8) (hdg : decode cc g.pc = .ok (.invokestatic index, 3)) (hf : cells + mc ≤ R.cells ∧ slots + ms ≤ R.slots) :
    vx_Run p l e R s m args below meth c H locs cells slots mc ms g rest (Qc As.toArray) XC free := by
  obtain ⟨⟨hrc, hrs, hfr, hlo, hws, hcw⟩, hcode, hini, hy, hlen, hl, hstt⟩ := cw
  have hK : vx_Back l R p e below s args y 3 8 (PreOf R mc ms Pc) (PostOf Qc mc ms free) (vx_Post XC mc ms free) := vx_backW (hh := hh) (bytes := bytes) (maxL := maxL) (ret := ret) hM hp.1 hrc hrs hfr hlo hws hcw (fun a' U hW => word_at hW (Or.inl (by first | rfl | simp [Cond.onTables, Cond.keeps, Cond.steady])) hini)
  obtain ⟨hx, hb, hml, ho, -⟩ := S
  intro T hT X
  rcases vx_callSX X hx (hh := hh) (bytes := bytes) (maxL := maxL) (ret := ret) ho hl hstt hini hcode hy hK hg (hsize.trans hml.symm) (argsL := As) (rest := rest) (fun sig h => hn.trans (hlen sig h)) hstack hW (by rw [hb]; exact hdg)
    (fun vm₁ hW₁ => ⟨hf.1, hf.2, hp.2 (T.setVm vm₁) hT hW₁⟩) with ⟨v, vm₁, ⟨U', l2, c2, s2⟩, hW₁, X', ⟨g', mk, t, L, e1, e2, hq, h1, hL, h2, h3⟩, st⟩ | ⟨q, vm₁, ⟨U', l2, c2, s2⟩, hW₁, X', ⟨g', mk, t, L, E, ce, e1, e2, hq, hce, hcv, hcl, h1, hL, h2, h3⟩, st⟩
  · dsimp only [Pt.U, Pt.locs, Pt.cells, Pt.slots] at X' e1 e2 h1 h2 h3 st
    subst h1; subst h2; subst h3
    exact Or.inl ⟨v, (T.setVm vm₁).calling g' mk As.toArray, t, U', L, hT, X', hL, e1, e2, hq, st⟩
  · dsimp only [Pt.U, Pt.locs, Pt.cells, Pt.slots] at X' e1 e2 h1 h2 h3 st hcl
    subst h1; subst h2; subst h3
    exact Or.inr ⟨q, (T.setVm vm₁).calling g' mk As.toArray, t, U', L, E, ce, hT, X', hL, e1, e2, hq, hce, hcv, vx_cls hW₁ hcl, st⟩
end
end VXH
theorem vx_ofWH {l : Launch} {y : MethodName} {ws ws' : List Cond} {rm : Room} {Pc : Array Value → State → Prop} {Qc : Array Value → State → Outcome → State → Prop} {XC : String → State → State → Prop} {mc ms : Nat} {free : Addr → Prop} {cc : ByteArray} {maxL : Nat} {ret : Option FieldType} {hh : List (Nat × Nat × Nat × Nat)}
    (hy : plainName y.cls = true) (hw : ws = Cond.codeWith y cc maxL ret hh :: ws')
    (body : ∀ p e s m args below meth c s₁, BodyLoose p l y (headSpec ws rm) cc maxL ret e s m args below meth c s₁ → c.maxLocals = maxL → Pc args s →
      W p l e (headSpec ws rm).room s m args below meth c s.heap [] 0 0 (vx_MQ below Qc XC args s mc ms free) (entryFrame m args maxL)) : vx_Met l y ws rm Pc Qc XC mc ms free := by
  refine MetFree.of_bodyS (code := cc) (maxLocals := maxL) (ret := ret) hy ?_ ?_
  · intro args s m h hn
    obtain ⟨m9, meth, c, hn9, h1, h2, h3, h4, -, h5, h6, -⟩ := Cond.codeWith_spec (atoms_spec (ws := ws) h _ (by rw [hw]; exact List.mem_cons_self))
    cases hn.symm.trans hn9
    exact ⟨meth, c, h1, h2, h3, h4, h5, h6⟩
  · intro p e s m args below meth c s₁ B hml hP _
    have hh0 : s₁.heap = s.heap := by rw [B.state]; rfl
    obtain ⟨t, a1, o, b1, b2, b3⟩ := body p e s m args below meth c s₁ B hml hP s₁ hh0 (Stand.of_body B)
    exact ⟨t, o, a1, b1, b2, b3⟩
/-! ===== END ===== -/
end
section
def RX0 : String := "RoamLedger$Network"
def TX0 : u_T := fun k => match k with
  | 0 => ("RoamLedger$Network", "rates", "[I", true)
  | 1 => ("RoamLedger$Network", "trusts", "[I", true)
  | 2 => ("RoamLedger$Network", "debts", "[J", true)
  | _ => ("RoamLedger$Network", "weights", "[I", true)
def tyX0 : Nat → FieldType := fun k => match k with
  | 0 => .array .int
  | 1 => .array .int
  | 2 => .array .long
  | _ => .array .int
abbrev wsX00 : List Cond := u_ws RX0 TX0 4
theorem nmX0 : ∀ a, a < 4 → ∀ b, b < 4 → a ≠ b → (TX0 a).2.1 ≠ (TX0 b).2.1 := by decide +kernel
theorem tyX0_ok : ∀ k, k < 4 → parseFieldDescriptor (TX0 k).2.2.1 = some (tyX0 k) := by decide +kernel
abbrev cX0_init : ByteArray := prog_2_method_1_code
def yX0_init : MethodName := ⟨RX0, "<init>", "()V"⟩
abbrev cX0_rateOf : ByteArray := prog_2_method_2_code
def yX0_rateOf : MethodName := ⟨RX0, "rateOf", "(II)I"⟩
abbrev cX0_setLink : ByteArray := prog_2_method_3_code
def yX0_setLink : MethodName := ⟨RX0, "setLink", "(IIII)V"⟩
abbrev cX0_debtOf : ByteArray := prog_2_method_4_code
def yX0_debtOf : MethodName := ⟨RX0, "debtOf", "(II)J"⟩
abbrev cX0_addDebt : ByteArray := prog_2_method_5_code
def yX0_addDebt : MethodName := ⟨RX0, "addDebt", "(IIJ)V"⟩
abbrev cX0_isOpen : ByteArray := prog_2_method_6_code
def yX0_isOpen : MethodName := ⟨RX0, "isOpen", "(II)Z"⟩
abbrev cX0_isOpenAlong : ByteArray := prog_2_method_7_code
def yX0_isOpenAlong : MethodName := ⟨RX0, "isOpenAlong", "(LRoamLedger$Route;)Z"⟩
abbrev cX0_costOf : ByteArray := prog_2_method_8_code
def yX0_costOf : MethodName := ⟨RX0, "costOf", "(LRoamLedger$Route;)I"⟩
abbrev cX0_charge : ByteArray := prog_2_method_9_code
def yX0_charge : MethodName := ⟨RX0, "charge", "(LRoamLedger$Talk;)V"⟩
abbrev cX0_findBest : ByteArray := prog_2_method_10_code
def yX0_findBest : MethodName := ⟨RX0, "findBest", "(IILRoamLedger$Route;)Z"⟩
abbrev cX0_weighWaysTo : ByteArray := prog_2_method_11_code
def yX0_weighWaysTo : MethodName := ⟨RX0, "weighWaysTo", "(I)V"⟩
abbrev cX0_nextOnBest : ByteArray := prog_2_method_12_code
def yX0_nextOnBest : MethodName := ⟨RX0, "nextOnBest", "(I)I"⟩
abbrev cX0_weightOver : ByteArray := prog_2_method_13_code
def yX0_weightOver : MethodName := ⟨RX0, "weightOver", "(II)I"⟩
def RX1 : String := "RoamLedger$Route"
def TX1 : u_T := fun k => match k with
  | 0 => ("RoamLedger$Route", "carriers", "[I", true)
  | _ => ("RoamLedger$Route", "length", "I", false)
def tyX1 : Nat → FieldType := fun k => match k with
  | 0 => .array .int
  | _ => .int
abbrev wsX10 : List Cond := u_ws RX1 TX1 2
theorem nmX1 : ∀ a, a < 2 → ∀ b, b < 2 → a ≠ b → (TX1 a).2.1 ≠ (TX1 b).2.1 := by decide +kernel
theorem tyX1_ok : ∀ k, k < 2 → parseFieldDescriptor (TX1 k).2.2.1 = some (tyX1 k) := by decide +kernel
abbrev cX1_init : ByteArray := prog_3_method_1_code
def yX1_init : MethodName := ⟨RX1, "<init>", "()V"⟩
abbrev cX1_carrierAt : ByteArray := prog_3_method_2_code
def yX1_carrierAt : MethodName := ⟨RX1, "carrierAt", "(I)I"⟩
abbrev cX1_clear : ByteArray := prog_3_method_3_code
def yX1_clear : MethodName := ⟨RX1, "clear", "()V"⟩
abbrev cX1_add : ByteArray := prog_3_method_4_code
def yX1_add : MethodName := ⟨RX1, "add", "(I)V"⟩
abbrev cX1_become : ByteArray := prog_3_method_5_code
def yX1_become : MethodName := ⟨RX1, "become", "(LRoamLedger$Route;)V"⟩
def RX2 : String := "RoamLedger$Subscriber"
def TX2 : u_T := fun k => match k with
  | 0 => ("RoamLedger$Subscriber", "chain", "[I", true)
  | 1 => ("RoamLedger$Subscriber", "homeCount", "I", false)
  | 2 => ("RoamLedger$Subscriber", "balance", "I", false)
  | _ => ("RoamLedger$Subscriber", "bundle", "I", false)
def tyX2 : Nat → FieldType := fun k => match k with
  | 0 => .array .int
  | 1 => .int
  | 2 => .int
  | _ => .int
abbrev wsX20 : List Cond := u_ws RX2 TX2 4
theorem nmX2 : ∀ a, a < 4 → ∀ b, b < 4 → a ≠ b → (TX2 a).2.1 ≠ (TX2 b).2.1 := by decide +kernel
theorem tyX2_ok : ∀ k, k < 4 → parseFieldDescriptor (TX2 k).2.2.1 = some (tyX2 k) := by decide +kernel
abbrev cX2_init : ByteArray := prog_4_method_1_code
def yX2_init : MethodName := ⟨RX2, "<init>", "(III)V"⟩
abbrev cX2_homeAt : ByteArray := prog_4_method_2_code
def yX2_homeAt : MethodName := ⟨RX2, "homeAt", "(I)I"⟩
abbrev cX2_moveTo : ByteArray := prog_4_method_3_code
def yX2_moveTo : MethodName := ⟨RX2, "moveTo", "(I)Z"⟩
abbrev cX2_pay : ByteArray := prog_4_method_4_code
def yX2_pay : MethodName := ⟨RX2, "pay", "(II)Z"⟩
def RX3 : String := "RoamLedger$Talk"
def TX3 : u_T := fun k => match k with
  | 0 => ("RoamLedger$Talk", "caller", "LRoamLedger$Subscriber;", true)
  | 1 => ("RoamLedger$Talk", "called", "LRoamLedger$Subscriber;", true)
  | 2 => ("RoamLedger$Talk", "step", "I", true)
  | 3 => ("RoamLedger$Talk", "price", "I", true)
  | 4 => ("RoamLedger$Talk", "route", "LRoamLedger$Route;", true)
  | 5 => ("RoamLedger$Talk", "charges", "[J", true)
  | 6 => ("RoamLedger$Talk", "state", "I", false)
  | 7 => ("RoamLedger$Talk", "minutes", "I", false)
  | _ => ("RoamLedger$Talk", "moves", "I", false)
def tyX3 : Nat → FieldType := fun k => match k with
  | 0 => .object "RoamLedger$Subscriber"
  | 1 => .object "RoamLedger$Subscriber"
  | 2 => .int
  | 3 => .int
  | 4 => .object "RoamLedger$Route"
  | 5 => .array .long
  | 6 => .int
  | 7 => .int
  | _ => .int
abbrev wsX30 : List Cond := u_ws RX3 TX3 9
theorem nmX3 : ∀ a, a < 9 → ∀ b, b < 9 → a ≠ b → (TX3 a).2.1 ≠ (TX3 b).2.1 := by decide +kernel
theorem tyX3_ok : ∀ k, k < 9 → parseFieldDescriptor (TX3 k).2.2.1 = some (tyX3 k) := by decide +kernel
abbrev cX3_init : ByteArray := prog_5_method_1_code
def yX3_init : MethodName := ⟨RX3, "<init>", "(LRoamLedger$Subscriber;LRoamLedger$Subscriber;II)V"⟩
abbrev cX3_isStepDue : ByteArray := prog_5_method_2_code
def yX3_isStepDue : MethodName := ⟨RX3, "isStepDue", "()Z"⟩
abbrev cX3_addCharge : ByteArray := prog_5_method_3_code
def yX3_addCharge : MethodName := ⟨RX3, "addCharge", "(II)V"⟩
abbrev cX3_chargeOf : ByteArray := prog_5_method_4_code
def yX3_chargeOf : MethodName := ⟨RX3, "chargeOf", "(I)J"⟩
def RX4 : String := "RoamLedger"
def TX4 : u_T := fun k => match k with
  | 0 => ("RoamLedger", "steps", "[I", true)
  | 1 => ("RoamLedger", "prices", "[I", true)
  | 2 => ("RoamLedger", "network", "LRoamLedger$Network;", true)
  | 3 => ("RoamLedger", "subscribers", "[LRoamLedger$Subscriber;", true)
  | 4 => ("RoamLedger", "talks", "[LRoamLedger$Talk;", true)
  | 5 => ("RoamLedger", "asked", "LRoamLedger$Route;", true)
  | 6 => ("RoamLedger", "subscriberCount", "I", false)
  | _ => ("RoamLedger", "talkCount", "I", false)
def tyX4 : Nat → FieldType := fun k => match k with
  | 0 => .array .int
  | 1 => .array .int
  | 2 => .object "RoamLedger$Network"
  | 3 => .array (.object "RoamLedger$Subscriber")
  | 4 => .array (.object "RoamLedger$Talk")
  | 5 => .object "RoamLedger$Route"
  | 6 => .int
  | _ => .int
abbrev wsX40 : List Cond := u_ws RX4 TX4 8
theorem nmX4 : ∀ a, a < 8 → ∀ b, b < 8 → a ≠ b → (TX4 a).2.1 ≠ (TX4 b).2.1 := by decide +kernel
theorem tyX4_ok : ∀ k, k < 8 → parseFieldDescriptor (TX4 k).2.2.1 = some (tyX4 k) := by decide +kernel
abbrev cX4_init : ByteArray := prog_1_method_1_code
def yX4_init : MethodName := ⟨RX4, "<init>", "()V"⟩
abbrev cX4_tariff : ByteArray := prog_1_method_2_code
def yX4_tariff : MethodName := ⟨RX4, "tariff", "(III)I"⟩
abbrev cX4_link : ByteArray := prog_1_method_3_code
def yX4_link : MethodName := ⟨RX4, "link", "(IIII)Z"⟩
abbrev cX4_unlink : ByteArray := prog_1_method_4_code
def yX4_unlink : MethodName := ⟨RX4, "unlink", "(II)I"⟩
abbrev cX4_number : ByteArray := prog_1_method_5_code
def yX4_number : MethodName := ⟨RX4, "number", "(III)I"⟩
abbrev cX4_carryOver : ByteArray := prog_1_method_6_code
def yX4_carryOver : MethodName := ⟨RX4, "carryOver", "(II)I"⟩
abbrev cX4_home : ByteArray := prog_1_method_7_code
def yX4_home : MethodName := ⟨RX4, "home", "(II)I"⟩
abbrev cX4_topUp : ByteArray := prog_1_method_8_code
def yX4_topUp : MethodName := ⟨RX4, "topUp", "(III)I"⟩
abbrev cX4_balance : ByteArray := prog_1_method_9_code
def yX4_balance : MethodName := ⟨RX4, "balance", "(I)I"⟩
abbrev cX4_bundle : ByteArray := prog_1_method_10_code
def yX4_bundle : MethodName := ⟨RX4, "bundle", "(I)I"⟩
abbrev cX4_call : ByteArray := prog_1_method_11_code
def yX4_call : MethodName := ⟨RX4, "call", "(II)I"⟩
abbrev cX4_hangUp : ByteArray := prog_1_method_12_code
def yX4_hangUp : MethodName := ⟨RX4, "hangUp", "(I)I"⟩
abbrev cX4_pass : ByteArray := prog_1_method_13_code
def yX4_pass : MethodName := ⟨RX4, "pass", "(I)I"⟩
abbrev cX4_state : ByteArray := prog_1_method_14_code
def yX4_state : MethodName := ⟨RX4, "state", "(I)I"⟩
abbrev cX4_minutes : ByteArray := prog_1_method_15_code
def yX4_minutes : MethodName := ⟨RX4, "minutes", "(I)I"⟩
abbrev cX4_moved : ByteArray := prog_1_method_16_code
def yX4_moved : MethodName := ⟨RX4, "moved", "(I)I"⟩
abbrev cX4_way : ByteArray := prog_1_method_17_code
def yX4_way : MethodName := ⟨RX4, "way", "(II)I"⟩
abbrev cX4_cost : ByteArray := prog_1_method_18_code
def yX4_cost : MethodName := ⟨RX4, "cost", "(II)I"⟩
abbrev cX4_best : ByteArray := prog_1_method_19_code
def yX4_best : MethodName := ⟨RX4, "best", "(III)I"⟩
abbrev cX4_isBarred : ByteArray := prog_1_method_20_code
def yX4_isBarred : MethodName := ⟨RX4, "isBarred", "(II)Z"⟩
abbrev cX4_debt : ByteArray := prog_1_method_21_code
def yX4_debt : MethodName := ⟨RX4, "debt", "(II)J"⟩
abbrev cX4_charged : ByteArray := prog_1_method_22_code
def yX4_charged : MethodName := ⟨RX4, "charged", "(II)J"⟩
abbrev cX4_position : ByteArray := prog_1_method_23_code
def yX4_position : MethodName := ⟨RX4, "position", "(I)J"⟩
abbrev cX4_settle : ByteArray := prog_1_method_24_code
def yX4_settle : MethodName := ⟨RX4, "settle", "(II)J"⟩
abbrev cX4_isWithin : ByteArray := prog_1_method_25_code
def yX4_isWithin : MethodName := ⟨RX4, "isWithin", "(III)Z"⟩
abbrev cX4_isCarrier : ByteArray := prog_1_method_26_code
def yX4_isCarrier : MethodName := ⟨RX4, "isCarrier", "(I)Z"⟩
abbrev cX4_pairOf : ByteArray := prog_1_method_27_code
def yX4_pairOf : MethodName := ⟨RX4, "pairOf", "(II)I"⟩
abbrev cX4_demandCarrier : ByteArray := prog_1_method_28_code
def yX4_demandCarrier : MethodName := ⟨RX4, "demandCarrier", "(I)V"⟩
abbrev cX4_demandCredit : ByteArray := prog_1_method_29_code
def yX4_demandCredit : MethodName := ⟨RX4, "demandCredit", "(II)V"⟩
abbrev cX4_subscriberOf : ByteArray := prog_1_method_30_code
def yX4_subscriberOf : MethodName := ⟨RX4, "subscriberOf", "(I)LRoamLedger$Subscriber;"⟩
abbrev cX4_talkOf : ByteArray := prog_1_method_31_code
def yX4_talkOf : MethodName := ⟨RX4, "talkOf", "(I)LRoamLedger$Talk;"⟩
abbrev cX4_isTalking : ByteArray := prog_1_method_32_code
def yX4_isTalking : MethodName := ⟨RX4, "isTalking", "(LRoamLedger$Subscriber;)Z"⟩
abbrev cX4_newTalk : ByteArray := prog_1_method_33_code
def yX4_newTalk : MethodName := ⟨RX4, "newTalk", "(LRoamLedger$Subscriber;LRoamLedger$Subscriber;LRoamLedger$Route;)LRoamLedger$Talk;"⟩
abbrev cX4_runOneMinute : ByteArray := prog_1_method_34_code
def yX4_runOneMinute : MethodName := ⟨RX4, "runOneMinute", "(LRoamLedger$Talk;)Z"⟩
def RX5 : String := "RoamLedgerModel"
def TX5 : u_T := fun k => match k with
  | _ => ("", "", "", false)
def tyX5 : Nat → FieldType := fun k => match k with
  | _ => .int
abbrev wsX50 : List Cond := u_ws RX5 TX5 0
theorem nmX5 : ∀ a, a < 0 → ∀ b, b < 0 → a ≠ b → (TX5 a).2.1 ≠ (TX5 b).2.1 := by decide +kernel
theorem tyX5_ok : ∀ k, k < 0 → parseFieldDescriptor (TX5 k).2.2.1 = some (tyX5 k) := by decide +kernel
def RJx145de : String := "java/io/Serializable"
def TJx145de : u_T := fun k => match k with
  | _ => ("", "", "", false)
def tyJx145de : Nat → FieldType := fun k => match k with
  | _ => .int
abbrev wsJx145de0 : List Cond := u_ws RJx145de TJx145de 0
theorem nmJx145de : ∀ a, a < 0 → ∀ b, b < 0 → a ≠ b → (TJx145de a).2.1 ≠ (TJx145de b).2.1 := by decide +kernel
theorem tyJx145de_ok : ∀ k, k < 0 → parseFieldDescriptor (TJx145de k).2.2.1 = some (tyJx145de k) := by decide +kernel
def RJ9 : String := "java/lang/Math"
def TJ9 : u_T := fun k => match k with
  | _ => ("", "", "", false)
def tyJ9 : Nat → FieldType := fun k => match k with
  | _ => .int
abbrev wsJ90 : List Cond := u_ws RJ9 TJ9 0
theorem nmJ9 : ∀ a, a < 0 → ∀ b, b < 0 → a ≠ b → (TJ9 a).2.1 ≠ (TJ9 b).2.1 := by decide +kernel
theorem tyJ9_ok : ∀ k, k < 0 → parseFieldDescriptor (TJ9 k).2.2.1 = some (tyJ9 k) := by decide +kernel
abbrev cJ9_min_7cf53 : ByteArray := prog_12_method_69_code
def yJ9_min_7cf53 : MethodName := ⟨RJ9, "min", "(II)I"⟩
def RJ0 : String := "java/lang/String"
def TJ0 : u_T := fun k => match k with
  | _ => ("", "", "", false)
def tyJ0 : Nat → FieldType := fun k => match k with
  | _ => .int
abbrev wsJ00 : List Cond := u_ws RJ0 TJ0 0
theorem nmJ0 : ∀ a, a < 0 → ∀ b, b < 0 → a ≠ b → (TJ0 a).2.1 ≠ (TJ0 b).2.1 := by decide +kernel
theorem tyJ0_ok : ∀ k, k < 0 → parseFieldDescriptor (TJ0 k).2.2.1 = some (tyJ0 k) := by decide +kernel
def RJ7 : String := "java/util/Arrays"
def TJ7 : u_T := fun k => match k with
  | _ => ("", "", "", false)
def tyJ7 : Nat → FieldType := fun k => match k with
  | _ => .int
abbrev wsJ70 : List Cond := u_ws RJ7 TJ7 0
theorem nmJ7 : ∀ a, a < 0 → ∀ b, b < 0 → a ≠ b → (TJ7 a).2.1 ≠ (TJ7 b).2.1 := by decide +kernel
theorem tyJ7_ok : ∀ k, k < 0 → parseFieldDescriptor (TJ7 k).2.2.1 = some (tyJ7 k) := by decide +kernel
abbrev cJ7_fill_53178 : ByteArray := prog_16_method_103_code
def yJ7_fill_53178 : MethodName := ⟨RJ7, "fill", "([II)V"⟩
def RL : String := "RoamLedgerLaw"
abbrev cL_cell : ByteArray := method_2_code
def yL_cell : MethodName := ⟨RL, "cell", "([II)I"⟩
abbrev cL_low : ByteArray := method_3_code
def yL_low : MethodName := ⟨RL, "low", "(II)I"⟩
abbrev cL_shut : ByteArray := method_4_code
def yL_shut : MethodName := ⟨RL, "shut", "(II[I[J)Z"⟩
abbrev cL_best : ByteArray := method_5_code
def yL_best : MethodName := ⟨RL, "best", "(II[I[J)I"⟩
abbrev cL_cost : ByteArray := method_6_code
def yL_cost : MethodName := ⟨RL, "cost", "(I[I)I"⟩
abbrev cL_end : ByteArray := method_7_code
def yL_end : MethodName := ⟨RL, "end", "(I)I"⟩
abbrev cL_busy : ByteArray := method_8_code
def yL_busy : MethodName := ⟨RL, "busy", "(I[I[I)Z"⟩
abbrev cL_minute : ByteArray := method_9_code
def yL_minute : MethodName := ⟨RL, "minute", "(I[I[J[J[I[I)V"⟩
abbrev cL_refused : ByteArray := method_10_code
def yL_refused : MethodName := ⟨RL, "refused", "(LRoamLedger;III)I"⟩
abbrev cL_same : ByteArray := method_11_code
def yL_same : MethodName := ⟨RL, "same", "(LRoamLedger;[I[J[J[I[I[II)Z"⟩
abbrev cL_law : ByteArray := code
def yL_law : MethodName := ⟨RL, "law", "([I)Z"⟩
abbrev vwCl : List vw_C := [(RX0, TX0, 4), (RX1, TX1, 2), (RX2, TX2, 4), (RX3, TX3, 9), (RX4, TX4, 8)]
end
section
theorem dX0_init_0 : decode cX0_init 0 = .ok (.aload_n 0, 1) := by decide +kernel
theorem dX0_init_1 : decode cX0_init 1 = .ok (.invokespecial 3, 3) := by decide +kernel
theorem dX0_init_4 : decode cX0_init 4 = .ok (.aload_n 0, 1) := by decide +kernel
theorem dX0_init_5 : decode cX0_init 5 = .ok (.bipush 25, 2) := by decide +kernel
theorem dX0_init_7 : decode cX0_init 7 = .ok (.newarray .int, 2) := by decide +kernel
theorem dX0_init_9 : decode cX0_init 9 = .ok (.putfield 9, 3) := by decide +kernel
theorem dX0_init_12 : decode cX0_init 12 = .ok (.aload_n 0, 1) := by decide +kernel
theorem dX0_init_13 : decode cX0_init 13 = .ok (.bipush 25, 2) := by decide +kernel
theorem dX0_init_15 : decode cX0_init 15 = .ok (.newarray .int, 2) := by decide +kernel
theorem dX0_init_17 : decode cX0_init 17 = .ok (.putfield 15, 3) := by decide +kernel
theorem dX0_init_20 : decode cX0_init 20 = .ok (.aload_n 0, 1) := by decide +kernel
theorem dX0_init_21 : decode cX0_init 21 = .ok (.bipush 25, 2) := by decide +kernel
theorem dX0_init_23 : decode cX0_init 23 = .ok (.newarray .long, 2) := by decide +kernel
theorem dX0_init_25 : decode cX0_init 25 = .ok (.putfield 18, 3) := by decide +kernel
theorem dX0_init_28 : decode cX0_init 28 = .ok (.aload_n 0, 1) := by decide +kernel
theorem dX0_init_29 : decode cX0_init 29 = .ok (.iconst 5, 1) := by decide +kernel
theorem dX0_init_30 : decode cX0_init 30 = .ok (.newarray .int, 2) := by decide +kernel
theorem dX0_init_32 : decode cX0_init 32 = .ok (.putfield 22, 3) := by decide +kernel
theorem dX0_init_35 : decode cX0_init 35 = .ok (.aload_n 0, 1) := by decide +kernel
theorem dX0_init_36 : decode cX0_init 36 = .ok (.getfield 9, 3) := by decide +kernel
theorem dX0_init_39 : decode cX0_init 39 = .ok (.iconst (-1), 1) := by decide +kernel
theorem dX0_init_40 : decode cX0_init 40 = .ok (.invokestatic 25, 3) := by decide +kernel
theorem dX0_init_43 : decode cX0_init 43 = .ok (.return_, 1) := by decide +kernel
theorem dX0_rateOf_0 : decode cX0_rateOf 0 = .ok (.iload_n 1, 1) := by decide +kernel
theorem dX0_rateOf_1 : decode cX0_rateOf 1 = .ok (.iload_n 2, 1) := by decide +kernel
theorem dX0_rateOf_2 : decode cX0_rateOf 2 = .ok (.invokestatic 31, 3) := by decide +kernel
theorem dX0_rateOf_5 : decode cX0_rateOf 5 = .ok (.istore_n 3, 1) := by decide +kernel
theorem dX0_rateOf_6 : decode cX0_rateOf 6 = .ok (.iload_n 3, 1) := by decide +kernel
theorem dX0_rateOf_7 : decode cX0_rateOf 7 = .ok (.ifCond .lt 18, 3) := by decide +kernel
theorem dX0_rateOf_10 : decode cX0_rateOf 10 = .ok (.iload_n 3, 1) := by decide +kernel
theorem dX0_rateOf_11 : decode cX0_rateOf 11 = .ok (.bipush 25, 2) := by decide +kernel
theorem dX0_rateOf_13 : decode cX0_rateOf 13 = .ok (.if_icmp .ge 12, 3) := by decide +kernel
theorem dX0_rateOf_16 : decode cX0_rateOf 16 = .ok (.aload_n 0, 1) := by decide +kernel
theorem dX0_rateOf_17 : decode cX0_rateOf 17 = .ok (.getfield 9, 3) := by decide +kernel
theorem dX0_rateOf_20 : decode cX0_rateOf 20 = .ok (.iload_n 3, 1) := by decide +kernel
theorem dX0_rateOf_21 : decode cX0_rateOf 21 = .ok (.iaload, 1) := by decide +kernel
theorem dX0_rateOf_22 : decode cX0_rateOf 22 = .ok (.goto 4, 3) := by decide +kernel
theorem dX0_rateOf_25 : decode cX0_rateOf 25 = .ok (.iconst (-1), 1) := by decide +kernel
theorem dX0_rateOf_26 : decode cX0_rateOf 26 = .ok (.ireturn, 1) := by decide +kernel
theorem dX0_setLink_0 : decode cX0_setLink 0 = .ok (.iload_n 1, 1) := by decide +kernel
theorem dX0_setLink_1 : decode cX0_setLink 1 = .ok (.iload_n 2, 1) := by decide +kernel
theorem dX0_setLink_2 : decode cX0_setLink 2 = .ok (.invokestatic 31, 3) := by decide +kernel
theorem dX0_setLink_5 : decode cX0_setLink 5 = .ok (.istore 5, 2) := by decide +kernel
theorem dX0_setLink_7 : decode cX0_setLink 7 = .ok (.iload 5, 2) := by decide +kernel
theorem dX0_setLink_9 : decode cX0_setLink 9 = .ok (.ifCond .lt 27, 3) := by decide +kernel
theorem dX0_setLink_12 : decode cX0_setLink 12 = .ok (.iload 5, 2) := by decide +kernel
theorem dX0_setLink_14 : decode cX0_setLink 14 = .ok (.bipush 25, 2) := by decide +kernel
theorem dX0_setLink_16 : decode cX0_setLink 16 = .ok (.if_icmp .ge 20, 3) := by decide +kernel
theorem dX0_setLink_19 : decode cX0_setLink 19 = .ok (.aload_n 0, 1) := by decide +kernel
theorem dX0_setLink_20 : decode cX0_setLink 20 = .ok (.getfield 9, 3) := by decide +kernel
theorem dX0_setLink_23 : decode cX0_setLink 23 = .ok (.iload 5, 2) := by decide +kernel
theorem dX0_setLink_25 : decode cX0_setLink 25 = .ok (.iload_n 3, 1) := by decide +kernel
theorem dX0_setLink_26 : decode cX0_setLink 26 = .ok (.iastore, 1) := by decide +kernel
theorem dX0_setLink_27 : decode cX0_setLink 27 = .ok (.aload_n 0, 1) := by decide +kernel
theorem dX0_setLink_28 : decode cX0_setLink 28 = .ok (.getfield 15, 3) := by decide +kernel
theorem dX0_setLink_31 : decode cX0_setLink 31 = .ok (.iload 5, 2) := by decide +kernel
theorem dX0_setLink_33 : decode cX0_setLink 33 = .ok (.iload 4, 2) := by decide +kernel
theorem dX0_setLink_35 : decode cX0_setLink 35 = .ok (.iastore, 1) := by decide +kernel
theorem dX0_setLink_36 : decode cX0_setLink 36 = .ok (.return_, 1) := by decide +kernel
theorem dX0_debtOf_0 : decode cX0_debtOf 0 = .ok (.iload_n 1, 1) := by decide +kernel
theorem dX0_debtOf_1 : decode cX0_debtOf 1 = .ok (.iload_n 2, 1) := by decide +kernel
theorem dX0_debtOf_2 : decode cX0_debtOf 2 = .ok (.invokestatic 31, 3) := by decide +kernel
theorem dX0_debtOf_5 : decode cX0_debtOf 5 = .ok (.istore_n 3, 1) := by decide +kernel
theorem dX0_debtOf_6 : decode cX0_debtOf 6 = .ok (.iload_n 3, 1) := by decide +kernel
theorem dX0_debtOf_7 : decode cX0_debtOf 7 = .ok (.ifCond .lt 18, 3) := by decide +kernel
theorem dX0_debtOf_10 : decode cX0_debtOf 10 = .ok (.iload_n 3, 1) := by decide +kernel
theorem dX0_debtOf_11 : decode cX0_debtOf 11 = .ok (.bipush 25, 2) := by decide +kernel
theorem dX0_debtOf_13 : decode cX0_debtOf 13 = .ok (.if_icmp .ge 12, 3) := by decide +kernel
theorem dX0_debtOf_16 : decode cX0_debtOf 16 = .ok (.aload_n 0, 1) := by decide +kernel
theorem dX0_debtOf_17 : decode cX0_debtOf 17 = .ok (.getfield 18, 3) := by decide +kernel
theorem dX0_debtOf_20 : decode cX0_debtOf 20 = .ok (.iload_n 3, 1) := by decide +kernel
theorem dX0_debtOf_21 : decode cX0_debtOf 21 = .ok (.laload, 1) := by decide +kernel
theorem dX0_debtOf_22 : decode cX0_debtOf 22 = .ok (.goto 4, 3) := by decide +kernel
theorem dX0_debtOf_25 : decode cX0_debtOf 25 = .ok (.lconst 0, 1) := by decide +kernel
theorem dX0_debtOf_26 : decode cX0_debtOf 26 = .ok (.lreturn, 1) := by decide +kernel
theorem dX0_addDebt_0 : decode cX0_addDebt 0 = .ok (.iload_n 1, 1) := by decide +kernel
theorem dX0_addDebt_1 : decode cX0_addDebt 1 = .ok (.iload_n 2, 1) := by decide +kernel
theorem dX0_addDebt_2 : decode cX0_addDebt 2 = .ok (.invokestatic 31, 3) := by decide +kernel
theorem dX0_addDebt_5 : decode cX0_addDebt 5 = .ok (.istore 5, 2) := by decide +kernel
theorem dX0_addDebt_7 : decode cX0_addDebt 7 = .ok (.iload_n 2, 1) := by decide +kernel
theorem dX0_addDebt_8 : decode cX0_addDebt 8 = .ok (.iload_n 1, 1) := by decide +kernel
theorem dX0_addDebt_9 : decode cX0_addDebt 9 = .ok (.invokestatic 31, 3) := by decide +kernel
theorem dX0_addDebt_12 : decode cX0_addDebt 12 = .ok (.istore 6, 2) := by decide +kernel
theorem dX0_addDebt_14 : decode cX0_addDebt 14 = .ok (.iload 5, 2) := by decide +kernel
theorem dX0_addDebt_16 : decode cX0_addDebt 16 = .ok (.ifCond .lt 44, 3) := by decide +kernel
theorem dX0_addDebt_19 : decode cX0_addDebt 19 = .ok (.iload 5, 2) := by decide +kernel
theorem dX0_addDebt_21 : decode cX0_addDebt 21 = .ok (.bipush 25, 2) := by decide +kernel
theorem dX0_addDebt_23 : decode cX0_addDebt 23 = .ok (.if_icmp .ge 37, 3) := by decide +kernel
theorem dX0_addDebt_26 : decode cX0_addDebt 26 = .ok (.iload 6, 2) := by decide +kernel
theorem dX0_addDebt_28 : decode cX0_addDebt 28 = .ok (.ifCond .lt 32, 3) := by decide +kernel
theorem dX0_addDebt_31 : decode cX0_addDebt 31 = .ok (.iload 6, 2) := by decide +kernel
theorem dX0_addDebt_33 : decode cX0_addDebt 33 = .ok (.bipush 25, 2) := by decide +kernel
theorem dX0_addDebt_35 : decode cX0_addDebt 35 = .ok (.if_icmp .ge 25, 3) := by decide +kernel
theorem dX0_addDebt_38 : decode cX0_addDebt 38 = .ok (.aload_n 0, 1) := by decide +kernel
theorem dX0_addDebt_39 : decode cX0_addDebt 39 = .ok (.getfield 18, 3) := by decide +kernel
theorem dX0_addDebt_42 : decode cX0_addDebt 42 = .ok (.iload 5, 2) := by decide +kernel
theorem dX0_addDebt_44 : decode cX0_addDebt 44 = .ok (.dup2, 1) := by decide +kernel
theorem dX0_addDebt_45 : decode cX0_addDebt 45 = .ok (.laload, 1) := by decide +kernel
theorem dX0_addDebt_46 : decode cX0_addDebt 46 = .ok (.lload_n 3, 1) := by decide +kernel
theorem dX0_addDebt_47 : decode cX0_addDebt 47 = .ok (.ladd, 1) := by decide +kernel
theorem dX0_addDebt_48 : decode cX0_addDebt 48 = .ok (.lastore, 1) := by decide +kernel
theorem dX0_addDebt_49 : decode cX0_addDebt 49 = .ok (.aload_n 0, 1) := by decide +kernel
theorem dX0_addDebt_50 : decode cX0_addDebt 50 = .ok (.getfield 18, 3) := by decide +kernel
theorem dX0_addDebt_53 : decode cX0_addDebt 53 = .ok (.iload 6, 2) := by decide +kernel
theorem dX0_addDebt_55 : decode cX0_addDebt 55 = .ok (.dup2, 1) := by decide +kernel
theorem dX0_addDebt_56 : decode cX0_addDebt 56 = .ok (.laload, 1) := by decide +kernel
theorem dX0_addDebt_57 : decode cX0_addDebt 57 = .ok (.lload_n 3, 1) := by decide +kernel
theorem dX0_addDebt_58 : decode cX0_addDebt 58 = .ok (.lsub, 1) := by decide +kernel
theorem dX0_addDebt_59 : decode cX0_addDebt 59 = .ok (.lastore, 1) := by decide +kernel
theorem dX0_addDebt_60 : decode cX0_addDebt 60 = .ok (.return_, 1) := by decide +kernel
theorem dX0_isOpen_0 : decode cX0_isOpen 0 = .ok (.iload_n 1, 1) := by decide +kernel
theorem dX0_isOpen_1 : decode cX0_isOpen 1 = .ok (.iload_n 2, 1) := by decide +kernel
theorem dX0_isOpen_2 : decode cX0_isOpen 2 = .ok (.invokestatic 31, 3) := by decide +kernel
theorem dX0_isOpen_5 : decode cX0_isOpen 5 = .ok (.istore_n 3, 1) := by decide +kernel
theorem dX0_isOpen_6 : decode cX0_isOpen 6 = .ok (.iload_n 3, 1) := by decide +kernel
theorem dX0_isOpen_7 : decode cX0_isOpen 7 = .ok (.ifCond .lt 48, 3) := by decide +kernel
theorem dX0_isOpen_10 : decode cX0_isOpen 10 = .ok (.iload_n 3, 1) := by decide +kernel
theorem dX0_isOpen_11 : decode cX0_isOpen 11 = .ok (.bipush 25, 2) := by decide +kernel
theorem dX0_isOpen_13 : decode cX0_isOpen 13 = .ok (.if_icmp .ge 42, 3) := by decide +kernel
theorem dX0_isOpen_16 : decode cX0_isOpen 16 = .ok (.aload_n 0, 1) := by decide +kernel
theorem dX0_isOpen_17 : decode cX0_isOpen 17 = .ok (.getfield 9, 3) := by decide +kernel
theorem dX0_isOpen_20 : decode cX0_isOpen 20 = .ok (.iload_n 3, 1) := by decide +kernel
theorem dX0_isOpen_21 : decode cX0_isOpen 21 = .ok (.iaload, 1) := by decide +kernel
theorem dX0_isOpen_22 : decode cX0_isOpen 22 = .ok (.iconst (-1), 1) := by decide +kernel
theorem dX0_isOpen_23 : decode cX0_isOpen 23 = .ok (.if_icmp .eq 32, 3) := by decide +kernel
theorem dX0_isOpen_26 : decode cX0_isOpen 26 = .ok (.aload_n 0, 1) := by decide +kernel
theorem dX0_isOpen_27 : decode cX0_isOpen 27 = .ok (.getfield 18, 3) := by decide +kernel
theorem dX0_isOpen_30 : decode cX0_isOpen 30 = .ok (.iload_n 3, 1) := by decide +kernel
theorem dX0_isOpen_31 : decode cX0_isOpen 31 = .ok (.laload, 1) := by decide +kernel
theorem dX0_isOpen_32 : decode cX0_isOpen 32 = .ok (.aload_n 0, 1) := by decide +kernel
theorem dX0_isOpen_33 : decode cX0_isOpen 33 = .ok (.getfield 9, 3) := by decide +kernel
theorem dX0_isOpen_36 : decode cX0_isOpen 36 = .ok (.iload_n 3, 1) := by decide +kernel
theorem dX0_isOpen_37 : decode cX0_isOpen 37 = .ok (.iaload, 1) := by decide +kernel
theorem dX0_isOpen_38 : decode cX0_isOpen 38 = .ok (.i2l, 1) := by decide +kernel
theorem dX0_isOpen_39 : decode cX0_isOpen 39 = .ok (.ladd, 1) := by decide +kernel
theorem dX0_isOpen_40 : decode cX0_isOpen 40 = .ok (.aload_n 0, 1) := by decide +kernel
theorem dX0_isOpen_41 : decode cX0_isOpen 41 = .ok (.getfield 15, 3) := by decide +kernel
theorem dX0_isOpen_44 : decode cX0_isOpen 44 = .ok (.iload_n 3, 1) := by decide +kernel
theorem dX0_isOpen_45 : decode cX0_isOpen 45 = .ok (.iaload, 1) := by decide +kernel
theorem dX0_isOpen_46 : decode cX0_isOpen 46 = .ok (.i2l, 1) := by decide +kernel
theorem dX0_isOpen_47 : decode cX0_isOpen 47 = .ok (.lcmp, 1) := by decide +kernel
theorem dX0_isOpen_48 : decode cX0_isOpen 48 = .ok (.ifCond .gt 7, 3) := by decide +kernel
theorem dX0_isOpen_51 : decode cX0_isOpen 51 = .ok (.iconst 1, 1) := by decide +kernel
theorem dX0_isOpen_52 : decode cX0_isOpen 52 = .ok (.goto 4, 3) := by decide +kernel
theorem dX0_isOpen_55 : decode cX0_isOpen 55 = .ok (.iconst 0, 1) := by decide +kernel
theorem dX0_isOpen_56 : decode cX0_isOpen 56 = .ok (.ireturn, 1) := by decide +kernel
theorem dX0_isOpenAlong_0 : decode cX0_isOpenAlong 0 = .ok (.iconst 1, 1) := by decide +kernel
theorem dX0_isOpenAlong_1 : decode cX0_isOpenAlong 1 = .ok (.istore_n 2, 1) := by decide +kernel
theorem dX0_isOpenAlong_2 : decode cX0_isOpenAlong 2 = .ok (.iload_n 2, 1) := by decide +kernel
theorem dX0_isOpenAlong_3 : decode cX0_isOpenAlong 3 = .ok (.aload_n 1, 1) := by decide +kernel
theorem dX0_isOpenAlong_4 : decode cX0_isOpenAlong 4 = .ok (.getfield 35, 3) := by decide +kernel
theorem dX0_isOpenAlong_7 : decode cX0_isOpenAlong 7 = .ok (.if_icmp .ge 30, 3) := by decide +kernel
theorem dX0_isOpenAlong_10 : decode cX0_isOpenAlong 10 = .ok (.aload_n 0, 1) := by decide +kernel
theorem dX0_isOpenAlong_11 : decode cX0_isOpenAlong 11 = .ok (.aload_n 1, 1) := by decide +kernel
theorem dX0_isOpenAlong_12 : decode cX0_isOpenAlong 12 = .ok (.iload_n 2, 1) := by decide +kernel
theorem dX0_isOpenAlong_13 : decode cX0_isOpenAlong 13 = .ok (.iconst 1, 1) := by decide +kernel
theorem dX0_isOpenAlong_14 : decode cX0_isOpenAlong 14 = .ok (.isub, 1) := by decide +kernel
theorem dX0_isOpenAlong_15 : decode cX0_isOpenAlong 15 = .ok (.invokevirtual 41, 3) := by decide +kernel
theorem dX0_isOpenAlong_18 : decode cX0_isOpenAlong 18 = .ok (.aload_n 1, 1) := by decide +kernel
theorem dX0_isOpenAlong_19 : decode cX0_isOpenAlong 19 = .ok (.iload_n 2, 1) := by decide +kernel
theorem dX0_isOpenAlong_20 : decode cX0_isOpenAlong 20 = .ok (.invokevirtual 41, 3) := by decide +kernel
theorem dX0_isOpenAlong_23 : decode cX0_isOpenAlong 23 = .ok (.invokevirtual 45, 3) := by decide +kernel
theorem dX0_isOpenAlong_26 : decode cX0_isOpenAlong 26 = .ok (.ifCond .ne 5, 3) := by decide +kernel
theorem dX0_isOpenAlong_29 : decode cX0_isOpenAlong 29 = .ok (.iconst 0, 1) := by decide +kernel
theorem dX0_isOpenAlong_30 : decode cX0_isOpenAlong 30 = .ok (.ireturn, 1) := by decide +kernel
theorem dX0_isOpenAlong_31 : decode cX0_isOpenAlong 31 = .ok (.iinc 2 1, 3) := by decide +kernel
theorem dX0_isOpenAlong_34 : decode cX0_isOpenAlong 34 = .ok (.goto (-32), 3) := by decide +kernel
theorem dX0_isOpenAlong_37 : decode cX0_isOpenAlong 37 = .ok (.iconst 1, 1) := by decide +kernel
theorem dX0_isOpenAlong_38 : decode cX0_isOpenAlong 38 = .ok (.ireturn, 1) := by decide +kernel
theorem dX0_costOf_0 : decode cX0_costOf 0 = .ok (.iconst 0, 1) := by decide +kernel
theorem dX0_costOf_1 : decode cX0_costOf 1 = .ok (.istore_n 2, 1) := by decide +kernel
theorem dX0_costOf_2 : decode cX0_costOf 2 = .ok (.iconst 1, 1) := by decide +kernel
theorem dX0_costOf_3 : decode cX0_costOf 3 = .ok (.istore_n 3, 1) := by decide +kernel
theorem dX0_costOf_4 : decode cX0_costOf 4 = .ok (.iload_n 3, 1) := by decide +kernel
theorem dX0_costOf_5 : decode cX0_costOf 5 = .ok (.aload_n 1, 1) := by decide +kernel
theorem dX0_costOf_6 : decode cX0_costOf 6 = .ok (.getfield 35, 3) := by decide +kernel
theorem dX0_costOf_9 : decode cX0_costOf 9 = .ok (.if_icmp .ge 28, 3) := by decide +kernel
theorem dX0_costOf_12 : decode cX0_costOf 12 = .ok (.iload_n 2, 1) := by decide +kernel
theorem dX0_costOf_13 : decode cX0_costOf 13 = .ok (.aload_n 0, 1) := by decide +kernel
theorem dX0_costOf_14 : decode cX0_costOf 14 = .ok (.aload_n 1, 1) := by decide +kernel
theorem dX0_costOf_15 : decode cX0_costOf 15 = .ok (.iload_n 3, 1) := by decide +kernel
theorem dX0_costOf_16 : decode cX0_costOf 16 = .ok (.iconst 1, 1) := by decide +kernel
theorem dX0_costOf_17 : decode cX0_costOf 17 = .ok (.isub, 1) := by decide +kernel
theorem dX0_costOf_18 : decode cX0_costOf 18 = .ok (.invokevirtual 41, 3) := by decide +kernel
theorem dX0_costOf_21 : decode cX0_costOf 21 = .ok (.aload_n 1, 1) := by decide +kernel
theorem dX0_costOf_22 : decode cX0_costOf 22 = .ok (.iload_n 3, 1) := by decide +kernel
theorem dX0_costOf_23 : decode cX0_costOf 23 = .ok (.invokevirtual 41, 3) := by decide +kernel
theorem dX0_costOf_26 : decode cX0_costOf 26 = .ok (.invokevirtual 49, 3) := by decide +kernel
theorem dX0_costOf_29 : decode cX0_costOf 29 = .ok (.iadd, 1) := by decide +kernel
theorem dX0_costOf_30 : decode cX0_costOf 30 = .ok (.istore_n 2, 1) := by decide +kernel
theorem dX0_costOf_31 : decode cX0_costOf 31 = .ok (.iinc 3 1, 3) := by decide +kernel
theorem dX0_costOf_34 : decode cX0_costOf 34 = .ok (.goto (-30), 3) := by decide +kernel
theorem dX0_costOf_37 : decode cX0_costOf 37 = .ok (.iload_n 2, 1) := by decide +kernel
theorem dX0_costOf_38 : decode cX0_costOf 38 = .ok (.ireturn, 1) := by decide +kernel
theorem dX0_charge_0 : decode cX0_charge 0 = .ok (.iconst 1, 1) := by decide +kernel
theorem dX0_charge_1 : decode cX0_charge 1 = .ok (.istore_n 2, 1) := by decide +kernel
theorem dX0_charge_2 : decode cX0_charge 2 = .ok (.iload_n 2, 1) := by decide +kernel
theorem dX0_charge_3 : decode cX0_charge 3 = .ok (.aload_n 1, 1) := by decide +kernel
theorem dX0_charge_4 : decode cX0_charge 4 = .ok (.getfield 52, 3) := by decide +kernel
theorem dX0_charge_7 : decode cX0_charge 7 = .ok (.getfield 35, 3) := by decide +kernel
theorem dX0_charge_10 : decode cX0_charge 10 = .ok (.if_icmp .ge 61, 3) := by decide +kernel
theorem dX0_charge_13 : decode cX0_charge 13 = .ok (.aload_n 1, 1) := by decide +kernel
theorem dX0_charge_14 : decode cX0_charge 14 = .ok (.getfield 52, 3) := by decide +kernel
theorem dX0_charge_17 : decode cX0_charge 17 = .ok (.iload_n 2, 1) := by decide +kernel
theorem dX0_charge_18 : decode cX0_charge 18 = .ok (.iconst 1, 1) := by decide +kernel
theorem dX0_charge_19 : decode cX0_charge 19 = .ok (.isub, 1) := by decide +kernel
theorem dX0_charge_20 : decode cX0_charge 20 = .ok (.invokevirtual 41, 3) := by decide +kernel
theorem dX0_charge_23 : decode cX0_charge 23 = .ok (.istore_n 3, 1) := by decide +kernel
theorem dX0_charge_24 : decode cX0_charge 24 = .ok (.aload_n 1, 1) := by decide +kernel
theorem dX0_charge_25 : decode cX0_charge 25 = .ok (.getfield 52, 3) := by decide +kernel
theorem dX0_charge_28 : decode cX0_charge 28 = .ok (.iload_n 2, 1) := by decide +kernel
theorem dX0_charge_29 : decode cX0_charge 29 = .ok (.invokevirtual 41, 3) := by decide +kernel
theorem dX0_charge_32 : decode cX0_charge 32 = .ok (.istore 4, 2) := by decide +kernel
theorem dX0_charge_34 : decode cX0_charge 34 = .ok (.aload_n 0, 1) := by decide +kernel
theorem dX0_charge_35 : decode cX0_charge 35 = .ok (.iload_n 3, 1) := by decide +kernel
theorem dX0_charge_36 : decode cX0_charge 36 = .ok (.iload 4, 2) := by decide +kernel
theorem dX0_charge_38 : decode cX0_charge 38 = .ok (.invokevirtual 49, 3) := by decide +kernel
theorem dX0_charge_41 : decode cX0_charge 41 = .ok (.istore 5, 2) := by decide +kernel
theorem dX0_charge_43 : decode cX0_charge 43 = .ok (.aload_n 0, 1) := by decide +kernel
theorem dX0_charge_44 : decode cX0_charge 44 = .ok (.iload_n 3, 1) := by decide +kernel
theorem dX0_charge_45 : decode cX0_charge 45 = .ok (.iload 4, 2) := by decide +kernel
theorem dX0_charge_47 : decode cX0_charge 47 = .ok (.iload 5, 2) := by decide +kernel
theorem dX0_charge_49 : decode cX0_charge 49 = .ok (.i2l, 1) := by decide +kernel
theorem dX0_charge_50 : decode cX0_charge 50 = .ok (.invokevirtual 58, 3) := by decide +kernel
theorem dX0_charge_53 : decode cX0_charge 53 = .ok (.aload_n 1, 1) := by decide +kernel
theorem dX0_charge_54 : decode cX0_charge 54 = .ok (.iload_n 3, 1) := by decide +kernel
theorem dX0_charge_55 : decode cX0_charge 55 = .ok (.iload 4, 2) := by decide +kernel
theorem dX0_charge_57 : decode cX0_charge 57 = .ok (.invokestatic 31, 3) := by decide +kernel
theorem dX0_charge_60 : decode cX0_charge 60 = .ok (.iload 5, 2) := by decide +kernel
theorem dX0_charge_62 : decode cX0_charge 62 = .ok (.invokevirtual 62, 3) := by decide +kernel
theorem dX0_charge_65 : decode cX0_charge 65 = .ok (.iinc 2 1, 3) := by decide +kernel
theorem dX0_charge_68 : decode cX0_charge 68 = .ok (.goto (-66), 3) := by decide +kernel
theorem dX0_charge_71 : decode cX0_charge 71 = .ok (.return_, 1) := by decide +kernel
theorem dX0_findBest_0 : decode cX0_findBest 0 = .ok (.iload_n 1, 1) := by decide +kernel
theorem dX0_findBest_1 : decode cX0_findBest 1 = .ok (.invokestatic 66, 3) := by decide +kernel
theorem dX0_findBest_4 : decode cX0_findBest 4 = .ok (.ifCond .eq 10, 3) := by decide +kernel
theorem dX0_findBest_7 : decode cX0_findBest 7 = .ok (.iload_n 2, 1) := by decide +kernel
theorem dX0_findBest_8 : decode cX0_findBest 8 = .ok (.invokestatic 66, 3) := by decide +kernel
theorem dX0_findBest_11 : decode cX0_findBest 11 = .ok (.ifCond .ne 5, 3) := by decide +kernel
theorem dX0_findBest_14 : decode cX0_findBest 14 = .ok (.iconst 0, 1) := by decide +kernel
theorem dX0_findBest_15 : decode cX0_findBest 15 = .ok (.ireturn, 1) := by decide +kernel
theorem dX0_findBest_16 : decode cX0_findBest 16 = .ok (.aload_n 0, 1) := by decide +kernel
theorem dX0_findBest_17 : decode cX0_findBest 17 = .ok (.iload_n 2, 1) := by decide +kernel
theorem dX0_findBest_18 : decode cX0_findBest 18 = .ok (.invokevirtual 70, 3) := by decide +kernel
theorem dX0_findBest_21 : decode cX0_findBest 21 = .ok (.aload_n 0, 1) := by decide +kernel
theorem dX0_findBest_22 : decode cX0_findBest 22 = .ok (.getfield 22, 3) := by decide +kernel
theorem dX0_findBest_25 : decode cX0_findBest 25 = .ok (.iload_n 1, 1) := by decide +kernel
theorem dX0_findBest_26 : decode cX0_findBest 26 = .ok (.iaload, 1) := by decide +kernel
theorem dX0_findBest_27 : decode cX0_findBest 27 = .ok (.ldc 74, 2) := by decide +kernel
theorem dX0_findBest_29 : decode cX0_findBest 29 = .ok (.if_icmp .lt 5, 3) := by decide +kernel
theorem dX0_findBest_32 : decode cX0_findBest 32 = .ok (.iconst 0, 1) := by decide +kernel
theorem dX0_findBest_33 : decode cX0_findBest 33 = .ok (.ireturn, 1) := by decide +kernel
theorem dX0_findBest_34 : decode cX0_findBest 34 = .ok (.aload_n 3, 1) := by decide +kernel
theorem dX0_findBest_35 : decode cX0_findBest 35 = .ok (.invokevirtual 75, 3) := by decide +kernel
theorem dX0_findBest_38 : decode cX0_findBest 38 = .ok (.aload_n 3, 1) := by decide +kernel
theorem dX0_findBest_39 : decode cX0_findBest 39 = .ok (.iload_n 1, 1) := by decide +kernel
theorem dX0_findBest_40 : decode cX0_findBest 40 = .ok (.invokevirtual 78, 3) := by decide +kernel
theorem dX0_findBest_43 : decode cX0_findBest 43 = .ok (.iload_n 1, 1) := by decide +kernel
theorem dX0_findBest_44 : decode cX0_findBest 44 = .ok (.istore 4, 2) := by decide +kernel
theorem dX0_findBest_46 : decode cX0_findBest 46 = .ok (.iconst 1, 1) := by decide +kernel
theorem dX0_findBest_47 : decode cX0_findBest 47 = .ok (.istore 5, 2) := by decide +kernel
theorem dX0_findBest_49 : decode cX0_findBest 49 = .ok (.iload 5, 2) := by decide +kernel
theorem dX0_findBest_51 : decode cX0_findBest 51 = .ok (.iconst 5, 1) := by decide +kernel
theorem dX0_findBest_52 : decode cX0_findBest 52 = .ok (.if_icmp .ge 29, 3) := by decide +kernel
theorem dX0_findBest_55 : decode cX0_findBest 55 = .ok (.iload 4, 2) := by decide +kernel
theorem dX0_findBest_57 : decode cX0_findBest 57 = .ok (.iload_n 2, 1) := by decide +kernel
theorem dX0_findBest_58 : decode cX0_findBest 58 = .ok (.if_icmp .eq 23, 3) := by decide +kernel
theorem dX0_findBest_61 : decode cX0_findBest 61 = .ok (.aload_n 0, 1) := by decide +kernel
theorem dX0_findBest_62 : decode cX0_findBest 62 = .ok (.iload 4, 2) := by decide +kernel
theorem dX0_findBest_64 : decode cX0_findBest 64 = .ok (.invokevirtual 81, 3) := by decide +kernel
theorem dX0_findBest_67 : decode cX0_findBest 67 = .ok (.istore 4, 2) := by decide +kernel
theorem dX0_findBest_69 : decode cX0_findBest 69 = .ok (.aload_n 3, 1) := by decide +kernel
theorem dX0_findBest_70 : decode cX0_findBest 70 = .ok (.iload 4, 2) := by decide +kernel
theorem dX0_findBest_72 : decode cX0_findBest 72 = .ok (.invokevirtual 78, 3) := by decide +kernel
theorem dX0_findBest_75 : decode cX0_findBest 75 = .ok (.iinc 5 1, 3) := by decide +kernel
theorem dX0_findBest_78 : decode cX0_findBest 78 = .ok (.goto (-29), 3) := by decide +kernel
theorem dX0_findBest_81 : decode cX0_findBest 81 = .ok (.iconst 1, 1) := by decide +kernel
theorem dX0_findBest_82 : decode cX0_findBest 82 = .ok (.ireturn, 1) := by decide +kernel
theorem dX0_weighWaysTo_0 : decode cX0_weighWaysTo 0 = .ok (.aload_n 0, 1) := by decide +kernel
theorem dX0_weighWaysTo_1 : decode cX0_weighWaysTo 1 = .ok (.getfield 22, 3) := by decide +kernel
theorem dX0_weighWaysTo_4 : decode cX0_weighWaysTo 4 = .ok (.ldc 74, 2) := by decide +kernel
theorem dX0_weighWaysTo_6 : decode cX0_weighWaysTo 6 = .ok (.invokestatic 25, 3) := by decide +kernel
theorem dX0_weighWaysTo_9 : decode cX0_weighWaysTo 9 = .ok (.iload_n 1, 1) := by decide +kernel
theorem dX0_weighWaysTo_10 : decode cX0_weighWaysTo 10 = .ok (.invokestatic 66, 3) := by decide +kernel
theorem dX0_weighWaysTo_13 : decode cX0_weighWaysTo 13 = .ok (.ifCond .eq 10, 3) := by decide +kernel
theorem dX0_weighWaysTo_16 : decode cX0_weighWaysTo 16 = .ok (.aload_n 0, 1) := by decide +kernel
theorem dX0_weighWaysTo_17 : decode cX0_weighWaysTo 17 = .ok (.getfield 22, 3) := by decide +kernel
theorem dX0_weighWaysTo_20 : decode cX0_weighWaysTo 20 = .ok (.iload_n 1, 1) := by decide +kernel
theorem dX0_weighWaysTo_21 : decode cX0_weighWaysTo 21 = .ok (.iconst 0, 1) := by decide +kernel
theorem dX0_weighWaysTo_22 : decode cX0_weighWaysTo 22 = .ok (.iastore, 1) := by decide +kernel
theorem dX0_weighWaysTo_23 : decode cX0_weighWaysTo 23 = .ok (.iconst 1, 1) := by decide +kernel
theorem dX0_weighWaysTo_24 : decode cX0_weighWaysTo 24 = .ok (.istore_n 2, 1) := by decide +kernel
theorem dX0_weighWaysTo_25 : decode cX0_weighWaysTo 25 = .ok (.iload_n 2, 1) := by decide +kernel
theorem dX0_weighWaysTo_26 : decode cX0_weighWaysTo 26 = .ok (.iconst 5, 1) := by decide +kernel
theorem dX0_weighWaysTo_27 : decode cX0_weighWaysTo 27 = .ok (.if_icmp .ge 69, 3) := by decide +kernel
theorem dX0_weighWaysTo_30 : decode cX0_weighWaysTo 30 = .ok (.iconst 0, 1) := by decide +kernel
theorem dX0_weighWaysTo_31 : decode cX0_weighWaysTo 31 = .ok (.istore_n 3, 1) := by decide +kernel
theorem dX0_weighWaysTo_32 : decode cX0_weighWaysTo 32 = .ok (.iload_n 3, 1) := by decide +kernel
theorem dX0_weighWaysTo_33 : decode cX0_weighWaysTo 33 = .ok (.iconst 5, 1) := by decide +kernel
theorem dX0_weighWaysTo_34 : decode cX0_weighWaysTo 34 = .ok (.if_icmp .ge 56, 3) := by decide +kernel
theorem dX0_weighWaysTo_37 : decode cX0_weighWaysTo 37 = .ok (.iconst 0, 1) := by decide +kernel
theorem dX0_weighWaysTo_38 : decode cX0_weighWaysTo 38 = .ok (.istore 4, 2) := by decide +kernel
theorem dX0_weighWaysTo_40 : decode cX0_weighWaysTo 40 = .ok (.iload 4, 2) := by decide +kernel
theorem dX0_weighWaysTo_42 : decode cX0_weighWaysTo 42 = .ok (.iconst 5, 1) := by decide +kernel
theorem dX0_weighWaysTo_43 : decode cX0_weighWaysTo 43 = .ok (.if_icmp .ge 41, 3) := by decide +kernel
theorem dX0_weighWaysTo_46 : decode cX0_weighWaysTo 46 = .ok (.aload_n 0, 1) := by decide +kernel
theorem dX0_weighWaysTo_47 : decode cX0_weighWaysTo 47 = .ok (.iload_n 3, 1) := by decide +kernel
theorem dX0_weighWaysTo_48 : decode cX0_weighWaysTo 48 = .ok (.iload 4, 2) := by decide +kernel
theorem dX0_weighWaysTo_50 : decode cX0_weighWaysTo 50 = .ok (.invokevirtual 45, 3) := by decide +kernel
theorem dX0_weighWaysTo_53 : decode cX0_weighWaysTo 53 = .ok (.ifCond .eq 25, 3) := by decide +kernel
theorem dX0_weighWaysTo_56 : decode cX0_weighWaysTo 56 = .ok (.aload_n 0, 1) := by decide +kernel
theorem dX0_weighWaysTo_57 : decode cX0_weighWaysTo 57 = .ok (.getfield 22, 3) := by decide +kernel
theorem dX0_weighWaysTo_60 : decode cX0_weighWaysTo 60 = .ok (.iload_n 3, 1) := by decide +kernel
theorem dX0_weighWaysTo_61 : decode cX0_weighWaysTo 61 = .ok (.aload_n 0, 1) := by decide +kernel
theorem dX0_weighWaysTo_62 : decode cX0_weighWaysTo 62 = .ok (.getfield 22, 3) := by decide +kernel
theorem dX0_weighWaysTo_65 : decode cX0_weighWaysTo 65 = .ok (.iload_n 3, 1) := by decide +kernel
theorem dX0_weighWaysTo_66 : decode cX0_weighWaysTo 66 = .ok (.iaload, 1) := by decide +kernel
theorem dX0_weighWaysTo_67 : decode cX0_weighWaysTo 67 = .ok (.aload_n 0, 1) := by decide +kernel
theorem dX0_weighWaysTo_68 : decode cX0_weighWaysTo 68 = .ok (.iload_n 3, 1) := by decide +kernel
theorem dX0_weighWaysTo_69 : decode cX0_weighWaysTo 69 = .ok (.iload 4, 2) := by decide +kernel
theorem dX0_weighWaysTo_71 : decode cX0_weighWaysTo 71 = .ok (.invokevirtual 84, 3) := by decide +kernel
theorem dX0_weighWaysTo_74 : decode cX0_weighWaysTo 74 = .ok (.invokestatic 87, 3) := by decide +kernel
theorem dX0_weighWaysTo_77 : decode cX0_weighWaysTo 77 = .ok (.iastore, 1) := by decide +kernel
theorem dX0_weighWaysTo_78 : decode cX0_weighWaysTo 78 = .ok (.iinc 4 1, 3) := by decide +kernel
theorem dX0_weighWaysTo_81 : decode cX0_weighWaysTo 81 = .ok (.goto (-41), 3) := by decide +kernel
theorem dX0_weighWaysTo_84 : decode cX0_weighWaysTo 84 = .ok (.iinc 3 1, 3) := by decide +kernel
theorem dX0_weighWaysTo_87 : decode cX0_weighWaysTo 87 = .ok (.goto (-55), 3) := by decide +kernel
theorem dX0_weighWaysTo_90 : decode cX0_weighWaysTo 90 = .ok (.iinc 2 1, 3) := by decide +kernel
theorem dX0_weighWaysTo_93 : decode cX0_weighWaysTo 93 = .ok (.goto (-68), 3) := by decide +kernel
theorem dX0_weighWaysTo_96 : decode cX0_weighWaysTo 96 = .ok (.return_, 1) := by decide +kernel
theorem dX0_nextOnBest_0 : decode cX0_nextOnBest 0 = .ok (.iconst 0, 1) := by decide +kernel
theorem dX0_nextOnBest_1 : decode cX0_nextOnBest 1 = .ok (.istore_n 2, 1) := by decide +kernel
theorem dX0_nextOnBest_2 : decode cX0_nextOnBest 2 = .ok (.iload_n 2, 1) := by decide +kernel
theorem dX0_nextOnBest_3 : decode cX0_nextOnBest 3 = .ok (.iconst 5, 1) := by decide +kernel
theorem dX0_nextOnBest_4 : decode cX0_nextOnBest 4 = .ok (.if_icmp .ge 42, 3) := by decide +kernel
theorem dX0_nextOnBest_7 : decode cX0_nextOnBest 7 = .ok (.aload_n 0, 1) := by decide +kernel
theorem dX0_nextOnBest_8 : decode cX0_nextOnBest 8 = .ok (.iload_n 1, 1) := by decide +kernel
theorem dX0_nextOnBest_9 : decode cX0_nextOnBest 9 = .ok (.iload_n 2, 1) := by decide +kernel
theorem dX0_nextOnBest_10 : decode cX0_nextOnBest 10 = .ok (.invokevirtual 45, 3) := by decide +kernel
theorem dX0_nextOnBest_13 : decode cX0_nextOnBest 13 = .ok (.ifCond .eq 27, 3) := by decide +kernel
theorem dX0_nextOnBest_16 : decode cX0_nextOnBest 16 = .ok (.iload_n 1, 1) := by decide +kernel
theorem dX0_nextOnBest_17 : decode cX0_nextOnBest 17 = .ok (.invokestatic 66, 3) := by decide +kernel
theorem dX0_nextOnBest_20 : decode cX0_nextOnBest 20 = .ok (.ifCond .eq 20, 3) := by decide +kernel
theorem dX0_nextOnBest_23 : decode cX0_nextOnBest 23 = .ok (.aload_n 0, 1) := by decide +kernel
theorem dX0_nextOnBest_24 : decode cX0_nextOnBest 24 = .ok (.iload_n 1, 1) := by decide +kernel
theorem dX0_nextOnBest_25 : decode cX0_nextOnBest 25 = .ok (.iload_n 2, 1) := by decide +kernel
theorem dX0_nextOnBest_26 : decode cX0_nextOnBest 26 = .ok (.invokevirtual 84, 3) := by decide +kernel
theorem dX0_nextOnBest_29 : decode cX0_nextOnBest 29 = .ok (.aload_n 0, 1) := by decide +kernel
theorem dX0_nextOnBest_30 : decode cX0_nextOnBest 30 = .ok (.getfield 22, 3) := by decide +kernel
theorem dX0_nextOnBest_33 : decode cX0_nextOnBest 33 = .ok (.iload_n 1, 1) := by decide +kernel
theorem dX0_nextOnBest_34 : decode cX0_nextOnBest 34 = .ok (.iaload, 1) := by decide +kernel
theorem dX0_nextOnBest_35 : decode cX0_nextOnBest 35 = .ok (.if_icmp .ne 5, 3) := by decide +kernel
theorem dX0_nextOnBest_38 : decode cX0_nextOnBest 38 = .ok (.iload_n 2, 1) := by decide +kernel
theorem dX0_nextOnBest_39 : decode cX0_nextOnBest 39 = .ok (.ireturn, 1) := by decide +kernel
theorem dX0_nextOnBest_40 : decode cX0_nextOnBest 40 = .ok (.iinc 2 1, 3) := by decide +kernel
theorem dX0_nextOnBest_43 : decode cX0_nextOnBest 43 = .ok (.goto (-41), 3) := by decide +kernel
theorem dX0_nextOnBest_46 : decode cX0_nextOnBest 46 = .ok (.iconst (-1), 1) := by decide +kernel
theorem dX0_nextOnBest_47 : decode cX0_nextOnBest 47 = .ok (.ireturn, 1) := by decide +kernel
theorem dX0_weightOver_0 : decode cX0_weightOver 0 = .ok (.iload_n 2, 1) := by decide +kernel
theorem dX0_weightOver_1 : decode cX0_weightOver 1 = .ok (.invokestatic 66, 3) := by decide +kernel
theorem dX0_weightOver_4 : decode cX0_weightOver 4 = .ok (.ifCond .eq 12, 3) := by decide +kernel
theorem dX0_weightOver_7 : decode cX0_weightOver 7 = .ok (.aload_n 0, 1) := by decide +kernel
theorem dX0_weightOver_8 : decode cX0_weightOver 8 = .ok (.getfield 22, 3) := by decide +kernel
theorem dX0_weightOver_11 : decode cX0_weightOver 11 = .ok (.iload_n 2, 1) := by decide +kernel
theorem dX0_weightOver_12 : decode cX0_weightOver 12 = .ok (.iaload, 1) := by decide +kernel
theorem dX0_weightOver_13 : decode cX0_weightOver 13 = .ok (.goto 5, 3) := by decide +kernel
theorem dX0_weightOver_16 : decode cX0_weightOver 16 = .ok (.ldc 74, 2) := by decide +kernel
theorem dX0_weightOver_18 : decode cX0_weightOver 18 = .ok (.istore_n 3, 1) := by decide +kernel
theorem dX0_weightOver_19 : decode cX0_weightOver 19 = .ok (.iload_n 3, 1) := by decide +kernel
theorem dX0_weightOver_20 : decode cX0_weightOver 20 = .ok (.aload_n 0, 1) := by decide +kernel
theorem dX0_weightOver_21 : decode cX0_weightOver 21 = .ok (.iload_n 1, 1) := by decide +kernel
theorem dX0_weightOver_22 : decode cX0_weightOver 22 = .ok (.iload_n 2, 1) := by decide +kernel
theorem dX0_weightOver_23 : decode cX0_weightOver 23 = .ok (.invokevirtual 49, 3) := by decide +kernel
theorem dX0_weightOver_26 : decode cX0_weightOver 26 = .ok (.bipush 8, 2) := by decide +kernel
theorem dX0_weightOver_28 : decode cX0_weightOver 28 = .ok (.imul, 1) := by decide +kernel
theorem dX0_weightOver_29 : decode cX0_weightOver 29 = .ok (.iadd, 1) := by decide +kernel
theorem dX0_weightOver_30 : decode cX0_weightOver 30 = .ok (.iconst 1, 1) := by decide +kernel
theorem dX0_weightOver_31 : decode cX0_weightOver 31 = .ok (.iadd, 1) := by decide +kernel
theorem dX0_weightOver_32 : decode cX0_weightOver 32 = .ok (.ireturn, 1) := by decide +kernel
theorem dX1_init_0 : decode cX1_init 0 = .ok (.aload_n 0, 1) := by decide +kernel
theorem dX1_init_1 : decode cX1_init 1 = .ok (.invokespecial 3, 3) := by decide +kernel
theorem dX1_init_4 : decode cX1_init 4 = .ok (.aload_n 0, 1) := by decide +kernel
theorem dX1_init_5 : decode cX1_init 5 = .ok (.iconst 5, 1) := by decide +kernel
theorem dX1_init_6 : decode cX1_init 6 = .ok (.newarray .int, 2) := by decide +kernel
theorem dX1_init_8 : decode cX1_init 8 = .ok (.putfield 9, 3) := by decide +kernel
theorem dX1_init_11 : decode cX1_init 11 = .ok (.return_, 1) := by decide +kernel
theorem dX1_carrierAt_0 : decode cX1_carrierAt 0 = .ok (.iload_n 1, 1) := by decide +kernel
theorem dX1_carrierAt_1 : decode cX1_carrierAt 1 = .ok (.ifCond .lt 25, 3) := by decide +kernel
theorem dX1_carrierAt_4 : decode cX1_carrierAt 4 = .ok (.iload_n 1, 1) := by decide +kernel
theorem dX1_carrierAt_5 : decode cX1_carrierAt 5 = .ok (.aload_n 0, 1) := by decide +kernel
theorem dX1_carrierAt_6 : decode cX1_carrierAt 6 = .ok (.getfield 15, 3) := by decide +kernel
theorem dX1_carrierAt_9 : decode cX1_carrierAt 9 = .ok (.if_icmp .ge 17, 3) := by decide +kernel
theorem dX1_carrierAt_12 : decode cX1_carrierAt 12 = .ok (.iload_n 1, 1) := by decide +kernel
theorem dX1_carrierAt_13 : decode cX1_carrierAt 13 = .ok (.iconst 5, 1) := by decide +kernel
theorem dX1_carrierAt_14 : decode cX1_carrierAt 14 = .ok (.if_icmp .ge 12, 3) := by decide +kernel
theorem dX1_carrierAt_17 : decode cX1_carrierAt 17 = .ok (.aload_n 0, 1) := by decide +kernel
theorem dX1_carrierAt_18 : decode cX1_carrierAt 18 = .ok (.getfield 9, 3) := by decide +kernel
theorem dX1_carrierAt_21 : decode cX1_carrierAt 21 = .ok (.iload_n 1, 1) := by decide +kernel
theorem dX1_carrierAt_22 : decode cX1_carrierAt 22 = .ok (.iaload, 1) := by decide +kernel
theorem dX1_carrierAt_23 : decode cX1_carrierAt 23 = .ok (.goto 4, 3) := by decide +kernel
theorem dX1_carrierAt_26 : decode cX1_carrierAt 26 = .ok (.iconst (-1), 1) := by decide +kernel
theorem dX1_carrierAt_27 : decode cX1_carrierAt 27 = .ok (.ireturn, 1) := by decide +kernel
theorem dX1_clear_0 : decode cX1_clear 0 = .ok (.aload_n 0, 1) := by decide +kernel
theorem dX1_clear_1 : decode cX1_clear 1 = .ok (.iconst 0, 1) := by decide +kernel
theorem dX1_clear_2 : decode cX1_clear 2 = .ok (.putfield 15, 3) := by decide +kernel
theorem dX1_clear_5 : decode cX1_clear 5 = .ok (.return_, 1) := by decide +kernel
theorem dX1_add_0 : decode cX1_add 0 = .ok (.aload_n 0, 1) := by decide +kernel
theorem dX1_add_1 : decode cX1_add 1 = .ok (.getfield 15, 3) := by decide +kernel
theorem dX1_add_4 : decode cX1_add 4 = .ok (.ifCond .lt 31, 3) := by decide +kernel
theorem dX1_add_7 : decode cX1_add 7 = .ok (.aload_n 0, 1) := by decide +kernel
theorem dX1_add_8 : decode cX1_add 8 = .ok (.getfield 15, 3) := by decide +kernel
theorem dX1_add_11 : decode cX1_add 11 = .ok (.iconst 5, 1) := by decide +kernel
theorem dX1_add_12 : decode cX1_add 12 = .ok (.if_icmp .ge 23, 3) := by decide +kernel
theorem dX1_add_15 : decode cX1_add 15 = .ok (.aload_n 0, 1) := by decide +kernel
theorem dX1_add_16 : decode cX1_add 16 = .ok (.getfield 9, 3) := by decide +kernel
theorem dX1_add_19 : decode cX1_add 19 = .ok (.aload_n 0, 1) := by decide +kernel
theorem dX1_add_20 : decode cX1_add 20 = .ok (.getfield 15, 3) := by decide +kernel
theorem dX1_add_23 : decode cX1_add 23 = .ok (.iload_n 1, 1) := by decide +kernel
theorem dX1_add_24 : decode cX1_add 24 = .ok (.iastore, 1) := by decide +kernel
theorem dX1_add_25 : decode cX1_add 25 = .ok (.aload_n 0, 1) := by decide +kernel
theorem dX1_add_26 : decode cX1_add 26 = .ok (.dup, 1) := by decide +kernel
theorem dX1_add_27 : decode cX1_add 27 = .ok (.getfield 15, 3) := by decide +kernel
theorem dX1_add_30 : decode cX1_add 30 = .ok (.iconst 1, 1) := by decide +kernel
theorem dX1_add_31 : decode cX1_add 31 = .ok (.iadd, 1) := by decide +kernel
theorem dX1_add_32 : decode cX1_add 32 = .ok (.putfield 15, 3) := by decide +kernel
theorem dX1_add_35 : decode cX1_add 35 = .ok (.return_, 1) := by decide +kernel
theorem dX1_become_0 : decode cX1_become 0 = .ok (.aload_n 0, 1) := by decide +kernel
theorem dX1_become_1 : decode cX1_become 1 = .ok (.invokevirtual 19, 3) := by decide +kernel
theorem dX1_become_4 : decode cX1_become 4 = .ok (.iconst 0, 1) := by decide +kernel
theorem dX1_become_5 : decode cX1_become 5 = .ok (.istore_n 2, 1) := by decide +kernel
theorem dX1_become_6 : decode cX1_become 6 = .ok (.iload_n 2, 1) := by decide +kernel
theorem dX1_become_7 : decode cX1_become 7 = .ok (.aload_n 1, 1) := by decide +kernel
theorem dX1_become_8 : decode cX1_become 8 = .ok (.getfield 15, 3) := by decide +kernel
theorem dX1_become_11 : decode cX1_become 11 = .ok (.if_icmp .ge 18, 3) := by decide +kernel
theorem dX1_become_14 : decode cX1_become 14 = .ok (.aload_n 0, 1) := by decide +kernel
theorem dX1_become_15 : decode cX1_become 15 = .ok (.aload_n 1, 1) := by decide +kernel
theorem dX1_become_16 : decode cX1_become 16 = .ok (.iload_n 2, 1) := by decide +kernel
theorem dX1_become_17 : decode cX1_become 17 = .ok (.invokevirtual 22, 3) := by decide +kernel
theorem dX1_become_20 : decode cX1_become 20 = .ok (.invokevirtual 26, 3) := by decide +kernel
theorem dX1_become_23 : decode cX1_become 23 = .ok (.iinc 2 1, 3) := by decide +kernel
theorem dX1_become_26 : decode cX1_become 26 = .ok (.goto (-20), 3) := by decide +kernel
theorem dX1_become_29 : decode cX1_become 29 = .ok (.return_, 1) := by decide +kernel
theorem dX2_init_0 : decode cX2_init 0 = .ok (.aload_n 0, 1) := by decide +kernel
theorem dX2_init_1 : decode cX2_init 1 = .ok (.invokespecial 3, 3) := by decide +kernel
theorem dX2_init_4 : decode cX2_init 4 = .ok (.aload_n 0, 1) := by decide +kernel
theorem dX2_init_5 : decode cX2_init 5 = .ok (.bipush 10, 2) := by decide +kernel
theorem dX2_init_7 : decode cX2_init 7 = .ok (.newarray .int, 2) := by decide +kernel
theorem dX2_init_9 : decode cX2_init 9 = .ok (.putfield 9, 3) := by decide +kernel
theorem dX2_init_12 : decode cX2_init 12 = .ok (.aload_n 0, 1) := by decide +kernel
theorem dX2_init_13 : decode cX2_init 13 = .ok (.getfield 9, 3) := by decide +kernel
theorem dX2_init_16 : decode cX2_init 16 = .ok (.iconst 0, 1) := by decide +kernel
theorem dX2_init_17 : decode cX2_init 17 = .ok (.iload_n 1, 1) := by decide +kernel
theorem dX2_init_18 : decode cX2_init 18 = .ok (.iastore, 1) := by decide +kernel
theorem dX2_init_19 : decode cX2_init 19 = .ok (.aload_n 0, 1) := by decide +kernel
theorem dX2_init_20 : decode cX2_init 20 = .ok (.iconst 1, 1) := by decide +kernel
theorem dX2_init_21 : decode cX2_init 21 = .ok (.putfield 15, 3) := by decide +kernel
theorem dX2_init_24 : decode cX2_init 24 = .ok (.aload_n 0, 1) := by decide +kernel
theorem dX2_init_25 : decode cX2_init 25 = .ok (.iload_n 2, 1) := by decide +kernel
theorem dX2_init_26 : decode cX2_init 26 = .ok (.putfield 19, 3) := by decide +kernel
theorem dX2_init_29 : decode cX2_init 29 = .ok (.aload_n 0, 1) := by decide +kernel
theorem dX2_init_30 : decode cX2_init 30 = .ok (.iload_n 3, 1) := by decide +kernel
theorem dX2_init_31 : decode cX2_init 31 = .ok (.putfield 22, 3) := by decide +kernel
theorem dX2_init_34 : decode cX2_init 34 = .ok (.return_, 1) := by decide +kernel
theorem dX2_homeAt_0 : decode cX2_homeAt 0 = .ok (.iload_n 1, 1) := by decide +kernel
theorem dX2_homeAt_1 : decode cX2_homeAt 1 = .ok (.ifCond .lt 36, 3) := by decide +kernel
theorem dX2_homeAt_4 : decode cX2_homeAt 4 = .ok (.iload_n 1, 1) := by decide +kernel
theorem dX2_homeAt_5 : decode cX2_homeAt 5 = .ok (.aload_n 0, 1) := by decide +kernel
theorem dX2_homeAt_6 : decode cX2_homeAt 6 = .ok (.getfield 15, 3) := by decide +kernel
theorem dX2_homeAt_9 : decode cX2_homeAt 9 = .ok (.if_icmp .ge 28, 3) := by decide +kernel
theorem dX2_homeAt_12 : decode cX2_homeAt 12 = .ok (.aload_n 0, 1) := by decide +kernel
theorem dX2_homeAt_13 : decode cX2_homeAt 13 = .ok (.getfield 15, 3) := by decide +kernel
theorem dX2_homeAt_16 : decode cX2_homeAt 16 = .ok (.bipush 10, 2) := by decide +kernel
theorem dX2_homeAt_18 : decode cX2_homeAt 18 = .ok (.if_icmp .gt 19, 3) := by decide +kernel
theorem dX2_homeAt_21 : decode cX2_homeAt 21 = .ok (.aload_n 0, 1) := by decide +kernel
theorem dX2_homeAt_22 : decode cX2_homeAt 22 = .ok (.getfield 9, 3) := by decide +kernel
theorem dX2_homeAt_25 : decode cX2_homeAt 25 = .ok (.aload_n 0, 1) := by decide +kernel
theorem dX2_homeAt_26 : decode cX2_homeAt 26 = .ok (.getfield 15, 3) := by decide +kernel
theorem dX2_homeAt_29 : decode cX2_homeAt 29 = .ok (.iconst 1, 1) := by decide +kernel
theorem dX2_homeAt_30 : decode cX2_homeAt 30 = .ok (.isub, 1) := by decide +kernel
theorem dX2_homeAt_31 : decode cX2_homeAt 31 = .ok (.iload_n 1, 1) := by decide +kernel
theorem dX2_homeAt_32 : decode cX2_homeAt 32 = .ok (.isub, 1) := by decide +kernel
theorem dX2_homeAt_33 : decode cX2_homeAt 33 = .ok (.iaload, 1) := by decide +kernel
theorem dX2_homeAt_34 : decode cX2_homeAt 34 = .ok (.goto 4, 3) := by decide +kernel
theorem dX2_homeAt_37 : decode cX2_homeAt 37 = .ok (.iconst (-1), 1) := by decide +kernel
theorem dX2_homeAt_38 : decode cX2_homeAt 38 = .ok (.ireturn, 1) := by decide +kernel
theorem dX2_moveTo_0 : decode cX2_moveTo 0 = .ok (.aload_n 0, 1) := by decide +kernel
theorem dX2_moveTo_1 : decode cX2_moveTo 1 = .ok (.getfield 15, 3) := by decide +kernel
theorem dX2_moveTo_4 : decode cX2_moveTo 4 = .ok (.ifCond .lt 12, 3) := by decide +kernel
theorem dX2_moveTo_7 : decode cX2_moveTo 7 = .ok (.aload_n 0, 1) := by decide +kernel
theorem dX2_moveTo_8 : decode cX2_moveTo 8 = .ok (.getfield 15, 3) := by decide +kernel
theorem dX2_moveTo_11 : decode cX2_moveTo 11 = .ok (.bipush 10, 2) := by decide +kernel
theorem dX2_moveTo_13 : decode cX2_moveTo 13 = .ok (.if_icmp .lt 5, 3) := by decide +kernel
theorem dX2_moveTo_16 : decode cX2_moveTo 16 = .ok (.iconst 0, 1) := by decide +kernel
theorem dX2_moveTo_17 : decode cX2_moveTo 17 = .ok (.ireturn, 1) := by decide +kernel
theorem dX2_moveTo_18 : decode cX2_moveTo 18 = .ok (.aload_n 0, 1) := by decide +kernel
theorem dX2_moveTo_19 : decode cX2_moveTo 19 = .ok (.getfield 9, 3) := by decide +kernel
theorem dX2_moveTo_22 : decode cX2_moveTo 22 = .ok (.aload_n 0, 1) := by decide +kernel
theorem dX2_moveTo_23 : decode cX2_moveTo 23 = .ok (.getfield 15, 3) := by decide +kernel
theorem dX2_moveTo_26 : decode cX2_moveTo 26 = .ok (.iload_n 1, 1) := by decide +kernel
theorem dX2_moveTo_27 : decode cX2_moveTo 27 = .ok (.iastore, 1) := by decide +kernel
theorem dX2_moveTo_28 : decode cX2_moveTo 28 = .ok (.aload_n 0, 1) := by decide +kernel
theorem dX2_moveTo_29 : decode cX2_moveTo 29 = .ok (.dup, 1) := by decide +kernel
theorem dX2_moveTo_30 : decode cX2_moveTo 30 = .ok (.getfield 15, 3) := by decide +kernel
theorem dX2_moveTo_33 : decode cX2_moveTo 33 = .ok (.iconst 1, 1) := by decide +kernel
theorem dX2_moveTo_34 : decode cX2_moveTo 34 = .ok (.iadd, 1) := by decide +kernel
theorem dX2_moveTo_35 : decode cX2_moveTo 35 = .ok (.putfield 15, 3) := by decide +kernel
theorem dX2_moveTo_38 : decode cX2_moveTo 38 = .ok (.iconst 1, 1) := by decide +kernel
theorem dX2_moveTo_39 : decode cX2_moveTo 39 = .ok (.ireturn, 1) := by decide +kernel
theorem dX2_pay_0 : decode cX2_pay 0 = .ok (.aload_n 0, 1) := by decide +kernel
theorem dX2_pay_1 : decode cX2_pay 1 = .ok (.getfield 22, 3) := by decide +kernel
theorem dX2_pay_4 : decode cX2_pay 4 = .ok (.iload_n 1, 1) := by decide +kernel
theorem dX2_pay_5 : decode cX2_pay 5 = .ok (.if_icmp .lt 15, 3) := by decide +kernel
theorem dX2_pay_8 : decode cX2_pay 8 = .ok (.aload_n 0, 1) := by decide +kernel
theorem dX2_pay_9 : decode cX2_pay 9 = .ok (.dup, 1) := by decide +kernel
theorem dX2_pay_10 : decode cX2_pay 10 = .ok (.getfield 22, 3) := by decide +kernel
theorem dX2_pay_13 : decode cX2_pay 13 = .ok (.iload_n 1, 1) := by decide +kernel
theorem dX2_pay_14 : decode cX2_pay 14 = .ok (.isub, 1) := by decide +kernel
theorem dX2_pay_15 : decode cX2_pay 15 = .ok (.putfield 22, 3) := by decide +kernel
theorem dX2_pay_18 : decode cX2_pay 18 = .ok (.iconst 1, 1) := by decide +kernel
theorem dX2_pay_19 : decode cX2_pay 19 = .ok (.ireturn, 1) := by decide +kernel
theorem dX2_pay_20 : decode cX2_pay 20 = .ok (.aload_n 0, 1) := by decide +kernel
theorem dX2_pay_21 : decode cX2_pay 21 = .ok (.getfield 19, 3) := by decide +kernel
theorem dX2_pay_24 : decode cX2_pay 24 = .ok (.iload_n 2, 1) := by decide +kernel
theorem dX2_pay_25 : decode cX2_pay 25 = .ok (.if_icmp .lt 15, 3) := by decide +kernel
theorem dX2_pay_28 : decode cX2_pay 28 = .ok (.aload_n 0, 1) := by decide +kernel
theorem dX2_pay_29 : decode cX2_pay 29 = .ok (.dup, 1) := by decide +kernel
theorem dX2_pay_30 : decode cX2_pay 30 = .ok (.getfield 19, 3) := by decide +kernel
theorem dX2_pay_33 : decode cX2_pay 33 = .ok (.iload_n 2, 1) := by decide +kernel
theorem dX2_pay_34 : decode cX2_pay 34 = .ok (.isub, 1) := by decide +kernel
theorem dX2_pay_35 : decode cX2_pay 35 = .ok (.putfield 19, 3) := by decide +kernel
theorem dX2_pay_38 : decode cX2_pay 38 = .ok (.iconst 1, 1) := by decide +kernel
theorem dX2_pay_39 : decode cX2_pay 39 = .ok (.ireturn, 1) := by decide +kernel
theorem dX2_pay_40 : decode cX2_pay 40 = .ok (.iconst 0, 1) := by decide +kernel
theorem dX2_pay_41 : decode cX2_pay 41 = .ok (.ireturn, 1) := by decide +kernel
theorem dX3_init_0 : decode cX3_init 0 = .ok (.aload_n 0, 1) := by decide +kernel
theorem dX3_init_1 : decode cX3_init 1 = .ok (.invokespecial 3, 3) := by decide +kernel
theorem dX3_init_4 : decode cX3_init 4 = .ok (.aload_n 0, 1) := by decide +kernel
theorem dX3_init_5 : decode cX3_init 5 = .ok (.new 9, 3) := by decide +kernel
theorem dX3_init_8 : decode cX3_init 8 = .ok (.dup, 1) := by decide +kernel
theorem dX3_init_9 : decode cX3_init 9 = .ok (.invokespecial 11, 3) := by decide +kernel
theorem dX3_init_12 : decode cX3_init 12 = .ok (.putfield 12, 3) := by decide +kernel
theorem dX3_init_15 : decode cX3_init 15 = .ok (.aload_n 0, 1) := by decide +kernel
theorem dX3_init_16 : decode cX3_init 16 = .ok (.bipush 25, 2) := by decide +kernel
theorem dX3_init_18 : decode cX3_init 18 = .ok (.newarray .long, 2) := by decide +kernel
theorem dX3_init_20 : decode cX3_init 20 = .ok (.putfield 18, 3) := by decide +kernel
theorem dX3_init_23 : decode cX3_init 23 = .ok (.aload_n 0, 1) := by decide +kernel
theorem dX3_init_24 : decode cX3_init 24 = .ok (.iconst 0, 1) := by decide +kernel
theorem dX3_init_25 : decode cX3_init 25 = .ok (.putfield 22, 3) := by decide +kernel
theorem dX3_init_28 : decode cX3_init 28 = .ok (.aload_n 0, 1) := by decide +kernel
theorem dX3_init_29 : decode cX3_init 29 = .ok (.aload_n 1, 1) := by decide +kernel
theorem dX3_init_30 : decode cX3_init 30 = .ok (.putfield 26, 3) := by decide +kernel
theorem dX3_init_33 : decode cX3_init 33 = .ok (.aload_n 0, 1) := by decide +kernel
theorem dX3_init_34 : decode cX3_init 34 = .ok (.aload_n 2, 1) := by decide +kernel
theorem dX3_init_35 : decode cX3_init 35 = .ok (.putfield 30, 3) := by decide +kernel
theorem dX3_init_38 : decode cX3_init 38 = .ok (.aload_n 0, 1) := by decide +kernel
theorem dX3_init_39 : decode cX3_init 39 = .ok (.iload_n 3, 1) := by decide +kernel
theorem dX3_init_40 : decode cX3_init 40 = .ok (.putfield 33, 3) := by decide +kernel
theorem dX3_init_43 : decode cX3_init 43 = .ok (.aload_n 0, 1) := by decide +kernel
theorem dX3_init_44 : decode cX3_init 44 = .ok (.iload 4, 2) := by decide +kernel
theorem dX3_init_46 : decode cX3_init 46 = .ok (.putfield 36, 3) := by decide +kernel
theorem dX3_init_49 : decode cX3_init 49 = .ok (.return_, 1) := by decide +kernel
theorem dX3_isStepDue_0 : decode cX3_isStepDue 0 = .ok (.aload_n 0, 1) := by decide +kernel
theorem dX3_isStepDue_1 : decode cX3_isStepDue 1 = .ok (.getfield 33, 3) := by decide +kernel
theorem dX3_isStepDue_4 : decode cX3_isStepDue 4 = .ok (.ifCond .le 19, 3) := by decide +kernel
theorem dX3_isStepDue_7 : decode cX3_isStepDue 7 = .ok (.aload_n 0, 1) := by decide +kernel
theorem dX3_isStepDue_8 : decode cX3_isStepDue 8 = .ok (.getfield 39, 3) := by decide +kernel
theorem dX3_isStepDue_11 : decode cX3_isStepDue 11 = .ok (.aload_n 0, 1) := by decide +kernel
theorem dX3_isStepDue_12 : decode cX3_isStepDue 12 = .ok (.getfield 33, 3) := by decide +kernel
theorem dX3_isStepDue_15 : decode cX3_isStepDue 15 = .ok (.irem, 1) := by decide +kernel
theorem dX3_isStepDue_16 : decode cX3_isStepDue 16 = .ok (.ifCond .ne 7, 3) := by decide +kernel
theorem dX3_isStepDue_19 : decode cX3_isStepDue 19 = .ok (.iconst 1, 1) := by decide +kernel
theorem dX3_isStepDue_20 : decode cX3_isStepDue 20 = .ok (.goto 4, 3) := by decide +kernel
theorem dX3_isStepDue_23 : decode cX3_isStepDue 23 = .ok (.iconst 0, 1) := by decide +kernel
theorem dX3_isStepDue_24 : decode cX3_isStepDue 24 = .ok (.ireturn, 1) := by decide +kernel
theorem dX3_addCharge_0 : decode cX3_addCharge 0 = .ok (.iload_n 1, 1) := by decide +kernel
theorem dX3_addCharge_1 : decode cX3_addCharge 1 = .ok (.ifCond .lt 20, 3) := by decide +kernel
theorem dX3_addCharge_4 : decode cX3_addCharge 4 = .ok (.iload_n 1, 1) := by decide +kernel
theorem dX3_addCharge_5 : decode cX3_addCharge 5 = .ok (.bipush 25, 2) := by decide +kernel
theorem dX3_addCharge_7 : decode cX3_addCharge 7 = .ok (.if_icmp .ge 14, 3) := by decide +kernel
theorem dX3_addCharge_10 : decode cX3_addCharge 10 = .ok (.aload_n 0, 1) := by decide +kernel
theorem dX3_addCharge_11 : decode cX3_addCharge 11 = .ok (.getfield 18, 3) := by decide +kernel
theorem dX3_addCharge_14 : decode cX3_addCharge 14 = .ok (.iload_n 1, 1) := by decide +kernel
theorem dX3_addCharge_15 : decode cX3_addCharge 15 = .ok (.dup2, 1) := by decide +kernel
theorem dX3_addCharge_16 : decode cX3_addCharge 16 = .ok (.laload, 1) := by decide +kernel
theorem dX3_addCharge_17 : decode cX3_addCharge 17 = .ok (.iload_n 2, 1) := by decide +kernel
theorem dX3_addCharge_18 : decode cX3_addCharge 18 = .ok (.i2l, 1) := by decide +kernel
theorem dX3_addCharge_19 : decode cX3_addCharge 19 = .ok (.ladd, 1) := by decide +kernel
theorem dX3_addCharge_20 : decode cX3_addCharge 20 = .ok (.lastore, 1) := by decide +kernel
theorem dX3_addCharge_21 : decode cX3_addCharge 21 = .ok (.return_, 1) := by decide +kernel
theorem dX3_chargeOf_0 : decode cX3_chargeOf 0 = .ok (.iload_n 1, 1) := by decide +kernel
theorem dX3_chargeOf_1 : decode cX3_chargeOf 1 = .ok (.ifCond .lt 18, 3) := by decide +kernel
theorem dX3_chargeOf_4 : decode cX3_chargeOf 4 = .ok (.iload_n 1, 1) := by decide +kernel
theorem dX3_chargeOf_5 : decode cX3_chargeOf 5 = .ok (.bipush 25, 2) := by decide +kernel
theorem dX3_chargeOf_7 : decode cX3_chargeOf 7 = .ok (.if_icmp .ge 12, 3) := by decide +kernel
theorem dX3_chargeOf_10 : decode cX3_chargeOf 10 = .ok (.aload_n 0, 1) := by decide +kernel
theorem dX3_chargeOf_11 : decode cX3_chargeOf 11 = .ok (.getfield 18, 3) := by decide +kernel
theorem dX3_chargeOf_14 : decode cX3_chargeOf 14 = .ok (.iload_n 1, 1) := by decide +kernel
theorem dX3_chargeOf_15 : decode cX3_chargeOf 15 = .ok (.laload, 1) := by decide +kernel
theorem dX3_chargeOf_16 : decode cX3_chargeOf 16 = .ok (.goto 4, 3) := by decide +kernel
theorem dX3_chargeOf_19 : decode cX3_chargeOf 19 = .ok (.lconst 0, 1) := by decide +kernel
theorem dX3_chargeOf_20 : decode cX3_chargeOf 20 = .ok (.lreturn, 1) := by decide +kernel
theorem dJ9_min_7cf53_0 : decode cJ9_min_7cf53 0 = .ok (.iload_n 0, 1) := by decide +kernel
theorem dJ9_min_7cf53_1 : decode cJ9_min_7cf53 1 = .ok (.iload_n 1, 1) := by decide +kernel
theorem dJ9_min_7cf53_2 : decode cJ9_min_7cf53 2 = .ok (.if_icmp .gt 7, 3) := by decide +kernel
theorem dJ9_min_7cf53_5 : decode cJ9_min_7cf53 5 = .ok (.iload_n 0, 1) := by decide +kernel
theorem dJ9_min_7cf53_6 : decode cJ9_min_7cf53 6 = .ok (.goto 4, 3) := by decide +kernel
theorem dJ9_min_7cf53_9 : decode cJ9_min_7cf53 9 = .ok (.iload_n 1, 1) := by decide +kernel
theorem dJ9_min_7cf53_10 : decode cJ9_min_7cf53 10 = .ok (.ireturn, 1) := by decide +kernel
theorem dJ7_fill_53178_0 : decode cJ7_fill_53178 0 = .ok (.iconst 0, 1) := by decide +kernel
theorem dJ7_fill_53178_1 : decode cJ7_fill_53178 1 = .ok (.istore_n 2, 1) := by decide +kernel
theorem dJ7_fill_53178_2 : decode cJ7_fill_53178 2 = .ok (.aload_n 0, 1) := by decide +kernel
theorem dJ7_fill_53178_3 : decode cJ7_fill_53178 3 = .ok (.arraylength, 1) := by decide +kernel
theorem dJ7_fill_53178_4 : decode cJ7_fill_53178 4 = .ok (.istore_n 3, 1) := by decide +kernel
theorem dJ7_fill_53178_5 : decode cJ7_fill_53178 5 = .ok (.iload_n 2, 1) := by decide +kernel
theorem dJ7_fill_53178_6 : decode cJ7_fill_53178 6 = .ok (.iload_n 3, 1) := by decide +kernel
theorem dJ7_fill_53178_7 : decode cJ7_fill_53178 7 = .ok (.if_icmp .ge 13, 3) := by decide +kernel
theorem dJ7_fill_53178_10 : decode cJ7_fill_53178 10 = .ok (.aload_n 0, 1) := by decide +kernel
theorem dJ7_fill_53178_11 : decode cJ7_fill_53178 11 = .ok (.iload_n 2, 1) := by decide +kernel
theorem dJ7_fill_53178_12 : decode cJ7_fill_53178 12 = .ok (.iload_n 1, 1) := by decide +kernel
theorem dJ7_fill_53178_13 : decode cJ7_fill_53178 13 = .ok (.iastore, 1) := by decide +kernel
theorem dJ7_fill_53178_14 : decode cJ7_fill_53178 14 = .ok (.iinc 2 1, 3) := by decide +kernel
theorem dJ7_fill_53178_17 : decode cJ7_fill_53178 17 = .ok (.goto (-12), 3) := by decide +kernel
theorem dJ7_fill_53178_20 : decode cJ7_fill_53178 20 = .ok (.return_, 1) := by decide +kernel
end
section
theorem dX4_init_0 : decode cX4_init 0 = .ok (.aload_n 0, 1) := by decide +kernel
theorem dX4_init_1 : decode cX4_init 1 = .ok (.invokespecial 3, 3) := by decide +kernel
theorem dX4_init_4 : decode cX4_init 4 = .ok (.aload_n 0, 1) := by decide +kernel
theorem dX4_init_5 : decode cX4_init 5 = .ok (.iconst 5, 1) := by decide +kernel
theorem dX4_init_6 : decode cX4_init 6 = .ok (.newarray .int, 2) := by decide +kernel
theorem dX4_init_8 : decode cX4_init 8 = .ok (.putfield 9, 3) := by decide +kernel
theorem dX4_init_11 : decode cX4_init 11 = .ok (.aload_n 0, 1) := by decide +kernel
theorem dX4_init_12 : decode cX4_init 12 = .ok (.iconst 5, 1) := by decide +kernel
theorem dX4_init_13 : decode cX4_init 13 = .ok (.newarray .int, 2) := by decide +kernel
theorem dX4_init_15 : decode cX4_init 15 = .ok (.putfield 13, 3) := by decide +kernel
theorem dX4_init_18 : decode cX4_init 18 = .ok (.aload_n 0, 1) := by decide +kernel
theorem dX4_init_19 : decode cX4_init 19 = .ok (.new 16, 3) := by decide +kernel
theorem dX4_init_22 : decode cX4_init 22 = .ok (.dup, 1) := by decide +kernel
theorem dX4_init_23 : decode cX4_init 23 = .ok (.invokespecial 18, 3) := by decide +kernel
theorem dX4_init_26 : decode cX4_init 26 = .ok (.putfield 19, 3) := by decide +kernel
theorem dX4_init_29 : decode cX4_init 29 = .ok (.aload_n 0, 1) := by decide +kernel
theorem dX4_init_30 : decode cX4_init 30 = .ok (.bipush 20, 2) := by decide +kernel
theorem dX4_init_32 : decode cX4_init 32 = .ok (.anewarray 23, 3) := by decide +kernel
theorem dX4_init_35 : decode cX4_init 35 = .ok (.putfield 25, 3) := by decide +kernel
theorem dX4_init_38 : decode cX4_init 38 = .ok (.aload_n 0, 1) := by decide +kernel
theorem dX4_init_39 : decode cX4_init 39 = .ok (.bipush 60, 2) := by decide +kernel
theorem dX4_init_41 : decode cX4_init 41 = .ok (.anewarray 29, 3) := by decide +kernel
theorem dX4_init_44 : decode cX4_init 44 = .ok (.putfield 31, 3) := by decide +kernel
theorem dX4_init_47 : decode cX4_init 47 = .ok (.aload_n 0, 1) := by decide +kernel
theorem dX4_init_48 : decode cX4_init 48 = .ok (.new 35, 3) := by decide +kernel
theorem dX4_init_51 : decode cX4_init 51 = .ok (.dup, 1) := by decide +kernel
theorem dX4_init_52 : decode cX4_init 52 = .ok (.invokespecial 37, 3) := by decide +kernel
theorem dX4_init_55 : decode cX4_init 55 = .ok (.putfield 38, 3) := by decide +kernel
theorem dX4_init_58 : decode cX4_init 58 = .ok (.aload_n 0, 1) := by decide +kernel
theorem dX4_init_59 : decode cX4_init 59 = .ok (.getfield 9, 3) := by decide +kernel
theorem dX4_init_62 : decode cX4_init 62 = .ok (.iconst 1, 1) := by decide +kernel
theorem dX4_init_63 : decode cX4_init 63 = .ok (.invokestatic 42, 3) := by decide +kernel
theorem dX4_init_66 : decode cX4_init 66 = .ok (.aload_n 0, 1) := by decide +kernel
theorem dX4_init_67 : decode cX4_init 67 = .ok (.getfield 13, 3) := by decide +kernel
theorem dX4_init_70 : decode cX4_init 70 = .ok (.bipush 10, 2) := by decide +kernel
theorem dX4_init_72 : decode cX4_init 72 = .ok (.invokestatic 42, 3) := by decide +kernel
theorem dX4_init_75 : decode cX4_init 75 = .ok (.return_, 1) := by decide +kernel
theorem dX4_tariff_0 : decode cX4_tariff 0 = .ok (.iload_n 1, 1) := by decide +kernel
theorem dX4_tariff_1 : decode cX4_tariff 1 = .ok (.invokestatic 48, 3) := by decide +kernel
theorem dX4_tariff_4 : decode cX4_tariff 4 = .ok (.iload_n 2, 1) := by decide +kernel
theorem dX4_tariff_5 : decode cX4_tariff 5 = .ok (.iconst 1, 1) := by decide +kernel
theorem dX4_tariff_6 : decode cX4_tariff 6 = .ok (.bipush 10, 2) := by decide +kernel
theorem dX4_tariff_8 : decode cX4_tariff 8 = .ok (.invokestatic 52, 3) := by decide +kernel
theorem dX4_tariff_11 : decode cX4_tariff 11 = .ok (.ifCond .eq 14, 3) := by decide +kernel
theorem dX4_tariff_14 : decode cX4_tariff 14 = .ok (.iload_n 3, 1) := by decide +kernel
theorem dX4_tariff_15 : decode cX4_tariff 15 = .ok (.iconst 0, 1) := by decide +kernel
theorem dX4_tariff_16 : decode cX4_tariff 16 = .ok (.sipush 1000, 3) := by decide +kernel
theorem dX4_tariff_19 : decode cX4_tariff 19 = .ok (.invokestatic 52, 3) := by decide +kernel
theorem dX4_tariff_22 : decode cX4_tariff 22 = .ok (.ifCond .ne 13, 3) := by decide +kernel
theorem dX4_tariff_25 : decode cX4_tariff 25 = .ok (.new 56, 3) := by decide +kernel
theorem dX4_tariff_28 : decode cX4_tariff 28 = .ok (.dup, 1) := by decide +kernel
theorem dX4_tariff_29 : decode cX4_tariff 29 = .ok (.ldc 58, 2) := by decide +kernel
theorem dX4_tariff_31 : decode cX4_tariff 31 = .ok (.invokespecial 60, 3) := by decide +kernel
theorem dX4_tariff_34 : decode cX4_tariff 34 = .ok (.athrow, 1) := by decide +kernel
theorem dX4_tariff_35 : decode cX4_tariff 35 = .ok (.aload_n 0, 1) := by decide +kernel
theorem dX4_tariff_36 : decode cX4_tariff 36 = .ok (.getfield 13, 3) := by decide +kernel
theorem dX4_tariff_39 : decode cX4_tariff 39 = .ok (.iload_n 1, 1) := by decide +kernel
theorem dX4_tariff_40 : decode cX4_tariff 40 = .ok (.iaload, 1) := by decide +kernel
theorem dX4_tariff_41 : decode cX4_tariff 41 = .ok (.istore 4, 2) := by decide +kernel
theorem dX4_tariff_43 : decode cX4_tariff 43 = .ok (.aload_n 0, 1) := by decide +kernel
theorem dX4_tariff_44 : decode cX4_tariff 44 = .ok (.getfield 9, 3) := by decide +kernel
theorem dX4_tariff_47 : decode cX4_tariff 47 = .ok (.iload_n 1, 1) := by decide +kernel
theorem dX4_tariff_48 : decode cX4_tariff 48 = .ok (.iload_n 2, 1) := by decide +kernel
theorem dX4_tariff_49 : decode cX4_tariff 49 = .ok (.iastore, 1) := by decide +kernel
theorem dX4_tariff_50 : decode cX4_tariff 50 = .ok (.aload_n 0, 1) := by decide +kernel
theorem dX4_tariff_51 : decode cX4_tariff 51 = .ok (.getfield 13, 3) := by decide +kernel
theorem dX4_tariff_54 : decode cX4_tariff 54 = .ok (.iload_n 1, 1) := by decide +kernel
theorem dX4_tariff_55 : decode cX4_tariff 55 = .ok (.iload_n 3, 1) := by decide +kernel
theorem dX4_tariff_56 : decode cX4_tariff 56 = .ok (.iastore, 1) := by decide +kernel
theorem dX4_tariff_57 : decode cX4_tariff 57 = .ok (.iload 4, 2) := by decide +kernel
theorem dX4_tariff_59 : decode cX4_tariff 59 = .ok (.ireturn, 1) := by decide +kernel
theorem dX4_link_0 : decode cX4_link 0 = .ok (.iload_n 1, 1) := by decide +kernel
theorem dX4_link_1 : decode cX4_link 1 = .ok (.invokestatic 48, 3) := by decide +kernel
theorem dX4_link_4 : decode cX4_link 4 = .ok (.iload_n 2, 1) := by decide +kernel
theorem dX4_link_5 : decode cX4_link 5 = .ok (.invokestatic 48, 3) := by decide +kernel
theorem dX4_link_8 : decode cX4_link 8 = .ok (.iload_n 1, 1) := by decide +kernel
theorem dX4_link_9 : decode cX4_link 9 = .ok (.iload_n 2, 1) := by decide +kernel
theorem dX4_link_10 : decode cX4_link 10 = .ok (.if_icmp .eq 24, 3) := by decide +kernel
theorem dX4_link_13 : decode cX4_link 13 = .ok (.iload_n 3, 1) := by decide +kernel
theorem dX4_link_14 : decode cX4_link 14 = .ok (.iconst 0, 1) := by decide +kernel
theorem dX4_link_15 : decode cX4_link 15 = .ok (.bipush 100, 2) := by decide +kernel
theorem dX4_link_17 : decode cX4_link 17 = .ok (.invokestatic 52, 3) := by decide +kernel
theorem dX4_link_20 : decode cX4_link 20 = .ok (.ifCond .eq 14, 3) := by decide +kernel
theorem dX4_link_23 : decode cX4_link 23 = .ok (.iload 4, 2) := by decide +kernel
theorem dX4_link_25 : decode cX4_link 25 = .ok (.iconst 0, 1) := by decide +kernel
theorem dX4_link_26 : decode cX4_link 26 = .ok (.ldc 63, 2) := by decide +kernel
theorem dX4_link_28 : decode cX4_link 28 = .ok (.invokestatic 52, 3) := by decide +kernel
theorem dX4_link_31 : decode cX4_link 31 = .ok (.ifCond .ne 13, 3) := by decide +kernel
theorem dX4_link_34 : decode cX4_link 34 = .ok (.new 56, 3) := by decide +kernel
theorem dX4_link_37 : decode cX4_link 37 = .ok (.dup, 1) := by decide +kernel
theorem dX4_link_38 : decode cX4_link 38 = .ok (.ldc 64, 2) := by decide +kernel
theorem dX4_link_40 : decode cX4_link 40 = .ok (.invokespecial 60, 3) := by decide +kernel
theorem dX4_link_43 : decode cX4_link 43 = .ok (.athrow, 1) := by decide +kernel
theorem dX4_link_44 : decode cX4_link 44 = .ok (.aload_n 0, 1) := by decide +kernel
theorem dX4_link_45 : decode cX4_link 45 = .ok (.getfield 19, 3) := by decide +kernel
theorem dX4_link_48 : decode cX4_link 48 = .ok (.iload_n 1, 1) := by decide +kernel
theorem dX4_link_49 : decode cX4_link 49 = .ok (.iload_n 2, 1) := by decide +kernel
theorem dX4_link_50 : decode cX4_link 50 = .ok (.invokevirtual 66, 3) := by decide +kernel
theorem dX4_link_53 : decode cX4_link 53 = .ok (.iconst (-1), 1) := by decide +kernel
theorem dX4_link_54 : decode cX4_link 54 = .ok (.if_icmp .eq 7, 3) := by decide +kernel
theorem dX4_link_57 : decode cX4_link 57 = .ok (.iconst 1, 1) := by decide +kernel
theorem dX4_link_58 : decode cX4_link 58 = .ok (.goto 4, 3) := by decide +kernel
theorem dX4_link_61 : decode cX4_link 61 = .ok (.iconst 0, 1) := by decide +kernel
theorem dX4_link_62 : decode cX4_link 62 = .ok (.istore 5, 2) := by decide +kernel
theorem dX4_link_64 : decode cX4_link 64 = .ok (.aload_n 0, 1) := by decide +kernel
theorem dX4_link_65 : decode cX4_link 65 = .ok (.getfield 19, 3) := by decide +kernel
theorem dX4_link_68 : decode cX4_link 68 = .ok (.iload_n 1, 1) := by decide +kernel
theorem dX4_link_69 : decode cX4_link 69 = .ok (.iload_n 2, 1) := by decide +kernel
theorem dX4_link_70 : decode cX4_link 70 = .ok (.iload_n 3, 1) := by decide +kernel
theorem dX4_link_71 : decode cX4_link 71 = .ok (.iload 4, 2) := by decide +kernel
theorem dX4_link_73 : decode cX4_link 73 = .ok (.invokevirtual 70, 3) := by decide +kernel
theorem dX4_link_76 : decode cX4_link 76 = .ok (.iload 5, 2) := by decide +kernel
theorem dX4_link_78 : decode cX4_link 78 = .ok (.ireturn, 1) := by decide +kernel
theorem dX4_unlink_0 : decode cX4_unlink 0 = .ok (.iload_n 1, 1) := by decide +kernel
theorem dX4_unlink_1 : decode cX4_unlink 1 = .ok (.invokestatic 48, 3) := by decide +kernel
theorem dX4_unlink_4 : decode cX4_unlink 4 = .ok (.iload_n 2, 1) := by decide +kernel
theorem dX4_unlink_5 : decode cX4_unlink 5 = .ok (.invokestatic 48, 3) := by decide +kernel
theorem dX4_unlink_8 : decode cX4_unlink 8 = .ok (.aload_n 0, 1) := by decide +kernel
theorem dX4_unlink_9 : decode cX4_unlink 9 = .ok (.getfield 19, 3) := by decide +kernel
theorem dX4_unlink_12 : decode cX4_unlink 12 = .ok (.iload_n 1, 1) := by decide +kernel
theorem dX4_unlink_13 : decode cX4_unlink 13 = .ok (.iload_n 2, 1) := by decide +kernel
theorem dX4_unlink_14 : decode cX4_unlink 14 = .ok (.invokevirtual 66, 3) := by decide +kernel
theorem dX4_unlink_17 : decode cX4_unlink 17 = .ok (.istore_n 3, 1) := by decide +kernel
theorem dX4_unlink_18 : decode cX4_unlink 18 = .ok (.iload_n 3, 1) := by decide +kernel
theorem dX4_unlink_19 : decode cX4_unlink 19 = .ok (.iconst (-1), 1) := by decide +kernel
theorem dX4_unlink_20 : decode cX4_unlink 20 = .ok (.if_icmp .ne 13, 3) := by decide +kernel
theorem dX4_unlink_23 : decode cX4_unlink 23 = .ok (.new 74, 3) := by decide +kernel
theorem dX4_unlink_26 : decode cX4_unlink 26 = .ok (.dup, 1) := by decide +kernel
theorem dX4_unlink_27 : decode cX4_unlink 27 = .ok (.ldc 76, 2) := by decide +kernel
theorem dX4_unlink_29 : decode cX4_unlink 29 = .ok (.invokespecial 78, 3) := by decide +kernel
theorem dX4_unlink_32 : decode cX4_unlink 32 = .ok (.athrow, 1) := by decide +kernel
theorem dX4_unlink_33 : decode cX4_unlink 33 = .ok (.aload_n 0, 1) := by decide +kernel
theorem dX4_unlink_34 : decode cX4_unlink 34 = .ok (.getfield 19, 3) := by decide +kernel
theorem dX4_unlink_37 : decode cX4_unlink 37 = .ok (.iload_n 1, 1) := by decide +kernel
theorem dX4_unlink_38 : decode cX4_unlink 38 = .ok (.iload_n 2, 1) := by decide +kernel
theorem dX4_unlink_39 : decode cX4_unlink 39 = .ok (.iconst (-1), 1) := by decide +kernel
theorem dX4_unlink_40 : decode cX4_unlink 40 = .ok (.iconst 0, 1) := by decide +kernel
theorem dX4_unlink_41 : decode cX4_unlink 41 = .ok (.invokevirtual 70, 3) := by decide +kernel
theorem dX4_unlink_44 : decode cX4_unlink 44 = .ok (.iload_n 3, 1) := by decide +kernel
theorem dX4_unlink_45 : decode cX4_unlink 45 = .ok (.ireturn, 1) := by decide +kernel
theorem dX4_number_0 : decode cX4_number 0 = .ok (.iload_n 1, 1) := by decide +kernel
theorem dX4_number_1 : decode cX4_number 1 = .ok (.invokestatic 48, 3) := by decide +kernel
theorem dX4_number_4 : decode cX4_number 4 = .ok (.iload_n 2, 1) := by decide +kernel
theorem dX4_number_5 : decode cX4_number 5 = .ok (.iload_n 3, 1) := by decide +kernel
theorem dX4_number_6 : decode cX4_number 6 = .ok (.invokestatic 79, 3) := by decide +kernel
theorem dX4_number_9 : decode cX4_number 9 = .ok (.aload_n 0, 1) := by decide +kernel
theorem dX4_number_10 : decode cX4_number 10 = .ok (.getfield 83, 3) := by decide +kernel
theorem dX4_number_13 : decode cX4_number 13 = .ok (.istore 4, 2) := by decide +kernel
theorem dX4_number_15 : decode cX4_number 15 = .ok (.iload 4, 2) := by decide +kernel
theorem dX4_number_17 : decode cX4_number 17 = .ok (.ifCond .lt 10, 3) := by decide +kernel
theorem dX4_number_20 : decode cX4_number 20 = .ok (.iload 4, 2) := by decide +kernel
theorem dX4_number_22 : decode cX4_number 22 = .ok (.bipush 20, 2) := by decide +kernel
theorem dX4_number_24 : decode cX4_number 24 = .ok (.if_icmp .lt 13, 3) := by decide +kernel
theorem dX4_number_27 : decode cX4_number 27 = .ok (.new 74, 3) := by decide +kernel
theorem dX4_number_30 : decode cX4_number 30 = .ok (.dup, 1) := by decide +kernel
theorem dX4_number_31 : decode cX4_number 31 = .ok (.ldc 87, 2) := by decide +kernel
theorem dX4_number_33 : decode cX4_number 33 = .ok (.invokespecial 78, 3) := by decide +kernel
theorem dX4_number_36 : decode cX4_number 36 = .ok (.athrow, 1) := by decide +kernel
theorem dX4_number_37 : decode cX4_number 37 = .ok (.aload_n 0, 1) := by decide +kernel
theorem dX4_number_38 : decode cX4_number 38 = .ok (.getfield 25, 3) := by decide +kernel
theorem dX4_number_41 : decode cX4_number 41 = .ok (.iload 4, 2) := by decide +kernel
theorem dX4_number_43 : decode cX4_number 43 = .ok (.new 23, 3) := by decide +kernel
theorem dX4_number_46 : decode cX4_number 46 = .ok (.dup, 1) := by decide +kernel
theorem dX4_number_47 : decode cX4_number 47 = .ok (.iload_n 1, 1) := by decide +kernel
theorem dX4_number_48 : decode cX4_number 48 = .ok (.iload_n 2, 1) := by decide +kernel
theorem dX4_number_49 : decode cX4_number 49 = .ok (.iload_n 3, 1) := by decide +kernel
theorem dX4_number_50 : decode cX4_number 50 = .ok (.invokespecial 89, 3) := by decide +kernel
theorem dX4_number_53 : decode cX4_number 53 = .ok (.aastore, 1) := by decide +kernel
theorem dX4_number_54 : decode cX4_number 54 = .ok (.aload_n 0, 1) := by decide +kernel
theorem dX4_number_55 : decode cX4_number 55 = .ok (.dup, 1) := by decide +kernel
theorem dX4_number_56 : decode cX4_number 56 = .ok (.getfield 83, 3) := by decide +kernel
theorem dX4_number_59 : decode cX4_number 59 = .ok (.iconst 1, 1) := by decide +kernel
theorem dX4_number_60 : decode cX4_number 60 = .ok (.iadd, 1) := by decide +kernel
theorem dX4_number_61 : decode cX4_number 61 = .ok (.putfield 83, 3) := by decide +kernel
theorem dX4_number_64 : decode cX4_number 64 = .ok (.iload 4, 2) := by decide +kernel
theorem dX4_number_66 : decode cX4_number 66 = .ok (.ireturn, 1) := by decide +kernel
theorem dX4_carryOver_0 : decode cX4_carryOver 0 = .ok (.aload_n 0, 1) := by decide +kernel
theorem dX4_carryOver_1 : decode cX4_carryOver 1 = .ok (.iload_n 1, 1) := by decide +kernel
theorem dX4_carryOver_2 : decode cX4_carryOver 2 = .ok (.invokevirtual 92, 3) := by decide +kernel
theorem dX4_carryOver_5 : decode cX4_carryOver 5 = .ok (.astore_n 3, 1) := by decide +kernel
theorem dX4_carryOver_6 : decode cX4_carryOver 6 = .ok (.iload_n 2, 1) := by decide +kernel
theorem dX4_carryOver_7 : decode cX4_carryOver 7 = .ok (.invokestatic 48, 3) := by decide +kernel
theorem dX4_carryOver_10 : decode cX4_carryOver 10 = .ok (.aload_n 3, 1) := by decide +kernel
theorem dX4_carryOver_11 : decode cX4_carryOver 11 = .ok (.iconst 0, 1) := by decide +kernel
theorem dX4_carryOver_12 : decode cX4_carryOver 12 = .ok (.invokevirtual 96, 3) := by decide +kernel
theorem dX4_carryOver_15 : decode cX4_carryOver 15 = .ok (.iload_n 2, 1) := by decide +kernel
theorem dX4_carryOver_16 : decode cX4_carryOver 16 = .ok (.if_icmp .ne 13, 3) := by decide +kernel
theorem dX4_carryOver_19 : decode cX4_carryOver 19 = .ok (.new 56, 3) := by decide +kernel
theorem dX4_carryOver_22 : decode cX4_carryOver 22 = .ok (.dup, 1) := by decide +kernel
theorem dX4_carryOver_23 : decode cX4_carryOver 23 = .ok (.ldc 100, 2) := by decide +kernel
theorem dX4_carryOver_25 : decode cX4_carryOver 25 = .ok (.invokespecial 60, 3) := by decide +kernel
theorem dX4_carryOver_28 : decode cX4_carryOver 28 = .ok (.athrow, 1) := by decide +kernel
theorem dX4_carryOver_29 : decode cX4_carryOver 29 = .ok (.aload_n 3, 1) := by decide +kernel
theorem dX4_carryOver_30 : decode cX4_carryOver 30 = .ok (.iload_n 2, 1) := by decide +kernel
theorem dX4_carryOver_31 : decode cX4_carryOver 31 = .ok (.invokevirtual 102, 3) := by decide +kernel
theorem dX4_carryOver_34 : decode cX4_carryOver 34 = .ok (.ifCond .ne 13, 3) := by decide +kernel
theorem dX4_carryOver_37 : decode cX4_carryOver 37 = .ok (.new 74, 3) := by decide +kernel
theorem dX4_carryOver_40 : decode cX4_carryOver 40 = .ok (.dup, 1) := by decide +kernel
theorem dX4_carryOver_41 : decode cX4_carryOver 41 = .ok (.ldc 106, 2) := by decide +kernel
theorem dX4_carryOver_43 : decode cX4_carryOver 43 = .ok (.invokespecial 78, 3) := by decide +kernel
theorem dX4_carryOver_46 : decode cX4_carryOver 46 = .ok (.athrow, 1) := by decide +kernel
theorem dX4_carryOver_47 : decode cX4_carryOver 47 = .ok (.aload_n 3, 1) := by decide +kernel
theorem dX4_carryOver_48 : decode cX4_carryOver 48 = .ok (.getfield 108, 3) := by decide +kernel
theorem dX4_carryOver_51 : decode cX4_carryOver 51 = .ok (.ireturn, 1) := by decide +kernel
theorem dX4_home_0 : decode cX4_home 0 = .ok (.aload_n 0, 1) := by decide +kernel
theorem dX4_home_1 : decode cX4_home 1 = .ok (.iload_n 1, 1) := by decide +kernel
theorem dX4_home_2 : decode cX4_home 2 = .ok (.invokevirtual 92, 3) := by decide +kernel
theorem dX4_home_5 : decode cX4_home 5 = .ok (.iload_n 2, 1) := by decide +kernel
theorem dX4_home_6 : decode cX4_home 6 = .ok (.invokevirtual 96, 3) := by decide +kernel
theorem dX4_home_9 : decode cX4_home 9 = .ok (.istore_n 3, 1) := by decide +kernel
theorem dX4_home_10 : decode cX4_home 10 = .ok (.iload_n 3, 1) := by decide +kernel
theorem dX4_home_11 : decode cX4_home 11 = .ok (.iconst (-1), 1) := by decide +kernel
theorem dX4_home_12 : decode cX4_home 12 = .ok (.if_icmp .ne 13, 3) := by decide +kernel
theorem dX4_home_15 : decode cX4_home 15 = .ok (.new 111, 3) := by decide +kernel
theorem dX4_home_18 : decode cX4_home 18 = .ok (.dup, 1) := by decide +kernel
theorem dX4_home_19 : decode cX4_home 19 = .ok (.ldc 113, 2) := by decide +kernel
theorem dX4_home_21 : decode cX4_home 21 = .ok (.invokespecial 115, 3) := by decide +kernel
theorem dX4_home_24 : decode cX4_home 24 = .ok (.athrow, 1) := by decide +kernel
theorem dX4_home_25 : decode cX4_home 25 = .ok (.iload_n 3, 1) := by decide +kernel
theorem dX4_home_26 : decode cX4_home 26 = .ok (.ireturn, 1) := by decide +kernel
theorem dX4_topUp_0 : decode cX4_topUp 0 = .ok (.aload_n 0, 1) := by decide +kernel
theorem dX4_topUp_1 : decode cX4_topUp 1 = .ok (.iload_n 1, 1) := by decide +kernel
theorem dX4_topUp_2 : decode cX4_topUp 2 = .ok (.invokevirtual 92, 3) := by decide +kernel
theorem dX4_topUp_5 : decode cX4_topUp 5 = .ok (.astore 4, 2) := by decide +kernel
theorem dX4_topUp_7 : decode cX4_topUp 7 = .ok (.iload_n 2, 1) := by decide +kernel
theorem dX4_topUp_8 : decode cX4_topUp 8 = .ok (.iload_n 3, 1) := by decide +kernel
theorem dX4_topUp_9 : decode cX4_topUp 9 = .ok (.invokestatic 79, 3) := by decide +kernel
theorem dX4_topUp_12 : decode cX4_topUp 12 = .ok (.aload 4, 2) := by decide +kernel
theorem dX4_topUp_14 : decode cX4_topUp 14 = .ok (.getfield 116, 3) := by decide +kernel
theorem dX4_topUp_17 : decode cX4_topUp 17 = .ok (.iload_n 2, 1) := by decide +kernel
theorem dX4_topUp_18 : decode cX4_topUp 18 = .ok (.iadd, 1) := by decide +kernel
theorem dX4_topUp_19 : decode cX4_topUp 19 = .ok (.istore 5, 2) := by decide +kernel
theorem dX4_topUp_21 : decode cX4_topUp 21 = .ok (.aload 4, 2) := by decide +kernel
theorem dX4_topUp_23 : decode cX4_topUp 23 = .ok (.getfield 119, 3) := by decide +kernel
theorem dX4_topUp_26 : decode cX4_topUp 26 = .ok (.iload_n 3, 1) := by decide +kernel
theorem dX4_topUp_27 : decode cX4_topUp 27 = .ok (.iadd, 1) := by decide +kernel
theorem dX4_topUp_28 : decode cX4_topUp 28 = .ok (.istore 6, 2) := by decide +kernel
theorem dX4_topUp_30 : decode cX4_topUp 30 = .ok (.iload 5, 2) := by decide +kernel
theorem dX4_topUp_32 : decode cX4_topUp 32 = .ok (.ldc 122, 2) := by decide +kernel
theorem dX4_topUp_34 : decode cX4_topUp 34 = .ok (.if_icmp .gt 10, 3) := by decide +kernel
theorem dX4_topUp_37 : decode cX4_topUp 37 = .ok (.iload 6, 2) := by decide +kernel
theorem dX4_topUp_39 : decode cX4_topUp 39 = .ok (.ldc 63, 2) := by decide +kernel
theorem dX4_topUp_41 : decode cX4_topUp 41 = .ok (.if_icmp .le 13, 3) := by decide +kernel
theorem dX4_topUp_44 : decode cX4_topUp 44 = .ok (.new 74, 3) := by decide +kernel
theorem dX4_topUp_47 : decode cX4_topUp 47 = .ok (.dup, 1) := by decide +kernel
theorem dX4_topUp_48 : decode cX4_topUp 48 = .ok (.ldc 123, 2) := by decide +kernel
theorem dX4_topUp_50 : decode cX4_topUp 50 = .ok (.invokespecial 78, 3) := by decide +kernel
theorem dX4_topUp_53 : decode cX4_topUp 53 = .ok (.athrow, 1) := by decide +kernel
theorem dX4_topUp_54 : decode cX4_topUp 54 = .ok (.aload 4, 2) := by decide +kernel
theorem dX4_topUp_56 : decode cX4_topUp 56 = .ok (.iload 5, 2) := by decide +kernel
theorem dX4_topUp_58 : decode cX4_topUp 58 = .ok (.putfield 116, 3) := by decide +kernel
theorem dX4_topUp_61 : decode cX4_topUp 61 = .ok (.aload 4, 2) := by decide +kernel
theorem dX4_topUp_63 : decode cX4_topUp 63 = .ok (.iload 6, 2) := by decide +kernel
theorem dX4_topUp_65 : decode cX4_topUp 65 = .ok (.putfield 119, 3) := by decide +kernel
theorem dX4_topUp_68 : decode cX4_topUp 68 = .ok (.iload 5, 2) := by decide +kernel
theorem dX4_topUp_70 : decode cX4_topUp 70 = .ok (.ireturn, 1) := by decide +kernel
theorem dX4_balance_0 : decode cX4_balance 0 = .ok (.aload_n 0, 1) := by decide +kernel
theorem dX4_balance_1 : decode cX4_balance 1 = .ok (.iload_n 1, 1) := by decide +kernel
theorem dX4_balance_2 : decode cX4_balance 2 = .ok (.invokevirtual 92, 3) := by decide +kernel
theorem dX4_balance_5 : decode cX4_balance 5 = .ok (.getfield 116, 3) := by decide +kernel
theorem dX4_balance_8 : decode cX4_balance 8 = .ok (.ireturn, 1) := by decide +kernel
theorem dX4_bundle_0 : decode cX4_bundle 0 = .ok (.aload_n 0, 1) := by decide +kernel
theorem dX4_bundle_1 : decode cX4_bundle 1 = .ok (.iload_n 1, 1) := by decide +kernel
theorem dX4_bundle_2 : decode cX4_bundle 2 = .ok (.invokevirtual 92, 3) := by decide +kernel
theorem dX4_bundle_5 : decode cX4_bundle 5 = .ok (.getfield 119, 3) := by decide +kernel
theorem dX4_bundle_8 : decode cX4_bundle 8 = .ok (.ireturn, 1) := by decide +kernel
theorem dX4_call_0 : decode cX4_call 0 = .ok (.aload_n 0, 1) := by decide +kernel
theorem dX4_call_1 : decode cX4_call 1 = .ok (.iload_n 1, 1) := by decide +kernel
theorem dX4_call_2 : decode cX4_call 2 = .ok (.invokevirtual 92, 3) := by decide +kernel
theorem dX4_call_5 : decode cX4_call 5 = .ok (.astore_n 3, 1) := by decide +kernel
theorem dX4_call_6 : decode cX4_call 6 = .ok (.aload_n 0, 1) := by decide +kernel
theorem dX4_call_7 : decode cX4_call 7 = .ok (.iload_n 2, 1) := by decide +kernel
theorem dX4_call_8 : decode cX4_call 8 = .ok (.invokevirtual 92, 3) := by decide +kernel
theorem dX4_call_11 : decode cX4_call 11 = .ok (.astore 4, 2) := by decide +kernel
theorem dX4_call_13 : decode cX4_call 13 = .ok (.iload_n 1, 1) := by decide +kernel
theorem dX4_call_14 : decode cX4_call 14 = .ok (.iload_n 2, 1) := by decide +kernel
theorem dX4_call_15 : decode cX4_call 15 = .ok (.if_icmp .ne 13, 3) := by decide +kernel
theorem dX4_call_18 : decode cX4_call 18 = .ok (.new 56, 3) := by decide +kernel
theorem dX4_call_21 : decode cX4_call 21 = .ok (.dup, 1) := by decide +kernel
theorem dX4_call_22 : decode cX4_call 22 = .ok (.ldc 125, 2) := by decide +kernel
theorem dX4_call_24 : decode cX4_call 24 = .ok (.invokespecial 60, 3) := by decide +kernel
theorem dX4_call_27 : decode cX4_call 27 = .ok (.athrow, 1) := by decide +kernel
theorem dX4_call_28 : decode cX4_call 28 = .ok (.aload_n 0, 1) := by decide +kernel
theorem dX4_call_29 : decode cX4_call 29 = .ok (.aload_n 3, 1) := by decide +kernel
theorem dX4_call_30 : decode cX4_call 30 = .ok (.invokevirtual 127, 3) := by decide +kernel
theorem dX4_call_33 : decode cX4_call 33 = .ok (.ifCond .ne 12, 3) := by decide +kernel
theorem dX4_call_36 : decode cX4_call 36 = .ok (.aload_n 0, 1) := by decide +kernel
theorem dX4_call_37 : decode cX4_call 37 = .ok (.aload 4, 2) := by decide +kernel
theorem dX4_call_39 : decode cX4_call 39 = .ok (.invokevirtual 127, 3) := by decide +kernel
theorem dX4_call_42 : decode cX4_call 42 = .ok (.ifCond .eq 13, 3) := by decide +kernel
theorem dX4_call_45 : decode cX4_call 45 = .ok (.new 74, 3) := by decide +kernel
theorem dX4_call_48 : decode cX4_call 48 = .ok (.dup, 1) := by decide +kernel
theorem dX4_call_49 : decode cX4_call 49 = .ok (.ldc 131, 2) := by decide +kernel
theorem dX4_call_51 : decode cX4_call 51 = .ok (.invokespecial 78, 3) := by decide +kernel
theorem dX4_call_54 : decode cX4_call 54 = .ok (.athrow, 1) := by decide +kernel
theorem dX4_call_55 : decode cX4_call 55 = .ok (.aload_n 0, 1) := by decide +kernel
theorem dX4_call_56 : decode cX4_call 56 = .ok (.getfield 133, 3) := by decide +kernel
theorem dX4_call_59 : decode cX4_call 59 = .ok (.istore 5, 2) := by decide +kernel
theorem dX4_call_61 : decode cX4_call 61 = .ok (.iload 5, 2) := by decide +kernel
theorem dX4_call_63 : decode cX4_call 63 = .ok (.ifCond .lt 10, 3) := by decide +kernel
theorem dX4_call_66 : decode cX4_call 66 = .ok (.iload 5, 2) := by decide +kernel
theorem dX4_call_68 : decode cX4_call 68 = .ok (.bipush 60, 2) := by decide +kernel
theorem dX4_call_70 : decode cX4_call 70 = .ok (.if_icmp .lt 13, 3) := by decide +kernel
theorem dX4_call_73 : decode cX4_call 73 = .ok (.new 74, 3) := by decide +kernel
theorem dX4_call_76 : decode cX4_call 76 = .ok (.dup, 1) := by decide +kernel
theorem dX4_call_77 : decode cX4_call 77 = .ok (.ldc 136, 2) := by decide +kernel
theorem dX4_call_79 : decode cX4_call 79 = .ok (.invokespecial 78, 3) := by decide +kernel
theorem dX4_call_82 : decode cX4_call 82 = .ok (.athrow, 1) := by decide +kernel
theorem dX4_call_83 : decode cX4_call 83 = .ok (.aload_n 0, 1) := by decide +kernel
theorem dX4_call_84 : decode cX4_call 84 = .ok (.getfield 19, 3) := by decide +kernel
theorem dX4_call_87 : decode cX4_call 87 = .ok (.aload_n 3, 1) := by decide +kernel
theorem dX4_call_88 : decode cX4_call 88 = .ok (.iconst 0, 1) := by decide +kernel
theorem dX4_call_89 : decode cX4_call 89 = .ok (.invokevirtual 96, 3) := by decide +kernel
theorem dX4_call_92 : decode cX4_call 92 = .ok (.aload 4, 2) := by decide +kernel
theorem dX4_call_94 : decode cX4_call 94 = .ok (.iconst 0, 1) := by decide +kernel
theorem dX4_call_95 : decode cX4_call 95 = .ok (.invokevirtual 96, 3) := by decide +kernel
theorem dX4_call_98 : decode cX4_call 98 = .ok (.aload_n 0, 1) := by decide +kernel
theorem dX4_call_99 : decode cX4_call 99 = .ok (.getfield 38, 3) := by decide +kernel
theorem dX4_call_102 : decode cX4_call 102 = .ok (.invokevirtual 138, 3) := by decide +kernel
theorem dX4_call_105 : decode cX4_call 105 = .ok (.ifCond .ne 13, 3) := by decide +kernel
theorem dX4_call_108 : decode cX4_call 108 = .ok (.new 74, 3) := by decide +kernel
theorem dX4_call_111 : decode cX4_call 111 = .ok (.dup, 1) := by decide +kernel
theorem dX4_call_112 : decode cX4_call 112 = .ok (.ldc 142, 2) := by decide +kernel
theorem dX4_call_114 : decode cX4_call 114 = .ok (.invokespecial 78, 3) := by decide +kernel
theorem dX4_call_117 : decode cX4_call 117 = .ok (.athrow, 1) := by decide +kernel
theorem dX4_call_118 : decode cX4_call 118 = .ok (.aload_n 0, 1) := by decide +kernel
theorem dX4_call_119 : decode cX4_call 119 = .ok (.getfield 31, 3) := by decide +kernel
theorem dX4_call_122 : decode cX4_call 122 = .ok (.iload 5, 2) := by decide +kernel
theorem dX4_call_124 : decode cX4_call 124 = .ok (.aload_n 0, 1) := by decide +kernel
theorem dX4_call_125 : decode cX4_call 125 = .ok (.aload_n 3, 1) := by decide +kernel
theorem dX4_call_126 : decode cX4_call 126 = .ok (.aload 4, 2) := by decide +kernel
theorem dX4_call_128 : decode cX4_call 128 = .ok (.aload_n 0, 1) := by decide +kernel
theorem dX4_call_129 : decode cX4_call 129 = .ok (.getfield 38, 3) := by decide +kernel
theorem dX4_call_132 : decode cX4_call 132 = .ok (.invokevirtual 144, 3) := by decide +kernel
theorem dX4_call_135 : decode cX4_call 135 = .ok (.aastore, 1) := by decide +kernel
theorem dX4_call_136 : decode cX4_call 136 = .ok (.aload_n 0, 1) := by decide +kernel
theorem dX4_call_137 : decode cX4_call 137 = .ok (.dup, 1) := by decide +kernel
theorem dX4_call_138 : decode cX4_call 138 = .ok (.getfield 133, 3) := by decide +kernel
theorem dX4_call_141 : decode cX4_call 141 = .ok (.iconst 1, 1) := by decide +kernel
theorem dX4_call_142 : decode cX4_call 142 = .ok (.iadd, 1) := by decide +kernel
theorem dX4_call_143 : decode cX4_call 143 = .ok (.putfield 133, 3) := by decide +kernel
theorem dX4_call_146 : decode cX4_call 146 = .ok (.iload 5, 2) := by decide +kernel
theorem dX4_call_148 : decode cX4_call 148 = .ok (.ireturn, 1) := by decide +kernel
theorem dX4_hangUp_0 : decode cX4_hangUp 0 = .ok (.aload_n 0, 1) := by decide +kernel
theorem dX4_hangUp_1 : decode cX4_hangUp 1 = .ok (.iload_n 1, 1) := by decide +kernel
theorem dX4_hangUp_2 : decode cX4_hangUp 2 = .ok (.invokevirtual 148, 3) := by decide +kernel
theorem dX4_hangUp_5 : decode cX4_hangUp 5 = .ok (.astore_n 2, 1) := by decide +kernel
theorem dX4_hangUp_6 : decode cX4_hangUp 6 = .ok (.aload_n 2, 1) := by decide +kernel
theorem dX4_hangUp_7 : decode cX4_hangUp 7 = .ok (.getfield 152, 3) := by decide +kernel
theorem dX4_hangUp_10 : decode cX4_hangUp 10 = .ok (.ifCond .eq 13, 3) := by decide +kernel
theorem dX4_hangUp_13 : decode cX4_hangUp 13 = .ok (.new 74, 3) := by decide +kernel
theorem dX4_hangUp_16 : decode cX4_hangUp 16 = .ok (.dup, 1) := by decide +kernel
theorem dX4_hangUp_17 : decode cX4_hangUp 17 = .ok (.ldc 155, 2) := by decide +kernel
theorem dX4_hangUp_19 : decode cX4_hangUp 19 = .ok (.invokespecial 78, 3) := by decide +kernel
theorem dX4_hangUp_22 : decode cX4_hangUp 22 = .ok (.athrow, 1) := by decide +kernel
theorem dX4_hangUp_23 : decode cX4_hangUp 23 = .ok (.aload_n 2, 1) := by decide +kernel
theorem dX4_hangUp_24 : decode cX4_hangUp 24 = .ok (.iconst 1, 1) := by decide +kernel
theorem dX4_hangUp_25 : decode cX4_hangUp 25 = .ok (.putfield 152, 3) := by decide +kernel
theorem dX4_hangUp_28 : decode cX4_hangUp 28 = .ok (.aload_n 2, 1) := by decide +kernel
theorem dX4_hangUp_29 : decode cX4_hangUp 29 = .ok (.getfield 157, 3) := by decide +kernel
theorem dX4_hangUp_32 : decode cX4_hangUp 32 = .ok (.ireturn, 1) := by decide +kernel
theorem dX4_pass_0 : decode cX4_pass 0 = .ok (.iload_n 1, 1) := by decide +kernel
theorem dX4_pass_1 : decode cX4_pass 1 = .ok (.iconst 1, 1) := by decide +kernel
theorem dX4_pass_2 : decode cX4_pass 2 = .ok (.sipush 200, 3) := by decide +kernel
theorem dX4_pass_5 : decode cX4_pass 5 = .ok (.invokestatic 52, 3) := by decide +kernel
theorem dX4_pass_8 : decode cX4_pass 8 = .ok (.ifCond .ne 13, 3) := by decide +kernel
theorem dX4_pass_11 : decode cX4_pass 11 = .ok (.new 56, 3) := by decide +kernel
theorem dX4_pass_14 : decode cX4_pass 14 = .ok (.dup, 1) := by decide +kernel
theorem dX4_pass_15 : decode cX4_pass 15 = .ok (.ldc 160, 2) := by decide +kernel
theorem dX4_pass_17 : decode cX4_pass 17 = .ok (.invokespecial 60, 3) := by decide +kernel
theorem dX4_pass_20 : decode cX4_pass 20 = .ok (.athrow, 1) := by decide +kernel
theorem dX4_pass_21 : decode cX4_pass 21 = .ok (.iconst 0, 1) := by decide +kernel
theorem dX4_pass_22 : decode cX4_pass 22 = .ok (.istore_n 2, 1) := by decide +kernel
theorem dX4_pass_23 : decode cX4_pass 23 = .ok (.iconst 0, 1) := by decide +kernel
theorem dX4_pass_24 : decode cX4_pass 24 = .ok (.istore_n 3, 1) := by decide +kernel
theorem dX4_pass_25 : decode cX4_pass 25 = .ok (.iload_n 3, 1) := by decide +kernel
theorem dX4_pass_26 : decode cX4_pass 26 = .ok (.iload_n 1, 1) := by decide +kernel
theorem dX4_pass_27 : decode cX4_pass 27 = .ok (.if_icmp .ge 74, 3) := by decide +kernel
theorem dX4_pass_30 : decode cX4_pass 30 = .ok (.aload_n 0, 1) := by decide +kernel
theorem dX4_pass_31 : decode cX4_pass 31 = .ok (.getfield 31, 3) := by decide +kernel
theorem dX4_pass_34 : decode cX4_pass 34 = .ok (.astore 4, 2) := by decide +kernel
theorem dX4_pass_36 : decode cX4_pass 36 = .ok (.aload 4, 2) := by decide +kernel
theorem dX4_pass_38 : decode cX4_pass 38 = .ok (.arraylength, 1) := by decide +kernel
theorem dX4_pass_39 : decode cX4_pass 39 = .ok (.istore 5, 2) := by decide +kernel
theorem dX4_pass_41 : decode cX4_pass 41 = .ok (.iconst 0, 1) := by decide +kernel
theorem dX4_pass_42 : decode cX4_pass 42 = .ok (.istore 6, 2) := by decide +kernel
theorem dX4_pass_44 : decode cX4_pass 44 = .ok (.iload 6, 2) := by decide +kernel
theorem dX4_pass_46 : decode cX4_pass 46 = .ok (.iload 5, 2) := by decide +kernel
theorem dX4_pass_48 : decode cX4_pass 48 = .ok (.if_icmp .ge 47, 3) := by decide +kernel
theorem dX4_pass_51 : decode cX4_pass 51 = .ok (.aload 4, 2) := by decide +kernel
theorem dX4_pass_53 : decode cX4_pass 53 = .ok (.iload 6, 2) := by decide +kernel
theorem dX4_pass_55 : decode cX4_pass 55 = .ok (.aaload, 1) := by decide +kernel
theorem dX4_pass_56 : decode cX4_pass 56 = .ok (.astore 7, 2) := by decide +kernel
theorem dX4_pass_58 : decode cX4_pass 58 = .ok (.aload 7, 2) := by decide +kernel
theorem dX4_pass_60 : decode cX4_pass 60 = .ok (.ifnull 29, 3) := by decide +kernel
theorem dX4_pass_63 : decode cX4_pass 63 = .ok (.aload 7, 2) := by decide +kernel
theorem dX4_pass_65 : decode cX4_pass 65 = .ok (.getfield 152, 3) := by decide +kernel
theorem dX4_pass_68 : decode cX4_pass 68 = .ok (.ifCond .ne 21, 3) := by decide +kernel
theorem dX4_pass_71 : decode cX4_pass 71 = .ok (.aload_n 0, 1) := by decide +kernel
theorem dX4_pass_72 : decode cX4_pass 72 = .ok (.aload 7, 2) := by decide +kernel
theorem dX4_pass_74 : decode cX4_pass 74 = .ok (.invokevirtual 162, 3) := by decide +kernel
theorem dX4_pass_77 : decode cX4_pass 77 = .ok (.ifCond .ne 12, 3) := by decide +kernel
theorem dX4_pass_80 : decode cX4_pass 80 = .ok (.aload 7, 2) := by decide +kernel
theorem dX4_pass_82 : decode cX4_pass 82 = .ok (.iconst 2, 1) := by decide +kernel
theorem dX4_pass_83 : decode cX4_pass 83 = .ok (.putfield 152, 3) := by decide +kernel
theorem dX4_pass_86 : decode cX4_pass 86 = .ok (.iinc 2 1, 3) := by decide +kernel
theorem dX4_pass_89 : decode cX4_pass 89 = .ok (.iinc 6 1, 3) := by decide +kernel
theorem dX4_pass_92 : decode cX4_pass 92 = .ok (.goto (-48), 3) := by decide +kernel
theorem dX4_pass_95 : decode cX4_pass 95 = .ok (.iinc 3 1, 3) := by decide +kernel
theorem dX4_pass_98 : decode cX4_pass 98 = .ok (.goto (-73), 3) := by decide +kernel
theorem dX4_pass_101 : decode cX4_pass 101 = .ok (.iload_n 2, 1) := by decide +kernel
theorem dX4_pass_102 : decode cX4_pass 102 = .ok (.ireturn, 1) := by decide +kernel
theorem dX4_state_0 : decode cX4_state 0 = .ok (.aload_n 0, 1) := by decide +kernel
theorem dX4_state_1 : decode cX4_state 1 = .ok (.iload_n 1, 1) := by decide +kernel
theorem dX4_state_2 : decode cX4_state 2 = .ok (.invokevirtual 148, 3) := by decide +kernel
theorem dX4_state_5 : decode cX4_state 5 = .ok (.getfield 152, 3) := by decide +kernel
theorem dX4_state_8 : decode cX4_state 8 = .ok (.ireturn, 1) := by decide +kernel
theorem dX4_minutes_0 : decode cX4_minutes 0 = .ok (.aload_n 0, 1) := by decide +kernel
theorem dX4_minutes_1 : decode cX4_minutes 1 = .ok (.iload_n 1, 1) := by decide +kernel
theorem dX4_minutes_2 : decode cX4_minutes 2 = .ok (.invokevirtual 148, 3) := by decide +kernel
theorem dX4_minutes_5 : decode cX4_minutes 5 = .ok (.getfield 157, 3) := by decide +kernel
theorem dX4_minutes_8 : decode cX4_minutes 8 = .ok (.ireturn, 1) := by decide +kernel
theorem dX4_moved_0 : decode cX4_moved 0 = .ok (.aload_n 0, 1) := by decide +kernel
theorem dX4_moved_1 : decode cX4_moved 1 = .ok (.iload_n 1, 1) := by decide +kernel
theorem dX4_moved_2 : decode cX4_moved 2 = .ok (.invokevirtual 148, 3) := by decide +kernel
theorem dX4_moved_5 : decode cX4_moved 5 = .ok (.getfield 166, 3) := by decide +kernel
theorem dX4_moved_8 : decode cX4_moved 8 = .ok (.ireturn, 1) := by decide +kernel
theorem dX4_way_0 : decode cX4_way 0 = .ok (.aload_n 0, 1) := by decide +kernel
theorem dX4_way_1 : decode cX4_way 1 = .ok (.iload_n 1, 1) := by decide +kernel
theorem dX4_way_2 : decode cX4_way 2 = .ok (.invokevirtual 148, 3) := by decide +kernel
theorem dX4_way_5 : decode cX4_way 5 = .ok (.getfield 169, 3) := by decide +kernel
theorem dX4_way_8 : decode cX4_way 8 = .ok (.iload_n 2, 1) := by decide +kernel
theorem dX4_way_9 : decode cX4_way 9 = .ok (.invokevirtual 172, 3) := by decide +kernel
theorem dX4_way_12 : decode cX4_way 12 = .ok (.istore_n 3, 1) := by decide +kernel
theorem dX4_way_13 : decode cX4_way 13 = .ok (.iload_n 3, 1) := by decide +kernel
theorem dX4_way_14 : decode cX4_way 14 = .ok (.iconst (-1), 1) := by decide +kernel
theorem dX4_way_15 : decode cX4_way 15 = .ok (.if_icmp .ne 13, 3) := by decide +kernel
theorem dX4_way_18 : decode cX4_way 18 = .ok (.new 111, 3) := by decide +kernel
theorem dX4_way_21 : decode cX4_way 21 = .ok (.dup, 1) := by decide +kernel
theorem dX4_way_22 : decode cX4_way 22 = .ok (.ldc 175, 2) := by decide +kernel
theorem dX4_way_24 : decode cX4_way 24 = .ok (.invokespecial 115, 3) := by decide +kernel
theorem dX4_way_27 : decode cX4_way 27 = .ok (.athrow, 1) := by decide +kernel
theorem dX4_way_28 : decode cX4_way 28 = .ok (.iload_n 3, 1) := by decide +kernel
theorem dX4_way_29 : decode cX4_way 29 = .ok (.ireturn, 1) := by decide +kernel
theorem dX4_cost_0 : decode cX4_cost 0 = .ok (.iload_n 1, 1) := by decide +kernel
theorem dX4_cost_1 : decode cX4_cost 1 = .ok (.invokestatic 48, 3) := by decide +kernel
theorem dX4_cost_4 : decode cX4_cost 4 = .ok (.iload_n 2, 1) := by decide +kernel
theorem dX4_cost_5 : decode cX4_cost 5 = .ok (.invokestatic 48, 3) := by decide +kernel
theorem dX4_cost_8 : decode cX4_cost 8 = .ok (.aload_n 0, 1) := by decide +kernel
theorem dX4_cost_9 : decode cX4_cost 9 = .ok (.getfield 19, 3) := by decide +kernel
theorem dX4_cost_12 : decode cX4_cost 12 = .ok (.iload_n 1, 1) := by decide +kernel
theorem dX4_cost_13 : decode cX4_cost 13 = .ok (.iload_n 2, 1) := by decide +kernel
theorem dX4_cost_14 : decode cX4_cost 14 = .ok (.aload_n 0, 1) := by decide +kernel
theorem dX4_cost_15 : decode cX4_cost 15 = .ok (.getfield 38, 3) := by decide +kernel
theorem dX4_cost_18 : decode cX4_cost 18 = .ok (.invokevirtual 138, 3) := by decide +kernel
theorem dX4_cost_21 : decode cX4_cost 21 = .ok (.ifCond .eq 17, 3) := by decide +kernel
theorem dX4_cost_24 : decode cX4_cost 24 = .ok (.aload_n 0, 1) := by decide +kernel
theorem dX4_cost_25 : decode cX4_cost 25 = .ok (.getfield 19, 3) := by decide +kernel
theorem dX4_cost_28 : decode cX4_cost 28 = .ok (.aload_n 0, 1) := by decide +kernel
theorem dX4_cost_29 : decode cX4_cost 29 = .ok (.getfield 38, 3) := by decide +kernel
theorem dX4_cost_32 : decode cX4_cost 32 = .ok (.invokevirtual 177, 3) := by decide +kernel
theorem dX4_cost_35 : decode cX4_cost 35 = .ok (.goto 4, 3) := by decide +kernel
theorem dX4_cost_38 : decode cX4_cost 38 = .ok (.iconst (-1), 1) := by decide +kernel
theorem dX4_cost_39 : decode cX4_cost 39 = .ok (.ireturn, 1) := by decide +kernel
theorem dX4_best_0 : decode cX4_best 0 = .ok (.iload_n 1, 1) := by decide +kernel
theorem dX4_best_1 : decode cX4_best 1 = .ok (.invokestatic 48, 3) := by decide +kernel
theorem dX4_best_4 : decode cX4_best 4 = .ok (.iload_n 2, 1) := by decide +kernel
theorem dX4_best_5 : decode cX4_best 5 = .ok (.invokestatic 48, 3) := by decide +kernel
theorem dX4_best_8 : decode cX4_best 8 = .ok (.aload_n 0, 1) := by decide +kernel
theorem dX4_best_9 : decode cX4_best 9 = .ok (.getfield 19, 3) := by decide +kernel
theorem dX4_best_12 : decode cX4_best 12 = .ok (.iload_n 1, 1) := by decide +kernel
theorem dX4_best_13 : decode cX4_best 13 = .ok (.iload_n 2, 1) := by decide +kernel
theorem dX4_best_14 : decode cX4_best 14 = .ok (.aload_n 0, 1) := by decide +kernel
theorem dX4_best_15 : decode cX4_best 15 = .ok (.getfield 38, 3) := by decide +kernel
theorem dX4_best_18 : decode cX4_best 18 = .ok (.invokevirtual 138, 3) := by decide +kernel
theorem dX4_best_21 : decode cX4_best 21 = .ok (.ifCond .eq 14, 3) := by decide +kernel
theorem dX4_best_24 : decode cX4_best 24 = .ok (.aload_n 0, 1) := by decide +kernel
theorem dX4_best_25 : decode cX4_best 25 = .ok (.getfield 38, 3) := by decide +kernel
theorem dX4_best_28 : decode cX4_best 28 = .ok (.iload_n 3, 1) := by decide +kernel
theorem dX4_best_29 : decode cX4_best 29 = .ok (.invokevirtual 172, 3) := by decide +kernel
theorem dX4_best_32 : decode cX4_best 32 = .ok (.goto 4, 3) := by decide +kernel
theorem dX4_best_35 : decode cX4_best 35 = .ok (.iconst (-1), 1) := by decide +kernel
theorem dX4_best_36 : decode cX4_best 36 = .ok (.istore 4, 2) := by decide +kernel
theorem dX4_best_38 : decode cX4_best 38 = .ok (.iload 4, 2) := by decide +kernel
theorem dX4_best_40 : decode cX4_best 40 = .ok (.iconst (-1), 1) := by decide +kernel
theorem dX4_best_41 : decode cX4_best 41 = .ok (.if_icmp .ne 13, 3) := by decide +kernel
theorem dX4_best_44 : decode cX4_best 44 = .ok (.new 111, 3) := by decide +kernel
theorem dX4_best_47 : decode cX4_best 47 = .ok (.dup, 1) := by decide +kernel
theorem dX4_best_48 : decode cX4_best 48 = .ok (.ldc 181, 2) := by decide +kernel
theorem dX4_best_50 : decode cX4_best 50 = .ok (.invokespecial 115, 3) := by decide +kernel
theorem dX4_best_53 : decode cX4_best 53 = .ok (.athrow, 1) := by decide +kernel
theorem dX4_best_54 : decode cX4_best 54 = .ok (.iload 4, 2) := by decide +kernel
theorem dX4_best_56 : decode cX4_best 56 = .ok (.ireturn, 1) := by decide +kernel
theorem dX4_isBarred_0 : decode cX4_isBarred 0 = .ok (.iload_n 1, 1) := by decide +kernel
theorem dX4_isBarred_1 : decode cX4_isBarred 1 = .ok (.invokestatic 48, 3) := by decide +kernel
theorem dX4_isBarred_4 : decode cX4_isBarred 4 = .ok (.iload_n 2, 1) := by decide +kernel
theorem dX4_isBarred_5 : decode cX4_isBarred 5 = .ok (.invokestatic 48, 3) := by decide +kernel
theorem dX4_isBarred_8 : decode cX4_isBarred 8 = .ok (.aload_n 0, 1) := by decide +kernel
theorem dX4_isBarred_9 : decode cX4_isBarred 9 = .ok (.getfield 19, 3) := by decide +kernel
theorem dX4_isBarred_12 : decode cX4_isBarred 12 = .ok (.iload_n 1, 1) := by decide +kernel
theorem dX4_isBarred_13 : decode cX4_isBarred 13 = .ok (.iload_n 2, 1) := by decide +kernel
theorem dX4_isBarred_14 : decode cX4_isBarred 14 = .ok (.invokevirtual 183, 3) := by decide +kernel
theorem dX4_isBarred_17 : decode cX4_isBarred 17 = .ok (.ifCond .ne 7, 3) := by decide +kernel
theorem dX4_isBarred_20 : decode cX4_isBarred 20 = .ok (.iconst 1, 1) := by decide +kernel
theorem dX4_isBarred_21 : decode cX4_isBarred 21 = .ok (.goto 4, 3) := by decide +kernel
theorem dX4_isBarred_24 : decode cX4_isBarred 24 = .ok (.iconst 0, 1) := by decide +kernel
theorem dX4_isBarred_25 : decode cX4_isBarred 25 = .ok (.ireturn, 1) := by decide +kernel
theorem dX4_debt_0 : decode cX4_debt 0 = .ok (.iload_n 1, 1) := by decide +kernel
theorem dX4_debt_1 : decode cX4_debt 1 = .ok (.invokestatic 48, 3) := by decide +kernel
theorem dX4_debt_4 : decode cX4_debt 4 = .ok (.iload_n 2, 1) := by decide +kernel
theorem dX4_debt_5 : decode cX4_debt 5 = .ok (.invokestatic 48, 3) := by decide +kernel
theorem dX4_debt_8 : decode cX4_debt 8 = .ok (.aload_n 0, 1) := by decide +kernel
theorem dX4_debt_9 : decode cX4_debt 9 = .ok (.getfield 19, 3) := by decide +kernel
theorem dX4_debt_12 : decode cX4_debt 12 = .ok (.iload_n 1, 1) := by decide +kernel
theorem dX4_debt_13 : decode cX4_debt 13 = .ok (.iload_n 2, 1) := by decide +kernel
theorem dX4_debt_14 : decode cX4_debt 14 = .ok (.invokevirtual 187, 3) := by decide +kernel
theorem dX4_debt_17 : decode cX4_debt 17 = .ok (.lreturn, 1) := by decide +kernel
theorem dX4_charged_0 : decode cX4_charged 0 = .ok (.iload_n 1, 1) := by decide +kernel
theorem dX4_charged_1 : decode cX4_charged 1 = .ok (.invokestatic 48, 3) := by decide +kernel
theorem dX4_charged_4 : decode cX4_charged 4 = .ok (.iload_n 2, 1) := by decide +kernel
theorem dX4_charged_5 : decode cX4_charged 5 = .ok (.invokestatic 48, 3) := by decide +kernel
theorem dX4_charged_8 : decode cX4_charged 8 = .ok (.iload_n 1, 1) := by decide +kernel
theorem dX4_charged_9 : decode cX4_charged 9 = .ok (.iload_n 2, 1) := by decide +kernel
theorem dX4_charged_10 : decode cX4_charged 10 = .ok (.invokestatic 191, 3) := by decide +kernel
theorem dX4_charged_13 : decode cX4_charged 13 = .ok (.istore_n 3, 1) := by decide +kernel
theorem dX4_charged_14 : decode cX4_charged 14 = .ok (.lconst 0, 1) := by decide +kernel
theorem dX4_charged_15 : decode cX4_charged 15 = .ok (.lstore 4, 2) := by decide +kernel
theorem dX4_charged_17 : decode cX4_charged 17 = .ok (.aload_n 0, 1) := by decide +kernel
theorem dX4_charged_18 : decode cX4_charged 18 = .ok (.getfield 31, 3) := by decide +kernel
theorem dX4_charged_21 : decode cX4_charged 21 = .ok (.astore 6, 2) := by decide +kernel
theorem dX4_charged_23 : decode cX4_charged 23 = .ok (.aload 6, 2) := by decide +kernel
theorem dX4_charged_25 : decode cX4_charged 25 = .ok (.arraylength, 1) := by decide +kernel
theorem dX4_charged_26 : decode cX4_charged 26 = .ok (.istore 7, 2) := by decide +kernel
theorem dX4_charged_28 : decode cX4_charged 28 = .ok (.iconst 0, 1) := by decide +kernel
theorem dX4_charged_29 : decode cX4_charged 29 = .ok (.istore 8, 2) := by decide +kernel
theorem dX4_charged_31 : decode cX4_charged 31 = .ok (.iload 8, 2) := by decide +kernel
theorem dX4_charged_33 : decode cX4_charged 33 = .ok (.iload 7, 2) := by decide +kernel
theorem dX4_charged_35 : decode cX4_charged 35 = .ok (.if_icmp .ge 32, 3) := by decide +kernel
theorem dX4_charged_38 : decode cX4_charged 38 = .ok (.aload 6, 2) := by decide +kernel
theorem dX4_charged_40 : decode cX4_charged 40 = .ok (.iload 8, 2) := by decide +kernel
theorem dX4_charged_42 : decode cX4_charged 42 = .ok (.aaload, 1) := by decide +kernel
theorem dX4_charged_43 : decode cX4_charged 43 = .ok (.astore 9, 2) := by decide +kernel
theorem dX4_charged_45 : decode cX4_charged 45 = .ok (.aload 9, 2) := by decide +kernel
theorem dX4_charged_47 : decode cX4_charged 47 = .ok (.ifnull 14, 3) := by decide +kernel
theorem dX4_charged_50 : decode cX4_charged 50 = .ok (.lload 4, 2) := by decide +kernel
theorem dX4_charged_52 : decode cX4_charged 52 = .ok (.aload 9, 2) := by decide +kernel
theorem dX4_charged_54 : decode cX4_charged 54 = .ok (.iload_n 3, 1) := by decide +kernel
theorem dX4_charged_55 : decode cX4_charged 55 = .ok (.invokevirtual 194, 3) := by decide +kernel
theorem dX4_charged_58 : decode cX4_charged 58 = .ok (.ladd, 1) := by decide +kernel
theorem dX4_charged_59 : decode cX4_charged 59 = .ok (.lstore 4, 2) := by decide +kernel
theorem dX4_charged_61 : decode cX4_charged 61 = .ok (.iinc 8 1, 3) := by decide +kernel
theorem dX4_charged_64 : decode cX4_charged 64 = .ok (.goto (-33), 3) := by decide +kernel
theorem dX4_charged_67 : decode cX4_charged 67 = .ok (.lload 4, 2) := by decide +kernel
theorem dX4_charged_69 : decode cX4_charged 69 = .ok (.lreturn, 1) := by decide +kernel
theorem dX4_position_0 : decode cX4_position 0 = .ok (.iload_n 1, 1) := by decide +kernel
theorem dX4_position_1 : decode cX4_position 1 = .ok (.invokestatic 48, 3) := by decide +kernel
theorem dX4_position_4 : decode cX4_position 4 = .ok (.lconst 0, 1) := by decide +kernel
theorem dX4_position_5 : decode cX4_position 5 = .ok (.lstore_n 2, 1) := by decide +kernel
theorem dX4_position_6 : decode cX4_position 6 = .ok (.iconst 0, 1) := by decide +kernel
theorem dX4_position_7 : decode cX4_position 7 = .ok (.istore 4, 2) := by decide +kernel
theorem dX4_position_9 : decode cX4_position 9 = .ok (.iload 4, 2) := by decide +kernel
theorem dX4_position_11 : decode cX4_position 11 = .ok (.iconst 5, 1) := by decide +kernel
theorem dX4_position_12 : decode cX4_position 12 = .ok (.if_icmp .ge 22, 3) := by decide +kernel
theorem dX4_position_15 : decode cX4_position 15 = .ok (.lload_n 2, 1) := by decide +kernel
theorem dX4_position_16 : decode cX4_position 16 = .ok (.aload_n 0, 1) := by decide +kernel
theorem dX4_position_17 : decode cX4_position 17 = .ok (.getfield 19, 3) := by decide +kernel
theorem dX4_position_20 : decode cX4_position 20 = .ok (.iload 4, 2) := by decide +kernel
theorem dX4_position_22 : decode cX4_position 22 = .ok (.iload_n 1, 1) := by decide +kernel
theorem dX4_position_23 : decode cX4_position 23 = .ok (.invokevirtual 187, 3) := by decide +kernel
theorem dX4_position_26 : decode cX4_position 26 = .ok (.ladd, 1) := by decide +kernel
theorem dX4_position_27 : decode cX4_position 27 = .ok (.lstore_n 2, 1) := by decide +kernel
theorem dX4_position_28 : decode cX4_position 28 = .ok (.iinc 4 1, 3) := by decide +kernel
theorem dX4_position_31 : decode cX4_position 31 = .ok (.goto (-22), 3) := by decide +kernel
theorem dX4_position_34 : decode cX4_position 34 = .ok (.lload_n 2, 1) := by decide +kernel
theorem dX4_position_35 : decode cX4_position 35 = .ok (.lreturn, 1) := by decide +kernel
theorem dX4_settle_0 : decode cX4_settle 0 = .ok (.iload_n 1, 1) := by decide +kernel
theorem dX4_settle_1 : decode cX4_settle 1 = .ok (.invokestatic 48, 3) := by decide +kernel
theorem dX4_settle_4 : decode cX4_settle 4 = .ok (.iload_n 2, 1) := by decide +kernel
theorem dX4_settle_5 : decode cX4_settle 5 = .ok (.invokestatic 48, 3) := by decide +kernel
theorem dX4_settle_8 : decode cX4_settle 8 = .ok (.aload_n 0, 1) := by decide +kernel
theorem dX4_settle_9 : decode cX4_settle 9 = .ok (.getfield 19, 3) := by decide +kernel
theorem dX4_settle_12 : decode cX4_settle 12 = .ok (.iload_n 1, 1) := by decide +kernel
theorem dX4_settle_13 : decode cX4_settle 13 = .ok (.iload_n 2, 1) := by decide +kernel
theorem dX4_settle_14 : decode cX4_settle 14 = .ok (.invokevirtual 187, 3) := by decide +kernel
theorem dX4_settle_17 : decode cX4_settle 17 = .ok (.lstore_n 3, 1) := by decide +kernel
theorem dX4_settle_18 : decode cX4_settle 18 = .ok (.lload_n 3, 1) := by decide +kernel
theorem dX4_settle_19 : decode cX4_settle 19 = .ok (.lconst 0, 1) := by decide +kernel
theorem dX4_settle_20 : decode cX4_settle 20 = .ok (.lcmp, 1) := by decide +kernel
theorem dX4_settle_21 : decode cX4_settle 21 = .ok (.ifCond .gt 13, 3) := by decide +kernel
theorem dX4_settle_24 : decode cX4_settle 24 = .ok (.new 74, 3) := by decide +kernel
theorem dX4_settle_27 : decode cX4_settle 27 = .ok (.dup, 1) := by decide +kernel
theorem dX4_settle_28 : decode cX4_settle 28 = .ok (.ldc 198, 2) := by decide +kernel
theorem dX4_settle_30 : decode cX4_settle 30 = .ok (.invokespecial 78, 3) := by decide +kernel
theorem dX4_settle_33 : decode cX4_settle 33 = .ok (.athrow, 1) := by decide +kernel
theorem dX4_settle_34 : decode cX4_settle 34 = .ok (.aload_n 0, 1) := by decide +kernel
theorem dX4_settle_35 : decode cX4_settle 35 = .ok (.getfield 19, 3) := by decide +kernel
theorem dX4_settle_38 : decode cX4_settle 38 = .ok (.iload_n 1, 1) := by decide +kernel
theorem dX4_settle_39 : decode cX4_settle 39 = .ok (.iload_n 2, 1) := by decide +kernel
theorem dX4_settle_40 : decode cX4_settle 40 = .ok (.lload_n 3, 1) := by decide +kernel
theorem dX4_settle_41 : decode cX4_settle 41 = .ok (.lneg, 1) := by decide +kernel
theorem dX4_settle_42 : decode cX4_settle 42 = .ok (.invokevirtual 200, 3) := by decide +kernel
theorem dX4_settle_45 : decode cX4_settle 45 = .ok (.lload_n 3, 1) := by decide +kernel
theorem dX4_settle_46 : decode cX4_settle 46 = .ok (.lreturn, 1) := by decide +kernel
theorem dX4_isWithin_0 : decode cX4_isWithin 0 = .ok (.iload_n 0, 1) := by decide +kernel
theorem dX4_isWithin_1 : decode cX4_isWithin 1 = .ok (.iload_n 1, 1) := by decide +kernel
theorem dX4_isWithin_2 : decode cX4_isWithin 2 = .ok (.if_icmp .lt 12, 3) := by decide +kernel
theorem dX4_isWithin_5 : decode cX4_isWithin 5 = .ok (.iload_n 0, 1) := by decide +kernel
theorem dX4_isWithin_6 : decode cX4_isWithin 6 = .ok (.iload_n 2, 1) := by decide +kernel
theorem dX4_isWithin_7 : decode cX4_isWithin 7 = .ok (.if_icmp .gt 7, 3) := by decide +kernel
theorem dX4_isWithin_10 : decode cX4_isWithin 10 = .ok (.iconst 1, 1) := by decide +kernel
theorem dX4_isWithin_11 : decode cX4_isWithin 11 = .ok (.goto 4, 3) := by decide +kernel
theorem dX4_isWithin_14 : decode cX4_isWithin 14 = .ok (.iconst 0, 1) := by decide +kernel
theorem dX4_isWithin_15 : decode cX4_isWithin 15 = .ok (.ireturn, 1) := by decide +kernel
theorem dX4_isCarrier_0 : decode cX4_isCarrier 0 = .ok (.iload_n 0, 1) := by decide +kernel
theorem dX4_isCarrier_1 : decode cX4_isCarrier 1 = .ok (.ifCond .lt 12, 3) := by decide +kernel
theorem dX4_isCarrier_4 : decode cX4_isCarrier 4 = .ok (.iload_n 0, 1) := by decide +kernel
theorem dX4_isCarrier_5 : decode cX4_isCarrier 5 = .ok (.iconst 5, 1) := by decide +kernel
theorem dX4_isCarrier_6 : decode cX4_isCarrier 6 = .ok (.if_icmp .ge 7, 3) := by decide +kernel
theorem dX4_isCarrier_9 : decode cX4_isCarrier 9 = .ok (.iconst 1, 1) := by decide +kernel
theorem dX4_isCarrier_10 : decode cX4_isCarrier 10 = .ok (.goto 4, 3) := by decide +kernel
theorem dX4_isCarrier_13 : decode cX4_isCarrier 13 = .ok (.iconst 0, 1) := by decide +kernel
theorem dX4_isCarrier_14 : decode cX4_isCarrier 14 = .ok (.ireturn, 1) := by decide +kernel
theorem dX4_pairOf_0 : decode cX4_pairOf 0 = .ok (.iload_n 0, 1) := by decide +kernel
theorem dX4_pairOf_1 : decode cX4_pairOf 1 = .ok (.ifCond .lt 21, 3) := by decide +kernel
theorem dX4_pairOf_4 : decode cX4_pairOf 4 = .ok (.iload_n 0, 1) := by decide +kernel
theorem dX4_pairOf_5 : decode cX4_pairOf 5 = .ok (.iconst 5, 1) := by decide +kernel
theorem dX4_pairOf_6 : decode cX4_pairOf 6 = .ok (.if_icmp .ge 16, 3) := by decide +kernel
theorem dX4_pairOf_9 : decode cX4_pairOf 9 = .ok (.iload_n 1, 1) := by decide +kernel
theorem dX4_pairOf_10 : decode cX4_pairOf 10 = .ok (.ifCond .lt 12, 3) := by decide +kernel
theorem dX4_pairOf_13 : decode cX4_pairOf 13 = .ok (.iload_n 1, 1) := by decide +kernel
theorem dX4_pairOf_14 : decode cX4_pairOf 14 = .ok (.iconst 5, 1) := by decide +kernel
theorem dX4_pairOf_15 : decode cX4_pairOf 15 = .ok (.if_icmp .ge 7, 3) := by decide +kernel
theorem dX4_pairOf_18 : decode cX4_pairOf 18 = .ok (.iconst 1, 1) := by decide +kernel
theorem dX4_pairOf_19 : decode cX4_pairOf 19 = .ok (.goto 4, 3) := by decide +kernel
theorem dX4_pairOf_22 : decode cX4_pairOf 22 = .ok (.iconst 0, 1) := by decide +kernel
theorem dX4_pairOf_23 : decode cX4_pairOf 23 = .ok (.istore_n 2, 1) := by decide +kernel
theorem dX4_pairOf_24 : decode cX4_pairOf 24 = .ok (.iload_n 2, 1) := by decide +kernel
theorem dX4_pairOf_25 : decode cX4_pairOf 25 = .ok (.ifCond .eq 11, 3) := by decide +kernel
theorem dX4_pairOf_28 : decode cX4_pairOf 28 = .ok (.iload_n 0, 1) := by decide +kernel
theorem dX4_pairOf_29 : decode cX4_pairOf 29 = .ok (.iconst 5, 1) := by decide +kernel
theorem dX4_pairOf_30 : decode cX4_pairOf 30 = .ok (.imul, 1) := by decide +kernel
theorem dX4_pairOf_31 : decode cX4_pairOf 31 = .ok (.iload_n 1, 1) := by decide +kernel
theorem dX4_pairOf_32 : decode cX4_pairOf 32 = .ok (.iadd, 1) := by decide +kernel
theorem dX4_pairOf_33 : decode cX4_pairOf 33 = .ok (.goto 4, 3) := by decide +kernel
theorem dX4_pairOf_36 : decode cX4_pairOf 36 = .ok (.iconst (-1), 1) := by decide +kernel
theorem dX4_pairOf_37 : decode cX4_pairOf 37 = .ok (.ireturn, 1) := by decide +kernel
theorem dX4_demandCarrier_0 : decode cX4_demandCarrier 0 = .ok (.iload_n 0, 1) := by decide +kernel
theorem dX4_demandCarrier_1 : decode cX4_demandCarrier 1 = .ok (.invokestatic 204, 3) := by decide +kernel
theorem dX4_demandCarrier_4 : decode cX4_demandCarrier 4 = .ok (.ifCond .ne 13, 3) := by decide +kernel
theorem dX4_demandCarrier_7 : decode cX4_demandCarrier 7 = .ok (.new 111, 3) := by decide +kernel
theorem dX4_demandCarrier_10 : decode cX4_demandCarrier 10 = .ok (.dup, 1) := by decide +kernel
theorem dX4_demandCarrier_11 : decode cX4_demandCarrier 11 = .ok (.ldc 207, 2) := by decide +kernel
theorem dX4_demandCarrier_13 : decode cX4_demandCarrier 13 = .ok (.invokespecial 115, 3) := by decide +kernel
theorem dX4_demandCarrier_16 : decode cX4_demandCarrier 16 = .ok (.athrow, 1) := by decide +kernel
theorem dX4_demandCarrier_17 : decode cX4_demandCarrier 17 = .ok (.return_, 1) := by decide +kernel
theorem dX4_demandCredit_0 : decode cX4_demandCredit 0 = .ok (.iload_n 0, 1) := by decide +kernel
theorem dX4_demandCredit_1 : decode cX4_demandCredit 1 = .ok (.iconst 0, 1) := by decide +kernel
theorem dX4_demandCredit_2 : decode cX4_demandCredit 2 = .ok (.sipush 10000, 3) := by decide +kernel
theorem dX4_demandCredit_5 : decode cX4_demandCredit 5 = .ok (.invokestatic 52, 3) := by decide +kernel
theorem dX4_demandCredit_8 : decode cX4_demandCredit 8 = .ok (.ifCond .eq 14, 3) := by decide +kernel
theorem dX4_demandCredit_11 : decode cX4_demandCredit 11 = .ok (.iload_n 1, 1) := by decide +kernel
theorem dX4_demandCredit_12 : decode cX4_demandCredit 12 = .ok (.iconst 0, 1) := by decide +kernel
theorem dX4_demandCredit_13 : decode cX4_demandCredit 13 = .ok (.sipush 1000, 3) := by decide +kernel
theorem dX4_demandCredit_16 : decode cX4_demandCredit 16 = .ok (.invokestatic 52, 3) := by decide +kernel
theorem dX4_demandCredit_19 : decode cX4_demandCredit 19 = .ok (.ifCond .ne 13, 3) := by decide +kernel
theorem dX4_demandCredit_22 : decode cX4_demandCredit 22 = .ok (.new 56, 3) := by decide +kernel
theorem dX4_demandCredit_25 : decode cX4_demandCredit 25 = .ok (.dup, 1) := by decide +kernel
theorem dX4_demandCredit_26 : decode cX4_demandCredit 26 = .ok (.ldc 209, 2) := by decide +kernel
theorem dX4_demandCredit_28 : decode cX4_demandCredit 28 = .ok (.invokespecial 60, 3) := by decide +kernel
theorem dX4_demandCredit_31 : decode cX4_demandCredit 31 = .ok (.athrow, 1) := by decide +kernel
theorem dX4_demandCredit_32 : decode cX4_demandCredit 32 = .ok (.return_, 1) := by decide +kernel
theorem dX4_subscriberOf_0 : decode cX4_subscriberOf 0 = .ok (.iload_n 1, 1) := by decide +kernel
theorem dX4_subscriberOf_1 : decode cX4_subscriberOf 1 = .ok (.ifCond .lt 18, 3) := by decide +kernel
theorem dX4_subscriberOf_4 : decode cX4_subscriberOf 4 = .ok (.iload_n 1, 1) := by decide +kernel
theorem dX4_subscriberOf_5 : decode cX4_subscriberOf 5 = .ok (.bipush 20, 2) := by decide +kernel
theorem dX4_subscriberOf_7 : decode cX4_subscriberOf 7 = .ok (.if_icmp .ge 12, 3) := by decide +kernel
theorem dX4_subscriberOf_10 : decode cX4_subscriberOf 10 = .ok (.aload_n 0, 1) := by decide +kernel
theorem dX4_subscriberOf_11 : decode cX4_subscriberOf 11 = .ok (.getfield 25, 3) := by decide +kernel
theorem dX4_subscriberOf_14 : decode cX4_subscriberOf 14 = .ok (.iload_n 1, 1) := by decide +kernel
theorem dX4_subscriberOf_15 : decode cX4_subscriberOf 15 = .ok (.aaload, 1) := by decide +kernel
theorem dX4_subscriberOf_16 : decode cX4_subscriberOf 16 = .ok (.goto 4, 3) := by decide +kernel
theorem dX4_subscriberOf_19 : decode cX4_subscriberOf 19 = .ok (.aconst_null, 1) := by decide +kernel
theorem dX4_subscriberOf_20 : decode cX4_subscriberOf 20 = .ok (.astore_n 2, 1) := by decide +kernel
theorem dX4_subscriberOf_21 : decode cX4_subscriberOf 21 = .ok (.aload_n 2, 1) := by decide +kernel
theorem dX4_subscriberOf_22 : decode cX4_subscriberOf 22 = .ok (.ifnonnull 13, 3) := by decide +kernel
theorem dX4_subscriberOf_25 : decode cX4_subscriberOf 25 = .ok (.new 111, 3) := by decide +kernel
theorem dX4_subscriberOf_28 : decode cX4_subscriberOf 28 = .ok (.dup, 1) := by decide +kernel
theorem dX4_subscriberOf_29 : decode cX4_subscriberOf 29 = .ok (.ldc 211, 2) := by decide +kernel
theorem dX4_subscriberOf_31 : decode cX4_subscriberOf 31 = .ok (.invokespecial 115, 3) := by decide +kernel
theorem dX4_subscriberOf_34 : decode cX4_subscriberOf 34 = .ok (.athrow, 1) := by decide +kernel
theorem dX4_subscriberOf_35 : decode cX4_subscriberOf 35 = .ok (.aload_n 2, 1) := by decide +kernel
theorem dX4_subscriberOf_36 : decode cX4_subscriberOf 36 = .ok (.areturn, 1) := by decide +kernel
theorem dX4_talkOf_0 : decode cX4_talkOf 0 = .ok (.iload_n 1, 1) := by decide +kernel
theorem dX4_talkOf_1 : decode cX4_talkOf 1 = .ok (.ifCond .lt 18, 3) := by decide +kernel
theorem dX4_talkOf_4 : decode cX4_talkOf 4 = .ok (.iload_n 1, 1) := by decide +kernel
theorem dX4_talkOf_5 : decode cX4_talkOf 5 = .ok (.bipush 60, 2) := by decide +kernel
theorem dX4_talkOf_7 : decode cX4_talkOf 7 = .ok (.if_icmp .ge 12, 3) := by decide +kernel
theorem dX4_talkOf_10 : decode cX4_talkOf 10 = .ok (.aload_n 0, 1) := by decide +kernel
theorem dX4_talkOf_11 : decode cX4_talkOf 11 = .ok (.getfield 31, 3) := by decide +kernel
theorem dX4_talkOf_14 : decode cX4_talkOf 14 = .ok (.iload_n 1, 1) := by decide +kernel
theorem dX4_talkOf_15 : decode cX4_talkOf 15 = .ok (.aaload, 1) := by decide +kernel
theorem dX4_talkOf_16 : decode cX4_talkOf 16 = .ok (.goto 4, 3) := by decide +kernel
theorem dX4_talkOf_19 : decode cX4_talkOf 19 = .ok (.aconst_null, 1) := by decide +kernel
theorem dX4_talkOf_20 : decode cX4_talkOf 20 = .ok (.astore_n 2, 1) := by decide +kernel
theorem dX4_talkOf_21 : decode cX4_talkOf 21 = .ok (.aload_n 2, 1) := by decide +kernel
theorem dX4_talkOf_22 : decode cX4_talkOf 22 = .ok (.ifnonnull 13, 3) := by decide +kernel
theorem dX4_talkOf_25 : decode cX4_talkOf 25 = .ok (.new 111, 3) := by decide +kernel
theorem dX4_talkOf_28 : decode cX4_talkOf 28 = .ok (.dup, 1) := by decide +kernel
theorem dX4_talkOf_29 : decode cX4_talkOf 29 = .ok (.ldc 213, 2) := by decide +kernel
theorem dX4_talkOf_31 : decode cX4_talkOf 31 = .ok (.invokespecial 115, 3) := by decide +kernel
theorem dX4_talkOf_34 : decode cX4_talkOf 34 = .ok (.athrow, 1) := by decide +kernel
theorem dX4_talkOf_35 : decode cX4_talkOf 35 = .ok (.aload_n 2, 1) := by decide +kernel
theorem dX4_talkOf_36 : decode cX4_talkOf 36 = .ok (.areturn, 1) := by decide +kernel
theorem dX4_isTalking_0 : decode cX4_isTalking 0 = .ok (.aload_n 0, 1) := by decide +kernel
theorem dX4_isTalking_1 : decode cX4_isTalking 1 = .ok (.getfield 31, 3) := by decide +kernel
theorem dX4_isTalking_4 : decode cX4_isTalking 4 = .ok (.astore_n 2, 1) := by decide +kernel
theorem dX4_isTalking_5 : decode cX4_isTalking 5 = .ok (.aload_n 2, 1) := by decide +kernel
theorem dX4_isTalking_6 : decode cX4_isTalking 6 = .ok (.arraylength, 1) := by decide +kernel
theorem dX4_isTalking_7 : decode cX4_isTalking 7 = .ok (.istore_n 3, 1) := by decide +kernel
theorem dX4_isTalking_8 : decode cX4_isTalking 8 = .ok (.iconst 0, 1) := by decide +kernel
theorem dX4_isTalking_9 : decode cX4_isTalking 9 = .ok (.istore 4, 2) := by decide +kernel
theorem dX4_isTalking_11 : decode cX4_isTalking 11 = .ok (.iload 4, 2) := by decide +kernel
theorem dX4_isTalking_13 : decode cX4_isTalking 13 = .ok (.iload_n 3, 1) := by decide +kernel
theorem dX4_isTalking_14 : decode cX4_isTalking 14 = .ok (.if_icmp .ge 48, 3) := by decide +kernel
theorem dX4_isTalking_17 : decode cX4_isTalking 17 = .ok (.aload_n 2, 1) := by decide +kernel
theorem dX4_isTalking_18 : decode cX4_isTalking 18 = .ok (.iload 4, 2) := by decide +kernel
theorem dX4_isTalking_20 : decode cX4_isTalking 20 = .ok (.aaload, 1) := by decide +kernel
theorem dX4_isTalking_21 : decode cX4_isTalking 21 = .ok (.astore 5, 2) := by decide +kernel
theorem dX4_isTalking_23 : decode cX4_isTalking 23 = .ok (.aload 5, 2) := by decide +kernel
theorem dX4_isTalking_25 : decode cX4_isTalking 25 = .ok (.ifnull 31, 3) := by decide +kernel
theorem dX4_isTalking_28 : decode cX4_isTalking 28 = .ok (.aload 5, 2) := by decide +kernel
theorem dX4_isTalking_30 : decode cX4_isTalking 30 = .ok (.getfield 152, 3) := by decide +kernel
theorem dX4_isTalking_33 : decode cX4_isTalking 33 = .ok (.ifCond .ne 23, 3) := by decide +kernel
theorem dX4_isTalking_36 : decode cX4_isTalking 36 = .ok (.aload 5, 2) := by decide +kernel
theorem dX4_isTalking_38 : decode cX4_isTalking 38 = .ok (.getfield 215, 3) := by decide +kernel
theorem dX4_isTalking_41 : decode cX4_isTalking 41 = .ok (.aload_n 1, 1) := by decide +kernel
theorem dX4_isTalking_42 : decode cX4_isTalking 42 = .ok (.if_acmp .eq 12, 3) := by decide +kernel
theorem dX4_isTalking_45 : decode cX4_isTalking 45 = .ok (.aload 5, 2) := by decide +kernel
theorem dX4_isTalking_47 : decode cX4_isTalking 47 = .ok (.getfield 219, 3) := by decide +kernel
theorem dX4_isTalking_50 : decode cX4_isTalking 50 = .ok (.aload_n 1, 1) := by decide +kernel
theorem dX4_isTalking_51 : decode cX4_isTalking 51 = .ok (.if_acmp .ne 5, 3) := by decide +kernel
theorem dX4_isTalking_54 : decode cX4_isTalking 54 = .ok (.iconst 1, 1) := by decide +kernel
theorem dX4_isTalking_55 : decode cX4_isTalking 55 = .ok (.ireturn, 1) := by decide +kernel
theorem dX4_isTalking_56 : decode cX4_isTalking 56 = .ok (.iinc 4 1, 3) := by decide +kernel
theorem dX4_isTalking_59 : decode cX4_isTalking 59 = .ok (.goto (-48), 3) := by decide +kernel
theorem dX4_isTalking_62 : decode cX4_isTalking 62 = .ok (.iconst 0, 1) := by decide +kernel
theorem dX4_isTalking_63 : decode cX4_isTalking 63 = .ok (.ireturn, 1) := by decide +kernel
theorem dX4_newTalk_0 : decode cX4_newTalk 0 = .ok (.aload_n 1, 1) := by decide +kernel
theorem dX4_newTalk_1 : decode cX4_newTalk 1 = .ok (.iconst 0, 1) := by decide +kernel
theorem dX4_newTalk_2 : decode cX4_newTalk 2 = .ok (.invokevirtual 96, 3) := by decide +kernel
theorem dX4_newTalk_5 : decode cX4_newTalk 5 = .ok (.istore 4, 2) := by decide +kernel
theorem dX4_newTalk_7 : decode cX4_newTalk 7 = .ok (.iload 4, 2) := by decide +kernel
theorem dX4_newTalk_9 : decode cX4_newTalk 9 = .ok (.invokestatic 204, 3) := by decide +kernel
theorem dX4_newTalk_12 : decode cX4_newTalk 12 = .ok (.ifCond .eq 13, 3) := by decide +kernel
theorem dX4_newTalk_15 : decode cX4_newTalk 15 = .ok (.aload_n 0, 1) := by decide +kernel
theorem dX4_newTalk_16 : decode cX4_newTalk 16 = .ok (.getfield 9, 3) := by decide +kernel
theorem dX4_newTalk_19 : decode cX4_newTalk 19 = .ok (.iload 4, 2) := by decide +kernel
theorem dX4_newTalk_21 : decode cX4_newTalk 21 = .ok (.iaload, 1) := by decide +kernel
theorem dX4_newTalk_22 : decode cX4_newTalk 22 = .ok (.goto 4, 3) := by decide +kernel
theorem dX4_newTalk_25 : decode cX4_newTalk 25 = .ok (.iconst 1, 1) := by decide +kernel
theorem dX4_newTalk_26 : decode cX4_newTalk 26 = .ok (.istore 5, 2) := by decide +kernel
theorem dX4_newTalk_28 : decode cX4_newTalk 28 = .ok (.iload 4, 2) := by decide +kernel
theorem dX4_newTalk_30 : decode cX4_newTalk 30 = .ok (.invokestatic 204, 3) := by decide +kernel
theorem dX4_newTalk_33 : decode cX4_newTalk 33 = .ok (.ifCond .eq 13, 3) := by decide +kernel
theorem dX4_newTalk_36 : decode cX4_newTalk 36 = .ok (.aload_n 0, 1) := by decide +kernel
theorem dX4_newTalk_37 : decode cX4_newTalk 37 = .ok (.getfield 13, 3) := by decide +kernel
theorem dX4_newTalk_40 : decode cX4_newTalk 40 = .ok (.iload 4, 2) := by decide +kernel
theorem dX4_newTalk_42 : decode cX4_newTalk 42 = .ok (.iaload, 1) := by decide +kernel
theorem dX4_newTalk_43 : decode cX4_newTalk 43 = .ok (.goto 5, 3) := by decide +kernel
theorem dX4_newTalk_46 : decode cX4_newTalk 46 = .ok (.bipush 10, 2) := by decide +kernel
theorem dX4_newTalk_48 : decode cX4_newTalk 48 = .ok (.istore 6, 2) := by decide +kernel
theorem dX4_newTalk_50 : decode cX4_newTalk 50 = .ok (.new 29, 3) := by decide +kernel
theorem dX4_newTalk_53 : decode cX4_newTalk 53 = .ok (.dup, 1) := by decide +kernel
theorem dX4_newTalk_54 : decode cX4_newTalk 54 = .ok (.aload_n 1, 1) := by decide +kernel
theorem dX4_newTalk_55 : decode cX4_newTalk 55 = .ok (.aload_n 2, 1) := by decide +kernel
theorem dX4_newTalk_56 : decode cX4_newTalk 56 = .ok (.iload 5, 2) := by decide +kernel
theorem dX4_newTalk_58 : decode cX4_newTalk 58 = .ok (.iload 6, 2) := by decide +kernel
theorem dX4_newTalk_60 : decode cX4_newTalk 60 = .ok (.invokespecial 222, 3) := by decide +kernel
theorem dX4_newTalk_63 : decode cX4_newTalk 63 = .ok (.astore 7, 2) := by decide +kernel
theorem dX4_newTalk_65 : decode cX4_newTalk 65 = .ok (.aload 7, 2) := by decide +kernel
theorem dX4_newTalk_67 : decode cX4_newTalk 67 = .ok (.getfield 169, 3) := by decide +kernel
theorem dX4_newTalk_70 : decode cX4_newTalk 70 = .ok (.aload_n 3, 1) := by decide +kernel
theorem dX4_newTalk_71 : decode cX4_newTalk 71 = .ok (.invokevirtual 225, 3) := by decide +kernel
theorem dX4_newTalk_74 : decode cX4_newTalk 74 = .ok (.aload 7, 2) := by decide +kernel
theorem dX4_newTalk_76 : decode cX4_newTalk 76 = .ok (.areturn, 1) := by decide +kernel
theorem dX4_runOneMinute_0 : decode cX4_runOneMinute 0 = .ok (.aload_n 1, 1) := by decide +kernel
theorem dX4_runOneMinute_1 : decode cX4_runOneMinute 1 = .ok (.getfield 169, 3) := by decide +kernel
theorem dX4_runOneMinute_4 : decode cX4_runOneMinute 4 = .ok (.astore_n 2, 1) := by decide +kernel
theorem dX4_runOneMinute_5 : decode cX4_runOneMinute 5 = .ok (.aload_n 0, 1) := by decide +kernel
theorem dX4_runOneMinute_6 : decode cX4_runOneMinute 6 = .ok (.getfield 19, 3) := by decide +kernel
theorem dX4_runOneMinute_9 : decode cX4_runOneMinute 9 = .ok (.aload_n 2, 1) := by decide +kernel
theorem dX4_runOneMinute_10 : decode cX4_runOneMinute 10 = .ok (.invokevirtual 229, 3) := by decide +kernel
theorem dX4_runOneMinute_13 : decode cX4_runOneMinute 13 = .ok (.ifCond .ne 41, 3) := by decide +kernel
theorem dX4_runOneMinute_16 : decode cX4_runOneMinute 16 = .ok (.aload_n 0, 1) := by decide +kernel
theorem dX4_runOneMinute_17 : decode cX4_runOneMinute 17 = .ok (.getfield 19, 3) := by decide +kernel
theorem dX4_runOneMinute_20 : decode cX4_runOneMinute 20 = .ok (.aload_n 2, 1) := by decide +kernel
theorem dX4_runOneMinute_21 : decode cX4_runOneMinute 21 = .ok (.iconst 0, 1) := by decide +kernel
theorem dX4_runOneMinute_22 : decode cX4_runOneMinute 22 = .ok (.invokevirtual 172, 3) := by decide +kernel
theorem dX4_runOneMinute_25 : decode cX4_runOneMinute 25 = .ok (.aload_n 2, 1) := by decide +kernel
theorem dX4_runOneMinute_26 : decode cX4_runOneMinute 26 = .ok (.aload_n 2, 1) := by decide +kernel
theorem dX4_runOneMinute_27 : decode cX4_runOneMinute 27 = .ok (.getfield 233, 3) := by decide +kernel
theorem dX4_runOneMinute_30 : decode cX4_runOneMinute 30 = .ok (.iconst 1, 1) := by decide +kernel
theorem dX4_runOneMinute_31 : decode cX4_runOneMinute 31 = .ok (.isub, 1) := by decide +kernel
theorem dX4_runOneMinute_32 : decode cX4_runOneMinute 32 = .ok (.invokevirtual 172, 3) := by decide +kernel
theorem dX4_runOneMinute_35 : decode cX4_runOneMinute 35 = .ok (.aload_n 2, 1) := by decide +kernel
theorem dX4_runOneMinute_36 : decode cX4_runOneMinute 36 = .ok (.invokevirtual 138, 3) := by decide +kernel
theorem dX4_runOneMinute_39 : decode cX4_runOneMinute 39 = .ok (.ifCond .ne 5, 3) := by decide +kernel
theorem dX4_runOneMinute_42 : decode cX4_runOneMinute 42 = .ok (.iconst 0, 1) := by decide +kernel
theorem dX4_runOneMinute_43 : decode cX4_runOneMinute 43 = .ok (.ireturn, 1) := by decide +kernel
theorem dX4_runOneMinute_44 : decode cX4_runOneMinute 44 = .ok (.aload_n 1, 1) := by decide +kernel
theorem dX4_runOneMinute_45 : decode cX4_runOneMinute 45 = .ok (.dup, 1) := by decide +kernel
theorem dX4_runOneMinute_46 : decode cX4_runOneMinute 46 = .ok (.getfield 166, 3) := by decide +kernel
theorem dX4_runOneMinute_49 : decode cX4_runOneMinute 49 = .ok (.iconst 1, 1) := by decide +kernel
theorem dX4_runOneMinute_50 : decode cX4_runOneMinute 50 = .ok (.iadd, 1) := by decide +kernel
theorem dX4_runOneMinute_51 : decode cX4_runOneMinute 51 = .ok (.putfield 166, 3) := by decide +kernel
theorem dX4_runOneMinute_54 : decode cX4_runOneMinute 54 = .ok (.aload_n 1, 1) := by decide +kernel
theorem dX4_runOneMinute_55 : decode cX4_runOneMinute 55 = .ok (.invokevirtual 236, 3) := by decide +kernel
theorem dX4_runOneMinute_58 : decode cX4_runOneMinute 58 = .ok (.ifCond .eq 23, 3) := by decide +kernel
theorem dX4_runOneMinute_61 : decode cX4_runOneMinute 61 = .ok (.aload_n 1, 1) := by decide +kernel
theorem dX4_runOneMinute_62 : decode cX4_runOneMinute 62 = .ok (.getfield 215, 3) := by decide +kernel
theorem dX4_runOneMinute_65 : decode cX4_runOneMinute 65 = .ok (.aload_n 1, 1) := by decide +kernel
theorem dX4_runOneMinute_66 : decode cX4_runOneMinute 66 = .ok (.getfield 240, 3) := by decide +kernel
theorem dX4_runOneMinute_69 : decode cX4_runOneMinute 69 = .ok (.aload_n 1, 1) := by decide +kernel
theorem dX4_runOneMinute_70 : decode cX4_runOneMinute 70 = .ok (.getfield 243, 3) := by decide +kernel
theorem dX4_runOneMinute_73 : decode cX4_runOneMinute 73 = .ok (.invokevirtual 246, 3) := by decide +kernel
theorem dX4_runOneMinute_76 : decode cX4_runOneMinute 76 = .ok (.ifCond .ne 5, 3) := by decide +kernel
theorem dX4_runOneMinute_79 : decode cX4_runOneMinute 79 = .ok (.iconst 0, 1) := by decide +kernel
theorem dX4_runOneMinute_80 : decode cX4_runOneMinute 80 = .ok (.ireturn, 1) := by decide +kernel
theorem dX4_runOneMinute_81 : decode cX4_runOneMinute 81 = .ok (.aload_n 0, 1) := by decide +kernel
theorem dX4_runOneMinute_82 : decode cX4_runOneMinute 82 = .ok (.getfield 19, 3) := by decide +kernel
theorem dX4_runOneMinute_85 : decode cX4_runOneMinute 85 = .ok (.aload_n 1, 1) := by decide +kernel
theorem dX4_runOneMinute_86 : decode cX4_runOneMinute 86 = .ok (.invokevirtual 249, 3) := by decide +kernel
theorem dX4_runOneMinute_89 : decode cX4_runOneMinute 89 = .ok (.aload_n 1, 1) := by decide +kernel
theorem dX4_runOneMinute_90 : decode cX4_runOneMinute 90 = .ok (.dup, 1) := by decide +kernel
theorem dX4_runOneMinute_91 : decode cX4_runOneMinute 91 = .ok (.getfield 157, 3) := by decide +kernel
theorem dX4_runOneMinute_94 : decode cX4_runOneMinute 94 = .ok (.iconst 1, 1) := by decide +kernel
theorem dX4_runOneMinute_95 : decode cX4_runOneMinute 95 = .ok (.iadd, 1) := by decide +kernel
theorem dX4_runOneMinute_96 : decode cX4_runOneMinute 96 = .ok (.putfield 157, 3) := by decide +kernel
theorem dX4_runOneMinute_99 : decode cX4_runOneMinute 99 = .ok (.iconst 1, 1) := by decide +kernel
theorem dX4_runOneMinute_100 : decode cX4_runOneMinute 100 = .ok (.ireturn, 1) := by decide +kernel
end
section
theorem dL_cell_0 : decode cL_cell 0 = .ok (.iload_n 1, 1) := by decide +kernel
theorem dL_cell_1 : decode cL_cell 1 = .ok (.aload_n 0, 1) := by decide +kernel
theorem dL_cell_2 : decode cL_cell 2 = .ok (.arraylength, 1) := by decide +kernel
theorem dL_cell_3 : decode cL_cell 3 = .ok (.if_icmp .ge 9, 3) := by decide +kernel
theorem dL_cell_6 : decode cL_cell 6 = .ok (.aload_n 0, 1) := by decide +kernel
theorem dL_cell_7 : decode cL_cell 7 = .ok (.iload_n 1, 1) := by decide +kernel
theorem dL_cell_8 : decode cL_cell 8 = .ok (.iaload, 1) := by decide +kernel
theorem dL_cell_9 : decode cL_cell 9 = .ok (.goto 12, 3) := by decide +kernel
theorem dL_cell_12 : decode cL_cell 12 = .ok (.ldc 7, 2) := by decide +kernel
theorem dL_cell_14 : decode cL_cell 14 = .ok (.iload_n 1, 1) := by decide +kernel
theorem dL_cell_15 : decode cL_cell 15 = .ok (.iconst 1, 1) := by decide +kernel
theorem dL_cell_16 : decode cL_cell 16 = .ok (.iadd, 1) := by decide +kernel
theorem dL_cell_17 : decode cL_cell 17 = .ok (.imul, 1) := by decide +kernel
theorem dL_cell_18 : decode cL_cell 18 = .ok (.ldc 8, 2) := by decide +kernel
theorem dL_cell_20 : decode cL_cell 20 = .ok (.iadd, 1) := by decide +kernel
theorem dL_cell_21 : decode cL_cell 21 = .ok (.ireturn, 1) := by decide +kernel
theorem dL_low_0 : decode cL_low 0 = .ok (.iload_n 0, 1) := by decide +kernel
theorem dL_low_1 : decode cL_low 1 = .ok (.ldc 9, 2) := by decide +kernel
theorem dL_low_3 : decode cL_low 3 = .ok (.iand, 1) := by decide +kernel
theorem dL_low_4 : decode cL_low 4 = .ok (.iload_n 1, 1) := by decide +kernel
theorem dL_low_5 : decode cL_low 5 = .ok (.irem, 1) := by decide +kernel
theorem dL_low_6 : decode cL_low 6 = .ok (.ireturn, 1) := by decide +kernel
theorem dL_shut_0 : decode cL_shut 0 = .ok (.iconst 2, 1) := by decide +kernel
theorem dL_shut_1 : decode cL_shut 1 = .ok (.iconst 5, 1) := by decide +kernel
theorem dL_shut_2 : decode cL_shut 2 = .ok (.iload_n 0, 1) := by decide +kernel
theorem dL_shut_3 : decode cL_shut 3 = .ok (.imul, 1) := by decide +kernel
theorem dL_shut_4 : decode cL_shut 4 = .ok (.iload_n 1, 1) := by decide +kernel
theorem dL_shut_5 : decode cL_shut 5 = .ok (.iadd, 1) := by decide +kernel
theorem dL_shut_6 : decode cL_shut 6 = .ok (.imul, 1) := by decide +kernel
theorem dL_shut_7 : decode cL_shut 7 = .ok (.istore 4, 2) := by decide +kernel
theorem dL_shut_9 : decode cL_shut 9 = .ok (.aload_n 2, 1) := by decide +kernel
theorem dL_shut_10 : decode cL_shut 10 = .ok (.iload 4, 2) := by decide +kernel
theorem dL_shut_12 : decode cL_shut 12 = .ok (.iaload, 1) := by decide +kernel
theorem dL_shut_13 : decode cL_shut 13 = .ok (.ifCond .lt 27, 3) := by decide +kernel
theorem dL_shut_16 : decode cL_shut 16 = .ok (.aload_n 3, 1) := by decide +kernel
theorem dL_shut_17 : decode cL_shut 17 = .ok (.iconst 5, 1) := by decide +kernel
theorem dL_shut_18 : decode cL_shut 18 = .ok (.iload_n 0, 1) := by decide +kernel
theorem dL_shut_19 : decode cL_shut 19 = .ok (.imul, 1) := by decide +kernel
theorem dL_shut_20 : decode cL_shut 20 = .ok (.iload_n 1, 1) := by decide +kernel
theorem dL_shut_21 : decode cL_shut 21 = .ok (.iadd, 1) := by decide +kernel
theorem dL_shut_22 : decode cL_shut 22 = .ok (.laload, 1) := by decide +kernel
theorem dL_shut_23 : decode cL_shut 23 = .ok (.aload_n 2, 1) := by decide +kernel
theorem dL_shut_24 : decode cL_shut 24 = .ok (.iload 4, 2) := by decide +kernel
theorem dL_shut_26 : decode cL_shut 26 = .ok (.iaload, 1) := by decide +kernel
theorem dL_shut_27 : decode cL_shut 27 = .ok (.i2l, 1) := by decide +kernel
theorem dL_shut_28 : decode cL_shut 28 = .ok (.ladd, 1) := by decide +kernel
theorem dL_shut_29 : decode cL_shut 29 = .ok (.aload_n 2, 1) := by decide +kernel
theorem dL_shut_30 : decode cL_shut 30 = .ok (.iload 4, 2) := by decide +kernel
theorem dL_shut_32 : decode cL_shut 32 = .ok (.iconst 1, 1) := by decide +kernel
theorem dL_shut_33 : decode cL_shut 33 = .ok (.iadd, 1) := by decide +kernel
theorem dL_shut_34 : decode cL_shut 34 = .ok (.iaload, 1) := by decide +kernel
theorem dL_shut_35 : decode cL_shut 35 = .ok (.i2l, 1) := by decide +kernel
theorem dL_shut_36 : decode cL_shut 36 = .ok (.lcmp, 1) := by decide +kernel
theorem dL_shut_37 : decode cL_shut 37 = .ok (.ifCond .le 7, 3) := by decide +kernel
theorem dL_shut_40 : decode cL_shut 40 = .ok (.iconst 1, 1) := by decide +kernel
theorem dL_shut_41 : decode cL_shut 41 = .ok (.goto 4, 3) := by decide +kernel
theorem dL_shut_44 : decode cL_shut 44 = .ok (.iconst 0, 1) := by decide +kernel
theorem dL_shut_45 : decode cL_shut 45 = .ok (.ireturn, 1) := by decide +kernel
theorem dL_best_0 : decode cL_best 0 = .ok (.iconst 0, 1) := by decide +kernel
theorem dL_best_1 : decode cL_best 1 = .ok (.istore 4, 2) := by decide +kernel
theorem dL_best_3 : decode cL_best 3 = .ok (.ldc 10, 2) := by decide +kernel
theorem dL_best_5 : decode cL_best 5 = .ok (.istore 5, 2) := by decide +kernel
theorem dL_best_7 : decode cL_best 7 = .ok (.iload_n 0, 1) := by decide +kernel
theorem dL_best_8 : decode cL_best 8 = .ok (.iload_n 1, 1) := by decide +kernel
theorem dL_best_9 : decode cL_best 9 = .ok (.if_icmp .ne 7, 3) := by decide +kernel
theorem dL_best_12 : decode cL_best 12 = .ok (.iload_n 0, 1) := by decide +kernel
theorem dL_best_13 : decode cL_best 13 = .ok (.iconst 1, 1) := by decide +kernel
theorem dL_best_14 : decode cL_best 14 = .ok (.iadd, 1) := by decide +kernel
theorem dL_best_15 : decode cL_best 15 = .ok (.ireturn, 1) := by decide +kernel
theorem dL_best_16 : decode cL_best 16 = .ok (.iconst 0, 1) := by decide +kernel
theorem dL_best_17 : decode cL_best 17 = .ok (.istore 6, 2) := by decide +kernel
theorem dL_best_19 : decode cL_best 19 = .ok (.iload 6, 2) := by decide +kernel
theorem dL_best_21 : decode cL_best 21 = .ok (.iconst 4, 1) := by decide +kernel
theorem dL_best_22 : decode cL_best 22 = .ok (.if_icmp .ge 249, 3) := by decide +kernel
theorem dL_best_25 : decode cL_best 25 = .ok (.iload 6, 2) := by decide +kernel
theorem dL_best_27 : decode cL_best 27 = .ok (.ifCond .ne 7, 3) := by decide +kernel
theorem dL_best_30 : decode cL_best 30 = .ok (.iconst 1, 1) := by decide +kernel
theorem dL_best_31 : decode cL_best 31 = .ok (.goto 26, 3) := by decide +kernel
theorem dL_best_34 : decode cL_best 34 = .ok (.iload 6, 2) := by decide +kernel
theorem dL_best_36 : decode cL_best 36 = .ok (.iconst 1, 1) := by decide +kernel
theorem dL_best_37 : decode cL_best 37 = .ok (.if_icmp .ne 7, 3) := by decide +kernel
theorem dL_best_40 : decode cL_best 40 = .ok (.iconst 5, 1) := by decide +kernel
theorem dL_best_41 : decode cL_best 41 = .ok (.goto 16, 3) := by decide +kernel
theorem dL_best_44 : decode cL_best 44 = .ok (.iload 6, 2) := by decide +kernel
theorem dL_best_46 : decode cL_best 46 = .ok (.iconst 2, 1) := by decide +kernel
theorem dL_best_47 : decode cL_best 47 = .ok (.if_icmp .ne 8, 3) := by decide +kernel
theorem dL_best_50 : decode cL_best 50 = .ok (.bipush 25, 2) := by decide +kernel
theorem dL_best_52 : decode cL_best 52 = .ok (.goto 5, 3) := by decide +kernel
theorem dL_best_55 : decode cL_best 55 = .ok (.bipush 125, 2) := by decide +kernel
theorem dL_best_57 : decode cL_best 57 = .ok (.istore 7, 2) := by decide +kernel
theorem dL_best_59 : decode cL_best 59 = .ok (.iconst 0, 1) := by decide +kernel
theorem dL_best_60 : decode cL_best 60 = .ok (.istore 8, 2) := by decide +kernel
theorem dL_best_62 : decode cL_best 62 = .ok (.iload 8, 2) := by decide +kernel
theorem dL_best_64 : decode cL_best 64 = .ok (.iload 7, 2) := by decide +kernel
theorem dL_best_66 : decode cL_best 66 = .ok (.if_icmp .ge 199, 3) := by decide +kernel
theorem dL_best_69 : decode cL_best 69 = .ok (.iconst 1, 1) := by decide +kernel
theorem dL_best_70 : decode cL_best 70 = .ok (.iload_n 0, 1) := by decide +kernel
theorem dL_best_71 : decode cL_best 71 = .ok (.ishl, 1) := by decide +kernel
theorem dL_best_72 : decode cL_best 72 = .ok (.iconst 1, 1) := by decide +kernel
theorem dL_best_73 : decode cL_best 73 = .ok (.iload_n 1, 1) := by decide +kernel
theorem dL_best_74 : decode cL_best 74 = .ok (.ishl, 1) := by decide +kernel
theorem dL_best_75 : decode cL_best 75 = .ok (.ior, 1) := by decide +kernel
theorem dL_best_76 : decode cL_best 76 = .ok (.istore 9, 2) := by decide +kernel
theorem dL_best_78 : decode cL_best 78 = .ok (.iload_n 0, 1) := by decide +kernel
theorem dL_best_79 : decode cL_best 79 = .ok (.istore 10, 2) := by decide +kernel
theorem dL_best_81 : decode cL_best 81 = .ok (.iconst 0, 1) := by decide +kernel
theorem dL_best_82 : decode cL_best 82 = .ok (.istore 11, 2) := by decide +kernel
theorem dL_best_84 : decode cL_best 84 = .ok (.iload_n 0, 1) := by decide +kernel
theorem dL_best_85 : decode cL_best 85 = .ok (.iconst 1, 1) := by decide +kernel
theorem dL_best_86 : decode cL_best 86 = .ok (.iadd, 1) := by decide +kernel
theorem dL_best_87 : decode cL_best 87 = .ok (.istore 12, 2) := by decide +kernel
theorem dL_best_89 : decode cL_best 89 = .ok (.iload 7, 2) := by decide +kernel
theorem dL_best_91 : decode cL_best 91 = .ok (.iconst 5, 1) := by decide +kernel
theorem dL_best_92 : decode cL_best 92 = .ok (.idiv, 1) := by decide +kernel
theorem dL_best_93 : decode cL_best 93 = .ok (.istore 13, 2) := by decide +kernel
theorem dL_best_95 : decode cL_best 95 = .ok (.iconst 1, 1) := by decide +kernel
theorem dL_best_96 : decode cL_best 96 = .ok (.istore 14, 2) := by decide +kernel
theorem dL_best_98 : decode cL_best 98 = .ok (.iconst 0, 1) := by decide +kernel
theorem dL_best_99 : decode cL_best 99 = .ok (.istore 15, 2) := by decide +kernel
theorem dL_best_101 : decode cL_best 101 = .ok (.iload 15, 2) := by decide +kernel
theorem dL_best_103 : decode cL_best 103 = .ok (.iload 6, 2) := by decide +kernel
theorem dL_best_105 : decode cL_best 105 = .ok (.if_icmp .gt 131, 3) := by decide +kernel
theorem dL_best_108 : decode cL_best 108 = .ok (.iload 14, 2) := by decide +kernel
theorem dL_best_110 : decode cL_best 110 = .ok (.ifCond .eq 126, 3) := by decide +kernel
theorem dL_best_113 : decode cL_best 113 = .ok (.iload 15, 2) := by decide +kernel
theorem dL_best_115 : decode cL_best 115 = .ok (.iload 6, 2) := by decide +kernel
theorem dL_best_117 : decode cL_best 117 = .ok (.if_icmp .ne 7, 3) := by decide +kernel
theorem dL_best_120 : decode cL_best 120 = .ok (.iload_n 1, 1) := by decide +kernel
theorem dL_best_121 : decode cL_best 121 = .ok (.goto 10, 3) := by decide +kernel
theorem dL_best_124 : decode cL_best 124 = .ok (.iload 8, 2) := by decide +kernel
theorem dL_best_126 : decode cL_best 126 = .ok (.iload 13, 2) := by decide +kernel
theorem dL_best_128 : decode cL_best 128 = .ok (.idiv, 1) := by decide +kernel
theorem dL_best_129 : decode cL_best 129 = .ok (.iconst 5, 1) := by decide +kernel
theorem dL_best_130 : decode cL_best 130 = .ok (.irem, 1) := by decide +kernel
theorem dL_best_131 : decode cL_best 131 = .ok (.istore 16, 2) := by decide +kernel
theorem dL_best_133 : decode cL_best 133 = .ok (.iload 15, 2) := by decide +kernel
theorem dL_best_135 : decode cL_best 135 = .ok (.iload 6, 2) := by decide +kernel
theorem dL_best_137 : decode cL_best 137 = .ok (.if_icmp .eq 13, 3) := by decide +kernel
theorem dL_best_140 : decode cL_best 140 = .ok (.iload 9, 2) := by decide +kernel
theorem dL_best_142 : decode cL_best 142 = .ok (.iload 16, 2) := by decide +kernel
theorem dL_best_144 : decode cL_best 144 = .ok (.ishr, 1) := by decide +kernel
theorem dL_best_145 : decode cL_best 145 = .ok (.iconst 1, 1) := by decide +kernel
theorem dL_best_146 : decode cL_best 146 = .ok (.iand, 1) := by decide +kernel
theorem dL_best_147 : decode cL_best 147 = .ok (.ifCond .ne 19, 3) := by decide +kernel
theorem dL_best_150 : decode cL_best 150 = .ok (.iload 10, 2) := by decide +kernel
theorem dL_best_152 : decode cL_best 152 = .ok (.iload 16, 2) := by decide +kernel
theorem dL_best_154 : decode cL_best 154 = .ok (.aload_n 2, 1) := by decide +kernel
theorem dL_best_155 : decode cL_best 155 = .ok (.aload_n 3, 1) := by decide +kernel
theorem dL_best_156 : decode cL_best 156 = .ok (.invokestatic 11, 3) := by decide +kernel
theorem dL_best_159 : decode cL_best 159 = .ok (.ifCond .ne 7, 3) := by decide +kernel
theorem dL_best_162 : decode cL_best 162 = .ok (.iconst 1, 1) := by decide +kernel
theorem dL_best_163 : decode cL_best 163 = .ok (.goto 4, 3) := by decide +kernel
theorem dL_best_166 : decode cL_best 166 = .ok (.iconst 0, 1) := by decide +kernel
theorem dL_best_167 : decode cL_best 167 = .ok (.istore 14, 2) := by decide +kernel
theorem dL_best_169 : decode cL_best 169 = .ok (.iload 9, 2) := by decide +kernel
theorem dL_best_171 : decode cL_best 171 = .ok (.iconst 1, 1) := by decide +kernel
theorem dL_best_172 : decode cL_best 172 = .ok (.iload 16, 2) := by decide +kernel
theorem dL_best_174 : decode cL_best 174 = .ok (.ishl, 1) := by decide +kernel
theorem dL_best_175 : decode cL_best 175 = .ok (.ior, 1) := by decide +kernel
theorem dL_best_176 : decode cL_best 176 = .ok (.istore 9, 2) := by decide +kernel
theorem dL_best_178 : decode cL_best 178 = .ok (.iload 11, 2) := by decide +kernel
theorem dL_best_180 : decode cL_best 180 = .ok (.aload_n 2, 1) := by decide +kernel
theorem dL_best_181 : decode cL_best 181 = .ok (.iconst 2, 1) := by decide +kernel
theorem dL_best_182 : decode cL_best 182 = .ok (.iconst 5, 1) := by decide +kernel
theorem dL_best_183 : decode cL_best 183 = .ok (.iload 10, 2) := by decide +kernel
theorem dL_best_185 : decode cL_best 185 = .ok (.imul, 1) := by decide +kernel
theorem dL_best_186 : decode cL_best 186 = .ok (.iload 16, 2) := by decide +kernel
theorem dL_best_188 : decode cL_best 188 = .ok (.iadd, 1) := by decide +kernel
theorem dL_best_189 : decode cL_best 189 = .ok (.imul, 1) := by decide +kernel
theorem dL_best_190 : decode cL_best 190 = .ok (.iaload, 1) := by decide +kernel
theorem dL_best_191 : decode cL_best 191 = .ok (.iadd, 1) := by decide +kernel
theorem dL_best_192 : decode cL_best 192 = .ok (.istore 11, 2) := by decide +kernel
theorem dL_best_194 : decode cL_best 194 = .ok (.iload 16, 2) := by decide +kernel
theorem dL_best_196 : decode cL_best 196 = .ok (.istore 10, 2) := by decide +kernel
theorem dL_best_198 : decode cL_best 198 = .ok (.iload 12, 2) := by decide +kernel
theorem dL_best_200 : decode cL_best 200 = .ok (.iload 16, 2) := by decide +kernel
theorem dL_best_202 : decode cL_best 202 = .ok (.iconst 1, 1) := by decide +kernel
theorem dL_best_203 : decode cL_best 203 = .ok (.iadd, 1) := by decide +kernel
theorem dL_best_204 : decode cL_best 204 = .ok (.iconst 3, 1) := by decide +kernel
theorem dL_best_205 : decode cL_best 205 = .ok (.iload 15, 2) := by decide +kernel
theorem dL_best_207 : decode cL_best 207 = .ok (.iconst 1, 1) := by decide +kernel
theorem dL_best_208 : decode cL_best 208 = .ok (.iadd, 1) := by decide +kernel
theorem dL_best_209 : decode cL_best 209 = .ok (.imul, 1) := by decide +kernel
theorem dL_best_210 : decode cL_best 210 = .ok (.ishl, 1) := by decide +kernel
theorem dL_best_211 : decode cL_best 211 = .ok (.ior, 1) := by decide +kernel
theorem dL_best_212 : decode cL_best 212 = .ok (.istore 12, 2) := by decide +kernel
theorem dL_best_214 : decode cL_best 214 = .ok (.iload 13, 2) := by decide +kernel
theorem dL_best_216 : decode cL_best 216 = .ok (.iconst 4, 1) := by decide +kernel
theorem dL_best_217 : decode cL_best 217 = .ok (.if_icmp .le 10, 3) := by decide +kernel
theorem dL_best_220 : decode cL_best 220 = .ok (.iload 13, 2) := by decide +kernel
theorem dL_best_222 : decode cL_best 222 = .ok (.iconst 5, 1) := by decide +kernel
theorem dL_best_223 : decode cL_best 223 = .ok (.idiv, 1) := by decide +kernel
theorem dL_best_224 : decode cL_best 224 = .ok (.goto 4, 3) := by decide +kernel
theorem dL_best_227 : decode cL_best 227 = .ok (.iconst 1, 1) := by decide +kernel
theorem dL_best_228 : decode cL_best 228 = .ok (.istore 13, 2) := by decide +kernel
theorem dL_best_230 : decode cL_best 230 = .ok (.iinc 15 1, 3) := by decide +kernel
theorem dL_best_233 : decode cL_best 233 = .ok (.goto (-132), 3) := by decide +kernel
theorem dL_best_236 : decode cL_best 236 = .ok (.iload 14, 2) := by decide +kernel
theorem dL_best_238 : decode cL_best 238 = .ok (.ifCond .eq 21, 3) := by decide +kernel
theorem dL_best_241 : decode cL_best 241 = .ok (.iload 11, 2) := by decide +kernel
theorem dL_best_243 : decode cL_best 243 = .ok (.iload 5, 2) := by decide +kernel
theorem dL_best_245 : decode cL_best 245 = .ok (.if_icmp .lt 6, 3) := by decide +kernel
theorem dL_best_248 : decode cL_best 248 = .ok (.goto 11, 3) := by decide +kernel
theorem dL_best_251 : decode cL_best 251 = .ok (.iload 11, 2) := by decide +kernel
theorem dL_best_253 : decode cL_best 253 = .ok (.istore 5, 2) := by decide +kernel
theorem dL_best_255 : decode cL_best 255 = .ok (.iload 12, 2) := by decide +kernel
theorem dL_best_257 : decode cL_best 257 = .ok (.istore 4, 2) := by decide +kernel
theorem dL_best_259 : decode cL_best 259 = .ok (.iinc 8 1, 3) := by decide +kernel
theorem dL_best_262 : decode cL_best 262 = .ok (.goto (-200), 3) := by decide +kernel
theorem dL_best_265 : decode cL_best 265 = .ok (.iinc 6 1, 3) := by decide +kernel
theorem dL_best_268 : decode cL_best 268 = .ok (.goto (-249), 3) := by decide +kernel
theorem dL_best_271 : decode cL_best 271 = .ok (.iload 4, 2) := by decide +kernel
theorem dL_best_273 : decode cL_best 273 = .ok (.ireturn, 1) := by decide +kernel
theorem dL_cost_0 : decode cL_cost 0 = .ok (.iconst 0, 1) := by decide +kernel
theorem dL_cost_1 : decode cL_cost 1 = .ok (.istore_n 2, 1) := by decide +kernel
theorem dL_cost_2 : decode cL_cost 2 = .ok (.iconst 1, 1) := by decide +kernel
theorem dL_cost_3 : decode cL_cost 3 = .ok (.istore_n 3, 1) := by decide +kernel
theorem dL_cost_4 : decode cL_cost 4 = .ok (.iload_n 0, 1) := by decide +kernel
theorem dL_cost_5 : decode cL_cost 5 = .ok (.iconst 3, 1) := by decide +kernel
theorem dL_cost_6 : decode cL_cost 6 = .ok (.iload_n 3, 1) := by decide +kernel
theorem dL_cost_7 : decode cL_cost 7 = .ok (.imul, 1) := by decide +kernel
theorem dL_cost_8 : decode cL_cost 8 = .ok (.ishr, 1) := by decide +kernel
theorem dL_cost_9 : decode cL_cost 9 = .ok (.ifCond .le 41, 3) := by decide +kernel
theorem dL_cost_12 : decode cL_cost 12 = .ok (.iload_n 2, 1) := by decide +kernel
theorem dL_cost_13 : decode cL_cost 13 = .ok (.aload_n 1, 1) := by decide +kernel
theorem dL_cost_14 : decode cL_cost 14 = .ok (.iconst 2, 1) := by decide +kernel
theorem dL_cost_15 : decode cL_cost 15 = .ok (.iconst 5, 1) := by decide +kernel
theorem dL_cost_16 : decode cL_cost 16 = .ok (.iload_n 0, 1) := by decide +kernel
theorem dL_cost_17 : decode cL_cost 17 = .ok (.iconst 3, 1) := by decide +kernel
theorem dL_cost_18 : decode cL_cost 18 = .ok (.iload_n 3, 1) := by decide +kernel
theorem dL_cost_19 : decode cL_cost 19 = .ok (.imul, 1) := by decide +kernel
theorem dL_cost_20 : decode cL_cost 20 = .ok (.iconst 3, 1) := by decide +kernel
theorem dL_cost_21 : decode cL_cost 21 = .ok (.isub, 1) := by decide +kernel
theorem dL_cost_22 : decode cL_cost 22 = .ok (.ishr, 1) := by decide +kernel
theorem dL_cost_23 : decode cL_cost 23 = .ok (.bipush 7, 2) := by decide +kernel
theorem dL_cost_25 : decode cL_cost 25 = .ok (.iand, 1) := by decide +kernel
theorem dL_cost_26 : decode cL_cost 26 = .ok (.iconst 1, 1) := by decide +kernel
theorem dL_cost_27 : decode cL_cost 27 = .ok (.isub, 1) := by decide +kernel
theorem dL_cost_28 : decode cL_cost 28 = .ok (.imul, 1) := by decide +kernel
theorem dL_cost_29 : decode cL_cost 29 = .ok (.iload_n 0, 1) := by decide +kernel
theorem dL_cost_30 : decode cL_cost 30 = .ok (.iconst 3, 1) := by decide +kernel
theorem dL_cost_31 : decode cL_cost 31 = .ok (.iload_n 3, 1) := by decide +kernel
theorem dL_cost_32 : decode cL_cost 32 = .ok (.imul, 1) := by decide +kernel
theorem dL_cost_33 : decode cL_cost 33 = .ok (.ishr, 1) := by decide +kernel
theorem dL_cost_34 : decode cL_cost 34 = .ok (.bipush 7, 2) := by decide +kernel
theorem dL_cost_36 : decode cL_cost 36 = .ok (.iand, 1) := by decide +kernel
theorem dL_cost_37 : decode cL_cost 37 = .ok (.iadd, 1) := by decide +kernel
theorem dL_cost_38 : decode cL_cost 38 = .ok (.iconst 1, 1) := by decide +kernel
theorem dL_cost_39 : decode cL_cost 39 = .ok (.isub, 1) := by decide +kernel
theorem dL_cost_40 : decode cL_cost 40 = .ok (.imul, 1) := by decide +kernel
theorem dL_cost_41 : decode cL_cost 41 = .ok (.iaload, 1) := by decide +kernel
theorem dL_cost_42 : decode cL_cost 42 = .ok (.iadd, 1) := by decide +kernel
theorem dL_cost_43 : decode cL_cost 43 = .ok (.istore_n 2, 1) := by decide +kernel
theorem dL_cost_44 : decode cL_cost 44 = .ok (.iinc 3 1, 3) := by decide +kernel
theorem dL_cost_47 : decode cL_cost 47 = .ok (.goto (-43), 3) := by decide +kernel
theorem dL_cost_50 : decode cL_cost 50 = .ok (.iload_n 2, 1) := by decide +kernel
theorem dL_cost_51 : decode cL_cost 51 = .ok (.ireturn, 1) := by decide +kernel
theorem dL_end_0 : decode cL_end 0 = .ok (.iconst 0, 1) := by decide +kernel
theorem dL_end_1 : decode cL_end 1 = .ok (.istore_n 1, 1) := by decide +kernel
theorem dL_end_2 : decode cL_end 2 = .ok (.iload_n 0, 1) := by decide +kernel
theorem dL_end_3 : decode cL_end 3 = .ok (.iconst 3, 1) := by decide +kernel
theorem dL_end_4 : decode cL_end 4 = .ok (.iload_n 1, 1) := by decide +kernel
theorem dL_end_5 : decode cL_end 5 = .ok (.imul, 1) := by decide +kernel
theorem dL_end_6 : decode cL_end 6 = .ok (.iconst 3, 1) := by decide +kernel
theorem dL_end_7 : decode cL_end 7 = .ok (.iadd, 1) := by decide +kernel
theorem dL_end_8 : decode cL_end 8 = .ok (.ishr, 1) := by decide +kernel
theorem dL_end_9 : decode cL_end 9 = .ok (.ifCond .le 9, 3) := by decide +kernel
theorem dL_end_12 : decode cL_end 12 = .ok (.iinc 1 1, 3) := by decide +kernel
theorem dL_end_15 : decode cL_end 15 = .ok (.goto (-13), 3) := by decide +kernel
theorem dL_end_18 : decode cL_end 18 = .ok (.iload_n 0, 1) := by decide +kernel
theorem dL_end_19 : decode cL_end 19 = .ok (.iconst 3, 1) := by decide +kernel
theorem dL_end_20 : decode cL_end 20 = .ok (.iload_n 1, 1) := by decide +kernel
theorem dL_end_21 : decode cL_end 21 = .ok (.imul, 1) := by decide +kernel
theorem dL_end_22 : decode cL_end 22 = .ok (.ishr, 1) := by decide +kernel
theorem dL_end_23 : decode cL_end 23 = .ok (.bipush 7, 2) := by decide +kernel
theorem dL_end_25 : decode cL_end 25 = .ok (.iand, 1) := by decide +kernel
theorem dL_end_26 : decode cL_end 26 = .ok (.iconst 1, 1) := by decide +kernel
theorem dL_end_27 : decode cL_end 27 = .ok (.isub, 1) := by decide +kernel
theorem dL_end_28 : decode cL_end 28 = .ok (.ireturn, 1) := by decide +kernel
theorem dL_busy_0 : decode cL_busy 0 = .ok (.iconst 0, 1) := by decide +kernel
theorem dL_busy_1 : decode cL_busy 1 = .ok (.istore_n 3, 1) := by decide +kernel
theorem dL_busy_2 : decode cL_busy 2 = .ok (.iload_n 3, 1) := by decide +kernel
theorem dL_busy_3 : decode cL_busy 3 = .ok (.aload_n 2, 1) := by decide +kernel
theorem dL_busy_4 : decode cL_busy 4 = .ok (.iconst 1, 1) := by decide +kernel
theorem dL_busy_5 : decode cL_busy 5 = .ok (.iaload, 1) := by decide +kernel
theorem dL_busy_6 : decode cL_busy 6 = .ok (.if_icmp .ge 44, 3) := by decide +kernel
theorem dL_busy_9 : decode cL_busy 9 = .ok (.aload_n 1, 1) := by decide +kernel
theorem dL_busy_10 : decode cL_busy 10 = .ok (.bipush 8, 2) := by decide +kernel
theorem dL_busy_12 : decode cL_busy 12 = .ok (.iload_n 3, 1) := by decide +kernel
theorem dL_busy_13 : decode cL_busy 13 = .ok (.imul, 1) := by decide +kernel
theorem dL_busy_14 : decode cL_busy 14 = .ok (.iconst 2, 1) := by decide +kernel
theorem dL_busy_15 : decode cL_busy 15 = .ok (.iadd, 1) := by decide +kernel
theorem dL_busy_16 : decode cL_busy 16 = .ok (.iaload, 1) := by decide +kernel
theorem dL_busy_17 : decode cL_busy 17 = .ok (.ifCond .ne 27, 3) := by decide +kernel
theorem dL_busy_20 : decode cL_busy 20 = .ok (.aload_n 1, 1) := by decide +kernel
theorem dL_busy_21 : decode cL_busy 21 = .ok (.bipush 8, 2) := by decide +kernel
theorem dL_busy_23 : decode cL_busy 23 = .ok (.iload_n 3, 1) := by decide +kernel
theorem dL_busy_24 : decode cL_busy 24 = .ok (.imul, 1) := by decide +kernel
theorem dL_busy_25 : decode cL_busy 25 = .ok (.iaload, 1) := by decide +kernel
theorem dL_busy_26 : decode cL_busy 26 = .ok (.iload_n 0, 1) := by decide +kernel
theorem dL_busy_27 : decode cL_busy 27 = .ok (.if_icmp .eq 15, 3) := by decide +kernel
theorem dL_busy_30 : decode cL_busy 30 = .ok (.aload_n 1, 1) := by decide +kernel
theorem dL_busy_31 : decode cL_busy 31 = .ok (.bipush 8, 2) := by decide +kernel
theorem dL_busy_33 : decode cL_busy 33 = .ok (.iload_n 3, 1) := by decide +kernel
theorem dL_busy_34 : decode cL_busy 34 = .ok (.imul, 1) := by decide +kernel
theorem dL_busy_35 : decode cL_busy 35 = .ok (.iconst 1, 1) := by decide +kernel
theorem dL_busy_36 : decode cL_busy 36 = .ok (.iadd, 1) := by decide +kernel
theorem dL_busy_37 : decode cL_busy 37 = .ok (.iaload, 1) := by decide +kernel
theorem dL_busy_38 : decode cL_busy 38 = .ok (.iload_n 0, 1) := by decide +kernel
theorem dL_busy_39 : decode cL_busy 39 = .ok (.if_icmp .ne 5, 3) := by decide +kernel
theorem dL_busy_42 : decode cL_busy 42 = .ok (.iconst 1, 1) := by decide +kernel
theorem dL_busy_43 : decode cL_busy 43 = .ok (.ireturn, 1) := by decide +kernel
theorem dL_busy_44 : decode cL_busy 44 = .ok (.iinc 3 1, 3) := by decide +kernel
theorem dL_busy_47 : decode cL_busy 47 = .ok (.goto (-45), 3) := by decide +kernel
theorem dL_busy_50 : decode cL_busy 50 = .ok (.iconst 0, 1) := by decide +kernel
theorem dL_busy_51 : decode cL_busy 51 = .ok (.ireturn, 1) := by decide +kernel
theorem dL_minute_0 : decode cL_minute 0 = .ok (.iconst 0, 1) := by decide +kernel
theorem dL_minute_1 : decode cL_minute 1 = .ok (.istore 6, 2) := by decide +kernel
theorem dL_minute_3 : decode cL_minute 3 = .ok (.aload 5, 2) := by decide +kernel
theorem dL_minute_5 : decode cL_minute 5 = .ok (.iload_n 0, 1) := by decide +kernel
theorem dL_minute_6 : decode cL_minute 6 = .ok (.bipush 7, 2) := by decide +kernel
theorem dL_minute_8 : decode cL_minute 8 = .ok (.iadd, 1) := by decide +kernel
theorem dL_minute_9 : decode cL_minute 9 = .ok (.iaload, 1) := by decide +kernel
theorem dL_minute_10 : decode cL_minute 10 = .ok (.istore 7, 2) := by decide +kernel
theorem dL_minute_12 : decode cL_minute 12 = .ok (.iconst 1, 1) := by decide +kernel
theorem dL_minute_13 : decode cL_minute 13 = .ok (.istore 8, 2) := by decide +kernel
theorem dL_minute_15 : decode cL_minute 15 = .ok (.iload 7, 2) := by decide +kernel
theorem dL_minute_17 : decode cL_minute 17 = .ok (.iconst 3, 1) := by decide +kernel
theorem dL_minute_18 : decode cL_minute 18 = .ok (.iload 8, 2) := by decide +kernel
theorem dL_minute_20 : decode cL_minute 20 = .ok (.imul, 1) := by decide +kernel
theorem dL_minute_21 : decode cL_minute 21 = .ok (.ishr, 1) := by decide +kernel
theorem dL_minute_22 : decode cL_minute 22 = .ok (.ifCond .le 45, 3) := by decide +kernel
theorem dL_minute_25 : decode cL_minute 25 = .ok (.iload 6, 2) := by decide +kernel
theorem dL_minute_27 : decode cL_minute 27 = .ok (.iload 7, 2) := by decide +kernel
theorem dL_minute_29 : decode cL_minute 29 = .ok (.iconst 3, 1) := by decide +kernel
theorem dL_minute_30 : decode cL_minute 30 = .ok (.iload 8, 2) := by decide +kernel
theorem dL_minute_32 : decode cL_minute 32 = .ok (.imul, 1) := by decide +kernel
theorem dL_minute_33 : decode cL_minute 33 = .ok (.iconst 3, 1) := by decide +kernel
theorem dL_minute_34 : decode cL_minute 34 = .ok (.isub, 1) := by decide +kernel
theorem dL_minute_35 : decode cL_minute 35 = .ok (.ishr, 1) := by decide +kernel
theorem dL_minute_36 : decode cL_minute 36 = .ok (.bipush 7, 2) := by decide +kernel
theorem dL_minute_38 : decode cL_minute 38 = .ok (.iand, 1) := by decide +kernel
theorem dL_minute_39 : decode cL_minute 39 = .ok (.iconst 1, 1) := by decide +kernel
theorem dL_minute_40 : decode cL_minute 40 = .ok (.isub, 1) := by decide +kernel
theorem dL_minute_41 : decode cL_minute 41 = .ok (.iload 7, 2) := by decide +kernel
theorem dL_minute_43 : decode cL_minute 43 = .ok (.iconst 3, 1) := by decide +kernel
theorem dL_minute_44 : decode cL_minute 44 = .ok (.iload 8, 2) := by decide +kernel
theorem dL_minute_46 : decode cL_minute 46 = .ok (.imul, 1) := by decide +kernel
theorem dL_minute_47 : decode cL_minute 47 = .ok (.ishr, 1) := by decide +kernel
theorem dL_minute_48 : decode cL_minute 48 = .ok (.bipush 7, 2) := by decide +kernel
theorem dL_minute_50 : decode cL_minute 50 = .ok (.iand, 1) := by decide +kernel
theorem dL_minute_51 : decode cL_minute 51 = .ok (.iconst 1, 1) := by decide +kernel
theorem dL_minute_52 : decode cL_minute 52 = .ok (.isub, 1) := by decide +kernel
theorem dL_minute_53 : decode cL_minute 53 = .ok (.aload_n 1, 1) := by decide +kernel
theorem dL_minute_54 : decode cL_minute 54 = .ok (.aload_n 3, 1) := by decide +kernel
theorem dL_minute_55 : decode cL_minute 55 = .ok (.invokestatic 11, 3) := by decide +kernel
theorem dL_minute_58 : decode cL_minute 58 = .ok (.ior, 1) := by decide +kernel
theorem dL_minute_59 : decode cL_minute 59 = .ok (.istore 6, 2) := by decide +kernel
theorem dL_minute_61 : decode cL_minute 61 = .ok (.iinc 8 1, 3) := by decide +kernel
theorem dL_minute_64 : decode cL_minute 64 = .ok (.goto (-49), 3) := by decide +kernel
theorem dL_minute_67 : decode cL_minute 67 = .ok (.iload 6, 2) := by decide +kernel
theorem dL_minute_69 : decode cL_minute 69 = .ok (.ifCond .eq 47, 3) := by decide +kernel
theorem dL_minute_72 : decode cL_minute 72 = .ok (.iload 7, 2) := by decide +kernel
theorem dL_minute_74 : decode cL_minute 74 = .ok (.bipush 7, 2) := by decide +kernel
theorem dL_minute_76 : decode cL_minute 76 = .ok (.iand, 1) := by decide +kernel
theorem dL_minute_77 : decode cL_minute 77 = .ok (.iconst 1, 1) := by decide +kernel
theorem dL_minute_78 : decode cL_minute 78 = .ok (.isub, 1) := by decide +kernel
theorem dL_minute_79 : decode cL_minute 79 = .ok (.iload 7, 2) := by decide +kernel
theorem dL_minute_81 : decode cL_minute 81 = .ok (.invokestatic 17, 3) := by decide +kernel
theorem dL_minute_84 : decode cL_minute 84 = .ok (.aload_n 1, 1) := by decide +kernel
theorem dL_minute_85 : decode cL_minute 85 = .ok (.aload_n 3, 1) := by decide +kernel
theorem dL_minute_86 : decode cL_minute 86 = .ok (.invokestatic 21, 3) := by decide +kernel
theorem dL_minute_89 : decode cL_minute 89 = .ok (.istore 7, 2) := by decide +kernel
theorem dL_minute_91 : decode cL_minute 91 = .ok (.iload 7, 2) := by decide +kernel
theorem dL_minute_93 : decode cL_minute 93 = .ok (.ifCond .le 23, 3) := by decide +kernel
theorem dL_minute_96 : decode cL_minute 96 = .ok (.aload 5, 2) := by decide +kernel
theorem dL_minute_98 : decode cL_minute 98 = .ok (.iload_n 0, 1) := by decide +kernel
theorem dL_minute_99 : decode cL_minute 99 = .ok (.bipush 7, 2) := by decide +kernel
theorem dL_minute_101 : decode cL_minute 101 = .ok (.iadd, 1) := by decide +kernel
theorem dL_minute_102 : decode cL_minute 102 = .ok (.iload 7, 2) := by decide +kernel
theorem dL_minute_104 : decode cL_minute 104 = .ok (.iastore, 1) := by decide +kernel
theorem dL_minute_105 : decode cL_minute 105 = .ok (.aload 5, 2) := by decide +kernel
theorem dL_minute_107 : decode cL_minute 107 = .ok (.iload_n 0, 1) := by decide +kernel
theorem dL_minute_108 : decode cL_minute 108 = .ok (.bipush 6, 2) := by decide +kernel
theorem dL_minute_110 : decode cL_minute 110 = .ok (.iadd, 1) := by decide +kernel
theorem dL_minute_111 : decode cL_minute 111 = .ok (.dup2, 1) := by decide +kernel
theorem dL_minute_112 : decode cL_minute 112 = .ok (.iaload, 1) := by decide +kernel
theorem dL_minute_113 : decode cL_minute 113 = .ok (.iconst 1, 1) := by decide +kernel
theorem dL_minute_114 : decode cL_minute 114 = .ok (.iadd, 1) := by decide +kernel
theorem dL_minute_115 : decode cL_minute 115 = .ok (.iastore, 1) := by decide +kernel
theorem dL_minute_116 : decode cL_minute 116 = .ok (.iload 7, 2) := by decide +kernel
theorem dL_minute_118 : decode cL_minute 118 = .ok (.ifCond .le 117, 3) := by decide +kernel
theorem dL_minute_121 : decode cL_minute 121 = .ok (.aload 5, 2) := by decide +kernel
theorem dL_minute_123 : decode cL_minute 123 = .ok (.iload_n 0, 1) := by decide +kernel
theorem dL_minute_124 : decode cL_minute 124 = .ok (.iconst 5, 1) := by decide +kernel
theorem dL_minute_125 : decode cL_minute 125 = .ok (.iadd, 1) := by decide +kernel
theorem dL_minute_126 : decode cL_minute 126 = .ok (.iaload, 1) := by decide +kernel
theorem dL_minute_127 : decode cL_minute 127 = .ok (.aload 5, 2) := by decide +kernel
theorem dL_minute_129 : decode cL_minute 129 = .ok (.iload_n 0, 1) := by decide +kernel
theorem dL_minute_130 : decode cL_minute 130 = .ok (.iconst 3, 1) := by decide +kernel
theorem dL_minute_131 : decode cL_minute 131 = .ok (.iadd, 1) := by decide +kernel
theorem dL_minute_132 : decode cL_minute 132 = .ok (.iaload, 1) := by decide +kernel
theorem dL_minute_133 : decode cL_minute 133 = .ok (.irem, 1) := by decide +kernel
theorem dL_minute_134 : decode cL_minute 134 = .ok (.ifCond .ne 101, 3) := by decide +kernel
theorem dL_minute_137 : decode cL_minute 137 = .ok (.iconst 4, 1) := by decide +kernel
theorem dL_minute_138 : decode cL_minute 138 = .ok (.aload 5, 2) := by decide +kernel
theorem dL_minute_140 : decode cL_minute 140 = .ok (.iload_n 0, 1) := by decide +kernel
theorem dL_minute_141 : decode cL_minute 141 = .ok (.iaload, 1) := by decide +kernel
theorem dL_minute_142 : decode cL_minute 142 = .ok (.imul, 1) := by decide +kernel
theorem dL_minute_143 : decode cL_minute 143 = .ok (.istore 8, 2) := by decide +kernel
theorem dL_minute_145 : decode cL_minute 145 = .ok (.aload 4, 2) := by decide +kernel
theorem dL_minute_147 : decode cL_minute 147 = .ok (.iload 8, 2) := by decide +kernel
theorem dL_minute_149 : decode cL_minute 149 = .ok (.iconst 2, 1) := by decide +kernel
theorem dL_minute_150 : decode cL_minute 150 = .ok (.iadd, 1) := by decide +kernel
theorem dL_minute_151 : decode cL_minute 151 = .ok (.iaload, 1) := by decide +kernel
theorem dL_minute_152 : decode cL_minute 152 = .ok (.aload 5, 2) := by decide +kernel
theorem dL_minute_154 : decode cL_minute 154 = .ok (.iload_n 0, 1) := by decide +kernel
theorem dL_minute_155 : decode cL_minute 155 = .ok (.iconst 3, 1) := by decide +kernel
theorem dL_minute_156 : decode cL_minute 156 = .ok (.iadd, 1) := by decide +kernel
theorem dL_minute_157 : decode cL_minute 157 = .ok (.iaload, 1) := by decide +kernel
theorem dL_minute_158 : decode cL_minute 158 = .ok (.if_icmp .lt 7, 3) := by decide +kernel
theorem dL_minute_161 : decode cL_minute 161 = .ok (.iconst 1, 1) := by decide +kernel
theorem dL_minute_162 : decode cL_minute 162 = .ok (.goto 4, 3) := by decide +kernel
theorem dL_minute_165 : decode cL_minute 165 = .ok (.iconst 0, 1) := by decide +kernel
theorem dL_minute_166 : decode cL_minute 166 = .ok (.istore 9, 2) := by decide +kernel
theorem dL_minute_168 : decode cL_minute 168 = .ok (.iload 9, 2) := by decide +kernel
theorem dL_minute_170 : decode cL_minute 170 = .ok (.ifCond .ne 25, 3) := by decide +kernel
theorem dL_minute_173 : decode cL_minute 173 = .ok (.aload 4, 2) := by decide +kernel
theorem dL_minute_175 : decode cL_minute 175 = .ok (.iload 8, 2) := by decide +kernel
theorem dL_minute_177 : decode cL_minute 177 = .ok (.iconst 1, 1) := by decide +kernel
theorem dL_minute_178 : decode cL_minute 178 = .ok (.iadd, 1) := by decide +kernel
theorem dL_minute_179 : decode cL_minute 179 = .ok (.iaload, 1) := by decide +kernel
theorem dL_minute_180 : decode cL_minute 180 = .ok (.aload 5, 2) := by decide +kernel
theorem dL_minute_182 : decode cL_minute 182 = .ok (.iload_n 0, 1) := by decide +kernel
theorem dL_minute_183 : decode cL_minute 183 = .ok (.iconst 4, 1) := by decide +kernel
theorem dL_minute_184 : decode cL_minute 184 = .ok (.iadd, 1) := by decide +kernel
theorem dL_minute_185 : decode cL_minute 185 = .ok (.iaload, 1) := by decide +kernel
theorem dL_minute_186 : decode cL_minute 186 = .ok (.if_icmp .ge 9, 3) := by decide +kernel
theorem dL_minute_189 : decode cL_minute 189 = .ok (.iconst 0, 1) := by decide +kernel
theorem dL_minute_190 : decode cL_minute 190 = .ok (.istore 7, 2) := by decide +kernel
theorem dL_minute_192 : decode cL_minute 192 = .ok (.goto 43, 3) := by decide +kernel
theorem dL_minute_195 : decode cL_minute 195 = .ok (.iload 9, 2) := by decide +kernel
theorem dL_minute_197 : decode cL_minute 197 = .ok (.ifCond .eq 22, 3) := by decide +kernel
theorem dL_minute_200 : decode cL_minute 200 = .ok (.aload 4, 2) := by decide +kernel
theorem dL_minute_202 : decode cL_minute 202 = .ok (.iload 8, 2) := by decide +kernel
theorem dL_minute_204 : decode cL_minute 204 = .ok (.iconst 2, 1) := by decide +kernel
theorem dL_minute_205 : decode cL_minute 205 = .ok (.iadd, 1) := by decide +kernel
theorem dL_minute_206 : decode cL_minute 206 = .ok (.dup2, 1) := by decide +kernel
theorem dL_minute_207 : decode cL_minute 207 = .ok (.iaload, 1) := by decide +kernel
theorem dL_minute_208 : decode cL_minute 208 = .ok (.aload 5, 2) := by decide +kernel
theorem dL_minute_210 : decode cL_minute 210 = .ok (.iload_n 0, 1) := by decide +kernel
theorem dL_minute_211 : decode cL_minute 211 = .ok (.iconst 3, 1) := by decide +kernel
theorem dL_minute_212 : decode cL_minute 212 = .ok (.iadd, 1) := by decide +kernel
theorem dL_minute_213 : decode cL_minute 213 = .ok (.iaload, 1) := by decide +kernel
theorem dL_minute_214 : decode cL_minute 214 = .ok (.isub, 1) := by decide +kernel
theorem dL_minute_215 : decode cL_minute 215 = .ok (.iastore, 1) := by decide +kernel
theorem dL_minute_216 : decode cL_minute 216 = .ok (.goto 19, 3) := by decide +kernel
theorem dL_minute_219 : decode cL_minute 219 = .ok (.aload 4, 2) := by decide +kernel
theorem dL_minute_221 : decode cL_minute 221 = .ok (.iload 8, 2) := by decide +kernel
theorem dL_minute_223 : decode cL_minute 223 = .ok (.iconst 1, 1) := by decide +kernel
theorem dL_minute_224 : decode cL_minute 224 = .ok (.iadd, 1) := by decide +kernel
theorem dL_minute_225 : decode cL_minute 225 = .ok (.dup2, 1) := by decide +kernel
theorem dL_minute_226 : decode cL_minute 226 = .ok (.iaload, 1) := by decide +kernel
theorem dL_minute_227 : decode cL_minute 227 = .ok (.aload 5, 2) := by decide +kernel
theorem dL_minute_229 : decode cL_minute 229 = .ok (.iload_n 0, 1) := by decide +kernel
theorem dL_minute_230 : decode cL_minute 230 = .ok (.iconst 4, 1) := by decide +kernel
theorem dL_minute_231 : decode cL_minute 231 = .ok (.iadd, 1) := by decide +kernel
theorem dL_minute_232 : decode cL_minute 232 = .ok (.iaload, 1) := by decide +kernel
theorem dL_minute_233 : decode cL_minute 233 = .ok (.isub, 1) := by decide +kernel
theorem dL_minute_234 : decode cL_minute 234 = .ok (.iastore, 1) := by decide +kernel
theorem dL_minute_235 : decode cL_minute 235 = .ok (.iload 7, 2) := by decide +kernel
theorem dL_minute_237 : decode cL_minute 237 = .ok (.ifCond .ne 11, 3) := by decide +kernel
theorem dL_minute_240 : decode cL_minute 240 = .ok (.aload 5, 2) := by decide +kernel
theorem dL_minute_242 : decode cL_minute 242 = .ok (.iload_n 0, 1) := by decide +kernel
theorem dL_minute_243 : decode cL_minute 243 = .ok (.iconst 2, 1) := by decide +kernel
theorem dL_minute_244 : decode cL_minute 244 = .ok (.iadd, 1) := by decide +kernel
theorem dL_minute_245 : decode cL_minute 245 = .ok (.iconst 2, 1) := by decide +kernel
theorem dL_minute_246 : decode cL_minute 246 = .ok (.iastore, 1) := by decide +kernel
theorem dL_minute_247 : decode cL_minute 247 = .ok (.return_, 1) := by decide +kernel
theorem dL_minute_248 : decode cL_minute 248 = .ok (.iconst 1, 1) := by decide +kernel
theorem dL_minute_249 : decode cL_minute 249 = .ok (.istore 8, 2) := by decide +kernel
theorem dL_minute_251 : decode cL_minute 251 = .ok (.iload 7, 2) := by decide +kernel
theorem dL_minute_253 : decode cL_minute 253 = .ok (.iconst 3, 1) := by decide +kernel
theorem dL_minute_254 : decode cL_minute 254 = .ok (.iload 8, 2) := by decide +kernel
theorem dL_minute_256 : decode cL_minute 256 = .ok (.imul, 1) := by decide +kernel
theorem dL_minute_257 : decode cL_minute 257 = .ok (.ishr, 1) := by decide +kernel
theorem dL_minute_258 : decode cL_minute 258 = .ok (.ifCond .le 97, 3) := by decide +kernel
theorem dL_minute_261 : decode cL_minute 261 = .ok (.iload 7, 2) := by decide +kernel
theorem dL_minute_263 : decode cL_minute 263 = .ok (.iconst 3, 1) := by decide +kernel
theorem dL_minute_264 : decode cL_minute 264 = .ok (.iload 8, 2) := by decide +kernel
theorem dL_minute_266 : decode cL_minute 266 = .ok (.imul, 1) := by decide +kernel
theorem dL_minute_267 : decode cL_minute 267 = .ok (.iconst 3, 1) := by decide +kernel
theorem dL_minute_268 : decode cL_minute 268 = .ok (.isub, 1) := by decide +kernel
theorem dL_minute_269 : decode cL_minute 269 = .ok (.ishr, 1) := by decide +kernel
theorem dL_minute_270 : decode cL_minute 270 = .ok (.bipush 7, 2) := by decide +kernel
theorem dL_minute_272 : decode cL_minute 272 = .ok (.iand, 1) := by decide +kernel
theorem dL_minute_273 : decode cL_minute 273 = .ok (.iconst 1, 1) := by decide +kernel
theorem dL_minute_274 : decode cL_minute 274 = .ok (.isub, 1) := by decide +kernel
theorem dL_minute_275 : decode cL_minute 275 = .ok (.istore 9, 2) := by decide +kernel
theorem dL_minute_277 : decode cL_minute 277 = .ok (.iload 7, 2) := by decide +kernel
theorem dL_minute_279 : decode cL_minute 279 = .ok (.iconst 3, 1) := by decide +kernel
theorem dL_minute_280 : decode cL_minute 280 = .ok (.iload 8, 2) := by decide +kernel
theorem dL_minute_282 : decode cL_minute 282 = .ok (.imul, 1) := by decide +kernel
theorem dL_minute_283 : decode cL_minute 283 = .ok (.ishr, 1) := by decide +kernel
theorem dL_minute_284 : decode cL_minute 284 = .ok (.bipush 7, 2) := by decide +kernel
theorem dL_minute_286 : decode cL_minute 286 = .ok (.iand, 1) := by decide +kernel
theorem dL_minute_287 : decode cL_minute 287 = .ok (.iconst 1, 1) := by decide +kernel
theorem dL_minute_288 : decode cL_minute 288 = .ok (.isub, 1) := by decide +kernel
theorem dL_minute_289 : decode cL_minute 289 = .ok (.istore 10, 2) := by decide +kernel
theorem dL_minute_291 : decode cL_minute 291 = .ok (.aload_n 1, 1) := by decide +kernel
theorem dL_minute_292 : decode cL_minute 292 = .ok (.iconst 2, 1) := by decide +kernel
theorem dL_minute_293 : decode cL_minute 293 = .ok (.iconst 5, 1) := by decide +kernel
theorem dL_minute_294 : decode cL_minute 294 = .ok (.iload 9, 2) := by decide +kernel
theorem dL_minute_296 : decode cL_minute 296 = .ok (.imul, 1) := by decide +kernel
theorem dL_minute_297 : decode cL_minute 297 = .ok (.iload 10, 2) := by decide +kernel
theorem dL_minute_299 : decode cL_minute 299 = .ok (.iadd, 1) := by decide +kernel
theorem dL_minute_300 : decode cL_minute 300 = .ok (.imul, 1) := by decide +kernel
theorem dL_minute_301 : decode cL_minute 301 = .ok (.iaload, 1) := by decide +kernel
theorem dL_minute_302 : decode cL_minute 302 = .ok (.istore 11, 2) := by decide +kernel
theorem dL_minute_304 : decode cL_minute 304 = .ok (.aload_n 2, 1) := by decide +kernel
theorem dL_minute_305 : decode cL_minute 305 = .ok (.iconst 5, 1) := by decide +kernel
theorem dL_minute_306 : decode cL_minute 306 = .ok (.iload 9, 2) := by decide +kernel
theorem dL_minute_308 : decode cL_minute 308 = .ok (.imul, 1) := by decide +kernel
theorem dL_minute_309 : decode cL_minute 309 = .ok (.iload 10, 2) := by decide +kernel
theorem dL_minute_311 : decode cL_minute 311 = .ok (.iadd, 1) := by decide +kernel
theorem dL_minute_312 : decode cL_minute 312 = .ok (.dup2, 1) := by decide +kernel
theorem dL_minute_313 : decode cL_minute 313 = .ok (.laload, 1) := by decide +kernel
theorem dL_minute_314 : decode cL_minute 314 = .ok (.iload 11, 2) := by decide +kernel
theorem dL_minute_316 : decode cL_minute 316 = .ok (.i2l, 1) := by decide +kernel
theorem dL_minute_317 : decode cL_minute 317 = .ok (.ladd, 1) := by decide +kernel
theorem dL_minute_318 : decode cL_minute 318 = .ok (.lastore, 1) := by decide +kernel
theorem dL_minute_319 : decode cL_minute 319 = .ok (.aload_n 3, 1) := by decide +kernel
theorem dL_minute_320 : decode cL_minute 320 = .ok (.iconst 5, 1) := by decide +kernel
theorem dL_minute_321 : decode cL_minute 321 = .ok (.iload 9, 2) := by decide +kernel
theorem dL_minute_323 : decode cL_minute 323 = .ok (.imul, 1) := by decide +kernel
theorem dL_minute_324 : decode cL_minute 324 = .ok (.iload 10, 2) := by decide +kernel
theorem dL_minute_326 : decode cL_minute 326 = .ok (.iadd, 1) := by decide +kernel
theorem dL_minute_327 : decode cL_minute 327 = .ok (.dup2, 1) := by decide +kernel
theorem dL_minute_328 : decode cL_minute 328 = .ok (.laload, 1) := by decide +kernel
theorem dL_minute_329 : decode cL_minute 329 = .ok (.iload 11, 2) := by decide +kernel
theorem dL_minute_331 : decode cL_minute 331 = .ok (.i2l, 1) := by decide +kernel
theorem dL_minute_332 : decode cL_minute 332 = .ok (.ladd, 1) := by decide +kernel
theorem dL_minute_333 : decode cL_minute 333 = .ok (.lastore, 1) := by decide +kernel
theorem dL_minute_334 : decode cL_minute 334 = .ok (.aload_n 3, 1) := by decide +kernel
theorem dL_minute_335 : decode cL_minute 335 = .ok (.iconst 5, 1) := by decide +kernel
theorem dL_minute_336 : decode cL_minute 336 = .ok (.iload 10, 2) := by decide +kernel
theorem dL_minute_338 : decode cL_minute 338 = .ok (.imul, 1) := by decide +kernel
theorem dL_minute_339 : decode cL_minute 339 = .ok (.iload 9, 2) := by decide +kernel
theorem dL_minute_341 : decode cL_minute 341 = .ok (.iadd, 1) := by decide +kernel
theorem dL_minute_342 : decode cL_minute 342 = .ok (.dup2, 1) := by decide +kernel
theorem dL_minute_343 : decode cL_minute 343 = .ok (.laload, 1) := by decide +kernel
theorem dL_minute_344 : decode cL_minute 344 = .ok (.iload 11, 2) := by decide +kernel
theorem dL_minute_346 : decode cL_minute 346 = .ok (.i2l, 1) := by decide +kernel
theorem dL_minute_347 : decode cL_minute 347 = .ok (.lsub, 1) := by decide +kernel
theorem dL_minute_348 : decode cL_minute 348 = .ok (.lastore, 1) := by decide +kernel
theorem dL_minute_349 : decode cL_minute 349 = .ok (.iinc 8 1, 3) := by decide +kernel
theorem dL_minute_352 : decode cL_minute 352 = .ok (.goto (-101), 3) := by decide +kernel
theorem dL_minute_355 : decode cL_minute 355 = .ok (.aload 5, 2) := by decide +kernel
theorem dL_minute_357 : decode cL_minute 357 = .ok (.iload_n 0, 1) := by decide +kernel
theorem dL_minute_358 : decode cL_minute 358 = .ok (.iconst 5, 1) := by decide +kernel
theorem dL_minute_359 : decode cL_minute 359 = .ok (.iadd, 1) := by decide +kernel
theorem dL_minute_360 : decode cL_minute 360 = .ok (.dup2, 1) := by decide +kernel
theorem dL_minute_361 : decode cL_minute 361 = .ok (.iaload, 1) := by decide +kernel
theorem dL_minute_362 : decode cL_minute 362 = .ok (.iconst 1, 1) := by decide +kernel
theorem dL_minute_363 : decode cL_minute 363 = .ok (.iadd, 1) := by decide +kernel
theorem dL_minute_364 : decode cL_minute 364 = .ok (.iastore, 1) := by decide +kernel
theorem dL_minute_365 : decode cL_minute 365 = .ok (.return_, 1) := by decide +kernel
theorem dL_refused_0 : decode cL_refused 0 = .ok (.iload_n 1, 1) := by decide +kernel
theorem dL_refused_1 : decode cL_refused 1 = .ok (.ifCond .ne 13, 3) := by decide +kernel
theorem dL_refused_4 : decode cL_refused 4 = .ok (.aload_n 0, 1) := by decide +kernel
theorem dL_refused_5 : decode cL_refused 5 = .ok (.iload_n 2, 1) := by decide +kernel
theorem dL_refused_6 : decode cL_refused 6 = .ok (.iload_n 3, 1) := by decide +kernel
theorem dL_refused_7 : decode cL_refused 7 = .ok (.invokevirtual 25, 3) := by decide +kernel
theorem dL_refused_10 : decode cL_refused 10 = .ok (.i2l, 1) := by decide +kernel
theorem dL_refused_11 : decode cL_refused 11 = .ok (.goto 100, 3) := by decide +kernel
theorem dL_refused_14 : decode cL_refused 14 = .ok (.iload_n 1, 1) := by decide +kernel
theorem dL_refused_15 : decode cL_refused 15 = .ok (.iconst 1, 1) := by decide +kernel
theorem dL_refused_16 : decode cL_refused 16 = .ok (.if_icmp .ne 12, 3) := by decide +kernel
theorem dL_refused_19 : decode cL_refused 19 = .ok (.aload_n 0, 1) := by decide +kernel
theorem dL_refused_20 : decode cL_refused 20 = .ok (.iload_n 2, 1) := by decide +kernel
theorem dL_refused_21 : decode cL_refused 21 = .ok (.invokevirtual 31, 3) := by decide +kernel
theorem dL_refused_24 : decode cL_refused 24 = .ok (.i2l, 1) := by decide +kernel
theorem dL_refused_25 : decode cL_refused 25 = .ok (.goto 86, 3) := by decide +kernel
theorem dL_refused_28 : decode cL_refused 28 = .ok (.iload_n 1, 1) := by decide +kernel
theorem dL_refused_29 : decode cL_refused 29 = .ok (.iconst 2, 1) := by decide +kernel
theorem dL_refused_30 : decode cL_refused 30 = .ok (.if_icmp .ne 12, 3) := by decide +kernel
theorem dL_refused_33 : decode cL_refused 33 = .ok (.aload_n 0, 1) := by decide +kernel
theorem dL_refused_34 : decode cL_refused 34 = .ok (.iload_n 2, 1) := by decide +kernel
theorem dL_refused_35 : decode cL_refused 35 = .ok (.iload_n 3, 1) := by decide +kernel
theorem dL_refused_36 : decode cL_refused 36 = .ok (.invokevirtual 34, 3) := by decide +kernel
theorem dL_refused_39 : decode cL_refused 39 = .ok (.goto 72, 3) := by decide +kernel
theorem dL_refused_42 : decode cL_refused 42 = .ok (.iload_n 1, 1) := by decide +kernel
theorem dL_refused_43 : decode cL_refused 43 = .ok (.iconst 3, 1) := by decide +kernel
theorem dL_refused_44 : decode cL_refused 44 = .ok (.if_icmp .ne 13, 3) := by decide +kernel
theorem dL_refused_47 : decode cL_refused 47 = .ok (.aload_n 0, 1) := by decide +kernel
theorem dL_refused_48 : decode cL_refused 48 = .ok (.iload_n 2, 1) := by decide +kernel
theorem dL_refused_49 : decode cL_refused 49 = .ok (.iload_n 3, 1) := by decide +kernel
theorem dL_refused_50 : decode cL_refused 50 = .ok (.invokevirtual 38, 3) := by decide +kernel
theorem dL_refused_53 : decode cL_refused 53 = .ok (.i2l, 1) := by decide +kernel
theorem dL_refused_54 : decode cL_refused 54 = .ok (.goto 57, 3) := by decide +kernel
theorem dL_refused_57 : decode cL_refused 57 = .ok (.iload_n 1, 1) := by decide +kernel
theorem dL_refused_58 : decode cL_refused 58 = .ok (.iconst 4, 1) := by decide +kernel
theorem dL_refused_59 : decode cL_refused 59 = .ok (.if_icmp .ne 13, 3) := by decide +kernel
theorem dL_refused_62 : decode cL_refused 62 = .ok (.aload_n 0, 1) := by decide +kernel
theorem dL_refused_63 : decode cL_refused 63 = .ok (.iload_n 2, 1) := by decide +kernel
theorem dL_refused_64 : decode cL_refused 64 = .ok (.iload_n 3, 1) := by decide +kernel
theorem dL_refused_65 : decode cL_refused 65 = .ok (.invokevirtual 41, 3) := by decide +kernel
theorem dL_refused_68 : decode cL_refused 68 = .ok (.i2l, 1) := by decide +kernel
theorem dL_refused_69 : decode cL_refused 69 = .ok (.goto 42, 3) := by decide +kernel
theorem dL_refused_72 : decode cL_refused 72 = .ok (.iload_n 1, 1) := by decide +kernel
theorem dL_refused_73 : decode cL_refused 73 = .ok (.iconst 5, 1) := by decide +kernel
theorem dL_refused_74 : decode cL_refused 74 = .ok (.if_icmp .ne 13, 3) := by decide +kernel
theorem dL_refused_77 : decode cL_refused 77 = .ok (.aload_n 0, 1) := by decide +kernel
theorem dL_refused_78 : decode cL_refused 78 = .ok (.iload_n 2, 1) := by decide +kernel
theorem dL_refused_79 : decode cL_refused 79 = .ok (.iload_n 3, 1) := by decide +kernel
theorem dL_refused_80 : decode cL_refused 80 = .ok (.invokevirtual 44, 3) := by decide +kernel
theorem dL_refused_83 : decode cL_refused 83 = .ok (.i2l, 1) := by decide +kernel
theorem dL_refused_84 : decode cL_refused 84 = .ok (.goto 27, 3) := by decide +kernel
theorem dL_refused_87 : decode cL_refused 87 = .ok (.iload_n 1, 1) := by decide +kernel
theorem dL_refused_88 : decode cL_refused 88 = .ok (.bipush 6, 2) := by decide +kernel
theorem dL_refused_90 : decode cL_refused 90 = .ok (.if_icmp .ne 14, 3) := by decide +kernel
theorem dL_refused_93 : decode cL_refused 93 = .ok (.aload_n 0, 1) := by decide +kernel
theorem dL_refused_94 : decode cL_refused 94 = .ok (.iload_n 2, 1) := by decide +kernel
theorem dL_refused_95 : decode cL_refused 95 = .ok (.iload_n 3, 1) := by decide +kernel
theorem dL_refused_96 : decode cL_refused 96 = .ok (.iconst 0, 1) := by decide +kernel
theorem dL_refused_97 : decode cL_refused 97 = .ok (.invokevirtual 47, 3) := by decide +kernel
theorem dL_refused_100 : decode cL_refused 100 = .ok (.i2l, 1) := by decide +kernel
theorem dL_refused_101 : decode cL_refused 101 = .ok (.goto 10, 3) := by decide +kernel
theorem dL_refused_104 : decode cL_refused 104 = .ok (.aload_n 0, 1) := by decide +kernel
theorem dL_refused_105 : decode cL_refused 105 = .ok (.iload_n 2, 1) := by decide +kernel
theorem dL_refused_106 : decode cL_refused 106 = .ok (.iload_n 3, 1) := by decide +kernel
theorem dL_refused_107 : decode cL_refused 107 = .ok (.invokevirtual 50, 3) := by decide +kernel
theorem dL_refused_110 : decode cL_refused 110 = .ok (.i2l, 1) := by decide +kernel
theorem dL_refused_111 : decode cL_refused 111 = .ok (.l2i, 1) := by decide +kernel
theorem dL_refused_112 : decode cL_refused 112 = .ok (.iconst 0, 1) := by decide +kernel
theorem dL_refused_113 : decode cL_refused 113 = .ok (.imul, 1) := by decide +kernel
theorem dL_refused_114 : decode cL_refused 114 = .ok (.ireturn, 1) := by decide +kernel
theorem dL_refused_115 : decode cL_refused 115 = .ok (.astore 4, 2) := by decide +kernel
theorem dL_refused_117 : decode cL_refused 117 = .ok (.iconst 1, 1) := by decide +kernel
theorem dL_refused_118 : decode cL_refused 118 = .ok (.ireturn, 1) := by decide +kernel
theorem dL_refused_119 : decode cL_refused 119 = .ok (.astore 4, 2) := by decide +kernel
theorem dL_refused_121 : decode cL_refused 121 = .ok (.iconst 2, 1) := by decide +kernel
theorem dL_refused_122 : decode cL_refused 122 = .ok (.ireturn, 1) := by decide +kernel
theorem dL_refused_123 : decode cL_refused 123 = .ok (.astore 4, 2) := by decide +kernel
theorem dL_refused_125 : decode cL_refused 125 = .ok (.iconst 3, 1) := by decide +kernel
theorem dL_refused_126 : decode cL_refused 126 = .ok (.ireturn, 1) := by decide +kernel
theorem dL_same_0 : decode cL_same 0 = .ok (.iconst 0, 1) := by decide +kernel
theorem dL_same_1 : decode cL_same 1 = .ok (.istore 8, 2) := by decide +kernel
theorem dL_same_3 : decode cL_same 3 = .ok (.iload 8, 2) := by decide +kernel
theorem dL_same_5 : decode cL_same 5 = .ok (.aload 6, 2) := by decide +kernel
theorem dL_same_7 : decode cL_same 7 = .ok (.iconst 0, 1) := by decide +kernel
theorem dL_same_8 : decode cL_same 8 = .ok (.iaload, 1) := by decide +kernel
theorem dL_same_9 : decode cL_same 9 = .ok (.if_icmp .ge 85, 3) := by decide +kernel
theorem dL_same_12 : decode cL_same 12 = .ok (.aload_n 0, 1) := by decide +kernel
theorem dL_same_13 : decode cL_same 13 = .ok (.iload 8, 2) := by decide +kernel
theorem dL_same_15 : decode cL_same 15 = .ok (.invokevirtual 59, 3) := by decide +kernel
theorem dL_same_18 : decode cL_same 18 = .ok (.aload 4, 2) := by decide +kernel
theorem dL_same_20 : decode cL_same 20 = .ok (.iconst 4, 1) := by decide +kernel
theorem dL_same_21 : decode cL_same 21 = .ok (.iload 8, 2) := by decide +kernel
theorem dL_same_23 : decode cL_same 23 = .ok (.imul, 1) := by decide +kernel
theorem dL_same_24 : decode cL_same 24 = .ok (.iconst 1, 1) := by decide +kernel
theorem dL_same_25 : decode cL_same 25 = .ok (.iadd, 1) := by decide +kernel
theorem dL_same_26 : decode cL_same 26 = .ok (.iaload, 1) := by decide +kernel
theorem dL_same_27 : decode cL_same 27 = .ok (.if_icmp .ne 59, 3) := by decide +kernel
theorem dL_same_30 : decode cL_same 30 = .ok (.aload_n 0, 1) := by decide +kernel
theorem dL_same_31 : decode cL_same 31 = .ok (.iload 8, 2) := by decide +kernel
theorem dL_same_33 : decode cL_same 33 = .ok (.invokevirtual 62, 3) := by decide +kernel
theorem dL_same_36 : decode cL_same 36 = .ok (.aload 4, 2) := by decide +kernel
theorem dL_same_38 : decode cL_same 38 = .ok (.iconst 4, 1) := by decide +kernel
theorem dL_same_39 : decode cL_same 39 = .ok (.iload 8, 2) := by decide +kernel
theorem dL_same_41 : decode cL_same 41 = .ok (.imul, 1) := by decide +kernel
theorem dL_same_42 : decode cL_same 42 = .ok (.iconst 2, 1) := by decide +kernel
theorem dL_same_43 : decode cL_same 43 = .ok (.iadd, 1) := by decide +kernel
theorem dL_same_44 : decode cL_same 44 = .ok (.iaload, 1) := by decide +kernel
theorem dL_same_45 : decode cL_same 45 = .ok (.if_icmp .ne 41, 3) := by decide +kernel
theorem dL_same_48 : decode cL_same 48 = .ok (.aload_n 0, 1) := by decide +kernel
theorem dL_same_49 : decode cL_same 49 = .ok (.iload 8, 2) := by decide +kernel
theorem dL_same_51 : decode cL_same 51 = .ok (.iconst 0, 1) := by decide +kernel
theorem dL_same_52 : decode cL_same 52 = .ok (.invokevirtual 50, 3) := by decide +kernel
theorem dL_same_55 : decode cL_same 55 = .ok (.aload 4, 2) := by decide +kernel
theorem dL_same_57 : decode cL_same 57 = .ok (.iconst 4, 1) := by decide +kernel
theorem dL_same_58 : decode cL_same 58 = .ok (.iload 8, 2) := by decide +kernel
theorem dL_same_60 : decode cL_same 60 = .ok (.imul, 1) := by decide +kernel
theorem dL_same_61 : decode cL_same 61 = .ok (.iaload, 1) := by decide +kernel
theorem dL_same_62 : decode cL_same 62 = .ok (.if_icmp .ne 24, 3) := by decide +kernel
theorem dL_same_65 : decode cL_same 65 = .ok (.aload_n 0, 1) := by decide +kernel
theorem dL_same_66 : decode cL_same 66 = .ok (.bipush 7, 2) := by decide +kernel
theorem dL_same_68 : decode cL_same 68 = .ok (.iload 8, 2) := by decide +kernel
theorem dL_same_70 : decode cL_same 70 = .ok (.aload 4, 2) := by decide +kernel
theorem dL_same_72 : decode cL_same 72 = .ok (.iconst 4, 1) := by decide +kernel
theorem dL_same_73 : decode cL_same 73 = .ok (.iload 8, 2) := by decide +kernel
theorem dL_same_75 : decode cL_same 75 = .ok (.imul, 1) := by decide +kernel
theorem dL_same_76 : decode cL_same 76 = .ok (.iconst 3, 1) := by decide +kernel
theorem dL_same_77 : decode cL_same 77 = .ok (.iadd, 1) := by decide +kernel
theorem dL_same_78 : decode cL_same 78 = .ok (.iaload, 1) := by decide +kernel
theorem dL_same_79 : decode cL_same 79 = .ok (.invokestatic 65, 3) := by decide +kernel
theorem dL_same_82 : decode cL_same 82 = .ok (.iconst 1, 1) := by decide +kernel
theorem dL_same_83 : decode cL_same 83 = .ok (.if_icmp .eq 5, 3) := by decide +kernel
theorem dL_same_86 : decode cL_same 86 = .ok (.iconst 0, 1) := by decide +kernel
theorem dL_same_87 : decode cL_same 87 = .ok (.ireturn, 1) := by decide +kernel
theorem dL_same_88 : decode cL_same 88 = .ok (.iinc 8 1, 3) := by decide +kernel
theorem dL_same_91 : decode cL_same 91 = .ok (.goto (-88), 3) := by decide +kernel
theorem dL_same_94 : decode cL_same 94 = .ok (.iconst 0, 1) := by decide +kernel
theorem dL_same_95 : decode cL_same 95 = .ok (.istore 8, 2) := by decide +kernel
theorem dL_same_97 : decode cL_same 97 = .ok (.iload 8, 2) := by decide +kernel
theorem dL_same_99 : decode cL_same 99 = .ok (.aload 6, 2) := by decide +kernel
theorem dL_same_101 : decode cL_same 101 = .ok (.iconst 1, 1) := by decide +kernel
theorem dL_same_102 : decode cL_same 102 = .ok (.iaload, 1) := by decide +kernel
theorem dL_same_103 : decode cL_same 103 = .ok (.if_icmp .ge 139, 3) := by decide +kernel
theorem dL_same_106 : decode cL_same 106 = .ok (.aload 5, 2) := by decide +kernel
theorem dL_same_108 : decode cL_same 108 = .ok (.bipush 8, 2) := by decide +kernel
theorem dL_same_110 : decode cL_same 110 = .ok (.iload 8, 2) := by decide +kernel
theorem dL_same_112 : decode cL_same 112 = .ok (.imul, 1) := by decide +kernel
theorem dL_same_113 : decode cL_same 113 = .ok (.bipush 7, 2) := by decide +kernel
theorem dL_same_115 : decode cL_same 115 = .ok (.iadd, 1) := by decide +kernel
theorem dL_same_116 : decode cL_same 116 = .ok (.iaload, 1) := by decide +kernel
theorem dL_same_117 : decode cL_same 117 = .ok (.istore 9, 2) := by decide +kernel
theorem dL_same_119 : decode cL_same 119 = .ok (.iconst 0, 1) := by decide +kernel
theorem dL_same_120 : decode cL_same 120 = .ok (.istore 10, 2) := by decide +kernel
theorem dL_same_122 : decode cL_same 122 = .ok (.iload 9, 2) := by decide +kernel
theorem dL_same_124 : decode cL_same 124 = .ok (.iconst 3, 1) := by decide +kernel
theorem dL_same_125 : decode cL_same 125 = .ok (.iload 10, 2) := by decide +kernel
theorem dL_same_127 : decode cL_same 127 = .ok (.imul, 1) := by decide +kernel
theorem dL_same_128 : decode cL_same 128 = .ok (.ishr, 1) := by decide +kernel
theorem dL_same_129 : decode cL_same 129 = .ok (.ifCond .le 34, 3) := by decide +kernel
theorem dL_same_132 : decode cL_same 132 = .ok (.aload_n 0, 1) := by decide +kernel
theorem dL_same_133 : decode cL_same 133 = .ok (.iload 8, 2) := by decide +kernel
theorem dL_same_135 : decode cL_same 135 = .ok (.iload 10, 2) := by decide +kernel
theorem dL_same_137 : decode cL_same 137 = .ok (.invokevirtual 44, 3) := by decide +kernel
theorem dL_same_140 : decode cL_same 140 = .ok (.iload 9, 2) := by decide +kernel
theorem dL_same_142 : decode cL_same 142 = .ok (.iconst 3, 1) := by decide +kernel
theorem dL_same_143 : decode cL_same 143 = .ok (.iload 10, 2) := by decide +kernel
theorem dL_same_145 : decode cL_same 145 = .ok (.imul, 1) := by decide +kernel
theorem dL_same_146 : decode cL_same 146 = .ok (.ishr, 1) := by decide +kernel
theorem dL_same_147 : decode cL_same 147 = .ok (.bipush 7, 2) := by decide +kernel
theorem dL_same_149 : decode cL_same 149 = .ok (.iand, 1) := by decide +kernel
theorem dL_same_150 : decode cL_same 150 = .ok (.iconst 1, 1) := by decide +kernel
theorem dL_same_151 : decode cL_same 151 = .ok (.isub, 1) := by decide +kernel
theorem dL_same_152 : decode cL_same 152 = .ok (.if_icmp .eq 5, 3) := by decide +kernel
theorem dL_same_155 : decode cL_same 155 = .ok (.iconst 0, 1) := by decide +kernel
theorem dL_same_156 : decode cL_same 156 = .ok (.ireturn, 1) := by decide +kernel
theorem dL_same_157 : decode cL_same 157 = .ok (.iinc 10 1, 3) := by decide +kernel
theorem dL_same_160 : decode cL_same 160 = .ok (.goto (-38), 3) := by decide +kernel
theorem dL_same_163 : decode cL_same 163 = .ok (.aload_n 0, 1) := by decide +kernel
theorem dL_same_164 : decode cL_same 164 = .ok (.iload 8, 2) := by decide +kernel
theorem dL_same_166 : decode cL_same 166 = .ok (.invokevirtual 69, 3) := by decide +kernel
theorem dL_same_169 : decode cL_same 169 = .ok (.aload 5, 2) := by decide +kernel
theorem dL_same_171 : decode cL_same 171 = .ok (.bipush 8, 2) := by decide +kernel
theorem dL_same_173 : decode cL_same 173 = .ok (.iload 8, 2) := by decide +kernel
theorem dL_same_175 : decode cL_same 175 = .ok (.imul, 1) := by decide +kernel
theorem dL_same_176 : decode cL_same 176 = .ok (.iconst 2, 1) := by decide +kernel
theorem dL_same_177 : decode cL_same 177 = .ok (.iadd, 1) := by decide +kernel
theorem dL_same_178 : decode cL_same 178 = .ok (.iaload, 1) := by decide +kernel
theorem dL_same_179 : decode cL_same 179 = .ok (.if_icmp .ne 55, 3) := by decide +kernel
theorem dL_same_182 : decode cL_same 182 = .ok (.aload_n 0, 1) := by decide +kernel
theorem dL_same_183 : decode cL_same 183 = .ok (.iload 8, 2) := by decide +kernel
theorem dL_same_185 : decode cL_same 185 = .ok (.invokevirtual 72, 3) := by decide +kernel
theorem dL_same_188 : decode cL_same 188 = .ok (.aload 5, 2) := by decide +kernel
theorem dL_same_190 : decode cL_same 190 = .ok (.bipush 8, 2) := by decide +kernel
theorem dL_same_192 : decode cL_same 192 = .ok (.iload 8, 2) := by decide +kernel
theorem dL_same_194 : decode cL_same 194 = .ok (.imul, 1) := by decide +kernel
theorem dL_same_195 : decode cL_same 195 = .ok (.iconst 5, 1) := by decide +kernel
theorem dL_same_196 : decode cL_same 196 = .ok (.iadd, 1) := by decide +kernel
theorem dL_same_197 : decode cL_same 197 = .ok (.iaload, 1) := by decide +kernel
theorem dL_same_198 : decode cL_same 198 = .ok (.if_icmp .ne 36, 3) := by decide +kernel
theorem dL_same_201 : decode cL_same 201 = .ok (.aload_n 0, 1) := by decide +kernel
theorem dL_same_202 : decode cL_same 202 = .ok (.iload 8, 2) := by decide +kernel
theorem dL_same_204 : decode cL_same 204 = .ok (.invokevirtual 75, 3) := by decide +kernel
theorem dL_same_207 : decode cL_same 207 = .ok (.aload 5, 2) := by decide +kernel
theorem dL_same_209 : decode cL_same 209 = .ok (.bipush 8, 2) := by decide +kernel
theorem dL_same_211 : decode cL_same 211 = .ok (.iload 8, 2) := by decide +kernel
theorem dL_same_213 : decode cL_same 213 = .ok (.imul, 1) := by decide +kernel
theorem dL_same_214 : decode cL_same 214 = .ok (.bipush 6, 2) := by decide +kernel
theorem dL_same_216 : decode cL_same 216 = .ok (.iadd, 1) := by decide +kernel
theorem dL_same_217 : decode cL_same 217 = .ok (.iaload, 1) := by decide +kernel
theorem dL_same_218 : decode cL_same 218 = .ok (.if_icmp .ne 16, 3) := by decide +kernel
theorem dL_same_221 : decode cL_same 221 = .ok (.aload_n 0, 1) := by decide +kernel
theorem dL_same_222 : decode cL_same 222 = .ok (.iconst 5, 1) := by decide +kernel
theorem dL_same_223 : decode cL_same 223 = .ok (.iload 8, 2) := by decide +kernel
theorem dL_same_225 : decode cL_same 225 = .ok (.iload 10, 2) := by decide +kernel
theorem dL_same_227 : decode cL_same 227 = .ok (.invokestatic 65, 3) := by decide +kernel
theorem dL_same_230 : decode cL_same 230 = .ok (.iconst 1, 1) := by decide +kernel
theorem dL_same_231 : decode cL_same 231 = .ok (.if_icmp .eq 5, 3) := by decide +kernel
theorem dL_same_234 : decode cL_same 234 = .ok (.iconst 0, 1) := by decide +kernel
theorem dL_same_235 : decode cL_same 235 = .ok (.ireturn, 1) := by decide +kernel
theorem dL_same_236 : decode cL_same 236 = .ok (.iinc 8 1, 3) := by decide +kernel
theorem dL_same_239 : decode cL_same 239 = .ok (.goto (-142), 3) := by decide +kernel
theorem dL_same_242 : decode cL_same 242 = .ok (.lconst 0, 1) := by decide +kernel
theorem dL_same_243 : decode cL_same 243 = .ok (.lstore 8, 2) := by decide +kernel
theorem dL_same_245 : decode cL_same 245 = .ok (.iconst 0, 1) := by decide +kernel
theorem dL_same_246 : decode cL_same 246 = .ok (.istore 10, 2) := by decide +kernel
theorem dL_same_248 : decode cL_same 248 = .ok (.iload 10, 2) := by decide +kernel
theorem dL_same_250 : decode cL_same 250 = .ok (.iconst 5, 1) := by decide +kernel
theorem dL_same_251 : decode cL_same 251 = .ok (.if_icmp .ge 219, 3) := by decide +kernel
theorem dL_same_254 : decode cL_same 254 = .ok (.iconst 5, 1) := by decide +kernel
theorem dL_same_255 : decode cL_same 255 = .ok (.iload 7, 2) := by decide +kernel
theorem dL_same_257 : decode cL_same 257 = .ok (.imul, 1) := by decide +kernel
theorem dL_same_258 : decode cL_same 258 = .ok (.iload 10, 2) := by decide +kernel
theorem dL_same_260 : decode cL_same 260 = .ok (.iadd, 1) := by decide +kernel
theorem dL_same_261 : decode cL_same 261 = .ok (.istore 11, 2) := by decide +kernel
theorem dL_same_263 : decode cL_same 263 = .ok (.iload 7, 2) := by decide +kernel
theorem dL_same_265 : decode cL_same 265 = .ok (.iload 10, 2) := by decide +kernel
theorem dL_same_267 : decode cL_same 267 = .ok (.aload_n 1, 1) := by decide +kernel
theorem dL_same_268 : decode cL_same 268 = .ok (.aload_n 3, 1) := by decide +kernel
theorem dL_same_269 : decode cL_same 269 = .ok (.invokestatic 21, 3) := by decide +kernel
theorem dL_same_272 : decode cL_same 272 = .ok (.istore 12, 2) := by decide +kernel
theorem dL_same_274 : decode cL_same 274 = .ok (.lload 8, 2) := by decide +kernel
theorem dL_same_276 : decode cL_same 276 = .ok (.aload_n 3, 1) := by decide +kernel
theorem dL_same_277 : decode cL_same 277 = .ok (.iload 11, 2) := by decide +kernel
theorem dL_same_279 : decode cL_same 279 = .ok (.laload, 1) := by decide +kernel
theorem dL_same_280 : decode cL_same 280 = .ok (.lsub, 1) := by decide +kernel
theorem dL_same_281 : decode cL_same 281 = .ok (.lstore 8, 2) := by decide +kernel
theorem dL_same_283 : decode cL_same 283 = .ok (.aload_n 0, 1) := by decide +kernel
theorem dL_same_284 : decode cL_same 284 = .ok (.iload 7, 2) := by decide +kernel
theorem dL_same_286 : decode cL_same 286 = .ok (.iload 10, 2) := by decide +kernel
theorem dL_same_288 : decode cL_same 288 = .ok (.invokevirtual 78, 3) := by decide +kernel
theorem dL_same_291 : decode cL_same 291 = .ok (.aload_n 3, 1) := by decide +kernel
theorem dL_same_292 : decode cL_same 292 = .ok (.iload 11, 2) := by decide +kernel
theorem dL_same_294 : decode cL_same 294 = .ok (.laload, 1) := by decide +kernel
theorem dL_same_295 : decode cL_same 295 = .ok (.lcmp, 1) := by decide +kernel
theorem dL_same_296 : decode cL_same 296 = .ok (.ifCond .ne 82, 3) := by decide +kernel
theorem dL_same_299 : decode cL_same 299 = .ok (.aload_n 0, 1) := by decide +kernel
theorem dL_same_300 : decode cL_same 300 = .ok (.iload 10, 2) := by decide +kernel
theorem dL_same_302 : decode cL_same 302 = .ok (.iload 7, 2) := by decide +kernel
theorem dL_same_304 : decode cL_same 304 = .ok (.invokevirtual 78, 3) := by decide +kernel
theorem dL_same_307 : decode cL_same 307 = .ok (.aload_n 3, 1) := by decide +kernel
theorem dL_same_308 : decode cL_same 308 = .ok (.iload 11, 2) := by decide +kernel
theorem dL_same_310 : decode cL_same 310 = .ok (.laload, 1) := by decide +kernel
theorem dL_same_311 : decode cL_same 311 = .ok (.lneg, 1) := by decide +kernel
theorem dL_same_312 : decode cL_same 312 = .ok (.lcmp, 1) := by decide +kernel
theorem dL_same_313 : decode cL_same 313 = .ok (.ifCond .ne 65, 3) := by decide +kernel
theorem dL_same_316 : decode cL_same 316 = .ok (.aload_n 0, 1) := by decide +kernel
theorem dL_same_317 : decode cL_same 317 = .ok (.iload 7, 2) := by decide +kernel
theorem dL_same_319 : decode cL_same 319 = .ok (.iload 10, 2) := by decide +kernel
theorem dL_same_321 : decode cL_same 321 = .ok (.invokevirtual 81, 3) := by decide +kernel
theorem dL_same_324 : decode cL_same 324 = .ok (.aload_n 2, 1) := by decide +kernel
theorem dL_same_325 : decode cL_same 325 = .ok (.iload 11, 2) := by decide +kernel
theorem dL_same_327 : decode cL_same 327 = .ok (.laload, 1) := by decide +kernel
theorem dL_same_328 : decode cL_same 328 = .ok (.lcmp, 1) := by decide +kernel
theorem dL_same_329 : decode cL_same 329 = .ok (.ifCond .ne 49, 3) := by decide +kernel
theorem dL_same_332 : decode cL_same 332 = .ok (.aload_n 0, 1) := by decide +kernel
theorem dL_same_333 : decode cL_same 333 = .ok (.iload 7, 2) := by decide +kernel
theorem dL_same_335 : decode cL_same 335 = .ok (.iload 10, 2) := by decide +kernel
theorem dL_same_337 : decode cL_same 337 = .ok (.invokevirtual 84, 3) := by decide +kernel
theorem dL_same_340 : decode cL_same 340 = .ok (.iload 7, 2) := by decide +kernel
theorem dL_same_342 : decode cL_same 342 = .ok (.iload 10, 2) := by decide +kernel
theorem dL_same_344 : decode cL_same 344 = .ok (.aload_n 1, 1) := by decide +kernel
theorem dL_same_345 : decode cL_same 345 = .ok (.aload_n 3, 1) := by decide +kernel
theorem dL_same_346 : decode cL_same 346 = .ok (.invokestatic 11, 3) := by decide +kernel
theorem dL_same_349 : decode cL_same 349 = .ok (.if_icmp .ne 29, 3) := by decide +kernel
theorem dL_same_352 : decode cL_same 352 = .ok (.aload_n 0, 1) := by decide +kernel
theorem dL_same_353 : decode cL_same 353 = .ok (.iload 7, 2) := by decide +kernel
theorem dL_same_355 : decode cL_same 355 = .ok (.iload 10, 2) := by decide +kernel
theorem dL_same_357 : decode cL_same 357 = .ok (.invokevirtual 88, 3) := by decide +kernel
theorem dL_same_360 : decode cL_same 360 = .ok (.iload 12, 2) := by decide +kernel
theorem dL_same_362 : decode cL_same 362 = .ok (.ifCond .ne 7, 3) := by decide +kernel
theorem dL_same_365 : decode cL_same 365 = .ok (.iconst (-1), 1) := by decide +kernel
theorem dL_same_366 : decode cL_same 366 = .ok (.goto 9, 3) := by decide +kernel
theorem dL_same_369 : decode cL_same 369 = .ok (.iload 12, 2) := by decide +kernel
theorem dL_same_371 : decode cL_same 371 = .ok (.aload_n 1, 1) := by decide +kernel
theorem dL_same_372 : decode cL_same 372 = .ok (.invokestatic 91, 3) := by decide +kernel
theorem dL_same_375 : decode cL_same 375 = .ok (.if_icmp .eq 5, 3) := by decide +kernel
theorem dL_same_378 : decode cL_same 378 = .ok (.iconst 0, 1) := by decide +kernel
theorem dL_same_379 : decode cL_same 379 = .ok (.ireturn, 1) := by decide +kernel
theorem dL_same_380 : decode cL_same 380 = .ok (.iload 12, 2) := by decide +kernel
theorem dL_same_382 : decode cL_same 382 = .ok (.ifCond .ne 20, 3) := by decide +kernel
theorem dL_same_385 : decode cL_same 385 = .ok (.aload_n 0, 1) := by decide +kernel
theorem dL_same_386 : decode cL_same 386 = .ok (.bipush 6, 2) := by decide +kernel
theorem dL_same_388 : decode cL_same 388 = .ok (.iload 7, 2) := by decide +kernel
theorem dL_same_390 : decode cL_same 390 = .ok (.iload 10, 2) := by decide +kernel
theorem dL_same_392 : decode cL_same 392 = .ok (.invokestatic 65, 3) := by decide +kernel
theorem dL_same_395 : decode cL_same 395 = .ok (.iconst 1, 1) := by decide +kernel
theorem dL_same_396 : decode cL_same 396 = .ok (.if_icmp .eq 22, 3) := by decide +kernel
theorem dL_same_399 : decode cL_same 399 = .ok (.goto 17, 3) := by decide +kernel
theorem dL_same_402 : decode cL_same 402 = .ok (.aload_n 0, 1) := by decide +kernel
theorem dL_same_403 : decode cL_same 403 = .ok (.iload 7, 2) := by decide +kernel
theorem dL_same_405 : decode cL_same 405 = .ok (.iload 10, 2) := by decide +kernel
theorem dL_same_407 : decode cL_same 407 = .ok (.iconst 0, 1) := by decide +kernel
theorem dL_same_408 : decode cL_same 408 = .ok (.invokevirtual 47, 3) := by decide +kernel
theorem dL_same_411 : decode cL_same 411 = .ok (.iload 7, 2) := by decide +kernel
theorem dL_same_413 : decode cL_same 413 = .ok (.if_icmp .eq 5, 3) := by decide +kernel
theorem dL_same_416 : decode cL_same 416 = .ok (.iconst 0, 1) := by decide +kernel
theorem dL_same_417 : decode cL_same 417 = .ok (.ireturn, 1) := by decide +kernel
theorem dL_same_418 : decode cL_same 418 = .ok (.iconst 0, 1) := by decide +kernel
theorem dL_same_419 : decode cL_same 419 = .ok (.istore 13, 2) := by decide +kernel
theorem dL_same_421 : decode cL_same 421 = .ok (.iload 12, 2) := by decide +kernel
theorem dL_same_423 : decode cL_same 423 = .ok (.iconst 3, 1) := by decide +kernel
theorem dL_same_424 : decode cL_same 424 = .ok (.iload 13, 2) := by decide +kernel
theorem dL_same_426 : decode cL_same 426 = .ok (.imul, 1) := by decide +kernel
theorem dL_same_427 : decode cL_same 427 = .ok (.ishr, 1) := by decide +kernel
theorem dL_same_428 : decode cL_same 428 = .ok (.ifCond .le 36, 3) := by decide +kernel
theorem dL_same_431 : decode cL_same 431 = .ok (.aload_n 0, 1) := by decide +kernel
theorem dL_same_432 : decode cL_same 432 = .ok (.iload 7, 2) := by decide +kernel
theorem dL_same_434 : decode cL_same 434 = .ok (.iload 10, 2) := by decide +kernel
theorem dL_same_436 : decode cL_same 436 = .ok (.iload 13, 2) := by decide +kernel
theorem dL_same_438 : decode cL_same 438 = .ok (.invokevirtual 47, 3) := by decide +kernel
theorem dL_same_441 : decode cL_same 441 = .ok (.iload 12, 2) := by decide +kernel
theorem dL_same_443 : decode cL_same 443 = .ok (.iconst 3, 1) := by decide +kernel
theorem dL_same_444 : decode cL_same 444 = .ok (.iload 13, 2) := by decide +kernel
theorem dL_same_446 : decode cL_same 446 = .ok (.imul, 1) := by decide +kernel
theorem dL_same_447 : decode cL_same 447 = .ok (.ishr, 1) := by decide +kernel
theorem dL_same_448 : decode cL_same 448 = .ok (.bipush 7, 2) := by decide +kernel
theorem dL_same_450 : decode cL_same 450 = .ok (.iand, 1) := by decide +kernel
theorem dL_same_451 : decode cL_same 451 = .ok (.iconst 1, 1) := by decide +kernel
theorem dL_same_452 : decode cL_same 452 = .ok (.isub, 1) := by decide +kernel
theorem dL_same_453 : decode cL_same 453 = .ok (.if_icmp .eq 5, 3) := by decide +kernel
theorem dL_same_456 : decode cL_same 456 = .ok (.iconst 0, 1) := by decide +kernel
theorem dL_same_457 : decode cL_same 457 = .ok (.ireturn, 1) := by decide +kernel
theorem dL_same_458 : decode cL_same 458 = .ok (.iinc 13 1, 3) := by decide +kernel
theorem dL_same_461 : decode cL_same 461 = .ok (.goto (-40), 3) := by decide +kernel
theorem dL_same_464 : decode cL_same 464 = .ok (.iinc 10 1, 3) := by decide +kernel
theorem dL_same_467 : decode cL_same 467 = .ok (.goto (-219), 3) := by decide +kernel
theorem dL_same_470 : decode cL_same 470 = .ok (.aload_n 0, 1) := by decide +kernel
theorem dL_same_471 : decode cL_same 471 = .ok (.iload 7, 2) := by decide +kernel
theorem dL_same_473 : decode cL_same 473 = .ok (.invokevirtual 94, 3) := by decide +kernel
theorem dL_same_476 : decode cL_same 476 = .ok (.lload 8, 2) := by decide +kernel
theorem dL_same_478 : decode cL_same 478 = .ok (.lcmp, 1) := by decide +kernel
theorem dL_same_479 : decode cL_same 479 = .ok (.ifCond .ne 7, 3) := by decide +kernel
theorem dL_same_482 : decode cL_same 482 = .ok (.iconst 1, 1) := by decide +kernel
theorem dL_same_483 : decode cL_same 483 = .ok (.goto 4, 3) := by decide +kernel
theorem dL_same_486 : decode cL_same 486 = .ok (.iconst 0, 1) := by decide +kernel
theorem dL_same_487 : decode cL_same 487 = .ok (.ireturn, 1) := by decide +kernel
theorem dL_law_0 : decode cL_law 0 = .ok (.new 26, 3) := by decide +kernel
theorem dL_law_3 : decode cL_law 3 = .ok (.dup, 1) := by decide +kernel
theorem dL_law_4 : decode cL_law 4 = .ok (.invokespecial 98, 3) := by decide +kernel
theorem dL_law_7 : decode cL_law 7 = .ok (.astore_n 1, 1) := by decide +kernel
theorem dL_law_8 : decode cL_law 8 = .ok (.bipush 50, 2) := by decide +kernel
theorem dL_law_10 : decode cL_law 10 = .ok (.newarray .int, 2) := by decide +kernel
theorem dL_law_12 : decode cL_law 12 = .ok (.astore_n 2, 1) := by decide +kernel
theorem dL_law_13 : decode cL_law 13 = .ok (.bipush 25, 2) := by decide +kernel
theorem dL_law_15 : decode cL_law 15 = .ok (.newarray .long, 2) := by decide +kernel
theorem dL_law_17 : decode cL_law 17 = .ok (.astore_n 3, 1) := by decide +kernel
theorem dL_law_18 : decode cL_law 18 = .ok (.bipush 25, 2) := by decide +kernel
theorem dL_law_20 : decode cL_law 20 = .ok (.newarray .long, 2) := by decide +kernel
theorem dL_law_22 : decode cL_law 22 = .ok (.astore 4, 2) := by decide +kernel
theorem dL_law_24 : decode cL_law 24 = .ok (.bipush 10, 2) := by decide +kernel
theorem dL_law_26 : decode cL_law 26 = .ok (.newarray .int, 2) := by decide +kernel
theorem dL_law_28 : decode cL_law 28 = .ok (.astore 5, 2) := by decide +kernel
theorem dL_law_30 : decode cL_law 30 = .ok (.bipush 32, 2) := by decide +kernel
theorem dL_law_32 : decode cL_law 32 = .ok (.newarray .int, 2) := by decide +kernel
theorem dL_law_34 : decode cL_law 34 = .ok (.astore 6, 2) := by decide +kernel
theorem dL_law_36 : decode cL_law 36 = .ok (.bipush 56, 2) := by decide +kernel
theorem dL_law_38 : decode cL_law 38 = .ok (.newarray .int, 2) := by decide +kernel
theorem dL_law_40 : decode cL_law 40 = .ok (.astore 7, 2) := by decide +kernel
theorem dL_law_42 : decode cL_law 42 = .ok (.iconst 2, 1) := by decide +kernel
theorem dL_law_43 : decode cL_law 43 = .ok (.newarray .int, 2) := by decide +kernel
theorem dL_law_45 : decode cL_law 45 = .ok (.astore 8, 2) := by decide +kernel
theorem dL_law_47 : decode cL_law 47 = .ok (.iconst 0, 1) := by decide +kernel
theorem dL_law_48 : decode cL_law 48 = .ok (.istore 9, 2) := by decide +kernel
theorem dL_law_50 : decode cL_law 50 = .ok (.iload 9, 2) := by decide +kernel
theorem dL_law_52 : decode cL_law 52 = .ok (.bipush 25, 2) := by decide +kernel
theorem dL_law_54 : decode cL_law 54 = .ok (.if_icmp .ge 16, 3) := by decide +kernel
theorem dL_law_57 : decode cL_law 57 = .ok (.aload_n 2, 1) := by decide +kernel
theorem dL_law_58 : decode cL_law 58 = .ok (.iconst 2, 1) := by decide +kernel
theorem dL_law_59 : decode cL_law 59 = .ok (.iload 9, 2) := by decide +kernel
theorem dL_law_61 : decode cL_law 61 = .ok (.imul, 1) := by decide +kernel
theorem dL_law_62 : decode cL_law 62 = .ok (.iconst (-1), 1) := by decide +kernel
theorem dL_law_63 : decode cL_law 63 = .ok (.iastore, 1) := by decide +kernel
theorem dL_law_64 : decode cL_law 64 = .ok (.iinc 9 1, 3) := by decide +kernel
theorem dL_law_67 : decode cL_law 67 = .ok (.goto (-17), 3) := by decide +kernel
theorem dL_law_70 : decode cL_law 70 = .ok (.iconst 0, 1) := by decide +kernel
theorem dL_law_71 : decode cL_law 71 = .ok (.istore 9, 2) := by decide +kernel
theorem dL_law_73 : decode cL_law 73 = .ok (.iload 9, 2) := by decide +kernel
theorem dL_law_75 : decode cL_law 75 = .ok (.iconst 5, 1) := by decide +kernel
theorem dL_law_76 : decode cL_law 76 = .ok (.if_icmp .ge 28, 3) := by decide +kernel
theorem dL_law_79 : decode cL_law 79 = .ok (.aload 5, 2) := by decide +kernel
theorem dL_law_81 : decode cL_law 81 = .ok (.iconst 2, 1) := by decide +kernel
theorem dL_law_82 : decode cL_law 82 = .ok (.iload 9, 2) := by decide +kernel
theorem dL_law_84 : decode cL_law 84 = .ok (.imul, 1) := by decide +kernel
theorem dL_law_85 : decode cL_law 85 = .ok (.iconst 1, 1) := by decide +kernel
theorem dL_law_86 : decode cL_law 86 = .ok (.iastore, 1) := by decide +kernel
theorem dL_law_87 : decode cL_law 87 = .ok (.aload 5, 2) := by decide +kernel
theorem dL_law_89 : decode cL_law 89 = .ok (.iconst 2, 1) := by decide +kernel
theorem dL_law_90 : decode cL_law 90 = .ok (.iload 9, 2) := by decide +kernel
theorem dL_law_92 : decode cL_law 92 = .ok (.imul, 1) := by decide +kernel
theorem dL_law_93 : decode cL_law 93 = .ok (.iconst 1, 1) := by decide +kernel
theorem dL_law_94 : decode cL_law 94 = .ok (.iadd, 1) := by decide +kernel
theorem dL_law_95 : decode cL_law 95 = .ok (.bipush 10, 2) := by decide +kernel
theorem dL_law_97 : decode cL_law 97 = .ok (.iastore, 1) := by decide +kernel
theorem dL_law_98 : decode cL_law 98 = .ok (.iinc 9 1, 3) := by decide +kernel
theorem dL_law_101 : decode cL_law 101 = .ok (.goto (-28), 3) := by decide +kernel
theorem dL_law_104 : decode cL_law 104 = .ok (.iconst 0, 1) := by decide +kernel
theorem dL_law_105 : decode cL_law 105 = .ok (.istore 9, 2) := by decide +kernel
theorem dL_law_107 : decode cL_law 107 = .ok (.iload 9, 2) := by decide +kernel
theorem dL_law_109 : decode cL_law 109 = .ok (.bipush 60, 2) := by decide +kernel
theorem dL_law_111 : decode cL_law 111 = .ok (.if_icmp .ge 1239, 3) := by decide +kernel
theorem dL_law_114 : decode cL_law 114 = .ok (.aload_n 0, 1) := by decide +kernel
theorem dL_law_115 : decode cL_law 115 = .ok (.iconst 2, 1) := by decide +kernel
theorem dL_law_116 : decode cL_law 116 = .ok (.iload 9, 2) := by decide +kernel
theorem dL_law_118 : decode cL_law 118 = .ok (.imul, 1) := by decide +kernel
theorem dL_law_119 : decode cL_law 119 = .ok (.invokestatic 99, 3) := by decide +kernel
theorem dL_law_122 : decode cL_law 122 = .ok (.istore 10, 2) := by decide +kernel
theorem dL_law_124 : decode cL_law 124 = .ok (.aload_n 0, 1) := by decide +kernel
theorem dL_law_125 : decode cL_law 125 = .ok (.iconst 2, 1) := by decide +kernel
theorem dL_law_126 : decode cL_law 126 = .ok (.iload 9, 2) := by decide +kernel
theorem dL_law_128 : decode cL_law 128 = .ok (.imul, 1) := by decide +kernel
theorem dL_law_129 : decode cL_law 129 = .ok (.iconst 1, 1) := by decide +kernel
theorem dL_law_130 : decode cL_law 130 = .ok (.iadd, 1) := by decide +kernel
theorem dL_law_131 : decode cL_law 131 = .ok (.invokestatic 99, 3) := by decide +kernel
theorem dL_law_134 : decode cL_law 134 = .ok (.istore 11, 2) := by decide +kernel
theorem dL_law_136 : decode cL_law 136 = .ok (.iload 9, 2) := by decide +kernel
theorem dL_law_138 : decode cL_law 138 = .ok (.iconst 2, 1) := by decide +kernel
theorem dL_law_139 : decode cL_law 139 = .ok (.if_icmp .ge 7, 3) := by decide +kernel
theorem dL_law_142 : decode cL_law 142 = .ok (.iconst 0, 1) := by decide +kernel
theorem dL_law_143 : decode cL_law 143 = .ok (.goto 10, 3) := by decide +kernel
theorem dL_law_146 : decode cL_law 146 = .ok (.iload 10, 2) := by decide +kernel
theorem dL_law_148 : decode cL_law 148 = .ok (.bipush 20, 2) := by decide +kernel
theorem dL_law_150 : decode cL_law 150 = .ok (.invokestatic 103, 3) := by decide +kernel
theorem dL_law_153 : decode cL_law 153 = .ok (.istore 12, 2) := by decide +kernel
theorem dL_law_155 : decode cL_law 155 = .ok (.iload 10, 2) := by decide +kernel
theorem dL_law_157 : decode cL_law 157 = .ok (.iconst 5, 1) := by decide +kernel
theorem dL_law_158 : decode cL_law 158 = .ok (.ishr, 1) := by decide +kernel
theorem dL_law_159 : decode cL_law 159 = .ok (.iconst 5, 1) := by decide +kernel
theorem dL_law_160 : decode cL_law 160 = .ok (.invokestatic 103, 3) := by decide +kernel
theorem dL_law_163 : decode cL_law 163 = .ok (.istore 13, 2) := by decide +kernel
theorem dL_law_165 : decode cL_law 165 = .ok (.iload 10, 2) := by decide +kernel
theorem dL_law_167 : decode cL_law 167 = .ok (.bipush 8, 2) := by decide +kernel
theorem dL_law_169 : decode cL_law 169 = .ok (.ishr, 1) := by decide +kernel
theorem dL_law_170 : decode cL_law 170 = .ok (.iconst 5, 1) := by decide +kernel
theorem dL_law_171 : decode cL_law 171 = .ok (.invokestatic 103, 3) := by decide +kernel
theorem dL_law_174 : decode cL_law 174 = .ok (.istore 14, 2) := by decide +kernel
theorem dL_law_176 : decode cL_law 176 = .ok (.aload 8, 2) := by decide +kernel
theorem dL_law_178 : decode cL_law 178 = .ok (.iconst 0, 1) := by decide +kernel
theorem dL_law_179 : decode cL_law 179 = .ok (.iaload, 1) := by decide +kernel
theorem dL_law_180 : decode cL_law 180 = .ok (.ifCond .ne 7, 3) := by decide +kernel
theorem dL_law_183 : decode cL_law 183 = .ok (.iconst 0, 1) := by decide +kernel
theorem dL_law_184 : decode cL_law 184 = .ok (.goto 12, 3) := by decide +kernel
theorem dL_law_187 : decode cL_law 187 = .ok (.iload 11, 2) := by decide +kernel
theorem dL_law_189 : decode cL_law 189 = .ok (.aload 8, 2) := by decide +kernel
theorem dL_law_191 : decode cL_law 191 = .ok (.iconst 0, 1) := by decide +kernel
theorem dL_law_192 : decode cL_law 192 = .ok (.iaload, 1) := by decide +kernel
theorem dL_law_193 : decode cL_law 193 = .ok (.invokestatic 103, 3) := by decide +kernel
theorem dL_law_196 : decode cL_law 196 = .ok (.istore 15, 2) := by decide +kernel
theorem dL_law_198 : decode cL_law 198 = .ok (.iload 12, 2) := by decide +kernel
theorem dL_law_200 : decode cL_law 200 = .ok (.iconst 3, 1) := by decide +kernel
theorem dL_law_201 : decode cL_law 201 = .ok (.if_icmp .ge 112, 3) := by decide +kernel
theorem dL_law_204 : decode cL_law 204 = .ok (.aload 8, 2) := by decide +kernel
theorem dL_law_206 : decode cL_law 206 = .ok (.iconst 0, 1) := by decide +kernel
theorem dL_law_207 : decode cL_law 207 = .ok (.iaload, 1) := by decide +kernel
theorem dL_law_208 : decode cL_law 208 = .ok (.bipush 8, 2) := by decide +kernel
theorem dL_law_210 : decode cL_law 210 = .ok (.if_icmp .ne 6, 3) := by decide +kernel
theorem dL_law_213 : decode cL_law 213 = .ok (.goto 1131, 3) := by decide +kernel
theorem dL_law_216 : decode cL_law 216 = .ok (.iconst 4, 1) := by decide +kernel
theorem dL_law_217 : decode cL_law 217 = .ok (.aload 8, 2) := by decide +kernel
theorem dL_law_219 : decode cL_law 219 = .ok (.iconst 0, 1) := by decide +kernel
theorem dL_law_220 : decode cL_law 220 = .ok (.iaload, 1) := by decide +kernel
theorem dL_law_221 : decode cL_law 221 = .ok (.imul, 1) := by decide +kernel
theorem dL_law_222 : decode cL_law 222 = .ok (.istore 16, 2) := by decide +kernel
theorem dL_law_224 : decode cL_law 224 = .ok (.aload 6, 2) := by decide +kernel
theorem dL_law_226 : decode cL_law 226 = .ok (.iload 16, 2) := by decide +kernel
theorem dL_law_228 : decode cL_law 228 = .ok (.iload 13, 2) := by decide +kernel
theorem dL_law_230 : decode cL_law 230 = .ok (.iastore, 1) := by decide +kernel
theorem dL_law_231 : decode cL_law 231 = .ok (.aload 6, 2) := by decide +kernel
theorem dL_law_233 : decode cL_law 233 = .ok (.iload 16, 2) := by decide +kernel
theorem dL_law_235 : decode cL_law 235 = .ok (.iconst 1, 1) := by decide +kernel
theorem dL_law_236 : decode cL_law 236 = .ok (.iadd, 1) := by decide +kernel
theorem dL_law_237 : decode cL_law 237 = .ok (.iload 11, 2) := by decide +kernel
theorem dL_law_239 : decode cL_law 239 = .ok (.sipush 300, 3) := by decide +kernel
theorem dL_law_242 : decode cL_law 242 = .ok (.invokestatic 103, 3) := by decide +kernel
theorem dL_law_245 : decode cL_law 245 = .ok (.iastore, 1) := by decide +kernel
theorem dL_law_246 : decode cL_law 246 = .ok (.aload 6, 2) := by decide +kernel
theorem dL_law_248 : decode cL_law 248 = .ok (.iload 16, 2) := by decide +kernel
theorem dL_law_250 : decode cL_law 250 = .ok (.iconst 2, 1) := by decide +kernel
theorem dL_law_251 : decode cL_law 251 = .ok (.iadd, 1) := by decide +kernel
theorem dL_law_252 : decode cL_law 252 = .ok (.iload 11, 2) := by decide +kernel
theorem dL_law_254 : decode cL_law 254 = .ok (.bipush 9, 2) := by decide +kernel
theorem dL_law_256 : decode cL_law 256 = .ok (.ishr, 1) := by decide +kernel
theorem dL_law_257 : decode cL_law 257 = .ok (.bipush 20, 2) := by decide +kernel
theorem dL_law_259 : decode cL_law 259 = .ok (.invokestatic 103, 3) := by decide +kernel
theorem dL_law_262 : decode cL_law 262 = .ok (.iastore, 1) := by decide +kernel
theorem dL_law_263 : decode cL_law 263 = .ok (.aload 6, 2) := by decide +kernel
theorem dL_law_265 : decode cL_law 265 = .ok (.iload 16, 2) := by decide +kernel
theorem dL_law_267 : decode cL_law 267 = .ok (.iconst 3, 1) := by decide +kernel
theorem dL_law_268 : decode cL_law 268 = .ok (.iadd, 1) := by decide +kernel
theorem dL_law_269 : decode cL_law 269 = .ok (.iconst 1, 1) := by decide +kernel
theorem dL_law_270 : decode cL_law 270 = .ok (.iastore, 1) := by decide +kernel
theorem dL_law_271 : decode cL_law 271 = .ok (.aload 8, 2) := by decide +kernel
theorem dL_law_273 : decode cL_law 273 = .ok (.iconst 0, 1) := by decide +kernel
theorem dL_law_274 : decode cL_law 274 = .ok (.dup2, 1) := by decide +kernel
theorem dL_law_275 : decode cL_law 275 = .ok (.iaload, 1) := by decide +kernel
theorem dL_law_276 : decode cL_law 276 = .ok (.iconst 1, 1) := by decide +kernel
theorem dL_law_277 : decode cL_law 277 = .ok (.iadd, 1) := by decide +kernel
theorem dL_law_278 : decode cL_law 278 = .ok (.iastore, 1) := by decide +kernel
theorem dL_law_279 : decode cL_law 279 = .ok (.aload_n 1, 1) := by decide +kernel
theorem dL_law_280 : decode cL_law 280 = .ok (.iload 13, 2) := by decide +kernel
theorem dL_law_282 : decode cL_law 282 = .ok (.aload 6, 2) := by decide +kernel
theorem dL_law_284 : decode cL_law 284 = .ok (.iload 16, 2) := by decide +kernel
theorem dL_law_286 : decode cL_law 286 = .ok (.iconst 1, 1) := by decide +kernel
theorem dL_law_287 : decode cL_law 287 = .ok (.iadd, 1) := by decide +kernel
theorem dL_law_288 : decode cL_law 288 = .ok (.iaload, 1) := by decide +kernel
theorem dL_law_289 : decode cL_law 289 = .ok (.aload 6, 2) := by decide +kernel
theorem dL_law_291 : decode cL_law 291 = .ok (.iload 16, 2) := by decide +kernel
theorem dL_law_293 : decode cL_law 293 = .ok (.iconst 2, 1) := by decide +kernel
theorem dL_law_294 : decode cL_law 294 = .ok (.iadd, 1) := by decide +kernel
theorem dL_law_295 : decode cL_law 295 = .ok (.iaload, 1) := by decide +kernel
theorem dL_law_296 : decode cL_law 296 = .ok (.invokevirtual 106, 3) := by decide +kernel
theorem dL_law_299 : decode cL_law 299 = .ok (.aload 8, 2) := by decide +kernel
theorem dL_law_301 : decode cL_law 301 = .ok (.iconst 0, 1) := by decide +kernel
theorem dL_law_302 : decode cL_law 302 = .ok (.iaload, 1) := by decide +kernel
theorem dL_law_303 : decode cL_law 303 = .ok (.iconst 1, 1) := by decide +kernel
theorem dL_law_304 : decode cL_law 304 = .ok (.isub, 1) := by decide +kernel
theorem dL_law_305 : decode cL_law 305 = .ok (.if_icmp .eq 5, 3) := by decide +kernel
theorem dL_law_308 : decode cL_law 308 = .ok (.iconst 0, 1) := by decide +kernel
theorem dL_law_309 : decode cL_law 309 = .ok (.ireturn, 1) := by decide +kernel
theorem dL_law_310 : decode cL_law 310 = .ok (.goto 1013, 3) := by decide +kernel
theorem dL_law_313 : decode cL_law 313 = .ok (.iload 12, 2) := by decide +kernel
theorem dL_law_315 : decode cL_law 315 = .ok (.bipush 8, 2) := by decide +kernel
theorem dL_law_317 : decode cL_law 317 = .ok (.if_icmp .ge 110, 3) := by decide +kernel
theorem dL_law_320 : decode cL_law 320 = .ok (.iconst 2, 1) := by decide +kernel
theorem dL_law_321 : decode cL_law 321 = .ok (.iconst 5, 1) := by decide +kernel
theorem dL_law_322 : decode cL_law 322 = .ok (.iload 13, 2) := by decide +kernel
theorem dL_law_324 : decode cL_law 324 = .ok (.imul, 1) := by decide +kernel
theorem dL_law_325 : decode cL_law 325 = .ok (.iload 14, 2) := by decide +kernel
theorem dL_law_327 : decode cL_law 327 = .ok (.iadd, 1) := by decide +kernel
theorem dL_law_328 : decode cL_law 328 = .ok (.imul, 1) := by decide +kernel
theorem dL_law_329 : decode cL_law 329 = .ok (.istore 16, 2) := by decide +kernel
theorem dL_law_331 : decode cL_law 331 = .ok (.iload 13, 2) := by decide +kernel
theorem dL_law_333 : decode cL_law 333 = .ok (.iload 14, 2) := by decide +kernel
theorem dL_law_335 : decode cL_law 335 = .ok (.if_icmp .ne 6, 3) := by decide +kernel
theorem dL_law_338 : decode cL_law 338 = .ok (.goto 1006, 3) := by decide +kernel
theorem dL_law_341 : decode cL_law 341 = .ok (.aload_n 2, 1) := by decide +kernel
theorem dL_law_342 : decode cL_law 342 = .ok (.iload 16, 2) := by decide +kernel
theorem dL_law_344 : decode cL_law 344 = .ok (.iaload, 1) := by decide +kernel
theorem dL_law_345 : decode cL_law 345 = .ok (.ifCond .lt 7, 3) := by decide +kernel
theorem dL_law_348 : decode cL_law 348 = .ok (.iconst 1, 1) := by decide +kernel
theorem dL_law_349 : decode cL_law 349 = .ok (.goto 4, 3) := by decide +kernel
theorem dL_law_352 : decode cL_law 352 = .ok (.iconst 0, 1) := by decide +kernel
theorem dL_law_353 : decode cL_law 353 = .ok (.istore 17, 2) := by decide +kernel
theorem dL_law_355 : decode cL_law 355 = .ok (.aload_n 2, 1) := by decide +kernel
theorem dL_law_356 : decode cL_law 356 = .ok (.iload 16, 2) := by decide +kernel
theorem dL_law_358 : decode cL_law 358 = .ok (.iload 11, 2) := by decide +kernel
theorem dL_law_360 : decode cL_law 360 = .ok (.bipush 12, 2) := by decide +kernel
theorem dL_law_362 : decode cL_law 362 = .ok (.invokestatic 103, 3) := by decide +kernel
theorem dL_law_365 : decode cL_law 365 = .ok (.iastore, 1) := by decide +kernel
theorem dL_law_366 : decode cL_law 366 = .ok (.aload_n 2, 1) := by decide +kernel
theorem dL_law_367 : decode cL_law 367 = .ok (.iload 16, 2) := by decide +kernel
theorem dL_law_369 : decode cL_law 369 = .ok (.iconst 1, 1) := by decide +kernel
theorem dL_law_370 : decode cL_law 370 = .ok (.iadd, 1) := by decide +kernel
theorem dL_law_371 : decode cL_law 371 = .ok (.iload 11, 2) := by decide +kernel
theorem dL_law_373 : decode cL_law 373 = .ok (.iconst 4, 1) := by decide +kernel
theorem dL_law_374 : decode cL_law 374 = .ok (.ishr, 1) := by decide +kernel
theorem dL_law_375 : decode cL_law 375 = .ok (.iload 10, 2) := by decide +kernel
theorem dL_law_377 : decode cL_law 377 = .ok (.bipush 11, 2) := by decide +kernel
theorem dL_law_379 : decode cL_law 379 = .ok (.ishr, 1) := by decide +kernel
theorem dL_law_380 : decode cL_law 380 = .ok (.iconst 3, 1) := by decide +kernel
theorem dL_law_381 : decode cL_law 381 = .ok (.invokestatic 103, 3) := by decide +kernel
theorem dL_law_384 : decode cL_law 384 = .ok (.ifCond .ne 8, 3) := by decide +kernel
theorem dL_law_387 : decode cL_law 387 = .ok (.ldc 109, 2) := by decide +kernel
theorem dL_law_389 : decode cL_law 389 = .ok (.goto 6, 3) := by decide +kernel
theorem dL_law_392 : decode cL_law 392 = .ok (.sipush 150, 3) := by decide +kernel
theorem dL_law_395 : decode cL_law 395 = .ok (.invokestatic 103, 3) := by decide +kernel
theorem dL_law_398 : decode cL_law 398 = .ok (.iastore, 1) := by decide +kernel
theorem dL_law_399 : decode cL_law 399 = .ok (.aload_n 1, 1) := by decide +kernel
theorem dL_law_400 : decode cL_law 400 = .ok (.iload 13, 2) := by decide +kernel
theorem dL_law_402 : decode cL_law 402 = .ok (.iload 14, 2) := by decide +kernel
theorem dL_law_404 : decode cL_law 404 = .ok (.aload_n 2, 1) := by decide +kernel
theorem dL_law_405 : decode cL_law 405 = .ok (.iload 16, 2) := by decide +kernel
theorem dL_law_407 : decode cL_law 407 = .ok (.iaload, 1) := by decide +kernel
theorem dL_law_408 : decode cL_law 408 = .ok (.aload_n 2, 1) := by decide +kernel
theorem dL_law_409 : decode cL_law 409 = .ok (.iload 16, 2) := by decide +kernel
theorem dL_law_411 : decode cL_law 411 = .ok (.iconst 1, 1) := by decide +kernel
theorem dL_law_412 : decode cL_law 412 = .ok (.iadd, 1) := by decide +kernel
theorem dL_law_413 : decode cL_law 413 = .ok (.iaload, 1) := by decide +kernel
theorem dL_law_414 : decode cL_law 414 = .ok (.invokevirtual 110, 3) := by decide +kernel
theorem dL_law_417 : decode cL_law 417 = .ok (.iload 17, 2) := by decide +kernel
theorem dL_law_419 : decode cL_law 419 = .ok (.if_icmp .eq 5, 3) := by decide +kernel
theorem dL_law_422 : decode cL_law 422 = .ok (.iconst 0, 1) := by decide +kernel
theorem dL_law_423 : decode cL_law 423 = .ok (.ireturn, 1) := by decide +kernel
theorem dL_law_424 : decode cL_law 424 = .ok (.goto 899, 3) := by decide +kernel
theorem dL_law_427 : decode cL_law 427 = .ok (.iload 12, 2) := by decide +kernel
theorem dL_law_429 : decode cL_law 429 = .ok (.bipush 8, 2) := by decide +kernel
theorem dL_law_431 : decode cL_law 431 = .ok (.if_icmp .ne 77, 3) := by decide +kernel
theorem dL_law_434 : decode cL_law 434 = .ok (.iconst 2, 1) := by decide +kernel
theorem dL_law_435 : decode cL_law 435 = .ok (.iconst 5, 1) := by decide +kernel
theorem dL_law_436 : decode cL_law 436 = .ok (.iload 13, 2) := by decide +kernel
theorem dL_law_438 : decode cL_law 438 = .ok (.imul, 1) := by decide +kernel
theorem dL_law_439 : decode cL_law 439 = .ok (.iload 14, 2) := by decide +kernel
theorem dL_law_441 : decode cL_law 441 = .ok (.iadd, 1) := by decide +kernel
theorem dL_law_442 : decode cL_law 442 = .ok (.imul, 1) := by decide +kernel
theorem dL_law_443 : decode cL_law 443 = .ok (.istore 16, 2) := by decide +kernel
theorem dL_law_445 : decode cL_law 445 = .ok (.aload_n 2, 1) := by decide +kernel
theorem dL_law_446 : decode cL_law 446 = .ok (.iload 16, 2) := by decide +kernel
theorem dL_law_448 : decode cL_law 448 = .ok (.iaload, 1) := by decide +kernel
theorem dL_law_449 : decode cL_law 449 = .ok (.ifCond .ge 18, 3) := by decide +kernel
theorem dL_law_452 : decode cL_law 452 = .ok (.aload_n 1, 1) := by decide +kernel
theorem dL_law_453 : decode cL_law 453 = .ok (.iconst 3, 1) := by decide +kernel
theorem dL_law_454 : decode cL_law 454 = .ok (.iload 13, 2) := by decide +kernel
theorem dL_law_456 : decode cL_law 456 = .ok (.iload 14, 2) := by decide +kernel
theorem dL_law_458 : decode cL_law 458 = .ok (.invokestatic 65, 3) := by decide +kernel
theorem dL_law_461 : decode cL_law 461 = .ok (.iconst 3, 1) := by decide +kernel
theorem dL_law_462 : decode cL_law 462 = .ok (.if_icmp .eq 882, 3) := by decide +kernel
theorem dL_law_465 : decode cL_law 465 = .ok (.iconst 0, 1) := by decide +kernel
theorem dL_law_466 : decode cL_law 466 = .ok (.ireturn, 1) := by decide +kernel
theorem dL_law_467 : decode cL_law 467 = .ok (.iload 11, 2) := by decide +kernel
theorem dL_law_469 : decode cL_law 469 = .ok (.iconst 2, 1) := by decide +kernel
theorem dL_law_470 : decode cL_law 470 = .ok (.invokestatic 103, 3) := by decide +kernel
theorem dL_law_473 : decode cL_law 473 = .ok (.ifCond .ne 6, 3) := by decide +kernel
theorem dL_law_476 : decode cL_law 476 = .ok (.goto 868, 3) := by decide +kernel
theorem dL_law_479 : decode cL_law 479 = .ok (.aload_n 2, 1) := by decide +kernel
theorem dL_law_480 : decode cL_law 480 = .ok (.iload 16, 2) := by decide +kernel
theorem dL_law_482 : decode cL_law 482 = .ok (.iaload, 1) := by decide +kernel
theorem dL_law_483 : decode cL_law 483 = .ok (.istore 17, 2) := by decide +kernel
theorem dL_law_485 : decode cL_law 485 = .ok (.aload_n 2, 1) := by decide +kernel
theorem dL_law_486 : decode cL_law 486 = .ok (.iload 16, 2) := by decide +kernel
theorem dL_law_488 : decode cL_law 488 = .ok (.iconst (-1), 1) := by decide +kernel
theorem dL_law_489 : decode cL_law 489 = .ok (.iastore, 1) := by decide +kernel
theorem dL_law_490 : decode cL_law 490 = .ok (.aload_n 1, 1) := by decide +kernel
theorem dL_law_491 : decode cL_law 491 = .ok (.iload 13, 2) := by decide +kernel
theorem dL_law_493 : decode cL_law 493 = .ok (.iload 14, 2) := by decide +kernel
theorem dL_law_495 : decode cL_law 495 = .ok (.invokevirtual 38, 3) := by decide +kernel
theorem dL_law_498 : decode cL_law 498 = .ok (.iload 17, 2) := by decide +kernel
theorem dL_law_500 : decode cL_law 500 = .ok (.if_icmp .eq 5, 3) := by decide +kernel
theorem dL_law_503 : decode cL_law 503 = .ok (.iconst 0, 1) := by decide +kernel
theorem dL_law_504 : decode cL_law 504 = .ok (.ireturn, 1) := by decide +kernel
theorem dL_law_505 : decode cL_law 505 = .ok (.goto 818, 3) := by decide +kernel
theorem dL_law_508 : decode cL_law 508 = .ok (.iload 12, 2) := by decide +kernel
theorem dL_law_510 : decode cL_law 510 = .ok (.bipush 9, 2) := by decide +kernel
theorem dL_law_512 : decode cL_law 512 = .ok (.if_icmp .ne 80, 3) := by decide +kernel
theorem dL_law_515 : decode cL_law 515 = .ok (.aload 5, 2) := by decide +kernel
theorem dL_law_517 : decode cL_law 517 = .ok (.iconst 2, 1) := by decide +kernel
theorem dL_law_518 : decode cL_law 518 = .ok (.iload 13, 2) := by decide +kernel
theorem dL_law_520 : decode cL_law 520 = .ok (.imul, 1) := by decide +kernel
theorem dL_law_521 : decode cL_law 521 = .ok (.iconst 1, 1) := by decide +kernel
theorem dL_law_522 : decode cL_law 522 = .ok (.iadd, 1) := by decide +kernel
theorem dL_law_523 : decode cL_law 523 = .ok (.iaload, 1) := by decide +kernel
theorem dL_law_524 : decode cL_law 524 = .ok (.istore 16, 2) := by decide +kernel
theorem dL_law_526 : decode cL_law 526 = .ok (.aload 5, 2) := by decide +kernel
theorem dL_law_528 : decode cL_law 528 = .ok (.iconst 2, 1) := by decide +kernel
theorem dL_law_529 : decode cL_law 529 = .ok (.iload 13, 2) := by decide +kernel
theorem dL_law_531 : decode cL_law 531 = .ok (.imul, 1) := by decide +kernel
theorem dL_law_532 : decode cL_law 532 = .ok (.iconst 1, 1) := by decide +kernel
theorem dL_law_533 : decode cL_law 533 = .ok (.iload 11, 2) := by decide +kernel
theorem dL_law_535 : decode cL_law 535 = .ok (.bipush 10, 2) := by decide +kernel
theorem dL_law_537 : decode cL_law 537 = .ok (.invokestatic 103, 3) := by decide +kernel
theorem dL_law_540 : decode cL_law 540 = .ok (.iadd, 1) := by decide +kernel
theorem dL_law_541 : decode cL_law 541 = .ok (.iastore, 1) := by decide +kernel
theorem dL_law_542 : decode cL_law 542 = .ok (.aload 5, 2) := by decide +kernel
theorem dL_law_544 : decode cL_law 544 = .ok (.iconst 2, 1) := by decide +kernel
theorem dL_law_545 : decode cL_law 545 = .ok (.iload 13, 2) := by decide +kernel
theorem dL_law_547 : decode cL_law 547 = .ok (.imul, 1) := by decide +kernel
theorem dL_law_548 : decode cL_law 548 = .ok (.iconst 1, 1) := by decide +kernel
theorem dL_law_549 : decode cL_law 549 = .ok (.iadd, 1) := by decide +kernel
theorem dL_law_550 : decode cL_law 550 = .ok (.iload 11, 2) := by decide +kernel
theorem dL_law_552 : decode cL_law 552 = .ok (.iconst 4, 1) := by decide +kernel
theorem dL_law_553 : decode cL_law 553 = .ok (.ishr, 1) := by decide +kernel
theorem dL_law_554 : decode cL_law 554 = .ok (.bipush 60, 2) := by decide +kernel
theorem dL_law_556 : decode cL_law 556 = .ok (.invokestatic 103, 3) := by decide +kernel
theorem dL_law_559 : decode cL_law 559 = .ok (.iastore, 1) := by decide +kernel
theorem dL_law_560 : decode cL_law 560 = .ok (.aload_n 1, 1) := by decide +kernel
theorem dL_law_561 : decode cL_law 561 = .ok (.iload 13, 2) := by decide +kernel
theorem dL_law_563 : decode cL_law 563 = .ok (.aload 5, 2) := by decide +kernel
theorem dL_law_565 : decode cL_law 565 = .ok (.iconst 2, 1) := by decide +kernel
theorem dL_law_566 : decode cL_law 566 = .ok (.iload 13, 2) := by decide +kernel
theorem dL_law_568 : decode cL_law 568 = .ok (.imul, 1) := by decide +kernel
theorem dL_law_569 : decode cL_law 569 = .ok (.iaload, 1) := by decide +kernel
theorem dL_law_570 : decode cL_law 570 = .ok (.aload 5, 2) := by decide +kernel
theorem dL_law_572 : decode cL_law 572 = .ok (.iconst 2, 1) := by decide +kernel
theorem dL_law_573 : decode cL_law 573 = .ok (.iload 13, 2) := by decide +kernel
theorem dL_law_575 : decode cL_law 575 = .ok (.imul, 1) := by decide +kernel
theorem dL_law_576 : decode cL_law 576 = .ok (.iconst 1, 1) := by decide +kernel
theorem dL_law_577 : decode cL_law 577 = .ok (.iadd, 1) := by decide +kernel
theorem dL_law_578 : decode cL_law 578 = .ok (.iaload, 1) := by decide +kernel
theorem dL_law_579 : decode cL_law 579 = .ok (.invokevirtual 114, 3) := by decide +kernel
theorem dL_law_582 : decode cL_law 582 = .ok (.iload 16, 2) := by decide +kernel
theorem dL_law_584 : decode cL_law 584 = .ok (.if_icmp .eq 5, 3) := by decide +kernel
theorem dL_law_587 : decode cL_law 587 = .ok (.iconst 0, 1) := by decide +kernel
theorem dL_law_588 : decode cL_law 588 = .ok (.ireturn, 1) := by decide +kernel
theorem dL_law_589 : decode cL_law 589 = .ok (.goto 734, 3) := by decide +kernel
theorem dL_law_592 : decode cL_law 592 = .ok (.iload 12, 2) := by decide +kernel
theorem dL_law_594 : decode cL_law 594 = .ok (.bipush 10, 2) := by decide +kernel
theorem dL_law_596 : decode cL_law 596 = .ok (.if_icmp .ne 104, 3) := by decide +kernel
theorem dL_law_599 : decode cL_law 599 = .ok (.iconst 4, 1) := by decide +kernel
theorem dL_law_600 : decode cL_law 600 = .ok (.iload 15, 2) := by decide +kernel
theorem dL_law_602 : decode cL_law 602 = .ok (.imul, 1) := by decide +kernel
theorem dL_law_603 : decode cL_law 603 = .ok (.istore 16, 2) := by decide +kernel
theorem dL_law_605 : decode cL_law 605 = .ok (.aload 6, 2) := by decide +kernel
theorem dL_law_607 : decode cL_law 607 = .ok (.iload 16, 2) := by decide +kernel
theorem dL_law_609 : decode cL_law 609 = .ok (.iaload, 1) := by decide +kernel
theorem dL_law_610 : decode cL_law 610 = .ok (.iload 14, 2) := by decide +kernel
theorem dL_law_612 : decode cL_law 612 = .ok (.if_icmp .ne 7, 3) := by decide +kernel
theorem dL_law_615 : decode cL_law 615 = .ok (.iconst 2, 1) := by decide +kernel
theorem dL_law_616 : decode cL_law 616 = .ok (.goto 20, 3) := by decide +kernel
theorem dL_law_619 : decode cL_law 619 = .ok (.aload 6, 2) := by decide +kernel
theorem dL_law_621 : decode cL_law 621 = .ok (.iload 16, 2) := by decide +kernel
theorem dL_law_623 : decode cL_law 623 = .ok (.iconst 3, 1) := by decide +kernel
theorem dL_law_624 : decode cL_law 624 = .ok (.iadd, 1) := by decide +kernel
theorem dL_law_625 : decode cL_law 625 = .ok (.iaload, 1) := by decide +kernel
theorem dL_law_626 : decode cL_law 626 = .ok (.bipush 10, 2) := by decide +kernel
theorem dL_law_628 : decode cL_law 628 = .ok (.if_icmp .ne 7, 3) := by decide +kernel
theorem dL_law_631 : decode cL_law 631 = .ok (.iconst 3, 1) := by decide +kernel
theorem dL_law_632 : decode cL_law 632 = .ok (.goto 4, 3) := by decide +kernel
theorem dL_law_635 : decode cL_law 635 = .ok (.iconst 0, 1) := by decide +kernel
theorem dL_law_636 : decode cL_law 636 = .ok (.istore 17, 2) := by decide +kernel
theorem dL_law_638 : decode cL_law 638 = .ok (.iload 17, 2) := by decide +kernel
theorem dL_law_640 : decode cL_law 640 = .ok (.ifCond .le 19, 3) := by decide +kernel
theorem dL_law_643 : decode cL_law 643 = .ok (.aload_n 1, 1) := by decide +kernel
theorem dL_law_644 : decode cL_law 644 = .ok (.iconst 4, 1) := by decide +kernel
theorem dL_law_645 : decode cL_law 645 = .ok (.iload 15, 2) := by decide +kernel
theorem dL_law_647 : decode cL_law 647 = .ok (.iload 14, 2) := by decide +kernel
theorem dL_law_649 : decode cL_law 649 = .ok (.invokestatic 65, 3) := by decide +kernel
theorem dL_law_652 : decode cL_law 652 = .ok (.iload 17, 2) := by decide +kernel
theorem dL_law_654 : decode cL_law 654 = .ok (.if_icmp .eq 690, 3) := by decide +kernel
theorem dL_law_657 : decode cL_law 657 = .ok (.iconst 0, 1) := by decide +kernel
theorem dL_law_658 : decode cL_law 658 = .ok (.ireturn, 1) := by decide +kernel
theorem dL_law_659 : decode cL_law 659 = .ok (.aload 6, 2) := by decide +kernel
theorem dL_law_661 : decode cL_law 661 = .ok (.iload 16, 2) := by decide +kernel
theorem dL_law_663 : decode cL_law 663 = .ok (.iload 14, 2) := by decide +kernel
theorem dL_law_665 : decode cL_law 665 = .ok (.iastore, 1) := by decide +kernel
theorem dL_law_666 : decode cL_law 666 = .ok (.aload 6, 2) := by decide +kernel
theorem dL_law_668 : decode cL_law 668 = .ok (.iload 16, 2) := by decide +kernel
theorem dL_law_670 : decode cL_law 670 = .ok (.iconst 3, 1) := by decide +kernel
theorem dL_law_671 : decode cL_law 671 = .ok (.iadd, 1) := by decide +kernel
theorem dL_law_672 : decode cL_law 672 = .ok (.dup2, 1) := by decide +kernel
theorem dL_law_673 : decode cL_law 673 = .ok (.iaload, 1) := by decide +kernel
theorem dL_law_674 : decode cL_law 674 = .ok (.iconst 1, 1) := by decide +kernel
theorem dL_law_675 : decode cL_law 675 = .ok (.iadd, 1) := by decide +kernel
theorem dL_law_676 : decode cL_law 676 = .ok (.iastore, 1) := by decide +kernel
theorem dL_law_677 : decode cL_law 677 = .ok (.aload_n 1, 1) := by decide +kernel
theorem dL_law_678 : decode cL_law 678 = .ok (.iload 15, 2) := by decide +kernel
theorem dL_law_680 : decode cL_law 680 = .ok (.iload 14, 2) := by decide +kernel
theorem dL_law_682 : decode cL_law 682 = .ok (.invokevirtual 41, 3) := by decide +kernel
theorem dL_law_685 : decode cL_law 685 = .ok (.aload 6, 2) := by decide +kernel
theorem dL_law_687 : decode cL_law 687 = .ok (.iload 16, 2) := by decide +kernel
theorem dL_law_689 : decode cL_law 689 = .ok (.iconst 3, 1) := by decide +kernel
theorem dL_law_690 : decode cL_law 690 = .ok (.iadd, 1) := by decide +kernel
theorem dL_law_691 : decode cL_law 691 = .ok (.iaload, 1) := by decide +kernel
theorem dL_law_692 : decode cL_law 692 = .ok (.if_icmp .eq 5, 3) := by decide +kernel
theorem dL_law_695 : decode cL_law 695 = .ok (.iconst 0, 1) := by decide +kernel
theorem dL_law_696 : decode cL_law 696 = .ok (.ireturn, 1) := by decide +kernel
theorem dL_law_697 : decode cL_law 697 = .ok (.goto 626, 3) := by decide +kernel
theorem dL_law_700 : decode cL_law 700 = .ok (.iload 12, 2) := by decide +kernel
theorem dL_law_702 : decode cL_law 702 = .ok (.bipush 11, 2) := by decide +kernel
theorem dL_law_704 : decode cL_law 704 = .ok (.if_icmp .ne 87, 3) := by decide +kernel
theorem dL_law_707 : decode cL_law 707 = .ok (.aload 6, 2) := by decide +kernel
theorem dL_law_709 : decode cL_law 709 = .ok (.iconst 4, 1) := by decide +kernel
theorem dL_law_710 : decode cL_law 710 = .ok (.iload 15, 2) := by decide +kernel
theorem dL_law_712 : decode cL_law 712 = .ok (.imul, 1) := by decide +kernel
theorem dL_law_713 : decode cL_law 713 = .ok (.iconst 1, 1) := by decide +kernel
theorem dL_law_714 : decode cL_law 714 = .ok (.iadd, 1) := by decide +kernel
theorem dL_law_715 : decode cL_law 715 = .ok (.dup2, 1) := by decide +kernel
theorem dL_law_716 : decode cL_law 716 = .ok (.iaload, 1) := by decide +kernel
theorem dL_law_717 : decode cL_law 717 = .ok (.iload 11, 2) := by decide +kernel
theorem dL_law_719 : decode cL_law 719 = .ok (.iconst 4, 1) := by decide +kernel
theorem dL_law_720 : decode cL_law 720 = .ok (.ishr, 1) := by decide +kernel
theorem dL_law_721 : decode cL_law 721 = .ok (.sipush 200, 3) := by decide +kernel
theorem dL_law_724 : decode cL_law 724 = .ok (.invokestatic 103, 3) := by decide +kernel
theorem dL_law_727 : decode cL_law 727 = .ok (.iadd, 1) := by decide +kernel
theorem dL_law_728 : decode cL_law 728 = .ok (.iastore, 1) := by decide +kernel
theorem dL_law_729 : decode cL_law 729 = .ok (.aload 6, 2) := by decide +kernel
theorem dL_law_731 : decode cL_law 731 = .ok (.iconst 4, 1) := by decide +kernel
theorem dL_law_732 : decode cL_law 732 = .ok (.iload 15, 2) := by decide +kernel
theorem dL_law_734 : decode cL_law 734 = .ok (.imul, 1) := by decide +kernel
theorem dL_law_735 : decode cL_law 735 = .ok (.iconst 2, 1) := by decide +kernel
theorem dL_law_736 : decode cL_law 736 = .ok (.iadd, 1) := by decide +kernel
theorem dL_law_737 : decode cL_law 737 = .ok (.dup2, 1) := by decide +kernel
theorem dL_law_738 : decode cL_law 738 = .ok (.iaload, 1) := by decide +kernel
theorem dL_law_739 : decode cL_law 739 = .ok (.iload 11, 2) := by decide +kernel
theorem dL_law_741 : decode cL_law 741 = .ok (.bipush 12, 2) := by decide +kernel
theorem dL_law_743 : decode cL_law 743 = .ok (.ishr, 1) := by decide +kernel
theorem dL_law_744 : decode cL_law 744 = .ok (.bipush 12, 2) := by decide +kernel
theorem dL_law_746 : decode cL_law 746 = .ok (.invokestatic 103, 3) := by decide +kernel
theorem dL_law_749 : decode cL_law 749 = .ok (.iadd, 1) := by decide +kernel
theorem dL_law_750 : decode cL_law 750 = .ok (.iastore, 1) := by decide +kernel
theorem dL_law_751 : decode cL_law 751 = .ok (.aload_n 1, 1) := by decide +kernel
theorem dL_law_752 : decode cL_law 752 = .ok (.iload 15, 2) := by decide +kernel
theorem dL_law_754 : decode cL_law 754 = .ok (.iload 11, 2) := by decide +kernel
theorem dL_law_756 : decode cL_law 756 = .ok (.iconst 4, 1) := by decide +kernel
theorem dL_law_757 : decode cL_law 757 = .ok (.ishr, 1) := by decide +kernel
theorem dL_law_758 : decode cL_law 758 = .ok (.sipush 200, 3) := by decide +kernel
theorem dL_law_761 : decode cL_law 761 = .ok (.invokestatic 103, 3) := by decide +kernel
theorem dL_law_764 : decode cL_law 764 = .ok (.iload 11, 2) := by decide +kernel
theorem dL_law_766 : decode cL_law 766 = .ok (.bipush 12, 2) := by decide +kernel
theorem dL_law_768 : decode cL_law 768 = .ok (.ishr, 1) := by decide +kernel
theorem dL_law_769 : decode cL_law 769 = .ok (.bipush 12, 2) := by decide +kernel
theorem dL_law_771 : decode cL_law 771 = .ok (.invokestatic 103, 3) := by decide +kernel
theorem dL_law_774 : decode cL_law 774 = .ok (.invokevirtual 117, 3) := by decide +kernel
theorem dL_law_777 : decode cL_law 777 = .ok (.aload 6, 2) := by decide +kernel
theorem dL_law_779 : decode cL_law 779 = .ok (.iconst 4, 1) := by decide +kernel
theorem dL_law_780 : decode cL_law 780 = .ok (.iload 15, 2) := by decide +kernel
theorem dL_law_782 : decode cL_law 782 = .ok (.imul, 1) := by decide +kernel
theorem dL_law_783 : decode cL_law 783 = .ok (.iconst 1, 1) := by decide +kernel
theorem dL_law_784 : decode cL_law 784 = .ok (.iadd, 1) := by decide +kernel
theorem dL_law_785 : decode cL_law 785 = .ok (.iaload, 1) := by decide +kernel
theorem dL_law_786 : decode cL_law 786 = .ok (.if_icmp .eq 537, 3) := by decide +kernel
theorem dL_law_789 : decode cL_law 789 = .ok (.iconst 0, 1) := by decide +kernel
theorem dL_law_790 : decode cL_law 790 = .ok (.ireturn, 1) := by decide +kernel
theorem dL_law_791 : decode cL_law 791 = .ok (.iload 12, 2) := by decide +kernel
theorem dL_law_793 : decode cL_law 793 = .ok (.bipush 15, 2) := by decide +kernel
theorem dL_law_795 : decode cL_law 795 = .ok (.if_icmp .ge 221, 3) := by decide +kernel
theorem dL_law_798 : decode cL_law 798 = .ok (.iload 11, 2) := by decide +kernel
theorem dL_law_800 : decode cL_law 800 = .ok (.iconst 4, 1) := by decide +kernel
theorem dL_law_801 : decode cL_law 801 = .ok (.ishr, 1) := by decide +kernel
theorem dL_law_802 : decode cL_law 802 = .ok (.aload 8, 2) := by decide +kernel
theorem dL_law_804 : decode cL_law 804 = .ok (.iconst 0, 1) := by decide +kernel
theorem dL_law_805 : decode cL_law 805 = .ok (.iaload, 1) := by decide +kernel
theorem dL_law_806 : decode cL_law 806 = .ok (.invokestatic 103, 3) := by decide +kernel
theorem dL_law_809 : decode cL_law 809 = .ok (.istore 16, 2) := by decide +kernel
theorem dL_law_811 : decode cL_law 811 = .ok (.iload 15, 2) := by decide +kernel
theorem dL_law_813 : decode cL_law 813 = .ok (.iload 16, 2) := by decide +kernel
theorem dL_law_815 : decode cL_law 815 = .ok (.if_icmp .ne 18, 3) := by decide +kernel
theorem dL_law_818 : decode cL_law 818 = .ok (.aload_n 1, 1) := by decide +kernel
theorem dL_law_819 : decode cL_law 819 = .ok (.iconst 0, 1) := by decide +kernel
theorem dL_law_820 : decode cL_law 820 = .ok (.iload 15, 2) := by decide +kernel
theorem dL_law_822 : decode cL_law 822 = .ok (.iload 16, 2) := by decide +kernel
theorem dL_law_824 : decode cL_law 824 = .ok (.invokestatic 65, 3) := by decide +kernel
theorem dL_law_827 : decode cL_law 827 = .ok (.iconst 2, 1) := by decide +kernel
theorem dL_law_828 : decode cL_law 828 = .ok (.if_icmp .eq 516, 3) := by decide +kernel
theorem dL_law_831 : decode cL_law 831 = .ok (.iconst 0, 1) := by decide +kernel
theorem dL_law_832 : decode cL_law 832 = .ok (.ireturn, 1) := by decide +kernel
theorem dL_law_833 : decode cL_law 833 = .ok (.aload 6, 2) := by decide +kernel
theorem dL_law_835 : decode cL_law 835 = .ok (.iconst 4, 1) := by decide +kernel
theorem dL_law_836 : decode cL_law 836 = .ok (.iload 15, 2) := by decide +kernel
theorem dL_law_838 : decode cL_law 838 = .ok (.imul, 1) := by decide +kernel
theorem dL_law_839 : decode cL_law 839 = .ok (.iaload, 1) := by decide +kernel
theorem dL_law_840 : decode cL_law 840 = .ok (.aload 6, 2) := by decide +kernel
theorem dL_law_842 : decode cL_law 842 = .ok (.iconst 4, 1) := by decide +kernel
theorem dL_law_843 : decode cL_law 843 = .ok (.iload 16, 2) := by decide +kernel
theorem dL_law_845 : decode cL_law 845 = .ok (.imul, 1) := by decide +kernel
theorem dL_law_846 : decode cL_law 846 = .ok (.iaload, 1) := by decide +kernel
theorem dL_law_847 : decode cL_law 847 = .ok (.aload_n 2, 1) := by decide +kernel
theorem dL_law_848 : decode cL_law 848 = .ok (.aload 4, 2) := by decide +kernel
theorem dL_law_850 : decode cL_law 850 = .ok (.invokestatic 21, 3) := by decide +kernel
theorem dL_law_853 : decode cL_law 853 = .ok (.istore 17, 2) := by decide +kernel
theorem dL_law_855 : decode cL_law 855 = .ok (.iload 17, 2) := by decide +kernel
theorem dL_law_857 : decode cL_law 857 = .ok (.ifCond .eq 27, 3) := by decide +kernel
theorem dL_law_860 : decode cL_law 860 = .ok (.iload 15, 2) := by decide +kernel
theorem dL_law_862 : decode cL_law 862 = .ok (.aload 7, 2) := by decide +kernel
theorem dL_law_864 : decode cL_law 864 = .ok (.aload 8, 2) := by decide +kernel
theorem dL_law_866 : decode cL_law 866 = .ok (.invokestatic 120, 3) := by decide +kernel
theorem dL_law_869 : decode cL_law 869 = .ok (.ifCond .ne 15, 3) := by decide +kernel
theorem dL_law_872 : decode cL_law 872 = .ok (.iload 16, 2) := by decide +kernel
theorem dL_law_874 : decode cL_law 874 = .ok (.aload 7, 2) := by decide +kernel
theorem dL_law_876 : decode cL_law 876 = .ok (.aload 8, 2) := by decide +kernel
theorem dL_law_878 : decode cL_law 878 = .ok (.invokestatic 120, 3) := by decide +kernel
theorem dL_law_881 : decode cL_law 881 = .ok (.ifCond .eq 18, 3) := by decide +kernel
theorem dL_law_884 : decode cL_law 884 = .ok (.aload_n 1, 1) := by decide +kernel
theorem dL_law_885 : decode cL_law 885 = .ok (.iconst 0, 1) := by decide +kernel
theorem dL_law_886 : decode cL_law 886 = .ok (.iload 15, 2) := by decide +kernel
theorem dL_law_888 : decode cL_law 888 = .ok (.iload 16, 2) := by decide +kernel
theorem dL_law_890 : decode cL_law 890 = .ok (.invokestatic 65, 3) := by decide +kernel
theorem dL_law_893 : decode cL_law 893 = .ok (.iconst 3, 1) := by decide +kernel
theorem dL_law_894 : decode cL_law 894 = .ok (.if_icmp .eq 450, 3) := by decide +kernel
theorem dL_law_897 : decode cL_law 897 = .ok (.iconst 0, 1) := by decide +kernel
theorem dL_law_898 : decode cL_law 898 = .ok (.ireturn, 1) := by decide +kernel
theorem dL_law_899 : decode cL_law 899 = .ok (.aload 8, 2) := by decide +kernel
theorem dL_law_901 : decode cL_law 901 = .ok (.iconst 1, 1) := by decide +kernel
theorem dL_law_902 : decode cL_law 902 = .ok (.iaload, 1) := by decide +kernel
theorem dL_law_903 : decode cL_law 903 = .ok (.bipush 7, 2) := by decide +kernel
theorem dL_law_905 : decode cL_law 905 = .ok (.if_icmp .ne 6, 3) := by decide +kernel
theorem dL_law_908 : decode cL_law 908 = .ok (.goto 436, 3) := by decide +kernel
theorem dL_law_911 : decode cL_law 911 = .ok (.bipush 8, 2) := by decide +kernel
theorem dL_law_913 : decode cL_law 913 = .ok (.aload 8, 2) := by decide +kernel
theorem dL_law_915 : decode cL_law 915 = .ok (.iconst 1, 1) := by decide +kernel
theorem dL_law_916 : decode cL_law 916 = .ok (.iaload, 1) := by decide +kernel
theorem dL_law_917 : decode cL_law 917 = .ok (.imul, 1) := by decide +kernel
theorem dL_law_918 : decode cL_law 918 = .ok (.istore 18, 2) := by decide +kernel
theorem dL_law_920 : decode cL_law 920 = .ok (.aload 7, 2) := by decide +kernel
theorem dL_law_922 : decode cL_law 922 = .ok (.iload 18, 2) := by decide +kernel
theorem dL_law_924 : decode cL_law 924 = .ok (.iload 15, 2) := by decide +kernel
theorem dL_law_926 : decode cL_law 926 = .ok (.iastore, 1) := by decide +kernel
theorem dL_law_927 : decode cL_law 927 = .ok (.aload 7, 2) := by decide +kernel
theorem dL_law_929 : decode cL_law 929 = .ok (.iload 18, 2) := by decide +kernel
theorem dL_law_931 : decode cL_law 931 = .ok (.iconst 1, 1) := by decide +kernel
theorem dL_law_932 : decode cL_law 932 = .ok (.iadd, 1) := by decide +kernel
theorem dL_law_933 : decode cL_law 933 = .ok (.iload 16, 2) := by decide +kernel
theorem dL_law_935 : decode cL_law 935 = .ok (.iastore, 1) := by decide +kernel
theorem dL_law_936 : decode cL_law 936 = .ok (.aload 7, 2) := by decide +kernel
theorem dL_law_938 : decode cL_law 938 = .ok (.iload 18, 2) := by decide +kernel
theorem dL_law_940 : decode cL_law 940 = .ok (.iconst 3, 1) := by decide +kernel
theorem dL_law_941 : decode cL_law 941 = .ok (.iadd, 1) := by decide +kernel
theorem dL_law_942 : decode cL_law 942 = .ok (.aload 5, 2) := by decide +kernel
theorem dL_law_944 : decode cL_law 944 = .ok (.iconst 2, 1) := by decide +kernel
theorem dL_law_945 : decode cL_law 945 = .ok (.aload 6, 2) := by decide +kernel
theorem dL_law_947 : decode cL_law 947 = .ok (.iconst 4, 1) := by decide +kernel
theorem dL_law_948 : decode cL_law 948 = .ok (.iload 15, 2) := by decide +kernel
theorem dL_law_950 : decode cL_law 950 = .ok (.imul, 1) := by decide +kernel
theorem dL_law_951 : decode cL_law 951 = .ok (.iaload, 1) := by decide +kernel
theorem dL_law_952 : decode cL_law 952 = .ok (.imul, 1) := by decide +kernel
theorem dL_law_953 : decode cL_law 953 = .ok (.iaload, 1) := by decide +kernel
theorem dL_law_954 : decode cL_law 954 = .ok (.iastore, 1) := by decide +kernel
theorem dL_law_955 : decode cL_law 955 = .ok (.aload 7, 2) := by decide +kernel
theorem dL_law_957 : decode cL_law 957 = .ok (.iload 18, 2) := by decide +kernel
theorem dL_law_959 : decode cL_law 959 = .ok (.iconst 4, 1) := by decide +kernel
theorem dL_law_960 : decode cL_law 960 = .ok (.iadd, 1) := by decide +kernel
theorem dL_law_961 : decode cL_law 961 = .ok (.aload 5, 2) := by decide +kernel
theorem dL_law_963 : decode cL_law 963 = .ok (.iconst 2, 1) := by decide +kernel
theorem dL_law_964 : decode cL_law 964 = .ok (.aload 6, 2) := by decide +kernel
theorem dL_law_966 : decode cL_law 966 = .ok (.iconst 4, 1) := by decide +kernel
theorem dL_law_967 : decode cL_law 967 = .ok (.iload 15, 2) := by decide +kernel
theorem dL_law_969 : decode cL_law 969 = .ok (.imul, 1) := by decide +kernel
theorem dL_law_970 : decode cL_law 970 = .ok (.iaload, 1) := by decide +kernel
theorem dL_law_971 : decode cL_law 971 = .ok (.imul, 1) := by decide +kernel
theorem dL_law_972 : decode cL_law 972 = .ok (.iconst 1, 1) := by decide +kernel
theorem dL_law_973 : decode cL_law 973 = .ok (.iadd, 1) := by decide +kernel
theorem dL_law_974 : decode cL_law 974 = .ok (.iaload, 1) := by decide +kernel
theorem dL_law_975 : decode cL_law 975 = .ok (.iastore, 1) := by decide +kernel
theorem dL_law_976 : decode cL_law 976 = .ok (.aload 7, 2) := by decide +kernel
theorem dL_law_978 : decode cL_law 978 = .ok (.iload 18, 2) := by decide +kernel
theorem dL_law_980 : decode cL_law 980 = .ok (.bipush 7, 2) := by decide +kernel
theorem dL_law_982 : decode cL_law 982 = .ok (.iadd, 1) := by decide +kernel
theorem dL_law_983 : decode cL_law 983 = .ok (.iload 17, 2) := by decide +kernel
theorem dL_law_985 : decode cL_law 985 = .ok (.iastore, 1) := by decide +kernel
theorem dL_law_986 : decode cL_law 986 = .ok (.aload 8, 2) := by decide +kernel
theorem dL_law_988 : decode cL_law 988 = .ok (.iconst 1, 1) := by decide +kernel
theorem dL_law_989 : decode cL_law 989 = .ok (.dup2, 1) := by decide +kernel
theorem dL_law_990 : decode cL_law 990 = .ok (.iaload, 1) := by decide +kernel
theorem dL_law_991 : decode cL_law 991 = .ok (.iconst 1, 1) := by decide +kernel
theorem dL_law_992 : decode cL_law 992 = .ok (.iadd, 1) := by decide +kernel
theorem dL_law_993 : decode cL_law 993 = .ok (.iastore, 1) := by decide +kernel
theorem dL_law_994 : decode cL_law 994 = .ok (.aload_n 1, 1) := by decide +kernel
theorem dL_law_995 : decode cL_law 995 = .ok (.iload 15, 2) := by decide +kernel
theorem dL_law_997 : decode cL_law 997 = .ok (.iload 16, 2) := by decide +kernel
theorem dL_law_999 : decode cL_law 999 = .ok (.invokevirtual 25, 3) := by decide +kernel
theorem dL_law_1002 : decode cL_law 1002 = .ok (.aload 8, 2) := by decide +kernel
theorem dL_law_1004 : decode cL_law 1004 = .ok (.iconst 1, 1) := by decide +kernel
theorem dL_law_1005 : decode cL_law 1005 = .ok (.iaload, 1) := by decide +kernel
theorem dL_law_1006 : decode cL_law 1006 = .ok (.iconst 1, 1) := by decide +kernel
theorem dL_law_1007 : decode cL_law 1007 = .ok (.isub, 1) := by decide +kernel
theorem dL_law_1008 : decode cL_law 1008 = .ok (.if_icmp .eq 5, 3) := by decide +kernel
theorem dL_law_1011 : decode cL_law 1011 = .ok (.iconst 0, 1) := by decide +kernel
theorem dL_law_1012 : decode cL_law 1012 = .ok (.ireturn, 1) := by decide +kernel
theorem dL_law_1013 : decode cL_law 1013 = .ok (.goto 310, 3) := by decide +kernel
theorem dL_law_1016 : decode cL_law 1016 = .ok (.iload 12, 2) := by decide +kernel
theorem dL_law_1018 : decode cL_law 1018 = .ok (.bipush 15, 2) := by decide +kernel
theorem dL_law_1020 : decode cL_law 1020 = .ok (.if_icmp .ne 96, 3) := by decide +kernel
theorem dL_law_1023 : decode cL_law 1023 = .ok (.iload 11, 2) := by decide +kernel
theorem dL_law_1025 : decode cL_law 1025 = .ok (.bipush 7, 2) := by decide +kernel
theorem dL_law_1027 : decode cL_law 1027 = .ok (.invokestatic 103, 3) := by decide +kernel
theorem dL_law_1030 : decode cL_law 1030 = .ok (.istore 16, 2) := by decide +kernel
theorem dL_law_1032 : decode cL_law 1032 = .ok (.iload 16, 2) := by decide +kernel
theorem dL_law_1034 : decode cL_law 1034 = .ok (.aload 8, 2) := by decide +kernel
theorem dL_law_1036 : decode cL_law 1036 = .ok (.iconst 1, 1) := by decide +kernel
theorem dL_law_1037 : decode cL_law 1037 = .ok (.iaload, 1) := by decide +kernel
theorem dL_law_1038 : decode cL_law 1038 = .ok (.if_icmp .ge 16, 3) := by decide +kernel
theorem dL_law_1041 : decode cL_law 1041 = .ok (.aload 7, 2) := by decide +kernel
theorem dL_law_1043 : decode cL_law 1043 = .ok (.bipush 8, 2) := by decide +kernel
theorem dL_law_1045 : decode cL_law 1045 = .ok (.iload 16, 2) := by decide +kernel
theorem dL_law_1047 : decode cL_law 1047 = .ok (.imul, 1) := by decide +kernel
theorem dL_law_1048 : decode cL_law 1048 = .ok (.iconst 2, 1) := by decide +kernel
theorem dL_law_1049 : decode cL_law 1049 = .ok (.iadd, 1) := by decide +kernel
theorem dL_law_1050 : decode cL_law 1050 = .ok (.iaload, 1) := by decide +kernel
theorem dL_law_1051 : decode cL_law 1051 = .ok (.ifCond .eq 30, 3) := by decide +kernel
theorem dL_law_1054 : decode cL_law 1054 = .ok (.aload_n 1, 1) := by decide +kernel
theorem dL_law_1055 : decode cL_law 1055 = .ok (.iconst 1, 1) := by decide +kernel
theorem dL_law_1056 : decode cL_law 1056 = .ok (.iload 16, 2) := by decide +kernel
theorem dL_law_1058 : decode cL_law 1058 = .ok (.iconst 0, 1) := by decide +kernel
theorem dL_law_1059 : decode cL_law 1059 = .ok (.invokestatic 65, 3) := by decide +kernel
theorem dL_law_1062 : decode cL_law 1062 = .ok (.iload 16, 2) := by decide +kernel
theorem dL_law_1064 : decode cL_law 1064 = .ok (.aload 8, 2) := by decide +kernel
theorem dL_law_1066 : decode cL_law 1066 = .ok (.iconst 1, 1) := by decide +kernel
theorem dL_law_1067 : decode cL_law 1067 = .ok (.iaload, 1) := by decide +kernel
theorem dL_law_1068 : decode cL_law 1068 = .ok (.if_icmp .lt 7, 3) := by decide +kernel
theorem dL_law_1071 : decode cL_law 1071 = .ok (.iconst 1, 1) := by decide +kernel
theorem dL_law_1072 : decode cL_law 1072 = .ok (.goto 4, 3) := by decide +kernel
theorem dL_law_1075 : decode cL_law 1075 = .ok (.iconst 3, 1) := by decide +kernel
theorem dL_law_1076 : decode cL_law 1076 = .ok (.if_icmp .eq 268, 3) := by decide +kernel
theorem dL_law_1079 : decode cL_law 1079 = .ok (.iconst 0, 1) := by decide +kernel
theorem dL_law_1080 : decode cL_law 1080 = .ok (.ireturn, 1) := by decide +kernel
theorem dL_law_1081 : decode cL_law 1081 = .ok (.aload 7, 2) := by decide +kernel
theorem dL_law_1083 : decode cL_law 1083 = .ok (.bipush 8, 2) := by decide +kernel
theorem dL_law_1085 : decode cL_law 1085 = .ok (.iload 16, 2) := by decide +kernel
theorem dL_law_1087 : decode cL_law 1087 = .ok (.imul, 1) := by decide +kernel
theorem dL_law_1088 : decode cL_law 1088 = .ok (.iconst 2, 1) := by decide +kernel
theorem dL_law_1089 : decode cL_law 1089 = .ok (.iadd, 1) := by decide +kernel
theorem dL_law_1090 : decode cL_law 1090 = .ok (.iconst 1, 1) := by decide +kernel
theorem dL_law_1091 : decode cL_law 1091 = .ok (.iastore, 1) := by decide +kernel
theorem dL_law_1092 : decode cL_law 1092 = .ok (.aload_n 1, 1) := by decide +kernel
theorem dL_law_1093 : decode cL_law 1093 = .ok (.iload 16, 2) := by decide +kernel
theorem dL_law_1095 : decode cL_law 1095 = .ok (.invokevirtual 31, 3) := by decide +kernel
theorem dL_law_1098 : decode cL_law 1098 = .ok (.aload 7, 2) := by decide +kernel
theorem dL_law_1100 : decode cL_law 1100 = .ok (.bipush 8, 2) := by decide +kernel
theorem dL_law_1102 : decode cL_law 1102 = .ok (.iload 16, 2) := by decide +kernel
theorem dL_law_1104 : decode cL_law 1104 = .ok (.imul, 1) := by decide +kernel
theorem dL_law_1105 : decode cL_law 1105 = .ok (.iconst 5, 1) := by decide +kernel
theorem dL_law_1106 : decode cL_law 1106 = .ok (.iadd, 1) := by decide +kernel
theorem dL_law_1107 : decode cL_law 1107 = .ok (.iaload, 1) := by decide +kernel
theorem dL_law_1108 : decode cL_law 1108 = .ok (.if_icmp .eq 5, 3) := by decide +kernel
theorem dL_law_1111 : decode cL_law 1111 = .ok (.iconst 0, 1) := by decide +kernel
theorem dL_law_1112 : decode cL_law 1112 = .ok (.ireturn, 1) := by decide +kernel
theorem dL_law_1113 : decode cL_law 1113 = .ok (.goto 210, 3) := by decide +kernel
theorem dL_law_1116 : decode cL_law 1116 = .ok (.iload 12, 2) := by decide +kernel
theorem dL_law_1118 : decode cL_law 1118 = .ok (.bipush 16, 2) := by decide +kernel
theorem dL_law_1120 : decode cL_law 1120 = .ok (.if_icmp .ne 86, 3) := by decide +kernel
theorem dL_law_1123 : decode cL_law 1123 = .ok (.aload 4, 2) := by decide +kernel
theorem dL_law_1125 : decode cL_law 1125 = .ok (.iconst 5, 1) := by decide +kernel
theorem dL_law_1126 : decode cL_law 1126 = .ok (.iload 13, 2) := by decide +kernel
theorem dL_law_1128 : decode cL_law 1128 = .ok (.imul, 1) := by decide +kernel
theorem dL_law_1129 : decode cL_law 1129 = .ok (.iload 14, 2) := by decide +kernel
theorem dL_law_1131 : decode cL_law 1131 = .ok (.iadd, 1) := by decide +kernel
theorem dL_law_1132 : decode cL_law 1132 = .ok (.laload, 1) := by decide +kernel
theorem dL_law_1133 : decode cL_law 1133 = .ok (.lconst 0, 1) := by decide +kernel
theorem dL_law_1134 : decode cL_law 1134 = .ok (.lcmp, 1) := by decide +kernel
theorem dL_law_1135 : decode cL_law 1135 = .ok (.ifCond .gt 18, 3) := by decide +kernel
theorem dL_law_1138 : decode cL_law 1138 = .ok (.aload_n 1, 1) := by decide +kernel
theorem dL_law_1139 : decode cL_law 1139 = .ok (.iconst 2, 1) := by decide +kernel
theorem dL_law_1140 : decode cL_law 1140 = .ok (.iload 13, 2) := by decide +kernel
theorem dL_law_1142 : decode cL_law 1142 = .ok (.iload 14, 2) := by decide +kernel
theorem dL_law_1144 : decode cL_law 1144 = .ok (.invokestatic 65, 3) := by decide +kernel
theorem dL_law_1147 : decode cL_law 1147 = .ok (.iconst 3, 1) := by decide +kernel
theorem dL_law_1148 : decode cL_law 1148 = .ok (.if_icmp .eq 196, 3) := by decide +kernel
theorem dL_law_1151 : decode cL_law 1151 = .ok (.iconst 0, 1) := by decide +kernel
theorem dL_law_1152 : decode cL_law 1152 = .ok (.ireturn, 1) := by decide +kernel
theorem dL_law_1153 : decode cL_law 1153 = .ok (.aload 4, 2) := by decide +kernel
theorem dL_law_1155 : decode cL_law 1155 = .ok (.iconst 5, 1) := by decide +kernel
theorem dL_law_1156 : decode cL_law 1156 = .ok (.iload 13, 2) := by decide +kernel
theorem dL_law_1158 : decode cL_law 1158 = .ok (.imul, 1) := by decide +kernel
theorem dL_law_1159 : decode cL_law 1159 = .ok (.iload 14, 2) := by decide +kernel
theorem dL_law_1161 : decode cL_law 1161 = .ok (.iadd, 1) := by decide +kernel
theorem dL_law_1162 : decode cL_law 1162 = .ok (.laload, 1) := by decide +kernel
theorem dL_law_1163 : decode cL_law 1163 = .ok (.lstore 16, 2) := by decide +kernel
theorem dL_law_1165 : decode cL_law 1165 = .ok (.aload 4, 2) := by decide +kernel
theorem dL_law_1167 : decode cL_law 1167 = .ok (.iconst 5, 1) := by decide +kernel
theorem dL_law_1168 : decode cL_law 1168 = .ok (.iload 13, 2) := by decide +kernel
theorem dL_law_1170 : decode cL_law 1170 = .ok (.imul, 1) := by decide +kernel
theorem dL_law_1171 : decode cL_law 1171 = .ok (.iload 14, 2) := by decide +kernel
theorem dL_law_1173 : decode cL_law 1173 = .ok (.iadd, 1) := by decide +kernel
theorem dL_law_1174 : decode cL_law 1174 = .ok (.lconst 0, 1) := by decide +kernel
theorem dL_law_1175 : decode cL_law 1175 = .ok (.lastore, 1) := by decide +kernel
theorem dL_law_1176 : decode cL_law 1176 = .ok (.aload 4, 2) := by decide +kernel
theorem dL_law_1178 : decode cL_law 1178 = .ok (.iconst 5, 1) := by decide +kernel
theorem dL_law_1179 : decode cL_law 1179 = .ok (.iload 14, 2) := by decide +kernel
theorem dL_law_1181 : decode cL_law 1181 = .ok (.imul, 1) := by decide +kernel
theorem dL_law_1182 : decode cL_law 1182 = .ok (.iload 13, 2) := by decide +kernel
theorem dL_law_1184 : decode cL_law 1184 = .ok (.iadd, 1) := by decide +kernel
theorem dL_law_1185 : decode cL_law 1185 = .ok (.lconst 0, 1) := by decide +kernel
theorem dL_law_1186 : decode cL_law 1186 = .ok (.lastore, 1) := by decide +kernel
theorem dL_law_1187 : decode cL_law 1187 = .ok (.aload_n 1, 1) := by decide +kernel
theorem dL_law_1188 : decode cL_law 1188 = .ok (.iload 13, 2) := by decide +kernel
theorem dL_law_1190 : decode cL_law 1190 = .ok (.iload 14, 2) := by decide +kernel
theorem dL_law_1192 : decode cL_law 1192 = .ok (.invokevirtual 34, 3) := by decide +kernel
theorem dL_law_1195 : decode cL_law 1195 = .ok (.lload 16, 2) := by decide +kernel
theorem dL_law_1197 : decode cL_law 1197 = .ok (.lcmp, 1) := by decide +kernel
theorem dL_law_1198 : decode cL_law 1198 = .ok (.ifCond .eq 5, 3) := by decide +kernel
theorem dL_law_1201 : decode cL_law 1201 = .ok (.iconst 0, 1) := by decide +kernel
theorem dL_law_1202 : decode cL_law 1202 = .ok (.ireturn, 1) := by decide +kernel
theorem dL_law_1203 : decode cL_law 1203 = .ok (.goto 120, 3) := by decide +kernel
theorem dL_law_1206 : decode cL_law 1206 = .ok (.iconst 1, 1) := by decide +kernel
theorem dL_law_1207 : decode cL_law 1207 = .ok (.iload 11, 2) := by decide +kernel
theorem dL_law_1209 : decode cL_law 1209 = .ok (.bipush 8, 2) := by decide +kernel
theorem dL_law_1211 : decode cL_law 1211 = .ok (.invokestatic 103, 3) := by decide +kernel
theorem dL_law_1214 : decode cL_law 1214 = .ok (.iadd, 1) := by decide +kernel
theorem dL_law_1215 : decode cL_law 1215 = .ok (.istore 16, 2) := by decide +kernel
theorem dL_law_1217 : decode cL_law 1217 = .ok (.iconst 0, 1) := by decide +kernel
theorem dL_law_1218 : decode cL_law 1218 = .ok (.istore 17, 2) := by decide +kernel
theorem dL_law_1220 : decode cL_law 1220 = .ok (.iconst 0, 1) := by decide +kernel
theorem dL_law_1221 : decode cL_law 1221 = .ok (.istore 18, 2) := by decide +kernel
theorem dL_law_1223 : decode cL_law 1223 = .ok (.iload 18, 2) := by decide +kernel
theorem dL_law_1225 : decode cL_law 1225 = .ok (.iload 16, 2) := by decide +kernel
theorem dL_law_1227 : decode cL_law 1227 = .ok (.if_icmp .ge 83, 3) := by decide +kernel
theorem dL_law_1230 : decode cL_law 1230 = .ok (.iconst 0, 1) := by decide +kernel
theorem dL_law_1231 : decode cL_law 1231 = .ok (.istore 19, 2) := by decide +kernel
theorem dL_law_1233 : decode cL_law 1233 = .ok (.iload 19, 2) := by decide +kernel
theorem dL_law_1235 : decode cL_law 1235 = .ok (.aload 8, 2) := by decide +kernel
theorem dL_law_1237 : decode cL_law 1237 = .ok (.iconst 1, 1) := by decide +kernel
theorem dL_law_1238 : decode cL_law 1238 = .ok (.iaload, 1) := by decide +kernel
theorem dL_law_1239 : decode cL_law 1239 = .ok (.if_icmp .ge 65, 3) := by decide +kernel
theorem dL_law_1242 : decode cL_law 1242 = .ok (.aload 7, 2) := by decide +kernel
theorem dL_law_1244 : decode cL_law 1244 = .ok (.bipush 8, 2) := by decide +kernel
theorem dL_law_1246 : decode cL_law 1246 = .ok (.iload 19, 2) := by decide +kernel
theorem dL_law_1248 : decode cL_law 1248 = .ok (.imul, 1) := by decide +kernel
theorem dL_law_1249 : decode cL_law 1249 = .ok (.iconst 2, 1) := by decide +kernel
theorem dL_law_1250 : decode cL_law 1250 = .ok (.iadd, 1) := by decide +kernel
theorem dL_law_1251 : decode cL_law 1251 = .ok (.iaload, 1) := by decide +kernel
theorem dL_law_1252 : decode cL_law 1252 = .ok (.ifCond .eq 6, 3) := by decide +kernel
theorem dL_law_1255 : decode cL_law 1255 = .ok (.goto 43, 3) := by decide +kernel
theorem dL_law_1258 : decode cL_law 1258 = .ok (.bipush 8, 2) := by decide +kernel
theorem dL_law_1260 : decode cL_law 1260 = .ok (.iload 19, 2) := by decide +kernel
theorem dL_law_1262 : decode cL_law 1262 = .ok (.imul, 1) := by decide +kernel
theorem dL_law_1263 : decode cL_law 1263 = .ok (.aload_n 2, 1) := by decide +kernel
theorem dL_law_1264 : decode cL_law 1264 = .ok (.aload_n 3, 1) := by decide +kernel
theorem dL_law_1265 : decode cL_law 1265 = .ok (.aload 4, 2) := by decide +kernel
theorem dL_law_1267 : decode cL_law 1267 = .ok (.aload 6, 2) := by decide +kernel
theorem dL_law_1269 : decode cL_law 1269 = .ok (.aload 7, 2) := by decide +kernel
theorem dL_law_1271 : decode cL_law 1271 = .ok (.invokestatic 124, 3) := by decide +kernel
theorem dL_law_1274 : decode cL_law 1274 = .ok (.iload 17, 2) := by decide +kernel
theorem dL_law_1276 : decode cL_law 1276 = .ok (.aload 7, 2) := by decide +kernel
theorem dL_law_1278 : decode cL_law 1278 = .ok (.bipush 8, 2) := by decide +kernel
theorem dL_law_1280 : decode cL_law 1280 = .ok (.iload 19, 2) := by decide +kernel
theorem dL_law_1282 : decode cL_law 1282 = .ok (.imul, 1) := by decide +kernel
theorem dL_law_1283 : decode cL_law 1283 = .ok (.iconst 2, 1) := by decide +kernel
theorem dL_law_1284 : decode cL_law 1284 = .ok (.iadd, 1) := by decide +kernel
theorem dL_law_1285 : decode cL_law 1285 = .ok (.iaload, 1) := by decide +kernel
theorem dL_law_1286 : decode cL_law 1286 = .ok (.iconst 2, 1) := by decide +kernel
theorem dL_law_1287 : decode cL_law 1287 = .ok (.if_icmp .ne 7, 3) := by decide +kernel
theorem dL_law_1290 : decode cL_law 1290 = .ok (.iconst 1, 1) := by decide +kernel
theorem dL_law_1291 : decode cL_law 1291 = .ok (.goto 4, 3) := by decide +kernel
theorem dL_law_1294 : decode cL_law 1294 = .ok (.iconst 0, 1) := by decide +kernel
theorem dL_law_1295 : decode cL_law 1295 = .ok (.iadd, 1) := by decide +kernel
theorem dL_law_1296 : decode cL_law 1296 = .ok (.istore 17, 2) := by decide +kernel
theorem dL_law_1298 : decode cL_law 1298 = .ok (.iinc 19 1, 3) := by decide +kernel
theorem dL_law_1301 : decode cL_law 1301 = .ok (.goto (-68), 3) := by decide +kernel
theorem dL_law_1304 : decode cL_law 1304 = .ok (.iinc 18 1, 3) := by decide +kernel
theorem dL_law_1307 : decode cL_law 1307 = .ok (.goto (-84), 3) := by decide +kernel
theorem dL_law_1310 : decode cL_law 1310 = .ok (.aload_n 1, 1) := by decide +kernel
theorem dL_law_1311 : decode cL_law 1311 = .ok (.iload 16, 2) := by decide +kernel
theorem dL_law_1313 : decode cL_law 1313 = .ok (.invokevirtual 128, 3) := by decide +kernel
theorem dL_law_1316 : decode cL_law 1316 = .ok (.iload 17, 2) := by decide +kernel
theorem dL_law_1318 : decode cL_law 1318 = .ok (.if_icmp .eq 5, 3) := by decide +kernel
theorem dL_law_1321 : decode cL_law 1321 = .ok (.iconst 0, 1) := by decide +kernel
theorem dL_law_1322 : decode cL_law 1322 = .ok (.ireturn, 1) := by decide +kernel
theorem dL_law_1323 : decode cL_law 1323 = .ok (.aload_n 1, 1) := by decide +kernel
theorem dL_law_1324 : decode cL_law 1324 = .ok (.aload_n 2, 1) := by decide +kernel
theorem dL_law_1325 : decode cL_law 1325 = .ok (.aload_n 3, 1) := by decide +kernel
theorem dL_law_1326 : decode cL_law 1326 = .ok (.aload 4, 2) := by decide +kernel
theorem dL_law_1328 : decode cL_law 1328 = .ok (.aload 6, 2) := by decide +kernel
theorem dL_law_1330 : decode cL_law 1330 = .ok (.aload 7, 2) := by decide +kernel
theorem dL_law_1332 : decode cL_law 1332 = .ok (.aload 8, 2) := by decide +kernel
theorem dL_law_1334 : decode cL_law 1334 = .ok (.iload 13, 2) := by decide +kernel
theorem dL_law_1336 : decode cL_law 1336 = .ok (.invokestatic 131, 3) := by decide +kernel
theorem dL_law_1339 : decode cL_law 1339 = .ok (.ifCond .ne 5, 3) := by decide +kernel
theorem dL_law_1342 : decode cL_law 1342 = .ok (.iconst 0, 1) := by decide +kernel
theorem dL_law_1343 : decode cL_law 1343 = .ok (.ireturn, 1) := by decide +kernel
theorem dL_law_1344 : decode cL_law 1344 = .ok (.iinc 9 1, 3) := by decide +kernel
theorem dL_law_1347 : decode cL_law 1347 = .ok (.goto (-1240), 3) := by decide +kernel
theorem dL_law_1350 : decode cL_law 1350 = .ok (.iconst 1, 1) := by decide +kernel
theorem dL_law_1351 : decode cL_law 1351 = .ok (.ireturn, 1) := by decide +kernel
end
section
/-! The world as a row of roles: role r lies at address ad r and holds c r. A method may change what lies from lo on. -/
def lA (lo : Nat) : Nat → Prop := fun q => lo ≤ q
def wl (R : List Nat) (ad : Nat → Nat) (c : Nat → va_E) : va_W := R.map (fun r => (ad r, c r))
theorem wl_at {R : List Nat} {r : Nat} (ad : Nat → Nat) (c : Nat → va_E) (h : r ∈ R) : ∃ k : Nat, R[k]? = some r ∧ (wl R ad c)[k]? = some (ad r, c r) := by
  obtain ⟨k, hk⟩ := List.getElem?_of_mem h
  exact ⟨k, hk, by rw [wl, List.getElem?_map, hk]; rfl⟩
theorem wl_set {A : Nat → Prop} {R : List Nat} {ad : Nat → Nat} {c : Nat → va_E} {r k : Nat} (e : va_E) (hD : va_D A (wl R ad c)) (hk : R[k]? = some r) : (wl R ad c).set k (ad r, e) = wl R ad (va_up c r e) := by
  apply List.ext_getElem?
  intro j
  rw [List.getElem?_set]
  by_cases hj : k = j
  · subst hj
    have hl : k < (wl R ad c).length := by rw [wl, List.length_map]; exact (List.getElem?_eq_some_iff.mp hk).1
    rw [if_pos rfl, if_pos hl, wl, List.getElem?_map, hk]
    simp [va_up]
  · rw [if_neg hj, wl, wl, List.getElem?_map, List.getElem?_map]
    cases hr : R[j]? with
    | none => rfl
    | some r' =>
      have hne : r' ≠ r := by
        intro h
        subst h
        exact hj (hD.1 k j (ad r', c r') (ad r', c r') (by rw [wl, List.getElem?_map, hk]; rfl) (by rw [wl, List.getElem?_map, hr]; rfl) rfl)
      simp [va_up, hne]
theorem wl_push {A : Nat → Prop} {R : List Nat} {ad : Nat → Nat} {c : Nat → va_E} {r a : Nat} {e : va_E} (hr : r ∉ R) : wl R ad c ++ [(a, e)] = wl (R ++ [r]) (va_up ad r a) (va_up c r e) := by
  have h : ∀ L : List Nat, r ∉ L → wl L ad c = wl L (va_up ad r a) (va_up c r e) := by
    intro L hL
    apply List.map_congr_left
    intro x hx
    have : x ≠ r := fun h => hL (h ▸ hx)
    simp [va_up, this]
  rw [h R hr]
  simp [wl, va_up]
theorem wl_congr {R : List Nat} {ad ad' : Nat → Nat} {c c' : Nat → va_E} (h : ∀ r ∈ R, ad r = ad' r ∧ c r = c' r) : wl R ad c = wl R ad' c' := by
  apply List.map_congr_left
  intro x hx
  rw [(h x hx).1, (h x hx).2]
/-! What a method finds around it: the tables' words, the nest's words, the texts, the classes, the statics that a throw reads, which classes are apart. -/
def k_tys (cy : Nat → ClassId) : List (ClassId × FieldType) := [(cy 0, .int), (cy 1, .long), (cy 2, .int), (cy 3, .object RX2), (cy 4, .object RX3)]
def k_nest : Cond → Bool
  | .fieldLinkNest _ _ _ _ _ _ => true
  | .methodLinkNest _ _ _ _ => true
  | .castable _ _ => true
  | .declares _ => true
  | _ => false
def e_IO : String := "java/lang/IndexOutOfBoundsException"
def e_IA : String := "java/lang/IllegalArgumentException"
def e_IS : String := "java/lang/IllegalStateException"
def k_ncs : List (String × String) := [(e_IA, e_IO), (e_IS, e_IO), (e_IS, e_IA)]
def k_Ev (D : va_G) (cy : Nat → ClassId) (lo : Nat) (U : State) : Prop :=
  (∀ w ∈ lw_tbl, goodWord w = true → w.before #[] U = true) ∧ ((∀ w ∈ lw_tbl, k_nest w = true → va_Nw w U) ∧ va_AO RX2 U ∧ va_AO RX3 U) ∧
  (∀ (own : String) (k : Nat) (tx : String), Cond.stringRef own k tx ∈ lw_tbl → ∃ a, vk_R own k tx a U) ∧ va_K D vwCl (k_tys cy) U ∧
  (vx_Zq Bundle.tN "UNASSIGNED_STACK" Bundle.steD (lA lo) U U.heap ∧ vx_Zq Bundle.tN "SUPPRESSED_SENTINEL" Bundle.listD (lA lo) U U.heap) ∧
  (∀ q ∈ k_ncs, va_Nc q.1 q.2 U) ∧ lo ≤ U.heap.size
theorem k_Ev.moved {D : va_G} {cy : Nat → ClassId} {lo : Nat} {s U : State} (hW : s.WarmedH U.vm) (h : k_Ev D cy lo s) (hz : s.heap.size ≤ U.heap.size) (hq : ∀ a : Nat, a < s.heap.size → ¬ lA lo a → U.heap[a]? = s.heap[a]?) : k_Ev D cy lo U := by
  obtain ⟨h1, ⟨h2, h2a, h2b⟩, h3, h4, ⟨h5, h6⟩, h7, h8⟩ := h
  refine ⟨fun w hw hg => word_at hW (good_of_word hg) (h1 w hw hg), ⟨fun w hw hn => ?_, h2a.moved hW.alike, h2b.moved hW.alike⟩, fun own k tx ht => ?_, va_K.moved hW.alike h4, ⟨(h5.moved hW.alike).kept hq, (h6.moved hW.alike).kept hq⟩, fun q hq => (h7 q hq).moved hW.alike, Nat.le_trans h8 hz⟩
  · have h9 := h2 w hw hn
    cases w <;> first | exact va_Nw.warmF hW h9 | exact va_Nw.warmM hW h9 | exact va_Nw.warmC hW h9 | exact va_Nw.warmD hW h9 | (simp [k_nest] at hn)
  · obtain ⟨a, ha⟩ := h3 own k tx ht
    exact ⟨a, ha.warm hW⟩
theorem k_Ev.word {D : va_G} {cy : Nat → ClassId} {lo : Nat} {U : State} (h : k_Ev D cy lo U) {w : Cond} (n : Nat) (hw : lw_tbl[n]? = some w) (hg : goodWord w = true) (args : Array Value) : w.before args U = true :=
  word_at (State.WarmedH.refl U) (good_of_word hg) (h.1 w (List.mem_of_getElem? hw) hg)
theorem k_Ev.nestF {D : va_G} {cy : Nat → ClassId} {lo : Nat} {U : State} (h : k_Ev D cy lo U) {a b n d t : String} {i : Nat} (j : Nat) (hw : lw_tbl[j]? = some (.fieldLinkNest a i b n d t)) (args : Array Value) : (Cond.fieldLinkNest a i b n d t).before args U = true :=
  (h.2.1.1 _ (List.mem_of_getElem? hw) rfl).use rfl
theorem k_Ev.nestM {D : va_G} {cy : Nat → ClassId} {lo : Nat} {U : State} (h : k_Ev D cy lo U) {a t : String} {y : MethodName} {i : Nat} (j : Nat) (hw : lw_tbl[j]? = some (.methodLinkNest a i y t)) : va_Nw (.methodLinkNest a i y t) U :=
  h.2.1.1 _ (List.mem_of_getElem? hw) rfl
theorem k_Ev.any {D : va_G} {cy : Nat → ClassId} {lo : Nat} {U : State} (h : k_Ev D cy lo U) {w : Cond} (hw : w ∈ lw_tbl) (hg : goodWord w = true ∨ k_nest w = true) (args : Array Value) : w.before args U = true := by
  rcases hg with hg | hn
  · exact word_at (State.WarmedH.refl U) (good_of_word hg) (h.1 w hw hg)
  · have h9 := h.2.1.1 w hw hn
    cases w <;> first | exact h9.use rfl | (simp [k_nest] at hn)
/-- what a method's start asks: the surroundings, and the world -/
def k_Pr (D : va_G) (cy : Nat → ClassId) (lo : Nat) (R : List Nat) (ad : Nat → Nat) (w : Nat → va_E) (U : State) : Prop :=
  k_Ev D cy lo U ∧ va_P D vwCl (wl R ad w) U.heap ∧ va_D (lA lo) (wl R ad w)
theorem k_Pr.blind {D : va_G} {cy : Nat → ClassId} {lo : Nat} {R : List Nat} {ad : Nat → Nat} {w : Nat → va_E} (av : List Value) : FrameBlind (va_Pc av (k_Pr D cy lo R ad w)) := by
  intro a U g mk h
  obtain ⟨h0, h1, h2, h3⟩ := h
  exact ⟨h0, k_Ev.moved (s := U) (U := U.calling g mk a) (State.WarmedH.refl U) h1 (Nat.le_refl _) (fun _ _ _ => rfl), h2, h3⟩
abbrev k_S : Type := List Nat × (Nat → Nat) × (Nat → va_E)
/-- what a method leaves: the world -/
def k_Po (D : va_G) (lo : Nat) (u : k_S) (t : State) : Prop := va_P D vwCl (wl u.1 u.2.1 u.2.2) t.heap ∧ va_D (lA lo) (wl u.1 u.2.1 u.2.2)
abbrev k_F (p : Program) (m : MethodId) (c : Code) (cc : ByteArray) (nL : Nat) (s : State) (own : String) (D : va_G) (cy : Nat → ClassId) (lo : Nat) : Prop :=
  p.tables.exec = Jvm.exec ∧ c.code = cc ∧ c.maxLocals = nL ∧ s.vm.findClass own = some m.cls ∧ k_Ev D cy lo s
/-- the judgement: from pc on, with the locals lv, the stack st and the world (R, ad, w) -/
def XW (D : va_G) (lo : Nat) (p : Program) (l : Launch) (e : Env) (Rm : Room) (s : State) (m : MethodId) (args : Array Value) (below : List Frame) (meth : Method) (c : Code) (nL cells slots : Nat) (Q : State → Prop)
    (R : List Nat) (ad : Nat → Nat) (w : Nat → va_E) (pc : Nat) (lv : List (Nat × Value)) (st : List Value) : Prop :=
  ∀ (H : Heap) (locs : List Loc) (ls : Array Slot), va_P D vwCl (wl R ad w) H → va_D (lA lo) (wl R ad w) → va_S (lA lo) s.heap H locs → lv_has ls nL lv → W p l e Rm s m args below meth c H locs cells slots Q (F0 m pc ls st)
/-- a method's contract: entered at the world (R, ad, w) with the arguments av, its answer and the world behind it stand in post -/
theorem k_met {l : Launch} {y : MethodName} {cc : ByteArray} {maxL : Nat} {ret : Option FieldType} {rm : Room} {D : va_G} {cy : Nat → ClassId} {lo : Nat} {R : List Nat} {ad : Nat → Nat} {w : Nat → va_E} {av : List Value} {Qc : Array Value → State → Outcome → State → Prop} {mc ms : Nat}
    (hy : plainName y.cls = true) (hav : (lg_sl av).length ≤ maxL)
    (body : ∀ p e s m below meth c, k_F p m c cc maxL s y.cls D cy lo → meth.sig.returnType = ret → meth.locks = false → meth.name = y.name → XW D lo p l e rm s m av.toArray below meth c maxL 0 0 (MQ below Qc av.toArray s mc ms (lA lo)) R ad w 0 (lv_args 0 av) []) :
    Met l y [.code y cc maxL ret] rm (va_Pc av (k_Pr D cy lo R ad w)) Qc mc ms (lA lo) := by
  refine Met.ofW (cc := cc) (maxL := maxL) (ret := ret) hy rfl ?_
  intro p e s m args below meth c s₁ B hml hv
  obtain ⟨rfl, hE, hP, hD⟩ := hv
  have hl := lv_entry av (n := maxL) hav
  rw [lg_entry_eq]
  exact body p e s m below meth c ⟨B.exec, B.bytes, hml, findClass_of_methodNamed B.named, hE⟩ B.returns B.notSynchronized (name_of_methodNamed B.named B.method).1 _ _ _ hP hD va_S.rf hl
end
section
section KROWS
variable {D : va_G} {cy : Nat → ClassId} {lo : Nat} {p : Program} {l : Launch} {e : Env} {Rm : Room} {s : State} {m : MethodId} {args : Array Value} {below : List Frame} {meth : Method} {c : Code} {cc : ByteArray} {nL cells slots : Nat} {Q : State → Prop} {own : String} {R : List Nat} {ad : Nat → Nat} {w : Nat → va_E} {pc : Nat} {lv lv' : List (Nat × Value)} {st : List Value}
theorem x_iconst (F : k_F p m c cc nL s own D cy lo) {n : Int} {v : Int32} (hdg : decode cc pc = .ok (.iconst n, 1)) (hv : Int32.ofInt n = v) (k : XW D lo p l e Rm s m args below meth c nL cells slots Q R ad w (pc + 1) lv (.int v :: st)) : XW D lo p l e Rm s m args below meth c nL cells slots Q R ad w pc lv (st) := fun H locs ls hP hD hS hl => lv_iconst F.1 F.2.1 hdg hv (k H locs ls hP hD hS hl)
theorem x_bipush (F : k_F p m c cc nL s own D cy lo) {n : Int} {v : Int32} (hdg : decode cc pc = .ok (.bipush n, 2)) (hv : (Int8.ofInt n).toInt32 = v) (k : XW D lo p l e Rm s m args below meth c nL cells slots Q R ad w (pc + 2) lv (.int v :: st)) : XW D lo p l e Rm s m args below meth c nL cells slots Q R ad w pc lv (st) := fun H locs ls hP hD hS hl => lv_bipush F.1 F.2.1 hdg hv (k H locs ls hP hD hS hl)
theorem x_sipush (F : k_F p m c cc nL s own D cy lo) {n : Int} {v : Int32} (hdg : decode cc pc = .ok (.sipush n, 3)) (hv : (Int16.ofInt n).toInt32 = v) (k : XW D lo p l e Rm s m args below meth c nL cells slots Q R ad w (pc + 3) lv (.int v :: st)) : XW D lo p l e Rm s m args below meth c nL cells slots Q R ad w pc lv (st) := fun H locs ls hP hD hS hl => lv_sipush F.1 F.2.1 hdg hv (k H locs ls hP hD hS hl)
theorem x_lconst (F : k_F p m c cc nL s own D cy lo) {n : Fin 2} {v : Int64} (hdg : decode cc pc = .ok (.lconst n, 1)) (hv : Int64.ofNat (n : Nat) = v) (k : XW D lo p l e Rm s m args below meth c nL cells slots Q R ad w (pc + 1) lv (.long v :: st)) : XW D lo p l e Rm s m args below meth c nL cells slots Q R ad w pc lv (st) := fun H locs ls hP hD hS hl => lv_lconst F.1 F.2.1 hdg hv (k H locs ls hP hD hS hl)
theorem x_iload_n (F : k_F p m c cc nL s own D cy lo) {k : Fin 4} {i : Nat} {x : Int32} (hdg : decode cc pc = .ok (.iload_n k, 1)) (hi : (k : Nat) = i) (ix : Nat) (hx : lv[ix]? = some (i, .int x)) (kk : XW D lo p l e Rm s m args below meth c nL cells slots Q R ad w (pc + 1) lv (.int x :: st)) : XW D lo p l e Rm s m args below meth c nL cells slots Q R ad w pc lv (st) := fun H locs ls hP hD hS hl => lv_iload_n F.1 F.2.1 hdg hi (lv_at hl ix hx) (kk H locs ls hP hD hS hl)
theorem x_iload (F : k_F p m c cc nL s own D cy lo) {i : Nat} {x : Int32} (hdg : decode cc pc = .ok (.iload i, 2)) (ix : Nat) (hx : lv[ix]? = some (i, .int x)) (kk : XW D lo p l e Rm s m args below meth c nL cells slots Q R ad w (pc + 2) lv (.int x :: st)) : XW D lo p l e Rm s m args below meth c nL cells slots Q R ad w pc lv (st) := fun H locs ls hP hD hS hl => lv_iload F.1 F.2.1 hdg (lv_at hl ix hx) (kk H locs ls hP hD hS hl)
theorem x_istore_n (F : k_F p m c cc nL s own D cy lo) {k : Fin 4} {i : Nat} {x : Int32} (lv' : List (Nat × Value)) (hdg : decode cc pc = .ok (.istore_n k, 1)) (hi : (k : Nat) = i) (hn : i < nL) (hx : (i, Value.int x) :: lv.filter (fun q => !(q.1 == i) && !(q.1 + 1 == i && q.2.category == 2)) = lv') (kk : XW D lo p l e Rm s m args below meth c nL cells slots Q R ad w (pc + 1) lv' (st)) : XW D lo p l e Rm s m args below meth c nL cells slots Q R ad w pc lv (.int x :: st) := fun H locs ls hP hD hS hl => lv_istore_n F.1 F.2.1 hdg hi hl hn hx (fun ls hl => kk H locs ls hP hD hS hl)
theorem x_istore (F : k_F p m c cc nL s own D cy lo) {i : Nat} {x : Int32} (lv' : List (Nat × Value)) (hdg : decode cc pc = .ok (.istore i, 2)) (hn : i < nL) (hx : (i, Value.int x) :: lv.filter (fun q => !(q.1 == i) && !(q.1 + 1 == i && q.2.category == 2)) = lv') (kk : XW D lo p l e Rm s m args below meth c nL cells slots Q R ad w (pc + 2) lv' (st)) : XW D lo p l e Rm s m args below meth c nL cells slots Q R ad w pc lv (.int x :: st) := fun H locs ls hP hD hS hl => lv_istore F.1 F.2.1 hdg hl hn hx (fun ls hl => kk H locs ls hP hD hS hl)
theorem x_lload_n (F : k_F p m c cc nL s own D cy lo) {k : Fin 4} {i : Nat} {x : Int64} (hdg : decode cc pc = .ok (.lload_n k, 1)) (hi : (k : Nat) = i) (ix : Nat) (hx : lv[ix]? = some (i, .long x)) (kk : XW D lo p l e Rm s m args below meth c nL cells slots Q R ad w (pc + 1) lv (.long x :: st)) : XW D lo p l e Rm s m args below meth c nL cells slots Q R ad w pc lv (st) := fun H locs ls hP hD hS hl => lv_lload_n F.1 F.2.1 hdg hi (lv_at hl ix hx) (kk H locs ls hP hD hS hl)
theorem x_lload (F : k_F p m c cc nL s own D cy lo) {i : Nat} {x : Int64} (hdg : decode cc pc = .ok (.lload i, 2)) (ix : Nat) (hx : lv[ix]? = some (i, .long x)) (kk : XW D lo p l e Rm s m args below meth c nL cells slots Q R ad w (pc + 2) lv (.long x :: st)) : XW D lo p l e Rm s m args below meth c nL cells slots Q R ad w pc lv (st) := fun H locs ls hP hD hS hl => lv_lload F.1 F.2.1 hdg (lv_at hl ix hx) (kk H locs ls hP hD hS hl)
theorem x_lstore_n (F : k_F p m c cc nL s own D cy lo) {k : Fin 4} {i : Nat} {x : Int64} (lv' : List (Nat × Value)) (hdg : decode cc pc = .ok (.lstore_n k, 1)) (hi : (k : Nat) = i) (hn : i + 1 < nL) (hx : (i, Value.long x) :: lv.filter (fun q => !(q.1 == i) && (!(q.1 == i + 1) && !(q.1 + 1 == i && q.2.category == 2))) = lv') (kk : XW D lo p l e Rm s m args below meth c nL cells slots Q R ad w (pc + 1) lv' (st)) : XW D lo p l e Rm s m args below meth c nL cells slots Q R ad w pc lv (.long x :: st) := fun H locs ls hP hD hS hl => lv_lstore_n F.1 F.2.1 hdg hi hl hn hx (fun ls hl => kk H locs ls hP hD hS hl)
theorem x_lstore (F : k_F p m c cc nL s own D cy lo) {i : Nat} {x : Int64} (lv' : List (Nat × Value)) (hdg : decode cc pc = .ok (.lstore i, 2)) (hn : i + 1 < nL) (hx : (i, Value.long x) :: lv.filter (fun q => !(q.1 == i) && (!(q.1 == i + 1) && !(q.1 + 1 == i && q.2.category == 2))) = lv') (kk : XW D lo p l e Rm s m args below meth c nL cells slots Q R ad w (pc + 2) lv' (st)) : XW D lo p l e Rm s m args below meth c nL cells slots Q R ad w pc lv (.long x :: st) := fun H locs ls hP hD hS hl => lv_lstore F.1 F.2.1 hdg hl hn hx (fun ls hl => kk H locs ls hP hD hS hl)
theorem x_aload_n (F : k_F p m c cc nL s own D cy lo) {k : Fin 4} {i : Nat} {x : Nat} (hdg : decode cc pc = .ok (.aload_n k, 1)) (hi : (k : Nat) = i) (ix : Nat) (hx : lv[ix]? = some (i, .ref x)) (kk : XW D lo p l e Rm s m args below meth c nL cells slots Q R ad w (pc + 1) lv (.ref x :: st)) : XW D lo p l e Rm s m args below meth c nL cells slots Q R ad w pc lv (st) := fun H locs ls hP hD hS hl => lv_aload_n F.1 F.2.1 hdg hi (lv_at hl ix hx) (kk H locs ls hP hD hS hl)
theorem x_aload (F : k_F p m c cc nL s own D cy lo) {i : Nat} {x : Nat} (hdg : decode cc pc = .ok (.aload i, 2)) (ix : Nat) (hx : lv[ix]? = some (i, .ref x)) (kk : XW D lo p l e Rm s m args below meth c nL cells slots Q R ad w (pc + 2) lv (.ref x :: st)) : XW D lo p l e Rm s m args below meth c nL cells slots Q R ad w pc lv (st) := fun H locs ls hP hD hS hl => lv_aload F.1 F.2.1 hdg (lv_at hl ix hx) (kk H locs ls hP hD hS hl)
theorem x_astore_n (F : k_F p m c cc nL s own D cy lo) {k : Fin 4} {i : Nat} {x : Nat} (lv' : List (Nat × Value)) (hdg : decode cc pc = .ok (.astore_n k, 1)) (hi : (k : Nat) = i) (hn : i < nL) (hx : (i, Value.ref x) :: lv.filter (fun q => !(q.1 == i) && !(q.1 + 1 == i && q.2.category == 2)) = lv') (kk : XW D lo p l e Rm s m args below meth c nL cells slots Q R ad w (pc + 1) lv' (st)) : XW D lo p l e Rm s m args below meth c nL cells slots Q R ad w pc lv (.ref x :: st) := fun H locs ls hP hD hS hl => lv_astore_n F.1 F.2.1 hdg hi hl hn hx (fun ls hl => kk H locs ls hP hD hS hl)
theorem x_astore (F : k_F p m c cc nL s own D cy lo) {i : Nat} {x : Nat} (lv' : List (Nat × Value)) (hdg : decode cc pc = .ok (.astore i, 2)) (hn : i < nL) (hx : (i, Value.ref x) :: lv.filter (fun q => !(q.1 == i) && !(q.1 + 1 == i && q.2.category == 2)) = lv') (kk : XW D lo p l e Rm s m args below meth c nL cells slots Q R ad w (pc + 2) lv' (st)) : XW D lo p l e Rm s m args below meth c nL cells slots Q R ad w pc lv (.ref x :: st) := fun H locs ls hP hD hS hl => lv_astore F.1 F.2.1 hdg hl hn hx (fun ls hl => kk H locs ls hP hD hS hl)
theorem x_iinc (F : k_F p m c cc nL s own D cy lo) {i : Nat} {n : Int} {x : Int32} (lv' : List (Nat × Value)) (hdg : decode cc pc = .ok (.iinc i n, 3)) (ix : Nat) (hk : lv[ix]? = some (i, .int x)) (hn : i < nL) (hx : (i, Value.int (x + Int32.ofInt n)) :: lv.filter (fun q => !(q.1 == i) && !(q.1 + 1 == i && q.2.category == 2)) = lv') (kk : XW D lo p l e Rm s m args below meth c nL cells slots Q R ad w (pc + 3) lv' (st)) : XW D lo p l e Rm s m args below meth c nL cells slots Q R ad w pc lv (st) := fun H locs ls hP hD hS hl => lv_iinc F.1 F.2.1 hdg hl hk rfl hn hx (fun ls hl => kk H locs ls hP hD hS hl)
theorem x_iadd (F : k_F p m c cc nL s own D cy lo) {x y : Int32} (hdg : decode cc pc = .ok (.iadd, 1))  (k : XW D lo p l e Rm s m args below meth c nL cells slots Q R ad w (pc + 1) lv (.int (x + y) :: st)) : XW D lo p l e Rm s m args below meth c nL cells slots Q R ad w pc lv (.int y :: .int x :: st) := fun H locs ls hP hD hS hl => lv_iadd F.1 F.2.1 hdg  (k H locs ls hP hD hS hl)
theorem x_isub (F : k_F p m c cc nL s own D cy lo) {x y : Int32} (hdg : decode cc pc = .ok (.isub, 1))  (k : XW D lo p l e Rm s m args below meth c nL cells slots Q R ad w (pc + 1) lv (.int (x - y) :: st)) : XW D lo p l e Rm s m args below meth c nL cells slots Q R ad w pc lv (.int y :: .int x :: st) := fun H locs ls hP hD hS hl => lv_isub F.1 F.2.1 hdg  (k H locs ls hP hD hS hl)
theorem x_imul (F : k_F p m c cc nL s own D cy lo) {x y : Int32} (hdg : decode cc pc = .ok (.imul, 1))  (k : XW D lo p l e Rm s m args below meth c nL cells slots Q R ad w (pc + 1) lv (.int (x * y) :: st)) : XW D lo p l e Rm s m args below meth c nL cells slots Q R ad w pc lv (.int y :: .int x :: st) := fun H locs ls hP hD hS hl => lv_imul F.1 F.2.1 hdg  (k H locs ls hP hD hS hl)
theorem x_iand (F : k_F p m c cc nL s own D cy lo) {x y : Int32} (hdg : decode cc pc = .ok (.iand, 1))  (k : XW D lo p l e Rm s m args below meth c nL cells slots Q R ad w (pc + 1) lv (.int (x &&& y) :: st)) : XW D lo p l e Rm s m args below meth c nL cells slots Q R ad w pc lv (.int y :: .int x :: st) := fun H locs ls hP hD hS hl => lv_iand F.1 F.2.1 hdg  (k H locs ls hP hD hS hl)
theorem x_ladd (F : k_F p m c cc nL s own D cy lo) {x y : Int64} (hdg : decode cc pc = .ok (.ladd, 1))  (k : XW D lo p l e Rm s m args below meth c nL cells slots Q R ad w (pc + 1) lv (.long (x + y) :: st)) : XW D lo p l e Rm s m args below meth c nL cells slots Q R ad w pc lv (.long y :: .long x :: st) := fun H locs ls hP hD hS hl => lv_ladd F.1 F.2.1 hdg  (k H locs ls hP hD hS hl)
theorem x_lsub (F : k_F p m c cc nL s own D cy lo) {x y : Int64} (hdg : decode cc pc = .ok (.lsub, 1))  (k : XW D lo p l e Rm s m args below meth c nL cells slots Q R ad w (pc + 1) lv (.long (x - y) :: st)) : XW D lo p l e Rm s m args below meth c nL cells slots Q R ad w pc lv (.long y :: .long x :: st) := fun H locs ls hP hD hS hl => lv_lsub F.1 F.2.1 hdg  (k H locs ls hP hD hS hl)
theorem x_lneg (F : k_F p m c cc nL s own D cy lo) {x : Int64} (hdg : decode cc pc = .ok (.lneg, 1))  (k : XW D lo p l e Rm s m args below meth c nL cells slots Q R ad w (pc + 1) lv (.long (-x) :: st)) : XW D lo p l e Rm s m args below meth c nL cells slots Q R ad w pc lv (.long x :: st) := fun H locs ls hP hD hS hl => lv_lneg F.1 F.2.1 hdg  (k H locs ls hP hD hS hl)
theorem x_irem (F : k_F p m c cc nL s own D cy lo) {x y : Int32} (hdg : decode cc pc = .ok (.irem, 1)) (hne : ¬ y = 0) (k : XW D lo p l e Rm s m args below meth c nL cells slots Q R ad w (pc + 1) lv (.int (x - x / y * y) :: st)) : XW D lo p l e Rm s m args below meth c nL cells slots Q R ad w pc lv (.int y :: .int x :: st) := fun H locs ls hP hD hS hl => lv_irem F.1 F.2.1 hdg hne (k H locs ls hP hD hS hl)
theorem x_i2l (F : k_F p m c cc nL s own D cy lo) {x : Int32} (hdg : decode cc pc = .ok (.i2l, 1))  (k : XW D lo p l e Rm s m args below meth c nL cells slots Q R ad w (pc + 1) lv (.long x.toInt64 :: st)) : XW D lo p l e Rm s m args below meth c nL cells slots Q R ad w pc lv (.int x :: st) := fun H locs ls hP hD hS hl => lv_i2l F.1 F.2.1 hdg rfl (k H locs ls hP hD hS hl)
theorem x_lcmp (F : k_F p m c cc nL s own D cy lo) {x y : Int64} (hdg : decode cc pc = .ok (.lcmp, 1))  (k : XW D lo p l e Rm s m args below meth c nL cells slots Q R ad w (pc + 1) lv (.int (lg_cmp x y) :: st)) : XW D lo p l e Rm s m args below meth c nL cells slots Q R ad w pc lv (.long y :: .long x :: st) := fun H locs ls hP hD hS hl => W.lcmp F.1 F.2.1 hdg  (k H locs ls hP hD hS hl)
theorem x_dup (F : k_F p m c cc nL s own D cy lo) {va : Value} (hdg : decode cc pc = .ok (.dup, 1)) (hva : va.category = 1) (k : XW D lo p l e Rm s m args below meth c nL cells slots Q R ad w (pc + 1) lv (va :: va :: st)) : XW D lo p l e Rm s m args below meth c nL cells slots Q R ad w pc lv (va :: st) := fun H locs ls hP hD hS hl => lv_dup F.1 F.2.1 hdg hva (k H locs ls hP hD hS hl)
theorem x_pop (F : k_F p m c cc nL s own D cy lo) {va : Value} (hdg : decode cc pc = .ok (.pop, 1)) (hva : va.category = 1) (k : XW D lo p l e Rm s m args below meth c nL cells slots Q R ad w (pc + 1) lv (st)) : XW D lo p l e Rm s m args below meth c nL cells slots Q R ad w pc lv (va :: st) := fun H locs ls hP hD hS hl => lv_pop F.1 F.2.1 hdg hva (k H locs ls hP hD hS hl)
theorem x_dup2 (F : k_F p m c cc nL s own D cy lo) {va vb : Value} (hdg : decode cc pc = .ok (.dup2, 1)) (hva : va.category = 1) (hvb : vb.category = 1) (k : XW D lo p l e Rm s m args below meth c nL cells slots Q R ad w (pc + 1) lv (va :: vb :: va :: vb :: st)) : XW D lo p l e Rm s m args below meth c nL cells slots Q R ad w pc lv (va :: vb :: st) := fun H locs ls hP hD hS hl => lv_dup2_11 F.1 F.2.1 hdg hva hvb (k H locs ls hP hD hS hl)
theorem x_dup_x1 (F : k_F p m c cc nL s own D cy lo) {va vb : Value} (hdg : decode cc pc = .ok (.dup_x1, 1)) (hva : va.category = 1) (hvb : vb.category = 1) (k : XW D lo p l e Rm s m args below meth c nL cells slots Q R ad w (pc + 1) lv (va :: vb :: va :: st)) : XW D lo p l e Rm s m args below meth c nL cells slots Q R ad w pc lv (va :: vb :: st) := fun H locs ls hP hD hS hl => lv_dup_x1 F.1 F.2.1 hdg hva hvb (k H locs ls hP hD hS hl)
theorem x_null (F : k_F p m c cc nL s own D cy lo)  (hdg : decode cc pc = .ok (.aconst_null, 1))  (k : XW D lo p l e Rm s m args below meth c nL cells slots Q R ad w (pc + 1) lv (.null :: st)) : XW D lo p l e Rm s m args below meth c nL cells slots Q R ad w pc lv (st) := fun H locs ls hP hD hS hl => lv_null F.1 F.2.1 hdg  (k H locs ls hP hD hS hl)
theorem x_ifnull (F : k_F p m c cc nL s own D cy lo) {x : Nat} {off : Int} (hdg : decode cc pc = .ok (.ifnull off, 3))  (k : XW D lo p l e Rm s m args below meth c nL cells slots Q R ad w (pc + 3) lv (st)) : XW D lo p l e Rm s m args below meth c nL cells slots Q R ad w pc lv (.ref x :: st) := fun H locs ls hP hD hS hl => lv_ifnull F.1 F.2.1 hdg  (k H locs ls hP hD hS hl)
theorem x_ifnonnullN (F : k_F p m c cc nL s own D cy lo) {off : Int} (hdg : decode cc pc = .ok (.ifnonnull off, 3))  (k : XW D lo p l e Rm s m args below meth c nL cells slots Q R ad w (pc + 3) lv (st)) : XW D lo p l e Rm s m args below meth c nL cells slots Q R ad w pc lv (.null :: st) := fun H locs ls hP hD hS hl => lv_ifnonnullN F.1 F.2.1 hdg  (k H locs ls hP hD hS hl)
theorem x_ifnonnull (F : k_F p m c cc nL s own D cy lo) {x : Nat} {off : Int} (tgt : Nat) (hdg : decode cc pc = .ok (.ifnonnull off, 3)) (ht : (pc : Int) + off = (tgt : Int)) (k : XW D lo p l e Rm s m args below meth c nL cells slots Q R ad w tgt lv (st)) : XW D lo p l e Rm s m args below meth c nL cells slots Q R ad w pc lv (.ref x :: st) := fun H locs ls hP hD hS hl => lv_ifnonnull F.1 F.2.1 hdg ht (k H locs ls hP hD hS hl)
theorem x_ifnullN (F : k_F p m c cc nL s own D cy lo) {off : Int} (tgt : Nat) (hdg : decode cc pc = .ok (.ifnull off, 3)) (ht : (pc : Int) + off = (tgt : Int)) (k : XW D lo p l e Rm s m args below meth c nL cells slots Q R ad w tgt lv (st)) : XW D lo p l e Rm s m args below meth c nL cells slots Q R ad w pc lv (.null :: st) := fun H locs ls hP hD hS hl => lv_ifnullN F.1 F.2.1 hdg ht (k H locs ls hP hD hS hl)
theorem x_goto (F : k_F p m c cc nL s own D cy lo) {off : Int} (tgt : Nat) (hdg : decode cc pc = .ok (.goto off, 3)) (ht : (pc : Int) + off = (tgt : Int)) (k : XW D lo p l e Rm s m args below meth c nL cells slots Q R ad w tgt lv (st)) : XW D lo p l e Rm s m args below meth c nL cells slots Q R ad w pc lv (st) := fun H locs ls hP hD hS hl => lv_goto F.1 F.2.1 hdg ht (k H locs ls hP hD hS hl)
theorem x_if_eq (F : k_F p m c cc nL s own D cy lo) {x : Int32} {off : Int} (tgt : Nat) (hdg : decode cc pc = .ok (.ifCond .eq off, 3)) (ht : (pc : Int) + off = (tgt : Int)) (kt : x = 0 → XW D lo p l e Rm s m args below meth c nL cells slots Q R ad w tgt lv (st)) (kf : ¬ x = 0 → XW D lo p l e Rm s m args below meth c nL cells slots Q R ad w (pc + 3) lv (st)) : XW D lo p l e Rm s m args below meth c nL cells slots Q R ad w pc lv (.int x :: st) := fun H locs ls hP hD hS hl => lv_if_eq F.1 F.2.1 hdg ht (fun h => kt h H locs ls hP hD hS hl) (fun h => kf h H locs ls hP hD hS hl)
theorem x_icmp_eq (F : k_F p m c cc nL s own D cy lo) {x y : Int32} {off : Int} (tgt : Nat) (hdg : decode cc pc = .ok (.if_icmp .eq off, 3)) (ht : (pc : Int) + off = (tgt : Int)) (kt : x = y → XW D lo p l e Rm s m args below meth c nL cells slots Q R ad w tgt lv (st)) (kf : ¬ x = y → XW D lo p l e Rm s m args below meth c nL cells slots Q R ad w (pc + 3) lv (st)) : XW D lo p l e Rm s m args below meth c nL cells slots Q R ad w pc lv (.int y :: .int x :: st) := fun H locs ls hP hD hS hl => lv_icmp_eq F.1 F.2.1 hdg ht (fun h => kt h H locs ls hP hD hS hl) (fun h => kf h H locs ls hP hD hS hl)
theorem x_if_ne (F : k_F p m c cc nL s own D cy lo) {x : Int32} {off : Int} (tgt : Nat) (hdg : decode cc pc = .ok (.ifCond .ne off, 3)) (ht : (pc : Int) + off = (tgt : Int)) (kt : ¬ x = 0 → XW D lo p l e Rm s m args below meth c nL cells slots Q R ad w tgt lv (st)) (kf : x = 0 → XW D lo p l e Rm s m args below meth c nL cells slots Q R ad w (pc + 3) lv (st)) : XW D lo p l e Rm s m args below meth c nL cells slots Q R ad w pc lv (.int x :: st) := fun H locs ls hP hD hS hl => lv_if_ne F.1 F.2.1 hdg ht (fun h => kt h H locs ls hP hD hS hl) (fun h => kf h H locs ls hP hD hS hl)
theorem x_icmp_ne (F : k_F p m c cc nL s own D cy lo) {x y : Int32} {off : Int} (tgt : Nat) (hdg : decode cc pc = .ok (.if_icmp .ne off, 3)) (ht : (pc : Int) + off = (tgt : Int)) (kt : ¬ x = y → XW D lo p l e Rm s m args below meth c nL cells slots Q R ad w tgt lv (st)) (kf : x = y → XW D lo p l e Rm s m args below meth c nL cells slots Q R ad w (pc + 3) lv (st)) : XW D lo p l e Rm s m args below meth c nL cells slots Q R ad w pc lv (.int y :: .int x :: st) := fun H locs ls hP hD hS hl => lv_icmp_ne F.1 F.2.1 hdg ht (fun h => kt h H locs ls hP hD hS hl) (fun h => kf h H locs ls hP hD hS hl)
theorem x_if_lt (F : k_F p m c cc nL s own D cy lo) {x : Int32} {off : Int} (tgt : Nat) (hdg : decode cc pc = .ok (.ifCond .lt off, 3)) (ht : (pc : Int) + off = (tgt : Int)) (kt : x < 0 → XW D lo p l e Rm s m args below meth c nL cells slots Q R ad w tgt lv (st)) (kf : ¬ x < 0 → XW D lo p l e Rm s m args below meth c nL cells slots Q R ad w (pc + 3) lv (st)) : XW D lo p l e Rm s m args below meth c nL cells slots Q R ad w pc lv (.int x :: st) := fun H locs ls hP hD hS hl => lv_if_lt F.1 F.2.1 hdg ht (fun h => kt h H locs ls hP hD hS hl) (fun h => kf h H locs ls hP hD hS hl)
theorem x_icmp_lt (F : k_F p m c cc nL s own D cy lo) {x y : Int32} {off : Int} (tgt : Nat) (hdg : decode cc pc = .ok (.if_icmp .lt off, 3)) (ht : (pc : Int) + off = (tgt : Int)) (kt : x < y → XW D lo p l e Rm s m args below meth c nL cells slots Q R ad w tgt lv (st)) (kf : ¬ x < y → XW D lo p l e Rm s m args below meth c nL cells slots Q R ad w (pc + 3) lv (st)) : XW D lo p l e Rm s m args below meth c nL cells slots Q R ad w pc lv (.int y :: .int x :: st) := fun H locs ls hP hD hS hl => lv_icmp_lt F.1 F.2.1 hdg ht (fun h => kt h H locs ls hP hD hS hl) (fun h => kf h H locs ls hP hD hS hl)
theorem x_if_ge (F : k_F p m c cc nL s own D cy lo) {x : Int32} {off : Int} (tgt : Nat) (hdg : decode cc pc = .ok (.ifCond .ge off, 3)) (ht : (pc : Int) + off = (tgt : Int)) (kt : 0 ≤ x → XW D lo p l e Rm s m args below meth c nL cells slots Q R ad w tgt lv (st)) (kf : ¬ 0 ≤ x → XW D lo p l e Rm s m args below meth c nL cells slots Q R ad w (pc + 3) lv (st)) : XW D lo p l e Rm s m args below meth c nL cells slots Q R ad w pc lv (.int x :: st) := fun H locs ls hP hD hS hl => lv_if_ge F.1 F.2.1 hdg ht (fun h => kt h H locs ls hP hD hS hl) (fun h => kf h H locs ls hP hD hS hl)
theorem x_icmp_ge (F : k_F p m c cc nL s own D cy lo) {x y : Int32} {off : Int} (tgt : Nat) (hdg : decode cc pc = .ok (.if_icmp .ge off, 3)) (ht : (pc : Int) + off = (tgt : Int)) (kt : y ≤ x → XW D lo p l e Rm s m args below meth c nL cells slots Q R ad w tgt lv (st)) (kf : ¬ y ≤ x → XW D lo p l e Rm s m args below meth c nL cells slots Q R ad w (pc + 3) lv (st)) : XW D lo p l e Rm s m args below meth c nL cells slots Q R ad w pc lv (.int y :: .int x :: st) := fun H locs ls hP hD hS hl => lv_icmp_ge F.1 F.2.1 hdg ht (fun h => kt h H locs ls hP hD hS hl) (fun h => kf h H locs ls hP hD hS hl)
theorem x_if_gt (F : k_F p m c cc nL s own D cy lo) {x : Int32} {off : Int} (tgt : Nat) (hdg : decode cc pc = .ok (.ifCond .gt off, 3)) (ht : (pc : Int) + off = (tgt : Int)) (kt : 0 < x → XW D lo p l e Rm s m args below meth c nL cells slots Q R ad w tgt lv (st)) (kf : ¬ 0 < x → XW D lo p l e Rm s m args below meth c nL cells slots Q R ad w (pc + 3) lv (st)) : XW D lo p l e Rm s m args below meth c nL cells slots Q R ad w pc lv (.int x :: st) := fun H locs ls hP hD hS hl => lv_if_gt F.1 F.2.1 hdg ht (fun h => kt h H locs ls hP hD hS hl) (fun h => kf h H locs ls hP hD hS hl)
theorem x_icmp_gt (F : k_F p m c cc nL s own D cy lo) {x y : Int32} {off : Int} (tgt : Nat) (hdg : decode cc pc = .ok (.if_icmp .gt off, 3)) (ht : (pc : Int) + off = (tgt : Int)) (kt : y < x → XW D lo p l e Rm s m args below meth c nL cells slots Q R ad w tgt lv (st)) (kf : ¬ y < x → XW D lo p l e Rm s m args below meth c nL cells slots Q R ad w (pc + 3) lv (st)) : XW D lo p l e Rm s m args below meth c nL cells slots Q R ad w pc lv (.int y :: .int x :: st) := fun H locs ls hP hD hS hl => lv_icmp_gt F.1 F.2.1 hdg ht (fun h => kt h H locs ls hP hD hS hl) (fun h => kf h H locs ls hP hD hS hl)
theorem x_if_le (F : k_F p m c cc nL s own D cy lo) {x : Int32} {off : Int} (tgt : Nat) (hdg : decode cc pc = .ok (.ifCond .le off, 3)) (ht : (pc : Int) + off = (tgt : Int)) (kt : x ≤ 0 → XW D lo p l e Rm s m args below meth c nL cells slots Q R ad w tgt lv (st)) (kf : ¬ x ≤ 0 → XW D lo p l e Rm s m args below meth c nL cells slots Q R ad w (pc + 3) lv (st)) : XW D lo p l e Rm s m args below meth c nL cells slots Q R ad w pc lv (.int x :: st) := fun H locs ls hP hD hS hl => lv_if_le F.1 F.2.1 hdg ht (fun h => kt h H locs ls hP hD hS hl) (fun h => kf h H locs ls hP hD hS hl)
theorem x_icmp_le (F : k_F p m c cc nL s own D cy lo) {x y : Int32} {off : Int} (tgt : Nat) (hdg : decode cc pc = .ok (.if_icmp .le off, 3)) (ht : (pc : Int) + off = (tgt : Int)) (kt : x ≤ y → XW D lo p l e Rm s m args below meth c nL cells slots Q R ad w tgt lv (st)) (kf : ¬ x ≤ y → XW D lo p l e Rm s m args below meth c nL cells slots Q R ad w (pc + 3) lv (st)) : XW D lo p l e Rm s m args below meth c nL cells slots Q R ad w pc lv (.int y :: .int x :: st) := fun H locs ls hP hD hS hl => lv_icmp_le F.1 F.2.1 hdg ht (fun h => kt h H locs ls hP hD hS hl) (fun h => kf h H locs ls hP hD hS hl)
theorem x_acmp_eq (F : k_F p m c cc nL s own D cy lo) {rx ry : Option Nat} {off : Int} (tgt : Nat) (hdg : decode cc pc = .ok (.if_acmp .eq off, 3)) (ht : (pc : Int) + off = (tgt : Int)) (kt : rx = ry → XW D lo p l e Rm s m args below meth c nL cells slots Q R ad w tgt lv (st)) (kf : ¬ rx = ry → XW D lo p l e Rm s m args below meth c nL cells slots Q R ad w (pc + 3) lv (st)) : XW D lo p l e Rm s m args below meth c nL cells slots Q R ad w pc lv (va_rf ry :: va_rf rx :: st) := fun H locs ls hP hD hS hl => lv_acmp_eq F.1 F.2.1 hdg ht (fun h => kt h H locs ls hP hD hS hl) (fun h => kf h H locs ls hP hD hS hl)
theorem x_acmp_ne (F : k_F p m c cc nL s own D cy lo) {rx ry : Option Nat} {off : Int} (tgt : Nat) (hdg : decode cc pc = .ok (.if_acmp .ne off, 3)) (ht : (pc : Int) + off = (tgt : Int)) (kt : ¬ rx = ry → XW D lo p l e Rm s m args below meth c nL cells slots Q R ad w tgt lv (st)) (kf : rx = ry → XW D lo p l e Rm s m args below meth c nL cells slots Q R ad w (pc + 3) lv (st)) : XW D lo p l e Rm s m args below meth c nL cells slots Q R ad w pc lv (va_rf ry :: va_rf rx :: st) := fun H locs ls hP hD hS hl => lv_acmp_ne F.1 F.2.1 hdg ht (fun h => kt h H locs ls hP hD hS hl) (fun h => kf h H locs ls hP hD hS hl)
theorem x_topi  {x : Int32} (k : ∀ y : Int32, y = x → XW D lo p l e Rm s m args below meth c nL cells slots Q R ad w pc lv (.int y :: st)) : XW D lo p l e Rm s m args below meth c nL cells slots Q R ad w pc lv (.int x :: st) := k x rfl
theorem x_ldc (F : k_F p m c cc nL s own D cy lo) {index : Nat} {v : Int32} (hdg : decode cc pc = .ok (.ldc index, 2)) (n : Nat) (hw : lw_tbl[n]? = some (.constant own index v)) (k : XW D lo p l e Rm s m args below meth c nL cells slots Q R ad w (pc + 2) lv (.int v :: st)) : XW D lo p l e Rm s m args below meth c nL cells slots Q R ad w pc lv (st) := fun H locs ls hP hD hS hl => lv_ldc F.1 F.2.1 F.2.2.2.1 (F.2.2.2.2.word n hw rfl args) hdg (k H locs ls hP hD hS hl)
theorem x_tabIn (F : k_F p m c cc nL s own D cy lo) {dflt a b : Int} {offs : Array Int} {len : Nat} {x : Int32} {off : Int} (tgt : Nat) (hdg : decode cc pc = .ok (.tableswitch dflt a b offs, len)) (h1 : ¬ x.toInt < a) (h2 : ¬ b < x.toInt) (ho : offs[(x.toInt - a).toNat]? = some off) (ht : (pc : Int) + off = (tgt : Int)) (k : XW D lo p l e Rm s m args below meth c nL cells slots Q R ad w tgt lv (st)) : XW D lo p l e Rm s m args below meth c nL cells slots Q R ad w pc lv (.int x :: st) := fun H locs ls hP hD hS hl => lv_tableIn F.1 F.2.1 hdg h1 h2 ho ht (k H locs ls hP hD hS hl)
theorem x_tabOut (F : k_F p m c cc nL s own D cy lo) {dflt a b : Int} {offs : Array Int} {len : Nat} {x : Int32} (tgt : Nat) (hdg : decode cc pc = .ok (.tableswitch dflt a b offs, len)) (h : x.toInt < a ∨ b < x.toInt) (ht : (pc : Int) + dflt = (tgt : Int)) (k : XW D lo p l e Rm s m args below meth c nL cells slots Q R ad w tgt lv (st)) : XW D lo p l e Rm s m args below meth c nL cells slots Q R ad w pc lv (.int x :: st) := fun H locs ls hP hD hS hl => lv_tableOut F.1 F.2.1 hdg h ht (k H locs ls hP hD hS hl)
theorem x_sub  (ks : List Nat) (hk : lv_pick lv ks = lv') (k : XW D lo p l e Rm s m args below meth c nL cells slots Q R ad w pc lv' (st)) : XW D lo p l e Rm s m args below meth c nL cells slots Q R ad w pc lv (st) := fun H locs ls hP hD hS hl => k H locs ls hP hD hS (lv_sub hl ks hk)
theorem x_world  {w' : Nat → va_E} (hw : w = w') (k : XW D lo p l e Rm s m args below meth c nL cells slots Q R ad w' pc lv (st)) : XW D lo p l e Rm s m args below meth c nL cells slots Q R ad w pc lv (st) := hw ▸ k
theorem x_get (F : k_F p m c cc nL s own D cy lo) {r ci index : Nat} {ref C  : String} {T : u_T} {N : Nat} {fs : List Value} {v : Value} (hr : r ∈ R) (hw : w r = .inr (ci, fs)) (hc : vwCl[ci]? = some (C, T, N)) (hin : ∀ x ∈ u_ws C T N, x.before args s = true) (k : Nat) (hk : k < N) (hlink : (Cond.fieldLink own index ref (T k).2.1 (T k).2.2.1).before args s = true) (hsame : ref = (T k).1) (hv : fs[k]? = some v) (hdg : decode cc pc = .ok (.getfield index, 3)) (kk : XW D lo p l e Rm s m args below meth c nL cells slots Q R ad w (pc + 3) lv (v :: st)) : XW D lo p l e Rm s m args below meth c nL cells slots Q R ad w pc lv (.ref (ad r) :: st) := by
  intro H locs ls hP hD hS hl
  obtain ⟨n, -, hn⟩ := wl_at ad w hr
  rw [hw] at hn
  exact va_get F.1 F.2.1 (Ts := u_ws C T N) hin (fun _ h => h) F.2.2.2.1 F.2.2.2.2.2.2.2.1 hP n hn hc k hk hlink (fun x h => by rw [hsame]; exact h) hv hdg (kk H locs ls hP hD hS hl)
theorem x_getN (F : k_F p m c cc nL s own D cy lo) {r ci index : Nat} {ref C host : String} {T : u_T} {N : Nat} {fs : List Value} {v : Value} (hr : r ∈ R) (hw : w r = .inr (ci, fs)) (hc : vwCl[ci]? = some (C, T, N)) (hin : ∀ x ∈ u_ws C T N, x.before args s = true) (k : Nat) (hk : k < N) (hlink : (Cond.fieldLinkNest own index ref (T k).2.1 (T k).2.2.1 host).before args s = true) (hsame : ref = (T k).1) (hv : fs[k]? = some v) (hdg : decode cc pc = .ok (.getfield index, 3)) (kk : XW D lo p l e Rm s m args below meth c nL cells slots Q R ad w (pc + 3) lv (v :: st)) : XW D lo p l e Rm s m args below meth c nL cells slots Q R ad w pc lv (.ref (ad r) :: st) := by
  intro H locs ls hP hD hS hl
  obtain ⟨n, -, hn⟩ := wl_at ad w hr
  rw [hw] at hn
  exact va_getN F.1 F.2.1 (Ts := u_ws C T N) hin (fun _ h => h) F.2.2.2.1 F.2.2.2.2.2.2.2.1 hP n hn hc k hk hlink (fun x h => by rw [hsame]; exact h) hv hdg (kk H locs ls hP hD hS hl)
theorem x_put (F : k_F p m c cc nL s own D cy lo) {r ci index : Nat} {ref C  : String} {T : u_T} {N : Nat} {fs : List Value} {v : Value} {ty : FieldType} (ty0 : Nat → FieldType) (hty : ∀ k, k < N → parseFieldDescriptor (T k).2.2.1 = some (ty0 k)) (hnm : ∀ a, a < N → ∀ b, b < N → a ≠ b → (T a).2.1 ≠ (T b).2.1) (hr : r ∈ R) (hw : w r = .inr (ci, fs)) (hc : vwCl[ci]? = some (C, T, N)) (hin : ∀ x ∈ u_ws C T N, x.before args s = true) (k : Nat) (hk : k < N) (hlink : (Cond.fieldLink own index ref (T k).2.1 (T k).2.2.1).before args s = true) (hsame : ref = (T k).1) (hfin : (T k).2.2.2 = false) (hd : parseFieldDescriptor (T k).2.2.1 = some ty) (hn : narrow ty v = v) (hfit : fits ty v = true) (hlen : k < fs.length) (hdg : decode cc pc = .ok (.putfield index, 3)) (kk : XW D lo p l e Rm s m args below meth c nL cells slots Q R ad (va_up w r (.inr (ci, fs.set k v))) (pc + 3) lv (st)) : XW D lo p l e Rm s m args below meth c nL cells slots Q R ad w pc lv (v :: .ref (ad r) :: st) := by
  intro H locs ls hP hD hS hl
  obtain ⟨n, hn0, hn1⟩ := wl_at ad w hr
  rw [hw] at hn1
  refine va_put F.1 F.2.1 (Ts := u_ws C T N) hin (fun _ h => h) ty0 hty hnm F.2.2.2.1 F.2.2.2.2.2.2.2.1 hP hD hS n hn1 hc k hk hlink (fun x h => by rw [hsame]; exact h) hfin hd hn hfit hlen hdg (fun H1 locs1 hP1 hD1 hS1 => ?_)
  rw [wl_set _ hD hn0] at hP1 hD1
  exact kk H1 locs1 ls hP1 hD1 hS1 hl
theorem x_putN (F : k_F p m c cc nL s own D cy lo) {r ci index : Nat} {ref C host : String} {T : u_T} {N : Nat} {fs : List Value} {v : Value} {ty : FieldType} (ty0 : Nat → FieldType) (hty : ∀ k, k < N → parseFieldDescriptor (T k).2.2.1 = some (ty0 k)) (hnm : ∀ a, a < N → ∀ b, b < N → a ≠ b → (T a).2.1 ≠ (T b).2.1) (hr : r ∈ R) (hw : w r = .inr (ci, fs)) (hc : vwCl[ci]? = some (C, T, N)) (hin : ∀ x ∈ u_ws C T N, x.before args s = true) (k : Nat) (hk : k < N) (hlink : (Cond.fieldLinkNest own index ref (T k).2.1 (T k).2.2.1 host).before args s = true) (hsame : ref = (T k).1) (hfin : (T k).2.2.2 = false) (hd : parseFieldDescriptor (T k).2.2.1 = some ty) (hn : narrow ty v = v) (hfit : fits ty v = true) (hlen : k < fs.length) (hdg : decode cc pc = .ok (.putfield index, 3)) (kk : XW D lo p l e Rm s m args below meth c nL cells slots Q R ad (va_up w r (.inr (ci, fs.set k v))) (pc + 3) lv (st)) : XW D lo p l e Rm s m args below meth c nL cells slots Q R ad w pc lv (v :: .ref (ad r) :: st) := by
  intro H locs ls hP hD hS hl
  obtain ⟨n, hn0, hn1⟩ := wl_at ad w hr
  rw [hw] at hn1
  refine va_putN F.1 F.2.1 (Ts := u_ws C T N) hin (fun _ h => h) ty0 hty hnm F.2.2.2.1 F.2.2.2.2.2.2.2.1 hP hD hS n hn1 hc k hk hlink (fun x h => by rw [hsame]; exact h) hfin hd hn hfit hlen hdg (fun H1 locs1 hP1 hD1 hS1 => ?_)
  rw [wl_set _ hD hn0] at hP1 hD1
  exact kk H1 locs1 ls hP1 hD1 hS1 hl
theorem x_putF (F : k_F p m c cc nL s own D cy lo) {r ci index : Nat} {ref C  : String} {T : u_T} {N : Nat} {fs : List Value} {v : Value} {ty : FieldType} (ty0 : Nat → FieldType) (hty : ∀ k, k < N → parseFieldDescriptor (T k).2.2.1 = some (ty0 k)) (hnm : ∀ a, a < N → ∀ b, b < N → a ≠ b → (T a).2.1 ≠ (T b).2.1) (hr : r ∈ R) (hw : w r = .inr (ci, fs)) (hc : vwCl[ci]? = some (C, T, N)) (hin : ∀ x ∈ u_ws C T N, x.before args s = true) (k : Nat) (hk : k < N) (hlink : (Cond.fieldLink own index ref (T k).2.1 (T k).2.2.1).before args s = true) (hsame : ref = (T k).1) (hfin : (T k).2.2.2 = true) (hin2 : meth.name = "<init>") (hdecl : (T k).1 = own) (hd : parseFieldDescriptor (T k).2.2.1 = some ty) (hn : narrow ty v = v) (hfit : fits ty v = true) (hlen : k < fs.length) (hdg : decode cc pc = .ok (.putfield index, 3)) (kk : XW D lo p l e Rm s m args below meth c nL cells slots Q R ad (va_up w r (.inr (ci, fs.set k v))) (pc + 3) lv (st)) : XW D lo p l e Rm s m args below meth c nL cells slots Q R ad w pc lv (v :: .ref (ad r) :: st) := by
  intro H locs ls hP hD hS hl
  obtain ⟨n, hn0, hn1⟩ := wl_at ad w hr
  rw [hw] at hn1
  refine va_putF F.1 F.2.1 (Ts := u_ws C T N) hin (fun _ h => h) ty0 hty hnm F.2.2.2.1 F.2.2.2.2.2.2.2.1 hP hD hS n hn1 hc k hk hlink (fun x h => by rw [hsame]; exact h) hfin hin2 hdecl hd hn hfit hlen hdg (fun H1 locs1 hP1 hD1 hS1 => ?_)
  rw [wl_set _ hD hn0] at hP1 hD1
  exact kk H1 locs1 ls hP1 hD1 hS1 hl
theorem x_iald (F : k_F p m c cc nL s own D cy lo) {r n : Nat} {f : Nat → Int32} {i : Int32} (hr : r ∈ R) (hw : w r = .inl (cy 0, n, .inl f)) (hin : vp_in i n) (hdg : decode cc pc = .ok (.iaload, 1)) (kk : XW D lo p l e Rm s m args below meth c nL cells slots Q R ad w (pc + 1) lv (.int (f i.toNatClampNeg) :: st)) : XW D lo p l e Rm s m args below meth c nL cells slots Q R ad w pc lv (.int i :: .ref (ad r) :: st) := by
  intro H locs ls hP hD hS hl
  obtain ⟨n0, -, hn⟩ := wl_at ad w hr
  rw [hw] at hn
  exact va_iald F.1 F.2.1 F.2.2.2.2.2.2.2.1 hP n0 0 hn rfl hin hdg (kk H locs ls hP hD hS hl)
theorem x_lald (F : k_F p m c cc nL s own D cy lo) {r n : Nat} {f : Nat → Int64} {i : Int32} (hr : r ∈ R) (hw : w r = .inl (cy 1, n, .inr (.inl f))) (hin : vp_in i n) (hdg : decode cc pc = .ok (.laload, 1)) (kk : XW D lo p l e Rm s m args below meth c nL cells slots Q R ad w (pc + 1) lv (.long (f i.toNatClampNeg) :: st)) : XW D lo p l e Rm s m args below meth c nL cells slots Q R ad w pc lv (.int i :: .ref (ad r) :: st) := by
  intro H locs ls hP hD hS hl
  obtain ⟨n0, -, hn⟩ := wl_at ad w hr
  rw [hw] at hn
  exact va_lald F.1 F.2.1 F.2.2.2.2.2.2.2.1 hP n0 1 hn rfl hin hdg (kk H locs ls hP hD hS hl)
theorem x_aldS (F : k_F p m c cc nL s own D cy lo) {r n : Nat} {f : Nat → Option Nat} {i : Int32} (hr : r ∈ R) (hw : w r = .inl (cy 3, n, .inr (.inr (.inr (.inr f))))) (hin : vp_in i n) (hdg : decode cc pc = .ok (.aaload, 1)) (kk : XW D lo p l e Rm s m args below meth c nL cells slots Q R ad w (pc + 1) lv (va_rf (f i.toNatClampNeg) :: st)) : XW D lo p l e Rm s m args below meth c nL cells slots Q R ad w pc lv (.int i :: .ref (ad r) :: st) := by
  intro H locs ls hP hD hS hl
  obtain ⟨n0, -, hn⟩ := wl_at ad w hr
  rw [hw] at hn
  exact va_aldq F.1 F.2.1 F.2.2.2.2.2.2.2.1 hP n0 3 hn rfl hin hdg (kk H locs ls hP hD hS hl)
theorem x_aldT (F : k_F p m c cc nL s own D cy lo) {r n : Nat} {f : Nat → Option Nat} {i : Int32} (hr : r ∈ R) (hw : w r = .inl (cy 4, n, .inr (.inr (.inr (.inr f))))) (hin : vp_in i n) (hdg : decode cc pc = .ok (.aaload, 1)) (kk : XW D lo p l e Rm s m args below meth c nL cells slots Q R ad w (pc + 1) lv (va_rf (f i.toNatClampNeg) :: st)) : XW D lo p l e Rm s m args below meth c nL cells slots Q R ad w pc lv (.int i :: .ref (ad r) :: st) := by
  intro H locs ls hP hD hS hl
  obtain ⟨n0, -, hn⟩ := wl_at ad w hr
  rw [hw] at hn
  exact va_aldq F.1 F.2.1 F.2.2.2.2.2.2.2.1 hP n0 4 hn rfl hin hdg (kk H locs ls hP hD hS hl)
theorem x_iast (F : k_F p m c cc nL s own D cy lo) {r n : Nat} {f : Nat → Int32} {i : Int32} {x : Int32} (hr : r ∈ R) (hw : w r = .inl (cy 0, n, .inl f)) (hin : vp_in i n) (hdg : decode cc pc = .ok (.iastore, 1)) (kk : XW D lo p l e Rm s m args below meth c nL cells slots Q R ad (va_up w r (.inl (cy 0, n, .inl (upd f i.toNatClampNeg x)))) (pc + 1) lv (st)) : XW D lo p l e Rm s m args below meth c nL cells slots Q R ad w pc lv (.int x :: .int i :: .ref (ad r) :: st) := by
  intro H locs ls hP hD hS hl
  obtain ⟨n0, hn0, hn⟩ := wl_at ad w hr
  rw [hw] at hn
  refine va_iast F.1 F.2.1 F.2.2.2.2.2.2.2.1 hP hD hS n0 0 hn rfl hin hdg (fun H1 locs1 hP1 hD1 hS1 => ?_)
  rw [wl_set _ hD hn0] at hP1 hD1
  exact kk H1 locs1 ls hP1 hD1 hS1 hl
theorem x_last (F : k_F p m c cc nL s own D cy lo) {r n : Nat} {f : Nat → Int64} {i : Int32} {x : Int64} (hr : r ∈ R) (hw : w r = .inl (cy 1, n, .inr (.inl f))) (hin : vp_in i n) (hdg : decode cc pc = .ok (.lastore, 1)) (kk : XW D lo p l e Rm s m args below meth c nL cells slots Q R ad (va_up w r (.inl (cy 1, n, .inr (.inl (vp_updL f i.toNatClampNeg x))))) (pc + 1) lv (st)) : XW D lo p l e Rm s m args below meth c nL cells slots Q R ad w pc lv (.long x :: .int i :: .ref (ad r) :: st) := by
  intro H locs ls hP hD hS hl
  obtain ⟨n0, hn0, hn⟩ := wl_at ad w hr
  rw [hw] at hn
  refine va_last F.1 F.2.1 F.2.2.2.2.2.2.2.1 hP hD hS n0 1 hn rfl hin hdg (fun H1 locs1 hP1 hD1 hS1 => ?_)
  rw [wl_set _ hD hn0] at hP1 hD1
  exact kk H1 locs1 ls hP1 hD1 hS1 hl
theorem x_astS (F : k_F p m c cc nL s own D cy lo) {r q n : Nat} {f : Nat → Option Nat} {i : Int32} {vs : List Value} (hr : r ∈ R) (hw : w r = .inl (cy 3, n, .inr (.inr (.inr (.inr f))))) (hq : q ∈ R) (hwq : w q = .inr (2, vs)) (hin : vp_in i n) (hdg : decode cc pc = .ok (.aastore, 1)) (kk : XW D lo p l e Rm s m args below meth c nL cells slots Q R ad (va_up w r (.inl (cy 3, n, .inr (.inr (.inr (.inr (va_up f i.toNatClampNeg (some (ad q))))))))) (pc + 1) lv (st)) : XW D lo p l e Rm s m args below meth c nL cells slots Q R ad w pc lv (.ref (ad q) :: .int i :: .ref (ad r) :: st) := by
  intro H locs ls hP hD hS hl
  obtain ⟨n0, hn0, hn⟩ := wl_at ad w hr
  obtain ⟨n1, hn1, hn2⟩ := wl_at ad w hq
  rw [hw] at hn
  rw [hwq] at hn2
  refine va_astq F.1 F.2.1 F.2.2.2.2.2.2.2.1 hP hD hS n0 3 n1 2 hn (r := (RX2, TX2, 4)) rfl hn2 rfl hin hdg (fun H1 locs1 hP1 hD1 hS1 => ?_)
  rw [wl_set _ hD hn0] at hP1 hD1
  exact kk H1 locs1 ls hP1 hD1 hS1 hl
theorem x_astT (F : k_F p m c cc nL s own D cy lo) {r q n : Nat} {f : Nat → Option Nat} {i : Int32} {vs : List Value} (hr : r ∈ R) (hw : w r = .inl (cy 4, n, .inr (.inr (.inr (.inr f))))) (hq : q ∈ R) (hwq : w q = .inr (3, vs)) (hin : vp_in i n) (hdg : decode cc pc = .ok (.aastore, 1)) (kk : XW D lo p l e Rm s m args below meth c nL cells slots Q R ad (va_up w r (.inl (cy 4, n, .inr (.inr (.inr (.inr (va_up f i.toNatClampNeg (some (ad q))))))))) (pc + 1) lv (st)) : XW D lo p l e Rm s m args below meth c nL cells slots Q R ad w pc lv (.ref (ad q) :: .int i :: .ref (ad r) :: st) := by
  intro H locs ls hP hD hS hl
  obtain ⟨n0, hn0, hn⟩ := wl_at ad w hr
  obtain ⟨n1, hn1, hn2⟩ := wl_at ad w hq
  rw [hw] at hn
  rw [hwq] at hn2
  refine va_astq F.1 F.2.1 F.2.2.2.2.2.2.2.1 hP hD hS n0 4 n1 3 hn (r := (RX3, TX3, 9)) rfl hn2 rfl hin hdg (fun H1 locs1 hP1 hD1 hS1 => ?_)
  rw [wl_set _ hD hn0] at hP1 hD1
  exact kk H1 locs1 ls hP1 hD1 hS1 hl
theorem x_alenI (F : k_F p m c cc nL s own D cy lo) {r n : Nat} {f : Nat → Int32} (hr : r ∈ R) (hw : w r = .inl (cy 0, n, .inl f)) (hdg : decode cc pc = .ok (.arraylength, 1)) (kk : XW D lo p l e Rm s m args below meth c nL cells slots Q R ad w (pc + 1) lv (.int (nI n) :: st)) : XW D lo p l e Rm s m args below meth c nL cells slots Q R ad w pc lv (.ref (ad r) :: st) := by
  intro H locs ls hP hD hS hl
  obtain ⟨n0, -, hn⟩ := wl_at ad w hr
  rw [hw] at hn
  exact va_alen F.1 F.2.1 F.2.2.2.2.2.2.2.1 hP n0 0 hn (ty := .int) rfl (v := nI n) rfl hdg (kk H locs ls hP hD hS hl)
theorem x_alenT (F : k_F p m c cc nL s own D cy lo) {r n : Nat} {f : Nat → Option Nat} (hr : r ∈ R) (hw : w r = .inl (cy 4, n, .inr (.inr (.inr (.inr f))))) (hdg : decode cc pc = .ok (.arraylength, 1)) (kk : XW D lo p l e Rm s m args below meth c nL cells slots Q R ad w (pc + 1) lv (.int (nI n) :: st)) : XW D lo p l e Rm s m args below meth c nL cells slots Q R ad w pc lv (.ref (ad r) :: st) := by
  intro H locs ls hP hD hS hl
  obtain ⟨n0, -, hn⟩ := wl_at ad w hr
  rw [hw] at hn
  exact va_alen F.1 F.2.1 F.2.2.2.2.2.2.2.1 hP n0 4 hn (ty := .object RX3) rfl (v := nI n) rfl hdg (kk H locs ls hP hD hS hl)
end KROWS
end
section
section KROWS2
variable {D : va_G} {cy : Nat → ClassId} {lo : Nat} {p : Program} {l : Launch} {e : Env} {Rm : Room} {s : State} {m : MethodId} {args : Array Value} {below : List Frame} {meth : Method} {c : Code} {cc : ByteArray} {nL cells slots : Nat} {Q : State → Prop} {own : String} {R : List Nat} {ad : Nat → Nat} {w : Nat → va_E} {pc : Nat} {lv lv' : List (Nat × Value)} {st : List Value}
theorem x_ishl (F : k_F p m c cc nL s own D cy lo) {x y : Int32} (hdg : decode cc pc = .ok (.ishl, 1))  (k : XW D lo p l e Rm s m args below meth c nL cells slots Q R ad w (pc + 1) lv (.int (x <<< (y &&& 31)) :: st)) : XW D lo p l e Rm s m args below meth c nL cells slots Q R ad w pc lv (.int y :: .int x :: st) := fun H locs ls hP hD hS hl => lv_ishl F.1 F.2.1 hdg  (k H locs ls hP hD hS hl)
theorem x_ishr (F : k_F p m c cc nL s own D cy lo) {x y : Int32} (hdg : decode cc pc = .ok (.ishr, 1))  (k : XW D lo p l e Rm s m args below meth c nL cells slots Q R ad w (pc + 1) lv (.int (x >>> (y &&& 31)) :: st)) : XW D lo p l e Rm s m args below meth c nL cells slots Q R ad w pc lv (.int y :: .int x :: st) := fun H locs ls hP hD hS hl => lv_ishr F.1 F.2.1 hdg  (k H locs ls hP hD hS hl)
theorem x_ior (F : k_F p m c cc nL s own D cy lo) {x y : Int32} (hdg : decode cc pc = .ok (.ior, 1))  (k : XW D lo p l e Rm s m args below meth c nL cells slots Q R ad w (pc + 1) lv (.int (x ||| y) :: st)) : XW D lo p l e Rm s m args below meth c nL cells slots Q R ad w pc lv (.int y :: .int x :: st) := fun H locs ls hP hD hS hl => lv_ior F.1 F.2.1 hdg  (k H locs ls hP hD hS hl)
theorem x_idiv (F : k_F p m c cc nL s own D cy lo) {x y : Int32} (hdg : decode cc pc = .ok (.idiv, 1)) (hne : ¬ y = 0) (k : XW D lo p l e Rm s m args below meth c nL cells slots Q R ad w (pc + 1) lv (.int (x / y) :: st)) : XW D lo p l e Rm s m args below meth c nL cells slots Q R ad w pc lv (.int y :: .int x :: st) := fun H locs ls hP hD hS hl => lv_idiv F.1 F.2.1 hdg hne (k H locs ls hP hD hS hl)
theorem x_l2i (F : k_F p m c cc nL s own D cy lo) {x : Int64} (hdg : decode cc pc = .ok (.l2i, 1))  (k : XW D lo p l e Rm s m args below meth c nL cells slots Q R ad w (pc + 1) lv (.int x.toInt32 :: st)) : XW D lo p l e Rm s m args below meth c nL cells slots Q R ad w pc lv (.long x :: st) := fun H locs ls hP hD hS hl => lv_l2i F.1 F.2.1 hdg rfl (k H locs ls hP hD hS hl)
end KROWS2
end
section
/-! What a method's words are: its code, its class, how it is chosen. -/
def k_Mc (y : MethodName) (b : ByteArray) (mL : Nat) (ret : Option FieldType) (n : Nat) : Prop :=
  Cond.code y b mL ret ∈ lw_tbl ∧ Cond.initialized y.cls ∈ lw_tbl ∧ y.cls ≠ "java/lang/invoke/MethodHandle" ∧ y.cls ≠ "java/lang/invoke/VarHandle" ∧ (parseMethodDescriptor y.desc).map (fun d => d.parameters.length) = some n
def k_Mv (y : MethodName) : Prop := Cond.instanceMethod y ∈ lw_tbl ∧ Cond.selects y.cls y y ∈ lw_tbl
def k_Ms (y : MethodName) : Prop := Cond.static y ∈ lw_tbl
theorem k_Ev.wm {D : va_G} {cy : Nat → ClassId} {lo : Nat} {U : State} (h : k_Ev D cy lo U) {w : Cond} (hw : w ∈ lw_tbl) (hg : goodWord w = true) (args : Array Value) : w.before args U = true :=
  word_at (State.WarmedH.refl U) (good_of_word hg) (h.1 w hw hg)
/-- a contract of ours -/
abbrev k_Met (l : Launch) (y : MethodName) (cc : ByteArray) (maxL : Nat) (ret : Option FieldType) (rm : Room) (D : va_G) (cy : Nat → ClassId) (lo : Nat) (R : List Nat) (ad : Nat → Nat) (w : Nat → va_E) (av : List Value) (Qc : Array Value → State → Outcome → State → Prop) : Prop :=
  Met l y [.code y cc maxL ret] rm (va_Pc av (k_Pr D cy lo R ad w)) Qc rm.cells rm.slots (lA lo)
/-- a contract of ours, of a method that may throw; what it throws, and the world then, stand in xpost -/
def k_XC (D : va_G) (lo : Nat) (xpost : String → k_S → Prop) : String → State → State → Prop := vx_X (fun _ : k_S => True) (fun E u t => xpost E u ∧ k_Po D lo u t) (lA lo)
abbrev k_MetX (l : Launch) (y : MethodName) (cc : ByteArray) (maxL : Nat) (ret : Option FieldType) (rm : Room) (D : va_G) (cy : Nat → ClassId) (lo : Nat) (R : List Nat) (ad : Nat → Nat) (w : Nat → va_E) (av : List Value) (Qc : Array Value → State → Outcome → State → Prop) (xpost : String → k_S → Prop) : Prop :=
  vx_Met l y [.code y cc maxL ret] rm (va_Pc av (k_Pr D cy lo R ad w)) Qc (k_XC D lo xpost) rm.cells rm.slots (lA lo)
abbrev k_Qi (D : va_G) (lo : Nat) (post : Int32 → k_S → Prop) : Array Value → State → Outcome → State → Prop := va_Qi post (k_Po D lo) (lA lo)
abbrev k_Ql (D : va_G) (lo : Nat) (post : Int64 → k_S → Prop) : Array Value → State → Outcome → State → Prop := va_Ql post (k_Po D lo) (lA lo)
abbrev k_Qv (D : va_G) (lo : Nat) (post : k_S → Prop) : Array Value → State → Outcome → State → Prop := va_Qv post (k_Po D lo) (lA lo)
abbrev k_Qq (D : va_G) (lo : Nat) (post : Option Nat → k_S → Prop) : Array Value → State → Outcome → State → Prop := va_Qq post (k_Po D lo) (lA lo)
/-- with E thrown over the frame at pc -/
def XT (D : va_G) (lo : Nat) (p : Program) (l : Launch) (e : Env) (Rm : Room) (s : State) (m : MethodId) (args : Array Value) (below : List Frame) (meth : Method) (c : Code) (nL cells slots : Nat) (Q : State → Prop)
    (R : List Nat) (ad : Nat → Nat) (w : Nat → va_E) (pc : Nat) (lv : List (Nat × Value)) (st : List Value) (E : String) : Prop :=
  ∀ (H : Heap) (locs : List Loc) (ls : Array Slot) (ce : Cell) (q : Addr), va_P D vwCl (wl R ad w) H → va_D (lA lo) (wl R ad w) → va_S (lA lo) s.heap H locs → lv_has ls nL lv → H[q]? = some ce → ce.vm = .none → s.vm.findClass E = some ce.cls → vx_W p l e Rm s m args below meth c H locs cells slots Q (F0 m pc ls st) q
section
variable {p : Program} {l : Launch} {e : Env} {R : Room} {s : State} {m : MethodId} {args : Array Value} {below : List Frame} {meth : Method} {c : Code} {H : Heap} {locs : List Loc} {cells slots : Nat} {Q : State → Prop}
variable {mc ms : Nat} {free : Addr → Prop} {A0 A1 : Nat → Prop} {H0 : Heap} {a : Array Value} {pc : Nat} {ls : Array Slot} {st0 rest : List Value}
theorem vx_callq {S SX : Type} {post : Option Nat → S → Prop} {px : SX → Prop} {B : S → State → Prop} {BX : String → SX → State → Prop} {AX : Nat → Prop} (hr : vx_Run p l e R s m args below meth c H locs cells slots mc ms (F0 m pc ls st0) rest (va_Qq post B A1 a) (vx_X px BX AX) free) (hS : va_S A0 H0 H locs) (hA : ∀ q, q < H.size → A1 q → A0 q) (hf : ∀ q, free q → A0 q) (hAX : ∀ q, q < H.size → AX q → A0 q)
    (kx : ∀ (E : String) (ce : Cell) (q9 : Addr) (u : SX) (t : State) (H1 : Heap) (locs1 : List Loc), t.heap = H1 → s.vm.Alike t.vm → px u → BX E u t → H.size ≤ H1.size → (∀ q : Nat, q < H.size → ¬ AX q → H1[q]? = H[q]?) → va_S A0 H0 H1 locs1 → H1[q9]? = some ce → ce.vm = .none → s.vm.findClass E = some ce.cls → vx_W p l e R s m args below meth c H1 locs1 (cells + mc) (slots + ms) Q (F0 m pc ls rest) q9)
    (kk : ∀ (r : Option Nat) (u : S) (t : State) (H1 : Heap) (locs1 : List Loc), t.heap = H1 → s.vm.Alike t.vm → post r u → B u t → H.size ≤ H1.size → (∀ q : Nat, q < H.size → ¬ A1 q → H1[q]? = H[q]?) → va_S A0 H0 H1 locs1 → W p l e R s m args below meth c H1 locs1 (cells + mc) (slots + ms) Q (F0 m (pc + 3) ls (va_rf r :: rest))) : W p l e R s m args below meth c H locs cells slots Q (F0 m pc ls st0) := by
  intro T hT X
  rcases hr T hT X with ⟨v, st₀, t, T', L, h0, X', hL, e1, e2, ⟨⟨r, u, hv, hp, hb⟩, hF⟩, st⟩ | ⟨q, st₀, t, T', L, E, ce, h0, X', hL, e1, e2, ⟨u, hp, hb, hF⟩, hce, hcv, hcl, st⟩
  · cases hv
    obtain ⟨k1, k2, k3⟩ := vx_keep h0 e1 hS hA hf hL hF
    obtain ⟨t2, a1, b1⟩ := kk r u t T'.heap (locs ++ L) e1.symm (by rw [← e2]; exact X'.warmed.alike) hp hb k1 k2 k3 T' rfl X'
    exact ⟨t2, st t2 a1, b1⟩
  · obtain ⟨k1, k2, k3⟩ := vx_keep h0 e1 hS hAX hf hL hF
    obtain ⟨t2, a1, b1⟩ := kx E ce q u t T'.heap (locs ++ L) e1.symm (by rw [← e2]; exact X'.warmed.alike) hp hb k1 k2 k3 (by rw [e1]; exact hce) hcv hcl T' rfl X'
    exact ⟨t2, st.trans a1, b1⟩
end
section KCALLS
variable {D : va_G} {cy : Nat → ClassId} {lo : Nat} {p : Program} {l : Launch} {e : Env} {Rm : Room} {s : State} {m : MethodId} {args : Array Value} {below : List Frame} {meth : Method} {c : Code} {cc : ByteArray} {nL cells slots : Nat} {Q : State → Prop} {own : String} {R : List Nat} {ad : Nat → Nat} {w : Nat → va_E} {pc : Nat} {lv : List (Nat × Value)} {st rest : List Value}
theorem k_pre (F : k_F p m c cc nL s own D cy lo) {H : Heap} {locs : List Loc} (hP : va_P D vwCl (wl R ad w) H) (hD : va_D (lA lo) (wl R ad w)) (hS : va_S (lA lo) s.heap H locs) (av : List Value) : ∀ U : State, U.heap = H → s.WarmedH U.vm → va_Pc av (k_Pr D cy lo R ad w) av.toArray U :=
  fun U hU hW => ⟨rfl, k_Ev.moved hW F.2.2.2.2 (by rw [hU]; exact hS.1) (fun a h1 h2 => by rw [hU]; exact hS.2.1 a h1 h2), by rw [hU]; exact hP, hD⟩
theorem k_callB (F : k_F p m c cc nL s own D cy lo) {index mL n : Nat} {y : MethodName} {b : ByteArray} {ret : Option FieldType} {rm : Room} (hc : k_Mc y b mL ret n) (hl : Cond.methodLink own index y ∈ lw_tbl) (hR : rm.frames + 1 ≤ Rm.frames ∧ 8 + (mL + 11) + rm.locals ≤ Rm.locals) : CallB Rm s args own index y b mL ret [.code y b mL ret] rm rm.cells rm.slots n :=
  ⟨rfl, rfl, hR.1, hR.2, fun w hw a' U hW => by rw [List.mem_singleton.mp hw]; exact word_at hW (good_of_word rfl) (F.2.2.2.2.wm hc.1 rfl args), List.mem_singleton.mpr rfl, F.2.2.2.2.wm hc.1 rfl args, F.2.2.2.2.wm hc.2.1 rfl args, ⟨hc.2.2.1, hc.2.2.2.1⟩, fun sig h => by
    have h2 := hc.2.2.2.2
    rw [h] at h2
    exact (Option.some.inj h2).symm, F.2.2.2.2.wm hl rfl args⟩
theorem k_callN (F : k_F p m c cc nL s own D cy lo) {index mL n : Nat} {y : MethodName} {host : String} {b : ByteArray} {ret : Option FieldType} {rm : Room} (hc : k_Mc y b mL ret n) (hl : Cond.methodLinkNest own index y host ∈ lw_tbl) (hR : rm.frames + 1 ≤ Rm.frames ∧ 8 + (mL + 11) + rm.locals ≤ Rm.locals) : va_CN Rm s args own index y host b mL ret [.code y b mL ret] rm rm.cells rm.slots n :=
  ⟨⟨rfl, rfl, hR.1, hR.2, fun w hw a' U hW => by rw [List.mem_singleton.mp hw]; exact word_at hW (good_of_word rfl) (F.2.2.2.2.wm hc.1 rfl args), List.mem_singleton.mpr rfl⟩, F.2.2.2.2.wm hc.1 rfl args, F.2.2.2.2.wm hc.2.1 rfl args, ⟨hc.2.2.1, hc.2.2.2.1⟩, fun sig h => by
    have h2 := hc.2.2.2.2
    rw [h] at h2
    exact (Option.some.inj h2).symm, va_Nw.use rfl (F.2.2.2.2.2.1.1 _ hl rfl)⟩
theorem k_fix (F : k_F p m c cc nL s own D cy lo) : CallFix p m c cc nL s args [] own := ⟨F.1, F.2.1, F.2.2.1, F.2.2.2.1, fun w h => absurd h List.not_mem_nil⟩
theorem x_callVi (F : k_F p m c cc nL s own D cy lo) {index mL n : Nat} {y : MethodName} {b : ByteArray} {ret : Option FieldType} {rm : Room} {post : Int32 → k_S → Prop} (As : List Value) {r0 ci : Nat} {fs : List Value} {T : u_T} {N : Nat} (hM : k_Met l y b mL ret rm D cy lo R ad w (.ref (ad r0) :: As) (k_Qi D lo post)) (hc : k_Mc y b mL ret n) (hv : k_Mv y) (hl : Cond.methodLink own index y ∈ lw_tbl) (hr : r0 ∈ R) (hw : w r0 = .inr (ci, fs)) (hcl : vwCl[ci]? = some (y.cls, T, N)) (hst : st = As.reverse ++ .ref (ad r0) :: rest) (hn : As.length = n) (hdg : decode cc pc = .ok (.invokevirtual index, 3)) (hR : rm.frames + 1 ≤ Rm.frames ∧ 8 + (mL + 11) + rm.locals ≤ Rm.locals) (hroom : cells + rm.cells ≤ Rm.cells ∧ slots + rm.slots ≤ Rm.slots) (hcat : (rest.map fun v => v.category).sum ≤ 8) (kk : ∀ (r : Int32) (u : k_S), post r u → XW D lo p l e Rm s m args below meth c nL (cells + rm.cells) (slots + rm.slots) Q u.1 u.2.1 u.2.2 (pc + 3) lv (.int r :: rest)) : XW D lo p l e Rm s m args below meth c nL cells slots Q R ad w pc lv (st) := by
  subst hst
  intro H locs ls hP hD hS hl0
  have hl := hl0
  obtain ⟨n0, -, hn0⟩ := wl_at ad w hr
  rw [hw] at hn0
  exact va_calli (va_runV (C := y.cls) (As := As) (rest := rest) (k_fix F) hM ⟨k_callB F hc ‹Cond.methodLink own index y ∈ lw_tbl› hR, F.2.2.2.2.wm hv.1 rfl args, F.2.2.2.2.wm hv.2 rfl args⟩ ⟨k_Pr.blind _, va_recv F.2.2.2.2.2.2.2.1 hP hcl hn0, k_pre F hP hD hS (.ref (ad r0) :: As)⟩ rfl hn hl0.1 rfl (lv_room hcat) hdg hroom) hS (fun _ _ h => h) (fun _ h => h) (fun r u t H1 locs1 ht hvm hpost hB hz hk hS => kk r u hpost H1 locs1 ls (by rw [← ht]; exact hB.1) hB.2 hS hl)
theorem x_callSi (F : k_F p m c cc nL s own D cy lo) {index mL n : Nat} {y : MethodName} {b : ByteArray} {ret : Option FieldType} {rm : Room} {post : Int32 → k_S → Prop} (As : List Value) (hM : k_Met l y b mL ret rm D cy lo R ad w (As) (k_Qi D lo post)) (hc : k_Mc y b mL ret n) (hv : k_Ms y) (hl : Cond.methodLink own index y ∈ lw_tbl) (hst : st = As.reverse ++ rest) (hn : As.length = n) (hdg : decode cc pc = .ok (.invokestatic index, 3)) (hR : rm.frames + 1 ≤ Rm.frames ∧ 8 + (mL + 11) + rm.locals ≤ Rm.locals) (hroom : cells + rm.cells ≤ Rm.cells ∧ slots + rm.slots ≤ Rm.slots) (hcat : (rest.map fun v => v.category).sum ≤ 8) (kk : ∀ (r : Int32) (u : k_S), post r u → XW D lo p l e Rm s m args below meth c nL (cells + rm.cells) (slots + rm.slots) Q u.1 u.2.1 u.2.2 (pc + 3) lv (.int r :: rest)) : XW D lo p l e Rm s m args below meth c nL cells slots Q R ad w pc lv (st) := by
  subst hst
  intro H locs ls hP hD hS hl0
  have hl := hl0
  exact va_calli (va_runS (As := As) (rest := rest) (k_fix F) hM ⟨k_callB F hc ‹Cond.methodLink own index y ∈ lw_tbl› hR, F.2.2.2.2.wm hv rfl args⟩ ⟨k_Pr.blind _, k_pre F hP hD hS As⟩ rfl hn hl0.1 rfl (lv_room hcat) hdg hroom) hS (fun _ _ h => h) (fun _ h => h) (fun r u t H1 locs1 ht hvm hpost hB hz hk hS => kk r u hpost H1 locs1 ls (by rw [← ht]; exact hB.1) hB.2 hS hl)
theorem x_callSNi (F : k_F p m c cc nL s own D cy lo) {index mL n : Nat} {y : MethodName} {b : ByteArray} {ret : Option FieldType} {rm : Room} {post : Int32 → k_S → Prop} (As : List Value) (hM : k_Met l y b mL ret rm D cy lo R ad w (As) (k_Qi D lo post)) {host : String} (hc : k_Mc y b mL ret n) (hv : k_Ms y) (hl : Cond.methodLinkNest own index y host ∈ lw_tbl) (hst : st = As.reverse ++ rest) (hn : As.length = n) (hdg : decode cc pc = .ok (.invokestatic index, 3)) (hR : rm.frames + 1 ≤ Rm.frames ∧ 8 + (mL + 11) + rm.locals ≤ Rm.locals) (hroom : cells + rm.cells ≤ Rm.cells ∧ slots + rm.slots ≤ Rm.slots) (hcat : (rest.map fun v => v.category).sum ≤ 8) (kk : ∀ (r : Int32) (u : k_S), post r u → XW D lo p l e Rm s m args below meth c nL (cells + rm.cells) (slots + rm.slots) Q u.1 u.2.1 u.2.2 (pc + 3) lv (.int r :: rest)) : XW D lo p l e Rm s m args below meth c nL cells slots Q R ad w pc lv (st) := by
  subst hst
  intro H locs ls hP hD hS hl0
  have hl := hl0
  exact va_calli (va_runSN (As := As) (rest := rest) (k_fix F) hM ⟨k_callN F hc ‹Cond.methodLinkNest own index y host ∈ lw_tbl› hR, F.2.2.2.2.wm hv rfl args, trivial⟩ ⟨k_Pr.blind _, k_pre F hP hD hS As⟩ rfl hn hl0.1 rfl (lv_room hcat) hdg hroom) hS (fun _ _ h => h) (fun _ h => h) (fun r u t H1 locs1 ht hvm hpost hB hz hk hS => kk r u hpost H1 locs1 ls (by rw [← ht]; exact hB.1) hB.2 hS hl)
theorem x_callVix (F : k_F p m c cc nL s own D cy lo) {xpost : String → k_S → Prop} {index mL n : Nat} {y : MethodName} {b : ByteArray} {ret : Option FieldType} {rm : Room} {post : Int32 → k_S → Prop} (As : List Value) {r0 ci : Nat} {fs : List Value} {T : u_T} {N : Nat} (hM : k_MetX l y b mL ret rm D cy lo R ad w (.ref (ad r0) :: As) (k_Qi D lo post) xpost) (hc : k_Mc y b mL ret n) (hv : k_Mv y) (hl : Cond.methodLink own index y ∈ lw_tbl) (hr : r0 ∈ R) (hw : w r0 = .inr (ci, fs)) (hcl : vwCl[ci]? = some (y.cls, T, N)) (hst : st = As.reverse ++ .ref (ad r0) :: rest) (hn : As.length = n) (hdg : decode cc pc = .ok (.invokevirtual index, 3)) (hR : rm.frames + 1 ≤ Rm.frames ∧ 8 + (mL + 11) + rm.locals ≤ Rm.locals) (hroom : cells + rm.cells ≤ Rm.cells ∧ slots + rm.slots ≤ Rm.slots) (hcat : (rest.map fun v => v.category).sum ≤ 8) (kx : ∀ (E : String) (u : k_S), xpost E u → XT D lo p l e Rm s m args below meth c nL (cells + rm.cells) (slots + rm.slots) Q u.1 u.2.1 u.2.2 pc lv (rest) E) (kk : ∀ (r : Int32) (u : k_S), post r u → XW D lo p l e Rm s m args below meth c nL (cells + rm.cells) (slots + rm.slots) Q u.1 u.2.1 u.2.2 (pc + 3) lv (.int r :: rest)) : XW D lo p l e Rm s m args below meth c nL cells slots Q R ad w pc lv (st) := by
  subst hst
  intro H locs ls hP hD hS hl0
  have hl := hl0
  obtain ⟨n0, -, hn0⟩ := wl_at ad w hr
  rw [hw] at hn0
  exact vx_calli (vx_runV (C := y.cls) (As := As) (rest := rest) (k_fix F) hM ⟨k_callB F hc ‹Cond.methodLink own index y ∈ lw_tbl› hR, F.2.2.2.2.wm hv.1 rfl args, F.2.2.2.2.wm hv.2 rfl args⟩ ⟨k_Pr.blind _, va_recv F.2.2.2.2.2.2.2.1 hP hcl hn0, k_pre F hP hD hS (.ref (ad r0) :: As)⟩ rfl hn hl0.1 rfl (lv_room hcat) hdg hroom) hS (fun _ _ h => h) (fun _ h => h) (fun _ _ h => h) (fun E ce q u t H1 locs1 ht hvm hp hB hz hk hS h1 h2 h3 => kx E u hB.1 H1 locs1 ls ce q (by rw [← ht]; exact hB.2.1) hB.2.2 hS hl h1 h2 h3) (fun r u t H1 locs1 ht hvm hpost hB hz hk hS => kk r u hpost H1 locs1 ls (by rw [← ht]; exact hB.1) hB.2 hS hl)
theorem x_callSix (F : k_F p m c cc nL s own D cy lo) {xpost : String → k_S → Prop} {index mL n : Nat} {y : MethodName} {b : ByteArray} {ret : Option FieldType} {rm : Room} {post : Int32 → k_S → Prop} (As : List Value) (hM : k_MetX l y b mL ret rm D cy lo R ad w (As) (k_Qi D lo post) xpost) (hc : k_Mc y b mL ret n) (hv : k_Ms y) (hl : Cond.methodLink own index y ∈ lw_tbl) (hst : st = As.reverse ++ rest) (hn : As.length = n) (hdg : decode cc pc = .ok (.invokestatic index, 3)) (hR : rm.frames + 1 ≤ Rm.frames ∧ 8 + (mL + 11) + rm.locals ≤ Rm.locals) (hroom : cells + rm.cells ≤ Rm.cells ∧ slots + rm.slots ≤ Rm.slots) (hcat : (rest.map fun v => v.category).sum ≤ 8) (kx : ∀ (E : String) (u : k_S), xpost E u → XT D lo p l e Rm s m args below meth c nL (cells + rm.cells) (slots + rm.slots) Q u.1 u.2.1 u.2.2 pc lv (rest) E) (kk : ∀ (r : Int32) (u : k_S), post r u → XW D lo p l e Rm s m args below meth c nL (cells + rm.cells) (slots + rm.slots) Q u.1 u.2.1 u.2.2 (pc + 3) lv (.int r :: rest)) : XW D lo p l e Rm s m args below meth c nL cells slots Q R ad w pc lv (st) := by
  subst hst
  intro H locs ls hP hD hS hl0
  have hl := hl0
  exact vx_calli (vx_runS (As := As) (rest := rest) (k_fix F) hM ⟨k_callB F hc ‹Cond.methodLink own index y ∈ lw_tbl› hR, F.2.2.2.2.wm hv rfl args⟩ ⟨k_Pr.blind _, k_pre F hP hD hS As⟩ rfl hn hl0.1 rfl (lv_room hcat) hdg hroom) hS (fun _ _ h => h) (fun _ h => h) (fun _ _ h => h) (fun E ce q u t H1 locs1 ht hvm hp hB hz hk hS h1 h2 h3 => kx E u hB.1 H1 locs1 ls ce q (by rw [← ht]; exact hB.2.1) hB.2.2 hS hl h1 h2 h3) (fun r u t H1 locs1 ht hvm hpost hB hz hk hS => kk r u hpost H1 locs1 ls (by rw [← ht]; exact hB.1) hB.2 hS hl)
theorem x_callVl (F : k_F p m c cc nL s own D cy lo) {index mL n : Nat} {y : MethodName} {b : ByteArray} {ret : Option FieldType} {rm : Room} {post : Int64 → k_S → Prop} (As : List Value) {r0 ci : Nat} {fs : List Value} {T : u_T} {N : Nat} (hM : k_Met l y b mL ret rm D cy lo R ad w (.ref (ad r0) :: As) (k_Ql D lo post)) (hc : k_Mc y b mL ret n) (hv : k_Mv y) (hl : Cond.methodLink own index y ∈ lw_tbl) (hr : r0 ∈ R) (hw : w r0 = .inr (ci, fs)) (hcl : vwCl[ci]? = some (y.cls, T, N)) (hst : st = As.reverse ++ .ref (ad r0) :: rest) (hn : As.length = n) (hdg : decode cc pc = .ok (.invokevirtual index, 3)) (hR : rm.frames + 1 ≤ Rm.frames ∧ 8 + (mL + 11) + rm.locals ≤ Rm.locals) (hroom : cells + rm.cells ≤ Rm.cells ∧ slots + rm.slots ≤ Rm.slots) (hcat : (rest.map fun v => v.category).sum ≤ 8) (kk : ∀ (r : Int64) (u : k_S), post r u → XW D lo p l e Rm s m args below meth c nL (cells + rm.cells) (slots + rm.slots) Q u.1 u.2.1 u.2.2 (pc + 3) lv (.long r :: rest)) : XW D lo p l e Rm s m args below meth c nL cells slots Q R ad w pc lv (st) := by
  subst hst
  intro H locs ls hP hD hS hl0
  have hl := hl0
  obtain ⟨n0, -, hn0⟩ := wl_at ad w hr
  rw [hw] at hn0
  exact va_calll (va_runV (C := y.cls) (As := As) (rest := rest) (k_fix F) hM ⟨k_callB F hc ‹Cond.methodLink own index y ∈ lw_tbl› hR, F.2.2.2.2.wm hv.1 rfl args, F.2.2.2.2.wm hv.2 rfl args⟩ ⟨k_Pr.blind _, va_recv F.2.2.2.2.2.2.2.1 hP hcl hn0, k_pre F hP hD hS (.ref (ad r0) :: As)⟩ rfl hn hl0.1 rfl (lv_room hcat) hdg hroom) hS (fun _ _ h => h) (fun _ h => h) (fun r u t H1 locs1 ht hvm hpost hB hz hk hS => kk r u hpost H1 locs1 ls (by rw [← ht]; exact hB.1) hB.2 hS hl)
theorem x_callSl (F : k_F p m c cc nL s own D cy lo) {index mL n : Nat} {y : MethodName} {b : ByteArray} {ret : Option FieldType} {rm : Room} {post : Int64 → k_S → Prop} (As : List Value) (hM : k_Met l y b mL ret rm D cy lo R ad w (As) (k_Ql D lo post)) (hc : k_Mc y b mL ret n) (hv : k_Ms y) (hl : Cond.methodLink own index y ∈ lw_tbl) (hst : st = As.reverse ++ rest) (hn : As.length = n) (hdg : decode cc pc = .ok (.invokestatic index, 3)) (hR : rm.frames + 1 ≤ Rm.frames ∧ 8 + (mL + 11) + rm.locals ≤ Rm.locals) (hroom : cells + rm.cells ≤ Rm.cells ∧ slots + rm.slots ≤ Rm.slots) (hcat : (rest.map fun v => v.category).sum ≤ 8) (kk : ∀ (r : Int64) (u : k_S), post r u → XW D lo p l e Rm s m args below meth c nL (cells + rm.cells) (slots + rm.slots) Q u.1 u.2.1 u.2.2 (pc + 3) lv (.long r :: rest)) : XW D lo p l e Rm s m args below meth c nL cells slots Q R ad w pc lv (st) := by
  subst hst
  intro H locs ls hP hD hS hl0
  have hl := hl0
  exact va_calll (va_runS (As := As) (rest := rest) (k_fix F) hM ⟨k_callB F hc ‹Cond.methodLink own index y ∈ lw_tbl› hR, F.2.2.2.2.wm hv rfl args⟩ ⟨k_Pr.blind _, k_pre F hP hD hS As⟩ rfl hn hl0.1 rfl (lv_room hcat) hdg hroom) hS (fun _ _ h => h) (fun _ h => h) (fun r u t H1 locs1 ht hvm hpost hB hz hk hS => kk r u hpost H1 locs1 ls (by rw [← ht]; exact hB.1) hB.2 hS hl)
theorem x_callSNl (F : k_F p m c cc nL s own D cy lo) {index mL n : Nat} {y : MethodName} {b : ByteArray} {ret : Option FieldType} {rm : Room} {post : Int64 → k_S → Prop} (As : List Value) (hM : k_Met l y b mL ret rm D cy lo R ad w (As) (k_Ql D lo post)) {host : String} (hc : k_Mc y b mL ret n) (hv : k_Ms y) (hl : Cond.methodLinkNest own index y host ∈ lw_tbl) (hst : st = As.reverse ++ rest) (hn : As.length = n) (hdg : decode cc pc = .ok (.invokestatic index, 3)) (hR : rm.frames + 1 ≤ Rm.frames ∧ 8 + (mL + 11) + rm.locals ≤ Rm.locals) (hroom : cells + rm.cells ≤ Rm.cells ∧ slots + rm.slots ≤ Rm.slots) (hcat : (rest.map fun v => v.category).sum ≤ 8) (kk : ∀ (r : Int64) (u : k_S), post r u → XW D lo p l e Rm s m args below meth c nL (cells + rm.cells) (slots + rm.slots) Q u.1 u.2.1 u.2.2 (pc + 3) lv (.long r :: rest)) : XW D lo p l e Rm s m args below meth c nL cells slots Q R ad w pc lv (st) := by
  subst hst
  intro H locs ls hP hD hS hl0
  have hl := hl0
  exact va_calll (va_runSN (As := As) (rest := rest) (k_fix F) hM ⟨k_callN F hc ‹Cond.methodLinkNest own index y host ∈ lw_tbl› hR, F.2.2.2.2.wm hv rfl args, trivial⟩ ⟨k_Pr.blind _, k_pre F hP hD hS As⟩ rfl hn hl0.1 rfl (lv_room hcat) hdg hroom) hS (fun _ _ h => h) (fun _ h => h) (fun r u t H1 locs1 ht hvm hpost hB hz hk hS => kk r u hpost H1 locs1 ls (by rw [← ht]; exact hB.1) hB.2 hS hl)
theorem x_callVlx (F : k_F p m c cc nL s own D cy lo) {xpost : String → k_S → Prop} {index mL n : Nat} {y : MethodName} {b : ByteArray} {ret : Option FieldType} {rm : Room} {post : Int64 → k_S → Prop} (As : List Value) {r0 ci : Nat} {fs : List Value} {T : u_T} {N : Nat} (hM : k_MetX l y b mL ret rm D cy lo R ad w (.ref (ad r0) :: As) (k_Ql D lo post) xpost) (hc : k_Mc y b mL ret n) (hv : k_Mv y) (hl : Cond.methodLink own index y ∈ lw_tbl) (hr : r0 ∈ R) (hw : w r0 = .inr (ci, fs)) (hcl : vwCl[ci]? = some (y.cls, T, N)) (hst : st = As.reverse ++ .ref (ad r0) :: rest) (hn : As.length = n) (hdg : decode cc pc = .ok (.invokevirtual index, 3)) (hR : rm.frames + 1 ≤ Rm.frames ∧ 8 + (mL + 11) + rm.locals ≤ Rm.locals) (hroom : cells + rm.cells ≤ Rm.cells ∧ slots + rm.slots ≤ Rm.slots) (hcat : (rest.map fun v => v.category).sum ≤ 8) (kx : ∀ (E : String) (u : k_S), xpost E u → XT D lo p l e Rm s m args below meth c nL (cells + rm.cells) (slots + rm.slots) Q u.1 u.2.1 u.2.2 pc lv (rest) E) (kk : ∀ (r : Int64) (u : k_S), post r u → XW D lo p l e Rm s m args below meth c nL (cells + rm.cells) (slots + rm.slots) Q u.1 u.2.1 u.2.2 (pc + 3) lv (.long r :: rest)) : XW D lo p l e Rm s m args below meth c nL cells slots Q R ad w pc lv (st) := by
  subst hst
  intro H locs ls hP hD hS hl0
  have hl := hl0
  obtain ⟨n0, -, hn0⟩ := wl_at ad w hr
  rw [hw] at hn0
  exact vx_calll (vx_runV (C := y.cls) (As := As) (rest := rest) (k_fix F) hM ⟨k_callB F hc ‹Cond.methodLink own index y ∈ lw_tbl› hR, F.2.2.2.2.wm hv.1 rfl args, F.2.2.2.2.wm hv.2 rfl args⟩ ⟨k_Pr.blind _, va_recv F.2.2.2.2.2.2.2.1 hP hcl hn0, k_pre F hP hD hS (.ref (ad r0) :: As)⟩ rfl hn hl0.1 rfl (lv_room hcat) hdg hroom) hS (fun _ _ h => h) (fun _ h => h) (fun _ _ h => h) (fun E ce q u t H1 locs1 ht hvm hp hB hz hk hS h1 h2 h3 => kx E u hB.1 H1 locs1 ls ce q (by rw [← ht]; exact hB.2.1) hB.2.2 hS hl h1 h2 h3) (fun r u t H1 locs1 ht hvm hpost hB hz hk hS => kk r u hpost H1 locs1 ls (by rw [← ht]; exact hB.1) hB.2 hS hl)
theorem x_callSlx (F : k_F p m c cc nL s own D cy lo) {xpost : String → k_S → Prop} {index mL n : Nat} {y : MethodName} {b : ByteArray} {ret : Option FieldType} {rm : Room} {post : Int64 → k_S → Prop} (As : List Value) (hM : k_MetX l y b mL ret rm D cy lo R ad w (As) (k_Ql D lo post) xpost) (hc : k_Mc y b mL ret n) (hv : k_Ms y) (hl : Cond.methodLink own index y ∈ lw_tbl) (hst : st = As.reverse ++ rest) (hn : As.length = n) (hdg : decode cc pc = .ok (.invokestatic index, 3)) (hR : rm.frames + 1 ≤ Rm.frames ∧ 8 + (mL + 11) + rm.locals ≤ Rm.locals) (hroom : cells + rm.cells ≤ Rm.cells ∧ slots + rm.slots ≤ Rm.slots) (hcat : (rest.map fun v => v.category).sum ≤ 8) (kx : ∀ (E : String) (u : k_S), xpost E u → XT D lo p l e Rm s m args below meth c nL (cells + rm.cells) (slots + rm.slots) Q u.1 u.2.1 u.2.2 pc lv (rest) E) (kk : ∀ (r : Int64) (u : k_S), post r u → XW D lo p l e Rm s m args below meth c nL (cells + rm.cells) (slots + rm.slots) Q u.1 u.2.1 u.2.2 (pc + 3) lv (.long r :: rest)) : XW D lo p l e Rm s m args below meth c nL cells slots Q R ad w pc lv (st) := by
  subst hst
  intro H locs ls hP hD hS hl0
  have hl := hl0
  exact vx_calll (vx_runS (As := As) (rest := rest) (k_fix F) hM ⟨k_callB F hc ‹Cond.methodLink own index y ∈ lw_tbl› hR, F.2.2.2.2.wm hv rfl args⟩ ⟨k_Pr.blind _, k_pre F hP hD hS As⟩ rfl hn hl0.1 rfl (lv_room hcat) hdg hroom) hS (fun _ _ h => h) (fun _ h => h) (fun _ _ h => h) (fun E ce q u t H1 locs1 ht hvm hp hB hz hk hS h1 h2 h3 => kx E u hB.1 H1 locs1 ls ce q (by rw [← ht]; exact hB.2.1) hB.2.2 hS hl h1 h2 h3) (fun r u t H1 locs1 ht hvm hpost hB hz hk hS => kk r u hpost H1 locs1 ls (by rw [← ht]; exact hB.1) hB.2 hS hl)
theorem x_callVv (F : k_F p m c cc nL s own D cy lo) {index mL n : Nat} {y : MethodName} {b : ByteArray} {ret : Option FieldType} {rm : Room} {post : k_S → Prop} (As : List Value) {r0 ci : Nat} {fs : List Value} {T : u_T} {N : Nat} (hM : k_Met l y b mL ret rm D cy lo R ad w (.ref (ad r0) :: As) (k_Qv D lo post)) (hc : k_Mc y b mL ret n) (hv : k_Mv y) (hl : Cond.methodLink own index y ∈ lw_tbl) (hr : r0 ∈ R) (hw : w r0 = .inr (ci, fs)) (hcl : vwCl[ci]? = some (y.cls, T, N)) (hst : st = As.reverse ++ .ref (ad r0) :: rest) (hn : As.length = n) (hdg : decode cc pc = .ok (.invokevirtual index, 3)) (hR : rm.frames + 1 ≤ Rm.frames ∧ 8 + (mL + 11) + rm.locals ≤ Rm.locals) (hroom : cells + rm.cells ≤ Rm.cells ∧ slots + rm.slots ≤ Rm.slots) (hcat : (rest.map fun v => v.category).sum ≤ 8) (kk : ∀ (u : k_S), post u → XW D lo p l e Rm s m args below meth c nL (cells + rm.cells) (slots + rm.slots) Q u.1 u.2.1 u.2.2 (pc + 3) lv (rest)) : XW D lo p l e Rm s m args below meth c nL cells slots Q R ad w pc lv (st) := by
  subst hst
  intro H locs ls hP hD hS hl0
  have hl := hl0
  obtain ⟨n0, -, hn0⟩ := wl_at ad w hr
  rw [hw] at hn0
  exact va_callv (va_runV (C := y.cls) (As := As) (rest := rest) (k_fix F) hM ⟨k_callB F hc ‹Cond.methodLink own index y ∈ lw_tbl› hR, F.2.2.2.2.wm hv.1 rfl args, F.2.2.2.2.wm hv.2 rfl args⟩ ⟨k_Pr.blind _, va_recv F.2.2.2.2.2.2.2.1 hP hcl hn0, k_pre F hP hD hS (.ref (ad r0) :: As)⟩ rfl hn hl0.1 rfl (lv_room hcat) hdg hroom) hS (fun _ _ h => h) (fun _ h => h) (fun u t H1 locs1 ht hvm hpost hB hz hk hS => kk u hpost H1 locs1 ls (by rw [← ht]; exact hB.1) hB.2 hS hl)
theorem x_callSv (F : k_F p m c cc nL s own D cy lo) {index mL n : Nat} {y : MethodName} {b : ByteArray} {ret : Option FieldType} {rm : Room} {post : k_S → Prop} (As : List Value) (hM : k_Met l y b mL ret rm D cy lo R ad w (As) (k_Qv D lo post)) (hc : k_Mc y b mL ret n) (hv : k_Ms y) (hl : Cond.methodLink own index y ∈ lw_tbl) (hst : st = As.reverse ++ rest) (hn : As.length = n) (hdg : decode cc pc = .ok (.invokestatic index, 3)) (hR : rm.frames + 1 ≤ Rm.frames ∧ 8 + (mL + 11) + rm.locals ≤ Rm.locals) (hroom : cells + rm.cells ≤ Rm.cells ∧ slots + rm.slots ≤ Rm.slots) (hcat : (rest.map fun v => v.category).sum ≤ 8) (kk : ∀ (u : k_S), post u → XW D lo p l e Rm s m args below meth c nL (cells + rm.cells) (slots + rm.slots) Q u.1 u.2.1 u.2.2 (pc + 3) lv (rest)) : XW D lo p l e Rm s m args below meth c nL cells slots Q R ad w pc lv (st) := by
  subst hst
  intro H locs ls hP hD hS hl0
  have hl := hl0
  exact va_callv (va_runS (As := As) (rest := rest) (k_fix F) hM ⟨k_callB F hc ‹Cond.methodLink own index y ∈ lw_tbl› hR, F.2.2.2.2.wm hv rfl args⟩ ⟨k_Pr.blind _, k_pre F hP hD hS As⟩ rfl hn hl0.1 rfl (lv_room hcat) hdg hroom) hS (fun _ _ h => h) (fun _ h => h) (fun u t H1 locs1 ht hvm hpost hB hz hk hS => kk u hpost H1 locs1 ls (by rw [← ht]; exact hB.1) hB.2 hS hl)
theorem x_callSNv (F : k_F p m c cc nL s own D cy lo) {index mL n : Nat} {y : MethodName} {b : ByteArray} {ret : Option FieldType} {rm : Room} {post : k_S → Prop} (As : List Value) (hM : k_Met l y b mL ret rm D cy lo R ad w (As) (k_Qv D lo post)) {host : String} (hc : k_Mc y b mL ret n) (hv : k_Ms y) (hl : Cond.methodLinkNest own index y host ∈ lw_tbl) (hst : st = As.reverse ++ rest) (hn : As.length = n) (hdg : decode cc pc = .ok (.invokestatic index, 3)) (hR : rm.frames + 1 ≤ Rm.frames ∧ 8 + (mL + 11) + rm.locals ≤ Rm.locals) (hroom : cells + rm.cells ≤ Rm.cells ∧ slots + rm.slots ≤ Rm.slots) (hcat : (rest.map fun v => v.category).sum ≤ 8) (kk : ∀ (u : k_S), post u → XW D lo p l e Rm s m args below meth c nL (cells + rm.cells) (slots + rm.slots) Q u.1 u.2.1 u.2.2 (pc + 3) lv (rest)) : XW D lo p l e Rm s m args below meth c nL cells slots Q R ad w pc lv (st) := by
  subst hst
  intro H locs ls hP hD hS hl0
  have hl := hl0
  exact va_callv (va_runSN (As := As) (rest := rest) (k_fix F) hM ⟨k_callN F hc ‹Cond.methodLinkNest own index y host ∈ lw_tbl› hR, F.2.2.2.2.wm hv rfl args, trivial⟩ ⟨k_Pr.blind _, k_pre F hP hD hS As⟩ rfl hn hl0.1 rfl (lv_room hcat) hdg hroom) hS (fun _ _ h => h) (fun _ h => h) (fun u t H1 locs1 ht hvm hpost hB hz hk hS => kk u hpost H1 locs1 ls (by rw [← ht]; exact hB.1) hB.2 hS hl)
theorem x_callI (F : k_F p m c cc nL s own D cy lo) {index mL n : Nat} {y : MethodName} {b : ByteArray} {rm : Room} {post : k_S → Prop} (As : List Value) {r0 : Nat} (hM : k_Met l y b mL none rm D cy lo R ad w (.ref (ad r0) :: As) (k_Qv D lo post)) (hc : k_Mc y b mL none n) (hy : y.name = "<init>") (hv : Cond.instanceMethod y ∈ lw_tbl) (hl : Cond.methodLink own index y ∈ lw_tbl) (hst : st = As.reverse ++ .ref (ad r0) :: rest) (hn : As.length = n) (hdg : decode cc pc = .ok (.invokespecial index, 3)) (hR : rm.frames + 1 ≤ Rm.frames ∧ 8 + (mL + 11) + rm.locals ≤ Rm.locals) (hroom : cells + rm.cells ≤ Rm.cells ∧ slots + rm.slots ≤ Rm.slots) (hcat : (rest.map fun v => v.category).sum ≤ 8) (kk : ∀ (u : k_S), post u → XW D lo p l e Rm s m args below meth c nL (cells + rm.cells) (slots + rm.slots) Q u.1 u.2.1 u.2.2 (pc + 3) lv (rest)) : XW D lo p l e Rm s m args below meth c nL cells slots Q R ad w pc lv (st) := by
  subst hst
  intro H locs ls hP hD hS hl0
  have hl := hl0
  exact va_callv (va_runI (As := As) (rest := rest) (k_fix F) hM ⟨k_callB F hc ‹Cond.methodLink own index y ∈ lw_tbl› hR, hy, F.2.2.2.2.wm hv rfl args⟩ ⟨k_Pr.blind _, k_pre F hP hD hS (.ref (ad r0) :: As)⟩ rfl hn hl0.1 rfl (lv_room hcat) hdg hroom) hS (fun _ _ h => h) (fun _ h => h) (fun u t H1 locs1 ht hvm hpost hB hz hk hS => kk u hpost H1 locs1 ls (by rw [← ht]; exact hB.1) hB.2 hS hl)
theorem x_callIN (F : k_F p m c cc nL s own D cy lo) {index mL n : Nat} {y : MethodName} {b : ByteArray} {rm : Room} {post : k_S → Prop} (As : List Value) {r0 : Nat} (hM : k_Met l y b mL none rm D cy lo R ad w (.ref (ad r0) :: As) (k_Qv D lo post)) {host : String} (hc : k_Mc y b mL none n) (hy : y.name = "<init>") (hv : Cond.instanceMethod y ∈ lw_tbl) (hl : Cond.methodLinkNest own index y host ∈ lw_tbl) (hst : st = As.reverse ++ .ref (ad r0) :: rest) (hn : As.length = n) (hdg : decode cc pc = .ok (.invokespecial index, 3)) (hR : rm.frames + 1 ≤ Rm.frames ∧ 8 + (mL + 11) + rm.locals ≤ Rm.locals) (hroom : cells + rm.cells ≤ Rm.cells ∧ slots + rm.slots ≤ Rm.slots) (hcat : (rest.map fun v => v.category).sum ≤ 8) (kk : ∀ (u : k_S), post u → XW D lo p l e Rm s m args below meth c nL (cells + rm.cells) (slots + rm.slots) Q u.1 u.2.1 u.2.2 (pc + 3) lv (rest)) : XW D lo p l e Rm s m args below meth c nL cells slots Q R ad w pc lv (st) := by
  subst hst
  intro H locs ls hP hD hS hl0
  have hl := hl0
  exact va_callv (va_runIN (As := As) (rest := rest) (k_fix F) hM ⟨k_callN F hc ‹Cond.methodLinkNest own index y host ∈ lw_tbl› hR, hy, F.2.2.2.2.wm hv rfl args⟩ ⟨k_Pr.blind _, k_pre F hP hD hS (.ref (ad r0) :: As)⟩ rfl hn hl0.1 rfl (lv_room hcat) hdg hroom) hS (fun _ _ h => h) (fun _ h => h) (fun u t H1 locs1 ht hvm hpost hB hz hk hS => kk u hpost H1 locs1 ls (by rw [← ht]; exact hB.1) hB.2 hS hl)
theorem x_callVvx (F : k_F p m c cc nL s own D cy lo) {xpost : String → k_S → Prop} {index mL n : Nat} {y : MethodName} {b : ByteArray} {ret : Option FieldType} {rm : Room} {post : k_S → Prop} (As : List Value) {r0 ci : Nat} {fs : List Value} {T : u_T} {N : Nat} (hM : k_MetX l y b mL ret rm D cy lo R ad w (.ref (ad r0) :: As) (k_Qv D lo post) xpost) (hc : k_Mc y b mL ret n) (hv : k_Mv y) (hl : Cond.methodLink own index y ∈ lw_tbl) (hr : r0 ∈ R) (hw : w r0 = .inr (ci, fs)) (hcl : vwCl[ci]? = some (y.cls, T, N)) (hst : st = As.reverse ++ .ref (ad r0) :: rest) (hn : As.length = n) (hdg : decode cc pc = .ok (.invokevirtual index, 3)) (hR : rm.frames + 1 ≤ Rm.frames ∧ 8 + (mL + 11) + rm.locals ≤ Rm.locals) (hroom : cells + rm.cells ≤ Rm.cells ∧ slots + rm.slots ≤ Rm.slots) (hcat : (rest.map fun v => v.category).sum ≤ 8) (kx : ∀ (E : String) (u : k_S), xpost E u → XT D lo p l e Rm s m args below meth c nL (cells + rm.cells) (slots + rm.slots) Q u.1 u.2.1 u.2.2 pc lv (rest) E) (kk : ∀ (u : k_S), post u → XW D lo p l e Rm s m args below meth c nL (cells + rm.cells) (slots + rm.slots) Q u.1 u.2.1 u.2.2 (pc + 3) lv (rest)) : XW D lo p l e Rm s m args below meth c nL cells slots Q R ad w pc lv (st) := by
  subst hst
  intro H locs ls hP hD hS hl0
  have hl := hl0
  obtain ⟨n0, -, hn0⟩ := wl_at ad w hr
  rw [hw] at hn0
  exact vx_callv (vx_runV (C := y.cls) (As := As) (rest := rest) (k_fix F) hM ⟨k_callB F hc ‹Cond.methodLink own index y ∈ lw_tbl› hR, F.2.2.2.2.wm hv.1 rfl args, F.2.2.2.2.wm hv.2 rfl args⟩ ⟨k_Pr.blind _, va_recv F.2.2.2.2.2.2.2.1 hP hcl hn0, k_pre F hP hD hS (.ref (ad r0) :: As)⟩ rfl hn hl0.1 rfl (lv_room hcat) hdg hroom) hS (fun _ _ h => h) (fun _ h => h) (fun _ _ h => h) (fun E ce q u t H1 locs1 ht hvm hp hB hz hk hS h1 h2 h3 => kx E u hB.1 H1 locs1 ls ce q (by rw [← ht]; exact hB.2.1) hB.2.2 hS hl h1 h2 h3) (fun u t H1 locs1 ht hvm hpost hB hz hk hS => kk u hpost H1 locs1 ls (by rw [← ht]; exact hB.1) hB.2 hS hl)
theorem x_callSvx (F : k_F p m c cc nL s own D cy lo) {xpost : String → k_S → Prop} {index mL n : Nat} {y : MethodName} {b : ByteArray} {ret : Option FieldType} {rm : Room} {post : k_S → Prop} (As : List Value) (hM : k_MetX l y b mL ret rm D cy lo R ad w (As) (k_Qv D lo post) xpost) (hc : k_Mc y b mL ret n) (hv : k_Ms y) (hl : Cond.methodLink own index y ∈ lw_tbl) (hst : st = As.reverse ++ rest) (hn : As.length = n) (hdg : decode cc pc = .ok (.invokestatic index, 3)) (hR : rm.frames + 1 ≤ Rm.frames ∧ 8 + (mL + 11) + rm.locals ≤ Rm.locals) (hroom : cells + rm.cells ≤ Rm.cells ∧ slots + rm.slots ≤ Rm.slots) (hcat : (rest.map fun v => v.category).sum ≤ 8) (kx : ∀ (E : String) (u : k_S), xpost E u → XT D lo p l e Rm s m args below meth c nL (cells + rm.cells) (slots + rm.slots) Q u.1 u.2.1 u.2.2 pc lv (rest) E) (kk : ∀ (u : k_S), post u → XW D lo p l e Rm s m args below meth c nL (cells + rm.cells) (slots + rm.slots) Q u.1 u.2.1 u.2.2 (pc + 3) lv (rest)) : XW D lo p l e Rm s m args below meth c nL cells slots Q R ad w pc lv (st) := by
  subst hst
  intro H locs ls hP hD hS hl0
  have hl := hl0
  exact vx_callv (vx_runS (As := As) (rest := rest) (k_fix F) hM ⟨k_callB F hc ‹Cond.methodLink own index y ∈ lw_tbl› hR, F.2.2.2.2.wm hv rfl args⟩ ⟨k_Pr.blind _, k_pre F hP hD hS As⟩ rfl hn hl0.1 rfl (lv_room hcat) hdg hroom) hS (fun _ _ h => h) (fun _ h => h) (fun _ _ h => h) (fun E ce q u t H1 locs1 ht hvm hp hB hz hk hS h1 h2 h3 => kx E u hB.1 H1 locs1 ls ce q (by rw [← ht]; exact hB.2.1) hB.2.2 hS hl h1 h2 h3) (fun u t H1 locs1 ht hvm hpost hB hz hk hS => kk u hpost H1 locs1 ls (by rw [← ht]; exact hB.1) hB.2 hS hl)
theorem x_callVq (F : k_F p m c cc nL s own D cy lo) {index mL n : Nat} {y : MethodName} {b : ByteArray} {ret : Option FieldType} {rm : Room} {post : Option Nat → k_S → Prop} (As : List Value) {r0 ci : Nat} {fs : List Value} {T : u_T} {N : Nat} (hM : k_Met l y b mL ret rm D cy lo R ad w (.ref (ad r0) :: As) (k_Qq D lo post)) (hc : k_Mc y b mL ret n) (hv : k_Mv y) (hl : Cond.methodLink own index y ∈ lw_tbl) (hr : r0 ∈ R) (hw : w r0 = .inr (ci, fs)) (hcl : vwCl[ci]? = some (y.cls, T, N)) (hst : st = As.reverse ++ .ref (ad r0) :: rest) (hn : As.length = n) (hdg : decode cc pc = .ok (.invokevirtual index, 3)) (hR : rm.frames + 1 ≤ Rm.frames ∧ 8 + (mL + 11) + rm.locals ≤ Rm.locals) (hroom : cells + rm.cells ≤ Rm.cells ∧ slots + rm.slots ≤ Rm.slots) (hcat : (rest.map fun v => v.category).sum ≤ 8) (kk : ∀ (r : Option Nat) (u : k_S), post r u → XW D lo p l e Rm s m args below meth c nL (cells + rm.cells) (slots + rm.slots) Q u.1 u.2.1 u.2.2 (pc + 3) lv (va_rf r :: rest)) : XW D lo p l e Rm s m args below meth c nL cells slots Q R ad w pc lv (st) := by
  subst hst
  intro H locs ls hP hD hS hl0
  have hl := hl0
  obtain ⟨n0, -, hn0⟩ := wl_at ad w hr
  rw [hw] at hn0
  exact va_callq (va_runV (C := y.cls) (As := As) (rest := rest) (k_fix F) hM ⟨k_callB F hc ‹Cond.methodLink own index y ∈ lw_tbl› hR, F.2.2.2.2.wm hv.1 rfl args, F.2.2.2.2.wm hv.2 rfl args⟩ ⟨k_Pr.blind _, va_recv F.2.2.2.2.2.2.2.1 hP hcl hn0, k_pre F hP hD hS (.ref (ad r0) :: As)⟩ rfl hn hl0.1 rfl (lv_room hcat) hdg hroom) hS (fun _ _ h => h) (fun _ h => h) (fun r u t H1 locs1 ht hvm hpost hB hz hk hS => kk r u hpost H1 locs1 ls (by rw [← ht]; exact hB.1) hB.2 hS hl)
theorem x_callSq (F : k_F p m c cc nL s own D cy lo) {index mL n : Nat} {y : MethodName} {b : ByteArray} {ret : Option FieldType} {rm : Room} {post : Option Nat → k_S → Prop} (As : List Value) (hM : k_Met l y b mL ret rm D cy lo R ad w (As) (k_Qq D lo post)) (hc : k_Mc y b mL ret n) (hv : k_Ms y) (hl : Cond.methodLink own index y ∈ lw_tbl) (hst : st = As.reverse ++ rest) (hn : As.length = n) (hdg : decode cc pc = .ok (.invokestatic index, 3)) (hR : rm.frames + 1 ≤ Rm.frames ∧ 8 + (mL + 11) + rm.locals ≤ Rm.locals) (hroom : cells + rm.cells ≤ Rm.cells ∧ slots + rm.slots ≤ Rm.slots) (hcat : (rest.map fun v => v.category).sum ≤ 8) (kk : ∀ (r : Option Nat) (u : k_S), post r u → XW D lo p l e Rm s m args below meth c nL (cells + rm.cells) (slots + rm.slots) Q u.1 u.2.1 u.2.2 (pc + 3) lv (va_rf r :: rest)) : XW D lo p l e Rm s m args below meth c nL cells slots Q R ad w pc lv (st) := by
  subst hst
  intro H locs ls hP hD hS hl0
  have hl := hl0
  exact va_callq (va_runS (As := As) (rest := rest) (k_fix F) hM ⟨k_callB F hc ‹Cond.methodLink own index y ∈ lw_tbl› hR, F.2.2.2.2.wm hv rfl args⟩ ⟨k_Pr.blind _, k_pre F hP hD hS As⟩ rfl hn hl0.1 rfl (lv_room hcat) hdg hroom) hS (fun _ _ h => h) (fun _ h => h) (fun r u t H1 locs1 ht hvm hpost hB hz hk hS => kk r u hpost H1 locs1 ls (by rw [← ht]; exact hB.1) hB.2 hS hl)
theorem x_callSNq (F : k_F p m c cc nL s own D cy lo) {index mL n : Nat} {y : MethodName} {b : ByteArray} {ret : Option FieldType} {rm : Room} {post : Option Nat → k_S → Prop} (As : List Value) (hM : k_Met l y b mL ret rm D cy lo R ad w (As) (k_Qq D lo post)) {host : String} (hc : k_Mc y b mL ret n) (hv : k_Ms y) (hl : Cond.methodLinkNest own index y host ∈ lw_tbl) (hst : st = As.reverse ++ rest) (hn : As.length = n) (hdg : decode cc pc = .ok (.invokestatic index, 3)) (hR : rm.frames + 1 ≤ Rm.frames ∧ 8 + (mL + 11) + rm.locals ≤ Rm.locals) (hroom : cells + rm.cells ≤ Rm.cells ∧ slots + rm.slots ≤ Rm.slots) (hcat : (rest.map fun v => v.category).sum ≤ 8) (kk : ∀ (r : Option Nat) (u : k_S), post r u → XW D lo p l e Rm s m args below meth c nL (cells + rm.cells) (slots + rm.slots) Q u.1 u.2.1 u.2.2 (pc + 3) lv (va_rf r :: rest)) : XW D lo p l e Rm s m args below meth c nL cells slots Q R ad w pc lv (st) := by
  subst hst
  intro H locs ls hP hD hS hl0
  have hl := hl0
  exact va_callq (va_runSN (As := As) (rest := rest) (k_fix F) hM ⟨k_callN F hc ‹Cond.methodLinkNest own index y host ∈ lw_tbl› hR, F.2.2.2.2.wm hv rfl args, trivial⟩ ⟨k_Pr.blind _, k_pre F hP hD hS As⟩ rfl hn hl0.1 rfl (lv_room hcat) hdg hroom) hS (fun _ _ h => h) (fun _ h => h) (fun r u t H1 locs1 ht hvm hpost hB hz hk hS => kk r u hpost H1 locs1 ls (by rw [← ht]; exact hB.1) hB.2 hS hl)
theorem x_callVqx (F : k_F p m c cc nL s own D cy lo) {xpost : String → k_S → Prop} {index mL n : Nat} {y : MethodName} {b : ByteArray} {ret : Option FieldType} {rm : Room} {post : Option Nat → k_S → Prop} (As : List Value) {r0 ci : Nat} {fs : List Value} {T : u_T} {N : Nat} (hM : k_MetX l y b mL ret rm D cy lo R ad w (.ref (ad r0) :: As) (k_Qq D lo post) xpost) (hc : k_Mc y b mL ret n) (hv : k_Mv y) (hl : Cond.methodLink own index y ∈ lw_tbl) (hr : r0 ∈ R) (hw : w r0 = .inr (ci, fs)) (hcl : vwCl[ci]? = some (y.cls, T, N)) (hst : st = As.reverse ++ .ref (ad r0) :: rest) (hn : As.length = n) (hdg : decode cc pc = .ok (.invokevirtual index, 3)) (hR : rm.frames + 1 ≤ Rm.frames ∧ 8 + (mL + 11) + rm.locals ≤ Rm.locals) (hroom : cells + rm.cells ≤ Rm.cells ∧ slots + rm.slots ≤ Rm.slots) (hcat : (rest.map fun v => v.category).sum ≤ 8) (kx : ∀ (E : String) (u : k_S), xpost E u → XT D lo p l e Rm s m args below meth c nL (cells + rm.cells) (slots + rm.slots) Q u.1 u.2.1 u.2.2 pc lv (rest) E) (kk : ∀ (r : Option Nat) (u : k_S), post r u → XW D lo p l e Rm s m args below meth c nL (cells + rm.cells) (slots + rm.slots) Q u.1 u.2.1 u.2.2 (pc + 3) lv (va_rf r :: rest)) : XW D lo p l e Rm s m args below meth c nL cells slots Q R ad w pc lv (st) := by
  subst hst
  intro H locs ls hP hD hS hl0
  have hl := hl0
  obtain ⟨n0, -, hn0⟩ := wl_at ad w hr
  rw [hw] at hn0
  exact vx_callq (vx_runV (C := y.cls) (As := As) (rest := rest) (k_fix F) hM ⟨k_callB F hc ‹Cond.methodLink own index y ∈ lw_tbl› hR, F.2.2.2.2.wm hv.1 rfl args, F.2.2.2.2.wm hv.2 rfl args⟩ ⟨k_Pr.blind _, va_recv F.2.2.2.2.2.2.2.1 hP hcl hn0, k_pre F hP hD hS (.ref (ad r0) :: As)⟩ rfl hn hl0.1 rfl (lv_room hcat) hdg hroom) hS (fun _ _ h => h) (fun _ h => h) (fun _ _ h => h) (fun E ce q u t H1 locs1 ht hvm hp hB hz hk hS h1 h2 h3 => kx E u hB.1 H1 locs1 ls ce q (by rw [← ht]; exact hB.2.1) hB.2.2 hS hl h1 h2 h3) (fun r u t H1 locs1 ht hvm hpost hB hz hk hS => kk r u hpost H1 locs1 ls (by rw [← ht]; exact hB.1) hB.2 hS hl)
theorem x_callSqx (F : k_F p m c cc nL s own D cy lo) {xpost : String → k_S → Prop} {index mL n : Nat} {y : MethodName} {b : ByteArray} {ret : Option FieldType} {rm : Room} {post : Option Nat → k_S → Prop} (As : List Value) (hM : k_MetX l y b mL ret rm D cy lo R ad w (As) (k_Qq D lo post) xpost) (hc : k_Mc y b mL ret n) (hv : k_Ms y) (hl : Cond.methodLink own index y ∈ lw_tbl) (hst : st = As.reverse ++ rest) (hn : As.length = n) (hdg : decode cc pc = .ok (.invokestatic index, 3)) (hR : rm.frames + 1 ≤ Rm.frames ∧ 8 + (mL + 11) + rm.locals ≤ Rm.locals) (hroom : cells + rm.cells ≤ Rm.cells ∧ slots + rm.slots ≤ Rm.slots) (hcat : (rest.map fun v => v.category).sum ≤ 8) (kx : ∀ (E : String) (u : k_S), xpost E u → XT D lo p l e Rm s m args below meth c nL (cells + rm.cells) (slots + rm.slots) Q u.1 u.2.1 u.2.2 pc lv (rest) E) (kk : ∀ (r : Option Nat) (u : k_S), post r u → XW D lo p l e Rm s m args below meth c nL (cells + rm.cells) (slots + rm.slots) Q u.1 u.2.1 u.2.2 (pc + 3) lv (va_rf r :: rest)) : XW D lo p l e Rm s m args below meth c nL cells slots Q R ad w pc lv (st) := by
  subst hst
  intro H locs ls hP hD hS hl0
  have hl := hl0
  exact vx_callq (vx_runS (As := As) (rest := rest) (k_fix F) hM ⟨k_callB F hc ‹Cond.methodLink own index y ∈ lw_tbl› hR, F.2.2.2.2.wm hv rfl args⟩ ⟨k_Pr.blind _, k_pre F hP hD hS As⟩ rfl hn hl0.1 rfl (lv_room hcat) hdg hroom) hS (fun _ _ h => h) (fun _ h => h) (fun _ _ h => h) (fun E ce q u t H1 locs1 ht hvm hp hB hz hk hS h1 h2 h3 => kx E u hB.1 H1 locs1 ls ce q (by rw [← ht]; exact hB.2.1) hB.2.2 hS hl h1 h2 h3) (fun r u t H1 locs1 ht hvm hpost hB hz hk hS => kk r u hpost H1 locs1 ls (by rw [← ht]; exact hB.1) hB.2 hS hl)
theorem x_widen {k n : Nat} (h1 : cells ≤ k) (h2 : slots ≤ n) (kk : XW D lo p l e Rm s m args below meth c nL k n Q R ad w pc lv (st)) : XW D lo p l e Rm s m args below meth c nL cells slots Q R ad w pc lv (st) := fun H locs ls hP hD hS hl => W.widen h1 h2 (kk H locs ls hP hD hS hl)
theorem x_iret (F : k_F p m c cc nL s own D cy lo) {post : Int32 → k_S → Prop} {v : Int32} (hr : meth.sig.returnType = some .int) (hlk : meth.locks = false)  (hpost : post v (R, ad, w)) (hdg : decode cc pc = .ok (.ireturn, 1)) : XW D lo p l e Rm s m args below meth c nL cells slots (MQ below (k_Qi D lo post) args s cells slots (lA lo)) R ad w pc lv ([.int v]) := fun H locs ls hP hD hS hl => (W.iret F.1 F.2.1 hr  (fun t ht hW => ⟨⟨v, (R, ad, w), rfl, hpost, by show va_P D vwCl (wl R ad w) t.heap; rw [ht]; exact hP, hD⟩, hS.F ht⟩) hS.2.2 hdg hlk)
theorem x_iretx (F : k_F p m c cc nL s own D cy lo) {post : Int32 → k_S → Prop} {xpost : String → k_S → Prop} {v : Int32} (hr : meth.sig.returnType = some .int) (hlk : meth.locks = false)  (hpost : post v (R, ad, w)) (hdg : decode cc pc = .ok (.ireturn, 1)) : XW D lo p l e Rm s m args below meth c nL cells slots (vx_MQ below (k_Qi D lo post) (k_XC D lo xpost) args s cells slots (lA lo)) R ad w pc lv ([.int v]) := fun H locs ls hP hD hS hl => vx_ret (W.iret F.1 F.2.1 hr  (fun t ht hW => ⟨⟨v, (R, ad, w), rfl, hpost, by show va_P D vwCl (wl R ad w) t.heap; rw [ht]; exact hP, hD⟩, hS.F ht⟩) hS.2.2 hdg hlk)
theorem x_zret (F : k_F p m c cc nL s own D cy lo) {post : Int32 → k_S → Prop} {v : Int32} (hr : meth.sig.returnType = some .boolean) (hlk : meth.locks = false) (hn : narrow .boolean (.int v) = .int v) (hpost : post v (R, ad, w)) (hdg : decode cc pc = .ok (.ireturn, 1)) : XW D lo p l e Rm s m args below meth c nL cells slots (MQ below (k_Qi D lo post) args s cells slots (lA lo)) R ad w pc lv ([.int v]) := fun H locs ls hP hD hS hl => (W.zret F.1 F.2.1 hr hn (fun t ht hW => ⟨⟨v, (R, ad, w), rfl, hpost, by show va_P D vwCl (wl R ad w) t.heap; rw [ht]; exact hP, hD⟩, hS.F ht⟩) hS.2.2 hdg hlk)
theorem x_zretx (F : k_F p m c cc nL s own D cy lo) {post : Int32 → k_S → Prop} {xpost : String → k_S → Prop} {v : Int32} (hr : meth.sig.returnType = some .boolean) (hlk : meth.locks = false) (hn : narrow .boolean (.int v) = .int v) (hpost : post v (R, ad, w)) (hdg : decode cc pc = .ok (.ireturn, 1)) : XW D lo p l e Rm s m args below meth c nL cells slots (vx_MQ below (k_Qi D lo post) (k_XC D lo xpost) args s cells slots (lA lo)) R ad w pc lv ([.int v]) := fun H locs ls hP hD hS hl => vx_ret (W.zret F.1 F.2.1 hr hn (fun t ht hW => ⟨⟨v, (R, ad, w), rfl, hpost, by show va_P D vwCl (wl R ad w) t.heap; rw [ht]; exact hP, hD⟩, hS.F ht⟩) hS.2.2 hdg hlk)
theorem x_lret (F : k_F p m c cc nL s own D cy lo) {post : Int64 → k_S → Prop} {v : Int64} (hr : meth.sig.returnType = some .long) (hlk : meth.locks = false)  (hpost : post v (R, ad, w)) (hdg : decode cc pc = .ok (.lreturn, 1)) : XW D lo p l e Rm s m args below meth c nL cells slots (MQ below (k_Ql D lo post) args s cells slots (lA lo)) R ad w pc lv ([.long v]) := fun H locs ls hP hD hS hl => (W.lret F.1 F.2.1 hr  (fun t ht hW => ⟨⟨v, (R, ad, w), rfl, hpost, by show va_P D vwCl (wl R ad w) t.heap; rw [ht]; exact hP, hD⟩, hS.F ht⟩) hS.2.2 hdg hlk)
theorem x_lretx (F : k_F p m c cc nL s own D cy lo) {post : Int64 → k_S → Prop} {xpost : String → k_S → Prop} {v : Int64} (hr : meth.sig.returnType = some .long) (hlk : meth.locks = false)  (hpost : post v (R, ad, w)) (hdg : decode cc pc = .ok (.lreturn, 1)) : XW D lo p l e Rm s m args below meth c nL cells slots (vx_MQ below (k_Ql D lo post) (k_XC D lo xpost) args s cells slots (lA lo)) R ad w pc lv ([.long v]) := fun H locs ls hP hD hS hl => vx_ret (W.lret F.1 F.2.1 hr  (fun t ht hW => ⟨⟨v, (R, ad, w), rfl, hpost, by show va_P D vwCl (wl R ad w) t.heap; rw [ht]; exact hP, hD⟩, hS.F ht⟩) hS.2.2 hdg hlk)
theorem x_vret (F : k_F p m c cc nL s own D cy lo) {post : k_S → Prop} (hr : meth.sig.returnType = none) (hlk : meth.locks = false) (hpost : post (R, ad, w)) (hdg : decode cc pc = .ok (.return_, 1)) : XW D lo p l e Rm s m args below meth c nL cells slots (MQ below (k_Qv D lo post) args s cells slots (lA lo)) R ad w pc lv ([]) := fun H locs ls hP hD hS hl => (W.vret F.1 F.2.1 hr (fun t ht hW => ⟨⟨(R, ad, w), rfl, hpost, by show va_P D vwCl (wl R ad w) t.heap; rw [ht]; exact hP, hD⟩, hS.F ht⟩) hS.2.2 hdg hlk)
theorem x_aret (F : k_F p m c cc nL s own D cy lo) {post : Option Nat → k_S → Prop} {cn : String} {v : Option Nat} (hr : meth.sig.returnType = some (.object cn)) (hlk : meth.locks = false) (hpost : post v (R, ad, w)) (hdg : decode cc pc = .ok (.areturn, 1)) : XW D lo p l e Rm s m args below meth c nL cells slots (MQ below (k_Qq D lo post) args s cells slots (lA lo)) R ad w pc lv ([va_rf v]) := fun H locs ls hP hD hS hl => (W.aret F.1 F.2.1 hr (Or.inl ⟨cn, rfl⟩) (va_rf_or v) (fun t ht hW => ⟨⟨v, (R, ad, w), rfl, hpost, by show va_P D vwCl (wl R ad w) t.heap; rw [ht]; exact hP, hD⟩, hS.F ht⟩) hS.2.2 hdg hlk)
theorem x_vretx (F : k_F p m c cc nL s own D cy lo) {post : k_S → Prop} {xpost : String → k_S → Prop} (hr : meth.sig.returnType = none) (hlk : meth.locks = false) (hpost : post (R, ad, w)) (hdg : decode cc pc = .ok (.return_, 1)) : XW D lo p l e Rm s m args below meth c nL cells slots (vx_MQ below (k_Qv D lo post) (k_XC D lo xpost) args s cells slots (lA lo)) R ad w pc lv ([]) := fun H locs ls hP hD hS hl => vx_ret (W.vret F.1 F.2.1 hr (fun t ht hW => ⟨⟨(R, ad, w), rfl, hpost, by show va_P D vwCl (wl R ad w) t.heap; rw [ht]; exact hP, hD⟩, hS.F ht⟩) hS.2.2 hdg hlk)
theorem x_aretx (F : k_F p m c cc nL s own D cy lo) {post : Option Nat → k_S → Prop} {xpost : String → k_S → Prop} {cn : String} {v : Option Nat} (hr : meth.sig.returnType = some (.object cn)) (hlk : meth.locks = false) (hpost : post v (R, ad, w)) (hdg : decode cc pc = .ok (.areturn, 1)) : XW D lo p l e Rm s m args below meth c nL cells slots (vx_MQ below (k_Qq D lo post) (k_XC D lo xpost) args s cells slots (lA lo)) R ad w pc lv ([va_rf v]) := fun H locs ls hP hD hS hl => vx_ret (W.aret F.1 F.2.1 hr (Or.inl ⟨cn, rfl⟩) (va_rf_or v) (fun t ht hW => ⟨⟨v, (R, ad, w), rfl, hpost, by show va_P D vwCl (wl R ad w) t.heap; rw [ht]; exact hP, hD⟩, hS.F ht⟩) hS.2.2 hdg hlk)
theorem x_out (F : k_F p m c cc nL s own D cy lo) {Qc : Array Value → State → Outcome → State → Prop} {xpost : String → k_S → Prop} {E : String} {mc ms : Nat} (ht : ∀ x ∈ c.exceptionTable.toList, False) (hlk : meth.locks = false) (hx : xpost E (R, ad, w)) (h1 : cells ≤ mc) (h2 : slots ≤ ms) : XT D lo p l e Rm s m args below meth c nL cells slots (vx_MQ below Qc (k_XC D lo xpost) args s mc ms (lA lo)) R ad w pc lv (st) E := fun H locs ls ce q hP hD hS hl g1 g2 g3 => vx_out (fun x hx => (ht x hx).elim) hlk g1 g2 g3 (fun t ht hW => ⟨(R, ad, w), trivial, ⟨hx, by show va_P D vwCl (wl R ad w) t.heap; rw [ht]; exact hP, hD⟩, hS.F ht⟩) hS.2.2 h1 h2
end KCALLS
theorem k_metX {l : Launch} {y : MethodName} {cc : ByteArray} {maxL : Nat} {ret : Option FieldType} {rm : Room} {D : va_G} {cy : Nat → ClassId} {lo : Nat} {R : List Nat} {ad : Nat → Nat} {w : Nat → va_E} {av : List Value} {Qc : Array Value → State → Outcome → State → Prop} {xpost : String → k_S → Prop}
    (hy : plainName y.cls = true) (hav : (lg_sl av).length ≤ maxL)
    (body : ∀ p e s m below meth c, k_F p m c cc maxL s y.cls D cy lo → meth.sig.returnType = ret → meth.locks = false → (∀ x ∈ c.exceptionTable.toList, False) → XW D lo p l e rm s m av.toArray below meth c maxL 0 0 (vx_MQ below Qc (k_XC D lo xpost) av.toArray s rm.cells rm.slots (lA lo)) R ad w 0 (lv_args 0 av) []) :
    k_MetX l y cc maxL ret rm D cy lo R ad w av Qc xpost := by
  refine vx_ofW (cc := cc) (maxL := maxL) (ret := ret) hy rfl ?_
  intro p e s m args below meth c s₁ B hml ht hv
  obtain ⟨rfl, hE, hP, hD⟩ := hv
  have hl := lv_entry av (n := maxL) hav
  rw [lg_entry_eq]
  exact body p e s m below meth c ⟨B.exec, B.bytes, hml, findClass_of_methodNamed B.named, hE⟩ B.returns B.notSynchronized ht _ _ _ hP hD va_S.rf hl
theorem XW.widX {D : va_G} {lo : Nat} {p : Program} {l : Launch} {e : Env} {Rm : Room} {s : State} {m : MethodId} {args : Array Value} {below : List Frame} {meth : Method} {c : Code} {nL cells slots k n : Nat} {Q : State → Prop} {R : List Nat} {ad : Nat → Nat} {w : Nat → va_E} {pc : Nat} {lv : List (Nat × Value)} {st : List Value} (h1 : cells ≤ k) (h2 : slots ≤ n) (kk : XW D lo p l e Rm s m args below meth c nL k n Q R ad w pc lv st) : XW D lo p l e Rm s m args below meth c nL cells slots Q R ad w pc lv st := fun H locs ls hP hD hS hl => W.widen h1 h2 (kk H locs ls hP hD hS hl)
end
section
def k_nmx : List String := ["java/lang/RuntimeException", "java/lang/Exception"]
set_option maxRecDepth 100000 in
theorem k_at_IO : ∀ w ∈ vx_atS RX4 115 e_IO k_nmx, w ∈ lw_tbl ∧ (goodWord w = true ∨ k_nest w = true) ∧ vx_ot w = true := by decide +kernel
set_option maxRecDepth 100000 in
theorem k_at_IA : ∀ w ∈ vx_atS RX4 60 e_IA k_nmx, w ∈ lw_tbl ∧ (goodWord w = true ∨ k_nest w = true) ∧ vx_ot w = true := by decide +kernel
set_option maxRecDepth 100000 in
theorem k_at_IS : ∀ w ∈ vx_atS RX4 78 e_IS k_nmx, w ∈ lw_tbl ∧ (goodWord w = true ∨ k_nest w = true) ∧ vx_ot w = true := by decide +kernel
section KTHROW
variable {D : va_G} {cy : Nat → ClassId} {lo : Nat} {p : Program} {l : Launch} {e : Env} {Rm : Room} {s : State} {m : MethodId} {args : Array Value} {below : List Frame} {meth : Method} {c : Code} {cc : ByteArray} {nL cells slots : Nat} {Q : State → Prop} {own : String} {R : List Nat} {ad : Nat → Nat} {w : Nat → va_E} {pc : Nat} {lv : List (Nat × Value)} {st rest : List Value}
/-- new X(text), thrown out of the method: the world stays -/
theorem x_throw (F : k_F p m c cc nL s own D cy lo) (hfl : l.stackTraces = false) (ht : ∀ x ∈ c.exceptionTable.toList, False) (hlk : meth.locks = false) {cls text : String} {ik is ic mc ms : Nat} {Qc : Array Value → State → Outcome → State → Prop} {xpost : String → k_S → Prop}
    (hcls : Bundle.fit cls = true) (hk : Cond.classLink own ik cls ∈ lw_tbl) (hini : Cond.initialized cls ∈ lw_tbl) (hstr : Cond.stringRef own is text ∈ lw_tbl) (hat : ∀ w ∈ vx_atS own ic cls k_nmx, w ∈ lw_tbl ∧ (goodWord w = true ∨ k_nest w = true) ∧ vx_ot w = true)
    (d0 : decode cc pc = .ok (.new ik, 3)) (d3 : decode cc (pc + 3) = .ok (.dup, 1)) (d4 : decode cc (pc + 4) = .ok (.ldc is, 2)) (d6 : decode cc (pc + 6) = .ok (.invokespecial ic, 3)) (d9 : decode cc (pc + 9) = .ok (.athrow, 1))
    (hR : 5 < Rm.frames ∧ (st.map fun v => v.category).sum + 82 ≤ Rm.locals ∧ cells + 1 ≤ Rm.cells ∧ slots + 6 ≤ Rm.slots) (hx : xpost cls (R, ad, w)) (hc : cells + 1 ≤ mc) (hs : slots + 6 ≤ ms) :
    XW D lo p l e Rm s m args below meth c nL cells slots (vx_MQ below Qc (k_XC D lo xpost) args s mc ms (lA lo)) R ad w pc lv st := by
  intro H locs ls hP hD hS hl
  obtain ⟨sa, hsa⟩ := F.2.2.2.2.2.2.1 own is text hstr
  refine vx_throwS (A := lA lo) (names := k_nmx) F.1 F.2.1 hfl F.2.2.2.1 hcls (by decide +kernel) (F.2.2.2.2.wm hk rfl args) (F.2.2.2.2.wm hini rfl args) hsa (fun w hw => F.2.2.2.2.any (hat w hw).1 (hat w hw).2.1 args) (fun w hw => ?_) F.2.2.2.2.2.2.2.2.1.1 F.2.2.2.2.2.2.2.2.1.2 hS (by rw [hl.1, F.2.2.1]) d0 d3 d4 d6 d9 (fun x hx => (ht x hx).elim) hR.1 hR.2.1 hR.2.2.1 hR.2.2.2 hlk (fun t hvm hz hq => ⟨(R, ad, w), trivial, ⟨hx, ?_, hD⟩, ?_⟩) hS.2.2 hc hs
  · rcases List.mem_cons.mp hw with rfl | hw
    · rfl
    · rcases List.mem_cons.mp hw with rfl | hw
      · rfl
      · exact (hat w hw).2.2
  · exact fun k q hk => (hP k q hk).kept (hq q.1 (hP k q hk).lt)
  · exact ⟨Nat.le_trans hS.1 hz, fun q h1 h2 => by rw [hq q (Nat.lt_of_lt_of_le h1 hS.1)]; exact hS.2.1 q h1 h2⟩
/-- a handler takes it -/
theorem x_catch (F : k_F p m c cc nL s own D cy lo) {E : String} (pre : List ExceptionTableEntry) (x : ExceptionTableEntry) (suf : List ExceptionTableEntry) (hsplit : c.exceptionTable.toList = pre ++ x :: suf)
    (hpass : ∀ z ∈ pre, z.catchType ≠ 0 ∧ ∃ nm : String, Cond.classLink own z.catchType nm ∈ lw_tbl ∧ (E, nm) ∈ k_ncs) (hx : covers x pc = true) (h0 : x.catchType ≠ 0) (hlink : Cond.classLink own x.catchType E ∈ lw_tbl) (hcast : Cond.castable E E ∈ lw_tbl)
    (kk : ∀ q : Nat, XW D lo p l e Rm s m args below meth c nL cells slots Q R ad w x.handlerPc lv [.ref q]) : XT D lo p l e Rm s m args below meth c nL cells slots Q R ad w pc lv st E :=
  fun H locs ls ce q hP hD hS hl g1 g2 g3 => vx_catch F.2.2.2.1 pre x suf hsplit (fun z hz => by
    obtain ⟨z1, nm, z2, z3⟩ := hpass z hz
    exact Or.inr ⟨z1, nm, F.2.2.2.2.wm z2 rfl args, F.2.2.2.2.2.2.2.2.2.1 _ z3⟩) hx h0 (F.2.2.2.2.wm hlink rfl args) (F.2.2.2.2.any hcast (Or.inr rfl) args) g1 g2 g3 (kk q H locs ls hP hD hS hl)
end KTHROW
end
section
/-! What each role holds: 0 .. 12 of RoamLedger (0 the object, 1 steps, 2 prices, 3 network, 4 subscribers, 5 talks, 6 asked, 7 its carriers, 8 rates, 9 trusts, 10 debts, 11 weights) ; 12 .. 18 of the law (12 l, 13 c, 14 d, 15 t, 16 n, 17 k, 18 g); from 40 on a subscriber and its chain, two and two; from 80 on a talk, its route, the carriers, the charges, four and four. f holds a role's ints (fields by their slots), g its longs; q r 0 and q r 1 the caller and the called of the talk r. -/
def k_fx (cy : Nat → ClassId) (ad : Nat → Nat) (q : Nat → Nat → Nat) (ns nt : Nat) (f : Nat → Int32) (g : Nat → Int64) : List va_E := [
  Sum.inr (4, [.ref (ad 1), .ref (ad 2), .ref (ad 3), .ref (ad 4), .ref (ad 5), .ref (ad 6), .int (f 6), .int (f 7)]),
  Sum.inl (cy 0, (5, Sum.inl f)),
  Sum.inl (cy 0, (5, Sum.inl f)),
  Sum.inr (0, [.ref (ad 8), .ref (ad 9), .ref (ad 10), .ref (ad 11)]),
  Sum.inl (cy 3, (20, Sum.inr (Sum.inr (Sum.inr (Sum.inr (fun i => if i < ns then some (ad (40 + 2 * i)) else none)))))),
  Sum.inl (cy 4, (60, Sum.inr (Sum.inr (Sum.inr (Sum.inr (fun j => if j < nt then some (ad (80 + 4 * j)) else none)))))),
  Sum.inr (1, [.ref (ad 7), .int (f 1)]),
  Sum.inl (cy 0, (5, Sum.inl f)),
  Sum.inl (cy 0, (25, Sum.inl f)),
  Sum.inl (cy 0, (25, Sum.inl f)),
  Sum.inl (cy 1, (25, Sum.inr (Sum.inl g))),
  Sum.inl (cy 0, (5, Sum.inl f)),
  Sum.inl (cy 0, (50, Sum.inl f)),
  Sum.inl (cy 1, (25, Sum.inr (Sum.inl g))),
  Sum.inl (cy 1, (25, Sum.inr (Sum.inl g))),
  Sum.inl (cy 0, (10, Sum.inl f)),
  Sum.inl (cy 0, (32, Sum.inl f)),
  Sum.inl (cy 0, (56, Sum.inl f)),
  Sum.inl (cy 0, (2, Sum.inl f))]
def k_sh (cy : Nat → ClassId) (ad : Nat → Nat) (q : Nat → Nat → Nat) (ns nt : Nat) (r : Nat) (f : Nat → Int32) (g : Nat → Int64) : va_E :=
  if r < 40 then (k_fx cy ad q ns nt f g).getD r (Sum.inr (6, [])) else if r < 80 then (if r % 2 = 0 then Sum.inr (2, [.ref (ad (r + 1)), .int (f 1), .int (f 2), .int (f 3)]) else Sum.inl (cy 0, (10, Sum.inl f)))
  else if r % 4 = 0 then Sum.inr (3, [.ref (ad (40 + 2 * q r 0)), .ref (ad (40 + 2 * q r 1)), .int (f 2), .int (f 3), .ref (ad (r + 1)), .ref (ad (r + 3)), .int (f 6), .int (f 7), .int (f 8)]) else if r % 4 = 1 then Sum.inr (1, [.ref (ad (r + 1)), .int (f 1)]) else if r % 4 = 2 then Sum.inl (cy 0, (5, Sum.inl f)) else Sum.inl (cy 1, (25, Sum.inr (Sum.inl g)))
def k_c (cy : Nat → ClassId) (ad : Nat → Nat) (q : Nat → Nat → Nat) (ns nt : Nat) (I : Nat → Nat → Int32) (J : Nat → Nat → Int64) : Nat → va_E := fun r => k_sh cy ad q ns nt r (I r) (J r)
section KSHAPE
variable {cy : Nat → ClassId} {ad : Nat → Nat} {q : Nat → Nat → Nat} {ns nt : Nat} {I : Nat → Nat → Int32} {J : Nat → Nat → Int64} {r : Nat}
theorem ss_0 (f : Nat → Int32) (g : Nat → Int64) : k_sh cy ad q ns nt 0 f g = Sum.inr (4, [.ref (ad 1), .ref (ad 2), .ref (ad 3), .ref (ad 4), .ref (ad 5), .ref (ad 6), .int (f 6), .int (f 7)]) := rfl
theorem ss_1 (f : Nat → Int32) (g : Nat → Int64) : k_sh cy ad q ns nt 1 f g = Sum.inl (cy 0, (5, Sum.inl f)) := rfl
theorem ss_2 (f : Nat → Int32) (g : Nat → Int64) : k_sh cy ad q ns nt 2 f g = Sum.inl (cy 0, (5, Sum.inl f)) := rfl
theorem ss_3 (f : Nat → Int32) (g : Nat → Int64) : k_sh cy ad q ns nt 3 f g = Sum.inr (0, [.ref (ad 8), .ref (ad 9), .ref (ad 10), .ref (ad 11)]) := rfl
theorem ss_4 (f : Nat → Int32) (g : Nat → Int64) : k_sh cy ad q ns nt 4 f g = Sum.inl (cy 3, (20, Sum.inr (Sum.inr (Sum.inr (Sum.inr (fun i => if i < ns then some (ad (40 + 2 * i)) else none)))))) := rfl
theorem ss_5 (f : Nat → Int32) (g : Nat → Int64) : k_sh cy ad q ns nt 5 f g = Sum.inl (cy 4, (60, Sum.inr (Sum.inr (Sum.inr (Sum.inr (fun j => if j < nt then some (ad (80 + 4 * j)) else none)))))) := rfl
theorem ss_6 (f : Nat → Int32) (g : Nat → Int64) : k_sh cy ad q ns nt 6 f g = Sum.inr (1, [.ref (ad 7), .int (f 1)]) := rfl
theorem ss_7 (f : Nat → Int32) (g : Nat → Int64) : k_sh cy ad q ns nt 7 f g = Sum.inl (cy 0, (5, Sum.inl f)) := rfl
theorem ss_8 (f : Nat → Int32) (g : Nat → Int64) : k_sh cy ad q ns nt 8 f g = Sum.inl (cy 0, (25, Sum.inl f)) := rfl
theorem ss_9 (f : Nat → Int32) (g : Nat → Int64) : k_sh cy ad q ns nt 9 f g = Sum.inl (cy 0, (25, Sum.inl f)) := rfl
theorem ss_10 (f : Nat → Int32) (g : Nat → Int64) : k_sh cy ad q ns nt 10 f g = Sum.inl (cy 1, (25, Sum.inr (Sum.inl g))) := rfl
theorem ss_11 (f : Nat → Int32) (g : Nat → Int64) : k_sh cy ad q ns nt 11 f g = Sum.inl (cy 0, (5, Sum.inl f)) := rfl
theorem ss_12 (f : Nat → Int32) (g : Nat → Int64) : k_sh cy ad q ns nt 12 f g = Sum.inl (cy 0, (50, Sum.inl f)) := rfl
theorem ss_13 (f : Nat → Int32) (g : Nat → Int64) : k_sh cy ad q ns nt 13 f g = Sum.inl (cy 1, (25, Sum.inr (Sum.inl g))) := rfl
theorem ss_14 (f : Nat → Int32) (g : Nat → Int64) : k_sh cy ad q ns nt 14 f g = Sum.inl (cy 1, (25, Sum.inr (Sum.inl g))) := rfl
theorem ss_15 (f : Nat → Int32) (g : Nat → Int64) : k_sh cy ad q ns nt 15 f g = Sum.inl (cy 0, (10, Sum.inl f)) := rfl
theorem ss_16 (f : Nat → Int32) (g : Nat → Int64) : k_sh cy ad q ns nt 16 f g = Sum.inl (cy 0, (32, Sum.inl f)) := rfl
theorem ss_17 (f : Nat → Int32) (g : Nat → Int64) : k_sh cy ad q ns nt 17 f g = Sum.inl (cy 0, (56, Sum.inl f)) := rfl
theorem ss_18 (f : Nat → Int32) (g : Nat → Int64) : k_sh cy ad q ns nt 18 f g = Sum.inl (cy 0, (2, Sum.inl f)) := rfl
theorem sc_0 : k_c cy ad q ns nt I J 0 = Sum.inr (4, [.ref (ad 1), .ref (ad 2), .ref (ad 3), .ref (ad 4), .ref (ad 5), .ref (ad 6), .int (I 0 6), .int (I 0 7)]) := rfl
theorem sc_1 : k_c cy ad q ns nt I J 1 = Sum.inl (cy 0, (5, Sum.inl (I 1))) := rfl
theorem sc_2 : k_c cy ad q ns nt I J 2 = Sum.inl (cy 0, (5, Sum.inl (I 2))) := rfl
theorem sc_3 : k_c cy ad q ns nt I J 3 = Sum.inr (0, [.ref (ad 8), .ref (ad 9), .ref (ad 10), .ref (ad 11)]) := rfl
theorem sc_4 : k_c cy ad q ns nt I J 4 = Sum.inl (cy 3, (20, Sum.inr (Sum.inr (Sum.inr (Sum.inr (fun i => if i < ns then some (ad (40 + 2 * i)) else none)))))) := rfl
theorem sc_5 : k_c cy ad q ns nt I J 5 = Sum.inl (cy 4, (60, Sum.inr (Sum.inr (Sum.inr (Sum.inr (fun j => if j < nt then some (ad (80 + 4 * j)) else none)))))) := rfl
theorem sc_6 : k_c cy ad q ns nt I J 6 = Sum.inr (1, [.ref (ad 7), .int (I 6 1)]) := rfl
theorem sc_7 : k_c cy ad q ns nt I J 7 = Sum.inl (cy 0, (5, Sum.inl (I 7))) := rfl
theorem sc_8 : k_c cy ad q ns nt I J 8 = Sum.inl (cy 0, (25, Sum.inl (I 8))) := rfl
theorem sc_9 : k_c cy ad q ns nt I J 9 = Sum.inl (cy 0, (25, Sum.inl (I 9))) := rfl
theorem sc_10 : k_c cy ad q ns nt I J 10 = Sum.inl (cy 1, (25, Sum.inr (Sum.inl (J 10)))) := rfl
theorem sc_11 : k_c cy ad q ns nt I J 11 = Sum.inl (cy 0, (5, Sum.inl (I 11))) := rfl
theorem sc_12 : k_c cy ad q ns nt I J 12 = Sum.inl (cy 0, (50, Sum.inl (I 12))) := rfl
theorem sc_13 : k_c cy ad q ns nt I J 13 = Sum.inl (cy 1, (25, Sum.inr (Sum.inl (J 13)))) := rfl
theorem sc_14 : k_c cy ad q ns nt I J 14 = Sum.inl (cy 1, (25, Sum.inr (Sum.inl (J 14)))) := rfl
theorem sc_15 : k_c cy ad q ns nt I J 15 = Sum.inl (cy 0, (10, Sum.inl (I 15))) := rfl
theorem sc_16 : k_c cy ad q ns nt I J 16 = Sum.inl (cy 0, (32, Sum.inl (I 16))) := rfl
theorem sc_17 : k_c cy ad q ns nt I J 17 = Sum.inl (cy 0, (56, Sum.inl (I 17))) := rfl
theorem sc_18 : k_c cy ad q ns nt I J 18 = Sum.inl (cy 0, (2, Sum.inl (I 18))) := rfl
theorem ss_sub (h : 40 ≤ r ∧ r < 80 ∧ r % 2 = 0) (f : Nat → Int32) (g : Nat → Int64) : k_sh cy ad q ns nt r f g = Sum.inr (2, [.ref (ad (r + 1)), .int (f 1), .int (f 2), .int (f 3)]) := by
  rw [k_sh, if_neg (by omega), if_pos (by omega), if_pos (by omega)]
theorem sc_sub (h : 40 ≤ r ∧ r < 80 ∧ r % 2 = 0) : k_c cy ad q ns nt I J r = Sum.inr (2, [.ref (ad (r + 1)), .int (I r 1), .int (I r 2), .int (I r 3)]) := ss_sub h _ _
theorem ss_chn (h : 40 ≤ r ∧ r < 80 ∧ r % 2 = 0) (f : Nat → Int32) (g : Nat → Int64) : k_sh cy ad q ns nt (r + 1) f g = Sum.inl (cy 0, (10, Sum.inl f)) := by
  rw [k_sh, if_neg (by omega), if_pos (by omega), if_neg (by omega)]
theorem sc_chn (h : 40 ≤ r ∧ r < 80 ∧ r % 2 = 0) : k_c cy ad q ns nt I J (r + 1) = Sum.inl (cy 0, (10, Sum.inl (I (r + 1)))) := ss_chn h _ _
theorem ss_tlk (h : 80 ≤ r ∧ r % 4 = 0) (f : Nat → Int32) (g : Nat → Int64) : k_sh cy ad q ns nt r f g = Sum.inr (3, [.ref (ad (40 + 2 * q r 0)), .ref (ad (40 + 2 * q r 1)), .int (f 2), .int (f 3), .ref (ad (r + 1)), .ref (ad (r + 3)), .int (f 6), .int (f 7), .int (f 8)]) := by
  rw [k_sh, if_neg (by omega), if_neg (by omega), if_pos (by omega)]
theorem sc_tlk (h : 80 ≤ r ∧ r % 4 = 0) : k_c cy ad q ns nt I J r = Sum.inr (3, [.ref (ad (40 + 2 * q r 0)), .ref (ad (40 + 2 * q r 1)), .int (I r 2), .int (I r 3), .ref (ad (r + 1)), .ref (ad (r + 3)), .int (I r 6), .int (I r 7), .int (I r 8)]) := ss_tlk h _ _
theorem ss_trt (h : 80 ≤ r ∧ r % 4 = 0) (f : Nat → Int32) (g : Nat → Int64) : k_sh cy ad q ns nt (r + 1) f g = Sum.inr (1, [.ref (ad (r + 2)), .int (f 1)]) := by
  rw [k_sh, if_neg (by omega), if_neg (by omega), if_neg (by omega), if_pos (by omega)]
theorem sc_trt (h : 80 ≤ r ∧ r % 4 = 0) : k_c cy ad q ns nt I J (r + 1) = Sum.inr (1, [.ref (ad (r + 2)), .int (I (r + 1) 1)]) := ss_trt h _ _
theorem ss_trc (h : 80 ≤ r ∧ r % 4 = 0) (f : Nat → Int32) (g : Nat → Int64) : k_sh cy ad q ns nt (r + 2) f g = Sum.inl (cy 0, (5, Sum.inl f)) := by
  rw [k_sh, if_neg (by omega), if_neg (by omega), if_neg (by omega), if_neg (by omega), if_pos (by omega)]
theorem sc_trc (h : 80 ≤ r ∧ r % 4 = 0) : k_c cy ad q ns nt I J (r + 2) = Sum.inl (cy 0, (5, Sum.inl (I (r + 2)))) := ss_trc h _ _
theorem ss_chg (h : 80 ≤ r ∧ r % 4 = 0) (f : Nat → Int32) (g : Nat → Int64) : k_sh cy ad q ns nt (r + 3) f g = Sum.inl (cy 1, (25, Sum.inr (Sum.inl g))) := by
  rw [k_sh, if_neg (by omega), if_neg (by omega), if_neg (by omega), if_neg (by omega), if_neg (by omega)]
theorem sc_chg (h : 80 ≤ r ∧ r % 4 = 0) : k_c cy ad q ns nt I J (r + 3) = Sum.inl (cy 1, (25, Sum.inr (Sum.inl (J (r + 3))))) := ss_chg h _ _
theorem ss_rte (h : r = 6 ∨ (80 ≤ r ∧ r % 4 = 1)) (f : Nat → Int32) (g : Nat → Int64) : k_sh cy ad q ns nt r f g = Sum.inr (1, [.ref (ad (r + 1)), .int (f 1)]) := by
  rcases h with rfl | ⟨h1, h2⟩
  · rfl
  · rw [k_sh, if_neg (by omega), if_neg (by omega)]
    rw [if_neg (by omega), if_pos h2]
theorem sc_rte (h : r = 6 ∨ (80 ≤ r ∧ r % 4 = 1)) : k_c cy ad q ns nt I J r = Sum.inr (1, [.ref (ad (r + 1)), .int (I r 1)]) := ss_rte h _ _
theorem ss_rtc (h : r = 6 ∨ (80 ≤ r ∧ r % 4 = 1)) (f : Nat → Int32) (g : Nat → Int64) : k_sh cy ad q ns nt (r + 1) f g = Sum.inl (cy 0, (5, Sum.inl f)) := by
  rcases h with rfl | ⟨h1, h2⟩
  · rfl
  · rw [k_sh, if_neg (by omega), if_neg (by omega)]
    rw [if_neg (by omega), if_neg (by omega), if_pos (by omega)]
theorem sc_rtc (h : r = 6 ∨ (80 ≤ r ∧ r % 4 = 1)) : k_c cy ad q ns nt I J (r + 1) = Sum.inl (cy 0, (5, Sum.inl (I (r + 1)))) := ss_rtc h _ _
theorem k_upI {e : va_E} (f : Nat → Int32) (h : e = k_sh cy ad q ns nt r f (J r)) : va_up (k_c cy ad q ns nt I J) r e = k_c cy ad q ns nt (va_up I r f) J := by
  funext x
  by_cases hx : x = r
  · subst hx
    simp [va_up, k_c, h]
  · simp [va_up, k_c, hx]
theorem k_upJ {e : va_E} (g : Nat → Int64) (h : e = k_sh cy ad q ns nt r (I r) g) : va_up (k_c cy ad q ns nt I J) r e = k_c cy ad q ns nt I (va_up J r g) := by
  funext x
  by_cases hx : x = r
  · subst hx
    simp [va_up, k_c, h]
  · simp [va_up, k_c, hx]
end KSHAPE
end
section
def wI (I : Nat → Nat → Int32) (r k : Nat) (x : Int32) : Nat → Nat → Int32 := va_up I r (upd (I r) k x)
def wJ (J : Nat → Nat → Int64) (r k : Nat) (x : Int64) : Nat → Nat → Int64 := va_up J r (vp_updL (J r) k x)
theorem wI_eq (I : Nat → Nat → Int32) (r k : Nat) (x : Int32) (r' k' : Nat) : wI I r k x r' k' = if r' = r ∧ k' = k then x else I r' k' := by
  unfold wI va_up
  by_cases h : r' = r
  · subst h
    by_cases h2 : k' = k <;> simp [upd, h2]
  · simp [h]
theorem wJ_eq (J : Nat → Nat → Int64) (r k : Nat) (x : Int64) (r' k' : Nat) : wJ J r k x r' k' = if r' = r ∧ k' = k then x else J r' k' := by
  unfold wJ va_up
  by_cases h : r' = r
  · subst h
    by_cases h2 : k' = k <;> simp [vp_updL, h2]
  · simp [h]
section KFIELDS
variable {D : va_G} {cy : Nat → ClassId} {lo : Nat} {p : Program} {l : Launch} {e : Env} {Rm : Room} {s : State} {m : MethodId} {args : Array Value} {below : List Frame} {meth : Method} {c : Code} {cc : ByteArray} {nL cells slots : Nat} {Q : State → Prop} {own : String} {R : List Nat} {ad : Nat → Nat} {w : Nat → va_E} {pc : Nat} {lv : List (Nat × Value)} {st : List Value}
variable {q : Nat → Nat → Nat} {ns nt r : Nat} {I : Nat → Nat → Int32} {J : Nat → Nat → Int64}
set_option maxRecDepth 100000 in
theorem k_in0 : ∀ x ∈ u_ws RX0 TX0 4, x ∈ lw_tbl ∧ goodWord x = true := by decide +kernel
theorem k_hin0 (F : k_F p m c cc nL s own D cy lo) : ∀ x ∈ u_ws RX0 TX0 4, x.before args s = true := fun x hx => F.2.2.2.2.wm (k_in0 x hx).1 (k_in0 x hx).2 args
set_option maxRecDepth 100000 in
theorem k_in1 : ∀ x ∈ u_ws RX1 TX1 2, x ∈ lw_tbl ∧ goodWord x = true := by decide +kernel
theorem k_hin1 (F : k_F p m c cc nL s own D cy lo) : ∀ x ∈ u_ws RX1 TX1 2, x.before args s = true := fun x hx => F.2.2.2.2.wm (k_in1 x hx).1 (k_in1 x hx).2 args
set_option maxRecDepth 100000 in
theorem k_in2 : ∀ x ∈ u_ws RX2 TX2 4, x ∈ lw_tbl ∧ goodWord x = true := by decide +kernel
theorem k_hin2 (F : k_F p m c cc nL s own D cy lo) : ∀ x ∈ u_ws RX2 TX2 4, x.before args s = true := fun x hx => F.2.2.2.2.wm (k_in2 x hx).1 (k_in2 x hx).2 args
set_option maxRecDepth 100000 in
theorem k_in3 : ∀ x ∈ u_ws RX3 TX3 9, x ∈ lw_tbl ∧ goodWord x = true := by decide +kernel
theorem k_hin3 (F : k_F p m c cc nL s own D cy lo) : ∀ x ∈ u_ws RX3 TX3 9, x.before args s = true := fun x hx => F.2.2.2.2.wm (k_in3 x hx).1 (k_in3 x hx).2 args
set_option maxRecDepth 100000 in
theorem k_in4 : ∀ x ∈ u_ws RX4 TX4 8, x ∈ lw_tbl ∧ goodWord x = true := by decide +kernel
theorem k_hin4 (F : k_F p m c cc nL s own D cy lo) : ∀ x ∈ u_ws RX4 TX4 8, x.before args s = true := fun x hx => F.2.2.2.2.wm (k_in4 x hx).1 (k_in4 x hx).2 args
theorem y_iald (F : k_F p m c cc nL s own D cy lo) {n : Nat} {i : Int32} (hr : r ∈ R) (hs : ∀ (f : Nat → Int32) (g : Nat → Int64), k_sh cy ad q ns nt r f g = Sum.inl (cy 0, n, Sum.inl f)) (hin : vp_in i n) (hdg : decode cc pc = .ok (.iaload, 1)) (kk : XW D lo p l e Rm s m args below meth c nL cells slots Q R ad (k_c cy ad q ns nt I J) (pc + 1) lv (.int (I r i.toNatClampNeg) :: st)) : XW D lo p l e Rm s m args below meth c nL cells slots Q R ad (k_c cy ad q ns nt I J) pc lv (.int i :: .ref (ad r) :: st) := x_iald F hr (hs (I r) (J r)) hin hdg kk
theorem y_lald (F : k_F p m c cc nL s own D cy lo) {n : Nat} {i : Int32} (hr : r ∈ R) (hs : ∀ (f : Nat → Int32) (g : Nat → Int64), k_sh cy ad q ns nt r f g = Sum.inl (cy 1, n, Sum.inr (Sum.inl g))) (hin : vp_in i n) (hdg : decode cc pc = .ok (.laload, 1)) (kk : XW D lo p l e Rm s m args below meth c nL cells slots Q R ad (k_c cy ad q ns nt I J) (pc + 1) lv (.long (J r i.toNatClampNeg) :: st)) : XW D lo p l e Rm s m args below meth c nL cells slots Q R ad (k_c cy ad q ns nt I J) pc lv (.int i :: .ref (ad r) :: st) := x_lald F hr (hs (I r) (J r)) hin hdg kk
theorem y_iast (F : k_F p m c cc nL s own D cy lo) {n : Nat} {i x : Int32} (hr : r ∈ R) (hs : ∀ (f : Nat → Int32) (g : Nat → Int64), k_sh cy ad q ns nt r f g = Sum.inl (cy 0, n, Sum.inl f)) (hin : vp_in i n) (hdg : decode cc pc = .ok (.iastore, 1)) (kk : XW D lo p l e Rm s m args below meth c nL cells slots Q R ad (k_c cy ad q ns nt (wI I r i.toNatClampNeg x) J) (pc + 1) lv (st)) : XW D lo p l e Rm s m args below meth c nL cells slots Q R ad (k_c cy ad q ns nt I J) pc lv (.int x :: .int i :: .ref (ad r) :: st) := x_iast F hr (hs (I r) (J r)) hin hdg (x_world (k_upI _ (hs _ _).symm) kk)
theorem y_last (F : k_F p m c cc nL s own D cy lo) {n : Nat} {i : Int32} {x : Int64} (hr : r ∈ R) (hs : ∀ (f : Nat → Int32) (g : Nat → Int64), k_sh cy ad q ns nt r f g = Sum.inl (cy 1, n, Sum.inr (Sum.inl g))) (hin : vp_in i n) (hdg : decode cc pc = .ok (.lastore, 1)) (kk : XW D lo p l e Rm s m args below meth c nL cells slots Q R ad (k_c cy ad q ns nt I (wJ J r i.toNatClampNeg x)) (pc + 1) lv (st)) : XW D lo p l e Rm s m args below meth c nL cells slots Q R ad (k_c cy ad q ns nt I J) pc lv (.long x :: .int i :: .ref (ad r) :: st) := x_last F hr (hs (I r) (J r)) hin hdg (x_world (k_upJ _ (hs _ _).symm) kk)
theorem y_aldS (F : k_F p m c cc nL s own D cy lo) {n : Nat} {i : Int32} {h : Nat → Option Nat} (hr : r ∈ R) (hs : k_sh cy ad q ns nt r (I r) (J r) = Sum.inl (cy 3, n, Sum.inr (Sum.inr (Sum.inr (Sum.inr h))))) (hin : vp_in i n) (hdg : decode cc pc = .ok (.aaload, 1)) (kk : XW D lo p l e Rm s m args below meth c nL cells slots Q R ad (k_c cy ad q ns nt I J) (pc + 1) lv (va_rf (h i.toNatClampNeg) :: st)) : XW D lo p l e Rm s m args below meth c nL cells slots Q R ad (k_c cy ad q ns nt I J) pc lv (.int i :: .ref (ad r) :: st) := x_aldS F hr hs hin hdg kk
theorem y_aldT (F : k_F p m c cc nL s own D cy lo) {n : Nat} {i : Int32} {h : Nat → Option Nat} (hr : r ∈ R) (hs : k_sh cy ad q ns nt r (I r) (J r) = Sum.inl (cy 4, n, Sum.inr (Sum.inr (Sum.inr (Sum.inr h))))) (hin : vp_in i n) (hdg : decode cc pc = .ok (.aaload, 1)) (kk : XW D lo p l e Rm s m args below meth c nL cells slots Q R ad (k_c cy ad q ns nt I J) (pc + 1) lv (va_rf (h i.toNatClampNeg) :: st)) : XW D lo p l e Rm s m args below meth c nL cells slots Q R ad (k_c cy ad q ns nt I J) pc lv (.int i :: .ref (ad r) :: st) := x_aldT F hr hs hin hdg kk
set_option maxRecDepth 100000 in
theorem g_X0_9 (F : k_F p m c cc nL s RX0 D cy lo) {fs : List Value} {v : Value} (hr : r ∈ R) (hw : w r = .inr (0, fs)) (hv : fs[0]? = some v) (hdg : decode cc pc = .ok (.getfield 9, 3)) (kk : XW D lo p l e Rm s m args below meth c nL cells slots Q R ad w (pc + 3) lv (v :: st)) : XW D lo p l e Rm s m args below meth c nL cells slots Q R ad w pc lv (.ref (ad r) :: st) := x_get F (T := TX0) (N := 4) hr hw rfl (k_hin0 F) 0 (by decide) (F.2.2.2.2.word 40 (by decide +kernel) rfl args) rfl hv hdg kk
set_option maxRecDepth 100000 in
theorem g_X0_15 (F : k_F p m c cc nL s RX0 D cy lo) {fs : List Value} {v : Value} (hr : r ∈ R) (hw : w r = .inr (0, fs)) (hv : fs[1]? = some v) (hdg : decode cc pc = .ok (.getfield 15, 3)) (kk : XW D lo p l e Rm s m args below meth c nL cells slots Q R ad w (pc + 3) lv (v :: st)) : XW D lo p l e Rm s m args below meth c nL cells slots Q R ad w pc lv (.ref (ad r) :: st) := x_get F (T := TX0) (N := 4) hr hw rfl (k_hin0 F) 1 (by decide) (F.2.2.2.2.word 41 (by decide +kernel) rfl args) rfl hv hdg kk
set_option maxRecDepth 100000 in
theorem g_X0_18 (F : k_F p m c cc nL s RX0 D cy lo) {fs : List Value} {v : Value} (hr : r ∈ R) (hw : w r = .inr (0, fs)) (hv : fs[2]? = some v) (hdg : decode cc pc = .ok (.getfield 18, 3)) (kk : XW D lo p l e Rm s m args below meth c nL cells slots Q R ad w (pc + 3) lv (v :: st)) : XW D lo p l e Rm s m args below meth c nL cells slots Q R ad w pc lv (.ref (ad r) :: st) := x_get F (T := TX0) (N := 4) hr hw rfl (k_hin0 F) 2 (by decide) (F.2.2.2.2.word 42 (by decide +kernel) rfl args) rfl hv hdg kk
set_option maxRecDepth 100000 in
theorem g_X0_22 (F : k_F p m c cc nL s RX0 D cy lo) {fs : List Value} {v : Value} (hr : r ∈ R) (hw : w r = .inr (0, fs)) (hv : fs[3]? = some v) (hdg : decode cc pc = .ok (.getfield 22, 3)) (kk : XW D lo p l e Rm s m args below meth c nL cells slots Q R ad w (pc + 3) lv (v :: st)) : XW D lo p l e Rm s m args below meth c nL cells slots Q R ad w pc lv (.ref (ad r) :: st) := x_get F (T := TX0) (N := 4) hr hw rfl (k_hin0 F) 3 (by decide) (F.2.2.2.2.word 43 (by decide +kernel) rfl args) rfl hv hdg kk
set_option maxRecDepth 100000 in
theorem g_X1_9 (F : k_F p m c cc nL s RX1 D cy lo) {fs : List Value} {v : Value} (hr : r ∈ R) (hw : w r = .inr (1, fs)) (hv : fs[0]? = some v) (hdg : decode cc pc = .ok (.getfield 9, 3)) (kk : XW D lo p l e Rm s m args below meth c nL cells slots Q R ad w (pc + 3) lv (v :: st)) : XW D lo p l e Rm s m args below meth c nL cells slots Q R ad w pc lv (.ref (ad r) :: st) := x_get F (T := TX1) (N := 2) hr hw rfl (k_hin1 F) 0 (by decide) (F.2.2.2.2.word 65 (by decide +kernel) rfl args) rfl hv hdg kk
set_option maxRecDepth 100000 in
theorem g_X1_15 (F : k_F p m c cc nL s RX1 D cy lo) {fs : List Value} {v : Value} (hr : r ∈ R) (hw : w r = .inr (1, fs)) (hv : fs[1]? = some v) (hdg : decode cc pc = .ok (.getfield 15, 3)) (kk : XW D lo p l e Rm s m args below meth c nL cells slots Q R ad w (pc + 3) lv (v :: st)) : XW D lo p l e Rm s m args below meth c nL cells slots Q R ad w pc lv (.ref (ad r) :: st) := x_get F (T := TX1) (N := 2) hr hw rfl (k_hin1 F) 1 (by decide) (F.2.2.2.2.word 66 (by decide +kernel) rfl args) rfl hv hdg kk
set_option maxRecDepth 100000 in
theorem p_X1_15 (F : k_F p m c cc nL s RX1 D cy lo) {a0 : Value} {v : Int32} (hr : r ∈ R) (hs : ∀ (f : Nat → Int32) (g : Nat → Int64), k_sh cy ad q ns nt r f g = Sum.inr (1, [a0, .int (f 1)])) (hdg : decode cc pc = .ok (.putfield 15, 3)) (kk : XW D lo p l e Rm s m args below meth c nL cells slots Q R ad (k_c cy ad q ns nt (wI I r 1 v) J) (pc + 3) lv (st)) : XW D lo p l e Rm s m args below meth c nL cells slots Q R ad (k_c cy ad q ns nt I J) pc lv (.int v :: .ref (ad r) :: st) := x_put F (T := TX1) (N := 2) (ty := .int) tyX1 tyX1_ok nmX1 hr (hs (I r) (J r)) rfl (k_hin1 F) 1 (by decide) (F.2.2.2.2.word 66 (by decide +kernel) rfl args) rfl rfl (by decide +kernel) rfl rfl (Nat.le_of_ble_eq_true rfl) hdg (x_world (k_upI (upd (I r) 1 v) (hs (upd (I r) 1 v) (J r)).symm) kk)
set_option maxRecDepth 100000 in
theorem g_X0_35 (F : k_F p m c cc nL s RX0 D cy lo) {fs : List Value} {v : Value} (hr : r ∈ R) (hw : w r = .inr (1, fs)) (hv : fs[1]? = some v) (hdg : decode cc pc = .ok (.getfield 35, 3)) (kk : XW D lo p l e Rm s m args below meth c nL cells slots Q R ad w (pc + 3) lv (v :: st)) : XW D lo p l e Rm s m args below meth c nL cells slots Q R ad w pc lv (.ref (ad r) :: st) := x_getN F (T := TX1) (N := 2) hr hw rfl (k_hin1 F) 1 (by decide) (F.2.2.2.2.nestF (t := RX4) 67 (by decide +kernel) args) rfl hv hdg kk
set_option maxRecDepth 100000 in
theorem p_X0_35 (F : k_F p m c cc nL s RX0 D cy lo) {a0 : Value} {v : Int32} (hr : r ∈ R) (hs : ∀ (f : Nat → Int32) (g : Nat → Int64), k_sh cy ad q ns nt r f g = Sum.inr (1, [a0, .int (f 1)])) (hdg : decode cc pc = .ok (.putfield 35, 3)) (kk : XW D lo p l e Rm s m args below meth c nL cells slots Q R ad (k_c cy ad q ns nt (wI I r 1 v) J) (pc + 3) lv (st)) : XW D lo p l e Rm s m args below meth c nL cells slots Q R ad (k_c cy ad q ns nt I J) pc lv (.int v :: .ref (ad r) :: st) := x_putN F (T := TX1) (N := 2) (ty := .int) tyX1 tyX1_ok nmX1 hr (hs (I r) (J r)) rfl (k_hin1 F) 1 (by decide) (F.2.2.2.2.nestF (t := RX4) 67 (by decide +kernel) args) rfl rfl (by decide +kernel) rfl rfl (Nat.le_of_ble_eq_true rfl) hdg (x_world (k_upI (upd (I r) 1 v) (hs (upd (I r) 1 v) (J r)).symm) kk)
set_option maxRecDepth 100000 in
theorem g_X4_233 (F : k_F p m c cc nL s RX4 D cy lo) {fs : List Value} {v : Value} (hr : r ∈ R) (hw : w r = .inr (1, fs)) (hv : fs[1]? = some v) (hdg : decode cc pc = .ok (.getfield 233, 3)) (kk : XW D lo p l e Rm s m args below meth c nL cells slots Q R ad w (pc + 3) lv (v :: st)) : XW D lo p l e Rm s m args below meth c nL cells slots Q R ad w pc lv (.ref (ad r) :: st) := x_getN F (T := TX1) (N := 2) hr hw rfl (k_hin1 F) 1 (by decide) (F.2.2.2.2.nestF (t := RX4) 68 (by decide +kernel) args) rfl hv hdg kk
set_option maxRecDepth 100000 in
theorem p_X4_233 (F : k_F p m c cc nL s RX4 D cy lo) {a0 : Value} {v : Int32} (hr : r ∈ R) (hs : ∀ (f : Nat → Int32) (g : Nat → Int64), k_sh cy ad q ns nt r f g = Sum.inr (1, [a0, .int (f 1)])) (hdg : decode cc pc = .ok (.putfield 233, 3)) (kk : XW D lo p l e Rm s m args below meth c nL cells slots Q R ad (k_c cy ad q ns nt (wI I r 1 v) J) (pc + 3) lv (st)) : XW D lo p l e Rm s m args below meth c nL cells slots Q R ad (k_c cy ad q ns nt I J) pc lv (.int v :: .ref (ad r) :: st) := x_putN F (T := TX1) (N := 2) (ty := .int) tyX1 tyX1_ok nmX1 hr (hs (I r) (J r)) rfl (k_hin1 F) 1 (by decide) (F.2.2.2.2.nestF (t := RX4) 68 (by decide +kernel) args) rfl rfl (by decide +kernel) rfl rfl (Nat.le_of_ble_eq_true rfl) hdg (x_world (k_upI (upd (I r) 1 v) (hs (upd (I r) 1 v) (J r)).symm) kk)
set_option maxRecDepth 100000 in
theorem g_X4_9 (F : k_F p m c cc nL s RX4 D cy lo) {fs : List Value} {v : Value} (hr : r ∈ R) (hw : w r = .inr (4, fs)) (hv : fs[0]? = some v) (hdg : decode cc pc = .ok (.getfield 9, 3)) (kk : XW D lo p l e Rm s m args below meth c nL cells slots Q R ad w (pc + 3) lv (v :: st)) : XW D lo p l e Rm s m args below meth c nL cells slots Q R ad w pc lv (.ref (ad r) :: st) := x_get F (T := TX4) (N := 8) hr hw rfl (k_hin4 F) 0 (by decide) (F.2.2.2.2.word 75 (by decide +kernel) rfl args) rfl hv hdg kk
set_option maxRecDepth 100000 in
theorem g_X4_13 (F : k_F p m c cc nL s RX4 D cy lo) {fs : List Value} {v : Value} (hr : r ∈ R) (hw : w r = .inr (4, fs)) (hv : fs[1]? = some v) (hdg : decode cc pc = .ok (.getfield 13, 3)) (kk : XW D lo p l e Rm s m args below meth c nL cells slots Q R ad w (pc + 3) lv (v :: st)) : XW D lo p l e Rm s m args below meth c nL cells slots Q R ad w pc lv (.ref (ad r) :: st) := x_get F (T := TX4) (N := 8) hr hw rfl (k_hin4 F) 1 (by decide) (F.2.2.2.2.word 76 (by decide +kernel) rfl args) rfl hv hdg kk
set_option maxRecDepth 100000 in
theorem g_X4_19 (F : k_F p m c cc nL s RX4 D cy lo) {fs : List Value} {v : Value} (hr : r ∈ R) (hw : w r = .inr (4, fs)) (hv : fs[2]? = some v) (hdg : decode cc pc = .ok (.getfield 19, 3)) (kk : XW D lo p l e Rm s m args below meth c nL cells slots Q R ad w (pc + 3) lv (v :: st)) : XW D lo p l e Rm s m args below meth c nL cells slots Q R ad w pc lv (.ref (ad r) :: st) := x_get F (T := TX4) (N := 8) hr hw rfl (k_hin4 F) 2 (by decide) (F.2.2.2.2.word 77 (by decide +kernel) rfl args) rfl hv hdg kk
set_option maxRecDepth 100000 in
theorem g_X4_25 (F : k_F p m c cc nL s RX4 D cy lo) {fs : List Value} {v : Value} (hr : r ∈ R) (hw : w r = .inr (4, fs)) (hv : fs[3]? = some v) (hdg : decode cc pc = .ok (.getfield 25, 3)) (kk : XW D lo p l e Rm s m args below meth c nL cells slots Q R ad w (pc + 3) lv (v :: st)) : XW D lo p l e Rm s m args below meth c nL cells slots Q R ad w pc lv (.ref (ad r) :: st) := x_get F (T := TX4) (N := 8) hr hw rfl (k_hin4 F) 3 (by decide) (F.2.2.2.2.word 78 (by decide +kernel) rfl args) rfl hv hdg kk
set_option maxRecDepth 100000 in
theorem g_X4_31 (F : k_F p m c cc nL s RX4 D cy lo) {fs : List Value} {v : Value} (hr : r ∈ R) (hw : w r = .inr (4, fs)) (hv : fs[4]? = some v) (hdg : decode cc pc = .ok (.getfield 31, 3)) (kk : XW D lo p l e Rm s m args below meth c nL cells slots Q R ad w (pc + 3) lv (v :: st)) : XW D lo p l e Rm s m args below meth c nL cells slots Q R ad w pc lv (.ref (ad r) :: st) := x_get F (T := TX4) (N := 8) hr hw rfl (k_hin4 F) 4 (by decide) (F.2.2.2.2.word 79 (by decide +kernel) rfl args) rfl hv hdg kk
set_option maxRecDepth 100000 in
theorem g_X4_38 (F : k_F p m c cc nL s RX4 D cy lo) {fs : List Value} {v : Value} (hr : r ∈ R) (hw : w r = .inr (4, fs)) (hv : fs[5]? = some v) (hdg : decode cc pc = .ok (.getfield 38, 3)) (kk : XW D lo p l e Rm s m args below meth c nL cells slots Q R ad w (pc + 3) lv (v :: st)) : XW D lo p l e Rm s m args below meth c nL cells slots Q R ad w pc lv (.ref (ad r) :: st) := x_get F (T := TX4) (N := 8) hr hw rfl (k_hin4 F) 5 (by decide) (F.2.2.2.2.word 80 (by decide +kernel) rfl args) rfl hv hdg kk
set_option maxRecDepth 100000 in
theorem g_X4_83 (F : k_F p m c cc nL s RX4 D cy lo) {fs : List Value} {v : Value} (hr : r ∈ R) (hw : w r = .inr (4, fs)) (hv : fs[6]? = some v) (hdg : decode cc pc = .ok (.getfield 83, 3)) (kk : XW D lo p l e Rm s m args below meth c nL cells slots Q R ad w (pc + 3) lv (v :: st)) : XW D lo p l e Rm s m args below meth c nL cells slots Q R ad w pc lv (.ref (ad r) :: st) := x_get F (T := TX4) (N := 8) hr hw rfl (k_hin4 F) 6 (by decide) (F.2.2.2.2.word 81 (by decide +kernel) rfl args) rfl hv hdg kk
set_option maxRecDepth 100000 in
theorem p_X4_83 (F : k_F p m c cc nL s RX4 D cy lo) {a0 a1 a2 a3 a4 a5 : Value} {v : Int32} (hr : r ∈ R) (hs : ∀ (f : Nat → Int32) (g : Nat → Int64), k_sh cy ad q ns nt r f g = Sum.inr (4, [a0, a1, a2, a3, a4, a5, .int (f 6), .int (f 7)])) (hdg : decode cc pc = .ok (.putfield 83, 3)) (kk : XW D lo p l e Rm s m args below meth c nL cells slots Q R ad (k_c cy ad q ns nt (wI I r 6 v) J) (pc + 3) lv (st)) : XW D lo p l e Rm s m args below meth c nL cells slots Q R ad (k_c cy ad q ns nt I J) pc lv (.int v :: .ref (ad r) :: st) := x_put F (T := TX4) (N := 8) (ty := .int) tyX4 tyX4_ok nmX4 hr (hs (I r) (J r)) rfl (k_hin4 F) 6 (by decide) (F.2.2.2.2.word 81 (by decide +kernel) rfl args) rfl rfl (by decide +kernel) rfl rfl (Nat.le_of_ble_eq_true rfl) hdg (x_world (k_upI (upd (I r) 6 v) (hs (upd (I r) 6 v) (J r)).symm) kk)
set_option maxRecDepth 100000 in
theorem g_X4_133 (F : k_F p m c cc nL s RX4 D cy lo) {fs : List Value} {v : Value} (hr : r ∈ R) (hw : w r = .inr (4, fs)) (hv : fs[7]? = some v) (hdg : decode cc pc = .ok (.getfield 133, 3)) (kk : XW D lo p l e Rm s m args below meth c nL cells slots Q R ad w (pc + 3) lv (v :: st)) : XW D lo p l e Rm s m args below meth c nL cells slots Q R ad w pc lv (.ref (ad r) :: st) := x_get F (T := TX4) (N := 8) hr hw rfl (k_hin4 F) 7 (by decide) (F.2.2.2.2.word 82 (by decide +kernel) rfl args) rfl hv hdg kk
set_option maxRecDepth 100000 in
theorem p_X4_133 (F : k_F p m c cc nL s RX4 D cy lo) {a0 a1 a2 a3 a4 a5 : Value} {v : Int32} (hr : r ∈ R) (hs : ∀ (f : Nat → Int32) (g : Nat → Int64), k_sh cy ad q ns nt r f g = Sum.inr (4, [a0, a1, a2, a3, a4, a5, .int (f 6), .int (f 7)])) (hdg : decode cc pc = .ok (.putfield 133, 3)) (kk : XW D lo p l e Rm s m args below meth c nL cells slots Q R ad (k_c cy ad q ns nt (wI I r 7 v) J) (pc + 3) lv (st)) : XW D lo p l e Rm s m args below meth c nL cells slots Q R ad (k_c cy ad q ns nt I J) pc lv (.int v :: .ref (ad r) :: st) := x_put F (T := TX4) (N := 8) (ty := .int) tyX4 tyX4_ok nmX4 hr (hs (I r) (J r)) rfl (k_hin4 F) 7 (by decide) (F.2.2.2.2.word 82 (by decide +kernel) rfl args) rfl rfl (by decide +kernel) rfl rfl (Nat.le_of_ble_eq_true rfl) hdg (x_world (k_upI (upd (I r) 7 v) (hs (upd (I r) 7 v) (J r)).symm) kk)
set_option maxRecDepth 100000 in
theorem g_X2_9 (F : k_F p m c cc nL s RX2 D cy lo) {fs : List Value} {v : Value} (hr : r ∈ R) (hw : w r = .inr (2, fs)) (hv : fs[0]? = some v) (hdg : decode cc pc = .ok (.getfield 9, 3)) (kk : XW D lo p l e Rm s m args below meth c nL cells slots Q R ad w (pc + 3) lv (v :: st)) : XW D lo p l e Rm s m args below meth c nL cells slots Q R ad w pc lv (.ref (ad r) :: st) := x_get F (T := TX2) (N := 4) hr hw rfl (k_hin2 F) 0 (by decide) (F.2.2.2.2.word 248 (by decide +kernel) rfl args) rfl hv hdg kk
set_option maxRecDepth 100000 in
theorem g_X2_15 (F : k_F p m c cc nL s RX2 D cy lo) {fs : List Value} {v : Value} (hr : r ∈ R) (hw : w r = .inr (2, fs)) (hv : fs[1]? = some v) (hdg : decode cc pc = .ok (.getfield 15, 3)) (kk : XW D lo p l e Rm s m args below meth c nL cells slots Q R ad w (pc + 3) lv (v :: st)) : XW D lo p l e Rm s m args below meth c nL cells slots Q R ad w pc lv (.ref (ad r) :: st) := x_get F (T := TX2) (N := 4) hr hw rfl (k_hin2 F) 1 (by decide) (F.2.2.2.2.word 249 (by decide +kernel) rfl args) rfl hv hdg kk
set_option maxRecDepth 100000 in
theorem p_X2_15 (F : k_F p m c cc nL s RX2 D cy lo) {a0 : Value} {v : Int32} (hr : r ∈ R) (hs : ∀ (f : Nat → Int32) (g : Nat → Int64), k_sh cy ad q ns nt r f g = Sum.inr (2, [a0, .int (f 1), .int (f 2), .int (f 3)])) (hdg : decode cc pc = .ok (.putfield 15, 3)) (kk : XW D lo p l e Rm s m args below meth c nL cells slots Q R ad (k_c cy ad q ns nt (wI I r 1 v) J) (pc + 3) lv (st)) : XW D lo p l e Rm s m args below meth c nL cells slots Q R ad (k_c cy ad q ns nt I J) pc lv (.int v :: .ref (ad r) :: st) := x_put F (T := TX2) (N := 4) (ty := .int) tyX2 tyX2_ok nmX2 hr (hs (I r) (J r)) rfl (k_hin2 F) 1 (by decide) (F.2.2.2.2.word 249 (by decide +kernel) rfl args) rfl rfl (by decide +kernel) rfl rfl (Nat.le_of_ble_eq_true rfl) hdg (x_world (k_upI (upd (I r) 1 v) (hs (upd (I r) 1 v) (J r)).symm) kk)
set_option maxRecDepth 100000 in
theorem g_X4_108 (F : k_F p m c cc nL s RX4 D cy lo) {fs : List Value} {v : Value} (hr : r ∈ R) (hw : w r = .inr (2, fs)) (hv : fs[1]? = some v) (hdg : decode cc pc = .ok (.getfield 108, 3)) (kk : XW D lo p l e Rm s m args below meth c nL cells slots Q R ad w (pc + 3) lv (v :: st)) : XW D lo p l e Rm s m args below meth c nL cells slots Q R ad w pc lv (.ref (ad r) :: st) := x_getN F (T := TX2) (N := 4) hr hw rfl (k_hin2 F) 1 (by decide) (F.2.2.2.2.nestF (t := RX4) 250 (by decide +kernel) args) rfl hv hdg kk
set_option maxRecDepth 100000 in
theorem p_X4_108 (F : k_F p m c cc nL s RX4 D cy lo) {a0 : Value} {v : Int32} (hr : r ∈ R) (hs : ∀ (f : Nat → Int32) (g : Nat → Int64), k_sh cy ad q ns nt r f g = Sum.inr (2, [a0, .int (f 1), .int (f 2), .int (f 3)])) (hdg : decode cc pc = .ok (.putfield 108, 3)) (kk : XW D lo p l e Rm s m args below meth c nL cells slots Q R ad (k_c cy ad q ns nt (wI I r 1 v) J) (pc + 3) lv (st)) : XW D lo p l e Rm s m args below meth c nL cells slots Q R ad (k_c cy ad q ns nt I J) pc lv (.int v :: .ref (ad r) :: st) := x_putN F (T := TX2) (N := 4) (ty := .int) tyX2 tyX2_ok nmX2 hr (hs (I r) (J r)) rfl (k_hin2 F) 1 (by decide) (F.2.2.2.2.nestF (t := RX4) 250 (by decide +kernel) args) rfl rfl (by decide +kernel) rfl rfl (Nat.le_of_ble_eq_true rfl) hdg (x_world (k_upI (upd (I r) 1 v) (hs (upd (I r) 1 v) (J r)).symm) kk)
set_option maxRecDepth 100000 in
theorem g_X2_19 (F : k_F p m c cc nL s RX2 D cy lo) {fs : List Value} {v : Value} (hr : r ∈ R) (hw : w r = .inr (2, fs)) (hv : fs[2]? = some v) (hdg : decode cc pc = .ok (.getfield 19, 3)) (kk : XW D lo p l e Rm s m args below meth c nL cells slots Q R ad w (pc + 3) lv (v :: st)) : XW D lo p l e Rm s m args below meth c nL cells slots Q R ad w pc lv (.ref (ad r) :: st) := x_get F (T := TX2) (N := 4) hr hw rfl (k_hin2 F) 2 (by decide) (F.2.2.2.2.word 251 (by decide +kernel) rfl args) rfl hv hdg kk
set_option maxRecDepth 100000 in
theorem p_X2_19 (F : k_F p m c cc nL s RX2 D cy lo) {a0 : Value} {v : Int32} (hr : r ∈ R) (hs : ∀ (f : Nat → Int32) (g : Nat → Int64), k_sh cy ad q ns nt r f g = Sum.inr (2, [a0, .int (f 1), .int (f 2), .int (f 3)])) (hdg : decode cc pc = .ok (.putfield 19, 3)) (kk : XW D lo p l e Rm s m args below meth c nL cells slots Q R ad (k_c cy ad q ns nt (wI I r 2 v) J) (pc + 3) lv (st)) : XW D lo p l e Rm s m args below meth c nL cells slots Q R ad (k_c cy ad q ns nt I J) pc lv (.int v :: .ref (ad r) :: st) := x_put F (T := TX2) (N := 4) (ty := .int) tyX2 tyX2_ok nmX2 hr (hs (I r) (J r)) rfl (k_hin2 F) 2 (by decide) (F.2.2.2.2.word 251 (by decide +kernel) rfl args) rfl rfl (by decide +kernel) rfl rfl (Nat.le_of_ble_eq_true rfl) hdg (x_world (k_upI (upd (I r) 2 v) (hs (upd (I r) 2 v) (J r)).symm) kk)
set_option maxRecDepth 100000 in
theorem g_X4_116 (F : k_F p m c cc nL s RX4 D cy lo) {fs : List Value} {v : Value} (hr : r ∈ R) (hw : w r = .inr (2, fs)) (hv : fs[2]? = some v) (hdg : decode cc pc = .ok (.getfield 116, 3)) (kk : XW D lo p l e Rm s m args below meth c nL cells slots Q R ad w (pc + 3) lv (v :: st)) : XW D lo p l e Rm s m args below meth c nL cells slots Q R ad w pc lv (.ref (ad r) :: st) := x_getN F (T := TX2) (N := 4) hr hw rfl (k_hin2 F) 2 (by decide) (F.2.2.2.2.nestF (t := RX4) 252 (by decide +kernel) args) rfl hv hdg kk
set_option maxRecDepth 100000 in
theorem p_X4_116 (F : k_F p m c cc nL s RX4 D cy lo) {a0 : Value} {v : Int32} (hr : r ∈ R) (hs : ∀ (f : Nat → Int32) (g : Nat → Int64), k_sh cy ad q ns nt r f g = Sum.inr (2, [a0, .int (f 1), .int (f 2), .int (f 3)])) (hdg : decode cc pc = .ok (.putfield 116, 3)) (kk : XW D lo p l e Rm s m args below meth c nL cells slots Q R ad (k_c cy ad q ns nt (wI I r 2 v) J) (pc + 3) lv (st)) : XW D lo p l e Rm s m args below meth c nL cells slots Q R ad (k_c cy ad q ns nt I J) pc lv (.int v :: .ref (ad r) :: st) := x_putN F (T := TX2) (N := 4) (ty := .int) tyX2 tyX2_ok nmX2 hr (hs (I r) (J r)) rfl (k_hin2 F) 2 (by decide) (F.2.2.2.2.nestF (t := RX4) 252 (by decide +kernel) args) rfl rfl (by decide +kernel) rfl rfl (Nat.le_of_ble_eq_true rfl) hdg (x_world (k_upI (upd (I r) 2 v) (hs (upd (I r) 2 v) (J r)).symm) kk)
set_option maxRecDepth 100000 in
theorem g_X2_22 (F : k_F p m c cc nL s RX2 D cy lo) {fs : List Value} {v : Value} (hr : r ∈ R) (hw : w r = .inr (2, fs)) (hv : fs[3]? = some v) (hdg : decode cc pc = .ok (.getfield 22, 3)) (kk : XW D lo p l e Rm s m args below meth c nL cells slots Q R ad w (pc + 3) lv (v :: st)) : XW D lo p l e Rm s m args below meth c nL cells slots Q R ad w pc lv (.ref (ad r) :: st) := x_get F (T := TX2) (N := 4) hr hw rfl (k_hin2 F) 3 (by decide) (F.2.2.2.2.word 253 (by decide +kernel) rfl args) rfl hv hdg kk
set_option maxRecDepth 100000 in
theorem p_X2_22 (F : k_F p m c cc nL s RX2 D cy lo) {a0 : Value} {v : Int32} (hr : r ∈ R) (hs : ∀ (f : Nat → Int32) (g : Nat → Int64), k_sh cy ad q ns nt r f g = Sum.inr (2, [a0, .int (f 1), .int (f 2), .int (f 3)])) (hdg : decode cc pc = .ok (.putfield 22, 3)) (kk : XW D lo p l e Rm s m args below meth c nL cells slots Q R ad (k_c cy ad q ns nt (wI I r 3 v) J) (pc + 3) lv (st)) : XW D lo p l e Rm s m args below meth c nL cells slots Q R ad (k_c cy ad q ns nt I J) pc lv (.int v :: .ref (ad r) :: st) := x_put F (T := TX2) (N := 4) (ty := .int) tyX2 tyX2_ok nmX2 hr (hs (I r) (J r)) rfl (k_hin2 F) 3 (by decide) (F.2.2.2.2.word 253 (by decide +kernel) rfl args) rfl rfl (by decide +kernel) rfl rfl (Nat.le_of_ble_eq_true rfl) hdg (x_world (k_upI (upd (I r) 3 v) (hs (upd (I r) 3 v) (J r)).symm) kk)
set_option maxRecDepth 100000 in
theorem g_X4_119 (F : k_F p m c cc nL s RX4 D cy lo) {fs : List Value} {v : Value} (hr : r ∈ R) (hw : w r = .inr (2, fs)) (hv : fs[3]? = some v) (hdg : decode cc pc = .ok (.getfield 119, 3)) (kk : XW D lo p l e Rm s m args below meth c nL cells slots Q R ad w (pc + 3) lv (v :: st)) : XW D lo p l e Rm s m args below meth c nL cells slots Q R ad w pc lv (.ref (ad r) :: st) := x_getN F (T := TX2) (N := 4) hr hw rfl (k_hin2 F) 3 (by decide) (F.2.2.2.2.nestF (t := RX4) 254 (by decide +kernel) args) rfl hv hdg kk
set_option maxRecDepth 100000 in
theorem p_X4_119 (F : k_F p m c cc nL s RX4 D cy lo) {a0 : Value} {v : Int32} (hr : r ∈ R) (hs : ∀ (f : Nat → Int32) (g : Nat → Int64), k_sh cy ad q ns nt r f g = Sum.inr (2, [a0, .int (f 1), .int (f 2), .int (f 3)])) (hdg : decode cc pc = .ok (.putfield 119, 3)) (kk : XW D lo p l e Rm s m args below meth c nL cells slots Q R ad (k_c cy ad q ns nt (wI I r 3 v) J) (pc + 3) lv (st)) : XW D lo p l e Rm s m args below meth c nL cells slots Q R ad (k_c cy ad q ns nt I J) pc lv (.int v :: .ref (ad r) :: st) := x_putN F (T := TX2) (N := 4) (ty := .int) tyX2 tyX2_ok nmX2 hr (hs (I r) (J r)) rfl (k_hin2 F) 3 (by decide) (F.2.2.2.2.nestF (t := RX4) 254 (by decide +kernel) args) rfl rfl (by decide +kernel) rfl rfl (Nat.le_of_ble_eq_true rfl) hdg (x_world (k_upI (upd (I r) 3 v) (hs (upd (I r) 3 v) (J r)).symm) kk)
set_option maxRecDepth 100000 in
theorem g_X3_26 (F : k_F p m c cc nL s RX3 D cy lo) {fs : List Value} {v : Value} (hr : r ∈ R) (hw : w r = .inr (3, fs)) (hv : fs[0]? = some v) (hdg : decode cc pc = .ok (.getfield 26, 3)) (kk : XW D lo p l e Rm s m args below meth c nL cells slots Q R ad w (pc + 3) lv (v :: st)) : XW D lo p l e Rm s m args below meth c nL cells slots Q R ad w pc lv (.ref (ad r) :: st) := x_get F (T := TX3) (N := 9) hr hw rfl (k_hin3 F) 0 (by decide) (F.2.2.2.2.word 346 (by decide +kernel) rfl args) rfl hv hdg kk
set_option maxRecDepth 100000 in
theorem g_X4_215 (F : k_F p m c cc nL s RX4 D cy lo) {fs : List Value} {v : Value} (hr : r ∈ R) (hw : w r = .inr (3, fs)) (hv : fs[0]? = some v) (hdg : decode cc pc = .ok (.getfield 215, 3)) (kk : XW D lo p l e Rm s m args below meth c nL cells slots Q R ad w (pc + 3) lv (v :: st)) : XW D lo p l e Rm s m args below meth c nL cells slots Q R ad w pc lv (.ref (ad r) :: st) := x_getN F (T := TX3) (N := 9) hr hw rfl (k_hin3 F) 0 (by decide) (F.2.2.2.2.nestF (t := RX4) 347 (by decide +kernel) args) rfl hv hdg kk
set_option maxRecDepth 100000 in
theorem g_X3_30 (F : k_F p m c cc nL s RX3 D cy lo) {fs : List Value} {v : Value} (hr : r ∈ R) (hw : w r = .inr (3, fs)) (hv : fs[1]? = some v) (hdg : decode cc pc = .ok (.getfield 30, 3)) (kk : XW D lo p l e Rm s m args below meth c nL cells slots Q R ad w (pc + 3) lv (v :: st)) : XW D lo p l e Rm s m args below meth c nL cells slots Q R ad w pc lv (.ref (ad r) :: st) := x_get F (T := TX3) (N := 9) hr hw rfl (k_hin3 F) 1 (by decide) (F.2.2.2.2.word 348 (by decide +kernel) rfl args) rfl hv hdg kk
set_option maxRecDepth 100000 in
theorem g_X4_219 (F : k_F p m c cc nL s RX4 D cy lo) {fs : List Value} {v : Value} (hr : r ∈ R) (hw : w r = .inr (3, fs)) (hv : fs[1]? = some v) (hdg : decode cc pc = .ok (.getfield 219, 3)) (kk : XW D lo p l e Rm s m args below meth c nL cells slots Q R ad w (pc + 3) lv (v :: st)) : XW D lo p l e Rm s m args below meth c nL cells slots Q R ad w pc lv (.ref (ad r) :: st) := x_getN F (T := TX3) (N := 9) hr hw rfl (k_hin3 F) 1 (by decide) (F.2.2.2.2.nestF (t := RX4) 349 (by decide +kernel) args) rfl hv hdg kk
set_option maxRecDepth 100000 in
theorem g_X3_33 (F : k_F p m c cc nL s RX3 D cy lo) {fs : List Value} {v : Value} (hr : r ∈ R) (hw : w r = .inr (3, fs)) (hv : fs[2]? = some v) (hdg : decode cc pc = .ok (.getfield 33, 3)) (kk : XW D lo p l e Rm s m args below meth c nL cells slots Q R ad w (pc + 3) lv (v :: st)) : XW D lo p l e Rm s m args below meth c nL cells slots Q R ad w pc lv (.ref (ad r) :: st) := x_get F (T := TX3) (N := 9) hr hw rfl (k_hin3 F) 2 (by decide) (F.2.2.2.2.word 350 (by decide +kernel) rfl args) rfl hv hdg kk
set_option maxRecDepth 100000 in
theorem p_X3_33 (F : k_F p m c cc nL s RX3 D cy lo) (hin2 : meth.name = "<init>") {a0 a1 a4 a5 : Value} {v : Int32} (hr : r ∈ R) (hs : ∀ (f : Nat → Int32) (g : Nat → Int64), k_sh cy ad q ns nt r f g = Sum.inr (3, [a0, a1, .int (f 2), .int (f 3), a4, a5, .int (f 6), .int (f 7), .int (f 8)])) (hdg : decode cc pc = .ok (.putfield 33, 3)) (kk : XW D lo p l e Rm s m args below meth c nL cells slots Q R ad (k_c cy ad q ns nt (wI I r 2 v) J) (pc + 3) lv (st)) : XW D lo p l e Rm s m args below meth c nL cells slots Q R ad (k_c cy ad q ns nt I J) pc lv (.int v :: .ref (ad r) :: st) := x_putF F (T := TX3) (N := 9) (ty := .int) tyX3 tyX3_ok nmX3 hr (hs (I r) (J r)) rfl (k_hin3 F) 2 (by decide) (F.2.2.2.2.word 350 (by decide +kernel) rfl args) rfl rfl hin2 rfl (by decide +kernel) rfl rfl (Nat.le_of_ble_eq_true rfl) hdg (x_world (k_upI (upd (I r) 2 v) (hs (upd (I r) 2 v) (J r)).symm) kk)
set_option maxRecDepth 100000 in
theorem g_X4_240 (F : k_F p m c cc nL s RX4 D cy lo) {fs : List Value} {v : Value} (hr : r ∈ R) (hw : w r = .inr (3, fs)) (hv : fs[2]? = some v) (hdg : decode cc pc = .ok (.getfield 240, 3)) (kk : XW D lo p l e Rm s m args below meth c nL cells slots Q R ad w (pc + 3) lv (v :: st)) : XW D lo p l e Rm s m args below meth c nL cells slots Q R ad w pc lv (.ref (ad r) :: st) := x_getN F (T := TX3) (N := 9) hr hw rfl (k_hin3 F) 2 (by decide) (F.2.2.2.2.nestF (t := RX4) 351 (by decide +kernel) args) rfl hv hdg kk
set_option maxRecDepth 100000 in
theorem g_X3_36 (F : k_F p m c cc nL s RX3 D cy lo) {fs : List Value} {v : Value} (hr : r ∈ R) (hw : w r = .inr (3, fs)) (hv : fs[3]? = some v) (hdg : decode cc pc = .ok (.getfield 36, 3)) (kk : XW D lo p l e Rm s m args below meth c nL cells slots Q R ad w (pc + 3) lv (v :: st)) : XW D lo p l e Rm s m args below meth c nL cells slots Q R ad w pc lv (.ref (ad r) :: st) := x_get F (T := TX3) (N := 9) hr hw rfl (k_hin3 F) 3 (by decide) (F.2.2.2.2.word 352 (by decide +kernel) rfl args) rfl hv hdg kk
set_option maxRecDepth 100000 in
theorem p_X3_36 (F : k_F p m c cc nL s RX3 D cy lo) (hin2 : meth.name = "<init>") {a0 a1 a4 a5 : Value} {v : Int32} (hr : r ∈ R) (hs : ∀ (f : Nat → Int32) (g : Nat → Int64), k_sh cy ad q ns nt r f g = Sum.inr (3, [a0, a1, .int (f 2), .int (f 3), a4, a5, .int (f 6), .int (f 7), .int (f 8)])) (hdg : decode cc pc = .ok (.putfield 36, 3)) (kk : XW D lo p l e Rm s m args below meth c nL cells slots Q R ad (k_c cy ad q ns nt (wI I r 3 v) J) (pc + 3) lv (st)) : XW D lo p l e Rm s m args below meth c nL cells slots Q R ad (k_c cy ad q ns nt I J) pc lv (.int v :: .ref (ad r) :: st) := x_putF F (T := TX3) (N := 9) (ty := .int) tyX3 tyX3_ok nmX3 hr (hs (I r) (J r)) rfl (k_hin3 F) 3 (by decide) (F.2.2.2.2.word 352 (by decide +kernel) rfl args) rfl rfl hin2 rfl (by decide +kernel) rfl rfl (Nat.le_of_ble_eq_true rfl) hdg (x_world (k_upI (upd (I r) 3 v) (hs (upd (I r) 3 v) (J r)).symm) kk)
set_option maxRecDepth 100000 in
theorem g_X4_243 (F : k_F p m c cc nL s RX4 D cy lo) {fs : List Value} {v : Value} (hr : r ∈ R) (hw : w r = .inr (3, fs)) (hv : fs[3]? = some v) (hdg : decode cc pc = .ok (.getfield 243, 3)) (kk : XW D lo p l e Rm s m args below meth c nL cells slots Q R ad w (pc + 3) lv (v :: st)) : XW D lo p l e Rm s m args below meth c nL cells slots Q R ad w pc lv (.ref (ad r) :: st) := x_getN F (T := TX3) (N := 9) hr hw rfl (k_hin3 F) 3 (by decide) (F.2.2.2.2.nestF (t := RX4) 353 (by decide +kernel) args) rfl hv hdg kk
set_option maxRecDepth 100000 in
theorem g_X3_12 (F : k_F p m c cc nL s RX3 D cy lo) {fs : List Value} {v : Value} (hr : r ∈ R) (hw : w r = .inr (3, fs)) (hv : fs[4]? = some v) (hdg : decode cc pc = .ok (.getfield 12, 3)) (kk : XW D lo p l e Rm s m args below meth c nL cells slots Q R ad w (pc + 3) lv (v :: st)) : XW D lo p l e Rm s m args below meth c nL cells slots Q R ad w pc lv (.ref (ad r) :: st) := x_get F (T := TX3) (N := 9) hr hw rfl (k_hin3 F) 4 (by decide) (F.2.2.2.2.word 354 (by decide +kernel) rfl args) rfl hv hdg kk
set_option maxRecDepth 100000 in
theorem g_X0_52 (F : k_F p m c cc nL s RX0 D cy lo) {fs : List Value} {v : Value} (hr : r ∈ R) (hw : w r = .inr (3, fs)) (hv : fs[4]? = some v) (hdg : decode cc pc = .ok (.getfield 52, 3)) (kk : XW D lo p l e Rm s m args below meth c nL cells slots Q R ad w (pc + 3) lv (v :: st)) : XW D lo p l e Rm s m args below meth c nL cells slots Q R ad w pc lv (.ref (ad r) :: st) := x_getN F (T := TX3) (N := 9) hr hw rfl (k_hin3 F) 4 (by decide) (F.2.2.2.2.nestF (t := RX4) 355 (by decide +kernel) args) rfl hv hdg kk
set_option maxRecDepth 100000 in
theorem g_X4_169 (F : k_F p m c cc nL s RX4 D cy lo) {fs : List Value} {v : Value} (hr : r ∈ R) (hw : w r = .inr (3, fs)) (hv : fs[4]? = some v) (hdg : decode cc pc = .ok (.getfield 169, 3)) (kk : XW D lo p l e Rm s m args below meth c nL cells slots Q R ad w (pc + 3) lv (v :: st)) : XW D lo p l e Rm s m args below meth c nL cells slots Q R ad w pc lv (.ref (ad r) :: st) := x_getN F (T := TX3) (N := 9) hr hw rfl (k_hin3 F) 4 (by decide) (F.2.2.2.2.nestF (t := RX4) 356 (by decide +kernel) args) rfl hv hdg kk
set_option maxRecDepth 100000 in
theorem g_X3_18 (F : k_F p m c cc nL s RX3 D cy lo) {fs : List Value} {v : Value} (hr : r ∈ R) (hw : w r = .inr (3, fs)) (hv : fs[5]? = some v) (hdg : decode cc pc = .ok (.getfield 18, 3)) (kk : XW D lo p l e Rm s m args below meth c nL cells slots Q R ad w (pc + 3) lv (v :: st)) : XW D lo p l e Rm s m args below meth c nL cells slots Q R ad w pc lv (.ref (ad r) :: st) := x_get F (T := TX3) (N := 9) hr hw rfl (k_hin3 F) 5 (by decide) (F.2.2.2.2.word 357 (by decide +kernel) rfl args) rfl hv hdg kk
set_option maxRecDepth 100000 in
theorem g_X3_22 (F : k_F p m c cc nL s RX3 D cy lo) {fs : List Value} {v : Value} (hr : r ∈ R) (hw : w r = .inr (3, fs)) (hv : fs[6]? = some v) (hdg : decode cc pc = .ok (.getfield 22, 3)) (kk : XW D lo p l e Rm s m args below meth c nL cells slots Q R ad w (pc + 3) lv (v :: st)) : XW D lo p l e Rm s m args below meth c nL cells slots Q R ad w pc lv (.ref (ad r) :: st) := x_get F (T := TX3) (N := 9) hr hw rfl (k_hin3 F) 6 (by decide) (F.2.2.2.2.word 358 (by decide +kernel) rfl args) rfl hv hdg kk
set_option maxRecDepth 100000 in
theorem p_X3_22 (F : k_F p m c cc nL s RX3 D cy lo) {a0 a1 a4 a5 : Value} {v : Int32} (hr : r ∈ R) (hs : ∀ (f : Nat → Int32) (g : Nat → Int64), k_sh cy ad q ns nt r f g = Sum.inr (3, [a0, a1, .int (f 2), .int (f 3), a4, a5, .int (f 6), .int (f 7), .int (f 8)])) (hdg : decode cc pc = .ok (.putfield 22, 3)) (kk : XW D lo p l e Rm s m args below meth c nL cells slots Q R ad (k_c cy ad q ns nt (wI I r 6 v) J) (pc + 3) lv (st)) : XW D lo p l e Rm s m args below meth c nL cells slots Q R ad (k_c cy ad q ns nt I J) pc lv (.int v :: .ref (ad r) :: st) := x_put F (T := TX3) (N := 9) (ty := .int) tyX3 tyX3_ok nmX3 hr (hs (I r) (J r)) rfl (k_hin3 F) 6 (by decide) (F.2.2.2.2.word 358 (by decide +kernel) rfl args) rfl rfl (by decide +kernel) rfl rfl (Nat.le_of_ble_eq_true rfl) hdg (x_world (k_upI (upd (I r) 6 v) (hs (upd (I r) 6 v) (J r)).symm) kk)
set_option maxRecDepth 100000 in
theorem g_X4_152 (F : k_F p m c cc nL s RX4 D cy lo) {fs : List Value} {v : Value} (hr : r ∈ R) (hw : w r = .inr (3, fs)) (hv : fs[6]? = some v) (hdg : decode cc pc = .ok (.getfield 152, 3)) (kk : XW D lo p l e Rm s m args below meth c nL cells slots Q R ad w (pc + 3) lv (v :: st)) : XW D lo p l e Rm s m args below meth c nL cells slots Q R ad w pc lv (.ref (ad r) :: st) := x_getN F (T := TX3) (N := 9) hr hw rfl (k_hin3 F) 6 (by decide) (F.2.2.2.2.nestF (t := RX4) 359 (by decide +kernel) args) rfl hv hdg kk
set_option maxRecDepth 100000 in
theorem p_X4_152 (F : k_F p m c cc nL s RX4 D cy lo) {a0 a1 a4 a5 : Value} {v : Int32} (hr : r ∈ R) (hs : ∀ (f : Nat → Int32) (g : Nat → Int64), k_sh cy ad q ns nt r f g = Sum.inr (3, [a0, a1, .int (f 2), .int (f 3), a4, a5, .int (f 6), .int (f 7), .int (f 8)])) (hdg : decode cc pc = .ok (.putfield 152, 3)) (kk : XW D lo p l e Rm s m args below meth c nL cells slots Q R ad (k_c cy ad q ns nt (wI I r 6 v) J) (pc + 3) lv (st)) : XW D lo p l e Rm s m args below meth c nL cells slots Q R ad (k_c cy ad q ns nt I J) pc lv (.int v :: .ref (ad r) :: st) := x_putN F (T := TX3) (N := 9) (ty := .int) tyX3 tyX3_ok nmX3 hr (hs (I r) (J r)) rfl (k_hin3 F) 6 (by decide) (F.2.2.2.2.nestF (t := RX4) 359 (by decide +kernel) args) rfl rfl (by decide +kernel) rfl rfl (Nat.le_of_ble_eq_true rfl) hdg (x_world (k_upI (upd (I r) 6 v) (hs (upd (I r) 6 v) (J r)).symm) kk)
set_option maxRecDepth 100000 in
theorem g_X3_39 (F : k_F p m c cc nL s RX3 D cy lo) {fs : List Value} {v : Value} (hr : r ∈ R) (hw : w r = .inr (3, fs)) (hv : fs[7]? = some v) (hdg : decode cc pc = .ok (.getfield 39, 3)) (kk : XW D lo p l e Rm s m args below meth c nL cells slots Q R ad w (pc + 3) lv (v :: st)) : XW D lo p l e Rm s m args below meth c nL cells slots Q R ad w pc lv (.ref (ad r) :: st) := x_get F (T := TX3) (N := 9) hr hw rfl (k_hin3 F) 7 (by decide) (F.2.2.2.2.word 360 (by decide +kernel) rfl args) rfl hv hdg kk
set_option maxRecDepth 100000 in
theorem p_X3_39 (F : k_F p m c cc nL s RX3 D cy lo) {a0 a1 a4 a5 : Value} {v : Int32} (hr : r ∈ R) (hs : ∀ (f : Nat → Int32) (g : Nat → Int64), k_sh cy ad q ns nt r f g = Sum.inr (3, [a0, a1, .int (f 2), .int (f 3), a4, a5, .int (f 6), .int (f 7), .int (f 8)])) (hdg : decode cc pc = .ok (.putfield 39, 3)) (kk : XW D lo p l e Rm s m args below meth c nL cells slots Q R ad (k_c cy ad q ns nt (wI I r 7 v) J) (pc + 3) lv (st)) : XW D lo p l e Rm s m args below meth c nL cells slots Q R ad (k_c cy ad q ns nt I J) pc lv (.int v :: .ref (ad r) :: st) := x_put F (T := TX3) (N := 9) (ty := .int) tyX3 tyX3_ok nmX3 hr (hs (I r) (J r)) rfl (k_hin3 F) 7 (by decide) (F.2.2.2.2.word 360 (by decide +kernel) rfl args) rfl rfl (by decide +kernel) rfl rfl (Nat.le_of_ble_eq_true rfl) hdg (x_world (k_upI (upd (I r) 7 v) (hs (upd (I r) 7 v) (J r)).symm) kk)
set_option maxRecDepth 100000 in
theorem g_X4_157 (F : k_F p m c cc nL s RX4 D cy lo) {fs : List Value} {v : Value} (hr : r ∈ R) (hw : w r = .inr (3, fs)) (hv : fs[7]? = some v) (hdg : decode cc pc = .ok (.getfield 157, 3)) (kk : XW D lo p l e Rm s m args below meth c nL cells slots Q R ad w (pc + 3) lv (v :: st)) : XW D lo p l e Rm s m args below meth c nL cells slots Q R ad w pc lv (.ref (ad r) :: st) := x_getN F (T := TX3) (N := 9) hr hw rfl (k_hin3 F) 7 (by decide) (F.2.2.2.2.nestF (t := RX4) 361 (by decide +kernel) args) rfl hv hdg kk
set_option maxRecDepth 100000 in
theorem p_X4_157 (F : k_F p m c cc nL s RX4 D cy lo) {a0 a1 a4 a5 : Value} {v : Int32} (hr : r ∈ R) (hs : ∀ (f : Nat → Int32) (g : Nat → Int64), k_sh cy ad q ns nt r f g = Sum.inr (3, [a0, a1, .int (f 2), .int (f 3), a4, a5, .int (f 6), .int (f 7), .int (f 8)])) (hdg : decode cc pc = .ok (.putfield 157, 3)) (kk : XW D lo p l e Rm s m args below meth c nL cells slots Q R ad (k_c cy ad q ns nt (wI I r 7 v) J) (pc + 3) lv (st)) : XW D lo p l e Rm s m args below meth c nL cells slots Q R ad (k_c cy ad q ns nt I J) pc lv (.int v :: .ref (ad r) :: st) := x_putN F (T := TX3) (N := 9) (ty := .int) tyX3 tyX3_ok nmX3 hr (hs (I r) (J r)) rfl (k_hin3 F) 7 (by decide) (F.2.2.2.2.nestF (t := RX4) 361 (by decide +kernel) args) rfl rfl (by decide +kernel) rfl rfl (Nat.le_of_ble_eq_true rfl) hdg (x_world (k_upI (upd (I r) 7 v) (hs (upd (I r) 7 v) (J r)).symm) kk)
set_option maxRecDepth 100000 in
theorem g_X4_166 (F : k_F p m c cc nL s RX4 D cy lo) {fs : List Value} {v : Value} (hr : r ∈ R) (hw : w r = .inr (3, fs)) (hv : fs[8]? = some v) (hdg : decode cc pc = .ok (.getfield 166, 3)) (kk : XW D lo p l e Rm s m args below meth c nL cells slots Q R ad w (pc + 3) lv (v :: st)) : XW D lo p l e Rm s m args below meth c nL cells slots Q R ad w pc lv (.ref (ad r) :: st) := x_getN F (T := TX3) (N := 9) hr hw rfl (k_hin3 F) 8 (by decide) (F.2.2.2.2.nestF (t := RX4) 362 (by decide +kernel) args) rfl hv hdg kk
set_option maxRecDepth 100000 in
theorem p_X4_166 (F : k_F p m c cc nL s RX4 D cy lo) {a0 a1 a4 a5 : Value} {v : Int32} (hr : r ∈ R) (hs : ∀ (f : Nat → Int32) (g : Nat → Int64), k_sh cy ad q ns nt r f g = Sum.inr (3, [a0, a1, .int (f 2), .int (f 3), a4, a5, .int (f 6), .int (f 7), .int (f 8)])) (hdg : decode cc pc = .ok (.putfield 166, 3)) (kk : XW D lo p l e Rm s m args below meth c nL cells slots Q R ad (k_c cy ad q ns nt (wI I r 8 v) J) (pc + 3) lv (st)) : XW D lo p l e Rm s m args below meth c nL cells slots Q R ad (k_c cy ad q ns nt I J) pc lv (.int v :: .ref (ad r) :: st) := x_putN F (T := TX3) (N := 9) (ty := .int) tyX3 tyX3_ok nmX3 hr (hs (I r) (J r)) rfl (k_hin3 F) 8 (by decide) (F.2.2.2.2.nestF (t := RX4) 362 (by decide +kernel) args) rfl rfl (by decide +kernel) rfl rfl (Nat.le_of_ble_eq_true rfl) hdg (x_world (k_upI (upd (I r) 8 v) (hs (upd (I r) 8 v) (J r)).symm) kk)
end KFIELDS
end
section
set_option maxRecDepth 100000 in
theorem mc_X0_init : k_Mc yX0_init cX0_init 1 none 0 := ⟨List.mem_of_getElem? (i := 35) (by decide +kernel), List.mem_of_getElem? (i := 11) (by decide +kernel), by decide +kernel, by decide +kernel, by decide +kernel⟩
set_option maxRecDepth 100000 in
theorem mi_X0_init : Cond.instanceMethod yX0_init ∈ lw_tbl := List.mem_of_getElem? (i := 34) (by decide +kernel)
set_option maxRecDepth 100000 in
theorem mc_X0_rateOf : k_Mc yX0_rateOf cX0_rateOf 4 (some .int) 2 := ⟨List.mem_of_getElem? (i := 206) (by decide +kernel), List.mem_of_getElem? (i := 11) (by decide +kernel), by decide +kernel, by decide +kernel, by decide +kernel⟩
set_option maxRecDepth 100000 in
theorem mv_X0_rateOf : k_Mv yX0_rateOf := ⟨List.mem_of_getElem? (i := 204) (by decide +kernel), List.mem_of_getElem? (i := 205) (by decide +kernel)⟩
set_option maxRecDepth 100000 in
theorem mc_X0_setLink : k_Mc yX0_setLink cX0_setLink 6 none 4 := ⟨List.mem_of_getElem? (i := 213) (by decide +kernel), List.mem_of_getElem? (i := 11) (by decide +kernel), by decide +kernel, by decide +kernel, by decide +kernel⟩
set_option maxRecDepth 100000 in
theorem mv_X0_setLink : k_Mv yX0_setLink := ⟨List.mem_of_getElem? (i := 211) (by decide +kernel), List.mem_of_getElem? (i := 212) (by decide +kernel)⟩
set_option maxRecDepth 100000 in
theorem mc_X0_debtOf : k_Mc yX0_debtOf cX0_debtOf 4 (some .long) 2 := ⟨List.mem_of_getElem? (i := 444) (by decide +kernel), List.mem_of_getElem? (i := 11) (by decide +kernel), by decide +kernel, by decide +kernel, by decide +kernel⟩
set_option maxRecDepth 100000 in
theorem mv_X0_debtOf : k_Mv yX0_debtOf := ⟨List.mem_of_getElem? (i := 442) (by decide +kernel), List.mem_of_getElem? (i := 443) (by decide +kernel)⟩
set_option maxRecDepth 100000 in
theorem mc_X0_addDebt : k_Mc yX0_addDebt cX0_addDebt 7 none 3 := ⟨List.mem_of_getElem? (i := 432) (by decide +kernel), List.mem_of_getElem? (i := 11) (by decide +kernel), by decide +kernel, by decide +kernel, by decide +kernel⟩
set_option maxRecDepth 100000 in
theorem mv_X0_addDebt : k_Mv yX0_addDebt := ⟨List.mem_of_getElem? (i := 430) (by decide +kernel), List.mem_of_getElem? (i := 431) (by decide +kernel)⟩
set_option maxRecDepth 100000 in
theorem mc_X0_isOpen : k_Mc yX0_isOpen cX0_isOpen 4 (some .boolean) 2 := ⟨List.mem_of_getElem? (i := 313) (by decide +kernel), List.mem_of_getElem? (i := 11) (by decide +kernel), by decide +kernel, by decide +kernel, by decide +kernel⟩
set_option maxRecDepth 100000 in
theorem mv_X0_isOpen : k_Mv yX0_isOpen := ⟨List.mem_of_getElem? (i := 311) (by decide +kernel), List.mem_of_getElem? (i := 312) (by decide +kernel)⟩
set_option maxRecDepth 100000 in
theorem mc_X0_isOpenAlong : k_Mc yX0_isOpenAlong cX0_isOpenAlong 3 (some .boolean) 1 := ⟨List.mem_of_getElem? (i := 414) (by decide +kernel), List.mem_of_getElem? (i := 11) (by decide +kernel), by decide +kernel, by decide +kernel, by decide +kernel⟩
set_option maxRecDepth 100000 in
theorem mv_X0_isOpenAlong : k_Mv yX0_isOpenAlong := ⟨List.mem_of_getElem? (i := 412) (by decide +kernel), List.mem_of_getElem? (i := 413) (by decide +kernel)⟩
set_option maxRecDepth 100000 in
theorem mc_X0_costOf : k_Mc yX0_costOf cX0_costOf 4 (some .int) 1 := ⟨List.mem_of_getElem? (i := 541) (by decide +kernel), List.mem_of_getElem? (i := 11) (by decide +kernel), by decide +kernel, by decide +kernel, by decide +kernel⟩
set_option maxRecDepth 100000 in
theorem mv_X0_costOf : k_Mv yX0_costOf := ⟨List.mem_of_getElem? (i := 539) (by decide +kernel), List.mem_of_getElem? (i := 540) (by decide +kernel)⟩
set_option maxRecDepth 100000 in
theorem mc_X0_charge : k_Mc yX0_charge cX0_charge 6 none 1 := ⟨List.mem_of_getElem? (i := 428) (by decide +kernel), List.mem_of_getElem? (i := 11) (by decide +kernel), by decide +kernel, by decide +kernel, by decide +kernel⟩
set_option maxRecDepth 100000 in
theorem mv_X0_charge : k_Mv yX0_charge := ⟨List.mem_of_getElem? (i := 426) (by decide +kernel), List.mem_of_getElem? (i := 427) (by decide +kernel)⟩
set_option maxRecDepth 100000 in
theorem mc_X0_findBest : k_Mc yX0_findBest cX0_findBest 6 (some .boolean) 3 := ⟨List.mem_of_getElem? (i := 303) (by decide +kernel), List.mem_of_getElem? (i := 11) (by decide +kernel), by decide +kernel, by decide +kernel, by decide +kernel⟩
set_option maxRecDepth 100000 in
theorem mv_X0_findBest : k_Mv yX0_findBest := ⟨List.mem_of_getElem? (i := 301) (by decide +kernel), List.mem_of_getElem? (i := 302) (by decide +kernel)⟩
set_option maxRecDepth 100000 in
theorem mc_X0_weighWaysTo : k_Mc yX0_weighWaysTo cX0_weighWaysTo 5 none 1 := ⟨List.mem_of_getElem? (i := 308) (by decide +kernel), List.mem_of_getElem? (i := 11) (by decide +kernel), by decide +kernel, by decide +kernel, by decide +kernel⟩
set_option maxRecDepth 100000 in
theorem mv_X0_weighWaysTo : k_Mv yX0_weighWaysTo := ⟨List.mem_of_getElem? (i := 307) (by decide +kernel), List.mem_of_getElem? (i := 3) (by decide +kernel)⟩
set_option maxRecDepth 100000 in
theorem mc_X0_nextOnBest : k_Mc yX0_nextOnBest cX0_nextOnBest 3 (some .int) 1 := ⟨List.mem_of_getElem? (i := 333) (by decide +kernel), List.mem_of_getElem? (i := 11) (by decide +kernel), by decide +kernel, by decide +kernel, by decide +kernel⟩
set_option maxRecDepth 100000 in
theorem mv_X0_nextOnBest : k_Mv yX0_nextOnBest := ⟨List.mem_of_getElem? (i := 332) (by decide +kernel), List.mem_of_getElem? (i := 5) (by decide +kernel)⟩
set_option maxRecDepth 100000 in
theorem mc_X0_weightOver : k_Mc yX0_weightOver cX0_weightOver 4 (some .int) 2 := ⟨List.mem_of_getElem? (i := 317) (by decide +kernel), List.mem_of_getElem? (i := 11) (by decide +kernel), by decide +kernel, by decide +kernel, by decide +kernel⟩
set_option maxRecDepth 100000 in
theorem mv_X0_weightOver : k_Mv yX0_weightOver := ⟨List.mem_of_getElem? (i := 316) (by decide +kernel), List.mem_of_getElem? (i := 4) (by decide +kernel)⟩
set_option maxRecDepth 100000 in
theorem mc_X1_init : k_Mc yX1_init cX1_init 1 none 0 := ⟨List.mem_of_getElem? (i := 63) (by decide +kernel), List.mem_of_getElem? (i := 13) (by decide +kernel), by decide +kernel, by decide +kernel, by decide +kernel⟩
set_option maxRecDepth 100000 in
theorem mi_X1_init : Cond.instanceMethod yX1_init ∈ lw_tbl := List.mem_of_getElem? (i := 62) (by decide +kernel)
set_option maxRecDepth 100000 in
theorem mc_X1_carrierAt : k_Mc yX1_carrierAt cX1_carrierAt 2 (some .int) 1 := ⟨List.mem_of_getElem? (i := 390) (by decide +kernel), List.mem_of_getElem? (i := 13) (by decide +kernel), by decide +kernel, by decide +kernel, by decide +kernel⟩
set_option maxRecDepth 100000 in
theorem mv_X1_carrierAt : k_Mv yX1_carrierAt := ⟨List.mem_of_getElem? (i := 388) (by decide +kernel), List.mem_of_getElem? (i := 389) (by decide +kernel)⟩
set_option maxRecDepth 100000 in
theorem mc_X1_clear : k_Mc yX1_clear cX1_clear 1 none 0 := ⟨List.mem_of_getElem? (i := 325) (by decide +kernel), List.mem_of_getElem? (i := 13) (by decide +kernel), by decide +kernel, by decide +kernel, by decide +kernel⟩
set_option maxRecDepth 100000 in
theorem mv_X1_clear : k_Mv yX1_clear := ⟨List.mem_of_getElem? (i := 323) (by decide +kernel), List.mem_of_getElem? (i := 324) (by decide +kernel)⟩
set_option maxRecDepth 100000 in
theorem mc_X1_add : k_Mc yX1_add cX1_add 2 none 1 := ⟨List.mem_of_getElem? (i := 329) (by decide +kernel), List.mem_of_getElem? (i := 13) (by decide +kernel), by decide +kernel, by decide +kernel, by decide +kernel⟩
set_option maxRecDepth 100000 in
theorem mv_X1_add : k_Mv yX1_add := ⟨List.mem_of_getElem? (i := 327) (by decide +kernel), List.mem_of_getElem? (i := 328) (by decide +kernel)⟩
set_option maxRecDepth 100000 in
theorem mc_X1_become : k_Mc yX1_become cX1_become 3 none 1 := ⟨List.mem_of_getElem? (i := 385) (by decide +kernel), List.mem_of_getElem? (i := 13) (by decide +kernel), by decide +kernel, by decide +kernel, by decide +kernel⟩
set_option maxRecDepth 100000 in
theorem mv_X1_become : k_Mv yX1_become := ⟨List.mem_of_getElem? (i := 383) (by decide +kernel), List.mem_of_getElem? (i := 384) (by decide +kernel)⟩
set_option maxRecDepth 100000 in
theorem mc_X2_init : k_Mc yX2_init cX2_init 4 none 3 := ⟨List.mem_of_getElem? (i := 246) (by decide +kernel), List.mem_of_getElem? (i := 20) (by decide +kernel), by decide +kernel, by decide +kernel, by decide +kernel⟩
set_option maxRecDepth 100000 in
theorem mi_X2_init : Cond.instanceMethod yX2_init ∈ lw_tbl := List.mem_of_getElem? (i := 245) (by decide +kernel)
set_option maxRecDepth 100000 in
theorem mc_X2_homeAt : k_Mc yX2_homeAt cX2_homeAt 2 (some .int) 1 := ⟨List.mem_of_getElem? (i := 276) (by decide +kernel), List.mem_of_getElem? (i := 20) (by decide +kernel), by decide +kernel, by decide +kernel, by decide +kernel⟩
set_option maxRecDepth 100000 in
theorem mv_X2_homeAt : k_Mv yX2_homeAt := ⟨List.mem_of_getElem? (i := 274) (by decide +kernel), List.mem_of_getElem? (i := 275) (by decide +kernel)⟩
set_option maxRecDepth 100000 in
theorem mc_X2_moveTo : k_Mc yX2_moveTo cX2_moveTo 2 (some .boolean) 1 := ⟨List.mem_of_getElem? (i := 281) (by decide +kernel), List.mem_of_getElem? (i := 20) (by decide +kernel), by decide +kernel, by decide +kernel, by decide +kernel⟩
set_option maxRecDepth 100000 in
theorem mv_X2_moveTo : k_Mv yX2_moveTo := ⟨List.mem_of_getElem? (i := 279) (by decide +kernel), List.mem_of_getElem? (i := 280) (by decide +kernel)⟩
set_option maxRecDepth 100000 in
theorem mc_X2_pay : k_Mc yX2_pay cX2_pay 3 (some .boolean) 2 := ⟨List.mem_of_getElem? (i := 424) (by decide +kernel), List.mem_of_getElem? (i := 20) (by decide +kernel), by decide +kernel, by decide +kernel, by decide +kernel⟩
set_option maxRecDepth 100000 in
theorem mv_X2_pay : k_Mv yX2_pay := ⟨List.mem_of_getElem? (i := 422) (by decide +kernel), List.mem_of_getElem? (i := 423) (by decide +kernel)⟩
set_option maxRecDepth 100000 in
theorem mc_X3_init : k_Mc yX3_init cX3_init 5 none 4 := ⟨List.mem_of_getElem? (i := 342) (by decide +kernel), List.mem_of_getElem? (i := 22) (by decide +kernel), by decide +kernel, by decide +kernel, by decide +kernel⟩
set_option maxRecDepth 100000 in
theorem mi_X3_init : Cond.instanceMethod yX3_init ∈ lw_tbl := List.mem_of_getElem? (i := 341) (by decide +kernel)
set_option maxRecDepth 100000 in
theorem mc_X3_isStepDue : k_Mc yX3_isStepDue cX3_isStepDue 1 (some .boolean) 0 := ⟨List.mem_of_getElem? (i := 420) (by decide +kernel), List.mem_of_getElem? (i := 22) (by decide +kernel), by decide +kernel, by decide +kernel, by decide +kernel⟩
set_option maxRecDepth 100000 in
theorem mv_X3_isStepDue : k_Mv yX3_isStepDue := ⟨List.mem_of_getElem? (i := 418) (by decide +kernel), List.mem_of_getElem? (i := 419) (by decide +kernel)⟩
set_option maxRecDepth 100000 in
theorem mc_X3_addCharge : k_Mc yX3_addCharge cX3_addCharge 3 none 2 := ⟨List.mem_of_getElem? (i := 436) (by decide +kernel), List.mem_of_getElem? (i := 22) (by decide +kernel), by decide +kernel, by decide +kernel, by decide +kernel⟩
set_option maxRecDepth 100000 in
theorem mv_X3_addCharge : k_Mv yX3_addCharge := ⟨List.mem_of_getElem? (i := 434) (by decide +kernel), List.mem_of_getElem? (i := 435) (by decide +kernel)⟩
set_option maxRecDepth 100000 in
theorem mc_X3_chargeOf : k_Mc yX3_chargeOf cX3_chargeOf 2 (some .long) 1 := ⟨List.mem_of_getElem? (i := 528) (by decide +kernel), List.mem_of_getElem? (i := 22) (by decide +kernel), by decide +kernel, by decide +kernel, by decide +kernel⟩
set_option maxRecDepth 100000 in
theorem mv_X3_chargeOf : k_Mv yX3_chargeOf := ⟨List.mem_of_getElem? (i := 526) (by decide +kernel), List.mem_of_getElem? (i := 527) (by decide +kernel)⟩
set_option maxRecDepth 100000 in
theorem mc_X4_init : k_Mc yX4_init cX4_init 1 none 0 := ⟨List.mem_of_getElem? (i := 27) (by decide +kernel), List.mem_of_getElem? (i := 10) (by decide +kernel), by decide +kernel, by decide +kernel, by decide +kernel⟩
set_option maxRecDepth 100000 in
theorem mi_X4_init : Cond.instanceMethod yX4_init ∈ lw_tbl := List.mem_of_getElem? (i := 26) (by decide +kernel)
set_option maxRecDepth 100000 in
theorem mc_X4_tariff : k_Mc yX4_tariff cX4_tariff 5 (some .int) 3 := ⟨List.mem_of_getElem? (i := 103) (by decide +kernel), List.mem_of_getElem? (i := 10) (by decide +kernel), by decide +kernel, by decide +kernel, by decide +kernel⟩
set_option maxRecDepth 100000 in
theorem mv_X4_tariff : k_Mv yX4_tariff := ⟨List.mem_of_getElem? (i := 101) (by decide +kernel), List.mem_of_getElem? (i := 102) (by decide +kernel)⟩
set_option maxRecDepth 100000 in
theorem mc_X4_link : k_Mc yX4_link cX4_link 6 (some .boolean) 4 := ⟨List.mem_of_getElem? (i := 200) (by decide +kernel), List.mem_of_getElem? (i := 10) (by decide +kernel), by decide +kernel, by decide +kernel, by decide +kernel⟩
set_option maxRecDepth 100000 in
theorem mv_X4_link : k_Mv yX4_link := ⟨List.mem_of_getElem? (i := 198) (by decide +kernel), List.mem_of_getElem? (i := 199) (by decide +kernel)⟩
set_option maxRecDepth 100000 in
theorem mc_X4_unlink : k_Mc yX4_unlink cX4_unlink 4 (some .int) 2 := ⟨List.mem_of_getElem? (i := 217) (by decide +kernel), List.mem_of_getElem? (i := 10) (by decide +kernel), by decide +kernel, by decide +kernel, by decide +kernel⟩
set_option maxRecDepth 100000 in
theorem mv_X4_unlink : k_Mv yX4_unlink := ⟨List.mem_of_getElem? (i := 215) (by decide +kernel), List.mem_of_getElem? (i := 216) (by decide +kernel)⟩
set_option maxRecDepth 100000 in
theorem mc_X4_number : k_Mc yX4_number cX4_number 5 (some .int) 3 := ⟨List.mem_of_getElem? (i := 237) (by decide +kernel), List.mem_of_getElem? (i := 10) (by decide +kernel), by decide +kernel, by decide +kernel, by decide +kernel⟩
set_option maxRecDepth 100000 in
theorem mv_X4_number : k_Mv yX4_number := ⟨List.mem_of_getElem? (i := 235) (by decide +kernel), List.mem_of_getElem? (i := 236) (by decide +kernel)⟩
set_option maxRecDepth 100000 in
theorem mc_X4_carryOver : k_Mc yX4_carryOver cX4_carryOver 4 (some .int) 2 := ⟨List.mem_of_getElem? (i := 267) (by decide +kernel), List.mem_of_getElem? (i := 10) (by decide +kernel), by decide +kernel, by decide +kernel, by decide +kernel⟩
set_option maxRecDepth 100000 in
theorem mv_X4_carryOver : k_Mv yX4_carryOver := ⟨List.mem_of_getElem? (i := 265) (by decide +kernel), List.mem_of_getElem? (i := 266) (by decide +kernel)⟩
set_option maxRecDepth 100000 in
theorem mc_X4_home : k_Mc yX4_home cX4_home 4 (some .int) 2 := ⟨List.mem_of_getElem? (i := 491) (by decide +kernel), List.mem_of_getElem? (i := 10) (by decide +kernel), by decide +kernel, by decide +kernel, by decide +kernel⟩
set_option maxRecDepth 100000 in
theorem mv_X4_home : k_Mv yX4_home := ⟨List.mem_of_getElem? (i := 489) (by decide +kernel), List.mem_of_getElem? (i := 490) (by decide +kernel)⟩
set_option maxRecDepth 100000 in
theorem mc_X4_topUp : k_Mc yX4_topUp cX4_topUp 7 (some .int) 3 := ⟨List.mem_of_getElem? (i := 286) (by decide +kernel), List.mem_of_getElem? (i := 10) (by decide +kernel), by decide +kernel, by decide +kernel, by decide +kernel⟩
set_option maxRecDepth 100000 in
theorem mv_X4_topUp : k_Mv yX4_topUp := ⟨List.mem_of_getElem? (i := 284) (by decide +kernel), List.mem_of_getElem? (i := 285) (by decide +kernel)⟩
set_option maxRecDepth 100000 in
theorem mc_X4_balance : k_Mc yX4_balance cX4_balance 2 (some .int) 1 := ⟨List.mem_of_getElem? (i := 499) (by decide +kernel), List.mem_of_getElem? (i := 10) (by decide +kernel), by decide +kernel, by decide +kernel, by decide +kernel⟩
set_option maxRecDepth 100000 in
theorem mv_X4_balance : k_Mv yX4_balance := ⟨List.mem_of_getElem? (i := 497) (by decide +kernel), List.mem_of_getElem? (i := 498) (by decide +kernel)⟩
set_option maxRecDepth 100000 in
theorem mc_X4_bundle : k_Mc yX4_bundle cX4_bundle 2 (some .int) 1 := ⟨List.mem_of_getElem? (i := 503) (by decide +kernel), List.mem_of_getElem? (i := 10) (by decide +kernel), by decide +kernel, by decide +kernel, by decide +kernel⟩
set_option maxRecDepth 100000 in
theorem mv_X4_bundle : k_Mv yX4_bundle := ⟨List.mem_of_getElem? (i := 501) (by decide +kernel), List.mem_of_getElem? (i := 502) (by decide +kernel)⟩
set_option maxRecDepth 100000 in
theorem mc_X4_call : k_Mc yX4_call cX4_call 6 (some .int) 2 := ⟨List.mem_of_getElem? (i := 292) (by decide +kernel), List.mem_of_getElem? (i := 10) (by decide +kernel), by decide +kernel, by decide +kernel, by decide +kernel⟩
set_option maxRecDepth 100000 in
theorem mv_X4_call : k_Mv yX4_call := ⟨List.mem_of_getElem? (i := 290) (by decide +kernel), List.mem_of_getElem? (i := 291) (by decide +kernel)⟩
set_option maxRecDepth 100000 in
theorem mc_X4_hangUp : k_Mc yX4_hangUp cX4_hangUp 3 (some .int) 1 := ⟨List.mem_of_getElem? (i := 395) (by decide +kernel), List.mem_of_getElem? (i := 10) (by decide +kernel), by decide +kernel, by decide +kernel, by decide +kernel⟩
set_option maxRecDepth 100000 in
theorem mv_X4_hangUp : k_Mv yX4_hangUp := ⟨List.mem_of_getElem? (i := 393) (by decide +kernel), List.mem_of_getElem? (i := 394) (by decide +kernel)⟩
set_option maxRecDepth 100000 in
theorem mc_X4_pass : k_Mc yX4_pass cX4_pass 8 (some .int) 1 := ⟨List.mem_of_getElem? (i := 405) (by decide +kernel), List.mem_of_getElem? (i := 10) (by decide +kernel), by decide +kernel, by decide +kernel, by decide +kernel⟩
set_option maxRecDepth 100000 in
theorem mv_X4_pass : k_Mv yX4_pass := ⟨List.mem_of_getElem? (i := 403) (by decide +kernel), List.mem_of_getElem? (i := 404) (by decide +kernel)⟩
set_option maxRecDepth 100000 in
theorem mc_X4_state : k_Mc yX4_state cX4_state 2 (some .int) 1 := ⟨List.mem_of_getElem? (i := 507) (by decide +kernel), List.mem_of_getElem? (i := 10) (by decide +kernel), by decide +kernel, by decide +kernel, by decide +kernel⟩
set_option maxRecDepth 100000 in
theorem mv_X4_state : k_Mv yX4_state := ⟨List.mem_of_getElem? (i := 505) (by decide +kernel), List.mem_of_getElem? (i := 506) (by decide +kernel)⟩
set_option maxRecDepth 100000 in
theorem mc_X4_minutes : k_Mc yX4_minutes cX4_minutes 2 (some .int) 1 := ⟨List.mem_of_getElem? (i := 511) (by decide +kernel), List.mem_of_getElem? (i := 10) (by decide +kernel), by decide +kernel, by decide +kernel, by decide +kernel⟩
set_option maxRecDepth 100000 in
theorem mv_X4_minutes : k_Mv yX4_minutes := ⟨List.mem_of_getElem? (i := 509) (by decide +kernel), List.mem_of_getElem? (i := 510) (by decide +kernel)⟩
set_option maxRecDepth 100000 in
theorem mc_X4_moved : k_Mc yX4_moved cX4_moved 2 (some .int) 1 := ⟨List.mem_of_getElem? (i := 515) (by decide +kernel), List.mem_of_getElem? (i := 10) (by decide +kernel), by decide +kernel, by decide +kernel, by decide +kernel⟩
set_option maxRecDepth 100000 in
theorem mv_X4_moved : k_Mv yX4_moved := ⟨List.mem_of_getElem? (i := 513) (by decide +kernel), List.mem_of_getElem? (i := 514) (by decide +kernel)⟩
set_option maxRecDepth 100000 in
theorem mc_X4_way : k_Mc yX4_way cX4_way 4 (some .int) 2 := ⟨List.mem_of_getElem? (i := 481) (by decide +kernel), List.mem_of_getElem? (i := 10) (by decide +kernel), by decide +kernel, by decide +kernel, by decide +kernel⟩
set_option maxRecDepth 100000 in
theorem mv_X4_way : k_Mv yX4_way := ⟨List.mem_of_getElem? (i := 479) (by decide +kernel), List.mem_of_getElem? (i := 480) (by decide +kernel)⟩
set_option maxRecDepth 100000 in
theorem mc_X4_cost : k_Mc yX4_cost cX4_cost 3 (some .int) 2 := ⟨List.mem_of_getElem? (i := 537) (by decide +kernel), List.mem_of_getElem? (i := 10) (by decide +kernel), by decide +kernel, by decide +kernel, by decide +kernel⟩
set_option maxRecDepth 100000 in
theorem mv_X4_cost : k_Mv yX4_cost := ⟨List.mem_of_getElem? (i := 535) (by decide +kernel), List.mem_of_getElem? (i := 536) (by decide +kernel)⟩
set_option maxRecDepth 100000 in
theorem mc_X4_best : k_Mc yX4_best cX4_best 5 (some .int) 3 := ⟨List.mem_of_getElem? (i := 486) (by decide +kernel), List.mem_of_getElem? (i := 10) (by decide +kernel), by decide +kernel, by decide +kernel, by decide +kernel⟩
set_option maxRecDepth 100000 in
theorem mv_X4_best : k_Mv yX4_best := ⟨List.mem_of_getElem? (i := 484) (by decide +kernel), List.mem_of_getElem? (i := 485) (by decide +kernel)⟩
set_option maxRecDepth 100000 in
theorem mc_X4_isBarred : k_Mc yX4_isBarred cX4_isBarred 3 (some .boolean) 2 := ⟨List.mem_of_getElem? (i := 532) (by decide +kernel), List.mem_of_getElem? (i := 10) (by decide +kernel), by decide +kernel, by decide +kernel, by decide +kernel⟩
set_option maxRecDepth 100000 in
theorem mv_X4_isBarred : k_Mv yX4_isBarred := ⟨List.mem_of_getElem? (i := 530) (by decide +kernel), List.mem_of_getElem? (i := 531) (by decide +kernel)⟩
set_option maxRecDepth 100000 in
theorem mc_X4_debt : k_Mc yX4_debt cX4_debt 3 (some .long) 2 := ⟨List.mem_of_getElem? (i := 519) (by decide +kernel), List.mem_of_getElem? (i := 10) (by decide +kernel), by decide +kernel, by decide +kernel, by decide +kernel⟩
set_option maxRecDepth 100000 in
theorem mv_X4_debt : k_Mv yX4_debt := ⟨List.mem_of_getElem? (i := 517) (by decide +kernel), List.mem_of_getElem? (i := 518) (by decide +kernel)⟩
set_option maxRecDepth 100000 in
theorem mc_X4_charged : k_Mc yX4_charged cX4_charged 10 (some .long) 2 := ⟨List.mem_of_getElem? (i := 523) (by decide +kernel), List.mem_of_getElem? (i := 10) (by decide +kernel), by decide +kernel, by decide +kernel, by decide +kernel⟩
set_option maxRecDepth 100000 in
theorem mv_X4_charged : k_Mv yX4_charged := ⟨List.mem_of_getElem? (i := 521) (by decide +kernel), List.mem_of_getElem? (i := 522) (by decide +kernel)⟩
set_option maxRecDepth 100000 in
theorem mc_X4_position : k_Mc yX4_position cX4_position 5 (some .long) 1 := ⟨List.mem_of_getElem? (i := 548) (by decide +kernel), List.mem_of_getElem? (i := 10) (by decide +kernel), by decide +kernel, by decide +kernel, by decide +kernel⟩
set_option maxRecDepth 100000 in
theorem mv_X4_position : k_Mv yX4_position := ⟨List.mem_of_getElem? (i := 546) (by decide +kernel), List.mem_of_getElem? (i := 547) (by decide +kernel)⟩
set_option maxRecDepth 100000 in
theorem mc_X4_settle : k_Mc yX4_settle cX4_settle 5 (some .long) 2 := ⟨List.mem_of_getElem? (i := 440) (by decide +kernel), List.mem_of_getElem? (i := 10) (by decide +kernel), by decide +kernel, by decide +kernel, by decide +kernel⟩
set_option maxRecDepth 100000 in
theorem mv_X4_settle : k_Mv yX4_settle := ⟨List.mem_of_getElem? (i := 438) (by decide +kernel), List.mem_of_getElem? (i := 439) (by decide +kernel)⟩
set_option maxRecDepth 100000 in
theorem mc_X4_isWithin : k_Mc yX4_isWithin cX4_isWithin 3 (some .boolean) 3 := ⟨List.mem_of_getElem? (i := 180) (by decide +kernel), List.mem_of_getElem? (i := 10) (by decide +kernel), by decide +kernel, by decide +kernel, by decide +kernel⟩
set_option maxRecDepth 100000 in
theorem ms_X4_isWithin : k_Ms yX4_isWithin := List.mem_of_getElem? (i := 179) (by decide +kernel)
set_option maxRecDepth 100000 in
theorem mc_X4_isCarrier : k_Mc yX4_isCarrier cX4_isCarrier 1 (some .boolean) 1 := ⟨List.mem_of_getElem? (i := 109) (by decide +kernel), List.mem_of_getElem? (i := 10) (by decide +kernel), by decide +kernel, by decide +kernel, by decide +kernel⟩
set_option maxRecDepth 100000 in
theorem ms_X4_isCarrier : k_Ms yX4_isCarrier := List.mem_of_getElem? (i := 108) (by decide +kernel)
set_option maxRecDepth 100000 in
theorem mc_X4_pairOf : k_Mc yX4_pairOf cX4_pairOf 3 (some .int) 2 := ⟨List.mem_of_getElem? (i := 209) (by decide +kernel), List.mem_of_getElem? (i := 10) (by decide +kernel), by decide +kernel, by decide +kernel, by decide +kernel⟩
set_option maxRecDepth 100000 in
theorem ms_X4_pairOf : k_Ms yX4_pairOf := List.mem_of_getElem? (i := 208) (by decide +kernel)
set_option maxRecDepth 100000 in
theorem mc_X4_demandCarrier : k_Mc yX4_demandCarrier cX4_demandCarrier 1 none 1 := ⟨List.mem_of_getElem? (i := 106) (by decide +kernel), List.mem_of_getElem? (i := 10) (by decide +kernel), by decide +kernel, by decide +kernel, by decide +kernel⟩
set_option maxRecDepth 100000 in
theorem ms_X4_demandCarrier : k_Ms yX4_demandCarrier := List.mem_of_getElem? (i := 105) (by decide +kernel)
set_option maxRecDepth 100000 in
theorem mc_X4_demandCredit : k_Mc yX4_demandCredit cX4_demandCredit 2 none 2 := ⟨List.mem_of_getElem? (i := 240) (by decide +kernel), List.mem_of_getElem? (i := 10) (by decide +kernel), by decide +kernel, by decide +kernel, by decide +kernel⟩
set_option maxRecDepth 100000 in
theorem ms_X4_demandCredit : k_Ms yX4_demandCredit := List.mem_of_getElem? (i := 239) (by decide +kernel)
set_option maxRecDepth 100000 in
theorem mc_X4_subscriberOf : k_Mc yX4_subscriberOf cX4_subscriberOf 3 (some (.object "RoamLedger$Subscriber")) 1 := ⟨List.mem_of_getElem? (i := 271) (by decide +kernel), List.mem_of_getElem? (i := 10) (by decide +kernel), by decide +kernel, by decide +kernel, by decide +kernel⟩
set_option maxRecDepth 100000 in
theorem mv_X4_subscriberOf : k_Mv yX4_subscriberOf := ⟨List.mem_of_getElem? (i := 270) (by decide +kernel), List.mem_of_getElem? (i := 1) (by decide +kernel)⟩
set_option maxRecDepth 100000 in
theorem mc_X4_talkOf : k_Mc yX4_talkOf cX4_talkOf 3 (some (.object "RoamLedger$Talk")) 1 := ⟨List.mem_of_getElem? (i := 399) (by decide +kernel), List.mem_of_getElem? (i := 10) (by decide +kernel), by decide +kernel, by decide +kernel, by decide +kernel⟩
set_option maxRecDepth 100000 in
theorem mv_X4_talkOf : k_Mv yX4_talkOf := ⟨List.mem_of_getElem? (i := 398) (by decide +kernel), List.mem_of_getElem? (i := 7) (by decide +kernel)⟩
set_option maxRecDepth 100000 in
theorem mc_X4_isTalking : k_Mc yX4_isTalking cX4_isTalking 6 (some .boolean) 1 := ⟨List.mem_of_getElem? (i := 297) (by decide +kernel), List.mem_of_getElem? (i := 10) (by decide +kernel), by decide +kernel, by decide +kernel, by decide +kernel⟩
set_option maxRecDepth 100000 in
theorem mv_X4_isTalking : k_Mv yX4_isTalking := ⟨List.mem_of_getElem? (i := 296) (by decide +kernel), List.mem_of_getElem? (i := 2) (by decide +kernel)⟩
set_option maxRecDepth 100000 in
theorem mc_X4_newTalk : k_Mc yX4_newTalk cX4_newTalk 8 (some (.object "RoamLedger$Talk")) 3 := ⟨List.mem_of_getElem? (i := 338) (by decide +kernel), List.mem_of_getElem? (i := 10) (by decide +kernel), by decide +kernel, by decide +kernel, by decide +kernel⟩
set_option maxRecDepth 100000 in
theorem mv_X4_newTalk : k_Mv yX4_newTalk := ⟨List.mem_of_getElem? (i := 337) (by decide +kernel), List.mem_of_getElem? (i := 6) (by decide +kernel)⟩
set_option maxRecDepth 100000 in
theorem mc_X4_runOneMinute : k_Mc yX4_runOneMinute cX4_runOneMinute 3 (some .boolean) 1 := ⟨List.mem_of_getElem? (i := 410) (by decide +kernel), List.mem_of_getElem? (i := 10) (by decide +kernel), by decide +kernel, by decide +kernel, by decide +kernel⟩
set_option maxRecDepth 100000 in
theorem mv_X4_runOneMinute : k_Mv yX4_runOneMinute := ⟨List.mem_of_getElem? (i := 409) (by decide +kernel), List.mem_of_getElem? (i := 8) (by decide +kernel)⟩
set_option maxRecDepth 100000 in
theorem mc_J9_min_7cf53 : k_Mc yJ9_min_7cf53 cJ9_min_7cf53 2 (some .int) 2 := ⟨List.mem_of_getElem? (i := 321) (by decide +kernel), List.mem_of_getElem? (i := 21) (by decide +kernel), by decide +kernel, by decide +kernel, by decide +kernel⟩
set_option maxRecDepth 100000 in
theorem ms_J9_min_7cf53 : k_Ms yJ9_min_7cf53 := List.mem_of_getElem? (i := 320) (by decide +kernel)
set_option maxRecDepth 100000 in
theorem mc_J7_fill_53178 : k_Mc yJ7_fill_53178 cJ7_fill_53178 4 none 2 := ⟨List.mem_of_getElem? (i := 39) (by decide +kernel), List.mem_of_getElem? (i := 12) (by decide +kernel), by decide +kernel, by decide +kernel, by decide +kernel⟩
set_option maxRecDepth 100000 in
theorem ms_J7_fill_53178 : k_Ms yJ7_fill_53178 := List.mem_of_getElem? (i := 38) (by decide +kernel)
set_option maxRecDepth 100000 in
theorem mc_L_cell : k_Mc yL_cell cL_cell 2 (some .int) 2 := ⟨List.mem_of_getElem? (i := 449) (by decide +kernel), List.mem_of_getElem? (i := 9) (by decide +kernel), by decide +kernel, by decide +kernel, by decide +kernel⟩
set_option maxRecDepth 100000 in
theorem ms_L_cell : k_Ms yL_cell := List.mem_of_getElem? (i := 448) (by decide +kernel)
set_option maxRecDepth 100000 in
theorem mc_L_low : k_Mc yL_low cL_low 2 (some .int) 2 := ⟨List.mem_of_getElem? (i := 454) (by decide +kernel), List.mem_of_getElem? (i := 9) (by decide +kernel), by decide +kernel, by decide +kernel, by decide +kernel⟩
set_option maxRecDepth 100000 in
theorem ms_L_low : k_Ms yL_low := List.mem_of_getElem? (i := 453) (by decide +kernel)
set_option maxRecDepth 100000 in
theorem mc_L_shut : k_Mc yL_shut cL_shut 5 (some .boolean) 4 := ⟨List.mem_of_getElem? (i := 462) (by decide +kernel), List.mem_of_getElem? (i := 9) (by decide +kernel), by decide +kernel, by decide +kernel, by decide +kernel⟩
set_option maxRecDepth 100000 in
theorem ms_L_shut : k_Ms yL_shut := List.mem_of_getElem? (i := 461) (by decide +kernel)
set_option maxRecDepth 100000 in
theorem mc_L_best : k_Mc yL_best cL_best 17 (some .int) 4 := ⟨List.mem_of_getElem? (i := 458) (by decide +kernel), List.mem_of_getElem? (i := 9) (by decide +kernel), by decide +kernel, by decide +kernel, by decide +kernel⟩
set_option maxRecDepth 100000 in
theorem ms_L_best : k_Ms yL_best := List.mem_of_getElem? (i := 457) (by decide +kernel)
set_option maxRecDepth 100000 in
theorem mc_L_cost : k_Mc yL_cost cL_cost 4 (some .int) 2 := ⟨List.mem_of_getElem? (i := 544) (by decide +kernel), List.mem_of_getElem? (i := 9) (by decide +kernel), by decide +kernel, by decide +kernel, by decide +kernel⟩
set_option maxRecDepth 100000 in
theorem ms_L_cost : k_Ms yL_cost := List.mem_of_getElem? (i := 543) (by decide +kernel)
set_option maxRecDepth 100000 in
theorem mc_L_end : k_Mc yL_end cL_end 2 (some .int) 1 := ⟨List.mem_of_getElem? (i := 471) (by decide +kernel), List.mem_of_getElem? (i := 9) (by decide +kernel), by decide +kernel, by decide +kernel, by decide +kernel⟩
set_option maxRecDepth 100000 in
theorem ms_L_end : k_Ms yL_end := List.mem_of_getElem? (i := 470) (by decide +kernel)
set_option maxRecDepth 100000 in
theorem mc_L_busy : k_Mc yL_busy cL_busy 4 (some .boolean) 3 := ⟨List.mem_of_getElem? (i := 465) (by decide +kernel), List.mem_of_getElem? (i := 9) (by decide +kernel), by decide +kernel, by decide +kernel, by decide +kernel⟩
set_option maxRecDepth 100000 in
theorem ms_L_busy : k_Ms yL_busy := List.mem_of_getElem? (i := 464) (by decide +kernel)
set_option maxRecDepth 100000 in
theorem mc_L_minute : k_Mc yL_minute cL_minute 12 none 6 := ⟨List.mem_of_getElem? (i := 468) (by decide +kernel), List.mem_of_getElem? (i := 9) (by decide +kernel), by decide +kernel, by decide +kernel, by decide +kernel⟩
set_option maxRecDepth 100000 in
theorem ms_L_minute : k_Ms yL_minute := List.mem_of_getElem? (i := 467) (by decide +kernel)
set_option maxRecDepth 100000 in
theorem ms_L_refused : k_Ms yL_refused := List.mem_of_getElem? (i := 473) (by decide +kernel)
set_option maxRecDepth 100000 in
theorem mc_L_same : k_Mc yL_same cL_same 14 (some .boolean) 8 := ⟨List.mem_of_getElem? (i := 495) (by decide +kernel), List.mem_of_getElem? (i := 9) (by decide +kernel), by decide +kernel, by decide +kernel, by decide +kernel⟩
set_option maxRecDepth 100000 in
theorem ms_L_same : k_Ms yL_same := List.mem_of_getElem? (i := 494) (by decide +kernel)
set_option maxRecDepth 100000 in
theorem lk_L_98 : Cond.methodLink RL 98 yX4_init ∈ lw_tbl := List.mem_of_getElem? (i := 25) (by decide +kernel)
set_option maxRecDepth 100000 in
theorem lk_X4_18 : Cond.methodLink RX4 18 yX0_init ∈ lw_tbl := List.mem_of_getElem? (i := 33) (by decide +kernel)
set_option maxRecDepth 100000 in
theorem lk_X0_25 : Cond.methodLink RX0 25 yJ7_fill_53178 ∈ lw_tbl := List.mem_of_getElem? (i := 37) (by decide +kernel)
set_option maxRecDepth 100000 in
theorem lk_X4_37 : Cond.methodLinkNest RX4 37 yX1_init RX4 ∈ lw_tbl := List.mem_of_getElem? (i := 61) (by decide +kernel)
set_option maxRecDepth 100000 in
theorem lk_X4_42 : Cond.methodLink RX4 42 yJ7_fill_53178 ∈ lw_tbl := List.mem_of_getElem? (i := 74) (by decide +kernel)
set_option maxRecDepth 100000 in
theorem lk_L_114 : Cond.methodLink RL 114 yX4_tariff ∈ lw_tbl := List.mem_of_getElem? (i := 100) (by decide +kernel)
set_option maxRecDepth 100000 in
theorem lk_X4_48 : Cond.methodLink RX4 48 yX4_demandCarrier ∈ lw_tbl := List.mem_of_getElem? (i := 104) (by decide +kernel)
set_option maxRecDepth 100000 in
theorem lk_X4_204 : Cond.methodLink RX4 204 yX4_isCarrier ∈ lw_tbl := List.mem_of_getElem? (i := 107) (by decide +kernel)
set_option maxRecDepth 100000 in
theorem lk_X4_52 : Cond.methodLink RX4 52 yX4_isWithin ∈ lw_tbl := List.mem_of_getElem? (i := 178) (by decide +kernel)
set_option maxRecDepth 100000 in
theorem lk_L_110 : Cond.methodLink RL 110 yX4_link ∈ lw_tbl := List.mem_of_getElem? (i := 197) (by decide +kernel)
set_option maxRecDepth 100000 in
theorem lk_X4_66 : Cond.methodLink RX4 66 yX0_rateOf ∈ lw_tbl := List.mem_of_getElem? (i := 203) (by decide +kernel)
set_option maxRecDepth 100000 in
theorem lk_X0_31 : Cond.methodLinkNest RX0 31 yX4_pairOf RX4 ∈ lw_tbl := List.mem_of_getElem? (i := 207) (by decide +kernel)
set_option maxRecDepth 100000 in
theorem lk_X4_70 : Cond.methodLink RX4 70 yX0_setLink ∈ lw_tbl := List.mem_of_getElem? (i := 210) (by decide +kernel)
set_option maxRecDepth 100000 in
theorem lk_L_38 : Cond.methodLink RL 38 yX4_unlink ∈ lw_tbl := List.mem_of_getElem? (i := 214) (by decide +kernel)
set_option maxRecDepth 100000 in
theorem lk_L_106 : Cond.methodLink RL 106 yX4_number ∈ lw_tbl := List.mem_of_getElem? (i := 234) (by decide +kernel)
set_option maxRecDepth 100000 in
theorem lk_X4_79 : Cond.methodLink RX4 79 yX4_demandCredit ∈ lw_tbl := List.mem_of_getElem? (i := 238) (by decide +kernel)
set_option maxRecDepth 100000 in
theorem lk_X4_89 : Cond.methodLink RX4 89 yX2_init ∈ lw_tbl := List.mem_of_getElem? (i := 244) (by decide +kernel)
set_option maxRecDepth 100000 in
theorem lk_L_41 : Cond.methodLink RL 41 yX4_carryOver ∈ lw_tbl := List.mem_of_getElem? (i := 264) (by decide +kernel)
set_option maxRecDepth 100000 in
theorem lk_X4_92 : Cond.methodLink RX4 92 yX4_subscriberOf ∈ lw_tbl := List.mem_of_getElem? (i := 268) (by decide +kernel)
set_option maxRecDepth 100000 in
theorem lk_X4_96 : Cond.methodLink RX4 96 yX2_homeAt ∈ lw_tbl := List.mem_of_getElem? (i := 273) (by decide +kernel)
set_option maxRecDepth 100000 in
theorem lk_X4_102 : Cond.methodLink RX4 102 yX2_moveTo ∈ lw_tbl := List.mem_of_getElem? (i := 278) (by decide +kernel)
set_option maxRecDepth 100000 in
theorem lk_L_117 : Cond.methodLink RL 117 yX4_topUp ∈ lw_tbl := List.mem_of_getElem? (i := 283) (by decide +kernel)
set_option maxRecDepth 100000 in
theorem lk_L_25 : Cond.methodLink RL 25 yX4_call ∈ lw_tbl := List.mem_of_getElem? (i := 289) (by decide +kernel)
set_option maxRecDepth 100000 in
theorem lk_X4_127 : Cond.methodLink RX4 127 yX4_isTalking ∈ lw_tbl := List.mem_of_getElem? (i := 294) (by decide +kernel)
set_option maxRecDepth 100000 in
theorem lk_X4_138 : Cond.methodLink RX4 138 yX0_findBest ∈ lw_tbl := List.mem_of_getElem? (i := 300) (by decide +kernel)
set_option maxRecDepth 100000 in
theorem lk_X0_66 : Cond.methodLinkNest RX0 66 yX4_isCarrier RX4 ∈ lw_tbl := List.mem_of_getElem? (i := 304) (by decide +kernel)
set_option maxRecDepth 100000 in
theorem lk_X0_70 : Cond.methodLink RX0 70 yX0_weighWaysTo ∈ lw_tbl := List.mem_of_getElem? (i := 305) (by decide +kernel)
set_option maxRecDepth 100000 in
theorem lk_X0_45 : Cond.methodLink RX0 45 yX0_isOpen ∈ lw_tbl := List.mem_of_getElem? (i := 310) (by decide +kernel)
set_option maxRecDepth 100000 in
theorem lk_X0_84 : Cond.methodLink RX0 84 yX0_weightOver ∈ lw_tbl := List.mem_of_getElem? (i := 314) (by decide +kernel)
set_option maxRecDepth 100000 in
theorem lk_X0_49 : Cond.methodLink RX0 49 yX0_rateOf ∈ lw_tbl := List.mem_of_getElem? (i := 318) (by decide +kernel)
set_option maxRecDepth 100000 in
theorem lk_X0_87 : Cond.methodLink RX0 87 yJ9_min_7cf53 ∈ lw_tbl := List.mem_of_getElem? (i := 319) (by decide +kernel)
set_option maxRecDepth 100000 in
theorem lk_X0_75 : Cond.methodLink RX0 75 yX1_clear ∈ lw_tbl := List.mem_of_getElem? (i := 322) (by decide +kernel)
set_option maxRecDepth 100000 in
theorem lk_X0_78 : Cond.methodLink RX0 78 yX1_add ∈ lw_tbl := List.mem_of_getElem? (i := 326) (by decide +kernel)
set_option maxRecDepth 100000 in
theorem lk_X0_81 : Cond.methodLink RX0 81 yX0_nextOnBest ∈ lw_tbl := List.mem_of_getElem? (i := 330) (by decide +kernel)
set_option maxRecDepth 100000 in
theorem lk_X4_144 : Cond.methodLink RX4 144 yX4_newTalk ∈ lw_tbl := List.mem_of_getElem? (i := 335) (by decide +kernel)
set_option maxRecDepth 100000 in
theorem lk_X4_222 : Cond.methodLink RX4 222 yX3_init ∈ lw_tbl := List.mem_of_getElem? (i := 340) (by decide +kernel)
set_option maxRecDepth 100000 in
theorem lk_X3_11 : Cond.methodLinkNest RX3 11 yX1_init RX4 ∈ lw_tbl := List.mem_of_getElem? (i := 345) (by decide +kernel)
set_option maxRecDepth 100000 in
theorem lk_X4_225 : Cond.methodLink RX4 225 yX1_become ∈ lw_tbl := List.mem_of_getElem? (i := 382) (by decide +kernel)
set_option maxRecDepth 100000 in
theorem lk_X1_19 : Cond.methodLink RX1 19 yX1_clear ∈ lw_tbl := List.mem_of_getElem? (i := 386) (by decide +kernel)
set_option maxRecDepth 100000 in
theorem lk_X1_22 : Cond.methodLink RX1 22 yX1_carrierAt ∈ lw_tbl := List.mem_of_getElem? (i := 387) (by decide +kernel)
set_option maxRecDepth 100000 in
theorem lk_X1_26 : Cond.methodLink RX1 26 yX1_add ∈ lw_tbl := List.mem_of_getElem? (i := 391) (by decide +kernel)
set_option maxRecDepth 100000 in
theorem lk_L_31 : Cond.methodLink RL 31 yX4_hangUp ∈ lw_tbl := List.mem_of_getElem? (i := 392) (by decide +kernel)
set_option maxRecDepth 100000 in
theorem lk_X4_148 : Cond.methodLink RX4 148 yX4_talkOf ∈ lw_tbl := List.mem_of_getElem? (i := 396) (by decide +kernel)
set_option maxRecDepth 100000 in
theorem lk_L_128 : Cond.methodLink RL 128 yX4_pass ∈ lw_tbl := List.mem_of_getElem? (i := 402) (by decide +kernel)
set_option maxRecDepth 100000 in
theorem lk_X4_162 : Cond.methodLink RX4 162 yX4_runOneMinute ∈ lw_tbl := List.mem_of_getElem? (i := 407) (by decide +kernel)
set_option maxRecDepth 100000 in
theorem lk_X4_229 : Cond.methodLink RX4 229 yX0_isOpenAlong ∈ lw_tbl := List.mem_of_getElem? (i := 411) (by decide +kernel)
set_option maxRecDepth 100000 in
theorem lk_X0_41 : Cond.methodLink RX0 41 yX1_carrierAt ∈ lw_tbl := List.mem_of_getElem? (i := 415) (by decide +kernel)
set_option maxRecDepth 100000 in
theorem lk_X4_172 : Cond.methodLink RX4 172 yX1_carrierAt ∈ lw_tbl := List.mem_of_getElem? (i := 416) (by decide +kernel)
set_option maxRecDepth 100000 in
theorem lk_X4_236 : Cond.methodLink RX4 236 yX3_isStepDue ∈ lw_tbl := List.mem_of_getElem? (i := 417) (by decide +kernel)
set_option maxRecDepth 100000 in
theorem lk_X4_246 : Cond.methodLink RX4 246 yX2_pay ∈ lw_tbl := List.mem_of_getElem? (i := 421) (by decide +kernel)
set_option maxRecDepth 100000 in
theorem lk_X4_249 : Cond.methodLink RX4 249 yX0_charge ∈ lw_tbl := List.mem_of_getElem? (i := 425) (by decide +kernel)
set_option maxRecDepth 100000 in
theorem lk_X0_58 : Cond.methodLink RX0 58 yX0_addDebt ∈ lw_tbl := List.mem_of_getElem? (i := 429) (by decide +kernel)
set_option maxRecDepth 100000 in
theorem lk_X0_62 : Cond.methodLink RX0 62 yX3_addCharge ∈ lw_tbl := List.mem_of_getElem? (i := 433) (by decide +kernel)
set_option maxRecDepth 100000 in
theorem lk_L_34 : Cond.methodLink RL 34 yX4_settle ∈ lw_tbl := List.mem_of_getElem? (i := 437) (by decide +kernel)
set_option maxRecDepth 100000 in
theorem lk_X4_187 : Cond.methodLink RX4 187 yX0_debtOf ∈ lw_tbl := List.mem_of_getElem? (i := 441) (by decide +kernel)
set_option maxRecDepth 100000 in
theorem lk_X4_200 : Cond.methodLink RX4 200 yX0_addDebt ∈ lw_tbl := List.mem_of_getElem? (i := 446) (by decide +kernel)
set_option maxRecDepth 100000 in
theorem lk_L_99 : Cond.methodLink RL 99 yL_cell ∈ lw_tbl := List.mem_of_getElem? (i := 447) (by decide +kernel)
set_option maxRecDepth 100000 in
theorem lk_L_103 : Cond.methodLink RL 103 yL_low ∈ lw_tbl := List.mem_of_getElem? (i := 452) (by decide +kernel)
set_option maxRecDepth 100000 in
theorem lk_L_21 : Cond.methodLink RL 21 yL_best ∈ lw_tbl := List.mem_of_getElem? (i := 456) (by decide +kernel)
set_option maxRecDepth 100000 in
theorem lk_L_11 : Cond.methodLink RL 11 yL_shut ∈ lw_tbl := List.mem_of_getElem? (i := 460) (by decide +kernel)
set_option maxRecDepth 100000 in
theorem lk_L_120 : Cond.methodLink RL 120 yL_busy ∈ lw_tbl := List.mem_of_getElem? (i := 463) (by decide +kernel)
set_option maxRecDepth 100000 in
theorem lk_L_124 : Cond.methodLink RL 124 yL_minute ∈ lw_tbl := List.mem_of_getElem? (i := 466) (by decide +kernel)
set_option maxRecDepth 100000 in
theorem lk_L_17 : Cond.methodLink RL 17 yL_end ∈ lw_tbl := List.mem_of_getElem? (i := 469) (by decide +kernel)
set_option maxRecDepth 100000 in
theorem lk_L_65 : Cond.methodLink RL 65 yL_refused ∈ lw_tbl := List.mem_of_getElem? (i := 472) (by decide +kernel)
set_option maxRecDepth 100000 in
theorem lk_L_44 : Cond.methodLink RL 44 yX4_way ∈ lw_tbl := List.mem_of_getElem? (i := 478) (by decide +kernel)
set_option maxRecDepth 100000 in
theorem lk_L_47 : Cond.methodLink RL 47 yX4_best ∈ lw_tbl := List.mem_of_getElem? (i := 483) (by decide +kernel)
set_option maxRecDepth 100000 in
theorem lk_L_50 : Cond.methodLink RL 50 yX4_home ∈ lw_tbl := List.mem_of_getElem? (i := 488) (by decide +kernel)
set_option maxRecDepth 100000 in
theorem lk_L_131 : Cond.methodLink RL 131 yL_same ∈ lw_tbl := List.mem_of_getElem? (i := 493) (by decide +kernel)
set_option maxRecDepth 100000 in
theorem lk_L_59 : Cond.methodLink RL 59 yX4_balance ∈ lw_tbl := List.mem_of_getElem? (i := 496) (by decide +kernel)
set_option maxRecDepth 100000 in
theorem lk_L_62 : Cond.methodLink RL 62 yX4_bundle ∈ lw_tbl := List.mem_of_getElem? (i := 500) (by decide +kernel)
set_option maxRecDepth 100000 in
theorem lk_L_69 : Cond.methodLink RL 69 yX4_state ∈ lw_tbl := List.mem_of_getElem? (i := 504) (by decide +kernel)
set_option maxRecDepth 100000 in
theorem lk_L_72 : Cond.methodLink RL 72 yX4_minutes ∈ lw_tbl := List.mem_of_getElem? (i := 508) (by decide +kernel)
set_option maxRecDepth 100000 in
theorem lk_L_75 : Cond.methodLink RL 75 yX4_moved ∈ lw_tbl := List.mem_of_getElem? (i := 512) (by decide +kernel)
set_option maxRecDepth 100000 in
theorem lk_L_78 : Cond.methodLink RL 78 yX4_debt ∈ lw_tbl := List.mem_of_getElem? (i := 516) (by decide +kernel)
set_option maxRecDepth 100000 in
theorem lk_L_81 : Cond.methodLink RL 81 yX4_charged ∈ lw_tbl := List.mem_of_getElem? (i := 520) (by decide +kernel)
set_option maxRecDepth 100000 in
theorem lk_X4_191 : Cond.methodLink RX4 191 yX4_pairOf ∈ lw_tbl := List.mem_of_getElem? (i := 524) (by decide +kernel)
set_option maxRecDepth 100000 in
theorem lk_X4_194 : Cond.methodLink RX4 194 yX3_chargeOf ∈ lw_tbl := List.mem_of_getElem? (i := 525) (by decide +kernel)
set_option maxRecDepth 100000 in
theorem lk_L_84 : Cond.methodLink RL 84 yX4_isBarred ∈ lw_tbl := List.mem_of_getElem? (i := 529) (by decide +kernel)
set_option maxRecDepth 100000 in
theorem lk_X4_183 : Cond.methodLink RX4 183 yX0_isOpen ∈ lw_tbl := List.mem_of_getElem? (i := 533) (by decide +kernel)
set_option maxRecDepth 100000 in
theorem lk_L_88 : Cond.methodLink RL 88 yX4_cost ∈ lw_tbl := List.mem_of_getElem? (i := 534) (by decide +kernel)
set_option maxRecDepth 100000 in
theorem lk_X4_177 : Cond.methodLink RX4 177 yX0_costOf ∈ lw_tbl := List.mem_of_getElem? (i := 538) (by decide +kernel)
set_option maxRecDepth 100000 in
theorem lk_L_91 : Cond.methodLink RL 91 yL_cost ∈ lw_tbl := List.mem_of_getElem? (i := 542) (by decide +kernel)
set_option maxRecDepth 100000 in
theorem lk_L_94 : Cond.methodLink RL 94 yX4_position ∈ lw_tbl := List.mem_of_getElem? (i := 545) (by decide +kernel)
set_option maxRecDepth 100000 in
theorem ck_L_26 : Cond.classLink RL 26 RX4 ∈ lw_tbl := List.mem_of_getElem? (i := 23) (by decide +kernel)
set_option maxRecDepth 100000 in
theorem ck_X4_16 : Cond.classLink RX4 16 RX0 ∈ lw_tbl := List.mem_of_getElem? (i := 31) (by decide +kernel)
set_option maxRecDepth 100000 in
theorem ck_X4_23 : Cond.classLink RX4 23 RX2 ∈ lw_tbl := List.mem_of_getElem? (i := 55) (by decide +kernel)
set_option maxRecDepth 100000 in
theorem ck_X4_29 : Cond.classLink RX4 29 RX3 ∈ lw_tbl := List.mem_of_getElem? (i := 57) (by decide +kernel)
set_option maxRecDepth 100000 in
theorem ck_X4_35 : Cond.classLink RX4 35 RX1 ∈ lw_tbl := List.mem_of_getElem? (i := 59) (by decide +kernel)
set_option maxRecDepth 100000 in
theorem ck_X4_111 : Cond.classLink RX4 111 e_IO ∈ lw_tbl := List.mem_of_getElem? (i := 110) (by decide +kernel)
set_option maxRecDepth 100000 in
theorem ck_X4_56 : Cond.classLink RX4 56 e_IA ∈ lw_tbl := List.mem_of_getElem? (i := 181) (by decide +kernel)
set_option maxRecDepth 100000 in
theorem ck_X4_74 : Cond.classLink RX4 74 e_IS ∈ lw_tbl := List.mem_of_getElem? (i := 218) (by decide +kernel)
set_option maxRecDepth 100000 in
theorem ck_X3_9 : Cond.classLink RX3 9 RX1 ∈ lw_tbl := List.mem_of_getElem? (i := 344) (by decide +kernel)
set_option maxRecDepth 100000 in
theorem ck_L_53 : Cond.classLink RL 53 e_IO ∈ lw_tbl := List.mem_of_getElem? (i := 475) (by decide +kernel)
set_option maxRecDepth 100000 in
theorem ck_L_55 : Cond.classLink RL 55 e_IA ∈ lw_tbl := List.mem_of_getElem? (i := 476) (by decide +kernel)
set_option maxRecDepth 100000 in
theorem ck_L_57 : Cond.classLink RL 57 e_IS ∈ lw_tbl := List.mem_of_getElem? (i := 477) (by decide +kernel)
set_option maxRecDepth 100000 in
theorem sk_X4_207 : Cond.stringRef RX4 207 "no such carrier" ∈ lw_tbl := List.mem_of_getElem? (i := 151) (by decide +kernel)
set_option maxRecDepth 100000 in
theorem sk_X4_58 : Cond.stringRef RX4 58 "step or price is out of its range" ∈ lw_tbl := List.mem_of_getElem? (i := 190) (by decide +kernel)
set_option maxRecDepth 100000 in
theorem sk_X4_64 : Cond.stringRef RX4 64 "both are the same, or rate or trust is out of its range" ∈ lw_tbl := List.mem_of_getElem? (i := 202) (by decide +kernel)
set_option maxRecDepth 100000 in
theorem sk_X4_76 : Cond.stringRef RX4 76 "there is no such link" ∈ lw_tbl := List.mem_of_getElem? (i := 227) (by decide +kernel)
set_option maxRecDepth 100000 in
theorem sk_X4_209 : Cond.stringRef RX4 209 "balance or bundle is out of its range" ∈ lw_tbl := List.mem_of_getElem? (i := 241) (by decide +kernel)
set_option maxRecDepth 100000 in
theorem sk_X4_87 : Cond.stringRef RX4 87 "all numbers are given out" ∈ lw_tbl := List.mem_of_getElem? (i := 242) (by decide +kernel)
set_option maxRecDepth 100000 in
theorem sk_X4_211 : Cond.stringRef RX4 211 "no such number" ∈ lw_tbl := List.mem_of_getElem? (i := 272) (by decide +kernel)
set_option maxRecDepth 100000 in
theorem sk_X4_100 : Cond.stringRef RX4 100 "it is its home already" ∈ lw_tbl := List.mem_of_getElem? (i := 277) (by decide +kernel)
set_option maxRecDepth 100000 in
theorem sk_X4_106 : Cond.stringRef RX4 106 "its chain is full" ∈ lw_tbl := List.mem_of_getElem? (i := 282) (by decide +kernel)
set_option maxRecDepth 100000 in
theorem sk_X4_123 : Cond.stringRef RX4 123 "its balance or its bundle would be too large" ∈ lw_tbl := List.mem_of_getElem? (i := 288) (by decide +kernel)
set_option maxRecDepth 100000 in
theorem sk_X4_125 : Cond.stringRef RX4 125 "a number cannot call itself" ∈ lw_tbl := List.mem_of_getElem? (i := 293) (by decide +kernel)
set_option maxRecDepth 100000 in
theorem sk_X4_131 : Cond.stringRef RX4 131 "one of them has a running call" ∈ lw_tbl := List.mem_of_getElem? (i := 298) (by decide +kernel)
set_option maxRecDepth 100000 in
theorem sk_X4_136 : Cond.stringRef RX4 136 "the list of calls is full" ∈ lw_tbl := List.mem_of_getElem? (i := 299) (by decide +kernel)
set_option maxRecDepth 100000 in
theorem sk_X4_142 : Cond.stringRef RX4 142 "there is no way" ∈ lw_tbl := List.mem_of_getElem? (i := 334) (by decide +kernel)
set_option maxRecDepth 100000 in
theorem sk_X4_213 : Cond.stringRef RX4 213 "no such call" ∈ lw_tbl := List.mem_of_getElem? (i := 400) (by decide +kernel)
set_option maxRecDepth 100000 in
theorem sk_X4_155 : Cond.stringRef RX4 155 "it is not running" ∈ lw_tbl := List.mem_of_getElem? (i := 401) (by decide +kernel)
set_option maxRecDepth 100000 in
theorem sk_X4_160 : Cond.stringRef RX4 160 "minutes is out of its range" ∈ lw_tbl := List.mem_of_getElem? (i := 406) (by decide +kernel)
set_option maxRecDepth 100000 in
theorem sk_X4_198 : Cond.stringRef RX4 198 "its debt is not above 0" ∈ lw_tbl := List.mem_of_getElem? (i := 445) (by decide +kernel)
set_option maxRecDepth 100000 in
theorem sk_X4_175 : Cond.stringRef RX4 175 "its way has not so many carriers" ∈ lw_tbl := List.mem_of_getElem? (i := 482) (by decide +kernel)
set_option maxRecDepth 100000 in
theorem sk_X4_181 : Cond.stringRef RX4 181 "there is no way, or it has not so many carriers" ∈ lw_tbl := List.mem_of_getElem? (i := 487) (by decide +kernel)
set_option maxRecDepth 100000 in
theorem sk_X4_113 : Cond.stringRef RX4 113 "there are not so many homes" ∈ lw_tbl := List.mem_of_getElem? (i := 492) (by decide +kernel)
set_option maxRecDepth 100000 in
theorem ik_L : Cond.initialized RL ∈ lw_tbl := List.mem_of_getElem? (i := 9) (by decide +kernel)
set_option maxRecDepth 100000 in
theorem ik_X4 : Cond.initialized RX4 ∈ lw_tbl := List.mem_of_getElem? (i := 10) (by decide +kernel)
set_option maxRecDepth 100000 in
theorem ik_X0 : Cond.initialized RX0 ∈ lw_tbl := List.mem_of_getElem? (i := 11) (by decide +kernel)
set_option maxRecDepth 100000 in
theorem ik_J7 : Cond.initialized RJ7 ∈ lw_tbl := List.mem_of_getElem? (i := 12) (by decide +kernel)
set_option maxRecDepth 100000 in
theorem ik_X1 : Cond.initialized RX1 ∈ lw_tbl := List.mem_of_getElem? (i := 13) (by decide +kernel)
set_option maxRecDepth 100000 in
theorem ik_X2 : Cond.initialized RX2 ∈ lw_tbl := List.mem_of_getElem? (i := 20) (by decide +kernel)
set_option maxRecDepth 100000 in
theorem ik_J9 : Cond.initialized RJ9 ∈ lw_tbl := List.mem_of_getElem? (i := 21) (by decide +kernel)
set_option maxRecDepth 100000 in
theorem ik_X3 : Cond.initialized RX3 ∈ lw_tbl := List.mem_of_getElem? (i := 22) (by decide +kernel)
set_option maxRecDepth 100000 in
theorem ik_IO : Cond.initialized e_IO ∈ lw_tbl := List.mem_of_getElem? (i := 17) (by decide +kernel)
set_option maxRecDepth 100000 in
theorem tk_IO : Cond.castable e_IO e_IO ∈ lw_tbl := List.mem_of_getElem? (i := 112) (by decide +kernel)
set_option maxRecDepth 100000 in
theorem ik_IA : Cond.initialized e_IA ∈ lw_tbl := List.mem_of_getElem? (i := 18) (by decide +kernel)
set_option maxRecDepth 100000 in
theorem tk_IA : Cond.castable e_IA e_IA ∈ lw_tbl := List.mem_of_getElem? (i := 183) (by decide +kernel)
set_option maxRecDepth 100000 in
theorem ik_IS : Cond.initialized e_IS ∈ lw_tbl := List.mem_of_getElem? (i := 19) (by decide +kernel)
set_option maxRecDepth 100000 in
theorem tk_IS : Cond.castable e_IS e_IS ∈ lw_tbl := List.mem_of_getElem? (i := 220) (by decide +kernel)
set_option maxRecDepth 100000 in
theorem ok_i : Cond.instanceMethod Lib.objectInit ∈ lw_tbl := List.mem_of_getElem? (i := 29) (by decide +kernel)
set_option maxRecDepth 100000 in
theorem ok_c : Cond.code Lib.objectInit ⟨#[0xb1]⟩ 1 none ∈ lw_tbl := List.mem_of_getElem? (i := 30) (by decide +kernel)
end
section
/-- a truth value as the machine has it -/
def k_b (b : Bool) : Int32 := if b = true then 1 else 0
theorem kb0 {b : Bool} : k_b b = 0 ↔ b = false := by cases b <;> simp [k_b]
theorem kb1 {b : Bool} : ¬ k_b b = 0 ↔ b = true := by cases b <;> simp [k_b]
theorem kb_t : k_b true = 1 := rfl
theorem kb_f : k_b false = 0 := rfl
theorem kb_n (b : Bool) : narrow .boolean (.int (k_b b)) = .int (k_b b) := by cases b <;> decide
theorem kb_z (b : Bool) : vp_nar .boolean (k_b b) = k_b b := by cases b <;> decide
theorem vin_of {i : Int32} {n : Nat} (hn : n < 2 ^ 31) (h0 : ¬ i < 0) (h1 : ¬ nI n ≤ i) : vp_in i n := by
  rw [vp_in_iff]
  have h2 : (0 : Int32).toInt = 0 := rfl
  rw [Int32.lt_iff_toInt_lt, h2] at h0
  rw [Int32.le_iff_toInt_le, nI_toInt hn] at h1
  omega
abbrev k_Ci (l : Launch) (y : MethodName) (cc : ByteArray) (mL : Nat) (ret : Option FieldType) (fr lc : Nat) (D : va_G) (cy : Nat → ClassId) (lo : Nat) (R : List Nat) (ad : Nat → Nat) (w : Nat → va_E) (av : List Value) (rv : Int32) (w' : Nat → va_E) : Prop := k_Met l y cc mL ret { frames := fr, cells := 0, slots := 0, locals := lc } D cy lo R ad w av (k_Qi D lo (fun r u => r = rv ∧ u = (R, ad, w')))
abbrev k_Cl (l : Launch) (y : MethodName) (cc : ByteArray) (mL : Nat) (ret : Option FieldType) (fr lc : Nat) (D : va_G) (cy : Nat → ClassId) (lo : Nat) (R : List Nat) (ad : Nat → Nat) (w : Nat → va_E) (av : List Value) (rv : Int64) (w' : Nat → va_E) : Prop := k_Met l y cc mL ret { frames := fr, cells := 0, slots := 0, locals := lc } D cy lo R ad w av (k_Ql D lo (fun r u => r = rv ∧ u = (R, ad, w')))
abbrev k_Cv (l : Launch) (y : MethodName) (cc : ByteArray) (mL : Nat) (ret : Option FieldType) (fr lc : Nat) (D : va_G) (cy : Nat → ClassId) (lo : Nat) (R : List Nat) (ad : Nat → Nat) (w : Nat → va_E) (av : List Value) (w' : Nat → va_E) : Prop := k_Met l y cc mL ret { frames := fr, cells := 0, slots := 0, locals := lc } D cy lo R ad w av (k_Qv D lo (fun u => u = (R, ad, w')))
abbrev k_Xi (l : Launch) (y : MethodName) (cc : ByteArray) (mL : Nat) (ret : Option FieldType) (fr lc mc ms : Nat) (D : va_G) (cy : Nat → ClassId) (lo : Nat) (R : List Nat) (ad : Nat → Nat) (w : Nat → va_E) (av : List Value) (ok : Prop) (xp : String → Prop) (rv : Int32) (w' : Nat → va_E) : Prop := k_MetX l y cc mL ret { frames := fr, cells := mc, slots := ms, locals := lc } D cy lo R ad w av (k_Qi D lo (fun r u => ok ∧ r = rv ∧ u = (R, ad, w'))) (fun E u => xp E ∧ u = (R, ad, w))
abbrev k_Xl (l : Launch) (y : MethodName) (cc : ByteArray) (mL : Nat) (ret : Option FieldType) (fr lc mc ms : Nat) (D : va_G) (cy : Nat → ClassId) (lo : Nat) (R : List Nat) (ad : Nat → Nat) (w : Nat → va_E) (av : List Value) (ok : Prop) (xp : String → Prop) (rv : Int64) (w' : Nat → va_E) : Prop := k_MetX l y cc mL ret { frames := fr, cells := mc, slots := ms, locals := lc } D cy lo R ad w av (k_Ql D lo (fun r u => ok ∧ r = rv ∧ u = (R, ad, w'))) (fun E u => xp E ∧ u = (R, ad, w))
abbrev k_Xv (l : Launch) (y : MethodName) (cc : ByteArray) (mL : Nat) (ret : Option FieldType) (fr lc mc ms : Nat) (D : va_G) (cy : Nat → ClassId) (lo : Nat) (R : List Nat) (ad : Nat → Nat) (w : Nat → va_E) (av : List Value) (ok : Prop) (xp : String → Prop) (w' : Nat → va_E) : Prop := k_MetX l y cc mL ret { frames := fr, cells := mc, slots := ms, locals := lc } D cy lo R ad w av (k_Qv D lo (fun u => ok ∧ u = (R, ad, w'))) (fun E u => xp E ∧ u = (R, ad, w))
abbrev k_Xq (l : Launch) (y : MethodName) (cc : ByteArray) (mL : Nat) (ret : Option FieldType) (fr lc mc ms : Nat) (D : va_G) (cy : Nat → ClassId) (lo : Nat) (R : List Nat) (ad : Nat → Nat) (w : Nat → va_E) (av : List Value) (ok : Prop) (xp : String → Prop) (rv : Option Nat) (w' : Nat → va_E) : Prop := k_MetX l y cc mL ret { frames := fr, cells := mc, slots := ms, locals := lc } D cy lo R ad w av (k_Qq D lo (fun r u => ok ∧ r = rv ∧ u = (R, ad, w'))) (fun E u => xp E ∧ u = (R, ad, w))
section KZ
variable {D : va_G} {cy : Nat → ClassId} {lo : Nat} {p : Program} {l : Launch} {e : Env} {Rm : Room} {s : State} {m : MethodId} {args : Array Value} {below : List Frame} {meth : Method} {c : Code} {cc : ByteArray} {nL cells slots : Nat} {Q : State → Prop} {own : String} {R : List Nat} {ad : Nat → Nat} {w w' : Nat → va_E} {pc : Nat} {lv : List (Nat × Value)} {st rest : List Value}
theorem z_callVi (F : k_F p m c cc nL s own D cy lo) {index mL n fr lc : Nat} {y : MethodName} {b : ByteArray} {ret : Option FieldType} {rv : Int32} (As : List Value) {r0 ci : Nat} {fs : List Value} {T : u_T} {N : Nat} (hM : k_Ci l y b mL ret fr lc D cy lo R ad w (.ref (ad r0) :: As) rv w') (hc : k_Mc y b mL ret n) (hv : k_Mv y) (hl : Cond.methodLink own index y ∈ lw_tbl) (hr : r0 ∈ R) (hw : w r0 = .inr (ci, fs)) (hcl : vwCl[ci]? = some (y.cls, T, N)) (hst : st = As.reverse ++ .ref (ad r0) :: rest) (hn : As.length = n) (hdg : decode cc pc = .ok (.invokevirtual index, 3)) (hR : fr + 1 ≤ Rm.frames ∧ 8 + (mL + 11) + lc ≤ Rm.locals) (hroom : cells ≤ Rm.cells ∧ slots ≤ Rm.slots) (hcat : (rest.map fun v => v.category).sum ≤ 8) (kk : XW D lo p l e Rm s m args below meth c nL cells slots Q R ad w' (pc + 3) lv (.int rv :: rest)) : XW D lo p l e Rm s m args below meth c nL cells slots Q R ad w pc lv (st) := x_callVi F As hM hc hv hl hr hw hcl hst hn hdg hR hroom hcat (fun r u h => by obtain ⟨rfl, rfl⟩ := h; exact kk)
theorem z_callSi (F : k_F p m c cc nL s own D cy lo) {index mL n fr lc : Nat} {y : MethodName} {b : ByteArray} {ret : Option FieldType} {rv : Int32} (As : List Value) (hM : k_Ci l y b mL ret fr lc D cy lo R ad w (As) rv w') (hc : k_Mc y b mL ret n) (hv : k_Ms y) (hl : Cond.methodLink own index y ∈ lw_tbl) (hst : st = As.reverse ++ rest) (hn : As.length = n) (hdg : decode cc pc = .ok (.invokestatic index, 3)) (hR : fr + 1 ≤ Rm.frames ∧ 8 + (mL + 11) + lc ≤ Rm.locals) (hroom : cells ≤ Rm.cells ∧ slots ≤ Rm.slots) (hcat : (rest.map fun v => v.category).sum ≤ 8) (kk : XW D lo p l e Rm s m args below meth c nL cells slots Q R ad w' (pc + 3) lv (.int rv :: rest)) : XW D lo p l e Rm s m args below meth c nL cells slots Q R ad w pc lv (st) := x_callSi F As hM hc hv hl hst hn hdg hR hroom hcat (fun r u h => by obtain ⟨rfl, rfl⟩ := h; exact kk)
theorem z_callSNi (F : k_F p m c cc nL s own D cy lo) {index mL n fr lc : Nat} {y : MethodName} {b : ByteArray} {ret : Option FieldType} {rv : Int32} (As : List Value) (hM : k_Ci l y b mL ret fr lc D cy lo R ad w (As) rv w') {host : String} (hc : k_Mc y b mL ret n) (hv : k_Ms y) (hl : Cond.methodLinkNest own index y host ∈ lw_tbl) (hst : st = As.reverse ++ rest) (hn : As.length = n) (hdg : decode cc pc = .ok (.invokestatic index, 3)) (hR : fr + 1 ≤ Rm.frames ∧ 8 + (mL + 11) + lc ≤ Rm.locals) (hroom : cells ≤ Rm.cells ∧ slots ≤ Rm.slots) (hcat : (rest.map fun v => v.category).sum ≤ 8) (kk : XW D lo p l e Rm s m args below meth c nL cells slots Q R ad w' (pc + 3) lv (.int rv :: rest)) : XW D lo p l e Rm s m args below meth c nL cells slots Q R ad w pc lv (st) := x_callSNi F As hM hc hv hl hst hn hdg hR hroom hcat (fun r u h => by obtain ⟨rfl, rfl⟩ := h; exact kk)
theorem z_callVl (F : k_F p m c cc nL s own D cy lo) {index mL n fr lc : Nat} {y : MethodName} {b : ByteArray} {ret : Option FieldType} {rv : Int64} (As : List Value) {r0 ci : Nat} {fs : List Value} {T : u_T} {N : Nat} (hM : k_Cl l y b mL ret fr lc D cy lo R ad w (.ref (ad r0) :: As) rv w') (hc : k_Mc y b mL ret n) (hv : k_Mv y) (hl : Cond.methodLink own index y ∈ lw_tbl) (hr : r0 ∈ R) (hw : w r0 = .inr (ci, fs)) (hcl : vwCl[ci]? = some (y.cls, T, N)) (hst : st = As.reverse ++ .ref (ad r0) :: rest) (hn : As.length = n) (hdg : decode cc pc = .ok (.invokevirtual index, 3)) (hR : fr + 1 ≤ Rm.frames ∧ 8 + (mL + 11) + lc ≤ Rm.locals) (hroom : cells ≤ Rm.cells ∧ slots ≤ Rm.slots) (hcat : (rest.map fun v => v.category).sum ≤ 8) (kk : XW D lo p l e Rm s m args below meth c nL cells slots Q R ad w' (pc + 3) lv (.long rv :: rest)) : XW D lo p l e Rm s m args below meth c nL cells slots Q R ad w pc lv (st) := x_callVl F As hM hc hv hl hr hw hcl hst hn hdg hR hroom hcat (fun r u h => by obtain ⟨rfl, rfl⟩ := h; exact kk)
theorem z_callSl (F : k_F p m c cc nL s own D cy lo) {index mL n fr lc : Nat} {y : MethodName} {b : ByteArray} {ret : Option FieldType} {rv : Int64} (As : List Value) (hM : k_Cl l y b mL ret fr lc D cy lo R ad w (As) rv w') (hc : k_Mc y b mL ret n) (hv : k_Ms y) (hl : Cond.methodLink own index y ∈ lw_tbl) (hst : st = As.reverse ++ rest) (hn : As.length = n) (hdg : decode cc pc = .ok (.invokestatic index, 3)) (hR : fr + 1 ≤ Rm.frames ∧ 8 + (mL + 11) + lc ≤ Rm.locals) (hroom : cells ≤ Rm.cells ∧ slots ≤ Rm.slots) (hcat : (rest.map fun v => v.category).sum ≤ 8) (kk : XW D lo p l e Rm s m args below meth c nL cells slots Q R ad w' (pc + 3) lv (.long rv :: rest)) : XW D lo p l e Rm s m args below meth c nL cells slots Q R ad w pc lv (st) := x_callSl F As hM hc hv hl hst hn hdg hR hroom hcat (fun r u h => by obtain ⟨rfl, rfl⟩ := h; exact kk)
theorem z_callSNl (F : k_F p m c cc nL s own D cy lo) {index mL n fr lc : Nat} {y : MethodName} {b : ByteArray} {ret : Option FieldType} {rv : Int64} (As : List Value) (hM : k_Cl l y b mL ret fr lc D cy lo R ad w (As) rv w') {host : String} (hc : k_Mc y b mL ret n) (hv : k_Ms y) (hl : Cond.methodLinkNest own index y host ∈ lw_tbl) (hst : st = As.reverse ++ rest) (hn : As.length = n) (hdg : decode cc pc = .ok (.invokestatic index, 3)) (hR : fr + 1 ≤ Rm.frames ∧ 8 + (mL + 11) + lc ≤ Rm.locals) (hroom : cells ≤ Rm.cells ∧ slots ≤ Rm.slots) (hcat : (rest.map fun v => v.category).sum ≤ 8) (kk : XW D lo p l e Rm s m args below meth c nL cells slots Q R ad w' (pc + 3) lv (.long rv :: rest)) : XW D lo p l e Rm s m args below meth c nL cells slots Q R ad w pc lv (st) := x_callSNl F As hM hc hv hl hst hn hdg hR hroom hcat (fun r u h => by obtain ⟨rfl, rfl⟩ := h; exact kk)
theorem z_callVv (F : k_F p m c cc nL s own D cy lo) {index mL n fr lc : Nat} {y : MethodName} {b : ByteArray} {ret : Option FieldType} (As : List Value) {r0 ci : Nat} {fs : List Value} {T : u_T} {N : Nat} (hM : k_Cv l y b mL ret fr lc D cy lo R ad w (.ref (ad r0) :: As) w') (hc : k_Mc y b mL ret n) (hv : k_Mv y) (hl : Cond.methodLink own index y ∈ lw_tbl) (hr : r0 ∈ R) (hw : w r0 = .inr (ci, fs)) (hcl : vwCl[ci]? = some (y.cls, T, N)) (hst : st = As.reverse ++ .ref (ad r0) :: rest) (hn : As.length = n) (hdg : decode cc pc = .ok (.invokevirtual index, 3)) (hR : fr + 1 ≤ Rm.frames ∧ 8 + (mL + 11) + lc ≤ Rm.locals) (hroom : cells ≤ Rm.cells ∧ slots ≤ Rm.slots) (hcat : (rest.map fun v => v.category).sum ≤ 8) (kk : XW D lo p l e Rm s m args below meth c nL cells slots Q R ad w' (pc + 3) lv (rest)) : XW D lo p l e Rm s m args below meth c nL cells slots Q R ad w pc lv (st) := x_callVv F As hM hc hv hl hr hw hcl hst hn hdg hR hroom hcat (fun u h => by subst h; exact kk)
theorem z_callSv (F : k_F p m c cc nL s own D cy lo) {index mL n fr lc : Nat} {y : MethodName} {b : ByteArray} {ret : Option FieldType} (As : List Value) (hM : k_Cv l y b mL ret fr lc D cy lo R ad w (As) w') (hc : k_Mc y b mL ret n) (hv : k_Ms y) (hl : Cond.methodLink own index y ∈ lw_tbl) (hst : st = As.reverse ++ rest) (hn : As.length = n) (hdg : decode cc pc = .ok (.invokestatic index, 3)) (hR : fr + 1 ≤ Rm.frames ∧ 8 + (mL + 11) + lc ≤ Rm.locals) (hroom : cells ≤ Rm.cells ∧ slots ≤ Rm.slots) (hcat : (rest.map fun v => v.category).sum ≤ 8) (kk : XW D lo p l e Rm s m args below meth c nL cells slots Q R ad w' (pc + 3) lv (rest)) : XW D lo p l e Rm s m args below meth c nL cells slots Q R ad w pc lv (st) := x_callSv F As hM hc hv hl hst hn hdg hR hroom hcat (fun u h => by subst h; exact kk)
theorem z_callSNv (F : k_F p m c cc nL s own D cy lo) {index mL n fr lc : Nat} {y : MethodName} {b : ByteArray} {ret : Option FieldType} (As : List Value) (hM : k_Cv l y b mL ret fr lc D cy lo R ad w (As) w') {host : String} (hc : k_Mc y b mL ret n) (hv : k_Ms y) (hl : Cond.methodLinkNest own index y host ∈ lw_tbl) (hst : st = As.reverse ++ rest) (hn : As.length = n) (hdg : decode cc pc = .ok (.invokestatic index, 3)) (hR : fr + 1 ≤ Rm.frames ∧ 8 + (mL + 11) + lc ≤ Rm.locals) (hroom : cells ≤ Rm.cells ∧ slots ≤ Rm.slots) (hcat : (rest.map fun v => v.category).sum ≤ 8) (kk : XW D lo p l e Rm s m args below meth c nL cells slots Q R ad w' (pc + 3) lv (rest)) : XW D lo p l e Rm s m args below meth c nL cells slots Q R ad w pc lv (st) := x_callSNv F As hM hc hv hl hst hn hdg hR hroom hcat (fun u h => by subst h; exact kk)
theorem z_callVix (F : k_F p m c cc nL s own D cy lo) {index mL n fr lc mc ms : Nat} {y : MethodName} {b : ByteArray} {ret : Option FieldType} {ok : Prop} {xp : String → Prop} {rv : Int32} (As : List Value) {r0 ci : Nat} {fs : List Value} {T : u_T} {N : Nat} (hM : k_Xi l y b mL ret fr lc mc ms D cy lo R ad w (.ref (ad r0) :: As) ok xp rv w') (hc : k_Mc y b mL ret n) (hv : k_Mv y) (hl : Cond.methodLink own index y ∈ lw_tbl) (hr : r0 ∈ R) (hw : w r0 = .inr (ci, fs)) (hcl : vwCl[ci]? = some (y.cls, T, N)) (hst : st = As.reverse ++ .ref (ad r0) :: rest) (hn : As.length = n) (hdg : decode cc pc = .ok (.invokevirtual index, 3)) (hR : fr + 1 ≤ Rm.frames ∧ 8 + (mL + 11) + lc ≤ Rm.locals) (hroom : cells + mc ≤ Rm.cells ∧ slots + ms ≤ Rm.slots) (hcat : (rest.map fun v => v.category).sum ≤ 8) (kx : ∀ E : String, xp E → XT D lo p l e Rm s m args below meth c nL (cells + mc) (slots + ms) Q R ad w pc lv rest E) (kk : ok → XW D lo p l e Rm s m args below meth c nL (cells + mc) (slots + ms) Q R ad w' (pc + 3) lv (.int rv :: rest)) : XW D lo p l e Rm s m args below meth c nL cells slots Q R ad w pc lv (st) := x_callVix F As hM hc hv hl hr hw hcl hst hn hdg hR hroom hcat (fun E u h => by obtain ⟨h0, rfl⟩ := h; exact kx E h0) (fun r u h => by obtain ⟨h0, rfl, rfl⟩ := h; exact kk h0)
theorem z_callSix (F : k_F p m c cc nL s own D cy lo) {index mL n fr lc mc ms : Nat} {y : MethodName} {b : ByteArray} {ret : Option FieldType} {ok : Prop} {xp : String → Prop} {rv : Int32} (As : List Value) (hM : k_Xi l y b mL ret fr lc mc ms D cy lo R ad w (As) ok xp rv w') (hc : k_Mc y b mL ret n) (hv : k_Ms y) (hl : Cond.methodLink own index y ∈ lw_tbl) (hst : st = As.reverse ++ rest) (hn : As.length = n) (hdg : decode cc pc = .ok (.invokestatic index, 3)) (hR : fr + 1 ≤ Rm.frames ∧ 8 + (mL + 11) + lc ≤ Rm.locals) (hroom : cells + mc ≤ Rm.cells ∧ slots + ms ≤ Rm.slots) (hcat : (rest.map fun v => v.category).sum ≤ 8) (kx : ∀ E : String, xp E → XT D lo p l e Rm s m args below meth c nL (cells + mc) (slots + ms) Q R ad w pc lv rest E) (kk : ok → XW D lo p l e Rm s m args below meth c nL (cells + mc) (slots + ms) Q R ad w' (pc + 3) lv (.int rv :: rest)) : XW D lo p l e Rm s m args below meth c nL cells slots Q R ad w pc lv (st) := x_callSix F As hM hc hv hl hst hn hdg hR hroom hcat (fun E u h => by obtain ⟨h0, rfl⟩ := h; exact kx E h0) (fun r u h => by obtain ⟨h0, rfl, rfl⟩ := h; exact kk h0)
theorem z_callVlx (F : k_F p m c cc nL s own D cy lo) {index mL n fr lc mc ms : Nat} {y : MethodName} {b : ByteArray} {ret : Option FieldType} {ok : Prop} {xp : String → Prop} {rv : Int64} (As : List Value) {r0 ci : Nat} {fs : List Value} {T : u_T} {N : Nat} (hM : k_Xl l y b mL ret fr lc mc ms D cy lo R ad w (.ref (ad r0) :: As) ok xp rv w') (hc : k_Mc y b mL ret n) (hv : k_Mv y) (hl : Cond.methodLink own index y ∈ lw_tbl) (hr : r0 ∈ R) (hw : w r0 = .inr (ci, fs)) (hcl : vwCl[ci]? = some (y.cls, T, N)) (hst : st = As.reverse ++ .ref (ad r0) :: rest) (hn : As.length = n) (hdg : decode cc pc = .ok (.invokevirtual index, 3)) (hR : fr + 1 ≤ Rm.frames ∧ 8 + (mL + 11) + lc ≤ Rm.locals) (hroom : cells + mc ≤ Rm.cells ∧ slots + ms ≤ Rm.slots) (hcat : (rest.map fun v => v.category).sum ≤ 8) (kx : ∀ E : String, xp E → XT D lo p l e Rm s m args below meth c nL (cells + mc) (slots + ms) Q R ad w pc lv rest E) (kk : ok → XW D lo p l e Rm s m args below meth c nL (cells + mc) (slots + ms) Q R ad w' (pc + 3) lv (.long rv :: rest)) : XW D lo p l e Rm s m args below meth c nL cells slots Q R ad w pc lv (st) := x_callVlx F As hM hc hv hl hr hw hcl hst hn hdg hR hroom hcat (fun E u h => by obtain ⟨h0, rfl⟩ := h; exact kx E h0) (fun r u h => by obtain ⟨h0, rfl, rfl⟩ := h; exact kk h0)
theorem z_callSlx (F : k_F p m c cc nL s own D cy lo) {index mL n fr lc mc ms : Nat} {y : MethodName} {b : ByteArray} {ret : Option FieldType} {ok : Prop} {xp : String → Prop} {rv : Int64} (As : List Value) (hM : k_Xl l y b mL ret fr lc mc ms D cy lo R ad w (As) ok xp rv w') (hc : k_Mc y b mL ret n) (hv : k_Ms y) (hl : Cond.methodLink own index y ∈ lw_tbl) (hst : st = As.reverse ++ rest) (hn : As.length = n) (hdg : decode cc pc = .ok (.invokestatic index, 3)) (hR : fr + 1 ≤ Rm.frames ∧ 8 + (mL + 11) + lc ≤ Rm.locals) (hroom : cells + mc ≤ Rm.cells ∧ slots + ms ≤ Rm.slots) (hcat : (rest.map fun v => v.category).sum ≤ 8) (kx : ∀ E : String, xp E → XT D lo p l e Rm s m args below meth c nL (cells + mc) (slots + ms) Q R ad w pc lv rest E) (kk : ok → XW D lo p l e Rm s m args below meth c nL (cells + mc) (slots + ms) Q R ad w' (pc + 3) lv (.long rv :: rest)) : XW D lo p l e Rm s m args below meth c nL cells slots Q R ad w pc lv (st) := x_callSlx F As hM hc hv hl hst hn hdg hR hroom hcat (fun E u h => by obtain ⟨h0, rfl⟩ := h; exact kx E h0) (fun r u h => by obtain ⟨h0, rfl, rfl⟩ := h; exact kk h0)
theorem z_callVvx (F : k_F p m c cc nL s own D cy lo) {index mL n fr lc mc ms : Nat} {y : MethodName} {b : ByteArray} {ret : Option FieldType} {ok : Prop} {xp : String → Prop} (As : List Value) {r0 ci : Nat} {fs : List Value} {T : u_T} {N : Nat} (hM : k_Xv l y b mL ret fr lc mc ms D cy lo R ad w (.ref (ad r0) :: As) ok xp w') (hc : k_Mc y b mL ret n) (hv : k_Mv y) (hl : Cond.methodLink own index y ∈ lw_tbl) (hr : r0 ∈ R) (hw : w r0 = .inr (ci, fs)) (hcl : vwCl[ci]? = some (y.cls, T, N)) (hst : st = As.reverse ++ .ref (ad r0) :: rest) (hn : As.length = n) (hdg : decode cc pc = .ok (.invokevirtual index, 3)) (hR : fr + 1 ≤ Rm.frames ∧ 8 + (mL + 11) + lc ≤ Rm.locals) (hroom : cells + mc ≤ Rm.cells ∧ slots + ms ≤ Rm.slots) (hcat : (rest.map fun v => v.category).sum ≤ 8) (kx : ∀ E : String, xp E → XT D lo p l e Rm s m args below meth c nL (cells + mc) (slots + ms) Q R ad w pc lv rest E) (kk : ok → XW D lo p l e Rm s m args below meth c nL (cells + mc) (slots + ms) Q R ad w' (pc + 3) lv (rest)) : XW D lo p l e Rm s m args below meth c nL cells slots Q R ad w pc lv (st) := x_callVvx F As hM hc hv hl hr hw hcl hst hn hdg hR hroom hcat (fun E u h => by obtain ⟨h0, rfl⟩ := h; exact kx E h0) (fun u h => by obtain ⟨h0, rfl⟩ := h; exact kk h0)
theorem z_callSvx (F : k_F p m c cc nL s own D cy lo) {index mL n fr lc mc ms : Nat} {y : MethodName} {b : ByteArray} {ret : Option FieldType} {ok : Prop} {xp : String → Prop} (As : List Value) (hM : k_Xv l y b mL ret fr lc mc ms D cy lo R ad w (As) ok xp w') (hc : k_Mc y b mL ret n) (hv : k_Ms y) (hl : Cond.methodLink own index y ∈ lw_tbl) (hst : st = As.reverse ++ rest) (hn : As.length = n) (hdg : decode cc pc = .ok (.invokestatic index, 3)) (hR : fr + 1 ≤ Rm.frames ∧ 8 + (mL + 11) + lc ≤ Rm.locals) (hroom : cells + mc ≤ Rm.cells ∧ slots + ms ≤ Rm.slots) (hcat : (rest.map fun v => v.category).sum ≤ 8) (kx : ∀ E : String, xp E → XT D lo p l e Rm s m args below meth c nL (cells + mc) (slots + ms) Q R ad w pc lv rest E) (kk : ok → XW D lo p l e Rm s m args below meth c nL (cells + mc) (slots + ms) Q R ad w' (pc + 3) lv (rest)) : XW D lo p l e Rm s m args below meth c nL cells slots Q R ad w pc lv (st) := x_callSvx F As hM hc hv hl hst hn hdg hR hroom hcat (fun E u h => by obtain ⟨h0, rfl⟩ := h; exact kx E h0) (fun u h => by obtain ⟨h0, rfl⟩ := h; exact kk h0)
theorem z_callVqx (F : k_F p m c cc nL s own D cy lo) {index mL n fr lc mc ms : Nat} {y : MethodName} {b : ByteArray} {ret : Option FieldType} {ok : Prop} {xp : String → Prop} {rv : Option Nat} (As : List Value) {r0 ci : Nat} {fs : List Value} {T : u_T} {N : Nat} (hM : k_Xq l y b mL ret fr lc mc ms D cy lo R ad w (.ref (ad r0) :: As) ok xp rv w') (hc : k_Mc y b mL ret n) (hv : k_Mv y) (hl : Cond.methodLink own index y ∈ lw_tbl) (hr : r0 ∈ R) (hw : w r0 = .inr (ci, fs)) (hcl : vwCl[ci]? = some (y.cls, T, N)) (hst : st = As.reverse ++ .ref (ad r0) :: rest) (hn : As.length = n) (hdg : decode cc pc = .ok (.invokevirtual index, 3)) (hR : fr + 1 ≤ Rm.frames ∧ 8 + (mL + 11) + lc ≤ Rm.locals) (hroom : cells + mc ≤ Rm.cells ∧ slots + ms ≤ Rm.slots) (hcat : (rest.map fun v => v.category).sum ≤ 8) (kx : ∀ E : String, xp E → XT D lo p l e Rm s m args below meth c nL (cells + mc) (slots + ms) Q R ad w pc lv rest E) (kk : ok → XW D lo p l e Rm s m args below meth c nL (cells + mc) (slots + ms) Q R ad w' (pc + 3) lv (va_rf rv :: rest)) : XW D lo p l e Rm s m args below meth c nL cells slots Q R ad w pc lv (st) := x_callVqx F As hM hc hv hl hr hw hcl hst hn hdg hR hroom hcat (fun E u h => by obtain ⟨h0, rfl⟩ := h; exact kx E h0) (fun r u h => by obtain ⟨h0, rfl, rfl⟩ := h; exact kk h0)
theorem z_callSqx (F : k_F p m c cc nL s own D cy lo) {index mL n fr lc mc ms : Nat} {y : MethodName} {b : ByteArray} {ret : Option FieldType} {ok : Prop} {xp : String → Prop} {rv : Option Nat} (As : List Value) (hM : k_Xq l y b mL ret fr lc mc ms D cy lo R ad w (As) ok xp rv w') (hc : k_Mc y b mL ret n) (hv : k_Ms y) (hl : Cond.methodLink own index y ∈ lw_tbl) (hst : st = As.reverse ++ rest) (hn : As.length = n) (hdg : decode cc pc = .ok (.invokestatic index, 3)) (hR : fr + 1 ≤ Rm.frames ∧ 8 + (mL + 11) + lc ≤ Rm.locals) (hroom : cells + mc ≤ Rm.cells ∧ slots + ms ≤ Rm.slots) (hcat : (rest.map fun v => v.category).sum ≤ 8) (kx : ∀ E : String, xp E → XT D lo p l e Rm s m args below meth c nL (cells + mc) (slots + ms) Q R ad w pc lv rest E) (kk : ok → XW D lo p l e Rm s m args below meth c nL (cells + mc) (slots + ms) Q R ad w' (pc + 3) lv (va_rf rv :: rest)) : XW D lo p l e Rm s m args below meth c nL cells slots Q R ad w pc lv (st) := x_callSqx F As hM hc hv hl hst hn hdg hR hroom hcat (fun E u h => by obtain ⟨h0, rfl⟩ := h; exact kx E h0) (fun r u h => by obtain ⟨h0, rfl, rfl⟩ := h; exact kk h0)
theorem z_min (F : k_F p m c cc nL s own D cy lo) {x y : Int32} {index : Nat} (hl : Cond.methodLink own index Lib.Math.min.name ∈ lw_tbl) (hs : Cond.static Lib.Math.min.name ∈ lw_tbl) (hi : Cond.initialized "java/lang/Math" ∈ lw_tbl) (hcd : Cond.code Lib.Math.min.name Lib.Math.min.code 2 (some .int) ∈ lw_tbl) (hR : 1 ≤ Rm.frames ∧ (st.map fun v => v.category).sum + 13 ≤ Rm.locals ∧ cells ≤ Rm.cells ∧ slots ≤ Rm.slots) (hdg : decode cc pc = .ok (.invokestatic index, 3)) (kk : XW D lo p l e Rm s m args below meth c nL cells slots Q R ad w (pc + 3) lv (.int (if y < x then y else x) :: st)) : XW D lo p l e Rm s m args below meth c nL cells slots Q R ad w pc lv (.int y :: .int x :: st) := fun H locs ls hP hD hS hl0 => va_mmin F.1 F.2.1 (by rw [F.2.2.1, hl0.1]) F.2.2.2.1 (F.2.2.2.2.wm hl rfl args) (F.2.2.2.2.wm hs rfl args) (F.2.2.2.2.wm hi rfl args) (F.2.2.2.2.wm hcd rfl args) hR.1 hR.2.1 hR.2.2.1 hR.2.2.2 hdg (kk H locs ls hP hD hS hl0)
end KZ
end
section
section KMORE
variable {D : va_G} {cy : Nat → ClassId} {lo : Nat} {p : Program} {l : Launch} {e : Env} {Rm : Room} {s : State} {m : MethodId} {args : Array Value} {below : List Frame} {meth : Method} {c : Code} {nL cells slots : Nat} {Q : State → Prop} {R : List Nat} {ad : Nat → Nat} {w : Nat → va_E} {pc : Nat} {lv : List (Nat × Value)} {st : List Value}
/-- a reference read from a row: it is there, or null -/
theorem x_rf {b : Prop} [Decidable b] {a : Nat} (ht : b → XW D lo p l e Rm s m args below meth c nL cells slots Q R ad w pc lv (.ref a :: st)) (hf : ¬ b → XW D lo p l e Rm s m args below meth c nL cells slots Q R ad w pc lv (.null :: st)) : XW D lo p l e Rm s m args below meth c nL cells slots Q R ad w pc lv (va_rf (if b then some a else none) :: st) := by
  by_cases h : b
  · rw [if_pos h]; exact ht h
  · rw [if_neg h]; exact hf h
end KMORE
/-- an int read as a carrier, in a range, as a pair's place -/
def isCar (c : Int32) : Bool := !decide (c < 0) && !decide (5 ≤ c)
def isWi (v a b : Int32) : Bool := !decide (v < a) && !decide (b < v)
def pairI (a b : Int32) : Int32 := if (isCar a && isCar b) = true then a * 5 + b else -1
set_option maxRecDepth 100000 in
theorem ms_min : Cond.static Lib.Math.min.name ∈ lw_tbl := List.mem_of_getElem? (i := 320) (by decide +kernel)
set_option maxRecDepth 100000 in
theorem mc_min : Cond.code Lib.Math.min.name Lib.Math.min.code 2 (some .int) ∈ lw_tbl := List.mem_of_getElem? (i := 321) (by decide +kernel)
set_option maxRecDepth 100000 in
theorem ik_Math : Cond.initialized "java/lang/Math" ∈ lw_tbl := List.mem_of_getElem? (i := 21) (by decide +kernel)
end
section
/-- a contract, its end named Q -/
theorem k_metQ {l : Launch} {y : MethodName} {cc : ByteArray} {maxL : Nat} {ret : Option FieldType} {rm : Room} {D : va_G} {cy : Nat → ClassId} {lo : Nat} {R : List Nat} {ad : Nat → Nat} {w : Nat → va_E} {av : List Value} {Qc : Array Value → State → Outcome → State → Prop}
    (hy : plainName y.cls = true) (hav : (lg_sl av).length ≤ maxL)
    (body : ∀ p e s m args below meth c Q, k_F p m c cc maxL s y.cls D cy lo → meth.sig.returnType = ret → meth.locks = false → meth.name = y.name → Q = MQ below Qc args s rm.cells rm.slots (lA lo) → XW D lo p l e rm s m args below meth c maxL 0 0 Q R ad w 0 (lv_args 0 av) []) :
    k_Met l y cc maxL ret rm D cy lo R ad w av Qc :=
  k_met hy hav (fun p e s m below meth c F hr hlk hnm => body p e s m _ below meth c _ F hr hlk hnm rfl)
/-- .. of a method that may throw -/
theorem k_metXQ {l : Launch} {y : MethodName} {cc : ByteArray} {maxL : Nat} {ret : Option FieldType} {rm : Room} {D : va_G} {cy : Nat → ClassId} {lo : Nat} {R : List Nat} {ad : Nat → Nat} {w : Nat → va_E} {av : List Value} {Qc : Array Value → State → Outcome → State → Prop} {xpost : String → k_S → Prop}
    (hy : plainName y.cls = true) (hav : (lg_sl av).length ≤ maxL)
    (body : ∀ p e s m args below meth c Q, k_F p m c cc maxL s y.cls D cy lo → meth.sig.returnType = ret → meth.locks = false → (∀ x ∈ c.exceptionTable.toList, False) → Q = vx_MQ below Qc (k_XC D lo xpost) args s rm.cells rm.slots (lA lo) → XW D lo p l e rm s m args below meth c maxL 0 0 Q R ad w 0 (lv_args 0 av) []) :
    k_MetX l y cc maxL ret rm D cy lo R ad w av Qc xpost :=
  k_metX hy hav (fun p e s m below meth c F hr hlk ht => body p e s m _ below meth c _ F hr hlk ht rfl)
theorem lp_exit {k N : Nat} (hN : N < 2 ^ 31) (hk : k ≤ N) (h : nI N ≤ nI k) : k = N := by
  rcases Nat.lt_or_ge k N with z | z
  · exact absurd h (nI_ge z hN)
  · omega
theorem lp_go {k N : Nat} (hN : N < 2 ^ 31) (hk : k ≤ N) (h : ¬ nI N ≤ nI k) : k < N := by
  rcases Nat.lt_or_ge k N with z | z
  · exact z
  · exact absurd (nI_le z (by omega)) h
end
section
section KMORE2
variable {D : va_G} {cy : Nat → ClassId} {lo : Nat} {p : Program} {l : Launch} {e : Env} {Rm : Room} {s : State} {m : MethodId} {args : Array Value} {below : List Frame} {meth : Method} {c : Code} {nL cells slots : Nat} {Q : State → Prop} {R : List Nat} {ad : Nat → Nat} {w : Nat → va_E} {pc : Nat} {lv : List (Nat × Value)} {st : List Value}
/-- the int on top by another name -/
theorem x_cast {x y : Int32} (h : x = y) (k : XW D lo p l e Rm s m args below meth c nL cells slots Q R ad w pc lv (.int y :: st)) : XW D lo p l e Rm s m args below meth c nL cells slots Q R ad w pc lv (.int x :: st) := h ▸ k
theorem x_castl {x y : Int64} (h : x = y) (k : XW D lo p l e Rm s m args below meth c nL cells slots Q R ad w pc lv (.long y :: st)) : XW D lo p l e Rm s m args below meth c nL cells slots Q R ad w pc lv (.long x :: st) := h ▸ k
theorem x_aload_nN {cc : ByteArray} {own : String} {cy : Nat → ClassId} (F : k_F p m c cc nL s own D cy lo) {k : Fin 4} {i : Nat} (hdg : decode cc pc = .ok (.aload_n k, 1)) (hi : (k : Nat) = i) (ix : Nat) (hx : lv[ix]? = some (i, .null)) (kk : XW D lo p l e Rm s m args below meth c nL cells slots Q R ad w (pc + 1) lv (.null :: st)) : XW D lo p l e Rm s m args below meth c nL cells slots Q R ad w (pc) lv (st) := fun H locs ls hP hD hS hl => lv_aload_nN F.1 F.2.1 hdg hi (lv_at hl ix hx) (kk H locs ls hP hD hS hl)
theorem x_aloadN {cc : ByteArray} {own : String} {cy : Nat → ClassId} (F : k_F p m c cc nL s own D cy lo) {i : Nat} (hdg : decode cc pc = .ok (.aload i, 2)) (ix : Nat) (hx : lv[ix]? = some (i, .null)) (kk : XW D lo p l e Rm s m args below meth c nL cells slots Q R ad w (pc + 2) lv (.null :: st)) : XW D lo p l e Rm s m args below meth c nL cells slots Q R ad w (pc) lv (st) := fun H locs ls hP hD hS hl => lv_aloadN F.1 F.2.1 hdg (lv_at hl ix hx) (kk H locs ls hP hD hS hl)
theorem x_astore_nN {cc : ByteArray} {own : String} {cy : Nat → ClassId} (F : k_F p m c cc nL s own D cy lo) {k : Fin 4} {i : Nat} (lv' : List (Nat × Value)) (hdg : decode cc pc = .ok (.astore_n k, 1)) (hi : (k : Nat) = i) (hn : i < nL) (hx : (i, Value.null) :: lv.filter (fun q => !(q.1 == i) && !(q.1 + 1 == i && q.2.category == 2)) = lv') (kk : XW D lo p l e Rm s m args below meth c nL cells slots Q R ad w (pc + 1) lv' (st)) : XW D lo p l e Rm s m args below meth c nL cells slots Q R ad w (pc) lv (.null :: st) := fun H locs ls hP hD hS hl => lv_astore_nN F.1 F.2.1 hdg hi hl hn hx (fun ls hl => kk H locs ls hP hD hS hl)
theorem x_astoreN {cc : ByteArray} {own : String} {cy : Nat → ClassId} (F : k_F p m c cc nL s own D cy lo) {i : Nat} (lv' : List (Nat × Value)) (hdg : decode cc pc = .ok (.astore i, 2)) (hn : i < nL) (hx : (i, Value.null) :: lv.filter (fun q => !(q.1 == i) && !(q.1 + 1 == i && q.2.category == 2)) = lv') (kk : XW D lo p l e Rm s m args below meth c nL cells slots Q R ad w (pc + 2) lv' (st)) : XW D lo p l e Rm s m args below meth c nL cells slots Q R ad w (pc) lv (.null :: st) := fun H locs ls hP hD hS hl => lv_astoreN F.1 F.2.1 hdg hl hn hx (fun ls hl => kk H locs ls hP hD hS hl)
/-- two roles at one address are one -/
theorem x_inj {r1 r2 : Nat} (h1 : r1 ∈ R) (h2 : r2 ∈ R) (k : (ad r1 = ad r2 → r1 = r2) → XW D lo p l e Rm s m args below meth c nL cells slots Q R ad w pc lv st) : XW D lo p l e Rm s m args below meth c nL cells slots Q R ad w pc lv st := by
  intro H locs ls hP hD hS hl
  refine k (fun he => ?_) H locs ls hP hD hS hl
  obtain ⟨i, hi, gi⟩ := wl_at ad w h1
  obtain ⟨j, hj, gj⟩ := wl_at ad w h2
  have e := hD.1 i j _ _ gi gj he
  subst e
  exact Option.some.inj (hi.symm.trans hj)
end KMORE2
end
section
set_option maxHeartbeats 4000000 in
set_option maxRecDepth 100000 in
/-- isWithin -/
theorem c_X4_isWithin (l : Launch) (D : va_G) (cy : Nat → ClassId) (lo : Nat) (R : List Nat) (ad : Nat → Nat) (w : Nat → va_E) (a b c : Int32) : k_Ci l yX4_isWithin cX4_isWithin 3 (some .boolean) 0 0 D cy lo R ad w [.int a, .int b, .int c] (k_b (isWi a b c)) w := by
  refine k_metQ (by decide +kernel) (Nat.le_of_ble_eq_true rfl) ?_
  intro p e s m args below meth c Q F hr hlk hnm hQ
  refine x_iload_n F dX4_isWithin_0 rfl 0 rfl ?_
  refine x_iload_n F dX4_isWithin_1 rfl 1 rfl ?_
  refine x_icmp_lt F 14 dX4_isWithin_2 (by decide) (fun h2 => ?_) (fun h2 => ?_)
  · refine x_iconst F (v := 0) dX4_isWithin_14 (by decide) ?_
    rw [hQ]
    exact x_zret F hr hlk (by decide) ⟨by simp [isWi, k_b, *], rfl⟩ dX4_isWithin_15
  · refine x_iload_n F dX4_isWithin_5 rfl 0 rfl ?_
    refine x_iload_n F dX4_isWithin_6 rfl 2 rfl ?_
    refine x_icmp_gt F 14 dX4_isWithin_7 (by decide) (fun h7 => ?_) (fun h7 => ?_)
    · refine x_iconst F (v := 0) dX4_isWithin_14 (by decide) ?_
      rw [hQ]
      exact x_zret F hr hlk (by decide) ⟨by simp [isWi, k_b, *], rfl⟩ dX4_isWithin_15
    · refine x_iconst F (v := 1) dX4_isWithin_10 (by decide) ?_
      refine x_goto F 15 dX4_isWithin_11 (by decide) ?_
      rw [hQ]
      exact x_zret F hr hlk (by decide) ⟨by simp [isWi, k_b, *], rfl⟩ dX4_isWithin_15
set_option maxHeartbeats 4000000 in
set_option maxRecDepth 100000 in
/-- isCarrier -/
theorem c_X4_isCarrier (l : Launch) (D : va_G) (cy : Nat → ClassId) (lo : Nat) (R : List Nat) (ad : Nat → Nat) (w : Nat → va_E) (a : Int32) : k_Ci l yX4_isCarrier cX4_isCarrier 1 (some .boolean) 0 0 D cy lo R ad w [.int a] (k_b (isCar a)) w := by
  refine k_metQ (by decide +kernel) (Nat.le_of_ble_eq_true rfl) ?_
  intro p e s m args below meth c Q F hr hlk hnm hQ
  refine x_iload_n F dX4_isCarrier_0 rfl 0 rfl ?_
  refine x_if_lt F 13 dX4_isCarrier_1 (by decide) (fun h1 => ?_) (fun h1 => ?_)
  · refine x_iconst F (v := 0) dX4_isCarrier_13 (by decide) ?_
    rw [hQ]
    exact x_zret F hr hlk (by decide) ⟨by simp [isCar, k_b, *], rfl⟩ dX4_isCarrier_14
  · refine x_iload_n F dX4_isCarrier_4 rfl 0 rfl ?_
    refine x_iconst F (v := 5) dX4_isCarrier_5 (by decide) ?_
    refine x_icmp_ge F 13 dX4_isCarrier_6 (by decide) (fun h6 => ?_) (fun h6 => ?_)
    · refine x_iconst F (v := 0) dX4_isCarrier_13 (by decide) ?_
      rw [hQ]
      exact x_zret F hr hlk (by decide) ⟨by simp [isCar, k_b, *], rfl⟩ dX4_isCarrier_14
    · refine x_iconst F (v := 1) dX4_isCarrier_9 (by decide) ?_
      refine x_goto F 14 dX4_isCarrier_10 (by decide) ?_
      rw [hQ]
      exact x_zret F hr hlk (by decide) ⟨by simp [isCar, k_b, *], rfl⟩ dX4_isCarrier_14
set_option maxHeartbeats 4000000 in
set_option maxRecDepth 100000 in
/-- pairOf -/
theorem c_X4_pairOf (l : Launch) (D : va_G) (cy : Nat → ClassId) (lo : Nat) (R : List Nat) (ad : Nat → Nat) (w : Nat → va_E) (a b : Int32) : k_Ci l yX4_pairOf cX4_pairOf 3 (some .int) 0 0 D cy lo R ad w [.int a, .int b] (pairI a b) w := by
  refine k_metQ (by decide +kernel) (Nat.le_of_ble_eq_true rfl) ?_
  intro p e s m args below meth c Q F hr hlk hnm hQ
  refine x_iload_n F dX4_pairOf_0 rfl 0 rfl ?_
  refine x_if_lt F 22 dX4_pairOf_1 (by decide) (fun h1 => ?_) (fun h1 => ?_)
  · refine x_iconst F (v := 0) dX4_pairOf_22 (by decide) ?_
    refine x_istore_n F [(2, .int 0), (0, .int a), (1, .int b)] dX4_pairOf_23 rfl (by decide) rfl ?_
    refine x_iload_n F dX4_pairOf_24 rfl 0 rfl ?_
    refine x_if_eq F 36 dX4_pairOf_25 (by decide) (fun h25 => ?_) (fun h25 => ?_)
    · refine x_iconst F (v := -1) dX4_pairOf_36 (by decide) ?_
      rw [hQ]
      exact x_iret F hr hlk ⟨by simp [pairI, isCar, *], rfl⟩ dX4_pairOf_37
    · exact False.elim (by revert h25; decide)
  · refine x_iload_n F dX4_pairOf_4 rfl 0 rfl ?_
    refine x_iconst F (v := 5) dX4_pairOf_5 (by decide) ?_
    refine x_icmp_ge F 22 dX4_pairOf_6 (by decide) (fun h6 => ?_) (fun h6 => ?_)
    · refine x_iconst F (v := 0) dX4_pairOf_22 (by decide) ?_
      refine x_istore_n F [(2, .int 0), (0, .int a), (1, .int b)] dX4_pairOf_23 rfl (by decide) rfl ?_
      refine x_iload_n F dX4_pairOf_24 rfl 0 rfl ?_
      refine x_if_eq F 36 dX4_pairOf_25 (by decide) (fun h25 => ?_) (fun h25 => ?_)
      · refine x_iconst F (v := -1) dX4_pairOf_36 (by decide) ?_
        rw [hQ]
        exact x_iret F hr hlk ⟨by simp [pairI, isCar, *], rfl⟩ dX4_pairOf_37
      · exact False.elim (by revert h25; decide)
    · refine x_iload_n F dX4_pairOf_9 rfl 1 rfl ?_
      refine x_if_lt F 22 dX4_pairOf_10 (by decide) (fun h10 => ?_) (fun h10 => ?_)
      · refine x_iconst F (v := 0) dX4_pairOf_22 (by decide) ?_
        refine x_istore_n F [(2, .int 0), (0, .int a), (1, .int b)] dX4_pairOf_23 rfl (by decide) rfl ?_
        refine x_iload_n F dX4_pairOf_24 rfl 0 rfl ?_
        refine x_if_eq F 36 dX4_pairOf_25 (by decide) (fun h25 => ?_) (fun h25 => ?_)
        · refine x_iconst F (v := -1) dX4_pairOf_36 (by decide) ?_
          rw [hQ]
          exact x_iret F hr hlk ⟨by simp [pairI, isCar, *], rfl⟩ dX4_pairOf_37
        · exact False.elim (by revert h25; decide)
      · refine x_iload_n F dX4_pairOf_13 rfl 1 rfl ?_
        refine x_iconst F (v := 5) dX4_pairOf_14 (by decide) ?_
        refine x_icmp_ge F 22 dX4_pairOf_15 (by decide) (fun h15 => ?_) (fun h15 => ?_)
        · refine x_iconst F (v := 0) dX4_pairOf_22 (by decide) ?_
          refine x_istore_n F [(2, .int 0), (0, .int a), (1, .int b)] dX4_pairOf_23 rfl (by decide) rfl ?_
          refine x_iload_n F dX4_pairOf_24 rfl 0 rfl ?_
          refine x_if_eq F 36 dX4_pairOf_25 (by decide) (fun h25 => ?_) (fun h25 => ?_)
          · refine x_iconst F (v := -1) dX4_pairOf_36 (by decide) ?_
            rw [hQ]
            exact x_iret F hr hlk ⟨by simp [pairI, isCar, *], rfl⟩ dX4_pairOf_37
          · exact False.elim (by revert h25; decide)
        · refine x_iconst F (v := 1) dX4_pairOf_18 (by decide) ?_
          refine x_goto F 23 dX4_pairOf_19 (by decide) ?_
          refine x_istore_n F [(2, .int 1), (0, .int a), (1, .int b)] dX4_pairOf_23 rfl (by decide) rfl ?_
          refine x_iload_n F dX4_pairOf_24 rfl 0 rfl ?_
          refine x_if_eq F 36 dX4_pairOf_25 (by decide) (fun h25 => ?_) (fun h25 => ?_)
          · exact False.elim (by revert h25; decide)
          · refine x_iload_n F dX4_pairOf_28 rfl 1 rfl ?_
            refine x_iconst F (v := 5) dX4_pairOf_29 (by decide) ?_
            refine x_imul F dX4_pairOf_30 ?_
            refine x_iload_n F dX4_pairOf_31 rfl 2 rfl ?_
            refine x_iadd F dX4_pairOf_32 ?_
            refine x_goto F 37 dX4_pairOf_33 (by decide) ?_
            rw [hQ]
            exact x_iret F hr hlk ⟨by simp [pairI, isCar, *], rfl⟩ dX4_pairOf_37
end
section
/-! what the methods answer, as their code has it -/
theorem vin_lt {i : Int32} {n : Nat} (hn : n < 2 ^ 31) (h0 : ¬ i < 0) (h1 : i < nI n) : vp_in i n := by
  rw [vp_in_iff]
  have h2 : (0 : Int32).toInt = 0 := rfl
  rw [Int32.lt_iff_toInt_lt, h2] at h0
  rw [Int32.lt_iff_toInt_lt, nI_toInt hn] at h1
  omega
def isP (k : Int32) : Bool := !decide (k < 0) && !decide (25 ≤ k)
def rateF (I : Nat → Nat → Int32) (a b : Int32) : Int32 := if isP (pairI a b) = true then I 8 (pairI a b).toNatClampNeg else -1
def setLinkI (I : Nat → Nat → Int32) (a b x t : Int32) : Nat → Nat → Int32 := if isP (pairI a b) = true then wI (wI I 8 (pairI a b).toNatClampNeg x) 9 (pairI a b).toNatClampNeg t else I
def debtF (J : Nat → Nat → Int64) (a b : Int32) : Int64 := if isP (pairI a b) = true then J 10 (pairI a b).toNatClampNeg else 0
def addJ (J : Nat → Nat → Int64) (r k : Nat) (x : Int64) : Nat → Nat → Int64 := wJ J r k (J r k + x)
def addDebtJ (J : Nat → Nat → Int64) (a b : Int32) (x : Int64) : Nat → Nat → Int64 :=
  if isP (pairI a b) = true ∧ isP (pairI b a) = true then wJ (addJ J 10 (pairI a b).toNatClampNeg x) 10 (pairI b a).toNatClampNeg ((addJ J 10 (pairI a b).toNatClampNeg x) 10 (pairI b a).toNatClampNeg - x) else J
def openF (I : Nat → Nat → Int32) (J : Nat → Nat → Int64) (a b : Int32) : Bool :=
  isP (pairI a b) && !decide (I 8 (pairI a b).toNatClampNeg = -1) && !decide ((I 9 (pairI a b).toNatClampNeg).toInt64 < J 10 (pairI a b).toNatClampNeg + (I 8 (pairI a b).toNatClampNeg).toInt64)
def isPl (n p : Int32) : Bool := !decide (p < 0) && !decide (n ≤ p) && !decide (5 ≤ p)
def carAt (I : Nat → Nat → Int32) (r : Nat) (p : Int32) : Int32 := if isPl (I r 1) p = true then I (r + 1) p.toNatClampNeg else -1
def addRI (I : Nat → Nat → Int32) (r : Nat) (x : Int32) : Nat → Nat → Int32 := if (!decide (I r 1 < 0) && !decide (5 ≤ I r 1)) = true then wI (wI I (r + 1) (I r 1).toNatClampNeg x) r 1 ((wI I (r + 1) (I r 1).toNatClampNeg x) r 1 + 1) else I
set_option maxHeartbeats 4000000 in
set_option maxRecDepth 100000 in
/-- Route.carrierAt -/
theorem c_X1_carrierAt (l : Launch) (D : va_G) (cy : Nat → ClassId) (lo : Nat) (R : List Nat) (ad : Nat → Nat) (q : Nat → Nat → Nat) (ns nt : Nat) (I : Nat → Nat → Int32) (J : Nat → Nat → Int64) (hR : ∀ r, r < 19 → r ∈ R) (r : Nat) (x : Int32) (hk : r = 6 ∨ (80 ≤ r ∧ r % 4 = 1)) (hm : r ∈ R) (hn : r + 1 ∈ R) : k_Ci l yX1_carrierAt cX1_carrierAt 2 (some .int) 0 0 D cy lo R ad (k_c cy ad q ns nt I J) [.ref (ad r), .int x] (carAt I r x) (k_c cy ad q ns nt I J) := by
  refine k_metQ (by decide +kernel) (Nat.le_of_ble_eq_true rfl) ?_
  intro p e s m args below meth c Q F hr hlk hnm hQ
  refine x_iload_n F dX1_carrierAt_0 rfl 1 rfl ?_
  refine x_if_lt F 26 dX1_carrierAt_1 (by decide) (fun h1 => ?_) (fun h1 => ?_)
  · refine x_iconst F (v := -1) dX1_carrierAt_26 (by decide) ?_
    rw [hQ]
    exact x_iret F hr hlk ⟨by simp [carAt, isPl, *], by simp [carAt, isPl, *]⟩ dX1_carrierAt_27
  · refine x_iload_n F dX1_carrierAt_4 rfl 1 rfl ?_
    refine x_aload_n F dX1_carrierAt_5 rfl 0 rfl ?_
    refine g_X1_15 F hm (sc_rte hk) rfl dX1_carrierAt_6 ?_
    refine x_icmp_ge F 26 dX1_carrierAt_9 (by decide) (fun h9 => ?_) (fun h9 => ?_)
    · refine x_iconst F (v := -1) dX1_carrierAt_26 (by decide) ?_
      rw [hQ]
      exact x_iret F hr hlk ⟨by simp [carAt, isPl, *], by simp [carAt, isPl, *]⟩ dX1_carrierAt_27
    · refine x_iload_n F dX1_carrierAt_12 rfl 1 rfl ?_
      refine x_iconst F (v := 5) dX1_carrierAt_13 (by decide) ?_
      refine x_icmp_ge F 26 dX1_carrierAt_14 (by decide) (fun h14 => ?_) (fun h14 => ?_)
      · refine x_iconst F (v := -1) dX1_carrierAt_26 (by decide) ?_
        rw [hQ]
        exact x_iret F hr hlk ⟨by simp [carAt, isPl, *], by simp [carAt, isPl, *]⟩ dX1_carrierAt_27
      · refine x_aload_n F dX1_carrierAt_17 rfl 0 rfl ?_
        refine g_X1_9 F hm (sc_rte hk) rfl dX1_carrierAt_18 ?_
        refine x_iload_n F dX1_carrierAt_21 rfl 1 rfl ?_
        refine y_iald F hn (ss_rtc hk) (by first | exact vin_of (n := 5) (by decide) ‹_› ‹_› | exact vin_lt (n := 5) (by decide) ‹_› ‹_›) dX1_carrierAt_22 ?_
        refine x_goto F 27 dX1_carrierAt_23 (by decide) ?_
        rw [hQ]
        exact x_iret F hr hlk ⟨by simp [carAt, isPl, *], by simp [carAt, isPl, *]⟩ dX1_carrierAt_27
set_option maxHeartbeats 4000000 in
set_option maxRecDepth 100000 in
/-- Route.clear -/
theorem c_X1_clear (l : Launch) (D : va_G) (cy : Nat → ClassId) (lo : Nat) (R : List Nat) (ad : Nat → Nat) (q : Nat → Nat → Nat) (ns nt : Nat) (I : Nat → Nat → Int32) (J : Nat → Nat → Int64) (hR : ∀ r, r < 19 → r ∈ R) (r : Nat) (hk : r = 6 ∨ (80 ≤ r ∧ r % 4 = 1)) (hm : r ∈ R) (hn : r + 1 ∈ R) : k_Cv l yX1_clear cX1_clear 1 none 0 0 D cy lo R ad (k_c cy ad q ns nt I J) [.ref (ad r)] (k_c cy ad q ns nt (wI I r 1 0) J) := by
  refine k_metQ (by decide +kernel) (Nat.le_of_ble_eq_true rfl) ?_
  intro p e s m args below meth c Q F hr hlk hnm hQ
  refine x_aload_n F dX1_clear_0 rfl 0 rfl ?_
  refine x_iconst F (v := 0) dX1_clear_1 (by decide) ?_
  refine p_X1_15 F hm (ss_rte hk) dX1_clear_2 ?_
  rw [hQ]
  exact x_vret F hr hlk (by simp [wI, *]) dX1_clear_5
set_option maxHeartbeats 4000000 in
set_option maxRecDepth 100000 in
/-- Route.add -/
theorem c_X1_add (l : Launch) (D : va_G) (cy : Nat → ClassId) (lo : Nat) (R : List Nat) (ad : Nat → Nat) (q : Nat → Nat → Nat) (ns nt : Nat) (I : Nat → Nat → Int32) (J : Nat → Nat → Int64) (hR : ∀ r, r < 19 → r ∈ R) (r : Nat) (x : Int32) (hk : r = 6 ∨ (80 ≤ r ∧ r % 4 = 1)) (hm : r ∈ R) (hn : r + 1 ∈ R) : k_Cv l yX1_add cX1_add 2 none 0 0 D cy lo R ad (k_c cy ad q ns nt I J) [.ref (ad r), .int x] (k_c cy ad q ns nt (addRI I r x) J) := by
  refine k_metQ (by decide +kernel) (Nat.le_of_ble_eq_true rfl) ?_
  intro p e s m args below meth c Q F hr hlk hnm hQ
  refine x_aload_n F dX1_add_0 rfl 0 rfl ?_
  refine g_X1_15 F hm (sc_rte hk) rfl dX1_add_1 ?_
  refine x_if_lt F 35 dX1_add_4 (by decide) (fun h4 => ?_) (fun h4 => ?_)
  · rw [hQ]
    exact x_vret F hr hlk (by simp [addRI, *]) dX1_add_35
  · refine x_aload_n F dX1_add_7 rfl 0 rfl ?_
    refine g_X1_15 F hm (sc_rte hk) rfl dX1_add_8 ?_
    refine x_iconst F (v := 5) dX1_add_11 (by decide) ?_
    refine x_icmp_ge F 35 dX1_add_12 (by decide) (fun h12 => ?_) (fun h12 => ?_)
    · rw [hQ]
      exact x_vret F hr hlk (by simp [addRI, *]) dX1_add_35
    · refine x_aload_n F dX1_add_15 rfl 0 rfl ?_
      refine g_X1_9 F hm (sc_rte hk) rfl dX1_add_16 ?_
      refine x_aload_n F dX1_add_19 rfl 0 rfl ?_
      refine g_X1_15 F hm (sc_rte hk) rfl dX1_add_20 ?_
      refine x_iload_n F dX1_add_23 rfl 1 rfl ?_
      refine y_iast F hn (ss_rtc hk) (by first | exact vin_of (n := 5) (by decide) ‹_› ‹_› | exact vin_lt (n := 5) (by decide) ‹_› ‹_›) dX1_add_24 ?_
      refine x_aload_n F dX1_add_25 rfl 0 rfl ?_
      refine x_dup F dX1_add_26 rfl ?_
      refine g_X1_15 F hm (sc_rte hk) rfl dX1_add_27 ?_
      refine x_iconst F (v := 1) dX1_add_30 (by decide) ?_
      refine x_iadd F dX1_add_31 ?_
      refine p_X1_15 F hm (ss_rte hk) dX1_add_32 ?_
      rw [hQ]
      exact x_vret F hr hlk (by simp [addRI, *]) dX1_add_35
set_option maxHeartbeats 4000000 in
set_option maxRecDepth 100000 in
/-- Network.rateOf -/
theorem c_X0_rateOf (l : Launch) (D : va_G) (cy : Nat → ClassId) (lo : Nat) (R : List Nat) (ad : Nat → Nat) (q : Nat → Nat → Nat) (ns nt : Nat) (I : Nat → Nat → Int32) (J : Nat → Nat → Int64) (hR : ∀ r, r < 19 → r ∈ R) (a : Int32) (b : Int32) : k_Ci l yX0_rateOf cX0_rateOf 4 (some .int) 1 22 D cy lo R ad (k_c cy ad q ns nt I J) [.ref (ad 3), .int a, .int b] (rateF I a b) (k_c cy ad q ns nt I J) := by
  refine k_metQ (by decide +kernel) (Nat.le_of_ble_eq_true rfl) ?_
  intro p e s m args below meth c Q F hr hlk hnm hQ
  refine x_iload_n F dX0_rateOf_0 rfl 1 rfl ?_
  refine x_iload_n F dX0_rateOf_1 rfl 2 rfl ?_
  refine z_callSNi F [.int a, .int b] (c_X4_pairOf l D cy lo R ad _ a b) mc_X4_pairOf ms_X4_pairOf lk_X0_31 rfl rfl dX0_rateOf_2 ⟨Nat.le_of_ble_eq_true rfl, Nat.le_of_ble_eq_true rfl⟩ ⟨Nat.le_of_ble_eq_true rfl, Nat.le_of_ble_eq_true rfl⟩ (Nat.le_of_ble_eq_true rfl) ?_
  refine x_istore_n F [(3, .int (pairI a b)), (0, .ref (ad 3)), (1, .int a), (2, .int b)] dX0_rateOf_5 rfl (by decide) rfl ?_
  refine x_iload_n F dX0_rateOf_6 rfl 0 rfl ?_
  refine x_if_lt F 25 dX0_rateOf_7 (by decide) (fun h7 => ?_) (fun h7 => ?_)
  · refine x_iconst F (v := -1) dX0_rateOf_25 (by decide) ?_
    rw [hQ]
    exact x_iret F hr hlk ⟨by simp [rateF, isP, *], by simp [rateF, isP, *]⟩ dX0_rateOf_26
  · refine x_iload_n F dX0_rateOf_10 rfl 0 rfl ?_
    refine x_bipush F (v := 25) dX0_rateOf_11 (by decide) ?_
    refine x_icmp_ge F 25 dX0_rateOf_13 (by decide) (fun h13 => ?_) (fun h13 => ?_)
    · refine x_iconst F (v := -1) dX0_rateOf_25 (by decide) ?_
      rw [hQ]
      exact x_iret F hr hlk ⟨by simp [rateF, isP, *], by simp [rateF, isP, *]⟩ dX0_rateOf_26
    · refine x_aload_n F dX0_rateOf_16 rfl 1 rfl ?_
      refine g_X0_9 F (hR 3 (by decide)) sc_3 rfl dX0_rateOf_17 ?_
      refine x_iload_n F dX0_rateOf_20 rfl 0 rfl ?_
      refine y_iald F (hR 8 (by decide)) ss_8 (by first | exact vin_of (n := 25) (by decide) ‹_› ‹_› | exact vin_lt (n := 25) (by decide) ‹_› ‹_›) dX0_rateOf_21 ?_
      refine x_goto F 26 dX0_rateOf_22 (by decide) ?_
      rw [hQ]
      exact x_iret F hr hlk ⟨by simp [rateF, isP, *], by simp [rateF, isP, *]⟩ dX0_rateOf_26
set_option maxHeartbeats 4000000 in
set_option maxRecDepth 100000 in
/-- Network.setLink -/
theorem c_X0_setLink (l : Launch) (D : va_G) (cy : Nat → ClassId) (lo : Nat) (R : List Nat) (ad : Nat → Nat) (q : Nat → Nat → Nat) (ns nt : Nat) (I : Nat → Nat → Int32) (J : Nat → Nat → Int64) (hR : ∀ r, r < 19 → r ∈ R) (a : Int32) (b : Int32) (x : Int32) (t : Int32) : k_Cv l yX0_setLink cX0_setLink 6 none 1 22 D cy lo R ad (k_c cy ad q ns nt I J) [.ref (ad 3), .int a, .int b, .int x, .int t] (k_c cy ad q ns nt (setLinkI I a b x t) J) := by
  refine k_metQ (by decide +kernel) (Nat.le_of_ble_eq_true rfl) ?_
  intro p e s m args below meth c Q F hr hlk hnm hQ
  refine x_iload_n F dX0_setLink_0 rfl 1 rfl ?_
  refine x_iload_n F dX0_setLink_1 rfl 2 rfl ?_
  refine z_callSNi F [.int a, .int b] (c_X4_pairOf l D cy lo R ad _ a b) mc_X4_pairOf ms_X4_pairOf lk_X0_31 rfl rfl dX0_setLink_2 ⟨Nat.le_of_ble_eq_true rfl, Nat.le_of_ble_eq_true rfl⟩ ⟨Nat.le_of_ble_eq_true rfl, Nat.le_of_ble_eq_true rfl⟩ (Nat.le_of_ble_eq_true rfl) ?_
  refine x_istore F [(5, .int (pairI a b)), (0, .ref (ad 3)), (1, .int a), (2, .int b), (3, .int x), (4, .int t)] dX0_setLink_5 (by decide) rfl ?_
  refine x_iload F dX0_setLink_7 0 rfl ?_
  refine x_if_lt F 36 dX0_setLink_9 (by decide) (fun h9 => ?_) (fun h9 => ?_)
  · rw [hQ]
    exact x_vret F hr hlk (by simp [setLinkI, isP, *]) dX0_setLink_36
  · refine x_iload F dX0_setLink_12 0 rfl ?_
    refine x_bipush F (v := 25) dX0_setLink_14 (by decide) ?_
    refine x_icmp_ge F 36 dX0_setLink_16 (by decide) (fun h16 => ?_) (fun h16 => ?_)
    · rw [hQ]
      exact x_vret F hr hlk (by simp [setLinkI, isP, *]) dX0_setLink_36
    · refine x_aload_n F dX0_setLink_19 rfl 1 rfl ?_
      refine g_X0_9 F (hR 3 (by decide)) sc_3 rfl dX0_setLink_20 ?_
      refine x_iload F dX0_setLink_23 0 rfl ?_
      refine x_iload_n F dX0_setLink_25 rfl 4 rfl ?_
      refine y_iast F (hR 8 (by decide)) ss_8 (by first | exact vin_of (n := 25) (by decide) ‹_› ‹_› | exact vin_lt (n := 25) (by decide) ‹_› ‹_›) dX0_setLink_26 ?_
      refine x_aload_n F dX0_setLink_27 rfl 1 rfl ?_
      refine g_X0_15 F (hR 3 (by decide)) sc_3 rfl dX0_setLink_28 ?_
      refine x_iload F dX0_setLink_31 0 rfl ?_
      refine x_iload F dX0_setLink_33 5 rfl ?_
      refine y_iast F (hR 9 (by decide)) ss_9 (by first | exact vin_of (n := 25) (by decide) ‹_› ‹_› | exact vin_lt (n := 25) (by decide) ‹_› ‹_›) dX0_setLink_35 ?_
      rw [hQ]
      exact x_vret F hr hlk (by simp [setLinkI, isP, *]) dX0_setLink_36
set_option maxHeartbeats 4000000 in
set_option maxRecDepth 100000 in
/-- Network.debtOf -/
theorem c_X0_debtOf (l : Launch) (D : va_G) (cy : Nat → ClassId) (lo : Nat) (R : List Nat) (ad : Nat → Nat) (q : Nat → Nat → Nat) (ns nt : Nat) (I : Nat → Nat → Int32) (J : Nat → Nat → Int64) (hR : ∀ r, r < 19 → r ∈ R) (a : Int32) (b : Int32) : k_Cl l yX0_debtOf cX0_debtOf 4 (some .long) 1 22 D cy lo R ad (k_c cy ad q ns nt I J) [.ref (ad 3), .int a, .int b] (debtF J a b) (k_c cy ad q ns nt I J) := by
  refine k_metQ (by decide +kernel) (Nat.le_of_ble_eq_true rfl) ?_
  intro p e s m args below meth c Q F hr hlk hnm hQ
  refine x_iload_n F dX0_debtOf_0 rfl 1 rfl ?_
  refine x_iload_n F dX0_debtOf_1 rfl 2 rfl ?_
  refine z_callSNi F [.int a, .int b] (c_X4_pairOf l D cy lo R ad _ a b) mc_X4_pairOf ms_X4_pairOf lk_X0_31 rfl rfl dX0_debtOf_2 ⟨Nat.le_of_ble_eq_true rfl, Nat.le_of_ble_eq_true rfl⟩ ⟨Nat.le_of_ble_eq_true rfl, Nat.le_of_ble_eq_true rfl⟩ (Nat.le_of_ble_eq_true rfl) ?_
  refine x_istore_n F [(3, .int (pairI a b)), (0, .ref (ad 3)), (1, .int a), (2, .int b)] dX0_debtOf_5 rfl (by decide) rfl ?_
  refine x_iload_n F dX0_debtOf_6 rfl 0 rfl ?_
  refine x_if_lt F 25 dX0_debtOf_7 (by decide) (fun h7 => ?_) (fun h7 => ?_)
  · refine x_lconst F (v := 0) dX0_debtOf_25 (by decide) ?_
    rw [hQ]
    exact x_lret F hr hlk ⟨by simp [debtF, isP, *], by simp [debtF, isP, *]⟩ dX0_debtOf_26
  · refine x_iload_n F dX0_debtOf_10 rfl 0 rfl ?_
    refine x_bipush F (v := 25) dX0_debtOf_11 (by decide) ?_
    refine x_icmp_ge F 25 dX0_debtOf_13 (by decide) (fun h13 => ?_) (fun h13 => ?_)
    · refine x_lconst F (v := 0) dX0_debtOf_25 (by decide) ?_
      rw [hQ]
      exact x_lret F hr hlk ⟨by simp [debtF, isP, *], by simp [debtF, isP, *]⟩ dX0_debtOf_26
    · refine x_aload_n F dX0_debtOf_16 rfl 1 rfl ?_
      refine g_X0_18 F (hR 3 (by decide)) sc_3 rfl dX0_debtOf_17 ?_
      refine x_iload_n F dX0_debtOf_20 rfl 0 rfl ?_
      refine y_lald F (hR 10 (by decide)) ss_10 (by first | exact vin_of (n := 25) (by decide) ‹_› ‹_› | exact vin_lt (n := 25) (by decide) ‹_› ‹_›) dX0_debtOf_21 ?_
      refine x_goto F 26 dX0_debtOf_22 (by decide) ?_
      rw [hQ]
      exact x_lret F hr hlk ⟨by simp [debtF, isP, *], by simp [debtF, isP, *]⟩ dX0_debtOf_26
set_option maxHeartbeats 4000000 in
set_option maxRecDepth 100000 in
/-- Network.addDebt -/
theorem c_X0_addDebt (l : Launch) (D : va_G) (cy : Nat → ClassId) (lo : Nat) (R : List Nat) (ad : Nat → Nat) (q : Nat → Nat → Nat) (ns nt : Nat) (I : Nat → Nat → Int32) (J : Nat → Nat → Int64) (hR : ∀ r, r < 19 → r ∈ R) (a : Int32) (b : Int32) (x : Int64) : k_Cv l yX0_addDebt cX0_addDebt 7 none 1 22 D cy lo R ad (k_c cy ad q ns nt I J) [.ref (ad 3), .int a, .int b, .long x] (k_c cy ad q ns nt I (addDebtJ J a b x)) := by
  refine k_metQ (by decide +kernel) (Nat.le_of_ble_eq_true rfl) ?_
  intro p e s m args below meth c Q F hr hlk hnm hQ
  refine x_iload_n F dX0_addDebt_0 rfl 1 rfl ?_
  refine x_iload_n F dX0_addDebt_1 rfl 2 rfl ?_
  refine z_callSNi F [.int a, .int b] (c_X4_pairOf l D cy lo R ad _ a b) mc_X4_pairOf ms_X4_pairOf lk_X0_31 rfl rfl dX0_addDebt_2 ⟨Nat.le_of_ble_eq_true rfl, Nat.le_of_ble_eq_true rfl⟩ ⟨Nat.le_of_ble_eq_true rfl, Nat.le_of_ble_eq_true rfl⟩ (Nat.le_of_ble_eq_true rfl) ?_
  refine x_istore F [(5, .int (pairI a b)), (0, .ref (ad 3)), (1, .int a), (2, .int b), (3, .long x)] dX0_addDebt_5 (by decide) rfl ?_
  refine x_iload_n F dX0_addDebt_7 rfl 3 rfl ?_
  refine x_iload_n F dX0_addDebt_8 rfl 2 rfl ?_
  refine z_callSNi F [.int b, .int a] (c_X4_pairOf l D cy lo R ad _ b a) mc_X4_pairOf ms_X4_pairOf lk_X0_31 rfl rfl dX0_addDebt_9 ⟨Nat.le_of_ble_eq_true rfl, Nat.le_of_ble_eq_true rfl⟩ ⟨Nat.le_of_ble_eq_true rfl, Nat.le_of_ble_eq_true rfl⟩ (Nat.le_of_ble_eq_true rfl) ?_
  refine x_istore F [(6, .int (pairI b a)), (5, .int (pairI a b)), (0, .ref (ad 3)), (1, .int a), (2, .int b), (3, .long x)] dX0_addDebt_12 (by decide) rfl ?_
  refine x_iload F dX0_addDebt_14 1 rfl ?_
  refine x_if_lt F 60 dX0_addDebt_16 (by decide) (fun h16 => ?_) (fun h16 => ?_)
  · rw [hQ]
    exact x_vret F hr hlk (by simp [addDebtJ, addJ, isP, *]) dX0_addDebt_60
  · refine x_iload F dX0_addDebt_19 1 rfl ?_
    refine x_bipush F (v := 25) dX0_addDebt_21 (by decide) ?_
    refine x_icmp_ge F 60 dX0_addDebt_23 (by decide) (fun h23 => ?_) (fun h23 => ?_)
    · rw [hQ]
      exact x_vret F hr hlk (by simp [addDebtJ, addJ, isP, *]) dX0_addDebt_60
    · refine x_iload F dX0_addDebt_26 0 rfl ?_
      refine x_if_lt F 60 dX0_addDebt_28 (by decide) (fun h28 => ?_) (fun h28 => ?_)
      · rw [hQ]
        exact x_vret F hr hlk (by simp [addDebtJ, addJ, isP, *]) dX0_addDebt_60
      · refine x_iload F dX0_addDebt_31 0 rfl ?_
        refine x_bipush F (v := 25) dX0_addDebt_33 (by decide) ?_
        refine x_icmp_ge F 60 dX0_addDebt_35 (by decide) (fun h35 => ?_) (fun h35 => ?_)
        · rw [hQ]
          exact x_vret F hr hlk (by simp [addDebtJ, addJ, isP, *]) dX0_addDebt_60
        · refine x_aload_n F dX0_addDebt_38 rfl 2 rfl ?_
          refine g_X0_18 F (hR 3 (by decide)) sc_3 rfl dX0_addDebt_39 ?_
          refine x_iload F dX0_addDebt_42 1 rfl ?_
          refine x_dup2 F dX0_addDebt_44 rfl rfl ?_
          refine y_lald F (hR 10 (by decide)) ss_10 (by first | exact vin_of (n := 25) (by decide) ‹_› ‹_› | exact vin_lt (n := 25) (by decide) ‹_› ‹_›) dX0_addDebt_45 ?_
          refine x_lload_n F dX0_addDebt_46 rfl 5 rfl ?_
          refine x_ladd F dX0_addDebt_47 ?_
          refine y_last F (hR 10 (by decide)) ss_10 (by first | exact vin_of (n := 25) (by decide) ‹_› ‹_› | exact vin_lt (n := 25) (by decide) ‹_› ‹_›) dX0_addDebt_48 ?_
          refine x_aload_n F dX0_addDebt_49 rfl 2 rfl ?_
          refine g_X0_18 F (hR 3 (by decide)) sc_3 rfl dX0_addDebt_50 ?_
          refine x_iload F dX0_addDebt_53 0 rfl ?_
          refine x_dup2 F dX0_addDebt_55 rfl rfl ?_
          refine y_lald F (hR 10 (by decide)) ss_10 (by first | exact vin_of (n := 25) (by decide) ‹_› ‹_› | exact vin_lt (n := 25) (by decide) ‹_› ‹_›) dX0_addDebt_56 ?_
          refine x_lload_n F dX0_addDebt_57 rfl 5 rfl ?_
          refine x_lsub F dX0_addDebt_58 ?_
          refine y_last F (hR 10 (by decide)) ss_10 (by first | exact vin_of (n := 25) (by decide) ‹_› ‹_› | exact vin_lt (n := 25) (by decide) ‹_› ‹_›) dX0_addDebt_59 ?_
          rw [hQ]
          exact x_vret F hr hlk (by simp [addDebtJ, addJ, isP, *]) dX0_addDebt_60
set_option maxHeartbeats 4000000 in
set_option maxRecDepth 100000 in
/-- Network.isOpen -/
theorem c_X0_isOpen (l : Launch) (D : va_G) (cy : Nat → ClassId) (lo : Nat) (R : List Nat) (ad : Nat → Nat) (q : Nat → Nat → Nat) (ns nt : Nat) (I : Nat → Nat → Int32) (J : Nat → Nat → Int64) (hR : ∀ r, r < 19 → r ∈ R) (a : Int32) (b : Int32) : k_Ci l yX0_isOpen cX0_isOpen 4 (some .boolean) 1 22 D cy lo R ad (k_c cy ad q ns nt I J) [.ref (ad 3), .int a, .int b] (k_b (openF I J a b)) (k_c cy ad q ns nt I J) := by
  refine k_metQ (by decide +kernel) (Nat.le_of_ble_eq_true rfl) ?_
  intro p e s m args below meth c Q F hr hlk hnm hQ
  refine x_iload_n F dX0_isOpen_0 rfl 1 rfl ?_
  refine x_iload_n F dX0_isOpen_1 rfl 2 rfl ?_
  refine z_callSNi F [.int a, .int b] (c_X4_pairOf l D cy lo R ad _ a b) mc_X4_pairOf ms_X4_pairOf lk_X0_31 rfl rfl dX0_isOpen_2 ⟨Nat.le_of_ble_eq_true rfl, Nat.le_of_ble_eq_true rfl⟩ ⟨Nat.le_of_ble_eq_true rfl, Nat.le_of_ble_eq_true rfl⟩ (Nat.le_of_ble_eq_true rfl) ?_
  refine x_istore_n F [(3, .int (pairI a b)), (0, .ref (ad 3)), (1, .int a), (2, .int b)] dX0_isOpen_5 rfl (by decide) rfl ?_
  refine x_iload_n F dX0_isOpen_6 rfl 0 rfl ?_
  refine x_if_lt F 55 dX0_isOpen_7 (by decide) (fun h7 => ?_) (fun h7 => ?_)
  · refine x_iconst F (v := 0) dX0_isOpen_55 (by decide) ?_
    rw [hQ]
    exact x_zret F hr hlk (by decide) ⟨by simp [openF, isP, k_b, *], by simp [openF, isP, k_b, *]⟩ dX0_isOpen_56
  · refine x_iload_n F dX0_isOpen_10 rfl 0 rfl ?_
    refine x_bipush F (v := 25) dX0_isOpen_11 (by decide) ?_
    refine x_icmp_ge F 55 dX0_isOpen_13 (by decide) (fun h13 => ?_) (fun h13 => ?_)
    · refine x_iconst F (v := 0) dX0_isOpen_55 (by decide) ?_
      rw [hQ]
      exact x_zret F hr hlk (by decide) ⟨by simp [openF, isP, k_b, *], by simp [openF, isP, k_b, *]⟩ dX0_isOpen_56
    · refine x_aload_n F dX0_isOpen_16 rfl 1 rfl ?_
      refine g_X0_9 F (hR 3 (by decide)) sc_3 rfl dX0_isOpen_17 ?_
      refine x_iload_n F dX0_isOpen_20 rfl 0 rfl ?_
      refine y_iald F (hR 8 (by decide)) ss_8 (by first | exact vin_of (n := 25) (by decide) ‹_› ‹_› | exact vin_lt (n := 25) (by decide) ‹_› ‹_›) dX0_isOpen_21 ?_
      refine x_iconst F (v := -1) dX0_isOpen_22 (by decide) ?_
      refine x_icmp_eq F 55 dX0_isOpen_23 (by decide) (fun h23 => ?_) (fun h23 => ?_)
      · refine x_iconst F (v := 0) dX0_isOpen_55 (by decide) ?_
        rw [hQ]
        exact x_zret F hr hlk (by decide) ⟨by simp [openF, isP, k_b, *], by simp [openF, isP, k_b, *]⟩ dX0_isOpen_56
      · refine x_aload_n F dX0_isOpen_26 rfl 1 rfl ?_
        refine g_X0_18 F (hR 3 (by decide)) sc_3 rfl dX0_isOpen_27 ?_
        refine x_iload_n F dX0_isOpen_30 rfl 0 rfl ?_
        refine y_lald F (hR 10 (by decide)) ss_10 (by first | exact vin_of (n := 25) (by decide) ‹_› ‹_› | exact vin_lt (n := 25) (by decide) ‹_› ‹_›) dX0_isOpen_31 ?_
        refine x_aload_n F dX0_isOpen_32 rfl 1 rfl ?_
        refine g_X0_9 F (hR 3 (by decide)) sc_3 rfl dX0_isOpen_33 ?_
        refine x_iload_n F dX0_isOpen_36 rfl 0 rfl ?_
        refine y_iald F (hR 8 (by decide)) ss_8 (by first | exact vin_of (n := 25) (by decide) ‹_› ‹_› | exact vin_lt (n := 25) (by decide) ‹_› ‹_›) dX0_isOpen_37 ?_
        refine x_i2l F dX0_isOpen_38 ?_
        refine x_ladd F dX0_isOpen_39 ?_
        refine x_aload_n F dX0_isOpen_40 rfl 1 rfl ?_
        refine g_X0_15 F (hR 3 (by decide)) sc_3 rfl dX0_isOpen_41 ?_
        refine x_iload_n F dX0_isOpen_44 rfl 0 rfl ?_
        refine y_iald F (hR 9 (by decide)) ss_9 (by first | exact vin_of (n := 25) (by decide) ‹_› ‹_› | exact vin_lt (n := 25) (by decide) ‹_› ‹_›) dX0_isOpen_45 ?_
        refine x_i2l F dX0_isOpen_46 ?_
        refine x_lcmp F dX0_isOpen_47 ?_
        refine x_if_gt F 55 dX0_isOpen_48 (by decide) (fun h48 => ?_) (fun h48 => ?_)
        · rw [lg_cmp_gt] at h48
          refine x_iconst F (v := 0) dX0_isOpen_55 (by decide) ?_
          rw [hQ]
          exact x_zret F hr hlk (by decide) ⟨by simp [openF, isP, k_b, *], by simp [openF, isP, k_b, *]⟩ dX0_isOpen_56
        · rw [lg_cmp_gt] at h48
          refine x_iconst F (v := 1) dX0_isOpen_51 (by decide) ?_
          refine x_goto F 56 dX0_isOpen_52 (by decide) ?_
          rw [hQ]
          exact x_zret F hr hlk (by decide) ⟨by simp [openF, isP, k_b, *], by simp [openF, isP, k_b, *]⟩ dX0_isOpen_56
end
section
def homeF (I : Nat → Nat → Int32) (r : Nat) (b : Int32) : Int32 := if (!decide (b < 0) && !decide (I r 1 ≤ b) && !decide (10 < I r 1)) = true then I (r + 1) (I r 1 - 1 - b).toNatClampNeg else -1
theorem vin_home {n b : Int32} (h0 : ¬ b < 0) (h1 : ¬ n ≤ b) (h2 : ¬ 10 < n) : vp_in (n - 1 - b) 10 := by
  rw [vp_in_iff]
  rw [Int32.lt_iff_toInt_lt] at h0 h2
  rw [Int32.le_iff_toInt_le] at h1
  have e0 : (0 : Int32).toInt = 0 := rfl
  have e1 : (1 : Int32).toInt = 1 := rfl
  have e2 : (10 : Int32).toInt = 10 := rfl
  rw [e0] at h0
  rw [e2] at h2
  have a1 : (n - 1).toInt = n.toInt - 1 := by
    rw [Int32.toInt_sub, e1, Int.bmod_eq_of_le (by omega) (by omega)]
  have a2 : (n - 1 - b).toInt = n.toInt - 1 - b.toInt := by
    rw [Int32.toInt_sub, a1, Int.bmod_eq_of_le (by omega) (by omega)]
  rw [a2]
  omega
def moveB (I : Nat → Nat → Int32) (r : Nat) : Bool := !decide (I r 1 < 0) && decide (I r 1 < 10)
def moveI (I : Nat → Nat → Int32) (r : Nat) (x : Int32) : Nat → Nat → Int32 := if moveB I r = true then wI (wI I (r + 1) (I r 1).toNatClampNeg x) r 1 ((wI I (r + 1) (I r 1).toNatClampNeg x) r 1 + 1) else I
def payB (I : Nat → Nat → Int32) (r : Nat) (x t : Int32) : Bool := !decide (I r 3 < x) || !decide (I r 2 < t)
def payI (I : Nat → Nat → Int32) (r : Nat) (x t : Int32) : Nat → Nat → Int32 := if I r 3 < x then (if I r 2 < t then I else wI I r 2 (I r 2 - t)) else wI I r 3 (I r 3 - x)
def dueF (I : Nat → Nat → Int32) (r : Nat) : Bool := !decide (I r 2 ≤ 0) && decide (I r 7 - I r 7 / I r 2 * I r 2 = 0)
def addChJ (J : Nat → Nat → Int64) (r : Nat) (k x : Int32) : Nat → Nat → Int64 := if isP k = true then addJ J (r + 3) k.toNatClampNeg x.toInt64 else J
def chF (J : Nat → Nat → Int64) (r : Nat) (k : Int32) : Int64 := if isP k = true then J (r + 3) k.toNatClampNeg else 0
def overF (I : Nat → Nat → Int32) (a b : Int32) : Int32 := (if isCar b = true then I 11 b.toNatClampNeg else 1000000) + rateF I a b * 8 + 1
theorem vin_car {c : Int32} (h : isCar c = true) : vp_in c 5 := by
  simp only [isCar, Bool.and_eq_true, Bool.not_eq_true', decide_eq_false_iff_not] at h
  exact vin_of (n := 5) (by decide) h.1 h.2
set_option maxHeartbeats 4000000 in
set_option maxRecDepth 100000 in
/-- Subscriber.homeAt -/
theorem c_X2_homeAt (l : Launch) (D : va_G) (cy : Nat → ClassId) (lo : Nat) (R : List Nat) (ad : Nat → Nat) (q : Nat → Nat → Nat) (ns nt : Nat) (I : Nat → Nat → Int32) (J : Nat → Nat → Int64) (hR : ∀ r, r < 19 → r ∈ R) (r : Nat) (x : Int32) (hk : 40 ≤ r ∧ r < 80 ∧ r % 2 = 0) (hm : r ∈ R) (hn : r + 1 ∈ R) : k_Ci l yX2_homeAt cX2_homeAt 2 (some .int) 0 0 D cy lo R ad (k_c cy ad q ns nt I J) [.ref (ad r), .int x] (homeF I r x) (k_c cy ad q ns nt I J) := by
  refine k_metQ (by decide +kernel) (Nat.le_of_ble_eq_true rfl) ?_
  intro p e s m args below meth c Q F hr hlk hnm hQ
  refine x_iload_n F dX2_homeAt_0 rfl 1 rfl ?_
  refine x_if_lt F 37 dX2_homeAt_1 (by decide) (fun h1 => ?_) (fun h1 => ?_)
  · refine x_iconst F (v := -1) dX2_homeAt_37 (by decide) ?_
    rw [hQ]
    exact x_iret F hr hlk ⟨by simp [homeF, *], by simp [homeF, *]⟩ dX2_homeAt_38
  · refine x_iload_n F dX2_homeAt_4 rfl 1 rfl ?_
    refine x_aload_n F dX2_homeAt_5 rfl 0 rfl ?_
    refine g_X2_15 F hm (sc_sub hk) rfl dX2_homeAt_6 ?_
    refine x_icmp_ge F 37 dX2_homeAt_9 (by decide) (fun h9 => ?_) (fun h9 => ?_)
    · refine x_iconst F (v := -1) dX2_homeAt_37 (by decide) ?_
      rw [hQ]
      exact x_iret F hr hlk ⟨by simp [homeF, *], by simp [homeF, *]⟩ dX2_homeAt_38
    · refine x_aload_n F dX2_homeAt_12 rfl 0 rfl ?_
      refine g_X2_15 F hm (sc_sub hk) rfl dX2_homeAt_13 ?_
      refine x_bipush F (v := 10) dX2_homeAt_16 (by decide) ?_
      refine x_icmp_gt F 37 dX2_homeAt_18 (by decide) (fun h18 => ?_) (fun h18 => ?_)
      · refine x_iconst F (v := -1) dX2_homeAt_37 (by decide) ?_
        rw [hQ]
        exact x_iret F hr hlk ⟨by simp [homeF, *], by simp [homeF, *]⟩ dX2_homeAt_38
      · refine x_aload_n F dX2_homeAt_21 rfl 0 rfl ?_
        refine g_X2_9 F hm (sc_sub hk) rfl dX2_homeAt_22 ?_
        refine x_aload_n F dX2_homeAt_25 rfl 0 rfl ?_
        refine g_X2_15 F hm (sc_sub hk) rfl dX2_homeAt_26 ?_
        refine x_iconst F (v := 1) dX2_homeAt_29 (by decide) ?_
        refine x_isub F dX2_homeAt_30 ?_
        refine x_iload_n F dX2_homeAt_31 rfl 1 rfl ?_
        refine x_isub F dX2_homeAt_32 ?_
        refine y_iald F hn (ss_chn hk) (vin_home ‹_› ‹_› ‹_›) dX2_homeAt_33 ?_
        refine x_goto F 38 dX2_homeAt_34 (by decide) ?_
        rw [hQ]
        exact x_iret F hr hlk ⟨by simp [homeF, *], by simp [homeF, *]⟩ dX2_homeAt_38
set_option maxHeartbeats 4000000 in
set_option maxRecDepth 100000 in
/-- Subscriber.moveTo -/
theorem c_X2_moveTo (l : Launch) (D : va_G) (cy : Nat → ClassId) (lo : Nat) (R : List Nat) (ad : Nat → Nat) (q : Nat → Nat → Nat) (ns nt : Nat) (I : Nat → Nat → Int32) (J : Nat → Nat → Int64) (hR : ∀ r, r < 19 → r ∈ R) (r : Nat) (x : Int32) (hk : 40 ≤ r ∧ r < 80 ∧ r % 2 = 0) (hm : r ∈ R) (hn : r + 1 ∈ R) : k_Ci l yX2_moveTo cX2_moveTo 2 (some .boolean) 0 0 D cy lo R ad (k_c cy ad q ns nt I J) [.ref (ad r), .int x] (k_b (moveB I r)) (k_c cy ad q ns nt (moveI I r x) J) := by
  refine k_metQ (by decide +kernel) (Nat.le_of_ble_eq_true rfl) ?_
  intro p e s m args below meth c Q F hr hlk hnm hQ
  refine x_aload_n F dX2_moveTo_0 rfl 0 rfl ?_
  refine g_X2_15 F hm (sc_sub hk) rfl dX2_moveTo_1 ?_
  refine x_if_lt F 16 dX2_moveTo_4 (by decide) (fun h4 => ?_) (fun h4 => ?_)
  · refine x_iconst F (v := 0) dX2_moveTo_16 (by decide) ?_
    rw [hQ]
    exact x_zret F hr hlk (by decide) ⟨by simp [moveI, moveB, k_b, *], by simp [moveI, moveB, k_b, *]⟩ dX2_moveTo_17
  · refine x_aload_n F dX2_moveTo_7 rfl 0 rfl ?_
    refine g_X2_15 F hm (sc_sub hk) rfl dX2_moveTo_8 ?_
    refine x_bipush F (v := 10) dX2_moveTo_11 (by decide) ?_
    refine x_icmp_lt F 18 dX2_moveTo_13 (by decide) (fun h13 => ?_) (fun h13 => ?_)
    · refine x_aload_n F dX2_moveTo_18 rfl 0 rfl ?_
      refine g_X2_9 F hm (sc_sub hk) rfl dX2_moveTo_19 ?_
      refine x_aload_n F dX2_moveTo_22 rfl 0 rfl ?_
      refine g_X2_15 F hm (sc_sub hk) rfl dX2_moveTo_23 ?_
      refine x_iload_n F dX2_moveTo_26 rfl 1 rfl ?_
      refine y_iast F hn (ss_chn hk) (by first | exact vin_of (n := 10) (by decide) ‹_› ‹_› | exact vin_lt (n := 10) (by decide) ‹_› ‹_›) dX2_moveTo_27 ?_
      refine x_aload_n F dX2_moveTo_28 rfl 0 rfl ?_
      refine x_dup F dX2_moveTo_29 rfl ?_
      refine g_X2_15 F hm (sc_sub hk) rfl dX2_moveTo_30 ?_
      refine x_iconst F (v := 1) dX2_moveTo_33 (by decide) ?_
      refine x_iadd F dX2_moveTo_34 ?_
      refine p_X2_15 F hm (ss_sub hk) dX2_moveTo_35 ?_
      refine x_iconst F (v := 1) dX2_moveTo_38 (by decide) ?_
      rw [hQ]
      exact x_zret F hr hlk (by decide) ⟨by simp [moveI, moveB, k_b, *], by simp [moveI, moveB, k_b, *]⟩ dX2_moveTo_39
    · refine x_iconst F (v := 0) dX2_moveTo_16 (by decide) ?_
      rw [hQ]
      exact x_zret F hr hlk (by decide) ⟨by simp [moveI, moveB, k_b, *], by simp [moveI, moveB, k_b, *]⟩ dX2_moveTo_17
set_option maxHeartbeats 4000000 in
set_option maxRecDepth 100000 in
/-- Subscriber.pay -/
theorem c_X2_pay (l : Launch) (D : va_G) (cy : Nat → ClassId) (lo : Nat) (R : List Nat) (ad : Nat → Nat) (q : Nat → Nat → Nat) (ns nt : Nat) (I : Nat → Nat → Int32) (J : Nat → Nat → Int64) (hR : ∀ r, r < 19 → r ∈ R) (r : Nat) (x : Int32) (t : Int32) (hk : 40 ≤ r ∧ r < 80 ∧ r % 2 = 0) (hm : r ∈ R) (hn : r + 1 ∈ R) : k_Ci l yX2_pay cX2_pay 3 (some .boolean) 0 0 D cy lo R ad (k_c cy ad q ns nt I J) [.ref (ad r), .int x, .int t] (k_b (payB I r x t)) (k_c cy ad q ns nt (payI I r x t) J) := by
  refine k_metQ (by decide +kernel) (Nat.le_of_ble_eq_true rfl) ?_
  intro p e s m args below meth c Q F hr hlk hnm hQ
  refine x_aload_n F dX2_pay_0 rfl 0 rfl ?_
  refine g_X2_22 F hm (sc_sub hk) rfl dX2_pay_1 ?_
  refine x_iload_n F dX2_pay_4 rfl 1 rfl ?_
  refine x_icmp_lt F 20 dX2_pay_5 (by decide) (fun h5 => ?_) (fun h5 => ?_)
  · refine x_aload_n F dX2_pay_20 rfl 0 rfl ?_
    refine g_X2_19 F hm (sc_sub hk) rfl dX2_pay_21 ?_
    refine x_iload_n F dX2_pay_24 rfl 2 rfl ?_
    refine x_icmp_lt F 40 dX2_pay_25 (by decide) (fun h25 => ?_) (fun h25 => ?_)
    · refine x_iconst F (v := 0) dX2_pay_40 (by decide) ?_
      rw [hQ]
      exact x_zret F hr hlk (by decide) ⟨by simp [payI, payB, k_b, *], by simp [payI, payB, k_b, *]⟩ dX2_pay_41
    · refine x_aload_n F dX2_pay_28 rfl 0 rfl ?_
      refine x_dup F dX2_pay_29 rfl ?_
      refine g_X2_19 F hm (sc_sub hk) rfl dX2_pay_30 ?_
      refine x_iload_n F dX2_pay_33 rfl 2 rfl ?_
      refine x_isub F dX2_pay_34 ?_
      refine p_X2_19 F hm (ss_sub hk) dX2_pay_35 ?_
      refine x_iconst F (v := 1) dX2_pay_38 (by decide) ?_
      rw [hQ]
      exact x_zret F hr hlk (by decide) ⟨by simp [payI, payB, k_b, *], by simp [payI, payB, k_b, *]⟩ dX2_pay_39
  · refine x_aload_n F dX2_pay_8 rfl 0 rfl ?_
    refine x_dup F dX2_pay_9 rfl ?_
    refine g_X2_22 F hm (sc_sub hk) rfl dX2_pay_10 ?_
    refine x_iload_n F dX2_pay_13 rfl 1 rfl ?_
    refine x_isub F dX2_pay_14 ?_
    refine p_X2_22 F hm (ss_sub hk) dX2_pay_15 ?_
    refine x_iconst F (v := 1) dX2_pay_18 (by decide) ?_
    rw [hQ]
    exact x_zret F hr hlk (by decide) ⟨by simp [payI, payB, k_b, *], by simp [payI, payB, k_b, *]⟩ dX2_pay_19
set_option maxHeartbeats 4000000 in
set_option maxRecDepth 100000 in
/-- Talk.isStepDue -/
theorem c_X3_isStepDue (l : Launch) (D : va_G) (cy : Nat → ClassId) (lo : Nat) (R : List Nat) (ad : Nat → Nat) (q : Nat → Nat → Nat) (ns nt : Nat) (I : Nat → Nat → Int32) (J : Nat → Nat → Int64) (hR : ∀ r, r < 19 → r ∈ R) (r : Nat) (hk : 80 ≤ r ∧ r % 4 = 0) (h0 : r ∈ R) (h1 : r + 1 ∈ R) (h2 : r + 1 + 1 ∈ R) (h3 : r + 3 ∈ R) : k_Ci l yX3_isStepDue cX3_isStepDue 1 (some .boolean) 0 0 D cy lo R ad (k_c cy ad q ns nt I J) [.ref (ad r)] (k_b (dueF I r)) (k_c cy ad q ns nt I J) := by
  refine k_metQ (by decide +kernel) (Nat.le_of_ble_eq_true rfl) ?_
  intro p e s m args below meth c Q F hr hlk hnm hQ
  refine x_aload_n F dX3_isStepDue_0 rfl 0 rfl ?_
  refine g_X3_33 F h0 (sc_tlk hk) rfl dX3_isStepDue_1 ?_
  refine x_if_le F 23 dX3_isStepDue_4 (by decide) (fun h4 => ?_) (fun h4 => ?_)
  · refine x_iconst F (v := 0) dX3_isStepDue_23 (by decide) ?_
    rw [hQ]
    exact x_zret F hr hlk (by decide) ⟨by simp [dueF, k_b, *], by simp [dueF, k_b, *]⟩ dX3_isStepDue_24
  · refine x_aload_n F dX3_isStepDue_7 rfl 0 rfl ?_
    refine g_X3_39 F h0 (sc_tlk hk) rfl dX3_isStepDue_8 ?_
    refine x_aload_n F dX3_isStepDue_11 rfl 0 rfl ?_
    refine g_X3_33 F h0 (sc_tlk hk) rfl dX3_isStepDue_12 ?_
    refine x_irem F dX3_isStepDue_15 (by intro h; simp_all) ?_
    refine x_if_ne F 23 dX3_isStepDue_16 (by decide) (fun h16 => ?_) (fun h16 => ?_)
    · refine x_iconst F (v := 0) dX3_isStepDue_23 (by decide) ?_
      rw [hQ]
      exact x_zret F hr hlk (by decide) ⟨by simp [dueF, k_b, *], by simp [dueF, k_b, *]⟩ dX3_isStepDue_24
    · refine x_iconst F (v := 1) dX3_isStepDue_19 (by decide) ?_
      refine x_goto F 24 dX3_isStepDue_20 (by decide) ?_
      rw [hQ]
      exact x_zret F hr hlk (by decide) ⟨by simp [dueF, k_b, *], by simp [dueF, k_b, *]⟩ dX3_isStepDue_24
set_option maxHeartbeats 4000000 in
set_option maxRecDepth 100000 in
/-- Talk.addCharge -/
theorem c_X3_addCharge (l : Launch) (D : va_G) (cy : Nat → ClassId) (lo : Nat) (R : List Nat) (ad : Nat → Nat) (q : Nat → Nat → Nat) (ns nt : Nat) (I : Nat → Nat → Int32) (J : Nat → Nat → Int64) (hR : ∀ r, r < 19 → r ∈ R) (r : Nat) (k : Int32) (x : Int32) (hk : 80 ≤ r ∧ r % 4 = 0) (h0 : r ∈ R) (h1 : r + 1 ∈ R) (h2 : r + 1 + 1 ∈ R) (h3 : r + 3 ∈ R) : k_Cv l yX3_addCharge cX3_addCharge 3 none 0 0 D cy lo R ad (k_c cy ad q ns nt I J) [.ref (ad r), .int k, .int x] (k_c cy ad q ns nt I (addChJ J r k x)) := by
  refine k_metQ (by decide +kernel) (Nat.le_of_ble_eq_true rfl) ?_
  intro p e s m args below meth c Q F hr hlk hnm hQ
  refine x_iload_n F dX3_addCharge_0 rfl 1 rfl ?_
  refine x_if_lt F 21 dX3_addCharge_1 (by decide) (fun h1 => ?_) (fun h1 => ?_)
  · rw [hQ]
    exact x_vret F hr hlk (by simp [addChJ, addJ, isP, *]) dX3_addCharge_21
  · refine x_iload_n F dX3_addCharge_4 rfl 1 rfl ?_
    refine x_bipush F (v := 25) dX3_addCharge_5 (by decide) ?_
    refine x_icmp_ge F 21 dX3_addCharge_7 (by decide) (fun h7 => ?_) (fun h7 => ?_)
    · rw [hQ]
      exact x_vret F hr hlk (by simp [addChJ, addJ, isP, *]) dX3_addCharge_21
    · refine x_aload_n F dX3_addCharge_10 rfl 0 rfl ?_
      refine g_X3_18 F h0 (sc_tlk hk) rfl dX3_addCharge_11 ?_
      refine x_iload_n F dX3_addCharge_14 rfl 1 rfl ?_
      refine x_dup2 F dX3_addCharge_15 rfl rfl ?_
      refine y_lald F h3 (ss_chg hk) (by first | exact vin_of (n := 25) (by decide) ‹_› ‹_› | exact vin_lt (n := 25) (by decide) ‹_› ‹_›) dX3_addCharge_16 ?_
      refine x_iload_n F dX3_addCharge_17 rfl 2 rfl ?_
      refine x_i2l F dX3_addCharge_18 ?_
      refine x_ladd F dX3_addCharge_19 ?_
      refine y_last F h3 (ss_chg hk) (by first | exact vin_of (n := 25) (by decide) ‹_› ‹_› | exact vin_lt (n := 25) (by decide) ‹_› ‹_›) dX3_addCharge_20 ?_
      rw [hQ]
      exact x_vret F hr hlk (by simp [addChJ, addJ, isP, *]) dX3_addCharge_21
set_option maxHeartbeats 4000000 in
set_option maxRecDepth 100000 in
/-- Talk.chargeOf -/
theorem c_X3_chargeOf (l : Launch) (D : va_G) (cy : Nat → ClassId) (lo : Nat) (R : List Nat) (ad : Nat → Nat) (q : Nat → Nat → Nat) (ns nt : Nat) (I : Nat → Nat → Int32) (J : Nat → Nat → Int64) (hR : ∀ r, r < 19 → r ∈ R) (r : Nat) (k : Int32) (hk : 80 ≤ r ∧ r % 4 = 0) (h0 : r ∈ R) (h1 : r + 1 ∈ R) (h2 : r + 1 + 1 ∈ R) (h3 : r + 3 ∈ R) : k_Cl l yX3_chargeOf cX3_chargeOf 2 (some .long) 0 0 D cy lo R ad (k_c cy ad q ns nt I J) [.ref (ad r), .int k] (chF J r k) (k_c cy ad q ns nt I J) := by
  refine k_metQ (by decide +kernel) (Nat.le_of_ble_eq_true rfl) ?_
  intro p e s m args below meth c Q F hr hlk hnm hQ
  refine x_iload_n F dX3_chargeOf_0 rfl 1 rfl ?_
  refine x_if_lt F 19 dX3_chargeOf_1 (by decide) (fun h1 => ?_) (fun h1 => ?_)
  · refine x_lconst F (v := 0) dX3_chargeOf_19 (by decide) ?_
    rw [hQ]
    exact x_lret F hr hlk ⟨by simp [chF, isP, *], by simp [chF, isP, *]⟩ dX3_chargeOf_20
  · refine x_iload_n F dX3_chargeOf_4 rfl 1 rfl ?_
    refine x_bipush F (v := 25) dX3_chargeOf_5 (by decide) ?_
    refine x_icmp_ge F 19 dX3_chargeOf_7 (by decide) (fun h7 => ?_) (fun h7 => ?_)
    · refine x_lconst F (v := 0) dX3_chargeOf_19 (by decide) ?_
      rw [hQ]
      exact x_lret F hr hlk ⟨by simp [chF, isP, *], by simp [chF, isP, *]⟩ dX3_chargeOf_20
    · refine x_aload_n F dX3_chargeOf_10 rfl 0 rfl ?_
      refine g_X3_18 F h0 (sc_tlk hk) rfl dX3_chargeOf_11 ?_
      refine x_iload_n F dX3_chargeOf_14 rfl 1 rfl ?_
      refine y_lald F h3 (ss_chg hk) (by first | exact vin_of (n := 25) (by decide) ‹_› ‹_› | exact vin_lt (n := 25) (by decide) ‹_› ‹_›) dX3_chargeOf_15 ?_
      refine x_goto F 20 dX3_chargeOf_16 (by decide) ?_
      rw [hQ]
      exact x_lret F hr hlk ⟨by simp [chF, isP, *], by simp [chF, isP, *]⟩ dX3_chargeOf_20
set_option maxHeartbeats 4000000 in
set_option maxRecDepth 100000 in
/-- Network.weightOver -/
theorem c_X0_weightOver (l : Launch) (D : va_G) (cy : Nat → ClassId) (lo : Nat) (R : List Nat) (ad : Nat → Nat) (q : Nat → Nat → Nat) (ns nt : Nat) (I : Nat → Nat → Int32) (J : Nat → Nat → Int64) (hR : ∀ r, r < 19 → r ∈ R) (a : Int32) (b : Int32) : k_Ci l yX0_weightOver cX0_weightOver 4 (some .int) 2 45 D cy lo R ad (k_c cy ad q ns nt I J) [.ref (ad 3), .int a, .int b] (overF I a b) (k_c cy ad q ns nt I J) := by
  refine k_metQ (by decide +kernel) (Nat.le_of_ble_eq_true rfl) ?_
  intro p e s m args below meth c Q F hr hlk hnm hQ
  refine x_iload_n F dX0_weightOver_0 rfl 2 rfl ?_
  refine z_callSNi F [.int b] (c_X4_isCarrier l D cy lo R ad _ b) mc_X4_isCarrier ms_X4_isCarrier lk_X0_66 rfl rfl dX0_weightOver_1 ⟨Nat.le_of_ble_eq_true rfl, Nat.le_of_ble_eq_true rfl⟩ ⟨Nat.le_of_ble_eq_true rfl, Nat.le_of_ble_eq_true rfl⟩ (Nat.le_of_ble_eq_true rfl) ?_
  refine x_if_eq F 16 dX0_weightOver_4 (by decide) (fun h4 => ?_) (fun h4 => ?_)
  · rw [kb0] at h4
    refine x_ldc F (v := 1000000) dX0_weightOver_16 309 (by decide +kernel) ?_
    refine x_istore_n F [(3, .int 1000000), (0, .ref (ad 3)), (1, .int a), (2, .int b)] dX0_weightOver_18 rfl (by decide) rfl ?_
    refine x_iload_n F dX0_weightOver_19 rfl 0 rfl ?_
    refine x_aload_n F dX0_weightOver_20 rfl 1 rfl ?_
    refine x_iload_n F dX0_weightOver_21 rfl 2 rfl ?_
    refine x_iload_n F dX0_weightOver_22 rfl 3 rfl ?_
    refine z_callVi F [.int a, .int b] (c_X0_rateOf l D cy lo R ad q ns nt I J hR a b ) mc_X0_rateOf mv_X0_rateOf lk_X0_49 (hR 3 (by decide)) sc_3 rfl rfl rfl dX0_weightOver_23 ⟨Nat.le_of_ble_eq_true rfl, Nat.le_of_ble_eq_true rfl⟩ ⟨Nat.le_of_ble_eq_true rfl, Nat.le_of_ble_eq_true rfl⟩ (Nat.le_of_ble_eq_true rfl) ?_
    refine x_bipush F (v := 8) dX0_weightOver_26 (by decide) ?_
    refine x_imul F dX0_weightOver_28 ?_
    refine x_iadd F dX0_weightOver_29 ?_
    refine x_iconst F (v := 1) dX0_weightOver_30 (by decide) ?_
    refine x_iadd F dX0_weightOver_31 ?_
    rw [hQ]
    exact x_iret F hr hlk ⟨by simp [overF, *], by simp [overF, *]⟩ dX0_weightOver_32
  · rw [kb1] at h4
    refine x_aload_n F dX0_weightOver_7 rfl 0 rfl ?_
    refine g_X0_22 F (hR 3 (by decide)) sc_3 rfl dX0_weightOver_8 ?_
    refine x_iload_n F dX0_weightOver_11 rfl 2 rfl ?_
    refine y_iald F (hR 11 (by decide)) ss_11 (vin_car ‹_›) dX0_weightOver_12 ?_
    refine x_goto F 18 dX0_weightOver_13 (by decide) ?_
    refine x_istore_n F [(3, .int (I 11 b.toNatClampNeg)), (0, .ref (ad 3)), (1, .int a), (2, .int b)] dX0_weightOver_18 rfl (by decide) rfl ?_
    refine x_iload_n F dX0_weightOver_19 rfl 0 rfl ?_
    refine x_aload_n F dX0_weightOver_20 rfl 1 rfl ?_
    refine x_iload_n F dX0_weightOver_21 rfl 2 rfl ?_
    refine x_iload_n F dX0_weightOver_22 rfl 3 rfl ?_
    refine z_callVi F [.int a, .int b] (c_X0_rateOf l D cy lo R ad q ns nt I J hR a b ) mc_X0_rateOf mv_X0_rateOf lk_X0_49 (hR 3 (by decide)) sc_3 rfl rfl rfl dX0_weightOver_23 ⟨Nat.le_of_ble_eq_true rfl, Nat.le_of_ble_eq_true rfl⟩ ⟨Nat.le_of_ble_eq_true rfl, Nat.le_of_ble_eq_true rfl⟩ (Nat.le_of_ble_eq_true rfl) ?_
    refine x_bipush F (v := 8) dX0_weightOver_26 (by decide) ?_
    refine x_imul F dX0_weightOver_28 ?_
    refine x_iadd F dX0_weightOver_29 ?_
    refine x_iconst F (v := 1) dX0_weightOver_30 (by decide) ?_
    refine x_iadd F dX0_weightOver_31 ?_
    rw [hQ]
    exact x_iret F hr hlk ⟨by simp [overF, *], by simp [overF, *]⟩ dX0_weightOver_32
end
section
/-! loops: a way's links, its cost, its charges; a route copied; the next carrier on the best way; the weights; the best way -/
def linkF (I : Nat → Nat → Int32) (J : Nat → Nat → Int64) (r k : Nat) : Bool := openF I J (carAt I r (nI k - 1)) (carAt I r (nI k))
def alongF (I : Nat → Nat → Int32) (J : Nat → Nat → Int64) (r : Nat) : Nat → Bool
  | 0 => true
  | k + 1 => alongF I J r k && (k == 0 || linkF I J r k)
theorem along_no {I : Nat → Nat → Int32} {J : Nat → Nat → Int64} {r k : Nat} (h1 : 1 ≤ k) (h : linkF I J r k = false) : ∀ n, k < n → alongF I J r n = false := by
  intro n
  induction n with
  | zero => intro h; omega
  | succ n ih =>
    intro hn
    rw [alongF]
    rcases Nat.lt_or_ge k n with z | z
    · rw [ih z]; rfl
    · have e : n = k := by omega
      subst e
      have : (n == 0) = false := by simp; omega
      rw [this, h]; simp
def costF (I : Nat → Nat → Int32) (r : Nat) : Nat → Int32
  | 0 => 0
  | k + 1 => if k = 0 then 0 else costF I r k + rateF I (carAt I r (nI k - 1)) (carAt I r (nI k))
set_option maxHeartbeats 4000000 in
set_option maxRecDepth 100000 in
/-- Network.isOpenAlong -/
theorem c_X0_isOpenAlong (l : Launch) (D : va_G) (cy : Nat → ClassId) (lo : Nat) (R : List Nat) (ad : Nat → Nat) (q : Nat → Nat → Nat) (ns nt : Nat) (I : Nat → Nat → Int32) (J : Nat → Nat → Int64) (hR : ∀ r, r < 19 → r ∈ R) (r : Nat) (hk : r = 6 ∨ (80 ≤ r ∧ r % 4 = 1)) (hm : r ∈ R) (hn : r + 1 ∈ R) (n : Nat) (hlen : I r 1 = nI n) (hn5 : n ≤ 5) (hn1 : 1 ≤ n) : k_Ci l yX0_isOpenAlong cX0_isOpenAlong 3 (some .boolean) 2 45 D cy lo R ad (k_c cy ad q ns nt I J) [.ref (ad 3), .ref (ad r)] (k_b (alongF I J r n)) (k_c cy ad q ns nt I J) := by
  refine k_metQ (by decide +kernel) (Nat.le_of_ble_eq_true rfl) ?_
  intro p e s m args below meth c Q F hr hlk hnm hQ
  refine x_iconst F (v := 1) dX0_isOpenAlong_0 (by decide) ?_
  refine x_istore_n F [(2, .int 1), (0, .ref (ad 3)), (1, .ref (ad r))] dX0_isOpenAlong_1 rfl (by decide) rfl ?_
  have lp2 : ∀ (fu2 : Nat) (k : Nat), n - k < fu2 → (1 ≤ k) → (k ≤ n) → (alongF I J r k = true) → XW D lo p l e { frames := 2, cells := 0, slots := 0, locals := 45 } s m args below meth c 3 0 0 Q R ad (k_c cy ad q ns nt I J) 2 [(2, .int (nI k)), (0, .ref (ad 3)), (1, .ref (ad r))] [] := by
    intro fu2
    induction fu2 with
    | zero => intro k hf2; exact absurd hf2 (Nat.not_lt_zero _)
    | succ fu2 ih2 =>
      intro k hf2 hk1 hkn hc
      refine x_iload_n F dX0_isOpenAlong_2 rfl 0 rfl ?_
      refine x_aload_n F dX0_isOpenAlong_3 rfl 2 rfl ?_
      refine g_X0_35 F hm (sc_rte hk) rfl dX0_isOpenAlong_4 ?_
      refine x_icmp_ge F 37 dX0_isOpenAlong_7 (by decide) (fun h7 => ?_) (fun h7 => ?_)
      · rw [hlen] at h7
        have hk9 := lp_exit (by omega) hkn h7
        subst hk9
        refine x_iconst F (v := 1) dX0_isOpenAlong_37 (by decide) ?_
        rw [hQ]
        exact x_zret F hr hlk (by decide) ⟨by rw [hc]; rfl, rfl⟩ dX0_isOpenAlong_38
      · rw [hlen] at h7
        have hk9 := lp_go (by omega) hkn h7
        refine x_aload_n F dX0_isOpenAlong_10 rfl 1 rfl ?_
        refine x_aload_n F dX0_isOpenAlong_11 rfl 2 rfl ?_
        refine x_iload_n F dX0_isOpenAlong_12 rfl 0 rfl ?_
        refine x_iconst F (v := 1) dX0_isOpenAlong_13 (by decide) ?_
        refine x_isub F dX0_isOpenAlong_14 ?_
        refine z_callVi F [.int ((nI k) - 1)] (c_X1_carrierAt l D cy lo R ad q ns nt I J hR r ((nI k) - 1) hk hm hn) mc_X1_carrierAt mv_X1_carrierAt lk_X0_41 hm (sc_rte hk) rfl rfl rfl dX0_isOpenAlong_15 ⟨Nat.le_of_ble_eq_true rfl, Nat.le_of_ble_eq_true rfl⟩ ⟨Nat.le_of_ble_eq_true rfl, Nat.le_of_ble_eq_true rfl⟩ (Nat.le_of_ble_eq_true rfl) ?_
        refine x_aload_n F dX0_isOpenAlong_18 rfl 2 rfl ?_
        refine x_iload_n F dX0_isOpenAlong_19 rfl 0 rfl ?_
        refine z_callVi F [.int (nI k)] (c_X1_carrierAt l D cy lo R ad q ns nt I J hR r (nI k) hk hm hn) mc_X1_carrierAt mv_X1_carrierAt lk_X0_41 hm (sc_rte hk) rfl rfl rfl dX0_isOpenAlong_20 ⟨Nat.le_of_ble_eq_true rfl, Nat.le_of_ble_eq_true rfl⟩ ⟨Nat.le_of_ble_eq_true rfl, Nat.le_of_ble_eq_true rfl⟩ (Nat.le_of_ble_eq_true rfl) ?_
        refine z_callVi F [.int (carAt I r ((nI k) - 1)), .int (carAt I r (nI k))] (c_X0_isOpen l D cy lo R ad q ns nt I J hR (carAt I r ((nI k) - 1)) (carAt I r (nI k)) ) mc_X0_isOpen mv_X0_isOpen lk_X0_45 (hR 3 (by decide)) sc_3 rfl rfl rfl dX0_isOpenAlong_23 ⟨Nat.le_of_ble_eq_true rfl, Nat.le_of_ble_eq_true rfl⟩ ⟨Nat.le_of_ble_eq_true rfl, Nat.le_of_ble_eq_true rfl⟩ (Nat.le_of_ble_eq_true rfl) ?_
        refine x_if_ne F 31 dX0_isOpenAlong_26 (by decide) (fun h26 => ?_) (fun h26 => ?_)
        · rw [kb1] at h26
          refine x_iinc F [(2, .int ((nI k) + 1)), (0, .ref (ad 3)), (1, .ref (ad r))] dX0_isOpenAlong_31 0 rfl (by decide) rfl ?_
          refine x_goto F 2 dX0_isOpenAlong_34 (by decide) ?_
          rw [nI_1]
          exact ih2 (k + 1) (by omega) (by omega) (by omega) (by rw [alongF, hc]; simp [linkF, h26])
        · rw [kb0] at h26
          refine x_iconst F (v := 0) dX0_isOpenAlong_29 (by decide) ?_
          rw [hQ]
          exact x_zret F hr hlk (by decide) ⟨by rw [along_no hk1 h26 n hk9]; rfl, rfl⟩ dX0_isOpenAlong_30
  exact lp2 (n + 1) 1 (by omega) (by omega) (by omega) rfl
set_option maxHeartbeats 4000000 in
set_option maxRecDepth 100000 in
/-- Network.costOf -/
theorem c_X0_costOf (l : Launch) (D : va_G) (cy : Nat → ClassId) (lo : Nat) (R : List Nat) (ad : Nat → Nat) (q : Nat → Nat → Nat) (ns nt : Nat) (I : Nat → Nat → Int32) (J : Nat → Nat → Int64) (hR : ∀ r, r < 19 → r ∈ R) (r : Nat) (hk : r = 6 ∨ (80 ≤ r ∧ r % 4 = 1)) (hm : r ∈ R) (hn : r + 1 ∈ R) (n : Nat) (hlen : I r 1 = nI n) (hn5 : n ≤ 5) (hn1 : 1 ≤ n) : k_Ci l yX0_costOf cX0_costOf 4 (some .int) 2 45 D cy lo R ad (k_c cy ad q ns nt I J) [.ref (ad 3), .ref (ad r)] (costF I r n) (k_c cy ad q ns nt I J) := by
  refine k_metQ (by decide +kernel) (Nat.le_of_ble_eq_true rfl) ?_
  intro p e s m args below meth c Q F hr hlk hnm hQ
  refine x_iconst F (v := 0) dX0_costOf_0 (by decide) ?_
  refine x_istore_n F [(2, .int 0), (0, .ref (ad 3)), (1, .ref (ad r))] dX0_costOf_1 rfl (by decide) rfl ?_
  refine x_iconst F (v := 1) dX0_costOf_2 (by decide) ?_
  refine x_istore_n F [(3, .int 1), (2, .int 0), (0, .ref (ad 3)), (1, .ref (ad r))] dX0_costOf_3 rfl (by decide) rfl ?_
  have lp4 : ∀ (fu4 : Nat) (k : Nat), n - k < fu4 → (1 ≤ k) → (k ≤ n) → XW D lo p l e { frames := 2, cells := 0, slots := 0, locals := 45 } s m args below meth c 4 0 0 Q R ad (k_c cy ad q ns nt I J) 4 [(3, .int (nI k)), (2, .int (costF I r k)), (0, .ref (ad 3)), (1, .ref (ad r))] [] := by
    intro fu4
    induction fu4 with
    | zero => intro k hf4; exact absurd hf4 (Nat.not_lt_zero _)
    | succ fu4 ih4 =>
      intro k hf4 hk1 hkn
      refine x_iload_n F dX0_costOf_4 rfl 0 rfl ?_
      refine x_aload_n F dX0_costOf_5 rfl 3 rfl ?_
      refine g_X0_35 F hm (sc_rte hk) rfl dX0_costOf_6 ?_
      refine x_icmp_ge F 37 dX0_costOf_9 (by decide) (fun h9 => ?_) (fun h9 => ?_)
      · rw [hlen] at h9
        have hk9 := lp_exit (by omega) hkn h9
        subst hk9
        refine x_iload_n F dX0_costOf_37 rfl 1 rfl ?_
        rw [hQ]
        exact x_iret F hr hlk ⟨rfl, rfl⟩ dX0_costOf_38
      · rw [hlen] at h9
        have hk9 := lp_go (by omega) hkn h9
        refine x_iload_n F dX0_costOf_12 rfl 1 rfl ?_
        refine x_aload_n F dX0_costOf_13 rfl 2 rfl ?_
        refine x_aload_n F dX0_costOf_14 rfl 3 rfl ?_
        refine x_iload_n F dX0_costOf_15 rfl 0 rfl ?_
        refine x_iconst F (v := 1) dX0_costOf_16 (by decide) ?_
        refine x_isub F dX0_costOf_17 ?_
        refine z_callVi F [.int ((nI k) - 1)] (c_X1_carrierAt l D cy lo R ad q ns nt I J hR r ((nI k) - 1) hk hm hn) mc_X1_carrierAt mv_X1_carrierAt lk_X0_41 hm (sc_rte hk) rfl rfl rfl dX0_costOf_18 ⟨Nat.le_of_ble_eq_true rfl, Nat.le_of_ble_eq_true rfl⟩ ⟨Nat.le_of_ble_eq_true rfl, Nat.le_of_ble_eq_true rfl⟩ (Nat.le_of_ble_eq_true rfl) ?_
        refine x_aload_n F dX0_costOf_21 rfl 3 rfl ?_
        refine x_iload_n F dX0_costOf_22 rfl 0 rfl ?_
        refine z_callVi F [.int (nI k)] (c_X1_carrierAt l D cy lo R ad q ns nt I J hR r (nI k) hk hm hn) mc_X1_carrierAt mv_X1_carrierAt lk_X0_41 hm (sc_rte hk) rfl rfl rfl dX0_costOf_23 ⟨Nat.le_of_ble_eq_true rfl, Nat.le_of_ble_eq_true rfl⟩ ⟨Nat.le_of_ble_eq_true rfl, Nat.le_of_ble_eq_true rfl⟩ (Nat.le_of_ble_eq_true rfl) ?_
        refine z_callVi F [.int (carAt I r ((nI k) - 1)), .int (carAt I r (nI k))] (c_X0_rateOf l D cy lo R ad q ns nt I J hR (carAt I r ((nI k) - 1)) (carAt I r (nI k)) ) mc_X0_rateOf mv_X0_rateOf lk_X0_49 (hR 3 (by decide)) sc_3 rfl rfl rfl dX0_costOf_26 ⟨Nat.le_of_ble_eq_true rfl, Nat.le_of_ble_eq_true rfl⟩ ⟨Nat.le_of_ble_eq_true rfl, Nat.le_of_ble_eq_true rfl⟩ (Nat.le_of_ble_eq_true rfl) ?_
        refine x_iadd F dX0_costOf_29 ?_
        refine x_istore_n F [(2, .int ((costF I r k) + (rateF I (carAt I r ((nI k) - 1)) (carAt I r (nI k))))), (3, .int (nI k)), (0, .ref (ad 3)), (1, .ref (ad r))] dX0_costOf_30 rfl (by decide) rfl ?_
        refine x_iinc F [(3, .int ((nI k) + 1)), (2, .int ((costF I r k) + (rateF I (carAt I r ((nI k) - 1)) (carAt I r (nI k))))), (0, .ref (ad 3)), (1, .ref (ad r))] dX0_costOf_31 1 rfl (by decide) rfl ?_
        refine x_goto F 4 dX0_costOf_34 (by decide) ?_
        rw [nI_1, show costF I r k + rateF I (carAt I r (nI k - 1)) (carAt I r (nI k)) = costF I r (k + 1) by rw [costF, if_neg (by omega)]]
        exact ih4 (k + 1) (by omega) (by omega) (by omega)
  exact lp4 (n + 1) 1 (by omega) (by omega) (by omega)
end
section
def chargeJ (I : Nat → Nat → Int32) (J : Nat → Nat → Int64) (r : Nat) : Nat → Nat → Nat → Int64
  | 0 => J
  | k + 1 => if k = 0 then J else addChJ (addDebtJ (chargeJ I J r k) (carAt I (r + 1) (nI k - 1)) (carAt I (r + 1) (nI k)) (rateF I (carAt I (r + 1) (nI k - 1)) (carAt I (r + 1) (nI k))).toInt64) r (pairI (carAt I (r + 1) (nI k - 1)) (carAt I (r + 1) (nI k))) (rateF I (carAt I (r + 1) (nI k - 1)) (carAt I (r + 1) (nI k)))
def becomeI (I : Nat → Nat → Int32) (r o : Nat) : Nat → Nat → Nat → Int32
  | 0 => wI I r 1 0
  | k + 1 => addRI (becomeI I r o k) r (carAt (becomeI I r o k) o (nI k))
theorem become_len {I : Nat → Nat → Int32} {r o : Nat} (h : o ≠ r) (h2 : o ≠ r + 1) : ∀ k, becomeI I r o k o 1 = I o 1 := by
  intro k
  induction k with
  | zero => rw [becomeI, wI_eq, if_neg (by omega)]
  | succ k ih =>
    rw [becomeI, addRI]
    split
    · rw [wI_eq, if_neg (by omega), wI_eq, if_neg (by omega), ih]
    · exact ih
def condF (I : Nat → Nat → Int32) (J : Nat → Nat → Int64) (a : Int32) (k : Nat) : Bool := openF I J a (nI k) && isCar a && decide (overF I a (nI k) = I 11 a.toNatClampNeg)
def nextG (I : Nat → Nat → Int32) (J : Nat → Nat → Int64) (a : Int32) : Nat → Nat → Int32
  | 0, _ => -1
  | d + 1, k => if condF I J a k = true then nI k else nextG I J a d (k + 1)
def nextF (I : Nat → Nat → Int32) (J : Nat → Nat → Int64) (a : Int32) : Int32 := nextG I J a 5 0
theorem next_no {I : Nat → Nat → Int32} {J : Nat → Nat → Int64} {a : Int32} {k : Nat} (hk : k < 5) (h : condF I J a k = false) : nextG I J a (5 - k) k = nextG I J a (5 - (k + 1)) (k + 1) := by
  rw [show 5 - k = (5 - (k + 1)) + 1 by omega, nextG, h]; simp
theorem next_yes {I : Nat → Nat → Int32} {J : Nat → Nat → Int64} {a : Int32} {k : Nat} (hk : k < 5) (h : condF I J a k = true) : nextG I J a (5 - k) k = nI k := by
  rw [show 5 - k = (5 - (k + 1)) + 1 by omega, nextG, h]; simp
def fillI (I : Nat → Nat → Int32) (r n : Nat) (v : Int32) : Nat → Nat → Int32 := fun r' k' => if r' = r ∧ k' < n then v else I r' k'
theorem fill_0 (I : Nat → Nat → Int32) (r : Nat) (v : Int32) : fillI I r 0 v = I := by
  funext x y
  simp [fillI]
theorem fill_s (I : Nat → Nat → Int32) (r n : Nat) (v : Int32) : wI (fillI I r n v) r n v = fillI I r (n + 1) v := by
  funext x y
  rw [wI_eq, fillI, fillI]
  by_cases h1 : x = r
  · by_cases h2 : y = n
    · simp [h1, h2]
    · by_cases h3 : y < n
      · have : y < n + 1 := by omega
        simp [h1, h2, h3, this]
      · have : ¬ y < n + 1 := by omega
        simp [h1, h2, h3, this]
  · simp [h1]
def relaxI (I : Nat → Nat → Int32) (J : Nat → Nat → Int64) (f n : Nat) : Nat → Nat → Int32 :=
  if openF I J (nI f) (nI n) = true then wI I 11 (nI f).toNatClampNeg (if overF I (nI f) (nI n) < I 11 (nI f).toNatClampNeg then overF I (nI f) (nI n) else I 11 (nI f).toNatClampNeg) else I
def innerI (I : Nat → Nat → Int32) (J : Nat → Nat → Int64) (f : Nat) : Nat → Nat → Nat → Int32
  | 0 => I
  | n + 1 => relaxI (innerI I J f n) J f n
def midI (I : Nat → Nat → Int32) (J : Nat → Nat → Int64) : Nat → Nat → Nat → Int32
  | 0 => I
  | f + 1 => innerI (midI I J f) J f 5
def outI (I : Nat → Nat → Int32) (J : Nat → Nat → Int64) : Nat → Nat → Nat → Int32
  | 0 => I
  | d + 1 => midI (outI I J d) J 5
def weigh0 (I : Nat → Nat → Int32) (b : Int32) : Nat → Nat → Int32 := if isCar b = true then wI (fillI I 11 5 1000000) 11 b.toNatClampNeg 0 else fillI I 11 5 1000000
def weighI (I : Nat → Nat → Int32) (J : Nat → Nat → Int64) (b : Int32) : Nat → Nat → Int32 := outI (weigh0 I b) J 4
def goF (I : Nat → Nat → Int32) (J : Nat → Nat → Int64) (r : Nat) (a b : Int32) : Nat → Int32 × (Nat → Nat → Int32)
  | 0 => (a, addRI (wI I r 1 0) r a)
  | j + 1 => if (goF I J r a b j).1 = b then goF I J r a b j else (nextF (goF I J r a b j).2 J (goF I J r a b j).1, addRI (goF I J r a b j).2 r (nextF (goF I J r a b j).2 J (goF I J r a b j).1))
theorem go_0 {I : Nat → Nat → Int32} {J : Nat → Nat → Int64} {r : Nat} {a b : Int32} : goF I J r a b 0 = (a, addRI (wI I r 1 0) r a) := rfl
theorem go_stay {I : Nat → Nat → Int32} {J : Nat → Nat → Int64} {r : Nat} {a b : Int32} {j : Nat} (h : (goF I J r a b j).1 = b) : ∀ m, j ≤ m → goF I J r a b m = goF I J r a b j := by
  intro m
  induction m with
  | zero => intro hm; rw [show j = 0 by omega]
  | succ m ih =>
    intro hm
    rcases Nat.lt_or_ge m j with z | z
    · rw [show j = m + 1 by omega]
    · have e := ih z
      rw [goF, e, if_pos h]
def fbB (I : Nat → Nat → Int32) (J : Nat → Nat → Int64) (a b : Int32) : Bool := isCar a && isCar b && decide (weighI I J b 11 a.toNatClampNeg < 1000000)
def fbI (I : Nat → Nat → Int32) (J : Nat → Nat → Int64) (a b : Int32) (r : Nat) : Nat → Nat → Int32 :=
  if (isCar a && isCar b) = true then (if weighI I J b 11 a.toNatClampNeg < 1000000 then (goF (weighI I J b) J r a b 4).2 else weighI I J b) else I
set_option maxHeartbeats 4000000 in
set_option maxRecDepth 100000 in
/-- Network.charge -/
theorem c_X0_charge (l : Launch) (D : va_G) (cy : Nat → ClassId) (lo : Nat) (R : List Nat) (ad : Nat → Nat) (q : Nat → Nat → Nat) (ns nt : Nat) (I : Nat → Nat → Int32) (J : Nat → Nat → Int64) (hR : ∀ r, r < 19 → r ∈ R) (r : Nat) (hk : 80 ≤ r ∧ r % 4 = 0) (h0 : r ∈ R) (h1 : r + 1 ∈ R) (h2 : r + 1 + 1 ∈ R) (h3 : r + 3 ∈ R) (n : Nat) (hlen : I (r + 1) 1 = nI n) (hn5 : n ≤ 5) (hn1 : 1 ≤ n) : k_Cv l yX0_charge cX0_charge 6 none 2 48 D cy lo R ad (k_c cy ad q ns nt I J) [.ref (ad 3), .ref (ad r)] (k_c cy ad q ns nt I (chargeJ I J r n)) := by
  refine k_metQ (by decide +kernel) (Nat.le_of_ble_eq_true rfl) ?_
  intro p e s m args below meth c Q F hr hlk hnm hQ
  refine x_iconst F (v := 1) dX0_charge_0 (by decide) ?_
  refine x_istore_n F [(2, .int 1), (0, .ref (ad 3)), (1, .ref (ad r))] dX0_charge_1 rfl (by decide) rfl ?_
  have lp2 : ∀ (fu2 : Nat) (k : Nat), n - k < fu2 → (1 ≤ k) → (k ≤ n) → XW D lo p l e { frames := 2, cells := 0, slots := 0, locals := 48 } s m args below meth c 6 0 0 Q R ad (k_c cy ad q ns nt I (chargeJ I J r k)) 2 [(2, .int (nI k)), (0, .ref (ad 3)), (1, .ref (ad r))] [] := by
    intro fu2
    induction fu2 with
    | zero => intro k hf2; exact absurd hf2 (Nat.not_lt_zero _)
    | succ fu2 ih2 =>
      intro k hf2 hk1 hkn
      refine x_iload_n F dX0_charge_2 rfl 0 rfl ?_
      refine x_aload_n F dX0_charge_3 rfl 2 rfl ?_
      refine g_X0_52 F h0 (sc_tlk hk) rfl dX0_charge_4 ?_
      refine g_X0_35 F h1 (sc_rte (Or.inr ⟨by have := hk; omega, by have := hk; omega⟩)) rfl dX0_charge_7 ?_
      refine x_icmp_ge F 71 dX0_charge_10 (by decide) (fun h10 => ?_) (fun h10 => ?_)
      · rw [hlen] at h10
        have hk9 := lp_exit (by omega) hkn h10
        subst hk9
        rw [hQ]
        exact x_vret F hr hlk rfl dX0_charge_71
      · rw [hlen] at h10
        have hk9 := lp_go (by omega) hkn h10
        refine x_aload_n F dX0_charge_13 rfl 2 rfl ?_
        refine g_X0_52 F h0 (sc_tlk hk) rfl dX0_charge_14 ?_
        refine x_iload_n F dX0_charge_17 rfl 0 rfl ?_
        refine x_iconst F (v := 1) dX0_charge_18 (by decide) ?_
        refine x_isub F dX0_charge_19 ?_
        refine z_callVi F [.int ((nI k) - 1)] (c_X1_carrierAt l D cy lo R ad q ns nt I (chargeJ I J r k) hR (r + 1) ((nI k) - 1) (Or.inr ⟨by have := hk; omega, by have := hk; omega⟩) h1 h2) mc_X1_carrierAt mv_X1_carrierAt lk_X0_41 h1 (sc_rte (Or.inr ⟨by have := hk; omega, by have := hk; omega⟩)) rfl rfl rfl dX0_charge_20 ⟨Nat.le_of_ble_eq_true rfl, Nat.le_of_ble_eq_true rfl⟩ ⟨Nat.le_of_ble_eq_true rfl, Nat.le_of_ble_eq_true rfl⟩ (Nat.le_of_ble_eq_true rfl) ?_
        refine x_istore_n F [(3, .int (carAt I (r + 1) ((nI k) - 1))), (2, .int (nI k)), (0, .ref (ad 3)), (1, .ref (ad r))] dX0_charge_23 rfl (by decide) rfl ?_
        refine x_aload_n F dX0_charge_24 rfl 3 rfl ?_
        refine g_X0_52 F h0 (sc_tlk hk) rfl dX0_charge_25 ?_
        refine x_iload_n F dX0_charge_28 rfl 1 rfl ?_
        refine z_callVi F [.int (nI k)] (c_X1_carrierAt l D cy lo R ad q ns nt I (chargeJ I J r k) hR (r + 1) (nI k) (Or.inr ⟨by have := hk; omega, by have := hk; omega⟩) h1 h2) mc_X1_carrierAt mv_X1_carrierAt lk_X0_41 h1 (sc_rte (Or.inr ⟨by have := hk; omega, by have := hk; omega⟩)) rfl rfl rfl dX0_charge_29 ⟨Nat.le_of_ble_eq_true rfl, Nat.le_of_ble_eq_true rfl⟩ ⟨Nat.le_of_ble_eq_true rfl, Nat.le_of_ble_eq_true rfl⟩ (Nat.le_of_ble_eq_true rfl) ?_
        refine x_istore F [(4, .int (carAt I (r + 1) (nI k))), (3, .int (carAt I (r + 1) ((nI k) - 1))), (2, .int (nI k)), (0, .ref (ad 3)), (1, .ref (ad r))] dX0_charge_32 (by decide) rfl ?_
        refine x_aload_n F dX0_charge_34 rfl 3 rfl ?_
        refine x_iload_n F dX0_charge_35 rfl 1 rfl ?_
        refine x_iload F dX0_charge_36 0 rfl ?_
        refine z_callVi F [.int (carAt I (r + 1) ((nI k) - 1)), .int (carAt I (r + 1) (nI k))] (c_X0_rateOf l D cy lo R ad q ns nt I (chargeJ I J r k) hR (carAt I (r + 1) ((nI k) - 1)) (carAt I (r + 1) (nI k)) ) mc_X0_rateOf mv_X0_rateOf lk_X0_49 (hR 3 (by decide)) sc_3 rfl rfl rfl dX0_charge_38 ⟨Nat.le_of_ble_eq_true rfl, Nat.le_of_ble_eq_true rfl⟩ ⟨Nat.le_of_ble_eq_true rfl, Nat.le_of_ble_eq_true rfl⟩ (Nat.le_of_ble_eq_true rfl) ?_
        refine x_istore F [(5, .int (rateF I (carAt I (r + 1) ((nI k) - 1)) (carAt I (r + 1) (nI k)))), (4, .int (carAt I (r + 1) (nI k))), (3, .int (carAt I (r + 1) ((nI k) - 1))), (2, .int (nI k)), (0, .ref (ad 3)), (1, .ref (ad r))] dX0_charge_41 (by decide) rfl ?_
        refine x_aload_n F dX0_charge_43 rfl 4 rfl ?_
        refine x_iload_n F dX0_charge_44 rfl 2 rfl ?_
        refine x_iload F dX0_charge_45 1 rfl ?_
        refine x_iload F dX0_charge_47 0 rfl ?_
        refine x_i2l F dX0_charge_49 ?_
        refine z_callVv F [.int (carAt I (r + 1) ((nI k) - 1)), .int (carAt I (r + 1) (nI k)), .long ((rateF I (carAt I (r + 1) ((nI k) - 1)) (carAt I (r + 1) (nI k))).toInt64)] (c_X0_addDebt l D cy lo R ad q ns nt I (chargeJ I J r k) hR (carAt I (r + 1) ((nI k) - 1)) (carAt I (r + 1) (nI k)) ((rateF I (carAt I (r + 1) ((nI k) - 1)) (carAt I (r + 1) (nI k))).toInt64) ) mc_X0_addDebt mv_X0_addDebt lk_X0_58 (hR 3 (by decide)) sc_3 rfl rfl rfl dX0_charge_50 ⟨Nat.le_of_ble_eq_true rfl, Nat.le_of_ble_eq_true rfl⟩ ⟨Nat.le_of_ble_eq_true rfl, Nat.le_of_ble_eq_true rfl⟩ (Nat.le_of_ble_eq_true rfl) ?_
        refine x_aload_n F dX0_charge_53 rfl 5 rfl ?_
        refine x_iload_n F dX0_charge_54 rfl 2 rfl ?_
        refine x_iload F dX0_charge_55 1 rfl ?_
        refine z_callSNi F [.int (carAt I (r + 1) ((nI k) - 1)), .int (carAt I (r + 1) (nI k))] (c_X4_pairOf l D cy lo R ad _ (carAt I (r + 1) ((nI k) - 1)) (carAt I (r + 1) (nI k))) mc_X4_pairOf ms_X4_pairOf lk_X0_31 rfl rfl dX0_charge_57 ⟨Nat.le_of_ble_eq_true rfl, Nat.le_of_ble_eq_true rfl⟩ ⟨Nat.le_of_ble_eq_true rfl, Nat.le_of_ble_eq_true rfl⟩ (Nat.le_of_ble_eq_true rfl) ?_
        refine x_iload F dX0_charge_60 0 rfl ?_
        refine z_callVv F [.int (pairI (carAt I (r + 1) ((nI k) - 1)) (carAt I (r + 1) (nI k))), .int (rateF I (carAt I (r + 1) ((nI k) - 1)) (carAt I (r + 1) (nI k)))] (c_X3_addCharge l D cy lo R ad q ns nt I (addDebtJ (chargeJ I J r k) (carAt I (r + 1) ((nI k) - 1)) (carAt I (r + 1) (nI k)) ((rateF I (carAt I (r + 1) ((nI k) - 1)) (carAt I (r + 1) (nI k))).toInt64)) hR r (pairI (carAt I (r + 1) ((nI k) - 1)) (carAt I (r + 1) (nI k))) (rateF I (carAt I (r + 1) ((nI k) - 1)) (carAt I (r + 1) (nI k))) hk h0 h1 h2 h3) mc_X3_addCharge mv_X3_addCharge lk_X0_62 h0 (sc_tlk hk) rfl rfl rfl dX0_charge_62 ⟨Nat.le_of_ble_eq_true rfl, Nat.le_of_ble_eq_true rfl⟩ ⟨Nat.le_of_ble_eq_true rfl, Nat.le_of_ble_eq_true rfl⟩ (Nat.le_of_ble_eq_true rfl) ?_
        refine x_iinc F [(2, .int ((nI k) + 1)), (5, .int (rateF I (carAt I (r + 1) ((nI k) - 1)) (carAt I (r + 1) (nI k)))), (4, .int (carAt I (r + 1) (nI k))), (3, .int (carAt I (r + 1) ((nI k) - 1))), (0, .ref (ad 3)), (1, .ref (ad r))] dX0_charge_65 3 rfl (by decide) rfl ?_
        refine x_goto F 2 dX0_charge_68 (by decide) ?_
        refine x_world (congrArg (fun z => k_c cy ad q ns nt I z) (show addChJ (addDebtJ (chargeJ I J r k) (carAt I (r + 1) ((nI k) - 1)) (carAt I (r + 1) (nI k)) ((rateF I (carAt I (r + 1) ((nI k) - 1)) (carAt I (r + 1) (nI k))).toInt64)) r (pairI (carAt I (r + 1) ((nI k) - 1)) (carAt I (r + 1) (nI k))) (rateF I (carAt I (r + 1) ((nI k) - 1)) (carAt I (r + 1) (nI k))) = chargeJ I J r (k + 1) by rw [chargeJ, if_neg (by omega)])) ?_
        rw [nI_1]
        refine x_sub [0, 4, 5] rfl ?_
        exact ih2 (k + 1) (by omega) (by omega) (by omega)
  refine x_world (congrArg (fun z => k_c cy ad q ns nt I z) (show J = chargeJ I J r 1 by rw [chargeJ, if_pos rfl])) ?_
  exact lp2 (n + 1) 1 (by omega) (by omega) (by omega)
set_option maxHeartbeats 4000000 in
set_option maxRecDepth 100000 in
/-- Route.become -/
theorem c_X1_become (l : Launch) (D : va_G) (cy : Nat → ClassId) (lo : Nat) (R : List Nat) (ad : Nat → Nat) (q : Nat → Nat → Nat) (ns nt : Nat) (I : Nat → Nat → Int32) (J : Nat → Nat → Int64) (hR : ∀ r, r < 19 → r ∈ R) (r : Nat) (o : Nat) (hk : r = 6 ∨ (80 ≤ r ∧ r % 4 = 1)) (hm : r ∈ R) (hn : r + 1 ∈ R) (ok : o = 6 ∨ (80 ≤ o ∧ o % 4 = 1)) (om : o ∈ R) (on : o + 1 ∈ R) (n : Nat) (hlen : I o 1 = nI n) (hn5 : n ≤ 5) (hne : o ≠ r) (hne2 : o ≠ r + 1) : k_Cv l yX1_become cX1_become 3 none 1 21 D cy lo R ad (k_c cy ad q ns nt I J) [.ref (ad r), .ref (ad o)] (k_c cy ad q ns nt (becomeI I r o n) J) := by
  refine k_metQ (by decide +kernel) (Nat.le_of_ble_eq_true rfl) ?_
  intro p e s m args below meth c Q F hr hlk hnm hQ
  refine x_aload_n F dX1_become_0 rfl 0 rfl ?_
  refine z_callVv F [] (c_X1_clear l D cy lo R ad q ns nt I J hR r hk hm hn) mc_X1_clear mv_X1_clear lk_X1_19 hm (sc_rte hk) rfl rfl rfl dX1_become_1 ⟨Nat.le_of_ble_eq_true rfl, Nat.le_of_ble_eq_true rfl⟩ ⟨Nat.le_of_ble_eq_true rfl, Nat.le_of_ble_eq_true rfl⟩ (Nat.le_of_ble_eq_true rfl) ?_
  refine x_iconst F (v := 0) dX1_become_4 (by decide) ?_
  refine x_istore_n F [(2, .int 0), (0, .ref (ad r)), (1, .ref (ad o))] dX1_become_5 rfl (by decide) rfl ?_
  have lp6 : ∀ (fu6 : Nat) (k : Nat), n - k < fu6 → (k ≤ n) → XW D lo p l e { frames := 1, cells := 0, slots := 0, locals := 21 } s m args below meth c 3 0 0 Q R ad (k_c cy ad q ns nt (becomeI I r o k) J) 6 [(2, .int (nI k)), (0, .ref (ad r)), (1, .ref (ad o))] [] := by
    intro fu6
    induction fu6 with
    | zero => intro k hf6; exact absurd hf6 (Nat.not_lt_zero _)
    | succ fu6 ih6 =>
      intro k hf6 hkn
      refine x_iload_n F dX1_become_6 rfl 0 rfl ?_
      refine x_aload_n F dX1_become_7 rfl 2 rfl ?_
      refine g_X1_15 F om (sc_rte ok) rfl dX1_become_8 ?_
      refine x_icmp_ge F 29 dX1_become_11 (by decide) (fun h11 => ?_) (fun h11 => ?_)
      · rw [become_len hne hne2, hlen] at h11
        have hk9 := lp_exit (by omega) hkn h11
        subst hk9
        rw [hQ]
        exact x_vret F hr hlk rfl dX1_become_29
      · rw [become_len hne hne2, hlen] at h11
        have hk9 := lp_go (by omega) hkn h11
        refine x_aload_n F dX1_become_14 rfl 1 rfl ?_
        refine x_aload_n F dX1_become_15 rfl 2 rfl ?_
        refine x_iload_n F dX1_become_16 rfl 0 rfl ?_
        refine z_callVi F [.int (nI k)] (c_X1_carrierAt l D cy lo R ad q ns nt (becomeI I r o k) J hR o (nI k) ok om on) mc_X1_carrierAt mv_X1_carrierAt lk_X1_22 om (sc_rte ok) rfl rfl rfl dX1_become_17 ⟨Nat.le_of_ble_eq_true rfl, Nat.le_of_ble_eq_true rfl⟩ ⟨Nat.le_of_ble_eq_true rfl, Nat.le_of_ble_eq_true rfl⟩ (Nat.le_of_ble_eq_true rfl) ?_
        refine z_callVv F [.int (carAt (becomeI I r o k) o (nI k))] (c_X1_add l D cy lo R ad q ns nt (becomeI I r o k) J hR r (carAt (becomeI I r o k) o (nI k)) hk hm hn) mc_X1_add mv_X1_add lk_X1_26 hm (sc_rte hk) rfl rfl rfl dX1_become_20 ⟨Nat.le_of_ble_eq_true rfl, Nat.le_of_ble_eq_true rfl⟩ ⟨Nat.le_of_ble_eq_true rfl, Nat.le_of_ble_eq_true rfl⟩ (Nat.le_of_ble_eq_true rfl) ?_
        refine x_iinc F [(2, .int ((nI k) + 1)), (0, .ref (ad r)), (1, .ref (ad o))] dX1_become_23 0 rfl (by decide) rfl ?_
        refine x_goto F 6 dX1_become_26 (by decide) ?_
        refine x_world (congrArg (fun z => k_c cy ad q ns nt z J) (show addRI (becomeI I r o k) r (carAt (becomeI I r o k) o (nI k)) = becomeI I r o (k + 1) by rw [becomeI])) ?_
        rw [nI_1]
        exact ih6 (k + 1) (by omega) (by omega)
  refine x_world (congrArg (fun z => k_c cy ad q ns nt z J) (show wI I r 1 0 = becomeI I r o 0 by rw [becomeI])) ?_
  exact lp6 (n + 1) 0 (by omega) (by omega)
set_option maxHeartbeats 4000000 in
set_option maxRecDepth 100000 in
/-- Network.nextOnBest -/
theorem c_X0_nextOnBest (l : Launch) (D : va_G) (cy : Nat → ClassId) (lo : Nat) (R : List Nat) (ad : Nat → Nat) (q : Nat → Nat → Nat) (ns nt : Nat) (I : Nat → Nat → Int32) (J : Nat → Nat → Int64) (hR : ∀ r, r < 19 → r ∈ R) (a : Int32) : k_Ci l yX0_nextOnBest cX0_nextOnBest 3 (some .int) 3 68 D cy lo R ad (k_c cy ad q ns nt I J) [.ref (ad 3), .int a] (nextF I J a) (k_c cy ad q ns nt I J) := by
  refine k_metQ (by decide +kernel) (Nat.le_of_ble_eq_true rfl) ?_
  intro p e s m args below meth c Q F hr hlk hnm hQ
  refine x_iconst F (v := 0) dX0_nextOnBest_0 (by decide) ?_
  refine x_istore_n F [(2, .int 0), (0, .ref (ad 3)), (1, .int a)] dX0_nextOnBest_1 rfl (by decide) rfl ?_
  have lp2 : ∀ (fu2 : Nat) (k : Nat), 5 - k < fu2 → (k ≤ 5) → (nextF I J a = nextG I J a (5 - k) k) → XW D lo p l e { frames := 3, cells := 0, slots := 0, locals := 68 } s m args below meth c 3 0 0 Q R ad (k_c cy ad q ns nt I J) 2 [(2, .int (nI k)), (0, .ref (ad 3)), (1, .int a)] [] := by
    intro fu2
    induction fu2 with
    | zero => intro k hf2; exact absurd hf2 (Nat.not_lt_zero _)
    | succ fu2 ih2 =>
      intro k hf2 hkn hc
      refine x_iload_n F dX0_nextOnBest_2 rfl 0 rfl ?_
      refine x_iconst F (v := 5) dX0_nextOnBest_3 (by decide) ?_
      refine x_icmp_ge F 46 dX0_nextOnBest_4 (by decide) (fun h4 => ?_) (fun h4 => ?_)
      · have hk9 := lp_exit (N := 5) (by omega) hkn h4
        subst hk9
        refine x_iconst F (v := -1) dX0_nextOnBest_46 (by decide) ?_
        rw [hQ]
        exact x_iret F hr hlk ⟨by rw [hc]; rfl, rfl⟩ dX0_nextOnBest_47
      · have hk9 := lp_go (N := 5) (by omega) hkn h4
        refine x_aload_n F dX0_nextOnBest_7 rfl 1 rfl ?_
        refine x_iload_n F dX0_nextOnBest_8 rfl 2 rfl ?_
        refine x_iload_n F dX0_nextOnBest_9 rfl 0 rfl ?_
        refine z_callVi F [.int a, .int (nI k)] (c_X0_isOpen l D cy lo R ad q ns nt I J hR a (nI k) ) mc_X0_isOpen mv_X0_isOpen lk_X0_45 (hR 3 (by decide)) sc_3 rfl rfl rfl dX0_nextOnBest_10 ⟨Nat.le_of_ble_eq_true rfl, Nat.le_of_ble_eq_true rfl⟩ ⟨Nat.le_of_ble_eq_true rfl, Nat.le_of_ble_eq_true rfl⟩ (Nat.le_of_ble_eq_true rfl) ?_
        refine x_if_eq F 40 dX0_nextOnBest_13 (by decide) (fun h13 => ?_) (fun h13 => ?_)
        · rw [kb0] at h13
          refine x_iinc F [(2, .int ((nI k) + 1)), (0, .ref (ad 3)), (1, .int a)] dX0_nextOnBest_40 0 rfl (by decide) rfl ?_
          refine x_goto F 2 dX0_nextOnBest_43 (by decide) ?_
          rw [nI_1]
          exact ih2 (k + 1) (by omega) (by omega) (hc.trans (next_no hk9 (by simp [condF, *])))
        · rw [kb1] at h13
          refine x_iload_n F dX0_nextOnBest_16 rfl 2 rfl ?_
          refine z_callSNi F [.int a] (c_X4_isCarrier l D cy lo R ad _ a) mc_X4_isCarrier ms_X4_isCarrier lk_X0_66 rfl rfl dX0_nextOnBest_17 ⟨Nat.le_of_ble_eq_true rfl, Nat.le_of_ble_eq_true rfl⟩ ⟨Nat.le_of_ble_eq_true rfl, Nat.le_of_ble_eq_true rfl⟩ (Nat.le_of_ble_eq_true rfl) ?_
          refine x_if_eq F 40 dX0_nextOnBest_20 (by decide) (fun h20 => ?_) (fun h20 => ?_)
          · rw [kb0] at h20
            refine x_iinc F [(2, .int ((nI k) + 1)), (0, .ref (ad 3)), (1, .int a)] dX0_nextOnBest_40 0 rfl (by decide) rfl ?_
            refine x_goto F 2 dX0_nextOnBest_43 (by decide) ?_
            rw [nI_1]
            exact ih2 (k + 1) (by omega) (by omega) (hc.trans (next_no hk9 (by simp [condF, *])))
          · rw [kb1] at h20
            refine x_aload_n F dX0_nextOnBest_23 rfl 1 rfl ?_
            refine x_iload_n F dX0_nextOnBest_24 rfl 2 rfl ?_
            refine x_iload_n F dX0_nextOnBest_25 rfl 0 rfl ?_
            refine z_callVi F [.int a, .int (nI k)] (c_X0_weightOver l D cy lo R ad q ns nt I J hR a (nI k) ) mc_X0_weightOver mv_X0_weightOver lk_X0_84 (hR 3 (by decide)) sc_3 rfl rfl rfl dX0_nextOnBest_26 ⟨Nat.le_of_ble_eq_true rfl, Nat.le_of_ble_eq_true rfl⟩ ⟨Nat.le_of_ble_eq_true rfl, Nat.le_of_ble_eq_true rfl⟩ (Nat.le_of_ble_eq_true rfl) ?_
            refine x_aload_n F dX0_nextOnBest_29 rfl 1 rfl ?_
            refine g_X0_22 F (hR 3 (by decide)) sc_3 rfl dX0_nextOnBest_30 ?_
            refine x_iload_n F dX0_nextOnBest_33 rfl 2 rfl ?_
            refine y_iald F (hR 11 (by decide)) ss_11 (vin_car ‹_›) dX0_nextOnBest_34 ?_
            refine x_icmp_ne F 40 dX0_nextOnBest_35 (by decide) (fun h35 => ?_) (fun h35 => ?_)
            · refine x_iinc F [(2, .int ((nI k) + 1)), (0, .ref (ad 3)), (1, .int a)] dX0_nextOnBest_40 0 rfl (by decide) rfl ?_
              refine x_goto F 2 dX0_nextOnBest_43 (by decide) ?_
              rw [nI_1]
              exact ih2 (k + 1) (by omega) (by omega) (hc.trans (next_no hk9 (by simp [condF, *])))
            · refine x_iload_n F dX0_nextOnBest_38 rfl 0 rfl ?_
              rw [hQ]
              exact x_iret F hr hlk ⟨by rw [hc, next_yes hk9 (by simp [condF, *])], rfl⟩ dX0_nextOnBest_39
  exact lp2 6 0 (by omega) (by omega) rfl
set_option maxHeartbeats 4000000 in
set_option maxRecDepth 100000 in
/-- Arrays.fill -/
theorem c_J7_fill_53178 (l : Launch) (D : va_G) (cy : Nat → ClassId) (lo : Nat) (R : List Nat) (ad : Nat → Nat) (q : Nat → Nat → Nat) (ns nt : Nat) (I : Nat → Nat → Int32) (J : Nat → Nat → Int64) (hR : ∀ r, r < 19 → r ∈ R) (r : Nat) (v : Int32) (n : Nat) (hs : ∀ (f : Nat → Int32) (g : Nat → Int64), k_sh cy ad q ns nt r f g = Sum.inl (cy 0, n, Sum.inl f)) (hm : r ∈ R) (hnn : n < 2 ^ 31) : k_Cv l yJ7_fill_53178 cJ7_fill_53178 4 none 0 0 D cy lo R ad (k_c cy ad q ns nt I J) [.ref (ad r), .int v] (k_c cy ad q ns nt (fillI I r n v) J) := by
  refine k_metQ (by decide +kernel) (Nat.le_of_ble_eq_true rfl) ?_
  intro p e s m args below meth c Q F hr hlk hnm hQ
  refine x_iconst F (v := 0) dJ7_fill_53178_0 (by decide) ?_
  refine x_istore_n F [(2, .int 0), (0, .ref (ad r)), (1, .int v)] dJ7_fill_53178_1 rfl (by decide) rfl ?_
  refine x_aload_n F dJ7_fill_53178_2 rfl 1 rfl ?_
  refine x_alenI F hm (hs _ _) dJ7_fill_53178_3 ?_
  refine x_istore_n F [(3, .int (nI n)), (2, .int 0), (0, .ref (ad r)), (1, .int v)] dJ7_fill_53178_4 rfl (by decide) rfl ?_
  have lp5 : ∀ (fu5 : Nat) (k : Nat), n - k < fu5 → (k ≤ n) → XW D lo p l e { frames := 0, cells := 0, slots := 0, locals := 0 } s m args below meth c 4 0 0 Q R ad (k_c cy ad q ns nt (fillI I r k v) J) 5 [(3, .int (nI n)), (2, .int (nI k)), (0, .ref (ad r)), (1, .int v)] [] := by
    intro fu5
    induction fu5 with
    | zero => intro k hf5; exact absurd hf5 (Nat.not_lt_zero _)
    | succ fu5 ih5 =>
      intro k hf5 hkn
      refine x_iload_n F dJ7_fill_53178_5 rfl 1 rfl ?_
      refine x_iload_n F dJ7_fill_53178_6 rfl 0 rfl ?_
      refine x_icmp_ge F 20 dJ7_fill_53178_7 (by decide) (fun h7 => ?_) (fun h7 => ?_)
      · have hk9 := lp_exit (by omega) hkn h7
        subst hk9
        rw [hQ]
        exact x_vret F hr hlk rfl dJ7_fill_53178_20
      · have hk9 := lp_go (by omega) hkn h7
        refine x_aload_n F dJ7_fill_53178_10 rfl 2 rfl ?_
        refine x_iload_n F dJ7_fill_53178_11 rfl 1 rfl ?_
        refine x_iload_n F dJ7_fill_53178_12 rfl 3 rfl ?_
        refine y_iast F hm hs (vp_in_nI hk9 (by omega)) dJ7_fill_53178_13 ?_
        refine x_iinc F [(2, .int ((nI k) + 1)), (3, .int (nI n)), (0, .ref (ad r)), (1, .int v)] dJ7_fill_53178_14 1 rfl (by decide) rfl ?_
        refine x_goto F 5 dJ7_fill_53178_17 (by decide) ?_
        refine x_world (congrArg (fun z => k_c cy ad q ns nt z J) (show wI (fillI I r k v) r (nI k).toNatClampNeg v = fillI I r (k + 1) v by rw [nI_clamp (by omega), fill_s])) ?_
        rw [nI_1]
        refine x_sub [1, 0, 2, 3] rfl ?_
        exact ih5 (k + 1) (by omega) (by omega)
  refine x_world (congrArg (fun z => k_c cy ad q ns nt z J) (fill_0 I r v).symm) ?_
  exact lp5 (n + 1) 0 (by omega) (by omega)
set_option maxHeartbeats 4000000 in
set_option maxRecDepth 100000 in
/-- Network.weighWaysTo -/
theorem c_X0_weighWaysTo (l : Launch) (D : va_G) (cy : Nat → ClassId) (lo : Nat) (R : List Nat) (ad : Nat → Nat) (q : Nat → Nat → Nat) (ns nt : Nat) (I : Nat → Nat → Int32) (J : Nat → Nat → Int64) (hR : ∀ r, r < 19 → r ∈ R) (b : Int32) : k_Cv l yX0_weighWaysTo cX0_weighWaysTo 5 none 3 68 D cy lo R ad (k_c cy ad q ns nt I J) [.ref (ad 3), .int b] (k_c cy ad q ns nt (weighI I J b) J) := by
  refine k_metQ (by decide +kernel) (Nat.le_of_ble_eq_true rfl) ?_
  intro p e s m args below meth c Q F hr hlk hnm hQ
  refine x_aload_n F dX0_weighWaysTo_0 rfl 0 rfl ?_
  refine g_X0_22 F (hR 3 (by decide)) sc_3 rfl dX0_weighWaysTo_1 ?_
  refine x_ldc F (v := 1000000) dX0_weighWaysTo_4 309 (by decide +kernel) ?_
  refine z_callSv F [.ref (ad 11), .int 1000000] (c_J7_fill_53178 l D cy lo R ad q ns nt I J hR 11 1000000 5 ss_11 (hR 11 (by decide)) (by decide)) mc_J7_fill_53178 ms_J7_fill_53178 lk_X0_25 rfl rfl dX0_weighWaysTo_6 ⟨Nat.le_of_ble_eq_true rfl, Nat.le_of_ble_eq_true rfl⟩ ⟨Nat.le_of_ble_eq_true rfl, Nat.le_of_ble_eq_true rfl⟩ (Nat.le_of_ble_eq_true rfl) ?_
  refine x_iload_n F dX0_weighWaysTo_9 rfl 1 rfl ?_
  refine z_callSNi F [.int b] (c_X4_isCarrier l D cy lo R ad _ b) mc_X4_isCarrier ms_X4_isCarrier lk_X0_66 rfl rfl dX0_weighWaysTo_10 ⟨Nat.le_of_ble_eq_true rfl, Nat.le_of_ble_eq_true rfl⟩ ⟨Nat.le_of_ble_eq_true rfl, Nat.le_of_ble_eq_true rfl⟩ (Nat.le_of_ble_eq_true rfl) ?_
  refine x_if_eq F 23 dX0_weighWaysTo_13 (by decide) (fun h13 => ?_) (fun h13 => ?_)
  · rw [kb0] at h13
    refine x_iconst F (v := 1) dX0_weighWaysTo_23 (by decide) ?_
    refine x_istore_n F [(2, .int 1), (0, .ref (ad 3)), (1, .int b)] dX0_weighWaysTo_24 rfl (by decide) rfl ?_
    have lp25 : ∀ (fu25 : Nat) (d : Nat), 4 - d < fu25 → (d ≤ 4) → XW D lo p l e { frames := 3, cells := 0, slots := 0, locals := 68 } s m args below meth c 5 0 0 Q R ad (k_c cy ad q ns nt (outI (weigh0 I b) J d) J) 25 [(2, .int (nI (d + 1))), (0, .ref (ad 3)), (1, .int b)] [] := by
      intro fu25
      induction fu25 with
      | zero => intro d hf25; exact absurd hf25 (Nat.not_lt_zero _)
      | succ fu25 ih25 =>
        intro d hf25 hd4
        refine x_iload_n F dX0_weighWaysTo_25 rfl 0 rfl ?_
        refine x_iconst F (v := 5) dX0_weighWaysTo_26 (by decide) ?_
        refine x_icmp_ge F 96 dX0_weighWaysTo_27 (by decide) (fun h27 => ?_) (fun h27 => ?_)
        · have hk9 := lp_exit (N := 5) (k := d + 1) (by omega) (by omega) h27
          have hd9 : d = 4 := by omega
          rw [hQ]
          exact x_vret F hr hlk (by rw [hd9]; rfl) dX0_weighWaysTo_96
        · have hk9 := lp_go (N := 5) (k := d + 1) (by omega) (by omega) h27
          refine x_iconst F (v := 0) dX0_weighWaysTo_30 (by decide) ?_
          refine x_istore_n F [(3, .int 0), (2, .int (nI (d + 1))), (0, .ref (ad 3)), (1, .int b)] dX0_weighWaysTo_31 rfl (by decide) rfl ?_
          have lp32 : ∀ (fu32 : Nat) (f : Nat), 5 - f < fu32 → (f ≤ 5) → XW D lo p l e { frames := 3, cells := 0, slots := 0, locals := 68 } s m args below meth c 5 0 0 Q R ad (k_c cy ad q ns nt (midI (outI (weigh0 I b) J d) J f) J) 32 [(3, .int (nI f)), (2, .int (nI (d + 1))), (0, .ref (ad 3)), (1, .int b)] [] := by
            intro fu32
            induction fu32 with
            | zero => intro f hf32; exact absurd hf32 (Nat.not_lt_zero _)
            | succ fu32 ih32 =>
              intro f hf32 hf5
              refine x_iload_n F dX0_weighWaysTo_32 rfl 0 rfl ?_
              refine x_iconst F (v := 5) dX0_weighWaysTo_33 (by decide) ?_
              refine x_icmp_ge F 90 dX0_weighWaysTo_34 (by decide) (fun h34 => ?_) (fun h34 => ?_)
              · have hk8 := lp_exit (N := 5) (by omega) hf5 h34
                refine x_iinc F [(2, .int ((nI (d + 1)) + 1)), (3, .int (nI f)), (0, .ref (ad 3)), (1, .int b)] dX0_weighWaysTo_90 1 rfl (by decide) rfl ?_
                refine x_goto F 25 dX0_weighWaysTo_93 (by decide) ?_
                refine x_world (congrArg (fun z => k_c cy ad q ns nt z J) (show (midI (outI (weigh0 I b) J d) J f) = outI (weigh0 I b) J (d + 1) by rw [hk8, outI])) ?_
                rw [nI_1]
                refine x_sub [0, 2, 3] rfl ?_
                exact ih25 (d + 1) (by omega) (by omega)
              · have hk8 := lp_go (N := 5) (by omega) hf5 h34
                refine x_iconst F (v := 0) dX0_weighWaysTo_37 (by decide) ?_
                refine x_istore F [(4, .int 0), (3, .int (nI f)), (2, .int (nI (d + 1))), (0, .ref (ad 3)), (1, .int b)] dX0_weighWaysTo_38 (by decide) rfl ?_
                have lp40 : ∀ (fu40 : Nat) (g : Nat), 5 - g < fu40 → (g ≤ 5) → XW D lo p l e { frames := 3, cells := 0, slots := 0, locals := 68 } s m args below meth c 5 0 0 Q R ad (k_c cy ad q ns nt (innerI (midI (outI (weigh0 I b) J d) J f) J f g) J) 40 [(4, .int (nI g)), (3, .int (nI f)), (2, .int (nI (d + 1))), (0, .ref (ad 3)), (1, .int b)] [] := by
                  intro fu40
                  induction fu40 with
                  | zero => intro g hf40; exact absurd hf40 (Nat.not_lt_zero _)
                  | succ fu40 ih40 =>
                    intro g hf40 hg5
                    refine x_iload F dX0_weighWaysTo_40 0 rfl ?_
                    refine x_iconst F (v := 5) dX0_weighWaysTo_42 (by decide) ?_
                    refine x_icmp_ge F 84 dX0_weighWaysTo_43 (by decide) (fun h43 => ?_) (fun h43 => ?_)
                    · have hk7 := lp_exit (N := 5) (by omega) hg5 h43
                      refine x_iinc F [(3, .int ((nI f) + 1)), (4, .int (nI g)), (2, .int (nI (d + 1))), (0, .ref (ad 3)), (1, .int b)] dX0_weighWaysTo_84 1 rfl (by decide) rfl ?_
                      refine x_goto F 32 dX0_weighWaysTo_87 (by decide) ?_
                      refine x_world (congrArg (fun z => k_c cy ad q ns nt z J) (show (innerI (midI (outI (weigh0 I b) J d) J f) J f g) = midI (outI (weigh0 I b) J d) J (f + 1) by rw [hk7, midI])) ?_
                      rw [nI_1]
                      refine x_sub [0, 2, 3, 4] rfl ?_
                      exact ih32 (f + 1) (by omega) (by omega)
                    · have hk7 := lp_go (N := 5) (by omega) hg5 h43
                      refine x_aload_n F dX0_weighWaysTo_46 rfl 3 rfl ?_
                      refine x_iload_n F dX0_weighWaysTo_47 rfl 1 rfl ?_
                      refine x_iload F dX0_weighWaysTo_48 0 rfl ?_
                      refine z_callVi F [.int (nI f), .int (nI g)] (c_X0_isOpen l D cy lo R ad q ns nt (innerI (midI (outI (weigh0 I b) J d) J f) J f g) J hR (nI f) (nI g) ) mc_X0_isOpen mv_X0_isOpen lk_X0_45 (hR 3 (by decide)) sc_3 rfl rfl rfl dX0_weighWaysTo_50 ⟨Nat.le_of_ble_eq_true rfl, Nat.le_of_ble_eq_true rfl⟩ ⟨Nat.le_of_ble_eq_true rfl, Nat.le_of_ble_eq_true rfl⟩ (Nat.le_of_ble_eq_true rfl) ?_
                      refine x_if_eq F 78 dX0_weighWaysTo_53 (by decide) (fun h53 => ?_) (fun h53 => ?_)
                      · rw [kb0] at h53
                        refine x_iinc F [(4, .int ((nI g) + 1)), (3, .int (nI f)), (2, .int (nI (d + 1))), (0, .ref (ad 3)), (1, .int b)] dX0_weighWaysTo_78 0 rfl (by decide) rfl ?_
                        refine x_goto F 40 dX0_weighWaysTo_81 (by decide) ?_
                        refine x_world (congrArg (fun z => k_c cy ad q ns nt z J) (show (innerI (midI (outI (weigh0 I b) J d) J f) J f g) = innerI (midI (outI (weigh0 I b) J d) J f) J f (g + 1) by rw [innerI, relaxI, if_neg (by rw [h53]; decide)])) ?_
                        rw [nI_1]
                        exact ih40 (g + 1) (by omega) (by omega)
                      · rw [kb1] at h53
                        refine x_aload_n F dX0_weighWaysTo_56 rfl 3 rfl ?_
                        refine g_X0_22 F (hR 3 (by decide)) sc_3 rfl dX0_weighWaysTo_57 ?_
                        refine x_iload_n F dX0_weighWaysTo_60 rfl 1 rfl ?_
                        refine x_aload_n F dX0_weighWaysTo_61 rfl 3 rfl ?_
                        refine g_X0_22 F (hR 3 (by decide)) sc_3 rfl dX0_weighWaysTo_62 ?_
                        refine x_iload_n F dX0_weighWaysTo_65 rfl 1 rfl ?_
                        refine y_iald F (hR 11 (by decide)) ss_11 (vp_in_nI (by omega) (by decide)) dX0_weighWaysTo_66 ?_
                        refine x_aload_n F dX0_weighWaysTo_67 rfl 3 rfl ?_
                        refine x_iload_n F dX0_weighWaysTo_68 rfl 1 rfl ?_
                        refine x_iload F dX0_weighWaysTo_69 0 rfl ?_
                        refine z_callVi F [.int (nI f), .int (nI g)] (c_X0_weightOver l D cy lo R ad q ns nt (innerI (midI (outI (weigh0 I b) J d) J f) J f g) J hR (nI f) (nI g) ) mc_X0_weightOver mv_X0_weightOver lk_X0_84 (hR 3 (by decide)) sc_3 rfl rfl rfl dX0_weighWaysTo_71 ⟨Nat.le_of_ble_eq_true rfl, Nat.le_of_ble_eq_true rfl⟩ ⟨Nat.le_of_ble_eq_true rfl, Nat.le_of_ble_eq_true rfl⟩ (Nat.le_of_ble_eq_true rfl) ?_
                        refine z_min F lk_X0_87 ms_min ik_Math mc_min ⟨by decide, Nat.le_of_ble_eq_true rfl, Nat.le_of_ble_eq_true rfl, Nat.le_of_ble_eq_true rfl⟩ dX0_weighWaysTo_74 ?_
                        refine y_iast F (hR 11 (by decide)) ss_11 (vp_in_nI (by omega) (by decide)) dX0_weighWaysTo_77 ?_
                        refine x_iinc F [(4, .int ((nI g) + 1)), (3, .int (nI f)), (2, .int (nI (d + 1))), (0, .ref (ad 3)), (1, .int b)] dX0_weighWaysTo_78 0 rfl (by decide) rfl ?_
                        refine x_goto F 40 dX0_weighWaysTo_81 (by decide) ?_
                        refine x_world (congrArg (fun z => k_c cy ad q ns nt z J) (show wI (innerI (midI (outI (weigh0 I b) J d) J f) J f g) 11 (nI f).toNatClampNeg (if (overF (innerI (midI (outI (weigh0 I b) J d) J f) J f g) (nI f) (nI g)) < ((innerI (midI (outI (weigh0 I b) J d) J f) J f g) 11 (nI f).toNatClampNeg) then (overF (innerI (midI (outI (weigh0 I b) J d) J f) J f g) (nI f) (nI g)) else ((innerI (midI (outI (weigh0 I b) J d) J f) J f g) 11 (nI f).toNatClampNeg)) = innerI (midI (outI (weigh0 I b) J d) J f) J f (g + 1) by rw [innerI, relaxI, if_pos h53])) ?_
                        rw [nI_1]
                        exact ih40 (g + 1) (by omega) (by omega)
                refine x_world (congrArg (fun z => k_c cy ad q ns nt z J) (show (midI (outI (weigh0 I b) J d) J f) = innerI (midI (outI (weigh0 I b) J d) J f) J f 0 by rw [innerI])) ?_
                exact lp40 6 0 (by omega) (by omega)
          refine x_world (congrArg (fun z => k_c cy ad q ns nt z J) (show (outI (weigh0 I b) J d) = midI (outI (weigh0 I b) J d) J 0 by rw [midI])) ?_
          exact lp32 6 0 (by omega) (by omega)
    refine x_world (congrArg (fun z => k_c cy ad q ns nt z J) (show fillI I 11 5 1000000 = weigh0 I b by simp [weigh0, *])) ?_
    refine x_world (congrArg (fun z => k_c cy ad q ns nt z J) (show weigh0 I b = outI (weigh0 I b) J 0 by rw [outI])) ?_
    exact lp25 5 0 (by omega) (by omega)
  · rw [kb1] at h13
    refine x_aload_n F dX0_weighWaysTo_16 rfl 0 rfl ?_
    refine g_X0_22 F (hR 3 (by decide)) sc_3 rfl dX0_weighWaysTo_17 ?_
    refine x_iload_n F dX0_weighWaysTo_20 rfl 1 rfl ?_
    refine x_iconst F (v := 0) dX0_weighWaysTo_21 (by decide) ?_
    refine y_iast F (hR 11 (by decide)) ss_11 (vin_car ‹_›) dX0_weighWaysTo_22 ?_
    refine x_iconst F (v := 1) dX0_weighWaysTo_23 (by decide) ?_
    refine x_istore_n F [(2, .int 1), (0, .ref (ad 3)), (1, .int b)] dX0_weighWaysTo_24 rfl (by decide) rfl ?_
    have lp25 : ∀ (fu25 : Nat) (d : Nat), 4 - d < fu25 → (d ≤ 4) → XW D lo p l e { frames := 3, cells := 0, slots := 0, locals := 68 } s m args below meth c 5 0 0 Q R ad (k_c cy ad q ns nt (outI (weigh0 I b) J d) J) 25 [(2, .int (nI (d + 1))), (0, .ref (ad 3)), (1, .int b)] [] := by
      intro fu25
      induction fu25 with
      | zero => intro d hf25; exact absurd hf25 (Nat.not_lt_zero _)
      | succ fu25 ih25 =>
        intro d hf25 hd4
        refine x_iload_n F dX0_weighWaysTo_25 rfl 0 rfl ?_
        refine x_iconst F (v := 5) dX0_weighWaysTo_26 (by decide) ?_
        refine x_icmp_ge F 96 dX0_weighWaysTo_27 (by decide) (fun h27 => ?_) (fun h27 => ?_)
        · have hk9 := lp_exit (N := 5) (k := d + 1) (by omega) (by omega) h27
          have hd9 : d = 4 := by omega
          rw [hQ]
          exact x_vret F hr hlk (by rw [hd9]; rfl) dX0_weighWaysTo_96
        · have hk9 := lp_go (N := 5) (k := d + 1) (by omega) (by omega) h27
          refine x_iconst F (v := 0) dX0_weighWaysTo_30 (by decide) ?_
          refine x_istore_n F [(3, .int 0), (2, .int (nI (d + 1))), (0, .ref (ad 3)), (1, .int b)] dX0_weighWaysTo_31 rfl (by decide) rfl ?_
          have lp32 : ∀ (fu32 : Nat) (f : Nat), 5 - f < fu32 → (f ≤ 5) → XW D lo p l e { frames := 3, cells := 0, slots := 0, locals := 68 } s m args below meth c 5 0 0 Q R ad (k_c cy ad q ns nt (midI (outI (weigh0 I b) J d) J f) J) 32 [(3, .int (nI f)), (2, .int (nI (d + 1))), (0, .ref (ad 3)), (1, .int b)] [] := by
            intro fu32
            induction fu32 with
            | zero => intro f hf32; exact absurd hf32 (Nat.not_lt_zero _)
            | succ fu32 ih32 =>
              intro f hf32 hf5
              refine x_iload_n F dX0_weighWaysTo_32 rfl 0 rfl ?_
              refine x_iconst F (v := 5) dX0_weighWaysTo_33 (by decide) ?_
              refine x_icmp_ge F 90 dX0_weighWaysTo_34 (by decide) (fun h34 => ?_) (fun h34 => ?_)
              · have hk8 := lp_exit (N := 5) (by omega) hf5 h34
                refine x_iinc F [(2, .int ((nI (d + 1)) + 1)), (3, .int (nI f)), (0, .ref (ad 3)), (1, .int b)] dX0_weighWaysTo_90 1 rfl (by decide) rfl ?_
                refine x_goto F 25 dX0_weighWaysTo_93 (by decide) ?_
                refine x_world (congrArg (fun z => k_c cy ad q ns nt z J) (show (midI (outI (weigh0 I b) J d) J f) = outI (weigh0 I b) J (d + 1) by rw [hk8, outI])) ?_
                rw [nI_1]
                refine x_sub [0, 2, 3] rfl ?_
                exact ih25 (d + 1) (by omega) (by omega)
              · have hk8 := lp_go (N := 5) (by omega) hf5 h34
                refine x_iconst F (v := 0) dX0_weighWaysTo_37 (by decide) ?_
                refine x_istore F [(4, .int 0), (3, .int (nI f)), (2, .int (nI (d + 1))), (0, .ref (ad 3)), (1, .int b)] dX0_weighWaysTo_38 (by decide) rfl ?_
                have lp40 : ∀ (fu40 : Nat) (g : Nat), 5 - g < fu40 → (g ≤ 5) → XW D lo p l e { frames := 3, cells := 0, slots := 0, locals := 68 } s m args below meth c 5 0 0 Q R ad (k_c cy ad q ns nt (innerI (midI (outI (weigh0 I b) J d) J f) J f g) J) 40 [(4, .int (nI g)), (3, .int (nI f)), (2, .int (nI (d + 1))), (0, .ref (ad 3)), (1, .int b)] [] := by
                  intro fu40
                  induction fu40 with
                  | zero => intro g hf40; exact absurd hf40 (Nat.not_lt_zero _)
                  | succ fu40 ih40 =>
                    intro g hf40 hg5
                    refine x_iload F dX0_weighWaysTo_40 0 rfl ?_
                    refine x_iconst F (v := 5) dX0_weighWaysTo_42 (by decide) ?_
                    refine x_icmp_ge F 84 dX0_weighWaysTo_43 (by decide) (fun h43 => ?_) (fun h43 => ?_)
                    · have hk7 := lp_exit (N := 5) (by omega) hg5 h43
                      refine x_iinc F [(3, .int ((nI f) + 1)), (4, .int (nI g)), (2, .int (nI (d + 1))), (0, .ref (ad 3)), (1, .int b)] dX0_weighWaysTo_84 1 rfl (by decide) rfl ?_
                      refine x_goto F 32 dX0_weighWaysTo_87 (by decide) ?_
                      refine x_world (congrArg (fun z => k_c cy ad q ns nt z J) (show (innerI (midI (outI (weigh0 I b) J d) J f) J f g) = midI (outI (weigh0 I b) J d) J (f + 1) by rw [hk7, midI])) ?_
                      rw [nI_1]
                      refine x_sub [0, 2, 3, 4] rfl ?_
                      exact ih32 (f + 1) (by omega) (by omega)
                    · have hk7 := lp_go (N := 5) (by omega) hg5 h43
                      refine x_aload_n F dX0_weighWaysTo_46 rfl 3 rfl ?_
                      refine x_iload_n F dX0_weighWaysTo_47 rfl 1 rfl ?_
                      refine x_iload F dX0_weighWaysTo_48 0 rfl ?_
                      refine z_callVi F [.int (nI f), .int (nI g)] (c_X0_isOpen l D cy lo R ad q ns nt (innerI (midI (outI (weigh0 I b) J d) J f) J f g) J hR (nI f) (nI g) ) mc_X0_isOpen mv_X0_isOpen lk_X0_45 (hR 3 (by decide)) sc_3 rfl rfl rfl dX0_weighWaysTo_50 ⟨Nat.le_of_ble_eq_true rfl, Nat.le_of_ble_eq_true rfl⟩ ⟨Nat.le_of_ble_eq_true rfl, Nat.le_of_ble_eq_true rfl⟩ (Nat.le_of_ble_eq_true rfl) ?_
                      refine x_if_eq F 78 dX0_weighWaysTo_53 (by decide) (fun h53 => ?_) (fun h53 => ?_)
                      · rw [kb0] at h53
                        refine x_iinc F [(4, .int ((nI g) + 1)), (3, .int (nI f)), (2, .int (nI (d + 1))), (0, .ref (ad 3)), (1, .int b)] dX0_weighWaysTo_78 0 rfl (by decide) rfl ?_
                        refine x_goto F 40 dX0_weighWaysTo_81 (by decide) ?_
                        refine x_world (congrArg (fun z => k_c cy ad q ns nt z J) (show (innerI (midI (outI (weigh0 I b) J d) J f) J f g) = innerI (midI (outI (weigh0 I b) J d) J f) J f (g + 1) by rw [innerI, relaxI, if_neg (by rw [h53]; decide)])) ?_
                        rw [nI_1]
                        exact ih40 (g + 1) (by omega) (by omega)
                      · rw [kb1] at h53
                        refine x_aload_n F dX0_weighWaysTo_56 rfl 3 rfl ?_
                        refine g_X0_22 F (hR 3 (by decide)) sc_3 rfl dX0_weighWaysTo_57 ?_
                        refine x_iload_n F dX0_weighWaysTo_60 rfl 1 rfl ?_
                        refine x_aload_n F dX0_weighWaysTo_61 rfl 3 rfl ?_
                        refine g_X0_22 F (hR 3 (by decide)) sc_3 rfl dX0_weighWaysTo_62 ?_
                        refine x_iload_n F dX0_weighWaysTo_65 rfl 1 rfl ?_
                        refine y_iald F (hR 11 (by decide)) ss_11 (vp_in_nI (by omega) (by decide)) dX0_weighWaysTo_66 ?_
                        refine x_aload_n F dX0_weighWaysTo_67 rfl 3 rfl ?_
                        refine x_iload_n F dX0_weighWaysTo_68 rfl 1 rfl ?_
                        refine x_iload F dX0_weighWaysTo_69 0 rfl ?_
                        refine z_callVi F [.int (nI f), .int (nI g)] (c_X0_weightOver l D cy lo R ad q ns nt (innerI (midI (outI (weigh0 I b) J d) J f) J f g) J hR (nI f) (nI g) ) mc_X0_weightOver mv_X0_weightOver lk_X0_84 (hR 3 (by decide)) sc_3 rfl rfl rfl dX0_weighWaysTo_71 ⟨Nat.le_of_ble_eq_true rfl, Nat.le_of_ble_eq_true rfl⟩ ⟨Nat.le_of_ble_eq_true rfl, Nat.le_of_ble_eq_true rfl⟩ (Nat.le_of_ble_eq_true rfl) ?_
                        refine z_min F lk_X0_87 ms_min ik_Math mc_min ⟨by decide, Nat.le_of_ble_eq_true rfl, Nat.le_of_ble_eq_true rfl, Nat.le_of_ble_eq_true rfl⟩ dX0_weighWaysTo_74 ?_
                        refine y_iast F (hR 11 (by decide)) ss_11 (vp_in_nI (by omega) (by decide)) dX0_weighWaysTo_77 ?_
                        refine x_iinc F [(4, .int ((nI g) + 1)), (3, .int (nI f)), (2, .int (nI (d + 1))), (0, .ref (ad 3)), (1, .int b)] dX0_weighWaysTo_78 0 rfl (by decide) rfl ?_
                        refine x_goto F 40 dX0_weighWaysTo_81 (by decide) ?_
                        refine x_world (congrArg (fun z => k_c cy ad q ns nt z J) (show wI (innerI (midI (outI (weigh0 I b) J d) J f) J f g) 11 (nI f).toNatClampNeg (if (overF (innerI (midI (outI (weigh0 I b) J d) J f) J f g) (nI f) (nI g)) < ((innerI (midI (outI (weigh0 I b) J d) J f) J f g) 11 (nI f).toNatClampNeg) then (overF (innerI (midI (outI (weigh0 I b) J d) J f) J f g) (nI f) (nI g)) else ((innerI (midI (outI (weigh0 I b) J d) J f) J f g) 11 (nI f).toNatClampNeg)) = innerI (midI (outI (weigh0 I b) J d) J f) J f (g + 1) by rw [innerI, relaxI, if_pos h53])) ?_
                        rw [nI_1]
                        exact ih40 (g + 1) (by omega) (by omega)
                refine x_world (congrArg (fun z => k_c cy ad q ns nt z J) (show (midI (outI (weigh0 I b) J d) J f) = innerI (midI (outI (weigh0 I b) J d) J f) J f 0 by rw [innerI])) ?_
                exact lp40 6 0 (by omega) (by omega)
          refine x_world (congrArg (fun z => k_c cy ad q ns nt z J) (show (outI (weigh0 I b) J d) = midI (outI (weigh0 I b) J d) J 0 by rw [midI])) ?_
          exact lp32 6 0 (by omega) (by omega)
    refine x_world (congrArg (fun z => k_c cy ad q ns nt z J) (show wI (fillI I 11 5 1000000) 11 b.toNatClampNeg 0 = weigh0 I b by simp [weigh0, *])) ?_
    refine x_world (congrArg (fun z => k_c cy ad q ns nt z J) (show weigh0 I b = outI (weigh0 I b) J 0 by rw [outI])) ?_
    exact lp25 5 0 (by omega) (by omega)
set_option maxHeartbeats 4000000 in
set_option maxRecDepth 100000 in
/-- Network.findBest -/
theorem c_X0_findBest (l : Launch) (D : va_G) (cy : Nat → ClassId) (lo : Nat) (R : List Nat) (ad : Nat → Nat) (q : Nat → Nat → Nat) (ns nt : Nat) (I : Nat → Nat → Int32) (J : Nat → Nat → Int64) (hR : ∀ r, r < 19 → r ∈ R) (r : Nat) (a : Int32) (b : Int32) (hk : r = 6 ∨ (80 ≤ r ∧ r % 4 = 1)) (hm : r ∈ R) (hn : r + 1 ∈ R) : k_Ci l yX0_findBest cX0_findBest 6 (some .boolean) 4 92 D cy lo R ad (k_c cy ad q ns nt I J) [.ref (ad 3), .int a, .int b, .ref (ad r)] (k_b (fbB I J a b)) (k_c cy ad q ns nt (fbI I J a b r) J) := by
  refine k_metQ (by decide +kernel) (Nat.le_of_ble_eq_true rfl) ?_
  intro p e s m args below meth c Q F hr hlk hnm hQ
  refine x_iload_n F dX0_findBest_0 rfl 1 rfl ?_
  refine z_callSNi F [.int a] (c_X4_isCarrier l D cy lo R ad _ a) mc_X4_isCarrier ms_X4_isCarrier lk_X0_66 rfl rfl dX0_findBest_1 ⟨Nat.le_of_ble_eq_true rfl, Nat.le_of_ble_eq_true rfl⟩ ⟨Nat.le_of_ble_eq_true rfl, Nat.le_of_ble_eq_true rfl⟩ (Nat.le_of_ble_eq_true rfl) ?_
  refine x_if_eq F 14 dX0_findBest_4 (by decide) (fun h4 => ?_) (fun h4 => ?_)
  · rw [kb0] at h4
    refine x_iconst F (v := 0) dX0_findBest_14 (by decide) ?_
    rw [hQ]
    exact x_zret F hr hlk (by decide) ⟨by simp [fbB, k_b, *], by simp [fbI, *]⟩ dX0_findBest_15
  · rw [kb1] at h4
    refine x_iload_n F dX0_findBest_7 rfl 2 rfl ?_
    refine z_callSNi F [.int b] (c_X4_isCarrier l D cy lo R ad _ b) mc_X4_isCarrier ms_X4_isCarrier lk_X0_66 rfl rfl dX0_findBest_8 ⟨Nat.le_of_ble_eq_true rfl, Nat.le_of_ble_eq_true rfl⟩ ⟨Nat.le_of_ble_eq_true rfl, Nat.le_of_ble_eq_true rfl⟩ (Nat.le_of_ble_eq_true rfl) ?_
    refine x_if_ne F 16 dX0_findBest_11 (by decide) (fun h11 => ?_) (fun h11 => ?_)
    · rw [kb1] at h11
      refine x_aload_n F dX0_findBest_16 rfl 0 rfl ?_
      refine x_iload_n F dX0_findBest_17 rfl 2 rfl ?_
      refine z_callVv F [.int b] (c_X0_weighWaysTo l D cy lo R ad q ns nt I J hR b ) mc_X0_weighWaysTo mv_X0_weighWaysTo lk_X0_70 (hR 3 (by decide)) sc_3 rfl rfl rfl dX0_findBest_18 ⟨Nat.le_of_ble_eq_true rfl, Nat.le_of_ble_eq_true rfl⟩ ⟨Nat.le_of_ble_eq_true rfl, Nat.le_of_ble_eq_true rfl⟩ (Nat.le_of_ble_eq_true rfl) ?_
      refine x_aload_n F dX0_findBest_21 rfl 0 rfl ?_
      refine g_X0_22 F (hR 3 (by decide)) sc_3 rfl dX0_findBest_22 ?_
      refine x_iload_n F dX0_findBest_25 rfl 1 rfl ?_
      refine y_iald F (hR 11 (by decide)) ss_11 (vin_car ‹_›) dX0_findBest_26 ?_
      refine x_ldc F (v := 1000000) dX0_findBest_27 309 (by decide +kernel) ?_
      refine x_icmp_lt F 34 dX0_findBest_29 (by decide) (fun h29 => ?_) (fun h29 => ?_)
      · refine x_aload_n F dX0_findBest_34 rfl 3 rfl ?_
        refine z_callVv F [] (c_X1_clear l D cy lo R ad q ns nt (weighI I J b) J hR r hk hm hn) mc_X1_clear mv_X1_clear lk_X0_75 hm (sc_rte hk) rfl rfl rfl dX0_findBest_35 ⟨Nat.le_of_ble_eq_true rfl, Nat.le_of_ble_eq_true rfl⟩ ⟨Nat.le_of_ble_eq_true rfl, Nat.le_of_ble_eq_true rfl⟩ (Nat.le_of_ble_eq_true rfl) ?_
        refine x_aload_n F dX0_findBest_38 rfl 3 rfl ?_
        refine x_iload_n F dX0_findBest_39 rfl 1 rfl ?_
        refine z_callVv F [.int a] (c_X1_add l D cy lo R ad q ns nt (wI (weighI I J b) r 1 0) J hR r a hk hm hn) mc_X1_add mv_X1_add lk_X0_78 hm (sc_rte hk) rfl rfl rfl dX0_findBest_40 ⟨Nat.le_of_ble_eq_true rfl, Nat.le_of_ble_eq_true rfl⟩ ⟨Nat.le_of_ble_eq_true rfl, Nat.le_of_ble_eq_true rfl⟩ (Nat.le_of_ble_eq_true rfl) ?_
        refine x_iload_n F dX0_findBest_43 rfl 1 rfl ?_
        refine x_istore F [(4, .int a), (0, .ref (ad 3)), (1, .int a), (2, .int b), (3, .ref (ad r))] dX0_findBest_44 (by decide) rfl ?_
        refine x_iconst F (v := 1) dX0_findBest_46 (by decide) ?_
        refine x_istore F [(5, .int 1), (4, .int a), (0, .ref (ad 3)), (1, .int a), (2, .int b), (3, .ref (ad r))] dX0_findBest_47 (by decide) rfl ?_
        have lp49 : ∀ (fu49 : Nat) (j : Nat), 4 - j < fu49 → (j ≤ 4) → XW D lo p l e { frames := 4, cells := 0, slots := 0, locals := 92 } s m args below meth c 6 0 0 Q R ad (k_c cy ad q ns nt ((goF (weighI I J b) J r a b j).2) J) 49 [(5, .int (nI (j + 1))), (4, .int ((goF (weighI I J b) J r a b j).1)), (0, .ref (ad 3)), (1, .int a), (2, .int b), (3, .ref (ad r))] [] := by
          intro fu49
          induction fu49 with
          | zero => intro j hf49; exact absurd hf49 (Nat.not_lt_zero _)
          | succ fu49 ih49 =>
            intro j hf49 hj4
            refine x_iload F dX0_findBest_49 0 rfl ?_
            refine x_iconst F (v := 5) dX0_findBest_51 (by decide) ?_
            refine x_icmp_ge F 81 dX0_findBest_52 (by decide) (fun h52 => ?_) (fun h52 => ?_)
            · have hk9 := lp_exit (N := 5) (k := j + 1) (by omega) (by omega) h52
              have hj9 : j = 4 := by omega
              refine x_iconst F (v := 1) dX0_findBest_81 (by decide) ?_
              rw [hQ]
              exact x_zret F hr hlk (by decide) ⟨by simp [fbB, k_b, h4, h11, h29], by rw [fbI, if_pos (by simp [h4, h11]), if_pos h29, hj9]⟩ dX0_findBest_82
            · have hk9 := lp_go (N := 5) (k := j + 1) (by omega) (by omega) h52
              refine x_iload F dX0_findBest_55 1 rfl ?_
              refine x_iload_n F dX0_findBest_57 rfl 4 rfl ?_
              refine x_icmp_eq F 81 dX0_findBest_58 (by decide) (fun h58 => ?_) (fun h58 => ?_)
              · have hs9 := go_stay h58 4 (by omega)
                refine x_iconst F (v := 1) dX0_findBest_81 (by decide) ?_
                rw [hQ]
                exact x_zret F hr hlk (by decide) ⟨by simp [fbB, k_b, h4, h11, h29], by rw [fbI, if_pos (by simp [h4, h11]), if_pos h29, hs9]⟩ dX0_findBest_82
              · refine x_aload_n F dX0_findBest_61 rfl 2 rfl ?_
                refine x_iload F dX0_findBest_62 1 rfl ?_
                refine z_callVi F [.int ((goF (weighI I J b) J r a b j).1)] (c_X0_nextOnBest l D cy lo R ad q ns nt ((goF (weighI I J b) J r a b j).2) J hR ((goF (weighI I J b) J r a b j).1) ) mc_X0_nextOnBest mv_X0_nextOnBest lk_X0_81 (hR 3 (by decide)) sc_3 rfl rfl rfl dX0_findBest_64 ⟨Nat.le_of_ble_eq_true rfl, Nat.le_of_ble_eq_true rfl⟩ ⟨Nat.le_of_ble_eq_true rfl, Nat.le_of_ble_eq_true rfl⟩ (Nat.le_of_ble_eq_true rfl) ?_
                refine x_istore F [(4, .int (nextF ((goF (weighI I J b) J r a b j).2) J ((goF (weighI I J b) J r a b j).1))), (5, .int (nI (j + 1))), (0, .ref (ad 3)), (1, .int a), (2, .int b), (3, .ref (ad r))] dX0_findBest_67 (by decide) rfl ?_
                refine x_aload_n F dX0_findBest_69 rfl 5 rfl ?_
                refine x_iload F dX0_findBest_70 0 rfl ?_
                refine z_callVv F [.int (nextF ((goF (weighI I J b) J r a b j).2) J ((goF (weighI I J b) J r a b j).1))] (c_X1_add l D cy lo R ad q ns nt ((goF (weighI I J b) J r a b j).2) J hR r (nextF ((goF (weighI I J b) J r a b j).2) J ((goF (weighI I J b) J r a b j).1)) hk hm hn) mc_X1_add mv_X1_add lk_X0_78 hm (sc_rte hk) rfl rfl rfl dX0_findBest_72 ⟨Nat.le_of_ble_eq_true rfl, Nat.le_of_ble_eq_true rfl⟩ ⟨Nat.le_of_ble_eq_true rfl, Nat.le_of_ble_eq_true rfl⟩ (Nat.le_of_ble_eq_true rfl) ?_
                refine x_iinc F [(5, .int ((nI (j + 1)) + 1)), (4, .int (nextF ((goF (weighI I J b) J r a b j).2) J ((goF (weighI I J b) J r a b j).1))), (0, .ref (ad 3)), (1, .int a), (2, .int b), (3, .ref (ad r))] dX0_findBest_75 1 rfl (by decide) rfl ?_
                refine x_goto F 49 dX0_findBest_78 (by decide) ?_
                refine x_world (congrArg (fun z => k_c cy ad q ns nt z J) (show addRI ((goF (weighI I J b) J r a b j).2) r (nextF ((goF (weighI I J b) J r a b j).2) J ((goF (weighI I J b) J r a b j).1)) = (goF (weighI I J b) J r a b (j + 1)).2 by conv => rhs; rw [goF, if_neg h58])) ?_
                rw [nI_1, show nextF (goF (weighI I J b) J r a b j).2 J (goF (weighI I J b) J r a b j).1 = (goF (weighI I J b) J r a b (j + 1)).1 by rw [goF, if_neg h58]]
                exact ih49 (j + 1) (by omega) (by omega)
        refine x_sub (lv' := [(5, .int (nI (0 + 1))), (4, .int ((goF (weighI I J b) J r a b 0).1)), (0, .ref (ad 3)), (1, .int a), (2, .int b), (3, .ref (ad r))]) [0, 1, 2, 3, 4, 5] (by rw [go_0]; rfl) ?_
        refine x_world (congrArg (fun z => k_c cy ad q ns nt z J) (show addRI (wI (weighI I J b) r 1 0) r a = (goF (weighI I J b) J r a b 0).2 by rw [go_0])) ?_
        exact lp49 5 0 (by omega) (by omega)
      · refine x_iconst F (v := 0) dX0_findBest_32 (by decide) ?_
        rw [hQ]
        exact x_zret F hr hlk (by decide) ⟨by simp [fbB, k_b, *], by simp [fbI, *]⟩ dX0_findBest_33
    · rw [kb0] at h11
      refine x_iconst F (v := 0) dX0_findBest_14 (by decide) ?_
      rw [hQ]
      exact x_zret F hr hlk (by decide) ⟨by simp [fbB, k_b, *], by simp [fbI, *]⟩ dX0_findBest_15
end
section
theorem wi_car (c : Int32) : isWi c 0 4 = isCar c := by
  have h : (4 : Int32) < c ↔ 5 ≤ c := by
    rw [Int32.lt_iff_toInt_lt, Int32.le_iff_toInt_le]
    have e4 : (4 : Int32).toInt = 4 := rfl
    have e5 : (5 : Int32).toInt = 5 := rfl
    rw [e4, e5]
    omega
  by_cases h1 : c < 0 <;> by_cases h2 : 5 ≤ c <;> simp [isWi, isCar, h1, h2, h]
theorem car_nI {c : Int32} (h : isCar c = true) : ∃ n : Nat, n < 5 ∧ c = nI n := vp_in_of (vin_car h) (by decide)
theorem car_of {n : Nat} (h : n < 5) : isCar (nI n) = true := by
  rcases (show n = 0 ∨ n = 1 ∨ n = 2 ∨ n = 3 ∨ n = 4 by omega) with rfl | rfl | rfl | rfl | rfl <;> decide
theorem pair_nI {a b : Int32} (ha : isCar a = true) (hb : isCar b = true) : ∃ m n : Nat, m < 5 ∧ n < 5 ∧ a = nI m ∧ b = nI n ∧ 5 * a + b = nI (5 * m + n) := by
  obtain ⟨m, hm, rfl⟩ := car_nI ha
  obtain ⟨n, hn, rfl⟩ := car_nI hb
  exact ⟨m, n, hm, hn, rfl, rfl, by rw [show (5 : Int32) = nI 5 from rfl, pk_mul, nI_add]⟩
theorem vin_pair {a b : Int32} (ha : isCar a = true) (hb : isCar b = true) : vp_in (5 * a + b) 25 := by
  obtain ⟨m, n, hm, hn, -, -, e⟩ := pair_nI ha hb
  rw [e]
  exact vp_in_nI (by omega) (by decide)
end
section
def k_RL (R : List Nat) (ns nt : Nat) : Prop := (∀ r, r < 19 → r ∈ R) ∧ (∀ i, i < ns → 40 + 2 * i ∈ R ∧ 40 + 2 * i + 1 ∈ R) ∧ (∀ j, j < nt → 80 + 4 * j ∈ R ∧ 80 + 4 * j + 1 ∈ R ∧ 80 + 4 * j + 1 + 1 ∈ R ∧ 80 + 4 * j + 3 ∈ R) ∧ ns ≤ 20 ∧ nt ≤ 60
/-- an int that numbers one of n things -/
def isN (n : Nat) (a : Int32) : Bool := !decide (a < 0) && decide (a.toNatClampNeg < n)
theorem isN_nI {n : Nat} {a : Int32} (h : isN n a = true) : ∃ j, j < n ∧ a = nI j ∧ a.toNatClampNeg = j := by
  simp only [isN, Bool.and_eq_true, Bool.not_eq_true', decide_eq_false_iff_not, decide_eq_true_eq] at h
  obtain ⟨j, hj, rfl⟩ := nI_of h.1
  rw [nI_clamp hj] at h
  exact ⟨j, h.2, rfl, nI_clamp hj⟩
theorem isN_lt {n : Nat} {a : Int32} (h : isN n a = true) : a.toNatClampNeg < n := by
  obtain ⟨j, hj, -, e⟩ := isN_nI h
  rw [e]; exact hj
theorem isN_no {n : Nat} {a : Int32} (h0 : ¬ a < 0) (h : ¬ a.toNatClampNeg < n) : isN n a = false := by simp [isN, h0, h]
theorem isN_yes {n : Nat} {a : Int32} (h0 : ¬ a < 0) (h : a.toNatClampNeg < n) : isN n a = true := by simp [isN, h0, h]
theorem isN_neg {n : Nat} {a : Int32} (h0 : a < 0) : isN n a = false := by simp [isN, h0]
theorem isN_big {n m : Nat} {a : Int32} (h0 : ¬ a < 0) (h : nI m ≤ a) (hm : m < 2 ^ 31) (hn : n ≤ m) : isN n a = false := by
  obtain ⟨j, hj, rfl⟩ := nI_of h0
  rw [nI_leI hm hj] at h
  rw [isN, nI_clamp hj]
  have : ¬ j < n := by omega
  simp [this]
set_option maxHeartbeats 4000000 in
set_option maxRecDepth 100000 in
/-- demandCarrier -/
theorem c_X4_demandCarrier (l : Launch) (D : va_G) (cy : Nat → ClassId) (lo : Nat) (R : List Nat) (ad : Nat → Nat) (w : Nat → va_E) (hfl : l.stackTraces = false) (a : Int32) : k_Xv l yX4_demandCarrier cX4_demandCarrier 1 none 6 86 1 6 D cy lo R ad w [.int a] (isCar a = true) (fun E => E = e_IO ∧ isCar a = false) w := by
  refine k_metXQ (by decide +kernel) (Nat.le_of_ble_eq_true rfl) ?_
  intro p e s m args below meth c Q F hr hlk ht hQ
  refine x_iload_n F dX4_demandCarrier_0 rfl 0 rfl ?_
  refine z_callSi F [.int a] (c_X4_isCarrier l D cy lo R ad _ a) mc_X4_isCarrier ms_X4_isCarrier lk_X4_204 rfl rfl dX4_demandCarrier_1 ⟨Nat.le_of_ble_eq_true rfl, Nat.le_of_ble_eq_true rfl⟩ ⟨Nat.le_of_ble_eq_true rfl, Nat.le_of_ble_eq_true rfl⟩ (Nat.le_of_ble_eq_true rfl) ?_
  refine x_if_ne F 17 dX4_demandCarrier_4 (by decide) (fun h4 => ?_) (fun h4 => ?_)
  · rw [kb1] at h4
    rw [hQ]
    refine x_widen (k := 1) (n := 6) (Nat.le_of_ble_eq_true rfl) (Nat.le_of_ble_eq_true rfl) ?_
    exact x_vretx F hr hlk ⟨‹_›, rfl⟩ dX4_demandCarrier_17
  · rw [kb0] at h4
    rw [hQ]
    exact x_throw F hfl ht hlk (by decide +kernel) ck_X4_111 ik_IO sk_X4_207 k_at_IO dX4_demandCarrier_7 dX4_demandCarrier_10 dX4_demandCarrier_11 dX4_demandCarrier_13 dX4_demandCarrier_16 ⟨Nat.le_of_ble_eq_true rfl, Nat.le_of_ble_eq_true rfl, Nat.le_of_ble_eq_true rfl, Nat.le_of_ble_eq_true rfl⟩ ⟨by first | exact ⟨rfl, ‹_›⟩ | simp [*], rfl⟩ (by decide) (by decide)
set_option maxHeartbeats 4000000 in
set_option maxRecDepth 100000 in
/-- demandCredit -/
theorem c_X4_demandCredit (l : Launch) (D : va_G) (cy : Nat → ClassId) (lo : Nat) (R : List Nat) (ad : Nat → Nat) (w : Nat → va_E) (hfl : l.stackTraces = false) (a b : Int32) : k_Xv l yX4_demandCredit cX4_demandCredit 2 none 6 86 1 6 D cy lo R ad w [.int a, .int b] ((isWi a 0 10000 && isWi b 0 1000) = true) (fun E => E = e_IA ∧ (isWi a 0 10000 && isWi b 0 1000) = false) w := by
  refine k_metXQ (by decide +kernel) (Nat.le_of_ble_eq_true rfl) ?_
  intro p e s m args below meth c Q F hr hlk ht hQ
  refine x_iload_n F dX4_demandCredit_0 rfl 0 rfl ?_
  refine x_iconst F (v := 0) dX4_demandCredit_1 (by decide) ?_
  refine x_sipush F (v := 10000) dX4_demandCredit_2 (by decide) ?_
  refine z_callSi F [.int a, .int 0, .int 10000] (c_X4_isWithin l D cy lo R ad _ a 0 10000) mc_X4_isWithin ms_X4_isWithin lk_X4_52 rfl rfl dX4_demandCredit_5 ⟨Nat.le_of_ble_eq_true rfl, Nat.le_of_ble_eq_true rfl⟩ ⟨Nat.le_of_ble_eq_true rfl, Nat.le_of_ble_eq_true rfl⟩ (Nat.le_of_ble_eq_true rfl) ?_
  refine x_if_eq F 22 dX4_demandCredit_8 (by decide) (fun h8 => ?_) (fun h8 => ?_)
  · rw [kb0] at h8
    rw [hQ]
    exact x_throw F hfl ht hlk (by decide +kernel) ck_X4_56 ik_IA sk_X4_209 k_at_IA dX4_demandCredit_22 dX4_demandCredit_25 dX4_demandCredit_26 dX4_demandCredit_28 dX4_demandCredit_31 ⟨Nat.le_of_ble_eq_true rfl, Nat.le_of_ble_eq_true rfl, Nat.le_of_ble_eq_true rfl, Nat.le_of_ble_eq_true rfl⟩ ⟨⟨rfl, by simp [*]⟩, rfl⟩ (by decide) (by decide)
  · rw [kb1] at h8
    refine x_iload_n F dX4_demandCredit_11 rfl 1 rfl ?_
    refine x_iconst F (v := 0) dX4_demandCredit_12 (by decide) ?_
    refine x_sipush F (v := 1000) dX4_demandCredit_13 (by decide) ?_
    refine z_callSi F [.int b, .int 0, .int 1000] (c_X4_isWithin l D cy lo R ad _ b 0 1000) mc_X4_isWithin ms_X4_isWithin lk_X4_52 rfl rfl dX4_demandCredit_16 ⟨Nat.le_of_ble_eq_true rfl, Nat.le_of_ble_eq_true rfl⟩ ⟨Nat.le_of_ble_eq_true rfl, Nat.le_of_ble_eq_true rfl⟩ (Nat.le_of_ble_eq_true rfl) ?_
    refine x_if_ne F 32 dX4_demandCredit_19 (by decide) (fun h19 => ?_) (fun h19 => ?_)
    · rw [kb1] at h19
      rw [hQ]
      refine x_widen (k := 1) (n := 6) (Nat.le_of_ble_eq_true rfl) (Nat.le_of_ble_eq_true rfl) ?_
      exact x_vretx F hr hlk ⟨by simp [*], rfl⟩ dX4_demandCredit_32
    · rw [kb0] at h19
      rw [hQ]
      exact x_throw F hfl ht hlk (by decide +kernel) ck_X4_56 ik_IA sk_X4_209 k_at_IA dX4_demandCredit_22 dX4_demandCredit_25 dX4_demandCredit_26 dX4_demandCredit_28 dX4_demandCredit_31 ⟨Nat.le_of_ble_eq_true rfl, Nat.le_of_ble_eq_true rfl, Nat.le_of_ble_eq_true rfl, Nat.le_of_ble_eq_true rfl⟩ ⟨⟨rfl, by simp [*]⟩, rfl⟩ (by decide) (by decide)
theorem sub_rng {R : List Nat} {ns nt i : Nat} (h : i < ns) (hL : k_RL R ns nt) : 40 ≤ 40 + 2 * i ∧ 40 + 2 * i < 80 ∧ (40 + 2 * i) % 2 = 0 := by
  have := hL.2.2.2.1
  omega
theorem tlk_rng (j : Nat) : 80 ≤ 80 + 4 * j ∧ (80 + 4 * j) % 4 = 0 := by omega
set_option maxHeartbeats 4000000 in
set_option maxRecDepth 100000 in
/-- subscriberOf -/
theorem c_X4_subscriberOf (l : Launch) (D : va_G) (cy : Nat → ClassId) (lo : Nat) (R : List Nat) (ad : Nat → Nat) (q : Nat → Nat → Nat) (ns nt : Nat) (I : Nat → Nat → Int32) (J : Nat → Nat → Int64) (hL : k_RL R ns nt) (hfl : l.stackTraces = false) (a : Int32) : k_Xq l yX4_subscriberOf cX4_subscriberOf 3 (some (.object "RoamLedger$Subscriber")) 6 86 1 6 D cy lo R ad (k_c cy ad q ns nt I J) [.ref (ad 0), .int a] (isN ns a = true) (fun E => E = e_IO ∧ isN ns a = false) (some (ad (40 + 2 * a.toNatClampNeg))) (k_c cy ad q ns nt I J) := by
  refine k_metXQ (by decide +kernel) (Nat.le_of_ble_eq_true rfl) ?_
  intro p e s m args below meth c Q F hr hlk ht hQ
  have hR := hL.1
  refine x_iload_n F dX4_subscriberOf_0 rfl 1 rfl ?_
  refine x_if_lt F 19 dX4_subscriberOf_1 (by decide) (fun h1 => ?_) (fun h1 => ?_)
  · refine x_null F dX4_subscriberOf_19 ?_
    refine x_astore_nN F [(2, .null), (0, .ref (ad 0)), (1, .int a)] dX4_subscriberOf_20 rfl (by decide) rfl ?_
    refine x_aload_nN F dX4_subscriberOf_21 rfl 0 rfl ?_
    refine x_ifnonnullN F dX4_subscriberOf_22 ?_
    rw [hQ]
    exact x_throw F hfl ht hlk (by decide +kernel) ck_X4_111 ik_IO sk_X4_211 k_at_IO dX4_subscriberOf_25 dX4_subscriberOf_28 dX4_subscriberOf_29 dX4_subscriberOf_31 dX4_subscriberOf_34 ⟨Nat.le_of_ble_eq_true rfl, Nat.le_of_ble_eq_true rfl, Nat.le_of_ble_eq_true rfl, Nat.le_of_ble_eq_true rfl⟩ ⟨⟨rfl, by first | exact isN_no ‹_› ‹_› | exact isN_neg ‹_› | exact isN_big (m := 20) ‹_› ‹_› (by decide) hL.2.2.2.1 | exact isN_big (m := 60) ‹_› ‹_› (by decide) hL.2.2.2.2⟩, rfl⟩ (by decide) (by decide)
  · refine x_iload_n F dX4_subscriberOf_4 rfl 1 rfl ?_
    refine x_bipush F (v := 20) dX4_subscriberOf_5 (by decide) ?_
    refine x_icmp_ge F 19 dX4_subscriberOf_7 (by decide) (fun h7 => ?_) (fun h7 => ?_)
    · refine x_null F dX4_subscriberOf_19 ?_
      refine x_astore_nN F [(2, .null), (0, .ref (ad 0)), (1, .int a)] dX4_subscriberOf_20 rfl (by decide) rfl ?_
      refine x_aload_nN F dX4_subscriberOf_21 rfl 0 rfl ?_
      refine x_ifnonnullN F dX4_subscriberOf_22 ?_
      rw [hQ]
      exact x_throw F hfl ht hlk (by decide +kernel) ck_X4_111 ik_IO sk_X4_211 k_at_IO dX4_subscriberOf_25 dX4_subscriberOf_28 dX4_subscriberOf_29 dX4_subscriberOf_31 dX4_subscriberOf_34 ⟨Nat.le_of_ble_eq_true rfl, Nat.le_of_ble_eq_true rfl, Nat.le_of_ble_eq_true rfl, Nat.le_of_ble_eq_true rfl⟩ ⟨⟨rfl, by first | exact isN_no ‹_› ‹_› | exact isN_neg ‹_› | exact isN_big (m := 20) ‹_› ‹_› (by decide) hL.2.2.2.1 | exact isN_big (m := 60) ‹_› ‹_› (by decide) hL.2.2.2.2⟩, rfl⟩ (by decide) (by decide)
    · refine x_aload_n F dX4_subscriberOf_10 rfl 0 rfl ?_
      refine g_X4_25 F (hL.1 0 (by decide)) sc_0 rfl dX4_subscriberOf_11 ?_
      refine x_iload_n F dX4_subscriberOf_14 rfl 1 rfl ?_
      refine y_aldS F (hR 4 (by decide)) (ss_4 _ _) (by first | exact vin_of (n := 20) (by decide) ‹_› ‹_› | exact vin_lt (n := 20) (by decide) ‹_› ‹_›) dX4_subscriberOf_15 ?_
      refine x_rf (fun h15n => ?_) (fun h15n => ?_)
      · refine x_goto F 20 dX4_subscriberOf_16 (by decide) ?_
        refine x_astore_n F [(2, .ref (ad (40 + 2 * a.toNatClampNeg))), (0, .ref (ad 0)), (1, .int a)] dX4_subscriberOf_20 rfl (by decide) rfl ?_
        refine x_aload_n F dX4_subscriberOf_21 rfl 0 rfl ?_
        refine x_ifnonnull F 35 dX4_subscriberOf_22 (by decide) ?_
        refine x_aload_n F dX4_subscriberOf_35 rfl 0 rfl ?_
        rw [hQ]
        refine x_widen (k := 1) (n := 6) (Nat.le_of_ble_eq_true rfl) (Nat.le_of_ble_eq_true rfl) ?_
        exact x_aretx F (v := some (ad (40 + 2 * a.toNatClampNeg))) hr hlk ⟨isN_yes ‹_› ‹_›, rfl, rfl⟩ dX4_subscriberOf_36
      · refine x_goto F 20 dX4_subscriberOf_16 (by decide) ?_
        refine x_astore_nN F [(2, .null), (0, .ref (ad 0)), (1, .int a)] dX4_subscriberOf_20 rfl (by decide) rfl ?_
        refine x_aload_nN F dX4_subscriberOf_21 rfl 0 rfl ?_
        refine x_ifnonnullN F dX4_subscriberOf_22 ?_
        rw [hQ]
        exact x_throw F hfl ht hlk (by decide +kernel) ck_X4_111 ik_IO sk_X4_211 k_at_IO dX4_subscriberOf_25 dX4_subscriberOf_28 dX4_subscriberOf_29 dX4_subscriberOf_31 dX4_subscriberOf_34 ⟨Nat.le_of_ble_eq_true rfl, Nat.le_of_ble_eq_true rfl, Nat.le_of_ble_eq_true rfl, Nat.le_of_ble_eq_true rfl⟩ ⟨⟨rfl, by first | exact isN_no ‹_› ‹_› | exact isN_neg ‹_› | exact isN_big (m := 20) ‹_› ‹_› (by decide) hL.2.2.2.1 | exact isN_big (m := 60) ‹_› ‹_› (by decide) hL.2.2.2.2⟩, rfl⟩ (by decide) (by decide)
set_option maxHeartbeats 4000000 in
set_option maxRecDepth 100000 in
/-- talkOf -/
theorem c_X4_talkOf (l : Launch) (D : va_G) (cy : Nat → ClassId) (lo : Nat) (R : List Nat) (ad : Nat → Nat) (q : Nat → Nat → Nat) (ns nt : Nat) (I : Nat → Nat → Int32) (J : Nat → Nat → Int64) (hL : k_RL R ns nt) (hfl : l.stackTraces = false) (a : Int32) : k_Xq l yX4_talkOf cX4_talkOf 3 (some (.object "RoamLedger$Talk")) 6 86 1 6 D cy lo R ad (k_c cy ad q ns nt I J) [.ref (ad 0), .int a] (isN nt a = true) (fun E => E = e_IO ∧ isN nt a = false) (some (ad (80 + 4 * a.toNatClampNeg))) (k_c cy ad q ns nt I J) := by
  refine k_metXQ (by decide +kernel) (Nat.le_of_ble_eq_true rfl) ?_
  intro p e s m args below meth c Q F hr hlk ht hQ
  have hR := hL.1
  refine x_iload_n F dX4_talkOf_0 rfl 1 rfl ?_
  refine x_if_lt F 19 dX4_talkOf_1 (by decide) (fun h1 => ?_) (fun h1 => ?_)
  · refine x_null F dX4_talkOf_19 ?_
    refine x_astore_nN F [(2, .null), (0, .ref (ad 0)), (1, .int a)] dX4_talkOf_20 rfl (by decide) rfl ?_
    refine x_aload_nN F dX4_talkOf_21 rfl 0 rfl ?_
    refine x_ifnonnullN F dX4_talkOf_22 ?_
    rw [hQ]
    exact x_throw F hfl ht hlk (by decide +kernel) ck_X4_111 ik_IO sk_X4_213 k_at_IO dX4_talkOf_25 dX4_talkOf_28 dX4_talkOf_29 dX4_talkOf_31 dX4_talkOf_34 ⟨Nat.le_of_ble_eq_true rfl, Nat.le_of_ble_eq_true rfl, Nat.le_of_ble_eq_true rfl, Nat.le_of_ble_eq_true rfl⟩ ⟨⟨rfl, by first | exact isN_no ‹_› ‹_› | exact isN_neg ‹_› | exact isN_big (m := 20) ‹_› ‹_› (by decide) hL.2.2.2.1 | exact isN_big (m := 60) ‹_› ‹_› (by decide) hL.2.2.2.2⟩, rfl⟩ (by decide) (by decide)
  · refine x_iload_n F dX4_talkOf_4 rfl 1 rfl ?_
    refine x_bipush F (v := 60) dX4_talkOf_5 (by decide) ?_
    refine x_icmp_ge F 19 dX4_talkOf_7 (by decide) (fun h7 => ?_) (fun h7 => ?_)
    · refine x_null F dX4_talkOf_19 ?_
      refine x_astore_nN F [(2, .null), (0, .ref (ad 0)), (1, .int a)] dX4_talkOf_20 rfl (by decide) rfl ?_
      refine x_aload_nN F dX4_talkOf_21 rfl 0 rfl ?_
      refine x_ifnonnullN F dX4_talkOf_22 ?_
      rw [hQ]
      exact x_throw F hfl ht hlk (by decide +kernel) ck_X4_111 ik_IO sk_X4_213 k_at_IO dX4_talkOf_25 dX4_talkOf_28 dX4_talkOf_29 dX4_talkOf_31 dX4_talkOf_34 ⟨Nat.le_of_ble_eq_true rfl, Nat.le_of_ble_eq_true rfl, Nat.le_of_ble_eq_true rfl, Nat.le_of_ble_eq_true rfl⟩ ⟨⟨rfl, by first | exact isN_no ‹_› ‹_› | exact isN_neg ‹_› | exact isN_big (m := 20) ‹_› ‹_› (by decide) hL.2.2.2.1 | exact isN_big (m := 60) ‹_› ‹_› (by decide) hL.2.2.2.2⟩, rfl⟩ (by decide) (by decide)
    · refine x_aload_n F dX4_talkOf_10 rfl 0 rfl ?_
      refine g_X4_31 F (hL.1 0 (by decide)) sc_0 rfl dX4_talkOf_11 ?_
      refine x_iload_n F dX4_talkOf_14 rfl 1 rfl ?_
      refine y_aldT F (hR 5 (by decide)) (ss_5 _ _) (by first | exact vin_of (n := 60) (by decide) ‹_› ‹_› | exact vin_lt (n := 60) (by decide) ‹_› ‹_›) dX4_talkOf_15 ?_
      refine x_rf (fun h15n => ?_) (fun h15n => ?_)
      · refine x_goto F 20 dX4_talkOf_16 (by decide) ?_
        refine x_astore_n F [(2, .ref (ad (80 + 4 * a.toNatClampNeg))), (0, .ref (ad 0)), (1, .int a)] dX4_talkOf_20 rfl (by decide) rfl ?_
        refine x_aload_n F dX4_talkOf_21 rfl 0 rfl ?_
        refine x_ifnonnull F 35 dX4_talkOf_22 (by decide) ?_
        refine x_aload_n F dX4_talkOf_35 rfl 0 rfl ?_
        rw [hQ]
        refine x_widen (k := 1) (n := 6) (Nat.le_of_ble_eq_true rfl) (Nat.le_of_ble_eq_true rfl) ?_
        exact x_aretx F (v := some (ad (80 + 4 * a.toNatClampNeg))) hr hlk ⟨isN_yes ‹_› ‹_›, rfl, rfl⟩ dX4_talkOf_36
      · refine x_goto F 20 dX4_talkOf_16 (by decide) ?_
        refine x_astore_nN F [(2, .null), (0, .ref (ad 0)), (1, .int a)] dX4_talkOf_20 rfl (by decide) rfl ?_
        refine x_aload_nN F dX4_talkOf_21 rfl 0 rfl ?_
        refine x_ifnonnullN F dX4_talkOf_22 ?_
        rw [hQ]
        exact x_throw F hfl ht hlk (by decide +kernel) ck_X4_111 ik_IO sk_X4_213 k_at_IO dX4_talkOf_25 dX4_talkOf_28 dX4_talkOf_29 dX4_talkOf_31 dX4_talkOf_34 ⟨Nat.le_of_ble_eq_true rfl, Nat.le_of_ble_eq_true rfl, Nat.le_of_ble_eq_true rfl, Nat.le_of_ble_eq_true rfl⟩ ⟨⟨rfl, by first | exact isN_no ‹_› ‹_› | exact isN_neg ‹_› | exact isN_big (m := 20) ‹_› ‹_› (by decide) hL.2.2.2.1 | exact isN_big (m := 60) ‹_› ‹_› (by decide) hL.2.2.2.2⟩, rfl⟩ (by decide) (by decide)
end
section
set_option maxHeartbeats 4000000 in
set_option maxRecDepth 100000 in
/-- balance -/
theorem c_X4_balance (l : Launch) (D : va_G) (cy : Nat → ClassId) (lo : Nat) (R : List Nat) (ad : Nat → Nat) (q : Nat → Nat → Nat) (ns nt : Nat) (I : Nat → Nat → Int32) (J : Nat → Nat → Int64) (hL : k_RL R ns nt) (hfl : l.stackTraces = false) (a : Int32) : k_Xi l yX4_balance cX4_balance 2 (some .int) 7 108 1 6 D cy lo R ad (k_c cy ad q ns nt I J) [.ref (ad 0), .int a] (isN ns a = true) (fun E => E = e_IO ∧ isN ns a = false) (I (40 + 2 * a.toNatClampNeg) 2) (k_c cy ad q ns nt I J) := by
  refine k_metXQ (by decide +kernel) (Nat.le_of_ble_eq_true rfl) ?_
  intro p e s m args below meth c Q F hr hlk ht hQ
  have hR := hL.1
  refine x_aload_n F dX4_balance_0 rfl 0 rfl ?_
  refine x_iload_n F dX4_balance_1 rfl 1 rfl ?_
  refine z_callVqx F [.int a] (c_X4_subscriberOf l D cy lo R ad q ns nt I J hL hfl a ) mc_X4_subscriberOf mv_X4_subscriberOf lk_X4_92 (hL.1 0 (by decide)) sc_0 rfl rfl rfl dX4_balance_2 ⟨Nat.le_of_ble_eq_true rfl, Nat.le_of_ble_eq_true rfl⟩ ⟨Nat.le_of_ble_eq_true rfl, Nat.le_of_ble_eq_true rfl⟩ (Nat.le_of_ble_eq_true rfl) (fun E hE2 => ?_) (fun ok2 => ?_)
  · rw [hQ]
    exact x_out F ht hlk ⟨hE2, rfl⟩ (by decide) (by decide)
  · refine g_X4_116 F (hL.2.1 _ (isN_lt ok2)).1 (sc_sub (sub_rng (isN_lt ok2) hL)) rfl dX4_balance_5 ?_
    rw [hQ]
    refine x_widen (k := 1) (n := 6) (Nat.le_of_ble_eq_true rfl) (Nat.le_of_ble_eq_true rfl) ?_
    exact x_iretx F hr hlk ⟨‹_›, rfl, rfl⟩ dX4_balance_8
set_option maxHeartbeats 4000000 in
set_option maxRecDepth 100000 in
/-- bundle -/
theorem c_X4_bundle (l : Launch) (D : va_G) (cy : Nat → ClassId) (lo : Nat) (R : List Nat) (ad : Nat → Nat) (q : Nat → Nat → Nat) (ns nt : Nat) (I : Nat → Nat → Int32) (J : Nat → Nat → Int64) (hL : k_RL R ns nt) (hfl : l.stackTraces = false) (a : Int32) : k_Xi l yX4_bundle cX4_bundle 2 (some .int) 7 108 1 6 D cy lo R ad (k_c cy ad q ns nt I J) [.ref (ad 0), .int a] (isN ns a = true) (fun E => E = e_IO ∧ isN ns a = false) (I (40 + 2 * a.toNatClampNeg) 3) (k_c cy ad q ns nt I J) := by
  refine k_metXQ (by decide +kernel) (Nat.le_of_ble_eq_true rfl) ?_
  intro p e s m args below meth c Q F hr hlk ht hQ
  have hR := hL.1
  refine x_aload_n F dX4_bundle_0 rfl 0 rfl ?_
  refine x_iload_n F dX4_bundle_1 rfl 1 rfl ?_
  refine z_callVqx F [.int a] (c_X4_subscriberOf l D cy lo R ad q ns nt I J hL hfl a ) mc_X4_subscriberOf mv_X4_subscriberOf lk_X4_92 (hL.1 0 (by decide)) sc_0 rfl rfl rfl dX4_bundle_2 ⟨Nat.le_of_ble_eq_true rfl, Nat.le_of_ble_eq_true rfl⟩ ⟨Nat.le_of_ble_eq_true rfl, Nat.le_of_ble_eq_true rfl⟩ (Nat.le_of_ble_eq_true rfl) (fun E hE2 => ?_) (fun ok2 => ?_)
  · rw [hQ]
    exact x_out F ht hlk ⟨hE2, rfl⟩ (by decide) (by decide)
  · refine g_X4_119 F (hL.2.1 _ (isN_lt ok2)).1 (sc_sub (sub_rng (isN_lt ok2) hL)) rfl dX4_bundle_5 ?_
    rw [hQ]
    refine x_widen (k := 1) (n := 6) (Nat.le_of_ble_eq_true rfl) (Nat.le_of_ble_eq_true rfl) ?_
    exact x_iretx F hr hlk ⟨‹_›, rfl, rfl⟩ dX4_bundle_8
set_option maxHeartbeats 4000000 in
set_option maxRecDepth 100000 in
/-- state -/
theorem c_X4_state (l : Launch) (D : va_G) (cy : Nat → ClassId) (lo : Nat) (R : List Nat) (ad : Nat → Nat) (q : Nat → Nat → Nat) (ns nt : Nat) (I : Nat → Nat → Int32) (J : Nat → Nat → Int64) (hL : k_RL R ns nt) (hfl : l.stackTraces = false) (a : Int32) : k_Xi l yX4_state cX4_state 2 (some .int) 7 108 1 6 D cy lo R ad (k_c cy ad q ns nt I J) [.ref (ad 0), .int a] (isN nt a = true) (fun E => E = e_IO ∧ isN nt a = false) (I (80 + 4 * a.toNatClampNeg) 6) (k_c cy ad q ns nt I J) := by
  refine k_metXQ (by decide +kernel) (Nat.le_of_ble_eq_true rfl) ?_
  intro p e s m args below meth c Q F hr hlk ht hQ
  have hR := hL.1
  refine x_aload_n F dX4_state_0 rfl 0 rfl ?_
  refine x_iload_n F dX4_state_1 rfl 1 rfl ?_
  refine z_callVqx F [.int a] (c_X4_talkOf l D cy lo R ad q ns nt I J hL hfl a ) mc_X4_talkOf mv_X4_talkOf lk_X4_148 (hL.1 0 (by decide)) sc_0 rfl rfl rfl dX4_state_2 ⟨Nat.le_of_ble_eq_true rfl, Nat.le_of_ble_eq_true rfl⟩ ⟨Nat.le_of_ble_eq_true rfl, Nat.le_of_ble_eq_true rfl⟩ (Nat.le_of_ble_eq_true rfl) (fun E hE2 => ?_) (fun ok2 => ?_)
  · rw [hQ]
    exact x_out F ht hlk ⟨hE2, rfl⟩ (by decide) (by decide)
  · refine g_X4_152 F (hL.2.2.1 _ (isN_lt ok2)).1 (sc_tlk (tlk_rng (a.toNatClampNeg))) rfl dX4_state_5 ?_
    rw [hQ]
    refine x_widen (k := 1) (n := 6) (Nat.le_of_ble_eq_true rfl) (Nat.le_of_ble_eq_true rfl) ?_
    exact x_iretx F hr hlk ⟨‹_›, rfl, rfl⟩ dX4_state_8
set_option maxHeartbeats 4000000 in
set_option maxRecDepth 100000 in
/-- minutes -/
theorem c_X4_minutes (l : Launch) (D : va_G) (cy : Nat → ClassId) (lo : Nat) (R : List Nat) (ad : Nat → Nat) (q : Nat → Nat → Nat) (ns nt : Nat) (I : Nat → Nat → Int32) (J : Nat → Nat → Int64) (hL : k_RL R ns nt) (hfl : l.stackTraces = false) (a : Int32) : k_Xi l yX4_minutes cX4_minutes 2 (some .int) 7 108 1 6 D cy lo R ad (k_c cy ad q ns nt I J) [.ref (ad 0), .int a] (isN nt a = true) (fun E => E = e_IO ∧ isN nt a = false) (I (80 + 4 * a.toNatClampNeg) 7) (k_c cy ad q ns nt I J) := by
  refine k_metXQ (by decide +kernel) (Nat.le_of_ble_eq_true rfl) ?_
  intro p e s m args below meth c Q F hr hlk ht hQ
  have hR := hL.1
  refine x_aload_n F dX4_minutes_0 rfl 0 rfl ?_
  refine x_iload_n F dX4_minutes_1 rfl 1 rfl ?_
  refine z_callVqx F [.int a] (c_X4_talkOf l D cy lo R ad q ns nt I J hL hfl a ) mc_X4_talkOf mv_X4_talkOf lk_X4_148 (hL.1 0 (by decide)) sc_0 rfl rfl rfl dX4_minutes_2 ⟨Nat.le_of_ble_eq_true rfl, Nat.le_of_ble_eq_true rfl⟩ ⟨Nat.le_of_ble_eq_true rfl, Nat.le_of_ble_eq_true rfl⟩ (Nat.le_of_ble_eq_true rfl) (fun E hE2 => ?_) (fun ok2 => ?_)
  · rw [hQ]
    exact x_out F ht hlk ⟨hE2, rfl⟩ (by decide) (by decide)
  · refine g_X4_157 F (hL.2.2.1 _ (isN_lt ok2)).1 (sc_tlk (tlk_rng (a.toNatClampNeg))) rfl dX4_minutes_5 ?_
    rw [hQ]
    refine x_widen (k := 1) (n := 6) (Nat.le_of_ble_eq_true rfl) (Nat.le_of_ble_eq_true rfl) ?_
    exact x_iretx F hr hlk ⟨‹_›, rfl, rfl⟩ dX4_minutes_8
set_option maxHeartbeats 4000000 in
set_option maxRecDepth 100000 in
/-- moved -/
theorem c_X4_moved (l : Launch) (D : va_G) (cy : Nat → ClassId) (lo : Nat) (R : List Nat) (ad : Nat → Nat) (q : Nat → Nat → Nat) (ns nt : Nat) (I : Nat → Nat → Int32) (J : Nat → Nat → Int64) (hL : k_RL R ns nt) (hfl : l.stackTraces = false) (a : Int32) : k_Xi l yX4_moved cX4_moved 2 (some .int) 7 108 1 6 D cy lo R ad (k_c cy ad q ns nt I J) [.ref (ad 0), .int a] (isN nt a = true) (fun E => E = e_IO ∧ isN nt a = false) (I (80 + 4 * a.toNatClampNeg) 8) (k_c cy ad q ns nt I J) := by
  refine k_metXQ (by decide +kernel) (Nat.le_of_ble_eq_true rfl) ?_
  intro p e s m args below meth c Q F hr hlk ht hQ
  have hR := hL.1
  refine x_aload_n F dX4_moved_0 rfl 0 rfl ?_
  refine x_iload_n F dX4_moved_1 rfl 1 rfl ?_
  refine z_callVqx F [.int a] (c_X4_talkOf l D cy lo R ad q ns nt I J hL hfl a ) mc_X4_talkOf mv_X4_talkOf lk_X4_148 (hL.1 0 (by decide)) sc_0 rfl rfl rfl dX4_moved_2 ⟨Nat.le_of_ble_eq_true rfl, Nat.le_of_ble_eq_true rfl⟩ ⟨Nat.le_of_ble_eq_true rfl, Nat.le_of_ble_eq_true rfl⟩ (Nat.le_of_ble_eq_true rfl) (fun E hE2 => ?_) (fun ok2 => ?_)
  · rw [hQ]
    exact x_out F ht hlk ⟨hE2, rfl⟩ (by decide) (by decide)
  · refine g_X4_166 F (hL.2.2.1 _ (isN_lt ok2)).1 (sc_tlk (tlk_rng (a.toNatClampNeg))) rfl dX4_moved_5 ?_
    rw [hQ]
    refine x_widen (k := 1) (n := 6) (Nat.le_of_ble_eq_true rfl) (Nat.le_of_ble_eq_true rfl) ?_
    exact x_iretx F hr hlk ⟨‹_›, rfl, rfl⟩ dX4_moved_8
set_option maxHeartbeats 4000000 in
set_option maxRecDepth 100000 in
/-- tariff -/
theorem c_X4_tariff (l : Launch) (D : va_G) (cy : Nat → ClassId) (lo : Nat) (R : List Nat) (ad : Nat → Nat) (q : Nat → Nat → Nat) (ns nt : Nat) (I : Nat → Nat → Int32) (J : Nat → Nat → Int64) (hL : k_RL R ns nt) (hfl : l.stackTraces = false) (a : Int32) (b : Int32) (c2 : Int32) : k_Xi l yX4_tariff cX4_tariff 5 (some .int) 7 106 2 12 D cy lo R ad (k_c cy ad q ns nt I J) [.ref (ad 0), .int a, .int b, .int c2] (isCar a = true ∧ (isWi b 1 10 && isWi c2 0 1000) = true) (fun E => (E = e_IO ∧ isCar a = false) ∨ (E = e_IA ∧ isCar a = true ∧ (isWi b 1 10 && isWi c2 0 1000) = false)) (I 2 a.toNatClampNeg) (k_c cy ad q ns nt (wI (wI I 1 a.toNatClampNeg b) 2 a.toNatClampNeg c2) J) := by
  refine k_metXQ (by decide +kernel) (Nat.le_of_ble_eq_true rfl) ?_
  intro p e s m args below meth c Q F hr hlk ht hQ
  have hR := hL.1
  refine x_iload_n F dX4_tariff_0 rfl 1 rfl ?_
  refine z_callSvx F [.int a] (c_X4_demandCarrier l D cy lo R ad _ hfl a) mc_X4_demandCarrier ms_X4_demandCarrier lk_X4_48 rfl rfl dX4_tariff_1 ⟨Nat.le_of_ble_eq_true rfl, Nat.le_of_ble_eq_true rfl⟩ ⟨Nat.le_of_ble_eq_true rfl, Nat.le_of_ble_eq_true rfl⟩ (Nat.le_of_ble_eq_true rfl) (fun E hE1 => ?_) (fun ok1 => ?_)
  · rw [hQ]
    exact x_out F ht hlk ⟨Or.inl hE1, rfl⟩ (by decide) (by decide)
  · refine x_iload_n F dX4_tariff_4 rfl 2 rfl ?_
    refine x_iconst F (v := 1) dX4_tariff_5 (by decide) ?_
    refine x_bipush F (v := 10) dX4_tariff_6 (by decide) ?_
    refine z_callSi F [.int b, .int 1, .int 10] (c_X4_isWithin l D cy lo R ad _ b 1 10) mc_X4_isWithin ms_X4_isWithin lk_X4_52 rfl rfl dX4_tariff_8 ⟨Nat.le_of_ble_eq_true rfl, Nat.le_of_ble_eq_true rfl⟩ ⟨Nat.le_of_ble_eq_true rfl, Nat.le_of_ble_eq_true rfl⟩ (Nat.le_of_ble_eq_true rfl) ?_
    refine x_if_eq F 25 dX4_tariff_11 (by decide) (fun h11 => ?_) (fun h11 => ?_)
    · rw [kb0] at h11
      rw [hQ]
      exact x_throw F hfl ht hlk (by decide +kernel) ck_X4_56 ik_IA sk_X4_58 k_at_IA dX4_tariff_25 dX4_tariff_28 dX4_tariff_29 dX4_tariff_31 dX4_tariff_34 ⟨Nat.le_of_ble_eq_true rfl, Nat.le_of_ble_eq_true rfl, Nat.le_of_ble_eq_true rfl, Nat.le_of_ble_eq_true rfl⟩ ⟨Or.inr ⟨rfl, by assumption, by simp [*]⟩, rfl⟩ (by decide) (by decide)
    · rw [kb1] at h11
      refine x_iload_n F dX4_tariff_14 rfl 3 rfl ?_
      refine x_iconst F (v := 0) dX4_tariff_15 (by decide) ?_
      refine x_sipush F (v := 1000) dX4_tariff_16 (by decide) ?_
      refine z_callSi F [.int c2, .int 0, .int 1000] (c_X4_isWithin l D cy lo R ad _ c2 0 1000) mc_X4_isWithin ms_X4_isWithin lk_X4_52 rfl rfl dX4_tariff_19 ⟨Nat.le_of_ble_eq_true rfl, Nat.le_of_ble_eq_true rfl⟩ ⟨Nat.le_of_ble_eq_true rfl, Nat.le_of_ble_eq_true rfl⟩ (Nat.le_of_ble_eq_true rfl) ?_
      refine x_if_ne F 35 dX4_tariff_22 (by decide) (fun h22 => ?_) (fun h22 => ?_)
      · rw [kb1] at h22
        refine x_aload_n F dX4_tariff_35 rfl 0 rfl ?_
        refine g_X4_13 F (hL.1 0 (by decide)) sc_0 rfl dX4_tariff_36 ?_
        refine x_iload_n F dX4_tariff_39 rfl 1 rfl ?_
        refine y_iald F (hR 2 (by decide)) ss_2 (vin_car ‹_›) dX4_tariff_40 ?_
        refine x_istore F [(4, .int (I 2 a.toNatClampNeg)), (0, .ref (ad 0)), (1, .int a), (2, .int b), (3, .int c2)] dX4_tariff_41 (by decide) rfl ?_
        refine x_aload_n F dX4_tariff_43 rfl 1 rfl ?_
        refine g_X4_9 F (hL.1 0 (by decide)) sc_0 rfl dX4_tariff_44 ?_
        refine x_iload_n F dX4_tariff_47 rfl 2 rfl ?_
        refine x_iload_n F dX4_tariff_48 rfl 3 rfl ?_
        refine y_iast F (hR 1 (by decide)) ss_1 (vin_car ‹_›) dX4_tariff_49 ?_
        refine x_aload_n F dX4_tariff_50 rfl 1 rfl ?_
        refine g_X4_13 F (hL.1 0 (by decide)) sc_0 rfl dX4_tariff_51 ?_
        refine x_iload_n F dX4_tariff_54 rfl 2 rfl ?_
        refine x_iload_n F dX4_tariff_55 rfl 4 rfl ?_
        refine y_iast F (hR 2 (by decide)) ss_2 (vin_car ‹_›) dX4_tariff_56 ?_
        refine x_iload F dX4_tariff_57 0 rfl ?_
        rw [hQ]
        refine x_widen (k := 2) (n := 12) (Nat.le_of_ble_eq_true rfl) (Nat.le_of_ble_eq_true rfl) ?_
        exact x_iretx F hr hlk ⟨⟨by assumption, by simp [*]⟩, rfl, rfl⟩ dX4_tariff_59
      · rw [kb0] at h22
        rw [hQ]
        exact x_throw F hfl ht hlk (by decide +kernel) ck_X4_56 ik_IA sk_X4_58 k_at_IA dX4_tariff_25 dX4_tariff_28 dX4_tariff_29 dX4_tariff_31 dX4_tariff_34 ⟨Nat.le_of_ble_eq_true rfl, Nat.le_of_ble_eq_true rfl, Nat.le_of_ble_eq_true rfl, Nat.le_of_ble_eq_true rfl⟩ ⟨Or.inr ⟨rfl, by assumption, by simp [*]⟩, rfl⟩ (by decide) (by decide)
set_option maxHeartbeats 4000000 in
set_option maxRecDepth 100000 in
/-- link -/
theorem c_X4_link (l : Launch) (D : va_G) (cy : Nat → ClassId) (lo : Nat) (R : List Nat) (ad : Nat → Nat) (q : Nat → Nat → Nat) (ns nt : Nat) (I : Nat → Nat → Int32) (J : Nat → Nat → Int64) (hL : k_RL R ns nt) (hfl : l.stackTraces = false) (a : Int32) (b : Int32) (x : Int32) (t : Int32) : k_Xi l yX4_link cX4_link 6 (some .boolean) 7 106 3 18 D cy lo R ad (k_c cy ad q ns nt I J) [.ref (ad 0), .int a, .int b, .int x, .int t] ((isCar a && isCar b) = true ∧ (!decide (a = b) && isWi x 0 100 && isWi t 0 100000) = true) (fun E => (E = e_IO ∧ (isCar a && isCar b) = false) ∨ (E = e_IA ∧ (isCar a && isCar b) = true ∧ (!decide (a = b) && isWi x 0 100 && isWi t 0 100000) = false)) (k_b (!decide (rateF I a b = -1))) (k_c cy ad q ns nt (setLinkI I a b x t) J) := by
  refine k_metXQ (by decide +kernel) (Nat.le_of_ble_eq_true rfl) ?_
  intro p e s m args below meth c Q F hr hlk ht hQ
  have hR := hL.1
  refine x_iload_n F dX4_link_0 rfl 1 rfl ?_
  refine z_callSvx F [.int a] (c_X4_demandCarrier l D cy lo R ad _ hfl a) mc_X4_demandCarrier ms_X4_demandCarrier lk_X4_48 rfl rfl dX4_link_1 ⟨Nat.le_of_ble_eq_true rfl, Nat.le_of_ble_eq_true rfl⟩ ⟨Nat.le_of_ble_eq_true rfl, Nat.le_of_ble_eq_true rfl⟩ (Nat.le_of_ble_eq_true rfl) (fun E hE1 => ?_) (fun ok1 => ?_)
  · rw [hQ]
    exact x_out F ht hlk ⟨Or.inl ⟨hE1.1, by simp [hE1.2]⟩, rfl⟩ (by decide) (by decide)
  · refine x_iload_n F dX4_link_4 rfl 2 rfl ?_
    refine z_callSvx F [.int b] (c_X4_demandCarrier l D cy lo R ad _ hfl b) mc_X4_demandCarrier ms_X4_demandCarrier lk_X4_48 rfl rfl dX4_link_5 ⟨Nat.le_of_ble_eq_true rfl, Nat.le_of_ble_eq_true rfl⟩ ⟨Nat.le_of_ble_eq_true rfl, Nat.le_of_ble_eq_true rfl⟩ (Nat.le_of_ble_eq_true rfl) (fun E hE5 => ?_) (fun ok5 => ?_)
    · rw [hQ]
      exact x_out F ht hlk ⟨Or.inl ⟨hE5.1, by simp [hE5.2]⟩, rfl⟩ (by decide) (by decide)
    · refine x_iload_n F dX4_link_8 rfl 1 rfl ?_
      refine x_iload_n F dX4_link_9 rfl 2 rfl ?_
      refine x_icmp_eq F 34 dX4_link_10 (by decide) (fun h10 => ?_) (fun h10 => ?_)
      · rw [hQ]
        exact x_throw F hfl ht hlk (by decide +kernel) ck_X4_56 ik_IA sk_X4_64 k_at_IA dX4_link_34 dX4_link_37 dX4_link_38 dX4_link_40 dX4_link_43 ⟨Nat.le_of_ble_eq_true rfl, Nat.le_of_ble_eq_true rfl, Nat.le_of_ble_eq_true rfl, Nat.le_of_ble_eq_true rfl⟩ ⟨Or.inr ⟨rfl, by simp [*], by simp [*]⟩, rfl⟩ (by decide) (by decide)
      · refine x_iload_n F dX4_link_13 rfl 3 rfl ?_
        refine x_iconst F (v := 0) dX4_link_14 (by decide) ?_
        refine x_bipush F (v := 100) dX4_link_15 (by decide) ?_
        refine z_callSi F [.int x, .int 0, .int 100] (c_X4_isWithin l D cy lo R ad _ x 0 100) mc_X4_isWithin ms_X4_isWithin lk_X4_52 rfl rfl dX4_link_17 ⟨Nat.le_of_ble_eq_true rfl, Nat.le_of_ble_eq_true rfl⟩ ⟨Nat.le_of_ble_eq_true rfl, Nat.le_of_ble_eq_true rfl⟩ (Nat.le_of_ble_eq_true rfl) ?_
        refine x_if_eq F 34 dX4_link_20 (by decide) (fun h20 => ?_) (fun h20 => ?_)
        · rw [kb0] at h20
          rw [hQ]
          exact x_throw F hfl ht hlk (by decide +kernel) ck_X4_56 ik_IA sk_X4_64 k_at_IA dX4_link_34 dX4_link_37 dX4_link_38 dX4_link_40 dX4_link_43 ⟨Nat.le_of_ble_eq_true rfl, Nat.le_of_ble_eq_true rfl, Nat.le_of_ble_eq_true rfl, Nat.le_of_ble_eq_true rfl⟩ ⟨Or.inr ⟨rfl, by simp [*], by simp [*]⟩, rfl⟩ (by decide) (by decide)
        · rw [kb1] at h20
          refine x_iload F dX4_link_23 4 rfl ?_
          refine x_iconst F (v := 0) dX4_link_25 (by decide) ?_
          refine x_ldc F (v := 100000) dX4_link_26 201 (by decide +kernel) ?_
          refine z_callSi F [.int t, .int 0, .int 100000] (c_X4_isWithin l D cy lo R ad _ t 0 100000) mc_X4_isWithin ms_X4_isWithin lk_X4_52 rfl rfl dX4_link_28 ⟨Nat.le_of_ble_eq_true rfl, Nat.le_of_ble_eq_true rfl⟩ ⟨Nat.le_of_ble_eq_true rfl, Nat.le_of_ble_eq_true rfl⟩ (Nat.le_of_ble_eq_true rfl) ?_
          refine x_if_ne F 44 dX4_link_31 (by decide) (fun h31 => ?_) (fun h31 => ?_)
          · rw [kb1] at h31
            refine x_aload_n F dX4_link_44 rfl 0 rfl ?_
            refine g_X4_19 F (hL.1 0 (by decide)) sc_0 rfl dX4_link_45 ?_
            refine x_iload_n F dX4_link_48 rfl 1 rfl ?_
            refine x_iload_n F dX4_link_49 rfl 2 rfl ?_
            refine z_callVi F [.int a, .int b] (c_X0_rateOf l D cy lo R ad q ns nt I J hR a b ) mc_X0_rateOf mv_X0_rateOf lk_X4_66 (hR 3 (by decide)) sc_3 rfl rfl rfl dX4_link_50 ⟨Nat.le_of_ble_eq_true rfl, Nat.le_of_ble_eq_true rfl⟩ ⟨Nat.le_of_ble_eq_true rfl, Nat.le_of_ble_eq_true rfl⟩ (Nat.le_of_ble_eq_true rfl) ?_
            refine x_iconst F (v := -1) dX4_link_53 (by decide) ?_
            refine x_icmp_eq F 61 dX4_link_54 (by decide) (fun h54 => ?_) (fun h54 => ?_)
            · refine x_iconst F (v := 0) dX4_link_61 (by decide) ?_
              refine x_istore F [(5, .int 0), (0, .ref (ad 0)), (1, .int a), (2, .int b), (3, .int x), (4, .int t)] dX4_link_62 (by decide) rfl ?_
              refine x_aload_n F dX4_link_64 rfl 1 rfl ?_
              refine g_X4_19 F (hL.1 0 (by decide)) sc_0 rfl dX4_link_65 ?_
              refine x_iload_n F dX4_link_68 rfl 2 rfl ?_
              refine x_iload_n F dX4_link_69 rfl 3 rfl ?_
              refine x_iload_n F dX4_link_70 rfl 4 rfl ?_
              refine x_iload F dX4_link_71 5 rfl ?_
              refine z_callVv F [.int a, .int b, .int x, .int t] (c_X0_setLink l D cy lo R ad q ns nt I J hR a b x t ) mc_X0_setLink mv_X0_setLink lk_X4_70 (hR 3 (by decide)) sc_3 rfl rfl rfl dX4_link_73 ⟨Nat.le_of_ble_eq_true rfl, Nat.le_of_ble_eq_true rfl⟩ ⟨Nat.le_of_ble_eq_true rfl, Nat.le_of_ble_eq_true rfl⟩ (Nat.le_of_ble_eq_true rfl) ?_
              refine x_iload F dX4_link_76 0 rfl ?_
              rw [hQ]
              refine x_widen (k := 3) (n := 18) (Nat.le_of_ble_eq_true rfl) (Nat.le_of_ble_eq_true rfl) ?_
              exact x_zretx F hr hlk (by decide) ⟨⟨by simp [*], by simp [*]⟩, by simp [k_b, *], rfl⟩ dX4_link_78
            · refine x_iconst F (v := 1) dX4_link_57 (by decide) ?_
              refine x_goto F 62 dX4_link_58 (by decide) ?_
              refine x_istore F [(5, .int 1), (0, .ref (ad 0)), (1, .int a), (2, .int b), (3, .int x), (4, .int t)] dX4_link_62 (by decide) rfl ?_
              refine x_aload_n F dX4_link_64 rfl 1 rfl ?_
              refine g_X4_19 F (hL.1 0 (by decide)) sc_0 rfl dX4_link_65 ?_
              refine x_iload_n F dX4_link_68 rfl 2 rfl ?_
              refine x_iload_n F dX4_link_69 rfl 3 rfl ?_
              refine x_iload_n F dX4_link_70 rfl 4 rfl ?_
              refine x_iload F dX4_link_71 5 rfl ?_
              refine z_callVv F [.int a, .int b, .int x, .int t] (c_X0_setLink l D cy lo R ad q ns nt I J hR a b x t ) mc_X0_setLink mv_X0_setLink lk_X4_70 (hR 3 (by decide)) sc_3 rfl rfl rfl dX4_link_73 ⟨Nat.le_of_ble_eq_true rfl, Nat.le_of_ble_eq_true rfl⟩ ⟨Nat.le_of_ble_eq_true rfl, Nat.le_of_ble_eq_true rfl⟩ (Nat.le_of_ble_eq_true rfl) ?_
              refine x_iload F dX4_link_76 0 rfl ?_
              rw [hQ]
              refine x_widen (k := 3) (n := 18) (Nat.le_of_ble_eq_true rfl) (Nat.le_of_ble_eq_true rfl) ?_
              exact x_zretx F hr hlk (by decide) ⟨⟨by simp [*], by simp [*]⟩, by simp [k_b, *], rfl⟩ dX4_link_78
          · rw [kb0] at h31
            rw [hQ]
            exact x_throw F hfl ht hlk (by decide +kernel) ck_X4_56 ik_IA sk_X4_64 k_at_IA dX4_link_34 dX4_link_37 dX4_link_38 dX4_link_40 dX4_link_43 ⟨Nat.le_of_ble_eq_true rfl, Nat.le_of_ble_eq_true rfl, Nat.le_of_ble_eq_true rfl, Nat.le_of_ble_eq_true rfl⟩ ⟨Or.inr ⟨rfl, by simp [*], by simp [*]⟩, rfl⟩ (by decide) (by decide)
set_option maxHeartbeats 4000000 in
set_option maxRecDepth 100000 in
/-- unlink -/
theorem c_X4_unlink (l : Launch) (D : va_G) (cy : Nat → ClassId) (lo : Nat) (R : List Nat) (ad : Nat → Nat) (q : Nat → Nat → Nat) (ns nt : Nat) (I : Nat → Nat → Int32) (J : Nat → Nat → Int64) (hL : k_RL R ns nt) (hfl : l.stackTraces = false) (a : Int32) (b : Int32) : k_Xi l yX4_unlink cX4_unlink 4 (some .int) 7 106 3 18 D cy lo R ad (k_c cy ad q ns nt I J) [.ref (ad 0), .int a, .int b] ((isCar a && isCar b) = true ∧ ¬ rateF I a b = -1) (fun E => (E = e_IO ∧ (isCar a && isCar b) = false) ∨ (E = e_IS ∧ (isCar a && isCar b) = true ∧ rateF I a b = -1)) (rateF I a b) (k_c cy ad q ns nt (setLinkI I a b (-1) 0) J) := by
  refine k_metXQ (by decide +kernel) (Nat.le_of_ble_eq_true rfl) ?_
  intro p e s m args below meth c Q F hr hlk ht hQ
  have hR := hL.1
  refine x_iload_n F dX4_unlink_0 rfl 1 rfl ?_
  refine z_callSvx F [.int a] (c_X4_demandCarrier l D cy lo R ad _ hfl a) mc_X4_demandCarrier ms_X4_demandCarrier lk_X4_48 rfl rfl dX4_unlink_1 ⟨Nat.le_of_ble_eq_true rfl, Nat.le_of_ble_eq_true rfl⟩ ⟨Nat.le_of_ble_eq_true rfl, Nat.le_of_ble_eq_true rfl⟩ (Nat.le_of_ble_eq_true rfl) (fun E hE1 => ?_) (fun ok1 => ?_)
  · rw [hQ]
    exact x_out F ht hlk ⟨Or.inl ⟨hE1.1, by simp [hE1.2]⟩, rfl⟩ (by decide) (by decide)
  · refine x_iload_n F dX4_unlink_4 rfl 2 rfl ?_
    refine z_callSvx F [.int b] (c_X4_demandCarrier l D cy lo R ad _ hfl b) mc_X4_demandCarrier ms_X4_demandCarrier lk_X4_48 rfl rfl dX4_unlink_5 ⟨Nat.le_of_ble_eq_true rfl, Nat.le_of_ble_eq_true rfl⟩ ⟨Nat.le_of_ble_eq_true rfl, Nat.le_of_ble_eq_true rfl⟩ (Nat.le_of_ble_eq_true rfl) (fun E hE5 => ?_) (fun ok5 => ?_)
    · rw [hQ]
      exact x_out F ht hlk ⟨Or.inl ⟨hE5.1, by simp [hE5.2]⟩, rfl⟩ (by decide) (by decide)
    · refine x_aload_n F dX4_unlink_8 rfl 0 rfl ?_
      refine g_X4_19 F (hL.1 0 (by decide)) sc_0 rfl dX4_unlink_9 ?_
      refine x_iload_n F dX4_unlink_12 rfl 1 rfl ?_
      refine x_iload_n F dX4_unlink_13 rfl 2 rfl ?_
      refine z_callVi F [.int a, .int b] (c_X0_rateOf l D cy lo R ad q ns nt I J hR a b ) mc_X0_rateOf mv_X0_rateOf lk_X4_66 (hR 3 (by decide)) sc_3 rfl rfl rfl dX4_unlink_14 ⟨Nat.le_of_ble_eq_true rfl, Nat.le_of_ble_eq_true rfl⟩ ⟨Nat.le_of_ble_eq_true rfl, Nat.le_of_ble_eq_true rfl⟩ (Nat.le_of_ble_eq_true rfl) ?_
      refine x_istore_n F [(3, .int (rateF I a b)), (0, .ref (ad 0)), (1, .int a), (2, .int b)] dX4_unlink_17 rfl (by decide) rfl ?_
      refine x_iload_n F dX4_unlink_18 rfl 0 rfl ?_
      refine x_iconst F (v := -1) dX4_unlink_19 (by decide) ?_
      refine x_icmp_ne F 33 dX4_unlink_20 (by decide) (fun h20 => ?_) (fun h20 => ?_)
      · refine x_aload_n F dX4_unlink_33 rfl 1 rfl ?_
        refine g_X4_19 F (hL.1 0 (by decide)) sc_0 rfl dX4_unlink_34 ?_
        refine x_iload_n F dX4_unlink_37 rfl 2 rfl ?_
        refine x_iload_n F dX4_unlink_38 rfl 3 rfl ?_
        refine x_iconst F (v := -1) dX4_unlink_39 (by decide) ?_
        refine x_iconst F (v := 0) dX4_unlink_40 (by decide) ?_
        refine z_callVv F [.int a, .int b, .int (-1), .int 0] (c_X0_setLink l D cy lo R ad q ns nt I J hR a b (-1) 0 ) mc_X0_setLink mv_X0_setLink lk_X4_70 (hR 3 (by decide)) sc_3 rfl rfl rfl dX4_unlink_41 ⟨Nat.le_of_ble_eq_true rfl, Nat.le_of_ble_eq_true rfl⟩ ⟨Nat.le_of_ble_eq_true rfl, Nat.le_of_ble_eq_true rfl⟩ (Nat.le_of_ble_eq_true rfl) ?_
        refine x_iload_n F dX4_unlink_44 rfl 0 rfl ?_
        rw [hQ]
        refine x_widen (k := 3) (n := 18) (Nat.le_of_ble_eq_true rfl) (Nat.le_of_ble_eq_true rfl) ?_
        exact x_iretx F hr hlk ⟨⟨by simp [*], by assumption⟩, rfl, rfl⟩ dX4_unlink_45
      · rw [hQ]
        exact x_throw F hfl ht hlk (by decide +kernel) ck_X4_74 ik_IS sk_X4_76 k_at_IS dX4_unlink_23 dX4_unlink_26 dX4_unlink_27 dX4_unlink_29 dX4_unlink_32 ⟨Nat.le_of_ble_eq_true rfl, Nat.le_of_ble_eq_true rfl, Nat.le_of_ble_eq_true rfl, Nat.le_of_ble_eq_true rfl⟩ ⟨Or.inr ⟨rfl, by simp [*], by assumption⟩, rfl⟩ (by decide) (by decide)
set_option maxHeartbeats 4000000 in
set_option maxRecDepth 100000 in
/-- isBarred -/
theorem c_X4_isBarred (l : Launch) (D : va_G) (cy : Nat → ClassId) (lo : Nat) (R : List Nat) (ad : Nat → Nat) (q : Nat → Nat → Nat) (ns nt : Nat) (I : Nat → Nat → Int32) (J : Nat → Nat → Int64) (hL : k_RL R ns nt) (hfl : l.stackTraces = false) (a : Int32) (b : Int32) : k_Xi l yX4_isBarred cX4_isBarred 3 (some .boolean) 7 106 2 12 D cy lo R ad (k_c cy ad q ns nt I J) [.ref (ad 0), .int a, .int b] ((isCar a && isCar b) = true) (fun E => E = e_IO ∧ (isCar a && isCar b) = false) (k_b (!openF I J a b)) (k_c cy ad q ns nt I J) := by
  refine k_metXQ (by decide +kernel) (Nat.le_of_ble_eq_true rfl) ?_
  intro p e s m args below meth c Q F hr hlk ht hQ
  have hR := hL.1
  refine x_iload_n F dX4_isBarred_0 rfl 1 rfl ?_
  refine z_callSvx F [.int a] (c_X4_demandCarrier l D cy lo R ad _ hfl a) mc_X4_demandCarrier ms_X4_demandCarrier lk_X4_48 rfl rfl dX4_isBarred_1 ⟨Nat.le_of_ble_eq_true rfl, Nat.le_of_ble_eq_true rfl⟩ ⟨Nat.le_of_ble_eq_true rfl, Nat.le_of_ble_eq_true rfl⟩ (Nat.le_of_ble_eq_true rfl) (fun E hE1 => ?_) (fun ok1 => ?_)
  · rw [hQ]
    exact x_out F ht hlk ⟨⟨hE1.1, by simp [hE1.2]⟩, rfl⟩ (by decide) (by decide)
  · refine x_iload_n F dX4_isBarred_4 rfl 2 rfl ?_
    refine z_callSvx F [.int b] (c_X4_demandCarrier l D cy lo R ad _ hfl b) mc_X4_demandCarrier ms_X4_demandCarrier lk_X4_48 rfl rfl dX4_isBarred_5 ⟨Nat.le_of_ble_eq_true rfl, Nat.le_of_ble_eq_true rfl⟩ ⟨Nat.le_of_ble_eq_true rfl, Nat.le_of_ble_eq_true rfl⟩ (Nat.le_of_ble_eq_true rfl) (fun E hE5 => ?_) (fun ok5 => ?_)
    · rw [hQ]
      exact x_out F ht hlk ⟨⟨hE5.1, by simp [hE5.2]⟩, rfl⟩ (by decide) (by decide)
    · refine x_aload_n F dX4_isBarred_8 rfl 0 rfl ?_
      refine g_X4_19 F (hL.1 0 (by decide)) sc_0 rfl dX4_isBarred_9 ?_
      refine x_iload_n F dX4_isBarred_12 rfl 1 rfl ?_
      refine x_iload_n F dX4_isBarred_13 rfl 2 rfl ?_
      refine z_callVi F [.int a, .int b] (c_X0_isOpen l D cy lo R ad q ns nt I J hR a b ) mc_X0_isOpen mv_X0_isOpen lk_X4_183 (hR 3 (by decide)) sc_3 rfl rfl rfl dX4_isBarred_14 ⟨Nat.le_of_ble_eq_true rfl, Nat.le_of_ble_eq_true rfl⟩ ⟨Nat.le_of_ble_eq_true rfl, Nat.le_of_ble_eq_true rfl⟩ (Nat.le_of_ble_eq_true rfl) ?_
      refine x_if_ne F 24 dX4_isBarred_17 (by decide) (fun h17 => ?_) (fun h17 => ?_)
      · rw [kb1] at h17
        refine x_iconst F (v := 0) dX4_isBarred_24 (by decide) ?_
        rw [hQ]
        refine x_widen (k := 2) (n := 12) (Nat.le_of_ble_eq_true rfl) (Nat.le_of_ble_eq_true rfl) ?_
        exact x_zretx F hr hlk (by decide) ⟨by simp [*], by simp [k_b, *], rfl⟩ dX4_isBarred_25
      · rw [kb0] at h17
        refine x_iconst F (v := 1) dX4_isBarred_20 (by decide) ?_
        refine x_goto F 25 dX4_isBarred_21 (by decide) ?_
        rw [hQ]
        refine x_widen (k := 2) (n := 12) (Nat.le_of_ble_eq_true rfl) (Nat.le_of_ble_eq_true rfl) ?_
        exact x_zretx F hr hlk (by decide) ⟨by simp [*], by simp [k_b, *], rfl⟩ dX4_isBarred_25
set_option maxHeartbeats 4000000 in
set_option maxRecDepth 100000 in
/-- debt -/
theorem c_X4_debt (l : Launch) (D : va_G) (cy : Nat → ClassId) (lo : Nat) (R : List Nat) (ad : Nat → Nat) (q : Nat → Nat → Nat) (ns nt : Nat) (I : Nat → Nat → Int32) (J : Nat → Nat → Int64) (hL : k_RL R ns nt) (hfl : l.stackTraces = false) (a : Int32) (b : Int32) : k_Xl l yX4_debt cX4_debt 3 (some .long) 7 106 2 12 D cy lo R ad (k_c cy ad q ns nt I J) [.ref (ad 0), .int a, .int b] ((isCar a && isCar b) = true) (fun E => E = e_IO ∧ (isCar a && isCar b) = false) (debtF J a b) (k_c cy ad q ns nt I J) := by
  refine k_metXQ (by decide +kernel) (Nat.le_of_ble_eq_true rfl) ?_
  intro p e s m args below meth c Q F hr hlk ht hQ
  have hR := hL.1
  refine x_iload_n F dX4_debt_0 rfl 1 rfl ?_
  refine z_callSvx F [.int a] (c_X4_demandCarrier l D cy lo R ad _ hfl a) mc_X4_demandCarrier ms_X4_demandCarrier lk_X4_48 rfl rfl dX4_debt_1 ⟨Nat.le_of_ble_eq_true rfl, Nat.le_of_ble_eq_true rfl⟩ ⟨Nat.le_of_ble_eq_true rfl, Nat.le_of_ble_eq_true rfl⟩ (Nat.le_of_ble_eq_true rfl) (fun E hE1 => ?_) (fun ok1 => ?_)
  · rw [hQ]
    exact x_out F ht hlk ⟨⟨hE1.1, by simp [hE1.2]⟩, rfl⟩ (by decide) (by decide)
  · refine x_iload_n F dX4_debt_4 rfl 2 rfl ?_
    refine z_callSvx F [.int b] (c_X4_demandCarrier l D cy lo R ad _ hfl b) mc_X4_demandCarrier ms_X4_demandCarrier lk_X4_48 rfl rfl dX4_debt_5 ⟨Nat.le_of_ble_eq_true rfl, Nat.le_of_ble_eq_true rfl⟩ ⟨Nat.le_of_ble_eq_true rfl, Nat.le_of_ble_eq_true rfl⟩ (Nat.le_of_ble_eq_true rfl) (fun E hE5 => ?_) (fun ok5 => ?_)
    · rw [hQ]
      exact x_out F ht hlk ⟨⟨hE5.1, by simp [hE5.2]⟩, rfl⟩ (by decide) (by decide)
    · refine x_aload_n F dX4_debt_8 rfl 0 rfl ?_
      refine g_X4_19 F (hL.1 0 (by decide)) sc_0 rfl dX4_debt_9 ?_
      refine x_iload_n F dX4_debt_12 rfl 1 rfl ?_
      refine x_iload_n F dX4_debt_13 rfl 2 rfl ?_
      refine z_callVl F [.int a, .int b] (c_X0_debtOf l D cy lo R ad q ns nt I J hR a b ) mc_X0_debtOf mv_X0_debtOf lk_X4_187 (hR 3 (by decide)) sc_3 rfl rfl rfl dX4_debt_14 ⟨Nat.le_of_ble_eq_true rfl, Nat.le_of_ble_eq_true rfl⟩ ⟨Nat.le_of_ble_eq_true rfl, Nat.le_of_ble_eq_true rfl⟩ (Nat.le_of_ble_eq_true rfl) ?_
      rw [hQ]
      refine x_widen (k := 2) (n := 12) (Nat.le_of_ble_eq_true rfl) (Nat.le_of_ble_eq_true rfl) ?_
      exact x_lretx F hr hlk ⟨by simp [*], rfl, rfl⟩ dX4_debt_17
set_option maxHeartbeats 4000000 in
set_option maxRecDepth 100000 in
/-- settle -/
theorem c_X4_settle (l : Launch) (D : va_G) (cy : Nat → ClassId) (lo : Nat) (R : List Nat) (ad : Nat → Nat) (q : Nat → Nat → Nat) (ns nt : Nat) (I : Nat → Nat → Int32) (J : Nat → Nat → Int64) (hL : k_RL R ns nt) (hfl : l.stackTraces = false) (a : Int32) (b : Int32) : k_Xl l yX4_settle cX4_settle 5 (some .long) 7 106 3 18 D cy lo R ad (k_c cy ad q ns nt I J) [.ref (ad 0), .int a, .int b] ((isCar a && isCar b) = true ∧ 0 < debtF J a b) (fun E => (E = e_IO ∧ (isCar a && isCar b) = false) ∨ (E = e_IS ∧ (isCar a && isCar b) = true ∧ ¬ 0 < debtF J a b)) (debtF J a b) (k_c cy ad q ns nt I (addDebtJ J a b (-debtF J a b))) := by
  refine k_metXQ (by decide +kernel) (Nat.le_of_ble_eq_true rfl) ?_
  intro p e s m args below meth c Q F hr hlk ht hQ
  have hR := hL.1
  refine x_iload_n F dX4_settle_0 rfl 1 rfl ?_
  refine z_callSvx F [.int a] (c_X4_demandCarrier l D cy lo R ad _ hfl a) mc_X4_demandCarrier ms_X4_demandCarrier lk_X4_48 rfl rfl dX4_settle_1 ⟨Nat.le_of_ble_eq_true rfl, Nat.le_of_ble_eq_true rfl⟩ ⟨Nat.le_of_ble_eq_true rfl, Nat.le_of_ble_eq_true rfl⟩ (Nat.le_of_ble_eq_true rfl) (fun E hE1 => ?_) (fun ok1 => ?_)
  · rw [hQ]
    exact x_out F ht hlk ⟨Or.inl ⟨hE1.1, by simp [hE1.2]⟩, rfl⟩ (by decide) (by decide)
  · refine x_iload_n F dX4_settle_4 rfl 2 rfl ?_
    refine z_callSvx F [.int b] (c_X4_demandCarrier l D cy lo R ad _ hfl b) mc_X4_demandCarrier ms_X4_demandCarrier lk_X4_48 rfl rfl dX4_settle_5 ⟨Nat.le_of_ble_eq_true rfl, Nat.le_of_ble_eq_true rfl⟩ ⟨Nat.le_of_ble_eq_true rfl, Nat.le_of_ble_eq_true rfl⟩ (Nat.le_of_ble_eq_true rfl) (fun E hE5 => ?_) (fun ok5 => ?_)
    · rw [hQ]
      exact x_out F ht hlk ⟨Or.inl ⟨hE5.1, by simp [hE5.2]⟩, rfl⟩ (by decide) (by decide)
    · refine x_aload_n F dX4_settle_8 rfl 0 rfl ?_
      refine g_X4_19 F (hL.1 0 (by decide)) sc_0 rfl dX4_settle_9 ?_
      refine x_iload_n F dX4_settle_12 rfl 1 rfl ?_
      refine x_iload_n F dX4_settle_13 rfl 2 rfl ?_
      refine z_callVl F [.int a, .int b] (c_X0_debtOf l D cy lo R ad q ns nt I J hR a b ) mc_X0_debtOf mv_X0_debtOf lk_X4_187 (hR 3 (by decide)) sc_3 rfl rfl rfl dX4_settle_14 ⟨Nat.le_of_ble_eq_true rfl, Nat.le_of_ble_eq_true rfl⟩ ⟨Nat.le_of_ble_eq_true rfl, Nat.le_of_ble_eq_true rfl⟩ (Nat.le_of_ble_eq_true rfl) ?_
      refine x_lstore_n F [(3, .long (debtF J a b)), (0, .ref (ad 0)), (1, .int a), (2, .int b)] dX4_settle_17 rfl (by decide) rfl ?_
      refine x_lload_n F dX4_settle_18 rfl 0 rfl ?_
      refine x_lconst F (v := 0) dX4_settle_19 (by decide) ?_
      refine x_lcmp F dX4_settle_20 ?_
      refine x_if_gt F 34 dX4_settle_21 (by decide) (fun h21 => ?_) (fun h21 => ?_)
      · rw [lg_cmp_gt] at h21
        refine x_aload_n F dX4_settle_34 rfl 1 rfl ?_
        refine g_X4_19 F (hL.1 0 (by decide)) sc_0 rfl dX4_settle_35 ?_
        refine x_iload_n F dX4_settle_38 rfl 2 rfl ?_
        refine x_iload_n F dX4_settle_39 rfl 3 rfl ?_
        refine x_lload_n F dX4_settle_40 rfl 0 rfl ?_
        refine x_lneg F dX4_settle_41 ?_
        refine z_callVv F [.int a, .int b, .long (-(debtF J a b))] (c_X0_addDebt l D cy lo R ad q ns nt I J hR a b (-(debtF J a b)) ) mc_X0_addDebt mv_X0_addDebt lk_X4_200 (hR 3 (by decide)) sc_3 rfl rfl rfl dX4_settle_42 ⟨Nat.le_of_ble_eq_true rfl, Nat.le_of_ble_eq_true rfl⟩ ⟨Nat.le_of_ble_eq_true rfl, Nat.le_of_ble_eq_true rfl⟩ (Nat.le_of_ble_eq_true rfl) ?_
        refine x_lload_n F dX4_settle_45 rfl 0 rfl ?_
        rw [hQ]
        refine x_widen (k := 3) (n := 18) (Nat.le_of_ble_eq_true rfl) (Nat.le_of_ble_eq_true rfl) ?_
        exact x_lretx F hr hlk ⟨⟨by simp [*], by assumption⟩, rfl, rfl⟩ dX4_settle_46
      · rw [lg_cmp_gt] at h21
        rw [hQ]
        exact x_throw F hfl ht hlk (by decide +kernel) ck_X4_74 ik_IS sk_X4_198 k_at_IS dX4_settle_24 dX4_settle_27 dX4_settle_28 dX4_settle_30 dX4_settle_33 ⟨Nat.le_of_ble_eq_true rfl, Nat.le_of_ble_eq_true rfl, Nat.le_of_ble_eq_true rfl, Nat.le_of_ble_eq_true rfl⟩ ⟨Or.inr ⟨rfl, by simp [*], by assumption⟩, rfl⟩ (by decide) (by decide)
set_option maxHeartbeats 4000000 in
set_option maxRecDepth 100000 in
/-- hangUp -/
theorem c_X4_hangUp (l : Launch) (D : va_G) (cy : Nat → ClassId) (lo : Nat) (R : List Nat) (ad : Nat → Nat) (q : Nat → Nat → Nat) (ns nt : Nat) (I : Nat → Nat → Int32) (J : Nat → Nat → Int64) (hL : k_RL R ns nt) (hfl : l.stackTraces = false) (a : Int32) : k_Xi l yX4_hangUp cX4_hangUp 3 (some .int) 7 108 2 12 D cy lo R ad (k_c cy ad q ns nt I J) [.ref (ad 0), .int a] (isN nt a = true ∧ I (80 + 4 * a.toNatClampNeg) 6 = 0) (fun E => (E = e_IO ∧ isN nt a = false) ∨ (E = e_IS ∧ isN nt a = true ∧ ¬ I (80 + 4 * a.toNatClampNeg) 6 = 0)) (I (80 + 4 * a.toNatClampNeg) 7) (k_c cy ad q ns nt (wI I (80 + 4 * a.toNatClampNeg) 6 1) J) := by
  refine k_metXQ (by decide +kernel) (Nat.le_of_ble_eq_true rfl) ?_
  intro p e s m args below meth c Q F hr hlk ht hQ
  have hR := hL.1
  refine x_aload_n F dX4_hangUp_0 rfl 0 rfl ?_
  refine x_iload_n F dX4_hangUp_1 rfl 1 rfl ?_
  refine z_callVqx F [.int a] (c_X4_talkOf l D cy lo R ad q ns nt I J hL hfl a ) mc_X4_talkOf mv_X4_talkOf lk_X4_148 (hL.1 0 (by decide)) sc_0 rfl rfl rfl dX4_hangUp_2 ⟨Nat.le_of_ble_eq_true rfl, Nat.le_of_ble_eq_true rfl⟩ ⟨Nat.le_of_ble_eq_true rfl, Nat.le_of_ble_eq_true rfl⟩ (Nat.le_of_ble_eq_true rfl) (fun E hE2 => ?_) (fun ok2 => ?_)
  · rw [hQ]
    exact x_out F ht hlk ⟨Or.inl hE2, rfl⟩ (by decide) (by decide)
  · refine x_astore_n F [(2, .ref (ad (80 + 4 * a.toNatClampNeg))), (0, .ref (ad 0)), (1, .int a)] dX4_hangUp_5 rfl (by decide) rfl ?_
    refine x_aload_n F dX4_hangUp_6 rfl 0 rfl ?_
    refine g_X4_152 F (hL.2.2.1 _ (isN_lt ok2)).1 (sc_tlk (tlk_rng (a.toNatClampNeg))) rfl dX4_hangUp_7 ?_
    refine x_if_eq F 23 dX4_hangUp_10 (by decide) (fun h10 => ?_) (fun h10 => ?_)
    · refine x_aload_n F dX4_hangUp_23 rfl 0 rfl ?_
      refine x_iconst F (v := 1) dX4_hangUp_24 (by decide) ?_
      refine p_X4_152 F (hL.2.2.1 _ (isN_lt ok2)).1 (ss_tlk (tlk_rng (a.toNatClampNeg))) dX4_hangUp_25 ?_
      refine x_aload_n F dX4_hangUp_28 rfl 0 rfl ?_
      refine g_X4_157 F (hL.2.2.1 _ (isN_lt ok2)).1 (sc_tlk (tlk_rng (a.toNatClampNeg))) rfl dX4_hangUp_29 ?_
      refine x_cast (y := (I (80 + 4 * a.toNatClampNeg) 7)) (by first | rfl | simp [wI_eq]) ?_
      rw [hQ]
      refine x_widen (k := 2) (n := 12) (Nat.le_of_ble_eq_true rfl) (Nat.le_of_ble_eq_true rfl) ?_
      exact x_iretx F hr hlk ⟨⟨by assumption, by assumption⟩, rfl, rfl⟩ dX4_hangUp_32
    · rw [hQ]
      exact x_throw F hfl ht hlk (by decide +kernel) ck_X4_74 ik_IS sk_X4_155 k_at_IS dX4_hangUp_13 dX4_hangUp_16 dX4_hangUp_17 dX4_hangUp_19 dX4_hangUp_22 ⟨Nat.le_of_ble_eq_true rfl, Nat.le_of_ble_eq_true rfl, Nat.le_of_ble_eq_true rfl, Nat.le_of_ble_eq_true rfl⟩ ⟨Or.inr ⟨rfl, by assumption, by assumption⟩, rfl⟩ (by decide) (by decide)
set_option maxHeartbeats 4000000 in
set_option maxRecDepth 100000 in
/-- home -/
theorem c_X4_home (l : Launch) (D : va_G) (cy : Nat → ClassId) (lo : Nat) (R : List Nat) (ad : Nat → Nat) (q : Nat → Nat → Nat) (ns nt : Nat) (I : Nat → Nat → Int32) (J : Nat → Nat → Int64) (hL : k_RL R ns nt) (hfl : l.stackTraces = false) (a : Int32) (b : Int32) : k_Xi l yX4_home cX4_home 4 (some .int) 7 108 2 12 D cy lo R ad (k_c cy ad q ns nt I J) [.ref (ad 0), .int a, .int b] (isN ns a = true ∧ ¬ homeF I (40 + 2 * a.toNatClampNeg) b = -1) (fun E => E = e_IO ∧ (isN ns a = false ∨ homeF I (40 + 2 * a.toNatClampNeg) b = -1)) (homeF I (40 + 2 * a.toNatClampNeg) b) (k_c cy ad q ns nt I J) := by
  refine k_metXQ (by decide +kernel) (Nat.le_of_ble_eq_true rfl) ?_
  intro p e s m args below meth c Q F hr hlk ht hQ
  have hR := hL.1
  refine x_aload_n F dX4_home_0 rfl 0 rfl ?_
  refine x_iload_n F dX4_home_1 rfl 1 rfl ?_
  refine z_callVqx F [.int a] (c_X4_subscriberOf l D cy lo R ad q ns nt I J hL hfl a ) mc_X4_subscriberOf mv_X4_subscriberOf lk_X4_92 (hL.1 0 (by decide)) sc_0 rfl rfl rfl dX4_home_2 ⟨Nat.le_of_ble_eq_true rfl, Nat.le_of_ble_eq_true rfl⟩ ⟨Nat.le_of_ble_eq_true rfl, Nat.le_of_ble_eq_true rfl⟩ (Nat.le_of_ble_eq_true rfl) (fun E hE2 => ?_) (fun ok2 => ?_)
  · rw [hQ]
    exact x_out F ht hlk ⟨⟨hE2.1, Or.inl hE2.2⟩, rfl⟩ (by decide) (by decide)
  · refine x_iload_n F dX4_home_5 rfl 2 rfl ?_
    refine z_callVi F [.int b] (c_X2_homeAt l D cy lo R ad q ns nt I J hR (40 + 2 * a.toNatClampNeg) b (sub_rng (isN_lt ok2) hL) ((hL.2.1 _ (isN_lt ok2)).1) ((hL.2.1 _ (isN_lt ok2)).2)) mc_X2_homeAt mv_X2_homeAt lk_X4_96 (hL.2.1 _ (isN_lt ok2)).1 (sc_sub (sub_rng (isN_lt ok2) hL)) rfl rfl rfl dX4_home_6 ⟨Nat.le_of_ble_eq_true rfl, Nat.le_of_ble_eq_true rfl⟩ ⟨Nat.le_of_ble_eq_true rfl, Nat.le_of_ble_eq_true rfl⟩ (Nat.le_of_ble_eq_true rfl) ?_
    refine x_istore_n F [(3, .int (homeF I (40 + 2 * a.toNatClampNeg) b)), (0, .ref (ad 0)), (1, .int a), (2, .int b)] dX4_home_9 rfl (by decide) rfl ?_
    refine x_iload_n F dX4_home_10 rfl 0 rfl ?_
    refine x_iconst F (v := -1) dX4_home_11 (by decide) ?_
    refine x_icmp_ne F 25 dX4_home_12 (by decide) (fun h12 => ?_) (fun h12 => ?_)
    · refine x_iload_n F dX4_home_25 rfl 0 rfl ?_
      rw [hQ]
      refine x_widen (k := 2) (n := 12) (Nat.le_of_ble_eq_true rfl) (Nat.le_of_ble_eq_true rfl) ?_
      exact x_iretx F hr hlk ⟨⟨by assumption, by assumption⟩, rfl, rfl⟩ dX4_home_26
    · rw [hQ]
      exact x_throw F hfl ht hlk (by decide +kernel) ck_X4_111 ik_IO sk_X4_113 k_at_IO dX4_home_15 dX4_home_18 dX4_home_19 dX4_home_21 dX4_home_24 ⟨Nat.le_of_ble_eq_true rfl, Nat.le_of_ble_eq_true rfl, Nat.le_of_ble_eq_true rfl, Nat.le_of_ble_eq_true rfl⟩ ⟨⟨rfl, Or.inr (by assumption)⟩, rfl⟩ (by decide) (by decide)
set_option maxHeartbeats 4000000 in
set_option maxRecDepth 100000 in
/-- way -/
theorem c_X4_way (l : Launch) (D : va_G) (cy : Nat → ClassId) (lo : Nat) (R : List Nat) (ad : Nat → Nat) (q : Nat → Nat → Nat) (ns nt : Nat) (I : Nat → Nat → Int32) (J : Nat → Nat → Int64) (hL : k_RL R ns nt) (hfl : l.stackTraces = false) (a : Int32) (b : Int32) : k_Xi l yX4_way cX4_way 4 (some .int) 7 108 2 12 D cy lo R ad (k_c cy ad q ns nt I J) [.ref (ad 0), .int a, .int b] (isN nt a = true ∧ ¬ carAt I ((80 + 4 * a.toNatClampNeg) + 1) b = -1) (fun E => E = e_IO ∧ (isN nt a = false ∨ carAt I ((80 + 4 * a.toNatClampNeg) + 1) b = -1)) (carAt I ((80 + 4 * a.toNatClampNeg) + 1) b) (k_c cy ad q ns nt I J) := by
  refine k_metXQ (by decide +kernel) (Nat.le_of_ble_eq_true rfl) ?_
  intro p e s m args below meth c Q F hr hlk ht hQ
  have hR := hL.1
  refine x_aload_n F dX4_way_0 rfl 0 rfl ?_
  refine x_iload_n F dX4_way_1 rfl 1 rfl ?_
  refine z_callVqx F [.int a] (c_X4_talkOf l D cy lo R ad q ns nt I J hL hfl a ) mc_X4_talkOf mv_X4_talkOf lk_X4_148 (hL.1 0 (by decide)) sc_0 rfl rfl rfl dX4_way_2 ⟨Nat.le_of_ble_eq_true rfl, Nat.le_of_ble_eq_true rfl⟩ ⟨Nat.le_of_ble_eq_true rfl, Nat.le_of_ble_eq_true rfl⟩ (Nat.le_of_ble_eq_true rfl) (fun E hE2 => ?_) (fun ok2 => ?_)
  · rw [hQ]
    exact x_out F ht hlk ⟨⟨hE2.1, Or.inl hE2.2⟩, rfl⟩ (by decide) (by decide)
  · refine g_X4_169 F (hL.2.2.1 _ (isN_lt ok2)).1 (sc_tlk (tlk_rng (a.toNatClampNeg))) rfl dX4_way_5 ?_
    refine x_iload_n F dX4_way_8 rfl 2 rfl ?_
    refine z_callVi F [.int b] (c_X1_carrierAt l D cy lo R ad q ns nt I J hR ((80 + 4 * a.toNatClampNeg) + 1) b (Or.inr ⟨by have := (tlk_rng (a.toNatClampNeg)); omega, by have := (tlk_rng (a.toNatClampNeg)); omega⟩) ((hL.2.2.1 _ (isN_lt ok2)).2.1) ((hL.2.2.1 _ (isN_lt ok2)).2.2.1)) mc_X1_carrierAt mv_X1_carrierAt lk_X4_172 (hL.2.2.1 _ (isN_lt ok2)).2.1 (sc_rte (Or.inr ⟨by have := (tlk_rng (a.toNatClampNeg)); omega, by have := (tlk_rng (a.toNatClampNeg)); omega⟩)) rfl rfl rfl dX4_way_9 ⟨Nat.le_of_ble_eq_true rfl, Nat.le_of_ble_eq_true rfl⟩ ⟨Nat.le_of_ble_eq_true rfl, Nat.le_of_ble_eq_true rfl⟩ (Nat.le_of_ble_eq_true rfl) ?_
    refine x_istore_n F [(3, .int (carAt I ((80 + 4 * a.toNatClampNeg) + 1) b)), (0, .ref (ad 0)), (1, .int a), (2, .int b)] dX4_way_12 rfl (by decide) rfl ?_
    refine x_iload_n F dX4_way_13 rfl 0 rfl ?_
    refine x_iconst F (v := -1) dX4_way_14 (by decide) ?_
    refine x_icmp_ne F 28 dX4_way_15 (by decide) (fun h15 => ?_) (fun h15 => ?_)
    · refine x_iload_n F dX4_way_28 rfl 0 rfl ?_
      rw [hQ]
      refine x_widen (k := 2) (n := 12) (Nat.le_of_ble_eq_true rfl) (Nat.le_of_ble_eq_true rfl) ?_
      exact x_iretx F hr hlk ⟨⟨by assumption, by assumption⟩, rfl, rfl⟩ dX4_way_29
    · rw [hQ]
      exact x_throw F hfl ht hlk (by decide +kernel) ck_X4_111 ik_IO sk_X4_175 k_at_IO dX4_way_18 dX4_way_21 dX4_way_22 dX4_way_24 dX4_way_27 ⟨Nat.le_of_ble_eq_true rfl, Nat.le_of_ble_eq_true rfl, Nat.le_of_ble_eq_true rfl, Nat.le_of_ble_eq_true rfl⟩ ⟨⟨rfl, Or.inr (by assumption)⟩, rfl⟩ (by decide) (by decide)
set_option maxHeartbeats 4000000 in
set_option maxRecDepth 100000 in
/-- topUp -/
theorem c_X4_topUp (l : Launch) (D : va_G) (cy : Nat → ClassId) (lo : Nat) (R : List Nat) (ad : Nat → Nat) (q : Nat → Nat → Nat) (ns nt : Nat) (I : Nat → Nat → Int32) (J : Nat → Nat → Int64) (hL : k_RL R ns nt) (hfl : l.stackTraces = false) (a : Int32) (b : Int32) (m2 : Int32) : k_Xi l yX4_topUp cX4_topUp 7 (some .int) 7 108 3 18 D cy lo R ad (k_c cy ad q ns nt I J) [.ref (ad 0), .int a, .int b, .int m2] (isN ns a = true ∧ (isWi b 0 10000 && isWi m2 0 1000) = true ∧ (decide (1000000 < I (40 + 2 * a.toNatClampNeg) 2 + b) || decide (100000 < I (40 + 2 * a.toNatClampNeg) 3 + m2)) = false) (fun E => (E = e_IO ∧ isN ns a = false) ∨ (E = e_IA ∧ isN ns a = true ∧ (isWi b 0 10000 && isWi m2 0 1000) = false) ∨ (E = e_IS ∧ isN ns a = true ∧ (isWi b 0 10000 && isWi m2 0 1000) = true ∧ (decide (1000000 < I (40 + 2 * a.toNatClampNeg) 2 + b) || decide (100000 < I (40 + 2 * a.toNatClampNeg) 3 + m2)) = true)) (I (40 + 2 * a.toNatClampNeg) 2 + b) (k_c cy ad q ns nt (wI (wI I (40 + 2 * a.toNatClampNeg) 2 (I (40 + 2 * a.toNatClampNeg) 2 + b)) (40 + 2 * a.toNatClampNeg) 3 (I (40 + 2 * a.toNatClampNeg) 3 + m2)) J) := by
  refine k_metXQ (by decide +kernel) (Nat.le_of_ble_eq_true rfl) ?_
  intro p e s m args below meth c Q F hr hlk ht hQ
  have hR := hL.1
  refine x_aload_n F dX4_topUp_0 rfl 0 rfl ?_
  refine x_iload_n F dX4_topUp_1 rfl 1 rfl ?_
  refine z_callVqx F [.int a] (c_X4_subscriberOf l D cy lo R ad q ns nt I J hL hfl a ) mc_X4_subscriberOf mv_X4_subscriberOf lk_X4_92 (hL.1 0 (by decide)) sc_0 rfl rfl rfl dX4_topUp_2 ⟨Nat.le_of_ble_eq_true rfl, Nat.le_of_ble_eq_true rfl⟩ ⟨Nat.le_of_ble_eq_true rfl, Nat.le_of_ble_eq_true rfl⟩ (Nat.le_of_ble_eq_true rfl) (fun E hE2 => ?_) (fun ok2 => ?_)
  · rw [hQ]
    exact x_out F ht hlk ⟨Or.inl hE2, rfl⟩ (by decide) (by decide)
  · refine x_astore F [(4, .ref (ad (40 + 2 * a.toNatClampNeg))), (0, .ref (ad 0)), (1, .int a), (2, .int b), (3, .int m2)] dX4_topUp_5 (by decide) rfl ?_
    refine x_iload_n F dX4_topUp_7 rfl 3 rfl ?_
    refine x_iload_n F dX4_topUp_8 rfl 4 rfl ?_
    refine z_callSvx F [.int b, .int m2] (c_X4_demandCredit l D cy lo R ad _ hfl b m2) mc_X4_demandCredit ms_X4_demandCredit lk_X4_79 rfl rfl dX4_topUp_9 ⟨Nat.le_of_ble_eq_true rfl, Nat.le_of_ble_eq_true rfl⟩ ⟨Nat.le_of_ble_eq_true rfl, Nat.le_of_ble_eq_true rfl⟩ (Nat.le_of_ble_eq_true rfl) (fun E hE9 => ?_) (fun ok9 => ?_)
    · rw [hQ]
      exact x_out F ht hlk ⟨Or.inr (Or.inl ⟨hE9.1, by assumption, hE9.2⟩), rfl⟩ (by decide) (by decide)
    · refine x_aload F dX4_topUp_12 0 rfl ?_
      refine g_X4_116 F (hL.2.1 _ (isN_lt ok2)).1 (sc_sub (sub_rng (isN_lt ok2) hL)) rfl dX4_topUp_14 ?_
      refine x_iload_n F dX4_topUp_17 rfl 3 rfl ?_
      refine x_iadd F dX4_topUp_18 ?_
      refine x_istore F [(5, .int ((I (40 + 2 * a.toNatClampNeg) 2) + b)), (4, .ref (ad (40 + 2 * a.toNatClampNeg))), (0, .ref (ad 0)), (1, .int a), (2, .int b), (3, .int m2)] dX4_topUp_19 (by decide) rfl ?_
      refine x_aload F dX4_topUp_21 1 rfl ?_
      refine g_X4_119 F (hL.2.1 _ (isN_lt ok2)).1 (sc_sub (sub_rng (isN_lt ok2) hL)) rfl dX4_topUp_23 ?_
      refine x_iload_n F dX4_topUp_26 rfl 5 rfl ?_
      refine x_iadd F dX4_topUp_27 ?_
      refine x_istore F [(6, .int ((I (40 + 2 * a.toNatClampNeg) 3) + m2)), (5, .int ((I (40 + 2 * a.toNatClampNeg) 2) + b)), (4, .ref (ad (40 + 2 * a.toNatClampNeg))), (0, .ref (ad 0)), (1, .int a), (2, .int b), (3, .int m2)] dX4_topUp_28 (by decide) rfl ?_
      refine x_iload F dX4_topUp_30 1 rfl ?_
      refine x_ldc F (v := 1000000) dX4_topUp_32 287 (by decide +kernel) ?_
      refine x_icmp_gt F 44 dX4_topUp_34 (by decide) (fun h34 => ?_) (fun h34 => ?_)
      · rw [hQ]
        exact x_throw F hfl ht hlk (by decide +kernel) ck_X4_74 ik_IS sk_X4_123 k_at_IS dX4_topUp_44 dX4_topUp_47 dX4_topUp_48 dX4_topUp_50 dX4_topUp_53 ⟨Nat.le_of_ble_eq_true rfl, Nat.le_of_ble_eq_true rfl, Nat.le_of_ble_eq_true rfl, Nat.le_of_ble_eq_true rfl⟩ ⟨Or.inr (Or.inr ⟨rfl, by assumption, by assumption, by simp [Int32.not_le.mp, *]; try (exact Int32.not_le.mp ‹_›)⟩), rfl⟩ (by decide) (by decide)
      · refine x_iload F dX4_topUp_37 0 rfl ?_
        refine x_ldc F (v := 100000) dX4_topUp_39 201 (by decide +kernel) ?_
        refine x_icmp_le F 54 dX4_topUp_41 (by decide) (fun h41 => ?_) (fun h41 => ?_)
        · refine x_aload F dX4_topUp_54 2 rfl ?_
          refine x_iload F dX4_topUp_56 1 rfl ?_
          refine p_X4_116 F (hL.2.1 _ (isN_lt ok2)).1 (ss_sub (sub_rng (isN_lt ok2) hL)) dX4_topUp_58 ?_
          refine x_aload F dX4_topUp_61 2 rfl ?_
          refine x_iload F dX4_topUp_63 0 rfl ?_
          refine p_X4_119 F (hL.2.1 _ (isN_lt ok2)).1 (ss_sub (sub_rng (isN_lt ok2) hL)) dX4_topUp_65 ?_
          refine x_iload F dX4_topUp_68 1 rfl ?_
          rw [hQ]
          refine x_widen (k := 3) (n := 18) (Nat.le_of_ble_eq_true rfl) (Nat.le_of_ble_eq_true rfl) ?_
          exact x_iretx F hr hlk ⟨⟨by assumption, by assumption, by simp [Int32.not_lt, *]⟩, rfl, rfl⟩ dX4_topUp_70
        · rw [hQ]
          exact x_throw F hfl ht hlk (by decide +kernel) ck_X4_74 ik_IS sk_X4_123 k_at_IS dX4_topUp_44 dX4_topUp_47 dX4_topUp_48 dX4_topUp_50 dX4_topUp_53 ⟨Nat.le_of_ble_eq_true rfl, Nat.le_of_ble_eq_true rfl, Nat.le_of_ble_eq_true rfl, Nat.le_of_ble_eq_true rfl⟩ ⟨Or.inr (Or.inr ⟨rfl, by assumption, by assumption, by simp [Int32.not_le.mp, *]; try (exact Int32.not_le.mp ‹_›)⟩), rfl⟩ (by decide) (by decide)
set_option maxHeartbeats 4000000 in
set_option maxRecDepth 100000 in
/-- carryOver -/
theorem c_X4_carryOver (l : Launch) (D : va_G) (cy : Nat → ClassId) (lo : Nat) (R : List Nat) (ad : Nat → Nat) (q : Nat → Nat → Nat) (ns nt : Nat) (I : Nat → Nat → Int32) (J : Nat → Nat → Int64) (hL : k_RL R ns nt) (hfl : l.stackTraces = false) (a : Int32) (b : Int32) : k_Xi l yX4_carryOver cX4_carryOver 4 (some .int) 7 108 3 18 D cy lo R ad (k_c cy ad q ns nt I J) [.ref (ad 0), .int a, .int b] (isN ns a = true ∧ isCar b = true ∧ ¬ homeF I (40 + 2 * a.toNatClampNeg) 0 = b ∧ moveB I (40 + 2 * a.toNatClampNeg) = true) (fun E => (E = e_IO ∧ (isN ns a && isCar b) = false) ∨ (E = e_IA ∧ isN ns a = true ∧ isCar b = true ∧ homeF I (40 + 2 * a.toNatClampNeg) 0 = b) ∨ (E = e_IS ∧ isN ns a = true ∧ isCar b = true ∧ ¬ homeF I (40 + 2 * a.toNatClampNeg) 0 = b ∧ moveB I (40 + 2 * a.toNatClampNeg) = false)) ((moveI I (40 + 2 * a.toNatClampNeg) b) (40 + 2 * a.toNatClampNeg) 1) (k_c cy ad q ns nt (moveI I (40 + 2 * a.toNatClampNeg) b) J) := by
  refine k_metXQ (by decide +kernel) (Nat.le_of_ble_eq_true rfl) ?_
  intro p e s m args below meth c Q F hr hlk ht hQ
  have hR := hL.1
  refine x_aload_n F dX4_carryOver_0 rfl 0 rfl ?_
  refine x_iload_n F dX4_carryOver_1 rfl 1 rfl ?_
  refine z_callVqx F [.int a] (c_X4_subscriberOf l D cy lo R ad q ns nt I J hL hfl a ) mc_X4_subscriberOf mv_X4_subscriberOf lk_X4_92 (hL.1 0 (by decide)) sc_0 rfl rfl rfl dX4_carryOver_2 ⟨Nat.le_of_ble_eq_true rfl, Nat.le_of_ble_eq_true rfl⟩ ⟨Nat.le_of_ble_eq_true rfl, Nat.le_of_ble_eq_true rfl⟩ (Nat.le_of_ble_eq_true rfl) (fun E hE2 => ?_) (fun ok2 => ?_)
  · rw [hQ]
    exact x_out F ht hlk ⟨Or.inl ⟨hE2.1, by simp [hE2.2]⟩, rfl⟩ (by decide) (by decide)
  · refine x_astore_n F [(3, .ref (ad (40 + 2 * a.toNatClampNeg))), (0, .ref (ad 0)), (1, .int a), (2, .int b)] dX4_carryOver_5 rfl (by decide) rfl ?_
    refine x_iload_n F dX4_carryOver_6 rfl 3 rfl ?_
    refine z_callSvx F [.int b] (c_X4_demandCarrier l D cy lo R ad _ hfl b) mc_X4_demandCarrier ms_X4_demandCarrier lk_X4_48 rfl rfl dX4_carryOver_7 ⟨Nat.le_of_ble_eq_true rfl, Nat.le_of_ble_eq_true rfl⟩ ⟨Nat.le_of_ble_eq_true rfl, Nat.le_of_ble_eq_true rfl⟩ (Nat.le_of_ble_eq_true rfl) (fun E hE7 => ?_) (fun ok7 => ?_)
    · rw [hQ]
      exact x_out F ht hlk ⟨Or.inl ⟨hE7.1, by simp [hE7.2]⟩, rfl⟩ (by decide) (by decide)
    · refine x_aload_n F dX4_carryOver_10 rfl 0 rfl ?_
      refine x_iconst F (v := 0) dX4_carryOver_11 (by decide) ?_
      refine z_callVi F [.int 0] (c_X2_homeAt l D cy lo R ad q ns nt I J hR (40 + 2 * a.toNatClampNeg) 0 (sub_rng (isN_lt ok2) hL) ((hL.2.1 _ (isN_lt ok2)).1) ((hL.2.1 _ (isN_lt ok2)).2)) mc_X2_homeAt mv_X2_homeAt lk_X4_96 (hL.2.1 _ (isN_lt ok2)).1 (sc_sub (sub_rng (isN_lt ok2) hL)) rfl rfl rfl dX4_carryOver_12 ⟨Nat.le_of_ble_eq_true rfl, Nat.le_of_ble_eq_true rfl⟩ ⟨Nat.le_of_ble_eq_true rfl, Nat.le_of_ble_eq_true rfl⟩ (Nat.le_of_ble_eq_true rfl) ?_
      refine x_iload_n F dX4_carryOver_15 rfl 3 rfl ?_
      refine x_icmp_ne F 29 dX4_carryOver_16 (by decide) (fun h16 => ?_) (fun h16 => ?_)
      · refine x_aload_n F dX4_carryOver_29 rfl 0 rfl ?_
        refine x_iload_n F dX4_carryOver_30 rfl 3 rfl ?_
        refine z_callVi F [.int b] (c_X2_moveTo l D cy lo R ad q ns nt I J hR (40 + 2 * a.toNatClampNeg) b (sub_rng (isN_lt ok2) hL) ((hL.2.1 _ (isN_lt ok2)).1) ((hL.2.1 _ (isN_lt ok2)).2)) mc_X2_moveTo mv_X2_moveTo lk_X4_102 (hL.2.1 _ (isN_lt ok2)).1 (sc_sub (sub_rng (isN_lt ok2) hL)) rfl rfl rfl dX4_carryOver_31 ⟨Nat.le_of_ble_eq_true rfl, Nat.le_of_ble_eq_true rfl⟩ ⟨Nat.le_of_ble_eq_true rfl, Nat.le_of_ble_eq_true rfl⟩ (Nat.le_of_ble_eq_true rfl) ?_
        refine x_if_ne F 47 dX4_carryOver_34 (by decide) (fun h34 => ?_) (fun h34 => ?_)
        · rw [kb1] at h34
          refine x_aload_n F dX4_carryOver_47 rfl 0 rfl ?_
          refine g_X4_108 F (hL.2.1 _ (isN_lt ok2)).1 (sc_sub (sub_rng (isN_lt ok2) hL)) rfl dX4_carryOver_48 ?_
          rw [hQ]
          refine x_widen (k := 3) (n := 18) (Nat.le_of_ble_eq_true rfl) (Nat.le_of_ble_eq_true rfl) ?_
          exact x_iretx F hr hlk ⟨⟨by assumption, by assumption, by assumption, by assumption⟩, rfl, rfl⟩ dX4_carryOver_51
        · rw [kb0] at h34
          rw [hQ]
          exact x_throw F hfl ht hlk (by decide +kernel) ck_X4_74 ik_IS sk_X4_106 k_at_IS dX4_carryOver_37 dX4_carryOver_40 dX4_carryOver_41 dX4_carryOver_43 dX4_carryOver_46 ⟨Nat.le_of_ble_eq_true rfl, Nat.le_of_ble_eq_true rfl, Nat.le_of_ble_eq_true rfl, Nat.le_of_ble_eq_true rfl⟩ ⟨Or.inr (Or.inr ⟨rfl, by assumption, by assumption, by assumption, by assumption⟩), by simp [moveI, *]⟩ (by decide) (by decide)
      · rw [hQ]
        exact x_throw F hfl ht hlk (by decide +kernel) ck_X4_56 ik_IA sk_X4_100 k_at_IA dX4_carryOver_19 dX4_carryOver_22 dX4_carryOver_23 dX4_carryOver_25 dX4_carryOver_28 ⟨Nat.le_of_ble_eq_true rfl, Nat.le_of_ble_eq_true rfl, Nat.le_of_ble_eq_true rfl, Nat.le_of_ble_eq_true rfl⟩ ⟨Or.inr (Or.inl ⟨rfl, by assumption, by assumption, by assumption⟩), rfl⟩ (by decide) (by decide)
end
section
/-! what findBest leaves: the weights, and the route; the route's length -/
abbrev k_Yi (l : Launch) (y : MethodName) (cc : ByteArray) (mL : Nat) (ret : Option FieldType) (fr lc mc ms : Nat) (D : va_G) (cy : Nat → ClassId) (lo : Nat) (R : List Nat) (ad : Nat → Nat) (w : Nat → va_E) (av : List Value) (ok : Prop) (xp : String → Prop) (rv : Int32) (w' w'' : Nat → va_E) : Prop := k_MetX l y cc mL ret { frames := fr, cells := mc, slots := ms, locals := lc } D cy lo R ad w av (k_Qi D lo (fun r u => ok ∧ r = rv ∧ u = (R, ad, w'))) (fun E u => xp E ∧ u = (R, ad, w''))
def LenOK (I : Nat → Nat → Int32) (r : Nat) : Prop := I r 1 = nI (I r 1).toNatClampNeg ∧ (I r 1).toNatClampNeg ≤ 5 ∧ 1 ≤ (I r 1).toNatClampNeg
theorem LenOK.of {I : Nat → Nat → Int32} {r n : Nat} (h : I r 1 = nI n) (h5 : n ≤ 5) (h1 : 1 ≤ n) : LenOK I r := by
  have e : (I r 1).toNatClampNeg = n := by rw [h, nI_clamp (by omega)]
  exact ⟨by rw [e]; exact h, by omega, by omega⟩
theorem LenOK.eq {I I' : Nat → Nat → Int32} {r : Nat} (h : LenOK I r) (e : I' r 1 = I r 1) : LenOK I' r := by
  unfold LenOK
  rw [e]
  exact h
theorem LenOK.w {I : Nat → Nat → Int32} {r r' k : Nat} {x : Int32} (h : LenOK I r) (hr : r' ≠ r) : LenOK (wI I r' k x) r := h.eq (by rw [wI_eq, if_neg (by omega)])
theorem add_other {I : Nat → Nat → Int32} {r r' k : Nat} {x : Int32} (h1 : r' ≠ r) (h2 : r' ≠ r + 1) : addRI I r x r' k = I r' k := by
  unfold addRI
  split
  · rw [wI_eq, if_neg (by omega), wI_eq, if_neg (by omega)]
  · rfl
theorem relax_other {I : Nat → Nat → Int32} {J : Nat → Nat → Int64} {f n r' k : Nat} (h : r' ≠ 11) : relaxI I J f n r' k = I r' k := by
  unfold relaxI
  split
  · rw [wI_eq, if_neg (by omega)]
  · rfl
theorem inner_other {I : Nat → Nat → Int32} {J : Nat → Nat → Int64} {f r' k : Nat} (h : r' ≠ 11) : ∀ n, innerI I J f n r' k = I r' k := by
  intro n
  induction n with
  | zero => rfl
  | succ n ih => rw [innerI, relax_other h, ih]
theorem mid_other {I : Nat → Nat → Int32} {J : Nat → Nat → Int64} {r' k : Nat} (h : r' ≠ 11) : ∀ n, midI I J n r' k = I r' k := by
  intro n
  induction n with
  | zero => rfl
  | succ n ih => rw [midI, inner_other h, ih]
theorem out_other {I : Nat → Nat → Int32} {J : Nat → Nat → Int64} {r' k : Nat} (h : r' ≠ 11) : ∀ n, outI I J n r' k = I r' k := by
  intro n
  induction n with
  | zero => rfl
  | succ n ih => rw [outI, mid_other h, ih]
theorem weigh_other {I : Nat → Nat → Int32} {J : Nat → Nat → Int64} {b : Int32} {r' k : Nat} (h : r' ≠ 11) : weighI I J b r' k = I r' k := by
  rw [weighI, out_other h, weigh0]
  split
  · rw [wI_eq, if_neg (by omega), fillI, if_neg (by omega)]
  · rw [fillI, if_neg (by omega)]
theorem go_other {I : Nat → Nat → Int32} {J : Nat → Nat → Int64} {r : Nat} {a b : Int32} {r' k : Nat} (h1 : r' ≠ r) (h2 : r' ≠ r + 1) : ∀ j, (goF I J r a b j).2 r' k = I r' k := by
  intro j
  induction j with
  | zero =>
    show addRI (wI I r 1 0) r a r' k = _
    rw [add_other h1 h2, wI_eq, if_neg (by omega)]
  | succ j ih =>
    rw [goF]
    split
    · exact ih
    · show addRI (goF I J r a b j).2 r _ r' k = _
      rw [add_other h1 h2, ih]
theorem fb_other {I : Nat → Nat → Int32} {J : Nat → Nat → Int64} {r : Nat} {a b : Int32} {r' k : Nat} (h : r' ≠ 11) (h1 : r' ≠ r) (h2 : r' ≠ r + 1) : fbI I J a b r r' k = I r' k := by
  unfold fbI
  split
  · split
    · rw [go_other h1 h2, weigh_other h]
    · rw [weigh_other h]
  · rfl
theorem add_len {I : Nat → Nat → Int32} {r n : Nat} {x : Int32} (h : I r 1 = nI n) (hn : n < 5) : addRI I r x r 1 = nI (n + 1) := by
  have h1 : (!decide (I r 1 < 0) && !decide (5 ≤ I r 1)) = true := by
    rw [h]
    simp only [Bool.and_eq_true, Bool.not_eq_true', decide_eq_false_iff_not]
    refine ⟨nI_pos (by omega), fun hc => ?_⟩
    have hc2 : nI 5 ≤ nI n := hc
    rw [nI_leI (by omega) (by omega)] at hc2
    omega
  rw [addRI, if_pos h1, wI_eq, if_pos ⟨rfl, rfl⟩, wI_eq, if_neg (by omega), h, nI_1]
theorem go_len {I : Nat → Nat → Int32} {J : Nat → Nat → Int64} {r : Nat} {a b : Int32} : ∀ j, j ≤ 4 → ∃ n, 1 ≤ n ∧ n ≤ j + 1 ∧ (goF I J r a b j).2 r 1 = nI n := by
  intro j
  induction j with
  | zero => exact fun _ => ⟨1, by omega, by omega, by rw [go_0]; exact add_len (n := 0) (by rw [wI_eq, if_pos ⟨rfl, rfl⟩]; rfl) (by omega)⟩
  | succ j ih =>
    intro hj
    obtain ⟨n, h1, h2, h3⟩ := ih (by omega)
    rw [goF]
    split
    · exact ⟨n, h1, by omega, h3⟩
    · exact ⟨n + 1, by omega, by omega, add_len h3 (by omega)⟩
theorem fb_no {I : Nat → Nat → Int32} {J : Nat → Nat → Int64} {a b : Int32} {r : Nat} (h : (isCar a && isCar b) = false) : fbI I J a b r = I := by
  rw [fbI, if_neg (by simp [h])]
theorem fb_len {I : Nat → Nat → Int32} {J : Nat → Nat → Int64} {r : Nat} {a b : Int32} (h : fbB I J a b = true) : LenOK (fbI I J a b r) r := by
  simp only [fbB, Bool.and_eq_true, decide_eq_true_eq] at h
  rw [fbI, if_pos (by simp [h.1]), if_pos h.2]
  obtain ⟨n, h1, h2, h3⟩ := go_len (I := weighI I J b) (J := J) (r := r) (a := a) (b := b) 4 (by omega)
  exact LenOK.of h3 (by omega) h1
theorem pay_other {I : Nat → Nat → Int32} {r : Nat} {x t : Int32} {r' k : Nat} (h : r' ≠ r) : payI I r x t r' k = I r' k := by
  unfold payI
  split
  · split
    · rfl
    · rw [wI_eq, if_neg (by omega)]
  · rw [wI_eq, if_neg (by omega)]
def costC (I : Nat → Nat → Int32) (J : Nat → Nat → Int64) (a b : Int32) : Int32 := if fbB I J a b = true then costF (fbI I J a b 6) 6 (fbI I J a b 6 6 1).toNatClampNeg else -1
def bestC (I : Nat → Nat → Int32) (J : Nat → Nat → Int64) (a b x : Int32) : Int32 := if fbB I J a b = true then carAt (fbI I J a b 6) 6 x else -1
set_option maxHeartbeats 4000000 in
set_option maxRecDepth 100000 in
/-- cost -/
theorem c_X4_cost (l : Launch) (D : va_G) (cy : Nat → ClassId) (lo : Nat) (R : List Nat) (ad : Nat → Nat) (q : Nat → Nat → Nat) (ns nt : Nat) (I : Nat → Nat → Int32) (J : Nat → Nat → Int64) (hL : k_RL R ns nt) (hfl : l.stackTraces = false) (a : Int32) (b : Int32) : k_Xi l yX4_cost cX4_cost 3 (some .int) 7 117 2 12 D cy lo R ad (k_c cy ad q ns nt I J) [.ref (ad 0), .int a, .int b] ((isCar a && isCar b) = true) (fun E => E = e_IO ∧ (isCar a && isCar b) = false) (costC I J a b) (k_c cy ad q ns nt (fbI I J a b 6) J) := by
  refine k_metXQ (by decide +kernel) (Nat.le_of_ble_eq_true rfl) ?_
  intro p e s m args below meth c Q F hr hlk ht hQ
  have hR := hL.1
  refine x_iload_n F dX4_cost_0 rfl 1 rfl ?_
  refine z_callSvx F [.int a] (c_X4_demandCarrier l D cy lo R ad _ hfl a) mc_X4_demandCarrier ms_X4_demandCarrier lk_X4_48 rfl rfl dX4_cost_1 ⟨Nat.le_of_ble_eq_true rfl, Nat.le_of_ble_eq_true rfl⟩ ⟨Nat.le_of_ble_eq_true rfl, Nat.le_of_ble_eq_true rfl⟩ (Nat.le_of_ble_eq_true rfl) (fun E hE1 => ?_) (fun ok1 => ?_)
  · rw [hQ]
    exact x_out F ht hlk ⟨⟨hE1.1, by simp [hE1.2]⟩, rfl⟩ (by decide) (by decide)
  · refine x_iload_n F dX4_cost_4 rfl 2 rfl ?_
    refine z_callSvx F [.int b] (c_X4_demandCarrier l D cy lo R ad _ hfl b) mc_X4_demandCarrier ms_X4_demandCarrier lk_X4_48 rfl rfl dX4_cost_5 ⟨Nat.le_of_ble_eq_true rfl, Nat.le_of_ble_eq_true rfl⟩ ⟨Nat.le_of_ble_eq_true rfl, Nat.le_of_ble_eq_true rfl⟩ (Nat.le_of_ble_eq_true rfl) (fun E hE5 => ?_) (fun ok5 => ?_)
    · rw [hQ]
      exact x_out F ht hlk ⟨⟨hE5.1, by simp [hE5.2]⟩, rfl⟩ (by decide) (by decide)
    · refine x_aload_n F dX4_cost_8 rfl 0 rfl ?_
      refine g_X4_19 F (hL.1 0 (by decide)) sc_0 rfl dX4_cost_9 ?_
      refine x_iload_n F dX4_cost_12 rfl 1 rfl ?_
      refine x_iload_n F dX4_cost_13 rfl 2 rfl ?_
      refine x_aload_n F dX4_cost_14 rfl 0 rfl ?_
      refine g_X4_38 F (hL.1 0 (by decide)) sc_0 rfl dX4_cost_15 ?_
      refine z_callVi F [.int a, .int b, .ref (ad 6)] (c_X0_findBest l D cy lo R ad q ns nt I J hR 6 a b (Or.inl rfl) (hL.1 6 (by decide)) (hL.1 7 (by decide))) mc_X0_findBest mv_X0_findBest lk_X4_138 (hR 3 (by decide)) sc_3 rfl rfl rfl dX4_cost_18 ⟨Nat.le_of_ble_eq_true rfl, Nat.le_of_ble_eq_true rfl⟩ ⟨Nat.le_of_ble_eq_true rfl, Nat.le_of_ble_eq_true rfl⟩ (Nat.le_of_ble_eq_true rfl) ?_
      refine x_if_eq F 38 dX4_cost_21 (by decide) (fun h21 => ?_) (fun h21 => ?_)
      · rw [kb0] at h21
        refine x_iconst F (v := -1) dX4_cost_38 (by decide) ?_
        rw [hQ]
        refine x_widen (k := 2) (n := 12) (Nat.le_of_ble_eq_true rfl) (Nat.le_of_ble_eq_true rfl) ?_
        exact x_iretx F hr hlk ⟨by simp [*], by simp [costC, *], rfl⟩ dX4_cost_39
      · rw [kb1] at h21
        refine x_aload_n F dX4_cost_24 rfl 0 rfl ?_
        refine g_X4_19 F (hL.1 0 (by decide)) sc_0 rfl dX4_cost_25 ?_
        refine x_aload_n F dX4_cost_28 rfl 0 rfl ?_
        refine g_X4_38 F (hL.1 0 (by decide)) sc_0 rfl dX4_cost_29 ?_
        refine z_callVi F [.ref (ad 6)] (c_X0_costOf l D cy lo R ad q ns nt (fbI I J a b 6) J hR 6 (Or.inl rfl) (hL.1 6 (by decide)) (hL.1 7 (by decide)) (fbI I J a b 6 6 1).toNatClampNeg ((fb_len h21).1) ((fb_len h21).2.1) ((fb_len h21).2.2)) mc_X0_costOf mv_X0_costOf lk_X4_177 (hR 3 (by decide)) sc_3 rfl rfl rfl dX4_cost_32 ⟨Nat.le_of_ble_eq_true rfl, Nat.le_of_ble_eq_true rfl⟩ ⟨Nat.le_of_ble_eq_true rfl, Nat.le_of_ble_eq_true rfl⟩ (Nat.le_of_ble_eq_true rfl) ?_
        refine x_goto F 39 dX4_cost_35 (by decide) ?_
        rw [hQ]
        refine x_widen (k := 2) (n := 12) (Nat.le_of_ble_eq_true rfl) (Nat.le_of_ble_eq_true rfl) ?_
        exact x_iretx F hr hlk ⟨by simp [*], by simp [costC, *], rfl⟩ dX4_cost_39
set_option maxHeartbeats 4000000 in
set_option maxRecDepth 100000 in
/-- best -/
theorem c_X4_best (l : Launch) (D : va_G) (cy : Nat → ClassId) (lo : Nat) (R : List Nat) (ad : Nat → Nat) (q : Nat → Nat → Nat) (ns nt : Nat) (I : Nat → Nat → Int32) (J : Nat → Nat → Int64) (hL : k_RL R ns nt) (hfl : l.stackTraces = false) (a : Int32) (b : Int32) (x : Int32) : k_Yi l yX4_best cX4_best 5 (some .int) 7 117 3 18 D cy lo R ad (k_c cy ad q ns nt I J) [.ref (ad 0), .int a, .int b, .int x] ((isCar a && isCar b) = true ∧ ¬ bestC I J a b x = -1) (fun E => E = e_IO ∧ ((isCar a && isCar b) = false ∨ bestC I J a b x = -1)) (bestC I J a b x) (k_c cy ad q ns nt (fbI I J a b 6) J) (k_c cy ad q ns nt (fbI I J a b 6) J) := by
  refine k_metXQ (by decide +kernel) (Nat.le_of_ble_eq_true rfl) ?_
  intro p e s m args below meth c Q F hr hlk ht hQ
  have hR := hL.1
  refine x_iload_n F dX4_best_0 rfl 1 rfl ?_
  refine z_callSvx F [.int a] (c_X4_demandCarrier l D cy lo R ad _ hfl a) mc_X4_demandCarrier ms_X4_demandCarrier lk_X4_48 rfl rfl dX4_best_1 ⟨Nat.le_of_ble_eq_true rfl, Nat.le_of_ble_eq_true rfl⟩ ⟨Nat.le_of_ble_eq_true rfl, Nat.le_of_ble_eq_true rfl⟩ (Nat.le_of_ble_eq_true rfl) (fun E hE1 => ?_) (fun ok1 => ?_)
  · rw [hQ]
    exact x_out F ht hlk ⟨⟨hE1.1, Or.inl (by simp [hE1.2])⟩, by rw [fb_no (by simp [*])]⟩ (by decide) (by decide)
  · refine x_iload_n F dX4_best_4 rfl 2 rfl ?_
    refine z_callSvx F [.int b] (c_X4_demandCarrier l D cy lo R ad _ hfl b) mc_X4_demandCarrier ms_X4_demandCarrier lk_X4_48 rfl rfl dX4_best_5 ⟨Nat.le_of_ble_eq_true rfl, Nat.le_of_ble_eq_true rfl⟩ ⟨Nat.le_of_ble_eq_true rfl, Nat.le_of_ble_eq_true rfl⟩ (Nat.le_of_ble_eq_true rfl) (fun E hE5 => ?_) (fun ok5 => ?_)
    · rw [hQ]
      exact x_out F ht hlk ⟨⟨hE5.1, Or.inl (by simp [hE5.2])⟩, by rw [fb_no (by simp [*])]⟩ (by decide) (by decide)
    · refine x_aload_n F dX4_best_8 rfl 0 rfl ?_
      refine g_X4_19 F (hL.1 0 (by decide)) sc_0 rfl dX4_best_9 ?_
      refine x_iload_n F dX4_best_12 rfl 1 rfl ?_
      refine x_iload_n F dX4_best_13 rfl 2 rfl ?_
      refine x_aload_n F dX4_best_14 rfl 0 rfl ?_
      refine g_X4_38 F (hL.1 0 (by decide)) sc_0 rfl dX4_best_15 ?_
      refine z_callVi F [.int a, .int b, .ref (ad 6)] (c_X0_findBest l D cy lo R ad q ns nt I J hR 6 a b (Or.inl rfl) (hL.1 6 (by decide)) (hL.1 7 (by decide))) mc_X0_findBest mv_X0_findBest lk_X4_138 (hR 3 (by decide)) sc_3 rfl rfl rfl dX4_best_18 ⟨Nat.le_of_ble_eq_true rfl, Nat.le_of_ble_eq_true rfl⟩ ⟨Nat.le_of_ble_eq_true rfl, Nat.le_of_ble_eq_true rfl⟩ (Nat.le_of_ble_eq_true rfl) ?_
      refine x_if_eq F 35 dX4_best_21 (by decide) (fun h21 => ?_) (fun h21 => ?_)
      · rw [kb0] at h21
        refine x_iconst F (v := -1) dX4_best_35 (by decide) ?_
        refine x_istore F [(4, .int (-1)), (0, .ref (ad 0)), (1, .int a), (2, .int b), (3, .int x)] dX4_best_36 (by decide) rfl ?_
        refine x_iload F dX4_best_38 0 rfl ?_
        refine x_iconst F (v := -1) dX4_best_40 (by decide) ?_
        refine x_icmp_ne F 54 dX4_best_41 (by decide) (fun h41 => ?_) (fun h41 => ?_)
        · exact False.elim (by revert h41; decide)
        · rw [hQ]
          exact x_throw F hfl ht hlk (by decide +kernel) ck_X4_111 ik_IO sk_X4_181 k_at_IO dX4_best_44 dX4_best_47 dX4_best_48 dX4_best_50 dX4_best_53 ⟨Nat.le_of_ble_eq_true rfl, Nat.le_of_ble_eq_true rfl, Nat.le_of_ble_eq_true rfl, Nat.le_of_ble_eq_true rfl⟩ ⟨⟨rfl, Or.inr (by simp [bestC, *])⟩, rfl⟩ (by decide) (by decide)
      · rw [kb1] at h21
        refine x_aload_n F dX4_best_24 rfl 0 rfl ?_
        refine g_X4_38 F (hL.1 0 (by decide)) sc_0 rfl dX4_best_25 ?_
        refine x_iload_n F dX4_best_28 rfl 3 rfl ?_
        refine z_callVi F [.int x] (c_X1_carrierAt l D cy lo R ad q ns nt (fbI I J a b 6) J hR 6 x (Or.inl rfl) (hL.1 6 (by decide)) (hL.1 7 (by decide))) mc_X1_carrierAt mv_X1_carrierAt lk_X4_172 (hR 6 (by decide)) sc_6 rfl rfl rfl dX4_best_29 ⟨Nat.le_of_ble_eq_true rfl, Nat.le_of_ble_eq_true rfl⟩ ⟨Nat.le_of_ble_eq_true rfl, Nat.le_of_ble_eq_true rfl⟩ (Nat.le_of_ble_eq_true rfl) ?_
        refine x_goto F 36 dX4_best_32 (by decide) ?_
        refine x_istore F [(4, .int (carAt (fbI I J a b 6) 6 x)), (0, .ref (ad 0)), (1, .int a), (2, .int b), (3, .int x)] dX4_best_36 (by decide) rfl ?_
        refine x_iload F dX4_best_38 0 rfl ?_
        refine x_iconst F (v := -1) dX4_best_40 (by decide) ?_
        refine x_icmp_ne F 54 dX4_best_41 (by decide) (fun h41 => ?_) (fun h41 => ?_)
        · refine x_iload F dX4_best_54 0 rfl ?_
          rw [hQ]
          refine x_widen (k := 3) (n := 18) (Nat.le_of_ble_eq_true rfl) (Nat.le_of_ble_eq_true rfl) ?_
          exact x_iretx F hr hlk ⟨⟨by simp [*], by simp [bestC, *]⟩, by simp [bestC, *], rfl⟩ dX4_best_56
        · rw [hQ]
          exact x_throw F hfl ht hlk (by decide +kernel) ck_X4_111 ik_IO sk_X4_181 k_at_IO dX4_best_44 dX4_best_47 dX4_best_48 dX4_best_50 dX4_best_53 ⟨Nat.le_of_ble_eq_true rfl, Nat.le_of_ble_eq_true rfl, Nat.le_of_ble_eq_true rfl, Nat.le_of_ble_eq_true rfl⟩ ⟨⟨rfl, Or.inr (by simp [bestC, *])⟩, rfl⟩ (by decide) (by decide)
end
section
/-! what the loops over the list of calls find -/
def posF (J : Nat → Nat → Int64) (c : Int32) : Nat → Int64
  | 0 => 0
  | k + 1 => posF J c k + debtF J (nI k) c
def chSum (J : Nat → Nat → Int64) (nt : Nat) (x : Int32) : Nat → Int64
  | 0 => 0
  | k + 1 => if (nI k).toNatClampNeg < nt then chSum J nt x k + chF J (80 + 4 * (nI k).toNatClampNeg) x else chSum J nt x k
def busyC (I : Nat → Nat → Int32) (q : Nat → Nat → Nat) (nt r : Nat) : Nat → Bool
  | 0 => false
  | k + 1 => busyC I q nt r k || (decide ((nI k).toNatClampNeg < nt) && (decide (I (80 + 4 * (nI k).toNatClampNeg) 6 = 0) && (decide (40 + 2 * q (80 + 4 * (nI k).toNatClampNeg) 0 = r) || decide (40 + 2 * q (80 + 4 * (nI k).toNatClampNeg) 1 = r))))
theorem busyC_up {I : Nat → Nat → Int32} {q : Nat → Nat → Nat} {nt r k : Nat} (h : busyC I q nt r k = true) : ∀ n, k ≤ n → busyC I q nt r n = true := by
  intro n
  induction n with
  | zero => intro hk; rw [show k = 0 by omega] at h; exact h
  | succ n ih =>
    intro hk
    rcases Nat.lt_or_ge n k with z | z
    · rw [show n + 1 = k by omega]; exact h
    · rw [busyC, ih z]; rfl
def k_Q (q : Nat → Nat → Nat) (ns nt : Nat) : Prop := ∀ j, j < nt → q (80 + 4 * j) 0 < ns ∧ q (80 + 4 * j) 1 < ns
set_option maxHeartbeats 4000000 in
set_option maxRecDepth 100000 in
/-- position -/
theorem c_X4_position (l : Launch) (D : va_G) (cy : Nat → ClassId) (lo : Nat) (R : List Nat) (ad : Nat → Nat) (q : Nat → Nat → Nat) (ns nt : Nat) (I : Nat → Nat → Int32) (J : Nat → Nat → Int64) (hL : k_RL R ns nt) (hfl : l.stackTraces = false) (a : Int32) : k_Xl l yX4_position cX4_position 5 (some .long) 7 106 1 6 D cy lo R ad (k_c cy ad q ns nt I J) [.ref (ad 0), .int a] (isCar a = true) (fun E => E = e_IO ∧ isCar a = false) (posF J a 5) (k_c cy ad q ns nt I J) := by
  refine k_metXQ (by decide +kernel) (Nat.le_of_ble_eq_true rfl) ?_
  intro p e s m args below meth c Q F hr hlk ht hQ
  have hR := hL.1
  refine x_iload_n F dX4_position_0 rfl 1 rfl ?_
  refine z_callSvx F [.int a] (c_X4_demandCarrier l D cy lo R ad _ hfl a) mc_X4_demandCarrier ms_X4_demandCarrier lk_X4_48 rfl rfl dX4_position_1 ⟨Nat.le_of_ble_eq_true rfl, Nat.le_of_ble_eq_true rfl⟩ ⟨Nat.le_of_ble_eq_true rfl, Nat.le_of_ble_eq_true rfl⟩ (Nat.le_of_ble_eq_true rfl) (fun E hE1 => ?_) (fun ok1 => ?_)
  · rw [hQ]
    exact x_out F ht hlk ⟨hE1, rfl⟩ (by decide) (by decide)
  · refine x_lconst F (v := 0) dX4_position_4 (by decide) ?_
    refine x_lstore_n F [(2, .long 0), (0, .ref (ad 0)), (1, .int a)] dX4_position_5 rfl (by decide) rfl ?_
    refine x_iconst F (v := 0) dX4_position_6 (by decide) ?_
    refine x_istore F [(4, .int 0), (2, .long 0), (0, .ref (ad 0)), (1, .int a)] dX4_position_7 (by decide) rfl ?_
    have lp9 : ∀ (fu9 : Nat) (k : Nat), 5 - k < fu9 → (k ≤ 5) → XW D lo p l e { frames := 7, cells := 1, slots := 6, locals := 106 } s m args below meth c 5 1 6 Q R ad (k_c cy ad q ns nt I J) 9 [(4, .int (nI k)), (2, .long (posF J a k)), (0, .ref (ad 0)), (1, .int a)] [] := by
      intro fu9
      induction fu9 with
      | zero => intro k hf9; exact absurd hf9 (Nat.not_lt_zero _)
      | succ fu9 ih9 =>
        intro k hf9 hkn
        refine x_iload F dX4_position_9 0 rfl ?_
        refine x_iconst F (v := 5) dX4_position_11 (by decide) ?_
        refine x_icmp_ge F 34 dX4_position_12 (by decide) (fun h12 => ?_) (fun h12 => ?_)
        · have hk9 : k = 5 := lp_exit (N := 5) (by omega) hkn h12
          subst hk9
          refine x_lload_n F dX4_position_34 rfl 1 rfl ?_
          rw [hQ]
          refine x_widen (k := 1) (n := 6) (Nat.le_of_ble_eq_true rfl) (Nat.le_of_ble_eq_true rfl) ?_
          exact x_lretx F hr hlk ⟨by assumption, rfl, rfl⟩ dX4_position_35
        · have hk9 : k < 5 := lp_go (N := 5) (by omega) hkn h12
          refine x_lload_n F dX4_position_15 rfl 1 rfl ?_
          refine x_aload_n F dX4_position_16 rfl 2 rfl ?_
          refine g_X4_19 F (hL.1 0 (by decide)) sc_0 rfl dX4_position_17 ?_
          refine x_iload F dX4_position_20 0 rfl ?_
          refine x_iload_n F dX4_position_22 rfl 3 rfl ?_
          refine z_callVl F [.int (nI k), .int a] (c_X0_debtOf l D cy lo R ad q ns nt I J hR (nI k) a ) mc_X0_debtOf mv_X0_debtOf lk_X4_187 (hR 3 (by decide)) sc_3 rfl rfl rfl dX4_position_23 ⟨Nat.le_of_ble_eq_true rfl, Nat.le_of_ble_eq_true rfl⟩ ⟨Nat.le_of_ble_eq_true rfl, Nat.le_of_ble_eq_true rfl⟩ (Nat.le_of_ble_eq_true rfl) ?_
          refine x_ladd F dX4_position_26 ?_
          refine x_lstore_n F [(2, .long ((posF J a k) + (debtF J (nI k) a))), (4, .int (nI k)), (0, .ref (ad 0)), (1, .int a)] dX4_position_27 rfl (by decide) rfl ?_
          refine x_iinc F [(4, .int ((nI k) + 1)), (2, .long ((posF J a k) + (debtF J (nI k) a))), (0, .ref (ad 0)), (1, .int a)] dX4_position_28 1 rfl (by decide) rfl ?_
          refine x_goto F 9 dX4_position_31 (by decide) ?_
          rw [nI_1]
          refine x_sub [0, 1, 2, 3] rfl ?_
          exact ih9 (k + 1) (by omega) (by omega)
    exact lp9 6 0 (by omega) (by omega)
set_option maxHeartbeats 4000000 in
set_option maxRecDepth 100000 in
/-- charged -/
theorem c_X4_charged (l : Launch) (D : va_G) (cy : Nat → ClassId) (lo : Nat) (R : List Nat) (ad : Nat → Nat) (q : Nat → Nat → Nat) (ns nt : Nat) (I : Nat → Nat → Int32) (J : Nat → Nat → Int64) (hL : k_RL R ns nt) (hfl : l.stackTraces = false) (a : Int32) (b : Int32) : k_Xl l yX4_charged cX4_charged 10 (some .long) 7 106 2 12 D cy lo R ad (k_c cy ad q ns nt I J) [.ref (ad 0), .int a, .int b] ((isCar a && isCar b) = true) (fun E => E = e_IO ∧ (isCar a && isCar b) = false) (chSum J nt (pairI a b) 60) (k_c cy ad q ns nt I J) := by
  refine k_metXQ (by decide +kernel) (Nat.le_of_ble_eq_true rfl) ?_
  intro p e s m args below meth c Q F hr hlk ht hQ
  have hR := hL.1
  refine x_iload_n F dX4_charged_0 rfl 1 rfl ?_
  refine z_callSvx F [.int a] (c_X4_demandCarrier l D cy lo R ad _ hfl a) mc_X4_demandCarrier ms_X4_demandCarrier lk_X4_48 rfl rfl dX4_charged_1 ⟨Nat.le_of_ble_eq_true rfl, Nat.le_of_ble_eq_true rfl⟩ ⟨Nat.le_of_ble_eq_true rfl, Nat.le_of_ble_eq_true rfl⟩ (Nat.le_of_ble_eq_true rfl) (fun E hE1 => ?_) (fun ok1 => ?_)
  · rw [hQ]
    exact x_out F ht hlk ⟨⟨hE1.1, by simp [hE1.2]⟩, rfl⟩ (by decide) (by decide)
  · refine x_iload_n F dX4_charged_4 rfl 2 rfl ?_
    refine z_callSvx F [.int b] (c_X4_demandCarrier l D cy lo R ad _ hfl b) mc_X4_demandCarrier ms_X4_demandCarrier lk_X4_48 rfl rfl dX4_charged_5 ⟨Nat.le_of_ble_eq_true rfl, Nat.le_of_ble_eq_true rfl⟩ ⟨Nat.le_of_ble_eq_true rfl, Nat.le_of_ble_eq_true rfl⟩ (Nat.le_of_ble_eq_true rfl) (fun E hE5 => ?_) (fun ok5 => ?_)
    · rw [hQ]
      exact x_out F ht hlk ⟨⟨hE5.1, by simp [hE5.2]⟩, rfl⟩ (by decide) (by decide)
    · refine x_iload_n F dX4_charged_8 rfl 1 rfl ?_
      refine x_iload_n F dX4_charged_9 rfl 2 rfl ?_
      refine z_callSi F [.int a, .int b] (c_X4_pairOf l D cy lo R ad _ a b) mc_X4_pairOf ms_X4_pairOf lk_X4_191 rfl rfl dX4_charged_10 ⟨Nat.le_of_ble_eq_true rfl, Nat.le_of_ble_eq_true rfl⟩ ⟨Nat.le_of_ble_eq_true rfl, Nat.le_of_ble_eq_true rfl⟩ (Nat.le_of_ble_eq_true rfl) ?_
      refine x_istore_n F [(3, .int (pairI a b)), (0, .ref (ad 0)), (1, .int a), (2, .int b)] dX4_charged_13 rfl (by decide) rfl ?_
      refine x_lconst F (v := 0) dX4_charged_14 (by decide) ?_
      refine x_lstore F [(4, .long 0), (3, .int (pairI a b)), (0, .ref (ad 0)), (1, .int a), (2, .int b)] dX4_charged_15 (by decide) rfl ?_
      refine x_aload_n F dX4_charged_17 rfl 2 rfl ?_
      refine g_X4_31 F (hL.1 0 (by decide)) sc_0 rfl dX4_charged_18 ?_
      refine x_astore F [(6, .ref (ad 5)), (4, .long 0), (3, .int (pairI a b)), (0, .ref (ad 0)), (1, .int a), (2, .int b)] dX4_charged_21 (by decide) rfl ?_
      refine x_aload F dX4_charged_23 0 rfl ?_
      refine x_alenT F (hR 5 (by decide)) (ss_5 _ _) dX4_charged_25 ?_
      refine x_istore F [(7, .int (nI 60)), (6, .ref (ad 5)), (4, .long 0), (3, .int (pairI a b)), (0, .ref (ad 0)), (1, .int a), (2, .int b)] dX4_charged_26 (by decide) rfl ?_
      refine x_iconst F (v := 0) dX4_charged_28 (by decide) ?_
      refine x_istore F [(8, .int 0), (7, .int (nI 60)), (6, .ref (ad 5)), (4, .long 0), (3, .int (pairI a b)), (0, .ref (ad 0)), (1, .int a), (2, .int b)] dX4_charged_29 (by decide) rfl ?_
      have lp31 : ∀ (fu31 : Nat) (k : Nat), 60 - k < fu31 → (k ≤ 60) → XW D lo p l e { frames := 7, cells := 2, slots := 12, locals := 106 } s m args below meth c 10 2 12 Q R ad (k_c cy ad q ns nt I J) 31 [(8, .int (nI k)), (7, .int (nI 60)), (6, .ref (ad 5)), (4, .long (chSum J nt (pairI a b) k)), (3, .int (pairI a b)), (0, .ref (ad 0)), (1, .int a), (2, .int b)] [] := by
        intro fu31
        induction fu31 with
        | zero => intro k hf31; exact absurd hf31 (Nat.not_lt_zero _)
        | succ fu31 ih31 =>
          intro k hf31 hkn
          refine x_iload F dX4_charged_31 0 rfl ?_
          refine x_iload F dX4_charged_33 1 rfl ?_
          refine x_icmp_ge F 67 dX4_charged_35 (by decide) (fun h35 => ?_) (fun h35 => ?_)
          · have hk9 : k = 60 := lp_exit (N := 60) (by omega) hkn h35
            subst hk9
            refine x_lload F dX4_charged_67 3 rfl ?_
            rw [hQ]
            refine x_widen (k := 2) (n := 12) (Nat.le_of_ble_eq_true rfl) (Nat.le_of_ble_eq_true rfl) ?_
            exact x_lretx F hr hlk ⟨by simp [*], rfl, rfl⟩ dX4_charged_69
          · have hk9 : k < 60 := lp_go (N := 60) (by omega) hkn h35
            refine x_aload F dX4_charged_38 2 rfl ?_
            refine x_iload F dX4_charged_40 0 rfl ?_
            refine y_aldT F (hR 5 (by decide)) (ss_5 _ _) (vp_in_nI hk9 (by omega)) dX4_charged_42 ?_
            refine x_rf (fun h42n => ?_) (fun h42n => ?_)
            · refine x_astore F [(9, .ref (ad (80 + 4 * (nI k).toNatClampNeg))), (8, .int (nI k)), (7, .int (nI 60)), (6, .ref (ad 5)), (4, .long (chSum J nt (pairI a b) k)), (3, .int (pairI a b)), (0, .ref (ad 0)), (1, .int a), (2, .int b)] dX4_charged_43 (by decide) rfl ?_
              refine x_aload F dX4_charged_45 0 rfl ?_
              refine x_ifnull F dX4_charged_47 ?_
              refine x_lload F dX4_charged_50 4 rfl ?_
              refine x_aload F dX4_charged_52 0 rfl ?_
              refine x_iload_n F dX4_charged_54 rfl 5 rfl ?_
              refine z_callVl F [.int (pairI a b)] (c_X3_chargeOf l D cy lo R ad q ns nt I J hR (80 + 4 * (nI k).toNatClampNeg) (pairI a b) (tlk_rng ((nI k).toNatClampNeg)) ((hL.2.2.1 _ h42n).1) ((hL.2.2.1 _ h42n).2.1) ((hL.2.2.1 _ h42n).2.2.1) ((hL.2.2.1 _ h42n).2.2.2)) mc_X3_chargeOf mv_X3_chargeOf lk_X4_194 (hL.2.2.1 _ h42n).1 (sc_tlk (tlk_rng ((nI k).toNatClampNeg))) rfl rfl rfl dX4_charged_55 ⟨Nat.le_of_ble_eq_true rfl, Nat.le_of_ble_eq_true rfl⟩ ⟨Nat.le_of_ble_eq_true rfl, Nat.le_of_ble_eq_true rfl⟩ (Nat.le_of_ble_eq_true rfl) ?_
              refine x_ladd F dX4_charged_58 ?_
              refine x_lstore F [(4, .long ((chSum J nt (pairI a b) k) + (chF J (80 + 4 * (nI k).toNatClampNeg) (pairI a b)))), (9, .ref (ad (80 + 4 * (nI k).toNatClampNeg))), (8, .int (nI k)), (7, .int (nI 60)), (6, .ref (ad 5)), (3, .int (pairI a b)), (0, .ref (ad 0)), (1, .int a), (2, .int b)] dX4_charged_59 (by decide) rfl ?_
              refine x_iinc F [(8, .int ((nI k) + 1)), (4, .long ((chSum J nt (pairI a b) k) + (chF J (80 + 4 * (nI k).toNatClampNeg) (pairI a b)))), (9, .ref (ad (80 + 4 * (nI k).toNatClampNeg))), (7, .int (nI 60)), (6, .ref (ad 5)), (3, .int (pairI a b)), (0, .ref (ad 0)), (1, .int a), (2, .int b)] dX4_charged_61 2 rfl (by decide) rfl ?_
              refine x_goto F 31 dX4_charged_64 (by decide) ?_
              rw [nI_1]
              refine x_sub [0, 3, 4, 1, 5, 6, 7, 8] rfl ?_
              rw [show chSum J nt (pairI a b) k + chF J (80 + 4 * (nI k).toNatClampNeg) (pairI a b) = chSum J nt (pairI a b) (k + 1) by rw [chSum, if_pos h42n]]
              exact ih31 (k + 1) (by omega) (by omega)
            · refine x_astoreN F [(9, .null), (8, .int (nI k)), (7, .int (nI 60)), (6, .ref (ad 5)), (4, .long (chSum J nt (pairI a b) k)), (3, .int (pairI a b)), (0, .ref (ad 0)), (1, .int a), (2, .int b)] dX4_charged_43 (by decide) rfl ?_
              refine x_aloadN F dX4_charged_45 0 rfl ?_
              refine x_ifnullN F 61 dX4_charged_47 (by decide) ?_
              refine x_iinc F [(8, .int ((nI k) + 1)), (9, .null), (7, .int (nI 60)), (6, .ref (ad 5)), (4, .long (chSum J nt (pairI a b) k)), (3, .int (pairI a b)), (0, .ref (ad 0)), (1, .int a), (2, .int b)] dX4_charged_61 1 rfl (by decide) rfl ?_
              refine x_goto F 31 dX4_charged_64 (by decide) ?_
              rw [nI_1]
              refine x_sub [0, 2, 3, 4, 5, 6, 7, 8] rfl ?_
              rw [show chSum J nt (pairI a b) k = chSum J nt (pairI a b) (k + 1) by rw [chSum, if_neg h42n]]
              exact ih31 (k + 1) (by omega) (by omega)
      refine x_sub [0, 1, 2, 3, 4, 5, 6, 7] rfl ?_
      exact lp31 61 0 (by omega) (by omega)
set_option maxHeartbeats 4000000 in
set_option maxRecDepth 100000 in
/-- isTalking -/
theorem c_X4_isTalking (l : Launch) (D : va_G) (cy : Nat → ClassId) (lo : Nat) (R : List Nat) (ad : Nat → Nat) (q : Nat → Nat → Nat) (ns nt : Nat) (I : Nat → Nat → Int32) (J : Nat → Nat → Int64) (hR : ∀ r, r < 19 → r ∈ R) (r : Nat) (hk : 40 ≤ r ∧ r < 80 ∧ r % 2 = 0) (hm : r ∈ R) (hn : r + 1 ∈ R) (hL : k_RL R ns nt) (hq : k_Q q ns nt) : k_Ci l yX4_isTalking cX4_isTalking 6 (some .boolean) 0 0 D cy lo R ad (k_c cy ad q ns nt I J) [.ref (ad 0), .ref (ad r)] (k_b (busyC I q nt r 60)) (k_c cy ad q ns nt I J) := by
  refine k_metQ (by decide +kernel) (Nat.le_of_ble_eq_true rfl) ?_
  intro p e s m args below meth c Q F hr hlk hnm hQ
  refine x_aload_n F dX4_isTalking_0 rfl 0 rfl ?_
  refine g_X4_31 F (hL.1 0 (by decide)) sc_0 rfl dX4_isTalking_1 ?_
  refine x_astore_n F [(2, .ref (ad 5)), (0, .ref (ad 0)), (1, .ref (ad r))] dX4_isTalking_4 rfl (by decide) rfl ?_
  refine x_aload_n F dX4_isTalking_5 rfl 0 rfl ?_
  refine x_alenT F (hR 5 (by decide)) (ss_5 _ _) dX4_isTalking_6 ?_
  refine x_istore_n F [(3, .int (nI 60)), (2, .ref (ad 5)), (0, .ref (ad 0)), (1, .ref (ad r))] dX4_isTalking_7 rfl (by decide) rfl ?_
  refine x_iconst F (v := 0) dX4_isTalking_8 (by decide) ?_
  refine x_istore F [(4, .int 0), (3, .int (nI 60)), (2, .ref (ad 5)), (0, .ref (ad 0)), (1, .ref (ad r))] dX4_isTalking_9 (by decide) rfl ?_
  have lp11 : ∀ (fu11 : Nat) (k : Nat), 60 - k < fu11 → (k ≤ 60) → (busyC I q nt r k = false) → XW D lo p l e { frames := 0, cells := 0, slots := 0, locals := 0 } s m args below meth c 6 0 0 Q R ad (k_c cy ad q ns nt I J) 11 [(4, .int (nI k)), (3, .int (nI 60)), (2, .ref (ad 5)), (0, .ref (ad 0)), (1, .ref (ad r))] [] := by
    intro fu11
    induction fu11 with
    | zero => intro k hf11; exact absurd hf11 (Nat.not_lt_zero _)
    | succ fu11 ih11 =>
      intro k hf11 hkn hc
      refine x_iload F dX4_isTalking_11 0 rfl ?_
      refine x_iload_n F dX4_isTalking_13 rfl 1 rfl ?_
      refine x_icmp_ge F 62 dX4_isTalking_14 (by decide) (fun h14 => ?_) (fun h14 => ?_)
      · have hk9 : k = 60 := lp_exit (N := 60) (by omega) hkn h14
        subst hk9
        refine x_iconst F (v := 0) dX4_isTalking_62 (by decide) ?_
        rw [hQ]
        exact x_zret F hr hlk (by decide) ⟨by rw [hc]; rfl, rfl⟩ dX4_isTalking_63
      · have hk9 : k < 60 := lp_go (N := 60) (by omega) hkn h14
        refine x_aload_n F dX4_isTalking_17 rfl 2 rfl ?_
        refine x_iload F dX4_isTalking_18 0 rfl ?_
        refine y_aldT F (hR 5 (by decide)) (ss_5 _ _) (vp_in_nI hk9 (by omega)) dX4_isTalking_20 ?_
        refine x_rf (fun h20n => ?_) (fun h20n => ?_)
        · refine x_astore F [(5, .ref (ad (80 + 4 * (nI k).toNatClampNeg))), (4, .int (nI k)), (3, .int (nI 60)), (2, .ref (ad 5)), (0, .ref (ad 0)), (1, .ref (ad r))] dX4_isTalking_21 (by decide) rfl ?_
          refine x_aload F dX4_isTalking_23 0 rfl ?_
          refine x_ifnull F dX4_isTalking_25 ?_
          refine x_aload F dX4_isTalking_28 0 rfl ?_
          refine g_X4_152 F (hL.2.2.1 _ h20n).1 (sc_tlk (tlk_rng ((nI k).toNatClampNeg))) rfl dX4_isTalking_30 ?_
          refine x_if_ne F 56 dX4_isTalking_33 (by decide) (fun h33 => ?_) (fun h33 => ?_)
          · refine x_iinc F [(4, .int ((nI k) + 1)), (5, .ref (ad (80 + 4 * (nI k).toNatClampNeg))), (3, .int (nI 60)), (2, .ref (ad 5)), (0, .ref (ad 0)), (1, .ref (ad r))] dX4_isTalking_56 1 rfl (by decide) rfl ?_
            refine x_goto F 11 dX4_isTalking_59 (by decide) ?_
            rw [nI_1]
            refine x_sub [0, 2, 3, 4, 5] rfl ?_
            exact ih11 (k + 1) (by omega) (by omega) (by simp [busyC, *])
          · refine x_aload F dX4_isTalking_36 0 rfl ?_
            refine g_X4_215 F (hL.2.2.1 _ h20n).1 (sc_tlk (tlk_rng ((nI k).toNatClampNeg))) rfl dX4_isTalking_38 ?_
            refine x_aload_n F dX4_isTalking_41 rfl 5 rfl ?_
            refine x_inj (hL.2.1 _ (hq _ h20n).1).1 hm (fun hj42 => ?_)
            refine x_acmp_eq F (rx := some (ad (40 + 2 * q (80 + 4 * (nI k).toNatClampNeg) 0))) (ry := some (ad r)) 54 dX4_isTalking_42 (by decide) (fun h42 => ?_) (fun h42 => ?_)
            · have g42 := hj42 (by first | exact h42 | exact Option.some.inj h42 | exact Option.some.inj (Classical.not_not.mp h42) | exact Classical.not_not.mp h42)
              refine x_iconst F (v := 1) dX4_isTalking_54 (by decide) ?_
              rw [hQ]
              exact x_zret F hr hlk (by decide) ⟨by rw [busyC_up (k := k + 1) (by simp [busyC, *]) 60 (by omega)]; rfl, rfl⟩ dX4_isTalking_55
            · have g42 : ¬ 40 + 2 * q (80 + 4 * (nI k).toNatClampNeg) 0 = r := fun he => h42 (by rw [he])
              refine x_aload F dX4_isTalking_45 0 rfl ?_
              refine g_X4_219 F (hL.2.2.1 _ h20n).1 (sc_tlk (tlk_rng ((nI k).toNatClampNeg))) rfl dX4_isTalking_47 ?_
              refine x_aload_n F dX4_isTalking_50 rfl 5 rfl ?_
              refine x_inj (hL.2.1 _ (hq _ h20n).2).1 hm (fun hj51 => ?_)
              refine x_acmp_ne F (rx := some (ad (40 + 2 * q (80 + 4 * (nI k).toNatClampNeg) 1))) (ry := some (ad r)) 56 dX4_isTalking_51 (by decide) (fun h51 => ?_) (fun h51 => ?_)
              · have g51 : ¬ 40 + 2 * q (80 + 4 * (nI k).toNatClampNeg) 1 = r := fun he => h51 (by rw [he])
                refine x_iinc F [(4, .int ((nI k) + 1)), (5, .ref (ad (80 + 4 * (nI k).toNatClampNeg))), (3, .int (nI 60)), (2, .ref (ad 5)), (0, .ref (ad 0)), (1, .ref (ad r))] dX4_isTalking_56 1 rfl (by decide) rfl ?_
                refine x_goto F 11 dX4_isTalking_59 (by decide) ?_
                rw [nI_1]
                refine x_sub [0, 2, 3, 4, 5] rfl ?_
                exact ih11 (k + 1) (by omega) (by omega) (by simp [busyC, *])
              · have g51 := hj51 (by first | exact h51 | exact Option.some.inj h51 | exact Option.some.inj (Classical.not_not.mp h51) | exact Classical.not_not.mp h51)
                refine x_iconst F (v := 1) dX4_isTalking_54 (by decide) ?_
                rw [hQ]
                exact x_zret F hr hlk (by decide) ⟨by rw [busyC_up (k := k + 1) (by simp [busyC, *]) 60 (by omega)]; rfl, rfl⟩ dX4_isTalking_55
        · refine x_astoreN F [(5, .null), (4, .int (nI k)), (3, .int (nI 60)), (2, .ref (ad 5)), (0, .ref (ad 0)), (1, .ref (ad r))] dX4_isTalking_21 (by decide) rfl ?_
          refine x_aloadN F dX4_isTalking_23 0 rfl ?_
          refine x_ifnullN F 56 dX4_isTalking_25 (by decide) ?_
          refine x_iinc F [(4, .int ((nI k) + 1)), (5, .null), (3, .int (nI 60)), (2, .ref (ad 5)), (0, .ref (ad 0)), (1, .ref (ad r))] dX4_isTalking_56 1 rfl (by decide) rfl ?_
          refine x_goto F 11 dX4_isTalking_59 (by decide) ?_
          rw [nI_1]
          refine x_sub [0, 2, 3, 4, 5] rfl ?_
          exact ih11 (k + 1) (by omega) (by omega) (by simp [busyC, *])
  refine x_sub [0, 1, 2, 3, 4] rfl ?_
  exact lp11 61 0 (by omega) (by omega) rfl
end
section
/-! one minute of one call; one minute of all; some minutes -/
def roA (I : Nat → Nat → Int32) (J : Nat → Nat → Int64) (t : Nat) : Bool := alongF I J (t + 1) (I (t + 1) 1).toNatClampNeg
def roF (I : Nat → Nat → Int32) (J : Nat → Nat → Int64) (t : Nat) : Bool := fbB I J (carAt I (t + 1) 0) (carAt I (t + 1) (I (t + 1) 1 - 1))
def roG (I : Nat → Nat → Int32) (J : Nat → Nat → Int64) (t : Nat) : Nat → Nat → Int32 := fbI I J (carAt I (t + 1) 0) (carAt I (t + 1) (I (t + 1) 1 - 1)) (t + 1)
def roI1 (I : Nat → Nat → Int32) (J : Nat → Nat → Int64) (t : Nat) : Nat → Nat → Int32 := if roA I J t = true then I else wI (roG I J t) t 8 (roG I J t t 8 + 1)
def roI2 (I : Nat → Nat → Int32) (J : Nat → Nat → Int64) (s t : Nat) : Nat → Nat → Int32 := if dueF (roI1 I J t) t = true then payI (roI1 I J t) s (roI1 I J t t 2) (roI1 I J t t 3) else roI1 I J t
def roO (I : Nat → Nat → Int32) (J : Nat → Nat → Int64) (t : Nat) : Bool := roA I J t || roF I J t
def roP (I : Nat → Nat → Int32) (J : Nat → Nat → Int64) (s t : Nat) : Bool := !dueF (roI1 I J t) t || payB (roI1 I J t) s (roI1 I J t t 2) (roI1 I J t t 3)
def roB (I : Nat → Nat → Int32) (J : Nat → Nat → Int64) (s t : Nat) : Bool := roO I J t && roP I J s t
def roI (I : Nat → Nat → Int32) (J : Nat → Nat → Int64) (s t : Nat) : Nat → Nat → Int32 := if roO I J t = true then (if roP I J s t = true then wI (roI2 I J s t) t 7 (roI2 I J s t t 7 + 1) else roI2 I J s t) else roG I J t
def roJ (I : Nat → Nat → Int32) (J : Nat → Nat → Int64) (s t : Nat) : Nat → Nat → Int64 := if roB I J s t = true then chargeJ (roI2 I J s t) J t (roI2 I J s t (t + 1) 1).toNatClampNeg else J
theorem roG_other {I : Nat → Nat → Int32} {J : Nat → Nat → Int64} {t r' k : Nat} (h : r' ≠ 11) (h1 : r' ≠ t + 1) (h2 : r' ≠ t + 2) : roG I J t r' k = I r' k := fb_other h h1 h2
theorem roI1_other {I : Nat → Nat → Int32} {J : Nat → Nat → Int64} {t r' k : Nat} (h : r' ≠ 11) (h0 : r' ≠ t) (h1 : r' ≠ t + 1) (h2 : r' ≠ t + 2) : roI1 I J t r' k = I r' k := by
  unfold roI1
  split
  · rfl
  · rw [wI_eq, if_neg (by omega), roG_other h h1 h2]
theorem roI2_other {I : Nat → Nat → Int32} {J : Nat → Nat → Int64} {s t r' k : Nat} (h : r' ≠ 11) (h0 : r' ≠ t) (h1 : r' ≠ t + 1) (h2 : r' ≠ t + 2) (h3 : r' ≠ s) : roI2 I J s t r' k = I r' k := by
  unfold roI2
  split
  · rw [pay_other h3, roI1_other h h0 h1 h2]
  · exact roI1_other h h0 h1 h2
theorem ro_other {I : Nat → Nat → Int32} {J : Nat → Nat → Int64} {s t r' k : Nat} (h : r' ≠ 11) (h0 : r' ≠ t) (h1 : r' ≠ t + 1) (h2 : r' ≠ t + 2) (h3 : r' ≠ s) : roI I J s t r' k = I r' k := by
  unfold roI
  split
  · split
    · rw [wI_eq, if_neg (by omega), roI2_other h h0 h1 h2 h3]
    · exact roI2_other h h0 h1 h2 h3
  · exact roG_other h h1 h2
theorem roG_len {I : Nat → Nat → Int32} {J : Nat → Nat → Int64} {t : Nat} (h : LenOK I (t + 1)) (ht : 80 ≤ t) : LenOK (roG I J t) (t + 1) := by
  by_cases hf : roF I J t = true
  · exact fb_len hf
  · unfold roF fbB at hf
    unfold roG fbI
    split
    · next h1 =>
      rw [if_neg (fun h2 => hf (by rw [h1, decide_eq_true h2]; rfl))]
      exact h.eq (weigh_other (by omega))
    · exact h
theorem roI1_len {I : Nat → Nat → Int32} {J : Nat → Nat → Int64} {t : Nat} (h : LenOK I (t + 1)) (ht : 80 ≤ t) : LenOK (roI1 I J t) (t + 1) := by
  unfold roI1
  split
  · exact h
  · exact (roG_len h ht).w (by omega)
theorem roI2_len {I : Nat → Nat → Int32} {J : Nat → Nat → Int64} {s t : Nat} (h : LenOK I (t + 1)) (ht : 80 ≤ t) (hs : s < 80) : LenOK (roI2 I J s t) (t + 1) := by
  unfold roI2
  split
  · exact (roI1_len h ht).eq (pay_other (by omega))
  · exact roI1_len h ht
theorem ro_len {I : Nat → Nat → Int32} {J : Nat → Nat → Int64} {s t : Nat} (h : LenOK I (t + 1)) (ht : 80 ≤ t) (hs : s < 80) : LenOK (roI I J s t) (t + 1) := by
  unfold roI
  split
  · split
    · exact (roI2_len h ht hs).w (by omega)
    · exact roI2_len h ht hs
  · exact roG_len h ht
abbrev k_T3 : Type := (Nat → Nat → Int32) × (Nat → Nat → Int64) × Int32
def tickS (q : Nat → Nat → Nat) (nt : Nat) (S : k_T3) (k : Nat) : k_T3 :=
  if (nI k).toNatClampNeg < nt ∧ S.1 (80 + 4 * (nI k).toNatClampNeg) 6 = 0 then
    (if roB S.1 S.2.1 (40 + 2 * q (80 + 4 * (nI k).toNatClampNeg) 0) (80 + 4 * (nI k).toNatClampNeg) = true
      then (roI S.1 S.2.1 (40 + 2 * q (80 + 4 * (nI k).toNatClampNeg) 0) (80 + 4 * (nI k).toNatClampNeg), roJ S.1 S.2.1 (40 + 2 * q (80 + 4 * (nI k).toNatClampNeg) 0) (80 + 4 * (nI k).toNatClampNeg), S.2.2)
      else (wI (roI S.1 S.2.1 (40 + 2 * q (80 + 4 * (nI k).toNatClampNeg) 0) (80 + 4 * (nI k).toNatClampNeg)) (80 + 4 * (nI k).toNatClampNeg) 6 2, roJ S.1 S.2.1 (40 + 2 * q (80 + 4 * (nI k).toNatClampNeg) 0) (80 + 4 * (nI k).toNatClampNeg), S.2.2 + 1))
  else S
def minS (q : Nat → Nat → Nat) (nt : Nat) (S : k_T3) : Nat → k_T3
  | 0 => S
  | k + 1 => tickS q nt (minS q nt S k) k
def passS (q : Nat → Nat → Nat) (nt : Nat) (S : k_T3) : Nat → k_T3
  | 0 => S
  | d + 1 => minS q nt (passS q nt S d) 60
def LenA (I : Nat → Nat → Int32) (nt : Nat) : Prop := ∀ j, j < nt → LenOK I (80 + 4 * j + 1)
theorem tick_len {q : Nat → Nat → Nat} {ns nt : Nat} {S : k_T3} {k : Nat} (hq : k_Q q ns nt) (hns : ns ≤ 20) (h : LenA S.1 nt) : LenA (tickS q nt S k).1 nt := by
  have H : ∀ i, i < nt → LenA (roI S.1 S.2.1 (40 + 2 * q (80 + 4 * i) 0) (80 + 4 * i)) nt := by
    intro i hi j hj
    have h1 := (hq i hi).1
    by_cases e : j = i
    · subst e; exact ro_len (h j hj) (by omega) (by omega)
    · exact (h j hj).eq (ro_other (by omega) (by omega) (by omega) (by omega) (by omega))
  unfold tickS
  split
  · next h1 =>
    split
    · exact H _ h1.1
    · intro j hj
      exact ((H _ h1.1) j hj).w (by omega)
  · exact h
theorem min_len {q : Nat → Nat → Nat} {ns nt : Nat} {S : k_T3} (hq : k_Q q ns nt) (hns : ns ≤ 20) (h : LenA S.1 nt) : ∀ k, LenA (minS q nt S k).1 nt := by
  intro k
  induction k with
  | zero => exact h
  | succ k ih => exact tick_len hq hns ih
theorem pass_len {q : Nat → Nat → Nat} {ns nt : Nat} {S : k_T3} (hq : k_Q q ns nt) (hns : ns ≤ 20) (h : LenA S.1 nt) : ∀ k, LenA (passS q nt S k).1 nt := by
  intro k
  induction k with
  | zero => exact h
  | succ k ih => exact min_len hq hns ih 60
theorem wi_nat {a : Int32} (h : isWi a 1 200 = true) : a = nI a.toNatClampNeg ∧ a.toNatClampNeg ≤ 200 := by
  simp only [isWi, Bool.and_eq_true, Bool.not_eq_true', decide_eq_false_iff_not] at h
  obtain ⟨h1, h2⟩ := h
  rw [Int32.lt_iff_toInt_lt] at h1 h2
  have e1 : (1 : Int32).toInt = 1 := rfl
  have e2 : (200 : Int32).toInt = 200 := rfl
  rw [e1] at h1
  rw [e2] at h2
  have hn : ¬ a < 0 := by
    rw [Int32.lt_iff_toInt_lt]
    have e0 : (0 : Int32).toInt = 0 := rfl
    omega
  obtain ⟨j, hj, rfl⟩ := nI_of hn
  rw [nI_clamp hj]
  rw [nI_toInt hj] at h2
  exact ⟨rfl, by omega⟩
set_option maxHeartbeats 4000000 in
set_option maxRecDepth 100000 in
/-- runOneMinute -/
theorem c_X4_runOneMinute (l : Launch) (D : va_G) (cy : Nat → ClassId) (lo : Nat) (R : List Nat) (ad : Nat → Nat) (q : Nat → Nat → Nat) (ns nt : Nat) (I : Nat → Nat → Int32) (J : Nat → Nat → Int64) (hR : ∀ r, r < 19 → r ∈ R) (t : Nat) (hk : 80 ≤ t ∧ t % 4 = 0) (h0 : t ∈ R) (h1 : t + 1 ∈ R) (h2 : t + 1 + 1 ∈ R) (h3 : t + 3 ∈ R) (hL : k_RL R ns nt) (hq0 : q t 0 < ns) (hlen : LenOK I (t + 1)) : k_Ci l yX4_runOneMinute cX4_runOneMinute 3 (some .boolean) 5 117 D cy lo R ad (k_c cy ad q ns nt I J) [.ref (ad 0), .ref (ad t)] (k_b (roB I J (40 + 2 * q t 0) t)) (k_c cy ad q ns nt (roI I J (40 + 2 * q t 0) t) (roJ I J (40 + 2 * q t 0) t)) := by
  refine k_metQ (by decide +kernel) (Nat.le_of_ble_eq_true rfl) ?_
  intro p e s m args below meth c Q F hr hlk hnm hQ
  have hs9 : (40 + 2 * q t 0) < 80 := by have := hL.2.2.2.1; omega
  refine x_aload_n F dX4_runOneMinute_0 rfl 1 rfl ?_
  refine g_X4_169 F h0 (sc_tlk hk) rfl dX4_runOneMinute_1 ?_
  refine x_astore_n F [(2, .ref (ad (t + 1))), (0, .ref (ad 0)), (1, .ref (ad t))] dX4_runOneMinute_4 rfl (by decide) rfl ?_
  refine x_aload_n F dX4_runOneMinute_5 rfl 1 rfl ?_
  refine g_X4_19 F (hL.1 0 (by decide)) sc_0 rfl dX4_runOneMinute_6 ?_
  refine x_aload_n F dX4_runOneMinute_9 rfl 0 rfl ?_
  refine z_callVi F [.ref (ad (t + 1))] (c_X0_isOpenAlong l D cy lo R ad q ns nt I J hR (t + 1) (Or.inr ⟨by have := hk; omega, by have := hk; omega⟩) h1 h2 ((I (t + 1) 1).toNatClampNeg) hlen.1 hlen.2.1 hlen.2.2) mc_X0_isOpenAlong mv_X0_isOpenAlong lk_X4_229 (hR 3 (by decide)) sc_3 rfl rfl rfl dX4_runOneMinute_10 ⟨Nat.le_of_ble_eq_true rfl, Nat.le_of_ble_eq_true rfl⟩ ⟨Nat.le_of_ble_eq_true rfl, Nat.le_of_ble_eq_true rfl⟩ (Nat.le_of_ble_eq_true rfl) ?_
  refine x_if_ne F 54 dX4_runOneMinute_13 (by decide) (fun h13 => ?_) (fun h13 => ?_)
  · rw [kb1] at h13
    refine x_world (congrArg (fun z => k_c cy ad q ns nt z J) (show I = roI1 I J t by simp [roI1, roA, roG, *])) ?_
    have hO9 : roO I J t = true := by simp [roO, roA, roF, *]
    refine x_aload_n F dX4_runOneMinute_54 rfl 2 rfl ?_
    refine z_callVi F [] (c_X3_isStepDue l D cy lo R ad q ns nt (roI1 I J t) J hR t hk h0 h1 h2 h3) mc_X3_isStepDue mv_X3_isStepDue lk_X4_236 h0 (sc_tlk hk) rfl rfl rfl dX4_runOneMinute_55 ⟨Nat.le_of_ble_eq_true rfl, Nat.le_of_ble_eq_true rfl⟩ ⟨Nat.le_of_ble_eq_true rfl, Nat.le_of_ble_eq_true rfl⟩ (Nat.le_of_ble_eq_true rfl) ?_
    refine x_if_eq F 81 dX4_runOneMinute_58 (by decide) (fun h58 => ?_) (fun h58 => ?_)
    · rw [kb0] at h58
      refine x_world (congrArg (fun z => k_c cy ad q ns nt z J) (show (roI1 I J t) = roI2 I J (40 + 2 * q t 0) t by simp [roI2, *])) ?_
      refine x_aload_n F dX4_runOneMinute_81 rfl 1 rfl ?_
      refine g_X4_19 F (hL.1 0 (by decide)) sc_0 rfl dX4_runOneMinute_82 ?_
      refine x_aload_n F dX4_runOneMinute_85 rfl 2 rfl ?_
      refine z_callVv F [.ref (ad t)] (c_X0_charge l D cy lo R ad q ns nt (roI2 I J (40 + 2 * q t 0) t) J hR t hk h0 h1 h2 h3 ((roI2 I J (40 + 2 * q t 0) t (t + 1) 1).toNatClampNeg) ((roI2_len (s := (40 + 2 * q t 0)) hlen hk.1 hs9).1) ((roI2_len (s := (40 + 2 * q t 0)) hlen hk.1 hs9).2.1) ((roI2_len (s := (40 + 2 * q t 0)) hlen hk.1 hs9).2.2)) mc_X0_charge mv_X0_charge lk_X4_249 (hR 3 (by decide)) sc_3 rfl rfl rfl dX4_runOneMinute_86 ⟨Nat.le_of_ble_eq_true rfl, Nat.le_of_ble_eq_true rfl⟩ ⟨Nat.le_of_ble_eq_true rfl, Nat.le_of_ble_eq_true rfl⟩ (Nat.le_of_ble_eq_true rfl) ?_
      refine x_aload_n F dX4_runOneMinute_89 rfl 2 rfl ?_
      refine x_dup F dX4_runOneMinute_90 rfl ?_
      refine g_X4_157 F h0 (sc_tlk hk) rfl dX4_runOneMinute_91 ?_
      refine x_iconst F (v := 1) dX4_runOneMinute_94 (by decide) ?_
      refine x_iadd F dX4_runOneMinute_95 ?_
      refine p_X4_157 F h0 (ss_tlk hk) dX4_runOneMinute_96 ?_
      refine x_iconst F (v := 1) dX4_runOneMinute_99 (by decide) ?_
      rw [hQ]
      exact x_zret F hr hlk (by decide) ⟨by simp [roB, hO9, roP, *]; rfl, by simp [roB, hO9, roP, roI, roJ, roI2, *]⟩ dX4_runOneMinute_100
    · rw [kb1] at h58
      refine x_aload_n F dX4_runOneMinute_61 rfl 2 rfl ?_
      refine g_X4_215 F h0 (sc_tlk hk) rfl dX4_runOneMinute_62 ?_
      refine x_aload_n F dX4_runOneMinute_65 rfl 2 rfl ?_
      refine g_X4_240 F h0 (sc_tlk hk) rfl dX4_runOneMinute_66 ?_
      refine x_aload_n F dX4_runOneMinute_69 rfl 2 rfl ?_
      refine g_X4_243 F h0 (sc_tlk hk) rfl dX4_runOneMinute_70 ?_
      refine z_callVi F [.int ((roI1 I J t) t 2), .int ((roI1 I J t) t 3)] (c_X2_pay l D cy lo R ad q ns nt (roI1 I J t) J hR (40 + 2 * q t 0) ((roI1 I J t) t 2) ((roI1 I J t) t 3) (sub_rng hq0 hL) ((hL.2.1 _ hq0).1) ((hL.2.1 _ hq0).2)) mc_X2_pay mv_X2_pay lk_X4_246 (hL.2.1 _ hq0).1 (sc_sub (sub_rng hq0 hL)) rfl rfl rfl dX4_runOneMinute_73 ⟨Nat.le_of_ble_eq_true rfl, Nat.le_of_ble_eq_true rfl⟩ ⟨Nat.le_of_ble_eq_true rfl, Nat.le_of_ble_eq_true rfl⟩ (Nat.le_of_ble_eq_true rfl) ?_
      refine x_if_ne F 81 dX4_runOneMinute_76 (by decide) (fun h76 => ?_) (fun h76 => ?_)
      · rw [kb1] at h76
        refine x_world (congrArg (fun z => k_c cy ad q ns nt z J) (show payI (roI1 I J t) (40 + 2 * q t 0) ((roI1 I J t) t 2) ((roI1 I J t) t 3) = roI2 I J (40 + 2 * q t 0) t by simp [roI2, *])) ?_
        refine x_aload_n F dX4_runOneMinute_81 rfl 1 rfl ?_
        refine g_X4_19 F (hL.1 0 (by decide)) sc_0 rfl dX4_runOneMinute_82 ?_
        refine x_aload_n F dX4_runOneMinute_85 rfl 2 rfl ?_
        refine z_callVv F [.ref (ad t)] (c_X0_charge l D cy lo R ad q ns nt (roI2 I J (40 + 2 * q t 0) t) J hR t hk h0 h1 h2 h3 ((roI2 I J (40 + 2 * q t 0) t (t + 1) 1).toNatClampNeg) ((roI2_len (s := (40 + 2 * q t 0)) hlen hk.1 hs9).1) ((roI2_len (s := (40 + 2 * q t 0)) hlen hk.1 hs9).2.1) ((roI2_len (s := (40 + 2 * q t 0)) hlen hk.1 hs9).2.2)) mc_X0_charge mv_X0_charge lk_X4_249 (hR 3 (by decide)) sc_3 rfl rfl rfl dX4_runOneMinute_86 ⟨Nat.le_of_ble_eq_true rfl, Nat.le_of_ble_eq_true rfl⟩ ⟨Nat.le_of_ble_eq_true rfl, Nat.le_of_ble_eq_true rfl⟩ (Nat.le_of_ble_eq_true rfl) ?_
        refine x_aload_n F dX4_runOneMinute_89 rfl 2 rfl ?_
        refine x_dup F dX4_runOneMinute_90 rfl ?_
        refine g_X4_157 F h0 (sc_tlk hk) rfl dX4_runOneMinute_91 ?_
        refine x_iconst F (v := 1) dX4_runOneMinute_94 (by decide) ?_
        refine x_iadd F dX4_runOneMinute_95 ?_
        refine p_X4_157 F h0 (ss_tlk hk) dX4_runOneMinute_96 ?_
        refine x_iconst F (v := 1) dX4_runOneMinute_99 (by decide) ?_
        rw [hQ]
        exact x_zret F hr hlk (by decide) ⟨by simp [roB, hO9, roP, *]; rfl, by simp [roB, hO9, roP, roI, roJ, roI2, *]⟩ dX4_runOneMinute_100
      · rw [kb0] at h76
        refine x_iconst F (v := 0) dX4_runOneMinute_79 (by decide) ?_
        rw [hQ]
        exact x_zret F hr hlk (by decide) ⟨by simp [roB, hO9, roP, *]; rfl, by simp [roB, hO9, roP, roI, roJ, roI2, *]⟩ dX4_runOneMinute_80
  · rw [kb0] at h13
    refine x_aload_n F dX4_runOneMinute_16 rfl 1 rfl ?_
    refine g_X4_19 F (hL.1 0 (by decide)) sc_0 rfl dX4_runOneMinute_17 ?_
    refine x_aload_n F dX4_runOneMinute_20 rfl 0 rfl ?_
    refine x_iconst F (v := 0) dX4_runOneMinute_21 (by decide) ?_
    refine z_callVi F [.int 0] (c_X1_carrierAt l D cy lo R ad q ns nt I J hR (t + 1) 0 (Or.inr ⟨by have := hk; omega, by have := hk; omega⟩) h1 h2) mc_X1_carrierAt mv_X1_carrierAt lk_X4_172 h1 (sc_rte (Or.inr ⟨by have := hk; omega, by have := hk; omega⟩)) rfl rfl rfl dX4_runOneMinute_22 ⟨Nat.le_of_ble_eq_true rfl, Nat.le_of_ble_eq_true rfl⟩ ⟨Nat.le_of_ble_eq_true rfl, Nat.le_of_ble_eq_true rfl⟩ (Nat.le_of_ble_eq_true rfl) ?_
    refine x_aload_n F dX4_runOneMinute_25 rfl 0 rfl ?_
    refine x_aload_n F dX4_runOneMinute_26 rfl 0 rfl ?_
    refine g_X4_233 F h1 (sc_rte (Or.inr ⟨by have := hk; omega, by have := hk; omega⟩)) rfl dX4_runOneMinute_27 ?_
    refine x_iconst F (v := 1) dX4_runOneMinute_30 (by decide) ?_
    refine x_isub F dX4_runOneMinute_31 ?_
    refine z_callVi F [.int ((I (t + 1) 1) - 1)] (c_X1_carrierAt l D cy lo R ad q ns nt I J hR (t + 1) ((I (t + 1) 1) - 1) (Or.inr ⟨by have := hk; omega, by have := hk; omega⟩) h1 h2) mc_X1_carrierAt mv_X1_carrierAt lk_X4_172 h1 (sc_rte (Or.inr ⟨by have := hk; omega, by have := hk; omega⟩)) rfl rfl rfl dX4_runOneMinute_32 ⟨Nat.le_of_ble_eq_true rfl, Nat.le_of_ble_eq_true rfl⟩ ⟨Nat.le_of_ble_eq_true rfl, Nat.le_of_ble_eq_true rfl⟩ (Nat.le_of_ble_eq_true rfl) ?_
    refine x_aload_n F dX4_runOneMinute_35 rfl 0 rfl ?_
    refine z_callVi F [.int (carAt I (t + 1) 0), .int (carAt I (t + 1) ((I (t + 1) 1) - 1)), .ref (ad (t + 1))] (c_X0_findBest l D cy lo R ad q ns nt I J hR (t + 1) (carAt I (t + 1) 0) (carAt I (t + 1) ((I (t + 1) 1) - 1)) (Or.inr ⟨by have := hk; omega, by have := hk; omega⟩) h1 h2) mc_X0_findBest mv_X0_findBest lk_X4_138 (hR 3 (by decide)) sc_3 rfl rfl rfl dX4_runOneMinute_36 ⟨Nat.le_of_ble_eq_true rfl, Nat.le_of_ble_eq_true rfl⟩ ⟨Nat.le_of_ble_eq_true rfl, Nat.le_of_ble_eq_true rfl⟩ (Nat.le_of_ble_eq_true rfl) ?_
    refine x_if_ne F 44 dX4_runOneMinute_39 (by decide) (fun h39 => ?_) (fun h39 => ?_)
    · rw [kb1] at h39
      refine x_aload_n F dX4_runOneMinute_44 rfl 2 rfl ?_
      refine x_dup F dX4_runOneMinute_45 rfl ?_
      refine g_X4_166 F h0 (sc_tlk hk) rfl dX4_runOneMinute_46 ?_
      refine x_iconst F (v := 1) dX4_runOneMinute_49 (by decide) ?_
      refine x_iadd F dX4_runOneMinute_50 ?_
      refine p_X4_166 F h0 (ss_tlk hk) dX4_runOneMinute_51 ?_
      refine x_world (congrArg (fun z => k_c cy ad q ns nt z J) (show wI (fbI I J (carAt I (t + 1) 0) (carAt I (t + 1) ((I (t + 1) 1) - 1)) (t + 1)) t 8 (((fbI I J (carAt I (t + 1) 0) (carAt I (t + 1) ((I (t + 1) 1) - 1)) (t + 1)) t 8) + 1) = roI1 I J t by simp [roI1, roA, roG, *])) ?_
      have hO9 : roO I J t = true := by simp [roO, roA, roF, *]
      refine x_aload_n F dX4_runOneMinute_54 rfl 2 rfl ?_
      refine z_callVi F [] (c_X3_isStepDue l D cy lo R ad q ns nt (roI1 I J t) J hR t hk h0 h1 h2 h3) mc_X3_isStepDue mv_X3_isStepDue lk_X4_236 h0 (sc_tlk hk) rfl rfl rfl dX4_runOneMinute_55 ⟨Nat.le_of_ble_eq_true rfl, Nat.le_of_ble_eq_true rfl⟩ ⟨Nat.le_of_ble_eq_true rfl, Nat.le_of_ble_eq_true rfl⟩ (Nat.le_of_ble_eq_true rfl) ?_
      refine x_if_eq F 81 dX4_runOneMinute_58 (by decide) (fun h58 => ?_) (fun h58 => ?_)
      · rw [kb0] at h58
        refine x_world (congrArg (fun z => k_c cy ad q ns nt z J) (show (roI1 I J t) = roI2 I J (40 + 2 * q t 0) t by simp [roI2, *])) ?_
        refine x_aload_n F dX4_runOneMinute_81 rfl 1 rfl ?_
        refine g_X4_19 F (hL.1 0 (by decide)) sc_0 rfl dX4_runOneMinute_82 ?_
        refine x_aload_n F dX4_runOneMinute_85 rfl 2 rfl ?_
        refine z_callVv F [.ref (ad t)] (c_X0_charge l D cy lo R ad q ns nt (roI2 I J (40 + 2 * q t 0) t) J hR t hk h0 h1 h2 h3 ((roI2 I J (40 + 2 * q t 0) t (t + 1) 1).toNatClampNeg) ((roI2_len (s := (40 + 2 * q t 0)) hlen hk.1 hs9).1) ((roI2_len (s := (40 + 2 * q t 0)) hlen hk.1 hs9).2.1) ((roI2_len (s := (40 + 2 * q t 0)) hlen hk.1 hs9).2.2)) mc_X0_charge mv_X0_charge lk_X4_249 (hR 3 (by decide)) sc_3 rfl rfl rfl dX4_runOneMinute_86 ⟨Nat.le_of_ble_eq_true rfl, Nat.le_of_ble_eq_true rfl⟩ ⟨Nat.le_of_ble_eq_true rfl, Nat.le_of_ble_eq_true rfl⟩ (Nat.le_of_ble_eq_true rfl) ?_
        refine x_aload_n F dX4_runOneMinute_89 rfl 2 rfl ?_
        refine x_dup F dX4_runOneMinute_90 rfl ?_
        refine g_X4_157 F h0 (sc_tlk hk) rfl dX4_runOneMinute_91 ?_
        refine x_iconst F (v := 1) dX4_runOneMinute_94 (by decide) ?_
        refine x_iadd F dX4_runOneMinute_95 ?_
        refine p_X4_157 F h0 (ss_tlk hk) dX4_runOneMinute_96 ?_
        refine x_iconst F (v := 1) dX4_runOneMinute_99 (by decide) ?_
        rw [hQ]
        exact x_zret F hr hlk (by decide) ⟨by simp [roB, hO9, roP, *]; rfl, by simp [roB, hO9, roP, roI, roJ, roI2, *]⟩ dX4_runOneMinute_100
      · rw [kb1] at h58
        refine x_aload_n F dX4_runOneMinute_61 rfl 2 rfl ?_
        refine g_X4_215 F h0 (sc_tlk hk) rfl dX4_runOneMinute_62 ?_
        refine x_aload_n F dX4_runOneMinute_65 rfl 2 rfl ?_
        refine g_X4_240 F h0 (sc_tlk hk) rfl dX4_runOneMinute_66 ?_
        refine x_aload_n F dX4_runOneMinute_69 rfl 2 rfl ?_
        refine g_X4_243 F h0 (sc_tlk hk) rfl dX4_runOneMinute_70 ?_
        refine z_callVi F [.int ((roI1 I J t) t 2), .int ((roI1 I J t) t 3)] (c_X2_pay l D cy lo R ad q ns nt (roI1 I J t) J hR (40 + 2 * q t 0) ((roI1 I J t) t 2) ((roI1 I J t) t 3) (sub_rng hq0 hL) ((hL.2.1 _ hq0).1) ((hL.2.1 _ hq0).2)) mc_X2_pay mv_X2_pay lk_X4_246 (hL.2.1 _ hq0).1 (sc_sub (sub_rng hq0 hL)) rfl rfl rfl dX4_runOneMinute_73 ⟨Nat.le_of_ble_eq_true rfl, Nat.le_of_ble_eq_true rfl⟩ ⟨Nat.le_of_ble_eq_true rfl, Nat.le_of_ble_eq_true rfl⟩ (Nat.le_of_ble_eq_true rfl) ?_
        refine x_if_ne F 81 dX4_runOneMinute_76 (by decide) (fun h76 => ?_) (fun h76 => ?_)
        · rw [kb1] at h76
          refine x_world (congrArg (fun z => k_c cy ad q ns nt z J) (show payI (roI1 I J t) (40 + 2 * q t 0) ((roI1 I J t) t 2) ((roI1 I J t) t 3) = roI2 I J (40 + 2 * q t 0) t by simp [roI2, *])) ?_
          refine x_aload_n F dX4_runOneMinute_81 rfl 1 rfl ?_
          refine g_X4_19 F (hL.1 0 (by decide)) sc_0 rfl dX4_runOneMinute_82 ?_
          refine x_aload_n F dX4_runOneMinute_85 rfl 2 rfl ?_
          refine z_callVv F [.ref (ad t)] (c_X0_charge l D cy lo R ad q ns nt (roI2 I J (40 + 2 * q t 0) t) J hR t hk h0 h1 h2 h3 ((roI2 I J (40 + 2 * q t 0) t (t + 1) 1).toNatClampNeg) ((roI2_len (s := (40 + 2 * q t 0)) hlen hk.1 hs9).1) ((roI2_len (s := (40 + 2 * q t 0)) hlen hk.1 hs9).2.1) ((roI2_len (s := (40 + 2 * q t 0)) hlen hk.1 hs9).2.2)) mc_X0_charge mv_X0_charge lk_X4_249 (hR 3 (by decide)) sc_3 rfl rfl rfl dX4_runOneMinute_86 ⟨Nat.le_of_ble_eq_true rfl, Nat.le_of_ble_eq_true rfl⟩ ⟨Nat.le_of_ble_eq_true rfl, Nat.le_of_ble_eq_true rfl⟩ (Nat.le_of_ble_eq_true rfl) ?_
          refine x_aload_n F dX4_runOneMinute_89 rfl 2 rfl ?_
          refine x_dup F dX4_runOneMinute_90 rfl ?_
          refine g_X4_157 F h0 (sc_tlk hk) rfl dX4_runOneMinute_91 ?_
          refine x_iconst F (v := 1) dX4_runOneMinute_94 (by decide) ?_
          refine x_iadd F dX4_runOneMinute_95 ?_
          refine p_X4_157 F h0 (ss_tlk hk) dX4_runOneMinute_96 ?_
          refine x_iconst F (v := 1) dX4_runOneMinute_99 (by decide) ?_
          rw [hQ]
          exact x_zret F hr hlk (by decide) ⟨by simp [roB, hO9, roP, *]; rfl, by simp [roB, hO9, roP, roI, roJ, roI2, *]⟩ dX4_runOneMinute_100
        · rw [kb0] at h76
          refine x_iconst F (v := 0) dX4_runOneMinute_79 (by decide) ?_
          rw [hQ]
          exact x_zret F hr hlk (by decide) ⟨by simp [roB, hO9, roP, *]; rfl, by simp [roB, hO9, roP, roI, roJ, roI2, *]⟩ dX4_runOneMinute_80
    · rw [kb0] at h39
      refine x_iconst F (v := 0) dX4_runOneMinute_42 (by decide) ?_
      rw [hQ]
      exact x_zret F hr hlk (by decide) ⟨by simp [roB, roO, roA, roF, *]; rfl, by simp [roB, roO, roI, roJ, roG, roA, roF, *]⟩ dX4_runOneMinute_43
end
section
set_option maxHeartbeats 4000000 in
set_option maxRecDepth 100000 in
/-- pass -/
theorem c_X4_pass (l : Launch) (D : va_G) (cy : Nat → ClassId) (lo : Nat) (R : List Nat) (ad : Nat → Nat) (q : Nat → Nat → Nat) (ns nt : Nat) (I : Nat → Nat → Int32) (J : Nat → Nat → Int64) (hL : k_RL R ns nt) (hfl : l.stackTraces = false) (a : Int32) (hq : k_Q q ns nt) (hlen : LenA I nt) : k_Xi l yX4_pass cX4_pass 8 (some .int) 6 139 1 6 D cy lo R ad (k_c cy ad q ns nt I J) [.ref (ad 0), .int a] (isWi a 1 200 = true) (fun E => E = e_IA ∧ isWi a 1 200 = false) ((passS q nt (I, J, 0) a.toNatClampNeg).2.2) (k_c cy ad q ns nt ((passS q nt (I, J, 0) a.toNatClampNeg).1) ((passS q nt (I, J, 0) a.toNatClampNeg).2.1)) := by
  refine k_metXQ (by decide +kernel) (Nat.le_of_ble_eq_true rfl) ?_
  intro p e s m args below meth c Q F hr hlk ht hQ
  have hR := hL.1
  refine x_iload_n F dX4_pass_0 rfl 1 rfl ?_
  refine x_iconst F (v := 1) dX4_pass_1 (by decide) ?_
  refine x_sipush F (v := 200) dX4_pass_2 (by decide) ?_
  refine z_callSi F [.int a, .int 1, .int 200] (c_X4_isWithin l D cy lo R ad _ a 1 200) mc_X4_isWithin ms_X4_isWithin lk_X4_52 rfl rfl dX4_pass_5 ⟨Nat.le_of_ble_eq_true rfl, Nat.le_of_ble_eq_true rfl⟩ ⟨Nat.le_of_ble_eq_true rfl, Nat.le_of_ble_eq_true rfl⟩ (Nat.le_of_ble_eq_true rfl) ?_
  refine x_if_ne F 21 dX4_pass_8 (by decide) (fun h8 => ?_) (fun h8 => ?_)
  · rw [kb1] at h8
    have hw9 := wi_nat h8
    refine x_iconst F (v := 0) dX4_pass_21 (by decide) ?_
    refine x_istore_n F [(2, .int 0), (0, .ref (ad 0)), (1, .int a)] dX4_pass_22 rfl (by decide) rfl ?_
    refine x_iconst F (v := 0) dX4_pass_23 (by decide) ?_
    refine x_istore_n F [(3, .int 0), (2, .int 0), (0, .ref (ad 0)), (1, .int a)] dX4_pass_24 rfl (by decide) rfl ?_
    have lp25 : ∀ (fu25 : Nat) (dd : Nat), a.toNatClampNeg - dd < fu25 → (dd ≤ a.toNatClampNeg) → XW D lo p l e { frames := 6, cells := 1, slots := 6, locals := 139 } s m args below meth c 8 0 0 Q R ad (k_c cy ad q ns nt ((passS q nt (I, J, 0) dd).1) ((passS q nt (I, J, 0) dd).2.1)) 25 [(3, .int (nI dd)), (2, .int ((passS q nt (I, J, 0) dd).2.2)), (0, .ref (ad 0)), (1, .int a)] [] := by
      intro fu25
      induction fu25 with
      | zero => intro dd hf25; exact absurd hf25 (Nat.not_lt_zero _)
      | succ fu25 ih25 =>
        intro dd hf25 hmn
        refine x_iload_n F dX4_pass_25 rfl 0 rfl ?_
        refine x_iload_n F dX4_pass_26 rfl 3 rfl ?_
        refine x_icmp_ge F 101 dX4_pass_27 (by decide) (fun h27 => ?_) (fun h27 => ?_)
        · rw [hw9.1] at h27
          have hm7 := lp_exit (by omega) hmn h27
          refine x_iload_n F dX4_pass_101 rfl 1 rfl ?_
          rw [hQ]
          refine x_widen (k := 1) (n := 6) (Nat.le_of_ble_eq_true rfl) (Nat.le_of_ble_eq_true rfl) ?_
          exact x_iretx F hr hlk ⟨by assumption, by rw [hm7], by rw [hm7]⟩ dX4_pass_102
        · rw [hw9.1] at h27
          have hm7 := lp_go (by omega) hmn h27
          refine x_aload_n F dX4_pass_30 rfl 2 rfl ?_
          refine g_X4_31 F (hL.1 0 (by decide)) sc_0 rfl dX4_pass_31 ?_
          refine x_astore F [(4, .ref (ad 5)), (3, .int (nI dd)), (2, .int ((passS q nt (I, J, 0) dd).2.2)), (0, .ref (ad 0)), (1, .int a)] dX4_pass_34 (by decide) rfl ?_
          refine x_aload F dX4_pass_36 0 rfl ?_
          refine x_alenT F (hR 5 (by decide)) (ss_5 _ _) dX4_pass_38 ?_
          refine x_istore F [(5, .int (nI 60)), (4, .ref (ad 5)), (3, .int (nI dd)), (2, .int ((passS q nt (I, J, 0) dd).2.2)), (0, .ref (ad 0)), (1, .int a)] dX4_pass_39 (by decide) rfl ?_
          refine x_iconst F (v := 0) dX4_pass_41 (by decide) ?_
          refine x_istore F [(6, .int 0), (5, .int (nI 60)), (4, .ref (ad 5)), (3, .int (nI dd)), (2, .int ((passS q nt (I, J, 0) dd).2.2)), (0, .ref (ad 0)), (1, .int a)] dX4_pass_42 (by decide) rfl ?_
          have lp44 : ∀ (fu44 : Nat) (k : Nat), 60 - k < fu44 → (k ≤ 60) → XW D lo p l e { frames := 6, cells := 1, slots := 6, locals := 139 } s m args below meth c 8 0 0 Q R ad (k_c cy ad q ns nt ((minS q nt (passS q nt (I, J, 0) dd) k).1) ((minS q nt (passS q nt (I, J, 0) dd) k).2.1)) 44 [(6, .int (nI k)), (5, .int (nI 60)), (4, .ref (ad 5)), (3, .int (nI dd)), (2, .int ((minS q nt (passS q nt (I, J, 0) dd) k).2.2)), (0, .ref (ad 0)), (1, .int a)] [] := by
            intro fu44
            induction fu44 with
            | zero => intro k hf44; exact absurd hf44 (Nat.not_lt_zero _)
            | succ fu44 ih44 =>
              intro k hf44 hkn
              refine x_iload F dX4_pass_44 0 rfl ?_
              refine x_iload F dX4_pass_46 1 rfl ?_
              refine x_icmp_ge F 95 dX4_pass_48 (by decide) (fun h48 => ?_) (fun h48 => ?_)
              · have hk7 : k = 60 := lp_exit (N := 60) (by omega) hkn h48
                refine x_iinc F [(3, .int ((nI dd) + 1)), (6, .int (nI k)), (5, .int (nI 60)), (4, .ref (ad 5)), (2, .int ((minS q nt (passS q nt (I, J, 0) dd) k).2.2)), (0, .ref (ad 0)), (1, .int a)] dX4_pass_95 3 rfl (by decide) rfl ?_
                refine x_goto F 25 dX4_pass_98 (by decide) ?_
                rw [nI_1]
                subst hk7
                refine x_world (show (k_c cy ad q ns nt ((minS q nt (passS q nt (I, J, 0) dd) 60).1) ((minS q nt (passS q nt (I, J, 0) dd) 60).2.1)) = (k_c cy ad q ns nt ((passS q nt (I, J, 0) (dd + 1)).1) ((passS q nt (I, J, 0) (dd + 1)).2.1)) by rfl) ?_
                refine x_sub (lv' := [(3, .int (nI (dd + 1))), (2, .int ((passS q nt (I, J, 0) (dd + 1)).2.2)), (0, .ref (ad 0)), (1, .int a)]) [0, 4, 5, 6] rfl ?_
                exact ih25 (dd + 1) (by omega) (by omega)
              · have hk9 : k < 60 := lp_go (N := 60) (by omega) hkn h48
                refine x_aload F dX4_pass_51 2 rfl ?_
                refine x_iload F dX4_pass_53 0 rfl ?_
                refine y_aldT F (hR 5 (by decide)) (ss_5 _ _) (vp_in_nI hk9 (by omega)) dX4_pass_55 ?_
                refine x_rf (fun h55n => ?_) (fun h55n => ?_)
                · refine x_astore F [(7, .ref (ad (80 + 4 * (nI k).toNatClampNeg))), (6, .int (nI k)), (5, .int (nI 60)), (4, .ref (ad 5)), (3, .int (nI dd)), (2, .int ((minS q nt (passS q nt (I, J, 0) dd) k).2.2)), (0, .ref (ad 0)), (1, .int a)] dX4_pass_56 (by decide) rfl ?_
                  refine x_aload F dX4_pass_58 0 rfl ?_
                  refine x_ifnull F dX4_pass_60 ?_
                  refine x_aload F dX4_pass_63 0 rfl ?_
                  refine g_X4_152 F (hL.2.2.1 _ h55n).1 (sc_tlk (tlk_rng ((nI k).toNatClampNeg))) rfl dX4_pass_65 ?_
                  refine x_if_ne F 89 dX4_pass_68 (by decide) (fun h68 => ?_) (fun h68 => ?_)
                  · refine x_iinc F [(6, .int ((nI k) + 1)), (7, .ref (ad (80 + 4 * (nI k).toNatClampNeg))), (5, .int (nI 60)), (4, .ref (ad 5)), (3, .int (nI dd)), (2, .int ((minS q nt (passS q nt (I, J, 0) dd) k).2.2)), (0, .ref (ad 0)), (1, .int a)] dX4_pass_89 1 rfl (by decide) rfl ?_
                    refine x_goto F 44 dX4_pass_92 (by decide) ?_
                    rw [nI_1]
                    refine x_world (show (k_c cy ad q ns nt ((minS q nt (passS q nt (I, J, 0) dd) k).1) ((minS q nt (passS q nt (I, J, 0) dd) k).2.1)) = (k_c cy ad q ns nt ((minS q nt (passS q nt (I, J, 0) dd) (k + 1)).1) ((minS q nt (passS q nt (I, J, 0) dd) (k + 1)).2.1)) by simp [minS, tickS, *]) ?_
                    rw [show (minS q nt (passS q nt (I, J, 0) dd) k).2.2 = (minS q nt (passS q nt (I, J, 0) dd) (k + 1)).2.2 by simp [minS, tickS, *]]
                    refine x_sub (lv' := [(6, .int (nI (k + 1))), (5, .int (nI 60)), (4, .ref (ad 5)), (3, .int (nI dd)), (2, .int ((minS q nt (passS q nt (I, J, 0) dd) (k + 1)).2.2)), (0, .ref (ad 0)), (1, .int a)]) [0, 2, 3, 4, 5, 6, 7] rfl ?_
                    exact ih44 (k + 1) (by omega) (by omega)
                  · refine x_aload_n F dX4_pass_71 rfl 6 rfl ?_
                    refine x_aload F dX4_pass_72 0 rfl ?_
                    refine z_callVi F [.ref (ad (80 + 4 * (nI k).toNatClampNeg))] (c_X4_runOneMinute l D cy lo R ad q ns nt ((minS q nt (passS q nt (I, J, 0) dd) k).1) ((minS q nt (passS q nt (I, J, 0) dd) k).2.1) hR (80 + 4 * (nI k).toNatClampNeg) (tlk_rng ((nI k).toNatClampNeg)) ((hL.2.2.1 _ h55n).1) ((hL.2.2.1 _ h55n).2.1) ((hL.2.2.1 _ h55n).2.2.1) ((hL.2.2.1 _ h55n).2.2.2) hL ((hq _ h55n).1) (min_len hq hL.2.2.2.1 (pass_len hq hL.2.2.2.1 hlen dd) k _ h55n)) mc_X4_runOneMinute mv_X4_runOneMinute lk_X4_162 (hL.1 0 (by decide)) sc_0 rfl rfl rfl dX4_pass_74 ⟨Nat.le_of_ble_eq_true rfl, Nat.le_of_ble_eq_true rfl⟩ ⟨Nat.le_of_ble_eq_true rfl, Nat.le_of_ble_eq_true rfl⟩ (Nat.le_of_ble_eq_true rfl) ?_
                    refine x_if_ne F 89 dX4_pass_77 (by decide) (fun h77 => ?_) (fun h77 => ?_)
                    · rw [kb1] at h77
                      refine x_iinc F [(6, .int ((nI k) + 1)), (7, .ref (ad (80 + 4 * (nI k).toNatClampNeg))), (5, .int (nI 60)), (4, .ref (ad 5)), (3, .int (nI dd)), (2, .int ((minS q nt (passS q nt (I, J, 0) dd) k).2.2)), (0, .ref (ad 0)), (1, .int a)] dX4_pass_89 1 rfl (by decide) rfl ?_
                      refine x_goto F 44 dX4_pass_92 (by decide) ?_
                      rw [nI_1]
                      refine x_world (show (k_c cy ad q ns nt (roI ((minS q nt (passS q nt (I, J, 0) dd) k).1) ((minS q nt (passS q nt (I, J, 0) dd) k).2.1) (40 + 2 * q (80 + 4 * (nI k).toNatClampNeg) 0) (80 + 4 * (nI k).toNatClampNeg)) (roJ ((minS q nt (passS q nt (I, J, 0) dd) k).1) ((minS q nt (passS q nt (I, J, 0) dd) k).2.1) (40 + 2 * q (80 + 4 * (nI k).toNatClampNeg) 0) (80 + 4 * (nI k).toNatClampNeg))) = (k_c cy ad q ns nt ((minS q nt (passS q nt (I, J, 0) dd) (k + 1)).1) ((minS q nt (passS q nt (I, J, 0) dd) (k + 1)).2.1)) by simp [minS, tickS, *]) ?_
                      rw [show (minS q nt (passS q nt (I, J, 0) dd) k).2.2 = (minS q nt (passS q nt (I, J, 0) dd) (k + 1)).2.2 by simp [minS, tickS, *]]
                      refine x_sub (lv' := [(6, .int (nI (k + 1))), (5, .int (nI 60)), (4, .ref (ad 5)), (3, .int (nI dd)), (2, .int ((minS q nt (passS q nt (I, J, 0) dd) (k + 1)).2.2)), (0, .ref (ad 0)), (1, .int a)]) [0, 2, 3, 4, 5, 6, 7] rfl ?_
                      exact ih44 (k + 1) (by omega) (by omega)
                    · rw [kb0] at h77
                      refine x_aload F dX4_pass_80 0 rfl ?_
                      refine x_iconst F (v := 2) dX4_pass_82 (by decide) ?_
                      refine p_X4_152 F (hL.2.2.1 _ h55n).1 (ss_tlk (tlk_rng ((nI k).toNatClampNeg))) dX4_pass_83 ?_
                      refine x_iinc F [(2, .int (((minS q nt (passS q nt (I, J, 0) dd) k).2.2) + 1)), (7, .ref (ad (80 + 4 * (nI k).toNatClampNeg))), (6, .int (nI k)), (5, .int (nI 60)), (4, .ref (ad 5)), (3, .int (nI dd)), (0, .ref (ad 0)), (1, .int a)] dX4_pass_86 5 rfl (by decide) rfl ?_
                      refine x_iinc F [(6, .int ((nI k) + 1)), (2, .int (((minS q nt (passS q nt (I, J, 0) dd) k).2.2) + 1)), (7, .ref (ad (80 + 4 * (nI k).toNatClampNeg))), (5, .int (nI 60)), (4, .ref (ad 5)), (3, .int (nI dd)), (0, .ref (ad 0)), (1, .int a)] dX4_pass_89 2 rfl (by decide) rfl ?_
                      refine x_goto F 44 dX4_pass_92 (by decide) ?_
                      rw [nI_1]
                      refine x_world (show (k_c cy ad q ns nt (wI (roI ((minS q nt (passS q nt (I, J, 0) dd) k).1) ((minS q nt (passS q nt (I, J, 0) dd) k).2.1) (40 + 2 * q (80 + 4 * (nI k).toNatClampNeg) 0) (80 + 4 * (nI k).toNatClampNeg)) (80 + 4 * (nI k).toNatClampNeg) 6 2) (roJ ((minS q nt (passS q nt (I, J, 0) dd) k).1) ((minS q nt (passS q nt (I, J, 0) dd) k).2.1) (40 + 2 * q (80 + 4 * (nI k).toNatClampNeg) 0) (80 + 4 * (nI k).toNatClampNeg))) = (k_c cy ad q ns nt ((minS q nt (passS q nt (I, J, 0) dd) (k + 1)).1) ((minS q nt (passS q nt (I, J, 0) dd) (k + 1)).2.1)) by simp [minS, tickS, *]) ?_
                      rw [show ((minS q nt (passS q nt (I, J, 0) dd) k).2.2) + 1 = (minS q nt (passS q nt (I, J, 0) dd) (k + 1)).2.2 by simp [minS, tickS, *]]
                      refine x_sub (lv' := [(6, .int (nI (k + 1))), (5, .int (nI 60)), (4, .ref (ad 5)), (3, .int (nI dd)), (2, .int ((minS q nt (passS q nt (I, J, 0) dd) (k + 1)).2.2)), (0, .ref (ad 0)), (1, .int a)]) [0, 3, 4, 5, 1, 6, 7] rfl ?_
                      exact ih44 (k + 1) (by omega) (by omega)
                · refine x_astoreN F [(7, .null), (6, .int (nI k)), (5, .int (nI 60)), (4, .ref (ad 5)), (3, .int (nI dd)), (2, .int ((minS q nt (passS q nt (I, J, 0) dd) k).2.2)), (0, .ref (ad 0)), (1, .int a)] dX4_pass_56 (by decide) rfl ?_
                  refine x_aloadN F dX4_pass_58 0 rfl ?_
                  refine x_ifnullN F 89 dX4_pass_60 (by decide) ?_
                  refine x_iinc F [(6, .int ((nI k) + 1)), (7, .null), (5, .int (nI 60)), (4, .ref (ad 5)), (3, .int (nI dd)), (2, .int ((minS q nt (passS q nt (I, J, 0) dd) k).2.2)), (0, .ref (ad 0)), (1, .int a)] dX4_pass_89 1 rfl (by decide) rfl ?_
                  refine x_goto F 44 dX4_pass_92 (by decide) ?_
                  rw [nI_1]
                  refine x_world (show (k_c cy ad q ns nt ((minS q nt (passS q nt (I, J, 0) dd) k).1) ((minS q nt (passS q nt (I, J, 0) dd) k).2.1)) = (k_c cy ad q ns nt ((minS q nt (passS q nt (I, J, 0) dd) (k + 1)).1) ((minS q nt (passS q nt (I, J, 0) dd) (k + 1)).2.1)) by simp [minS, tickS, *]) ?_
                  rw [show (minS q nt (passS q nt (I, J, 0) dd) k).2.2 = (minS q nt (passS q nt (I, J, 0) dd) (k + 1)).2.2 by simp [minS, tickS, *]]
                  refine x_sub (lv' := [(6, .int (nI (k + 1))), (5, .int (nI 60)), (4, .ref (ad 5)), (3, .int (nI dd)), (2, .int ((minS q nt (passS q nt (I, J, 0) dd) (k + 1)).2.2)), (0, .ref (ad 0)), (1, .int a)]) [0, 2, 3, 4, 5, 6, 7] rfl ?_
                  exact ih44 (k + 1) (by omega) (by omega)
          refine x_world (show (k_c cy ad q ns nt ((passS q nt (I, J, 0) dd).1) ((passS q nt (I, J, 0) dd).2.1)) = (k_c cy ad q ns nt ((minS q nt (passS q nt (I, J, 0) dd) 0).1) ((minS q nt (passS q nt (I, J, 0) dd) 0).2.1)) by rfl) ?_
          refine x_sub (lv' := [(6, .int (nI 0)), (5, .int (nI 60)), (4, .ref (ad 5)), (3, .int (nI dd)), (2, .int ((minS q nt (passS q nt (I, J, 0) dd) 0).2.2)), (0, .ref (ad 0)), (1, .int a)]) [0, 1, 2, 3, 4, 5, 6] rfl ?_
          exact lp44 61 0 (by omega) (by omega)
    refine x_sub (lv' := [(3, .int (nI 0)), (2, .int ((passS q nt (I, J, 0) 0).2.2)), (0, .ref (ad 0)), (1, .int a)]) [0, 1, 2, 3] rfl ?_
    exact lp25 (a.toNatClampNeg + 1) 0 (by omega) (by omega)
  · rw [kb0] at h8
    rw [hQ]
    exact x_throw F hfl ht hlk (by decide +kernel) ck_X4_56 ik_IA sk_X4_160 k_at_IA dX4_pass_11 dX4_pass_14 dX4_pass_15 dX4_pass_17 dX4_pass_20 ⟨Nat.le_of_ble_eq_true rfl, Nat.le_of_ble_eq_true rfl, Nat.le_of_ble_eq_true rfl, Nat.le_of_ble_eq_true rfl⟩ ⟨⟨rfl, by assumption⟩, rfl⟩ (by decide) (by decide)
end
