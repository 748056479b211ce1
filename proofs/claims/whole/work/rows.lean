section
-- ===== PART A: goes FIRST, ahead of the names: the tables' words, and 'selects' of the private methods out of them =====
/-- a private method of a class that the tables say can be made, by its rows of tables_1 -/
def lw_okq (q : MethodName × Nat) : Prop := (q.1.cls ≠ "java/lang/invoke/MethodHandle" ∧ q.1.cls ≠ "java/lang/invoke/VarHandle") ∧ Cond.instantiable q.1.cls q.2 ∈ tables_1 ∧ Cond.privateMethod q.1 ∈ tables_1 ∧ Cond.instanceMethod q.1 ∈ tables_1
theorem lw_p0 : lw_okq (⟨"java/lang/Throwable", "fillInStackTrace", "(I)Ljava/lang/Throwable;"⟩, 6) := ⟨⟨by decide +kernel, by decide +kernel⟩, List.mem_of_getElem? (i := 146) (by decide +kernel), List.mem_of_getElem? (i := 144) (by decide +kernel), List.mem_of_getElem? (i := 145) (by decide +kernel)⟩
theorem lw_p1 : lw_okq (⟨"RoamLedger", "subscriberOf", "(I)LRoamLedger$Subscriber;"⟩, 8) := ⟨⟨by decide +kernel, by decide +kernel⟩, List.mem_of_getElem? (i := 16) (by decide +kernel), List.mem_of_getElem? (i := 279) (by decide +kernel), List.mem_of_getElem? (i := 280) (by decide +kernel)⟩
theorem lw_p2 : lw_okq (⟨"RoamLedger", "isTalking", "(LRoamLedger$Subscriber;)Z"⟩, 8) := ⟨⟨by decide +kernel, by decide +kernel⟩, List.mem_of_getElem? (i := 16) (by decide +kernel), List.mem_of_getElem? (i := 333) (by decide +kernel), List.mem_of_getElem? (i := 334) (by decide +kernel)⟩
theorem lw_p3 : lw_okq (⟨"RoamLedger$Network", "weighWaysTo", "(I)V"⟩, 4) := ⟨⟨by decide +kernel, by decide +kernel⟩, List.mem_of_getElem? (i := 24) (by decide +kernel), List.mem_of_getElem? (i := 344) (by decide +kernel), List.mem_of_getElem? (i := 345) (by decide +kernel)⟩
theorem lw_p4 : lw_okq (⟨"RoamLedger$Network", "weightOver", "(II)I"⟩, 4) := ⟨⟨by decide +kernel, by decide +kernel⟩, List.mem_of_getElem? (i := 24) (by decide +kernel), List.mem_of_getElem? (i := 353) (by decide +kernel), List.mem_of_getElem? (i := 354) (by decide +kernel)⟩
theorem lw_p5 : lw_okq (⟨"RoamLedger$Network", "nextOnBest", "(I)I"⟩, 4) := ⟨⟨by decide +kernel, by decide +kernel⟩, List.mem_of_getElem? (i := 24) (by decide +kernel), List.mem_of_getElem? (i := 369) (by decide +kernel), List.mem_of_getElem? (i := 370) (by decide +kernel)⟩
theorem lw_p6 : lw_okq (⟨"RoamLedger", "newTalk", "(LRoamLedger$Subscriber;LRoamLedger$Subscriber;LRoamLedger$Route;)LRoamLedger$Talk;"⟩, 8) := ⟨⟨by decide +kernel, by decide +kernel⟩, List.mem_of_getElem? (i := 16) (by decide +kernel), List.mem_of_getElem? (i := 374) (by decide +kernel), List.mem_of_getElem? (i := 375) (by decide +kernel)⟩
theorem lw_p7 : lw_okq (⟨"RoamLedger", "talkOf", "(I)LRoamLedger$Talk;"⟩, 8) := ⟨⟨by decide +kernel, by decide +kernel⟩, List.mem_of_getElem? (i := 16) (by decide +kernel), List.mem_of_getElem? (i := 438) (by decide +kernel), List.mem_of_getElem? (i := 439) (by decide +kernel)⟩
theorem lw_p8 : lw_okq (⟨"RoamLedger", "runOneMinute", "(LRoamLedger$Talk;)Z"⟩, 8) := ⟨⟨by decide +kernel, by decide +kernel⟩, List.mem_of_getElem? (i := 16) (by decide +kernel), List.mem_of_getElem? (i := 452) (by decide +kernel), List.mem_of_getElem? (i := 453) (by decide +kernel)⟩
theorem lw_p9 : lw_okq (⟨"RoamLedgerModel", "isNumber", "(I)Z"⟩, 27) := ⟨⟨by decide +kernel, by decide +kernel⟩, List.mem_of_getElem? (i := 577) (by decide +kernel), List.mem_of_getElem? (i := 700) (by decide +kernel), List.mem_of_getElem? (i := 701) (by decide +kernel)⟩
theorem lw_p10 : lw_okq (⟨"RoamLedgerModel", "homeOf", "(I)I"⟩, 27) := ⟨⟨by decide +kernel, by decide +kernel⟩, List.mem_of_getElem? (i := 577) (by decide +kernel), List.mem_of_getElem? (i := 704) (by decide +kernel), List.mem_of_getElem? (i := 705) (by decide +kernel)⟩
theorem lw_p11 : lw_okq (⟨"RoamLedgerModel", "isBusy", "(I)Z"⟩, 27) := ⟨⟨by decide +kernel, by decide +kernel⟩, List.mem_of_getElem? (i := 577) (by decide +kernel), List.mem_of_getElem? (i := 729) (by decide +kernel), List.mem_of_getElem? (i := 730) (by decide +kernel)⟩
theorem lw_p12 : lw_okq (⟨"RoamLedgerModel", "finds", "(II)Z"⟩, 27) := ⟨⟨by decide +kernel, by decide +kernel⟩, List.mem_of_getElem? (i := 577) (by decide +kernel), List.mem_of_getElem? (i := 733) (by decide +kernel), List.mem_of_getElem? (i := 734) (by decide +kernel)⟩
theorem lw_p13 : lw_okq (⟨"RoamLedgerModel", "costOf", "(I)I"⟩, 27) := ⟨⟨by decide +kernel, by decide +kernel⟩, List.mem_of_getElem? (i := 577) (by decide +kernel), List.mem_of_getElem? (i := 737) (by decide +kernel), List.mem_of_getElem? (i := 738) (by decide +kernel)⟩
theorem lw_p14 : lw_okq (⟨"RoamLedgerModel", "canGo", "(I)Z"⟩, 27) := ⟨⟨by decide +kernel, by decide +kernel⟩, List.mem_of_getElem? (i := 577) (by decide +kernel), List.mem_of_getElem? (i := 741) (by decide +kernel), List.mem_of_getElem? (i := 742) (by decide +kernel)⟩
theorem lw_p15 : lw_okq (⟨"RoamLedgerModel", "isShut", "(II)Z"⟩, 27) := ⟨⟨by decide +kernel, by decide +kernel⟩, List.mem_of_getElem? (i := 577) (by decide +kernel), List.mem_of_getElem? (i := 745) (by decide +kernel), List.mem_of_getElem? (i := 746) (by decide +kernel)⟩
def lw_privs_1 : List (MethodName × Nat) := [(⟨"java/lang/Throwable", "fillInStackTrace", "(I)Ljava/lang/Throwable;"⟩, 6), (⟨"RoamLedger", "subscriberOf", "(I)LRoamLedger$Subscriber;"⟩, 8), (⟨"RoamLedger", "isTalking", "(LRoamLedger$Subscriber;)Z"⟩, 8), (⟨"RoamLedger$Network", "weighWaysTo", "(I)V"⟩, 4), (⟨"RoamLedger$Network", "weightOver", "(II)I"⟩, 4), (⟨"RoamLedger$Network", "nextOnBest", "(I)I"⟩, 4), (⟨"RoamLedger", "newTalk", "(LRoamLedger$Subscriber;LRoamLedger$Subscriber;LRoamLedger$Route;)LRoamLedger$Talk;"⟩, 8), (⟨"RoamLedger", "talkOf", "(I)LRoamLedger$Talk;"⟩, 8), (⟨"RoamLedger", "runOneMinute", "(LRoamLedger$Talk;)Z"⟩, 8), (⟨"RoamLedgerModel", "isNumber", "(I)Z"⟩, 27), (⟨"RoamLedgerModel", "homeOf", "(I)I"⟩, 27), (⟨"RoamLedgerModel", "isBusy", "(I)Z"⟩, 27), (⟨"RoamLedgerModel", "finds", "(II)Z"⟩, 27), (⟨"RoamLedgerModel", "costOf", "(I)I"⟩, 27), (⟨"RoamLedgerModel", "canGo", "(I)Z"⟩, 27), (⟨"RoamLedgerModel", "isShut", "(II)Z"⟩, 27)]
theorem lw_r1 : ∀ q ∈ lw_privs_1, lw_okq q := List.forall_mem_cons.mpr ⟨lw_p0, List.forall_mem_cons.mpr ⟨lw_p1, List.forall_mem_cons.mpr ⟨lw_p2, List.forall_mem_cons.mpr ⟨lw_p3, List.forall_mem_cons.mpr ⟨lw_p4, List.forall_mem_cons.mpr ⟨lw_p5, List.forall_mem_cons.mpr ⟨lw_p6, List.forall_mem_cons.mpr ⟨lw_p7, List.forall_mem_cons.mpr ⟨lw_p8, List.forall_mem_cons.mpr ⟨lw_p9, List.forall_mem_cons.mpr ⟨lw_p10, List.forall_mem_cons.mpr ⟨lw_p11, List.forall_mem_cons.mpr ⟨lw_p12, List.forall_mem_cons.mpr ⟨lw_p13, List.forall_mem_cons.mpr ⟨lw_p14, List.forall_mem_cons.mpr ⟨lw_p15, fun _ h => absurd h List.not_mem_nil⟩⟩⟩⟩⟩⟩⟩⟩⟩⟩⟩⟩⟩⟩⟩⟩
theorem lw_p16 : lw_okq (⟨"RoamLedgerModel", "debtOf", "(II)J"⟩, 27) := ⟨⟨by decide +kernel, by decide +kernel⟩, List.mem_of_getElem? (i := 577) (by decide +kernel), List.mem_of_getElem? (i := 749) (by decide +kernel), List.mem_of_getElem? (i := 750) (by decide +kernel)⟩
theorem lw_p17 : lw_okq (⟨"RoamLedgerModel", "takesBest", "(I)V"⟩, 27) := ⟨⟨by decide +kernel, by decide +kernel⟩, List.mem_of_getElem? (i := 577) (by decide +kernel), List.mem_of_getElem? (i := 753) (by decide +kernel), List.mem_of_getElem? (i := 754) (by decide +kernel)⟩
theorem lw_p18 : lw_okq (⟨"RoamLedgerModel", "isCall", "(I)Z"⟩, 27) := ⟨⟨by decide +kernel, by decide +kernel⟩, List.mem_of_getElem? (i := 577) (by decide +kernel), List.mem_of_getElem? (i := 761) (by decide +kernel), List.mem_of_getElem? (i := 762) (by decide +kernel)⟩
theorem lw_p19 : lw_okq (⟨"RoamLedgerModel", "minute", "(I)V"⟩, 27) := ⟨⟨by decide +kernel, by decide +kernel⟩, List.mem_of_getElem? (i := 577) (by decide +kernel), List.mem_of_getElem? (i := 769) (by decide +kernel), List.mem_of_getElem? (i := 770) (by decide +kernel)⟩
theorem lw_p20 : lw_okq (⟨"RoamLedgerModel", "isStopped", "(I)Z"⟩, 27) := ⟨⟨by decide +kernel, by decide +kernel⟩, List.mem_of_getElem? (i := 577) (by decide +kernel), List.mem_of_getElem? (i := 773) (by decide +kernel), List.mem_of_getElem? (i := 774) (by decide +kernel)⟩
theorem lw_p21 : lw_okq (⟨"RoamLedgerModel", "isPaid", "(I)Z"⟩, 27) := ⟨⟨by decide +kernel, by decide +kernel⟩, List.mem_of_getElem? (i := 577) (by decide +kernel), List.mem_of_getElem? (i := 777) (by decide +kernel), List.mem_of_getElem? (i := 778) (by decide +kernel)⟩
theorem lw_p22 : lw_okq (⟨"RoamLedgerModel", "asks", "(I)Z"⟩, 27) := ⟨⟨by decide +kernel, by decide +kernel⟩, List.mem_of_getElem? (i := 577) (by decide +kernel), List.mem_of_getElem? (i := 785) (by decide +kernel), List.mem_of_getElem? (i := 786) (by decide +kernel)⟩
def lw_privs_2 : List (MethodName × Nat) := [(⟨"RoamLedgerModel", "debtOf", "(II)J"⟩, 27), (⟨"RoamLedgerModel", "takesBest", "(I)V"⟩, 27), (⟨"RoamLedgerModel", "isCall", "(I)Z"⟩, 27), (⟨"RoamLedgerModel", "minute", "(I)V"⟩, 27), (⟨"RoamLedgerModel", "isStopped", "(I)Z"⟩, 27), (⟨"RoamLedgerModel", "isPaid", "(I)Z"⟩, 27), (⟨"RoamLedgerModel", "asks", "(I)Z"⟩, 27)]
theorem lw_r2 : ∀ q ∈ lw_privs_2, lw_okq q := List.forall_mem_cons.mpr ⟨lw_p16, List.forall_mem_cons.mpr ⟨lw_p17, List.forall_mem_cons.mpr ⟨lw_p18, List.forall_mem_cons.mpr ⟨lw_p19, List.forall_mem_cons.mpr ⟨lw_p20, List.forall_mem_cons.mpr ⟨lw_p21, List.forall_mem_cons.mpr ⟨lw_p22, fun _ h => absurd h List.not_mem_nil⟩⟩⟩⟩⟩⟩⟩
def lw_privs : List (MethodName × Nat) := lw_privs_1 ++ (lw_privs_2)
def lw_tbl : List Cond := k2_sels lw_privs ++ tables_1
theorem lw_privs_ok : ∀ q ∈ lw_privs, lw_okq q := by
  show ∀ q ∈ lw_privs_1 ++ (lw_privs_2), lw_okq q
  exact List.forall_mem_append.mpr ⟨lw_r1, lw_r2⟩
end
section
/-! ===== BEGIN words of one list among another's, by their places ===== -/
theorem goodIn_r {big : List Cond} (ws : List Cond) (ps : List Nat) (hp : ws = ps.filterMap (fun i => big[i]?)) (h : ws.all goodWord = true) : GoodIn big ws := by
  intro w hw
  have h1 := List.all_eq_true.mp h w hw
  rw [hp] at hw
  obtain ⟨i, -, hi⟩ := List.mem_filterMap.mp hw
  have hm : w ∈ big := by first | exact List.mem_of_getElem? hi | exact List.getElem?_mem hi
  exact ⟨hm, good_of_word h1⟩
theorem goodIn_app {big a b : List Cond} (ha : GoodIn big a) (hb : GoodIn big b) : GoodIn big (a ++ b) := fun w h => (List.mem_append.mp h).elim (ha w) (hb w)
theorem goodIn_ca {big a b : List Cond} {c : Cond} (ha : GoodIn big (c :: a)) (hb : GoodIn big b) : GoodIn big (c :: (a ++ b)) := fun w h => (List.mem_cons.mp h).elim (fun e => ha w (List.mem_cons.mpr (Or.inl e))) (fun h => (List.mem_append.mp h).elim (fun h => ha w (List.mem_cons.mpr (Or.inr h))) (hb w))
theorem goodIn_sub {big ws : List Cond} (hm : ∀ w ∈ ws, w ∈ big) (h : ws.all goodWord = true) : GoodIn big ws := fun w hw => ⟨hm w hw, good_of_word (List.all_eq_true.mp h w hw)⟩
/-! ===== END ===== -/

/-! ===== BEGIN exceptions that leave a method, and their catching by the caller (launches without stack traces) ===== -/
section VXA
/-! The laws vx_back, vx_callV, vx_callS, vx_callSW, vx_throw0, vx_throwS follow proofs of the library, with one case more: JvmDerived/Free/Laws.lean (Back.of_free), Shelf42/LK1.lean (callV, callS), Shelf/KitTraced.lean (throwNew0V, throwNewS). -/
/-- where a method has thrown q: the class by its name, the cell, what was written, the world -/
def vx_T (XC : String → State → State → Prop) (st : State) (q : Addr) (t : State) (mc ms : Nat) (free : Addr → Prop) : Prop :=
  ∃ (E : String) (ce : Cell) (L : List Loc), XC E st t ∧ t.heap[q]? = some ce ∧ ce.vm = .none ∧ st.vm.findClass E = some ce.cls ∧ st.WarmedH t.vm ∧ st.sameButNew ({ t with vm := st.vm } : State) L mc ms ∧ ∀ z ∈ L, free z.base
def vx_Q (Qc : Array Value → State → Outcome → State → Prop) (XC : String → State → State → Prop) (mc ms : Nat) (free : Addr → Prop) : Array Value → State → Outcome → State → Prop := fun a st o t =>
  (Qc a st o t ∧ ∃ L, FrameEnd st o t L mc ms ∧ ∀ q ∈ L, free q.base) ∨ ∃ q, o = .threw q ∧ vx_T XC st q t mc ms free
/-- a callee that returns or throws -/
def vx_Met (l : Launch) (y : MethodName) (ws : List Cond) (rm : Room) (Pc : Array Value → State → Prop) (Qc : Array Value → State → Outcome → State → Prop) (XC : String → State → State → Prop) (mc ms : Nat) (free : Addr → Prop) : Prop :=
  MetFree l y (headSpec ws rm) Pc (fun _ _ _ _ _ => True) (vx_Q Qc XC mc ms free)
def vx_Post (XC : String → State → State → Prop) (mc ms : Nat) (free : Addr → Prop) : Pt → Array Value → Addr → Pt → Prop := fun A a q B =>
  ∃ (g : JFrame) (mk : MethodId) (t : State) (L : List Loc) (E : String) (ce : Cell), B.U.heap = t.heap ∧ B.U.vm = t.vm ∧ XC E (A.U.calling g mk a) t ∧ t.heap[q]? = some ce ∧ ce.vm = .none ∧ A.U.vm.findClass E = some ce.cls ∧ B.locs = A.locs ++ L ∧ (∀ z ∈ L, free z.base) ∧ B.cells = A.cells + mc ∧ B.slots = A.slots + ms
def vx_Back (l : Launch) (R : Room) (p : Program) (e : Env) (below : List Frame) (s : State) (sargs : Array Value) (y : MethodName) (len W9 : Nat)
    (Pre : Pt → Array Value → Prop) (Post : Pt → Array Value → Option Value → Pt → Prop) (PostX : Pt → Array Value → Addr → Pt → Prop) : Prop :=
  ∀ (m : MethodId) (meth : Method) (c : Code) (A : Pt) (g : JFrame) (ig : Instr) (mk : MethodId) (a : Array Value),
    Stand p l e R s m sargs below meth c A.U A.locs A.cells A.slots → g.method = m → g.locals.size = c.maxLocals → decode c.code g.pc = .ok (ig, len) →
    2 * g.monitorRoom + (g.stack.map fun v => v.category).sum ≤ W9 → A.U.methodNamed? y = some mk → Pre A a →
    (∃ (v : Option Value) (B : Pt), Stand p l e R s m sargs below meth c B.U B.locs B.cells B.slots ∧ Post A a v B ∧
      Steps p.tables e below (doInvoke e (A.U.setTop g) [] mk a).1 (B.U.setTop { g with pc := g.pc + len, stack := v.toList ++ g.stack })) ∨
    (∃ (q : Addr) (B : Pt), Stand p l e R s m sargs below meth c B.U B.locs B.cells B.slots ∧ PostX A a q B ∧
      Steps p.tables e below (doInvoke e (A.U.setTop g) [] mk a).1 ((B.U.setTop g).pushFrame (.throwing q)))
section Payer
variable {l : Launch} {R : Room} {p : Program} {e : Env} {below : List Frame} {s : State} {sargs : Array Value} {y : MethodName} {len W9 : Nat}
theorem vx_back {ws : List Cond} {rm : Room} {Pc : Array Value → State → Prop} {Qc : Array Value → State → Outcome → State → Prop} {XC : String → State → State → Prop} {mc ms : Nat} {free : Addr → Prop} {bytes : ByteArray} {maxL : Nat} {ret : Option FieldType}
    (hM : vx_Met l y ws rm Pc Qc XC mc ms free) (hblind : FrameBlind Pc) (hrc : rm.cells = mc) (hrs : rm.slots = ms)
    (hframes : rm.frames + 1 ≤ R.frames) (hlocals : W9 + (maxL + 11) + rm.locals ≤ R.locals)
    (hws : ∀ w ∈ ws, ∀ a' U, s.WarmedH U.vm → w.before a' U = true) (hcode : Cond.code y bytes maxL ret ∈ ws) (hinit : ∀ a' U, s.WarmedH U.vm → (Cond.initialized y.cls).before a' U = true) :
    vx_Back l R p e below s sargs y len W9 (PreOf R mc ms Pc) (PostOf Qc mc ms free) (vx_Post XC mc ms free) := by
  intro m meth c A g ig mk a X hg hsize hdg hW hn hp
  have h1 : (headSpec ws rm).pre.before a A.U = true := atoms_intro fun w hw => hws w hw _ _ X.warmed
  have h2 : (Cond.code y bytes maxL ret).before a A.U = true := hws _ hcode _ _ X.warmed
  have h3 : (Cond.initialized y.cls).before a A.U = true := hinit _ _ X.warmed
  have h4 : A.cells + (headSpec ws rm).room.cells ≤ R.cells := by rw [show (headSpec ws rm).room.cells = mc from hrc]; exact hp.1
  have h5 : A.slots + (headSpec ws rm).room.slots ≤ R.slots := by rw [show (headSpec ws rm).room.slots = ms from hrs]; exact hp.2.1
  have hPc : Pc a (A.U.calling g mk a) := hblind _ _ _ _ hp.2.2
  obtain ⟨U, Ls, c0, s0⟩ := A
  dsimp only [Pt.U, Pt.locs, Pt.cells, Pt.slots] at h1 h2 h3 h4 h5 X hn hPc ⊢
  obtain ⟨methY, cY, hmY, hcY, -, hlY, -, -, -, -⟩ := Cond.code_spec hn h2
  obtain ⟨kY, hkY, -⟩ := className_of_methodNamed hn
  have hinitY : kY.init = .initialized := Cond.initialized_spec (findClass_of_methodNamed hn) hkY h3
  have h : At U g.method c below := by rw [hg]; exact X.here
  have hlocals9 : W9 + (maxL + 11) + (headSpec ws rm).room.locals ≤ R.locals := hlocals
  have happ : (headSpec ws rm).appliesLoose y e.platform (U.calling g mk a) = true :=
    Spec.appliesLoose_calling (g := g) h hdg hn hkY hinitY
      (X.room_calling (g := g) (R' := (headSpec ws rm).room) hsize hmY hcY hframes (by rw [hlY]; omega) h4 h5) h1
  obtain ⟨mid, hmid⟩ := h.above
  have hfr : (U.setTop g).frames = (.java g :: mid) ++ below := by rw [State.frames_setTop' g h.top, hmid]; rfl
  obtain ⟨o, s₂, hsteps, -, hend, hq⟩ := Steps.callFree hM p X.admits X.cas X.clock (acts := []) hfr happ hPc trivial
  have hq' : vx_Q Qc XC mc ms free a (U.calling g mk a) o s₂ := hq
  rw [State.frames_setTop' g h.top] at hend
  obtain ⟨g₀, hg0⟩ := Option.isSome_iff_exists.mp h.top
  obtain ⟨r, hr⟩ := State.topJava?_eq_some.mp hg0
  have hr' : (({ U with heap := s₂.heap, slotsUsed := s₂.slotsUsed } : State).setVm s₂.vm).frames = .java g₀ :: r := hr
  rcases hq' with ⟨hqc, L, hfe, hL⟩ | ⟨q, rfl, E, ce, L, hx, hce, hcv, hcl, hW₂, hsm, hL⟩
  · obtain ⟨⟨v, rfl⟩, hW₂, e2, q2, q3, q4, q5, q6⟩ := id hfe
    have e3 : s₂ = ({ (U.calling g mk a).setFrames s₂.frames with heap := s₂.heap, slotsUsed := s₂.slotsUsed } : State).setVm s₂.vm := by
      have : s₂ = ({ s₂ with vm := (U.calling g mk a).vm } : State).setVm s₂.vm := rfl
      rw [e2] at this
      exact this
    obtain ⟨c₂, i₂, len₂, hc₂, hd₂, hf₂⟩ := hend
    have hW' : U.WarmedH s₂.vm := hW₂
    have hcc : c₂ = c := by
      have h1 : s₂.code? g.method = U.code? g.method := by
        rw [State.code?_eq, State.code?_eq, hW'.alike.method?]
      exact Option.some.inj (hc₂.symm.trans (h1.trans h.code))
    subst hcc
    have hlen : len₂ = len := by rw [hdg] at hd₂; cases hd₂; rfl
    subst hlen
    have hs₂ : s₂ = (({ U with heap := s₂.heap, slotsUsed := s₂.slotsUsed } : State).setVm s₂.vm).setTop { g with pc := g.pc + len₂, stack := v.toList ++ g.stack } := by
      refine e3.trans ?_
      rw [hf₂, State.calling_eq h.top, State.setFrames_setFrames, State.setTop_of_frames _ hr', hr]
      rfl
    have hsame : U.sameButNew ({ U with heap := s₂.heap, slotsUsed := s₂.slotsUsed } : State) L mc ms := by
      refine ⟨?_, q2, q3, q4, q5, q6⟩
      obtain ⟨t, ht, -⟩ := State.frames_cons hr
      show ({ U with heap := s₂.heap, slotsUsed := s₂.slotsUsed } : State) = { U.setFrames U.frames with heap := s₂.heap, slotsUsed := s₂.slotsUsed }
      rw [State.setFrames_self ht]
    subst hg
    refine Or.inl ⟨v, ⟨(({ U with heap := s₂.heap, slotsUsed := s₂.slotsUsed } : State).setVm s₂.vm), Ls ++ L, c0 + mc, s0 + ms⟩,
      ⟨X.admits, X.cas, X.clock, X.frames, X.room, X.hears, X.method, X.code, (X.here.setHeapUsed s₂.heap s₂.slotsUsed).setVm hW'.alike, X.tail, State.WarmedH.trans X.warmed hW', X.limits, X.bytes, X.same.trans (hsame.setVm s.vm)⟩,
      ⟨g, mk, s₂, L, rfl, rfl, hqc, rfl, hL, rfl, rfl⟩, ?_⟩
    show Steps p.tables e below _ ((({ U with heap := s₂.heap, slotsUsed := s₂.slotsUsed } : State).setVm s₂.vm).setTop { g with pc := g.pc + len₂, stack := v.toList ++ g.stack })
    rw [← hs₂]
    exact hsteps
  · obtain ⟨e2, q2, q3, q4, q5, q6⟩ := id hsm
    have e3 : s₂ = ({ (U.calling g mk a).setFrames s₂.frames with heap := s₂.heap, slotsUsed := s₂.slotsUsed } : State).setVm s₂.vm := by
      have : s₂ = ({ s₂ with vm := (U.calling g mk a).vm } : State).setVm s₂.vm := rfl
      rw [e2] at this
      exact this
    have hf₂ : s₂.frames = .throwing q :: .java g :: U.frames.tail := hend
    have hW' : U.WarmedH s₂.vm := hW₂
    have hs₂ : s₂ = ((({ U with heap := s₂.heap, slotsUsed := s₂.slotsUsed } : State).setVm s₂.vm).setTop g).pushFrame (.throwing q) := by
      refine e3.trans ?_
      rw [hf₂, State.calling_eq h.top, State.setFrames_setFrames, State.pushFrame, State.frames_setTop _ hr', State.setTop_of_frames _ hr', State.setFrames_setFrames, hr]
      rfl
    have hsame : U.sameButNew ({ U with heap := s₂.heap, slotsUsed := s₂.slotsUsed } : State) L mc ms := by
      refine ⟨?_, q2, q3, q4, q5, q6⟩
      obtain ⟨t, ht, -⟩ := State.frames_cons hr
      show ({ U with heap := s₂.heap, slotsUsed := s₂.slotsUsed } : State) = { U.setFrames U.frames with heap := s₂.heap, slotsUsed := s₂.slotsUsed }
      rw [State.setFrames_self ht]
    subst hg
    refine Or.inr ⟨q, ⟨(({ U with heap := s₂.heap, slotsUsed := s₂.slotsUsed } : State).setVm s₂.vm), Ls ++ L, c0 + mc, s0 + ms⟩,
      ⟨X.admits, X.cas, X.clock, X.frames, X.room, X.hears, X.method, X.code, (X.here.setHeapUsed s₂.heap s₂.slotsUsed).setVm hW'.alike, X.tail, State.WarmedH.trans X.warmed hW', X.limits, X.bytes, X.same.trans (hsame.setVm s.vm)⟩,
      ⟨g, mk, s₂, L, E, ce, rfl, rfl, hx, hce, hcv, hcl, rfl, hL, rfl, rfl⟩, ?_⟩
    show Steps p.tables e below _ (((({ U with heap := s₂.heap, slotsUsed := s₂.slotsUsed } : State).setVm s₂.vm).setTop g).pushFrame (.throwing q))
    rw [← hs₂]
    exact hsteps
end Payer
section Calls
variable {p : Program} {l : Launch} {e : Env} {R : Room} {s : State} {m : MethodId} {args : Array Value} {below : List Frame} {meth : Method} {c : Code} {T : State} {locs : List Loc} {cells slots : Nat}
theorem vx_callV (X : Stand p l e R s m args below meth c T locs cells slots) (hexec : p.tables.exec = Jvm.exec) {own C : String} {index : Nat} {y : MethodName} {bytes : ByteArray} {maxL : Nat} {ret : Option FieldType}
    (hown : s.vm.findClass own = some m.cls) (hlink : (Cond.methodLink own index y).before args s = true) (hinst : (Cond.instanceMethod y).before args s = true) (hsel : (Cond.selects C y y).before args s = true)
    (hcode : (Cond.code y bytes maxL ret).before args s = true) (hy : y.cls ≠ "java/lang/invoke/MethodHandle" ∧ y.cls ≠ "java/lang/invoke/VarHandle")
    {W9 : Nat} {Pre : Pt → Array Value → Prop} {Post : Pt → Array Value → Option Value → Pt → Prop} {PostX : Pt → Array Value → Addr → Pt → Prop} (hK : vx_Back l R p e below s args y 3 W9 Pre Post PostX)
    {b : Addr} {cellB : Cell} (hcell : T.heap[b]? = some cellB) (hobj : cellB.vm.isStatics = false) (hcls : s.vm.findClass C = some cellB.cls)
    {g : JFrame} (hg : g.method = m) (hsize : g.locals.size = c.maxLocals) {argsL rest : List Value} (hlen : ∀ sig, parseMethodDescriptor y.desc = some sig → argsL.length = sig.parameters.length)
    (hstack : g.stack = argsL.reverse ++ .ref b :: rest) (hW : 2 * g.monitorRoom + (rest.map fun v => v.category).sum ≤ W9) (hdg : decode c.code g.pc = .ok (.invokevirtual index, 3))
    (hpre : ∀ vm₁, s.WarmedH vm₁ → Pre ⟨T.setVm vm₁, locs, cells, slots⟩ (Value.ref b :: argsL).toArray) :
    (∃ (v : Option Value) (vm₁ : Vm) (B : Pt), s.WarmedH vm₁ ∧ Stand p l e R s m args below meth c B.U B.locs B.cells B.slots ∧ Post ⟨T.setVm vm₁, locs, cells, slots⟩ (Value.ref b :: argsL).toArray v B ∧
      ∀ target, Steps p.tables e below (B.U.setTop { g with pc := g.pc + 3, stack := v.toList ++ rest }) target → Steps p.tables e below (T.setTop g) target) ∨
    (∃ (q : Addr) (vm₁ : Vm) (B : Pt), s.WarmedH vm₁ ∧ Stand p l e R s m args below meth c B.U B.locs B.cells B.slots ∧ PostX ⟨T.setVm vm₁, locs, cells, slots⟩ (Value.ref b :: argsL).toArray q B ∧
      Steps p.tables e below (T.setTop g) ((B.U.setTop { g with stack := rest }).pushFrame (.throwing q))) := by
  obtain ⟨mk, methM, hnamed, hmethM, hstM, habM⟩ := Cond.instanceMethod_spec hinst
  obtain ⟨methM', cM, hmethM', -, -, -, -, -, -, hsigM⟩ := Cond.code_spec hnamed hcode
  cases hmethM.symm.trans hmethM'
  obtain ⟨c2, r2, m2, q1, q2, q3, q4, kP, hkP, hkPi⟩ := Cond.selects_spec hsel
  cases hcls.symm.trans q1
  cases (State.methodFound?_of_named hnamed hy).symm.trans q2
  cases hnamed.symm.trans q3
  have hselP : selectMethod e.platform s.vm cellB.cls mk = .method mk := by rw [Launch.admits_selectMethod X.admits]; exact q4
  obtain ⟨vm₁, X₁, hstep₁⟩ := X.invokevirtual hexec hown hlink hnamed hmethM hstM hkP hkPi hy (a := b) (cell := cellB) hcell
    (fun z h => by rw [h] at hobj; cases hobj) hselP hmethM habM hkP hkPi (g := g) hg (argsL := argsL) (rest := rest) (hlen _ hsigM) hstack hdg
  rcases hK m meth c ⟨T.setVm vm₁, locs, cells, slots⟩ { g with stack := rest } (.invokevirtual index) mk (Value.ref b :: argsL).toArray X₁ hg hsize hdg hW (X₁.named hnamed) (hpre vm₁ X₁.warmed) with ⟨v, B, X', hpost, hsteps⟩ | ⟨q, B, X', hpost, hsteps⟩
  · exact Or.inl ⟨v, vm₁, B, X₁.warmed, X', hpost, fun target h => hstep₁ _ fun acts => by rw [doInvoke_state]; exact hsteps.trans h⟩
  · exact Or.inr ⟨q, vm₁, B, X₁.warmed, X', hpost, hstep₁ _ fun acts => by rw [doInvoke_state]; exact hsteps⟩
theorem vx_callS (X : Stand p l e R s m args below meth c T locs cells slots) (hexec : p.tables.exec = Jvm.exec) {own : String} {index : Nat} {y : MethodName} {bytes : ByteArray} {maxL : Nat} {ret : Option FieldType}
    (hown : s.vm.findClass own = some m.cls) (hlink : (Cond.methodLink own index y).before args s = true) (hstat : (Cond.static y).before args s = true) (hinit : (Cond.initialized y.cls).before args s = true)
    (hcode : (Cond.code y bytes maxL ret).before args s = true) (hy : y.cls ≠ "java/lang/invoke/MethodHandle" ∧ y.cls ≠ "java/lang/invoke/VarHandle")
    {W9 : Nat} {Pre : Pt → Array Value → Prop} {Post : Pt → Array Value → Option Value → Pt → Prop} {PostX : Pt → Array Value → Addr → Pt → Prop} (hK : vx_Back l R p e below s args y 3 W9 Pre Post PostX)
    {g : JFrame} (hg : g.method = m) (hsize : g.locals.size = c.maxLocals) {argsL rest : List Value} (hlen : ∀ sig, parseMethodDescriptor y.desc = some sig → argsL.length = sig.parameters.length)
    (hstack : g.stack = argsL.reverse ++ rest) (hW : 2 * g.monitorRoom + (rest.map fun v => v.category).sum ≤ W9) (hdg : decode c.code g.pc = .ok (.invokestatic index, 3))
    (hpre : ∀ vm₁, s.WarmedH vm₁ → Pre ⟨T.setVm vm₁, locs, cells, slots⟩ argsL.toArray) :
    (∃ (v : Option Value) (vm₁ : Vm) (B : Pt), s.WarmedH vm₁ ∧ Stand p l e R s m args below meth c B.U B.locs B.cells B.slots ∧ Post ⟨T.setVm vm₁, locs, cells, slots⟩ argsL.toArray v B ∧
      ∀ target, Steps p.tables e below (B.U.setTop { g with pc := g.pc + 3, stack := v.toList ++ rest }) target → Steps p.tables e below (T.setTop g) target) ∨
    (∃ (q : Addr) (vm₁ : Vm) (B : Pt), s.WarmedH vm₁ ∧ Stand p l e R s m args below meth c B.U B.locs B.cells B.slots ∧ PostX ⟨T.setVm vm₁, locs, cells, slots⟩ argsL.toArray q B ∧
      Steps p.tables e below (T.setTop g) ((B.U.setTop { g with stack := rest }).pushFrame (.throwing q))) := by
  obtain ⟨mk, hnamed⟩ := Cond.code_named hcode
  obtain ⟨methM, cM, hmethM, -, -, -, -, -, -, hsigM⟩ := Cond.code_spec hnamed hcode
  have hstatic : methM.isStatic = true := Cond.static_spec hnamed hmethM hstat
  obtain ⟨kP, hkP, -⟩ := className_of_methodNamed hnamed
  have hinitP : kP.init = .initialized := Cond.initialized_spec (findClass_of_methodNamed hnamed) hkP hinit
  obtain ⟨vm₁, X₁, hstep₁⟩ := X.invokestatic hexec hown hlink hnamed hmethM hstatic hkP hinitP hy (g := g) hg (argsL := argsL) (rest := rest) (hlen _ hsigM) hstack hdg
  rcases hK m meth c ⟨T.setVm vm₁, locs, cells, slots⟩ { g with stack := rest } (.invokestatic index) mk argsL.toArray X₁ hg hsize hdg hW (X₁.named hnamed) (hpre vm₁ X₁.warmed) with ⟨v, B, X', hpost, hsteps⟩ | ⟨q, B, X', hpost, hsteps⟩
  · exact Or.inl ⟨v, vm₁, B, X₁.warmed, X', hpost, fun target h => hstep₁ _ fun acts => by rw [doInvoke_state]; exact hsteps.trans h⟩
  · exact Or.inr ⟨q, vm₁, B, X₁.warmed, X', hpost, hstep₁ _ fun acts => by rw [doInvoke_state]; exact hsteps⟩
end Calls
theorem vx_cls {s : State} {T : State} {vm₁ : Vm} {E : String} {k : ClassId} (hW : s.WarmedH vm₁) (h : (T.setVm vm₁).vm.findClass E = some k) : s.vm.findClass E = some k := by
  have h1 : vm₁.findClass E = some k := h
  rw [hW.alike.findClass] at h1
  exact h1
/-- the method's frame g, with q thrown over it -/
def vx_W (p : Program) (l : Launch) (e : Env) (R : Room) (s : State) (m : MethodId) (args : Array Value) (below : List Frame) (meth : Method) (c : Code) (H : Heap) (locs : List Loc) (cells slots : Nat) (Q : State → Prop) (g : JFrame) (q : Addr) : Prop :=
  ∀ T : State, T.heap = H → Stand p l e R s m args below meth c T locs cells slots → ∃ t, Steps p.tables e below ((T.setTop g).pushFrame (.throwing q)) t ∧ Q t
def vx_Run (p : Program) (l : Launch) (e : Env) (R : Room) (s : State) (m : MethodId) (args : Array Value) (below : List Frame) (meth : Method) (c : Code) (H : Heap) (locs : List Loc) (cells slots mc ms : Nat) (g : JFrame) (rest : List Value) (Qa : State → Outcome → State → Prop) (XC : String → State → State → Prop) (free : Addr → Prop) : Prop :=
  ∀ T : State, T.heap = H → Stand p l e R s m args below meth c T locs cells slots →
    (∃ (v : Option Value) (st₀ t T' : State) (L : List Loc), st₀.heap = H ∧ Stand p l e R s m args below meth c T' (locs ++ L) (cells + mc) (slots + ms) ∧ (∀ q ∈ L, free q.base) ∧ T'.heap = t.heap ∧ T'.vm = t.vm ∧ Qa st₀ (.returned v) t ∧
      Goes p e below T g T' { g with pc := g.pc + 3, stack := v.toList ++ rest }) ∨
    (∃ (q : Addr) (st₀ t T' : State) (L : List Loc) (E : String) (ce : Cell), st₀.heap = H ∧ Stand p l e R s m args below meth c T' (locs ++ L) (cells + mc) (slots + ms) ∧ (∀ z ∈ L, free z.base) ∧ T'.heap = t.heap ∧ T'.vm = t.vm ∧ XC E st₀ t ∧ t.heap[q]? = some ce ∧ ce.vm = .none ∧ s.vm.findClass E = some ce.cls ∧
      Steps p.tables e below (T.setTop g) ((T'.setTop { g with stack := rest }).pushFrame (.throwing q)))
def vx_X {S : Type} (px : S → Prop) (B : String → S → State → Prop) (A : Nat → Prop) : String → State → State → Prop := fun E st t => ∃ u : S, px u ∧ B E u t ∧ va_F A st t
section Runs
variable {p : Program} {l : Launch} {e : Env} {R : Room} {s : State} {m : MethodId} {args : Array Value} {below : List Frame} {meth : Method} {c : Code} {H : Heap} {locs : List Loc} {cells slots : Nat}
variable {y : MethodName} {bytes cc : ByteArray} {maxL nL mc ms n index : Nat} {ret : Option FieldType} {ws : List Cond} {rm : Room} {Pc : Array Value → State → Prop} {Qc : Array Value → State → Outcome → State → Prop} {XC : String → State → State → Prop} {free : Addr → Prop} {Ts : List Cond} {own C : String} {b : Addr} {As rest : List Value} {g : JFrame}
theorem vx_callBack (cb : CallB R s args own index y bytes maxL ret ws rm mc ms n) (hM : vx_Met l y ws rm Pc Qc XC mc ms free) (hbl : FrameBlind Pc) : vx_Back l R p e below s args y 3 8 (PreOf R mc ms Pc) (PostOf Qc mc ms free) (vx_Post XC mc ms free) := by
  obtain ⟨hrc, hrs, hfr, hlo, hws, hcw, -, hini, -⟩ := cb
  exact vx_back (bytes := bytes) (maxL := maxL) (ret := ret) hM hbl hrc hrs hfr hlo hws hcw (fun a' U hW => word_at hW (Or.inl (by first | rfl | simp [Cond.onTables, Cond.keeps, Cond.steady])) hini)
theorem vx_runV (S : CallFix p m c cc nL s args Ts own) (hM : vx_Met l y ws rm Pc Qc XC mc ms free) (cw : CallW R s args own C index y bytes maxL ret ws rm mc ms n) (hp : PreV s H C b Pc As)
    (hg : g.method = m) (hn : As.length = n) (hsize : g.locals.size = nL) (hstack : g.stack = As.reverse ++ .ref b :: rest) (hW : 2 * g.monitorRoom + (rest.map fun v => v.category).sum ≤ 8) (hdg : decode cc g.pc = .ok (.invokevirtual index, 3)) (hf : cells + mc ≤ R.cells ∧ slots + ms ≤ R.slots) :
    vx_Run p l e R s m args below meth c H locs cells slots mc ms g rest (Qc (Value.ref b :: As).toArray) XC free := by
  have hK : vx_Back l R p e below s args y 3 8 (PreOf R mc ms Pc) (PostOf Qc mc ms free) (vx_Post XC mc ms free) := vx_callBack cw.1 hM hp.1
  obtain ⟨⟨-, -, -, -, -, -, hcode, -, hy, hlen, hl⟩, hin, hse⟩ := cw
  obtain ⟨hx, hb, hml, ho, -⟩ := S
  obtain ⟨-, ⟨cellB, hcB, hoB, hclB⟩, hPc⟩ := hp
  intro T hT X
  rcases vx_callV X hx (C := C) (bytes := bytes) (maxL := maxL) (ret := ret) ho hl hin hse hcode hy hK (by rw [hT]; exact hcB) hoB hclB hg (hsize.trans hml.symm) (argsL := As) (rest := rest) (fun sig h => hn.trans (hlen sig h)) hstack hW (by rw [hb]; exact hdg)
    (fun vm₁ hW₁ => ⟨hf.1, hf.2, hPc (T.setVm vm₁) hT hW₁⟩) with ⟨v, vm₁, ⟨U', l2, c2, s2⟩, hW₁, X', ⟨g', mk, t, L, e1, e2, hq, h1, hL, h2, h3⟩, st⟩ | ⟨q, vm₁, ⟨U', l2, c2, s2⟩, hW₁, X', ⟨g', mk, t, L, E, ce, e1, e2, hq, hce, hcv, hcl, h1, hL, h2, h3⟩, st⟩
  · dsimp only [Pt.U, Pt.locs, Pt.cells, Pt.slots] at X' e1 e2 h1 h2 h3 st
    subst h1; subst h2; subst h3
    exact Or.inl ⟨v, (T.setVm vm₁).calling g' mk (Value.ref b :: As).toArray, t, U', L, hT, X', hL, e1, e2, hq, st⟩
  · dsimp only [Pt.U, Pt.locs, Pt.cells, Pt.slots] at X' e1 e2 h1 h2 h3 st hcl
    subst h1; subst h2; subst h3
    exact Or.inr ⟨q, (T.setVm vm₁).calling g' mk (Value.ref b :: As).toArray, t, U', L, E, ce, hT, X', hL, e1, e2, hq, hce, hcv, vx_cls hW₁ hcl, st⟩
theorem vx_runS (S : CallFix p m c cc nL s args Ts own) (hM : vx_Met l y ws rm Pc Qc XC mc ms free) (cw : CallB R s args own index y bytes maxL ret ws rm mc ms n ∧ (Cond.static y).before args s = true) (hp : PreS s H Pc As)
    (hg : g.method = m) (hn : As.length = n) (hsize : g.locals.size = nL) (hstack : g.stack = As.reverse ++ rest) (hW : 2 * g.monitorRoom + (rest.map fun v => v.category).sum ≤ 8) (hdg : decode cc g.pc = .ok (.invokestatic index, 3)) (hf : cells + mc ≤ R.cells ∧ slots + ms ≤ R.slots) :
    vx_Run p l e R s m args below meth c H locs cells slots mc ms g rest (Qc As.toArray) XC free := by
  have hK : vx_Back l R p e below s args y 3 8 (PreOf R mc ms Pc) (PostOf Qc mc ms free) (vx_Post XC mc ms free) := vx_callBack cw.1 hM hp.1
  obtain ⟨⟨-, -, -, -, -, -, hcode, hini, hy, hlen, hl⟩, hstt⟩ := cw
  obtain ⟨hx, hb, hml, ho, -⟩ := S
  intro T hT X
  rcases vx_callS X hx (bytes := bytes) (maxL := maxL) (ret := ret) ho hl hstt hini hcode hy hK hg (hsize.trans hml.symm) (argsL := As) (rest := rest) (fun sig h => hn.trans (hlen sig h)) hstack hW (by rw [hb]; exact hdg)
    (fun vm₁ hW₁ => ⟨hf.1, hf.2, hp.2 (T.setVm vm₁) hT hW₁⟩) with ⟨v, vm₁, ⟨U', l2, c2, s2⟩, hW₁, X', ⟨g', mk, t, L, e1, e2, hq, h1, hL, h2, h3⟩, st⟩ | ⟨q, vm₁, ⟨U', l2, c2, s2⟩, hW₁, X', ⟨g', mk, t, L, E, ce, e1, e2, hq, hce, hcv, hcl, h1, hL, h2, h3⟩, st⟩
  · dsimp only [Pt.U, Pt.locs, Pt.cells, Pt.slots] at X' e1 e2 h1 h2 h3 st
    subst h1; subst h2; subst h3
    exact Or.inl ⟨v, (T.setVm vm₁).calling g' mk As.toArray, t, U', L, hT, X', hL, e1, e2, hq, st⟩
  · dsimp only [Pt.U, Pt.locs, Pt.cells, Pt.slots] at X' e1 e2 h1 h2 h3 st hcl
    subst h1; subst h2; subst h3
    exact Or.inr ⟨q, (T.setVm vm₁).calling g' mk As.toArray, t, U', L, E, ce, hT, X', hL, e1, e2, hq, hce, hcv, vx_cls hW₁ hcl, st⟩
end Runs
section Rows
variable {p : Program} {l : Launch} {e : Env} {R : Room} {s : State} {m : MethodId} {args : Array Value} {below : List Frame} {meth : Method} {c : Code} {H : Heap} {locs : List Loc} {cells slots : Nat} {Q : State → Prop}
variable {mc ms : Nat} {free : Addr → Prop} {A0 A1 : Nat → Prop} {H0 : Heap} {a : Array Value} {pc : Nat} {ls : Array Slot} {st0 rest : List Value}
theorem vx_keep {st₀ t T' : State} {L : List Loc} (h0 : st₀.heap = H) (e1 : T'.heap = t.heap) (hS : va_S A0 H0 H locs) (hA : ∀ q, q < H.size → A1 q → A0 q) (hf : ∀ q, free q → A0 q) (hL : ∀ q ∈ L, free q.base) (hF : va_F A1 st₀ t) :
    H.size ≤ T'.heap.size ∧ (∀ q : Nat, q < H.size → ¬ A1 q → T'.heap[q]? = H[q]?) ∧ va_S A0 H0 T'.heap (locs ++ L) := by
  obtain ⟨hz, hk⟩ := hF
  rw [h0] at hz hk
  exact ⟨by rw [e1]; exact hz, fun q h1 h2 => by rw [e1]; exact hk q h1 h2,
    ⟨Nat.le_trans hS.1 (by rw [e1]; exact hz), fun q h1 h2 => by rw [e1, hk q (Nat.lt_of_lt_of_le h1 hS.1) (fun z => h2 (hA q (Nat.lt_of_lt_of_le h1 hS.1) z))]; exact hS.2.1 q h1 h2, fun q hq => by
      rcases List.mem_append.mp hq with h | h
      · exact hS.2.2 q h
      · exact hf _ (hL q h)⟩⟩
theorem vx_calli {S SX : Type} {post : Int32 → S → Prop} {px : SX → Prop} {B : S → State → Prop} {BX : String → SX → State → Prop} {AX : Nat → Prop} (hr : vx_Run p l e R s m args below meth c H locs cells slots mc ms (F0 m pc ls st0) rest (va_Qi post B A1 a) (vx_X px BX AX) free) (hS : va_S A0 H0 H locs) (hA : ∀ q, q < H.size → A1 q → A0 q) (hf : ∀ q, free q → A0 q) (hAX : ∀ q, q < H.size → AX q → A0 q)
    (kx : ∀ (E : String) (ce : Cell) (q9 : Addr) (u : SX) (t : State) (H1 : Heap) (locs1 : List Loc), t.heap = H1 → s.vm.Alike t.vm → px u → BX E u t → H.size ≤ H1.size → (∀ q : Nat, q < H.size → ¬ AX q → H1[q]? = H[q]?) → va_S A0 H0 H1 locs1 → H1[q9]? = some ce → ce.vm = .none → s.vm.findClass E = some ce.cls → vx_W p l e R s m args below meth c H1 locs1 (cells + mc) (slots + ms) Q (F0 m pc ls rest) q9)
    (kk : ∀ (r : Int32) (u : S) (t : State) (H1 : Heap) (locs1 : List Loc), t.heap = H1 → s.vm.Alike t.vm → post r u → B u t → H.size ≤ H1.size → (∀ q : Nat, q < H.size → ¬ A1 q → H1[q]? = H[q]?) → va_S A0 H0 H1 locs1 → W p l e R s m args below meth c H1 locs1 (cells + mc) (slots + ms) Q (F0 m (pc + 3) ls (.int r :: rest))) : W p l e R s m args below meth c H locs cells slots Q (F0 m pc ls st0) := by
  intro T hT X
  rcases hr T hT X with ⟨v, st₀, t, T', L, h0, X', hL, e1, e2, ⟨⟨r, u, hv, hp, hb⟩, hF⟩, st⟩ | ⟨q, st₀, t, T', L, E, ce, h0, X', hL, e1, e2, ⟨u, hp, hb, hF⟩, hce, hcv, hcl, st⟩
  · cases hv
    obtain ⟨k1, k2, k3⟩ := vx_keep h0 e1 hS hA hf hL hF
    obtain ⟨t2, a1, b1⟩ := kk r u t T'.heap (locs ++ L) e1.symm (by rw [← e2]; exact X'.warmed.alike) hp hb k1 k2 k3 T' rfl X'
    exact ⟨t2, st t2 a1, b1⟩
  · obtain ⟨k1, k2, k3⟩ := vx_keep h0 e1 hS hAX hf hL hF
    obtain ⟨t2, a1, b1⟩ := kx E ce q u t T'.heap (locs ++ L) e1.symm (by rw [← e2]; exact X'.warmed.alike) hp hb k1 k2 k3 (by rw [e1]; exact hce) hcv hcl T' rfl X'
    exact ⟨t2, st.trans a1, b1⟩
theorem vx_calll {S SX : Type} {post : Int64 → S → Prop} {px : SX → Prop} {B : S → State → Prop} {BX : String → SX → State → Prop} {AX : Nat → Prop} (hr : vx_Run p l e R s m args below meth c H locs cells slots mc ms (F0 m pc ls st0) rest (va_Ql post B A1 a) (vx_X px BX AX) free) (hS : va_S A0 H0 H locs) (hA : ∀ q, q < H.size → A1 q → A0 q) (hf : ∀ q, free q → A0 q) (hAX : ∀ q, q < H.size → AX q → A0 q)
    (kx : ∀ (E : String) (ce : Cell) (q9 : Addr) (u : SX) (t : State) (H1 : Heap) (locs1 : List Loc), t.heap = H1 → s.vm.Alike t.vm → px u → BX E u t → H.size ≤ H1.size → (∀ q : Nat, q < H.size → ¬ AX q → H1[q]? = H[q]?) → va_S A0 H0 H1 locs1 → H1[q9]? = some ce → ce.vm = .none → s.vm.findClass E = some ce.cls → vx_W p l e R s m args below meth c H1 locs1 (cells + mc) (slots + ms) Q (F0 m pc ls rest) q9)
    (kk : ∀ (r : Int64) (u : S) (t : State) (H1 : Heap) (locs1 : List Loc), t.heap = H1 → s.vm.Alike t.vm → post r u → B u t → H.size ≤ H1.size → (∀ q : Nat, q < H.size → ¬ A1 q → H1[q]? = H[q]?) → va_S A0 H0 H1 locs1 → W p l e R s m args below meth c H1 locs1 (cells + mc) (slots + ms) Q (F0 m (pc + 3) ls (.long r :: rest))) : W p l e R s m args below meth c H locs cells slots Q (F0 m pc ls st0) := by
  intro T hT X
  rcases hr T hT X with ⟨v, st₀, t, T', L, h0, X', hL, e1, e2, ⟨⟨r, u, hv, hp, hb⟩, hF⟩, st⟩ | ⟨q, st₀, t, T', L, E, ce, h0, X', hL, e1, e2, ⟨u, hp, hb, hF⟩, hce, hcv, hcl, st⟩
  · cases hv
    obtain ⟨k1, k2, k3⟩ := vx_keep h0 e1 hS hA hf hL hF
    obtain ⟨t2, a1, b1⟩ := kk r u t T'.heap (locs ++ L) e1.symm (by rw [← e2]; exact X'.warmed.alike) hp hb k1 k2 k3 T' rfl X'
    exact ⟨t2, st t2 a1, b1⟩
  · obtain ⟨k1, k2, k3⟩ := vx_keep h0 e1 hS hAX hf hL hF
    obtain ⟨t2, a1, b1⟩ := kx E ce q u t T'.heap (locs ++ L) e1.symm (by rw [← e2]; exact X'.warmed.alike) hp hb k1 k2 k3 (by rw [e1]; exact hce) hcv hcl T' rfl X'
    exact ⟨t2, st.trans a1, b1⟩
theorem vx_callf {S SX : Type} {post : UInt32 → S → Prop} {px : SX → Prop} {B : S → State → Prop} {BX : String → SX → State → Prop} {AX : Nat → Prop} (hr : vx_Run p l e R s m args below meth c H locs cells slots mc ms (F0 m pc ls st0) rest (va_Qf post B A1 a) (vx_X px BX AX) free) (hS : va_S A0 H0 H locs) (hA : ∀ q, q < H.size → A1 q → A0 q) (hf : ∀ q, free q → A0 q) (hAX : ∀ q, q < H.size → AX q → A0 q)
    (kx : ∀ (E : String) (ce : Cell) (q9 : Addr) (u : SX) (t : State) (H1 : Heap) (locs1 : List Loc), t.heap = H1 → s.vm.Alike t.vm → px u → BX E u t → H.size ≤ H1.size → (∀ q : Nat, q < H.size → ¬ AX q → H1[q]? = H[q]?) → va_S A0 H0 H1 locs1 → H1[q9]? = some ce → ce.vm = .none → s.vm.findClass E = some ce.cls → vx_W p l e R s m args below meth c H1 locs1 (cells + mc) (slots + ms) Q (F0 m pc ls rest) q9)
    (kk : ∀ (r : UInt32) (u : S) (t : State) (H1 : Heap) (locs1 : List Loc), t.heap = H1 → s.vm.Alike t.vm → post r u → B u t → H.size ≤ H1.size → (∀ q : Nat, q < H.size → ¬ A1 q → H1[q]? = H[q]?) → va_S A0 H0 H1 locs1 → W p l e R s m args below meth c H1 locs1 (cells + mc) (slots + ms) Q (F0 m (pc + 3) ls (.float r :: rest))) : W p l e R s m args below meth c H locs cells slots Q (F0 m pc ls st0) := by
  intro T hT X
  rcases hr T hT X with ⟨v, st₀, t, T', L, h0, X', hL, e1, e2, ⟨⟨r, u, hv, hp, hb⟩, hF⟩, st⟩ | ⟨q, st₀, t, T', L, E, ce, h0, X', hL, e1, e2, ⟨u, hp, hb, hF⟩, hce, hcv, hcl, st⟩
  · cases hv
    obtain ⟨k1, k2, k3⟩ := vx_keep h0 e1 hS hA hf hL hF
    obtain ⟨t2, a1, b1⟩ := kk r u t T'.heap (locs ++ L) e1.symm (by rw [← e2]; exact X'.warmed.alike) hp hb k1 k2 k3 T' rfl X'
    exact ⟨t2, st t2 a1, b1⟩
  · obtain ⟨k1, k2, k3⟩ := vx_keep h0 e1 hS hAX hf hL hF
    obtain ⟨t2, a1, b1⟩ := kx E ce q u t T'.heap (locs ++ L) e1.symm (by rw [← e2]; exact X'.warmed.alike) hp hb k1 k2 k3 (by rw [e1]; exact hce) hcv hcl T' rfl X'
    exact ⟨t2, st.trans a1, b1⟩
theorem vx_calld {S SX : Type} {post : UInt64 → S → Prop} {px : SX → Prop} {B : S → State → Prop} {BX : String → SX → State → Prop} {AX : Nat → Prop} (hr : vx_Run p l e R s m args below meth c H locs cells slots mc ms (F0 m pc ls st0) rest (va_Qd post B A1 a) (vx_X px BX AX) free) (hS : va_S A0 H0 H locs) (hA : ∀ q, q < H.size → A1 q → A0 q) (hf : ∀ q, free q → A0 q) (hAX : ∀ q, q < H.size → AX q → A0 q)
    (kx : ∀ (E : String) (ce : Cell) (q9 : Addr) (u : SX) (t : State) (H1 : Heap) (locs1 : List Loc), t.heap = H1 → s.vm.Alike t.vm → px u → BX E u t → H.size ≤ H1.size → (∀ q : Nat, q < H.size → ¬ AX q → H1[q]? = H[q]?) → va_S A0 H0 H1 locs1 → H1[q9]? = some ce → ce.vm = .none → s.vm.findClass E = some ce.cls → vx_W p l e R s m args below meth c H1 locs1 (cells + mc) (slots + ms) Q (F0 m pc ls rest) q9)
    (kk : ∀ (r : UInt64) (u : S) (t : State) (H1 : Heap) (locs1 : List Loc), t.heap = H1 → s.vm.Alike t.vm → post r u → B u t → H.size ≤ H1.size → (∀ q : Nat, q < H.size → ¬ A1 q → H1[q]? = H[q]?) → va_S A0 H0 H1 locs1 → W p l e R s m args below meth c H1 locs1 (cells + mc) (slots + ms) Q (F0 m (pc + 3) ls (.double r :: rest))) : W p l e R s m args below meth c H locs cells slots Q (F0 m pc ls st0) := by
  intro T hT X
  rcases hr T hT X with ⟨v, st₀, t, T', L, h0, X', hL, e1, e2, ⟨⟨r, u, hv, hp, hb⟩, hF⟩, st⟩ | ⟨q, st₀, t, T', L, E, ce, h0, X', hL, e1, e2, ⟨u, hp, hb, hF⟩, hce, hcv, hcl, st⟩
  · cases hv
    obtain ⟨k1, k2, k3⟩ := vx_keep h0 e1 hS hA hf hL hF
    obtain ⟨t2, a1, b1⟩ := kk r u t T'.heap (locs ++ L) e1.symm (by rw [← e2]; exact X'.warmed.alike) hp hb k1 k2 k3 T' rfl X'
    exact ⟨t2, st t2 a1, b1⟩
  · obtain ⟨k1, k2, k3⟩ := vx_keep h0 e1 hS hAX hf hL hF
    obtain ⟨t2, a1, b1⟩ := kx E ce q u t T'.heap (locs ++ L) e1.symm (by rw [← e2]; exact X'.warmed.alike) hp hb k1 k2 k3 (by rw [e1]; exact hce) hcv hcl T' rfl X'
    exact ⟨t2, st.trans a1, b1⟩
theorem vx_callv {S SX : Type} {post : S → Prop} {px : SX → Prop} {B : S → State → Prop} {BX : String → SX → State → Prop} {AX : Nat → Prop} (hr : vx_Run p l e R s m args below meth c H locs cells slots mc ms (F0 m pc ls st0) rest (va_Qv post B A1 a) (vx_X px BX AX) free) (hS : va_S A0 H0 H locs) (hA : ∀ q, q < H.size → A1 q → A0 q) (hf : ∀ q, free q → A0 q) (hAX : ∀ q, q < H.size → AX q → A0 q)
    (kx : ∀ (E : String) (ce : Cell) (q9 : Addr) (u : SX) (t : State) (H1 : Heap) (locs1 : List Loc), t.heap = H1 → s.vm.Alike t.vm → px u → BX E u t → H.size ≤ H1.size → (∀ q : Nat, q < H.size → ¬ AX q → H1[q]? = H[q]?) → va_S A0 H0 H1 locs1 → H1[q9]? = some ce → ce.vm = .none → s.vm.findClass E = some ce.cls → vx_W p l e R s m args below meth c H1 locs1 (cells + mc) (slots + ms) Q (F0 m pc ls rest) q9)
    (kk : ∀ (u : S) (t : State) (H1 : Heap) (locs1 : List Loc), t.heap = H1 → s.vm.Alike t.vm → post u → B u t → H.size ≤ H1.size → (∀ q : Nat, q < H.size → ¬ A1 q → H1[q]? = H[q]?) → va_S A0 H0 H1 locs1 → W p l e R s m args below meth c H1 locs1 (cells + mc) (slots + ms) Q (F0 m (pc + 3) ls (rest))) : W p l e R s m args below meth c H locs cells slots Q (F0 m pc ls st0) := by
  intro T hT X
  rcases hr T hT X with ⟨v, st₀, t, T', L, h0, X', hL, e1, e2, ⟨⟨u, hv, hp, hb⟩, hF⟩, st⟩ | ⟨q, st₀, t, T', L, E, ce, h0, X', hL, e1, e2, ⟨u, hp, hb, hF⟩, hce, hcv, hcl, st⟩
  · cases hv
    obtain ⟨k1, k2, k3⟩ := vx_keep h0 e1 hS hA hf hL hF
    obtain ⟨t2, a1, b1⟩ := kk u t T'.heap (locs ++ L) e1.symm (by rw [← e2]; exact X'.warmed.alike) hp hb k1 k2 k3 T' rfl X'
    exact ⟨t2, st t2 a1, b1⟩
  · obtain ⟨k1, k2, k3⟩ := vx_keep h0 e1 hS hAX hf hL hF
    obtain ⟨t2, a1, b1⟩ := kx E ce q u t T'.heap (locs ++ L) e1.symm (by rw [← e2]; exact X'.warmed.alike) hp hb k1 k2 k3 (by rw [e1]; exact hce) hcv hcl T' rfl X'
    exact ⟨t2, st.trans a1, b1⟩
/-- caught by the row x of this method's table; the rows ahead don't take it -/
theorem vx_catch {own name : String} {E : String} {ce : Cell} {q : Addr} (hown : s.vm.findClass own = some m.cls) (pre : List ExceptionTableEntry) (x : ExceptionTableEntry) (suf : List ExceptionTableEntry) (hsplit : c.exceptionTable.toList = pre ++ x :: suf)
    (hpass : ∀ z ∈ pre, covers z pc = false ∨ (z.catchType ≠ 0 ∧ ∃ nm : String, (Cond.classLink own z.catchType nm).before args s = true ∧ va_Nc E nm s)) (hx : covers x pc = true) (h0 : x.catchType ≠ 0)
    (hlink : (Cond.classLink own x.catchType name).before args s = true) (hcast : (Cond.castable E name).before args s = true) (hcell : H[q]? = some ce) (hv : ce.vm = .none) (hcl : s.vm.findClass E = some ce.cls)
    (kk : W p l e R s m args below meth c H locs cells slots Q (F0 m x.handlerPc ls [.ref q])) : vx_W p l e R s m args below meth c H locs cells slots Q (F0 m pc ls rest) q := by
  intro T hT X
  have hpl : e.platform.magicAccessors = ({} : Platform).magicAccessors := by rw [X.admits.platform]
  obtain ⟨c3, c4, hc3, hc4, hasg⟩ := Cond.castable_spec hcast
  cases Option.some.inj (hc3.symm.trans hcl)
  obtain ⟨c5, hc5, hcl5⟩ := Cond.classLink_spec hown hlink e.platform hpl
  cases Option.some.inj (hc4.symm.trans hc5)
  obtain ⟨vm', X', st⟩ := X.thenCaughtThrough q (g := F0 m pc ls rest) rfl (Steps.refl _) (by rw [hT]; exact hcell) (by rw [hv]; rfl) (by obtain ⟨k9, h9, -⟩ := Vm.findClass_spec hcl; exact ⟨k9, h9⟩) pre x suf hsplit
    (fun z hz => by
      rcases hpass z hz with h | ⟨hz0, nm, hl1, hn1⟩
      · exact Or.inl h
      · obtain ⟨c6, hc6, hcl6⟩ := Cond.classLink_spec hown hl1 e.platform hpl
        obtain ⟨a8, b8, h1, h2, h3⟩ := hn1
        cases Option.some.inj (h1.symm.trans hcl)
        cases Option.some.inj (h2.symm.trans hc6)
        exact Or.inr ⟨hz0, _, hcl6, h3⟩) hx (Or.inr ⟨h0, c4, hcl5, hasg⟩)
  obtain ⟨t, a1, b1⟩ := kk (T.setVm vm') hT X'
  exact ⟨t, st.trans a1, b1⟩
end Rows
section Ends
variable {p : Program} {l : Launch} {e : Env} {R : Room} {s : State} {m : MethodId} {args : Array Value} {below : List Frame} {meth : Method} {c : Code} {H : Heap} {locs : List Loc} {cells slots : Nat} {Q : State → Prop}
variable {mc ms : Nat} {free : Addr → Prop} {A0 A1 : Nat → Prop} {H0 : Heap} {a : Array Value} {ls : Array Slot} {st0 rest : List Value}
variable {Qc : Array Value → State → Outcome → State → Prop} {XC : String → State → State → Prop}
/-- what a body that may throw owes at its end -/
def vx_MQ (below : List Frame) (Qc : Array Value → State → Outcome → State → Prop) (XC : String → State → State → Prop) (a : Array Value) (s : State) (mc ms : Nat) (free : Addr → Prop) : State → Prop := fun t =>
  ∃ o, t.status = .running ∧ Ended t below o ∧ vx_Q Qc XC mc ms free a s o t
theorem vx_ret {g : JFrame} {mc ms : Nat} (k : W p l e R s m args below meth c H locs cells slots (MQ below Qc args s mc ms free) g) : W p l e R s m args below meth c H locs cells slots (vx_MQ below Qc XC args s mc ms free) g := by
  intro T hT X
  obtain ⟨t, a1, o, b1, b2, b3, b4⟩ := k T hT X
  exact ⟨t, a1, o, b1, b2, Or.inl ⟨b3, b4⟩⟩
/-- not caught here: it goes on to the caller -/
theorem vx_widen {g : JFrame} {q : Addr} {k n : Nat} (h1 : cells ≤ k) (h2 : slots ≤ n) (kk : vx_W p l e R s m args below meth c H locs k n Q g q) : vx_W p l e R s m args below meth c H locs cells slots Q g q := fun T hT X => kk T hT (stand_widen X h1 h2)
theorem vx_out {pc : Nat} {E : String} {ce : Cell} {q : Addr} {mc ms : Nat} (hout : ∀ x ∈ c.exceptionTable.toList, covers x pc = false) (hlocks : meth.locks = false) (hcell : H[q]? = some ce) (hv : ce.vm = .none) (hcl : s.vm.findClass E = some ce.cls)
    (hx : ∀ t : State, t.heap = H → s.vm.Alike t.vm → XC E s t) (hf : ∀ z ∈ locs, free z.base) (hc : cells ≤ mc) (hs : slots ≤ ms) :
    vx_W p l e R s m args below meth c H locs cells slots (vx_MQ below Qc XC args s mc ms free) (F0 m pc ls rest) q := by
  intro T hT X
  obtain ⟨st1, hrun, hend, hW, hsm⟩ := X.leaveThrown q (g := F0 m pc ls rest) rfl rfl rfl hout hlocks
  have hcell9 : (T.setFrames (.throwing q :: below)).heap[q]? = some ce := by
    show T.heap[q]? = some ce
    rw [hT]; exact hcell
  exact ⟨_, st1, .threw q, hrun, hend, Or.inr ⟨q, rfl, E, ce, locs, hx _ hT hW.alike, hcell9, hv, hcl, hW, hsm.mono hc hs, hf⟩⟩
theorem vx_frame {U : State} {k n : Nat} (h : s.sameButNew ({ U with vm := s.vm } : State) locs k n) : s.heap.size ≤ U.heap.size ∧ ∀ q : Nat, q < s.heap.size → (∀ z ∈ locs, z.base ≠ q) → U.heap[q]? = s.heap[q]? := by
  obtain ⟨-, h2, -, -, -, h6⟩ := h
  refine ⟨h2, fun q hq hz => ?_⟩
  obtain ⟨c9, e1, e2, e3, e4⟩ := h6 q _ (Array.getElem?_eq_getElem hq)
  have hs : c9.slots = (s.heap[q]).slots := Array.ext_getElem? fun i => e4 i fun hm => hz _ hm rfl
  have h9 : c9 = s.heap[q] := by
    rw [hs] at e2
    exact e2
  have e5 : U.heap[q]? = some c9 := e1
  rw [e5, h9, Array.getElem?_eq_getElem hq]
/-- the words of a throw but the four that speak of the heap -/
def vx_no (w : Cond) : Bool := decide (w ≠ .isRef (.static Bundle.tN "UNASSIGNED_STACK" Bundle.steD)) && decide (w ≠ .isRef (.static Bundle.tN "SUPPRESSED_SENTINEL" Bundle.listD)) && decide (w ≠ .laysStatic Bundle.tN "UNASSIGNED_STACK" Bundle.steD) && decide (w ≠ .laysStatic Bundle.tN "SUPPRESSED_SENTINEL" Bundle.listD)
def vx_at0 (own : String) (ic : Nat) (X : String) (names : List String) : List Cond := (Bundle.ownAtoms0 own ic X names).filter vx_no
def vx_atS (own : String) (ic : Nat) (X : String) (names : List String) : List Cond := (Bundle.ownAtoms own ic X names).filter vx_no
/-- a word that the tables alone decide, or a good one -/
def vx_ot (w : Cond) : Bool := w.onTables || goodWord w
theorem vx_ot_at {args a' : Array Value} {s U : State} {w : Cond} (hW : s.WarmedH U.vm) (hvm : s.vm = U.vm) (hg : vx_ot w = true) (h : w.before args s = true) : w.before a' U = true := by
  simp only [vx_ot, Bool.or_eq_true] at hg
  rcases hg with hg | hg
  · exact va_tabs hg hvm h
  · exact word_at hW (good_of_word hg) h
/-- a list's words: the good ones out of the method's own list, the others by premises of their own -/
theorem vx_hat {args : Array Value} {s : State} {L B : List Cond} (h1 : ∀ w ∈ L.filter goodWord, w.before args s = true) (h2 : ∀ w ∈ L.filter (fun w => !goodWord w), w ∈ B) (h3 : ∀ w ∈ B, w.before args s = true) : ∀ w ∈ L, w.before args s = true := by
  intro w hw
  by_cases g : goodWord w = true
  · exact h1 w (List.mem_filter.mpr ⟨hw, g⟩)
  · refine h3 w (h2 w (List.mem_filter.mpr ⟨hw, ?_⟩))
    show (!goodWord w) = true
    cases hgw : goodWord w
    · rfl
    · exact absurd hgw g
theorem vx_c {args : Array Value} {s : State} {w : Cond} {B : List Cond} (h : w.before args s = true) (t : ∀ w ∈ B, w.before args s = true) : ∀ w' ∈ w :: B, w'.before args s = true := fun w' h' => (List.mem_cons.mp h').elim (fun e => by rw [e]; exact h) (t w')
theorem vx_n {args : Array Value} {s : State} : ∀ w ∈ ([] : List Cond), w.before args s = true := fun _ h => nomatch h
theorem vx_own {args : Array Value} {s : State} {L : List Cond} (h1 : ∀ w ∈ L.filter vx_no, w.before args s = true)
    (hU : (Cond.isRef (.static Bundle.tN "UNASSIGNED_STACK" Bundle.steD)).before args s = true) (hN : (Cond.isRef (.static Bundle.tN "SUPPRESSED_SENTINEL" Bundle.listD)).before args s = true)
    (lU : (Cond.laysStatic Bundle.tN "UNASSIGNED_STACK" Bundle.steD).before args s = true) (lN : (Cond.laysStatic Bundle.tN "SUPPRESSED_SENTINEL" Bundle.listD).before args s = true) : ∀ w ∈ L, w.before args s = true := by
  intro w hw
  by_cases e1 : w = .isRef (.static Bundle.tN "UNASSIGNED_STACK" Bundle.steD)
  · rw [e1]; exact hU
  · by_cases e2 : w = .isRef (.static Bundle.tN "SUPPRESSED_SENTINEL" Bundle.listD)
    · rw [e2]; exact hN
    · by_cases e3 : w = .laysStatic Bundle.tN "UNASSIGNED_STACK" Bundle.steD
      · rw [e3]; exact lU
      · by_cases e4 : w = .laysStatic Bundle.tN "SUPPRESSED_SENTINEL" Bundle.listD
        · rw [e4]; exact lN
        · exact h1 w (List.mem_filter.mpr ⟨hw, by unfold vx_no; rw [decide_eq_true e1, decide_eq_true e2, decide_eq_true e3, decide_eq_true e4]; rfl⟩)
/-- where a static field lies, its class's statics cell in H -/
def vx_L (C n d : String) (A : Nat → Prop) (U : State) (H : Heap) : Prop := ∃ (c : ClassId) (k : Class) (i : Nat) (f : Field) (a : Nat) (cell : Cell), U.vm.findClass C = some c ∧ U.fieldFound? C n d = some (c, k, i, f) ∧ f.isStatic = true ∧ k.statics = some a ∧ H[a]? = some cell ∧ cell.vm.isStatics = true ∧ cell.cls = c ∧ f.slot < cell.slots.size ∧ k.staticTypes[f.slot]? = some f.type ∧ ¬ A a
theorem vx_L.moved {C n d : String} {A : Nat → Prop} {u U : State} {H : Heap} (hvm : u.vm.Alike U.vm) (h : vx_L C n d A u H) : vx_L C n d A U H := by
  obtain ⟨c, k, i, f, a, cell, h1, h2, h3, h4, h5, h6, h7, h8, h9, h10⟩ := h
  obtain ⟨k', hi', he⟩ := State.fieldFound?_setVm hvm h2
  exact ⟨c, k', i, f, a, cell, by rw [hvm.findClass]; exact h1, hi', h3, by rw [he]; exact h4, h5, h6, h7, h8, by rw [he]; exact h9, h10⟩
theorem vx_L.kept {C n d : String} {A : Nat → Prop} {U : State} {H H1 : Heap} (h : vx_L C n d A U H) (hq : ∀ a : Nat, a < H.size → ¬ A a → H1[a]? = H[a]?) : vx_L C n d A U H1 := by
  obtain ⟨c, k, i, f, a, cell, h1, h2, h3, h4, h5, h6, h7, h8, h9, h10⟩ := h
  exact ⟨c, k, i, f, a, cell, h1, h2, h3, h4, by rw [hq a (Array.getElem?_eq_some_iff.mp h5).1 h10]; exact h5, h6, h7, h8, h9, h10⟩
theorem vx_L.narrow {C n d : String} {A B : Nat → Prop} {U : State} {H : Heap} (h : vx_L C n d A U H) (hAB : ∀ q, B q → A q) : vx_L C n d B U H := by
  obtain ⟨c, k, i, f, a, cell, h1, h2, h3, h4, h5, h6, h7, h8, h9, h10⟩ := h
  exact ⟨c, k, i, f, a, cell, h1, h2, h3, h4, h5, h6, h7, h8, h9, fun z => h10 (hAB _ z)⟩
theorem vx_L.word {C n d : String} {A : Nat → Prop} {s : State} {args : Array Value} (h : vx_L C n d A s s.heap) : (Cond.laysStatic C n d).before args s = true := by
  obtain ⟨c, k, i, f, a, cell, h1, h2, h3, h4, h5, h6, h7, h8, h9, -⟩ := h
  show (Cond.laysStatic C n d).holds args s none s [] = true
  exact Cond.laysStatic_of h1 h2 h3 h4 h5 h6 h7 h8 h9
/-- .. and what it holds: null or some reference -/
def vx_Zq (C n d : String) (A : Nat → Prop) (U : State) (H : Heap) : Prop := va_Zq C n d A U H ∧ vx_L C n d A U H
theorem vx_Zq.moved {C n d : String} {A : Nat → Prop} {u U : State} {H : Heap} (hvm : u.vm.Alike U.vm) (h : vx_Zq C n d A u H) : vx_Zq C n d A U H := ⟨va_Zq.moved hvm h.1, vx_L.moved hvm h.2⟩
theorem vx_Zq.kept {C n d : String} {A : Nat → Prop} {U : State} {H H1 : Heap} (h : vx_Zq C n d A U H) (hq : ∀ a : Nat, a < H.size → ¬ A a → H1[a]? = H[a]?) : vx_Zq C n d A U H1 := ⟨va_Zq.kept h.1 hq, vx_L.kept h.2 hq⟩
theorem vx_Zq.narrow {C n d : String} {A B : Nat → Prop} {U : State} {H : Heap} (h : vx_Zq C n d A U H) (hAB : ∀ q, B q → A q) : vx_Zq C n d B U H := ⟨va_Zq.narrow h.1 hAB, vx_L.narrow h.2 hAB⟩
theorem vx_Zqof {args : Array Value} {s : State} {C n d : String} {A : Nat → Prop} (hl : (Cond.laysStatic C n d).before args s = true) (hini : (Cond.initialized C).before args s = true) (h : (Cond.isRef (.static C n d)).before args s = true) (hA : ∀ a : Nat, a < s.heap.size → ¬ A a) : vx_Zq C n d A s s.heap := by
  refine ⟨va_Zqof hl hini h hA, ?_⟩
  obtain ⟨c, k, i, f, a, cell, h1, h2, h3, h4, h5, h6, h7, h8, h9⟩ := Cond.laysStatic_spec hl
  exact ⟨c, k, i, f, a, cell, h1, h2, h3, h4, h5, h6, h7, h8, h9, hA a (Array.getElem?_eq_some_iff.mp h5).1⟩
theorem vx_isRef {C n d : String} {v : Value} {A : Nat → Prop} {s : State} {args : Array Value} (h : va_Z C n d v A s s.heap) (hv : v.isRef = true) : (Cond.isRef (.static C n d)).before args s = true := by
  obtain ⟨cf, kf, fi, f, a, cell, h1, h2, h3, h4, h5, h6, h7, -⟩ := h
  have he : (Term.static C n d).eval args s none [] s = some v := by
    simp [Term.eval, State.fieldNamed?, h1, h2, h4, h5, h6, h7]
  simp only [Cond.before, Cond.holds, Cond.value, he]
  cases v <;> simp_all [Value.isRef]
theorem vx_isRefq {C n d : String} {A : Nat → Prop} {s : State} {args : Array Value} (h : va_Zq C n d A s s.heap) : (Cond.isRef (.static C n d)).before args s = true := by
  rcases h with h | ⟨t, h⟩
  · exact vx_isRef h rfl
  · exact vx_isRef h rfl
/-- the same frame, seen from here: as if the method were called anew in this heap -/
theorem vx_rebase {T : State} (X : Stand p l e R s m args below meth c T locs cells slots) {R' : Room} (hf : R'.frames ≤ R.frames) (hl : R'.locals ≤ R.locals) (hc : cells + R'.cells ≤ R.cells) (hs : slots + R'.slots ≤ R.slots) :
    Stand p l e R' ((T.setVm s.vm).setFrames (.invoking m args :: below)) m args below meth c T [] 0 0 := by
  have htop : (T.setVm s.vm).topJava?.isSome := X.here.top
  have hF : ((T.setVm s.vm).setFrames (.invoking m args :: below)).frames = .invoking m args :: below := State.frames_setFrames _ (State.cur_lt_of_top htop)
  obtain ⟨g₀, hg0⟩ := Option.isSome_iff_exists.mp htop
  obtain ⟨r, hr⟩ := State.topJava?_eq_some.mp hg0
  have hl9 : e.platform.stackLimits (T.setVm s.vm).me = e.platform.stackLimits s.me := X.limits
  have hb9 : (T.setVm s.vm).me.stackBytes = s.me.stackBytes := X.bytes
  refine ⟨X.admits, X.cas, X.clock, hF, ?_, X.hears, X.method, X.code, X.here, X.tail, X.warmed, ?_, ?_, ?_⟩
  · have h := X.room
    have hU : ((T.setVm s.vm).setFrames (.invoking m args :: below)).localsInUse = s.localsInUse := by
      rw [State.localsInUse_invoking hF (meth := meth) (c := c) X.method X.code, State.localsInUse_invoking X.frames X.method X.code]
    simp only [State.hasRoom, Bool.and_eq_true, decide_eq_true_eq] at h ⊢
    obtain ⟨⟨⟨⟨h1, h2, h3, h4, h5, h6⟩, h7⟩, h8⟩, h9⟩ := h
    rw [X.frames, List.length_cons] at h2 h3
    have q1 := X.heapSize
    have q2 := X.used
    simp only [hF, hU, List.length_cons, State.stackLimits_setFrames, State.stackBytes_setFrames, hl9, hb9]
    refine ⟨⟨⟨⟨by omega, by omega, by omega, by omega, by omega, h6⟩, ?_⟩, ?_⟩, X.book⟩
    · show T.heap.size + R'.cells ≤ e.platform.maxCells
      omega
    · show T.slotsUsed + R'.slots ≤ e.platform.maxSlots
      omega
  · rw [State.stackLimits_setFrames]; rfl
  · rw [State.stackBytes_setFrames]; rfl
  · refine ⟨?_, Nat.le_refl _, Nat.le_refl _, ?_, ?_, fun a c9 h9 => ⟨c9, h9, rfl, rfl, fun _ _ => rfl⟩⟩
    · obtain ⟨t, ht, -⟩ := State.frames_cons hr
      show T.setVm s.vm = { ((T.setVm s.vm).setFrames (.invoking m args :: below)).setFrames (T.setVm s.vm).frames with heap := T.heap, slotsUsed := T.slotsUsed }
      rw [State.setFrames_setFrames, State.setFrames_self ht]
      rfl
    · show T.slotsUsed = T.slotsUsed + ((T.heap.toList.drop T.heap.size).map (·.slots.size)).sum
      rw [List.drop_eq_nil_of_le (Nat.le_of_eq Array.length_toList)]
      rfl
    · show ((T.heap.toList.drop T.heap.size).map (·.slots.size)).sum ≤ 0
      rw [List.drop_eq_nil_of_le (Nat.le_of_eq Array.length_toList)]
      exact Nat.le_refl _
/-- 'throw new E()': new; dup; invokespecial; athrow -/
theorem vx_throw0 {cc : ByteArray} {pc : Nat} (hexec : p.tables.exec = Jvm.exec) (hb : c.code = cc) (hl : l.stackTraces = false) {own cls : String} {names : List String} {ik ic mc ms : Nat} {A : Nat → Prop}
    (hown : s.vm.findClass own = some m.cls) (hcls : Bundle.fit cls = true) (hnames : ∀ n ∈ names, Bundle.fit n = true)
    (hk : (Cond.classLink own ik cls).before args s = true) (hini : (Cond.initialized cls).before args s = true) (hat : ∀ w ∈ vx_at0 own ic cls names, w.before args s = true)
    (hgood : ∀ w ∈ Cond.classLink own ik cls :: Cond.initialized cls :: vx_at0 own ic cls names, vx_ot w = true)
    (hU : vx_Zq Bundle.tN "UNASSIGNED_STACK" Bundle.steD A s s.heap) (hN : vx_Zq Bundle.tN "SUPPRESSED_SENTINEL" Bundle.listD A s s.heap) (hS : va_S A s.heap H locs) (hsize : ls.size = c.maxLocals)
    (d0 : decode cc pc = .ok (.new ik, 3)) (d3 : decode cc (pc + 3) = .ok (.dup, 1)) (d4 : decode cc (pc + 4) = .ok (.invokespecial ic, 3)) (d7 : decode cc (pc + 7) = .ok (.athrow, 1))
    (hout : ∀ x ∈ c.exceptionTable.toList, covers x (pc + 7) = false)
    (hRframes : names.length + 3 < R.frames) (hRlocals : (rest.map fun v => v.category).sum + (13 * (names.length + 1) + 42) ≤ R.locals) (hRcells : cells + 1 ≤ R.cells) (hRslots : slots + 6 ≤ R.slots) (hlocks : meth.locks = false)
    (hx : ∀ t : State, s.vm.Alike t.vm → H.size ≤ t.heap.size → (∀ q : Nat, q < H.size → t.heap[q]? = H[q]?) → XC cls s t)
    (hf : ∀ z ∈ locs, free z.base) (hc : cells + 1 ≤ mc) (hs : slots + 6 ≤ ms) :
    W p l e R s m args below meth c H locs cells slots (vx_MQ below Qc XC args s mc ms free) (F0 m pc ls rest) := by
  intro T hT X
  have htr : e.platform.stackTraces = false := (show e.platform.stackTraces = l.stackTraces by rw [X.admits.platform]).trans hl
  have Y := vx_rebase X (R' := { frames := R.frames, locals := R.locals, cells := 1, slots := 6 }) (Nat.le_refl _) (Nat.le_refl _) hRcells hRslots
  obtain ⟨s', hA⟩ : ∃ z, z = (T.setVm s.vm).setFrames (.invoking m args :: below) := ⟨_, rfl⟩
  rw [← hA] at Y
  have hvm : s'.vm = s.vm := by rw [hA]; rfl
  have hhp : s'.heap = H := by rw [hA]; exact hT
  have hW0 : s.WarmedH s'.vm := by rw [hvm]; exact State.WarmedH.refl s
  have hat' : ∀ w ∈ vx_at0 own ic cls names, w.before args s' = true := fun w hw => vx_ot_at hW0 hvm.symm (hgood w (List.mem_cons_of_mem _ (List.mem_cons_of_mem _ hw))) (hat w hw)
  have hk' : (Cond.classLink own ik cls).before args s' = true := vx_ot_at hW0 hvm.symm (hgood _ List.mem_cons_self) hk
  have hini' : (Cond.initialized cls).before args s' = true := vx_ot_at hW0 hvm.symm (hgood _ (List.mem_cons_of_mem _ List.mem_cons_self)) hini
  have hU' : vx_Zq Bundle.tN "UNASSIGNED_STACK" Bundle.steD A s' s'.heap := by rw [hhp]; exact vx_Zq.moved hW0.alike (hU.kept hS.2.1)
  have hN' : vx_Zq Bundle.tN "SUPPRESSED_SENTINEL" Bundle.listD A s' s'.heap := by rw [hhp]; exact vx_Zq.moved hW0.alike (hN.kept hS.2.1)
  have h : ∀ w ∈ Bundle.ownAtoms0 own ic cls names, w.before args s' = true := vx_own hat' (vx_isRefq hU'.1) (vx_isRefq hN'.1) hU'.2.word hN'.2.word
  have hown' : s'.vm.findClass own = some m.cls := by rw [hvm]; exact hown
  have hins : (Cond.instantiable cls 6).before args s' = true := h _ (by simp [Bundle.ownAtoms0])
  obtain ⟨vm₁, cX, kX, hfX, hkX, -, -, X₁, st1⟩ := Y.newCold hexec (own := own) (C := cls) (index := ik) (n := 6) hown' hk' hins hini'
    (g := F0 m pc ls rest) rfl (by rw [hb]; exact d0) (Nat.le_refl _) (Nat.le_refl _)
  generalize hT1 : (T.setVm vm₁).pushCell { cls := cX, slots := kX.instanceTypes.map defaultValue, vm := .none } = T1 at X₁ st1
  have hcat : (Value.ref T.heap.size).category = 1 := rfl
  have hcellA : T1.heap[T.heap.size]? = some (freshCell cX kX) := by rw [← hT1]; exact State.heap_pushCell_size _ _
  have d3' : decode c.code (pc + 3) = .ok (.dup, 1) := by rw [hb]; exact d3
  obtain ⟨U, hsteps, hrun, hend, hW, hsame, ce, hce, hO⟩ := X₁.ctorThrow0 hexec htr (own := own) (cls := cls) (names := names) (ic := ic) hown' hcls hnames h (fun x hx => nomatch hx) hfX hkX hcellA (by rw [hhp, hT]; exact Nat.le_refl _)
    (g := { method := m, pc := pc + 4, locals := ls, stack := .ref T.heap.size :: .ref T.heap.size :: rest, locked := none }) rfl hsize rfl rfl (rest := rest) rfl
    (by rw [hb]; exact d4) (by rw [hb]; exact d7) hout hRframes (by simp only [List.map_cons, List.sum_cons, hcat]; omega) hlocks
  obtain ⟨f1, f2⟩ := vx_frame hsame
  rw [hhp] at f1 f2
  have hWs : s.WarmedH U.vm := State.WarmedH.trans hW0 hW
  have hcl : s.vm.findClass cls = some ce.cls := by
    have h9 := hO.cls
    rw [hvm] at h9
    exact h9
  have hall : s.sameButNew ({ U with vm := s.vm } : State) locs mc ms := by
    subst hA
    obtain ⟨e1, e2⟩ := hsame
    rw [State.setFrames_setFrames] at e1
    have h2 : (T.setVm s.vm).sameButNew ({ U with vm := s.vm } : State) [] (0 + 1) (0 + 6) := ⟨e1, e2⟩
    have h3 := X.same.trans h2
    rw [List.append_nil] at h3
    exact h3.mono hc hs
  refine ⟨U, ?_, .threw T.heap.size, hrun, hend, Or.inr ⟨T.heap.size, rfl, cls, ce, locs, hx U hWs.alike f1 (fun q hq => f2 q hq (fun z hz => nomatch hz)), hce, hO.vm, hcl, hWs, hall, hf⟩⟩
  refine st1 _ ?_
  show Steps p.tables e below (T1.setTop { method := m, pc := pc + 3, locals := ls, stack := .ref T.heap.size :: rest, locked := none }) _
  jvm_step X₁.here [X₁.here.top, hexec, d3', Value.category]
  exact hsteps
/-- 'throw new E("text")': new; dup; ldc; invokespecial; athrow -/
theorem vx_throwS {cc : ByteArray} {pc : Nat} (hexec : p.tables.exec = Jvm.exec) (hb : c.code = cc) (hl : l.stackTraces = false) {own cls text : String} {names : List String} {ik is ic mc ms sa : Nat} {A : Nat → Prop}
    (hown : s.vm.findClass own = some m.cls) (hcls : Bundle.fit cls = true) (hnames : ∀ n ∈ names, Bundle.fit n = true)
    (hk : (Cond.classLink own ik cls).before args s = true) (hini : (Cond.initialized cls).before args s = true) (hstr : vk_R own is text sa s) (hat : ∀ w ∈ vx_atS own ic cls names, w.before args s = true)
    (hgood : ∀ w ∈ Cond.classLink own ik cls :: Cond.initialized cls :: vx_atS own ic cls names, vx_ot w = true)
    (hU : vx_Zq Bundle.tN "UNASSIGNED_STACK" Bundle.steD A s s.heap) (hN : vx_Zq Bundle.tN "SUPPRESSED_SENTINEL" Bundle.listD A s s.heap) (hS : va_S A s.heap H locs) (hsize : ls.size = c.maxLocals)
    (d0 : decode cc pc = .ok (.new ik, 3)) (d3 : decode cc (pc + 3) = .ok (.dup, 1)) (d4 : decode cc (pc + 4) = .ok (.ldc is, 2)) (d6 : decode cc (pc + 6) = .ok (.invokespecial ic, 3)) (d9 : decode cc (pc + 9) = .ok (.athrow, 1))
    (hout : ∀ x ∈ c.exceptionTable.toList, covers x (pc + 9) = false)
    (hRframes : names.length + 3 < R.frames) (hRlocals : (rest.map fun v => v.category).sum + (13 * (names.length + 1) + 43) ≤ R.locals) (hRcells : cells + 1 ≤ R.cells) (hRslots : slots + 6 ≤ R.slots) (hlocks : meth.locks = false)
    (hx : ∀ t : State, s.vm.Alike t.vm → H.size ≤ t.heap.size → (∀ q : Nat, q < H.size → t.heap[q]? = H[q]?) → XC cls s t)
    (hf : ∀ z ∈ locs, free z.base) (hc : cells + 1 ≤ mc) (hs : slots + 6 ≤ ms) :
    W p l e R s m args below meth c H locs cells slots (vx_MQ below Qc XC args s mc ms free) (F0 m pc ls rest) := by
  intro T hT X
  have htr : e.platform.stackTraces = false := (show e.platform.stackTraces = l.stackTraces by rw [X.admits.platform]).trans hl
  have Y := vx_rebase X (R' := { frames := R.frames, locals := R.locals, cells := 1, slots := 6 }) (Nat.le_refl _) (Nat.le_refl _) hRcells hRslots
  obtain ⟨s', hA⟩ : ∃ z, z = (T.setVm s.vm).setFrames (.invoking m args :: below) := ⟨_, rfl⟩
  rw [← hA] at Y
  have hvm : s'.vm = s.vm := by rw [hA]; rfl
  have hhp : s'.heap = H := by rw [hA]; exact hT
  have hW0 : s.WarmedH s'.vm := by rw [hvm]; exact State.WarmedH.refl s
  have hat' : ∀ w ∈ vx_atS own ic cls names, w.before args s' = true := fun w hw => vx_ot_at hW0 hvm.symm (hgood w (List.mem_cons_of_mem _ (List.mem_cons_of_mem _ hw))) (hat w hw)
  have hk' : (Cond.classLink own ik cls).before args s' = true := vx_ot_at hW0 hvm.symm (hgood _ List.mem_cons_self) hk
  have hini' : (Cond.initialized cls).before args s' = true := vx_ot_at hW0 hvm.symm (hgood _ (List.mem_cons_of_mem _ List.mem_cons_self)) hini
  have hU' : vx_Zq Bundle.tN "UNASSIGNED_STACK" Bundle.steD A s' s'.heap := by rw [hhp]; exact vx_Zq.moved hW0.alike (hU.kept hS.2.1)
  have hN' : vx_Zq Bundle.tN "SUPPRESSED_SENTINEL" Bundle.listD A s' s'.heap := by rw [hhp]; exact vx_Zq.moved hW0.alike (hN.kept hS.2.1)
  have h : ∀ w ∈ Bundle.ownAtoms own ic cls names, w.before args s' = true := vx_own hat' (vx_isRefq hU'.1) (vx_isRefq hN'.1) hU'.2.word hN'.2.word
  have hown' : s'.vm.findClass own = some m.cls := by rw [hvm]; exact hown
  have hins : (Cond.instantiable cls 6).before args s' = true := h _ (by simp [Bundle.ownAtoms])
  obtain ⟨vm₁, cX, kX, hfX, hkX, -, -, X₁, st1⟩ := Y.newCold hexec (own := own) (C := cls) (index := ik) (n := 6) hown' hk' hins hini'
    (g := F0 m pc ls rest) rfl (by rw [hb]; exact d0) (Nat.le_refl _) (Nat.le_refl _)
  generalize hT1 : (T.setVm vm₁).pushCell { cls := cX, slots := kX.instanceTypes.map defaultValue, vm := .none } = T1 at X₁ st1
  have hcat : (Value.ref T.heap.size).category = 1 := rfl
  have hcellA : T1.heap[T.heap.size]? = some (freshCell cX kX) := by rw [← hT1]; exact State.heap_pushCell_size _ _
  have d3' : decode c.code (pc + 3) = .ok (.dup, 1) := by rw [hb]; exact d3
  have d4' : decode c.code (pc + 4) = .ok (.ldc is, 2) := by rw [hb]; exact d4
  have hstr' : vk_R own is text sa s' := vk_R.warm hW0 hstr
  obtain ⟨U, hsteps, hrun, hend, hW, hsame, ce, hce, hO⟩ := X₁.ctorThrowS hexec htr (own := own) (cls := cls) (names := names) (ic := ic) hown' hcls hnames h (fun x hx => nomatch hx) hfX hkX hcellA (by rw [hhp, hT]; exact Nat.le_refl _) (msg := .ref sa) rfl
    (g := { method := m, pc := pc + 6, locals := ls, stack := .ref sa :: .ref T.heap.size :: .ref T.heap.size :: rest, locked := none }) rfl hsize rfl rfl (rest := rest) rfl
    (by rw [hb]; exact d6) (by rw [hb]; exact d9) hout hRframes (by simp only [List.map_cons, List.sum_cons, hcat]; omega) hlocks
  obtain ⟨f1, f2⟩ := vx_frame hsame
  rw [hhp] at f1 f2
  have hWs : s.WarmedH U.vm := State.WarmedH.trans hW0 hW
  have hcl : s.vm.findClass cls = some ce.cls := by
    have h9 := hO.cls
    rw [hvm] at h9
    exact h9
  have hall : s.sameButNew ({ U with vm := s.vm } : State) locs mc ms := by
    subst hA
    obtain ⟨e1, e2⟩ := hsame
    rw [State.setFrames_setFrames] at e1
    have h2 : (T.setVm s.vm).sameButNew ({ U with vm := s.vm } : State) [] (0 + 1) (0 + 6) := ⟨e1, e2⟩
    have h3 := X.same.trans h2
    rw [List.append_nil] at h3
    exact h3.mono hc hs
  refine ⟨U, ?_, .threw T.heap.size, hrun, hend, Or.inr ⟨T.heap.size, rfl, cls, ce, locs, hx U hWs.alike f1 (fun q hq => f2 q hq (fun z hz => nomatch hz)), hce, hO.vm, hcl, hWs, hall, hf⟩⟩
  refine st1 _ ?_
  show Steps p.tables e below (T1.setTop { method := m, pc := pc + 3, locals := ls, stack := .ref T.heap.size :: rest, locked := none }) _
  jvm_step X₁.here [X₁.here.top, hexec, d3', Value.category]
  exact X₁.ldcString hexec (own := own) (text := text) (index := is) (a := sa) hown' hstr'.1 hstr'.2
    (g := { method := m, pc := pc + 4, locals := ls, stack := .ref T.heap.size :: .ref T.heap.size :: rest, locked := none }) rfl d4' _ hsteps
/-- 'throw new E("text")', the text by a wide index -/
theorem vx_throwSW {cc : ByteArray} {pc : Nat} (hexec : p.tables.exec = Jvm.exec) (hb : c.code = cc) (hl : l.stackTraces = false) {own cls text : String} {names : List String} {ik is ic mc ms sa : Nat} {A : Nat → Prop}
    (hown : s.vm.findClass own = some m.cls) (hcls : Bundle.fit cls = true) (hnames : ∀ n ∈ names, Bundle.fit n = true)
    (hk : (Cond.classLink own ik cls).before args s = true) (hini : (Cond.initialized cls).before args s = true) (hstr : vk_R own is text sa s) (hat : ∀ w ∈ vx_atS own ic cls names, w.before args s = true)
    (hgood : ∀ w ∈ Cond.classLink own ik cls :: Cond.initialized cls :: vx_atS own ic cls names, vx_ot w = true)
    (hU : vx_Zq Bundle.tN "UNASSIGNED_STACK" Bundle.steD A s s.heap) (hN : vx_Zq Bundle.tN "SUPPRESSED_SENTINEL" Bundle.listD A s s.heap) (hS : va_S A s.heap H locs) (hsize : ls.size = c.maxLocals)
    (d0 : decode cc pc = .ok (.new ik, 3)) (d3 : decode cc (pc + 3) = .ok (.dup, 1)) (d4 : decode cc (pc + 4) = .ok (.ldc_w is, 3)) (d7 : decode cc (pc + 7) = .ok (.invokespecial ic, 3)) (d10 : decode cc (pc + 10) = .ok (.athrow, 1))
    (hout : ∀ x ∈ c.exceptionTable.toList, covers x (pc + 10) = false)
    (hRframes : names.length + 3 < R.frames) (hRlocals : (rest.map fun v => v.category).sum + (13 * (names.length + 1) + 43) ≤ R.locals) (hRcells : cells + 1 ≤ R.cells) (hRslots : slots + 6 ≤ R.slots) (hlocks : meth.locks = false)
    (hx : ∀ t : State, s.vm.Alike t.vm → H.size ≤ t.heap.size → (∀ q : Nat, q < H.size → t.heap[q]? = H[q]?) → XC cls s t)
    (hf : ∀ z ∈ locs, free z.base) (hc : cells + 1 ≤ mc) (hs : slots + 6 ≤ ms) :
    W p l e R s m args below meth c H locs cells slots (vx_MQ below Qc XC args s mc ms free) (F0 m pc ls rest) := by
  intro T hT X
  have htr : e.platform.stackTraces = false := (show e.platform.stackTraces = l.stackTraces by rw [X.admits.platform]).trans hl
  have Y := vx_rebase X (R' := { frames := R.frames, locals := R.locals, cells := 1, slots := 6 }) (Nat.le_refl _) (Nat.le_refl _) hRcells hRslots
  obtain ⟨s', hA⟩ : ∃ z, z = (T.setVm s.vm).setFrames (.invoking m args :: below) := ⟨_, rfl⟩
  rw [← hA] at Y
  have hvm : s'.vm = s.vm := by rw [hA]; rfl
  have hhp : s'.heap = H := by rw [hA]; exact hT
  have hW0 : s.WarmedH s'.vm := by rw [hvm]; exact State.WarmedH.refl s
  have hat' : ∀ w ∈ vx_atS own ic cls names, w.before args s' = true := fun w hw => vx_ot_at hW0 hvm.symm (hgood w (List.mem_cons_of_mem _ (List.mem_cons_of_mem _ hw))) (hat w hw)
  have hk' : (Cond.classLink own ik cls).before args s' = true := vx_ot_at hW0 hvm.symm (hgood _ List.mem_cons_self) hk
  have hini' : (Cond.initialized cls).before args s' = true := vx_ot_at hW0 hvm.symm (hgood _ (List.mem_cons_of_mem _ List.mem_cons_self)) hini
  have hU' : vx_Zq Bundle.tN "UNASSIGNED_STACK" Bundle.steD A s' s'.heap := by rw [hhp]; exact vx_Zq.moved hW0.alike (hU.kept hS.2.1)
  have hN' : vx_Zq Bundle.tN "SUPPRESSED_SENTINEL" Bundle.listD A s' s'.heap := by rw [hhp]; exact vx_Zq.moved hW0.alike (hN.kept hS.2.1)
  have h : ∀ w ∈ Bundle.ownAtoms own ic cls names, w.before args s' = true := vx_own hat' (vx_isRefq hU'.1) (vx_isRefq hN'.1) hU'.2.word hN'.2.word
  have hown' : s'.vm.findClass own = some m.cls := by rw [hvm]; exact hown
  have hins : (Cond.instantiable cls 6).before args s' = true := h _ (by simp [Bundle.ownAtoms])
  obtain ⟨vm₁, cX, kX, hfX, hkX, -, -, X₁, st1⟩ := Y.newCold hexec (own := own) (C := cls) (index := ik) (n := 6) hown' hk' hins hini'
    (g := F0 m pc ls rest) rfl (by rw [hb]; exact d0) (Nat.le_refl _) (Nat.le_refl _)
  generalize hT1 : (T.setVm vm₁).pushCell { cls := cX, slots := kX.instanceTypes.map defaultValue, vm := .none } = T1 at X₁ st1
  have hcat : (Value.ref T.heap.size).category = 1 := rfl
  have hcellA : T1.heap[T.heap.size]? = some (freshCell cX kX) := by rw [← hT1]; exact State.heap_pushCell_size _ _
  have d3' : decode c.code (pc + 3) = .ok (.dup, 1) := by rw [hb]; exact d3
  have d4' : decode c.code (pc + 4) = .ok (.ldc_w is, 3) := by rw [hb]; exact d4
  have hstr' : vk_R own is text sa s' := vk_R.warm hW0 hstr
  obtain ⟨U, hsteps, hrun, hend, hW, hsame, ce, hce, hO⟩ := X₁.ctorThrowS hexec htr (own := own) (cls := cls) (names := names) (ic := ic) hown' hcls hnames h (fun x hx => nomatch hx) hfX hkX hcellA (by rw [hhp, hT]; exact Nat.le_refl _) (msg := .ref sa) rfl
    (g := { method := m, pc := pc + 7, locals := ls, stack := .ref sa :: .ref T.heap.size :: .ref T.heap.size :: rest, locked := none }) rfl hsize rfl rfl (rest := rest) rfl
    (by rw [hb]; exact d7) (by rw [hb]; exact d10) hout hRframes (by simp only [List.map_cons, List.sum_cons, hcat]; omega) hlocks
  obtain ⟨f1, f2⟩ := vx_frame hsame
  rw [hhp] at f1 f2
  have hWs : s.WarmedH U.vm := State.WarmedH.trans hW0 hW
  have hcl : s.vm.findClass cls = some ce.cls := by
    have h9 := hO.cls
    rw [hvm] at h9
    exact h9
  have hall : s.sameButNew ({ U with vm := s.vm } : State) locs mc ms := by
    subst hA
    obtain ⟨e1, e2⟩ := hsame
    rw [State.setFrames_setFrames] at e1
    have h2 : (T.setVm s.vm).sameButNew ({ U with vm := s.vm } : State) [] (0 + 1) (0 + 6) := ⟨e1, e2⟩
    have h3 := X.same.trans h2
    rw [List.append_nil] at h3
    exact h3.mono hc hs
  refine ⟨U, ?_, .threw T.heap.size, hrun, hend, Or.inr ⟨T.heap.size, rfl, cls, ce, locs, hx U hWs.alike f1 (fun q hq => f2 q hq (fun z hz => nomatch hz)), hce, hO.vm, hcl, hWs, hall, hf⟩⟩
  refine st1 _ ?_
  show Steps p.tables e below (T1.setTop { method := m, pc := pc + 3, locals := ls, stack := .ref T.heap.size :: rest, locked := none }) _
  jvm_step X₁.here [X₁.here.top, hexec, d3', Value.category]
  exact X₁.ldcStringW hexec (own := own) (text := text) (index := is) (a := sa) hown' hstr'.1 hstr'.2
    (g := { method := m, pc := pc + 4, locals := ls, stack := .ref T.heap.size :: .ref T.heap.size :: rest, locked := none }) rfl d4' _ hsteps
end Ends
section Bodies
variable {l : Launch}
theorem vx_ofW {y : MethodName} {ws ws' : List Cond} {rm : Room} {Pc : Array Value → State → Prop} {Qc : Array Value → State → Outcome → State → Prop} {XC : String → State → State → Prop} {mc ms : Nat} {free : Addr → Prop} {cc : ByteArray} {maxL : Nat} {ret : Option FieldType}
    (hy : plainName y.cls = true) (hw : ws = Cond.code y cc maxL ret :: ws')
    (body : ∀ p e s m args below meth c s₁, BodyLoose p l y (headSpec ws rm) cc maxL ret e s m args below meth c s₁ → c.maxLocals = maxL → (∀ x ∈ c.exceptionTable.toList, False) → Pc args s →
      W p l e (headSpec ws rm).room s m args below meth c s.heap [] 0 0 (vx_MQ below Qc XC args s mc ms free) (entryFrame m args maxL)) : vx_Met l y ws rm Pc Qc XC mc ms free := by
  refine MetFree.of_bodyS (code := cc) (maxLocals := maxL) (ret := ret) hy ?_ ?_
  · intro args s m h hn
    obtain ⟨meth, c, h1, h2, h3, h4, h5, h6, -, -⟩ := Cond.code_spec hn (atoms_spec (ws := ws) h _ (by rw [hw]; exact List.mem_cons_self))
    exact ⟨meth, c, h1, h2, h3, h4, h5, h6⟩
  · intro p e s m args below meth c s₁ B hml hP _
    have hh0 : s₁.heap = s.heap := by rw [B.state]; rfl
    have ht : ∀ x ∈ c.exceptionTable.toList, False := by
      obtain ⟨meth9, c9, h1, h2, -, -, -, -, h7, -⟩ := Cond.code_spec B.named (atoms_spec (ws := ws) B.pre _ (by rw [hw]; exact List.mem_cons_self))
      cases Option.some.inj (h1.symm.trans B.method)
      cases Option.some.inj (h2.symm.trans (Stand.of_body B).code)
      intro x hx
      rw [Array.isEmpty_iff.mp h7] at hx
      cases hx
    obtain ⟨t, a1, o, b1, b2, b3⟩ := body p e s m args below meth c s₁ B hml ht hP s₁ hh0 (Stand.of_body B)
    exact ⟨t, o, a1, b1, b2, b3⟩
/-- the table of a body with handlers -/
theorem vx_table {p : Program} {x y : MethodName} {S : Spec} {cc bytes : ByteArray} {maxL maxL' : Nat} {ret ret' : Option FieldType} {e : Env} {s s₁ : State} {m : MethodId} {args : Array Value} {below : List Frame} {meth : Method} {c : Code} {hh : List (Nat × Nat × Nat × Nat)}
    (B : BodyLoose p l y S cc maxL ret e s m args below meth c s₁) (h : (Cond.codeWith y bytes maxL' ret' hh).before args s = true) : c.exceptionTable.toList = tableOf hh := by
  obtain ⟨m9, meth9, c9, hn9, h1, h2, -, -, h6, -⟩ := Cond.codeWith_spec h
  cases Option.some.inj (hn9.symm.trans B.named)
  cases Option.some.inj (h1.symm.trans B.method)
  cases Option.some.inj (h2.symm.trans (Stand.of_body B).code)
  rw [← h6, table_eq]
end Bodies
end VXA
/-! ===== END ===== -/
/-! ===== BEGIN a static call of a method with an exception table ===== -/
section VXS
variable {p : Program} {l : Launch} {e : Env} {R : Room} {s : State} {m : MethodId} {args : Array Value} {below : List Frame} {meth : Method} {c : Code} {T : State} {H : Heap} {locs : List Loc} {cells slots : Nat}
abbrev vx_CSW (R : Room) (s : State) (args : Array Value) (own : String) (index : Nat) (y : MethodName) (bytes : ByteArray) (maxL : Nat) (ret : Option FieldType) (hh : List (Nat × Nat × Nat × Nat)) (ws : List Cond) (rm : Room) (mc ms n : Nat) : Prop :=
  (rm.cells = mc ∧ rm.slots = ms ∧ rm.frames + 1 ≤ R.frames ∧ 8 + (maxL + 11) + rm.locals ≤ R.locals ∧ (∀ w ∈ ws, ∀ (a' : Array Value) (U : State), s.WarmedH U.vm → w.before a' U = true) ∧ Cond.codeWith y bytes maxL ret hh ∈ ws) ∧
  (Cond.codeWith y bytes maxL ret hh).before args s = true ∧ (Cond.initialized y.cls).before args s = true ∧ (y.cls ≠ "java/lang/invoke/MethodHandle" ∧ y.cls ≠ "java/lang/invoke/VarHandle") ∧
  (∀ sig, parseMethodDescriptor y.desc = some sig → n = sig.parameters.length) ∧ (Cond.methodLink own index y).before args s = true ∧ (Cond.static y).before args s = true
theorem vx_cwSW {own : String} {index maxL mc ms : Nat} {y : MethodName} {bytes : ByteArray} {ret : Option FieldType} {hh : List (Nat × Nat × Nat × Nat)} {Ts ws ws' : List Cond} {rm : Room} (n : Nat) (ht : ∀ w ∈ Ts, w.before args s = true) (hT : GoodIn Ts (va_wsS own index y ws)) (hw : ws = Cond.codeWith y bytes maxL ret hh :: ws') (hrc : rm.cells = mc) (hrs : rm.slots = ms)
    (hd : y.cls ≠ "java/lang/invoke/MethodHandle" ∧ y.cls ≠ "java/lang/invoke/VarHandle" ∧ (parseMethodDescriptor y.desc).map (fun d => d.parameters.length) = some n) (hR : rm.frames + 1 ≤ R.frames ∧ 8 + (maxL + 11) + rm.locals ≤ R.locals) :
    vx_CSW R s args own index y bytes maxL ret hh ws rm mc ms n := by
  have ok : ∀ w ∈ va_wsS own index y ws, w.before args s = true := fun w h => ht w (hT w h).1
  have hG : GoodIn Ts ws := fun w h => hT w (by unfold va_wsS; exact List.mem_append_right _ h)
  have hc : Cond.codeWith y bytes maxL ret hh ∈ ws := by rw [hw]; exact List.mem_cons_self
  refine ⟨⟨hrc, hrs, hR.1, hR.2, pay_in ht hG, hc⟩, ht _ (hG _ hc).1, ok _ (by simp [va_wsS]), ⟨hd.1, hd.2.1⟩, fun sig h => ?_, ok _ (by simp [va_wsS]), ok _ (by simp [va_wsS])⟩
  have h2 := hd.2.2
  rw [h] at h2
  exact (Option.some.inj h2).symm
theorem vx_callSW (X : Stand p l e R s m args below meth c T locs cells slots) (hexec : p.tables.exec = Jvm.exec) {own : String} {index : Nat} {y : MethodName} {bytes : ByteArray} {maxL : Nat} {ret : Option FieldType} {hh : List (Nat × Nat × Nat × Nat)}
    (hown : s.vm.findClass own = some m.cls) (hlink : (Cond.methodLink own index y).before args s = true) (hstat : (Cond.static y).before args s = true) (hinit : (Cond.initialized y.cls).before args s = true)
    (hcode : (Cond.codeWith y bytes maxL ret hh).before args s = true) (hy : y.cls ≠ "java/lang/invoke/MethodHandle" ∧ y.cls ≠ "java/lang/invoke/VarHandle")
    {W9 : Nat} {Pre : Pt → Array Value → Prop} {Post : Pt → Array Value → Option Value → Pt → Prop} (hK : Back l R p e below s args y 3 W9 Pre Post)
    {g : JFrame} (hg : g.method = m) (hsize : g.locals.size = c.maxLocals) {argsL rest : List Value} (hlen : ∀ sig, parseMethodDescriptor y.desc = some sig → argsL.length = sig.parameters.length)
    (hstack : g.stack = argsL.reverse ++ rest) (hW : 2 * g.monitorRoom + (rest.map fun v => v.category).sum ≤ W9) (hdg : decode c.code g.pc = .ok (.invokestatic index, 3))
    (hpre : ∀ vm₁, s.WarmedH vm₁ → Pre ⟨T.setVm vm₁, locs, cells, slots⟩ argsL.toArray) :
    ∃ (v : Option Value) (vm₁ : Vm) (B : Pt), s.WarmedH vm₁ ∧ Stand p l e R s m args below meth c B.U B.locs B.cells B.slots ∧ Post ⟨T.setVm vm₁, locs, cells, slots⟩ argsL.toArray v B ∧
      ∀ target, Steps p.tables e below (B.U.setTop { g with pc := g.pc + 3, stack := v.toList ++ rest }) target → Steps p.tables e below (T.setTop g) target := by
  obtain ⟨mk, methM, cM, hnamed, hmethM, -, -, -, -, -, -, hsigM⟩ := Cond.codeWith_spec hcode
  have hstatic : methM.isStatic = true := Cond.static_spec hnamed hmethM hstat
  obtain ⟨kP, hkP, -⟩ := className_of_methodNamed hnamed
  have hinitP : kP.init = .initialized := Cond.initialized_spec (findClass_of_methodNamed hnamed) hkP hinit
  obtain ⟨vm₁, X₁, hstep₁⟩ := X.invokestatic hexec hown hlink hnamed hmethM hstatic hkP hinitP hy (g := g) hg (argsL := argsL) (rest := rest) (hlen _ hsigM) hstack hdg
  obtain ⟨v, B, X', hpost, hsteps⟩ := hK m meth c ⟨T.setVm vm₁, locs, cells, slots⟩ { g with stack := rest } (.invokestatic index) mk argsL.toArray X₁ hg hsize hdg hW (X₁.named hnamed) (hpre vm₁ X₁.warmed)
  exact ⟨v, vm₁, B, X₁.warmed, X', hpost, fun target h => hstep₁ _ fun acts => by rw [doInvoke_state]; exact hsteps.trans h⟩
theorem vx_runSW {y : MethodName} {bytes cc : ByteArray} {maxL nL mc ms n index : Nat} {ret : Option FieldType} {hh : List (Nat × Nat × Nat × Nat)} {ws : List Cond} {rm : Room} {Pc : Array Value → State → Prop} {Qc : Array Value → State → Outcome → State → Prop} {free : Addr → Prop} {Ts : List Cond} {own : String} {As rest : List Value} {g : JFrame}
    (S : CallFix p m c cc nL s args Ts own) (hM : Met l y ws rm Pc Qc mc ms free) (cw : vx_CSW R s args own index y bytes maxL ret hh ws rm mc ms n) (hp : PreS s H Pc As)
    (hg : g.method = m) (hn : As.length = n) (hsize : g.locals.size = nL) (hstack : g.stack = As.reverse ++ rest) (hW : 2 * g.monitorRoom + (rest.map fun v => v.category).sum ≤ 8) (hdg : decode cc g.pc = .ok (.invokestatic index, 3)) (hf : cells + mc ≤ R.cells ∧ slots + ms ≤ R.slots) :
    va_Run p l e R s m args below meth c H locs cells slots mc ms g rest (Qc As.toArray) (free) := by
  obtain ⟨⟨hrc, hrs, hfr, hlo, hws, hcw⟩, hcode, hini, hy, hlen, hl, hstt⟩ := cw
  have hK : Back l R p e below s args y 3 8 (PreOf R mc ms Pc) (PostOf Qc mc ms free) := va_backW (hh := hh) (bytes := bytes) (maxL := maxL) (ret := ret) hM hp.1 hrc hrs hfr hlo hws hcw (fun a' U hW => word_at hW (Or.inl (by first | rfl | simp [Cond.onTables, Cond.keeps, Cond.steady])) hini)
  obtain ⟨hx, hb, hml, ho, -⟩ := S
  intro T hT X
  obtain ⟨v, vm₁, ⟨U', l2, c2, s2⟩, hW₁, X', ⟨g', mk, t, L, e1, e2, hq, h1, hL, h2, h3⟩, st⟩ := vx_callSW X hx (hh := hh) (bytes := bytes) (maxL := maxL) (ret := ret) ho hl hstt hini hcode hy hK hg (hsize.trans hml.symm) (argsL := As) (rest := rest) (fun sig h => hn.trans (hlen sig h)) hstack hW (by rw [hb]; exact hdg)
    (fun vm₁ hW₁ => ⟨hf.1, hf.2, hp.2 (T.setVm vm₁) hT hW₁⟩)
  dsimp only [Pt.U, Pt.locs, Pt.cells, Pt.slots] at X' e1 e2 h1 h2 h3 st
  subst h1; subst h2; subst h3
  exact ⟨v, (T.setVm vm₁).calling g' mk As.toArray, t, U', L, hT, X', hL, e1, e2, hq, st⟩
/-- not caught here, past rows that name other classes: it goes on to the caller -/
theorem vx_outP {p : Program} {l : Launch} {e : Env} {R : Room} {s : State} {m : MethodId} {args : Array Value} {below : List Frame} {meth : Method} {c : Code} {H : Heap} {locs : List Loc} {cells slots : Nat} {free : Addr → Prop} {ls : Array Slot} {rest : List Value} {Qc : Array Value → State → Outcome → State → Prop} {XC : String → State → State → Prop}
    {pc : Nat} {own E : String} {ce : Cell} {q : Addr} {mc ms : Nat} (hown : s.vm.findClass own = some m.cls) (hlocks : meth.locks = false)
    (hpass : ∀ z ∈ c.exceptionTable.toList, covers z pc = false ∨ (z.catchType ≠ 0 ∧ ∃ nm : String, (Cond.classLink own z.catchType nm).before args s = true ∧ va_Nc E nm s)) (hcell : H[q]? = some ce) (hv : ce.vm = .none) (hcl : s.vm.findClass E = some ce.cls)
    (hx : ∀ t : State, t.heap = H → s.vm.Alike t.vm → XC E s t) (hf : ∀ z ∈ locs, free z.base) (hc : cells ≤ mc) (hs : slots ≤ ms) :
    vx_W p l e R s m args below meth c H locs cells slots (vx_MQ below Qc XC args s mc ms free) (F0 m pc ls rest) q := by
  intro T hT X
  have hpl : e.platform.magicAccessors = ({} : Platform).magicAccessors := by rw [X.admits.platform]
  obtain ⟨vm', hW', X', st⟩ := X.outThrough hlocks q (g := F0 m pc ls rest) rfl rfl rfl (cell := ce) (by rw [hT]; exact hcell) (by rw [hv]; rfl)
    (by obtain ⟨k9, h9, -⟩ := Vm.findClass_spec hcl; exact ⟨k9, h9⟩) (fun z hz => by
      rcases hpass z hz with h | ⟨hz0, nm, hl1, hn1⟩
      · exact Or.inl h
      · obtain ⟨c6, hc6, hcl6⟩ := Cond.classLink_spec hown hl1 e.platform hpl
        obtain ⟨a8, b8, h1, h2, h3⟩ := hn1
        cases Option.some.inj (h1.symm.trans hcl)
        cases Option.some.inj (h2.symm.trans hc6)
        exact Or.inr ⟨hz0, _, hcl6, h3⟩)
  obtain ⟨g₀, hfr⟩ := X'.frames_eq
  have hcell9 : ((T.setVm vm').setFrames (.throwing q :: below)).heap[q]? = some ce := by
    show T.heap[q]? = some ce
    rw [hT]; exact hcell
  have hend : Ended ((T.setVm vm').setFrames (.throwing q :: below)) below (.threw q) := State.frames_setFrames _ (State.cur_lt_of_frames hfr)
  refine ⟨(T.setVm vm').setFrames (.throwing q :: below), ?_, .threw q, X'.here.running, hend, Or.inr ⟨q, rfl, E, ce, locs, hx _ hT (X'.ends _).1.alike, hcell9, hv, hcl, (X'.ends _).1, (X'.ends _).2.mono hc hs, hf⟩⟩
  rw [X.pushThrowing_eq]
  exact st
/-- a thing of a world lies in the heap -/
theorem vx_lt {D : va_G} {cl : List vw_C} {ws : va_W} {H1 : Heap} (h : va_P D cl ws H1) {k : Nat} {q : Nat × va_E} (hk : ws[k]? = some q) : q.1 < H1.size := (h k q hk).lt
end VXS
/-! ===== END ===== -/
/-! ===== BEGIN methods with a table of their own: called by a name, returning or throwing ===== -/
section VXH
/-! vx_backW, vx_callVX, vx_callSX, vx_callVW, vx_runVW, vx_runVX, vx_runSX, vx_ofWH follow the same proofs as their sisters above (Free/Laws.lean, Shelf42/LK1.lean); vx_outP calls Shelf42/NT130.lean (outThrough). -/
section
variable {l : Launch} {R : Room} {p : Program} {e : Env} {below : List Frame} {s : State} {sargs : Array Value} {y : MethodName} {len W9 : Nat}
theorem vx_backW {ws : List Cond} {rm : Room} {Pc : Array Value → State → Prop} {Qc : Array Value → State → Outcome → State → Prop} {XC : String → State → State → Prop} {mc ms : Nat} {free : Addr → Prop} {bytes : ByteArray} {maxL : Nat} {ret : Option FieldType} {hh : List (Nat × Nat × Nat × Nat)}
    (hM : vx_Met l y ws rm Pc Qc XC mc ms free) (hblind : FrameBlind Pc) (hrc : rm.cells = mc) (hrs : rm.slots = ms)
    (hframes : rm.frames + 1 ≤ R.frames) (hlocals : W9 + (maxL + 11) + rm.locals ≤ R.locals)
    (hws : ∀ w ∈ ws, ∀ a' U, s.WarmedH U.vm → w.before a' U = true) (hcode : Cond.codeWith y bytes maxL ret hh ∈ ws) (hinit : ∀ a' U, s.WarmedH U.vm → (Cond.initialized y.cls).before a' U = true) :
    vx_Back l R p e below s sargs y len W9 (PreOf R mc ms Pc) (PostOf Qc mc ms free) (vx_Post XC mc ms free) := by
  intro m meth c A g ig mk a X hg hsize hdg hW hn hp
  have h1 : (headSpec ws rm).pre.before a A.U = true := atoms_intro fun w hw => hws w hw _ _ X.warmed
  have h2 : (Cond.codeWith y bytes maxL ret hh).before a A.U = true := hws _ hcode _ _ X.warmed
  have h3 : (Cond.initialized y.cls).before a A.U = true := hinit _ _ X.warmed
  have h4 : A.cells + (headSpec ws rm).room.cells ≤ R.cells := by rw [show (headSpec ws rm).room.cells = mc from hrc]; exact hp.1
  have h5 : A.slots + (headSpec ws rm).room.slots ≤ R.slots := by rw [show (headSpec ws rm).room.slots = ms from hrs]; exact hp.2.1
  have hPc : Pc a (A.U.calling g mk a) := hblind _ _ _ _ hp.2.2
  obtain ⟨U, Ls, c0, s0⟩ := A
  dsimp only [Pt.U, Pt.locs, Pt.cells, Pt.slots] at h1 h2 h3 h4 h5 X hn hPc ⊢
  obtain ⟨m9, methY, cY, hn9, hmY, hcY, -, hlY, -⟩ := Cond.codeWith_spec h2
  cases Option.some.inj (hn9.symm.trans hn)
  obtain ⟨kY, hkY, -⟩ := className_of_methodNamed hn
  have hinitY : kY.init = .initialized := Cond.initialized_spec (findClass_of_methodNamed hn) hkY h3
  have h : At U g.method c below := by rw [hg]; exact X.here
  have hlocals9 : W9 + (maxL + 11) + (headSpec ws rm).room.locals ≤ R.locals := hlocals
  have happ : (headSpec ws rm).appliesLoose y e.platform (U.calling g mk a) = true :=
    Spec.appliesLoose_calling (g := g) h hdg hn hkY hinitY
      (X.room_calling (g := g) (R' := (headSpec ws rm).room) hsize hmY hcY hframes (by rw [hlY]; omega) h4 h5) h1
  obtain ⟨mid, hmid⟩ := h.above
  have hfr : (U.setTop g).frames = (.java g :: mid) ++ below := by rw [State.frames_setTop' g h.top, hmid]; rfl
  obtain ⟨o, s₂, hsteps, -, hend, hq⟩ := Steps.callFree hM p X.admits X.cas X.clock (acts := []) hfr happ hPc trivial
  have hq' : vx_Q Qc XC mc ms free a (U.calling g mk a) o s₂ := hq
  rw [State.frames_setTop' g h.top] at hend
  obtain ⟨g₀, hg0⟩ := Option.isSome_iff_exists.mp h.top
  obtain ⟨r, hr⟩ := State.topJava?_eq_some.mp hg0
  have hr' : (({ U with heap := s₂.heap, slotsUsed := s₂.slotsUsed } : State).setVm s₂.vm).frames = .java g₀ :: r := hr
  rcases hq' with ⟨hqc, L, hfe, hL⟩ | ⟨q, rfl, E, ce, L, hx, hce, hcv, hcl, hW₂, hsm, hL⟩
  · obtain ⟨⟨v, rfl⟩, hW₂, e2, q2, q3, q4, q5, q6⟩ := id hfe
    have e3 : s₂ = ({ (U.calling g mk a).setFrames s₂.frames with heap := s₂.heap, slotsUsed := s₂.slotsUsed } : State).setVm s₂.vm := by
      have : s₂ = ({ s₂ with vm := (U.calling g mk a).vm } : State).setVm s₂.vm := rfl
      rw [e2] at this
      exact this
    obtain ⟨c₂, i₂, len₂, hc₂, hd₂, hf₂⟩ := hend
    have hW' : U.WarmedH s₂.vm := hW₂
    have hcc : c₂ = c := by
      have h1 : s₂.code? g.method = U.code? g.method := by
        rw [State.code?_eq, State.code?_eq, hW'.alike.method?]
      exact Option.some.inj (hc₂.symm.trans (h1.trans h.code))
    subst hcc
    have hlen : len₂ = len := by rw [hdg] at hd₂; cases hd₂; rfl
    subst hlen
    have hs₂ : s₂ = (({ U with heap := s₂.heap, slotsUsed := s₂.slotsUsed } : State).setVm s₂.vm).setTop { g with pc := g.pc + len₂, stack := v.toList ++ g.stack } := by
      refine e3.trans ?_
      rw [hf₂, State.calling_eq h.top, State.setFrames_setFrames, State.setTop_of_frames _ hr', hr]
      rfl
    have hsame : U.sameButNew ({ U with heap := s₂.heap, slotsUsed := s₂.slotsUsed } : State) L mc ms := by
      refine ⟨?_, q2, q3, q4, q5, q6⟩
      obtain ⟨t, ht, -⟩ := State.frames_cons hr
      show ({ U with heap := s₂.heap, slotsUsed := s₂.slotsUsed } : State) = { U.setFrames U.frames with heap := s₂.heap, slotsUsed := s₂.slotsUsed }
      rw [State.setFrames_self ht]
    subst hg
    refine Or.inl ⟨v, ⟨(({ U with heap := s₂.heap, slotsUsed := s₂.slotsUsed } : State).setVm s₂.vm), Ls ++ L, c0 + mc, s0 + ms⟩,
      ⟨X.admits, X.cas, X.clock, X.frames, X.room, X.hears, X.method, X.code, (X.here.setHeapUsed s₂.heap s₂.slotsUsed).setVm hW'.alike, X.tail, State.WarmedH.trans X.warmed hW', X.limits, X.bytes, X.same.trans (hsame.setVm s.vm)⟩,
      ⟨g, mk, s₂, L, rfl, rfl, hqc, rfl, hL, rfl, rfl⟩, ?_⟩
    show Steps p.tables e below _ ((({ U with heap := s₂.heap, slotsUsed := s₂.slotsUsed } : State).setVm s₂.vm).setTop { g with pc := g.pc + len₂, stack := v.toList ++ g.stack })
    rw [← hs₂]
    exact hsteps
  · obtain ⟨e2, q2, q3, q4, q5, q6⟩ := id hsm
    have e3 : s₂ = ({ (U.calling g mk a).setFrames s₂.frames with heap := s₂.heap, slotsUsed := s₂.slotsUsed } : State).setVm s₂.vm := by
      have : s₂ = ({ s₂ with vm := (U.calling g mk a).vm } : State).setVm s₂.vm := rfl
      rw [e2] at this
      exact this
    have hf₂ : s₂.frames = .throwing q :: .java g :: U.frames.tail := hend
    have hW' : U.WarmedH s₂.vm := hW₂
    have hs₂ : s₂ = ((({ U with heap := s₂.heap, slotsUsed := s₂.slotsUsed } : State).setVm s₂.vm).setTop g).pushFrame (.throwing q) := by
      refine e3.trans ?_
      rw [hf₂, State.calling_eq h.top, State.setFrames_setFrames, State.pushFrame, State.frames_setTop _ hr', State.setTop_of_frames _ hr', State.setFrames_setFrames, hr]
      rfl
    have hsame : U.sameButNew ({ U with heap := s₂.heap, slotsUsed := s₂.slotsUsed } : State) L mc ms := by
      refine ⟨?_, q2, q3, q4, q5, q6⟩
      obtain ⟨t, ht, -⟩ := State.frames_cons hr
      show ({ U with heap := s₂.heap, slotsUsed := s₂.slotsUsed } : State) = { U.setFrames U.frames with heap := s₂.heap, slotsUsed := s₂.slotsUsed }
      rw [State.setFrames_self ht]
    subst hg
    refine Or.inr ⟨q, ⟨(({ U with heap := s₂.heap, slotsUsed := s₂.slotsUsed } : State).setVm s₂.vm), Ls ++ L, c0 + mc, s0 + ms⟩,
      ⟨X.admits, X.cas, X.clock, X.frames, X.room, X.hears, X.method, X.code, (X.here.setHeapUsed s₂.heap s₂.slotsUsed).setVm hW'.alike, X.tail, State.WarmedH.trans X.warmed hW', X.limits, X.bytes, X.same.trans (hsame.setVm s.vm)⟩,
      ⟨g, mk, s₂, L, E, ce, rfl, rfl, hx, hce, hcv, hcl, rfl, hL, rfl, rfl⟩, ?_⟩
    show Steps p.tables e below _ (((({ U with heap := s₂.heap, slotsUsed := s₂.slotsUsed } : State).setVm s₂.vm).setTop g).pushFrame (.throwing q))
    rw [← hs₂]
    exact hsteps
end
variable {p : Program} {l : Launch} {e : Env} {R : Room} {s : State} {m : MethodId} {args : Array Value} {below : List Frame} {meth : Method} {c : Code} {T : State} {H : Heap} {locs : List Loc} {cells slots : Nat}
theorem vx_callVX (X : Stand p l e R s m args below meth c T locs cells slots) (hexec : p.tables.exec = Jvm.exec) {own C : String} {index : Nat} {y : MethodName} {bytes : ByteArray} {maxL : Nat} {ret : Option FieldType} {hh : List (Nat × Nat × Nat × Nat)}
    (hown : s.vm.findClass own = some m.cls) (hlink : (Cond.methodLink own index y).before args s = true) (hinst : (Cond.instanceMethod y).before args s = true) (hsel : (Cond.selects C y y).before args s = true)
    (hcode : (Cond.codeWith y bytes maxL ret hh).before args s = true) (hy : y.cls ≠ "java/lang/invoke/MethodHandle" ∧ y.cls ≠ "java/lang/invoke/VarHandle")
    {W9 : Nat} {Pre : Pt → Array Value → Prop} {Post : Pt → Array Value → Option Value → Pt → Prop} {PostX : Pt → Array Value → Addr → Pt → Prop} (hK : vx_Back l R p e below s args y 3 W9 Pre Post PostX)
    {b : Addr} {cellB : Cell} (hcell : T.heap[b]? = some cellB) (hobj : cellB.vm.isStatics = false) (hcls : s.vm.findClass C = some cellB.cls)
    {g : JFrame} (hg : g.method = m) (hsize : g.locals.size = c.maxLocals) {argsL rest : List Value} (hlen : ∀ sig, parseMethodDescriptor y.desc = some sig → argsL.length = sig.parameters.length)
    (hstack : g.stack = argsL.reverse ++ .ref b :: rest) (hW : 2 * g.monitorRoom + (rest.map fun v => v.category).sum ≤ W9) (hdg : decode c.code g.pc = .ok (.invokevirtual index, 3))
    (hpre : ∀ vm₁, s.WarmedH vm₁ → Pre ⟨T.setVm vm₁, locs, cells, slots⟩ (Value.ref b :: argsL).toArray) :
    (∃ (v : Option Value) (vm₁ : Vm) (B : Pt), s.WarmedH vm₁ ∧ Stand p l e R s m args below meth c B.U B.locs B.cells B.slots ∧ Post ⟨T.setVm vm₁, locs, cells, slots⟩ (Value.ref b :: argsL).toArray v B ∧
      ∀ target, Steps p.tables e below (B.U.setTop { g with pc := g.pc + 3, stack := v.toList ++ rest }) target → Steps p.tables e below (T.setTop g) target) ∨
    (∃ (q : Addr) (vm₁ : Vm) (B : Pt), s.WarmedH vm₁ ∧ Stand p l e R s m args below meth c B.U B.locs B.cells B.slots ∧ PostX ⟨T.setVm vm₁, locs, cells, slots⟩ (Value.ref b :: argsL).toArray q B ∧
      Steps p.tables e below (T.setTop g) ((B.U.setTop { g with stack := rest }).pushFrame (.throwing q))) := by
  obtain ⟨mk, methM, hnamed, hmethM, hstM, habM⟩ := Cond.instanceMethod_spec hinst
  obtain ⟨m8, methM', cM, hn8, hmethM', -, -, -, -, -, -, hsigM⟩ := Cond.codeWith_spec hcode
  cases Option.some.inj (hn8.symm.trans hnamed)
  cases hmethM.symm.trans hmethM'
  obtain ⟨c2, r2, m2, q1, q2, q3, q4, kP, hkP, hkPi⟩ := Cond.selects_spec hsel
  cases hcls.symm.trans q1
  cases (State.methodFound?_of_named hnamed hy).symm.trans q2
  cases hnamed.symm.trans q3
  have hselP : selectMethod e.platform s.vm cellB.cls mk = .method mk := by rw [Launch.admits_selectMethod X.admits]; exact q4
  obtain ⟨vm₁, X₁, hstep₁⟩ := X.invokevirtual hexec hown hlink hnamed hmethM hstM hkP hkPi hy (a := b) (cell := cellB) hcell
    (fun z h => by rw [h] at hobj; cases hobj) hselP hmethM habM hkP hkPi (g := g) hg (argsL := argsL) (rest := rest) (hlen _ hsigM) hstack hdg
  rcases hK m meth c ⟨T.setVm vm₁, locs, cells, slots⟩ { g with stack := rest } (.invokevirtual index) mk (Value.ref b :: argsL).toArray X₁ hg hsize hdg hW (X₁.named hnamed) (hpre vm₁ X₁.warmed) with ⟨v, B, X', hpost, hsteps⟩ | ⟨q, B, X', hpost, hsteps⟩
  · exact Or.inl ⟨v, vm₁, B, X₁.warmed, X', hpost, fun target h => hstep₁ _ fun acts => by rw [doInvoke_state]; exact hsteps.trans h⟩
  · exact Or.inr ⟨q, vm₁, B, X₁.warmed, X', hpost, hstep₁ _ fun acts => by rw [doInvoke_state]; exact hsteps⟩
theorem vx_callSX (X : Stand p l e R s m args below meth c T locs cells slots) (hexec : p.tables.exec = Jvm.exec) {own : String} {index : Nat} {y : MethodName} {bytes : ByteArray} {maxL : Nat} {ret : Option FieldType} {hh : List (Nat × Nat × Nat × Nat)}
    (hown : s.vm.findClass own = some m.cls) (hlink : (Cond.methodLink own index y).before args s = true) (hstat : (Cond.static y).before args s = true) (hinit : (Cond.initialized y.cls).before args s = true)
    (hcode : (Cond.codeWith y bytes maxL ret hh).before args s = true) (hy : y.cls ≠ "java/lang/invoke/MethodHandle" ∧ y.cls ≠ "java/lang/invoke/VarHandle")
    {W9 : Nat} {Pre : Pt → Array Value → Prop} {Post : Pt → Array Value → Option Value → Pt → Prop} {PostX : Pt → Array Value → Addr → Pt → Prop} (hK : vx_Back l R p e below s args y 3 W9 Pre Post PostX)
    {g : JFrame} (hg : g.method = m) (hsize : g.locals.size = c.maxLocals) {argsL rest : List Value} (hlen : ∀ sig, parseMethodDescriptor y.desc = some sig → argsL.length = sig.parameters.length)
    (hstack : g.stack = argsL.reverse ++ rest) (hW : 2 * g.monitorRoom + (rest.map fun v => v.category).sum ≤ W9) (hdg : decode c.code g.pc = .ok (.invokestatic index, 3))
    (hpre : ∀ vm₁, s.WarmedH vm₁ → Pre ⟨T.setVm vm₁, locs, cells, slots⟩ argsL.toArray) :
    (∃ (v : Option Value) (vm₁ : Vm) (B : Pt), s.WarmedH vm₁ ∧ Stand p l e R s m args below meth c B.U B.locs B.cells B.slots ∧ Post ⟨T.setVm vm₁, locs, cells, slots⟩ argsL.toArray v B ∧
      ∀ target, Steps p.tables e below (B.U.setTop { g with pc := g.pc + 3, stack := v.toList ++ rest }) target → Steps p.tables e below (T.setTop g) target) ∨
    (∃ (q : Addr) (vm₁ : Vm) (B : Pt), s.WarmedH vm₁ ∧ Stand p l e R s m args below meth c B.U B.locs B.cells B.slots ∧ PostX ⟨T.setVm vm₁, locs, cells, slots⟩ argsL.toArray q B ∧
      Steps p.tables e below (T.setTop g) ((B.U.setTop { g with stack := rest }).pushFrame (.throwing q))) := by
  obtain ⟨mk, methM, cM, hnamed, hmethM, -, -, -, -, -, -, hsigM⟩ := Cond.codeWith_spec hcode
  have hstatic : methM.isStatic = true := Cond.static_spec hnamed hmethM hstat
  obtain ⟨kP, hkP, -⟩ := className_of_methodNamed hnamed
  have hinitP : kP.init = .initialized := Cond.initialized_spec (findClass_of_methodNamed hnamed) hkP hinit
  obtain ⟨vm₁, X₁, hstep₁⟩ := X.invokestatic hexec hown hlink hnamed hmethM hstatic hkP hinitP hy (g := g) hg (argsL := argsL) (rest := rest) (hlen _ hsigM) hstack hdg
  rcases hK m meth c ⟨T.setVm vm₁, locs, cells, slots⟩ { g with stack := rest } (.invokestatic index) mk argsL.toArray X₁ hg hsize hdg hW (X₁.named hnamed) (hpre vm₁ X₁.warmed) with ⟨v, B, X', hpost, hsteps⟩ | ⟨q, B, X', hpost, hsteps⟩
  · exact Or.inl ⟨v, vm₁, B, X₁.warmed, X', hpost, fun target h => hstep₁ _ fun acts => by rw [doInvoke_state]; exact hsteps.trans h⟩
  · exact Or.inr ⟨q, vm₁, B, X₁.warmed, X', hpost, hstep₁ _ fun acts => by rw [doInvoke_state]; exact hsteps⟩
theorem vx_callVW (X : Stand p l e R s m args below meth c T locs cells slots) (hexec : p.tables.exec = Jvm.exec) {own C : String} {index : Nat} {y : MethodName} {bytes : ByteArray} {maxL : Nat} {ret : Option FieldType} {hh : List (Nat × Nat × Nat × Nat)}
    (hown : s.vm.findClass own = some m.cls) (hlink : (Cond.methodLink own index y).before args s = true) (hinst : (Cond.instanceMethod y).before args s = true) (hsel : (Cond.selects C y y).before args s = true)
    (hcode : (Cond.codeWith y bytes maxL ret hh).before args s = true) (hy : y.cls ≠ "java/lang/invoke/MethodHandle" ∧ y.cls ≠ "java/lang/invoke/VarHandle")
    {W9 : Nat} {Pre : Pt → Array Value → Prop} {Post : Pt → Array Value → Option Value → Pt → Prop} (hK : Back l R p e below s args y 3 W9 Pre Post)
    {b : Addr} {cellB : Cell} (hcell : T.heap[b]? = some cellB) (hobj : cellB.vm.isStatics = false) (hcls : s.vm.findClass C = some cellB.cls)
    {g : JFrame} (hg : g.method = m) (hsize : g.locals.size = c.maxLocals) {argsL rest : List Value} (hlen : ∀ sig, parseMethodDescriptor y.desc = some sig → argsL.length = sig.parameters.length)
    (hstack : g.stack = argsL.reverse ++ .ref b :: rest) (hW : 2 * g.monitorRoom + (rest.map fun v => v.category).sum ≤ W9) (hdg : decode c.code g.pc = .ok (.invokevirtual index, 3))
    (hpre : ∀ vm₁, s.WarmedH vm₁ → Pre ⟨T.setVm vm₁, locs, cells, slots⟩ (Value.ref b :: argsL).toArray) :
    ∃ (v : Option Value) (vm₁ : Vm) (B : Pt), s.WarmedH vm₁ ∧ Stand p l e R s m args below meth c B.U B.locs B.cells B.slots ∧ Post ⟨T.setVm vm₁, locs, cells, slots⟩ (Value.ref b :: argsL).toArray v B ∧
      ∀ target, Steps p.tables e below (B.U.setTop { g with pc := g.pc + 3, stack := v.toList ++ rest }) target → Steps p.tables e below (T.setTop g) target := by
  obtain ⟨mk, methM, hnamed, hmethM, hstM, habM⟩ := Cond.instanceMethod_spec hinst
  obtain ⟨m8, methM', cM, hn8, hmethM', -, -, -, -, -, -, hsigM⟩ := Cond.codeWith_spec hcode
  cases Option.some.inj (hn8.symm.trans hnamed)
  cases hmethM.symm.trans hmethM'
  obtain ⟨c2, r2, m2, q1, q2, q3, q4, kP, hkP, hkPi⟩ := Cond.selects_spec hsel
  cases hcls.symm.trans q1
  cases (State.methodFound?_of_named hnamed hy).symm.trans q2
  cases hnamed.symm.trans q3
  have hselP : selectMethod e.platform s.vm cellB.cls mk = .method mk := by rw [Launch.admits_selectMethod X.admits]; exact q4
  obtain ⟨vm₁, X₁, hstep₁⟩ := X.invokevirtual hexec hown hlink hnamed hmethM hstM hkP hkPi hy (a := b) (cell := cellB) hcell
    (fun z h => by rw [h] at hobj; cases hobj) hselP hmethM habM hkP hkPi (g := g) hg (argsL := argsL) (rest := rest) (hlen _ hsigM) hstack hdg
  obtain ⟨v, B, X', hpost, hsteps⟩ := hK m meth c ⟨T.setVm vm₁, locs, cells, slots⟩ { g with stack := rest } (.invokevirtual index) mk (Value.ref b :: argsL).toArray X₁ hg hsize hdg hW (X₁.named hnamed) (hpre vm₁ X₁.warmed)
  exact ⟨v, vm₁, B, X₁.warmed, X', hpost, fun target h => hstep₁ _ fun acts => by rw [doInvoke_state]; exact hsteps.trans h⟩
abbrev vx_CVW (R : Room) (s : State) (args : Array Value) (own C : String) (index : Nat) (y : MethodName) (bytes : ByteArray) (maxL : Nat) (ret : Option FieldType) (hh : List (Nat × Nat × Nat × Nat)) (ws : List Cond) (rm : Room) (mc ms n : Nat) : Prop :=
  (rm.cells = mc ∧ rm.slots = ms ∧ rm.frames + 1 ≤ R.frames ∧ 8 + (maxL + 11) + rm.locals ≤ R.locals ∧ (∀ w ∈ ws, ∀ (a' : Array Value) (U : State), s.WarmedH U.vm → w.before a' U = true) ∧ Cond.codeWith y bytes maxL ret hh ∈ ws) ∧
  (Cond.codeWith y bytes maxL ret hh).before args s = true ∧ (Cond.initialized y.cls).before args s = true ∧ (y.cls ≠ "java/lang/invoke/MethodHandle" ∧ y.cls ≠ "java/lang/invoke/VarHandle") ∧
  (∀ sig, parseMethodDescriptor y.desc = some sig → n = sig.parameters.length) ∧ (Cond.methodLink own index y).before args s = true ∧ (Cond.instanceMethod y).before args s = true ∧ (Cond.selects C y y).before args s = true
theorem vx_cwVW {own C : String} {index maxL mc ms : Nat} {y : MethodName} {bytes : ByteArray} {ret : Option FieldType} {hh : List (Nat × Nat × Nat × Nat)} {Ts ws ws' : List Cond} {rm : Room} (n : Nat) (ht : ∀ w ∈ Ts, w.before args s = true) (hT : GoodIn Ts (wsV own index C y ws)) (hw : ws = Cond.codeWith y bytes maxL ret hh :: ws') (hrc : rm.cells = mc) (hrs : rm.slots = ms)
    (hd : y.cls = C ∧ y.cls ≠ "java/lang/invoke/MethodHandle" ∧ y.cls ≠ "java/lang/invoke/VarHandle" ∧ (parseMethodDescriptor y.desc).map (fun d => d.parameters.length) = some n) (hR : rm.frames + 1 ≤ R.frames ∧ 8 + (maxL + 11) + rm.locals ≤ R.locals) :
    vx_CVW R s args own C index y bytes maxL ret hh ws rm mc ms n := by
  obtain ⟨hC, hd⟩ := hd
  subst hC
  have ok : ∀ w ∈ wsV own index y.cls y ws, w.before args s = true := fun w h => ht w (hT w h).1
  have hG : GoodIn Ts ws := fun w h => hT w (by unfold wsV; exact List.mem_append_right _ h)
  have hc : Cond.codeWith y bytes maxL ret hh ∈ ws := by rw [hw]; exact List.mem_cons_self
  refine ⟨⟨hrc, hrs, hR.1, hR.2, pay_in ht hG, hc⟩, ht _ (hG _ hc).1, ok _ (by simp [wsV]), ⟨hd.1, hd.2.1⟩, fun sig h => ?_, ok _ (by simp [wsV]), ok _ (by simp [wsV]), ok _ (by simp [wsV])⟩
  have h2 := hd.2.2
  rw [h] at h2
  exact (Option.some.inj h2).symm
theorem vx_runVW {y : MethodName} {bytes cc : ByteArray} {maxL nL mc ms n index : Nat} {ret : Option FieldType} {hh : List (Nat × Nat × Nat × Nat)} {ws : List Cond} {rm : Room} {Pc : Array Value → State → Prop} {Qc : Array Value → State → Outcome → State → Prop} {free : Addr → Prop} {Ts : List Cond} {own C : String} {b : Addr} {As rest : List Value} {g : JFrame}
    (S : CallFix p m c cc nL s args Ts own) (hM : Met l y ws rm Pc Qc mc ms free) (cw : vx_CVW R s args own C index y bytes maxL ret hh ws rm mc ms n) (hp : PreV s H C b Pc As)
    (hg : g.method = m) (hn : As.length = n) (hsize : g.locals.size = nL) (hstack : g.stack = As.reverse ++ .ref b :: rest) (hW : 2 * g.monitorRoom + (rest.map fun v => v.category).sum ≤ 8) (hdg : decode cc g.pc = .ok (.invokevirtual index, 3)) (hf : cells + mc ≤ R.cells ∧ slots + ms ≤ R.slots) :
    va_Run p l e R s m args below meth c H locs cells slots mc ms g rest (Qc (Value.ref b :: As).toArray) free := by
  obtain ⟨⟨hrc, hrs, hfr, hlo, hws, hcw⟩, hcode, hini, hy, hlen, hl, hin, hse⟩ := cw
  have hK : Back l R p e below s args y 3 8 (PreOf R mc ms Pc) (PostOf Qc mc ms free) := va_backW (hh := hh) (bytes := bytes) (maxL := maxL) (ret := ret) hM hp.1 hrc hrs hfr hlo hws hcw (fun a' U hW => word_at hW (Or.inl (by first | rfl | simp [Cond.onTables, Cond.keeps, Cond.steady])) hini)
  obtain ⟨hx, hb, hml, ho, -⟩ := S
  obtain ⟨-, ⟨cellB, hcB, hoB, hclB⟩, hPc⟩ := hp
  intro T hT X
  obtain ⟨v, vm₁, ⟨U', l2, c2, s2⟩, hW₁, X', ⟨g', mk, t, L, e1, e2, hq, h1, hL, h2, h3⟩, st⟩ := vx_callVW X hx (C := C) (hh := hh) (bytes := bytes) (maxL := maxL) (ret := ret) ho hl hin hse hcode hy hK (by rw [hT]; exact hcB) hoB hclB hg (hsize.trans hml.symm) (argsL := As) (rest := rest) (fun sig h => hn.trans (hlen sig h)) hstack hW (by rw [hb]; exact hdg)
    (fun vm₁ hW₁ => ⟨hf.1, hf.2, hPc (T.setVm vm₁) hT hW₁⟩)
  dsimp only [Pt.U, Pt.locs, Pt.cells, Pt.slots] at X' e1 e2 h1 h2 h3 st
  subst h1; subst h2; subst h3
  exact ⟨v, (T.setVm vm₁).calling g' mk (Value.ref b :: As).toArray, t, U', L, hT, X', hL, e1, e2, hq, st⟩
section
variable {y : MethodName} {bytes cc : ByteArray} {maxL nL mc ms n index : Nat} {ret : Option FieldType} {ws : List Cond} {rm : Room} {Pc : Array Value → State → Prop} {Qc : Array Value → State → Outcome → State → Prop} {XC : String → State → State → Prop} {free : Addr → Prop} {Ts : List Cond} {own C : String} {b : Addr} {As rest : List Value} {g : JFrame}
theorem vx_runVX {hh : List (Nat × Nat × Nat × Nat)} (S : CallFix p m c cc nL s args Ts own) (hM : vx_Met l y ws rm Pc Qc XC mc ms free) (cw : vx_CVW R s args own C index y bytes maxL ret hh ws rm mc ms n) (hp : PreV s H C b Pc As)
    (hg : g.method = m) (hn : As.length = n) (hsize : g.locals.size = nL) (hstack : g.stack = As.reverse ++ .ref b :: rest) (hW : 2 * g.monitorRoom + (rest.map fun v => v.category).sum ≤ 8) (hdg : decode cc g.pc = .ok (.invokevirtual index, 3)) (hf : cells + mc ≤ R.cells ∧ slots + ms ≤ R.slots) :
    vx_Run p l e R s m args below meth c H locs cells slots mc ms g rest (Qc (Value.ref b :: As).toArray) XC free := by
  obtain ⟨⟨hrc, hrs, hfr, hlo, hws, hcw⟩, hcode, hini, hy, hlen, hl, hin, hse⟩ := cw
  have hK : vx_Back l R p e below s args y 3 8 (PreOf R mc ms Pc) (PostOf Qc mc ms free) (vx_Post XC mc ms free) := vx_backW (hh := hh) (bytes := bytes) (maxL := maxL) (ret := ret) hM hp.1 hrc hrs hfr hlo hws hcw (fun a' U hW => word_at hW (Or.inl (by first | rfl | simp [Cond.onTables, Cond.keeps, Cond.steady])) hini)
  obtain ⟨hx, hb, hml, ho, -⟩ := S
  obtain ⟨-, ⟨cellB, hcB, hoB, hclB⟩, hPc⟩ := hp
  intro T hT X
  rcases vx_callVX X hx (C := C) (hh := hh) (bytes := bytes) (maxL := maxL) (ret := ret) ho hl hin hse hcode hy hK (by rw [hT]; exact hcB) hoB hclB hg (hsize.trans hml.symm) (argsL := As) (rest := rest) (fun sig h => hn.trans (hlen sig h)) hstack hW (by rw [hb]; exact hdg)
    (fun vm₁ hW₁ => ⟨hf.1, hf.2, hPc (T.setVm vm₁) hT hW₁⟩) with ⟨v, vm₁, ⟨U', l2, c2, s2⟩, hW₁, X', ⟨g', mk, t, L, e1, e2, hq, h1, hL, h2, h3⟩, st⟩ | ⟨q, vm₁, ⟨U', l2, c2, s2⟩, hW₁, X', ⟨g', mk, t, L, E, ce, e1, e2, hq, hce, hcv, hcl, h1, hL, h2, h3⟩, st⟩
  · dsimp only [Pt.U, Pt.locs, Pt.cells, Pt.slots] at X' e1 e2 h1 h2 h3 st
    subst h1; subst h2; subst h3
    exact Or.inl ⟨v, (T.setVm vm₁).calling g' mk (Value.ref b :: As).toArray, t, U', L, hT, X', hL, e1, e2, hq, st⟩
  · dsimp only [Pt.U, Pt.locs, Pt.cells, Pt.slots] at X' e1 e2 h1 h2 h3 st hcl
    subst h1; subst h2; subst h3
    exact Or.inr ⟨q, (T.setVm vm₁).calling g' mk (Value.ref b :: As).toArray, t, U', L, E, ce, hT, X', hL, e1, e2, hq, hce, hcv, vx_cls hW₁ hcl, st⟩
theorem vx_runSX {hh : List (Nat × Nat × Nat × Nat)} (S : CallFix p m c cc nL s args Ts own) (hM : vx_Met l y ws rm Pc Qc XC mc ms free) (cw : vx_CSW R s args own index y bytes maxL ret hh ws rm mc ms n) (hp : PreS s H Pc As)
    (hg : g.method = m) (hn : As.length = n) (hsize : g.locals.size = nL) (hstack : g.stack = As.reverse ++ rest) (hW : 2 * g.monitorRoom + (rest.map fun v => v.category).sum ≤ 8) (hdg : decode cc g.pc = .ok (.invokestatic index, 3)) (hf : cells + mc ≤ R.cells ∧ slots + ms ≤ R.slots) :
    vx_Run p l e R s m args below meth c H locs cells slots mc ms g rest (Qc As.toArray) XC free := by
  obtain ⟨⟨hrc, hrs, hfr, hlo, hws, hcw⟩, hcode, hini, hy, hlen, hl, hstt⟩ := cw
  have hK : vx_Back l R p e below s args y 3 8 (PreOf R mc ms Pc) (PostOf Qc mc ms free) (vx_Post XC mc ms free) := vx_backW (hh := hh) (bytes := bytes) (maxL := maxL) (ret := ret) hM hp.1 hrc hrs hfr hlo hws hcw (fun a' U hW => word_at hW (Or.inl (by first | rfl | simp [Cond.onTables, Cond.keeps, Cond.steady])) hini)
  obtain ⟨hx, hb, hml, ho, -⟩ := S
  intro T hT X
  rcases vx_callSX X hx (hh := hh) (bytes := bytes) (maxL := maxL) (ret := ret) ho hl hstt hini hcode hy hK hg (hsize.trans hml.symm) (argsL := As) (rest := rest) (fun sig h => hn.trans (hlen sig h)) hstack hW (by rw [hb]; exact hdg)
    (fun vm₁ hW₁ => ⟨hf.1, hf.2, hp.2 (T.setVm vm₁) hT hW₁⟩) with ⟨v, vm₁, ⟨U', l2, c2, s2⟩, hW₁, X', ⟨g', mk, t, L, e1, e2, hq, h1, hL, h2, h3⟩, st⟩ | ⟨q, vm₁, ⟨U', l2, c2, s2⟩, hW₁, X', ⟨g', mk, t, L, E, ce, e1, e2, hq, hce, hcv, hcl, h1, hL, h2, h3⟩, st⟩
  · dsimp only [Pt.U, Pt.locs, Pt.cells, Pt.slots] at X' e1 e2 h1 h2 h3 st
    subst h1; subst h2; subst h3
    exact Or.inl ⟨v, (T.setVm vm₁).calling g' mk As.toArray, t, U', L, hT, X', hL, e1, e2, hq, st⟩
  · dsimp only [Pt.U, Pt.locs, Pt.cells, Pt.slots] at X' e1 e2 h1 h2 h3 st hcl
    subst h1; subst h2; subst h3
    exact Or.inr ⟨q, (T.setVm vm₁).calling g' mk As.toArray, t, U', L, E, ce, hT, X', hL, e1, e2, hq, hce, hcv, vx_cls hW₁ hcl, st⟩
end
end VXH
theorem vx_ofWH {l : Launch} {y : MethodName} {ws ws' : List Cond} {rm : Room} {Pc : Array Value → State → Prop} {Qc : Array Value → State → Outcome → State → Prop} {XC : String → State → State → Prop} {mc ms : Nat} {free : Addr → Prop} {cc : ByteArray} {maxL : Nat} {ret : Option FieldType} {hh : List (Nat × Nat × Nat × Nat)}
    (hy : plainName y.cls = true) (hw : ws = Cond.codeWith y cc maxL ret hh :: ws')
    (body : ∀ p e s m args below meth c s₁, BodyLoose p l y (headSpec ws rm) cc maxL ret e s m args below meth c s₁ → c.maxLocals = maxL → Pc args s →
      W p l e (headSpec ws rm).room s m args below meth c s.heap [] 0 0 (vx_MQ below Qc XC args s mc ms free) (entryFrame m args maxL)) : vx_Met l y ws rm Pc Qc XC mc ms free := by
  refine MetFree.of_bodyS (code := cc) (maxLocals := maxL) (ret := ret) hy ?_ ?_
  · intro args s m h hn
    obtain ⟨m9, meth, c, hn9, h1, h2, h3, h4, -, h5, h6, -⟩ := Cond.codeWith_spec (atoms_spec (ws := ws) h _ (by rw [hw]; exact List.mem_cons_self))
    cases hn.symm.trans hn9
    exact ⟨meth, c, h1, h2, h3, h4, h5, h6⟩
  · intro p e s m args below meth c s₁ B hml hP _
    have hh0 : s₁.heap = s.heap := by rw [B.state]; rfl
    obtain ⟨t, a1, o, b1, b2, b3⟩ := body p e s m args below meth c s₁ B hml hP s₁ hh0 (Stand.of_body B)
    exact ⟨t, o, a1, b1, b2, b3⟩
/-! ===== END ===== -/
end
section
def RX0 : String := "RoamLedger$Network"
def TX0 : u_T := fun k => match k with
  | 0 => ("RoamLedger$Network", "rates", "[I", true)
  | 1 => ("RoamLedger$Network", "trusts", "[I", true)
  | 2 => ("RoamLedger$Network", "debts", "[J", true)
  | _ => ("RoamLedger$Network", "weights", "[I", true)
def tyX0 : Nat → FieldType := fun k => match k with
  | 0 => .array .int
  | 1 => .array .int
  | 2 => .array .long
  | _ => .array .int
abbrev wsX00 : List Cond := u_ws RX0 TX0 4
theorem nmX0 : ∀ a, a < 4 → ∀ b, b < 4 → a ≠ b → (TX0 a).2.1 ≠ (TX0 b).2.1 := by decide +kernel
theorem tyX0_ok : ∀ k, k < 4 → parseFieldDescriptor (TX0 k).2.2.1 = some (tyX0 k) := by decide +kernel
abbrev cX0_init : ByteArray := prog_2_method_1_code
def yX0_init : MethodName := ⟨RX0, "<init>", "()V"⟩
abbrev cX0_rateOf : ByteArray := prog_2_method_2_code
def yX0_rateOf : MethodName := ⟨RX0, "rateOf", "(II)I"⟩
abbrev cX0_setLink : ByteArray := prog_2_method_3_code
def yX0_setLink : MethodName := ⟨RX0, "setLink", "(IIII)V"⟩
abbrev cX0_debtOf : ByteArray := prog_2_method_4_code
def yX0_debtOf : MethodName := ⟨RX0, "debtOf", "(II)J"⟩
abbrev cX0_addDebt : ByteArray := prog_2_method_5_code
def yX0_addDebt : MethodName := ⟨RX0, "addDebt", "(IIJ)V"⟩
abbrev cX0_isOpen : ByteArray := prog_2_method_6_code
def yX0_isOpen : MethodName := ⟨RX0, "isOpen", "(II)Z"⟩
abbrev cX0_isOpenAlong : ByteArray := prog_2_method_7_code
def yX0_isOpenAlong : MethodName := ⟨RX0, "isOpenAlong", "(LRoamLedger$Route;)Z"⟩
abbrev cX0_costOf : ByteArray := prog_2_method_8_code
def yX0_costOf : MethodName := ⟨RX0, "costOf", "(LRoamLedger$Route;)I"⟩
abbrev cX0_charge : ByteArray := prog_2_method_9_code
def yX0_charge : MethodName := ⟨RX0, "charge", "(LRoamLedger$Talk;)V"⟩
abbrev cX0_findBest : ByteArray := prog_2_method_10_code
def yX0_findBest : MethodName := ⟨RX0, "findBest", "(IILRoamLedger$Route;)Z"⟩
abbrev cX0_weighWaysTo : ByteArray := prog_2_method_11_code
def yX0_weighWaysTo : MethodName := ⟨RX0, "weighWaysTo", "(I)V"⟩
abbrev cX0_nextOnBest : ByteArray := prog_2_method_12_code
def yX0_nextOnBest : MethodName := ⟨RX0, "nextOnBest", "(I)I"⟩
abbrev cX0_weightOver : ByteArray := prog_2_method_13_code
def yX0_weightOver : MethodName := ⟨RX0, "weightOver", "(II)I"⟩
def RX1 : String := "RoamLedger$Route"
def TX1 : u_T := fun k => match k with
  | 0 => ("RoamLedger$Route", "carriers", "[I", true)
  | _ => ("RoamLedger$Route", "length", "I", false)
def tyX1 : Nat → FieldType := fun k => match k with
  | 0 => .array .int
  | _ => .int
abbrev wsX10 : List Cond := u_ws RX1 TX1 2
theorem nmX1 : ∀ a, a < 2 → ∀ b, b < 2 → a ≠ b → (TX1 a).2.1 ≠ (TX1 b).2.1 := by decide +kernel
theorem tyX1_ok : ∀ k, k < 2 → parseFieldDescriptor (TX1 k).2.2.1 = some (tyX1 k) := by decide +kernel
abbrev cX1_init : ByteArray := prog_3_method_1_code
def yX1_init : MethodName := ⟨RX1, "<init>", "()V"⟩
abbrev cX1_carrierAt : ByteArray := prog_3_method_2_code
def yX1_carrierAt : MethodName := ⟨RX1, "carrierAt", "(I)I"⟩
abbrev cX1_clear : ByteArray := prog_3_method_3_code
def yX1_clear : MethodName := ⟨RX1, "clear", "()V"⟩
abbrev cX1_add : ByteArray := prog_3_method_4_code
def yX1_add : MethodName := ⟨RX1, "add", "(I)V"⟩
abbrev cX1_become : ByteArray := prog_3_method_5_code
def yX1_become : MethodName := ⟨RX1, "become", "(LRoamLedger$Route;)V"⟩
def RX2 : String := "RoamLedger$Subscriber"
def TX2 : u_T := fun k => match k with
  | 0 => ("RoamLedger$Subscriber", "chain", "[I", true)
  | 1 => ("RoamLedger$Subscriber", "homeCount", "I", false)
  | 2 => ("RoamLedger$Subscriber", "balance", "I", false)
  | _ => ("RoamLedger$Subscriber", "bundle", "I", false)
def tyX2 : Nat → FieldType := fun k => match k with
  | 0 => .array .int
  | 1 => .int
  | 2 => .int
  | _ => .int
abbrev wsX20 : List Cond := u_ws RX2 TX2 4
theorem nmX2 : ∀ a, a < 4 → ∀ b, b < 4 → a ≠ b → (TX2 a).2.1 ≠ (TX2 b).2.1 := by decide +kernel
theorem tyX2_ok : ∀ k, k < 4 → parseFieldDescriptor (TX2 k).2.2.1 = some (tyX2 k) := by decide +kernel
abbrev cX2_init : ByteArray := prog_4_method_1_code
def yX2_init : MethodName := ⟨RX2, "<init>", "(III)V"⟩
abbrev cX2_homeAt : ByteArray := prog_4_method_2_code
def yX2_homeAt : MethodName := ⟨RX2, "homeAt", "(I)I"⟩
abbrev cX2_moveTo : ByteArray := prog_4_method_3_code
def yX2_moveTo : MethodName := ⟨RX2, "moveTo", "(I)Z"⟩
abbrev cX2_pay : ByteArray := prog_4_method_4_code
def yX2_pay : MethodName := ⟨RX2, "pay", "(II)Z"⟩
def RX3 : String := "RoamLedger$Talk"
def TX3 : u_T := fun k => match k with
  | 0 => ("RoamLedger$Talk", "caller", "LRoamLedger$Subscriber;", true)
  | 1 => ("RoamLedger$Talk", "called", "LRoamLedger$Subscriber;", true)
  | 2 => ("RoamLedger$Talk", "step", "I", true)
  | 3 => ("RoamLedger$Talk", "price", "I", true)
  | 4 => ("RoamLedger$Talk", "route", "LRoamLedger$Route;", true)
  | 5 => ("RoamLedger$Talk", "charges", "[J", true)
  | 6 => ("RoamLedger$Talk", "state", "I", false)
  | 7 => ("RoamLedger$Talk", "minutes", "I", false)
  | _ => ("RoamLedger$Talk", "moves", "I", false)
def tyX3 : Nat → FieldType := fun k => match k with
  | 0 => .object "RoamLedger$Subscriber"
  | 1 => .object "RoamLedger$Subscriber"
  | 2 => .int
  | 3 => .int
  | 4 => .object "RoamLedger$Route"
  | 5 => .array .long
  | 6 => .int
  | 7 => .int
  | _ => .int
abbrev wsX30 : List Cond := u_ws RX3 TX3 9
theorem nmX3 : ∀ a, a < 9 → ∀ b, b < 9 → a ≠ b → (TX3 a).2.1 ≠ (TX3 b).2.1 := by decide +kernel
theorem tyX3_ok : ∀ k, k < 9 → parseFieldDescriptor (TX3 k).2.2.1 = some (tyX3 k) := by decide +kernel
abbrev cX3_init : ByteArray := prog_5_method_1_code
def yX3_init : MethodName := ⟨RX3, "<init>", "(LRoamLedger$Subscriber;LRoamLedger$Subscriber;II)V"⟩
abbrev cX3_isStepDue : ByteArray := prog_5_method_2_code
def yX3_isStepDue : MethodName := ⟨RX3, "isStepDue", "()Z"⟩
abbrev cX3_addCharge : ByteArray := prog_5_method_3_code
def yX3_addCharge : MethodName := ⟨RX3, "addCharge", "(II)V"⟩
abbrev cX3_chargeOf : ByteArray := prog_5_method_4_code
def yX3_chargeOf : MethodName := ⟨RX3, "chargeOf", "(I)J"⟩
def RX4 : String := "RoamLedger"
def TX4 : u_T := fun k => match k with
  | 0 => ("RoamLedger", "steps", "[I", true)
  | 1 => ("RoamLedger", "prices", "[I", true)
  | 2 => ("RoamLedger", "network", "LRoamLedger$Network;", true)
  | 3 => ("RoamLedger", "subscribers", "[LRoamLedger$Subscriber;", true)
  | 4 => ("RoamLedger", "talks", "[LRoamLedger$Talk;", true)
  | 5 => ("RoamLedger", "asked", "LRoamLedger$Route;", true)
  | 6 => ("RoamLedger", "subscriberCount", "I", false)
  | _ => ("RoamLedger", "talkCount", "I", false)
def tyX4 : Nat → FieldType := fun k => match k with
  | 0 => .array .int
  | 1 => .array .int
  | 2 => .object "RoamLedger$Network"
  | 3 => .array (.object "RoamLedger$Subscriber")
  | 4 => .array (.object "RoamLedger$Talk")
  | 5 => .object "RoamLedger$Route"
  | 6 => .int
  | _ => .int
abbrev wsX40 : List Cond := u_ws RX4 TX4 8
theorem nmX4 : ∀ a, a < 8 → ∀ b, b < 8 → a ≠ b → (TX4 a).2.1 ≠ (TX4 b).2.1 := by decide +kernel
theorem tyX4_ok : ∀ k, k < 8 → parseFieldDescriptor (TX4 k).2.2.1 = some (tyX4 k) := by decide +kernel
abbrev cX4_init : ByteArray := prog_1_method_1_code
def yX4_init : MethodName := ⟨RX4, "<init>", "()V"⟩
abbrev cX4_tariff : ByteArray := prog_1_method_2_code
def yX4_tariff : MethodName := ⟨RX4, "tariff", "(III)I"⟩
abbrev cX4_link : ByteArray := prog_1_method_3_code
def yX4_link : MethodName := ⟨RX4, "link", "(IIII)Z"⟩
abbrev cX4_unlink : ByteArray := prog_1_method_4_code
def yX4_unlink : MethodName := ⟨RX4, "unlink", "(II)I"⟩
abbrev cX4_number : ByteArray := prog_1_method_5_code
def yX4_number : MethodName := ⟨RX4, "number", "(III)I"⟩
abbrev cX4_carryOver : ByteArray := prog_1_method_6_code
def yX4_carryOver : MethodName := ⟨RX4, "carryOver", "(II)I"⟩
abbrev cX4_home : ByteArray := prog_1_method_7_code
def yX4_home : MethodName := ⟨RX4, "home", "(II)I"⟩
abbrev cX4_topUp : ByteArray := prog_1_method_8_code
def yX4_topUp : MethodName := ⟨RX4, "topUp", "(III)I"⟩
abbrev cX4_balance : ByteArray := prog_1_method_9_code
def yX4_balance : MethodName := ⟨RX4, "balance", "(I)I"⟩
abbrev cX4_bundle : ByteArray := prog_1_method_10_code
def yX4_bundle : MethodName := ⟨RX4, "bundle", "(I)I"⟩
abbrev cX4_call : ByteArray := prog_1_method_11_code
def yX4_call : MethodName := ⟨RX4, "call", "(II)I"⟩
abbrev cX4_hangUp : ByteArray := prog_1_method_12_code
def yX4_hangUp : MethodName := ⟨RX4, "hangUp", "(I)I"⟩
abbrev cX4_pass : ByteArray := prog_1_method_13_code
def yX4_pass : MethodName := ⟨RX4, "pass", "(I)I"⟩
abbrev cX4_state : ByteArray := prog_1_method_14_code
def yX4_state : MethodName := ⟨RX4, "state", "(I)I"⟩
abbrev cX4_minutes : ByteArray := prog_1_method_15_code
def yX4_minutes : MethodName := ⟨RX4, "minutes", "(I)I"⟩
abbrev cX4_moved : ByteArray := prog_1_method_16_code
def yX4_moved : MethodName := ⟨RX4, "moved", "(I)I"⟩
abbrev cX4_way : ByteArray := prog_1_method_17_code
def yX4_way : MethodName := ⟨RX4, "way", "(II)I"⟩
abbrev cX4_cost : ByteArray := prog_1_method_18_code
def yX4_cost : MethodName := ⟨RX4, "cost", "(II)I"⟩
abbrev cX4_best : ByteArray := prog_1_method_19_code
def yX4_best : MethodName := ⟨RX4, "best", "(III)I"⟩
abbrev cX4_isBarred : ByteArray := prog_1_method_20_code
def yX4_isBarred : MethodName := ⟨RX4, "isBarred", "(II)Z"⟩
abbrev cX4_debt : ByteArray := prog_1_method_21_code
def yX4_debt : MethodName := ⟨RX4, "debt", "(II)J"⟩
abbrev cX4_charged : ByteArray := prog_1_method_22_code
def yX4_charged : MethodName := ⟨RX4, "charged", "(II)J"⟩
abbrev cX4_position : ByteArray := prog_1_method_23_code
def yX4_position : MethodName := ⟨RX4, "position", "(I)J"⟩
abbrev cX4_settle : ByteArray := prog_1_method_24_code
def yX4_settle : MethodName := ⟨RX4, "settle", "(II)J"⟩
abbrev cX4_isWithin : ByteArray := prog_1_method_25_code
def yX4_isWithin : MethodName := ⟨RX4, "isWithin", "(III)Z"⟩
abbrev cX4_isCarrier : ByteArray := prog_1_method_26_code
def yX4_isCarrier : MethodName := ⟨RX4, "isCarrier", "(I)Z"⟩
abbrev cX4_pairOf : ByteArray := prog_1_method_27_code
def yX4_pairOf : MethodName := ⟨RX4, "pairOf", "(II)I"⟩
abbrev cX4_demandCarrier : ByteArray := prog_1_method_28_code
def yX4_demandCarrier : MethodName := ⟨RX4, "demandCarrier", "(I)V"⟩
abbrev cX4_demandCredit : ByteArray := prog_1_method_29_code
def yX4_demandCredit : MethodName := ⟨RX4, "demandCredit", "(II)V"⟩
abbrev cX4_subscriberOf : ByteArray := prog_1_method_30_code
def yX4_subscriberOf : MethodName := ⟨RX4, "subscriberOf", "(I)LRoamLedger$Subscriber;"⟩
abbrev cX4_talkOf : ByteArray := prog_1_method_31_code
def yX4_talkOf : MethodName := ⟨RX4, "talkOf", "(I)LRoamLedger$Talk;"⟩
abbrev cX4_isTalking : ByteArray := prog_1_method_32_code
def yX4_isTalking : MethodName := ⟨RX4, "isTalking", "(LRoamLedger$Subscriber;)Z"⟩
abbrev cX4_newTalk : ByteArray := prog_1_method_33_code
def yX4_newTalk : MethodName := ⟨RX4, "newTalk", "(LRoamLedger$Subscriber;LRoamLedger$Subscriber;LRoamLedger$Route;)LRoamLedger$Talk;"⟩
abbrev cX4_runOneMinute : ByteArray := prog_1_method_34_code
def yX4_runOneMinute : MethodName := ⟨RX4, "runOneMinute", "(LRoamLedger$Talk;)Z"⟩
def RX5 : String := "RoamLedgerModel"
def TX5 : u_T := fun k => match k with
  | 0 => ("RoamLedgerModel", "thrown", "I", false)
  | 1 => ("RoamLedgerModel", "step", "[I", true)
  | 2 => ("RoamLedgerModel", "price", "[I", true)
  | 3 => ("RoamLedgerModel", "isLink", "[Z", true)
  | 4 => ("RoamLedgerModel", "rate", "[I", true)
  | 5 => ("RoamLedgerModel", "trust", "[I", true)
  | 6 => ("RoamLedgerModel", "charged", "[J", true)
  | 7 => ("RoamLedgerModel", "paid", "[J", true)
  | 8 => ("RoamLedgerModel", "numbers", "I", false)
  | 9 => ("RoamLedgerModel", "homes", "[I", true)
  | 10 => ("RoamLedgerModel", "chain", "[I", true)
  | 11 => ("RoamLedgerModel", "balance", "[I", true)
  | 12 => ("RoamLedgerModel", "bundle", "[I", true)
  | 13 => ("RoamLedgerModel", "calls", "I", false)
  | 14 => ("RoamLedgerModel", "caller", "[I", true)
  | 15 => ("RoamLedgerModel", "called", "[I", true)
  | 16 => ("RoamLedgerModel", "state", "[I", true)
  | 17 => ("RoamLedgerModel", "callStep", "[I", true)
  | 18 => ("RoamLedgerModel", "callPrice", "[I", true)
  | 19 => ("RoamLedgerModel", "run", "[I", true)
  | 20 => ("RoamLedgerModel", "moved", "[I", true)
  | 21 => ("RoamLedgerModel", "length", "[I", true)
  | 22 => ("RoamLedgerModel", "ways", "[I", true)
  | 23 => ("RoamLedgerModel", "bestLength", "I", false)
  | 24 => ("RoamLedgerModel", "bestCost", "I", false)
  | 25 => ("RoamLedgerModel", "best", "[I", true)
  | _ => ("RoamLedgerModel", "tried", "[I", true)
def tyX5 : Nat → FieldType := fun k => match k with
  | 0 => .int
  | 1 => .array .int
  | 2 => .array .int
  | 3 => .array .boolean
  | 4 => .array .int
  | 5 => .array .int
  | 6 => .array .long
  | 7 => .array .long
  | 8 => .int
  | 9 => .array .int
  | 10 => .array .int
  | 11 => .array .int
  | 12 => .array .int
  | 13 => .int
  | 14 => .array .int
  | 15 => .array .int
  | 16 => .array .int
  | 17 => .array .int
  | 18 => .array .int
  | 19 => .array .int
  | 20 => .array .int
  | 21 => .array .int
  | 22 => .array .int
  | 23 => .int
  | 24 => .int
  | 25 => .array .int
  | _ => .array .int
abbrev wsX50 : List Cond := u_ws RX5 TX5 27
theorem nmX5 : ∀ a, a < 27 → ∀ b, b < 27 → a ≠ b → (TX5 a).2.1 ≠ (TX5 b).2.1 := by decide +kernel
theorem tyX5_ok : ∀ k, k < 27 → parseFieldDescriptor (TX5 k).2.2.1 = some (tyX5 k) := by decide +kernel
abbrev cX5_init : ByteArray := prog_7_method_1_code
def yX5_init : MethodName := ⟨RX5, "<init>", "()V"⟩
abbrev cX5_thrown : ByteArray := prog_7_method_2_code
def yX5_thrown : MethodName := ⟨RX5, "thrown", "()I"⟩
abbrev cX5_isIn : ByteArray := prog_7_method_3_code
def yX5_isIn : MethodName := ⟨RX5, "isIn", "(III)Z"⟩
abbrev cX5_isCarrier : ByteArray := prog_7_method_4_code
def yX5_isCarrier : MethodName := ⟨RX5, "isCarrier", "(I)Z"⟩
abbrev cX5_areCarriers : ByteArray := prog_7_method_5_code
def yX5_areCarriers : MethodName := ⟨RX5, "areCarriers", "(II)Z"⟩
abbrev cX5_isNumber : ByteArray := prog_7_method_6_code
def yX5_isNumber : MethodName := ⟨RX5, "isNumber", "(I)Z"⟩
abbrev cX5_isCall : ByteArray := prog_7_method_7_code
def yX5_isCall : MethodName := ⟨RX5, "isCall", "(I)Z"⟩
abbrev cX5_homeOf : ByteArray := prog_7_method_8_code
def yX5_homeOf : MethodName := ⟨RX5, "homeOf", "(I)I"⟩
abbrev cX5_tariff : ByteArray := prog_7_method_9_code
def yX5_tariff : MethodName := ⟨RX5, "tariff", "(III)I"⟩
abbrev cX5_link : ByteArray := prog_7_method_10_code
def yX5_link : MethodName := ⟨RX5, "link", "(IIII)Z"⟩
abbrev cX5_unlink : ByteArray := prog_7_method_11_code
def yX5_unlink : MethodName := ⟨RX5, "unlink", "(II)I"⟩
abbrev cX5_number : ByteArray := prog_7_method_12_code
def yX5_number : MethodName := ⟨RX5, "number", "(III)I"⟩
abbrev cX5_carryOver : ByteArray := prog_7_method_13_code
def yX5_carryOver : MethodName := ⟨RX5, "carryOver", "(II)I"⟩
abbrev cX5_home : ByteArray := prog_7_method_14_code
def yX5_home : MethodName := ⟨RX5, "home", "(II)I"⟩
abbrev cX5_topUp : ByteArray := prog_7_method_15_code
def yX5_topUp : MethodName := ⟨RX5, "topUp", "(III)I"⟩
abbrev cX5_balance : ByteArray := prog_7_method_16_code
def yX5_balance : MethodName := ⟨RX5, "balance", "(I)I"⟩
abbrev cX5_bundle : ByteArray := prog_7_method_17_code
def yX5_bundle : MethodName := ⟨RX5, "bundle", "(I)I"⟩
abbrev cX5_debtOf : ByteArray := prog_7_method_18_code
def yX5_debtOf : MethodName := ⟨RX5, "debtOf", "(II)J"⟩
abbrev cX5_isShut : ByteArray := prog_7_method_19_code
def yX5_isShut : MethodName := ⟨RX5, "isShut", "(II)Z"⟩
abbrev cX5_canGo : ByteArray := prog_7_method_20_code
def yX5_canGo : MethodName := ⟨RX5, "canGo", "(I)Z"⟩
abbrev cX5_costOf : ByteArray := prog_7_method_21_code
def yX5_costOf : MethodName := ⟨RX5, "costOf", "(I)I"⟩
abbrev cX5_finds : ByteArray := prog_7_method_22_code
def yX5_finds : MethodName := ⟨RX5, "finds", "(II)Z"⟩
abbrev cX5_isBusy : ByteArray := prog_7_method_23_code
def yX5_isBusy : MethodName := ⟨RX5, "isBusy", "(I)Z"⟩
abbrev cX5_takesBest : ByteArray := prog_7_method_24_code
def yX5_takesBest : MethodName := ⟨RX5, "takesBest", "(I)V"⟩
abbrev cX5_call : ByteArray := prog_7_method_25_code
def yX5_call : MethodName := ⟨RX5, "call", "(II)I"⟩
abbrev cX5_hangUp : ByteArray := prog_7_method_26_code
def yX5_hangUp : MethodName := ⟨RX5, "hangUp", "(I)I"⟩
abbrev cX5_isStopped : ByteArray := prog_7_method_27_code
def yX5_isStopped : MethodName := ⟨RX5, "isStopped", "(I)Z"⟩
abbrev cX5_isPaid : ByteArray := prog_7_method_28_code
def yX5_isPaid : MethodName := ⟨RX5, "isPaid", "(I)Z"⟩
abbrev cX5_minute : ByteArray := prog_7_method_29_code
def yX5_minute : MethodName := ⟨RX5, "minute", "(I)V"⟩
abbrev cX5_pass : ByteArray := prog_7_method_30_code
def yX5_pass : MethodName := ⟨RX5, "pass", "(I)I"⟩
abbrev cX5_asks : ByteArray := prog_7_method_31_code
def yX5_asks : MethodName := ⟨RX5, "asks", "(I)Z"⟩
abbrev cX5_state : ByteArray := prog_7_method_32_code
def yX5_state : MethodName := ⟨RX5, "state", "(I)I"⟩
abbrev cX5_minutes : ByteArray := prog_7_method_33_code
def yX5_minutes : MethodName := ⟨RX5, "minutes", "(I)I"⟩
abbrev cX5_moved : ByteArray := prog_7_method_34_code
def yX5_moved : MethodName := ⟨RX5, "moved", "(I)I"⟩
abbrev cX5_way : ByteArray := prog_7_method_35_code
def yX5_way : MethodName := ⟨RX5, "way", "(II)I"⟩
abbrev cX5_cost : ByteArray := prog_7_method_36_code
def yX5_cost : MethodName := ⟨RX5, "cost", "(II)I"⟩
abbrev cX5_best : ByteArray := prog_7_method_37_code
def yX5_best : MethodName := ⟨RX5, "best", "(III)I"⟩
abbrev cX5_isBarred : ByteArray := prog_7_method_38_code
def yX5_isBarred : MethodName := ⟨RX5, "isBarred", "(II)Z"⟩
abbrev cX5_debt : ByteArray := prog_7_method_39_code
def yX5_debt : MethodName := ⟨RX5, "debt", "(II)J"⟩
abbrev cX5_charged : ByteArray := prog_7_method_40_code
def yX5_charged : MethodName := ⟨RX5, "charged", "(II)J"⟩
abbrev cX5_position : ByteArray := prog_7_method_41_code
def yX5_position : MethodName := ⟨RX5, "position", "(I)J"⟩
abbrev cX5_settle : ByteArray := prog_7_method_42_code
def yX5_settle : MethodName := ⟨RX5, "settle", "(II)J"⟩
def RJx145de : String := "java/io/Serializable"
def TJx145de : u_T := fun k => match k with
  | _ => ("", "", "", false)
def tyJx145de : Nat → FieldType := fun k => match k with
  | _ => .int
abbrev wsJx145de0 : List Cond := u_ws RJx145de TJx145de 0
theorem nmJx145de : ∀ a, a < 0 → ∀ b, b < 0 → a ≠ b → (TJx145de a).2.1 ≠ (TJx145de b).2.1 := by decide +kernel
theorem tyJx145de_ok : ∀ k, k < 0 → parseFieldDescriptor (TJx145de k).2.2.1 = some (tyJx145de k) := by decide +kernel
def RJ9 : String := "java/lang/Math"
def TJ9 : u_T := fun k => match k with
  | _ => ("", "", "", false)
def tyJ9 : Nat → FieldType := fun k => match k with
  | _ => .int
abbrev wsJ90 : List Cond := u_ws RJ9 TJ9 0
theorem nmJ9 : ∀ a, a < 0 → ∀ b, b < 0 → a ≠ b → (TJ9 a).2.1 ≠ (TJ9 b).2.1 := by decide +kernel
theorem tyJ9_ok : ∀ k, k < 0 → parseFieldDescriptor (TJ9 k).2.2.1 = some (tyJ9 k) := by decide +kernel
abbrev cJ9_min_7cf53 : ByteArray := prog_12_method_69_code
def yJ9_min_7cf53 : MethodName := ⟨RJ9, "min", "(II)I"⟩
def RJ0 : String := "java/lang/String"
def TJ0 : u_T := fun k => match k with
  | _ => ("", "", "", false)
def tyJ0 : Nat → FieldType := fun k => match k with
  | _ => .int
abbrev wsJ00 : List Cond := u_ws RJ0 TJ0 0
theorem nmJ0 : ∀ a, a < 0 → ∀ b, b < 0 → a ≠ b → (TJ0 a).2.1 ≠ (TJ0 b).2.1 := by decide +kernel
theorem tyJ0_ok : ∀ k, k < 0 → parseFieldDescriptor (TJ0 k).2.2.1 = some (tyJ0 k) := by decide +kernel
def RJ7 : String := "java/util/Arrays"
def TJ7 : u_T := fun k => match k with
  | _ => ("", "", "", false)
def tyJ7 : Nat → FieldType := fun k => match k with
  | _ => .int
abbrev wsJ70 : List Cond := u_ws RJ7 TJ7 0
theorem nmJ7 : ∀ a, a < 0 → ∀ b, b < 0 → a ≠ b → (TJ7 a).2.1 ≠ (TJ7 b).2.1 := by decide +kernel
theorem tyJ7_ok : ∀ k, k < 0 → parseFieldDescriptor (TJ7 k).2.2.1 = some (tyJ7 k) := by decide +kernel
abbrev cJ7_fill_53178 : ByteArray := prog_16_method_103_code
def yJ7_fill_53178 : MethodName := ⟨RJ7, "fill", "([II)V"⟩
def RL : String := "RoamLedgerLaw"
abbrev cL_tariff : ByteArray := method_3_code
def yL_tariff : MethodName := ⟨RL, "tariff", "(LRoamLedger;III[J)I"⟩
abbrev cL_link : ByteArray := method_4_code
def yL_link : MethodName := ⟨RL, "link", "(LRoamLedger;IIII[J)I"⟩
abbrev cL_unlink : ByteArray := method_5_code
def yL_unlink : MethodName := ⟨RL, "unlink", "(LRoamLedger;II[J)I"⟩
abbrev cL_number : ByteArray := method_6_code
def yL_number : MethodName := ⟨RL, "number", "(LRoamLedger;III[J)I"⟩
abbrev cL_carryOver : ByteArray := method_7_code
def yL_carryOver : MethodName := ⟨RL, "carryOver", "(LRoamLedger;II[J)I"⟩
abbrev cL_home : ByteArray := method_8_code
def yL_home : MethodName := ⟨RL, "home", "(LRoamLedger;II[J)I"⟩
abbrev cL_topUp : ByteArray := method_9_code
def yL_topUp : MethodName := ⟨RL, "topUp", "(LRoamLedger;III[J)I"⟩
abbrev cL_balance : ByteArray := method_10_code
def yL_balance : MethodName := ⟨RL, "balance", "(LRoamLedger;I[J)I"⟩
abbrev cL_bundle : ByteArray := method_11_code
def yL_bundle : MethodName := ⟨RL, "bundle", "(LRoamLedger;I[J)I"⟩
abbrev cL_call : ByteArray := method_12_code
def yL_call : MethodName := ⟨RL, "call", "(LRoamLedger;II[J)I"⟩
abbrev cL_hangUp : ByteArray := method_13_code
def yL_hangUp : MethodName := ⟨RL, "hangUp", "(LRoamLedger;I[J)I"⟩
abbrev cL_pass : ByteArray := method_14_code
def yL_pass : MethodName := ⟨RL, "pass", "(LRoamLedger;I[J)I"⟩
abbrev cL_state : ByteArray := method_15_code
def yL_state : MethodName := ⟨RL, "state", "(LRoamLedger;I[J)I"⟩
abbrev cL_minutes : ByteArray := method_16_code
def yL_minutes : MethodName := ⟨RL, "minutes", "(LRoamLedger;I[J)I"⟩
abbrev cL_moved : ByteArray := method_17_code
def yL_moved : MethodName := ⟨RL, "moved", "(LRoamLedger;I[J)I"⟩
abbrev cL_way : ByteArray := method_18_code
def yL_way : MethodName := ⟨RL, "way", "(LRoamLedger;II[J)I"⟩
abbrev cL_cost : ByteArray := method_19_code
def yL_cost : MethodName := ⟨RL, "cost", "(LRoamLedger;II[J)I"⟩
abbrev cL_best : ByteArray := method_20_code
def yL_best : MethodName := ⟨RL, "best", "(LRoamLedger;III[J)I"⟩
abbrev cL_isBarred : ByteArray := method_21_code
def yL_isBarred : MethodName := ⟨RL, "isBarred", "(LRoamLedger;II[J)I"⟩
abbrev cL_debt : ByteArray := method_22_code
def yL_debt : MethodName := ⟨RL, "debt", "(LRoamLedger;II[J)I"⟩
abbrev cL_charged : ByteArray := method_23_code
def yL_charged : MethodName := ⟨RL, "charged", "(LRoamLedger;II[J)I"⟩
abbrev cL_position : ByteArray := method_24_code
def yL_position : MethodName := ⟨RL, "position", "(LRoamLedger;I[J)I"⟩
abbrev cL_settle : ByteArray := method_25_code
def yL_settle : MethodName := ⟨RL, "settle", "(LRoamLedger;II[J)I"⟩
abbrev cL_law : ByteArray := code
def yL_law : MethodName := ⟨RL, "law", "([I)Z"⟩
abbrev vwCl : List vw_C := [(RX0, TX0, 4), (RX1, TX1, 2), (RX2, TX2, 4), (RX3, TX3, 9), (RX4, TX4, 8), (RX5, TX5, 27)]
end
section
theorem dX0_init_0 : decode cX0_init 0 = .ok (.aload_n 0, 1) := by decide +kernel
theorem dX0_init_1 : decode cX0_init 1 = .ok (.invokespecial 3, 3) := by decide +kernel
theorem dX0_init_4 : decode cX0_init 4 = .ok (.aload_n 0, 1) := by decide +kernel
theorem dX0_init_5 : decode cX0_init 5 = .ok (.bipush 25, 2) := by decide +kernel
theorem dX0_init_7 : decode cX0_init 7 = .ok (.newarray .int, 2) := by decide +kernel
theorem dX0_init_9 : decode cX0_init 9 = .ok (.putfield 9, 3) := by decide +kernel
theorem dX0_init_12 : decode cX0_init 12 = .ok (.aload_n 0, 1) := by decide +kernel
theorem dX0_init_13 : decode cX0_init 13 = .ok (.bipush 25, 2) := by decide +kernel
theorem dX0_init_15 : decode cX0_init 15 = .ok (.newarray .int, 2) := by decide +kernel
theorem dX0_init_17 : decode cX0_init 17 = .ok (.putfield 15, 3) := by decide +kernel
theorem dX0_init_20 : decode cX0_init 20 = .ok (.aload_n 0, 1) := by decide +kernel
theorem dX0_init_21 : decode cX0_init 21 = .ok (.bipush 25, 2) := by decide +kernel
theorem dX0_init_23 : decode cX0_init 23 = .ok (.newarray .long, 2) := by decide +kernel
theorem dX0_init_25 : decode cX0_init 25 = .ok (.putfield 18, 3) := by decide +kernel
theorem dX0_init_28 : decode cX0_init 28 = .ok (.aload_n 0, 1) := by decide +kernel
theorem dX0_init_29 : decode cX0_init 29 = .ok (.iconst 5, 1) := by decide +kernel
theorem dX0_init_30 : decode cX0_init 30 = .ok (.newarray .int, 2) := by decide +kernel
theorem dX0_init_32 : decode cX0_init 32 = .ok (.putfield 22, 3) := by decide +kernel
theorem dX0_init_35 : decode cX0_init 35 = .ok (.aload_n 0, 1) := by decide +kernel
theorem dX0_init_36 : decode cX0_init 36 = .ok (.getfield 9, 3) := by decide +kernel
theorem dX0_init_39 : decode cX0_init 39 = .ok (.iconst (-1), 1) := by decide +kernel
theorem dX0_init_40 : decode cX0_init 40 = .ok (.invokestatic 25, 3) := by decide +kernel
theorem dX0_init_43 : decode cX0_init 43 = .ok (.return_, 1) := by decide +kernel
theorem dX0_rateOf_0 : decode cX0_rateOf 0 = .ok (.iload_n 1, 1) := by decide +kernel
theorem dX0_rateOf_1 : decode cX0_rateOf 1 = .ok (.iload_n 2, 1) := by decide +kernel
theorem dX0_rateOf_2 : decode cX0_rateOf 2 = .ok (.invokestatic 31, 3) := by decide +kernel
theorem dX0_rateOf_5 : decode cX0_rateOf 5 = .ok (.istore_n 3, 1) := by decide +kernel
theorem dX0_rateOf_6 : decode cX0_rateOf 6 = .ok (.iload_n 3, 1) := by decide +kernel
theorem dX0_rateOf_7 : decode cX0_rateOf 7 = .ok (.ifCond .lt 18, 3) := by decide +kernel
theorem dX0_rateOf_10 : decode cX0_rateOf 10 = .ok (.iload_n 3, 1) := by decide +kernel
theorem dX0_rateOf_11 : decode cX0_rateOf 11 = .ok (.bipush 25, 2) := by decide +kernel
theorem dX0_rateOf_13 : decode cX0_rateOf 13 = .ok (.if_icmp .ge 12, 3) := by decide +kernel
theorem dX0_rateOf_16 : decode cX0_rateOf 16 = .ok (.aload_n 0, 1) := by decide +kernel
theorem dX0_rateOf_17 : decode cX0_rateOf 17 = .ok (.getfield 9, 3) := by decide +kernel
theorem dX0_rateOf_20 : decode cX0_rateOf 20 = .ok (.iload_n 3, 1) := by decide +kernel
theorem dX0_rateOf_21 : decode cX0_rateOf 21 = .ok (.iaload, 1) := by decide +kernel
theorem dX0_rateOf_22 : decode cX0_rateOf 22 = .ok (.goto 4, 3) := by decide +kernel
theorem dX0_rateOf_25 : decode cX0_rateOf 25 = .ok (.iconst (-1), 1) := by decide +kernel
theorem dX0_rateOf_26 : decode cX0_rateOf 26 = .ok (.ireturn, 1) := by decide +kernel
theorem dX0_setLink_0 : decode cX0_setLink 0 = .ok (.iload_n 1, 1) := by decide +kernel
theorem dX0_setLink_1 : decode cX0_setLink 1 = .ok (.iload_n 2, 1) := by decide +kernel
theorem dX0_setLink_2 : decode cX0_setLink 2 = .ok (.invokestatic 31, 3) := by decide +kernel
theorem dX0_setLink_5 : decode cX0_setLink 5 = .ok (.istore 5, 2) := by decide +kernel
theorem dX0_setLink_7 : decode cX0_setLink 7 = .ok (.iload 5, 2) := by decide +kernel
theorem dX0_setLink_9 : decode cX0_setLink 9 = .ok (.ifCond .lt 27, 3) := by decide +kernel
theorem dX0_setLink_12 : decode cX0_setLink 12 = .ok (.iload 5, 2) := by decide +kernel
theorem dX0_setLink_14 : decode cX0_setLink 14 = .ok (.bipush 25, 2) := by decide +kernel
theorem dX0_setLink_16 : decode cX0_setLink 16 = .ok (.if_icmp .ge 20, 3) := by decide +kernel
theorem dX0_setLink_19 : decode cX0_setLink 19 = .ok (.aload_n 0, 1) := by decide +kernel
theorem dX0_setLink_20 : decode cX0_setLink 20 = .ok (.getfield 9, 3) := by decide +kernel
theorem dX0_setLink_23 : decode cX0_setLink 23 = .ok (.iload 5, 2) := by decide +kernel
theorem dX0_setLink_25 : decode cX0_setLink 25 = .ok (.iload_n 3, 1) := by decide +kernel
theorem dX0_setLink_26 : decode cX0_setLink 26 = .ok (.iastore, 1) := by decide +kernel
theorem dX0_setLink_27 : decode cX0_setLink 27 = .ok (.aload_n 0, 1) := by decide +kernel
theorem dX0_setLink_28 : decode cX0_setLink 28 = .ok (.getfield 15, 3) := by decide +kernel
theorem dX0_setLink_31 : decode cX0_setLink 31 = .ok (.iload 5, 2) := by decide +kernel
theorem dX0_setLink_33 : decode cX0_setLink 33 = .ok (.iload 4, 2) := by decide +kernel
theorem dX0_setLink_35 : decode cX0_setLink 35 = .ok (.iastore, 1) := by decide +kernel
theorem dX0_setLink_36 : decode cX0_setLink 36 = .ok (.return_, 1) := by decide +kernel
theorem dX0_debtOf_0 : decode cX0_debtOf 0 = .ok (.iload_n 1, 1) := by decide +kernel
theorem dX0_debtOf_1 : decode cX0_debtOf 1 = .ok (.iload_n 2, 1) := by decide +kernel
theorem dX0_debtOf_2 : decode cX0_debtOf 2 = .ok (.invokestatic 31, 3) := by decide +kernel
theorem dX0_debtOf_5 : decode cX0_debtOf 5 = .ok (.istore_n 3, 1) := by decide +kernel
theorem dX0_debtOf_6 : decode cX0_debtOf 6 = .ok (.iload_n 3, 1) := by decide +kernel
theorem dX0_debtOf_7 : decode cX0_debtOf 7 = .ok (.ifCond .lt 18, 3) := by decide +kernel
theorem dX0_debtOf_10 : decode cX0_debtOf 10 = .ok (.iload_n 3, 1) := by decide +kernel
theorem dX0_debtOf_11 : decode cX0_debtOf 11 = .ok (.bipush 25, 2) := by decide +kernel
theorem dX0_debtOf_13 : decode cX0_debtOf 13 = .ok (.if_icmp .ge 12, 3) := by decide +kernel
theorem dX0_debtOf_16 : decode cX0_debtOf 16 = .ok (.aload_n 0, 1) := by decide +kernel
theorem dX0_debtOf_17 : decode cX0_debtOf 17 = .ok (.getfield 18, 3) := by decide +kernel
theorem dX0_debtOf_20 : decode cX0_debtOf 20 = .ok (.iload_n 3, 1) := by decide +kernel
theorem dX0_debtOf_21 : decode cX0_debtOf 21 = .ok (.laload, 1) := by decide +kernel
theorem dX0_debtOf_22 : decode cX0_debtOf 22 = .ok (.goto 4, 3) := by decide +kernel
theorem dX0_debtOf_25 : decode cX0_debtOf 25 = .ok (.lconst 0, 1) := by decide +kernel
theorem dX0_debtOf_26 : decode cX0_debtOf 26 = .ok (.lreturn, 1) := by decide +kernel
theorem dX0_addDebt_0 : decode cX0_addDebt 0 = .ok (.iload_n 1, 1) := by decide +kernel
theorem dX0_addDebt_1 : decode cX0_addDebt 1 = .ok (.iload_n 2, 1) := by decide +kernel
theorem dX0_addDebt_2 : decode cX0_addDebt 2 = .ok (.invokestatic 31, 3) := by decide +kernel
theorem dX0_addDebt_5 : decode cX0_addDebt 5 = .ok (.istore 5, 2) := by decide +kernel
theorem dX0_addDebt_7 : decode cX0_addDebt 7 = .ok (.iload_n 2, 1) := by decide +kernel
theorem dX0_addDebt_8 : decode cX0_addDebt 8 = .ok (.iload_n 1, 1) := by decide +kernel
theorem dX0_addDebt_9 : decode cX0_addDebt 9 = .ok (.invokestatic 31, 3) := by decide +kernel
theorem dX0_addDebt_12 : decode cX0_addDebt 12 = .ok (.istore 6, 2) := by decide +kernel
theorem dX0_addDebt_14 : decode cX0_addDebt 14 = .ok (.iload 5, 2) := by decide +kernel
theorem dX0_addDebt_16 : decode cX0_addDebt 16 = .ok (.ifCond .lt 44, 3) := by decide +kernel
theorem dX0_addDebt_19 : decode cX0_addDebt 19 = .ok (.iload 5, 2) := by decide +kernel
theorem dX0_addDebt_21 : decode cX0_addDebt 21 = .ok (.bipush 25, 2) := by decide +kernel
theorem dX0_addDebt_23 : decode cX0_addDebt 23 = .ok (.if_icmp .ge 37, 3) := by decide +kernel
theorem dX0_addDebt_26 : decode cX0_addDebt 26 = .ok (.iload 6, 2) := by decide +kernel
theorem dX0_addDebt_28 : decode cX0_addDebt 28 = .ok (.ifCond .lt 32, 3) := by decide +kernel
theorem dX0_addDebt_31 : decode cX0_addDebt 31 = .ok (.iload 6, 2) := by decide +kernel
theorem dX0_addDebt_33 : decode cX0_addDebt 33 = .ok (.bipush 25, 2) := by decide +kernel
theorem dX0_addDebt_35 : decode cX0_addDebt 35 = .ok (.if_icmp .ge 25, 3) := by decide +kernel
theorem dX0_addDebt_38 : decode cX0_addDebt 38 = .ok (.aload_n 0, 1) := by decide +kernel
theorem dX0_addDebt_39 : decode cX0_addDebt 39 = .ok (.getfield 18, 3) := by decide +kernel
theorem dX0_addDebt_42 : decode cX0_addDebt 42 = .ok (.iload 5, 2) := by decide +kernel
theorem dX0_addDebt_44 : decode cX0_addDebt 44 = .ok (.dup2, 1) := by decide +kernel
theorem dX0_addDebt_45 : decode cX0_addDebt 45 = .ok (.laload, 1) := by decide +kernel
theorem dX0_addDebt_46 : decode cX0_addDebt 46 = .ok (.lload_n 3, 1) := by decide +kernel
theorem dX0_addDebt_47 : decode cX0_addDebt 47 = .ok (.ladd, 1) := by decide +kernel
theorem dX0_addDebt_48 : decode cX0_addDebt 48 = .ok (.lastore, 1) := by decide +kernel
theorem dX0_addDebt_49 : decode cX0_addDebt 49 = .ok (.aload_n 0, 1) := by decide +kernel
theorem dX0_addDebt_50 : decode cX0_addDebt 50 = .ok (.getfield 18, 3) := by decide +kernel
theorem dX0_addDebt_53 : decode cX0_addDebt 53 = .ok (.iload 6, 2) := by decide +kernel
theorem dX0_addDebt_55 : decode cX0_addDebt 55 = .ok (.dup2, 1) := by decide +kernel
theorem dX0_addDebt_56 : decode cX0_addDebt 56 = .ok (.laload, 1) := by decide +kernel
theorem dX0_addDebt_57 : decode cX0_addDebt 57 = .ok (.lload_n 3, 1) := by decide +kernel
theorem dX0_addDebt_58 : decode cX0_addDebt 58 = .ok (.lsub, 1) := by decide +kernel
theorem dX0_addDebt_59 : decode cX0_addDebt 59 = .ok (.lastore, 1) := by decide +kernel
theorem dX0_addDebt_60 : decode cX0_addDebt 60 = .ok (.return_, 1) := by decide +kernel
theorem dX0_isOpen_0 : decode cX0_isOpen 0 = .ok (.iload_n 1, 1) := by decide +kernel
theorem dX0_isOpen_1 : decode cX0_isOpen 1 = .ok (.iload_n 2, 1) := by decide +kernel
theorem dX0_isOpen_2 : decode cX0_isOpen 2 = .ok (.invokestatic 31, 3) := by decide +kernel
theorem dX0_isOpen_5 : decode cX0_isOpen 5 = .ok (.istore_n 3, 1) := by decide +kernel
theorem dX0_isOpen_6 : decode cX0_isOpen 6 = .ok (.iload_n 3, 1) := by decide +kernel
theorem dX0_isOpen_7 : decode cX0_isOpen 7 = .ok (.ifCond .lt 48, 3) := by decide +kernel
theorem dX0_isOpen_10 : decode cX0_isOpen 10 = .ok (.iload_n 3, 1) := by decide +kernel
theorem dX0_isOpen_11 : decode cX0_isOpen 11 = .ok (.bipush 25, 2) := by decide +kernel
theorem dX0_isOpen_13 : decode cX0_isOpen 13 = .ok (.if_icmp .ge 42, 3) := by decide +kernel
theorem dX0_isOpen_16 : decode cX0_isOpen 16 = .ok (.aload_n 0, 1) := by decide +kernel
theorem dX0_isOpen_17 : decode cX0_isOpen 17 = .ok (.getfield 9, 3) := by decide +kernel
theorem dX0_isOpen_20 : decode cX0_isOpen 20 = .ok (.iload_n 3, 1) := by decide +kernel
theorem dX0_isOpen_21 : decode cX0_isOpen 21 = .ok (.iaload, 1) := by decide +kernel
theorem dX0_isOpen_22 : decode cX0_isOpen 22 = .ok (.iconst (-1), 1) := by decide +kernel
theorem dX0_isOpen_23 : decode cX0_isOpen 23 = .ok (.if_icmp .eq 32, 3) := by decide +kernel
theorem dX0_isOpen_26 : decode cX0_isOpen 26 = .ok (.aload_n 0, 1) := by decide +kernel
theorem dX0_isOpen_27 : decode cX0_isOpen 27 = .ok (.getfield 18, 3) := by decide +kernel
theorem dX0_isOpen_30 : decode cX0_isOpen 30 = .ok (.iload_n 3, 1) := by decide +kernel
theorem dX0_isOpen_31 : decode cX0_isOpen 31 = .ok (.laload, 1) := by decide +kernel
theorem dX0_isOpen_32 : decode cX0_isOpen 32 = .ok (.aload_n 0, 1) := by decide +kernel
theorem dX0_isOpen_33 : decode cX0_isOpen 33 = .ok (.getfield 9, 3) := by decide +kernel
theorem dX0_isOpen_36 : decode cX0_isOpen 36 = .ok (.iload_n 3, 1) := by decide +kernel
theorem dX0_isOpen_37 : decode cX0_isOpen 37 = .ok (.iaload, 1) := by decide +kernel
theorem dX0_isOpen_38 : decode cX0_isOpen 38 = .ok (.i2l, 1) := by decide +kernel
theorem dX0_isOpen_39 : decode cX0_isOpen 39 = .ok (.ladd, 1) := by decide +kernel
theorem dX0_isOpen_40 : decode cX0_isOpen 40 = .ok (.aload_n 0, 1) := by decide +kernel
theorem dX0_isOpen_41 : decode cX0_isOpen 41 = .ok (.getfield 15, 3) := by decide +kernel
theorem dX0_isOpen_44 : decode cX0_isOpen 44 = .ok (.iload_n 3, 1) := by decide +kernel
theorem dX0_isOpen_45 : decode cX0_isOpen 45 = .ok (.iaload, 1) := by decide +kernel
theorem dX0_isOpen_46 : decode cX0_isOpen 46 = .ok (.i2l, 1) := by decide +kernel
theorem dX0_isOpen_47 : decode cX0_isOpen 47 = .ok (.lcmp, 1) := by decide +kernel
theorem dX0_isOpen_48 : decode cX0_isOpen 48 = .ok (.ifCond .gt 7, 3) := by decide +kernel
theorem dX0_isOpen_51 : decode cX0_isOpen 51 = .ok (.iconst 1, 1) := by decide +kernel
theorem dX0_isOpen_52 : decode cX0_isOpen 52 = .ok (.goto 4, 3) := by decide +kernel
theorem dX0_isOpen_55 : decode cX0_isOpen 55 = .ok (.iconst 0, 1) := by decide +kernel
theorem dX0_isOpen_56 : decode cX0_isOpen 56 = .ok (.ireturn, 1) := by decide +kernel
theorem dX0_isOpenAlong_0 : decode cX0_isOpenAlong 0 = .ok (.iconst 1, 1) := by decide +kernel
theorem dX0_isOpenAlong_1 : decode cX0_isOpenAlong 1 = .ok (.istore_n 2, 1) := by decide +kernel
theorem dX0_isOpenAlong_2 : decode cX0_isOpenAlong 2 = .ok (.iload_n 2, 1) := by decide +kernel
theorem dX0_isOpenAlong_3 : decode cX0_isOpenAlong 3 = .ok (.aload_n 1, 1) := by decide +kernel
theorem dX0_isOpenAlong_4 : decode cX0_isOpenAlong 4 = .ok (.getfield 35, 3) := by decide +kernel
theorem dX0_isOpenAlong_7 : decode cX0_isOpenAlong 7 = .ok (.if_icmp .ge 30, 3) := by decide +kernel
theorem dX0_isOpenAlong_10 : decode cX0_isOpenAlong 10 = .ok (.aload_n 0, 1) := by decide +kernel
theorem dX0_isOpenAlong_11 : decode cX0_isOpenAlong 11 = .ok (.aload_n 1, 1) := by decide +kernel
theorem dX0_isOpenAlong_12 : decode cX0_isOpenAlong 12 = .ok (.iload_n 2, 1) := by decide +kernel
theorem dX0_isOpenAlong_13 : decode cX0_isOpenAlong 13 = .ok (.iconst 1, 1) := by decide +kernel
theorem dX0_isOpenAlong_14 : decode cX0_isOpenAlong 14 = .ok (.isub, 1) := by decide +kernel
theorem dX0_isOpenAlong_15 : decode cX0_isOpenAlong 15 = .ok (.invokevirtual 41, 3) := by decide +kernel
theorem dX0_isOpenAlong_18 : decode cX0_isOpenAlong 18 = .ok (.aload_n 1, 1) := by decide +kernel
theorem dX0_isOpenAlong_19 : decode cX0_isOpenAlong 19 = .ok (.iload_n 2, 1) := by decide +kernel
theorem dX0_isOpenAlong_20 : decode cX0_isOpenAlong 20 = .ok (.invokevirtual 41, 3) := by decide +kernel
theorem dX0_isOpenAlong_23 : decode cX0_isOpenAlong 23 = .ok (.invokevirtual 45, 3) := by decide +kernel
theorem dX0_isOpenAlong_26 : decode cX0_isOpenAlong 26 = .ok (.ifCond .ne 5, 3) := by decide +kernel
theorem dX0_isOpenAlong_29 : decode cX0_isOpenAlong 29 = .ok (.iconst 0, 1) := by decide +kernel
theorem dX0_isOpenAlong_30 : decode cX0_isOpenAlong 30 = .ok (.ireturn, 1) := by decide +kernel
theorem dX0_isOpenAlong_31 : decode cX0_isOpenAlong 31 = .ok (.iinc 2 1, 3) := by decide +kernel
theorem dX0_isOpenAlong_34 : decode cX0_isOpenAlong 34 = .ok (.goto (-32), 3) := by decide +kernel
theorem dX0_isOpenAlong_37 : decode cX0_isOpenAlong 37 = .ok (.iconst 1, 1) := by decide +kernel
theorem dX0_isOpenAlong_38 : decode cX0_isOpenAlong 38 = .ok (.ireturn, 1) := by decide +kernel
theorem dX0_costOf_0 : decode cX0_costOf 0 = .ok (.iconst 0, 1) := by decide +kernel
theorem dX0_costOf_1 : decode cX0_costOf 1 = .ok (.istore_n 2, 1) := by decide +kernel
theorem dX0_costOf_2 : decode cX0_costOf 2 = .ok (.iconst 1, 1) := by decide +kernel
theorem dX0_costOf_3 : decode cX0_costOf 3 = .ok (.istore_n 3, 1) := by decide +kernel
theorem dX0_costOf_4 : decode cX0_costOf 4 = .ok (.iload_n 3, 1) := by decide +kernel
theorem dX0_costOf_5 : decode cX0_costOf 5 = .ok (.aload_n 1, 1) := by decide +kernel
theorem dX0_costOf_6 : decode cX0_costOf 6 = .ok (.getfield 35, 3) := by decide +kernel
theorem dX0_costOf_9 : decode cX0_costOf 9 = .ok (.if_icmp .ge 28, 3) := by decide +kernel
theorem dX0_costOf_12 : decode cX0_costOf 12 = .ok (.iload_n 2, 1) := by decide +kernel
theorem dX0_costOf_13 : decode cX0_costOf 13 = .ok (.aload_n 0, 1) := by decide +kernel
theorem dX0_costOf_14 : decode cX0_costOf 14 = .ok (.aload_n 1, 1) := by decide +kernel
theorem dX0_costOf_15 : decode cX0_costOf 15 = .ok (.iload_n 3, 1) := by decide +kernel
theorem dX0_costOf_16 : decode cX0_costOf 16 = .ok (.iconst 1, 1) := by decide +kernel
theorem dX0_costOf_17 : decode cX0_costOf 17 = .ok (.isub, 1) := by decide +kernel
theorem dX0_costOf_18 : decode cX0_costOf 18 = .ok (.invokevirtual 41, 3) := by decide +kernel
theorem dX0_costOf_21 : decode cX0_costOf 21 = .ok (.aload_n 1, 1) := by decide +kernel
theorem dX0_costOf_22 : decode cX0_costOf 22 = .ok (.iload_n 3, 1) := by decide +kernel
theorem dX0_costOf_23 : decode cX0_costOf 23 = .ok (.invokevirtual 41, 3) := by decide +kernel
theorem dX0_costOf_26 : decode cX0_costOf 26 = .ok (.invokevirtual 49, 3) := by decide +kernel
theorem dX0_costOf_29 : decode cX0_costOf 29 = .ok (.iadd, 1) := by decide +kernel
theorem dX0_costOf_30 : decode cX0_costOf 30 = .ok (.istore_n 2, 1) := by decide +kernel
theorem dX0_costOf_31 : decode cX0_costOf 31 = .ok (.iinc 3 1, 3) := by decide +kernel
theorem dX0_costOf_34 : decode cX0_costOf 34 = .ok (.goto (-30), 3) := by decide +kernel
theorem dX0_costOf_37 : decode cX0_costOf 37 = .ok (.iload_n 2, 1) := by decide +kernel
theorem dX0_costOf_38 : decode cX0_costOf 38 = .ok (.ireturn, 1) := by decide +kernel
theorem dX0_charge_0 : decode cX0_charge 0 = .ok (.iconst 1, 1) := by decide +kernel
theorem dX0_charge_1 : decode cX0_charge 1 = .ok (.istore_n 2, 1) := by decide +kernel
theorem dX0_charge_2 : decode cX0_charge 2 = .ok (.iload_n 2, 1) := by decide +kernel
theorem dX0_charge_3 : decode cX0_charge 3 = .ok (.aload_n 1, 1) := by decide +kernel
theorem dX0_charge_4 : decode cX0_charge 4 = .ok (.getfield 52, 3) := by decide +kernel
theorem dX0_charge_7 : decode cX0_charge 7 = .ok (.getfield 35, 3) := by decide +kernel
theorem dX0_charge_10 : decode cX0_charge 10 = .ok (.if_icmp .ge 61, 3) := by decide +kernel
theorem dX0_charge_13 : decode cX0_charge 13 = .ok (.aload_n 1, 1) := by decide +kernel
theorem dX0_charge_14 : decode cX0_charge 14 = .ok (.getfield 52, 3) := by decide +kernel
theorem dX0_charge_17 : decode cX0_charge 17 = .ok (.iload_n 2, 1) := by decide +kernel
theorem dX0_charge_18 : decode cX0_charge 18 = .ok (.iconst 1, 1) := by decide +kernel
theorem dX0_charge_19 : decode cX0_charge 19 = .ok (.isub, 1) := by decide +kernel
theorem dX0_charge_20 : decode cX0_charge 20 = .ok (.invokevirtual 41, 3) := by decide +kernel
theorem dX0_charge_23 : decode cX0_charge 23 = .ok (.istore_n 3, 1) := by decide +kernel
theorem dX0_charge_24 : decode cX0_charge 24 = .ok (.aload_n 1, 1) := by decide +kernel
theorem dX0_charge_25 : decode cX0_charge 25 = .ok (.getfield 52, 3) := by decide +kernel
theorem dX0_charge_28 : decode cX0_charge 28 = .ok (.iload_n 2, 1) := by decide +kernel
theorem dX0_charge_29 : decode cX0_charge 29 = .ok (.invokevirtual 41, 3) := by decide +kernel
theorem dX0_charge_32 : decode cX0_charge 32 = .ok (.istore 4, 2) := by decide +kernel
theorem dX0_charge_34 : decode cX0_charge 34 = .ok (.aload_n 0, 1) := by decide +kernel
theorem dX0_charge_35 : decode cX0_charge 35 = .ok (.iload_n 3, 1) := by decide +kernel
theorem dX0_charge_36 : decode cX0_charge 36 = .ok (.iload 4, 2) := by decide +kernel
theorem dX0_charge_38 : decode cX0_charge 38 = .ok (.invokevirtual 49, 3) := by decide +kernel
theorem dX0_charge_41 : decode cX0_charge 41 = .ok (.istore 5, 2) := by decide +kernel
theorem dX0_charge_43 : decode cX0_charge 43 = .ok (.aload_n 0, 1) := by decide +kernel
theorem dX0_charge_44 : decode cX0_charge 44 = .ok (.iload_n 3, 1) := by decide +kernel
theorem dX0_charge_45 : decode cX0_charge 45 = .ok (.iload 4, 2) := by decide +kernel
theorem dX0_charge_47 : decode cX0_charge 47 = .ok (.iload 5, 2) := by decide +kernel
theorem dX0_charge_49 : decode cX0_charge 49 = .ok (.i2l, 1) := by decide +kernel
theorem dX0_charge_50 : decode cX0_charge 50 = .ok (.invokevirtual 58, 3) := by decide +kernel
theorem dX0_charge_53 : decode cX0_charge 53 = .ok (.aload_n 1, 1) := by decide +kernel
theorem dX0_charge_54 : decode cX0_charge 54 = .ok (.iload_n 3, 1) := by decide +kernel
theorem dX0_charge_55 : decode cX0_charge 55 = .ok (.iload 4, 2) := by decide +kernel
theorem dX0_charge_57 : decode cX0_charge 57 = .ok (.invokestatic 31, 3) := by decide +kernel
theorem dX0_charge_60 : decode cX0_charge 60 = .ok (.iload 5, 2) := by decide +kernel
theorem dX0_charge_62 : decode cX0_charge 62 = .ok (.invokevirtual 62, 3) := by decide +kernel
theorem dX0_charge_65 : decode cX0_charge 65 = .ok (.iinc 2 1, 3) := by decide +kernel
theorem dX0_charge_68 : decode cX0_charge 68 = .ok (.goto (-66), 3) := by decide +kernel
theorem dX0_charge_71 : decode cX0_charge 71 = .ok (.return_, 1) := by decide +kernel
theorem dX0_findBest_0 : decode cX0_findBest 0 = .ok (.iload_n 1, 1) := by decide +kernel
theorem dX0_findBest_1 : decode cX0_findBest 1 = .ok (.invokestatic 66, 3) := by decide +kernel
theorem dX0_findBest_4 : decode cX0_findBest 4 = .ok (.ifCond .eq 10, 3) := by decide +kernel
theorem dX0_findBest_7 : decode cX0_findBest 7 = .ok (.iload_n 2, 1) := by decide +kernel
theorem dX0_findBest_8 : decode cX0_findBest 8 = .ok (.invokestatic 66, 3) := by decide +kernel
theorem dX0_findBest_11 : decode cX0_findBest 11 = .ok (.ifCond .ne 5, 3) := by decide +kernel
theorem dX0_findBest_14 : decode cX0_findBest 14 = .ok (.iconst 0, 1) := by decide +kernel
theorem dX0_findBest_15 : decode cX0_findBest 15 = .ok (.ireturn, 1) := by decide +kernel
theorem dX0_findBest_16 : decode cX0_findBest 16 = .ok (.aload_n 0, 1) := by decide +kernel
theorem dX0_findBest_17 : decode cX0_findBest 17 = .ok (.iload_n 2, 1) := by decide +kernel
theorem dX0_findBest_18 : decode cX0_findBest 18 = .ok (.invokevirtual 70, 3) := by decide +kernel
theorem dX0_findBest_21 : decode cX0_findBest 21 = .ok (.aload_n 0, 1) := by decide +kernel
theorem dX0_findBest_22 : decode cX0_findBest 22 = .ok (.getfield 22, 3) := by decide +kernel
theorem dX0_findBest_25 : decode cX0_findBest 25 = .ok (.iload_n 1, 1) := by decide +kernel
theorem dX0_findBest_26 : decode cX0_findBest 26 = .ok (.iaload, 1) := by decide +kernel
theorem dX0_findBest_27 : decode cX0_findBest 27 = .ok (.ldc 74, 2) := by decide +kernel
theorem dX0_findBest_29 : decode cX0_findBest 29 = .ok (.if_icmp .lt 5, 3) := by decide +kernel
theorem dX0_findBest_32 : decode cX0_findBest 32 = .ok (.iconst 0, 1) := by decide +kernel
theorem dX0_findBest_33 : decode cX0_findBest 33 = .ok (.ireturn, 1) := by decide +kernel
theorem dX0_findBest_34 : decode cX0_findBest 34 = .ok (.aload_n 3, 1) := by decide +kernel
theorem dX0_findBest_35 : decode cX0_findBest 35 = .ok (.invokevirtual 75, 3) := by decide +kernel
theorem dX0_findBest_38 : decode cX0_findBest 38 = .ok (.aload_n 3, 1) := by decide +kernel
theorem dX0_findBest_39 : decode cX0_findBest 39 = .ok (.iload_n 1, 1) := by decide +kernel
theorem dX0_findBest_40 : decode cX0_findBest 40 = .ok (.invokevirtual 78, 3) := by decide +kernel
theorem dX0_findBest_43 : decode cX0_findBest 43 = .ok (.iload_n 1, 1) := by decide +kernel
theorem dX0_findBest_44 : decode cX0_findBest 44 = .ok (.istore 4, 2) := by decide +kernel
theorem dX0_findBest_46 : decode cX0_findBest 46 = .ok (.iconst 1, 1) := by decide +kernel
theorem dX0_findBest_47 : decode cX0_findBest 47 = .ok (.istore 5, 2) := by decide +kernel
theorem dX0_findBest_49 : decode cX0_findBest 49 = .ok (.iload 5, 2) := by decide +kernel
theorem dX0_findBest_51 : decode cX0_findBest 51 = .ok (.iconst 5, 1) := by decide +kernel
theorem dX0_findBest_52 : decode cX0_findBest 52 = .ok (.if_icmp .ge 29, 3) := by decide +kernel
theorem dX0_findBest_55 : decode cX0_findBest 55 = .ok (.iload 4, 2) := by decide +kernel
theorem dX0_findBest_57 : decode cX0_findBest 57 = .ok (.iload_n 2, 1) := by decide +kernel
theorem dX0_findBest_58 : decode cX0_findBest 58 = .ok (.if_icmp .eq 23, 3) := by decide +kernel
theorem dX0_findBest_61 : decode cX0_findBest 61 = .ok (.aload_n 0, 1) := by decide +kernel
theorem dX0_findBest_62 : decode cX0_findBest 62 = .ok (.iload 4, 2) := by decide +kernel
theorem dX0_findBest_64 : decode cX0_findBest 64 = .ok (.invokevirtual 81, 3) := by decide +kernel
theorem dX0_findBest_67 : decode cX0_findBest 67 = .ok (.istore 4, 2) := by decide +kernel
theorem dX0_findBest_69 : decode cX0_findBest 69 = .ok (.aload_n 3, 1) := by decide +kernel
theorem dX0_findBest_70 : decode cX0_findBest 70 = .ok (.iload 4, 2) := by decide +kernel
theorem dX0_findBest_72 : decode cX0_findBest 72 = .ok (.invokevirtual 78, 3) := by decide +kernel
theorem dX0_findBest_75 : decode cX0_findBest 75 = .ok (.iinc 5 1, 3) := by decide +kernel
theorem dX0_findBest_78 : decode cX0_findBest 78 = .ok (.goto (-29), 3) := by decide +kernel
theorem dX0_findBest_81 : decode cX0_findBest 81 = .ok (.iconst 1, 1) := by decide +kernel
theorem dX0_findBest_82 : decode cX0_findBest 82 = .ok (.ireturn, 1) := by decide +kernel
theorem dX0_weighWaysTo_0 : decode cX0_weighWaysTo 0 = .ok (.aload_n 0, 1) := by decide +kernel
theorem dX0_weighWaysTo_1 : decode cX0_weighWaysTo 1 = .ok (.getfield 22, 3) := by decide +kernel
theorem dX0_weighWaysTo_4 : decode cX0_weighWaysTo 4 = .ok (.ldc 74, 2) := by decide +kernel
theorem dX0_weighWaysTo_6 : decode cX0_weighWaysTo 6 = .ok (.invokestatic 25, 3) := by decide +kernel
theorem dX0_weighWaysTo_9 : decode cX0_weighWaysTo 9 = .ok (.iload_n 1, 1) := by decide +kernel
theorem dX0_weighWaysTo_10 : decode cX0_weighWaysTo 10 = .ok (.invokestatic 66, 3) := by decide +kernel
theorem dX0_weighWaysTo_13 : decode cX0_weighWaysTo 13 = .ok (.ifCond .eq 10, 3) := by decide +kernel
theorem dX0_weighWaysTo_16 : decode cX0_weighWaysTo 16 = .ok (.aload_n 0, 1) := by decide +kernel
theorem dX0_weighWaysTo_17 : decode cX0_weighWaysTo 17 = .ok (.getfield 22, 3) := by decide +kernel
theorem dX0_weighWaysTo_20 : decode cX0_weighWaysTo 20 = .ok (.iload_n 1, 1) := by decide +kernel
theorem dX0_weighWaysTo_21 : decode cX0_weighWaysTo 21 = .ok (.iconst 0, 1) := by decide +kernel
theorem dX0_weighWaysTo_22 : decode cX0_weighWaysTo 22 = .ok (.iastore, 1) := by decide +kernel
theorem dX0_weighWaysTo_23 : decode cX0_weighWaysTo 23 = .ok (.iconst 1, 1) := by decide +kernel
theorem dX0_weighWaysTo_24 : decode cX0_weighWaysTo 24 = .ok (.istore_n 2, 1) := by decide +kernel
theorem dX0_weighWaysTo_25 : decode cX0_weighWaysTo 25 = .ok (.iload_n 2, 1) := by decide +kernel
theorem dX0_weighWaysTo_26 : decode cX0_weighWaysTo 26 = .ok (.iconst 5, 1) := by decide +kernel
theorem dX0_weighWaysTo_27 : decode cX0_weighWaysTo 27 = .ok (.if_icmp .ge 69, 3) := by decide +kernel
theorem dX0_weighWaysTo_30 : decode cX0_weighWaysTo 30 = .ok (.iconst 0, 1) := by decide +kernel
theorem dX0_weighWaysTo_31 : decode cX0_weighWaysTo 31 = .ok (.istore_n 3, 1) := by decide +kernel
theorem dX0_weighWaysTo_32 : decode cX0_weighWaysTo 32 = .ok (.iload_n 3, 1) := by decide +kernel
theorem dX0_weighWaysTo_33 : decode cX0_weighWaysTo 33 = .ok (.iconst 5, 1) := by decide +kernel
theorem dX0_weighWaysTo_34 : decode cX0_weighWaysTo 34 = .ok (.if_icmp .ge 56, 3) := by decide +kernel
theorem dX0_weighWaysTo_37 : decode cX0_weighWaysTo 37 = .ok (.iconst 0, 1) := by decide +kernel
theorem dX0_weighWaysTo_38 : decode cX0_weighWaysTo 38 = .ok (.istore 4, 2) := by decide +kernel
theorem dX0_weighWaysTo_40 : decode cX0_weighWaysTo 40 = .ok (.iload 4, 2) := by decide +kernel
theorem dX0_weighWaysTo_42 : decode cX0_weighWaysTo 42 = .ok (.iconst 5, 1) := by decide +kernel
theorem dX0_weighWaysTo_43 : decode cX0_weighWaysTo 43 = .ok (.if_icmp .ge 41, 3) := by decide +kernel
theorem dX0_weighWaysTo_46 : decode cX0_weighWaysTo 46 = .ok (.aload_n 0, 1) := by decide +kernel
theorem dX0_weighWaysTo_47 : decode cX0_weighWaysTo 47 = .ok (.iload_n 3, 1) := by decide +kernel
theorem dX0_weighWaysTo_48 : decode cX0_weighWaysTo 48 = .ok (.iload 4, 2) := by decide +kernel
theorem dX0_weighWaysTo_50 : decode cX0_weighWaysTo 50 = .ok (.invokevirtual 45, 3) := by decide +kernel
theorem dX0_weighWaysTo_53 : decode cX0_weighWaysTo 53 = .ok (.ifCond .eq 25, 3) := by decide +kernel
theorem dX0_weighWaysTo_56 : decode cX0_weighWaysTo 56 = .ok (.aload_n 0, 1) := by decide +kernel
theorem dX0_weighWaysTo_57 : decode cX0_weighWaysTo 57 = .ok (.getfield 22, 3) := by decide +kernel
theorem dX0_weighWaysTo_60 : decode cX0_weighWaysTo 60 = .ok (.iload_n 3, 1) := by decide +kernel
theorem dX0_weighWaysTo_61 : decode cX0_weighWaysTo 61 = .ok (.aload_n 0, 1) := by decide +kernel
theorem dX0_weighWaysTo_62 : decode cX0_weighWaysTo 62 = .ok (.getfield 22, 3) := by decide +kernel
theorem dX0_weighWaysTo_65 : decode cX0_weighWaysTo 65 = .ok (.iload_n 3, 1) := by decide +kernel
theorem dX0_weighWaysTo_66 : decode cX0_weighWaysTo 66 = .ok (.iaload, 1) := by decide +kernel
theorem dX0_weighWaysTo_67 : decode cX0_weighWaysTo 67 = .ok (.aload_n 0, 1) := by decide +kernel
theorem dX0_weighWaysTo_68 : decode cX0_weighWaysTo 68 = .ok (.iload_n 3, 1) := by decide +kernel
theorem dX0_weighWaysTo_69 : decode cX0_weighWaysTo 69 = .ok (.iload 4, 2) := by decide +kernel
theorem dX0_weighWaysTo_71 : decode cX0_weighWaysTo 71 = .ok (.invokevirtual 84, 3) := by decide +kernel
theorem dX0_weighWaysTo_74 : decode cX0_weighWaysTo 74 = .ok (.invokestatic 87, 3) := by decide +kernel
theorem dX0_weighWaysTo_77 : decode cX0_weighWaysTo 77 = .ok (.iastore, 1) := by decide +kernel
theorem dX0_weighWaysTo_78 : decode cX0_weighWaysTo 78 = .ok (.iinc 4 1, 3) := by decide +kernel
theorem dX0_weighWaysTo_81 : decode cX0_weighWaysTo 81 = .ok (.goto (-41), 3) := by decide +kernel
theorem dX0_weighWaysTo_84 : decode cX0_weighWaysTo 84 = .ok (.iinc 3 1, 3) := by decide +kernel
theorem dX0_weighWaysTo_87 : decode cX0_weighWaysTo 87 = .ok (.goto (-55), 3) := by decide +kernel
theorem dX0_weighWaysTo_90 : decode cX0_weighWaysTo 90 = .ok (.iinc 2 1, 3) := by decide +kernel
theorem dX0_weighWaysTo_93 : decode cX0_weighWaysTo 93 = .ok (.goto (-68), 3) := by decide +kernel
theorem dX0_weighWaysTo_96 : decode cX0_weighWaysTo 96 = .ok (.return_, 1) := by decide +kernel
theorem dX0_nextOnBest_0 : decode cX0_nextOnBest 0 = .ok (.iconst 0, 1) := by decide +kernel
theorem dX0_nextOnBest_1 : decode cX0_nextOnBest 1 = .ok (.istore_n 2, 1) := by decide +kernel
theorem dX0_nextOnBest_2 : decode cX0_nextOnBest 2 = .ok (.iload_n 2, 1) := by decide +kernel
theorem dX0_nextOnBest_3 : decode cX0_nextOnBest 3 = .ok (.iconst 5, 1) := by decide +kernel
theorem dX0_nextOnBest_4 : decode cX0_nextOnBest 4 = .ok (.if_icmp .ge 42, 3) := by decide +kernel
theorem dX0_nextOnBest_7 : decode cX0_nextOnBest 7 = .ok (.aload_n 0, 1) := by decide +kernel
theorem dX0_nextOnBest_8 : decode cX0_nextOnBest 8 = .ok (.iload_n 1, 1) := by decide +kernel
theorem dX0_nextOnBest_9 : decode cX0_nextOnBest 9 = .ok (.iload_n 2, 1) := by decide +kernel
theorem dX0_nextOnBest_10 : decode cX0_nextOnBest 10 = .ok (.invokevirtual 45, 3) := by decide +kernel
theorem dX0_nextOnBest_13 : decode cX0_nextOnBest 13 = .ok (.ifCond .eq 27, 3) := by decide +kernel
theorem dX0_nextOnBest_16 : decode cX0_nextOnBest 16 = .ok (.iload_n 1, 1) := by decide +kernel
theorem dX0_nextOnBest_17 : decode cX0_nextOnBest 17 = .ok (.invokestatic 66, 3) := by decide +kernel
theorem dX0_nextOnBest_20 : decode cX0_nextOnBest 20 = .ok (.ifCond .eq 20, 3) := by decide +kernel
theorem dX0_nextOnBest_23 : decode cX0_nextOnBest 23 = .ok (.aload_n 0, 1) := by decide +kernel
theorem dX0_nextOnBest_24 : decode cX0_nextOnBest 24 = .ok (.iload_n 1, 1) := by decide +kernel
theorem dX0_nextOnBest_25 : decode cX0_nextOnBest 25 = .ok (.iload_n 2, 1) := by decide +kernel
theorem dX0_nextOnBest_26 : decode cX0_nextOnBest 26 = .ok (.invokevirtual 84, 3) := by decide +kernel
theorem dX0_nextOnBest_29 : decode cX0_nextOnBest 29 = .ok (.aload_n 0, 1) := by decide +kernel
theorem dX0_nextOnBest_30 : decode cX0_nextOnBest 30 = .ok (.getfield 22, 3) := by decide +kernel
theorem dX0_nextOnBest_33 : decode cX0_nextOnBest 33 = .ok (.iload_n 1, 1) := by decide +kernel
theorem dX0_nextOnBest_34 : decode cX0_nextOnBest 34 = .ok (.iaload, 1) := by decide +kernel
theorem dX0_nextOnBest_35 : decode cX0_nextOnBest 35 = .ok (.if_icmp .ne 5, 3) := by decide +kernel
theorem dX0_nextOnBest_38 : decode cX0_nextOnBest 38 = .ok (.iload_n 2, 1) := by decide +kernel
theorem dX0_nextOnBest_39 : decode cX0_nextOnBest 39 = .ok (.ireturn, 1) := by decide +kernel
theorem dX0_nextOnBest_40 : decode cX0_nextOnBest 40 = .ok (.iinc 2 1, 3) := by decide +kernel
theorem dX0_nextOnBest_43 : decode cX0_nextOnBest 43 = .ok (.goto (-41), 3) := by decide +kernel
theorem dX0_nextOnBest_46 : decode cX0_nextOnBest 46 = .ok (.iconst (-1), 1) := by decide +kernel
theorem dX0_nextOnBest_47 : decode cX0_nextOnBest 47 = .ok (.ireturn, 1) := by decide +kernel
theorem dX0_weightOver_0 : decode cX0_weightOver 0 = .ok (.iload_n 2, 1) := by decide +kernel
theorem dX0_weightOver_1 : decode cX0_weightOver 1 = .ok (.invokestatic 66, 3) := by decide +kernel
theorem dX0_weightOver_4 : decode cX0_weightOver 4 = .ok (.ifCond .eq 12, 3) := by decide +kernel
theorem dX0_weightOver_7 : decode cX0_weightOver 7 = .ok (.aload_n 0, 1) := by decide +kernel
theorem dX0_weightOver_8 : decode cX0_weightOver 8 = .ok (.getfield 22, 3) := by decide +kernel
theorem dX0_weightOver_11 : decode cX0_weightOver 11 = .ok (.iload_n 2, 1) := by decide +kernel
theorem dX0_weightOver_12 : decode cX0_weightOver 12 = .ok (.iaload, 1) := by decide +kernel
theorem dX0_weightOver_13 : decode cX0_weightOver 13 = .ok (.goto 5, 3) := by decide +kernel
theorem dX0_weightOver_16 : decode cX0_weightOver 16 = .ok (.ldc 74, 2) := by decide +kernel
theorem dX0_weightOver_18 : decode cX0_weightOver 18 = .ok (.istore_n 3, 1) := by decide +kernel
theorem dX0_weightOver_19 : decode cX0_weightOver 19 = .ok (.iload_n 3, 1) := by decide +kernel
theorem dX0_weightOver_20 : decode cX0_weightOver 20 = .ok (.aload_n 0, 1) := by decide +kernel
theorem dX0_weightOver_21 : decode cX0_weightOver 21 = .ok (.iload_n 1, 1) := by decide +kernel
theorem dX0_weightOver_22 : decode cX0_weightOver 22 = .ok (.iload_n 2, 1) := by decide +kernel
theorem dX0_weightOver_23 : decode cX0_weightOver 23 = .ok (.invokevirtual 49, 3) := by decide +kernel
theorem dX0_weightOver_26 : decode cX0_weightOver 26 = .ok (.bipush 8, 2) := by decide +kernel
theorem dX0_weightOver_28 : decode cX0_weightOver 28 = .ok (.imul, 1) := by decide +kernel
theorem dX0_weightOver_29 : decode cX0_weightOver 29 = .ok (.iadd, 1) := by decide +kernel
theorem dX0_weightOver_30 : decode cX0_weightOver 30 = .ok (.iconst 1, 1) := by decide +kernel
theorem dX0_weightOver_31 : decode cX0_weightOver 31 = .ok (.iadd, 1) := by decide +kernel
theorem dX0_weightOver_32 : decode cX0_weightOver 32 = .ok (.ireturn, 1) := by decide +kernel
theorem dX1_init_0 : decode cX1_init 0 = .ok (.aload_n 0, 1) := by decide +kernel
theorem dX1_init_1 : decode cX1_init 1 = .ok (.invokespecial 3, 3) := by decide +kernel
theorem dX1_init_4 : decode cX1_init 4 = .ok (.aload_n 0, 1) := by decide +kernel
theorem dX1_init_5 : decode cX1_init 5 = .ok (.iconst 5, 1) := by decide +kernel
theorem dX1_init_6 : decode cX1_init 6 = .ok (.newarray .int, 2) := by decide +kernel
theorem dX1_init_8 : decode cX1_init 8 = .ok (.putfield 9, 3) := by decide +kernel
theorem dX1_init_11 : decode cX1_init 11 = .ok (.return_, 1) := by decide +kernel
theorem dX1_carrierAt_0 : decode cX1_carrierAt 0 = .ok (.iload_n 1, 1) := by decide +kernel
theorem dX1_carrierAt_1 : decode cX1_carrierAt 1 = .ok (.ifCond .lt 25, 3) := by decide +kernel
theorem dX1_carrierAt_4 : decode cX1_carrierAt 4 = .ok (.iload_n 1, 1) := by decide +kernel
theorem dX1_carrierAt_5 : decode cX1_carrierAt 5 = .ok (.aload_n 0, 1) := by decide +kernel
theorem dX1_carrierAt_6 : decode cX1_carrierAt 6 = .ok (.getfield 15, 3) := by decide +kernel
theorem dX1_carrierAt_9 : decode cX1_carrierAt 9 = .ok (.if_icmp .ge 17, 3) := by decide +kernel
theorem dX1_carrierAt_12 : decode cX1_carrierAt 12 = .ok (.iload_n 1, 1) := by decide +kernel
theorem dX1_carrierAt_13 : decode cX1_carrierAt 13 = .ok (.iconst 5, 1) := by decide +kernel
theorem dX1_carrierAt_14 : decode cX1_carrierAt 14 = .ok (.if_icmp .ge 12, 3) := by decide +kernel
theorem dX1_carrierAt_17 : decode cX1_carrierAt 17 = .ok (.aload_n 0, 1) := by decide +kernel
theorem dX1_carrierAt_18 : decode cX1_carrierAt 18 = .ok (.getfield 9, 3) := by decide +kernel
theorem dX1_carrierAt_21 : decode cX1_carrierAt 21 = .ok (.iload_n 1, 1) := by decide +kernel
theorem dX1_carrierAt_22 : decode cX1_carrierAt 22 = .ok (.iaload, 1) := by decide +kernel
theorem dX1_carrierAt_23 : decode cX1_carrierAt 23 = .ok (.goto 4, 3) := by decide +kernel
theorem dX1_carrierAt_26 : decode cX1_carrierAt 26 = .ok (.iconst (-1), 1) := by decide +kernel
theorem dX1_carrierAt_27 : decode cX1_carrierAt 27 = .ok (.ireturn, 1) := by decide +kernel
theorem dX1_clear_0 : decode cX1_clear 0 = .ok (.aload_n 0, 1) := by decide +kernel
theorem dX1_clear_1 : decode cX1_clear 1 = .ok (.iconst 0, 1) := by decide +kernel
theorem dX1_clear_2 : decode cX1_clear 2 = .ok (.putfield 15, 3) := by decide +kernel
theorem dX1_clear_5 : decode cX1_clear 5 = .ok (.return_, 1) := by decide +kernel
theorem dX1_add_0 : decode cX1_add 0 = .ok (.aload_n 0, 1) := by decide +kernel
theorem dX1_add_1 : decode cX1_add 1 = .ok (.getfield 15, 3) := by decide +kernel
theorem dX1_add_4 : decode cX1_add 4 = .ok (.ifCond .lt 31, 3) := by decide +kernel
theorem dX1_add_7 : decode cX1_add 7 = .ok (.aload_n 0, 1) := by decide +kernel
theorem dX1_add_8 : decode cX1_add 8 = .ok (.getfield 15, 3) := by decide +kernel
theorem dX1_add_11 : decode cX1_add 11 = .ok (.iconst 5, 1) := by decide +kernel
theorem dX1_add_12 : decode cX1_add 12 = .ok (.if_icmp .ge 23, 3) := by decide +kernel
theorem dX1_add_15 : decode cX1_add 15 = .ok (.aload_n 0, 1) := by decide +kernel
theorem dX1_add_16 : decode cX1_add 16 = .ok (.getfield 9, 3) := by decide +kernel
theorem dX1_add_19 : decode cX1_add 19 = .ok (.aload_n 0, 1) := by decide +kernel
theorem dX1_add_20 : decode cX1_add 20 = .ok (.getfield 15, 3) := by decide +kernel
theorem dX1_add_23 : decode cX1_add 23 = .ok (.iload_n 1, 1) := by decide +kernel
theorem dX1_add_24 : decode cX1_add 24 = .ok (.iastore, 1) := by decide +kernel
theorem dX1_add_25 : decode cX1_add 25 = .ok (.aload_n 0, 1) := by decide +kernel
theorem dX1_add_26 : decode cX1_add 26 = .ok (.dup, 1) := by decide +kernel
theorem dX1_add_27 : decode cX1_add 27 = .ok (.getfield 15, 3) := by decide +kernel
theorem dX1_add_30 : decode cX1_add 30 = .ok (.iconst 1, 1) := by decide +kernel
theorem dX1_add_31 : decode cX1_add 31 = .ok (.iadd, 1) := by decide +kernel
theorem dX1_add_32 : decode cX1_add 32 = .ok (.putfield 15, 3) := by decide +kernel
theorem dX1_add_35 : decode cX1_add 35 = .ok (.return_, 1) := by decide +kernel
theorem dX1_become_0 : decode cX1_become 0 = .ok (.aload_n 0, 1) := by decide +kernel
theorem dX1_become_1 : decode cX1_become 1 = .ok (.invokevirtual 19, 3) := by decide +kernel
theorem dX1_become_4 : decode cX1_become 4 = .ok (.iconst 0, 1) := by decide +kernel
theorem dX1_become_5 : decode cX1_become 5 = .ok (.istore_n 2, 1) := by decide +kernel
theorem dX1_become_6 : decode cX1_become 6 = .ok (.iload_n 2, 1) := by decide +kernel
theorem dX1_become_7 : decode cX1_become 7 = .ok (.aload_n 1, 1) := by decide +kernel
theorem dX1_become_8 : decode cX1_become 8 = .ok (.getfield 15, 3) := by decide +kernel
theorem dX1_become_11 : decode cX1_become 11 = .ok (.if_icmp .ge 18, 3) := by decide +kernel
theorem dX1_become_14 : decode cX1_become 14 = .ok (.aload_n 0, 1) := by decide +kernel
theorem dX1_become_15 : decode cX1_become 15 = .ok (.aload_n 1, 1) := by decide +kernel
theorem dX1_become_16 : decode cX1_become 16 = .ok (.iload_n 2, 1) := by decide +kernel
theorem dX1_become_17 : decode cX1_become 17 = .ok (.invokevirtual 22, 3) := by decide +kernel
theorem dX1_become_20 : decode cX1_become 20 = .ok (.invokevirtual 26, 3) := by decide +kernel
theorem dX1_become_23 : decode cX1_become 23 = .ok (.iinc 2 1, 3) := by decide +kernel
theorem dX1_become_26 : decode cX1_become 26 = .ok (.goto (-20), 3) := by decide +kernel
theorem dX1_become_29 : decode cX1_become 29 = .ok (.return_, 1) := by decide +kernel
theorem dX2_init_0 : decode cX2_init 0 = .ok (.aload_n 0, 1) := by decide +kernel
theorem dX2_init_1 : decode cX2_init 1 = .ok (.invokespecial 3, 3) := by decide +kernel
theorem dX2_init_4 : decode cX2_init 4 = .ok (.aload_n 0, 1) := by decide +kernel
theorem dX2_init_5 : decode cX2_init 5 = .ok (.bipush 10, 2) := by decide +kernel
theorem dX2_init_7 : decode cX2_init 7 = .ok (.newarray .int, 2) := by decide +kernel
theorem dX2_init_9 : decode cX2_init 9 = .ok (.putfield 9, 3) := by decide +kernel
theorem dX2_init_12 : decode cX2_init 12 = .ok (.aload_n 0, 1) := by decide +kernel
theorem dX2_init_13 : decode cX2_init 13 = .ok (.getfield 9, 3) := by decide +kernel
theorem dX2_init_16 : decode cX2_init 16 = .ok (.iconst 0, 1) := by decide +kernel
theorem dX2_init_17 : decode cX2_init 17 = .ok (.iload_n 1, 1) := by decide +kernel
theorem dX2_init_18 : decode cX2_init 18 = .ok (.iastore, 1) := by decide +kernel
theorem dX2_init_19 : decode cX2_init 19 = .ok (.aload_n 0, 1) := by decide +kernel
theorem dX2_init_20 : decode cX2_init 20 = .ok (.iconst 1, 1) := by decide +kernel
theorem dX2_init_21 : decode cX2_init 21 = .ok (.putfield 15, 3) := by decide +kernel
theorem dX2_init_24 : decode cX2_init 24 = .ok (.aload_n 0, 1) := by decide +kernel
theorem dX2_init_25 : decode cX2_init 25 = .ok (.iload_n 2, 1) := by decide +kernel
theorem dX2_init_26 : decode cX2_init 26 = .ok (.putfield 19, 3) := by decide +kernel
theorem dX2_init_29 : decode cX2_init 29 = .ok (.aload_n 0, 1) := by decide +kernel
theorem dX2_init_30 : decode cX2_init 30 = .ok (.iload_n 3, 1) := by decide +kernel
theorem dX2_init_31 : decode cX2_init 31 = .ok (.putfield 22, 3) := by decide +kernel
theorem dX2_init_34 : decode cX2_init 34 = .ok (.return_, 1) := by decide +kernel
theorem dX2_homeAt_0 : decode cX2_homeAt 0 = .ok (.iload_n 1, 1) := by decide +kernel
theorem dX2_homeAt_1 : decode cX2_homeAt 1 = .ok (.ifCond .lt 36, 3) := by decide +kernel
theorem dX2_homeAt_4 : decode cX2_homeAt 4 = .ok (.iload_n 1, 1) := by decide +kernel
theorem dX2_homeAt_5 : decode cX2_homeAt 5 = .ok (.aload_n 0, 1) := by decide +kernel
theorem dX2_homeAt_6 : decode cX2_homeAt 6 = .ok (.getfield 15, 3) := by decide +kernel
theorem dX2_homeAt_9 : decode cX2_homeAt 9 = .ok (.if_icmp .ge 28, 3) := by decide +kernel
theorem dX2_homeAt_12 : decode cX2_homeAt 12 = .ok (.aload_n 0, 1) := by decide +kernel
theorem dX2_homeAt_13 : decode cX2_homeAt 13 = .ok (.getfield 15, 3) := by decide +kernel
theorem dX2_homeAt_16 : decode cX2_homeAt 16 = .ok (.bipush 10, 2) := by decide +kernel
theorem dX2_homeAt_18 : decode cX2_homeAt 18 = .ok (.if_icmp .gt 19, 3) := by decide +kernel
theorem dX2_homeAt_21 : decode cX2_homeAt 21 = .ok (.aload_n 0, 1) := by decide +kernel
theorem dX2_homeAt_22 : decode cX2_homeAt 22 = .ok (.getfield 9, 3) := by decide +kernel
theorem dX2_homeAt_25 : decode cX2_homeAt 25 = .ok (.aload_n 0, 1) := by decide +kernel
theorem dX2_homeAt_26 : decode cX2_homeAt 26 = .ok (.getfield 15, 3) := by decide +kernel
theorem dX2_homeAt_29 : decode cX2_homeAt 29 = .ok (.iconst 1, 1) := by decide +kernel
theorem dX2_homeAt_30 : decode cX2_homeAt 30 = .ok (.isub, 1) := by decide +kernel
theorem dX2_homeAt_31 : decode cX2_homeAt 31 = .ok (.iload_n 1, 1) := by decide +kernel
theorem dX2_homeAt_32 : decode cX2_homeAt 32 = .ok (.isub, 1) := by decide +kernel
theorem dX2_homeAt_33 : decode cX2_homeAt 33 = .ok (.iaload, 1) := by decide +kernel
theorem dX2_homeAt_34 : decode cX2_homeAt 34 = .ok (.goto 4, 3) := by decide +kernel
theorem dX2_homeAt_37 : decode cX2_homeAt 37 = .ok (.iconst (-1), 1) := by decide +kernel
theorem dX2_homeAt_38 : decode cX2_homeAt 38 = .ok (.ireturn, 1) := by decide +kernel
theorem dX2_moveTo_0 : decode cX2_moveTo 0 = .ok (.aload_n 0, 1) := by decide +kernel
theorem dX2_moveTo_1 : decode cX2_moveTo 1 = .ok (.getfield 15, 3) := by decide +kernel
theorem dX2_moveTo_4 : decode cX2_moveTo 4 = .ok (.ifCond .lt 12, 3) := by decide +kernel
theorem dX2_moveTo_7 : decode cX2_moveTo 7 = .ok (.aload_n 0, 1) := by decide +kernel
theorem dX2_moveTo_8 : decode cX2_moveTo 8 = .ok (.getfield 15, 3) := by decide +kernel
theorem dX2_moveTo_11 : decode cX2_moveTo 11 = .ok (.bipush 10, 2) := by decide +kernel
theorem dX2_moveTo_13 : decode cX2_moveTo 13 = .ok (.if_icmp .lt 5, 3) := by decide +kernel
theorem dX2_moveTo_16 : decode cX2_moveTo 16 = .ok (.iconst 0, 1) := by decide +kernel
theorem dX2_moveTo_17 : decode cX2_moveTo 17 = .ok (.ireturn, 1) := by decide +kernel
theorem dX2_moveTo_18 : decode cX2_moveTo 18 = .ok (.aload_n 0, 1) := by decide +kernel
theorem dX2_moveTo_19 : decode cX2_moveTo 19 = .ok (.getfield 9, 3) := by decide +kernel
theorem dX2_moveTo_22 : decode cX2_moveTo 22 = .ok (.aload_n 0, 1) := by decide +kernel
theorem dX2_moveTo_23 : decode cX2_moveTo 23 = .ok (.getfield 15, 3) := by decide +kernel
theorem dX2_moveTo_26 : decode cX2_moveTo 26 = .ok (.iload_n 1, 1) := by decide +kernel
theorem dX2_moveTo_27 : decode cX2_moveTo 27 = .ok (.iastore, 1) := by decide +kernel
theorem dX2_moveTo_28 : decode cX2_moveTo 28 = .ok (.aload_n 0, 1) := by decide +kernel
theorem dX2_moveTo_29 : decode cX2_moveTo 29 = .ok (.dup, 1) := by decide +kernel
theorem dX2_moveTo_30 : decode cX2_moveTo 30 = .ok (.getfield 15, 3) := by decide +kernel
theorem dX2_moveTo_33 : decode cX2_moveTo 33 = .ok (.iconst 1, 1) := by decide +kernel
theorem dX2_moveTo_34 : decode cX2_moveTo 34 = .ok (.iadd, 1) := by decide +kernel
theorem dX2_moveTo_35 : decode cX2_moveTo 35 = .ok (.putfield 15, 3) := by decide +kernel
theorem dX2_moveTo_38 : decode cX2_moveTo 38 = .ok (.iconst 1, 1) := by decide +kernel
theorem dX2_moveTo_39 : decode cX2_moveTo 39 = .ok (.ireturn, 1) := by decide +kernel
theorem dX2_pay_0 : decode cX2_pay 0 = .ok (.aload_n 0, 1) := by decide +kernel
theorem dX2_pay_1 : decode cX2_pay 1 = .ok (.getfield 22, 3) := by decide +kernel
theorem dX2_pay_4 : decode cX2_pay 4 = .ok (.iload_n 1, 1) := by decide +kernel
theorem dX2_pay_5 : decode cX2_pay 5 = .ok (.if_icmp .lt 15, 3) := by decide +kernel
theorem dX2_pay_8 : decode cX2_pay 8 = .ok (.aload_n 0, 1) := by decide +kernel
theorem dX2_pay_9 : decode cX2_pay 9 = .ok (.dup, 1) := by decide +kernel
theorem dX2_pay_10 : decode cX2_pay 10 = .ok (.getfield 22, 3) := by decide +kernel
theorem dX2_pay_13 : decode cX2_pay 13 = .ok (.iload_n 1, 1) := by decide +kernel
theorem dX2_pay_14 : decode cX2_pay 14 = .ok (.isub, 1) := by decide +kernel
theorem dX2_pay_15 : decode cX2_pay 15 = .ok (.putfield 22, 3) := by decide +kernel
theorem dX2_pay_18 : decode cX2_pay 18 = .ok (.iconst 1, 1) := by decide +kernel
theorem dX2_pay_19 : decode cX2_pay 19 = .ok (.ireturn, 1) := by decide +kernel
theorem dX2_pay_20 : decode cX2_pay 20 = .ok (.aload_n 0, 1) := by decide +kernel
theorem dX2_pay_21 : decode cX2_pay 21 = .ok (.getfield 19, 3) := by decide +kernel
theorem dX2_pay_24 : decode cX2_pay 24 = .ok (.iload_n 2, 1) := by decide +kernel
theorem dX2_pay_25 : decode cX2_pay 25 = .ok (.if_icmp .lt 15, 3) := by decide +kernel
theorem dX2_pay_28 : decode cX2_pay 28 = .ok (.aload_n 0, 1) := by decide +kernel
theorem dX2_pay_29 : decode cX2_pay 29 = .ok (.dup, 1) := by decide +kernel
theorem dX2_pay_30 : decode cX2_pay 30 = .ok (.getfield 19, 3) := by decide +kernel
theorem dX2_pay_33 : decode cX2_pay 33 = .ok (.iload_n 2, 1) := by decide +kernel
theorem dX2_pay_34 : decode cX2_pay 34 = .ok (.isub, 1) := by decide +kernel
theorem dX2_pay_35 : decode cX2_pay 35 = .ok (.putfield 19, 3) := by decide +kernel
theorem dX2_pay_38 : decode cX2_pay 38 = .ok (.iconst 1, 1) := by decide +kernel
theorem dX2_pay_39 : decode cX2_pay 39 = .ok (.ireturn, 1) := by decide +kernel
theorem dX2_pay_40 : decode cX2_pay 40 = .ok (.iconst 0, 1) := by decide +kernel
theorem dX2_pay_41 : decode cX2_pay 41 = .ok (.ireturn, 1) := by decide +kernel
theorem dX3_init_0 : decode cX3_init 0 = .ok (.aload_n 0, 1) := by decide +kernel
theorem dX3_init_1 : decode cX3_init 1 = .ok (.invokespecial 3, 3) := by decide +kernel
theorem dX3_init_4 : decode cX3_init 4 = .ok (.aload_n 0, 1) := by decide +kernel
theorem dX3_init_5 : decode cX3_init 5 = .ok (.new 9, 3) := by decide +kernel
theorem dX3_init_8 : decode cX3_init 8 = .ok (.dup, 1) := by decide +kernel
theorem dX3_init_9 : decode cX3_init 9 = .ok (.invokespecial 11, 3) := by decide +kernel
theorem dX3_init_12 : decode cX3_init 12 = .ok (.putfield 12, 3) := by decide +kernel
theorem dX3_init_15 : decode cX3_init 15 = .ok (.aload_n 0, 1) := by decide +kernel
theorem dX3_init_16 : decode cX3_init 16 = .ok (.bipush 25, 2) := by decide +kernel
theorem dX3_init_18 : decode cX3_init 18 = .ok (.newarray .long, 2) := by decide +kernel
theorem dX3_init_20 : decode cX3_init 20 = .ok (.putfield 18, 3) := by decide +kernel
theorem dX3_init_23 : decode cX3_init 23 = .ok (.aload_n 0, 1) := by decide +kernel
theorem dX3_init_24 : decode cX3_init 24 = .ok (.iconst 0, 1) := by decide +kernel
theorem dX3_init_25 : decode cX3_init 25 = .ok (.putfield 22, 3) := by decide +kernel
theorem dX3_init_28 : decode cX3_init 28 = .ok (.aload_n 0, 1) := by decide +kernel
theorem dX3_init_29 : decode cX3_init 29 = .ok (.aload_n 1, 1) := by decide +kernel
theorem dX3_init_30 : decode cX3_init 30 = .ok (.putfield 26, 3) := by decide +kernel
theorem dX3_init_33 : decode cX3_init 33 = .ok (.aload_n 0, 1) := by decide +kernel
theorem dX3_init_34 : decode cX3_init 34 = .ok (.aload_n 2, 1) := by decide +kernel
theorem dX3_init_35 : decode cX3_init 35 = .ok (.putfield 30, 3) := by decide +kernel
theorem dX3_init_38 : decode cX3_init 38 = .ok (.aload_n 0, 1) := by decide +kernel
theorem dX3_init_39 : decode cX3_init 39 = .ok (.iload_n 3, 1) := by decide +kernel
theorem dX3_init_40 : decode cX3_init 40 = .ok (.putfield 33, 3) := by decide +kernel
theorem dX3_init_43 : decode cX3_init 43 = .ok (.aload_n 0, 1) := by decide +kernel
theorem dX3_init_44 : decode cX3_init 44 = .ok (.iload 4, 2) := by decide +kernel
theorem dX3_init_46 : decode cX3_init 46 = .ok (.putfield 36, 3) := by decide +kernel
theorem dX3_init_49 : decode cX3_init 49 = .ok (.return_, 1) := by decide +kernel
theorem dX3_isStepDue_0 : decode cX3_isStepDue 0 = .ok (.aload_n 0, 1) := by decide +kernel
theorem dX3_isStepDue_1 : decode cX3_isStepDue 1 = .ok (.getfield 33, 3) := by decide +kernel
theorem dX3_isStepDue_4 : decode cX3_isStepDue 4 = .ok (.ifCond .le 19, 3) := by decide +kernel
theorem dX3_isStepDue_7 : decode cX3_isStepDue 7 = .ok (.aload_n 0, 1) := by decide +kernel
theorem dX3_isStepDue_8 : decode cX3_isStepDue 8 = .ok (.getfield 39, 3) := by decide +kernel
theorem dX3_isStepDue_11 : decode cX3_isStepDue 11 = .ok (.aload_n 0, 1) := by decide +kernel
theorem dX3_isStepDue_12 : decode cX3_isStepDue 12 = .ok (.getfield 33, 3) := by decide +kernel
theorem dX3_isStepDue_15 : decode cX3_isStepDue 15 = .ok (.irem, 1) := by decide +kernel
theorem dX3_isStepDue_16 : decode cX3_isStepDue 16 = .ok (.ifCond .ne 7, 3) := by decide +kernel
theorem dX3_isStepDue_19 : decode cX3_isStepDue 19 = .ok (.iconst 1, 1) := by decide +kernel
theorem dX3_isStepDue_20 : decode cX3_isStepDue 20 = .ok (.goto 4, 3) := by decide +kernel
theorem dX3_isStepDue_23 : decode cX3_isStepDue 23 = .ok (.iconst 0, 1) := by decide +kernel
theorem dX3_isStepDue_24 : decode cX3_isStepDue 24 = .ok (.ireturn, 1) := by decide +kernel
theorem dX3_addCharge_0 : decode cX3_addCharge 0 = .ok (.iload_n 1, 1) := by decide +kernel
theorem dX3_addCharge_1 : decode cX3_addCharge 1 = .ok (.ifCond .lt 20, 3) := by decide +kernel
theorem dX3_addCharge_4 : decode cX3_addCharge 4 = .ok (.iload_n 1, 1) := by decide +kernel
theorem dX3_addCharge_5 : decode cX3_addCharge 5 = .ok (.bipush 25, 2) := by decide +kernel
theorem dX3_addCharge_7 : decode cX3_addCharge 7 = .ok (.if_icmp .ge 14, 3) := by decide +kernel
theorem dX3_addCharge_10 : decode cX3_addCharge 10 = .ok (.aload_n 0, 1) := by decide +kernel
theorem dX3_addCharge_11 : decode cX3_addCharge 11 = .ok (.getfield 18, 3) := by decide +kernel
theorem dX3_addCharge_14 : decode cX3_addCharge 14 = .ok (.iload_n 1, 1) := by decide +kernel
theorem dX3_addCharge_15 : decode cX3_addCharge 15 = .ok (.dup2, 1) := by decide +kernel
theorem dX3_addCharge_16 : decode cX3_addCharge 16 = .ok (.laload, 1) := by decide +kernel
theorem dX3_addCharge_17 : decode cX3_addCharge 17 = .ok (.iload_n 2, 1) := by decide +kernel
theorem dX3_addCharge_18 : decode cX3_addCharge 18 = .ok (.i2l, 1) := by decide +kernel
theorem dX3_addCharge_19 : decode cX3_addCharge 19 = .ok (.ladd, 1) := by decide +kernel
theorem dX3_addCharge_20 : decode cX3_addCharge 20 = .ok (.lastore, 1) := by decide +kernel
theorem dX3_addCharge_21 : decode cX3_addCharge 21 = .ok (.return_, 1) := by decide +kernel
theorem dX3_chargeOf_0 : decode cX3_chargeOf 0 = .ok (.iload_n 1, 1) := by decide +kernel
theorem dX3_chargeOf_1 : decode cX3_chargeOf 1 = .ok (.ifCond .lt 18, 3) := by decide +kernel
theorem dX3_chargeOf_4 : decode cX3_chargeOf 4 = .ok (.iload_n 1, 1) := by decide +kernel
theorem dX3_chargeOf_5 : decode cX3_chargeOf 5 = .ok (.bipush 25, 2) := by decide +kernel
theorem dX3_chargeOf_7 : decode cX3_chargeOf 7 = .ok (.if_icmp .ge 12, 3) := by decide +kernel
theorem dX3_chargeOf_10 : decode cX3_chargeOf 10 = .ok (.aload_n 0, 1) := by decide +kernel
theorem dX3_chargeOf_11 : decode cX3_chargeOf 11 = .ok (.getfield 18, 3) := by decide +kernel
theorem dX3_chargeOf_14 : decode cX3_chargeOf 14 = .ok (.iload_n 1, 1) := by decide +kernel
theorem dX3_chargeOf_15 : decode cX3_chargeOf 15 = .ok (.laload, 1) := by decide +kernel
theorem dX3_chargeOf_16 : decode cX3_chargeOf 16 = .ok (.goto 4, 3) := by decide +kernel
theorem dX3_chargeOf_19 : decode cX3_chargeOf 19 = .ok (.lconst 0, 1) := by decide +kernel
theorem dX3_chargeOf_20 : decode cX3_chargeOf 20 = .ok (.lreturn, 1) := by decide +kernel
theorem dJ9_min_7cf53_0 : decode cJ9_min_7cf53 0 = .ok (.iload_n 0, 1) := by decide +kernel
theorem dJ9_min_7cf53_1 : decode cJ9_min_7cf53 1 = .ok (.iload_n 1, 1) := by decide +kernel
theorem dJ9_min_7cf53_2 : decode cJ9_min_7cf53 2 = .ok (.if_icmp .gt 7, 3) := by decide +kernel
theorem dJ9_min_7cf53_5 : decode cJ9_min_7cf53 5 = .ok (.iload_n 0, 1) := by decide +kernel
theorem dJ9_min_7cf53_6 : decode cJ9_min_7cf53 6 = .ok (.goto 4, 3) := by decide +kernel
theorem dJ9_min_7cf53_9 : decode cJ9_min_7cf53 9 = .ok (.iload_n 1, 1) := by decide +kernel
theorem dJ9_min_7cf53_10 : decode cJ9_min_7cf53 10 = .ok (.ireturn, 1) := by decide +kernel
theorem dJ7_fill_53178_0 : decode cJ7_fill_53178 0 = .ok (.iconst 0, 1) := by decide +kernel
theorem dJ7_fill_53178_1 : decode cJ7_fill_53178 1 = .ok (.istore_n 2, 1) := by decide +kernel
theorem dJ7_fill_53178_2 : decode cJ7_fill_53178 2 = .ok (.aload_n 0, 1) := by decide +kernel
theorem dJ7_fill_53178_3 : decode cJ7_fill_53178 3 = .ok (.arraylength, 1) := by decide +kernel
theorem dJ7_fill_53178_4 : decode cJ7_fill_53178 4 = .ok (.istore_n 3, 1) := by decide +kernel
theorem dJ7_fill_53178_5 : decode cJ7_fill_53178 5 = .ok (.iload_n 2, 1) := by decide +kernel
theorem dJ7_fill_53178_6 : decode cJ7_fill_53178 6 = .ok (.iload_n 3, 1) := by decide +kernel
theorem dJ7_fill_53178_7 : decode cJ7_fill_53178 7 = .ok (.if_icmp .ge 13, 3) := by decide +kernel
theorem dJ7_fill_53178_10 : decode cJ7_fill_53178 10 = .ok (.aload_n 0, 1) := by decide +kernel
theorem dJ7_fill_53178_11 : decode cJ7_fill_53178 11 = .ok (.iload_n 2, 1) := by decide +kernel
theorem dJ7_fill_53178_12 : decode cJ7_fill_53178 12 = .ok (.iload_n 1, 1) := by decide +kernel
theorem dJ7_fill_53178_13 : decode cJ7_fill_53178 13 = .ok (.iastore, 1) := by decide +kernel
theorem dJ7_fill_53178_14 : decode cJ7_fill_53178 14 = .ok (.iinc 2 1, 3) := by decide +kernel
theorem dJ7_fill_53178_17 : decode cJ7_fill_53178 17 = .ok (.goto (-12), 3) := by decide +kernel
theorem dJ7_fill_53178_20 : decode cJ7_fill_53178 20 = .ok (.return_, 1) := by decide +kernel
end
section
theorem dX4_init_0 : decode cX4_init 0 = .ok (.aload_n 0, 1) := by decide +kernel
theorem dX4_init_1 : decode cX4_init 1 = .ok (.invokespecial 3, 3) := by decide +kernel
theorem dX4_init_4 : decode cX4_init 4 = .ok (.aload_n 0, 1) := by decide +kernel
theorem dX4_init_5 : decode cX4_init 5 = .ok (.iconst 5, 1) := by decide +kernel
theorem dX4_init_6 : decode cX4_init 6 = .ok (.newarray .int, 2) := by decide +kernel
theorem dX4_init_8 : decode cX4_init 8 = .ok (.putfield 9, 3) := by decide +kernel
theorem dX4_init_11 : decode cX4_init 11 = .ok (.aload_n 0, 1) := by decide +kernel
theorem dX4_init_12 : decode cX4_init 12 = .ok (.iconst 5, 1) := by decide +kernel
theorem dX4_init_13 : decode cX4_init 13 = .ok (.newarray .int, 2) := by decide +kernel
theorem dX4_init_15 : decode cX4_init 15 = .ok (.putfield 13, 3) := by decide +kernel
theorem dX4_init_18 : decode cX4_init 18 = .ok (.aload_n 0, 1) := by decide +kernel
theorem dX4_init_19 : decode cX4_init 19 = .ok (.new 16, 3) := by decide +kernel
theorem dX4_init_22 : decode cX4_init 22 = .ok (.dup, 1) := by decide +kernel
theorem dX4_init_23 : decode cX4_init 23 = .ok (.invokespecial 18, 3) := by decide +kernel
theorem dX4_init_26 : decode cX4_init 26 = .ok (.putfield 19, 3) := by decide +kernel
theorem dX4_init_29 : decode cX4_init 29 = .ok (.aload_n 0, 1) := by decide +kernel
theorem dX4_init_30 : decode cX4_init 30 = .ok (.bipush 20, 2) := by decide +kernel
theorem dX4_init_32 : decode cX4_init 32 = .ok (.anewarray 23, 3) := by decide +kernel
theorem dX4_init_35 : decode cX4_init 35 = .ok (.putfield 25, 3) := by decide +kernel
theorem dX4_init_38 : decode cX4_init 38 = .ok (.aload_n 0, 1) := by decide +kernel
theorem dX4_init_39 : decode cX4_init 39 = .ok (.bipush 60, 2) := by decide +kernel
theorem dX4_init_41 : decode cX4_init 41 = .ok (.anewarray 29, 3) := by decide +kernel
theorem dX4_init_44 : decode cX4_init 44 = .ok (.putfield 31, 3) := by decide +kernel
theorem dX4_init_47 : decode cX4_init 47 = .ok (.aload_n 0, 1) := by decide +kernel
theorem dX4_init_48 : decode cX4_init 48 = .ok (.new 35, 3) := by decide +kernel
theorem dX4_init_51 : decode cX4_init 51 = .ok (.dup, 1) := by decide +kernel
theorem dX4_init_52 : decode cX4_init 52 = .ok (.invokespecial 37, 3) := by decide +kernel
theorem dX4_init_55 : decode cX4_init 55 = .ok (.putfield 38, 3) := by decide +kernel
theorem dX4_init_58 : decode cX4_init 58 = .ok (.aload_n 0, 1) := by decide +kernel
theorem dX4_init_59 : decode cX4_init 59 = .ok (.getfield 9, 3) := by decide +kernel
theorem dX4_init_62 : decode cX4_init 62 = .ok (.iconst 1, 1) := by decide +kernel
theorem dX4_init_63 : decode cX4_init 63 = .ok (.invokestatic 42, 3) := by decide +kernel
theorem dX4_init_66 : decode cX4_init 66 = .ok (.aload_n 0, 1) := by decide +kernel
theorem dX4_init_67 : decode cX4_init 67 = .ok (.getfield 13, 3) := by decide +kernel
theorem dX4_init_70 : decode cX4_init 70 = .ok (.bipush 10, 2) := by decide +kernel
theorem dX4_init_72 : decode cX4_init 72 = .ok (.invokestatic 42, 3) := by decide +kernel
theorem dX4_init_75 : decode cX4_init 75 = .ok (.return_, 1) := by decide +kernel
theorem dX4_tariff_0 : decode cX4_tariff 0 = .ok (.iload_n 1, 1) := by decide +kernel
theorem dX4_tariff_1 : decode cX4_tariff 1 = .ok (.invokestatic 48, 3) := by decide +kernel
theorem dX4_tariff_4 : decode cX4_tariff 4 = .ok (.iload_n 2, 1) := by decide +kernel
theorem dX4_tariff_5 : decode cX4_tariff 5 = .ok (.iconst 1, 1) := by decide +kernel
theorem dX4_tariff_6 : decode cX4_tariff 6 = .ok (.bipush 10, 2) := by decide +kernel
theorem dX4_tariff_8 : decode cX4_tariff 8 = .ok (.invokestatic 52, 3) := by decide +kernel
theorem dX4_tariff_11 : decode cX4_tariff 11 = .ok (.ifCond .eq 14, 3) := by decide +kernel
theorem dX4_tariff_14 : decode cX4_tariff 14 = .ok (.iload_n 3, 1) := by decide +kernel
theorem dX4_tariff_15 : decode cX4_tariff 15 = .ok (.iconst 0, 1) := by decide +kernel
theorem dX4_tariff_16 : decode cX4_tariff 16 = .ok (.sipush 1000, 3) := by decide +kernel
theorem dX4_tariff_19 : decode cX4_tariff 19 = .ok (.invokestatic 52, 3) := by decide +kernel
theorem dX4_tariff_22 : decode cX4_tariff 22 = .ok (.ifCond .ne 13, 3) := by decide +kernel
theorem dX4_tariff_25 : decode cX4_tariff 25 = .ok (.new 56, 3) := by decide +kernel
theorem dX4_tariff_28 : decode cX4_tariff 28 = .ok (.dup, 1) := by decide +kernel
theorem dX4_tariff_29 : decode cX4_tariff 29 = .ok (.ldc 58, 2) := by decide +kernel
theorem dX4_tariff_31 : decode cX4_tariff 31 = .ok (.invokespecial 60, 3) := by decide +kernel
theorem dX4_tariff_34 : decode cX4_tariff 34 = .ok (.athrow, 1) := by decide +kernel
theorem dX4_tariff_35 : decode cX4_tariff 35 = .ok (.aload_n 0, 1) := by decide +kernel
theorem dX4_tariff_36 : decode cX4_tariff 36 = .ok (.getfield 13, 3) := by decide +kernel
theorem dX4_tariff_39 : decode cX4_tariff 39 = .ok (.iload_n 1, 1) := by decide +kernel
theorem dX4_tariff_40 : decode cX4_tariff 40 = .ok (.iaload, 1) := by decide +kernel
theorem dX4_tariff_41 : decode cX4_tariff 41 = .ok (.istore 4, 2) := by decide +kernel
theorem dX4_tariff_43 : decode cX4_tariff 43 = .ok (.aload_n 0, 1) := by decide +kernel
theorem dX4_tariff_44 : decode cX4_tariff 44 = .ok (.getfield 9, 3) := by decide +kernel
theorem dX4_tariff_47 : decode cX4_tariff 47 = .ok (.iload_n 1, 1) := by decide +kernel
theorem dX4_tariff_48 : decode cX4_tariff 48 = .ok (.iload_n 2, 1) := by decide +kernel
theorem dX4_tariff_49 : decode cX4_tariff 49 = .ok (.iastore, 1) := by decide +kernel
theorem dX4_tariff_50 : decode cX4_tariff 50 = .ok (.aload_n 0, 1) := by decide +kernel
theorem dX4_tariff_51 : decode cX4_tariff 51 = .ok (.getfield 13, 3) := by decide +kernel
theorem dX4_tariff_54 : decode cX4_tariff 54 = .ok (.iload_n 1, 1) := by decide +kernel
theorem dX4_tariff_55 : decode cX4_tariff 55 = .ok (.iload_n 3, 1) := by decide +kernel
theorem dX4_tariff_56 : decode cX4_tariff 56 = .ok (.iastore, 1) := by decide +kernel
theorem dX4_tariff_57 : decode cX4_tariff 57 = .ok (.iload 4, 2) := by decide +kernel
theorem dX4_tariff_59 : decode cX4_tariff 59 = .ok (.ireturn, 1) := by decide +kernel
theorem dX4_link_0 : decode cX4_link 0 = .ok (.iload_n 1, 1) := by decide +kernel
theorem dX4_link_1 : decode cX4_link 1 = .ok (.invokestatic 48, 3) := by decide +kernel
theorem dX4_link_4 : decode cX4_link 4 = .ok (.iload_n 2, 1) := by decide +kernel
theorem dX4_link_5 : decode cX4_link 5 = .ok (.invokestatic 48, 3) := by decide +kernel
theorem dX4_link_8 : decode cX4_link 8 = .ok (.iload_n 1, 1) := by decide +kernel
theorem dX4_link_9 : decode cX4_link 9 = .ok (.iload_n 2, 1) := by decide +kernel
theorem dX4_link_10 : decode cX4_link 10 = .ok (.if_icmp .eq 24, 3) := by decide +kernel
theorem dX4_link_13 : decode cX4_link 13 = .ok (.iload_n 3, 1) := by decide +kernel
theorem dX4_link_14 : decode cX4_link 14 = .ok (.iconst 0, 1) := by decide +kernel
theorem dX4_link_15 : decode cX4_link 15 = .ok (.bipush 100, 2) := by decide +kernel
theorem dX4_link_17 : decode cX4_link 17 = .ok (.invokestatic 52, 3) := by decide +kernel
theorem dX4_link_20 : decode cX4_link 20 = .ok (.ifCond .eq 14, 3) := by decide +kernel
theorem dX4_link_23 : decode cX4_link 23 = .ok (.iload 4, 2) := by decide +kernel
theorem dX4_link_25 : decode cX4_link 25 = .ok (.iconst 0, 1) := by decide +kernel
theorem dX4_link_26 : decode cX4_link 26 = .ok (.ldc 63, 2) := by decide +kernel
theorem dX4_link_28 : decode cX4_link 28 = .ok (.invokestatic 52, 3) := by decide +kernel
theorem dX4_link_31 : decode cX4_link 31 = .ok (.ifCond .ne 13, 3) := by decide +kernel
theorem dX4_link_34 : decode cX4_link 34 = .ok (.new 56, 3) := by decide +kernel
theorem dX4_link_37 : decode cX4_link 37 = .ok (.dup, 1) := by decide +kernel
theorem dX4_link_38 : decode cX4_link 38 = .ok (.ldc 64, 2) := by decide +kernel
theorem dX4_link_40 : decode cX4_link 40 = .ok (.invokespecial 60, 3) := by decide +kernel
theorem dX4_link_43 : decode cX4_link 43 = .ok (.athrow, 1) := by decide +kernel
theorem dX4_link_44 : decode cX4_link 44 = .ok (.aload_n 0, 1) := by decide +kernel
theorem dX4_link_45 : decode cX4_link 45 = .ok (.getfield 19, 3) := by decide +kernel
theorem dX4_link_48 : decode cX4_link 48 = .ok (.iload_n 1, 1) := by decide +kernel
theorem dX4_link_49 : decode cX4_link 49 = .ok (.iload_n 2, 1) := by decide +kernel
theorem dX4_link_50 : decode cX4_link 50 = .ok (.invokevirtual 66, 3) := by decide +kernel
theorem dX4_link_53 : decode cX4_link 53 = .ok (.iconst (-1), 1) := by decide +kernel
theorem dX4_link_54 : decode cX4_link 54 = .ok (.if_icmp .eq 7, 3) := by decide +kernel
theorem dX4_link_57 : decode cX4_link 57 = .ok (.iconst 1, 1) := by decide +kernel
theorem dX4_link_58 : decode cX4_link 58 = .ok (.goto 4, 3) := by decide +kernel
theorem dX4_link_61 : decode cX4_link 61 = .ok (.iconst 0, 1) := by decide +kernel
theorem dX4_link_62 : decode cX4_link 62 = .ok (.istore 5, 2) := by decide +kernel
theorem dX4_link_64 : decode cX4_link 64 = .ok (.aload_n 0, 1) := by decide +kernel
theorem dX4_link_65 : decode cX4_link 65 = .ok (.getfield 19, 3) := by decide +kernel
theorem dX4_link_68 : decode cX4_link 68 = .ok (.iload_n 1, 1) := by decide +kernel
theorem dX4_link_69 : decode cX4_link 69 = .ok (.iload_n 2, 1) := by decide +kernel
theorem dX4_link_70 : decode cX4_link 70 = .ok (.iload_n 3, 1) := by decide +kernel
theorem dX4_link_71 : decode cX4_link 71 = .ok (.iload 4, 2) := by decide +kernel
theorem dX4_link_73 : decode cX4_link 73 = .ok (.invokevirtual 70, 3) := by decide +kernel
theorem dX4_link_76 : decode cX4_link 76 = .ok (.iload 5, 2) := by decide +kernel
theorem dX4_link_78 : decode cX4_link 78 = .ok (.ireturn, 1) := by decide +kernel
theorem dX4_unlink_0 : decode cX4_unlink 0 = .ok (.iload_n 1, 1) := by decide +kernel
theorem dX4_unlink_1 : decode cX4_unlink 1 = .ok (.invokestatic 48, 3) := by decide +kernel
theorem dX4_unlink_4 : decode cX4_unlink 4 = .ok (.iload_n 2, 1) := by decide +kernel
theorem dX4_unlink_5 : decode cX4_unlink 5 = .ok (.invokestatic 48, 3) := by decide +kernel
theorem dX4_unlink_8 : decode cX4_unlink 8 = .ok (.aload_n 0, 1) := by decide +kernel
theorem dX4_unlink_9 : decode cX4_unlink 9 = .ok (.getfield 19, 3) := by decide +kernel
theorem dX4_unlink_12 : decode cX4_unlink 12 = .ok (.iload_n 1, 1) := by decide +kernel
theorem dX4_unlink_13 : decode cX4_unlink 13 = .ok (.iload_n 2, 1) := by decide +kernel
theorem dX4_unlink_14 : decode cX4_unlink 14 = .ok (.invokevirtual 66, 3) := by decide +kernel
theorem dX4_unlink_17 : decode cX4_unlink 17 = .ok (.istore_n 3, 1) := by decide +kernel
theorem dX4_unlink_18 : decode cX4_unlink 18 = .ok (.iload_n 3, 1) := by decide +kernel
theorem dX4_unlink_19 : decode cX4_unlink 19 = .ok (.iconst (-1), 1) := by decide +kernel
theorem dX4_unlink_20 : decode cX4_unlink 20 = .ok (.if_icmp .ne 13, 3) := by decide +kernel
theorem dX4_unlink_23 : decode cX4_unlink 23 = .ok (.new 74, 3) := by decide +kernel
theorem dX4_unlink_26 : decode cX4_unlink 26 = .ok (.dup, 1) := by decide +kernel
theorem dX4_unlink_27 : decode cX4_unlink 27 = .ok (.ldc 76, 2) := by decide +kernel
theorem dX4_unlink_29 : decode cX4_unlink 29 = .ok (.invokespecial 78, 3) := by decide +kernel
theorem dX4_unlink_32 : decode cX4_unlink 32 = .ok (.athrow, 1) := by decide +kernel
theorem dX4_unlink_33 : decode cX4_unlink 33 = .ok (.aload_n 0, 1) := by decide +kernel
theorem dX4_unlink_34 : decode cX4_unlink 34 = .ok (.getfield 19, 3) := by decide +kernel
theorem dX4_unlink_37 : decode cX4_unlink 37 = .ok (.iload_n 1, 1) := by decide +kernel
theorem dX4_unlink_38 : decode cX4_unlink 38 = .ok (.iload_n 2, 1) := by decide +kernel
theorem dX4_unlink_39 : decode cX4_unlink 39 = .ok (.iconst (-1), 1) := by decide +kernel
theorem dX4_unlink_40 : decode cX4_unlink 40 = .ok (.iconst 0, 1) := by decide +kernel
theorem dX4_unlink_41 : decode cX4_unlink 41 = .ok (.invokevirtual 70, 3) := by decide +kernel
theorem dX4_unlink_44 : decode cX4_unlink 44 = .ok (.iload_n 3, 1) := by decide +kernel
theorem dX4_unlink_45 : decode cX4_unlink 45 = .ok (.ireturn, 1) := by decide +kernel
theorem dX4_number_0 : decode cX4_number 0 = .ok (.iload_n 1, 1) := by decide +kernel
theorem dX4_number_1 : decode cX4_number 1 = .ok (.invokestatic 48, 3) := by decide +kernel
theorem dX4_number_4 : decode cX4_number 4 = .ok (.iload_n 2, 1) := by decide +kernel
theorem dX4_number_5 : decode cX4_number 5 = .ok (.iload_n 3, 1) := by decide +kernel
theorem dX4_number_6 : decode cX4_number 6 = .ok (.invokestatic 79, 3) := by decide +kernel
theorem dX4_number_9 : decode cX4_number 9 = .ok (.aload_n 0, 1) := by decide +kernel
theorem dX4_number_10 : decode cX4_number 10 = .ok (.getfield 83, 3) := by decide +kernel
theorem dX4_number_13 : decode cX4_number 13 = .ok (.istore 4, 2) := by decide +kernel
theorem dX4_number_15 : decode cX4_number 15 = .ok (.iload 4, 2) := by decide +kernel
theorem dX4_number_17 : decode cX4_number 17 = .ok (.ifCond .lt 10, 3) := by decide +kernel
theorem dX4_number_20 : decode cX4_number 20 = .ok (.iload 4, 2) := by decide +kernel
theorem dX4_number_22 : decode cX4_number 22 = .ok (.bipush 20, 2) := by decide +kernel
theorem dX4_number_24 : decode cX4_number 24 = .ok (.if_icmp .lt 13, 3) := by decide +kernel
theorem dX4_number_27 : decode cX4_number 27 = .ok (.new 74, 3) := by decide +kernel
theorem dX4_number_30 : decode cX4_number 30 = .ok (.dup, 1) := by decide +kernel
theorem dX4_number_31 : decode cX4_number 31 = .ok (.ldc 87, 2) := by decide +kernel
theorem dX4_number_33 : decode cX4_number 33 = .ok (.invokespecial 78, 3) := by decide +kernel
theorem dX4_number_36 : decode cX4_number 36 = .ok (.athrow, 1) := by decide +kernel
theorem dX4_number_37 : decode cX4_number 37 = .ok (.aload_n 0, 1) := by decide +kernel
theorem dX4_number_38 : decode cX4_number 38 = .ok (.getfield 25, 3) := by decide +kernel
theorem dX4_number_41 : decode cX4_number 41 = .ok (.iload 4, 2) := by decide +kernel
theorem dX4_number_43 : decode cX4_number 43 = .ok (.new 23, 3) := by decide +kernel
theorem dX4_number_46 : decode cX4_number 46 = .ok (.dup, 1) := by decide +kernel
theorem dX4_number_47 : decode cX4_number 47 = .ok (.iload_n 1, 1) := by decide +kernel
theorem dX4_number_48 : decode cX4_number 48 = .ok (.iload_n 2, 1) := by decide +kernel
theorem dX4_number_49 : decode cX4_number 49 = .ok (.iload_n 3, 1) := by decide +kernel
theorem dX4_number_50 : decode cX4_number 50 = .ok (.invokespecial 89, 3) := by decide +kernel
theorem dX4_number_53 : decode cX4_number 53 = .ok (.aastore, 1) := by decide +kernel
theorem dX4_number_54 : decode cX4_number 54 = .ok (.aload_n 0, 1) := by decide +kernel
theorem dX4_number_55 : decode cX4_number 55 = .ok (.dup, 1) := by decide +kernel
theorem dX4_number_56 : decode cX4_number 56 = .ok (.getfield 83, 3) := by decide +kernel
theorem dX4_number_59 : decode cX4_number 59 = .ok (.iconst 1, 1) := by decide +kernel
theorem dX4_number_60 : decode cX4_number 60 = .ok (.iadd, 1) := by decide +kernel
theorem dX4_number_61 : decode cX4_number 61 = .ok (.putfield 83, 3) := by decide +kernel
theorem dX4_number_64 : decode cX4_number 64 = .ok (.iload 4, 2) := by decide +kernel
theorem dX4_number_66 : decode cX4_number 66 = .ok (.ireturn, 1) := by decide +kernel
theorem dX4_carryOver_0 : decode cX4_carryOver 0 = .ok (.aload_n 0, 1) := by decide +kernel
theorem dX4_carryOver_1 : decode cX4_carryOver 1 = .ok (.iload_n 1, 1) := by decide +kernel
theorem dX4_carryOver_2 : decode cX4_carryOver 2 = .ok (.invokevirtual 92, 3) := by decide +kernel
theorem dX4_carryOver_5 : decode cX4_carryOver 5 = .ok (.astore_n 3, 1) := by decide +kernel
theorem dX4_carryOver_6 : decode cX4_carryOver 6 = .ok (.iload_n 2, 1) := by decide +kernel
theorem dX4_carryOver_7 : decode cX4_carryOver 7 = .ok (.invokestatic 48, 3) := by decide +kernel
theorem dX4_carryOver_10 : decode cX4_carryOver 10 = .ok (.aload_n 3, 1) := by decide +kernel
theorem dX4_carryOver_11 : decode cX4_carryOver 11 = .ok (.iconst 0, 1) := by decide +kernel
theorem dX4_carryOver_12 : decode cX4_carryOver 12 = .ok (.invokevirtual 96, 3) := by decide +kernel
theorem dX4_carryOver_15 : decode cX4_carryOver 15 = .ok (.iload_n 2, 1) := by decide +kernel
theorem dX4_carryOver_16 : decode cX4_carryOver 16 = .ok (.if_icmp .ne 13, 3) := by decide +kernel
theorem dX4_carryOver_19 : decode cX4_carryOver 19 = .ok (.new 56, 3) := by decide +kernel
theorem dX4_carryOver_22 : decode cX4_carryOver 22 = .ok (.dup, 1) := by decide +kernel
theorem dX4_carryOver_23 : decode cX4_carryOver 23 = .ok (.ldc 100, 2) := by decide +kernel
theorem dX4_carryOver_25 : decode cX4_carryOver 25 = .ok (.invokespecial 60, 3) := by decide +kernel
theorem dX4_carryOver_28 : decode cX4_carryOver 28 = .ok (.athrow, 1) := by decide +kernel
theorem dX4_carryOver_29 : decode cX4_carryOver 29 = .ok (.aload_n 3, 1) := by decide +kernel
theorem dX4_carryOver_30 : decode cX4_carryOver 30 = .ok (.iload_n 2, 1) := by decide +kernel
theorem dX4_carryOver_31 : decode cX4_carryOver 31 = .ok (.invokevirtual 102, 3) := by decide +kernel
theorem dX4_carryOver_34 : decode cX4_carryOver 34 = .ok (.ifCond .ne 13, 3) := by decide +kernel
theorem dX4_carryOver_37 : decode cX4_carryOver 37 = .ok (.new 74, 3) := by decide +kernel
theorem dX4_carryOver_40 : decode cX4_carryOver 40 = .ok (.dup, 1) := by decide +kernel
theorem dX4_carryOver_41 : decode cX4_carryOver 41 = .ok (.ldc 106, 2) := by decide +kernel
theorem dX4_carryOver_43 : decode cX4_carryOver 43 = .ok (.invokespecial 78, 3) := by decide +kernel
theorem dX4_carryOver_46 : decode cX4_carryOver 46 = .ok (.athrow, 1) := by decide +kernel
theorem dX4_carryOver_47 : decode cX4_carryOver 47 = .ok (.aload_n 3, 1) := by decide +kernel
theorem dX4_carryOver_48 : decode cX4_carryOver 48 = .ok (.getfield 108, 3) := by decide +kernel
theorem dX4_carryOver_51 : decode cX4_carryOver 51 = .ok (.ireturn, 1) := by decide +kernel
theorem dX4_home_0 : decode cX4_home 0 = .ok (.aload_n 0, 1) := by decide +kernel
theorem dX4_home_1 : decode cX4_home 1 = .ok (.iload_n 1, 1) := by decide +kernel
theorem dX4_home_2 : decode cX4_home 2 = .ok (.invokevirtual 92, 3) := by decide +kernel
theorem dX4_home_5 : decode cX4_home 5 = .ok (.iload_n 2, 1) := by decide +kernel
theorem dX4_home_6 : decode cX4_home 6 = .ok (.invokevirtual 96, 3) := by decide +kernel
theorem dX4_home_9 : decode cX4_home 9 = .ok (.istore_n 3, 1) := by decide +kernel
theorem dX4_home_10 : decode cX4_home 10 = .ok (.iload_n 3, 1) := by decide +kernel
theorem dX4_home_11 : decode cX4_home 11 = .ok (.iconst (-1), 1) := by decide +kernel
theorem dX4_home_12 : decode cX4_home 12 = .ok (.if_icmp .ne 13, 3) := by decide +kernel
theorem dX4_home_15 : decode cX4_home 15 = .ok (.new 111, 3) := by decide +kernel
theorem dX4_home_18 : decode cX4_home 18 = .ok (.dup, 1) := by decide +kernel
theorem dX4_home_19 : decode cX4_home 19 = .ok (.ldc 113, 2) := by decide +kernel
theorem dX4_home_21 : decode cX4_home 21 = .ok (.invokespecial 115, 3) := by decide +kernel
theorem dX4_home_24 : decode cX4_home 24 = .ok (.athrow, 1) := by decide +kernel
theorem dX4_home_25 : decode cX4_home 25 = .ok (.iload_n 3, 1) := by decide +kernel
theorem dX4_home_26 : decode cX4_home 26 = .ok (.ireturn, 1) := by decide +kernel
theorem dX4_topUp_0 : decode cX4_topUp 0 = .ok (.aload_n 0, 1) := by decide +kernel
theorem dX4_topUp_1 : decode cX4_topUp 1 = .ok (.iload_n 1, 1) := by decide +kernel
theorem dX4_topUp_2 : decode cX4_topUp 2 = .ok (.invokevirtual 92, 3) := by decide +kernel
theorem dX4_topUp_5 : decode cX4_topUp 5 = .ok (.astore 4, 2) := by decide +kernel
theorem dX4_topUp_7 : decode cX4_topUp 7 = .ok (.iload_n 2, 1) := by decide +kernel
theorem dX4_topUp_8 : decode cX4_topUp 8 = .ok (.iload_n 3, 1) := by decide +kernel
theorem dX4_topUp_9 : decode cX4_topUp 9 = .ok (.invokestatic 79, 3) := by decide +kernel
theorem dX4_topUp_12 : decode cX4_topUp 12 = .ok (.aload 4, 2) := by decide +kernel
theorem dX4_topUp_14 : decode cX4_topUp 14 = .ok (.getfield 116, 3) := by decide +kernel
theorem dX4_topUp_17 : decode cX4_topUp 17 = .ok (.iload_n 2, 1) := by decide +kernel
theorem dX4_topUp_18 : decode cX4_topUp 18 = .ok (.iadd, 1) := by decide +kernel
theorem dX4_topUp_19 : decode cX4_topUp 19 = .ok (.istore 5, 2) := by decide +kernel
theorem dX4_topUp_21 : decode cX4_topUp 21 = .ok (.aload 4, 2) := by decide +kernel
theorem dX4_topUp_23 : decode cX4_topUp 23 = .ok (.getfield 119, 3) := by decide +kernel
theorem dX4_topUp_26 : decode cX4_topUp 26 = .ok (.iload_n 3, 1) := by decide +kernel
theorem dX4_topUp_27 : decode cX4_topUp 27 = .ok (.iadd, 1) := by decide +kernel
theorem dX4_topUp_28 : decode cX4_topUp 28 = .ok (.istore 6, 2) := by decide +kernel
theorem dX4_topUp_30 : decode cX4_topUp 30 = .ok (.iload 5, 2) := by decide +kernel
theorem dX4_topUp_32 : decode cX4_topUp 32 = .ok (.ldc 122, 2) := by decide +kernel
theorem dX4_topUp_34 : decode cX4_topUp 34 = .ok (.if_icmp .gt 10, 3) := by decide +kernel
theorem dX4_topUp_37 : decode cX4_topUp 37 = .ok (.iload 6, 2) := by decide +kernel
theorem dX4_topUp_39 : decode cX4_topUp 39 = .ok (.ldc 63, 2) := by decide +kernel
theorem dX4_topUp_41 : decode cX4_topUp 41 = .ok (.if_icmp .le 13, 3) := by decide +kernel
theorem dX4_topUp_44 : decode cX4_topUp 44 = .ok (.new 74, 3) := by decide +kernel
theorem dX4_topUp_47 : decode cX4_topUp 47 = .ok (.dup, 1) := by decide +kernel
theorem dX4_topUp_48 : decode cX4_topUp 48 = .ok (.ldc 123, 2) := by decide +kernel
theorem dX4_topUp_50 : decode cX4_topUp 50 = .ok (.invokespecial 78, 3) := by decide +kernel
theorem dX4_topUp_53 : decode cX4_topUp 53 = .ok (.athrow, 1) := by decide +kernel
theorem dX4_topUp_54 : decode cX4_topUp 54 = .ok (.aload 4, 2) := by decide +kernel
theorem dX4_topUp_56 : decode cX4_topUp 56 = .ok (.iload 5, 2) := by decide +kernel
theorem dX4_topUp_58 : decode cX4_topUp 58 = .ok (.putfield 116, 3) := by decide +kernel
theorem dX4_topUp_61 : decode cX4_topUp 61 = .ok (.aload 4, 2) := by decide +kernel
theorem dX4_topUp_63 : decode cX4_topUp 63 = .ok (.iload 6, 2) := by decide +kernel
theorem dX4_topUp_65 : decode cX4_topUp 65 = .ok (.putfield 119, 3) := by decide +kernel
theorem dX4_topUp_68 : decode cX4_topUp 68 = .ok (.iload 5, 2) := by decide +kernel
theorem dX4_topUp_70 : decode cX4_topUp 70 = .ok (.ireturn, 1) := by decide +kernel
theorem dX4_balance_0 : decode cX4_balance 0 = .ok (.aload_n 0, 1) := by decide +kernel
theorem dX4_balance_1 : decode cX4_balance 1 = .ok (.iload_n 1, 1) := by decide +kernel
theorem dX4_balance_2 : decode cX4_balance 2 = .ok (.invokevirtual 92, 3) := by decide +kernel
theorem dX4_balance_5 : decode cX4_balance 5 = .ok (.getfield 116, 3) := by decide +kernel
theorem dX4_balance_8 : decode cX4_balance 8 = .ok (.ireturn, 1) := by decide +kernel
theorem dX4_bundle_0 : decode cX4_bundle 0 = .ok (.aload_n 0, 1) := by decide +kernel
theorem dX4_bundle_1 : decode cX4_bundle 1 = .ok (.iload_n 1, 1) := by decide +kernel
theorem dX4_bundle_2 : decode cX4_bundle 2 = .ok (.invokevirtual 92, 3) := by decide +kernel
theorem dX4_bundle_5 : decode cX4_bundle 5 = .ok (.getfield 119, 3) := by decide +kernel
theorem dX4_bundle_8 : decode cX4_bundle 8 = .ok (.ireturn, 1) := by decide +kernel
theorem dX4_call_0 : decode cX4_call 0 = .ok (.aload_n 0, 1) := by decide +kernel
theorem dX4_call_1 : decode cX4_call 1 = .ok (.iload_n 1, 1) := by decide +kernel
theorem dX4_call_2 : decode cX4_call 2 = .ok (.invokevirtual 92, 3) := by decide +kernel
theorem dX4_call_5 : decode cX4_call 5 = .ok (.astore_n 3, 1) := by decide +kernel
theorem dX4_call_6 : decode cX4_call 6 = .ok (.aload_n 0, 1) := by decide +kernel
theorem dX4_call_7 : decode cX4_call 7 = .ok (.iload_n 2, 1) := by decide +kernel
theorem dX4_call_8 : decode cX4_call 8 = .ok (.invokevirtual 92, 3) := by decide +kernel
theorem dX4_call_11 : decode cX4_call 11 = .ok (.astore 4, 2) := by decide +kernel
theorem dX4_call_13 : decode cX4_call 13 = .ok (.iload_n 1, 1) := by decide +kernel
theorem dX4_call_14 : decode cX4_call 14 = .ok (.iload_n 2, 1) := by decide +kernel
theorem dX4_call_15 : decode cX4_call 15 = .ok (.if_icmp .ne 13, 3) := by decide +kernel
theorem dX4_call_18 : decode cX4_call 18 = .ok (.new 56, 3) := by decide +kernel
theorem dX4_call_21 : decode cX4_call 21 = .ok (.dup, 1) := by decide +kernel
theorem dX4_call_22 : decode cX4_call 22 = .ok (.ldc 125, 2) := by decide +kernel
theorem dX4_call_24 : decode cX4_call 24 = .ok (.invokespecial 60, 3) := by decide +kernel
theorem dX4_call_27 : decode cX4_call 27 = .ok (.athrow, 1) := by decide +kernel
theorem dX4_call_28 : decode cX4_call 28 = .ok (.aload_n 0, 1) := by decide +kernel
theorem dX4_call_29 : decode cX4_call 29 = .ok (.aload_n 3, 1) := by decide +kernel
theorem dX4_call_30 : decode cX4_call 30 = .ok (.invokevirtual 127, 3) := by decide +kernel
theorem dX4_call_33 : decode cX4_call 33 = .ok (.ifCond .ne 12, 3) := by decide +kernel
theorem dX4_call_36 : decode cX4_call 36 = .ok (.aload_n 0, 1) := by decide +kernel
theorem dX4_call_37 : decode cX4_call 37 = .ok (.aload 4, 2) := by decide +kernel
theorem dX4_call_39 : decode cX4_call 39 = .ok (.invokevirtual 127, 3) := by decide +kernel
theorem dX4_call_42 : decode cX4_call 42 = .ok (.ifCond .eq 13, 3) := by decide +kernel
theorem dX4_call_45 : decode cX4_call 45 = .ok (.new 74, 3) := by decide +kernel
theorem dX4_call_48 : decode cX4_call 48 = .ok (.dup, 1) := by decide +kernel
theorem dX4_call_49 : decode cX4_call 49 = .ok (.ldc 131, 2) := by decide +kernel
theorem dX4_call_51 : decode cX4_call 51 = .ok (.invokespecial 78, 3) := by decide +kernel
theorem dX4_call_54 : decode cX4_call 54 = .ok (.athrow, 1) := by decide +kernel
theorem dX4_call_55 : decode cX4_call 55 = .ok (.aload_n 0, 1) := by decide +kernel
theorem dX4_call_56 : decode cX4_call 56 = .ok (.getfield 133, 3) := by decide +kernel
theorem dX4_call_59 : decode cX4_call 59 = .ok (.istore 5, 2) := by decide +kernel
theorem dX4_call_61 : decode cX4_call 61 = .ok (.iload 5, 2) := by decide +kernel
theorem dX4_call_63 : decode cX4_call 63 = .ok (.ifCond .lt 10, 3) := by decide +kernel
theorem dX4_call_66 : decode cX4_call 66 = .ok (.iload 5, 2) := by decide +kernel
theorem dX4_call_68 : decode cX4_call 68 = .ok (.bipush 60, 2) := by decide +kernel
theorem dX4_call_70 : decode cX4_call 70 = .ok (.if_icmp .lt 13, 3) := by decide +kernel
theorem dX4_call_73 : decode cX4_call 73 = .ok (.new 74, 3) := by decide +kernel
theorem dX4_call_76 : decode cX4_call 76 = .ok (.dup, 1) := by decide +kernel
theorem dX4_call_77 : decode cX4_call 77 = .ok (.ldc 136, 2) := by decide +kernel
theorem dX4_call_79 : decode cX4_call 79 = .ok (.invokespecial 78, 3) := by decide +kernel
theorem dX4_call_82 : decode cX4_call 82 = .ok (.athrow, 1) := by decide +kernel
theorem dX4_call_83 : decode cX4_call 83 = .ok (.aload_n 0, 1) := by decide +kernel
theorem dX4_call_84 : decode cX4_call 84 = .ok (.getfield 19, 3) := by decide +kernel
theorem dX4_call_87 : decode cX4_call 87 = .ok (.aload_n 3, 1) := by decide +kernel
theorem dX4_call_88 : decode cX4_call 88 = .ok (.iconst 0, 1) := by decide +kernel
theorem dX4_call_89 : decode cX4_call 89 = .ok (.invokevirtual 96, 3) := by decide +kernel
theorem dX4_call_92 : decode cX4_call 92 = .ok (.aload 4, 2) := by decide +kernel
theorem dX4_call_94 : decode cX4_call 94 = .ok (.iconst 0, 1) := by decide +kernel
theorem dX4_call_95 : decode cX4_call 95 = .ok (.invokevirtual 96, 3) := by decide +kernel
theorem dX4_call_98 : decode cX4_call 98 = .ok (.aload_n 0, 1) := by decide +kernel
theorem dX4_call_99 : decode cX4_call 99 = .ok (.getfield 38, 3) := by decide +kernel
theorem dX4_call_102 : decode cX4_call 102 = .ok (.invokevirtual 138, 3) := by decide +kernel
theorem dX4_call_105 : decode cX4_call 105 = .ok (.ifCond .ne 13, 3) := by decide +kernel
theorem dX4_call_108 : decode cX4_call 108 = .ok (.new 74, 3) := by decide +kernel
theorem dX4_call_111 : decode cX4_call 111 = .ok (.dup, 1) := by decide +kernel
theorem dX4_call_112 : decode cX4_call 112 = .ok (.ldc 142, 2) := by decide +kernel
theorem dX4_call_114 : decode cX4_call 114 = .ok (.invokespecial 78, 3) := by decide +kernel
theorem dX4_call_117 : decode cX4_call 117 = .ok (.athrow, 1) := by decide +kernel
theorem dX4_call_118 : decode cX4_call 118 = .ok (.aload_n 0, 1) := by decide +kernel
theorem dX4_call_119 : decode cX4_call 119 = .ok (.getfield 31, 3) := by decide +kernel
theorem dX4_call_122 : decode cX4_call 122 = .ok (.iload 5, 2) := by decide +kernel
theorem dX4_call_124 : decode cX4_call 124 = .ok (.aload_n 0, 1) := by decide +kernel
theorem dX4_call_125 : decode cX4_call 125 = .ok (.aload_n 3, 1) := by decide +kernel
theorem dX4_call_126 : decode cX4_call 126 = .ok (.aload 4, 2) := by decide +kernel
theorem dX4_call_128 : decode cX4_call 128 = .ok (.aload_n 0, 1) := by decide +kernel
theorem dX4_call_129 : decode cX4_call 129 = .ok (.getfield 38, 3) := by decide +kernel
theorem dX4_call_132 : decode cX4_call 132 = .ok (.invokevirtual 144, 3) := by decide +kernel
theorem dX4_call_135 : decode cX4_call 135 = .ok (.aastore, 1) := by decide +kernel
theorem dX4_call_136 : decode cX4_call 136 = .ok (.aload_n 0, 1) := by decide +kernel
theorem dX4_call_137 : decode cX4_call 137 = .ok (.dup, 1) := by decide +kernel
theorem dX4_call_138 : decode cX4_call 138 = .ok (.getfield 133, 3) := by decide +kernel
theorem dX4_call_141 : decode cX4_call 141 = .ok (.iconst 1, 1) := by decide +kernel
theorem dX4_call_142 : decode cX4_call 142 = .ok (.iadd, 1) := by decide +kernel
theorem dX4_call_143 : decode cX4_call 143 = .ok (.putfield 133, 3) := by decide +kernel
theorem dX4_call_146 : decode cX4_call 146 = .ok (.iload 5, 2) := by decide +kernel
theorem dX4_call_148 : decode cX4_call 148 = .ok (.ireturn, 1) := by decide +kernel
theorem dX4_hangUp_0 : decode cX4_hangUp 0 = .ok (.aload_n 0, 1) := by decide +kernel
theorem dX4_hangUp_1 : decode cX4_hangUp 1 = .ok (.iload_n 1, 1) := by decide +kernel
theorem dX4_hangUp_2 : decode cX4_hangUp 2 = .ok (.invokevirtual 148, 3) := by decide +kernel
theorem dX4_hangUp_5 : decode cX4_hangUp 5 = .ok (.astore_n 2, 1) := by decide +kernel
theorem dX4_hangUp_6 : decode cX4_hangUp 6 = .ok (.aload_n 2, 1) := by decide +kernel
theorem dX4_hangUp_7 : decode cX4_hangUp 7 = .ok (.getfield 152, 3) := by decide +kernel
theorem dX4_hangUp_10 : decode cX4_hangUp 10 = .ok (.ifCond .eq 13, 3) := by decide +kernel
theorem dX4_hangUp_13 : decode cX4_hangUp 13 = .ok (.new 74, 3) := by decide +kernel
theorem dX4_hangUp_16 : decode cX4_hangUp 16 = .ok (.dup, 1) := by decide +kernel
theorem dX4_hangUp_17 : decode cX4_hangUp 17 = .ok (.ldc 155, 2) := by decide +kernel
theorem dX4_hangUp_19 : decode cX4_hangUp 19 = .ok (.invokespecial 78, 3) := by decide +kernel
theorem dX4_hangUp_22 : decode cX4_hangUp 22 = .ok (.athrow, 1) := by decide +kernel
theorem dX4_hangUp_23 : decode cX4_hangUp 23 = .ok (.aload_n 2, 1) := by decide +kernel
theorem dX4_hangUp_24 : decode cX4_hangUp 24 = .ok (.iconst 1, 1) := by decide +kernel
theorem dX4_hangUp_25 : decode cX4_hangUp 25 = .ok (.putfield 152, 3) := by decide +kernel
theorem dX4_hangUp_28 : decode cX4_hangUp 28 = .ok (.aload_n 2, 1) := by decide +kernel
theorem dX4_hangUp_29 : decode cX4_hangUp 29 = .ok (.getfield 157, 3) := by decide +kernel
theorem dX4_hangUp_32 : decode cX4_hangUp 32 = .ok (.ireturn, 1) := by decide +kernel
theorem dX4_pass_0 : decode cX4_pass 0 = .ok (.iload_n 1, 1) := by decide +kernel
theorem dX4_pass_1 : decode cX4_pass 1 = .ok (.iconst 1, 1) := by decide +kernel
theorem dX4_pass_2 : decode cX4_pass 2 = .ok (.sipush 200, 3) := by decide +kernel
theorem dX4_pass_5 : decode cX4_pass 5 = .ok (.invokestatic 52, 3) := by decide +kernel
theorem dX4_pass_8 : decode cX4_pass 8 = .ok (.ifCond .ne 13, 3) := by decide +kernel
theorem dX4_pass_11 : decode cX4_pass 11 = .ok (.new 56, 3) := by decide +kernel
theorem dX4_pass_14 : decode cX4_pass 14 = .ok (.dup, 1) := by decide +kernel
theorem dX4_pass_15 : decode cX4_pass 15 = .ok (.ldc 160, 2) := by decide +kernel
theorem dX4_pass_17 : decode cX4_pass 17 = .ok (.invokespecial 60, 3) := by decide +kernel
theorem dX4_pass_20 : decode cX4_pass 20 = .ok (.athrow, 1) := by decide +kernel
theorem dX4_pass_21 : decode cX4_pass 21 = .ok (.iconst 0, 1) := by decide +kernel
theorem dX4_pass_22 : decode cX4_pass 22 = .ok (.istore_n 2, 1) := by decide +kernel
theorem dX4_pass_23 : decode cX4_pass 23 = .ok (.iconst 0, 1) := by decide +kernel
theorem dX4_pass_24 : decode cX4_pass 24 = .ok (.istore_n 3, 1) := by decide +kernel
theorem dX4_pass_25 : decode cX4_pass 25 = .ok (.iload_n 3, 1) := by decide +kernel
theorem dX4_pass_26 : decode cX4_pass 26 = .ok (.iload_n 1, 1) := by decide +kernel
theorem dX4_pass_27 : decode cX4_pass 27 = .ok (.if_icmp .ge 74, 3) := by decide +kernel
theorem dX4_pass_30 : decode cX4_pass 30 = .ok (.aload_n 0, 1) := by decide +kernel
theorem dX4_pass_31 : decode cX4_pass 31 = .ok (.getfield 31, 3) := by decide +kernel
theorem dX4_pass_34 : decode cX4_pass 34 = .ok (.astore 4, 2) := by decide +kernel
theorem dX4_pass_36 : decode cX4_pass 36 = .ok (.aload 4, 2) := by decide +kernel
theorem dX4_pass_38 : decode cX4_pass 38 = .ok (.arraylength, 1) := by decide +kernel
theorem dX4_pass_39 : decode cX4_pass 39 = .ok (.istore 5, 2) := by decide +kernel
theorem dX4_pass_41 : decode cX4_pass 41 = .ok (.iconst 0, 1) := by decide +kernel
theorem dX4_pass_42 : decode cX4_pass 42 = .ok (.istore 6, 2) := by decide +kernel
theorem dX4_pass_44 : decode cX4_pass 44 = .ok (.iload 6, 2) := by decide +kernel
theorem dX4_pass_46 : decode cX4_pass 46 = .ok (.iload 5, 2) := by decide +kernel
theorem dX4_pass_48 : decode cX4_pass 48 = .ok (.if_icmp .ge 47, 3) := by decide +kernel
theorem dX4_pass_51 : decode cX4_pass 51 = .ok (.aload 4, 2) := by decide +kernel
theorem dX4_pass_53 : decode cX4_pass 53 = .ok (.iload 6, 2) := by decide +kernel
theorem dX4_pass_55 : decode cX4_pass 55 = .ok (.aaload, 1) := by decide +kernel
theorem dX4_pass_56 : decode cX4_pass 56 = .ok (.astore 7, 2) := by decide +kernel
theorem dX4_pass_58 : decode cX4_pass 58 = .ok (.aload 7, 2) := by decide +kernel
theorem dX4_pass_60 : decode cX4_pass 60 = .ok (.ifnull 29, 3) := by decide +kernel
theorem dX4_pass_63 : decode cX4_pass 63 = .ok (.aload 7, 2) := by decide +kernel
theorem dX4_pass_65 : decode cX4_pass 65 = .ok (.getfield 152, 3) := by decide +kernel
theorem dX4_pass_68 : decode cX4_pass 68 = .ok (.ifCond .ne 21, 3) := by decide +kernel
theorem dX4_pass_71 : decode cX4_pass 71 = .ok (.aload_n 0, 1) := by decide +kernel
theorem dX4_pass_72 : decode cX4_pass 72 = .ok (.aload 7, 2) := by decide +kernel
theorem dX4_pass_74 : decode cX4_pass 74 = .ok (.invokevirtual 162, 3) := by decide +kernel
theorem dX4_pass_77 : decode cX4_pass 77 = .ok (.ifCond .ne 12, 3) := by decide +kernel
theorem dX4_pass_80 : decode cX4_pass 80 = .ok (.aload 7, 2) := by decide +kernel
theorem dX4_pass_82 : decode cX4_pass 82 = .ok (.iconst 2, 1) := by decide +kernel
theorem dX4_pass_83 : decode cX4_pass 83 = .ok (.putfield 152, 3) := by decide +kernel
theorem dX4_pass_86 : decode cX4_pass 86 = .ok (.iinc 2 1, 3) := by decide +kernel
theorem dX4_pass_89 : decode cX4_pass 89 = .ok (.iinc 6 1, 3) := by decide +kernel
theorem dX4_pass_92 : decode cX4_pass 92 = .ok (.goto (-48), 3) := by decide +kernel
theorem dX4_pass_95 : decode cX4_pass 95 = .ok (.iinc 3 1, 3) := by decide +kernel
theorem dX4_pass_98 : decode cX4_pass 98 = .ok (.goto (-73), 3) := by decide +kernel
theorem dX4_pass_101 : decode cX4_pass 101 = .ok (.iload_n 2, 1) := by decide +kernel
theorem dX4_pass_102 : decode cX4_pass 102 = .ok (.ireturn, 1) := by decide +kernel
theorem dX4_state_0 : decode cX4_state 0 = .ok (.aload_n 0, 1) := by decide +kernel
theorem dX4_state_1 : decode cX4_state 1 = .ok (.iload_n 1, 1) := by decide +kernel
theorem dX4_state_2 : decode cX4_state 2 = .ok (.invokevirtual 148, 3) := by decide +kernel
theorem dX4_state_5 : decode cX4_state 5 = .ok (.getfield 152, 3) := by decide +kernel
theorem dX4_state_8 : decode cX4_state 8 = .ok (.ireturn, 1) := by decide +kernel
theorem dX4_minutes_0 : decode cX4_minutes 0 = .ok (.aload_n 0, 1) := by decide +kernel
theorem dX4_minutes_1 : decode cX4_minutes 1 = .ok (.iload_n 1, 1) := by decide +kernel
theorem dX4_minutes_2 : decode cX4_minutes 2 = .ok (.invokevirtual 148, 3) := by decide +kernel
theorem dX4_minutes_5 : decode cX4_minutes 5 = .ok (.getfield 157, 3) := by decide +kernel
theorem dX4_minutes_8 : decode cX4_minutes 8 = .ok (.ireturn, 1) := by decide +kernel
theorem dX4_moved_0 : decode cX4_moved 0 = .ok (.aload_n 0, 1) := by decide +kernel
theorem dX4_moved_1 : decode cX4_moved 1 = .ok (.iload_n 1, 1) := by decide +kernel
theorem dX4_moved_2 : decode cX4_moved 2 = .ok (.invokevirtual 148, 3) := by decide +kernel
theorem dX4_moved_5 : decode cX4_moved 5 = .ok (.getfield 166, 3) := by decide +kernel
theorem dX4_moved_8 : decode cX4_moved 8 = .ok (.ireturn, 1) := by decide +kernel
theorem dX4_way_0 : decode cX4_way 0 = .ok (.aload_n 0, 1) := by decide +kernel
theorem dX4_way_1 : decode cX4_way 1 = .ok (.iload_n 1, 1) := by decide +kernel
theorem dX4_way_2 : decode cX4_way 2 = .ok (.invokevirtual 148, 3) := by decide +kernel
theorem dX4_way_5 : decode cX4_way 5 = .ok (.getfield 169, 3) := by decide +kernel
theorem dX4_way_8 : decode cX4_way 8 = .ok (.iload_n 2, 1) := by decide +kernel
theorem dX4_way_9 : decode cX4_way 9 = .ok (.invokevirtual 172, 3) := by decide +kernel
theorem dX4_way_12 : decode cX4_way 12 = .ok (.istore_n 3, 1) := by decide +kernel
theorem dX4_way_13 : decode cX4_way 13 = .ok (.iload_n 3, 1) := by decide +kernel
theorem dX4_way_14 : decode cX4_way 14 = .ok (.iconst (-1), 1) := by decide +kernel
theorem dX4_way_15 : decode cX4_way 15 = .ok (.if_icmp .ne 13, 3) := by decide +kernel
theorem dX4_way_18 : decode cX4_way 18 = .ok (.new 111, 3) := by decide +kernel
theorem dX4_way_21 : decode cX4_way 21 = .ok (.dup, 1) := by decide +kernel
theorem dX4_way_22 : decode cX4_way 22 = .ok (.ldc 175, 2) := by decide +kernel
theorem dX4_way_24 : decode cX4_way 24 = .ok (.invokespecial 115, 3) := by decide +kernel
theorem dX4_way_27 : decode cX4_way 27 = .ok (.athrow, 1) := by decide +kernel
theorem dX4_way_28 : decode cX4_way 28 = .ok (.iload_n 3, 1) := by decide +kernel
theorem dX4_way_29 : decode cX4_way 29 = .ok (.ireturn, 1) := by decide +kernel
theorem dX4_cost_0 : decode cX4_cost 0 = .ok (.iload_n 1, 1) := by decide +kernel
theorem dX4_cost_1 : decode cX4_cost 1 = .ok (.invokestatic 48, 3) := by decide +kernel
theorem dX4_cost_4 : decode cX4_cost 4 = .ok (.iload_n 2, 1) := by decide +kernel
theorem dX4_cost_5 : decode cX4_cost 5 = .ok (.invokestatic 48, 3) := by decide +kernel
theorem dX4_cost_8 : decode cX4_cost 8 = .ok (.aload_n 0, 1) := by decide +kernel
theorem dX4_cost_9 : decode cX4_cost 9 = .ok (.getfield 19, 3) := by decide +kernel
theorem dX4_cost_12 : decode cX4_cost 12 = .ok (.iload_n 1, 1) := by decide +kernel
theorem dX4_cost_13 : decode cX4_cost 13 = .ok (.iload_n 2, 1) := by decide +kernel
theorem dX4_cost_14 : decode cX4_cost 14 = .ok (.aload_n 0, 1) := by decide +kernel
theorem dX4_cost_15 : decode cX4_cost 15 = .ok (.getfield 38, 3) := by decide +kernel
theorem dX4_cost_18 : decode cX4_cost 18 = .ok (.invokevirtual 138, 3) := by decide +kernel
theorem dX4_cost_21 : decode cX4_cost 21 = .ok (.ifCond .eq 17, 3) := by decide +kernel
theorem dX4_cost_24 : decode cX4_cost 24 = .ok (.aload_n 0, 1) := by decide +kernel
theorem dX4_cost_25 : decode cX4_cost 25 = .ok (.getfield 19, 3) := by decide +kernel
theorem dX4_cost_28 : decode cX4_cost 28 = .ok (.aload_n 0, 1) := by decide +kernel
theorem dX4_cost_29 : decode cX4_cost 29 = .ok (.getfield 38, 3) := by decide +kernel
theorem dX4_cost_32 : decode cX4_cost 32 = .ok (.invokevirtual 177, 3) := by decide +kernel
theorem dX4_cost_35 : decode cX4_cost 35 = .ok (.goto 4, 3) := by decide +kernel
theorem dX4_cost_38 : decode cX4_cost 38 = .ok (.iconst (-1), 1) := by decide +kernel
theorem dX4_cost_39 : decode cX4_cost 39 = .ok (.ireturn, 1) := by decide +kernel
theorem dX4_best_0 : decode cX4_best 0 = .ok (.iload_n 1, 1) := by decide +kernel
theorem dX4_best_1 : decode cX4_best 1 = .ok (.invokestatic 48, 3) := by decide +kernel
theorem dX4_best_4 : decode cX4_best 4 = .ok (.iload_n 2, 1) := by decide +kernel
theorem dX4_best_5 : decode cX4_best 5 = .ok (.invokestatic 48, 3) := by decide +kernel
theorem dX4_best_8 : decode cX4_best 8 = .ok (.aload_n 0, 1) := by decide +kernel
theorem dX4_best_9 : decode cX4_best 9 = .ok (.getfield 19, 3) := by decide +kernel
theorem dX4_best_12 : decode cX4_best 12 = .ok (.iload_n 1, 1) := by decide +kernel
theorem dX4_best_13 : decode cX4_best 13 = .ok (.iload_n 2, 1) := by decide +kernel
theorem dX4_best_14 : decode cX4_best 14 = .ok (.aload_n 0, 1) := by decide +kernel
theorem dX4_best_15 : decode cX4_best 15 = .ok (.getfield 38, 3) := by decide +kernel
theorem dX4_best_18 : decode cX4_best 18 = .ok (.invokevirtual 138, 3) := by decide +kernel
theorem dX4_best_21 : decode cX4_best 21 = .ok (.ifCond .eq 14, 3) := by decide +kernel
theorem dX4_best_24 : decode cX4_best 24 = .ok (.aload_n 0, 1) := by decide +kernel
theorem dX4_best_25 : decode cX4_best 25 = .ok (.getfield 38, 3) := by decide +kernel
theorem dX4_best_28 : decode cX4_best 28 = .ok (.iload_n 3, 1) := by decide +kernel
theorem dX4_best_29 : decode cX4_best 29 = .ok (.invokevirtual 172, 3) := by decide +kernel
theorem dX4_best_32 : decode cX4_best 32 = .ok (.goto 4, 3) := by decide +kernel
theorem dX4_best_35 : decode cX4_best 35 = .ok (.iconst (-1), 1) := by decide +kernel
theorem dX4_best_36 : decode cX4_best 36 = .ok (.istore 4, 2) := by decide +kernel
theorem dX4_best_38 : decode cX4_best 38 = .ok (.iload 4, 2) := by decide +kernel
theorem dX4_best_40 : decode cX4_best 40 = .ok (.iconst (-1), 1) := by decide +kernel
theorem dX4_best_41 : decode cX4_best 41 = .ok (.if_icmp .ne 13, 3) := by decide +kernel
theorem dX4_best_44 : decode cX4_best 44 = .ok (.new 111, 3) := by decide +kernel
theorem dX4_best_47 : decode cX4_best 47 = .ok (.dup, 1) := by decide +kernel
theorem dX4_best_48 : decode cX4_best 48 = .ok (.ldc 181, 2) := by decide +kernel
theorem dX4_best_50 : decode cX4_best 50 = .ok (.invokespecial 115, 3) := by decide +kernel
theorem dX4_best_53 : decode cX4_best 53 = .ok (.athrow, 1) := by decide +kernel
theorem dX4_best_54 : decode cX4_best 54 = .ok (.iload 4, 2) := by decide +kernel
theorem dX4_best_56 : decode cX4_best 56 = .ok (.ireturn, 1) := by decide +kernel
theorem dX4_isBarred_0 : decode cX4_isBarred 0 = .ok (.iload_n 1, 1) := by decide +kernel
theorem dX4_isBarred_1 : decode cX4_isBarred 1 = .ok (.invokestatic 48, 3) := by decide +kernel
theorem dX4_isBarred_4 : decode cX4_isBarred 4 = .ok (.iload_n 2, 1) := by decide +kernel
theorem dX4_isBarred_5 : decode cX4_isBarred 5 = .ok (.invokestatic 48, 3) := by decide +kernel
theorem dX4_isBarred_8 : decode cX4_isBarred 8 = .ok (.aload_n 0, 1) := by decide +kernel
theorem dX4_isBarred_9 : decode cX4_isBarred 9 = .ok (.getfield 19, 3) := by decide +kernel
theorem dX4_isBarred_12 : decode cX4_isBarred 12 = .ok (.iload_n 1, 1) := by decide +kernel
theorem dX4_isBarred_13 : decode cX4_isBarred 13 = .ok (.iload_n 2, 1) := by decide +kernel
theorem dX4_isBarred_14 : decode cX4_isBarred 14 = .ok (.invokevirtual 183, 3) := by decide +kernel
theorem dX4_isBarred_17 : decode cX4_isBarred 17 = .ok (.ifCond .ne 7, 3) := by decide +kernel
theorem dX4_isBarred_20 : decode cX4_isBarred 20 = .ok (.iconst 1, 1) := by decide +kernel
theorem dX4_isBarred_21 : decode cX4_isBarred 21 = .ok (.goto 4, 3) := by decide +kernel
theorem dX4_isBarred_24 : decode cX4_isBarred 24 = .ok (.iconst 0, 1) := by decide +kernel
theorem dX4_isBarred_25 : decode cX4_isBarred 25 = .ok (.ireturn, 1) := by decide +kernel
theorem dX4_debt_0 : decode cX4_debt 0 = .ok (.iload_n 1, 1) := by decide +kernel
theorem dX4_debt_1 : decode cX4_debt 1 = .ok (.invokestatic 48, 3) := by decide +kernel
theorem dX4_debt_4 : decode cX4_debt 4 = .ok (.iload_n 2, 1) := by decide +kernel
theorem dX4_debt_5 : decode cX4_debt 5 = .ok (.invokestatic 48, 3) := by decide +kernel
theorem dX4_debt_8 : decode cX4_debt 8 = .ok (.aload_n 0, 1) := by decide +kernel
theorem dX4_debt_9 : decode cX4_debt 9 = .ok (.getfield 19, 3) := by decide +kernel
theorem dX4_debt_12 : decode cX4_debt 12 = .ok (.iload_n 1, 1) := by decide +kernel
theorem dX4_debt_13 : decode cX4_debt 13 = .ok (.iload_n 2, 1) := by decide +kernel
theorem dX4_debt_14 : decode cX4_debt 14 = .ok (.invokevirtual 187, 3) := by decide +kernel
theorem dX4_debt_17 : decode cX4_debt 17 = .ok (.lreturn, 1) := by decide +kernel
theorem dX4_charged_0 : decode cX4_charged 0 = .ok (.iload_n 1, 1) := by decide +kernel
theorem dX4_charged_1 : decode cX4_charged 1 = .ok (.invokestatic 48, 3) := by decide +kernel
theorem dX4_charged_4 : decode cX4_charged 4 = .ok (.iload_n 2, 1) := by decide +kernel
theorem dX4_charged_5 : decode cX4_charged 5 = .ok (.invokestatic 48, 3) := by decide +kernel
theorem dX4_charged_8 : decode cX4_charged 8 = .ok (.iload_n 1, 1) := by decide +kernel
theorem dX4_charged_9 : decode cX4_charged 9 = .ok (.iload_n 2, 1) := by decide +kernel
theorem dX4_charged_10 : decode cX4_charged 10 = .ok (.invokestatic 191, 3) := by decide +kernel
theorem dX4_charged_13 : decode cX4_charged 13 = .ok (.istore_n 3, 1) := by decide +kernel
theorem dX4_charged_14 : decode cX4_charged 14 = .ok (.lconst 0, 1) := by decide +kernel
theorem dX4_charged_15 : decode cX4_charged 15 = .ok (.lstore 4, 2) := by decide +kernel
theorem dX4_charged_17 : decode cX4_charged 17 = .ok (.aload_n 0, 1) := by decide +kernel
theorem dX4_charged_18 : decode cX4_charged 18 = .ok (.getfield 31, 3) := by decide +kernel
theorem dX4_charged_21 : decode cX4_charged 21 = .ok (.astore 6, 2) := by decide +kernel
theorem dX4_charged_23 : decode cX4_charged 23 = .ok (.aload 6, 2) := by decide +kernel
theorem dX4_charged_25 : decode cX4_charged 25 = .ok (.arraylength, 1) := by decide +kernel
theorem dX4_charged_26 : decode cX4_charged 26 = .ok (.istore 7, 2) := by decide +kernel
theorem dX4_charged_28 : decode cX4_charged 28 = .ok (.iconst 0, 1) := by decide +kernel
theorem dX4_charged_29 : decode cX4_charged 29 = .ok (.istore 8, 2) := by decide +kernel
theorem dX4_charged_31 : decode cX4_charged 31 = .ok (.iload 8, 2) := by decide +kernel
theorem dX4_charged_33 : decode cX4_charged 33 = .ok (.iload 7, 2) := by decide +kernel
theorem dX4_charged_35 : decode cX4_charged 35 = .ok (.if_icmp .ge 32, 3) := by decide +kernel
theorem dX4_charged_38 : decode cX4_charged 38 = .ok (.aload 6, 2) := by decide +kernel
theorem dX4_charged_40 : decode cX4_charged 40 = .ok (.iload 8, 2) := by decide +kernel
theorem dX4_charged_42 : decode cX4_charged 42 = .ok (.aaload, 1) := by decide +kernel
theorem dX4_charged_43 : decode cX4_charged 43 = .ok (.astore 9, 2) := by decide +kernel
theorem dX4_charged_45 : decode cX4_charged 45 = .ok (.aload 9, 2) := by decide +kernel
theorem dX4_charged_47 : decode cX4_charged 47 = .ok (.ifnull 14, 3) := by decide +kernel
theorem dX4_charged_50 : decode cX4_charged 50 = .ok (.lload 4, 2) := by decide +kernel
theorem dX4_charged_52 : decode cX4_charged 52 = .ok (.aload 9, 2) := by decide +kernel
theorem dX4_charged_54 : decode cX4_charged 54 = .ok (.iload_n 3, 1) := by decide +kernel
theorem dX4_charged_55 : decode cX4_charged 55 = .ok (.invokevirtual 194, 3) := by decide +kernel
theorem dX4_charged_58 : decode cX4_charged 58 = .ok (.ladd, 1) := by decide +kernel
theorem dX4_charged_59 : decode cX4_charged 59 = .ok (.lstore 4, 2) := by decide +kernel
theorem dX4_charged_61 : decode cX4_charged 61 = .ok (.iinc 8 1, 3) := by decide +kernel
theorem dX4_charged_64 : decode cX4_charged 64 = .ok (.goto (-33), 3) := by decide +kernel
theorem dX4_charged_67 : decode cX4_charged 67 = .ok (.lload 4, 2) := by decide +kernel
theorem dX4_charged_69 : decode cX4_charged 69 = .ok (.lreturn, 1) := by decide +kernel
theorem dX4_position_0 : decode cX4_position 0 = .ok (.iload_n 1, 1) := by decide +kernel
theorem dX4_position_1 : decode cX4_position 1 = .ok (.invokestatic 48, 3) := by decide +kernel
theorem dX4_position_4 : decode cX4_position 4 = .ok (.lconst 0, 1) := by decide +kernel
theorem dX4_position_5 : decode cX4_position 5 = .ok (.lstore_n 2, 1) := by decide +kernel
theorem dX4_position_6 : decode cX4_position 6 = .ok (.iconst 0, 1) := by decide +kernel
theorem dX4_position_7 : decode cX4_position 7 = .ok (.istore 4, 2) := by decide +kernel
theorem dX4_position_9 : decode cX4_position 9 = .ok (.iload 4, 2) := by decide +kernel
theorem dX4_position_11 : decode cX4_position 11 = .ok (.iconst 5, 1) := by decide +kernel
theorem dX4_position_12 : decode cX4_position 12 = .ok (.if_icmp .ge 22, 3) := by decide +kernel
theorem dX4_position_15 : decode cX4_position 15 = .ok (.lload_n 2, 1) := by decide +kernel
theorem dX4_position_16 : decode cX4_position 16 = .ok (.aload_n 0, 1) := by decide +kernel
theorem dX4_position_17 : decode cX4_position 17 = .ok (.getfield 19, 3) := by decide +kernel
theorem dX4_position_20 : decode cX4_position 20 = .ok (.iload 4, 2) := by decide +kernel
theorem dX4_position_22 : decode cX4_position 22 = .ok (.iload_n 1, 1) := by decide +kernel
theorem dX4_position_23 : decode cX4_position 23 = .ok (.invokevirtual 187, 3) := by decide +kernel
theorem dX4_position_26 : decode cX4_position 26 = .ok (.ladd, 1) := by decide +kernel
theorem dX4_position_27 : decode cX4_position 27 = .ok (.lstore_n 2, 1) := by decide +kernel
theorem dX4_position_28 : decode cX4_position 28 = .ok (.iinc 4 1, 3) := by decide +kernel
theorem dX4_position_31 : decode cX4_position 31 = .ok (.goto (-22), 3) := by decide +kernel
theorem dX4_position_34 : decode cX4_position 34 = .ok (.lload_n 2, 1) := by decide +kernel
theorem dX4_position_35 : decode cX4_position 35 = .ok (.lreturn, 1) := by decide +kernel
theorem dX4_settle_0 : decode cX4_settle 0 = .ok (.iload_n 1, 1) := by decide +kernel
theorem dX4_settle_1 : decode cX4_settle 1 = .ok (.invokestatic 48, 3) := by decide +kernel
theorem dX4_settle_4 : decode cX4_settle 4 = .ok (.iload_n 2, 1) := by decide +kernel
theorem dX4_settle_5 : decode cX4_settle 5 = .ok (.invokestatic 48, 3) := by decide +kernel
theorem dX4_settle_8 : decode cX4_settle 8 = .ok (.aload_n 0, 1) := by decide +kernel
theorem dX4_settle_9 : decode cX4_settle 9 = .ok (.getfield 19, 3) := by decide +kernel
theorem dX4_settle_12 : decode cX4_settle 12 = .ok (.iload_n 1, 1) := by decide +kernel
theorem dX4_settle_13 : decode cX4_settle 13 = .ok (.iload_n 2, 1) := by decide +kernel
theorem dX4_settle_14 : decode cX4_settle 14 = .ok (.invokevirtual 187, 3) := by decide +kernel
theorem dX4_settle_17 : decode cX4_settle 17 = .ok (.lstore_n 3, 1) := by decide +kernel
theorem dX4_settle_18 : decode cX4_settle 18 = .ok (.lload_n 3, 1) := by decide +kernel
theorem dX4_settle_19 : decode cX4_settle 19 = .ok (.lconst 0, 1) := by decide +kernel
theorem dX4_settle_20 : decode cX4_settle 20 = .ok (.lcmp, 1) := by decide +kernel
theorem dX4_settle_21 : decode cX4_settle 21 = .ok (.ifCond .gt 13, 3) := by decide +kernel
theorem dX4_settle_24 : decode cX4_settle 24 = .ok (.new 74, 3) := by decide +kernel
theorem dX4_settle_27 : decode cX4_settle 27 = .ok (.dup, 1) := by decide +kernel
theorem dX4_settle_28 : decode cX4_settle 28 = .ok (.ldc 198, 2) := by decide +kernel
theorem dX4_settle_30 : decode cX4_settle 30 = .ok (.invokespecial 78, 3) := by decide +kernel
theorem dX4_settle_33 : decode cX4_settle 33 = .ok (.athrow, 1) := by decide +kernel
theorem dX4_settle_34 : decode cX4_settle 34 = .ok (.aload_n 0, 1) := by decide +kernel
theorem dX4_settle_35 : decode cX4_settle 35 = .ok (.getfield 19, 3) := by decide +kernel
theorem dX4_settle_38 : decode cX4_settle 38 = .ok (.iload_n 1, 1) := by decide +kernel
theorem dX4_settle_39 : decode cX4_settle 39 = .ok (.iload_n 2, 1) := by decide +kernel
theorem dX4_settle_40 : decode cX4_settle 40 = .ok (.lload_n 3, 1) := by decide +kernel
theorem dX4_settle_41 : decode cX4_settle 41 = .ok (.lneg, 1) := by decide +kernel
theorem dX4_settle_42 : decode cX4_settle 42 = .ok (.invokevirtual 200, 3) := by decide +kernel
theorem dX4_settle_45 : decode cX4_settle 45 = .ok (.lload_n 3, 1) := by decide +kernel
theorem dX4_settle_46 : decode cX4_settle 46 = .ok (.lreturn, 1) := by decide +kernel
theorem dX4_isWithin_0 : decode cX4_isWithin 0 = .ok (.iload_n 0, 1) := by decide +kernel
theorem dX4_isWithin_1 : decode cX4_isWithin 1 = .ok (.iload_n 1, 1) := by decide +kernel
theorem dX4_isWithin_2 : decode cX4_isWithin 2 = .ok (.if_icmp .lt 12, 3) := by decide +kernel
theorem dX4_isWithin_5 : decode cX4_isWithin 5 = .ok (.iload_n 0, 1) := by decide +kernel
theorem dX4_isWithin_6 : decode cX4_isWithin 6 = .ok (.iload_n 2, 1) := by decide +kernel
theorem dX4_isWithin_7 : decode cX4_isWithin 7 = .ok (.if_icmp .gt 7, 3) := by decide +kernel
theorem dX4_isWithin_10 : decode cX4_isWithin 10 = .ok (.iconst 1, 1) := by decide +kernel
theorem dX4_isWithin_11 : decode cX4_isWithin 11 = .ok (.goto 4, 3) := by decide +kernel
theorem dX4_isWithin_14 : decode cX4_isWithin 14 = .ok (.iconst 0, 1) := by decide +kernel
theorem dX4_isWithin_15 : decode cX4_isWithin 15 = .ok (.ireturn, 1) := by decide +kernel
theorem dX4_isCarrier_0 : decode cX4_isCarrier 0 = .ok (.iload_n 0, 1) := by decide +kernel
theorem dX4_isCarrier_1 : decode cX4_isCarrier 1 = .ok (.ifCond .lt 12, 3) := by decide +kernel
theorem dX4_isCarrier_4 : decode cX4_isCarrier 4 = .ok (.iload_n 0, 1) := by decide +kernel
theorem dX4_isCarrier_5 : decode cX4_isCarrier 5 = .ok (.iconst 5, 1) := by decide +kernel
theorem dX4_isCarrier_6 : decode cX4_isCarrier 6 = .ok (.if_icmp .ge 7, 3) := by decide +kernel
theorem dX4_isCarrier_9 : decode cX4_isCarrier 9 = .ok (.iconst 1, 1) := by decide +kernel
theorem dX4_isCarrier_10 : decode cX4_isCarrier 10 = .ok (.goto 4, 3) := by decide +kernel
theorem dX4_isCarrier_13 : decode cX4_isCarrier 13 = .ok (.iconst 0, 1) := by decide +kernel
theorem dX4_isCarrier_14 : decode cX4_isCarrier 14 = .ok (.ireturn, 1) := by decide +kernel
theorem dX4_pairOf_0 : decode cX4_pairOf 0 = .ok (.iload_n 0, 1) := by decide +kernel
theorem dX4_pairOf_1 : decode cX4_pairOf 1 = .ok (.ifCond .lt 21, 3) := by decide +kernel
theorem dX4_pairOf_4 : decode cX4_pairOf 4 = .ok (.iload_n 0, 1) := by decide +kernel
theorem dX4_pairOf_5 : decode cX4_pairOf 5 = .ok (.iconst 5, 1) := by decide +kernel
theorem dX4_pairOf_6 : decode cX4_pairOf 6 = .ok (.if_icmp .ge 16, 3) := by decide +kernel
theorem dX4_pairOf_9 : decode cX4_pairOf 9 = .ok (.iload_n 1, 1) := by decide +kernel
theorem dX4_pairOf_10 : decode cX4_pairOf 10 = .ok (.ifCond .lt 12, 3) := by decide +kernel
theorem dX4_pairOf_13 : decode cX4_pairOf 13 = .ok (.iload_n 1, 1) := by decide +kernel
theorem dX4_pairOf_14 : decode cX4_pairOf 14 = .ok (.iconst 5, 1) := by decide +kernel
theorem dX4_pairOf_15 : decode cX4_pairOf 15 = .ok (.if_icmp .ge 7, 3) := by decide +kernel
theorem dX4_pairOf_18 : decode cX4_pairOf 18 = .ok (.iconst 1, 1) := by decide +kernel
theorem dX4_pairOf_19 : decode cX4_pairOf 19 = .ok (.goto 4, 3) := by decide +kernel
theorem dX4_pairOf_22 : decode cX4_pairOf 22 = .ok (.iconst 0, 1) := by decide +kernel
theorem dX4_pairOf_23 : decode cX4_pairOf 23 = .ok (.istore_n 2, 1) := by decide +kernel
theorem dX4_pairOf_24 : decode cX4_pairOf 24 = .ok (.iload_n 2, 1) := by decide +kernel
theorem dX4_pairOf_25 : decode cX4_pairOf 25 = .ok (.ifCond .eq 11, 3) := by decide +kernel
theorem dX4_pairOf_28 : decode cX4_pairOf 28 = .ok (.iload_n 0, 1) := by decide +kernel
theorem dX4_pairOf_29 : decode cX4_pairOf 29 = .ok (.iconst 5, 1) := by decide +kernel
theorem dX4_pairOf_30 : decode cX4_pairOf 30 = .ok (.imul, 1) := by decide +kernel
theorem dX4_pairOf_31 : decode cX4_pairOf 31 = .ok (.iload_n 1, 1) := by decide +kernel
theorem dX4_pairOf_32 : decode cX4_pairOf 32 = .ok (.iadd, 1) := by decide +kernel
theorem dX4_pairOf_33 : decode cX4_pairOf 33 = .ok (.goto 4, 3) := by decide +kernel
theorem dX4_pairOf_36 : decode cX4_pairOf 36 = .ok (.iconst (-1), 1) := by decide +kernel
theorem dX4_pairOf_37 : decode cX4_pairOf 37 = .ok (.ireturn, 1) := by decide +kernel
theorem dX4_demandCarrier_0 : decode cX4_demandCarrier 0 = .ok (.iload_n 0, 1) := by decide +kernel
theorem dX4_demandCarrier_1 : decode cX4_demandCarrier 1 = .ok (.invokestatic 204, 3) := by decide +kernel
theorem dX4_demandCarrier_4 : decode cX4_demandCarrier 4 = .ok (.ifCond .ne 13, 3) := by decide +kernel
theorem dX4_demandCarrier_7 : decode cX4_demandCarrier 7 = .ok (.new 111, 3) := by decide +kernel
theorem dX4_demandCarrier_10 : decode cX4_demandCarrier 10 = .ok (.dup, 1) := by decide +kernel
theorem dX4_demandCarrier_11 : decode cX4_demandCarrier 11 = .ok (.ldc 207, 2) := by decide +kernel
theorem dX4_demandCarrier_13 : decode cX4_demandCarrier 13 = .ok (.invokespecial 115, 3) := by decide +kernel
theorem dX4_demandCarrier_16 : decode cX4_demandCarrier 16 = .ok (.athrow, 1) := by decide +kernel
theorem dX4_demandCarrier_17 : decode cX4_demandCarrier 17 = .ok (.return_, 1) := by decide +kernel
theorem dX4_demandCredit_0 : decode cX4_demandCredit 0 = .ok (.iload_n 0, 1) := by decide +kernel
theorem dX4_demandCredit_1 : decode cX4_demandCredit 1 = .ok (.iconst 0, 1) := by decide +kernel
theorem dX4_demandCredit_2 : decode cX4_demandCredit 2 = .ok (.sipush 10000, 3) := by decide +kernel
theorem dX4_demandCredit_5 : decode cX4_demandCredit 5 = .ok (.invokestatic 52, 3) := by decide +kernel
theorem dX4_demandCredit_8 : decode cX4_demandCredit 8 = .ok (.ifCond .eq 14, 3) := by decide +kernel
theorem dX4_demandCredit_11 : decode cX4_demandCredit 11 = .ok (.iload_n 1, 1) := by decide +kernel
theorem dX4_demandCredit_12 : decode cX4_demandCredit 12 = .ok (.iconst 0, 1) := by decide +kernel
theorem dX4_demandCredit_13 : decode cX4_demandCredit 13 = .ok (.sipush 1000, 3) := by decide +kernel
theorem dX4_demandCredit_16 : decode cX4_demandCredit 16 = .ok (.invokestatic 52, 3) := by decide +kernel
theorem dX4_demandCredit_19 : decode cX4_demandCredit 19 = .ok (.ifCond .ne 13, 3) := by decide +kernel
theorem dX4_demandCredit_22 : decode cX4_demandCredit 22 = .ok (.new 56, 3) := by decide +kernel
theorem dX4_demandCredit_25 : decode cX4_demandCredit 25 = .ok (.dup, 1) := by decide +kernel
theorem dX4_demandCredit_26 : decode cX4_demandCredit 26 = .ok (.ldc 209, 2) := by decide +kernel
theorem dX4_demandCredit_28 : decode cX4_demandCredit 28 = .ok (.invokespecial 60, 3) := by decide +kernel
theorem dX4_demandCredit_31 : decode cX4_demandCredit 31 = .ok (.athrow, 1) := by decide +kernel
theorem dX4_demandCredit_32 : decode cX4_demandCredit 32 = .ok (.return_, 1) := by decide +kernel
theorem dX4_subscriberOf_0 : decode cX4_subscriberOf 0 = .ok (.iload_n 1, 1) := by decide +kernel
theorem dX4_subscriberOf_1 : decode cX4_subscriberOf 1 = .ok (.ifCond .lt 18, 3) := by decide +kernel
theorem dX4_subscriberOf_4 : decode cX4_subscriberOf 4 = .ok (.iload_n 1, 1) := by decide +kernel
theorem dX4_subscriberOf_5 : decode cX4_subscriberOf 5 = .ok (.bipush 20, 2) := by decide +kernel
theorem dX4_subscriberOf_7 : decode cX4_subscriberOf 7 = .ok (.if_icmp .ge 12, 3) := by decide +kernel
theorem dX4_subscriberOf_10 : decode cX4_subscriberOf 10 = .ok (.aload_n 0, 1) := by decide +kernel
theorem dX4_subscriberOf_11 : decode cX4_subscriberOf 11 = .ok (.getfield 25, 3) := by decide +kernel
theorem dX4_subscriberOf_14 : decode cX4_subscriberOf 14 = .ok (.iload_n 1, 1) := by decide +kernel
theorem dX4_subscriberOf_15 : decode cX4_subscriberOf 15 = .ok (.aaload, 1) := by decide +kernel
theorem dX4_subscriberOf_16 : decode cX4_subscriberOf 16 = .ok (.goto 4, 3) := by decide +kernel
theorem dX4_subscriberOf_19 : decode cX4_subscriberOf 19 = .ok (.aconst_null, 1) := by decide +kernel
theorem dX4_subscriberOf_20 : decode cX4_subscriberOf 20 = .ok (.astore_n 2, 1) := by decide +kernel
theorem dX4_subscriberOf_21 : decode cX4_subscriberOf 21 = .ok (.aload_n 2, 1) := by decide +kernel
theorem dX4_subscriberOf_22 : decode cX4_subscriberOf 22 = .ok (.ifnonnull 13, 3) := by decide +kernel
theorem dX4_subscriberOf_25 : decode cX4_subscriberOf 25 = .ok (.new 111, 3) := by decide +kernel
theorem dX4_subscriberOf_28 : decode cX4_subscriberOf 28 = .ok (.dup, 1) := by decide +kernel
theorem dX4_subscriberOf_29 : decode cX4_subscriberOf 29 = .ok (.ldc 211, 2) := by decide +kernel
theorem dX4_subscriberOf_31 : decode cX4_subscriberOf 31 = .ok (.invokespecial 115, 3) := by decide +kernel
theorem dX4_subscriberOf_34 : decode cX4_subscriberOf 34 = .ok (.athrow, 1) := by decide +kernel
theorem dX4_subscriberOf_35 : decode cX4_subscriberOf 35 = .ok (.aload_n 2, 1) := by decide +kernel
theorem dX4_subscriberOf_36 : decode cX4_subscriberOf 36 = .ok (.areturn, 1) := by decide +kernel
theorem dX4_talkOf_0 : decode cX4_talkOf 0 = .ok (.iload_n 1, 1) := by decide +kernel
theorem dX4_talkOf_1 : decode cX4_talkOf 1 = .ok (.ifCond .lt 18, 3) := by decide +kernel
theorem dX4_talkOf_4 : decode cX4_talkOf 4 = .ok (.iload_n 1, 1) := by decide +kernel
theorem dX4_talkOf_5 : decode cX4_talkOf 5 = .ok (.bipush 60, 2) := by decide +kernel
theorem dX4_talkOf_7 : decode cX4_talkOf 7 = .ok (.if_icmp .ge 12, 3) := by decide +kernel
theorem dX4_talkOf_10 : decode cX4_talkOf 10 = .ok (.aload_n 0, 1) := by decide +kernel
theorem dX4_talkOf_11 : decode cX4_talkOf 11 = .ok (.getfield 31, 3) := by decide +kernel
theorem dX4_talkOf_14 : decode cX4_talkOf 14 = .ok (.iload_n 1, 1) := by decide +kernel
theorem dX4_talkOf_15 : decode cX4_talkOf 15 = .ok (.aaload, 1) := by decide +kernel
theorem dX4_talkOf_16 : decode cX4_talkOf 16 = .ok (.goto 4, 3) := by decide +kernel
theorem dX4_talkOf_19 : decode cX4_talkOf 19 = .ok (.aconst_null, 1) := by decide +kernel
theorem dX4_talkOf_20 : decode cX4_talkOf 20 = .ok (.astore_n 2, 1) := by decide +kernel
theorem dX4_talkOf_21 : decode cX4_talkOf 21 = .ok (.aload_n 2, 1) := by decide +kernel
theorem dX4_talkOf_22 : decode cX4_talkOf 22 = .ok (.ifnonnull 13, 3) := by decide +kernel
theorem dX4_talkOf_25 : decode cX4_talkOf 25 = .ok (.new 111, 3) := by decide +kernel
theorem dX4_talkOf_28 : decode cX4_talkOf 28 = .ok (.dup, 1) := by decide +kernel
theorem dX4_talkOf_29 : decode cX4_talkOf 29 = .ok (.ldc 213, 2) := by decide +kernel
theorem dX4_talkOf_31 : decode cX4_talkOf 31 = .ok (.invokespecial 115, 3) := by decide +kernel
theorem dX4_talkOf_34 : decode cX4_talkOf 34 = .ok (.athrow, 1) := by decide +kernel
theorem dX4_talkOf_35 : decode cX4_talkOf 35 = .ok (.aload_n 2, 1) := by decide +kernel
theorem dX4_talkOf_36 : decode cX4_talkOf 36 = .ok (.areturn, 1) := by decide +kernel
theorem dX4_isTalking_0 : decode cX4_isTalking 0 = .ok (.aload_n 0, 1) := by decide +kernel
theorem dX4_isTalking_1 : decode cX4_isTalking 1 = .ok (.getfield 31, 3) := by decide +kernel
theorem dX4_isTalking_4 : decode cX4_isTalking 4 = .ok (.astore_n 2, 1) := by decide +kernel
theorem dX4_isTalking_5 : decode cX4_isTalking 5 = .ok (.aload_n 2, 1) := by decide +kernel
theorem dX4_isTalking_6 : decode cX4_isTalking 6 = .ok (.arraylength, 1) := by decide +kernel
theorem dX4_isTalking_7 : decode cX4_isTalking 7 = .ok (.istore_n 3, 1) := by decide +kernel
theorem dX4_isTalking_8 : decode cX4_isTalking 8 = .ok (.iconst 0, 1) := by decide +kernel
theorem dX4_isTalking_9 : decode cX4_isTalking 9 = .ok (.istore 4, 2) := by decide +kernel
theorem dX4_isTalking_11 : decode cX4_isTalking 11 = .ok (.iload 4, 2) := by decide +kernel
theorem dX4_isTalking_13 : decode cX4_isTalking 13 = .ok (.iload_n 3, 1) := by decide +kernel
theorem dX4_isTalking_14 : decode cX4_isTalking 14 = .ok (.if_icmp .ge 48, 3) := by decide +kernel
theorem dX4_isTalking_17 : decode cX4_isTalking 17 = .ok (.aload_n 2, 1) := by decide +kernel
theorem dX4_isTalking_18 : decode cX4_isTalking 18 = .ok (.iload 4, 2) := by decide +kernel
theorem dX4_isTalking_20 : decode cX4_isTalking 20 = .ok (.aaload, 1) := by decide +kernel
theorem dX4_isTalking_21 : decode cX4_isTalking 21 = .ok (.astore 5, 2) := by decide +kernel
theorem dX4_isTalking_23 : decode cX4_isTalking 23 = .ok (.aload 5, 2) := by decide +kernel
theorem dX4_isTalking_25 : decode cX4_isTalking 25 = .ok (.ifnull 31, 3) := by decide +kernel
theorem dX4_isTalking_28 : decode cX4_isTalking 28 = .ok (.aload 5, 2) := by decide +kernel
theorem dX4_isTalking_30 : decode cX4_isTalking 30 = .ok (.getfield 152, 3) := by decide +kernel
theorem dX4_isTalking_33 : decode cX4_isTalking 33 = .ok (.ifCond .ne 23, 3) := by decide +kernel
theorem dX4_isTalking_36 : decode cX4_isTalking 36 = .ok (.aload 5, 2) := by decide +kernel
theorem dX4_isTalking_38 : decode cX4_isTalking 38 = .ok (.getfield 215, 3) := by decide +kernel
theorem dX4_isTalking_41 : decode cX4_isTalking 41 = .ok (.aload_n 1, 1) := by decide +kernel
theorem dX4_isTalking_42 : decode cX4_isTalking 42 = .ok (.if_acmp .eq 12, 3) := by decide +kernel
theorem dX4_isTalking_45 : decode cX4_isTalking 45 = .ok (.aload 5, 2) := by decide +kernel
theorem dX4_isTalking_47 : decode cX4_isTalking 47 = .ok (.getfield 219, 3) := by decide +kernel
theorem dX4_isTalking_50 : decode cX4_isTalking 50 = .ok (.aload_n 1, 1) := by decide +kernel
theorem dX4_isTalking_51 : decode cX4_isTalking 51 = .ok (.if_acmp .ne 5, 3) := by decide +kernel
theorem dX4_isTalking_54 : decode cX4_isTalking 54 = .ok (.iconst 1, 1) := by decide +kernel
theorem dX4_isTalking_55 : decode cX4_isTalking 55 = .ok (.ireturn, 1) := by decide +kernel
theorem dX4_isTalking_56 : decode cX4_isTalking 56 = .ok (.iinc 4 1, 3) := by decide +kernel
theorem dX4_isTalking_59 : decode cX4_isTalking 59 = .ok (.goto (-48), 3) := by decide +kernel
theorem dX4_isTalking_62 : decode cX4_isTalking 62 = .ok (.iconst 0, 1) := by decide +kernel
theorem dX4_isTalking_63 : decode cX4_isTalking 63 = .ok (.ireturn, 1) := by decide +kernel
theorem dX4_newTalk_0 : decode cX4_newTalk 0 = .ok (.aload_n 1, 1) := by decide +kernel
theorem dX4_newTalk_1 : decode cX4_newTalk 1 = .ok (.iconst 0, 1) := by decide +kernel
theorem dX4_newTalk_2 : decode cX4_newTalk 2 = .ok (.invokevirtual 96, 3) := by decide +kernel
theorem dX4_newTalk_5 : decode cX4_newTalk 5 = .ok (.istore 4, 2) := by decide +kernel
theorem dX4_newTalk_7 : decode cX4_newTalk 7 = .ok (.iload 4, 2) := by decide +kernel
theorem dX4_newTalk_9 : decode cX4_newTalk 9 = .ok (.invokestatic 204, 3) := by decide +kernel
theorem dX4_newTalk_12 : decode cX4_newTalk 12 = .ok (.ifCond .eq 13, 3) := by decide +kernel
theorem dX4_newTalk_15 : decode cX4_newTalk 15 = .ok (.aload_n 0, 1) := by decide +kernel
theorem dX4_newTalk_16 : decode cX4_newTalk 16 = .ok (.getfield 9, 3) := by decide +kernel
theorem dX4_newTalk_19 : decode cX4_newTalk 19 = .ok (.iload 4, 2) := by decide +kernel
theorem dX4_newTalk_21 : decode cX4_newTalk 21 = .ok (.iaload, 1) := by decide +kernel
theorem dX4_newTalk_22 : decode cX4_newTalk 22 = .ok (.goto 4, 3) := by decide +kernel
theorem dX4_newTalk_25 : decode cX4_newTalk 25 = .ok (.iconst 1, 1) := by decide +kernel
theorem dX4_newTalk_26 : decode cX4_newTalk 26 = .ok (.istore 5, 2) := by decide +kernel
theorem dX4_newTalk_28 : decode cX4_newTalk 28 = .ok (.iload 4, 2) := by decide +kernel
theorem dX4_newTalk_30 : decode cX4_newTalk 30 = .ok (.invokestatic 204, 3) := by decide +kernel
theorem dX4_newTalk_33 : decode cX4_newTalk 33 = .ok (.ifCond .eq 13, 3) := by decide +kernel
theorem dX4_newTalk_36 : decode cX4_newTalk 36 = .ok (.aload_n 0, 1) := by decide +kernel
theorem dX4_newTalk_37 : decode cX4_newTalk 37 = .ok (.getfield 13, 3) := by decide +kernel
theorem dX4_newTalk_40 : decode cX4_newTalk 40 = .ok (.iload 4, 2) := by decide +kernel
theorem dX4_newTalk_42 : decode cX4_newTalk 42 = .ok (.iaload, 1) := by decide +kernel
theorem dX4_newTalk_43 : decode cX4_newTalk 43 = .ok (.goto 5, 3) := by decide +kernel
theorem dX4_newTalk_46 : decode cX4_newTalk 46 = .ok (.bipush 10, 2) := by decide +kernel
theorem dX4_newTalk_48 : decode cX4_newTalk 48 = .ok (.istore 6, 2) := by decide +kernel
theorem dX4_newTalk_50 : decode cX4_newTalk 50 = .ok (.new 29, 3) := by decide +kernel
theorem dX4_newTalk_53 : decode cX4_newTalk 53 = .ok (.dup, 1) := by decide +kernel
theorem dX4_newTalk_54 : decode cX4_newTalk 54 = .ok (.aload_n 1, 1) := by decide +kernel
theorem dX4_newTalk_55 : decode cX4_newTalk 55 = .ok (.aload_n 2, 1) := by decide +kernel
theorem dX4_newTalk_56 : decode cX4_newTalk 56 = .ok (.iload 5, 2) := by decide +kernel
theorem dX4_newTalk_58 : decode cX4_newTalk 58 = .ok (.iload 6, 2) := by decide +kernel
theorem dX4_newTalk_60 : decode cX4_newTalk 60 = .ok (.invokespecial 222, 3) := by decide +kernel
theorem dX4_newTalk_63 : decode cX4_newTalk 63 = .ok (.astore 7, 2) := by decide +kernel
theorem dX4_newTalk_65 : decode cX4_newTalk 65 = .ok (.aload 7, 2) := by decide +kernel
theorem dX4_newTalk_67 : decode cX4_newTalk 67 = .ok (.getfield 169, 3) := by decide +kernel
theorem dX4_newTalk_70 : decode cX4_newTalk 70 = .ok (.aload_n 3, 1) := by decide +kernel
theorem dX4_newTalk_71 : decode cX4_newTalk 71 = .ok (.invokevirtual 225, 3) := by decide +kernel
theorem dX4_newTalk_74 : decode cX4_newTalk 74 = .ok (.aload 7, 2) := by decide +kernel
theorem dX4_newTalk_76 : decode cX4_newTalk 76 = .ok (.areturn, 1) := by decide +kernel
theorem dX4_runOneMinute_0 : decode cX4_runOneMinute 0 = .ok (.aload_n 1, 1) := by decide +kernel
theorem dX4_runOneMinute_1 : decode cX4_runOneMinute 1 = .ok (.getfield 169, 3) := by decide +kernel
theorem dX4_runOneMinute_4 : decode cX4_runOneMinute 4 = .ok (.astore_n 2, 1) := by decide +kernel
theorem dX4_runOneMinute_5 : decode cX4_runOneMinute 5 = .ok (.aload_n 0, 1) := by decide +kernel
theorem dX4_runOneMinute_6 : decode cX4_runOneMinute 6 = .ok (.getfield 19, 3) := by decide +kernel
theorem dX4_runOneMinute_9 : decode cX4_runOneMinute 9 = .ok (.aload_n 2, 1) := by decide +kernel
theorem dX4_runOneMinute_10 : decode cX4_runOneMinute 10 = .ok (.invokevirtual 229, 3) := by decide +kernel
theorem dX4_runOneMinute_13 : decode cX4_runOneMinute 13 = .ok (.ifCond .ne 41, 3) := by decide +kernel
theorem dX4_runOneMinute_16 : decode cX4_runOneMinute 16 = .ok (.aload_n 0, 1) := by decide +kernel
theorem dX4_runOneMinute_17 : decode cX4_runOneMinute 17 = .ok (.getfield 19, 3) := by decide +kernel
theorem dX4_runOneMinute_20 : decode cX4_runOneMinute 20 = .ok (.aload_n 2, 1) := by decide +kernel
theorem dX4_runOneMinute_21 : decode cX4_runOneMinute 21 = .ok (.iconst 0, 1) := by decide +kernel
theorem dX4_runOneMinute_22 : decode cX4_runOneMinute 22 = .ok (.invokevirtual 172, 3) := by decide +kernel
theorem dX4_runOneMinute_25 : decode cX4_runOneMinute 25 = .ok (.aload_n 2, 1) := by decide +kernel
theorem dX4_runOneMinute_26 : decode cX4_runOneMinute 26 = .ok (.aload_n 2, 1) := by decide +kernel
theorem dX4_runOneMinute_27 : decode cX4_runOneMinute 27 = .ok (.getfield 233, 3) := by decide +kernel
theorem dX4_runOneMinute_30 : decode cX4_runOneMinute 30 = .ok (.iconst 1, 1) := by decide +kernel
theorem dX4_runOneMinute_31 : decode cX4_runOneMinute 31 = .ok (.isub, 1) := by decide +kernel
theorem dX4_runOneMinute_32 : decode cX4_runOneMinute 32 = .ok (.invokevirtual 172, 3) := by decide +kernel
theorem dX4_runOneMinute_35 : decode cX4_runOneMinute 35 = .ok (.aload_n 2, 1) := by decide +kernel
theorem dX4_runOneMinute_36 : decode cX4_runOneMinute 36 = .ok (.invokevirtual 138, 3) := by decide +kernel
theorem dX4_runOneMinute_39 : decode cX4_runOneMinute 39 = .ok (.ifCond .ne 5, 3) := by decide +kernel
theorem dX4_runOneMinute_42 : decode cX4_runOneMinute 42 = .ok (.iconst 0, 1) := by decide +kernel
theorem dX4_runOneMinute_43 : decode cX4_runOneMinute 43 = .ok (.ireturn, 1) := by decide +kernel
theorem dX4_runOneMinute_44 : decode cX4_runOneMinute 44 = .ok (.aload_n 1, 1) := by decide +kernel
theorem dX4_runOneMinute_45 : decode cX4_runOneMinute 45 = .ok (.dup, 1) := by decide +kernel
theorem dX4_runOneMinute_46 : decode cX4_runOneMinute 46 = .ok (.getfield 166, 3) := by decide +kernel
theorem dX4_runOneMinute_49 : decode cX4_runOneMinute 49 = .ok (.iconst 1, 1) := by decide +kernel
theorem dX4_runOneMinute_50 : decode cX4_runOneMinute 50 = .ok (.iadd, 1) := by decide +kernel
theorem dX4_runOneMinute_51 : decode cX4_runOneMinute 51 = .ok (.putfield 166, 3) := by decide +kernel
theorem dX4_runOneMinute_54 : decode cX4_runOneMinute 54 = .ok (.aload_n 1, 1) := by decide +kernel
theorem dX4_runOneMinute_55 : decode cX4_runOneMinute 55 = .ok (.invokevirtual 236, 3) := by decide +kernel
theorem dX4_runOneMinute_58 : decode cX4_runOneMinute 58 = .ok (.ifCond .eq 23, 3) := by decide +kernel
theorem dX4_runOneMinute_61 : decode cX4_runOneMinute 61 = .ok (.aload_n 1, 1) := by decide +kernel
theorem dX4_runOneMinute_62 : decode cX4_runOneMinute 62 = .ok (.getfield 215, 3) := by decide +kernel
theorem dX4_runOneMinute_65 : decode cX4_runOneMinute 65 = .ok (.aload_n 1, 1) := by decide +kernel
theorem dX4_runOneMinute_66 : decode cX4_runOneMinute 66 = .ok (.getfield 240, 3) := by decide +kernel
theorem dX4_runOneMinute_69 : decode cX4_runOneMinute 69 = .ok (.aload_n 1, 1) := by decide +kernel
theorem dX4_runOneMinute_70 : decode cX4_runOneMinute 70 = .ok (.getfield 243, 3) := by decide +kernel
theorem dX4_runOneMinute_73 : decode cX4_runOneMinute 73 = .ok (.invokevirtual 246, 3) := by decide +kernel
theorem dX4_runOneMinute_76 : decode cX4_runOneMinute 76 = .ok (.ifCond .ne 5, 3) := by decide +kernel
theorem dX4_runOneMinute_79 : decode cX4_runOneMinute 79 = .ok (.iconst 0, 1) := by decide +kernel
theorem dX4_runOneMinute_80 : decode cX4_runOneMinute 80 = .ok (.ireturn, 1) := by decide +kernel
theorem dX4_runOneMinute_81 : decode cX4_runOneMinute 81 = .ok (.aload_n 0, 1) := by decide +kernel
theorem dX4_runOneMinute_82 : decode cX4_runOneMinute 82 = .ok (.getfield 19, 3) := by decide +kernel
theorem dX4_runOneMinute_85 : decode cX4_runOneMinute 85 = .ok (.aload_n 1, 1) := by decide +kernel
theorem dX4_runOneMinute_86 : decode cX4_runOneMinute 86 = .ok (.invokevirtual 249, 3) := by decide +kernel
theorem dX4_runOneMinute_89 : decode cX4_runOneMinute 89 = .ok (.aload_n 1, 1) := by decide +kernel
theorem dX4_runOneMinute_90 : decode cX4_runOneMinute 90 = .ok (.dup, 1) := by decide +kernel
theorem dX4_runOneMinute_91 : decode cX4_runOneMinute 91 = .ok (.getfield 157, 3) := by decide +kernel
theorem dX4_runOneMinute_94 : decode cX4_runOneMinute 94 = .ok (.iconst 1, 1) := by decide +kernel
theorem dX4_runOneMinute_95 : decode cX4_runOneMinute 95 = .ok (.iadd, 1) := by decide +kernel
theorem dX4_runOneMinute_96 : decode cX4_runOneMinute 96 = .ok (.putfield 157, 3) := by decide +kernel
theorem dX4_runOneMinute_99 : decode cX4_runOneMinute 99 = .ok (.iconst 1, 1) := by decide +kernel
theorem dX4_runOneMinute_100 : decode cX4_runOneMinute 100 = .ok (.ireturn, 1) := by decide +kernel
end
section
theorem dX5_init_0 : decode cX5_init 0 = .ok (.aload_n 0, 1) := by decide +kernel
theorem dX5_init_1 : decode cX5_init 1 = .ok (.invokespecial 1, 3) := by decide +kernel
theorem dX5_init_4 : decode cX5_init 4 = .ok (.aload_n 0, 1) := by decide +kernel
theorem dX5_init_5 : decode cX5_init 5 = .ok (.iconst 5, 1) := by decide +kernel
theorem dX5_init_6 : decode cX5_init 6 = .ok (.newarray .int, 2) := by decide +kernel
theorem dX5_init_8 : decode cX5_init 8 = .ok (.putfield 7, 3) := by decide +kernel
theorem dX5_init_11 : decode cX5_init 11 = .ok (.aload_n 0, 1) := by decide +kernel
theorem dX5_init_12 : decode cX5_init 12 = .ok (.iconst 5, 1) := by decide +kernel
theorem dX5_init_13 : decode cX5_init 13 = .ok (.newarray .int, 2) := by decide +kernel
theorem dX5_init_15 : decode cX5_init 15 = .ok (.putfield 13, 3) := by decide +kernel
theorem dX5_init_18 : decode cX5_init 18 = .ok (.aload_n 0, 1) := by decide +kernel
theorem dX5_init_19 : decode cX5_init 19 = .ok (.bipush 25, 2) := by decide +kernel
theorem dX5_init_21 : decode cX5_init 21 = .ok (.newarray .boolean, 2) := by decide +kernel
theorem dX5_init_23 : decode cX5_init 23 = .ok (.putfield 16, 3) := by decide +kernel
theorem dX5_init_26 : decode cX5_init 26 = .ok (.aload_n 0, 1) := by decide +kernel
theorem dX5_init_27 : decode cX5_init 27 = .ok (.bipush 25, 2) := by decide +kernel
theorem dX5_init_29 : decode cX5_init 29 = .ok (.newarray .int, 2) := by decide +kernel
theorem dX5_init_31 : decode cX5_init 31 = .ok (.putfield 20, 3) := by decide +kernel
theorem dX5_init_34 : decode cX5_init 34 = .ok (.aload_n 0, 1) := by decide +kernel
theorem dX5_init_35 : decode cX5_init 35 = .ok (.bipush 25, 2) := by decide +kernel
theorem dX5_init_37 : decode cX5_init 37 = .ok (.newarray .int, 2) := by decide +kernel
theorem dX5_init_39 : decode cX5_init 39 = .ok (.putfield 23, 3) := by decide +kernel
theorem dX5_init_42 : decode cX5_init 42 = .ok (.aload_n 0, 1) := by decide +kernel
theorem dX5_init_43 : decode cX5_init 43 = .ok (.bipush 25, 2) := by decide +kernel
theorem dX5_init_45 : decode cX5_init 45 = .ok (.newarray .long, 2) := by decide +kernel
theorem dX5_init_47 : decode cX5_init 47 = .ok (.putfield 26, 3) := by decide +kernel
theorem dX5_init_50 : decode cX5_init 50 = .ok (.aload_n 0, 1) := by decide +kernel
theorem dX5_init_51 : decode cX5_init 51 = .ok (.bipush 25, 2) := by decide +kernel
theorem dX5_init_53 : decode cX5_init 53 = .ok (.newarray .long, 2) := by decide +kernel
theorem dX5_init_55 : decode cX5_init 55 = .ok (.putfield 30, 3) := by decide +kernel
theorem dX5_init_58 : decode cX5_init 58 = .ok (.aload_n 0, 1) := by decide +kernel
theorem dX5_init_59 : decode cX5_init 59 = .ok (.bipush 20, 2) := by decide +kernel
theorem dX5_init_61 : decode cX5_init 61 = .ok (.newarray .int, 2) := by decide +kernel
theorem dX5_init_63 : decode cX5_init 63 = .ok (.putfield 33, 3) := by decide +kernel
theorem dX5_init_66 : decode cX5_init 66 = .ok (.aload_n 0, 1) := by decide +kernel
theorem dX5_init_67 : decode cX5_init 67 = .ok (.sipush 200, 3) := by decide +kernel
theorem dX5_init_70 : decode cX5_init 70 = .ok (.newarray .int, 2) := by decide +kernel
theorem dX5_init_72 : decode cX5_init 72 = .ok (.putfield 36, 3) := by decide +kernel
theorem dX5_init_75 : decode cX5_init 75 = .ok (.aload_n 0, 1) := by decide +kernel
theorem dX5_init_76 : decode cX5_init 76 = .ok (.bipush 20, 2) := by decide +kernel
theorem dX5_init_78 : decode cX5_init 78 = .ok (.newarray .int, 2) := by decide +kernel
theorem dX5_init_80 : decode cX5_init 80 = .ok (.putfield 39, 3) := by decide +kernel
theorem dX5_init_83 : decode cX5_init 83 = .ok (.aload_n 0, 1) := by decide +kernel
theorem dX5_init_84 : decode cX5_init 84 = .ok (.bipush 20, 2) := by decide +kernel
theorem dX5_init_86 : decode cX5_init 86 = .ok (.newarray .int, 2) := by decide +kernel
theorem dX5_init_88 : decode cX5_init 88 = .ok (.putfield 42, 3) := by decide +kernel
theorem dX5_init_91 : decode cX5_init 91 = .ok (.aload_n 0, 1) := by decide +kernel
theorem dX5_init_92 : decode cX5_init 92 = .ok (.bipush 60, 2) := by decide +kernel
theorem dX5_init_94 : decode cX5_init 94 = .ok (.newarray .int, 2) := by decide +kernel
theorem dX5_init_96 : decode cX5_init 96 = .ok (.putfield 45, 3) := by decide +kernel
theorem dX5_init_99 : decode cX5_init 99 = .ok (.aload_n 0, 1) := by decide +kernel
theorem dX5_init_100 : decode cX5_init 100 = .ok (.bipush 60, 2) := by decide +kernel
theorem dX5_init_102 : decode cX5_init 102 = .ok (.newarray .int, 2) := by decide +kernel
theorem dX5_init_104 : decode cX5_init 104 = .ok (.putfield 48, 3) := by decide +kernel
theorem dX5_init_107 : decode cX5_init 107 = .ok (.aload_n 0, 1) := by decide +kernel
theorem dX5_init_108 : decode cX5_init 108 = .ok (.bipush 60, 2) := by decide +kernel
theorem dX5_init_110 : decode cX5_init 110 = .ok (.newarray .int, 2) := by decide +kernel
theorem dX5_init_112 : decode cX5_init 112 = .ok (.putfield 51, 3) := by decide +kernel
theorem dX5_init_115 : decode cX5_init 115 = .ok (.aload_n 0, 1) := by decide +kernel
theorem dX5_init_116 : decode cX5_init 116 = .ok (.bipush 60, 2) := by decide +kernel
theorem dX5_init_118 : decode cX5_init 118 = .ok (.newarray .int, 2) := by decide +kernel
theorem dX5_init_120 : decode cX5_init 120 = .ok (.putfield 54, 3) := by decide +kernel
theorem dX5_init_123 : decode cX5_init 123 = .ok (.aload_n 0, 1) := by decide +kernel
theorem dX5_init_124 : decode cX5_init 124 = .ok (.bipush 60, 2) := by decide +kernel
theorem dX5_init_126 : decode cX5_init 126 = .ok (.newarray .int, 2) := by decide +kernel
theorem dX5_init_128 : decode cX5_init 128 = .ok (.putfield 57, 3) := by decide +kernel
theorem dX5_init_131 : decode cX5_init 131 = .ok (.aload_n 0, 1) := by decide +kernel
theorem dX5_init_132 : decode cX5_init 132 = .ok (.bipush 60, 2) := by decide +kernel
theorem dX5_init_134 : decode cX5_init 134 = .ok (.newarray .int, 2) := by decide +kernel
theorem dX5_init_136 : decode cX5_init 136 = .ok (.putfield 60, 3) := by decide +kernel
theorem dX5_init_139 : decode cX5_init 139 = .ok (.aload_n 0, 1) := by decide +kernel
theorem dX5_init_140 : decode cX5_init 140 = .ok (.bipush 60, 2) := by decide +kernel
theorem dX5_init_142 : decode cX5_init 142 = .ok (.newarray .int, 2) := by decide +kernel
theorem dX5_init_144 : decode cX5_init 144 = .ok (.putfield 63, 3) := by decide +kernel
theorem dX5_init_147 : decode cX5_init 147 = .ok (.aload_n 0, 1) := by decide +kernel
theorem dX5_init_148 : decode cX5_init 148 = .ok (.bipush 60, 2) := by decide +kernel
theorem dX5_init_150 : decode cX5_init 150 = .ok (.newarray .int, 2) := by decide +kernel
theorem dX5_init_152 : decode cX5_init 152 = .ok (.putfield 66, 3) := by decide +kernel
theorem dX5_init_155 : decode cX5_init 155 = .ok (.aload_n 0, 1) := by decide +kernel
theorem dX5_init_156 : decode cX5_init 156 = .ok (.sipush 300, 3) := by decide +kernel
theorem dX5_init_159 : decode cX5_init 159 = .ok (.newarray .int, 2) := by decide +kernel
theorem dX5_init_161 : decode cX5_init 161 = .ok (.putfield 69, 3) := by decide +kernel
theorem dX5_init_164 : decode cX5_init 164 = .ok (.aload_n 0, 1) := by decide +kernel
theorem dX5_init_165 : decode cX5_init 165 = .ok (.iconst 5, 1) := by decide +kernel
theorem dX5_init_166 : decode cX5_init 166 = .ok (.newarray .int, 2) := by decide +kernel
theorem dX5_init_168 : decode cX5_init 168 = .ok (.putfield 72, 3) := by decide +kernel
theorem dX5_init_171 : decode cX5_init 171 = .ok (.aload_n 0, 1) := by decide +kernel
theorem dX5_init_172 : decode cX5_init 172 = .ok (.iconst 5, 1) := by decide +kernel
theorem dX5_init_173 : decode cX5_init 173 = .ok (.newarray .int, 2) := by decide +kernel
theorem dX5_init_175 : decode cX5_init 175 = .ok (.putfield 75, 3) := by decide +kernel
theorem dX5_init_178 : decode cX5_init 178 = .ok (.iconst 0, 1) := by decide +kernel
theorem dX5_init_179 : decode cX5_init 179 = .ok (.istore_n 1, 1) := by decide +kernel
theorem dX5_init_180 : decode cX5_init 180 = .ok (.iload_n 1, 1) := by decide +kernel
theorem dX5_init_181 : decode cX5_init 181 = .ok (.iconst 5, 1) := by decide +kernel
theorem dX5_init_182 : decode cX5_init 182 = .ok (.if_icmp .ge 24, 3) := by decide +kernel
theorem dX5_init_185 : decode cX5_init 185 = .ok (.aload_n 0, 1) := by decide +kernel
theorem dX5_init_186 : decode cX5_init 186 = .ok (.getfield 7, 3) := by decide +kernel
theorem dX5_init_189 : decode cX5_init 189 = .ok (.iload_n 1, 1) := by decide +kernel
theorem dX5_init_190 : decode cX5_init 190 = .ok (.iconst 1, 1) := by decide +kernel
theorem dX5_init_191 : decode cX5_init 191 = .ok (.iastore, 1) := by decide +kernel
theorem dX5_init_192 : decode cX5_init 192 = .ok (.aload_n 0, 1) := by decide +kernel
theorem dX5_init_193 : decode cX5_init 193 = .ok (.getfield 13, 3) := by decide +kernel
theorem dX5_init_196 : decode cX5_init 196 = .ok (.iload_n 1, 1) := by decide +kernel
theorem dX5_init_197 : decode cX5_init 197 = .ok (.bipush 10, 2) := by decide +kernel
theorem dX5_init_199 : decode cX5_init 199 = .ok (.iastore, 1) := by decide +kernel
theorem dX5_init_200 : decode cX5_init 200 = .ok (.iinc 1 1, 3) := by decide +kernel
theorem dX5_init_203 : decode cX5_init 203 = .ok (.goto (-23), 3) := by decide +kernel
theorem dX5_init_206 : decode cX5_init 206 = .ok (.return_, 1) := by decide +kernel
theorem dX5_thrown_0 : decode cX5_thrown 0 = .ok (.aload_n 0, 1) := by decide +kernel
theorem dX5_thrown_1 : decode cX5_thrown 1 = .ok (.getfield 78, 3) := by decide +kernel
theorem dX5_thrown_4 : decode cX5_thrown 4 = .ok (.ireturn, 1) := by decide +kernel
theorem dX5_isIn_0 : decode cX5_isIn 0 = .ok (.iload_n 0, 1) := by decide +kernel
theorem dX5_isIn_1 : decode cX5_isIn 1 = .ok (.iload_n 1, 1) := by decide +kernel
theorem dX5_isIn_2 : decode cX5_isIn 2 = .ok (.if_icmp .lt 12, 3) := by decide +kernel
theorem dX5_isIn_5 : decode cX5_isIn 5 = .ok (.iload_n 0, 1) := by decide +kernel
theorem dX5_isIn_6 : decode cX5_isIn 6 = .ok (.iload_n 2, 1) := by decide +kernel
theorem dX5_isIn_7 : decode cX5_isIn 7 = .ok (.if_icmp .gt 7, 3) := by decide +kernel
theorem dX5_isIn_10 : decode cX5_isIn 10 = .ok (.iconst 1, 1) := by decide +kernel
theorem dX5_isIn_11 : decode cX5_isIn 11 = .ok (.goto 4, 3) := by decide +kernel
theorem dX5_isIn_14 : decode cX5_isIn 14 = .ok (.iconst 0, 1) := by decide +kernel
theorem dX5_isIn_15 : decode cX5_isIn 15 = .ok (.ireturn, 1) := by decide +kernel
theorem dX5_isCarrier_0 : decode cX5_isCarrier 0 = .ok (.iload_n 0, 1) := by decide +kernel
theorem dX5_isCarrier_1 : decode cX5_isCarrier 1 = .ok (.iconst 0, 1) := by decide +kernel
theorem dX5_isCarrier_2 : decode cX5_isCarrier 2 = .ok (.iconst 4, 1) := by decide +kernel
theorem dX5_isCarrier_3 : decode cX5_isCarrier 3 = .ok (.invokestatic 82, 3) := by decide +kernel
theorem dX5_isCarrier_6 : decode cX5_isCarrier 6 = .ok (.ireturn, 1) := by decide +kernel
theorem dX5_areCarriers_0 : decode cX5_areCarriers 0 = .ok (.iload_n 0, 1) := by decide +kernel
theorem dX5_areCarriers_1 : decode cX5_areCarriers 1 = .ok (.invokestatic 86, 3) := by decide +kernel
theorem dX5_areCarriers_4 : decode cX5_areCarriers 4 = .ok (.ifCond .eq 14, 3) := by decide +kernel
theorem dX5_areCarriers_7 : decode cX5_areCarriers 7 = .ok (.iload_n 1, 1) := by decide +kernel
theorem dX5_areCarriers_8 : decode cX5_areCarriers 8 = .ok (.invokestatic 86, 3) := by decide +kernel
theorem dX5_areCarriers_11 : decode cX5_areCarriers 11 = .ok (.ifCond .eq 7, 3) := by decide +kernel
theorem dX5_areCarriers_14 : decode cX5_areCarriers 14 = .ok (.iconst 1, 1) := by decide +kernel
theorem dX5_areCarriers_15 : decode cX5_areCarriers 15 = .ok (.goto 4, 3) := by decide +kernel
theorem dX5_areCarriers_18 : decode cX5_areCarriers 18 = .ok (.iconst 0, 1) := by decide +kernel
theorem dX5_areCarriers_19 : decode cX5_areCarriers 19 = .ok (.ireturn, 1) := by decide +kernel
theorem dX5_isNumber_0 : decode cX5_isNumber 0 = .ok (.iload_n 1, 1) := by decide +kernel
theorem dX5_isNumber_1 : decode cX5_isNumber 1 = .ok (.iconst 0, 1) := by decide +kernel
theorem dX5_isNumber_2 : decode cX5_isNumber 2 = .ok (.aload_n 0, 1) := by decide +kernel
theorem dX5_isNumber_3 : decode cX5_isNumber 3 = .ok (.getfield 90, 3) := by decide +kernel
theorem dX5_isNumber_6 : decode cX5_isNumber 6 = .ok (.iconst 1, 1) := by decide +kernel
theorem dX5_isNumber_7 : decode cX5_isNumber 7 = .ok (.isub, 1) := by decide +kernel
theorem dX5_isNumber_8 : decode cX5_isNumber 8 = .ok (.invokestatic 82, 3) := by decide +kernel
theorem dX5_isNumber_11 : decode cX5_isNumber 11 = .ok (.ireturn, 1) := by decide +kernel
theorem dX5_isCall_0 : decode cX5_isCall 0 = .ok (.iload_n 1, 1) := by decide +kernel
theorem dX5_isCall_1 : decode cX5_isCall 1 = .ok (.iconst 0, 1) := by decide +kernel
theorem dX5_isCall_2 : decode cX5_isCall 2 = .ok (.aload_n 0, 1) := by decide +kernel
theorem dX5_isCall_3 : decode cX5_isCall 3 = .ok (.getfield 93, 3) := by decide +kernel
theorem dX5_isCall_6 : decode cX5_isCall 6 = .ok (.iconst 1, 1) := by decide +kernel
theorem dX5_isCall_7 : decode cX5_isCall 7 = .ok (.isub, 1) := by decide +kernel
theorem dX5_isCall_8 : decode cX5_isCall 8 = .ok (.invokestatic 82, 3) := by decide +kernel
theorem dX5_isCall_11 : decode cX5_isCall 11 = .ok (.ireturn, 1) := by decide +kernel
theorem dX5_homeOf_0 : decode cX5_homeOf 0 = .ok (.aload_n 0, 1) := by decide +kernel
theorem dX5_homeOf_1 : decode cX5_homeOf 1 = .ok (.getfield 36, 3) := by decide +kernel
theorem dX5_homeOf_4 : decode cX5_homeOf 4 = .ok (.bipush 10, 2) := by decide +kernel
theorem dX5_homeOf_6 : decode cX5_homeOf 6 = .ok (.iload_n 1, 1) := by decide +kernel
theorem dX5_homeOf_7 : decode cX5_homeOf 7 = .ok (.imul, 1) := by decide +kernel
theorem dX5_homeOf_8 : decode cX5_homeOf 8 = .ok (.aload_n 0, 1) := by decide +kernel
theorem dX5_homeOf_9 : decode cX5_homeOf 9 = .ok (.getfield 33, 3) := by decide +kernel
theorem dX5_homeOf_12 : decode cX5_homeOf 12 = .ok (.iload_n 1, 1) := by decide +kernel
theorem dX5_homeOf_13 : decode cX5_homeOf 13 = .ok (.iaload, 1) := by decide +kernel
theorem dX5_homeOf_14 : decode cX5_homeOf 14 = .ok (.iadd, 1) := by decide +kernel
theorem dX5_homeOf_15 : decode cX5_homeOf 15 = .ok (.iconst 1, 1) := by decide +kernel
theorem dX5_homeOf_16 : decode cX5_homeOf 16 = .ok (.isub, 1) := by decide +kernel
theorem dX5_homeOf_17 : decode cX5_homeOf 17 = .ok (.iaload, 1) := by decide +kernel
theorem dX5_homeOf_18 : decode cX5_homeOf 18 = .ok (.ireturn, 1) := by decide +kernel
theorem dX5_tariff_0 : decode cX5_tariff 0 = .ok (.aload_n 0, 1) := by decide +kernel
theorem dX5_tariff_1 : decode cX5_tariff 1 = .ok (.iload_n 1, 1) := by decide +kernel
theorem dX5_tariff_2 : decode cX5_tariff 2 = .ok (.invokestatic 86, 3) := by decide +kernel
theorem dX5_tariff_5 : decode cX5_tariff 5 = .ok (.ifCond .ne 7, 3) := by decide +kernel
theorem dX5_tariff_8 : decode cX5_tariff 8 = .ok (.iconst 1, 1) := by decide +kernel
theorem dX5_tariff_9 : decode cX5_tariff 9 = .ok (.goto 29, 3) := by decide +kernel
theorem dX5_tariff_12 : decode cX5_tariff 12 = .ok (.iload_n 2, 1) := by decide +kernel
theorem dX5_tariff_13 : decode cX5_tariff 13 = .ok (.iconst 1, 1) := by decide +kernel
theorem dX5_tariff_14 : decode cX5_tariff 14 = .ok (.bipush 10, 2) := by decide +kernel
theorem dX5_tariff_16 : decode cX5_tariff 16 = .ok (.invokestatic 82, 3) := by decide +kernel
theorem dX5_tariff_19 : decode cX5_tariff 19 = .ok (.ifCond .eq 18, 3) := by decide +kernel
theorem dX5_tariff_22 : decode cX5_tariff 22 = .ok (.iload_n 3, 1) := by decide +kernel
theorem dX5_tariff_23 : decode cX5_tariff 23 = .ok (.iconst 0, 1) := by decide +kernel
theorem dX5_tariff_24 : decode cX5_tariff 24 = .ok (.sipush 1000, 3) := by decide +kernel
theorem dX5_tariff_27 : decode cX5_tariff 27 = .ok (.invokestatic 82, 3) := by decide +kernel
theorem dX5_tariff_30 : decode cX5_tariff 30 = .ok (.ifCond .eq 7, 3) := by decide +kernel
theorem dX5_tariff_33 : decode cX5_tariff 33 = .ok (.iconst 0, 1) := by decide +kernel
theorem dX5_tariff_34 : decode cX5_tariff 34 = .ok (.goto 4, 3) := by decide +kernel
theorem dX5_tariff_37 : decode cX5_tariff 37 = .ok (.iconst 2, 1) := by decide +kernel
theorem dX5_tariff_38 : decode cX5_tariff 38 = .ok (.putfield 78, 3) := by decide +kernel
theorem dX5_tariff_41 : decode cX5_tariff 41 = .ok (.aload_n 0, 1) := by decide +kernel
theorem dX5_tariff_42 : decode cX5_tariff 42 = .ok (.getfield 78, 3) := by decide +kernel
theorem dX5_tariff_45 : decode cX5_tariff 45 = .ok (.ifCond .le 5, 3) := by decide +kernel
theorem dX5_tariff_48 : decode cX5_tariff 48 = .ok (.iconst 0, 1) := by decide +kernel
theorem dX5_tariff_49 : decode cX5_tariff 49 = .ok (.ireturn, 1) := by decide +kernel
theorem dX5_tariff_50 : decode cX5_tariff 50 = .ok (.aload_n 0, 1) := by decide +kernel
theorem dX5_tariff_51 : decode cX5_tariff 51 = .ok (.getfield 13, 3) := by decide +kernel
theorem dX5_tariff_54 : decode cX5_tariff 54 = .ok (.iload_n 1, 1) := by decide +kernel
theorem dX5_tariff_55 : decode cX5_tariff 55 = .ok (.iaload, 1) := by decide +kernel
theorem dX5_tariff_56 : decode cX5_tariff 56 = .ok (.istore 4, 2) := by decide +kernel
theorem dX5_tariff_58 : decode cX5_tariff 58 = .ok (.aload_n 0, 1) := by decide +kernel
theorem dX5_tariff_59 : decode cX5_tariff 59 = .ok (.getfield 7, 3) := by decide +kernel
theorem dX5_tariff_62 : decode cX5_tariff 62 = .ok (.iload_n 1, 1) := by decide +kernel
theorem dX5_tariff_63 : decode cX5_tariff 63 = .ok (.iload_n 2, 1) := by decide +kernel
theorem dX5_tariff_64 : decode cX5_tariff 64 = .ok (.iastore, 1) := by decide +kernel
theorem dX5_tariff_65 : decode cX5_tariff 65 = .ok (.aload_n 0, 1) := by decide +kernel
theorem dX5_tariff_66 : decode cX5_tariff 66 = .ok (.getfield 13, 3) := by decide +kernel
theorem dX5_tariff_69 : decode cX5_tariff 69 = .ok (.iload_n 1, 1) := by decide +kernel
theorem dX5_tariff_70 : decode cX5_tariff 70 = .ok (.iload_n 3, 1) := by decide +kernel
theorem dX5_tariff_71 : decode cX5_tariff 71 = .ok (.iastore, 1) := by decide +kernel
theorem dX5_tariff_72 : decode cX5_tariff 72 = .ok (.iload 4, 2) := by decide +kernel
theorem dX5_tariff_74 : decode cX5_tariff 74 = .ok (.ireturn, 1) := by decide +kernel
theorem dX5_link_0 : decode cX5_link 0 = .ok (.iload_n 1, 1) := by decide +kernel
theorem dX5_link_1 : decode cX5_link 1 = .ok (.iload_n 2, 1) := by decide +kernel
theorem dX5_link_2 : decode cX5_link 2 = .ok (.if_icmp .eq 28, 3) := by decide +kernel
theorem dX5_link_5 : decode cX5_link 5 = .ok (.iload_n 3, 1) := by decide +kernel
theorem dX5_link_6 : decode cX5_link 6 = .ok (.iconst 0, 1) := by decide +kernel
theorem dX5_link_7 : decode cX5_link 7 = .ok (.bipush 100, 2) := by decide +kernel
theorem dX5_link_9 : decode cX5_link 9 = .ok (.invokestatic 82, 3) := by decide +kernel
theorem dX5_link_12 : decode cX5_link 12 = .ok (.ifCond .eq 18, 3) := by decide +kernel
theorem dX5_link_15 : decode cX5_link 15 = .ok (.iload 4, 2) := by decide +kernel
theorem dX5_link_17 : decode cX5_link 17 = .ok (.iconst 0, 1) := by decide +kernel
theorem dX5_link_18 : decode cX5_link 18 = .ok (.ldc 96, 2) := by decide +kernel
theorem dX5_link_20 : decode cX5_link 20 = .ok (.invokestatic 82, 3) := by decide +kernel
theorem dX5_link_23 : decode cX5_link 23 = .ok (.ifCond .eq 7, 3) := by decide +kernel
theorem dX5_link_26 : decode cX5_link 26 = .ok (.iconst 1, 1) := by decide +kernel
theorem dX5_link_27 : decode cX5_link 27 = .ok (.goto 4, 3) := by decide +kernel
theorem dX5_link_30 : decode cX5_link 30 = .ok (.iconst 0, 1) := by decide +kernel
theorem dX5_link_31 : decode cX5_link 31 = .ok (.istore 5, 2) := by decide +kernel
theorem dX5_link_33 : decode cX5_link 33 = .ok (.aload_n 0, 1) := by decide +kernel
theorem dX5_link_34 : decode cX5_link 34 = .ok (.iload_n 1, 1) := by decide +kernel
theorem dX5_link_35 : decode cX5_link 35 = .ok (.iload_n 2, 1) := by decide +kernel
theorem dX5_link_36 : decode cX5_link 36 = .ok (.invokestatic 97, 3) := by decide +kernel
theorem dX5_link_39 : decode cX5_link 39 = .ok (.ifCond .ne 7, 3) := by decide +kernel
theorem dX5_link_42 : decode cX5_link 42 = .ok (.iconst 1, 1) := by decide +kernel
theorem dX5_link_43 : decode cX5_link 43 = .ok (.goto 13, 3) := by decide +kernel
theorem dX5_link_46 : decode cX5_link 46 = .ok (.iload 5, 2) := by decide +kernel
theorem dX5_link_48 : decode cX5_link 48 = .ok (.ifCond .eq 7, 3) := by decide +kernel
theorem dX5_link_51 : decode cX5_link 51 = .ok (.iconst 0, 1) := by decide +kernel
theorem dX5_link_52 : decode cX5_link 52 = .ok (.goto 4, 3) := by decide +kernel
theorem dX5_link_55 : decode cX5_link 55 = .ok (.iconst 2, 1) := by decide +kernel
theorem dX5_link_56 : decode cX5_link 56 = .ok (.putfield 78, 3) := by decide +kernel
theorem dX5_link_59 : decode cX5_link 59 = .ok (.aload_n 0, 1) := by decide +kernel
theorem dX5_link_60 : decode cX5_link 60 = .ok (.getfield 78, 3) := by decide +kernel
theorem dX5_link_63 : decode cX5_link 63 = .ok (.ifCond .le 5, 3) := by decide +kernel
theorem dX5_link_66 : decode cX5_link 66 = .ok (.iconst 0, 1) := by decide +kernel
theorem dX5_link_67 : decode cX5_link 67 = .ok (.ireturn, 1) := by decide +kernel
theorem dX5_link_68 : decode cX5_link 68 = .ok (.iconst 5, 1) := by decide +kernel
theorem dX5_link_69 : decode cX5_link 69 = .ok (.iload_n 1, 1) := by decide +kernel
theorem dX5_link_70 : decode cX5_link 70 = .ok (.imul, 1) := by decide +kernel
theorem dX5_link_71 : decode cX5_link 71 = .ok (.iload_n 2, 1) := by decide +kernel
theorem dX5_link_72 : decode cX5_link 72 = .ok (.iadd, 1) := by decide +kernel
theorem dX5_link_73 : decode cX5_link 73 = .ok (.istore 6, 2) := by decide +kernel
theorem dX5_link_75 : decode cX5_link 75 = .ok (.aload_n 0, 1) := by decide +kernel
theorem dX5_link_76 : decode cX5_link 76 = .ok (.getfield 16, 3) := by decide +kernel
theorem dX5_link_79 : decode cX5_link 79 = .ok (.iload 6, 2) := by decide +kernel
theorem dX5_link_81 : decode cX5_link 81 = .ok (.baload, 1) := by decide +kernel
theorem dX5_link_82 : decode cX5_link 82 = .ok (.istore 7, 2) := by decide +kernel
theorem dX5_link_84 : decode cX5_link 84 = .ok (.aload_n 0, 1) := by decide +kernel
theorem dX5_link_85 : decode cX5_link 85 = .ok (.getfield 16, 3) := by decide +kernel
theorem dX5_link_88 : decode cX5_link 88 = .ok (.iload 6, 2) := by decide +kernel
theorem dX5_link_90 : decode cX5_link 90 = .ok (.iconst 1, 1) := by decide +kernel
theorem dX5_link_91 : decode cX5_link 91 = .ok (.bastore, 1) := by decide +kernel
theorem dX5_link_92 : decode cX5_link 92 = .ok (.aload_n 0, 1) := by decide +kernel
theorem dX5_link_93 : decode cX5_link 93 = .ok (.getfield 20, 3) := by decide +kernel
theorem dX5_link_96 : decode cX5_link 96 = .ok (.iload 6, 2) := by decide +kernel
theorem dX5_link_98 : decode cX5_link 98 = .ok (.iload_n 3, 1) := by decide +kernel
theorem dX5_link_99 : decode cX5_link 99 = .ok (.iastore, 1) := by decide +kernel
theorem dX5_link_100 : decode cX5_link 100 = .ok (.aload_n 0, 1) := by decide +kernel
theorem dX5_link_101 : decode cX5_link 101 = .ok (.getfield 23, 3) := by decide +kernel
theorem dX5_link_104 : decode cX5_link 104 = .ok (.iload 6, 2) := by decide +kernel
theorem dX5_link_106 : decode cX5_link 106 = .ok (.iload 4, 2) := by decide +kernel
theorem dX5_link_108 : decode cX5_link 108 = .ok (.iastore, 1) := by decide +kernel
theorem dX5_link_109 : decode cX5_link 109 = .ok (.iload 7, 2) := by decide +kernel
theorem dX5_link_111 : decode cX5_link 111 = .ok (.ireturn, 1) := by decide +kernel
theorem dX5_unlink_0 : decode cX5_unlink 0 = .ok (.aload_n 0, 1) := by decide +kernel
theorem dX5_unlink_1 : decode cX5_unlink 1 = .ok (.iload_n 1, 1) := by decide +kernel
theorem dX5_unlink_2 : decode cX5_unlink 2 = .ok (.iload_n 2, 1) := by decide +kernel
theorem dX5_unlink_3 : decode cX5_unlink 3 = .ok (.invokestatic 97, 3) := by decide +kernel
theorem dX5_unlink_6 : decode cX5_unlink 6 = .ok (.ifCond .eq 7, 3) := by decide +kernel
theorem dX5_unlink_9 : decode cX5_unlink 9 = .ok (.iconst 0, 1) := by decide +kernel
theorem dX5_unlink_10 : decode cX5_unlink 10 = .ok (.goto 4, 3) := by decide +kernel
theorem dX5_unlink_13 : decode cX5_unlink 13 = .ok (.iconst 1, 1) := by decide +kernel
theorem dX5_unlink_14 : decode cX5_unlink 14 = .ok (.putfield 78, 3) := by decide +kernel
theorem dX5_unlink_17 : decode cX5_unlink 17 = .ok (.aload_n 0, 1) := by decide +kernel
theorem dX5_unlink_18 : decode cX5_unlink 18 = .ok (.getfield 78, 3) := by decide +kernel
theorem dX5_unlink_21 : decode cX5_unlink 21 = .ok (.ifCond .le 5, 3) := by decide +kernel
theorem dX5_unlink_24 : decode cX5_unlink 24 = .ok (.iconst 0, 1) := by decide +kernel
theorem dX5_unlink_25 : decode cX5_unlink 25 = .ok (.ireturn, 1) := by decide +kernel
theorem dX5_unlink_26 : decode cX5_unlink 26 = .ok (.iconst 5, 1) := by decide +kernel
theorem dX5_unlink_27 : decode cX5_unlink 27 = .ok (.iload_n 1, 1) := by decide +kernel
theorem dX5_unlink_28 : decode cX5_unlink 28 = .ok (.imul, 1) := by decide +kernel
theorem dX5_unlink_29 : decode cX5_unlink 29 = .ok (.iload_n 2, 1) := by decide +kernel
theorem dX5_unlink_30 : decode cX5_unlink 30 = .ok (.iadd, 1) := by decide +kernel
theorem dX5_unlink_31 : decode cX5_unlink 31 = .ok (.istore_n 3, 1) := by decide +kernel
theorem dX5_unlink_32 : decode cX5_unlink 32 = .ok (.aload_n 0, 1) := by decide +kernel
theorem dX5_unlink_33 : decode cX5_unlink 33 = .ok (.aload_n 0, 1) := by decide +kernel
theorem dX5_unlink_34 : decode cX5_unlink 34 = .ok (.getfield 16, 3) := by decide +kernel
theorem dX5_unlink_37 : decode cX5_unlink 37 = .ok (.iload_n 3, 1) := by decide +kernel
theorem dX5_unlink_38 : decode cX5_unlink 38 = .ok (.baload, 1) := by decide +kernel
theorem dX5_unlink_39 : decode cX5_unlink 39 = .ok (.ifCond .eq 7, 3) := by decide +kernel
theorem dX5_unlink_42 : decode cX5_unlink 42 = .ok (.iconst 0, 1) := by decide +kernel
theorem dX5_unlink_43 : decode cX5_unlink 43 = .ok (.goto 4, 3) := by decide +kernel
theorem dX5_unlink_46 : decode cX5_unlink 46 = .ok (.iconst 2, 1) := by decide +kernel
theorem dX5_unlink_47 : decode cX5_unlink 47 = .ok (.putfield 78, 3) := by decide +kernel
theorem dX5_unlink_50 : decode cX5_unlink 50 = .ok (.aload_n 0, 1) := by decide +kernel
theorem dX5_unlink_51 : decode cX5_unlink 51 = .ok (.getfield 16, 3) := by decide +kernel
theorem dX5_unlink_54 : decode cX5_unlink 54 = .ok (.iload_n 3, 1) := by decide +kernel
theorem dX5_unlink_55 : decode cX5_unlink 55 = .ok (.iconst 0, 1) := by decide +kernel
theorem dX5_unlink_56 : decode cX5_unlink 56 = .ok (.bastore, 1) := by decide +kernel
theorem dX5_unlink_57 : decode cX5_unlink 57 = .ok (.aload_n 0, 1) := by decide +kernel
theorem dX5_unlink_58 : decode cX5_unlink 58 = .ok (.getfield 78, 3) := by decide +kernel
theorem dX5_unlink_61 : decode cX5_unlink 61 = .ok (.ifCond .le 7, 3) := by decide +kernel
theorem dX5_unlink_64 : decode cX5_unlink 64 = .ok (.iconst 0, 1) := by decide +kernel
theorem dX5_unlink_65 : decode cX5_unlink 65 = .ok (.goto 9, 3) := by decide +kernel
theorem dX5_unlink_68 : decode cX5_unlink 68 = .ok (.aload_n 0, 1) := by decide +kernel
theorem dX5_unlink_69 : decode cX5_unlink 69 = .ok (.getfield 20, 3) := by decide +kernel
theorem dX5_unlink_72 : decode cX5_unlink 72 = .ok (.iload_n 3, 1) := by decide +kernel
theorem dX5_unlink_73 : decode cX5_unlink 73 = .ok (.iaload, 1) := by decide +kernel
theorem dX5_unlink_74 : decode cX5_unlink 74 = .ok (.ireturn, 1) := by decide +kernel
theorem dX5_number_0 : decode cX5_number 0 = .ok (.iload_n 2, 1) := by decide +kernel
theorem dX5_number_1 : decode cX5_number 1 = .ok (.iconst 0, 1) := by decide +kernel
theorem dX5_number_2 : decode cX5_number 2 = .ok (.sipush 10000, 3) := by decide +kernel
theorem dX5_number_5 : decode cX5_number 5 = .ok (.invokestatic 82, 3) := by decide +kernel
theorem dX5_number_8 : decode cX5_number 8 = .ok (.ifCond .eq 18, 3) := by decide +kernel
theorem dX5_number_11 : decode cX5_number 11 = .ok (.iload_n 3, 1) := by decide +kernel
theorem dX5_number_12 : decode cX5_number 12 = .ok (.iconst 0, 1) := by decide +kernel
theorem dX5_number_13 : decode cX5_number 13 = .ok (.sipush 1000, 3) := by decide +kernel
theorem dX5_number_16 : decode cX5_number 16 = .ok (.invokestatic 82, 3) := by decide +kernel
theorem dX5_number_19 : decode cX5_number 19 = .ok (.ifCond .eq 7, 3) := by decide +kernel
theorem dX5_number_22 : decode cX5_number 22 = .ok (.iconst 1, 1) := by decide +kernel
theorem dX5_number_23 : decode cX5_number 23 = .ok (.goto 4, 3) := by decide +kernel
theorem dX5_number_26 : decode cX5_number 26 = .ok (.iconst 0, 1) := by decide +kernel
theorem dX5_number_27 : decode cX5_number 27 = .ok (.istore 4, 2) := by decide +kernel
theorem dX5_number_29 : decode cX5_number 29 = .ok (.aload_n 0, 1) := by decide +kernel
theorem dX5_number_30 : decode cX5_number 30 = .ok (.iload_n 1, 1) := by decide +kernel
theorem dX5_number_31 : decode cX5_number 31 = .ok (.invokestatic 86, 3) := by decide +kernel
theorem dX5_number_34 : decode cX5_number 34 = .ok (.ifCond .ne 7, 3) := by decide +kernel
theorem dX5_number_37 : decode cX5_number 37 = .ok (.iconst 1, 1) := by decide +kernel
theorem dX5_number_38 : decode cX5_number 38 = .ok (.goto 26, 3) := by decide +kernel
theorem dX5_number_41 : decode cX5_number 41 = .ok (.iload 4, 2) := by decide +kernel
theorem dX5_number_43 : decode cX5_number 43 = .ok (.ifCond .ne 7, 3) := by decide +kernel
theorem dX5_number_46 : decode cX5_number 46 = .ok (.iconst 2, 1) := by decide +kernel
theorem dX5_number_47 : decode cX5_number 47 = .ok (.goto 17, 3) := by decide +kernel
theorem dX5_number_50 : decode cX5_number 50 = .ok (.aload_n 0, 1) := by decide +kernel
theorem dX5_number_51 : decode cX5_number 51 = .ok (.getfield 90, 3) := by decide +kernel
theorem dX5_number_54 : decode cX5_number 54 = .ok (.bipush 20, 2) := by decide +kernel
theorem dX5_number_56 : decode cX5_number 56 = .ok (.if_icmp .ne 7, 3) := by decide +kernel
theorem dX5_number_59 : decode cX5_number 59 = .ok (.iconst 3, 1) := by decide +kernel
theorem dX5_number_60 : decode cX5_number 60 = .ok (.goto 4, 3) := by decide +kernel
theorem dX5_number_63 : decode cX5_number 63 = .ok (.iconst 0, 1) := by decide +kernel
theorem dX5_number_64 : decode cX5_number 64 = .ok (.putfield 78, 3) := by decide +kernel
theorem dX5_number_67 : decode cX5_number 67 = .ok (.aload_n 0, 1) := by decide +kernel
theorem dX5_number_68 : decode cX5_number 68 = .ok (.getfield 78, 3) := by decide +kernel
theorem dX5_number_71 : decode cX5_number 71 = .ok (.ifCond .le 5, 3) := by decide +kernel
theorem dX5_number_74 : decode cX5_number 74 = .ok (.iconst 0, 1) := by decide +kernel
theorem dX5_number_75 : decode cX5_number 75 = .ok (.ireturn, 1) := by decide +kernel
theorem dX5_number_76 : decode cX5_number 76 = .ok (.aload_n 0, 1) := by decide +kernel
theorem dX5_number_77 : decode cX5_number 77 = .ok (.getfield 33, 3) := by decide +kernel
theorem dX5_number_80 : decode cX5_number 80 = .ok (.aload_n 0, 1) := by decide +kernel
theorem dX5_number_81 : decode cX5_number 81 = .ok (.getfield 90, 3) := by decide +kernel
theorem dX5_number_84 : decode cX5_number 84 = .ok (.iconst 1, 1) := by decide +kernel
theorem dX5_number_85 : decode cX5_number 85 = .ok (.iastore, 1) := by decide +kernel
theorem dX5_number_86 : decode cX5_number 86 = .ok (.aload_n 0, 1) := by decide +kernel
theorem dX5_number_87 : decode cX5_number 87 = .ok (.getfield 36, 3) := by decide +kernel
theorem dX5_number_90 : decode cX5_number 90 = .ok (.bipush 10, 2) := by decide +kernel
theorem dX5_number_92 : decode cX5_number 92 = .ok (.aload_n 0, 1) := by decide +kernel
theorem dX5_number_93 : decode cX5_number 93 = .ok (.getfield 90, 3) := by decide +kernel
theorem dX5_number_96 : decode cX5_number 96 = .ok (.imul, 1) := by decide +kernel
theorem dX5_number_97 : decode cX5_number 97 = .ok (.iload_n 1, 1) := by decide +kernel
theorem dX5_number_98 : decode cX5_number 98 = .ok (.iastore, 1) := by decide +kernel
theorem dX5_number_99 : decode cX5_number 99 = .ok (.aload_n 0, 1) := by decide +kernel
theorem dX5_number_100 : decode cX5_number 100 = .ok (.getfield 39, 3) := by decide +kernel
theorem dX5_number_103 : decode cX5_number 103 = .ok (.aload_n 0, 1) := by decide +kernel
theorem dX5_number_104 : decode cX5_number 104 = .ok (.getfield 90, 3) := by decide +kernel
theorem dX5_number_107 : decode cX5_number 107 = .ok (.iload_n 2, 1) := by decide +kernel
theorem dX5_number_108 : decode cX5_number 108 = .ok (.iastore, 1) := by decide +kernel
theorem dX5_number_109 : decode cX5_number 109 = .ok (.aload_n 0, 1) := by decide +kernel
theorem dX5_number_110 : decode cX5_number 110 = .ok (.getfield 42, 3) := by decide +kernel
theorem dX5_number_113 : decode cX5_number 113 = .ok (.aload_n 0, 1) := by decide +kernel
theorem dX5_number_114 : decode cX5_number 114 = .ok (.getfield 90, 3) := by decide +kernel
theorem dX5_number_117 : decode cX5_number 117 = .ok (.iload_n 3, 1) := by decide +kernel
theorem dX5_number_118 : decode cX5_number 118 = .ok (.iastore, 1) := by decide +kernel
theorem dX5_number_119 : decode cX5_number 119 = .ok (.aload_n 0, 1) := by decide +kernel
theorem dX5_number_120 : decode cX5_number 120 = .ok (.dup, 1) := by decide +kernel
theorem dX5_number_121 : decode cX5_number 121 = .ok (.getfield 90, 3) := by decide +kernel
theorem dX5_number_124 : decode cX5_number 124 = .ok (.iconst 1, 1) := by decide +kernel
theorem dX5_number_125 : decode cX5_number 125 = .ok (.iadd, 1) := by decide +kernel
theorem dX5_number_126 : decode cX5_number 126 = .ok (.putfield 90, 3) := by decide +kernel
theorem dX5_number_129 : decode cX5_number 129 = .ok (.aload_n 0, 1) := by decide +kernel
theorem dX5_number_130 : decode cX5_number 130 = .ok (.getfield 90, 3) := by decide +kernel
theorem dX5_number_133 : decode cX5_number 133 = .ok (.iconst 1, 1) := by decide +kernel
theorem dX5_number_134 : decode cX5_number 134 = .ok (.isub, 1) := by decide +kernel
theorem dX5_number_135 : decode cX5_number 135 = .ok (.ireturn, 1) := by decide +kernel
theorem dX5_carryOver_0 : decode cX5_carryOver 0 = .ok (.aload_n 0, 1) := by decide +kernel
theorem dX5_carryOver_1 : decode cX5_carryOver 1 = .ok (.aload_n 0, 1) := by decide +kernel
theorem dX5_carryOver_2 : decode cX5_carryOver 2 = .ok (.iload_n 1, 1) := by decide +kernel
theorem dX5_carryOver_3 : decode cX5_carryOver 3 = .ok (.invokevirtual 101, 3) := by decide +kernel
theorem dX5_carryOver_6 : decode cX5_carryOver 6 = .ok (.ifCond .eq 14, 3) := by decide +kernel
theorem dX5_carryOver_9 : decode cX5_carryOver 9 = .ok (.iload_n 2, 1) := by decide +kernel
theorem dX5_carryOver_10 : decode cX5_carryOver 10 = .ok (.invokestatic 86, 3) := by decide +kernel
theorem dX5_carryOver_13 : decode cX5_carryOver 13 = .ok (.ifCond .eq 7, 3) := by decide +kernel
theorem dX5_carryOver_16 : decode cX5_carryOver 16 = .ok (.iconst 0, 1) := by decide +kernel
theorem dX5_carryOver_17 : decode cX5_carryOver 17 = .ok (.goto 4, 3) := by decide +kernel
theorem dX5_carryOver_20 : decode cX5_carryOver 20 = .ok (.iconst 1, 1) := by decide +kernel
theorem dX5_carryOver_21 : decode cX5_carryOver 21 = .ok (.putfield 78, 3) := by decide +kernel
theorem dX5_carryOver_24 : decode cX5_carryOver 24 = .ok (.aload_n 0, 1) := by decide +kernel
theorem dX5_carryOver_25 : decode cX5_carryOver 25 = .ok (.getfield 78, 3) := by decide +kernel
theorem dX5_carryOver_28 : decode cX5_carryOver 28 = .ok (.ifCond .le 5, 3) := by decide +kernel
theorem dX5_carryOver_31 : decode cX5_carryOver 31 = .ok (.iconst 0, 1) := by decide +kernel
theorem dX5_carryOver_32 : decode cX5_carryOver 32 = .ok (.ireturn, 1) := by decide +kernel
theorem dX5_carryOver_33 : decode cX5_carryOver 33 = .ok (.aload_n 0, 1) := by decide +kernel
theorem dX5_carryOver_34 : decode cX5_carryOver 34 = .ok (.aload_n 0, 1) := by decide +kernel
theorem dX5_carryOver_35 : decode cX5_carryOver 35 = .ok (.iload_n 1, 1) := by decide +kernel
theorem dX5_carryOver_36 : decode cX5_carryOver 36 = .ok (.invokevirtual 104, 3) := by decide +kernel
theorem dX5_carryOver_39 : decode cX5_carryOver 39 = .ok (.iload_n 2, 1) := by decide +kernel
theorem dX5_carryOver_40 : decode cX5_carryOver 40 = .ok (.if_icmp .ne 7, 3) := by decide +kernel
theorem dX5_carryOver_43 : decode cX5_carryOver 43 = .ok (.iconst 2, 1) := by decide +kernel
theorem dX5_carryOver_44 : decode cX5_carryOver 44 = .ok (.goto 19, 3) := by decide +kernel
theorem dX5_carryOver_47 : decode cX5_carryOver 47 = .ok (.aload_n 0, 1) := by decide +kernel
theorem dX5_carryOver_48 : decode cX5_carryOver 48 = .ok (.getfield 33, 3) := by decide +kernel
theorem dX5_carryOver_51 : decode cX5_carryOver 51 = .ok (.iload_n 1, 1) := by decide +kernel
theorem dX5_carryOver_52 : decode cX5_carryOver 52 = .ok (.iaload, 1) := by decide +kernel
theorem dX5_carryOver_53 : decode cX5_carryOver 53 = .ok (.bipush 10, 2) := by decide +kernel
theorem dX5_carryOver_55 : decode cX5_carryOver 55 = .ok (.if_icmp .ne 7, 3) := by decide +kernel
theorem dX5_carryOver_58 : decode cX5_carryOver 58 = .ok (.iconst 3, 1) := by decide +kernel
theorem dX5_carryOver_59 : decode cX5_carryOver 59 = .ok (.goto 4, 3) := by decide +kernel
theorem dX5_carryOver_62 : decode cX5_carryOver 62 = .ok (.iconst 0, 1) := by decide +kernel
theorem dX5_carryOver_63 : decode cX5_carryOver 63 = .ok (.putfield 78, 3) := by decide +kernel
theorem dX5_carryOver_66 : decode cX5_carryOver 66 = .ok (.aload_n 0, 1) := by decide +kernel
theorem dX5_carryOver_67 : decode cX5_carryOver 67 = .ok (.getfield 78, 3) := by decide +kernel
theorem dX5_carryOver_70 : decode cX5_carryOver 70 = .ok (.ifCond .le 5, 3) := by decide +kernel
theorem dX5_carryOver_73 : decode cX5_carryOver 73 = .ok (.iconst 0, 1) := by decide +kernel
theorem dX5_carryOver_74 : decode cX5_carryOver 74 = .ok (.ireturn, 1) := by decide +kernel
theorem dX5_carryOver_75 : decode cX5_carryOver 75 = .ok (.aload_n 0, 1) := by decide +kernel
theorem dX5_carryOver_76 : decode cX5_carryOver 76 = .ok (.getfield 36, 3) := by decide +kernel
theorem dX5_carryOver_79 : decode cX5_carryOver 79 = .ok (.bipush 10, 2) := by decide +kernel
theorem dX5_carryOver_81 : decode cX5_carryOver 81 = .ok (.iload_n 1, 1) := by decide +kernel
theorem dX5_carryOver_82 : decode cX5_carryOver 82 = .ok (.imul, 1) := by decide +kernel
theorem dX5_carryOver_83 : decode cX5_carryOver 83 = .ok (.aload_n 0, 1) := by decide +kernel
theorem dX5_carryOver_84 : decode cX5_carryOver 84 = .ok (.getfield 33, 3) := by decide +kernel
theorem dX5_carryOver_87 : decode cX5_carryOver 87 = .ok (.iload_n 1, 1) := by decide +kernel
theorem dX5_carryOver_88 : decode cX5_carryOver 88 = .ok (.iaload, 1) := by decide +kernel
theorem dX5_carryOver_89 : decode cX5_carryOver 89 = .ok (.iadd, 1) := by decide +kernel
theorem dX5_carryOver_90 : decode cX5_carryOver 90 = .ok (.iload_n 2, 1) := by decide +kernel
theorem dX5_carryOver_91 : decode cX5_carryOver 91 = .ok (.iastore, 1) := by decide +kernel
theorem dX5_carryOver_92 : decode cX5_carryOver 92 = .ok (.aload_n 0, 1) := by decide +kernel
theorem dX5_carryOver_93 : decode cX5_carryOver 93 = .ok (.getfield 33, 3) := by decide +kernel
theorem dX5_carryOver_96 : decode cX5_carryOver 96 = .ok (.iload_n 1, 1) := by decide +kernel
theorem dX5_carryOver_97 : decode cX5_carryOver 97 = .ok (.dup2, 1) := by decide +kernel
theorem dX5_carryOver_98 : decode cX5_carryOver 98 = .ok (.iaload, 1) := by decide +kernel
theorem dX5_carryOver_99 : decode cX5_carryOver 99 = .ok (.iconst 1, 1) := by decide +kernel
theorem dX5_carryOver_100 : decode cX5_carryOver 100 = .ok (.iadd, 1) := by decide +kernel
theorem dX5_carryOver_101 : decode cX5_carryOver 101 = .ok (.iastore, 1) := by decide +kernel
theorem dX5_carryOver_102 : decode cX5_carryOver 102 = .ok (.aload_n 0, 1) := by decide +kernel
theorem dX5_carryOver_103 : decode cX5_carryOver 103 = .ok (.getfield 33, 3) := by decide +kernel
theorem dX5_carryOver_106 : decode cX5_carryOver 106 = .ok (.iload_n 1, 1) := by decide +kernel
theorem dX5_carryOver_107 : decode cX5_carryOver 107 = .ok (.iaload, 1) := by decide +kernel
theorem dX5_carryOver_108 : decode cX5_carryOver 108 = .ok (.ireturn, 1) := by decide +kernel
theorem dX5_home_0 : decode cX5_home 0 = .ok (.aload_n 0, 1) := by decide +kernel
theorem dX5_home_1 : decode cX5_home 1 = .ok (.iload_n 1, 1) := by decide +kernel
theorem dX5_home_2 : decode cX5_home 2 = .ok (.invokevirtual 101, 3) := by decide +kernel
theorem dX5_home_5 : decode cX5_home 5 = .ok (.ifCond .eq 21, 3) := by decide +kernel
theorem dX5_home_8 : decode cX5_home 8 = .ok (.iload_n 2, 1) := by decide +kernel
theorem dX5_home_9 : decode cX5_home 9 = .ok (.ifCond .lt 17, 3) := by decide +kernel
theorem dX5_home_12 : decode cX5_home 12 = .ok (.iload_n 2, 1) := by decide +kernel
theorem dX5_home_13 : decode cX5_home 13 = .ok (.aload_n 0, 1) := by decide +kernel
theorem dX5_home_14 : decode cX5_home 14 = .ok (.getfield 33, 3) := by decide +kernel
theorem dX5_home_17 : decode cX5_home 17 = .ok (.iload_n 1, 1) := by decide +kernel
theorem dX5_home_18 : decode cX5_home 18 = .ok (.iaload, 1) := by decide +kernel
theorem dX5_home_19 : decode cX5_home 19 = .ok (.if_icmp .ge 7, 3) := by decide +kernel
theorem dX5_home_22 : decode cX5_home 22 = .ok (.iconst 1, 1) := by decide +kernel
theorem dX5_home_23 : decode cX5_home 23 = .ok (.goto 4, 3) := by decide +kernel
theorem dX5_home_26 : decode cX5_home 26 = .ok (.iconst 0, 1) := by decide +kernel
theorem dX5_home_27 : decode cX5_home 27 = .ok (.istore_n 3, 1) := by decide +kernel
theorem dX5_home_28 : decode cX5_home 28 = .ok (.aload_n 0, 1) := by decide +kernel
theorem dX5_home_29 : decode cX5_home 29 = .ok (.iload_n 3, 1) := by decide +kernel
theorem dX5_home_30 : decode cX5_home 30 = .ok (.ifCond .eq 7, 3) := by decide +kernel
theorem dX5_home_33 : decode cX5_home 33 = .ok (.iconst 0, 1) := by decide +kernel
theorem dX5_home_34 : decode cX5_home 34 = .ok (.goto 4, 3) := by decide +kernel
theorem dX5_home_37 : decode cX5_home 37 = .ok (.iconst 1, 1) := by decide +kernel
theorem dX5_home_38 : decode cX5_home 38 = .ok (.putfield 78, 3) := by decide +kernel
theorem dX5_home_41 : decode cX5_home 41 = .ok (.aload_n 0, 1) := by decide +kernel
theorem dX5_home_42 : decode cX5_home 42 = .ok (.getfield 78, 3) := by decide +kernel
theorem dX5_home_45 : decode cX5_home 45 = .ok (.ifCond .le 7, 3) := by decide +kernel
theorem dX5_home_48 : decode cX5_home 48 = .ok (.iconst 0, 1) := by decide +kernel
theorem dX5_home_49 : decode cX5_home 49 = .ok (.goto 23, 3) := by decide +kernel
theorem dX5_home_52 : decode cX5_home 52 = .ok (.aload_n 0, 1) := by decide +kernel
theorem dX5_home_53 : decode cX5_home 53 = .ok (.getfield 36, 3) := by decide +kernel
theorem dX5_home_56 : decode cX5_home 56 = .ok (.bipush 10, 2) := by decide +kernel
theorem dX5_home_58 : decode cX5_home 58 = .ok (.iload_n 1, 1) := by decide +kernel
theorem dX5_home_59 : decode cX5_home 59 = .ok (.imul, 1) := by decide +kernel
theorem dX5_home_60 : decode cX5_home 60 = .ok (.aload_n 0, 1) := by decide +kernel
theorem dX5_home_61 : decode cX5_home 61 = .ok (.getfield 33, 3) := by decide +kernel
theorem dX5_home_64 : decode cX5_home 64 = .ok (.iload_n 1, 1) := by decide +kernel
theorem dX5_home_65 : decode cX5_home 65 = .ok (.iaload, 1) := by decide +kernel
theorem dX5_home_66 : decode cX5_home 66 = .ok (.iadd, 1) := by decide +kernel
theorem dX5_home_67 : decode cX5_home 67 = .ok (.iconst 1, 1) := by decide +kernel
theorem dX5_home_68 : decode cX5_home 68 = .ok (.isub, 1) := by decide +kernel
theorem dX5_home_69 : decode cX5_home 69 = .ok (.iload_n 2, 1) := by decide +kernel
theorem dX5_home_70 : decode cX5_home 70 = .ok (.isub, 1) := by decide +kernel
theorem dX5_home_71 : decode cX5_home 71 = .ok (.iaload, 1) := by decide +kernel
theorem dX5_home_72 : decode cX5_home 72 = .ok (.ireturn, 1) := by decide +kernel
theorem dX5_topUp_0 : decode cX5_topUp 0 = .ok (.aload_n 0, 1) := by decide +kernel
theorem dX5_topUp_1 : decode cX5_topUp 1 = .ok (.aload_n 0, 1) := by decide +kernel
theorem dX5_topUp_2 : decode cX5_topUp 2 = .ok (.iload_n 1, 1) := by decide +kernel
theorem dX5_topUp_3 : decode cX5_topUp 3 = .ok (.invokevirtual 101, 3) := by decide +kernel
theorem dX5_topUp_6 : decode cX5_topUp 6 = .ok (.ifCond .ne 7, 3) := by decide +kernel
theorem dX5_topUp_9 : decode cX5_topUp 9 = .ok (.iconst 1, 1) := by decide +kernel
theorem dX5_topUp_10 : decode cX5_topUp 10 = .ok (.goto 30, 3) := by decide +kernel
theorem dX5_topUp_13 : decode cX5_topUp 13 = .ok (.iload_n 2, 1) := by decide +kernel
theorem dX5_topUp_14 : decode cX5_topUp 14 = .ok (.iconst 0, 1) := by decide +kernel
theorem dX5_topUp_15 : decode cX5_topUp 15 = .ok (.sipush 10000, 3) := by decide +kernel
theorem dX5_topUp_18 : decode cX5_topUp 18 = .ok (.invokestatic 82, 3) := by decide +kernel
theorem dX5_topUp_21 : decode cX5_topUp 21 = .ok (.ifCond .eq 18, 3) := by decide +kernel
theorem dX5_topUp_24 : decode cX5_topUp 24 = .ok (.iload_n 3, 1) := by decide +kernel
theorem dX5_topUp_25 : decode cX5_topUp 25 = .ok (.iconst 0, 1) := by decide +kernel
theorem dX5_topUp_26 : decode cX5_topUp 26 = .ok (.sipush 1000, 3) := by decide +kernel
theorem dX5_topUp_29 : decode cX5_topUp 29 = .ok (.invokestatic 82, 3) := by decide +kernel
theorem dX5_topUp_32 : decode cX5_topUp 32 = .ok (.ifCond .eq 7, 3) := by decide +kernel
theorem dX5_topUp_35 : decode cX5_topUp 35 = .ok (.iconst 0, 1) := by decide +kernel
theorem dX5_topUp_36 : decode cX5_topUp 36 = .ok (.goto 4, 3) := by decide +kernel
theorem dX5_topUp_39 : decode cX5_topUp 39 = .ok (.iconst 2, 1) := by decide +kernel
theorem dX5_topUp_40 : decode cX5_topUp 40 = .ok (.putfield 78, 3) := by decide +kernel
theorem dX5_topUp_43 : decode cX5_topUp 43 = .ok (.aload_n 0, 1) := by decide +kernel
theorem dX5_topUp_44 : decode cX5_topUp 44 = .ok (.getfield 78, 3) := by decide +kernel
theorem dX5_topUp_47 : decode cX5_topUp 47 = .ok (.ifCond .le 5, 3) := by decide +kernel
theorem dX5_topUp_50 : decode cX5_topUp 50 = .ok (.iconst 0, 1) := by decide +kernel
theorem dX5_topUp_51 : decode cX5_topUp 51 = .ok (.ireturn, 1) := by decide +kernel
theorem dX5_topUp_52 : decode cX5_topUp 52 = .ok (.aload_n 0, 1) := by decide +kernel
theorem dX5_topUp_53 : decode cX5_topUp 53 = .ok (.aload_n 0, 1) := by decide +kernel
theorem dX5_topUp_54 : decode cX5_topUp 54 = .ok (.getfield 39, 3) := by decide +kernel
theorem dX5_topUp_57 : decode cX5_topUp 57 = .ok (.iload_n 1, 1) := by decide +kernel
theorem dX5_topUp_58 : decode cX5_topUp 58 = .ok (.iaload, 1) := by decide +kernel
theorem dX5_topUp_59 : decode cX5_topUp 59 = .ok (.iload_n 2, 1) := by decide +kernel
theorem dX5_topUp_60 : decode cX5_topUp 60 = .ok (.iadd, 1) := by decide +kernel
theorem dX5_topUp_61 : decode cX5_topUp 61 = .ok (.ldc 108, 2) := by decide +kernel
theorem dX5_topUp_63 : decode cX5_topUp 63 = .ok (.if_icmp .gt 16, 3) := by decide +kernel
theorem dX5_topUp_66 : decode cX5_topUp 66 = .ok (.aload_n 0, 1) := by decide +kernel
theorem dX5_topUp_67 : decode cX5_topUp 67 = .ok (.getfield 42, 3) := by decide +kernel
theorem dX5_topUp_70 : decode cX5_topUp 70 = .ok (.iload_n 1, 1) := by decide +kernel
theorem dX5_topUp_71 : decode cX5_topUp 71 = .ok (.iaload, 1) := by decide +kernel
theorem dX5_topUp_72 : decode cX5_topUp 72 = .ok (.iload_n 3, 1) := by decide +kernel
theorem dX5_topUp_73 : decode cX5_topUp 73 = .ok (.iadd, 1) := by decide +kernel
theorem dX5_topUp_74 : decode cX5_topUp 74 = .ok (.ldc 96, 2) := by decide +kernel
theorem dX5_topUp_76 : decode cX5_topUp 76 = .ok (.if_icmp .le 7, 3) := by decide +kernel
theorem dX5_topUp_79 : decode cX5_topUp 79 = .ok (.iconst 3, 1) := by decide +kernel
theorem dX5_topUp_80 : decode cX5_topUp 80 = .ok (.goto 4, 3) := by decide +kernel
theorem dX5_topUp_83 : decode cX5_topUp 83 = .ok (.iconst 0, 1) := by decide +kernel
theorem dX5_topUp_84 : decode cX5_topUp 84 = .ok (.putfield 78, 3) := by decide +kernel
theorem dX5_topUp_87 : decode cX5_topUp 87 = .ok (.aload_n 0, 1) := by decide +kernel
theorem dX5_topUp_88 : decode cX5_topUp 88 = .ok (.getfield 78, 3) := by decide +kernel
theorem dX5_topUp_91 : decode cX5_topUp 91 = .ok (.ifCond .le 5, 3) := by decide +kernel
theorem dX5_topUp_94 : decode cX5_topUp 94 = .ok (.iconst 0, 1) := by decide +kernel
theorem dX5_topUp_95 : decode cX5_topUp 95 = .ok (.ireturn, 1) := by decide +kernel
theorem dX5_topUp_96 : decode cX5_topUp 96 = .ok (.aload_n 0, 1) := by decide +kernel
theorem dX5_topUp_97 : decode cX5_topUp 97 = .ok (.getfield 39, 3) := by decide +kernel
theorem dX5_topUp_100 : decode cX5_topUp 100 = .ok (.iload_n 1, 1) := by decide +kernel
theorem dX5_topUp_101 : decode cX5_topUp 101 = .ok (.dup2, 1) := by decide +kernel
theorem dX5_topUp_102 : decode cX5_topUp 102 = .ok (.iaload, 1) := by decide +kernel
theorem dX5_topUp_103 : decode cX5_topUp 103 = .ok (.iload_n 2, 1) := by decide +kernel
theorem dX5_topUp_104 : decode cX5_topUp 104 = .ok (.iadd, 1) := by decide +kernel
theorem dX5_topUp_105 : decode cX5_topUp 105 = .ok (.iastore, 1) := by decide +kernel
theorem dX5_topUp_106 : decode cX5_topUp 106 = .ok (.aload_n 0, 1) := by decide +kernel
theorem dX5_topUp_107 : decode cX5_topUp 107 = .ok (.getfield 42, 3) := by decide +kernel
theorem dX5_topUp_110 : decode cX5_topUp 110 = .ok (.iload_n 1, 1) := by decide +kernel
theorem dX5_topUp_111 : decode cX5_topUp 111 = .ok (.dup2, 1) := by decide +kernel
theorem dX5_topUp_112 : decode cX5_topUp 112 = .ok (.iaload, 1) := by decide +kernel
theorem dX5_topUp_113 : decode cX5_topUp 113 = .ok (.iload_n 3, 1) := by decide +kernel
theorem dX5_topUp_114 : decode cX5_topUp 114 = .ok (.iadd, 1) := by decide +kernel
theorem dX5_topUp_115 : decode cX5_topUp 115 = .ok (.iastore, 1) := by decide +kernel
theorem dX5_topUp_116 : decode cX5_topUp 116 = .ok (.aload_n 0, 1) := by decide +kernel
theorem dX5_topUp_117 : decode cX5_topUp 117 = .ok (.getfield 39, 3) := by decide +kernel
theorem dX5_topUp_120 : decode cX5_topUp 120 = .ok (.iload_n 1, 1) := by decide +kernel
theorem dX5_topUp_121 : decode cX5_topUp 121 = .ok (.iaload, 1) := by decide +kernel
theorem dX5_topUp_122 : decode cX5_topUp 122 = .ok (.ireturn, 1) := by decide +kernel
theorem dX5_balance_0 : decode cX5_balance 0 = .ok (.aload_n 0, 1) := by decide +kernel
theorem dX5_balance_1 : decode cX5_balance 1 = .ok (.aload_n 0, 1) := by decide +kernel
theorem dX5_balance_2 : decode cX5_balance 2 = .ok (.iload_n 1, 1) := by decide +kernel
theorem dX5_balance_3 : decode cX5_balance 3 = .ok (.invokevirtual 101, 3) := by decide +kernel
theorem dX5_balance_6 : decode cX5_balance 6 = .ok (.ifCond .eq 7, 3) := by decide +kernel
theorem dX5_balance_9 : decode cX5_balance 9 = .ok (.iconst 0, 1) := by decide +kernel
theorem dX5_balance_10 : decode cX5_balance 10 = .ok (.goto 4, 3) := by decide +kernel
theorem dX5_balance_13 : decode cX5_balance 13 = .ok (.iconst 1, 1) := by decide +kernel
theorem dX5_balance_14 : decode cX5_balance 14 = .ok (.putfield 78, 3) := by decide +kernel
theorem dX5_balance_17 : decode cX5_balance 17 = .ok (.aload_n 0, 1) := by decide +kernel
theorem dX5_balance_18 : decode cX5_balance 18 = .ok (.getfield 78, 3) := by decide +kernel
theorem dX5_balance_21 : decode cX5_balance 21 = .ok (.ifCond .le 7, 3) := by decide +kernel
theorem dX5_balance_24 : decode cX5_balance 24 = .ok (.iconst 0, 1) := by decide +kernel
theorem dX5_balance_25 : decode cX5_balance 25 = .ok (.goto 9, 3) := by decide +kernel
theorem dX5_balance_28 : decode cX5_balance 28 = .ok (.aload_n 0, 1) := by decide +kernel
theorem dX5_balance_29 : decode cX5_balance 29 = .ok (.getfield 39, 3) := by decide +kernel
theorem dX5_balance_32 : decode cX5_balance 32 = .ok (.iload_n 1, 1) := by decide +kernel
theorem dX5_balance_33 : decode cX5_balance 33 = .ok (.iaload, 1) := by decide +kernel
theorem dX5_balance_34 : decode cX5_balance 34 = .ok (.ireturn, 1) := by decide +kernel
theorem dX5_bundle_0 : decode cX5_bundle 0 = .ok (.aload_n 0, 1) := by decide +kernel
theorem dX5_bundle_1 : decode cX5_bundle 1 = .ok (.aload_n 0, 1) := by decide +kernel
theorem dX5_bundle_2 : decode cX5_bundle 2 = .ok (.iload_n 1, 1) := by decide +kernel
theorem dX5_bundle_3 : decode cX5_bundle 3 = .ok (.invokevirtual 101, 3) := by decide +kernel
theorem dX5_bundle_6 : decode cX5_bundle 6 = .ok (.ifCond .eq 7, 3) := by decide +kernel
theorem dX5_bundle_9 : decode cX5_bundle 9 = .ok (.iconst 0, 1) := by decide +kernel
theorem dX5_bundle_10 : decode cX5_bundle 10 = .ok (.goto 4, 3) := by decide +kernel
theorem dX5_bundle_13 : decode cX5_bundle 13 = .ok (.iconst 1, 1) := by decide +kernel
theorem dX5_bundle_14 : decode cX5_bundle 14 = .ok (.putfield 78, 3) := by decide +kernel
theorem dX5_bundle_17 : decode cX5_bundle 17 = .ok (.aload_n 0, 1) := by decide +kernel
theorem dX5_bundle_18 : decode cX5_bundle 18 = .ok (.getfield 78, 3) := by decide +kernel
theorem dX5_bundle_21 : decode cX5_bundle 21 = .ok (.ifCond .le 7, 3) := by decide +kernel
theorem dX5_bundle_24 : decode cX5_bundle 24 = .ok (.iconst 0, 1) := by decide +kernel
theorem dX5_bundle_25 : decode cX5_bundle 25 = .ok (.goto 9, 3) := by decide +kernel
theorem dX5_bundle_28 : decode cX5_bundle 28 = .ok (.aload_n 0, 1) := by decide +kernel
theorem dX5_bundle_29 : decode cX5_bundle 29 = .ok (.getfield 42, 3) := by decide +kernel
theorem dX5_bundle_32 : decode cX5_bundle 32 = .ok (.iload_n 1, 1) := by decide +kernel
theorem dX5_bundle_33 : decode cX5_bundle 33 = .ok (.iaload, 1) := by decide +kernel
theorem dX5_bundle_34 : decode cX5_bundle 34 = .ok (.ireturn, 1) := by decide +kernel
theorem dX5_debtOf_0 : decode cX5_debtOf 0 = .ok (.iconst 5, 1) := by decide +kernel
theorem dX5_debtOf_1 : decode cX5_debtOf 1 = .ok (.iload_n 1, 1) := by decide +kernel
theorem dX5_debtOf_2 : decode cX5_debtOf 2 = .ok (.imul, 1) := by decide +kernel
theorem dX5_debtOf_3 : decode cX5_debtOf 3 = .ok (.iload_n 2, 1) := by decide +kernel
theorem dX5_debtOf_4 : decode cX5_debtOf 4 = .ok (.iadd, 1) := by decide +kernel
theorem dX5_debtOf_5 : decode cX5_debtOf 5 = .ok (.istore_n 3, 1) := by decide +kernel
theorem dX5_debtOf_6 : decode cX5_debtOf 6 = .ok (.iconst 5, 1) := by decide +kernel
theorem dX5_debtOf_7 : decode cX5_debtOf 7 = .ok (.iload_n 2, 1) := by decide +kernel
theorem dX5_debtOf_8 : decode cX5_debtOf 8 = .ok (.imul, 1) := by decide +kernel
theorem dX5_debtOf_9 : decode cX5_debtOf 9 = .ok (.iload_n 1, 1) := by decide +kernel
theorem dX5_debtOf_10 : decode cX5_debtOf 10 = .ok (.iadd, 1) := by decide +kernel
theorem dX5_debtOf_11 : decode cX5_debtOf 11 = .ok (.istore 4, 2) := by decide +kernel
theorem dX5_debtOf_13 : decode cX5_debtOf 13 = .ok (.aload_n 0, 1) := by decide +kernel
theorem dX5_debtOf_14 : decode cX5_debtOf 14 = .ok (.getfield 26, 3) := by decide +kernel
theorem dX5_debtOf_17 : decode cX5_debtOf 17 = .ok (.iload_n 3, 1) := by decide +kernel
theorem dX5_debtOf_18 : decode cX5_debtOf 18 = .ok (.laload, 1) := by decide +kernel
theorem dX5_debtOf_19 : decode cX5_debtOf 19 = .ok (.aload_n 0, 1) := by decide +kernel
theorem dX5_debtOf_20 : decode cX5_debtOf 20 = .ok (.getfield 30, 3) := by decide +kernel
theorem dX5_debtOf_23 : decode cX5_debtOf 23 = .ok (.iload_n 3, 1) := by decide +kernel
theorem dX5_debtOf_24 : decode cX5_debtOf 24 = .ok (.laload, 1) := by decide +kernel
theorem dX5_debtOf_25 : decode cX5_debtOf 25 = .ok (.lsub, 1) := by decide +kernel
theorem dX5_debtOf_26 : decode cX5_debtOf 26 = .ok (.aload_n 0, 1) := by decide +kernel
theorem dX5_debtOf_27 : decode cX5_debtOf 27 = .ok (.getfield 26, 3) := by decide +kernel
theorem dX5_debtOf_30 : decode cX5_debtOf 30 = .ok (.iload 4, 2) := by decide +kernel
theorem dX5_debtOf_32 : decode cX5_debtOf 32 = .ok (.laload, 1) := by decide +kernel
theorem dX5_debtOf_33 : decode cX5_debtOf 33 = .ok (.lsub, 1) := by decide +kernel
theorem dX5_debtOf_34 : decode cX5_debtOf 34 = .ok (.aload_n 0, 1) := by decide +kernel
theorem dX5_debtOf_35 : decode cX5_debtOf 35 = .ok (.getfield 30, 3) := by decide +kernel
theorem dX5_debtOf_38 : decode cX5_debtOf 38 = .ok (.iload 4, 2) := by decide +kernel
theorem dX5_debtOf_40 : decode cX5_debtOf 40 = .ok (.laload, 1) := by decide +kernel
theorem dX5_debtOf_41 : decode cX5_debtOf 41 = .ok (.ladd, 1) := by decide +kernel
theorem dX5_debtOf_42 : decode cX5_debtOf 42 = .ok (.lreturn, 1) := by decide +kernel
theorem dX5_isShut_0 : decode cX5_isShut 0 = .ok (.iconst 5, 1) := by decide +kernel
theorem dX5_isShut_1 : decode cX5_isShut 1 = .ok (.iload_n 1, 1) := by decide +kernel
theorem dX5_isShut_2 : decode cX5_isShut 2 = .ok (.imul, 1) := by decide +kernel
theorem dX5_isShut_3 : decode cX5_isShut 3 = .ok (.iload_n 2, 1) := by decide +kernel
theorem dX5_isShut_4 : decode cX5_isShut 4 = .ok (.iadd, 1) := by decide +kernel
theorem dX5_isShut_5 : decode cX5_isShut 5 = .ok (.istore_n 3, 1) := by decide +kernel
theorem dX5_isShut_6 : decode cX5_isShut 6 = .ok (.aload_n 0, 1) := by decide +kernel
theorem dX5_isShut_7 : decode cX5_isShut 7 = .ok (.getfield 16, 3) := by decide +kernel
theorem dX5_isShut_10 : decode cX5_isShut 10 = .ok (.iload_n 3, 1) := by decide +kernel
theorem dX5_isShut_11 : decode cX5_isShut 11 = .ok (.baload, 1) := by decide +kernel
theorem dX5_isShut_12 : decode cX5_isShut 12 = .ok (.ifCond .eq 28, 3) := by decide +kernel
theorem dX5_isShut_15 : decode cX5_isShut 15 = .ok (.aload_n 0, 1) := by decide +kernel
theorem dX5_isShut_16 : decode cX5_isShut 16 = .ok (.iload_n 1, 1) := by decide +kernel
theorem dX5_isShut_17 : decode cX5_isShut 17 = .ok (.iload_n 2, 1) := by decide +kernel
theorem dX5_isShut_18 : decode cX5_isShut 18 = .ok (.invokevirtual 109, 3) := by decide +kernel
theorem dX5_isShut_21 : decode cX5_isShut 21 = .ok (.aload_n 0, 1) := by decide +kernel
theorem dX5_isShut_22 : decode cX5_isShut 22 = .ok (.getfield 20, 3) := by decide +kernel
theorem dX5_isShut_25 : decode cX5_isShut 25 = .ok (.iload_n 3, 1) := by decide +kernel
theorem dX5_isShut_26 : decode cX5_isShut 26 = .ok (.iaload, 1) := by decide +kernel
theorem dX5_isShut_27 : decode cX5_isShut 27 = .ok (.i2l, 1) := by decide +kernel
theorem dX5_isShut_28 : decode cX5_isShut 28 = .ok (.ladd, 1) := by decide +kernel
theorem dX5_isShut_29 : decode cX5_isShut 29 = .ok (.aload_n 0, 1) := by decide +kernel
theorem dX5_isShut_30 : decode cX5_isShut 30 = .ok (.getfield 23, 3) := by decide +kernel
theorem dX5_isShut_33 : decode cX5_isShut 33 = .ok (.iload_n 3, 1) := by decide +kernel
theorem dX5_isShut_34 : decode cX5_isShut 34 = .ok (.iaload, 1) := by decide +kernel
theorem dX5_isShut_35 : decode cX5_isShut 35 = .ok (.i2l, 1) := by decide +kernel
theorem dX5_isShut_36 : decode cX5_isShut 36 = .ok (.lcmp, 1) := by decide +kernel
theorem dX5_isShut_37 : decode cX5_isShut 37 = .ok (.ifCond .le 7, 3) := by decide +kernel
theorem dX5_isShut_40 : decode cX5_isShut 40 = .ok (.iconst 1, 1) := by decide +kernel
theorem dX5_isShut_41 : decode cX5_isShut 41 = .ok (.goto 4, 3) := by decide +kernel
theorem dX5_isShut_44 : decode cX5_isShut 44 = .ok (.iconst 0, 1) := by decide +kernel
theorem dX5_isShut_45 : decode cX5_isShut 45 = .ok (.ireturn, 1) := by decide +kernel
theorem dX5_canGo_0 : decode cX5_canGo 0 = .ok (.aload_n 0, 1) := by decide +kernel
theorem dX5_canGo_1 : decode cX5_canGo 1 = .ok (.getfield 75, 3) := by decide +kernel
theorem dX5_canGo_4 : decode cX5_canGo 4 = .ok (.iload_n 1, 1) := by decide +kernel
theorem dX5_canGo_5 : decode cX5_canGo 5 = .ok (.iconst 1, 1) := by decide +kernel
theorem dX5_canGo_6 : decode cX5_canGo 6 = .ok (.isub, 1) := by decide +kernel
theorem dX5_canGo_7 : decode cX5_canGo 7 = .ok (.iaload, 1) := by decide +kernel
theorem dX5_canGo_8 : decode cX5_canGo 8 = .ok (.istore_n 2, 1) := by decide +kernel
theorem dX5_canGo_9 : decode cX5_canGo 9 = .ok (.iload_n 1, 1) := by decide +kernel
theorem dX5_canGo_10 : decode cX5_canGo 10 = .ok (.iconst 1, 1) := by decide +kernel
theorem dX5_canGo_11 : decode cX5_canGo 11 = .ok (.if_icmp .eq 19, 3) := by decide +kernel
theorem dX5_canGo_14 : decode cX5_canGo 14 = .ok (.aload_n 0, 1) := by decide +kernel
theorem dX5_canGo_15 : decode cX5_canGo 15 = .ok (.aload_n 0, 1) := by decide +kernel
theorem dX5_canGo_16 : decode cX5_canGo 16 = .ok (.getfield 75, 3) := by decide +kernel
theorem dX5_canGo_19 : decode cX5_canGo 19 = .ok (.iload_n 1, 1) := by decide +kernel
theorem dX5_canGo_20 : decode cX5_canGo 20 = .ok (.iconst 2, 1) := by decide +kernel
theorem dX5_canGo_21 : decode cX5_canGo 21 = .ok (.isub, 1) := by decide +kernel
theorem dX5_canGo_22 : decode cX5_canGo 22 = .ok (.iaload, 1) := by decide +kernel
theorem dX5_canGo_23 : decode cX5_canGo 23 = .ok (.iload_n 2, 1) := by decide +kernel
theorem dX5_canGo_24 : decode cX5_canGo 24 = .ok (.invokevirtual 113, 3) := by decide +kernel
theorem dX5_canGo_27 : decode cX5_canGo 27 = .ok (.ifCond .ne 7, 3) := by decide +kernel
theorem dX5_canGo_30 : decode cX5_canGo 30 = .ok (.iconst 1, 1) := by decide +kernel
theorem dX5_canGo_31 : decode cX5_canGo 31 = .ok (.goto 4, 3) := by decide +kernel
theorem dX5_canGo_34 : decode cX5_canGo 34 = .ok (.iconst 0, 1) := by decide +kernel
theorem dX5_canGo_35 : decode cX5_canGo 35 = .ok (.istore_n 3, 1) := by decide +kernel
theorem dX5_canGo_36 : decode cX5_canGo 36 = .ok (.iconst 0, 1) := by decide +kernel
theorem dX5_canGo_37 : decode cX5_canGo 37 = .ok (.istore 4, 2) := by decide +kernel
theorem dX5_canGo_39 : decode cX5_canGo 39 = .ok (.iload 4, 2) := by decide +kernel
theorem dX5_canGo_41 : decode cX5_canGo 41 = .ok (.iload_n 1, 1) := by decide +kernel
theorem dX5_canGo_42 : decode cX5_canGo 42 = .ok (.iconst 1, 1) := by decide +kernel
theorem dX5_canGo_43 : decode cX5_canGo 43 = .ok (.isub, 1) := by decide +kernel
theorem dX5_canGo_44 : decode cX5_canGo 44 = .ok (.if_icmp .ge 30, 3) := by decide +kernel
theorem dX5_canGo_47 : decode cX5_canGo 47 = .ok (.iload_n 3, 1) := by decide +kernel
theorem dX5_canGo_48 : decode cX5_canGo 48 = .ok (.ifCond .eq 18, 3) := by decide +kernel
theorem dX5_canGo_51 : decode cX5_canGo 51 = .ok (.aload_n 0, 1) := by decide +kernel
theorem dX5_canGo_52 : decode cX5_canGo 52 = .ok (.getfield 75, 3) := by decide +kernel
theorem dX5_canGo_55 : decode cX5_canGo 55 = .ok (.iload 4, 2) := by decide +kernel
theorem dX5_canGo_57 : decode cX5_canGo 57 = .ok (.iaload, 1) := by decide +kernel
theorem dX5_canGo_58 : decode cX5_canGo 58 = .ok (.iload_n 2, 1) := by decide +kernel
theorem dX5_canGo_59 : decode cX5_canGo 59 = .ok (.if_icmp .eq 7, 3) := by decide +kernel
theorem dX5_canGo_62 : decode cX5_canGo 62 = .ok (.iconst 1, 1) := by decide +kernel
theorem dX5_canGo_63 : decode cX5_canGo 63 = .ok (.goto 4, 3) := by decide +kernel
theorem dX5_canGo_66 : decode cX5_canGo 66 = .ok (.iconst 0, 1) := by decide +kernel
theorem dX5_canGo_67 : decode cX5_canGo 67 = .ok (.istore_n 3, 1) := by decide +kernel
theorem dX5_canGo_68 : decode cX5_canGo 68 = .ok (.iinc 4 1, 3) := by decide +kernel
theorem dX5_canGo_71 : decode cX5_canGo 71 = .ok (.goto (-32), 3) := by decide +kernel
theorem dX5_canGo_74 : decode cX5_canGo 74 = .ok (.iload_n 3, 1) := by decide +kernel
theorem dX5_canGo_75 : decode cX5_canGo 75 = .ok (.ireturn, 1) := by decide +kernel
theorem dX5_costOf_0 : decode cX5_costOf 0 = .ok (.iconst 0, 1) := by decide +kernel
theorem dX5_costOf_1 : decode cX5_costOf 1 = .ok (.istore_n 2, 1) := by decide +kernel
theorem dX5_costOf_2 : decode cX5_costOf 2 = .ok (.iconst 1, 1) := by decide +kernel
theorem dX5_costOf_3 : decode cX5_costOf 3 = .ok (.istore_n 3, 1) := by decide +kernel
theorem dX5_costOf_4 : decode cX5_costOf 4 = .ok (.iload_n 3, 1) := by decide +kernel
theorem dX5_costOf_5 : decode cX5_costOf 5 = .ok (.iload_n 1, 1) := by decide +kernel
theorem dX5_costOf_6 : decode cX5_costOf 6 = .ok (.if_icmp .ge 34, 3) := by decide +kernel
theorem dX5_costOf_9 : decode cX5_costOf 9 = .ok (.iload_n 2, 1) := by decide +kernel
theorem dX5_costOf_10 : decode cX5_costOf 10 = .ok (.aload_n 0, 1) := by decide +kernel
theorem dX5_costOf_11 : decode cX5_costOf 11 = .ok (.getfield 20, 3) := by decide +kernel
theorem dX5_costOf_14 : decode cX5_costOf 14 = .ok (.iconst 5, 1) := by decide +kernel
theorem dX5_costOf_15 : decode cX5_costOf 15 = .ok (.aload_n 0, 1) := by decide +kernel
theorem dX5_costOf_16 : decode cX5_costOf 16 = .ok (.getfield 75, 3) := by decide +kernel
theorem dX5_costOf_19 : decode cX5_costOf 19 = .ok (.iload_n 3, 1) := by decide +kernel
theorem dX5_costOf_20 : decode cX5_costOf 20 = .ok (.iconst 1, 1) := by decide +kernel
theorem dX5_costOf_21 : decode cX5_costOf 21 = .ok (.isub, 1) := by decide +kernel
theorem dX5_costOf_22 : decode cX5_costOf 22 = .ok (.iaload, 1) := by decide +kernel
theorem dX5_costOf_23 : decode cX5_costOf 23 = .ok (.imul, 1) := by decide +kernel
theorem dX5_costOf_24 : decode cX5_costOf 24 = .ok (.aload_n 0, 1) := by decide +kernel
theorem dX5_costOf_25 : decode cX5_costOf 25 = .ok (.getfield 75, 3) := by decide +kernel
theorem dX5_costOf_28 : decode cX5_costOf 28 = .ok (.iload_n 3, 1) := by decide +kernel
theorem dX5_costOf_29 : decode cX5_costOf 29 = .ok (.iaload, 1) := by decide +kernel
theorem dX5_costOf_30 : decode cX5_costOf 30 = .ok (.iadd, 1) := by decide +kernel
theorem dX5_costOf_31 : decode cX5_costOf 31 = .ok (.iaload, 1) := by decide +kernel
theorem dX5_costOf_32 : decode cX5_costOf 32 = .ok (.iadd, 1) := by decide +kernel
theorem dX5_costOf_33 : decode cX5_costOf 33 = .ok (.istore_n 2, 1) := by decide +kernel
theorem dX5_costOf_34 : decode cX5_costOf 34 = .ok (.iinc 3 1, 3) := by decide +kernel
theorem dX5_costOf_37 : decode cX5_costOf 37 = .ok (.goto (-33), 3) := by decide +kernel
theorem dX5_costOf_40 : decode cX5_costOf 40 = .ok (.iload_n 2, 1) := by decide +kernel
theorem dX5_costOf_41 : decode cX5_costOf 41 = .ok (.ireturn, 1) := by decide +kernel
theorem dX5_finds_0 : decode cX5_finds 0 = .ok (.aload_n 0, 1) := by decide +kernel
theorem dX5_finds_1 : decode cX5_finds 1 = .ok (.iconst 0, 1) := by decide +kernel
theorem dX5_finds_2 : decode cX5_finds 2 = .ok (.putfield 116, 3) := by decide +kernel
theorem dX5_finds_5 : decode cX5_finds 5 = .ok (.aload_n 0, 1) := by decide +kernel
theorem dX5_finds_6 : decode cX5_finds 6 = .ok (.getfield 75, 3) := by decide +kernel
theorem dX5_finds_9 : decode cX5_finds 9 = .ok (.iconst 0, 1) := by decide +kernel
theorem dX5_finds_10 : decode cX5_finds 10 = .ok (.iload_n 1, 1) := by decide +kernel
theorem dX5_finds_11 : decode cX5_finds 11 = .ok (.iastore, 1) := by decide +kernel
theorem dX5_finds_12 : decode cX5_finds 12 = .ok (.iconst 1, 1) := by decide +kernel
theorem dX5_finds_13 : decode cX5_finds 13 = .ok (.istore_n 3, 1) := by decide +kernel
theorem dX5_finds_14 : decode cX5_finds 14 = .ok (.iconst 1, 1) := by decide +kernel
theorem dX5_finds_15 : decode cX5_finds 15 = .ok (.istore 4, 2) := by decide +kernel
theorem dX5_finds_17 : decode cX5_finds 17 = .ok (.iload_n 3, 1) := by decide +kernel
theorem dX5_finds_18 : decode cX5_finds 18 = .ok (.ifCond .le 190, 3) := by decide +kernel
theorem dX5_finds_21 : decode cX5_finds 21 = .ok (.iload 4, 2) := by decide +kernel
theorem dX5_finds_23 : decode cX5_finds 23 = .ok (.ifCond .eq 98, 3) := by decide +kernel
theorem dX5_finds_26 : decode cX5_finds 26 = .ok (.aload_n 0, 1) := by decide +kernel
theorem dX5_finds_27 : decode cX5_finds 27 = .ok (.getfield 75, 3) := by decide +kernel
theorem dX5_finds_30 : decode cX5_finds 30 = .ok (.iload_n 3, 1) := by decide +kernel
theorem dX5_finds_31 : decode cX5_finds 31 = .ok (.iconst 1, 1) := by decide +kernel
theorem dX5_finds_32 : decode cX5_finds 32 = .ok (.isub, 1) := by decide +kernel
theorem dX5_finds_33 : decode cX5_finds 33 = .ok (.iaload, 1) := by decide +kernel
theorem dX5_finds_34 : decode cX5_finds 34 = .ok (.iload_n 2, 1) := by decide +kernel
theorem dX5_finds_35 : decode cX5_finds 35 = .ok (.if_icmp .ne 86, 3) := by decide +kernel
theorem dX5_finds_38 : decode cX5_finds 38 = .ok (.aload_n 0, 1) := by decide +kernel
theorem dX5_finds_39 : decode cX5_finds 39 = .ok (.iload_n 3, 1) := by decide +kernel
theorem dX5_finds_40 : decode cX5_finds 40 = .ok (.invokevirtual 119, 3) := by decide +kernel
theorem dX5_finds_43 : decode cX5_finds 43 = .ok (.istore 5, 2) := by decide +kernel
theorem dX5_finds_45 : decode cX5_finds 45 = .ok (.aload_n 0, 1) := by decide +kernel
theorem dX5_finds_46 : decode cX5_finds 46 = .ok (.getfield 116, 3) := by decide +kernel
theorem dX5_finds_49 : decode cX5_finds 49 = .ok (.ifCond .eq 29, 3) := by decide +kernel
theorem dX5_finds_52 : decode cX5_finds 52 = .ok (.iload 5, 2) := by decide +kernel
theorem dX5_finds_54 : decode cX5_finds 54 = .ok (.aload_n 0, 1) := by decide +kernel
theorem dX5_finds_55 : decode cX5_finds 55 = .ok (.getfield 122, 3) := by decide +kernel
theorem dX5_finds_58 : decode cX5_finds 58 = .ok (.if_icmp .lt 20, 3) := by decide +kernel
theorem dX5_finds_61 : decode cX5_finds 61 = .ok (.iload 5, 2) := by decide +kernel
theorem dX5_finds_63 : decode cX5_finds 63 = .ok (.aload_n 0, 1) := by decide +kernel
theorem dX5_finds_64 : decode cX5_finds 64 = .ok (.getfield 122, 3) := by decide +kernel
theorem dX5_finds_67 : decode cX5_finds 67 = .ok (.if_icmp .ne 51, 3) := by decide +kernel
theorem dX5_finds_70 : decode cX5_finds 70 = .ok (.iload_n 3, 1) := by decide +kernel
theorem dX5_finds_71 : decode cX5_finds 71 = .ok (.aload_n 0, 1) := by decide +kernel
theorem dX5_finds_72 : decode cX5_finds 72 = .ok (.getfield 116, 3) := by decide +kernel
theorem dX5_finds_75 : decode cX5_finds 75 = .ok (.if_icmp .ge 43, 3) := by decide +kernel
theorem dX5_finds_78 : decode cX5_finds 78 = .ok (.aload_n 0, 1) := by decide +kernel
theorem dX5_finds_79 : decode cX5_finds 79 = .ok (.iload_n 3, 1) := by decide +kernel
theorem dX5_finds_80 : decode cX5_finds 80 = .ok (.putfield 116, 3) := by decide +kernel
theorem dX5_finds_83 : decode cX5_finds 83 = .ok (.aload_n 0, 1) := by decide +kernel
theorem dX5_finds_84 : decode cX5_finds 84 = .ok (.iload 5, 2) := by decide +kernel
theorem dX5_finds_86 : decode cX5_finds 86 = .ok (.putfield 122, 3) := by decide +kernel
theorem dX5_finds_89 : decode cX5_finds 89 = .ok (.iconst 0, 1) := by decide +kernel
theorem dX5_finds_90 : decode cX5_finds 90 = .ok (.istore 6, 2) := by decide +kernel
theorem dX5_finds_92 : decode cX5_finds 92 = .ok (.iload 6, 2) := by decide +kernel
theorem dX5_finds_94 : decode cX5_finds 94 = .ok (.iload_n 3, 1) := by decide +kernel
theorem dX5_finds_95 : decode cX5_finds 95 = .ok (.if_icmp .ge 23, 3) := by decide +kernel
theorem dX5_finds_98 : decode cX5_finds 98 = .ok (.aload_n 0, 1) := by decide +kernel
theorem dX5_finds_99 : decode cX5_finds 99 = .ok (.getfield 72, 3) := by decide +kernel
theorem dX5_finds_102 : decode cX5_finds 102 = .ok (.iload 6, 2) := by decide +kernel
theorem dX5_finds_104 : decode cX5_finds 104 = .ok (.aload_n 0, 1) := by decide +kernel
theorem dX5_finds_105 : decode cX5_finds 105 = .ok (.getfield 75, 3) := by decide +kernel
theorem dX5_finds_108 : decode cX5_finds 108 = .ok (.iload 6, 2) := by decide +kernel
theorem dX5_finds_110 : decode cX5_finds 110 = .ok (.iaload, 1) := by decide +kernel
theorem dX5_finds_111 : decode cX5_finds 111 = .ok (.iastore, 1) := by decide +kernel
theorem dX5_finds_112 : decode cX5_finds 112 = .ok (.iinc 6 1, 3) := by decide +kernel
theorem dX5_finds_115 : decode cX5_finds 115 = .ok (.goto (-23), 3) := by decide +kernel
theorem dX5_finds_118 : decode cX5_finds 118 = .ok (.iconst 0, 1) := by decide +kernel
theorem dX5_finds_119 : decode cX5_finds 119 = .ok (.istore 4, 2) := by decide +kernel
theorem dX5_finds_121 : decode cX5_finds 121 = .ok (.iload 4, 2) := by decide +kernel
theorem dX5_finds_123 : decode cX5_finds 123 = .ok (.ifCond .eq 18, 3) := by decide +kernel
theorem dX5_finds_126 : decode cX5_finds 126 = .ok (.iload_n 3, 1) := by decide +kernel
theorem dX5_finds_127 : decode cX5_finds 127 = .ok (.iconst 5, 1) := by decide +kernel
theorem dX5_finds_128 : decode cX5_finds 128 = .ok (.if_icmp .ge 13, 3) := by decide +kernel
theorem dX5_finds_131 : decode cX5_finds 131 = .ok (.aload_n 0, 1) := by decide +kernel
theorem dX5_finds_132 : decode cX5_finds 132 = .ok (.getfield 75, 3) := by decide +kernel
theorem dX5_finds_135 : decode cX5_finds 135 = .ok (.iload_n 3, 1) := by decide +kernel
theorem dX5_finds_136 : decode cX5_finds 136 = .ok (.iconst (-1), 1) := by decide +kernel
theorem dX5_finds_137 : decode cX5_finds 137 = .ok (.iastore, 1) := by decide +kernel
theorem dX5_finds_138 : decode cX5_finds 138 = .ok (.iinc 3 1, 3) := by decide +kernel
theorem dX5_finds_141 : decode cX5_finds 141 = .ok (.iconst 0, 1) := by decide +kernel
theorem dX5_finds_142 : decode cX5_finds 142 = .ok (.istore 4, 2) := by decide +kernel
theorem dX5_finds_144 : decode cX5_finds 144 = .ok (.iload_n 3, 1) := by decide +kernel
theorem dX5_finds_145 : decode cX5_finds 145 = .ok (.iconst 1, 1) := by decide +kernel
theorem dX5_finds_146 : decode cX5_finds 146 = .ok (.if_icmp .le 48, 3) := by decide +kernel
theorem dX5_finds_149 : decode cX5_finds 149 = .ok (.iload 4, 2) := by decide +kernel
theorem dX5_finds_151 : decode cX5_finds 151 = .ok (.ifCond .ne 43, 3) := by decide +kernel
theorem dX5_finds_154 : decode cX5_finds 154 = .ok (.aload_n 0, 1) := by decide +kernel
theorem dX5_finds_155 : decode cX5_finds 155 = .ok (.getfield 75, 3) := by decide +kernel
theorem dX5_finds_158 : decode cX5_finds 158 = .ok (.iload_n 3, 1) := by decide +kernel
theorem dX5_finds_159 : decode cX5_finds 159 = .ok (.iconst 1, 1) := by decide +kernel
theorem dX5_finds_160 : decode cX5_finds 160 = .ok (.isub, 1) := by decide +kernel
theorem dX5_finds_161 : decode cX5_finds 161 = .ok (.dup2, 1) := by decide +kernel
theorem dX5_finds_162 : decode cX5_finds 162 = .ok (.iaload, 1) := by decide +kernel
theorem dX5_finds_163 : decode cX5_finds 163 = .ok (.iconst 1, 1) := by decide +kernel
theorem dX5_finds_164 : decode cX5_finds 164 = .ok (.iadd, 1) := by decide +kernel
theorem dX5_finds_165 : decode cX5_finds 165 = .ok (.iastore, 1) := by decide +kernel
theorem dX5_finds_166 : decode cX5_finds 166 = .ok (.aload_n 0, 1) := by decide +kernel
theorem dX5_finds_167 : decode cX5_finds 167 = .ok (.getfield 75, 3) := by decide +kernel
theorem dX5_finds_170 : decode cX5_finds 170 = .ok (.iload_n 3, 1) := by decide +kernel
theorem dX5_finds_171 : decode cX5_finds 171 = .ok (.iconst 1, 1) := by decide +kernel
theorem dX5_finds_172 : decode cX5_finds 172 = .ok (.isub, 1) := by decide +kernel
theorem dX5_finds_173 : decode cX5_finds 173 = .ok (.iaload, 1) := by decide +kernel
theorem dX5_finds_174 : decode cX5_finds 174 = .ok (.iconst 5, 1) := by decide +kernel
theorem dX5_finds_175 : decode cX5_finds 175 = .ok (.if_icmp .ne 9, 3) := by decide +kernel
theorem dX5_finds_178 : decode cX5_finds 178 = .ok (.iinc 3 (-1), 3) := by decide +kernel
theorem dX5_finds_181 : decode cX5_finds 181 = .ok (.goto (-37), 3) := by decide +kernel
theorem dX5_finds_184 : decode cX5_finds 184 = .ok (.aload_n 0, 1) := by decide +kernel
theorem dX5_finds_185 : decode cX5_finds 185 = .ok (.iload_n 3, 1) := by decide +kernel
theorem dX5_finds_186 : decode cX5_finds 186 = .ok (.invokevirtual 125, 3) := by decide +kernel
theorem dX5_finds_189 : decode cX5_finds 189 = .ok (.istore 4, 2) := by decide +kernel
theorem dX5_finds_191 : decode cX5_finds 191 = .ok (.goto (-47), 3) := by decide +kernel
theorem dX5_finds_194 : decode cX5_finds 194 = .ok (.iload 4, 2) := by decide +kernel
theorem dX5_finds_196 : decode cX5_finds 196 = .ok (.ifCond .eq 7, 3) := by decide +kernel
theorem dX5_finds_199 : decode cX5_finds 199 = .ok (.iload_n 3, 1) := by decide +kernel
theorem dX5_finds_200 : decode cX5_finds 200 = .ok (.goto 4, 3) := by decide +kernel
theorem dX5_finds_203 : decode cX5_finds 203 = .ok (.iconst 0, 1) := by decide +kernel
theorem dX5_finds_204 : decode cX5_finds 204 = .ok (.istore_n 3, 1) := by decide +kernel
theorem dX5_finds_205 : decode cX5_finds 205 = .ok (.goto (-188), 3) := by decide +kernel
theorem dX5_finds_208 : decode cX5_finds 208 = .ok (.aload_n 0, 1) := by decide +kernel
theorem dX5_finds_209 : decode cX5_finds 209 = .ok (.getfield 116, 3) := by decide +kernel
theorem dX5_finds_212 : decode cX5_finds 212 = .ok (.ifCond .le 7, 3) := by decide +kernel
theorem dX5_finds_215 : decode cX5_finds 215 = .ok (.iconst 1, 1) := by decide +kernel
theorem dX5_finds_216 : decode cX5_finds 216 = .ok (.goto 4, 3) := by decide +kernel
theorem dX5_finds_219 : decode cX5_finds 219 = .ok (.iconst 0, 1) := by decide +kernel
theorem dX5_finds_220 : decode cX5_finds 220 = .ok (.ireturn, 1) := by decide +kernel
theorem dX5_isBusy_0 : decode cX5_isBusy 0 = .ok (.iconst 0, 1) := by decide +kernel
theorem dX5_isBusy_1 : decode cX5_isBusy 1 = .ok (.istore_n 2, 1) := by decide +kernel
theorem dX5_isBusy_2 : decode cX5_isBusy 2 = .ok (.iconst 0, 1) := by decide +kernel
theorem dX5_isBusy_3 : decode cX5_isBusy 3 = .ok (.istore_n 3, 1) := by decide +kernel
theorem dX5_isBusy_4 : decode cX5_isBusy 4 = .ok (.iload_n 3, 1) := by decide +kernel
theorem dX5_isBusy_5 : decode cX5_isBusy 5 = .ok (.aload_n 0, 1) := by decide +kernel
theorem dX5_isBusy_6 : decode cX5_isBusy 6 = .ok (.getfield 93, 3) := by decide +kernel
theorem dX5_isBusy_9 : decode cX5_isBusy 9 = .ok (.if_icmp .ge 48, 3) := by decide +kernel
theorem dX5_isBusy_12 : decode cX5_isBusy 12 = .ok (.iload_n 2, 1) := by decide +kernel
theorem dX5_isBusy_13 : decode cX5_isBusy 13 = .ok (.ifCond .ne 32, 3) := by decide +kernel
theorem dX5_isBusy_16 : decode cX5_isBusy 16 = .ok (.aload_n 0, 1) := by decide +kernel
theorem dX5_isBusy_17 : decode cX5_isBusy 17 = .ok (.getfield 51, 3) := by decide +kernel
theorem dX5_isBusy_20 : decode cX5_isBusy 20 = .ok (.iload_n 3, 1) := by decide +kernel
theorem dX5_isBusy_21 : decode cX5_isBusy 21 = .ok (.iaload, 1) := by decide +kernel
theorem dX5_isBusy_22 : decode cX5_isBusy 22 = .ok (.ifCond .ne 27, 3) := by decide +kernel
theorem dX5_isBusy_25 : decode cX5_isBusy 25 = .ok (.aload_n 0, 1) := by decide +kernel
theorem dX5_isBusy_26 : decode cX5_isBusy 26 = .ok (.getfield 45, 3) := by decide +kernel
theorem dX5_isBusy_29 : decode cX5_isBusy 29 = .ok (.iload_n 3, 1) := by decide +kernel
theorem dX5_isBusy_30 : decode cX5_isBusy 30 = .ok (.iaload, 1) := by decide +kernel
theorem dX5_isBusy_31 : decode cX5_isBusy 31 = .ok (.iload_n 1, 1) := by decide +kernel
theorem dX5_isBusy_32 : decode cX5_isBusy 32 = .ok (.if_icmp .eq 13, 3) := by decide +kernel
theorem dX5_isBusy_35 : decode cX5_isBusy 35 = .ok (.aload_n 0, 1) := by decide +kernel
theorem dX5_isBusy_36 : decode cX5_isBusy 36 = .ok (.getfield 48, 3) := by decide +kernel
theorem dX5_isBusy_39 : decode cX5_isBusy 39 = .ok (.iload_n 3, 1) := by decide +kernel
theorem dX5_isBusy_40 : decode cX5_isBusy 40 = .ok (.iaload, 1) := by decide +kernel
theorem dX5_isBusy_41 : decode cX5_isBusy 41 = .ok (.iload_n 1, 1) := by decide +kernel
theorem dX5_isBusy_42 : decode cX5_isBusy 42 = .ok (.if_icmp .ne 7, 3) := by decide +kernel
theorem dX5_isBusy_45 : decode cX5_isBusy 45 = .ok (.iconst 1, 1) := by decide +kernel
theorem dX5_isBusy_46 : decode cX5_isBusy 46 = .ok (.goto 4, 3) := by decide +kernel
theorem dX5_isBusy_49 : decode cX5_isBusy 49 = .ok (.iconst 0, 1) := by decide +kernel
theorem dX5_isBusy_50 : decode cX5_isBusy 50 = .ok (.istore_n 2, 1) := by decide +kernel
theorem dX5_isBusy_51 : decode cX5_isBusy 51 = .ok (.iinc 3 1, 3) := by decide +kernel
theorem dX5_isBusy_54 : decode cX5_isBusy 54 = .ok (.goto (-50), 3) := by decide +kernel
theorem dX5_isBusy_57 : decode cX5_isBusy 57 = .ok (.iload_n 2, 1) := by decide +kernel
theorem dX5_isBusy_58 : decode cX5_isBusy 58 = .ok (.ireturn, 1) := by decide +kernel
theorem dX5_takesBest_0 : decode cX5_takesBest 0 = .ok (.aload_n 0, 1) := by decide +kernel
theorem dX5_takesBest_1 : decode cX5_takesBest 1 = .ok (.getfield 66, 3) := by decide +kernel
theorem dX5_takesBest_4 : decode cX5_takesBest 4 = .ok (.iload_n 1, 1) := by decide +kernel
theorem dX5_takesBest_5 : decode cX5_takesBest 5 = .ok (.aload_n 0, 1) := by decide +kernel
theorem dX5_takesBest_6 : decode cX5_takesBest 6 = .ok (.getfield 116, 3) := by decide +kernel
theorem dX5_takesBest_9 : decode cX5_takesBest 9 = .ok (.iastore, 1) := by decide +kernel
theorem dX5_takesBest_10 : decode cX5_takesBest 10 = .ok (.iconst 0, 1) := by decide +kernel
theorem dX5_takesBest_11 : decode cX5_takesBest 11 = .ok (.istore_n 2, 1) := by decide +kernel
theorem dX5_takesBest_12 : decode cX5_takesBest 12 = .ok (.iload_n 2, 1) := by decide +kernel
theorem dX5_takesBest_13 : decode cX5_takesBest 13 = .ok (.aload_n 0, 1) := by decide +kernel
theorem dX5_takesBest_14 : decode cX5_takesBest 14 = .ok (.getfield 116, 3) := by decide +kernel
theorem dX5_takesBest_17 : decode cX5_takesBest 17 = .ok (.if_icmp .ge 25, 3) := by decide +kernel
theorem dX5_takesBest_20 : decode cX5_takesBest 20 = .ok (.aload_n 0, 1) := by decide +kernel
theorem dX5_takesBest_21 : decode cX5_takesBest 21 = .ok (.getfield 69, 3) := by decide +kernel
theorem dX5_takesBest_24 : decode cX5_takesBest 24 = .ok (.iconst 5, 1) := by decide +kernel
theorem dX5_takesBest_25 : decode cX5_takesBest 25 = .ok (.iload_n 1, 1) := by decide +kernel
theorem dX5_takesBest_26 : decode cX5_takesBest 26 = .ok (.imul, 1) := by decide +kernel
theorem dX5_takesBest_27 : decode cX5_takesBest 27 = .ok (.iload_n 2, 1) := by decide +kernel
theorem dX5_takesBest_28 : decode cX5_takesBest 28 = .ok (.iadd, 1) := by decide +kernel
theorem dX5_takesBest_29 : decode cX5_takesBest 29 = .ok (.aload_n 0, 1) := by decide +kernel
theorem dX5_takesBest_30 : decode cX5_takesBest 30 = .ok (.getfield 72, 3) := by decide +kernel
theorem dX5_takesBest_33 : decode cX5_takesBest 33 = .ok (.iload_n 2, 1) := by decide +kernel
theorem dX5_takesBest_34 : decode cX5_takesBest 34 = .ok (.iaload, 1) := by decide +kernel
theorem dX5_takesBest_35 : decode cX5_takesBest 35 = .ok (.iastore, 1) := by decide +kernel
theorem dX5_takesBest_36 : decode cX5_takesBest 36 = .ok (.iinc 2 1, 3) := by decide +kernel
theorem dX5_takesBest_39 : decode cX5_takesBest 39 = .ok (.goto (-27), 3) := by decide +kernel
theorem dX5_takesBest_42 : decode cX5_takesBest 42 = .ok (.return_, 1) := by decide +kernel
theorem dX5_call_0 : decode cX5_call 0 = .ok (.aload_n 0, 1) := by decide +kernel
theorem dX5_call_1 : decode cX5_call 1 = .ok (.aload_n 0, 1) := by decide +kernel
theorem dX5_call_2 : decode cX5_call 2 = .ok (.iload_n 1, 1) := by decide +kernel
theorem dX5_call_3 : decode cX5_call 3 = .ok (.invokevirtual 101, 3) := by decide +kernel
theorem dX5_call_6 : decode cX5_call 6 = .ok (.ifCond .eq 11, 3) := by decide +kernel
theorem dX5_call_9 : decode cX5_call 9 = .ok (.aload_n 0, 1) := by decide +kernel
theorem dX5_call_10 : decode cX5_call 10 = .ok (.iload_n 2, 1) := by decide +kernel
theorem dX5_call_11 : decode cX5_call 11 = .ok (.invokevirtual 101, 3) := by decide +kernel
theorem dX5_call_14 : decode cX5_call 14 = .ok (.ifCond .ne 7, 3) := by decide +kernel
theorem dX5_call_17 : decode cX5_call 17 = .ok (.iconst 1, 1) := by decide +kernel
theorem dX5_call_18 : decode cX5_call 18 = .ok (.goto 13, 3) := by decide +kernel
theorem dX5_call_21 : decode cX5_call 21 = .ok (.iload_n 1, 1) := by decide +kernel
theorem dX5_call_22 : decode cX5_call 22 = .ok (.iload_n 2, 1) := by decide +kernel
theorem dX5_call_23 : decode cX5_call 23 = .ok (.if_icmp .ne 7, 3) := by decide +kernel
theorem dX5_call_26 : decode cX5_call 26 = .ok (.iconst 2, 1) := by decide +kernel
theorem dX5_call_27 : decode cX5_call 27 = .ok (.goto 4, 3) := by decide +kernel
theorem dX5_call_30 : decode cX5_call 30 = .ok (.iconst 0, 1) := by decide +kernel
theorem dX5_call_31 : decode cX5_call 31 = .ok (.putfield 78, 3) := by decide +kernel
theorem dX5_call_34 : decode cX5_call 34 = .ok (.aload_n 0, 1) := by decide +kernel
theorem dX5_call_35 : decode cX5_call 35 = .ok (.getfield 78, 3) := by decide +kernel
theorem dX5_call_38 : decode cX5_call 38 = .ok (.ifCond .le 5, 3) := by decide +kernel
theorem dX5_call_41 : decode cX5_call 41 = .ok (.iconst 0, 1) := by decide +kernel
theorem dX5_call_42 : decode cX5_call 42 = .ok (.ireturn, 1) := by decide +kernel
theorem dX5_call_43 : decode cX5_call 43 = .ok (.aload_n 0, 1) := by decide +kernel
theorem dX5_call_44 : decode cX5_call 44 = .ok (.iload_n 1, 1) := by decide +kernel
theorem dX5_call_45 : decode cX5_call 45 = .ok (.invokevirtual 128, 3) := by decide +kernel
theorem dX5_call_48 : decode cX5_call 48 = .ok (.ifCond .ne 41, 3) := by decide +kernel
theorem dX5_call_51 : decode cX5_call 51 = .ok (.aload_n 0, 1) := by decide +kernel
theorem dX5_call_52 : decode cX5_call 52 = .ok (.iload_n 2, 1) := by decide +kernel
theorem dX5_call_53 : decode cX5_call 53 = .ok (.invokevirtual 128, 3) := by decide +kernel
theorem dX5_call_56 : decode cX5_call 56 = .ok (.ifCond .ne 33, 3) := by decide +kernel
theorem dX5_call_59 : decode cX5_call 59 = .ok (.aload_n 0, 1) := by decide +kernel
theorem dX5_call_60 : decode cX5_call 60 = .ok (.getfield 93, 3) := by decide +kernel
theorem dX5_call_63 : decode cX5_call 63 = .ok (.bipush 60, 2) := by decide +kernel
theorem dX5_call_65 : decode cX5_call 65 = .ok (.if_icmp .ge 24, 3) := by decide +kernel
theorem dX5_call_68 : decode cX5_call 68 = .ok (.aload_n 0, 1) := by decide +kernel
theorem dX5_call_69 : decode cX5_call 69 = .ok (.aload_n 0, 1) := by decide +kernel
theorem dX5_call_70 : decode cX5_call 70 = .ok (.iload_n 1, 1) := by decide +kernel
theorem dX5_call_71 : decode cX5_call 71 = .ok (.invokevirtual 104, 3) := by decide +kernel
theorem dX5_call_74 : decode cX5_call 74 = .ok (.aload_n 0, 1) := by decide +kernel
theorem dX5_call_75 : decode cX5_call 75 = .ok (.iload_n 2, 1) := by decide +kernel
theorem dX5_call_76 : decode cX5_call 76 = .ok (.invokevirtual 104, 3) := by decide +kernel
theorem dX5_call_79 : decode cX5_call 79 = .ok (.invokevirtual 131, 3) := by decide +kernel
theorem dX5_call_82 : decode cX5_call 82 = .ok (.ifCond .eq 7, 3) := by decide +kernel
theorem dX5_call_85 : decode cX5_call 85 = .ok (.iconst 1, 1) := by decide +kernel
theorem dX5_call_86 : decode cX5_call 86 = .ok (.goto 4, 3) := by decide +kernel
theorem dX5_call_89 : decode cX5_call 89 = .ok (.iconst 0, 1) := by decide +kernel
theorem dX5_call_90 : decode cX5_call 90 = .ok (.istore_n 3, 1) := by decide +kernel
theorem dX5_call_91 : decode cX5_call 91 = .ok (.aload_n 0, 1) := by decide +kernel
theorem dX5_call_92 : decode cX5_call 92 = .ok (.iload_n 3, 1) := by decide +kernel
theorem dX5_call_93 : decode cX5_call 93 = .ok (.ifCond .eq 7, 3) := by decide +kernel
theorem dX5_call_96 : decode cX5_call 96 = .ok (.iconst 0, 1) := by decide +kernel
theorem dX5_call_97 : decode cX5_call 97 = .ok (.goto 4, 3) := by decide +kernel
theorem dX5_call_100 : decode cX5_call 100 = .ok (.iconst 3, 1) := by decide +kernel
theorem dX5_call_101 : decode cX5_call 101 = .ok (.putfield 78, 3) := by decide +kernel
theorem dX5_call_104 : decode cX5_call 104 = .ok (.aload_n 0, 1) := by decide +kernel
theorem dX5_call_105 : decode cX5_call 105 = .ok (.getfield 78, 3) := by decide +kernel
theorem dX5_call_108 : decode cX5_call 108 = .ok (.ifCond .le 5, 3) := by decide +kernel
theorem dX5_call_111 : decode cX5_call 111 = .ok (.iconst 0, 1) := by decide +kernel
theorem dX5_call_112 : decode cX5_call 112 = .ok (.ireturn, 1) := by decide +kernel
theorem dX5_call_113 : decode cX5_call 113 = .ok (.aload_n 0, 1) := by decide +kernel
theorem dX5_call_114 : decode cX5_call 114 = .ok (.getfield 45, 3) := by decide +kernel
theorem dX5_call_117 : decode cX5_call 117 = .ok (.aload_n 0, 1) := by decide +kernel
theorem dX5_call_118 : decode cX5_call 118 = .ok (.getfield 93, 3) := by decide +kernel
theorem dX5_call_121 : decode cX5_call 121 = .ok (.iload_n 1, 1) := by decide +kernel
theorem dX5_call_122 : decode cX5_call 122 = .ok (.iastore, 1) := by decide +kernel
theorem dX5_call_123 : decode cX5_call 123 = .ok (.aload_n 0, 1) := by decide +kernel
theorem dX5_call_124 : decode cX5_call 124 = .ok (.getfield 48, 3) := by decide +kernel
theorem dX5_call_127 : decode cX5_call 127 = .ok (.aload_n 0, 1) := by decide +kernel
theorem dX5_call_128 : decode cX5_call 128 = .ok (.getfield 93, 3) := by decide +kernel
theorem dX5_call_131 : decode cX5_call 131 = .ok (.iload_n 2, 1) := by decide +kernel
theorem dX5_call_132 : decode cX5_call 132 = .ok (.iastore, 1) := by decide +kernel
theorem dX5_call_133 : decode cX5_call 133 = .ok (.aload_n 0, 1) := by decide +kernel
theorem dX5_call_134 : decode cX5_call 134 = .ok (.getfield 51, 3) := by decide +kernel
theorem dX5_call_137 : decode cX5_call 137 = .ok (.aload_n 0, 1) := by decide +kernel
theorem dX5_call_138 : decode cX5_call 138 = .ok (.getfield 93, 3) := by decide +kernel
theorem dX5_call_141 : decode cX5_call 141 = .ok (.iconst 0, 1) := by decide +kernel
theorem dX5_call_142 : decode cX5_call 142 = .ok (.iastore, 1) := by decide +kernel
theorem dX5_call_143 : decode cX5_call 143 = .ok (.aload_n 0, 1) := by decide +kernel
theorem dX5_call_144 : decode cX5_call 144 = .ok (.getfield 54, 3) := by decide +kernel
theorem dX5_call_147 : decode cX5_call 147 = .ok (.aload_n 0, 1) := by decide +kernel
theorem dX5_call_148 : decode cX5_call 148 = .ok (.getfield 93, 3) := by decide +kernel
theorem dX5_call_151 : decode cX5_call 151 = .ok (.aload_n 0, 1) := by decide +kernel
theorem dX5_call_152 : decode cX5_call 152 = .ok (.getfield 7, 3) := by decide +kernel
theorem dX5_call_155 : decode cX5_call 155 = .ok (.aload_n 0, 1) := by decide +kernel
theorem dX5_call_156 : decode cX5_call 156 = .ok (.iload_n 1, 1) := by decide +kernel
theorem dX5_call_157 : decode cX5_call 157 = .ok (.invokevirtual 104, 3) := by decide +kernel
theorem dX5_call_160 : decode cX5_call 160 = .ok (.iaload, 1) := by decide +kernel
theorem dX5_call_161 : decode cX5_call 161 = .ok (.iastore, 1) := by decide +kernel
theorem dX5_call_162 : decode cX5_call 162 = .ok (.aload_n 0, 1) := by decide +kernel
theorem dX5_call_163 : decode cX5_call 163 = .ok (.getfield 57, 3) := by decide +kernel
theorem dX5_call_166 : decode cX5_call 166 = .ok (.aload_n 0, 1) := by decide +kernel
theorem dX5_call_167 : decode cX5_call 167 = .ok (.getfield 93, 3) := by decide +kernel
theorem dX5_call_170 : decode cX5_call 170 = .ok (.aload_n 0, 1) := by decide +kernel
theorem dX5_call_171 : decode cX5_call 171 = .ok (.getfield 13, 3) := by decide +kernel
theorem dX5_call_174 : decode cX5_call 174 = .ok (.aload_n 0, 1) := by decide +kernel
theorem dX5_call_175 : decode cX5_call 175 = .ok (.iload_n 1, 1) := by decide +kernel
theorem dX5_call_176 : decode cX5_call 176 = .ok (.invokevirtual 104, 3) := by decide +kernel
theorem dX5_call_179 : decode cX5_call 179 = .ok (.iaload, 1) := by decide +kernel
theorem dX5_call_180 : decode cX5_call 180 = .ok (.iastore, 1) := by decide +kernel
theorem dX5_call_181 : decode cX5_call 181 = .ok (.aload_n 0, 1) := by decide +kernel
theorem dX5_call_182 : decode cX5_call 182 = .ok (.aload_n 0, 1) := by decide +kernel
theorem dX5_call_183 : decode cX5_call 183 = .ok (.getfield 93, 3) := by decide +kernel
theorem dX5_call_186 : decode cX5_call 186 = .ok (.invokevirtual 134, 3) := by decide +kernel
theorem dX5_call_189 : decode cX5_call 189 = .ok (.aload_n 0, 1) := by decide +kernel
theorem dX5_call_190 : decode cX5_call 190 = .ok (.dup, 1) := by decide +kernel
theorem dX5_call_191 : decode cX5_call 191 = .ok (.getfield 93, 3) := by decide +kernel
theorem dX5_call_194 : decode cX5_call 194 = .ok (.iconst 1, 1) := by decide +kernel
theorem dX5_call_195 : decode cX5_call 195 = .ok (.iadd, 1) := by decide +kernel
theorem dX5_call_196 : decode cX5_call 196 = .ok (.putfield 93, 3) := by decide +kernel
theorem dX5_call_199 : decode cX5_call 199 = .ok (.aload_n 0, 1) := by decide +kernel
theorem dX5_call_200 : decode cX5_call 200 = .ok (.getfield 93, 3) := by decide +kernel
theorem dX5_call_203 : decode cX5_call 203 = .ok (.iconst 1, 1) := by decide +kernel
theorem dX5_call_204 : decode cX5_call 204 = .ok (.isub, 1) := by decide +kernel
theorem dX5_call_205 : decode cX5_call 205 = .ok (.ireturn, 1) := by decide +kernel
theorem dX5_hangUp_0 : decode cX5_hangUp 0 = .ok (.aload_n 0, 1) := by decide +kernel
theorem dX5_hangUp_1 : decode cX5_hangUp 1 = .ok (.aload_n 0, 1) := by decide +kernel
theorem dX5_hangUp_2 : decode cX5_hangUp 2 = .ok (.iload_n 1, 1) := by decide +kernel
theorem dX5_hangUp_3 : decode cX5_hangUp 3 = .ok (.invokevirtual 138, 3) := by decide +kernel
theorem dX5_hangUp_6 : decode cX5_hangUp 6 = .ok (.ifCond .ne 7, 3) := by decide +kernel
theorem dX5_hangUp_9 : decode cX5_hangUp 9 = .ok (.iconst 1, 1) := by decide +kernel
theorem dX5_hangUp_10 : decode cX5_hangUp 10 = .ok (.goto 17, 3) := by decide +kernel
theorem dX5_hangUp_13 : decode cX5_hangUp 13 = .ok (.aload_n 0, 1) := by decide +kernel
theorem dX5_hangUp_14 : decode cX5_hangUp 14 = .ok (.getfield 51, 3) := by decide +kernel
theorem dX5_hangUp_17 : decode cX5_hangUp 17 = .ok (.iload_n 1, 1) := by decide +kernel
theorem dX5_hangUp_18 : decode cX5_hangUp 18 = .ok (.iaload, 1) := by decide +kernel
theorem dX5_hangUp_19 : decode cX5_hangUp 19 = .ok (.ifCond .eq 7, 3) := by decide +kernel
theorem dX5_hangUp_22 : decode cX5_hangUp 22 = .ok (.iconst 2, 1) := by decide +kernel
theorem dX5_hangUp_23 : decode cX5_hangUp 23 = .ok (.goto 4, 3) := by decide +kernel
theorem dX5_hangUp_26 : decode cX5_hangUp 26 = .ok (.iconst 0, 1) := by decide +kernel
theorem dX5_hangUp_27 : decode cX5_hangUp 27 = .ok (.putfield 78, 3) := by decide +kernel
theorem dX5_hangUp_30 : decode cX5_hangUp 30 = .ok (.aload_n 0, 1) := by decide +kernel
theorem dX5_hangUp_31 : decode cX5_hangUp 31 = .ok (.getfield 78, 3) := by decide +kernel
theorem dX5_hangUp_34 : decode cX5_hangUp 34 = .ok (.ifCond .le 5, 3) := by decide +kernel
theorem dX5_hangUp_37 : decode cX5_hangUp 37 = .ok (.iconst 0, 1) := by decide +kernel
theorem dX5_hangUp_38 : decode cX5_hangUp 38 = .ok (.ireturn, 1) := by decide +kernel
theorem dX5_hangUp_39 : decode cX5_hangUp 39 = .ok (.aload_n 0, 1) := by decide +kernel
theorem dX5_hangUp_40 : decode cX5_hangUp 40 = .ok (.getfield 51, 3) := by decide +kernel
theorem dX5_hangUp_43 : decode cX5_hangUp 43 = .ok (.iload_n 1, 1) := by decide +kernel
theorem dX5_hangUp_44 : decode cX5_hangUp 44 = .ok (.iconst 1, 1) := by decide +kernel
theorem dX5_hangUp_45 : decode cX5_hangUp 45 = .ok (.iastore, 1) := by decide +kernel
theorem dX5_hangUp_46 : decode cX5_hangUp 46 = .ok (.aload_n 0, 1) := by decide +kernel
theorem dX5_hangUp_47 : decode cX5_hangUp 47 = .ok (.getfield 60, 3) := by decide +kernel
theorem dX5_hangUp_50 : decode cX5_hangUp 50 = .ok (.iload_n 1, 1) := by decide +kernel
theorem dX5_hangUp_51 : decode cX5_hangUp 51 = .ok (.iaload, 1) := by decide +kernel
theorem dX5_hangUp_52 : decode cX5_hangUp 52 = .ok (.ireturn, 1) := by decide +kernel
theorem dX5_isStopped_0 : decode cX5_isStopped 0 = .ok (.iconst 0, 1) := by decide +kernel
theorem dX5_isStopped_1 : decode cX5_isStopped 1 = .ok (.istore_n 2, 1) := by decide +kernel
theorem dX5_isStopped_2 : decode cX5_isStopped 2 = .ok (.iconst 1, 1) := by decide +kernel
theorem dX5_isStopped_3 : decode cX5_isStopped 3 = .ok (.istore_n 3, 1) := by decide +kernel
theorem dX5_isStopped_4 : decode cX5_isStopped 4 = .ok (.iload_n 3, 1) := by decide +kernel
theorem dX5_isStopped_5 : decode cX5_isStopped 5 = .ok (.aload_n 0, 1) := by decide +kernel
theorem dX5_isStopped_6 : decode cX5_isStopped 6 = .ok (.getfield 66, 3) := by decide +kernel
theorem dX5_isStopped_9 : decode cX5_isStopped 9 = .ok (.iload_n 1, 1) := by decide +kernel
theorem dX5_isStopped_10 : decode cX5_isStopped 10 = .ok (.iaload, 1) := by decide +kernel
theorem dX5_isStopped_11 : decode cX5_isStopped 11 = .ok (.if_icmp .ge 48, 3) := by decide +kernel
theorem dX5_isStopped_14 : decode cX5_isStopped 14 = .ok (.iload_n 2, 1) := by decide +kernel
theorem dX5_isStopped_15 : decode cX5_isStopped 15 = .ok (.ifCond .ne 32, 3) := by decide +kernel
theorem dX5_isStopped_18 : decode cX5_isStopped 18 = .ok (.aload_n 0, 1) := by decide +kernel
theorem dX5_isStopped_19 : decode cX5_isStopped 19 = .ok (.aload_n 0, 1) := by decide +kernel
theorem dX5_isStopped_20 : decode cX5_isStopped 20 = .ok (.getfield 69, 3) := by decide +kernel
theorem dX5_isStopped_23 : decode cX5_isStopped 23 = .ok (.iconst 5, 1) := by decide +kernel
theorem dX5_isStopped_24 : decode cX5_isStopped 24 = .ok (.iload_n 1, 1) := by decide +kernel
theorem dX5_isStopped_25 : decode cX5_isStopped 25 = .ok (.imul, 1) := by decide +kernel
theorem dX5_isStopped_26 : decode cX5_isStopped 26 = .ok (.iload_n 3, 1) := by decide +kernel
theorem dX5_isStopped_27 : decode cX5_isStopped 27 = .ok (.iadd, 1) := by decide +kernel
theorem dX5_isStopped_28 : decode cX5_isStopped 28 = .ok (.iconst 1, 1) := by decide +kernel
theorem dX5_isStopped_29 : decode cX5_isStopped 29 = .ok (.isub, 1) := by decide +kernel
theorem dX5_isStopped_30 : decode cX5_isStopped 30 = .ok (.iaload, 1) := by decide +kernel
theorem dX5_isStopped_31 : decode cX5_isStopped 31 = .ok (.aload_n 0, 1) := by decide +kernel
theorem dX5_isStopped_32 : decode cX5_isStopped 32 = .ok (.getfield 69, 3) := by decide +kernel
theorem dX5_isStopped_35 : decode cX5_isStopped 35 = .ok (.iconst 5, 1) := by decide +kernel
theorem dX5_isStopped_36 : decode cX5_isStopped 36 = .ok (.iload_n 1, 1) := by decide +kernel
theorem dX5_isStopped_37 : decode cX5_isStopped 37 = .ok (.imul, 1) := by decide +kernel
theorem dX5_isStopped_38 : decode cX5_isStopped 38 = .ok (.iload_n 3, 1) := by decide +kernel
theorem dX5_isStopped_39 : decode cX5_isStopped 39 = .ok (.iadd, 1) := by decide +kernel
theorem dX5_isStopped_40 : decode cX5_isStopped 40 = .ok (.iaload, 1) := by decide +kernel
theorem dX5_isStopped_41 : decode cX5_isStopped 41 = .ok (.invokevirtual 113, 3) := by decide +kernel
theorem dX5_isStopped_44 : decode cX5_isStopped 44 = .ok (.ifCond .eq 7, 3) := by decide +kernel
theorem dX5_isStopped_47 : decode cX5_isStopped 47 = .ok (.iconst 1, 1) := by decide +kernel
theorem dX5_isStopped_48 : decode cX5_isStopped 48 = .ok (.goto 4, 3) := by decide +kernel
theorem dX5_isStopped_51 : decode cX5_isStopped 51 = .ok (.iconst 0, 1) := by decide +kernel
theorem dX5_isStopped_52 : decode cX5_isStopped 52 = .ok (.istore_n 2, 1) := by decide +kernel
theorem dX5_isStopped_53 : decode cX5_isStopped 53 = .ok (.iinc 3 1, 3) := by decide +kernel
theorem dX5_isStopped_56 : decode cX5_isStopped 56 = .ok (.goto (-52), 3) := by decide +kernel
theorem dX5_isStopped_59 : decode cX5_isStopped 59 = .ok (.iload_n 2, 1) := by decide +kernel
theorem dX5_isStopped_60 : decode cX5_isStopped 60 = .ok (.ireturn, 1) := by decide +kernel
theorem dX5_isPaid_0 : decode cX5_isPaid 0 = .ok (.aload_n 0, 1) := by decide +kernel
theorem dX5_isPaid_1 : decode cX5_isPaid 1 = .ok (.getfield 45, 3) := by decide +kernel
theorem dX5_isPaid_4 : decode cX5_isPaid 4 = .ok (.iload_n 1, 1) := by decide +kernel
theorem dX5_isPaid_5 : decode cX5_isPaid 5 = .ok (.iaload, 1) := by decide +kernel
theorem dX5_isPaid_6 : decode cX5_isPaid 6 = .ok (.istore_n 2, 1) := by decide +kernel
theorem dX5_isPaid_7 : decode cX5_isPaid 7 = .ok (.aload_n 0, 1) := by decide +kernel
theorem dX5_isPaid_8 : decode cX5_isPaid 8 = .ok (.getfield 60, 3) := by decide +kernel
theorem dX5_isPaid_11 : decode cX5_isPaid 11 = .ok (.iload_n 1, 1) := by decide +kernel
theorem dX5_isPaid_12 : decode cX5_isPaid 12 = .ok (.iaload, 1) := by decide +kernel
theorem dX5_isPaid_13 : decode cX5_isPaid 13 = .ok (.aload_n 0, 1) := by decide +kernel
theorem dX5_isPaid_14 : decode cX5_isPaid 14 = .ok (.getfield 54, 3) := by decide +kernel
theorem dX5_isPaid_17 : decode cX5_isPaid 17 = .ok (.iload_n 1, 1) := by decide +kernel
theorem dX5_isPaid_18 : decode cX5_isPaid 18 = .ok (.iaload, 1) := by decide +kernel
theorem dX5_isPaid_19 : decode cX5_isPaid 19 = .ok (.irem, 1) := by decide +kernel
theorem dX5_isPaid_20 : decode cX5_isPaid 20 = .ok (.ifCond .eq 5, 3) := by decide +kernel
theorem dX5_isPaid_23 : decode cX5_isPaid 23 = .ok (.iconst 1, 1) := by decide +kernel
theorem dX5_isPaid_24 : decode cX5_isPaid 24 = .ok (.ireturn, 1) := by decide +kernel
theorem dX5_isPaid_25 : decode cX5_isPaid 25 = .ok (.aload_n 0, 1) := by decide +kernel
theorem dX5_isPaid_26 : decode cX5_isPaid 26 = .ok (.getfield 42, 3) := by decide +kernel
theorem dX5_isPaid_29 : decode cX5_isPaid 29 = .ok (.iload_n 2, 1) := by decide +kernel
theorem dX5_isPaid_30 : decode cX5_isPaid 30 = .ok (.iaload, 1) := by decide +kernel
theorem dX5_isPaid_31 : decode cX5_isPaid 31 = .ok (.aload_n 0, 1) := by decide +kernel
theorem dX5_isPaid_32 : decode cX5_isPaid 32 = .ok (.getfield 54, 3) := by decide +kernel
theorem dX5_isPaid_35 : decode cX5_isPaid 35 = .ok (.iload_n 1, 1) := by decide +kernel
theorem dX5_isPaid_36 : decode cX5_isPaid 36 = .ok (.iaload, 1) := by decide +kernel
theorem dX5_isPaid_37 : decode cX5_isPaid 37 = .ok (.if_icmp .lt 20, 3) := by decide +kernel
theorem dX5_isPaid_40 : decode cX5_isPaid 40 = .ok (.aload_n 0, 1) := by decide +kernel
theorem dX5_isPaid_41 : decode cX5_isPaid 41 = .ok (.getfield 42, 3) := by decide +kernel
theorem dX5_isPaid_44 : decode cX5_isPaid 44 = .ok (.iload_n 2, 1) := by decide +kernel
theorem dX5_isPaid_45 : decode cX5_isPaid 45 = .ok (.dup2, 1) := by decide +kernel
theorem dX5_isPaid_46 : decode cX5_isPaid 46 = .ok (.iaload, 1) := by decide +kernel
theorem dX5_isPaid_47 : decode cX5_isPaid 47 = .ok (.aload_n 0, 1) := by decide +kernel
theorem dX5_isPaid_48 : decode cX5_isPaid 48 = .ok (.getfield 54, 3) := by decide +kernel
theorem dX5_isPaid_51 : decode cX5_isPaid 51 = .ok (.iload_n 1, 1) := by decide +kernel
theorem dX5_isPaid_52 : decode cX5_isPaid 52 = .ok (.iaload, 1) := by decide +kernel
theorem dX5_isPaid_53 : decode cX5_isPaid 53 = .ok (.isub, 1) := by decide +kernel
theorem dX5_isPaid_54 : decode cX5_isPaid 54 = .ok (.iastore, 1) := by decide +kernel
theorem dX5_isPaid_55 : decode cX5_isPaid 55 = .ok (.iconst 1, 1) := by decide +kernel
theorem dX5_isPaid_56 : decode cX5_isPaid 56 = .ok (.ireturn, 1) := by decide +kernel
theorem dX5_isPaid_57 : decode cX5_isPaid 57 = .ok (.aload_n 0, 1) := by decide +kernel
theorem dX5_isPaid_58 : decode cX5_isPaid 58 = .ok (.getfield 39, 3) := by decide +kernel
theorem dX5_isPaid_61 : decode cX5_isPaid 61 = .ok (.iload_n 2, 1) := by decide +kernel
theorem dX5_isPaid_62 : decode cX5_isPaid 62 = .ok (.iaload, 1) := by decide +kernel
theorem dX5_isPaid_63 : decode cX5_isPaid 63 = .ok (.aload_n 0, 1) := by decide +kernel
theorem dX5_isPaid_64 : decode cX5_isPaid 64 = .ok (.getfield 57, 3) := by decide +kernel
theorem dX5_isPaid_67 : decode cX5_isPaid 67 = .ok (.iload_n 1, 1) := by decide +kernel
theorem dX5_isPaid_68 : decode cX5_isPaid 68 = .ok (.iaload, 1) := by decide +kernel
theorem dX5_isPaid_69 : decode cX5_isPaid 69 = .ok (.if_icmp .lt 7, 3) := by decide +kernel
theorem dX5_isPaid_72 : decode cX5_isPaid 72 = .ok (.iconst 1, 1) := by decide +kernel
theorem dX5_isPaid_73 : decode cX5_isPaid 73 = .ok (.goto 4, 3) := by decide +kernel
theorem dX5_isPaid_76 : decode cX5_isPaid 76 = .ok (.iconst 0, 1) := by decide +kernel
theorem dX5_isPaid_77 : decode cX5_isPaid 77 = .ok (.istore_n 3, 1) := by decide +kernel
theorem dX5_isPaid_78 : decode cX5_isPaid 78 = .ok (.aload_n 0, 1) := by decide +kernel
theorem dX5_isPaid_79 : decode cX5_isPaid 79 = .ok (.getfield 39, 3) := by decide +kernel
theorem dX5_isPaid_82 : decode cX5_isPaid 82 = .ok (.iload_n 2, 1) := by decide +kernel
theorem dX5_isPaid_83 : decode cX5_isPaid 83 = .ok (.dup2, 1) := by decide +kernel
theorem dX5_isPaid_84 : decode cX5_isPaid 84 = .ok (.iaload, 1) := by decide +kernel
theorem dX5_isPaid_85 : decode cX5_isPaid 85 = .ok (.iload_n 3, 1) := by decide +kernel
theorem dX5_isPaid_86 : decode cX5_isPaid 86 = .ok (.ifCond .eq 12, 3) := by decide +kernel
theorem dX5_isPaid_89 : decode cX5_isPaid 89 = .ok (.aload_n 0, 1) := by decide +kernel
theorem dX5_isPaid_90 : decode cX5_isPaid 90 = .ok (.getfield 57, 3) := by decide +kernel
theorem dX5_isPaid_93 : decode cX5_isPaid 93 = .ok (.iload_n 1, 1) := by decide +kernel
theorem dX5_isPaid_94 : decode cX5_isPaid 94 = .ok (.iaload, 1) := by decide +kernel
theorem dX5_isPaid_95 : decode cX5_isPaid 95 = .ok (.goto 4, 3) := by decide +kernel
theorem dX5_isPaid_98 : decode cX5_isPaid 98 = .ok (.iconst 0, 1) := by decide +kernel
theorem dX5_isPaid_99 : decode cX5_isPaid 99 = .ok (.isub, 1) := by decide +kernel
theorem dX5_isPaid_100 : decode cX5_isPaid 100 = .ok (.iastore, 1) := by decide +kernel
theorem dX5_isPaid_101 : decode cX5_isPaid 101 = .ok (.iload_n 3, 1) := by decide +kernel
theorem dX5_isPaid_102 : decode cX5_isPaid 102 = .ok (.ireturn, 1) := by decide +kernel
theorem dX5_minute_0 : decode cX5_minute 0 = .ok (.iconst 5, 1) := by decide +kernel
theorem dX5_minute_1 : decode cX5_minute 1 = .ok (.iload_n 1, 1) := by decide +kernel
theorem dX5_minute_2 : decode cX5_minute 2 = .ok (.imul, 1) := by decide +kernel
theorem dX5_minute_3 : decode cX5_minute 3 = .ok (.aload_n 0, 1) := by decide +kernel
theorem dX5_minute_4 : decode cX5_minute 4 = .ok (.getfield 66, 3) := by decide +kernel
theorem dX5_minute_7 : decode cX5_minute 7 = .ok (.iload_n 1, 1) := by decide +kernel
theorem dX5_minute_8 : decode cX5_minute 8 = .ok (.iaload, 1) := by decide +kernel
theorem dX5_minute_9 : decode cX5_minute 9 = .ok (.iadd, 1) := by decide +kernel
theorem dX5_minute_10 : decode cX5_minute 10 = .ok (.iconst 1, 1) := by decide +kernel
theorem dX5_minute_11 : decode cX5_minute 11 = .ok (.isub, 1) := by decide +kernel
theorem dX5_minute_12 : decode cX5_minute 12 = .ok (.istore_n 2, 1) := by decide +kernel
theorem dX5_minute_13 : decode cX5_minute 13 = .ok (.aload_n 0, 1) := by decide +kernel
theorem dX5_minute_14 : decode cX5_minute 14 = .ok (.iload_n 1, 1) := by decide +kernel
theorem dX5_minute_15 : decode cX5_minute 15 = .ok (.invokevirtual 141, 3) := by decide +kernel
theorem dX5_minute_18 : decode cX5_minute 18 = .ok (.ifCond .eq 47, 3) := by decide +kernel
theorem dX5_minute_21 : decode cX5_minute 21 = .ok (.aload_n 0, 1) := by decide +kernel
theorem dX5_minute_22 : decode cX5_minute 22 = .ok (.aload_n 0, 1) := by decide +kernel
theorem dX5_minute_23 : decode cX5_minute 23 = .ok (.getfield 69, 3) := by decide +kernel
theorem dX5_minute_26 : decode cX5_minute 26 = .ok (.iconst 5, 1) := by decide +kernel
theorem dX5_minute_27 : decode cX5_minute 27 = .ok (.iload_n 1, 1) := by decide +kernel
theorem dX5_minute_28 : decode cX5_minute 28 = .ok (.imul, 1) := by decide +kernel
theorem dX5_minute_29 : decode cX5_minute 29 = .ok (.iaload, 1) := by decide +kernel
theorem dX5_minute_30 : decode cX5_minute 30 = .ok (.aload_n 0, 1) := by decide +kernel
theorem dX5_minute_31 : decode cX5_minute 31 = .ok (.getfield 69, 3) := by decide +kernel
theorem dX5_minute_34 : decode cX5_minute 34 = .ok (.iload_n 2, 1) := by decide +kernel
theorem dX5_minute_35 : decode cX5_minute 35 = .ok (.iaload, 1) := by decide +kernel
theorem dX5_minute_36 : decode cX5_minute 36 = .ok (.invokevirtual 131, 3) := by decide +kernel
theorem dX5_minute_39 : decode cX5_minute 39 = .ok (.ifCond .ne 11, 3) := by decide +kernel
theorem dX5_minute_42 : decode cX5_minute 42 = .ok (.aload_n 0, 1) := by decide +kernel
theorem dX5_minute_43 : decode cX5_minute 43 = .ok (.getfield 51, 3) := by decide +kernel
theorem dX5_minute_46 : decode cX5_minute 46 = .ok (.iload_n 1, 1) := by decide +kernel
theorem dX5_minute_47 : decode cX5_minute 47 = .ok (.iconst 2, 1) := by decide +kernel
theorem dX5_minute_48 : decode cX5_minute 48 = .ok (.iastore, 1) := by decide +kernel
theorem dX5_minute_49 : decode cX5_minute 49 = .ok (.return_, 1) := by decide +kernel
theorem dX5_minute_50 : decode cX5_minute 50 = .ok (.aload_n 0, 1) := by decide +kernel
theorem dX5_minute_51 : decode cX5_minute 51 = .ok (.iload_n 1, 1) := by decide +kernel
theorem dX5_minute_52 : decode cX5_minute 52 = .ok (.invokevirtual 134, 3) := by decide +kernel
theorem dX5_minute_55 : decode cX5_minute 55 = .ok (.aload_n 0, 1) := by decide +kernel
theorem dX5_minute_56 : decode cX5_minute 56 = .ok (.getfield 63, 3) := by decide +kernel
theorem dX5_minute_59 : decode cX5_minute 59 = .ok (.iload_n 1, 1) := by decide +kernel
theorem dX5_minute_60 : decode cX5_minute 60 = .ok (.dup2, 1) := by decide +kernel
theorem dX5_minute_61 : decode cX5_minute 61 = .ok (.iaload, 1) := by decide +kernel
theorem dX5_minute_62 : decode cX5_minute 62 = .ok (.iconst 1, 1) := by decide +kernel
theorem dX5_minute_63 : decode cX5_minute 63 = .ok (.iadd, 1) := by decide +kernel
theorem dX5_minute_64 : decode cX5_minute 64 = .ok (.iastore, 1) := by decide +kernel
theorem dX5_minute_65 : decode cX5_minute 65 = .ok (.aload_n 0, 1) := by decide +kernel
theorem dX5_minute_66 : decode cX5_minute 66 = .ok (.iload_n 1, 1) := by decide +kernel
theorem dX5_minute_67 : decode cX5_minute 67 = .ok (.invokevirtual 144, 3) := by decide +kernel
theorem dX5_minute_70 : decode cX5_minute 70 = .ok (.ifCond .ne 11, 3) := by decide +kernel
theorem dX5_minute_73 : decode cX5_minute 73 = .ok (.aload_n 0, 1) := by decide +kernel
theorem dX5_minute_74 : decode cX5_minute 74 = .ok (.getfield 51, 3) := by decide +kernel
theorem dX5_minute_77 : decode cX5_minute 77 = .ok (.iload_n 1, 1) := by decide +kernel
theorem dX5_minute_78 : decode cX5_minute 78 = .ok (.iconst 2, 1) := by decide +kernel
theorem dX5_minute_79 : decode cX5_minute 79 = .ok (.iastore, 1) := by decide +kernel
theorem dX5_minute_80 : decode cX5_minute 80 = .ok (.return_, 1) := by decide +kernel
theorem dX5_minute_81 : decode cX5_minute 81 = .ok (.iconst 1, 1) := by decide +kernel
theorem dX5_minute_82 : decode cX5_minute 82 = .ok (.istore_n 3, 1) := by decide +kernel
theorem dX5_minute_83 : decode cX5_minute 83 = .ok (.iload_n 3, 1) := by decide +kernel
theorem dX5_minute_84 : decode cX5_minute 84 = .ok (.aload_n 0, 1) := by decide +kernel
theorem dX5_minute_85 : decode cX5_minute 85 = .ok (.getfield 66, 3) := by decide +kernel
theorem dX5_minute_88 : decode cX5_minute 88 = .ok (.iload_n 1, 1) := by decide +kernel
theorem dX5_minute_89 : decode cX5_minute 89 = .ok (.iaload, 1) := by decide +kernel
theorem dX5_minute_90 : decode cX5_minute 90 = .ok (.if_icmp .ge 54, 3) := by decide +kernel
theorem dX5_minute_93 : decode cX5_minute 93 = .ok (.iconst 5, 1) := by decide +kernel
theorem dX5_minute_94 : decode cX5_minute 94 = .ok (.aload_n 0, 1) := by decide +kernel
theorem dX5_minute_95 : decode cX5_minute 95 = .ok (.getfield 69, 3) := by decide +kernel
theorem dX5_minute_98 : decode cX5_minute 98 = .ok (.iconst 5, 1) := by decide +kernel
theorem dX5_minute_99 : decode cX5_minute 99 = .ok (.iload_n 1, 1) := by decide +kernel
theorem dX5_minute_100 : decode cX5_minute 100 = .ok (.imul, 1) := by decide +kernel
theorem dX5_minute_101 : decode cX5_minute 101 = .ok (.iload_n 3, 1) := by decide +kernel
theorem dX5_minute_102 : decode cX5_minute 102 = .ok (.iadd, 1) := by decide +kernel
theorem dX5_minute_103 : decode cX5_minute 103 = .ok (.iconst 1, 1) := by decide +kernel
theorem dX5_minute_104 : decode cX5_minute 104 = .ok (.isub, 1) := by decide +kernel
theorem dX5_minute_105 : decode cX5_minute 105 = .ok (.iaload, 1) := by decide +kernel
theorem dX5_minute_106 : decode cX5_minute 106 = .ok (.imul, 1) := by decide +kernel
theorem dX5_minute_107 : decode cX5_minute 107 = .ok (.aload_n 0, 1) := by decide +kernel
theorem dX5_minute_108 : decode cX5_minute 108 = .ok (.getfield 69, 3) := by decide +kernel
theorem dX5_minute_111 : decode cX5_minute 111 = .ok (.iconst 5, 1) := by decide +kernel
theorem dX5_minute_112 : decode cX5_minute 112 = .ok (.iload_n 1, 1) := by decide +kernel
theorem dX5_minute_113 : decode cX5_minute 113 = .ok (.imul, 1) := by decide +kernel
theorem dX5_minute_114 : decode cX5_minute 114 = .ok (.iload_n 3, 1) := by decide +kernel
theorem dX5_minute_115 : decode cX5_minute 115 = .ok (.iadd, 1) := by decide +kernel
theorem dX5_minute_116 : decode cX5_minute 116 = .ok (.iaload, 1) := by decide +kernel
theorem dX5_minute_117 : decode cX5_minute 117 = .ok (.iadd, 1) := by decide +kernel
theorem dX5_minute_118 : decode cX5_minute 118 = .ok (.istore 4, 2) := by decide +kernel
theorem dX5_minute_120 : decode cX5_minute 120 = .ok (.aload_n 0, 1) := by decide +kernel
theorem dX5_minute_121 : decode cX5_minute 121 = .ok (.getfield 26, 3) := by decide +kernel
theorem dX5_minute_124 : decode cX5_minute 124 = .ok (.iload 4, 2) := by decide +kernel
theorem dX5_minute_126 : decode cX5_minute 126 = .ok (.dup2, 1) := by decide +kernel
theorem dX5_minute_127 : decode cX5_minute 127 = .ok (.laload, 1) := by decide +kernel
theorem dX5_minute_128 : decode cX5_minute 128 = .ok (.aload_n 0, 1) := by decide +kernel
theorem dX5_minute_129 : decode cX5_minute 129 = .ok (.getfield 20, 3) := by decide +kernel
theorem dX5_minute_132 : decode cX5_minute 132 = .ok (.iload 4, 2) := by decide +kernel
theorem dX5_minute_134 : decode cX5_minute 134 = .ok (.iaload, 1) := by decide +kernel
theorem dX5_minute_135 : decode cX5_minute 135 = .ok (.i2l, 1) := by decide +kernel
theorem dX5_minute_136 : decode cX5_minute 136 = .ok (.ladd, 1) := by decide +kernel
theorem dX5_minute_137 : decode cX5_minute 137 = .ok (.lastore, 1) := by decide +kernel
theorem dX5_minute_138 : decode cX5_minute 138 = .ok (.iinc 3 1, 3) := by decide +kernel
theorem dX5_minute_141 : decode cX5_minute 141 = .ok (.goto (-58), 3) := by decide +kernel
theorem dX5_minute_144 : decode cX5_minute 144 = .ok (.aload_n 0, 1) := by decide +kernel
theorem dX5_minute_145 : decode cX5_minute 145 = .ok (.getfield 60, 3) := by decide +kernel
theorem dX5_minute_148 : decode cX5_minute 148 = .ok (.iload_n 1, 1) := by decide +kernel
theorem dX5_minute_149 : decode cX5_minute 149 = .ok (.dup2, 1) := by decide +kernel
theorem dX5_minute_150 : decode cX5_minute 150 = .ok (.iaload, 1) := by decide +kernel
theorem dX5_minute_151 : decode cX5_minute 151 = .ok (.iconst 1, 1) := by decide +kernel
theorem dX5_minute_152 : decode cX5_minute 152 = .ok (.iadd, 1) := by decide +kernel
theorem dX5_minute_153 : decode cX5_minute 153 = .ok (.iastore, 1) := by decide +kernel
theorem dX5_minute_154 : decode cX5_minute 154 = .ok (.return_, 1) := by decide +kernel
theorem dX5_pass_0 : decode cX5_pass 0 = .ok (.aload_n 0, 1) := by decide +kernel
theorem dX5_pass_1 : decode cX5_pass 1 = .ok (.iload_n 1, 1) := by decide +kernel
theorem dX5_pass_2 : decode cX5_pass 2 = .ok (.iconst 1, 1) := by decide +kernel
theorem dX5_pass_3 : decode cX5_pass 3 = .ok (.sipush 200, 3) := by decide +kernel
theorem dX5_pass_6 : decode cX5_pass 6 = .ok (.invokestatic 82, 3) := by decide +kernel
theorem dX5_pass_9 : decode cX5_pass 9 = .ok (.ifCond .eq 7, 3) := by decide +kernel
theorem dX5_pass_12 : decode cX5_pass 12 = .ok (.iconst 0, 1) := by decide +kernel
theorem dX5_pass_13 : decode cX5_pass 13 = .ok (.goto 4, 3) := by decide +kernel
theorem dX5_pass_16 : decode cX5_pass 16 = .ok (.iconst 1, 1) := by decide +kernel
theorem dX5_pass_17 : decode cX5_pass 17 = .ok (.putfield 78, 3) := by decide +kernel
theorem dX5_pass_20 : decode cX5_pass 20 = .ok (.iconst 0, 1) := by decide +kernel
theorem dX5_pass_21 : decode cX5_pass 21 = .ok (.istore_n 2, 1) := by decide +kernel
theorem dX5_pass_22 : decode cX5_pass 22 = .ok (.iconst 0, 1) := by decide +kernel
theorem dX5_pass_23 : decode cX5_pass 23 = .ok (.istore_n 3, 1) := by decide +kernel
theorem dX5_pass_24 : decode cX5_pass 24 = .ok (.iload_n 3, 1) := by decide +kernel
theorem dX5_pass_25 : decode cX5_pass 25 = .ok (.iload_n 1, 1) := by decide +kernel
theorem dX5_pass_26 : decode cX5_pass 26 = .ok (.if_icmp .ge 69, 3) := by decide +kernel
theorem dX5_pass_29 : decode cX5_pass 29 = .ok (.aload_n 0, 1) := by decide +kernel
theorem dX5_pass_30 : decode cX5_pass 30 = .ok (.getfield 78, 3) := by decide +kernel
theorem dX5_pass_33 : decode cX5_pass 33 = .ok (.ifCond .ne 62, 3) := by decide +kernel
theorem dX5_pass_36 : decode cX5_pass 36 = .ok (.iconst 0, 1) := by decide +kernel
theorem dX5_pass_37 : decode cX5_pass 37 = .ok (.istore 4, 2) := by decide +kernel
theorem dX5_pass_39 : decode cX5_pass 39 = .ok (.iload 4, 2) := by decide +kernel
theorem dX5_pass_41 : decode cX5_pass 41 = .ok (.aload_n 0, 1) := by decide +kernel
theorem dX5_pass_42 : decode cX5_pass 42 = .ok (.getfield 93, 3) := by decide +kernel
theorem dX5_pass_45 : decode cX5_pass 45 = .ok (.if_icmp .ge 44, 3) := by decide +kernel
theorem dX5_pass_48 : decode cX5_pass 48 = .ok (.aload_n 0, 1) := by decide +kernel
theorem dX5_pass_49 : decode cX5_pass 49 = .ok (.getfield 51, 3) := by decide +kernel
theorem dX5_pass_52 : decode cX5_pass 52 = .ok (.iload 4, 2) := by decide +kernel
theorem dX5_pass_54 : decode cX5_pass 54 = .ok (.iaload, 1) := by decide +kernel
theorem dX5_pass_55 : decode cX5_pass 55 = .ok (.ifCond .ne 28, 3) := by decide +kernel
theorem dX5_pass_58 : decode cX5_pass 58 = .ok (.aload_n 0, 1) := by decide +kernel
theorem dX5_pass_59 : decode cX5_pass 59 = .ok (.iload 4, 2) := by decide +kernel
theorem dX5_pass_61 : decode cX5_pass 61 = .ok (.invokevirtual 147, 3) := by decide +kernel
theorem dX5_pass_64 : decode cX5_pass 64 = .ok (.iload_n 2, 1) := by decide +kernel
theorem dX5_pass_65 : decode cX5_pass 65 = .ok (.aload_n 0, 1) := by decide +kernel
theorem dX5_pass_66 : decode cX5_pass 66 = .ok (.getfield 51, 3) := by decide +kernel
theorem dX5_pass_69 : decode cX5_pass 69 = .ok (.iload 4, 2) := by decide +kernel
theorem dX5_pass_71 : decode cX5_pass 71 = .ok (.iaload, 1) := by decide +kernel
theorem dX5_pass_72 : decode cX5_pass 72 = .ok (.iconst 2, 1) := by decide +kernel
theorem dX5_pass_73 : decode cX5_pass 73 = .ok (.if_icmp .ne 7, 3) := by decide +kernel
theorem dX5_pass_76 : decode cX5_pass 76 = .ok (.iconst 1, 1) := by decide +kernel
theorem dX5_pass_77 : decode cX5_pass 77 = .ok (.goto 4, 3) := by decide +kernel
theorem dX5_pass_80 : decode cX5_pass 80 = .ok (.iconst 0, 1) := by decide +kernel
theorem dX5_pass_81 : decode cX5_pass 81 = .ok (.iadd, 1) := by decide +kernel
theorem dX5_pass_82 : decode cX5_pass 82 = .ok (.istore_n 2, 1) := by decide +kernel
theorem dX5_pass_83 : decode cX5_pass 83 = .ok (.iinc 4 1, 3) := by decide +kernel
theorem dX5_pass_86 : decode cX5_pass 86 = .ok (.goto (-47), 3) := by decide +kernel
theorem dX5_pass_89 : decode cX5_pass 89 = .ok (.iinc 3 1, 3) := by decide +kernel
theorem dX5_pass_92 : decode cX5_pass 92 = .ok (.goto (-68), 3) := by decide +kernel
theorem dX5_pass_95 : decode cX5_pass 95 = .ok (.iload_n 2, 1) := by decide +kernel
theorem dX5_pass_96 : decode cX5_pass 96 = .ok (.ireturn, 1) := by decide +kernel
theorem dX5_asks_0 : decode cX5_asks 0 = .ok (.aload_n 0, 1) := by decide +kernel
theorem dX5_asks_1 : decode cX5_asks 1 = .ok (.aload_n 0, 1) := by decide +kernel
theorem dX5_asks_2 : decode cX5_asks 2 = .ok (.iload_n 1, 1) := by decide +kernel
theorem dX5_asks_3 : decode cX5_asks 3 = .ok (.invokevirtual 138, 3) := by decide +kernel
theorem dX5_asks_6 : decode cX5_asks 6 = .ok (.ifCond .eq 7, 3) := by decide +kernel
theorem dX5_asks_9 : decode cX5_asks 9 = .ok (.iconst 0, 1) := by decide +kernel
theorem dX5_asks_10 : decode cX5_asks 10 = .ok (.goto 4, 3) := by decide +kernel
theorem dX5_asks_13 : decode cX5_asks 13 = .ok (.iconst 1, 1) := by decide +kernel
theorem dX5_asks_14 : decode cX5_asks 14 = .ok (.putfield 78, 3) := by decide +kernel
theorem dX5_asks_17 : decode cX5_asks 17 = .ok (.aload_n 0, 1) := by decide +kernel
theorem dX5_asks_18 : decode cX5_asks 18 = .ok (.getfield 78, 3) := by decide +kernel
theorem dX5_asks_21 : decode cX5_asks 21 = .ok (.ifCond .ne 7, 3) := by decide +kernel
theorem dX5_asks_24 : decode cX5_asks 24 = .ok (.iconst 1, 1) := by decide +kernel
theorem dX5_asks_25 : decode cX5_asks 25 = .ok (.goto 4, 3) := by decide +kernel
theorem dX5_asks_28 : decode cX5_asks 28 = .ok (.iconst 0, 1) := by decide +kernel
theorem dX5_asks_29 : decode cX5_asks 29 = .ok (.ireturn, 1) := by decide +kernel
theorem dX5_state_0 : decode cX5_state 0 = .ok (.aload_n 0, 1) := by decide +kernel
theorem dX5_state_1 : decode cX5_state 1 = .ok (.iload_n 1, 1) := by decide +kernel
theorem dX5_state_2 : decode cX5_state 2 = .ok (.invokevirtual 150, 3) := by decide +kernel
theorem dX5_state_5 : decode cX5_state 5 = .ok (.ifCond .eq 12, 3) := by decide +kernel
theorem dX5_state_8 : decode cX5_state 8 = .ok (.aload_n 0, 1) := by decide +kernel
theorem dX5_state_9 : decode cX5_state 9 = .ok (.getfield 51, 3) := by decide +kernel
theorem dX5_state_12 : decode cX5_state 12 = .ok (.iload_n 1, 1) := by decide +kernel
theorem dX5_state_13 : decode cX5_state 13 = .ok (.iaload, 1) := by decide +kernel
theorem dX5_state_14 : decode cX5_state 14 = .ok (.goto 4, 3) := by decide +kernel
theorem dX5_state_17 : decode cX5_state 17 = .ok (.iconst 0, 1) := by decide +kernel
theorem dX5_state_18 : decode cX5_state 18 = .ok (.ireturn, 1) := by decide +kernel
theorem dX5_minutes_0 : decode cX5_minutes 0 = .ok (.aload_n 0, 1) := by decide +kernel
theorem dX5_minutes_1 : decode cX5_minutes 1 = .ok (.iload_n 1, 1) := by decide +kernel
theorem dX5_minutes_2 : decode cX5_minutes 2 = .ok (.invokevirtual 150, 3) := by decide +kernel
theorem dX5_minutes_5 : decode cX5_minutes 5 = .ok (.ifCond .eq 12, 3) := by decide +kernel
theorem dX5_minutes_8 : decode cX5_minutes 8 = .ok (.aload_n 0, 1) := by decide +kernel
theorem dX5_minutes_9 : decode cX5_minutes 9 = .ok (.getfield 60, 3) := by decide +kernel
theorem dX5_minutes_12 : decode cX5_minutes 12 = .ok (.iload_n 1, 1) := by decide +kernel
theorem dX5_minutes_13 : decode cX5_minutes 13 = .ok (.iaload, 1) := by decide +kernel
theorem dX5_minutes_14 : decode cX5_minutes 14 = .ok (.goto 4, 3) := by decide +kernel
theorem dX5_minutes_17 : decode cX5_minutes 17 = .ok (.iconst 0, 1) := by decide +kernel
theorem dX5_minutes_18 : decode cX5_minutes 18 = .ok (.ireturn, 1) := by decide +kernel
theorem dX5_moved_0 : decode cX5_moved 0 = .ok (.aload_n 0, 1) := by decide +kernel
theorem dX5_moved_1 : decode cX5_moved 1 = .ok (.iload_n 1, 1) := by decide +kernel
theorem dX5_moved_2 : decode cX5_moved 2 = .ok (.invokevirtual 150, 3) := by decide +kernel
theorem dX5_moved_5 : decode cX5_moved 5 = .ok (.ifCond .eq 12, 3) := by decide +kernel
theorem dX5_moved_8 : decode cX5_moved 8 = .ok (.aload_n 0, 1) := by decide +kernel
theorem dX5_moved_9 : decode cX5_moved 9 = .ok (.getfield 63, 3) := by decide +kernel
theorem dX5_moved_12 : decode cX5_moved 12 = .ok (.iload_n 1, 1) := by decide +kernel
theorem dX5_moved_13 : decode cX5_moved 13 = .ok (.iaload, 1) := by decide +kernel
theorem dX5_moved_14 : decode cX5_moved 14 = .ok (.goto 4, 3) := by decide +kernel
theorem dX5_moved_17 : decode cX5_moved 17 = .ok (.iconst 0, 1) := by decide +kernel
theorem dX5_moved_18 : decode cX5_moved 18 = .ok (.ireturn, 1) := by decide +kernel
theorem dX5_way_0 : decode cX5_way 0 = .ok (.aload_n 0, 1) := by decide +kernel
theorem dX5_way_1 : decode cX5_way 1 = .ok (.aload_n 0, 1) := by decide +kernel
theorem dX5_way_2 : decode cX5_way 2 = .ok (.iload_n 1, 1) := by decide +kernel
theorem dX5_way_3 : decode cX5_way 3 = .ok (.invokevirtual 138, 3) := by decide +kernel
theorem dX5_way_6 : decode cX5_way 6 = .ok (.ifCond .eq 35, 3) := by decide +kernel
theorem dX5_way_9 : decode cX5_way 9 = .ok (.iload_n 2, 1) := by decide +kernel
theorem dX5_way_10 : decode cX5_way 10 = .ok (.iconst 0, 1) := by decide +kernel
theorem dX5_way_11 : decode cX5_way 11 = .ok (.aload_n 0, 1) := by decide +kernel
theorem dX5_way_12 : decode cX5_way 12 = .ok (.getfield 66, 3) := by decide +kernel
theorem dX5_way_15 : decode cX5_way 15 = .ok (.aload_n 0, 1) := by decide +kernel
theorem dX5_way_16 : decode cX5_way 16 = .ok (.iload_n 1, 1) := by decide +kernel
theorem dX5_way_17 : decode cX5_way 17 = .ok (.invokevirtual 138, 3) := by decide +kernel
theorem dX5_way_20 : decode cX5_way 20 = .ok (.ifCond .eq 7, 3) := by decide +kernel
theorem dX5_way_23 : decode cX5_way 23 = .ok (.iload_n 1, 1) := by decide +kernel
theorem dX5_way_24 : decode cX5_way 24 = .ok (.goto 4, 3) := by decide +kernel
theorem dX5_way_27 : decode cX5_way 27 = .ok (.iconst 0, 1) := by decide +kernel
theorem dX5_way_28 : decode cX5_way 28 = .ok (.iaload, 1) := by decide +kernel
theorem dX5_way_29 : decode cX5_way 29 = .ok (.iconst 1, 1) := by decide +kernel
theorem dX5_way_30 : decode cX5_way 30 = .ok (.isub, 1) := by decide +kernel
theorem dX5_way_31 : decode cX5_way 31 = .ok (.invokestatic 82, 3) := by decide +kernel
theorem dX5_way_34 : decode cX5_way 34 = .ok (.ifCond .eq 7, 3) := by decide +kernel
theorem dX5_way_37 : decode cX5_way 37 = .ok (.iconst 0, 1) := by decide +kernel
theorem dX5_way_38 : decode cX5_way 38 = .ok (.goto 4, 3) := by decide +kernel
theorem dX5_way_41 : decode cX5_way 41 = .ok (.iconst 1, 1) := by decide +kernel
theorem dX5_way_42 : decode cX5_way 42 = .ok (.putfield 78, 3) := by decide +kernel
theorem dX5_way_45 : decode cX5_way 45 = .ok (.aload_n 0, 1) := by decide +kernel
theorem dX5_way_46 : decode cX5_way 46 = .ok (.getfield 78, 3) := by decide +kernel
theorem dX5_way_49 : decode cX5_way 49 = .ok (.ifCond .le 7, 3) := by decide +kernel
theorem dX5_way_52 : decode cX5_way 52 = .ok (.iconst 0, 1) := by decide +kernel
theorem dX5_way_53 : decode cX5_way 53 = .ok (.goto 13, 3) := by decide +kernel
theorem dX5_way_56 : decode cX5_way 56 = .ok (.aload_n 0, 1) := by decide +kernel
theorem dX5_way_57 : decode cX5_way 57 = .ok (.getfield 69, 3) := by decide +kernel
theorem dX5_way_60 : decode cX5_way 60 = .ok (.iconst 5, 1) := by decide +kernel
theorem dX5_way_61 : decode cX5_way 61 = .ok (.iload_n 1, 1) := by decide +kernel
theorem dX5_way_62 : decode cX5_way 62 = .ok (.imul, 1) := by decide +kernel
theorem dX5_way_63 : decode cX5_way 63 = .ok (.iload_n 2, 1) := by decide +kernel
theorem dX5_way_64 : decode cX5_way 64 = .ok (.iadd, 1) := by decide +kernel
theorem dX5_way_65 : decode cX5_way 65 = .ok (.iaload, 1) := by decide +kernel
theorem dX5_way_66 : decode cX5_way 66 = .ok (.ireturn, 1) := by decide +kernel
theorem dX5_cost_0 : decode cX5_cost 0 = .ok (.aload_n 0, 1) := by decide +kernel
theorem dX5_cost_1 : decode cX5_cost 1 = .ok (.iload_n 1, 1) := by decide +kernel
theorem dX5_cost_2 : decode cX5_cost 2 = .ok (.iload_n 2, 1) := by decide +kernel
theorem dX5_cost_3 : decode cX5_cost 3 = .ok (.invokestatic 97, 3) := by decide +kernel
theorem dX5_cost_6 : decode cX5_cost 6 = .ok (.ifCond .eq 7, 3) := by decide +kernel
theorem dX5_cost_9 : decode cX5_cost 9 = .ok (.iconst 0, 1) := by decide +kernel
theorem dX5_cost_10 : decode cX5_cost 10 = .ok (.goto 4, 3) := by decide +kernel
theorem dX5_cost_13 : decode cX5_cost 13 = .ok (.iconst 1, 1) := by decide +kernel
theorem dX5_cost_14 : decode cX5_cost 14 = .ok (.putfield 78, 3) := by decide +kernel
theorem dX5_cost_17 : decode cX5_cost 17 = .ok (.aload_n 0, 1) := by decide +kernel
theorem dX5_cost_18 : decode cX5_cost 18 = .ok (.getfield 78, 3) := by decide +kernel
theorem dX5_cost_21 : decode cX5_cost 21 = .ok (.ifCond .le 5, 3) := by decide +kernel
theorem dX5_cost_24 : decode cX5_cost 24 = .ok (.iconst 0, 1) := by decide +kernel
theorem dX5_cost_25 : decode cX5_cost 25 = .ok (.ireturn, 1) := by decide +kernel
theorem dX5_cost_26 : decode cX5_cost 26 = .ok (.aload_n 0, 1) := by decide +kernel
theorem dX5_cost_27 : decode cX5_cost 27 = .ok (.iload_n 1, 1) := by decide +kernel
theorem dX5_cost_28 : decode cX5_cost 28 = .ok (.iload_n 2, 1) := by decide +kernel
theorem dX5_cost_29 : decode cX5_cost 29 = .ok (.invokevirtual 131, 3) := by decide +kernel
theorem dX5_cost_32 : decode cX5_cost 32 = .ok (.ifCond .eq 10, 3) := by decide +kernel
theorem dX5_cost_35 : decode cX5_cost 35 = .ok (.aload_n 0, 1) := by decide +kernel
theorem dX5_cost_36 : decode cX5_cost 36 = .ok (.getfield 122, 3) := by decide +kernel
theorem dX5_cost_39 : decode cX5_cost 39 = .ok (.goto 4, 3) := by decide +kernel
theorem dX5_cost_42 : decode cX5_cost 42 = .ok (.iconst (-1), 1) := by decide +kernel
theorem dX5_cost_43 : decode cX5_cost 43 = .ok (.ireturn, 1) := by decide +kernel
theorem dX5_best_0 : decode cX5_best 0 = .ok (.aload_n 0, 1) := by decide +kernel
theorem dX5_best_1 : decode cX5_best 1 = .ok (.iload_n 1, 1) := by decide +kernel
theorem dX5_best_2 : decode cX5_best 2 = .ok (.iload_n 2, 1) := by decide +kernel
theorem dX5_best_3 : decode cX5_best 3 = .ok (.invokestatic 97, 3) := by decide +kernel
theorem dX5_best_6 : decode cX5_best 6 = .ok (.ifCond .eq 7, 3) := by decide +kernel
theorem dX5_best_9 : decode cX5_best 9 = .ok (.iconst 0, 1) := by decide +kernel
theorem dX5_best_10 : decode cX5_best 10 = .ok (.goto 4, 3) := by decide +kernel
theorem dX5_best_13 : decode cX5_best 13 = .ok (.iconst 1, 1) := by decide +kernel
theorem dX5_best_14 : decode cX5_best 14 = .ok (.putfield 78, 3) := by decide +kernel
theorem dX5_best_17 : decode cX5_best 17 = .ok (.aload_n 0, 1) := by decide +kernel
theorem dX5_best_18 : decode cX5_best 18 = .ok (.getfield 78, 3) := by decide +kernel
theorem dX5_best_21 : decode cX5_best 21 = .ok (.ifCond .le 5, 3) := by decide +kernel
theorem dX5_best_24 : decode cX5_best 24 = .ok (.iconst 0, 1) := by decide +kernel
theorem dX5_best_25 : decode cX5_best 25 = .ok (.ireturn, 1) := by decide +kernel
theorem dX5_best_26 : decode cX5_best 26 = .ok (.aload_n 0, 1) := by decide +kernel
theorem dX5_best_27 : decode cX5_best 27 = .ok (.aload_n 0, 1) := by decide +kernel
theorem dX5_best_28 : decode cX5_best 28 = .ok (.iload_n 1, 1) := by decide +kernel
theorem dX5_best_29 : decode cX5_best 29 = .ok (.iload_n 2, 1) := by decide +kernel
theorem dX5_best_30 : decode cX5_best 30 = .ok (.invokevirtual 131, 3) := by decide +kernel
theorem dX5_best_33 : decode cX5_best 33 = .ok (.ifCond .eq 21, 3) := by decide +kernel
theorem dX5_best_36 : decode cX5_best 36 = .ok (.iload_n 3, 1) := by decide +kernel
theorem dX5_best_37 : decode cX5_best 37 = .ok (.iconst 0, 1) := by decide +kernel
theorem dX5_best_38 : decode cX5_best 38 = .ok (.aload_n 0, 1) := by decide +kernel
theorem dX5_best_39 : decode cX5_best 39 = .ok (.getfield 116, 3) := by decide +kernel
theorem dX5_best_42 : decode cX5_best 42 = .ok (.iconst 1, 1) := by decide +kernel
theorem dX5_best_43 : decode cX5_best 43 = .ok (.isub, 1) := by decide +kernel
theorem dX5_best_44 : decode cX5_best 44 = .ok (.invokestatic 82, 3) := by decide +kernel
theorem dX5_best_47 : decode cX5_best 47 = .ok (.ifCond .eq 7, 3) := by decide +kernel
theorem dX5_best_50 : decode cX5_best 50 = .ok (.iconst 0, 1) := by decide +kernel
theorem dX5_best_51 : decode cX5_best 51 = .ok (.goto 4, 3) := by decide +kernel
theorem dX5_best_54 : decode cX5_best 54 = .ok (.iconst 1, 1) := by decide +kernel
theorem dX5_best_55 : decode cX5_best 55 = .ok (.putfield 78, 3) := by decide +kernel
theorem dX5_best_58 : decode cX5_best 58 = .ok (.aload_n 0, 1) := by decide +kernel
theorem dX5_best_59 : decode cX5_best 59 = .ok (.getfield 78, 3) := by decide +kernel
theorem dX5_best_62 : decode cX5_best 62 = .ok (.ifCond .le 7, 3) := by decide +kernel
theorem dX5_best_65 : decode cX5_best 65 = .ok (.iconst 0, 1) := by decide +kernel
theorem dX5_best_66 : decode cX5_best 66 = .ok (.goto 9, 3) := by decide +kernel
theorem dX5_best_69 : decode cX5_best 69 = .ok (.aload_n 0, 1) := by decide +kernel
theorem dX5_best_70 : decode cX5_best 70 = .ok (.getfield 72, 3) := by decide +kernel
theorem dX5_best_73 : decode cX5_best 73 = .ok (.iload_n 3, 1) := by decide +kernel
theorem dX5_best_74 : decode cX5_best 74 = .ok (.iaload, 1) := by decide +kernel
theorem dX5_best_75 : decode cX5_best 75 = .ok (.ireturn, 1) := by decide +kernel
theorem dX5_isBarred_0 : decode cX5_isBarred 0 = .ok (.aload_n 0, 1) := by decide +kernel
theorem dX5_isBarred_1 : decode cX5_isBarred 1 = .ok (.iload_n 1, 1) := by decide +kernel
theorem dX5_isBarred_2 : decode cX5_isBarred 2 = .ok (.iload_n 2, 1) := by decide +kernel
theorem dX5_isBarred_3 : decode cX5_isBarred 3 = .ok (.invokestatic 97, 3) := by decide +kernel
theorem dX5_isBarred_6 : decode cX5_isBarred 6 = .ok (.ifCond .eq 7, 3) := by decide +kernel
theorem dX5_isBarred_9 : decode cX5_isBarred 9 = .ok (.iconst 0, 1) := by decide +kernel
theorem dX5_isBarred_10 : decode cX5_isBarred 10 = .ok (.goto 4, 3) := by decide +kernel
theorem dX5_isBarred_13 : decode cX5_isBarred 13 = .ok (.iconst 1, 1) := by decide +kernel
theorem dX5_isBarred_14 : decode cX5_isBarred 14 = .ok (.putfield 78, 3) := by decide +kernel
theorem dX5_isBarred_17 : decode cX5_isBarred 17 = .ok (.aload_n 0, 1) := by decide +kernel
theorem dX5_isBarred_18 : decode cX5_isBarred 18 = .ok (.getfield 78, 3) := by decide +kernel
theorem dX5_isBarred_21 : decode cX5_isBarred 21 = .ok (.ifCond .ne 16, 3) := by decide +kernel
theorem dX5_isBarred_24 : decode cX5_isBarred 24 = .ok (.aload_n 0, 1) := by decide +kernel
theorem dX5_isBarred_25 : decode cX5_isBarred 25 = .ok (.iload_n 1, 1) := by decide +kernel
theorem dX5_isBarred_26 : decode cX5_isBarred 26 = .ok (.iload_n 2, 1) := by decide +kernel
theorem dX5_isBarred_27 : decode cX5_isBarred 27 = .ok (.invokevirtual 113, 3) := by decide +kernel
theorem dX5_isBarred_30 : decode cX5_isBarred 30 = .ok (.ifCond .eq 7, 3) := by decide +kernel
theorem dX5_isBarred_33 : decode cX5_isBarred 33 = .ok (.iconst 1, 1) := by decide +kernel
theorem dX5_isBarred_34 : decode cX5_isBarred 34 = .ok (.goto 4, 3) := by decide +kernel
theorem dX5_isBarred_37 : decode cX5_isBarred 37 = .ok (.iconst 0, 1) := by decide +kernel
theorem dX5_isBarred_38 : decode cX5_isBarred 38 = .ok (.ireturn, 1) := by decide +kernel
theorem dX5_debt_0 : decode cX5_debt 0 = .ok (.aload_n 0, 1) := by decide +kernel
theorem dX5_debt_1 : decode cX5_debt 1 = .ok (.iload_n 1, 1) := by decide +kernel
theorem dX5_debt_2 : decode cX5_debt 2 = .ok (.iload_n 2, 1) := by decide +kernel
theorem dX5_debt_3 : decode cX5_debt 3 = .ok (.invokestatic 97, 3) := by decide +kernel
theorem dX5_debt_6 : decode cX5_debt 6 = .ok (.ifCond .eq 7, 3) := by decide +kernel
theorem dX5_debt_9 : decode cX5_debt 9 = .ok (.iconst 0, 1) := by decide +kernel
theorem dX5_debt_10 : decode cX5_debt 10 = .ok (.goto 4, 3) := by decide +kernel
theorem dX5_debt_13 : decode cX5_debt 13 = .ok (.iconst 1, 1) := by decide +kernel
theorem dX5_debt_14 : decode cX5_debt 14 = .ok (.putfield 78, 3) := by decide +kernel
theorem dX5_debt_17 : decode cX5_debt 17 = .ok (.aload_n 0, 1) := by decide +kernel
theorem dX5_debt_18 : decode cX5_debt 18 = .ok (.getfield 78, 3) := by decide +kernel
theorem dX5_debt_21 : decode cX5_debt 21 = .ok (.ifCond .le 7, 3) := by decide +kernel
theorem dX5_debt_24 : decode cX5_debt 24 = .ok (.lconst 0, 1) := by decide +kernel
theorem dX5_debt_25 : decode cX5_debt 25 = .ok (.goto 9, 3) := by decide +kernel
theorem dX5_debt_28 : decode cX5_debt 28 = .ok (.aload_n 0, 1) := by decide +kernel
theorem dX5_debt_29 : decode cX5_debt 29 = .ok (.iload_n 1, 1) := by decide +kernel
theorem dX5_debt_30 : decode cX5_debt 30 = .ok (.iload_n 2, 1) := by decide +kernel
theorem dX5_debt_31 : decode cX5_debt 31 = .ok (.invokevirtual 109, 3) := by decide +kernel
theorem dX5_debt_34 : decode cX5_debt 34 = .ok (.lreturn, 1) := by decide +kernel
theorem dX5_charged_0 : decode cX5_charged 0 = .ok (.aload_n 0, 1) := by decide +kernel
theorem dX5_charged_1 : decode cX5_charged 1 = .ok (.iload_n 1, 1) := by decide +kernel
theorem dX5_charged_2 : decode cX5_charged 2 = .ok (.iload_n 2, 1) := by decide +kernel
theorem dX5_charged_3 : decode cX5_charged 3 = .ok (.invokestatic 97, 3) := by decide +kernel
theorem dX5_charged_6 : decode cX5_charged 6 = .ok (.ifCond .eq 7, 3) := by decide +kernel
theorem dX5_charged_9 : decode cX5_charged 9 = .ok (.iconst 0, 1) := by decide +kernel
theorem dX5_charged_10 : decode cX5_charged 10 = .ok (.goto 4, 3) := by decide +kernel
theorem dX5_charged_13 : decode cX5_charged 13 = .ok (.iconst 1, 1) := by decide +kernel
theorem dX5_charged_14 : decode cX5_charged 14 = .ok (.putfield 78, 3) := by decide +kernel
theorem dX5_charged_17 : decode cX5_charged 17 = .ok (.aload_n 0, 1) := by decide +kernel
theorem dX5_charged_18 : decode cX5_charged 18 = .ok (.getfield 78, 3) := by decide +kernel
theorem dX5_charged_21 : decode cX5_charged 21 = .ok (.ifCond .le 7, 3) := by decide +kernel
theorem dX5_charged_24 : decode cX5_charged 24 = .ok (.lconst 0, 1) := by decide +kernel
theorem dX5_charged_25 : decode cX5_charged 25 = .ok (.goto 13, 3) := by decide +kernel
theorem dX5_charged_28 : decode cX5_charged 28 = .ok (.aload_n 0, 1) := by decide +kernel
theorem dX5_charged_29 : decode cX5_charged 29 = .ok (.getfield 26, 3) := by decide +kernel
theorem dX5_charged_32 : decode cX5_charged 32 = .ok (.iconst 5, 1) := by decide +kernel
theorem dX5_charged_33 : decode cX5_charged 33 = .ok (.iload_n 1, 1) := by decide +kernel
theorem dX5_charged_34 : decode cX5_charged 34 = .ok (.imul, 1) := by decide +kernel
theorem dX5_charged_35 : decode cX5_charged 35 = .ok (.iload_n 2, 1) := by decide +kernel
theorem dX5_charged_36 : decode cX5_charged 36 = .ok (.iadd, 1) := by decide +kernel
theorem dX5_charged_37 : decode cX5_charged 37 = .ok (.laload, 1) := by decide +kernel
theorem dX5_charged_38 : decode cX5_charged 38 = .ok (.lreturn, 1) := by decide +kernel
theorem dX5_position_0 : decode cX5_position 0 = .ok (.aload_n 0, 1) := by decide +kernel
theorem dX5_position_1 : decode cX5_position 1 = .ok (.iload_n 1, 1) := by decide +kernel
theorem dX5_position_2 : decode cX5_position 2 = .ok (.invokestatic 86, 3) := by decide +kernel
theorem dX5_position_5 : decode cX5_position 5 = .ok (.ifCond .eq 7, 3) := by decide +kernel
theorem dX5_position_8 : decode cX5_position 8 = .ok (.iconst 0, 1) := by decide +kernel
theorem dX5_position_9 : decode cX5_position 9 = .ok (.goto 4, 3) := by decide +kernel
theorem dX5_position_12 : decode cX5_position 12 = .ok (.iconst 1, 1) := by decide +kernel
theorem dX5_position_13 : decode cX5_position 13 = .ok (.putfield 78, 3) := by decide +kernel
theorem dX5_position_16 : decode cX5_position 16 = .ok (.lconst 0, 1) := by decide +kernel
theorem dX5_position_17 : decode cX5_position 17 = .ok (.lstore_n 2, 1) := by decide +kernel
theorem dX5_position_18 : decode cX5_position 18 = .ok (.iconst 0, 1) := by decide +kernel
theorem dX5_position_19 : decode cX5_position 19 = .ok (.istore 4, 2) := by decide +kernel
theorem dX5_position_21 : decode cX5_position 21 = .ok (.iload 4, 2) := by decide +kernel
theorem dX5_position_23 : decode cX5_position 23 = .ok (.iconst 5, 1) := by decide +kernel
theorem dX5_position_24 : decode cX5_position 24 = .ok (.if_icmp .ge 26, 3) := by decide +kernel
theorem dX5_position_27 : decode cX5_position 27 = .ok (.aload_n 0, 1) := by decide +kernel
theorem dX5_position_28 : decode cX5_position 28 = .ok (.getfield 78, 3) := by decide +kernel
theorem dX5_position_31 : decode cX5_position 31 = .ok (.ifCond .ne 19, 3) := by decide +kernel
theorem dX5_position_34 : decode cX5_position 34 = .ok (.lload_n 2, 1) := by decide +kernel
theorem dX5_position_35 : decode cX5_position 35 = .ok (.aload_n 0, 1) := by decide +kernel
theorem dX5_position_36 : decode cX5_position 36 = .ok (.iload 4, 2) := by decide +kernel
theorem dX5_position_38 : decode cX5_position 38 = .ok (.iload_n 1, 1) := by decide +kernel
theorem dX5_position_39 : decode cX5_position 39 = .ok (.invokevirtual 109, 3) := by decide +kernel
theorem dX5_position_42 : decode cX5_position 42 = .ok (.ladd, 1) := by decide +kernel
theorem dX5_position_43 : decode cX5_position 43 = .ok (.lstore_n 2, 1) := by decide +kernel
theorem dX5_position_44 : decode cX5_position 44 = .ok (.iinc 4 1, 3) := by decide +kernel
theorem dX5_position_47 : decode cX5_position 47 = .ok (.goto (-26), 3) := by decide +kernel
theorem dX5_position_50 : decode cX5_position 50 = .ok (.lload_n 2, 1) := by decide +kernel
theorem dX5_position_51 : decode cX5_position 51 = .ok (.lreturn, 1) := by decide +kernel
theorem dX5_settle_0 : decode cX5_settle 0 = .ok (.aload_n 0, 1) := by decide +kernel
theorem dX5_settle_1 : decode cX5_settle 1 = .ok (.iload_n 1, 1) := by decide +kernel
theorem dX5_settle_2 : decode cX5_settle 2 = .ok (.iload_n 2, 1) := by decide +kernel
theorem dX5_settle_3 : decode cX5_settle 3 = .ok (.invokestatic 97, 3) := by decide +kernel
theorem dX5_settle_6 : decode cX5_settle 6 = .ok (.ifCond .eq 7, 3) := by decide +kernel
theorem dX5_settle_9 : decode cX5_settle 9 = .ok (.iconst 0, 1) := by decide +kernel
theorem dX5_settle_10 : decode cX5_settle 10 = .ok (.goto 4, 3) := by decide +kernel
theorem dX5_settle_13 : decode cX5_settle 13 = .ok (.iconst 1, 1) := by decide +kernel
theorem dX5_settle_14 : decode cX5_settle 14 = .ok (.putfield 78, 3) := by decide +kernel
theorem dX5_settle_17 : decode cX5_settle 17 = .ok (.aload_n 0, 1) := by decide +kernel
theorem dX5_settle_18 : decode cX5_settle 18 = .ok (.getfield 78, 3) := by decide +kernel
theorem dX5_settle_21 : decode cX5_settle 21 = .ok (.ifCond .le 5, 3) := by decide +kernel
theorem dX5_settle_24 : decode cX5_settle 24 = .ok (.lconst 0, 1) := by decide +kernel
theorem dX5_settle_25 : decode cX5_settle 25 = .ok (.lreturn, 1) := by decide +kernel
theorem dX5_settle_26 : decode cX5_settle 26 = .ok (.aload_n 0, 1) := by decide +kernel
theorem dX5_settle_27 : decode cX5_settle 27 = .ok (.iload_n 1, 1) := by decide +kernel
theorem dX5_settle_28 : decode cX5_settle 28 = .ok (.iload_n 2, 1) := by decide +kernel
theorem dX5_settle_29 : decode cX5_settle 29 = .ok (.invokevirtual 109, 3) := by decide +kernel
theorem dX5_settle_32 : decode cX5_settle 32 = .ok (.lstore_n 3, 1) := by decide +kernel
theorem dX5_settle_33 : decode cX5_settle 33 = .ok (.aload_n 0, 1) := by decide +kernel
theorem dX5_settle_34 : decode cX5_settle 34 = .ok (.lload_n 3, 1) := by decide +kernel
theorem dX5_settle_35 : decode cX5_settle 35 = .ok (.lconst 0, 1) := by decide +kernel
theorem dX5_settle_36 : decode cX5_settle 36 = .ok (.lcmp, 1) := by decide +kernel
theorem dX5_settle_37 : decode cX5_settle 37 = .ok (.ifCond .le 7, 3) := by decide +kernel
theorem dX5_settle_40 : decode cX5_settle 40 = .ok (.iconst 0, 1) := by decide +kernel
theorem dX5_settle_41 : decode cX5_settle 41 = .ok (.goto 4, 3) := by decide +kernel
theorem dX5_settle_44 : decode cX5_settle 44 = .ok (.iconst 2, 1) := by decide +kernel
theorem dX5_settle_45 : decode cX5_settle 45 = .ok (.putfield 78, 3) := by decide +kernel
theorem dX5_settle_48 : decode cX5_settle 48 = .ok (.aload_n 0, 1) := by decide +kernel
theorem dX5_settle_49 : decode cX5_settle 49 = .ok (.getfield 78, 3) := by decide +kernel
theorem dX5_settle_52 : decode cX5_settle 52 = .ok (.ifCond .le 5, 3) := by decide +kernel
theorem dX5_settle_55 : decode cX5_settle 55 = .ok (.lconst 0, 1) := by decide +kernel
theorem dX5_settle_56 : decode cX5_settle 56 = .ok (.lreturn, 1) := by decide +kernel
theorem dX5_settle_57 : decode cX5_settle 57 = .ok (.aload_n 0, 1) := by decide +kernel
theorem dX5_settle_58 : decode cX5_settle 58 = .ok (.getfield 30, 3) := by decide +kernel
theorem dX5_settle_61 : decode cX5_settle 61 = .ok (.iconst 5, 1) := by decide +kernel
theorem dX5_settle_62 : decode cX5_settle 62 = .ok (.iload_n 1, 1) := by decide +kernel
theorem dX5_settle_63 : decode cX5_settle 63 = .ok (.imul, 1) := by decide +kernel
theorem dX5_settle_64 : decode cX5_settle 64 = .ok (.iload_n 2, 1) := by decide +kernel
theorem dX5_settle_65 : decode cX5_settle 65 = .ok (.iadd, 1) := by decide +kernel
theorem dX5_settle_66 : decode cX5_settle 66 = .ok (.dup2, 1) := by decide +kernel
theorem dX5_settle_67 : decode cX5_settle 67 = .ok (.laload, 1) := by decide +kernel
theorem dX5_settle_68 : decode cX5_settle 68 = .ok (.lload_n 3, 1) := by decide +kernel
theorem dX5_settle_69 : decode cX5_settle 69 = .ok (.ladd, 1) := by decide +kernel
theorem dX5_settle_70 : decode cX5_settle 70 = .ok (.lastore, 1) := by decide +kernel
theorem dX5_settle_71 : decode cX5_settle 71 = .ok (.lload_n 3, 1) := by decide +kernel
theorem dX5_settle_72 : decode cX5_settle 72 = .ok (.lreturn, 1) := by decide +kernel
end
section
theorem dL_tariff_0 : decode cL_tariff 0 = .ok (.aload 4, 2) := by decide +kernel
theorem dL_tariff_2 : decode cL_tariff 2 = .ok (.iconst 0, 1) := by decide +kernel
theorem dL_tariff_3 : decode cL_tariff 3 = .ok (.aload_n 0, 1) := by decide +kernel
theorem dL_tariff_4 : decode cL_tariff 4 = .ok (.iload_n 1, 1) := by decide +kernel
theorem dL_tariff_5 : decode cL_tariff 5 = .ok (.iload_n 2, 1) := by decide +kernel
theorem dL_tariff_6 : decode cL_tariff 6 = .ok (.iload_n 3, 1) := by decide +kernel
theorem dL_tariff_7 : decode cL_tariff 7 = .ok (.invokevirtual 7, 3) := by decide +kernel
theorem dL_tariff_10 : decode cL_tariff 10 = .ok (.i2l, 1) := by decide +kernel
theorem dL_tariff_11 : decode cL_tariff 11 = .ok (.lastore, 1) := by decide +kernel
theorem dL_tariff_12 : decode cL_tariff 12 = .ok (.goto 11, 3) := by decide +kernel
theorem dL_tariff_15 : decode cL_tariff 15 = .ok (.astore 5, 2) := by decide +kernel
theorem dL_tariff_17 : decode cL_tariff 17 = .ok (.iconst 1, 1) := by decide +kernel
theorem dL_tariff_18 : decode cL_tariff 18 = .ok (.ireturn, 1) := by decide +kernel
theorem dL_tariff_19 : decode cL_tariff 19 = .ok (.astore 5, 2) := by decide +kernel
theorem dL_tariff_21 : decode cL_tariff 21 = .ok (.iconst 2, 1) := by decide +kernel
theorem dL_tariff_22 : decode cL_tariff 22 = .ok (.ireturn, 1) := by decide +kernel
theorem dL_tariff_23 : decode cL_tariff 23 = .ok (.iconst 0, 1) := by decide +kernel
theorem dL_tariff_24 : decode cL_tariff 24 = .ok (.ireturn, 1) := by decide +kernel
theorem dL_link_0 : decode cL_link 0 = .ok (.aload 5, 2) := by decide +kernel
theorem dL_link_2 : decode cL_link 2 = .ok (.iconst 0, 1) := by decide +kernel
theorem dL_link_3 : decode cL_link 3 = .ok (.aload_n 0, 1) := by decide +kernel
theorem dL_link_4 : decode cL_link 4 = .ok (.iload_n 1, 1) := by decide +kernel
theorem dL_link_5 : decode cL_link 5 = .ok (.iload_n 2, 1) := by decide +kernel
theorem dL_link_6 : decode cL_link 6 = .ok (.iload_n 3, 1) := by decide +kernel
theorem dL_link_7 : decode cL_link 7 = .ok (.iload 4, 2) := by decide +kernel
theorem dL_link_9 : decode cL_link 9 = .ok (.invokevirtual 17, 3) := by decide +kernel
theorem dL_link_12 : decode cL_link 12 = .ok (.ifCond .eq 7, 3) := by decide +kernel
theorem dL_link_15 : decode cL_link 15 = .ok (.lconst 1, 1) := by decide +kernel
theorem dL_link_16 : decode cL_link 16 = .ok (.goto 4, 3) := by decide +kernel
theorem dL_link_19 : decode cL_link 19 = .ok (.lconst 0, 1) := by decide +kernel
theorem dL_link_20 : decode cL_link 20 = .ok (.lastore, 1) := by decide +kernel
theorem dL_link_21 : decode cL_link 21 = .ok (.goto 11, 3) := by decide +kernel
theorem dL_link_24 : decode cL_link 24 = .ok (.astore 6, 2) := by decide +kernel
theorem dL_link_26 : decode cL_link 26 = .ok (.iconst 1, 1) := by decide +kernel
theorem dL_link_27 : decode cL_link 27 = .ok (.ireturn, 1) := by decide +kernel
theorem dL_link_28 : decode cL_link 28 = .ok (.astore 6, 2) := by decide +kernel
theorem dL_link_30 : decode cL_link 30 = .ok (.iconst 2, 1) := by decide +kernel
theorem dL_link_31 : decode cL_link 31 = .ok (.ireturn, 1) := by decide +kernel
theorem dL_link_32 : decode cL_link 32 = .ok (.iconst 0, 1) := by decide +kernel
theorem dL_link_33 : decode cL_link 33 = .ok (.ireturn, 1) := by decide +kernel
theorem dL_unlink_0 : decode cL_unlink 0 = .ok (.aload_n 3, 1) := by decide +kernel
theorem dL_unlink_1 : decode cL_unlink 1 = .ok (.iconst 0, 1) := by decide +kernel
theorem dL_unlink_2 : decode cL_unlink 2 = .ok (.aload_n 0, 1) := by decide +kernel
theorem dL_unlink_3 : decode cL_unlink 3 = .ok (.iload_n 1, 1) := by decide +kernel
theorem dL_unlink_4 : decode cL_unlink 4 = .ok (.iload_n 2, 1) := by decide +kernel
theorem dL_unlink_5 : decode cL_unlink 5 = .ok (.invokevirtual 21, 3) := by decide +kernel
theorem dL_unlink_8 : decode cL_unlink 8 = .ok (.i2l, 1) := by decide +kernel
theorem dL_unlink_9 : decode cL_unlink 9 = .ok (.lastore, 1) := by decide +kernel
theorem dL_unlink_10 : decode cL_unlink 10 = .ok (.goto 11, 3) := by decide +kernel
theorem dL_unlink_13 : decode cL_unlink 13 = .ok (.astore 4, 2) := by decide +kernel
theorem dL_unlink_15 : decode cL_unlink 15 = .ok (.iconst 1, 1) := by decide +kernel
theorem dL_unlink_16 : decode cL_unlink 16 = .ok (.ireturn, 1) := by decide +kernel
theorem dL_unlink_17 : decode cL_unlink 17 = .ok (.astore 4, 2) := by decide +kernel
theorem dL_unlink_19 : decode cL_unlink 19 = .ok (.iconst 2, 1) := by decide +kernel
theorem dL_unlink_20 : decode cL_unlink 20 = .ok (.ireturn, 1) := by decide +kernel
theorem dL_unlink_21 : decode cL_unlink 21 = .ok (.iconst 0, 1) := by decide +kernel
theorem dL_unlink_22 : decode cL_unlink 22 = .ok (.ireturn, 1) := by decide +kernel
theorem dL_number_0 : decode cL_number 0 = .ok (.aload 4, 2) := by decide +kernel
theorem dL_number_2 : decode cL_number 2 = .ok (.iconst 0, 1) := by decide +kernel
theorem dL_number_3 : decode cL_number 3 = .ok (.aload_n 0, 1) := by decide +kernel
theorem dL_number_4 : decode cL_number 4 = .ok (.iload_n 1, 1) := by decide +kernel
theorem dL_number_5 : decode cL_number 5 = .ok (.iload_n 2, 1) := by decide +kernel
theorem dL_number_6 : decode cL_number 6 = .ok (.iload_n 3, 1) := by decide +kernel
theorem dL_number_7 : decode cL_number 7 = .ok (.invokevirtual 27, 3) := by decide +kernel
theorem dL_number_10 : decode cL_number 10 = .ok (.i2l, 1) := by decide +kernel
theorem dL_number_11 : decode cL_number 11 = .ok (.lastore, 1) := by decide +kernel
theorem dL_number_12 : decode cL_number 12 = .ok (.goto 15, 3) := by decide +kernel
theorem dL_number_15 : decode cL_number 15 = .ok (.astore 5, 2) := by decide +kernel
theorem dL_number_17 : decode cL_number 17 = .ok (.iconst 1, 1) := by decide +kernel
theorem dL_number_18 : decode cL_number 18 = .ok (.ireturn, 1) := by decide +kernel
theorem dL_number_19 : decode cL_number 19 = .ok (.astore 5, 2) := by decide +kernel
theorem dL_number_21 : decode cL_number 21 = .ok (.iconst 2, 1) := by decide +kernel
theorem dL_number_22 : decode cL_number 22 = .ok (.ireturn, 1) := by decide +kernel
theorem dL_number_23 : decode cL_number 23 = .ok (.astore 5, 2) := by decide +kernel
theorem dL_number_25 : decode cL_number 25 = .ok (.iconst 3, 1) := by decide +kernel
theorem dL_number_26 : decode cL_number 26 = .ok (.ireturn, 1) := by decide +kernel
theorem dL_number_27 : decode cL_number 27 = .ok (.iconst 0, 1) := by decide +kernel
theorem dL_number_28 : decode cL_number 28 = .ok (.ireturn, 1) := by decide +kernel
theorem dL_carryOver_0 : decode cL_carryOver 0 = .ok (.aload_n 3, 1) := by decide +kernel
theorem dL_carryOver_1 : decode cL_carryOver 1 = .ok (.iconst 0, 1) := by decide +kernel
theorem dL_carryOver_2 : decode cL_carryOver 2 = .ok (.aload_n 0, 1) := by decide +kernel
theorem dL_carryOver_3 : decode cL_carryOver 3 = .ok (.iload_n 1, 1) := by decide +kernel
theorem dL_carryOver_4 : decode cL_carryOver 4 = .ok (.iload_n 2, 1) := by decide +kernel
theorem dL_carryOver_5 : decode cL_carryOver 5 = .ok (.invokevirtual 30, 3) := by decide +kernel
theorem dL_carryOver_8 : decode cL_carryOver 8 = .ok (.i2l, 1) := by decide +kernel
theorem dL_carryOver_9 : decode cL_carryOver 9 = .ok (.lastore, 1) := by decide +kernel
theorem dL_carryOver_10 : decode cL_carryOver 10 = .ok (.goto 15, 3) := by decide +kernel
theorem dL_carryOver_13 : decode cL_carryOver 13 = .ok (.astore 4, 2) := by decide +kernel
theorem dL_carryOver_15 : decode cL_carryOver 15 = .ok (.iconst 1, 1) := by decide +kernel
theorem dL_carryOver_16 : decode cL_carryOver 16 = .ok (.ireturn, 1) := by decide +kernel
theorem dL_carryOver_17 : decode cL_carryOver 17 = .ok (.astore 4, 2) := by decide +kernel
theorem dL_carryOver_19 : decode cL_carryOver 19 = .ok (.iconst 2, 1) := by decide +kernel
theorem dL_carryOver_20 : decode cL_carryOver 20 = .ok (.ireturn, 1) := by decide +kernel
theorem dL_carryOver_21 : decode cL_carryOver 21 = .ok (.astore 4, 2) := by decide +kernel
theorem dL_carryOver_23 : decode cL_carryOver 23 = .ok (.iconst 3, 1) := by decide +kernel
theorem dL_carryOver_24 : decode cL_carryOver 24 = .ok (.ireturn, 1) := by decide +kernel
theorem dL_carryOver_25 : decode cL_carryOver 25 = .ok (.iconst 0, 1) := by decide +kernel
theorem dL_carryOver_26 : decode cL_carryOver 26 = .ok (.ireturn, 1) := by decide +kernel
theorem dL_home_0 : decode cL_home 0 = .ok (.aload_n 3, 1) := by decide +kernel
theorem dL_home_1 : decode cL_home 1 = .ok (.iconst 0, 1) := by decide +kernel
theorem dL_home_2 : decode cL_home 2 = .ok (.aload_n 0, 1) := by decide +kernel
theorem dL_home_3 : decode cL_home 3 = .ok (.iload_n 1, 1) := by decide +kernel
theorem dL_home_4 : decode cL_home 4 = .ok (.iload_n 2, 1) := by decide +kernel
theorem dL_home_5 : decode cL_home 5 = .ok (.invokevirtual 33, 3) := by decide +kernel
theorem dL_home_8 : decode cL_home 8 = .ok (.i2l, 1) := by decide +kernel
theorem dL_home_9 : decode cL_home 9 = .ok (.lastore, 1) := by decide +kernel
theorem dL_home_10 : decode cL_home 10 = .ok (.goto 7, 3) := by decide +kernel
theorem dL_home_13 : decode cL_home 13 = .ok (.astore 4, 2) := by decide +kernel
theorem dL_home_15 : decode cL_home 15 = .ok (.iconst 1, 1) := by decide +kernel
theorem dL_home_16 : decode cL_home 16 = .ok (.ireturn, 1) := by decide +kernel
theorem dL_home_17 : decode cL_home 17 = .ok (.iconst 0, 1) := by decide +kernel
theorem dL_home_18 : decode cL_home 18 = .ok (.ireturn, 1) := by decide +kernel
theorem dL_topUp_0 : decode cL_topUp 0 = .ok (.aload 4, 2) := by decide +kernel
theorem dL_topUp_2 : decode cL_topUp 2 = .ok (.iconst 0, 1) := by decide +kernel
theorem dL_topUp_3 : decode cL_topUp 3 = .ok (.aload_n 0, 1) := by decide +kernel
theorem dL_topUp_4 : decode cL_topUp 4 = .ok (.iload_n 1, 1) := by decide +kernel
theorem dL_topUp_5 : decode cL_topUp 5 = .ok (.iload_n 2, 1) := by decide +kernel
theorem dL_topUp_6 : decode cL_topUp 6 = .ok (.iload_n 3, 1) := by decide +kernel
theorem dL_topUp_7 : decode cL_topUp 7 = .ok (.invokevirtual 36, 3) := by decide +kernel
theorem dL_topUp_10 : decode cL_topUp 10 = .ok (.i2l, 1) := by decide +kernel
theorem dL_topUp_11 : decode cL_topUp 11 = .ok (.lastore, 1) := by decide +kernel
theorem dL_topUp_12 : decode cL_topUp 12 = .ok (.goto 15, 3) := by decide +kernel
theorem dL_topUp_15 : decode cL_topUp 15 = .ok (.astore 5, 2) := by decide +kernel
theorem dL_topUp_17 : decode cL_topUp 17 = .ok (.iconst 1, 1) := by decide +kernel
theorem dL_topUp_18 : decode cL_topUp 18 = .ok (.ireturn, 1) := by decide +kernel
theorem dL_topUp_19 : decode cL_topUp 19 = .ok (.astore 5, 2) := by decide +kernel
theorem dL_topUp_21 : decode cL_topUp 21 = .ok (.iconst 2, 1) := by decide +kernel
theorem dL_topUp_22 : decode cL_topUp 22 = .ok (.ireturn, 1) := by decide +kernel
theorem dL_topUp_23 : decode cL_topUp 23 = .ok (.astore 5, 2) := by decide +kernel
theorem dL_topUp_25 : decode cL_topUp 25 = .ok (.iconst 3, 1) := by decide +kernel
theorem dL_topUp_26 : decode cL_topUp 26 = .ok (.ireturn, 1) := by decide +kernel
theorem dL_topUp_27 : decode cL_topUp 27 = .ok (.iconst 0, 1) := by decide +kernel
theorem dL_topUp_28 : decode cL_topUp 28 = .ok (.ireturn, 1) := by decide +kernel
theorem dL_balance_0 : decode cL_balance 0 = .ok (.aload_n 2, 1) := by decide +kernel
theorem dL_balance_1 : decode cL_balance 1 = .ok (.iconst 0, 1) := by decide +kernel
theorem dL_balance_2 : decode cL_balance 2 = .ok (.aload_n 0, 1) := by decide +kernel
theorem dL_balance_3 : decode cL_balance 3 = .ok (.iload_n 1, 1) := by decide +kernel
theorem dL_balance_4 : decode cL_balance 4 = .ok (.invokevirtual 39, 3) := by decide +kernel
theorem dL_balance_7 : decode cL_balance 7 = .ok (.i2l, 1) := by decide +kernel
theorem dL_balance_8 : decode cL_balance 8 = .ok (.lastore, 1) := by decide +kernel
theorem dL_balance_9 : decode cL_balance 9 = .ok (.goto 6, 3) := by decide +kernel
theorem dL_balance_12 : decode cL_balance 12 = .ok (.astore_n 3, 1) := by decide +kernel
theorem dL_balance_13 : decode cL_balance 13 = .ok (.iconst 1, 1) := by decide +kernel
theorem dL_balance_14 : decode cL_balance 14 = .ok (.ireturn, 1) := by decide +kernel
theorem dL_balance_15 : decode cL_balance 15 = .ok (.iconst 0, 1) := by decide +kernel
theorem dL_balance_16 : decode cL_balance 16 = .ok (.ireturn, 1) := by decide +kernel
theorem dL_bundle_0 : decode cL_bundle 0 = .ok (.aload_n 2, 1) := by decide +kernel
theorem dL_bundle_1 : decode cL_bundle 1 = .ok (.iconst 0, 1) := by decide +kernel
theorem dL_bundle_2 : decode cL_bundle 2 = .ok (.aload_n 0, 1) := by decide +kernel
theorem dL_bundle_3 : decode cL_bundle 3 = .ok (.iload_n 1, 1) := by decide +kernel
theorem dL_bundle_4 : decode cL_bundle 4 = .ok (.invokevirtual 43, 3) := by decide +kernel
theorem dL_bundle_7 : decode cL_bundle 7 = .ok (.i2l, 1) := by decide +kernel
theorem dL_bundle_8 : decode cL_bundle 8 = .ok (.lastore, 1) := by decide +kernel
theorem dL_bundle_9 : decode cL_bundle 9 = .ok (.goto 6, 3) := by decide +kernel
theorem dL_bundle_12 : decode cL_bundle 12 = .ok (.astore_n 3, 1) := by decide +kernel
theorem dL_bundle_13 : decode cL_bundle 13 = .ok (.iconst 1, 1) := by decide +kernel
theorem dL_bundle_14 : decode cL_bundle 14 = .ok (.ireturn, 1) := by decide +kernel
theorem dL_bundle_15 : decode cL_bundle 15 = .ok (.iconst 0, 1) := by decide +kernel
theorem dL_bundle_16 : decode cL_bundle 16 = .ok (.ireturn, 1) := by decide +kernel
theorem dL_call_0 : decode cL_call 0 = .ok (.aload_n 3, 1) := by decide +kernel
theorem dL_call_1 : decode cL_call 1 = .ok (.iconst 0, 1) := by decide +kernel
theorem dL_call_2 : decode cL_call 2 = .ok (.aload_n 0, 1) := by decide +kernel
theorem dL_call_3 : decode cL_call 3 = .ok (.iload_n 1, 1) := by decide +kernel
theorem dL_call_4 : decode cL_call 4 = .ok (.iload_n 2, 1) := by decide +kernel
theorem dL_call_5 : decode cL_call 5 = .ok (.invokevirtual 46, 3) := by decide +kernel
theorem dL_call_8 : decode cL_call 8 = .ok (.i2l, 1) := by decide +kernel
theorem dL_call_9 : decode cL_call 9 = .ok (.lastore, 1) := by decide +kernel
theorem dL_call_10 : decode cL_call 10 = .ok (.goto 15, 3) := by decide +kernel
theorem dL_call_13 : decode cL_call 13 = .ok (.astore 4, 2) := by decide +kernel
theorem dL_call_15 : decode cL_call 15 = .ok (.iconst 1, 1) := by decide +kernel
theorem dL_call_16 : decode cL_call 16 = .ok (.ireturn, 1) := by decide +kernel
theorem dL_call_17 : decode cL_call 17 = .ok (.astore 4, 2) := by decide +kernel
theorem dL_call_19 : decode cL_call 19 = .ok (.iconst 2, 1) := by decide +kernel
theorem dL_call_20 : decode cL_call 20 = .ok (.ireturn, 1) := by decide +kernel
theorem dL_call_21 : decode cL_call 21 = .ok (.astore 4, 2) := by decide +kernel
theorem dL_call_23 : decode cL_call 23 = .ok (.iconst 3, 1) := by decide +kernel
theorem dL_call_24 : decode cL_call 24 = .ok (.ireturn, 1) := by decide +kernel
theorem dL_call_25 : decode cL_call 25 = .ok (.iconst 0, 1) := by decide +kernel
theorem dL_call_26 : decode cL_call 26 = .ok (.ireturn, 1) := by decide +kernel
theorem dL_hangUp_0 : decode cL_hangUp 0 = .ok (.aload_n 2, 1) := by decide +kernel
theorem dL_hangUp_1 : decode cL_hangUp 1 = .ok (.iconst 0, 1) := by decide +kernel
theorem dL_hangUp_2 : decode cL_hangUp 2 = .ok (.aload_n 0, 1) := by decide +kernel
theorem dL_hangUp_3 : decode cL_hangUp 3 = .ok (.iload_n 1, 1) := by decide +kernel
theorem dL_hangUp_4 : decode cL_hangUp 4 = .ok (.invokevirtual 49, 3) := by decide +kernel
theorem dL_hangUp_7 : decode cL_hangUp 7 = .ok (.i2l, 1) := by decide +kernel
theorem dL_hangUp_8 : decode cL_hangUp 8 = .ok (.lastore, 1) := by decide +kernel
theorem dL_hangUp_9 : decode cL_hangUp 9 = .ok (.goto 9, 3) := by decide +kernel
theorem dL_hangUp_12 : decode cL_hangUp 12 = .ok (.astore_n 3, 1) := by decide +kernel
theorem dL_hangUp_13 : decode cL_hangUp 13 = .ok (.iconst 1, 1) := by decide +kernel
theorem dL_hangUp_14 : decode cL_hangUp 14 = .ok (.ireturn, 1) := by decide +kernel
theorem dL_hangUp_15 : decode cL_hangUp 15 = .ok (.astore_n 3, 1) := by decide +kernel
theorem dL_hangUp_16 : decode cL_hangUp 16 = .ok (.iconst 2, 1) := by decide +kernel
theorem dL_hangUp_17 : decode cL_hangUp 17 = .ok (.ireturn, 1) := by decide +kernel
theorem dL_hangUp_18 : decode cL_hangUp 18 = .ok (.iconst 0, 1) := by decide +kernel
theorem dL_hangUp_19 : decode cL_hangUp 19 = .ok (.ireturn, 1) := by decide +kernel
theorem dL_pass_0 : decode cL_pass 0 = .ok (.aload_n 2, 1) := by decide +kernel
theorem dL_pass_1 : decode cL_pass 1 = .ok (.iconst 0, 1) := by decide +kernel
theorem dL_pass_2 : decode cL_pass 2 = .ok (.aload_n 0, 1) := by decide +kernel
theorem dL_pass_3 : decode cL_pass 3 = .ok (.iload_n 1, 1) := by decide +kernel
theorem dL_pass_4 : decode cL_pass 4 = .ok (.invokevirtual 52, 3) := by decide +kernel
theorem dL_pass_7 : decode cL_pass 7 = .ok (.i2l, 1) := by decide +kernel
theorem dL_pass_8 : decode cL_pass 8 = .ok (.lastore, 1) := by decide +kernel
theorem dL_pass_9 : decode cL_pass 9 = .ok (.goto 6, 3) := by decide +kernel
theorem dL_pass_12 : decode cL_pass 12 = .ok (.astore_n 3, 1) := by decide +kernel
theorem dL_pass_13 : decode cL_pass 13 = .ok (.iconst 1, 1) := by decide +kernel
theorem dL_pass_14 : decode cL_pass 14 = .ok (.ireturn, 1) := by decide +kernel
theorem dL_pass_15 : decode cL_pass 15 = .ok (.iconst 0, 1) := by decide +kernel
theorem dL_pass_16 : decode cL_pass 16 = .ok (.ireturn, 1) := by decide +kernel
theorem dL_state_0 : decode cL_state 0 = .ok (.aload_n 2, 1) := by decide +kernel
theorem dL_state_1 : decode cL_state 1 = .ok (.iconst 0, 1) := by decide +kernel
theorem dL_state_2 : decode cL_state 2 = .ok (.aload_n 0, 1) := by decide +kernel
theorem dL_state_3 : decode cL_state 3 = .ok (.iload_n 1, 1) := by decide +kernel
theorem dL_state_4 : decode cL_state 4 = .ok (.invokevirtual 55, 3) := by decide +kernel
theorem dL_state_7 : decode cL_state 7 = .ok (.i2l, 1) := by decide +kernel
theorem dL_state_8 : decode cL_state 8 = .ok (.lastore, 1) := by decide +kernel
theorem dL_state_9 : decode cL_state 9 = .ok (.goto 6, 3) := by decide +kernel
theorem dL_state_12 : decode cL_state 12 = .ok (.astore_n 3, 1) := by decide +kernel
theorem dL_state_13 : decode cL_state 13 = .ok (.iconst 1, 1) := by decide +kernel
theorem dL_state_14 : decode cL_state 14 = .ok (.ireturn, 1) := by decide +kernel
theorem dL_state_15 : decode cL_state 15 = .ok (.iconst 0, 1) := by decide +kernel
theorem dL_state_16 : decode cL_state 16 = .ok (.ireturn, 1) := by decide +kernel
theorem dL_minutes_0 : decode cL_minutes 0 = .ok (.aload_n 2, 1) := by decide +kernel
theorem dL_minutes_1 : decode cL_minutes 1 = .ok (.iconst 0, 1) := by decide +kernel
theorem dL_minutes_2 : decode cL_minutes 2 = .ok (.aload_n 0, 1) := by decide +kernel
theorem dL_minutes_3 : decode cL_minutes 3 = .ok (.iload_n 1, 1) := by decide +kernel
theorem dL_minutes_4 : decode cL_minutes 4 = .ok (.invokevirtual 58, 3) := by decide +kernel
theorem dL_minutes_7 : decode cL_minutes 7 = .ok (.i2l, 1) := by decide +kernel
theorem dL_minutes_8 : decode cL_minutes 8 = .ok (.lastore, 1) := by decide +kernel
theorem dL_minutes_9 : decode cL_minutes 9 = .ok (.goto 6, 3) := by decide +kernel
theorem dL_minutes_12 : decode cL_minutes 12 = .ok (.astore_n 3, 1) := by decide +kernel
theorem dL_minutes_13 : decode cL_minutes 13 = .ok (.iconst 1, 1) := by decide +kernel
theorem dL_minutes_14 : decode cL_minutes 14 = .ok (.ireturn, 1) := by decide +kernel
theorem dL_minutes_15 : decode cL_minutes 15 = .ok (.iconst 0, 1) := by decide +kernel
theorem dL_minutes_16 : decode cL_minutes 16 = .ok (.ireturn, 1) := by decide +kernel
theorem dL_moved_0 : decode cL_moved 0 = .ok (.aload_n 2, 1) := by decide +kernel
theorem dL_moved_1 : decode cL_moved 1 = .ok (.iconst 0, 1) := by decide +kernel
theorem dL_moved_2 : decode cL_moved 2 = .ok (.aload_n 0, 1) := by decide +kernel
theorem dL_moved_3 : decode cL_moved 3 = .ok (.iload_n 1, 1) := by decide +kernel
theorem dL_moved_4 : decode cL_moved 4 = .ok (.invokevirtual 61, 3) := by decide +kernel
theorem dL_moved_7 : decode cL_moved 7 = .ok (.i2l, 1) := by decide +kernel
theorem dL_moved_8 : decode cL_moved 8 = .ok (.lastore, 1) := by decide +kernel
theorem dL_moved_9 : decode cL_moved 9 = .ok (.goto 6, 3) := by decide +kernel
theorem dL_moved_12 : decode cL_moved 12 = .ok (.astore_n 3, 1) := by decide +kernel
theorem dL_moved_13 : decode cL_moved 13 = .ok (.iconst 1, 1) := by decide +kernel
theorem dL_moved_14 : decode cL_moved 14 = .ok (.ireturn, 1) := by decide +kernel
theorem dL_moved_15 : decode cL_moved 15 = .ok (.iconst 0, 1) := by decide +kernel
theorem dL_moved_16 : decode cL_moved 16 = .ok (.ireturn, 1) := by decide +kernel
theorem dL_way_0 : decode cL_way 0 = .ok (.aload_n 3, 1) := by decide +kernel
theorem dL_way_1 : decode cL_way 1 = .ok (.iconst 0, 1) := by decide +kernel
theorem dL_way_2 : decode cL_way 2 = .ok (.aload_n 0, 1) := by decide +kernel
theorem dL_way_3 : decode cL_way 3 = .ok (.iload_n 1, 1) := by decide +kernel
theorem dL_way_4 : decode cL_way 4 = .ok (.iload_n 2, 1) := by decide +kernel
theorem dL_way_5 : decode cL_way 5 = .ok (.invokevirtual 64, 3) := by decide +kernel
theorem dL_way_8 : decode cL_way 8 = .ok (.i2l, 1) := by decide +kernel
theorem dL_way_9 : decode cL_way 9 = .ok (.lastore, 1) := by decide +kernel
theorem dL_way_10 : decode cL_way 10 = .ok (.goto 7, 3) := by decide +kernel
theorem dL_way_13 : decode cL_way 13 = .ok (.astore 4, 2) := by decide +kernel
theorem dL_way_15 : decode cL_way 15 = .ok (.iconst 1, 1) := by decide +kernel
theorem dL_way_16 : decode cL_way 16 = .ok (.ireturn, 1) := by decide +kernel
theorem dL_way_17 : decode cL_way 17 = .ok (.iconst 0, 1) := by decide +kernel
theorem dL_way_18 : decode cL_way 18 = .ok (.ireturn, 1) := by decide +kernel
theorem dL_cost_0 : decode cL_cost 0 = .ok (.aload_n 3, 1) := by decide +kernel
theorem dL_cost_1 : decode cL_cost 1 = .ok (.iconst 0, 1) := by decide +kernel
theorem dL_cost_2 : decode cL_cost 2 = .ok (.aload_n 0, 1) := by decide +kernel
theorem dL_cost_3 : decode cL_cost 3 = .ok (.iload_n 1, 1) := by decide +kernel
theorem dL_cost_4 : decode cL_cost 4 = .ok (.iload_n 2, 1) := by decide +kernel
theorem dL_cost_5 : decode cL_cost 5 = .ok (.invokevirtual 67, 3) := by decide +kernel
theorem dL_cost_8 : decode cL_cost 8 = .ok (.i2l, 1) := by decide +kernel
theorem dL_cost_9 : decode cL_cost 9 = .ok (.lastore, 1) := by decide +kernel
theorem dL_cost_10 : decode cL_cost 10 = .ok (.goto 7, 3) := by decide +kernel
theorem dL_cost_13 : decode cL_cost 13 = .ok (.astore 4, 2) := by decide +kernel
theorem dL_cost_15 : decode cL_cost 15 = .ok (.iconst 1, 1) := by decide +kernel
theorem dL_cost_16 : decode cL_cost 16 = .ok (.ireturn, 1) := by decide +kernel
theorem dL_cost_17 : decode cL_cost 17 = .ok (.iconst 0, 1) := by decide +kernel
theorem dL_cost_18 : decode cL_cost 18 = .ok (.ireturn, 1) := by decide +kernel
theorem dL_best_0 : decode cL_best 0 = .ok (.aload 4, 2) := by decide +kernel
theorem dL_best_2 : decode cL_best 2 = .ok (.iconst 0, 1) := by decide +kernel
theorem dL_best_3 : decode cL_best 3 = .ok (.aload_n 0, 1) := by decide +kernel
theorem dL_best_4 : decode cL_best 4 = .ok (.iload_n 1, 1) := by decide +kernel
theorem dL_best_5 : decode cL_best 5 = .ok (.iload_n 2, 1) := by decide +kernel
theorem dL_best_6 : decode cL_best 6 = .ok (.iload_n 3, 1) := by decide +kernel
theorem dL_best_7 : decode cL_best 7 = .ok (.invokevirtual 70, 3) := by decide +kernel
theorem dL_best_10 : decode cL_best 10 = .ok (.i2l, 1) := by decide +kernel
theorem dL_best_11 : decode cL_best 11 = .ok (.lastore, 1) := by decide +kernel
theorem dL_best_12 : decode cL_best 12 = .ok (.goto 7, 3) := by decide +kernel
theorem dL_best_15 : decode cL_best 15 = .ok (.astore 5, 2) := by decide +kernel
theorem dL_best_17 : decode cL_best 17 = .ok (.iconst 1, 1) := by decide +kernel
theorem dL_best_18 : decode cL_best 18 = .ok (.ireturn, 1) := by decide +kernel
theorem dL_best_19 : decode cL_best 19 = .ok (.iconst 0, 1) := by decide +kernel
theorem dL_best_20 : decode cL_best 20 = .ok (.ireturn, 1) := by decide +kernel
theorem dL_isBarred_0 : decode cL_isBarred 0 = .ok (.aload_n 3, 1) := by decide +kernel
theorem dL_isBarred_1 : decode cL_isBarred 1 = .ok (.iconst 0, 1) := by decide +kernel
theorem dL_isBarred_2 : decode cL_isBarred 2 = .ok (.aload_n 0, 1) := by decide +kernel
theorem dL_isBarred_3 : decode cL_isBarred 3 = .ok (.iload_n 1, 1) := by decide +kernel
theorem dL_isBarred_4 : decode cL_isBarred 4 = .ok (.iload_n 2, 1) := by decide +kernel
theorem dL_isBarred_5 : decode cL_isBarred 5 = .ok (.invokevirtual 73, 3) := by decide +kernel
theorem dL_isBarred_8 : decode cL_isBarred 8 = .ok (.ifCond .eq 7, 3) := by decide +kernel
theorem dL_isBarred_11 : decode cL_isBarred 11 = .ok (.lconst 1, 1) := by decide +kernel
theorem dL_isBarred_12 : decode cL_isBarred 12 = .ok (.goto 4, 3) := by decide +kernel
theorem dL_isBarred_15 : decode cL_isBarred 15 = .ok (.lconst 0, 1) := by decide +kernel
theorem dL_isBarred_16 : decode cL_isBarred 16 = .ok (.lastore, 1) := by decide +kernel
theorem dL_isBarred_17 : decode cL_isBarred 17 = .ok (.goto 7, 3) := by decide +kernel
theorem dL_isBarred_20 : decode cL_isBarred 20 = .ok (.astore 4, 2) := by decide +kernel
theorem dL_isBarred_22 : decode cL_isBarred 22 = .ok (.iconst 1, 1) := by decide +kernel
theorem dL_isBarred_23 : decode cL_isBarred 23 = .ok (.ireturn, 1) := by decide +kernel
theorem dL_isBarred_24 : decode cL_isBarred 24 = .ok (.iconst 0, 1) := by decide +kernel
theorem dL_isBarred_25 : decode cL_isBarred 25 = .ok (.ireturn, 1) := by decide +kernel
theorem dL_debt_0 : decode cL_debt 0 = .ok (.aload_n 3, 1) := by decide +kernel
theorem dL_debt_1 : decode cL_debt 1 = .ok (.iconst 0, 1) := by decide +kernel
theorem dL_debt_2 : decode cL_debt 2 = .ok (.aload_n 0, 1) := by decide +kernel
theorem dL_debt_3 : decode cL_debt 3 = .ok (.iload_n 1, 1) := by decide +kernel
theorem dL_debt_4 : decode cL_debt 4 = .ok (.iload_n 2, 1) := by decide +kernel
theorem dL_debt_5 : decode cL_debt 5 = .ok (.invokevirtual 77, 3) := by decide +kernel
theorem dL_debt_8 : decode cL_debt 8 = .ok (.lastore, 1) := by decide +kernel
theorem dL_debt_9 : decode cL_debt 9 = .ok (.goto 7, 3) := by decide +kernel
theorem dL_debt_12 : decode cL_debt 12 = .ok (.astore 4, 2) := by decide +kernel
theorem dL_debt_14 : decode cL_debt 14 = .ok (.iconst 1, 1) := by decide +kernel
theorem dL_debt_15 : decode cL_debt 15 = .ok (.ireturn, 1) := by decide +kernel
theorem dL_debt_16 : decode cL_debt 16 = .ok (.iconst 0, 1) := by decide +kernel
theorem dL_debt_17 : decode cL_debt 17 = .ok (.ireturn, 1) := by decide +kernel
theorem dL_charged_0 : decode cL_charged 0 = .ok (.aload_n 3, 1) := by decide +kernel
theorem dL_charged_1 : decode cL_charged 1 = .ok (.iconst 0, 1) := by decide +kernel
theorem dL_charged_2 : decode cL_charged 2 = .ok (.aload_n 0, 1) := by decide +kernel
theorem dL_charged_3 : decode cL_charged 3 = .ok (.iload_n 1, 1) := by decide +kernel
theorem dL_charged_4 : decode cL_charged 4 = .ok (.iload_n 2, 1) := by decide +kernel
theorem dL_charged_5 : decode cL_charged 5 = .ok (.invokevirtual 81, 3) := by decide +kernel
theorem dL_charged_8 : decode cL_charged 8 = .ok (.lastore, 1) := by decide +kernel
theorem dL_charged_9 : decode cL_charged 9 = .ok (.goto 7, 3) := by decide +kernel
theorem dL_charged_12 : decode cL_charged 12 = .ok (.astore 4, 2) := by decide +kernel
theorem dL_charged_14 : decode cL_charged 14 = .ok (.iconst 1, 1) := by decide +kernel
theorem dL_charged_15 : decode cL_charged 15 = .ok (.ireturn, 1) := by decide +kernel
theorem dL_charged_16 : decode cL_charged 16 = .ok (.iconst 0, 1) := by decide +kernel
theorem dL_charged_17 : decode cL_charged 17 = .ok (.ireturn, 1) := by decide +kernel
theorem dL_position_0 : decode cL_position 0 = .ok (.aload_n 2, 1) := by decide +kernel
theorem dL_position_1 : decode cL_position 1 = .ok (.iconst 0, 1) := by decide +kernel
theorem dL_position_2 : decode cL_position 2 = .ok (.aload_n 0, 1) := by decide +kernel
theorem dL_position_3 : decode cL_position 3 = .ok (.iload_n 1, 1) := by decide +kernel
theorem dL_position_4 : decode cL_position 4 = .ok (.invokevirtual 84, 3) := by decide +kernel
theorem dL_position_7 : decode cL_position 7 = .ok (.lastore, 1) := by decide +kernel
theorem dL_position_8 : decode cL_position 8 = .ok (.goto 6, 3) := by decide +kernel
theorem dL_position_11 : decode cL_position 11 = .ok (.astore_n 3, 1) := by decide +kernel
theorem dL_position_12 : decode cL_position 12 = .ok (.iconst 1, 1) := by decide +kernel
theorem dL_position_13 : decode cL_position 13 = .ok (.ireturn, 1) := by decide +kernel
theorem dL_position_14 : decode cL_position 14 = .ok (.iconst 0, 1) := by decide +kernel
theorem dL_position_15 : decode cL_position 15 = .ok (.ireturn, 1) := by decide +kernel
theorem dL_settle_0 : decode cL_settle 0 = .ok (.aload_n 3, 1) := by decide +kernel
theorem dL_settle_1 : decode cL_settle 1 = .ok (.iconst 0, 1) := by decide +kernel
theorem dL_settle_2 : decode cL_settle 2 = .ok (.aload_n 0, 1) := by decide +kernel
theorem dL_settle_3 : decode cL_settle 3 = .ok (.iload_n 1, 1) := by decide +kernel
theorem dL_settle_4 : decode cL_settle 4 = .ok (.iload_n 2, 1) := by decide +kernel
theorem dL_settle_5 : decode cL_settle 5 = .ok (.invokevirtual 88, 3) := by decide +kernel
theorem dL_settle_8 : decode cL_settle 8 = .ok (.lastore, 1) := by decide +kernel
theorem dL_settle_9 : decode cL_settle 9 = .ok (.goto 11, 3) := by decide +kernel
theorem dL_settle_12 : decode cL_settle 12 = .ok (.astore 4, 2) := by decide +kernel
theorem dL_settle_14 : decode cL_settle 14 = .ok (.iconst 1, 1) := by decide +kernel
theorem dL_settle_15 : decode cL_settle 15 = .ok (.ireturn, 1) := by decide +kernel
theorem dL_settle_16 : decode cL_settle 16 = .ok (.astore 4, 2) := by decide +kernel
theorem dL_settle_18 : decode cL_settle 18 = .ok (.iconst 2, 1) := by decide +kernel
theorem dL_settle_19 : decode cL_settle 19 = .ok (.ireturn, 1) := by decide +kernel
theorem dL_settle_20 : decode cL_settle 20 = .ok (.iconst 0, 1) := by decide +kernel
theorem dL_settle_21 : decode cL_settle 21 = .ok (.ireturn, 1) := by decide +kernel
theorem dL_law_0 : decode cL_law 0 = .ok (.new 8, 3) := by decide +kernel
theorem dL_law_3 : decode cL_law 3 = .ok (.dup, 1) := by decide +kernel
theorem dL_law_4 : decode cL_law 4 = .ok (.invokespecial 91, 3) := by decide +kernel
theorem dL_law_7 : decode cL_law 7 = .ok (.astore_n 1, 1) := by decide +kernel
theorem dL_law_8 : decode cL_law 8 = .ok (.new 92, 3) := by decide +kernel
theorem dL_law_11 : decode cL_law 11 = .ok (.dup, 1) := by decide +kernel
theorem dL_law_12 : decode cL_law 12 = .ok (.invokespecial 94, 3) := by decide +kernel
theorem dL_law_15 : decode cL_law 15 = .ok (.astore_n 2, 1) := by decide +kernel
theorem dL_law_16 : decode cL_law 16 = .ok (.iconst 1, 1) := by decide +kernel
theorem dL_law_17 : decode cL_law 17 = .ok (.newarray .long, 2) := by decide +kernel
theorem dL_law_19 : decode cL_law 19 = .ok (.astore_n 3, 1) := by decide +kernel
theorem dL_law_20 : decode cL_law 20 = .ok (.iconst 0, 1) := by decide +kernel
theorem dL_law_21 : decode cL_law 21 = .ok (.istore 4, 2) := by decide +kernel
theorem dL_law_23 : decode cL_law 23 = .ok (.iload 4, 2) := by decide +kernel
theorem dL_law_25 : decode cL_law 25 = .ok (.aload_n 0, 1) := by decide +kernel
theorem dL_law_26 : decode cL_law 26 = .ok (.arraylength, 1) := by decide +kernel
theorem dL_law_27 : decode cL_law 27 = .ok (.iconst 5, 1) := by decide +kernel
theorem dL_law_28 : decode cL_law 28 = .ok (.isub, 1) := by decide +kernel
theorem dL_law_29 : decode cL_law 29 = .ok (.if_icmp .gt 1671, 3) := by decide +kernel
theorem dL_law_32 : decode cL_law 32 = .ok (.aload_n 0, 1) := by decide +kernel
theorem dL_law_33 : decode cL_law 33 = .ok (.iload 4, 2) := by decide +kernel
theorem dL_law_35 : decode cL_law 35 = .ok (.iaload, 1) := by decide +kernel
theorem dL_law_36 : decode cL_law 36 = .ok (.bipush 31, 2) := by decide +kernel
theorem dL_law_38 : decode cL_law 38 = .ok (.iand, 1) := by decide +kernel
theorem dL_law_39 : decode cL_law 39 = .ok (.tableswitch 1655 0 22 #[105, 185, 284, 352, 432, 500, 568, 648, 704, 760, 828, 884, 940, 996, 1052, 1108, 1176, 1244, 1324, 1399, 1466, 1533, 1588], 105) := by decide +kernel
theorem dL_law_144 : decode cL_law 144 = .ok (.aload_n 1, 1) := by decide +kernel
theorem dL_law_145 : decode cL_law 145 = .ok (.aload_n 0, 1) := by decide +kernel
theorem dL_law_146 : decode cL_law 146 = .ok (.iload 4, 2) := by decide +kernel
theorem dL_law_148 : decode cL_law 148 = .ok (.iconst 1, 1) := by decide +kernel
theorem dL_law_149 : decode cL_law 149 = .ok (.iadd, 1) := by decide +kernel
theorem dL_law_150 : decode cL_law 150 = .ok (.iaload, 1) := by decide +kernel
theorem dL_law_151 : decode cL_law 151 = .ok (.aload_n 0, 1) := by decide +kernel
theorem dL_law_152 : decode cL_law 152 = .ok (.iload 4, 2) := by decide +kernel
theorem dL_law_154 : decode cL_law 154 = .ok (.iconst 2, 1) := by decide +kernel
theorem dL_law_155 : decode cL_law 155 = .ok (.iadd, 1) := by decide +kernel
theorem dL_law_156 : decode cL_law 156 = .ok (.iaload, 1) := by decide +kernel
theorem dL_law_157 : decode cL_law 157 = .ok (.aload_n 0, 1) := by decide +kernel
theorem dL_law_158 : decode cL_law 158 = .ok (.iload 4, 2) := by decide +kernel
theorem dL_law_160 : decode cL_law 160 = .ok (.iconst 3, 1) := by decide +kernel
theorem dL_law_161 : decode cL_law 161 = .ok (.iadd, 1) := by decide +kernel
theorem dL_law_162 : decode cL_law 162 = .ok (.iaload, 1) := by decide +kernel
theorem dL_law_163 : decode cL_law 163 = .ok (.aload_n 3, 1) := by decide +kernel
theorem dL_law_164 : decode cL_law 164 = .ok (.invokestatic 95, 3) := by decide +kernel
theorem dL_law_167 : decode cL_law 167 = .ok (.istore 5, 2) := by decide +kernel
theorem dL_law_169 : decode cL_law 169 = .ok (.aload_n 2, 1) := by decide +kernel
theorem dL_law_170 : decode cL_law 170 = .ok (.aload_n 0, 1) := by decide +kernel
theorem dL_law_171 : decode cL_law 171 = .ok (.iload 4, 2) := by decide +kernel
theorem dL_law_173 : decode cL_law 173 = .ok (.iconst 1, 1) := by decide +kernel
theorem dL_law_174 : decode cL_law 174 = .ok (.iadd, 1) := by decide +kernel
theorem dL_law_175 : decode cL_law 175 = .ok (.iaload, 1) := by decide +kernel
theorem dL_law_176 : decode cL_law 176 = .ok (.aload_n 0, 1) := by decide +kernel
theorem dL_law_177 : decode cL_law 177 = .ok (.iload 4, 2) := by decide +kernel
theorem dL_law_179 : decode cL_law 179 = .ok (.iconst 2, 1) := by decide +kernel
theorem dL_law_180 : decode cL_law 180 = .ok (.iadd, 1) := by decide +kernel
theorem dL_law_181 : decode cL_law 181 = .ok (.iaload, 1) := by decide +kernel
theorem dL_law_182 : decode cL_law 182 = .ok (.aload_n 0, 1) := by decide +kernel
theorem dL_law_183 : decode cL_law 183 = .ok (.iload 4, 2) := by decide +kernel
theorem dL_law_185 : decode cL_law 185 = .ok (.iconst 3, 1) := by decide +kernel
theorem dL_law_186 : decode cL_law 186 = .ok (.iadd, 1) := by decide +kernel
theorem dL_law_187 : decode cL_law 187 = .ok (.iaload, 1) := by decide +kernel
theorem dL_law_188 : decode cL_law 188 = .ok (.invokevirtual 100, 3) := by decide +kernel
theorem dL_law_191 : decode cL_law 191 = .ok (.istore 6, 2) := by decide +kernel
theorem dL_law_193 : decode cL_law 193 = .ok (.aload_n 2, 1) := by decide +kernel
theorem dL_law_194 : decode cL_law 194 = .ok (.invokevirtual 101, 3) := by decide +kernel
theorem dL_law_197 : decode cL_law 197 = .ok (.iload 5, 2) := by decide +kernel
theorem dL_law_199 : decode cL_law 199 = .ok (.if_icmp .eq 5, 3) := by decide +kernel
theorem dL_law_202 : decode cL_law 202 = .ok (.iconst 0, 1) := by decide +kernel
theorem dL_law_203 : decode cL_law 203 = .ok (.ireturn, 1) := by decide +kernel
theorem dL_law_204 : decode cL_law 204 = .ok (.iload 5, 2) := by decide +kernel
theorem dL_law_206 : decode cL_law 206 = .ok (.ifCond .ne 15, 3) := by decide +kernel
theorem dL_law_209 : decode cL_law 209 = .ok (.aload_n 3, 1) := by decide +kernel
theorem dL_law_210 : decode cL_law 210 = .ok (.iconst 0, 1) := by decide +kernel
theorem dL_law_211 : decode cL_law 211 = .ok (.laload, 1) := by decide +kernel
theorem dL_law_212 : decode cL_law 212 = .ok (.iload 6, 2) := by decide +kernel
theorem dL_law_214 : decode cL_law 214 = .ok (.i2l, 1) := by decide +kernel
theorem dL_law_215 : decode cL_law 215 = .ok (.lcmp, 1) := by decide +kernel
theorem dL_law_216 : decode cL_law 216 = .ok (.ifCond .eq 5, 3) := by decide +kernel
theorem dL_law_219 : decode cL_law 219 = .ok (.iconst 0, 1) := by decide +kernel
theorem dL_law_220 : decode cL_law 220 = .ok (.ireturn, 1) := by decide +kernel
theorem dL_law_221 : decode cL_law 221 = .ok (.goto 1473, 3) := by decide +kernel
theorem dL_law_224 : decode cL_law 224 = .ok (.aload_n 1, 1) := by decide +kernel
theorem dL_law_225 : decode cL_law 225 = .ok (.aload_n 0, 1) := by decide +kernel
theorem dL_law_226 : decode cL_law 226 = .ok (.iload 4, 2) := by decide +kernel
theorem dL_law_228 : decode cL_law 228 = .ok (.iconst 1, 1) := by decide +kernel
theorem dL_law_229 : decode cL_law 229 = .ok (.iadd, 1) := by decide +kernel
theorem dL_law_230 : decode cL_law 230 = .ok (.iaload, 1) := by decide +kernel
theorem dL_law_231 : decode cL_law 231 = .ok (.aload_n 0, 1) := by decide +kernel
theorem dL_law_232 : decode cL_law 232 = .ok (.iload 4, 2) := by decide +kernel
theorem dL_law_234 : decode cL_law 234 = .ok (.iconst 2, 1) := by decide +kernel
theorem dL_law_235 : decode cL_law 235 = .ok (.iadd, 1) := by decide +kernel
theorem dL_law_236 : decode cL_law 236 = .ok (.iaload, 1) := by decide +kernel
theorem dL_law_237 : decode cL_law 237 = .ok (.aload_n 0, 1) := by decide +kernel
theorem dL_law_238 : decode cL_law 238 = .ok (.iload 4, 2) := by decide +kernel
theorem dL_law_240 : decode cL_law 240 = .ok (.iconst 3, 1) := by decide +kernel
theorem dL_law_241 : decode cL_law 241 = .ok (.iadd, 1) := by decide +kernel
theorem dL_law_242 : decode cL_law 242 = .ok (.iaload, 1) := by decide +kernel
theorem dL_law_243 : decode cL_law 243 = .ok (.aload_n 0, 1) := by decide +kernel
theorem dL_law_244 : decode cL_law 244 = .ok (.iload 4, 2) := by decide +kernel
theorem dL_law_246 : decode cL_law 246 = .ok (.iconst 4, 1) := by decide +kernel
theorem dL_law_247 : decode cL_law 247 = .ok (.iadd, 1) := by decide +kernel
theorem dL_law_248 : decode cL_law 248 = .ok (.iaload, 1) := by decide +kernel
theorem dL_law_249 : decode cL_law 249 = .ok (.aload_n 3, 1) := by decide +kernel
theorem dL_law_250 : decode cL_law 250 = .ok (.invokestatic 105, 3) := by decide +kernel
theorem dL_law_253 : decode cL_law 253 = .ok (.istore 5, 2) := by decide +kernel
theorem dL_law_255 : decode cL_law 255 = .ok (.aload_n 2, 1) := by decide +kernel
theorem dL_law_256 : decode cL_law 256 = .ok (.aload_n 0, 1) := by decide +kernel
theorem dL_law_257 : decode cL_law 257 = .ok (.iload 4, 2) := by decide +kernel
theorem dL_law_259 : decode cL_law 259 = .ok (.iconst 1, 1) := by decide +kernel
theorem dL_law_260 : decode cL_law 260 = .ok (.iadd, 1) := by decide +kernel
theorem dL_law_261 : decode cL_law 261 = .ok (.iaload, 1) := by decide +kernel
theorem dL_law_262 : decode cL_law 262 = .ok (.aload_n 0, 1) := by decide +kernel
theorem dL_law_263 : decode cL_law 263 = .ok (.iload 4, 2) := by decide +kernel
theorem dL_law_265 : decode cL_law 265 = .ok (.iconst 2, 1) := by decide +kernel
theorem dL_law_266 : decode cL_law 266 = .ok (.iadd, 1) := by decide +kernel
theorem dL_law_267 : decode cL_law 267 = .ok (.iaload, 1) := by decide +kernel
theorem dL_law_268 : decode cL_law 268 = .ok (.aload_n 0, 1) := by decide +kernel
theorem dL_law_269 : decode cL_law 269 = .ok (.iload 4, 2) := by decide +kernel
theorem dL_law_271 : decode cL_law 271 = .ok (.iconst 3, 1) := by decide +kernel
theorem dL_law_272 : decode cL_law 272 = .ok (.iadd, 1) := by decide +kernel
theorem dL_law_273 : decode cL_law 273 = .ok (.iaload, 1) := by decide +kernel
theorem dL_law_274 : decode cL_law 274 = .ok (.aload_n 0, 1) := by decide +kernel
theorem dL_law_275 : decode cL_law 275 = .ok (.iload 4, 2) := by decide +kernel
theorem dL_law_277 : decode cL_law 277 = .ok (.iconst 4, 1) := by decide +kernel
theorem dL_law_278 : decode cL_law 278 = .ok (.iadd, 1) := by decide +kernel
theorem dL_law_279 : decode cL_law 279 = .ok (.iaload, 1) := by decide +kernel
theorem dL_law_280 : decode cL_law 280 = .ok (.invokevirtual 108, 3) := by decide +kernel
theorem dL_law_283 : decode cL_law 283 = .ok (.istore 6, 2) := by decide +kernel
theorem dL_law_285 : decode cL_law 285 = .ok (.aload_n 2, 1) := by decide +kernel
theorem dL_law_286 : decode cL_law 286 = .ok (.invokevirtual 101, 3) := by decide +kernel
theorem dL_law_289 : decode cL_law 289 = .ok (.iload 5, 2) := by decide +kernel
theorem dL_law_291 : decode cL_law 291 = .ok (.if_icmp .eq 5, 3) := by decide +kernel
theorem dL_law_294 : decode cL_law 294 = .ok (.iconst 0, 1) := by decide +kernel
theorem dL_law_295 : decode cL_law 295 = .ok (.ireturn, 1) := by decide +kernel
theorem dL_law_296 : decode cL_law 296 = .ok (.iload 5, 2) := by decide +kernel
theorem dL_law_298 : decode cL_law 298 = .ok (.ifCond .ne 22, 3) := by decide +kernel
theorem dL_law_301 : decode cL_law 301 = .ok (.aload_n 3, 1) := by decide +kernel
theorem dL_law_302 : decode cL_law 302 = .ok (.iconst 0, 1) := by decide +kernel
theorem dL_law_303 : decode cL_law 303 = .ok (.laload, 1) := by decide +kernel
theorem dL_law_304 : decode cL_law 304 = .ok (.iload 6, 2) := by decide +kernel
theorem dL_law_306 : decode cL_law 306 = .ok (.ifCond .eq 7, 3) := by decide +kernel
theorem dL_law_309 : decode cL_law 309 = .ok (.lconst 1, 1) := by decide +kernel
theorem dL_law_310 : decode cL_law 310 = .ok (.goto 4, 3) := by decide +kernel
theorem dL_law_313 : decode cL_law 313 = .ok (.lconst 0, 1) := by decide +kernel
theorem dL_law_314 : decode cL_law 314 = .ok (.lcmp, 1) := by decide +kernel
theorem dL_law_315 : decode cL_law 315 = .ok (.ifCond .eq 5, 3) := by decide +kernel
theorem dL_law_318 : decode cL_law 318 = .ok (.iconst 0, 1) := by decide +kernel
theorem dL_law_319 : decode cL_law 319 = .ok (.ireturn, 1) := by decide +kernel
theorem dL_law_320 : decode cL_law 320 = .ok (.goto 1374, 3) := by decide +kernel
theorem dL_law_323 : decode cL_law 323 = .ok (.aload_n 1, 1) := by decide +kernel
theorem dL_law_324 : decode cL_law 324 = .ok (.aload_n 0, 1) := by decide +kernel
theorem dL_law_325 : decode cL_law 325 = .ok (.iload 4, 2) := by decide +kernel
theorem dL_law_327 : decode cL_law 327 = .ok (.iconst 1, 1) := by decide +kernel
theorem dL_law_328 : decode cL_law 328 = .ok (.iadd, 1) := by decide +kernel
theorem dL_law_329 : decode cL_law 329 = .ok (.iaload, 1) := by decide +kernel
theorem dL_law_330 : decode cL_law 330 = .ok (.aload_n 0, 1) := by decide +kernel
theorem dL_law_331 : decode cL_law 331 = .ok (.iload 4, 2) := by decide +kernel
theorem dL_law_333 : decode cL_law 333 = .ok (.iconst 2, 1) := by decide +kernel
theorem dL_law_334 : decode cL_law 334 = .ok (.iadd, 1) := by decide +kernel
theorem dL_law_335 : decode cL_law 335 = .ok (.iaload, 1) := by decide +kernel
theorem dL_law_336 : decode cL_law 336 = .ok (.aload_n 3, 1) := by decide +kernel
theorem dL_law_337 : decode cL_law 337 = .ok (.invokestatic 109, 3) := by decide +kernel
theorem dL_law_340 : decode cL_law 340 = .ok (.istore 5, 2) := by decide +kernel
theorem dL_law_342 : decode cL_law 342 = .ok (.aload_n 2, 1) := by decide +kernel
theorem dL_law_343 : decode cL_law 343 = .ok (.aload_n 0, 1) := by decide +kernel
theorem dL_law_344 : decode cL_law 344 = .ok (.iload 4, 2) := by decide +kernel
theorem dL_law_346 : decode cL_law 346 = .ok (.iconst 1, 1) := by decide +kernel
theorem dL_law_347 : decode cL_law 347 = .ok (.iadd, 1) := by decide +kernel
theorem dL_law_348 : decode cL_law 348 = .ok (.iaload, 1) := by decide +kernel
theorem dL_law_349 : decode cL_law 349 = .ok (.aload_n 0, 1) := by decide +kernel
theorem dL_law_350 : decode cL_law 350 = .ok (.iload 4, 2) := by decide +kernel
theorem dL_law_352 : decode cL_law 352 = .ok (.iconst 2, 1) := by decide +kernel
theorem dL_law_353 : decode cL_law 353 = .ok (.iadd, 1) := by decide +kernel
theorem dL_law_354 : decode cL_law 354 = .ok (.iaload, 1) := by decide +kernel
theorem dL_law_355 : decode cL_law 355 = .ok (.invokevirtual 112, 3) := by decide +kernel
theorem dL_law_358 : decode cL_law 358 = .ok (.istore 6, 2) := by decide +kernel
theorem dL_law_360 : decode cL_law 360 = .ok (.aload_n 2, 1) := by decide +kernel
theorem dL_law_361 : decode cL_law 361 = .ok (.invokevirtual 101, 3) := by decide +kernel
theorem dL_law_364 : decode cL_law 364 = .ok (.iload 5, 2) := by decide +kernel
theorem dL_law_366 : decode cL_law 366 = .ok (.if_icmp .eq 5, 3) := by decide +kernel
theorem dL_law_369 : decode cL_law 369 = .ok (.iconst 0, 1) := by decide +kernel
theorem dL_law_370 : decode cL_law 370 = .ok (.ireturn, 1) := by decide +kernel
theorem dL_law_371 : decode cL_law 371 = .ok (.iload 5, 2) := by decide +kernel
theorem dL_law_373 : decode cL_law 373 = .ok (.ifCond .ne 15, 3) := by decide +kernel
theorem dL_law_376 : decode cL_law 376 = .ok (.aload_n 3, 1) := by decide +kernel
theorem dL_law_377 : decode cL_law 377 = .ok (.iconst 0, 1) := by decide +kernel
theorem dL_law_378 : decode cL_law 378 = .ok (.laload, 1) := by decide +kernel
theorem dL_law_379 : decode cL_law 379 = .ok (.iload 6, 2) := by decide +kernel
theorem dL_law_381 : decode cL_law 381 = .ok (.i2l, 1) := by decide +kernel
theorem dL_law_382 : decode cL_law 382 = .ok (.lcmp, 1) := by decide +kernel
theorem dL_law_383 : decode cL_law 383 = .ok (.ifCond .eq 5, 3) := by decide +kernel
theorem dL_law_386 : decode cL_law 386 = .ok (.iconst 0, 1) := by decide +kernel
theorem dL_law_387 : decode cL_law 387 = .ok (.ireturn, 1) := by decide +kernel
theorem dL_law_388 : decode cL_law 388 = .ok (.goto 1306, 3) := by decide +kernel
theorem dL_law_391 : decode cL_law 391 = .ok (.aload_n 1, 1) := by decide +kernel
theorem dL_law_392 : decode cL_law 392 = .ok (.aload_n 0, 1) := by decide +kernel
theorem dL_law_393 : decode cL_law 393 = .ok (.iload 4, 2) := by decide +kernel
theorem dL_law_395 : decode cL_law 395 = .ok (.iconst 1, 1) := by decide +kernel
theorem dL_law_396 : decode cL_law 396 = .ok (.iadd, 1) := by decide +kernel
theorem dL_law_397 : decode cL_law 397 = .ok (.iaload, 1) := by decide +kernel
theorem dL_law_398 : decode cL_law 398 = .ok (.aload_n 0, 1) := by decide +kernel
theorem dL_law_399 : decode cL_law 399 = .ok (.iload 4, 2) := by decide +kernel
theorem dL_law_401 : decode cL_law 401 = .ok (.iconst 2, 1) := by decide +kernel
theorem dL_law_402 : decode cL_law 402 = .ok (.iadd, 1) := by decide +kernel
theorem dL_law_403 : decode cL_law 403 = .ok (.iaload, 1) := by decide +kernel
theorem dL_law_404 : decode cL_law 404 = .ok (.aload_n 0, 1) := by decide +kernel
theorem dL_law_405 : decode cL_law 405 = .ok (.iload 4, 2) := by decide +kernel
theorem dL_law_407 : decode cL_law 407 = .ok (.iconst 3, 1) := by decide +kernel
theorem dL_law_408 : decode cL_law 408 = .ok (.iadd, 1) := by decide +kernel
theorem dL_law_409 : decode cL_law 409 = .ok (.iaload, 1) := by decide +kernel
theorem dL_law_410 : decode cL_law 410 = .ok (.aload_n 3, 1) := by decide +kernel
theorem dL_law_411 : decode cL_law 411 = .ok (.invokestatic 113, 3) := by decide +kernel
theorem dL_law_414 : decode cL_law 414 = .ok (.istore 5, 2) := by decide +kernel
theorem dL_law_416 : decode cL_law 416 = .ok (.aload_n 2, 1) := by decide +kernel
theorem dL_law_417 : decode cL_law 417 = .ok (.aload_n 0, 1) := by decide +kernel
theorem dL_law_418 : decode cL_law 418 = .ok (.iload 4, 2) := by decide +kernel
theorem dL_law_420 : decode cL_law 420 = .ok (.iconst 1, 1) := by decide +kernel
theorem dL_law_421 : decode cL_law 421 = .ok (.iadd, 1) := by decide +kernel
theorem dL_law_422 : decode cL_law 422 = .ok (.iaload, 1) := by decide +kernel
theorem dL_law_423 : decode cL_law 423 = .ok (.aload_n 0, 1) := by decide +kernel
theorem dL_law_424 : decode cL_law 424 = .ok (.iload 4, 2) := by decide +kernel
theorem dL_law_426 : decode cL_law 426 = .ok (.iconst 2, 1) := by decide +kernel
theorem dL_law_427 : decode cL_law 427 = .ok (.iadd, 1) := by decide +kernel
theorem dL_law_428 : decode cL_law 428 = .ok (.iaload, 1) := by decide +kernel
theorem dL_law_429 : decode cL_law 429 = .ok (.aload_n 0, 1) := by decide +kernel
theorem dL_law_430 : decode cL_law 430 = .ok (.iload 4, 2) := by decide +kernel
theorem dL_law_432 : decode cL_law 432 = .ok (.iconst 3, 1) := by decide +kernel
theorem dL_law_433 : decode cL_law 433 = .ok (.iadd, 1) := by decide +kernel
theorem dL_law_434 : decode cL_law 434 = .ok (.iaload, 1) := by decide +kernel
theorem dL_law_435 : decode cL_law 435 = .ok (.invokevirtual 115, 3) := by decide +kernel
theorem dL_law_438 : decode cL_law 438 = .ok (.istore 6, 2) := by decide +kernel
theorem dL_law_440 : decode cL_law 440 = .ok (.aload_n 2, 1) := by decide +kernel
theorem dL_law_441 : decode cL_law 441 = .ok (.invokevirtual 101, 3) := by decide +kernel
theorem dL_law_444 : decode cL_law 444 = .ok (.iload 5, 2) := by decide +kernel
theorem dL_law_446 : decode cL_law 446 = .ok (.if_icmp .eq 5, 3) := by decide +kernel
theorem dL_law_449 : decode cL_law 449 = .ok (.iconst 0, 1) := by decide +kernel
theorem dL_law_450 : decode cL_law 450 = .ok (.ireturn, 1) := by decide +kernel
theorem dL_law_451 : decode cL_law 451 = .ok (.iload 5, 2) := by decide +kernel
theorem dL_law_453 : decode cL_law 453 = .ok (.ifCond .ne 15, 3) := by decide +kernel
theorem dL_law_456 : decode cL_law 456 = .ok (.aload_n 3, 1) := by decide +kernel
theorem dL_law_457 : decode cL_law 457 = .ok (.iconst 0, 1) := by decide +kernel
theorem dL_law_458 : decode cL_law 458 = .ok (.laload, 1) := by decide +kernel
theorem dL_law_459 : decode cL_law 459 = .ok (.iload 6, 2) := by decide +kernel
theorem dL_law_461 : decode cL_law 461 = .ok (.i2l, 1) := by decide +kernel
theorem dL_law_462 : decode cL_law 462 = .ok (.lcmp, 1) := by decide +kernel
theorem dL_law_463 : decode cL_law 463 = .ok (.ifCond .eq 5, 3) := by decide +kernel
theorem dL_law_466 : decode cL_law 466 = .ok (.iconst 0, 1) := by decide +kernel
theorem dL_law_467 : decode cL_law 467 = .ok (.ireturn, 1) := by decide +kernel
theorem dL_law_468 : decode cL_law 468 = .ok (.goto 1226, 3) := by decide +kernel
theorem dL_law_471 : decode cL_law 471 = .ok (.aload_n 1, 1) := by decide +kernel
theorem dL_law_472 : decode cL_law 472 = .ok (.aload_n 0, 1) := by decide +kernel
theorem dL_law_473 : decode cL_law 473 = .ok (.iload 4, 2) := by decide +kernel
theorem dL_law_475 : decode cL_law 475 = .ok (.iconst 1, 1) := by decide +kernel
theorem dL_law_476 : decode cL_law 476 = .ok (.iadd, 1) := by decide +kernel
theorem dL_law_477 : decode cL_law 477 = .ok (.iaload, 1) := by decide +kernel
theorem dL_law_478 : decode cL_law 478 = .ok (.aload_n 0, 1) := by decide +kernel
theorem dL_law_479 : decode cL_law 479 = .ok (.iload 4, 2) := by decide +kernel
theorem dL_law_481 : decode cL_law 481 = .ok (.iconst 2, 1) := by decide +kernel
theorem dL_law_482 : decode cL_law 482 = .ok (.iadd, 1) := by decide +kernel
theorem dL_law_483 : decode cL_law 483 = .ok (.iaload, 1) := by decide +kernel
theorem dL_law_484 : decode cL_law 484 = .ok (.aload_n 3, 1) := by decide +kernel
theorem dL_law_485 : decode cL_law 485 = .ok (.invokestatic 116, 3) := by decide +kernel
theorem dL_law_488 : decode cL_law 488 = .ok (.istore 5, 2) := by decide +kernel
theorem dL_law_490 : decode cL_law 490 = .ok (.aload_n 2, 1) := by decide +kernel
theorem dL_law_491 : decode cL_law 491 = .ok (.aload_n 0, 1) := by decide +kernel
theorem dL_law_492 : decode cL_law 492 = .ok (.iload 4, 2) := by decide +kernel
theorem dL_law_494 : decode cL_law 494 = .ok (.iconst 1, 1) := by decide +kernel
theorem dL_law_495 : decode cL_law 495 = .ok (.iadd, 1) := by decide +kernel
theorem dL_law_496 : decode cL_law 496 = .ok (.iaload, 1) := by decide +kernel
theorem dL_law_497 : decode cL_law 497 = .ok (.aload_n 0, 1) := by decide +kernel
theorem dL_law_498 : decode cL_law 498 = .ok (.iload 4, 2) := by decide +kernel
theorem dL_law_500 : decode cL_law 500 = .ok (.iconst 2, 1) := by decide +kernel
theorem dL_law_501 : decode cL_law 501 = .ok (.iadd, 1) := by decide +kernel
theorem dL_law_502 : decode cL_law 502 = .ok (.iaload, 1) := by decide +kernel
theorem dL_law_503 : decode cL_law 503 = .ok (.invokevirtual 118, 3) := by decide +kernel
theorem dL_law_506 : decode cL_law 506 = .ok (.istore 6, 2) := by decide +kernel
theorem dL_law_508 : decode cL_law 508 = .ok (.aload_n 2, 1) := by decide +kernel
theorem dL_law_509 : decode cL_law 509 = .ok (.invokevirtual 101, 3) := by decide +kernel
theorem dL_law_512 : decode cL_law 512 = .ok (.iload 5, 2) := by decide +kernel
theorem dL_law_514 : decode cL_law 514 = .ok (.if_icmp .eq 5, 3) := by decide +kernel
theorem dL_law_517 : decode cL_law 517 = .ok (.iconst 0, 1) := by decide +kernel
theorem dL_law_518 : decode cL_law 518 = .ok (.ireturn, 1) := by decide +kernel
theorem dL_law_519 : decode cL_law 519 = .ok (.iload 5, 2) := by decide +kernel
theorem dL_law_521 : decode cL_law 521 = .ok (.ifCond .ne 15, 3) := by decide +kernel
theorem dL_law_524 : decode cL_law 524 = .ok (.aload_n 3, 1) := by decide +kernel
theorem dL_law_525 : decode cL_law 525 = .ok (.iconst 0, 1) := by decide +kernel
theorem dL_law_526 : decode cL_law 526 = .ok (.laload, 1) := by decide +kernel
theorem dL_law_527 : decode cL_law 527 = .ok (.iload 6, 2) := by decide +kernel
theorem dL_law_529 : decode cL_law 529 = .ok (.i2l, 1) := by decide +kernel
theorem dL_law_530 : decode cL_law 530 = .ok (.lcmp, 1) := by decide +kernel
theorem dL_law_531 : decode cL_law 531 = .ok (.ifCond .eq 5, 3) := by decide +kernel
theorem dL_law_534 : decode cL_law 534 = .ok (.iconst 0, 1) := by decide +kernel
theorem dL_law_535 : decode cL_law 535 = .ok (.ireturn, 1) := by decide +kernel
theorem dL_law_536 : decode cL_law 536 = .ok (.goto 1158, 3) := by decide +kernel
theorem dL_law_539 : decode cL_law 539 = .ok (.aload_n 1, 1) := by decide +kernel
theorem dL_law_540 : decode cL_law 540 = .ok (.aload_n 0, 1) := by decide +kernel
theorem dL_law_541 : decode cL_law 541 = .ok (.iload 4, 2) := by decide +kernel
theorem dL_law_543 : decode cL_law 543 = .ok (.iconst 1, 1) := by decide +kernel
theorem dL_law_544 : decode cL_law 544 = .ok (.iadd, 1) := by decide +kernel
theorem dL_law_545 : decode cL_law 545 = .ok (.iaload, 1) := by decide +kernel
theorem dL_law_546 : decode cL_law 546 = .ok (.aload_n 0, 1) := by decide +kernel
theorem dL_law_547 : decode cL_law 547 = .ok (.iload 4, 2) := by decide +kernel
theorem dL_law_549 : decode cL_law 549 = .ok (.iconst 2, 1) := by decide +kernel
theorem dL_law_550 : decode cL_law 550 = .ok (.iadd, 1) := by decide +kernel
theorem dL_law_551 : decode cL_law 551 = .ok (.iaload, 1) := by decide +kernel
theorem dL_law_552 : decode cL_law 552 = .ok (.aload_n 3, 1) := by decide +kernel
theorem dL_law_553 : decode cL_law 553 = .ok (.invokestatic 119, 3) := by decide +kernel
theorem dL_law_556 : decode cL_law 556 = .ok (.istore 5, 2) := by decide +kernel
theorem dL_law_558 : decode cL_law 558 = .ok (.aload_n 2, 1) := by decide +kernel
theorem dL_law_559 : decode cL_law 559 = .ok (.aload_n 0, 1) := by decide +kernel
theorem dL_law_560 : decode cL_law 560 = .ok (.iload 4, 2) := by decide +kernel
theorem dL_law_562 : decode cL_law 562 = .ok (.iconst 1, 1) := by decide +kernel
theorem dL_law_563 : decode cL_law 563 = .ok (.iadd, 1) := by decide +kernel
theorem dL_law_564 : decode cL_law 564 = .ok (.iaload, 1) := by decide +kernel
theorem dL_law_565 : decode cL_law 565 = .ok (.aload_n 0, 1) := by decide +kernel
theorem dL_law_566 : decode cL_law 566 = .ok (.iload 4, 2) := by decide +kernel
theorem dL_law_568 : decode cL_law 568 = .ok (.iconst 2, 1) := by decide +kernel
theorem dL_law_569 : decode cL_law 569 = .ok (.iadd, 1) := by decide +kernel
theorem dL_law_570 : decode cL_law 570 = .ok (.iaload, 1) := by decide +kernel
theorem dL_law_571 : decode cL_law 571 = .ok (.invokevirtual 121, 3) := by decide +kernel
theorem dL_law_574 : decode cL_law 574 = .ok (.istore 6, 2) := by decide +kernel
theorem dL_law_576 : decode cL_law 576 = .ok (.aload_n 2, 1) := by decide +kernel
theorem dL_law_577 : decode cL_law 577 = .ok (.invokevirtual 101, 3) := by decide +kernel
theorem dL_law_580 : decode cL_law 580 = .ok (.iload 5, 2) := by decide +kernel
theorem dL_law_582 : decode cL_law 582 = .ok (.if_icmp .eq 5, 3) := by decide +kernel
theorem dL_law_585 : decode cL_law 585 = .ok (.iconst 0, 1) := by decide +kernel
theorem dL_law_586 : decode cL_law 586 = .ok (.ireturn, 1) := by decide +kernel
theorem dL_law_587 : decode cL_law 587 = .ok (.iload 5, 2) := by decide +kernel
theorem dL_law_589 : decode cL_law 589 = .ok (.ifCond .ne 15, 3) := by decide +kernel
theorem dL_law_592 : decode cL_law 592 = .ok (.aload_n 3, 1) := by decide +kernel
theorem dL_law_593 : decode cL_law 593 = .ok (.iconst 0, 1) := by decide +kernel
theorem dL_law_594 : decode cL_law 594 = .ok (.laload, 1) := by decide +kernel
theorem dL_law_595 : decode cL_law 595 = .ok (.iload 6, 2) := by decide +kernel
theorem dL_law_597 : decode cL_law 597 = .ok (.i2l, 1) := by decide +kernel
theorem dL_law_598 : decode cL_law 598 = .ok (.lcmp, 1) := by decide +kernel
theorem dL_law_599 : decode cL_law 599 = .ok (.ifCond .eq 5, 3) := by decide +kernel
theorem dL_law_602 : decode cL_law 602 = .ok (.iconst 0, 1) := by decide +kernel
theorem dL_law_603 : decode cL_law 603 = .ok (.ireturn, 1) := by decide +kernel
theorem dL_law_604 : decode cL_law 604 = .ok (.goto 1090, 3) := by decide +kernel
theorem dL_law_607 : decode cL_law 607 = .ok (.aload_n 1, 1) := by decide +kernel
theorem dL_law_608 : decode cL_law 608 = .ok (.aload_n 0, 1) := by decide +kernel
theorem dL_law_609 : decode cL_law 609 = .ok (.iload 4, 2) := by decide +kernel
theorem dL_law_611 : decode cL_law 611 = .ok (.iconst 1, 1) := by decide +kernel
theorem dL_law_612 : decode cL_law 612 = .ok (.iadd, 1) := by decide +kernel
theorem dL_law_613 : decode cL_law 613 = .ok (.iaload, 1) := by decide +kernel
theorem dL_law_614 : decode cL_law 614 = .ok (.aload_n 0, 1) := by decide +kernel
theorem dL_law_615 : decode cL_law 615 = .ok (.iload 4, 2) := by decide +kernel
theorem dL_law_617 : decode cL_law 617 = .ok (.iconst 2, 1) := by decide +kernel
theorem dL_law_618 : decode cL_law 618 = .ok (.iadd, 1) := by decide +kernel
theorem dL_law_619 : decode cL_law 619 = .ok (.iaload, 1) := by decide +kernel
theorem dL_law_620 : decode cL_law 620 = .ok (.aload_n 0, 1) := by decide +kernel
theorem dL_law_621 : decode cL_law 621 = .ok (.iload 4, 2) := by decide +kernel
theorem dL_law_623 : decode cL_law 623 = .ok (.iconst 3, 1) := by decide +kernel
theorem dL_law_624 : decode cL_law 624 = .ok (.iadd, 1) := by decide +kernel
theorem dL_law_625 : decode cL_law 625 = .ok (.iaload, 1) := by decide +kernel
theorem dL_law_626 : decode cL_law 626 = .ok (.aload_n 3, 1) := by decide +kernel
theorem dL_law_627 : decode cL_law 627 = .ok (.invokestatic 122, 3) := by decide +kernel
theorem dL_law_630 : decode cL_law 630 = .ok (.istore 5, 2) := by decide +kernel
theorem dL_law_632 : decode cL_law 632 = .ok (.aload_n 2, 1) := by decide +kernel
theorem dL_law_633 : decode cL_law 633 = .ok (.aload_n 0, 1) := by decide +kernel
theorem dL_law_634 : decode cL_law 634 = .ok (.iload 4, 2) := by decide +kernel
theorem dL_law_636 : decode cL_law 636 = .ok (.iconst 1, 1) := by decide +kernel
theorem dL_law_637 : decode cL_law 637 = .ok (.iadd, 1) := by decide +kernel
theorem dL_law_638 : decode cL_law 638 = .ok (.iaload, 1) := by decide +kernel
theorem dL_law_639 : decode cL_law 639 = .ok (.aload_n 0, 1) := by decide +kernel
theorem dL_law_640 : decode cL_law 640 = .ok (.iload 4, 2) := by decide +kernel
theorem dL_law_642 : decode cL_law 642 = .ok (.iconst 2, 1) := by decide +kernel
theorem dL_law_643 : decode cL_law 643 = .ok (.iadd, 1) := by decide +kernel
theorem dL_law_644 : decode cL_law 644 = .ok (.iaload, 1) := by decide +kernel
theorem dL_law_645 : decode cL_law 645 = .ok (.aload_n 0, 1) := by decide +kernel
theorem dL_law_646 : decode cL_law 646 = .ok (.iload 4, 2) := by decide +kernel
theorem dL_law_648 : decode cL_law 648 = .ok (.iconst 3, 1) := by decide +kernel
theorem dL_law_649 : decode cL_law 649 = .ok (.iadd, 1) := by decide +kernel
theorem dL_law_650 : decode cL_law 650 = .ok (.iaload, 1) := by decide +kernel
theorem dL_law_651 : decode cL_law 651 = .ok (.invokevirtual 124, 3) := by decide +kernel
theorem dL_law_654 : decode cL_law 654 = .ok (.istore 6, 2) := by decide +kernel
theorem dL_law_656 : decode cL_law 656 = .ok (.aload_n 2, 1) := by decide +kernel
theorem dL_law_657 : decode cL_law 657 = .ok (.invokevirtual 101, 3) := by decide +kernel
theorem dL_law_660 : decode cL_law 660 = .ok (.iload 5, 2) := by decide +kernel
theorem dL_law_662 : decode cL_law 662 = .ok (.if_icmp .eq 5, 3) := by decide +kernel
theorem dL_law_665 : decode cL_law 665 = .ok (.iconst 0, 1) := by decide +kernel
theorem dL_law_666 : decode cL_law 666 = .ok (.ireturn, 1) := by decide +kernel
theorem dL_law_667 : decode cL_law 667 = .ok (.iload 5, 2) := by decide +kernel
theorem dL_law_669 : decode cL_law 669 = .ok (.ifCond .ne 15, 3) := by decide +kernel
theorem dL_law_672 : decode cL_law 672 = .ok (.aload_n 3, 1) := by decide +kernel
theorem dL_law_673 : decode cL_law 673 = .ok (.iconst 0, 1) := by decide +kernel
theorem dL_law_674 : decode cL_law 674 = .ok (.laload, 1) := by decide +kernel
theorem dL_law_675 : decode cL_law 675 = .ok (.iload 6, 2) := by decide +kernel
theorem dL_law_677 : decode cL_law 677 = .ok (.i2l, 1) := by decide +kernel
theorem dL_law_678 : decode cL_law 678 = .ok (.lcmp, 1) := by decide +kernel
theorem dL_law_679 : decode cL_law 679 = .ok (.ifCond .eq 5, 3) := by decide +kernel
theorem dL_law_682 : decode cL_law 682 = .ok (.iconst 0, 1) := by decide +kernel
theorem dL_law_683 : decode cL_law 683 = .ok (.ireturn, 1) := by decide +kernel
theorem dL_law_684 : decode cL_law 684 = .ok (.goto 1010, 3) := by decide +kernel
theorem dL_law_687 : decode cL_law 687 = .ok (.aload_n 1, 1) := by decide +kernel
theorem dL_law_688 : decode cL_law 688 = .ok (.aload_n 0, 1) := by decide +kernel
theorem dL_law_689 : decode cL_law 689 = .ok (.iload 4, 2) := by decide +kernel
theorem dL_law_691 : decode cL_law 691 = .ok (.iconst 1, 1) := by decide +kernel
theorem dL_law_692 : decode cL_law 692 = .ok (.iadd, 1) := by decide +kernel
theorem dL_law_693 : decode cL_law 693 = .ok (.iaload, 1) := by decide +kernel
theorem dL_law_694 : decode cL_law 694 = .ok (.aload_n 3, 1) := by decide +kernel
theorem dL_law_695 : decode cL_law 695 = .ok (.invokestatic 125, 3) := by decide +kernel
theorem dL_law_698 : decode cL_law 698 = .ok (.istore 5, 2) := by decide +kernel
theorem dL_law_700 : decode cL_law 700 = .ok (.aload_n 2, 1) := by decide +kernel
theorem dL_law_701 : decode cL_law 701 = .ok (.aload_n 0, 1) := by decide +kernel
theorem dL_law_702 : decode cL_law 702 = .ok (.iload 4, 2) := by decide +kernel
theorem dL_law_704 : decode cL_law 704 = .ok (.iconst 1, 1) := by decide +kernel
theorem dL_law_705 : decode cL_law 705 = .ok (.iadd, 1) := by decide +kernel
theorem dL_law_706 : decode cL_law 706 = .ok (.iaload, 1) := by decide +kernel
theorem dL_law_707 : decode cL_law 707 = .ok (.invokevirtual 128, 3) := by decide +kernel
theorem dL_law_710 : decode cL_law 710 = .ok (.istore 6, 2) := by decide +kernel
theorem dL_law_712 : decode cL_law 712 = .ok (.aload_n 2, 1) := by decide +kernel
theorem dL_law_713 : decode cL_law 713 = .ok (.invokevirtual 101, 3) := by decide +kernel
theorem dL_law_716 : decode cL_law 716 = .ok (.iload 5, 2) := by decide +kernel
theorem dL_law_718 : decode cL_law 718 = .ok (.if_icmp .eq 5, 3) := by decide +kernel
theorem dL_law_721 : decode cL_law 721 = .ok (.iconst 0, 1) := by decide +kernel
theorem dL_law_722 : decode cL_law 722 = .ok (.ireturn, 1) := by decide +kernel
theorem dL_law_723 : decode cL_law 723 = .ok (.iload 5, 2) := by decide +kernel
theorem dL_law_725 : decode cL_law 725 = .ok (.ifCond .ne 15, 3) := by decide +kernel
theorem dL_law_728 : decode cL_law 728 = .ok (.aload_n 3, 1) := by decide +kernel
theorem dL_law_729 : decode cL_law 729 = .ok (.iconst 0, 1) := by decide +kernel
theorem dL_law_730 : decode cL_law 730 = .ok (.laload, 1) := by decide +kernel
theorem dL_law_731 : decode cL_law 731 = .ok (.iload 6, 2) := by decide +kernel
theorem dL_law_733 : decode cL_law 733 = .ok (.i2l, 1) := by decide +kernel
theorem dL_law_734 : decode cL_law 734 = .ok (.lcmp, 1) := by decide +kernel
theorem dL_law_735 : decode cL_law 735 = .ok (.ifCond .eq 5, 3) := by decide +kernel
theorem dL_law_738 : decode cL_law 738 = .ok (.iconst 0, 1) := by decide +kernel
theorem dL_law_739 : decode cL_law 739 = .ok (.ireturn, 1) := by decide +kernel
theorem dL_law_740 : decode cL_law 740 = .ok (.goto 954, 3) := by decide +kernel
theorem dL_law_743 : decode cL_law 743 = .ok (.aload_n 1, 1) := by decide +kernel
theorem dL_law_744 : decode cL_law 744 = .ok (.aload_n 0, 1) := by decide +kernel
theorem dL_law_745 : decode cL_law 745 = .ok (.iload 4, 2) := by decide +kernel
theorem dL_law_747 : decode cL_law 747 = .ok (.iconst 1, 1) := by decide +kernel
theorem dL_law_748 : decode cL_law 748 = .ok (.iadd, 1) := by decide +kernel
theorem dL_law_749 : decode cL_law 749 = .ok (.iaload, 1) := by decide +kernel
theorem dL_law_750 : decode cL_law 750 = .ok (.aload_n 3, 1) := by decide +kernel
theorem dL_law_751 : decode cL_law 751 = .ok (.invokestatic 129, 3) := by decide +kernel
theorem dL_law_754 : decode cL_law 754 = .ok (.istore 5, 2) := by decide +kernel
theorem dL_law_756 : decode cL_law 756 = .ok (.aload_n 2, 1) := by decide +kernel
theorem dL_law_757 : decode cL_law 757 = .ok (.aload_n 0, 1) := by decide +kernel
theorem dL_law_758 : decode cL_law 758 = .ok (.iload 4, 2) := by decide +kernel
theorem dL_law_760 : decode cL_law 760 = .ok (.iconst 1, 1) := by decide +kernel
theorem dL_law_761 : decode cL_law 761 = .ok (.iadd, 1) := by decide +kernel
theorem dL_law_762 : decode cL_law 762 = .ok (.iaload, 1) := by decide +kernel
theorem dL_law_763 : decode cL_law 763 = .ok (.invokevirtual 131, 3) := by decide +kernel
theorem dL_law_766 : decode cL_law 766 = .ok (.istore 6, 2) := by decide +kernel
theorem dL_law_768 : decode cL_law 768 = .ok (.aload_n 2, 1) := by decide +kernel
theorem dL_law_769 : decode cL_law 769 = .ok (.invokevirtual 101, 3) := by decide +kernel
theorem dL_law_772 : decode cL_law 772 = .ok (.iload 5, 2) := by decide +kernel
theorem dL_law_774 : decode cL_law 774 = .ok (.if_icmp .eq 5, 3) := by decide +kernel
theorem dL_law_777 : decode cL_law 777 = .ok (.iconst 0, 1) := by decide +kernel
theorem dL_law_778 : decode cL_law 778 = .ok (.ireturn, 1) := by decide +kernel
theorem dL_law_779 : decode cL_law 779 = .ok (.iload 5, 2) := by decide +kernel
theorem dL_law_781 : decode cL_law 781 = .ok (.ifCond .ne 15, 3) := by decide +kernel
theorem dL_law_784 : decode cL_law 784 = .ok (.aload_n 3, 1) := by decide +kernel
theorem dL_law_785 : decode cL_law 785 = .ok (.iconst 0, 1) := by decide +kernel
theorem dL_law_786 : decode cL_law 786 = .ok (.laload, 1) := by decide +kernel
theorem dL_law_787 : decode cL_law 787 = .ok (.iload 6, 2) := by decide +kernel
theorem dL_law_789 : decode cL_law 789 = .ok (.i2l, 1) := by decide +kernel
theorem dL_law_790 : decode cL_law 790 = .ok (.lcmp, 1) := by decide +kernel
theorem dL_law_791 : decode cL_law 791 = .ok (.ifCond .eq 5, 3) := by decide +kernel
theorem dL_law_794 : decode cL_law 794 = .ok (.iconst 0, 1) := by decide +kernel
theorem dL_law_795 : decode cL_law 795 = .ok (.ireturn, 1) := by decide +kernel
theorem dL_law_796 : decode cL_law 796 = .ok (.goto 898, 3) := by decide +kernel
theorem dL_law_799 : decode cL_law 799 = .ok (.aload_n 1, 1) := by decide +kernel
theorem dL_law_800 : decode cL_law 800 = .ok (.aload_n 0, 1) := by decide +kernel
theorem dL_law_801 : decode cL_law 801 = .ok (.iload 4, 2) := by decide +kernel
theorem dL_law_803 : decode cL_law 803 = .ok (.iconst 1, 1) := by decide +kernel
theorem dL_law_804 : decode cL_law 804 = .ok (.iadd, 1) := by decide +kernel
theorem dL_law_805 : decode cL_law 805 = .ok (.iaload, 1) := by decide +kernel
theorem dL_law_806 : decode cL_law 806 = .ok (.aload_n 0, 1) := by decide +kernel
theorem dL_law_807 : decode cL_law 807 = .ok (.iload 4, 2) := by decide +kernel
theorem dL_law_809 : decode cL_law 809 = .ok (.iconst 2, 1) := by decide +kernel
theorem dL_law_810 : decode cL_law 810 = .ok (.iadd, 1) := by decide +kernel
theorem dL_law_811 : decode cL_law 811 = .ok (.iaload, 1) := by decide +kernel
theorem dL_law_812 : decode cL_law 812 = .ok (.aload_n 3, 1) := by decide +kernel
theorem dL_law_813 : decode cL_law 813 = .ok (.invokestatic 132, 3) := by decide +kernel
theorem dL_law_816 : decode cL_law 816 = .ok (.istore 5, 2) := by decide +kernel
theorem dL_law_818 : decode cL_law 818 = .ok (.aload_n 2, 1) := by decide +kernel
theorem dL_law_819 : decode cL_law 819 = .ok (.aload_n 0, 1) := by decide +kernel
theorem dL_law_820 : decode cL_law 820 = .ok (.iload 4, 2) := by decide +kernel
theorem dL_law_822 : decode cL_law 822 = .ok (.iconst 1, 1) := by decide +kernel
theorem dL_law_823 : decode cL_law 823 = .ok (.iadd, 1) := by decide +kernel
theorem dL_law_824 : decode cL_law 824 = .ok (.iaload, 1) := by decide +kernel
theorem dL_law_825 : decode cL_law 825 = .ok (.aload_n 0, 1) := by decide +kernel
theorem dL_law_826 : decode cL_law 826 = .ok (.iload 4, 2) := by decide +kernel
theorem dL_law_828 : decode cL_law 828 = .ok (.iconst 2, 1) := by decide +kernel
theorem dL_law_829 : decode cL_law 829 = .ok (.iadd, 1) := by decide +kernel
theorem dL_law_830 : decode cL_law 830 = .ok (.iaload, 1) := by decide +kernel
theorem dL_law_831 : decode cL_law 831 = .ok (.invokevirtual 134, 3) := by decide +kernel
theorem dL_law_834 : decode cL_law 834 = .ok (.istore 6, 2) := by decide +kernel
theorem dL_law_836 : decode cL_law 836 = .ok (.aload_n 2, 1) := by decide +kernel
theorem dL_law_837 : decode cL_law 837 = .ok (.invokevirtual 101, 3) := by decide +kernel
theorem dL_law_840 : decode cL_law 840 = .ok (.iload 5, 2) := by decide +kernel
theorem dL_law_842 : decode cL_law 842 = .ok (.if_icmp .eq 5, 3) := by decide +kernel
theorem dL_law_845 : decode cL_law 845 = .ok (.iconst 0, 1) := by decide +kernel
theorem dL_law_846 : decode cL_law 846 = .ok (.ireturn, 1) := by decide +kernel
theorem dL_law_847 : decode cL_law 847 = .ok (.iload 5, 2) := by decide +kernel
theorem dL_law_849 : decode cL_law 849 = .ok (.ifCond .ne 15, 3) := by decide +kernel
theorem dL_law_852 : decode cL_law 852 = .ok (.aload_n 3, 1) := by decide +kernel
theorem dL_law_853 : decode cL_law 853 = .ok (.iconst 0, 1) := by decide +kernel
theorem dL_law_854 : decode cL_law 854 = .ok (.laload, 1) := by decide +kernel
theorem dL_law_855 : decode cL_law 855 = .ok (.iload 6, 2) := by decide +kernel
theorem dL_law_857 : decode cL_law 857 = .ok (.i2l, 1) := by decide +kernel
theorem dL_law_858 : decode cL_law 858 = .ok (.lcmp, 1) := by decide +kernel
theorem dL_law_859 : decode cL_law 859 = .ok (.ifCond .eq 5, 3) := by decide +kernel
theorem dL_law_862 : decode cL_law 862 = .ok (.iconst 0, 1) := by decide +kernel
theorem dL_law_863 : decode cL_law 863 = .ok (.ireturn, 1) := by decide +kernel
theorem dL_law_864 : decode cL_law 864 = .ok (.goto 830, 3) := by decide +kernel
theorem dL_law_867 : decode cL_law 867 = .ok (.aload_n 1, 1) := by decide +kernel
theorem dL_law_868 : decode cL_law 868 = .ok (.aload_n 0, 1) := by decide +kernel
theorem dL_law_869 : decode cL_law 869 = .ok (.iload 4, 2) := by decide +kernel
theorem dL_law_871 : decode cL_law 871 = .ok (.iconst 1, 1) := by decide +kernel
theorem dL_law_872 : decode cL_law 872 = .ok (.iadd, 1) := by decide +kernel
theorem dL_law_873 : decode cL_law 873 = .ok (.iaload, 1) := by decide +kernel
theorem dL_law_874 : decode cL_law 874 = .ok (.aload_n 3, 1) := by decide +kernel
theorem dL_law_875 : decode cL_law 875 = .ok (.invokestatic 135, 3) := by decide +kernel
theorem dL_law_878 : decode cL_law 878 = .ok (.istore 5, 2) := by decide +kernel
theorem dL_law_880 : decode cL_law 880 = .ok (.aload_n 2, 1) := by decide +kernel
theorem dL_law_881 : decode cL_law 881 = .ok (.aload_n 0, 1) := by decide +kernel
theorem dL_law_882 : decode cL_law 882 = .ok (.iload 4, 2) := by decide +kernel
theorem dL_law_884 : decode cL_law 884 = .ok (.iconst 1, 1) := by decide +kernel
theorem dL_law_885 : decode cL_law 885 = .ok (.iadd, 1) := by decide +kernel
theorem dL_law_886 : decode cL_law 886 = .ok (.iaload, 1) := by decide +kernel
theorem dL_law_887 : decode cL_law 887 = .ok (.invokevirtual 137, 3) := by decide +kernel
theorem dL_law_890 : decode cL_law 890 = .ok (.istore 6, 2) := by decide +kernel
theorem dL_law_892 : decode cL_law 892 = .ok (.aload_n 2, 1) := by decide +kernel
theorem dL_law_893 : decode cL_law 893 = .ok (.invokevirtual 101, 3) := by decide +kernel
theorem dL_law_896 : decode cL_law 896 = .ok (.iload 5, 2) := by decide +kernel
theorem dL_law_898 : decode cL_law 898 = .ok (.if_icmp .eq 5, 3) := by decide +kernel
theorem dL_law_901 : decode cL_law 901 = .ok (.iconst 0, 1) := by decide +kernel
theorem dL_law_902 : decode cL_law 902 = .ok (.ireturn, 1) := by decide +kernel
theorem dL_law_903 : decode cL_law 903 = .ok (.iload 5, 2) := by decide +kernel
theorem dL_law_905 : decode cL_law 905 = .ok (.ifCond .ne 15, 3) := by decide +kernel
theorem dL_law_908 : decode cL_law 908 = .ok (.aload_n 3, 1) := by decide +kernel
theorem dL_law_909 : decode cL_law 909 = .ok (.iconst 0, 1) := by decide +kernel
theorem dL_law_910 : decode cL_law 910 = .ok (.laload, 1) := by decide +kernel
theorem dL_law_911 : decode cL_law 911 = .ok (.iload 6, 2) := by decide +kernel
theorem dL_law_913 : decode cL_law 913 = .ok (.i2l, 1) := by decide +kernel
theorem dL_law_914 : decode cL_law 914 = .ok (.lcmp, 1) := by decide +kernel
theorem dL_law_915 : decode cL_law 915 = .ok (.ifCond .eq 5, 3) := by decide +kernel
theorem dL_law_918 : decode cL_law 918 = .ok (.iconst 0, 1) := by decide +kernel
theorem dL_law_919 : decode cL_law 919 = .ok (.ireturn, 1) := by decide +kernel
theorem dL_law_920 : decode cL_law 920 = .ok (.goto 774, 3) := by decide +kernel
theorem dL_law_923 : decode cL_law 923 = .ok (.aload_n 1, 1) := by decide +kernel
theorem dL_law_924 : decode cL_law 924 = .ok (.aload_n 0, 1) := by decide +kernel
theorem dL_law_925 : decode cL_law 925 = .ok (.iload 4, 2) := by decide +kernel
theorem dL_law_927 : decode cL_law 927 = .ok (.iconst 1, 1) := by decide +kernel
theorem dL_law_928 : decode cL_law 928 = .ok (.iadd, 1) := by decide +kernel
theorem dL_law_929 : decode cL_law 929 = .ok (.iaload, 1) := by decide +kernel
theorem dL_law_930 : decode cL_law 930 = .ok (.aload_n 3, 1) := by decide +kernel
theorem dL_law_931 : decode cL_law 931 = .ok (.invokestatic 138, 3) := by decide +kernel
theorem dL_law_934 : decode cL_law 934 = .ok (.istore 5, 2) := by decide +kernel
theorem dL_law_936 : decode cL_law 936 = .ok (.aload_n 2, 1) := by decide +kernel
theorem dL_law_937 : decode cL_law 937 = .ok (.aload_n 0, 1) := by decide +kernel
theorem dL_law_938 : decode cL_law 938 = .ok (.iload 4, 2) := by decide +kernel
theorem dL_law_940 : decode cL_law 940 = .ok (.iconst 1, 1) := by decide +kernel
theorem dL_law_941 : decode cL_law 941 = .ok (.iadd, 1) := by decide +kernel
theorem dL_law_942 : decode cL_law 942 = .ok (.iaload, 1) := by decide +kernel
theorem dL_law_943 : decode cL_law 943 = .ok (.invokevirtual 140, 3) := by decide +kernel
theorem dL_law_946 : decode cL_law 946 = .ok (.istore 6, 2) := by decide +kernel
theorem dL_law_948 : decode cL_law 948 = .ok (.aload_n 2, 1) := by decide +kernel
theorem dL_law_949 : decode cL_law 949 = .ok (.invokevirtual 101, 3) := by decide +kernel
theorem dL_law_952 : decode cL_law 952 = .ok (.iload 5, 2) := by decide +kernel
theorem dL_law_954 : decode cL_law 954 = .ok (.if_icmp .eq 5, 3) := by decide +kernel
theorem dL_law_957 : decode cL_law 957 = .ok (.iconst 0, 1) := by decide +kernel
theorem dL_law_958 : decode cL_law 958 = .ok (.ireturn, 1) := by decide +kernel
theorem dL_law_959 : decode cL_law 959 = .ok (.iload 5, 2) := by decide +kernel
theorem dL_law_961 : decode cL_law 961 = .ok (.ifCond .ne 15, 3) := by decide +kernel
theorem dL_law_964 : decode cL_law 964 = .ok (.aload_n 3, 1) := by decide +kernel
theorem dL_law_965 : decode cL_law 965 = .ok (.iconst 0, 1) := by decide +kernel
theorem dL_law_966 : decode cL_law 966 = .ok (.laload, 1) := by decide +kernel
theorem dL_law_967 : decode cL_law 967 = .ok (.iload 6, 2) := by decide +kernel
theorem dL_law_969 : decode cL_law 969 = .ok (.i2l, 1) := by decide +kernel
theorem dL_law_970 : decode cL_law 970 = .ok (.lcmp, 1) := by decide +kernel
theorem dL_law_971 : decode cL_law 971 = .ok (.ifCond .eq 5, 3) := by decide +kernel
theorem dL_law_974 : decode cL_law 974 = .ok (.iconst 0, 1) := by decide +kernel
theorem dL_law_975 : decode cL_law 975 = .ok (.ireturn, 1) := by decide +kernel
theorem dL_law_976 : decode cL_law 976 = .ok (.goto 718, 3) := by decide +kernel
theorem dL_law_979 : decode cL_law 979 = .ok (.aload_n 1, 1) := by decide +kernel
theorem dL_law_980 : decode cL_law 980 = .ok (.aload_n 0, 1) := by decide +kernel
theorem dL_law_981 : decode cL_law 981 = .ok (.iload 4, 2) := by decide +kernel
theorem dL_law_983 : decode cL_law 983 = .ok (.iconst 1, 1) := by decide +kernel
theorem dL_law_984 : decode cL_law 984 = .ok (.iadd, 1) := by decide +kernel
theorem dL_law_985 : decode cL_law 985 = .ok (.iaload, 1) := by decide +kernel
theorem dL_law_986 : decode cL_law 986 = .ok (.aload_n 3, 1) := by decide +kernel
theorem dL_law_987 : decode cL_law 987 = .ok (.invokestatic 141, 3) := by decide +kernel
theorem dL_law_990 : decode cL_law 990 = .ok (.istore 5, 2) := by decide +kernel
theorem dL_law_992 : decode cL_law 992 = .ok (.aload_n 2, 1) := by decide +kernel
theorem dL_law_993 : decode cL_law 993 = .ok (.aload_n 0, 1) := by decide +kernel
theorem dL_law_994 : decode cL_law 994 = .ok (.iload 4, 2) := by decide +kernel
theorem dL_law_996 : decode cL_law 996 = .ok (.iconst 1, 1) := by decide +kernel
theorem dL_law_997 : decode cL_law 997 = .ok (.iadd, 1) := by decide +kernel
theorem dL_law_998 : decode cL_law 998 = .ok (.iaload, 1) := by decide +kernel
theorem dL_law_999 : decode cL_law 999 = .ok (.invokevirtual 143, 3) := by decide +kernel
theorem dL_law_1002 : decode cL_law 1002 = .ok (.istore 6, 2) := by decide +kernel
theorem dL_law_1004 : decode cL_law 1004 = .ok (.aload_n 2, 1) := by decide +kernel
theorem dL_law_1005 : decode cL_law 1005 = .ok (.invokevirtual 101, 3) := by decide +kernel
theorem dL_law_1008 : decode cL_law 1008 = .ok (.iload 5, 2) := by decide +kernel
theorem dL_law_1010 : decode cL_law 1010 = .ok (.if_icmp .eq 5, 3) := by decide +kernel
theorem dL_law_1013 : decode cL_law 1013 = .ok (.iconst 0, 1) := by decide +kernel
theorem dL_law_1014 : decode cL_law 1014 = .ok (.ireturn, 1) := by decide +kernel
theorem dL_law_1015 : decode cL_law 1015 = .ok (.iload 5, 2) := by decide +kernel
theorem dL_law_1017 : decode cL_law 1017 = .ok (.ifCond .ne 15, 3) := by decide +kernel
theorem dL_law_1020 : decode cL_law 1020 = .ok (.aload_n 3, 1) := by decide +kernel
theorem dL_law_1021 : decode cL_law 1021 = .ok (.iconst 0, 1) := by decide +kernel
theorem dL_law_1022 : decode cL_law 1022 = .ok (.laload, 1) := by decide +kernel
theorem dL_law_1023 : decode cL_law 1023 = .ok (.iload 6, 2) := by decide +kernel
theorem dL_law_1025 : decode cL_law 1025 = .ok (.i2l, 1) := by decide +kernel
theorem dL_law_1026 : decode cL_law 1026 = .ok (.lcmp, 1) := by decide +kernel
theorem dL_law_1027 : decode cL_law 1027 = .ok (.ifCond .eq 5, 3) := by decide +kernel
theorem dL_law_1030 : decode cL_law 1030 = .ok (.iconst 0, 1) := by decide +kernel
theorem dL_law_1031 : decode cL_law 1031 = .ok (.ireturn, 1) := by decide +kernel
theorem dL_law_1032 : decode cL_law 1032 = .ok (.goto 662, 3) := by decide +kernel
theorem dL_law_1035 : decode cL_law 1035 = .ok (.aload_n 1, 1) := by decide +kernel
theorem dL_law_1036 : decode cL_law 1036 = .ok (.aload_n 0, 1) := by decide +kernel
theorem dL_law_1037 : decode cL_law 1037 = .ok (.iload 4, 2) := by decide +kernel
theorem dL_law_1039 : decode cL_law 1039 = .ok (.iconst 1, 1) := by decide +kernel
theorem dL_law_1040 : decode cL_law 1040 = .ok (.iadd, 1) := by decide +kernel
theorem dL_law_1041 : decode cL_law 1041 = .ok (.iaload, 1) := by decide +kernel
theorem dL_law_1042 : decode cL_law 1042 = .ok (.aload_n 3, 1) := by decide +kernel
theorem dL_law_1043 : decode cL_law 1043 = .ok (.invokestatic 144, 3) := by decide +kernel
theorem dL_law_1046 : decode cL_law 1046 = .ok (.istore 5, 2) := by decide +kernel
theorem dL_law_1048 : decode cL_law 1048 = .ok (.aload_n 2, 1) := by decide +kernel
theorem dL_law_1049 : decode cL_law 1049 = .ok (.aload_n 0, 1) := by decide +kernel
theorem dL_law_1050 : decode cL_law 1050 = .ok (.iload 4, 2) := by decide +kernel
theorem dL_law_1052 : decode cL_law 1052 = .ok (.iconst 1, 1) := by decide +kernel
theorem dL_law_1053 : decode cL_law 1053 = .ok (.iadd, 1) := by decide +kernel
theorem dL_law_1054 : decode cL_law 1054 = .ok (.iaload, 1) := by decide +kernel
theorem dL_law_1055 : decode cL_law 1055 = .ok (.invokevirtual 146, 3) := by decide +kernel
theorem dL_law_1058 : decode cL_law 1058 = .ok (.istore 6, 2) := by decide +kernel
theorem dL_law_1060 : decode cL_law 1060 = .ok (.aload_n 2, 1) := by decide +kernel
theorem dL_law_1061 : decode cL_law 1061 = .ok (.invokevirtual 101, 3) := by decide +kernel
theorem dL_law_1064 : decode cL_law 1064 = .ok (.iload 5, 2) := by decide +kernel
theorem dL_law_1066 : decode cL_law 1066 = .ok (.if_icmp .eq 5, 3) := by decide +kernel
theorem dL_law_1069 : decode cL_law 1069 = .ok (.iconst 0, 1) := by decide +kernel
theorem dL_law_1070 : decode cL_law 1070 = .ok (.ireturn, 1) := by decide +kernel
theorem dL_law_1071 : decode cL_law 1071 = .ok (.iload 5, 2) := by decide +kernel
theorem dL_law_1073 : decode cL_law 1073 = .ok (.ifCond .ne 15, 3) := by decide +kernel
theorem dL_law_1076 : decode cL_law 1076 = .ok (.aload_n 3, 1) := by decide +kernel
theorem dL_law_1077 : decode cL_law 1077 = .ok (.iconst 0, 1) := by decide +kernel
theorem dL_law_1078 : decode cL_law 1078 = .ok (.laload, 1) := by decide +kernel
theorem dL_law_1079 : decode cL_law 1079 = .ok (.iload 6, 2) := by decide +kernel
theorem dL_law_1081 : decode cL_law 1081 = .ok (.i2l, 1) := by decide +kernel
theorem dL_law_1082 : decode cL_law 1082 = .ok (.lcmp, 1) := by decide +kernel
theorem dL_law_1083 : decode cL_law 1083 = .ok (.ifCond .eq 5, 3) := by decide +kernel
theorem dL_law_1086 : decode cL_law 1086 = .ok (.iconst 0, 1) := by decide +kernel
theorem dL_law_1087 : decode cL_law 1087 = .ok (.ireturn, 1) := by decide +kernel
theorem dL_law_1088 : decode cL_law 1088 = .ok (.goto 606, 3) := by decide +kernel
theorem dL_law_1091 : decode cL_law 1091 = .ok (.aload_n 1, 1) := by decide +kernel
theorem dL_law_1092 : decode cL_law 1092 = .ok (.aload_n 0, 1) := by decide +kernel
theorem dL_law_1093 : decode cL_law 1093 = .ok (.iload 4, 2) := by decide +kernel
theorem dL_law_1095 : decode cL_law 1095 = .ok (.iconst 1, 1) := by decide +kernel
theorem dL_law_1096 : decode cL_law 1096 = .ok (.iadd, 1) := by decide +kernel
theorem dL_law_1097 : decode cL_law 1097 = .ok (.iaload, 1) := by decide +kernel
theorem dL_law_1098 : decode cL_law 1098 = .ok (.aload_n 3, 1) := by decide +kernel
theorem dL_law_1099 : decode cL_law 1099 = .ok (.invokestatic 147, 3) := by decide +kernel
theorem dL_law_1102 : decode cL_law 1102 = .ok (.istore 5, 2) := by decide +kernel
theorem dL_law_1104 : decode cL_law 1104 = .ok (.aload_n 2, 1) := by decide +kernel
theorem dL_law_1105 : decode cL_law 1105 = .ok (.aload_n 0, 1) := by decide +kernel
theorem dL_law_1106 : decode cL_law 1106 = .ok (.iload 4, 2) := by decide +kernel
theorem dL_law_1108 : decode cL_law 1108 = .ok (.iconst 1, 1) := by decide +kernel
theorem dL_law_1109 : decode cL_law 1109 = .ok (.iadd, 1) := by decide +kernel
theorem dL_law_1110 : decode cL_law 1110 = .ok (.iaload, 1) := by decide +kernel
theorem dL_law_1111 : decode cL_law 1111 = .ok (.invokevirtual 149, 3) := by decide +kernel
theorem dL_law_1114 : decode cL_law 1114 = .ok (.istore 6, 2) := by decide +kernel
theorem dL_law_1116 : decode cL_law 1116 = .ok (.aload_n 2, 1) := by decide +kernel
theorem dL_law_1117 : decode cL_law 1117 = .ok (.invokevirtual 101, 3) := by decide +kernel
theorem dL_law_1120 : decode cL_law 1120 = .ok (.iload 5, 2) := by decide +kernel
theorem dL_law_1122 : decode cL_law 1122 = .ok (.if_icmp .eq 5, 3) := by decide +kernel
theorem dL_law_1125 : decode cL_law 1125 = .ok (.iconst 0, 1) := by decide +kernel
theorem dL_law_1126 : decode cL_law 1126 = .ok (.ireturn, 1) := by decide +kernel
theorem dL_law_1127 : decode cL_law 1127 = .ok (.iload 5, 2) := by decide +kernel
theorem dL_law_1129 : decode cL_law 1129 = .ok (.ifCond .ne 15, 3) := by decide +kernel
theorem dL_law_1132 : decode cL_law 1132 = .ok (.aload_n 3, 1) := by decide +kernel
theorem dL_law_1133 : decode cL_law 1133 = .ok (.iconst 0, 1) := by decide +kernel
theorem dL_law_1134 : decode cL_law 1134 = .ok (.laload, 1) := by decide +kernel
theorem dL_law_1135 : decode cL_law 1135 = .ok (.iload 6, 2) := by decide +kernel
theorem dL_law_1137 : decode cL_law 1137 = .ok (.i2l, 1) := by decide +kernel
theorem dL_law_1138 : decode cL_law 1138 = .ok (.lcmp, 1) := by decide +kernel
theorem dL_law_1139 : decode cL_law 1139 = .ok (.ifCond .eq 5, 3) := by decide +kernel
theorem dL_law_1142 : decode cL_law 1142 = .ok (.iconst 0, 1) := by decide +kernel
theorem dL_law_1143 : decode cL_law 1143 = .ok (.ireturn, 1) := by decide +kernel
theorem dL_law_1144 : decode cL_law 1144 = .ok (.goto 550, 3) := by decide +kernel
theorem dL_law_1147 : decode cL_law 1147 = .ok (.aload_n 1, 1) := by decide +kernel
theorem dL_law_1148 : decode cL_law 1148 = .ok (.aload_n 0, 1) := by decide +kernel
theorem dL_law_1149 : decode cL_law 1149 = .ok (.iload 4, 2) := by decide +kernel
theorem dL_law_1151 : decode cL_law 1151 = .ok (.iconst 1, 1) := by decide +kernel
theorem dL_law_1152 : decode cL_law 1152 = .ok (.iadd, 1) := by decide +kernel
theorem dL_law_1153 : decode cL_law 1153 = .ok (.iaload, 1) := by decide +kernel
theorem dL_law_1154 : decode cL_law 1154 = .ok (.aload_n 0, 1) := by decide +kernel
theorem dL_law_1155 : decode cL_law 1155 = .ok (.iload 4, 2) := by decide +kernel
theorem dL_law_1157 : decode cL_law 1157 = .ok (.iconst 2, 1) := by decide +kernel
theorem dL_law_1158 : decode cL_law 1158 = .ok (.iadd, 1) := by decide +kernel
theorem dL_law_1159 : decode cL_law 1159 = .ok (.iaload, 1) := by decide +kernel
theorem dL_law_1160 : decode cL_law 1160 = .ok (.aload_n 3, 1) := by decide +kernel
theorem dL_law_1161 : decode cL_law 1161 = .ok (.invokestatic 150, 3) := by decide +kernel
theorem dL_law_1164 : decode cL_law 1164 = .ok (.istore 5, 2) := by decide +kernel
theorem dL_law_1166 : decode cL_law 1166 = .ok (.aload_n 2, 1) := by decide +kernel
theorem dL_law_1167 : decode cL_law 1167 = .ok (.aload_n 0, 1) := by decide +kernel
theorem dL_law_1168 : decode cL_law 1168 = .ok (.iload 4, 2) := by decide +kernel
theorem dL_law_1170 : decode cL_law 1170 = .ok (.iconst 1, 1) := by decide +kernel
theorem dL_law_1171 : decode cL_law 1171 = .ok (.iadd, 1) := by decide +kernel
theorem dL_law_1172 : decode cL_law 1172 = .ok (.iaload, 1) := by decide +kernel
theorem dL_law_1173 : decode cL_law 1173 = .ok (.aload_n 0, 1) := by decide +kernel
theorem dL_law_1174 : decode cL_law 1174 = .ok (.iload 4, 2) := by decide +kernel
theorem dL_law_1176 : decode cL_law 1176 = .ok (.iconst 2, 1) := by decide +kernel
theorem dL_law_1177 : decode cL_law 1177 = .ok (.iadd, 1) := by decide +kernel
theorem dL_law_1178 : decode cL_law 1178 = .ok (.iaload, 1) := by decide +kernel
theorem dL_law_1179 : decode cL_law 1179 = .ok (.invokevirtual 152, 3) := by decide +kernel
theorem dL_law_1182 : decode cL_law 1182 = .ok (.istore 6, 2) := by decide +kernel
theorem dL_law_1184 : decode cL_law 1184 = .ok (.aload_n 2, 1) := by decide +kernel
theorem dL_law_1185 : decode cL_law 1185 = .ok (.invokevirtual 101, 3) := by decide +kernel
theorem dL_law_1188 : decode cL_law 1188 = .ok (.iload 5, 2) := by decide +kernel
theorem dL_law_1190 : decode cL_law 1190 = .ok (.if_icmp .eq 5, 3) := by decide +kernel
theorem dL_law_1193 : decode cL_law 1193 = .ok (.iconst 0, 1) := by decide +kernel
theorem dL_law_1194 : decode cL_law 1194 = .ok (.ireturn, 1) := by decide +kernel
theorem dL_law_1195 : decode cL_law 1195 = .ok (.iload 5, 2) := by decide +kernel
theorem dL_law_1197 : decode cL_law 1197 = .ok (.ifCond .ne 15, 3) := by decide +kernel
theorem dL_law_1200 : decode cL_law 1200 = .ok (.aload_n 3, 1) := by decide +kernel
theorem dL_law_1201 : decode cL_law 1201 = .ok (.iconst 0, 1) := by decide +kernel
theorem dL_law_1202 : decode cL_law 1202 = .ok (.laload, 1) := by decide +kernel
theorem dL_law_1203 : decode cL_law 1203 = .ok (.iload 6, 2) := by decide +kernel
theorem dL_law_1205 : decode cL_law 1205 = .ok (.i2l, 1) := by decide +kernel
theorem dL_law_1206 : decode cL_law 1206 = .ok (.lcmp, 1) := by decide +kernel
theorem dL_law_1207 : decode cL_law 1207 = .ok (.ifCond .eq 5, 3) := by decide +kernel
theorem dL_law_1210 : decode cL_law 1210 = .ok (.iconst 0, 1) := by decide +kernel
theorem dL_law_1211 : decode cL_law 1211 = .ok (.ireturn, 1) := by decide +kernel
theorem dL_law_1212 : decode cL_law 1212 = .ok (.goto 482, 3) := by decide +kernel
theorem dL_law_1215 : decode cL_law 1215 = .ok (.aload_n 1, 1) := by decide +kernel
theorem dL_law_1216 : decode cL_law 1216 = .ok (.aload_n 0, 1) := by decide +kernel
theorem dL_law_1217 : decode cL_law 1217 = .ok (.iload 4, 2) := by decide +kernel
theorem dL_law_1219 : decode cL_law 1219 = .ok (.iconst 1, 1) := by decide +kernel
theorem dL_law_1220 : decode cL_law 1220 = .ok (.iadd, 1) := by decide +kernel
theorem dL_law_1221 : decode cL_law 1221 = .ok (.iaload, 1) := by decide +kernel
theorem dL_law_1222 : decode cL_law 1222 = .ok (.aload_n 0, 1) := by decide +kernel
theorem dL_law_1223 : decode cL_law 1223 = .ok (.iload 4, 2) := by decide +kernel
theorem dL_law_1225 : decode cL_law 1225 = .ok (.iconst 2, 1) := by decide +kernel
theorem dL_law_1226 : decode cL_law 1226 = .ok (.iadd, 1) := by decide +kernel
theorem dL_law_1227 : decode cL_law 1227 = .ok (.iaload, 1) := by decide +kernel
theorem dL_law_1228 : decode cL_law 1228 = .ok (.aload_n 3, 1) := by decide +kernel
theorem dL_law_1229 : decode cL_law 1229 = .ok (.invokestatic 153, 3) := by decide +kernel
theorem dL_law_1232 : decode cL_law 1232 = .ok (.istore 5, 2) := by decide +kernel
theorem dL_law_1234 : decode cL_law 1234 = .ok (.aload_n 2, 1) := by decide +kernel
theorem dL_law_1235 : decode cL_law 1235 = .ok (.aload_n 0, 1) := by decide +kernel
theorem dL_law_1236 : decode cL_law 1236 = .ok (.iload 4, 2) := by decide +kernel
theorem dL_law_1238 : decode cL_law 1238 = .ok (.iconst 1, 1) := by decide +kernel
theorem dL_law_1239 : decode cL_law 1239 = .ok (.iadd, 1) := by decide +kernel
theorem dL_law_1240 : decode cL_law 1240 = .ok (.iaload, 1) := by decide +kernel
theorem dL_law_1241 : decode cL_law 1241 = .ok (.aload_n 0, 1) := by decide +kernel
theorem dL_law_1242 : decode cL_law 1242 = .ok (.iload 4, 2) := by decide +kernel
theorem dL_law_1244 : decode cL_law 1244 = .ok (.iconst 2, 1) := by decide +kernel
theorem dL_law_1245 : decode cL_law 1245 = .ok (.iadd, 1) := by decide +kernel
theorem dL_law_1246 : decode cL_law 1246 = .ok (.iaload, 1) := by decide +kernel
theorem dL_law_1247 : decode cL_law 1247 = .ok (.invokevirtual 155, 3) := by decide +kernel
theorem dL_law_1250 : decode cL_law 1250 = .ok (.istore 6, 2) := by decide +kernel
theorem dL_law_1252 : decode cL_law 1252 = .ok (.aload_n 2, 1) := by decide +kernel
theorem dL_law_1253 : decode cL_law 1253 = .ok (.invokevirtual 101, 3) := by decide +kernel
theorem dL_law_1256 : decode cL_law 1256 = .ok (.iload 5, 2) := by decide +kernel
theorem dL_law_1258 : decode cL_law 1258 = .ok (.if_icmp .eq 5, 3) := by decide +kernel
theorem dL_law_1261 : decode cL_law 1261 = .ok (.iconst 0, 1) := by decide +kernel
theorem dL_law_1262 : decode cL_law 1262 = .ok (.ireturn, 1) := by decide +kernel
theorem dL_law_1263 : decode cL_law 1263 = .ok (.iload 5, 2) := by decide +kernel
theorem dL_law_1265 : decode cL_law 1265 = .ok (.ifCond .ne 15, 3) := by decide +kernel
theorem dL_law_1268 : decode cL_law 1268 = .ok (.aload_n 3, 1) := by decide +kernel
theorem dL_law_1269 : decode cL_law 1269 = .ok (.iconst 0, 1) := by decide +kernel
theorem dL_law_1270 : decode cL_law 1270 = .ok (.laload, 1) := by decide +kernel
theorem dL_law_1271 : decode cL_law 1271 = .ok (.iload 6, 2) := by decide +kernel
theorem dL_law_1273 : decode cL_law 1273 = .ok (.i2l, 1) := by decide +kernel
theorem dL_law_1274 : decode cL_law 1274 = .ok (.lcmp, 1) := by decide +kernel
theorem dL_law_1275 : decode cL_law 1275 = .ok (.ifCond .eq 5, 3) := by decide +kernel
theorem dL_law_1278 : decode cL_law 1278 = .ok (.iconst 0, 1) := by decide +kernel
theorem dL_law_1279 : decode cL_law 1279 = .ok (.ireturn, 1) := by decide +kernel
theorem dL_law_1280 : decode cL_law 1280 = .ok (.goto 414, 3) := by decide +kernel
theorem dL_law_1283 : decode cL_law 1283 = .ok (.aload_n 1, 1) := by decide +kernel
theorem dL_law_1284 : decode cL_law 1284 = .ok (.aload_n 0, 1) := by decide +kernel
theorem dL_law_1285 : decode cL_law 1285 = .ok (.iload 4, 2) := by decide +kernel
theorem dL_law_1287 : decode cL_law 1287 = .ok (.iconst 1, 1) := by decide +kernel
theorem dL_law_1288 : decode cL_law 1288 = .ok (.iadd, 1) := by decide +kernel
theorem dL_law_1289 : decode cL_law 1289 = .ok (.iaload, 1) := by decide +kernel
theorem dL_law_1290 : decode cL_law 1290 = .ok (.aload_n 0, 1) := by decide +kernel
theorem dL_law_1291 : decode cL_law 1291 = .ok (.iload 4, 2) := by decide +kernel
theorem dL_law_1293 : decode cL_law 1293 = .ok (.iconst 2, 1) := by decide +kernel
theorem dL_law_1294 : decode cL_law 1294 = .ok (.iadd, 1) := by decide +kernel
theorem dL_law_1295 : decode cL_law 1295 = .ok (.iaload, 1) := by decide +kernel
theorem dL_law_1296 : decode cL_law 1296 = .ok (.aload_n 0, 1) := by decide +kernel
theorem dL_law_1297 : decode cL_law 1297 = .ok (.iload 4, 2) := by decide +kernel
theorem dL_law_1299 : decode cL_law 1299 = .ok (.iconst 3, 1) := by decide +kernel
theorem dL_law_1300 : decode cL_law 1300 = .ok (.iadd, 1) := by decide +kernel
theorem dL_law_1301 : decode cL_law 1301 = .ok (.iaload, 1) := by decide +kernel
theorem dL_law_1302 : decode cL_law 1302 = .ok (.aload_n 3, 1) := by decide +kernel
theorem dL_law_1303 : decode cL_law 1303 = .ok (.invokestatic 156, 3) := by decide +kernel
theorem dL_law_1306 : decode cL_law 1306 = .ok (.istore 5, 2) := by decide +kernel
theorem dL_law_1308 : decode cL_law 1308 = .ok (.aload_n 2, 1) := by decide +kernel
theorem dL_law_1309 : decode cL_law 1309 = .ok (.aload_n 0, 1) := by decide +kernel
theorem dL_law_1310 : decode cL_law 1310 = .ok (.iload 4, 2) := by decide +kernel
theorem dL_law_1312 : decode cL_law 1312 = .ok (.iconst 1, 1) := by decide +kernel
theorem dL_law_1313 : decode cL_law 1313 = .ok (.iadd, 1) := by decide +kernel
theorem dL_law_1314 : decode cL_law 1314 = .ok (.iaload, 1) := by decide +kernel
theorem dL_law_1315 : decode cL_law 1315 = .ok (.aload_n 0, 1) := by decide +kernel
theorem dL_law_1316 : decode cL_law 1316 = .ok (.iload 4, 2) := by decide +kernel
theorem dL_law_1318 : decode cL_law 1318 = .ok (.iconst 2, 1) := by decide +kernel
theorem dL_law_1319 : decode cL_law 1319 = .ok (.iadd, 1) := by decide +kernel
theorem dL_law_1320 : decode cL_law 1320 = .ok (.iaload, 1) := by decide +kernel
theorem dL_law_1321 : decode cL_law 1321 = .ok (.aload_n 0, 1) := by decide +kernel
theorem dL_law_1322 : decode cL_law 1322 = .ok (.iload 4, 2) := by decide +kernel
theorem dL_law_1324 : decode cL_law 1324 = .ok (.iconst 3, 1) := by decide +kernel
theorem dL_law_1325 : decode cL_law 1325 = .ok (.iadd, 1) := by decide +kernel
theorem dL_law_1326 : decode cL_law 1326 = .ok (.iaload, 1) := by decide +kernel
theorem dL_law_1327 : decode cL_law 1327 = .ok (.invokevirtual 158, 3) := by decide +kernel
theorem dL_law_1330 : decode cL_law 1330 = .ok (.istore 6, 2) := by decide +kernel
theorem dL_law_1332 : decode cL_law 1332 = .ok (.aload_n 2, 1) := by decide +kernel
theorem dL_law_1333 : decode cL_law 1333 = .ok (.invokevirtual 101, 3) := by decide +kernel
theorem dL_law_1336 : decode cL_law 1336 = .ok (.iload 5, 2) := by decide +kernel
theorem dL_law_1338 : decode cL_law 1338 = .ok (.if_icmp .eq 5, 3) := by decide +kernel
theorem dL_law_1341 : decode cL_law 1341 = .ok (.iconst 0, 1) := by decide +kernel
theorem dL_law_1342 : decode cL_law 1342 = .ok (.ireturn, 1) := by decide +kernel
theorem dL_law_1343 : decode cL_law 1343 = .ok (.iload 5, 2) := by decide +kernel
theorem dL_law_1345 : decode cL_law 1345 = .ok (.ifCond .ne 15, 3) := by decide +kernel
theorem dL_law_1348 : decode cL_law 1348 = .ok (.aload_n 3, 1) := by decide +kernel
theorem dL_law_1349 : decode cL_law 1349 = .ok (.iconst 0, 1) := by decide +kernel
theorem dL_law_1350 : decode cL_law 1350 = .ok (.laload, 1) := by decide +kernel
theorem dL_law_1351 : decode cL_law 1351 = .ok (.iload 6, 2) := by decide +kernel
theorem dL_law_1353 : decode cL_law 1353 = .ok (.i2l, 1) := by decide +kernel
theorem dL_law_1354 : decode cL_law 1354 = .ok (.lcmp, 1) := by decide +kernel
theorem dL_law_1355 : decode cL_law 1355 = .ok (.ifCond .eq 5, 3) := by decide +kernel
theorem dL_law_1358 : decode cL_law 1358 = .ok (.iconst 0, 1) := by decide +kernel
theorem dL_law_1359 : decode cL_law 1359 = .ok (.ireturn, 1) := by decide +kernel
theorem dL_law_1360 : decode cL_law 1360 = .ok (.goto 334, 3) := by decide +kernel
theorem dL_law_1363 : decode cL_law 1363 = .ok (.aload_n 1, 1) := by decide +kernel
theorem dL_law_1364 : decode cL_law 1364 = .ok (.aload_n 0, 1) := by decide +kernel
theorem dL_law_1365 : decode cL_law 1365 = .ok (.iload 4, 2) := by decide +kernel
theorem dL_law_1367 : decode cL_law 1367 = .ok (.iconst 1, 1) := by decide +kernel
theorem dL_law_1368 : decode cL_law 1368 = .ok (.iadd, 1) := by decide +kernel
theorem dL_law_1369 : decode cL_law 1369 = .ok (.iaload, 1) := by decide +kernel
theorem dL_law_1370 : decode cL_law 1370 = .ok (.aload_n 0, 1) := by decide +kernel
theorem dL_law_1371 : decode cL_law 1371 = .ok (.iload 4, 2) := by decide +kernel
theorem dL_law_1373 : decode cL_law 1373 = .ok (.iconst 2, 1) := by decide +kernel
theorem dL_law_1374 : decode cL_law 1374 = .ok (.iadd, 1) := by decide +kernel
theorem dL_law_1375 : decode cL_law 1375 = .ok (.iaload, 1) := by decide +kernel
theorem dL_law_1376 : decode cL_law 1376 = .ok (.aload_n 3, 1) := by decide +kernel
theorem dL_law_1377 : decode cL_law 1377 = .ok (.invokestatic 159, 3) := by decide +kernel
theorem dL_law_1380 : decode cL_law 1380 = .ok (.istore 5, 2) := by decide +kernel
theorem dL_law_1382 : decode cL_law 1382 = .ok (.aload_n 2, 1) := by decide +kernel
theorem dL_law_1383 : decode cL_law 1383 = .ok (.aload_n 0, 1) := by decide +kernel
theorem dL_law_1384 : decode cL_law 1384 = .ok (.iload 4, 2) := by decide +kernel
theorem dL_law_1386 : decode cL_law 1386 = .ok (.iconst 1, 1) := by decide +kernel
theorem dL_law_1387 : decode cL_law 1387 = .ok (.iadd, 1) := by decide +kernel
theorem dL_law_1388 : decode cL_law 1388 = .ok (.iaload, 1) := by decide +kernel
theorem dL_law_1389 : decode cL_law 1389 = .ok (.aload_n 0, 1) := by decide +kernel
theorem dL_law_1390 : decode cL_law 1390 = .ok (.iload 4, 2) := by decide +kernel
theorem dL_law_1392 : decode cL_law 1392 = .ok (.iconst 2, 1) := by decide +kernel
theorem dL_law_1393 : decode cL_law 1393 = .ok (.iadd, 1) := by decide +kernel
theorem dL_law_1394 : decode cL_law 1394 = .ok (.iaload, 1) := by decide +kernel
theorem dL_law_1395 : decode cL_law 1395 = .ok (.invokevirtual 161, 3) := by decide +kernel
theorem dL_law_1398 : decode cL_law 1398 = .ok (.istore 6, 2) := by decide +kernel
theorem dL_law_1400 : decode cL_law 1400 = .ok (.aload_n 2, 1) := by decide +kernel
theorem dL_law_1401 : decode cL_law 1401 = .ok (.invokevirtual 101, 3) := by decide +kernel
theorem dL_law_1404 : decode cL_law 1404 = .ok (.iload 5, 2) := by decide +kernel
theorem dL_law_1406 : decode cL_law 1406 = .ok (.if_icmp .eq 5, 3) := by decide +kernel
theorem dL_law_1409 : decode cL_law 1409 = .ok (.iconst 0, 1) := by decide +kernel
theorem dL_law_1410 : decode cL_law 1410 = .ok (.ireturn, 1) := by decide +kernel
theorem dL_law_1411 : decode cL_law 1411 = .ok (.iload 5, 2) := by decide +kernel
theorem dL_law_1413 : decode cL_law 1413 = .ok (.ifCond .ne 22, 3) := by decide +kernel
theorem dL_law_1416 : decode cL_law 1416 = .ok (.aload_n 3, 1) := by decide +kernel
theorem dL_law_1417 : decode cL_law 1417 = .ok (.iconst 0, 1) := by decide +kernel
theorem dL_law_1418 : decode cL_law 1418 = .ok (.laload, 1) := by decide +kernel
theorem dL_law_1419 : decode cL_law 1419 = .ok (.iload 6, 2) := by decide +kernel
theorem dL_law_1421 : decode cL_law 1421 = .ok (.ifCond .eq 7, 3) := by decide +kernel
theorem dL_law_1424 : decode cL_law 1424 = .ok (.lconst 1, 1) := by decide +kernel
theorem dL_law_1425 : decode cL_law 1425 = .ok (.goto 4, 3) := by decide +kernel
theorem dL_law_1428 : decode cL_law 1428 = .ok (.lconst 0, 1) := by decide +kernel
theorem dL_law_1429 : decode cL_law 1429 = .ok (.lcmp, 1) := by decide +kernel
theorem dL_law_1430 : decode cL_law 1430 = .ok (.ifCond .eq 5, 3) := by decide +kernel
theorem dL_law_1433 : decode cL_law 1433 = .ok (.iconst 0, 1) := by decide +kernel
theorem dL_law_1434 : decode cL_law 1434 = .ok (.ireturn, 1) := by decide +kernel
theorem dL_law_1435 : decode cL_law 1435 = .ok (.goto 259, 3) := by decide +kernel
theorem dL_law_1438 : decode cL_law 1438 = .ok (.aload_n 1, 1) := by decide +kernel
theorem dL_law_1439 : decode cL_law 1439 = .ok (.aload_n 0, 1) := by decide +kernel
theorem dL_law_1440 : decode cL_law 1440 = .ok (.iload 4, 2) := by decide +kernel
theorem dL_law_1442 : decode cL_law 1442 = .ok (.iconst 1, 1) := by decide +kernel
theorem dL_law_1443 : decode cL_law 1443 = .ok (.iadd, 1) := by decide +kernel
theorem dL_law_1444 : decode cL_law 1444 = .ok (.iaload, 1) := by decide +kernel
theorem dL_law_1445 : decode cL_law 1445 = .ok (.aload_n 0, 1) := by decide +kernel
theorem dL_law_1446 : decode cL_law 1446 = .ok (.iload 4, 2) := by decide +kernel
theorem dL_law_1448 : decode cL_law 1448 = .ok (.iconst 2, 1) := by decide +kernel
theorem dL_law_1449 : decode cL_law 1449 = .ok (.iadd, 1) := by decide +kernel
theorem dL_law_1450 : decode cL_law 1450 = .ok (.iaload, 1) := by decide +kernel
theorem dL_law_1451 : decode cL_law 1451 = .ok (.aload_n 3, 1) := by decide +kernel
theorem dL_law_1452 : decode cL_law 1452 = .ok (.invokestatic 162, 3) := by decide +kernel
theorem dL_law_1455 : decode cL_law 1455 = .ok (.istore 5, 2) := by decide +kernel
theorem dL_law_1457 : decode cL_law 1457 = .ok (.aload_n 2, 1) := by decide +kernel
theorem dL_law_1458 : decode cL_law 1458 = .ok (.aload_n 0, 1) := by decide +kernel
theorem dL_law_1459 : decode cL_law 1459 = .ok (.iload 4, 2) := by decide +kernel
theorem dL_law_1461 : decode cL_law 1461 = .ok (.iconst 1, 1) := by decide +kernel
theorem dL_law_1462 : decode cL_law 1462 = .ok (.iadd, 1) := by decide +kernel
theorem dL_law_1463 : decode cL_law 1463 = .ok (.iaload, 1) := by decide +kernel
theorem dL_law_1464 : decode cL_law 1464 = .ok (.aload_n 0, 1) := by decide +kernel
theorem dL_law_1465 : decode cL_law 1465 = .ok (.iload 4, 2) := by decide +kernel
theorem dL_law_1467 : decode cL_law 1467 = .ok (.iconst 2, 1) := by decide +kernel
theorem dL_law_1468 : decode cL_law 1468 = .ok (.iadd, 1) := by decide +kernel
theorem dL_law_1469 : decode cL_law 1469 = .ok (.iaload, 1) := by decide +kernel
theorem dL_law_1470 : decode cL_law 1470 = .ok (.invokevirtual 164, 3) := by decide +kernel
theorem dL_law_1473 : decode cL_law 1473 = .ok (.lstore 6, 2) := by decide +kernel
theorem dL_law_1475 : decode cL_law 1475 = .ok (.aload_n 2, 1) := by decide +kernel
theorem dL_law_1476 : decode cL_law 1476 = .ok (.invokevirtual 101, 3) := by decide +kernel
theorem dL_law_1479 : decode cL_law 1479 = .ok (.iload 5, 2) := by decide +kernel
theorem dL_law_1481 : decode cL_law 1481 = .ok (.if_icmp .eq 5, 3) := by decide +kernel
theorem dL_law_1484 : decode cL_law 1484 = .ok (.iconst 0, 1) := by decide +kernel
theorem dL_law_1485 : decode cL_law 1485 = .ok (.ireturn, 1) := by decide +kernel
theorem dL_law_1486 : decode cL_law 1486 = .ok (.iload 5, 2) := by decide +kernel
theorem dL_law_1488 : decode cL_law 1488 = .ok (.ifCond .ne 14, 3) := by decide +kernel
theorem dL_law_1491 : decode cL_law 1491 = .ok (.aload_n 3, 1) := by decide +kernel
theorem dL_law_1492 : decode cL_law 1492 = .ok (.iconst 0, 1) := by decide +kernel
theorem dL_law_1493 : decode cL_law 1493 = .ok (.laload, 1) := by decide +kernel
theorem dL_law_1494 : decode cL_law 1494 = .ok (.lload 6, 2) := by decide +kernel
theorem dL_law_1496 : decode cL_law 1496 = .ok (.lcmp, 1) := by decide +kernel
theorem dL_law_1497 : decode cL_law 1497 = .ok (.ifCond .eq 5, 3) := by decide +kernel
theorem dL_law_1500 : decode cL_law 1500 = .ok (.iconst 0, 1) := by decide +kernel
theorem dL_law_1501 : decode cL_law 1501 = .ok (.ireturn, 1) := by decide +kernel
theorem dL_law_1502 : decode cL_law 1502 = .ok (.goto 192, 3) := by decide +kernel
theorem dL_law_1505 : decode cL_law 1505 = .ok (.aload_n 1, 1) := by decide +kernel
theorem dL_law_1506 : decode cL_law 1506 = .ok (.aload_n 0, 1) := by decide +kernel
theorem dL_law_1507 : decode cL_law 1507 = .ok (.iload 4, 2) := by decide +kernel
theorem dL_law_1509 : decode cL_law 1509 = .ok (.iconst 1, 1) := by decide +kernel
theorem dL_law_1510 : decode cL_law 1510 = .ok (.iadd, 1) := by decide +kernel
theorem dL_law_1511 : decode cL_law 1511 = .ok (.iaload, 1) := by decide +kernel
theorem dL_law_1512 : decode cL_law 1512 = .ok (.aload_n 0, 1) := by decide +kernel
theorem dL_law_1513 : decode cL_law 1513 = .ok (.iload 4, 2) := by decide +kernel
theorem dL_law_1515 : decode cL_law 1515 = .ok (.iconst 2, 1) := by decide +kernel
theorem dL_law_1516 : decode cL_law 1516 = .ok (.iadd, 1) := by decide +kernel
theorem dL_law_1517 : decode cL_law 1517 = .ok (.iaload, 1) := by decide +kernel
theorem dL_law_1518 : decode cL_law 1518 = .ok (.aload_n 3, 1) := by decide +kernel
theorem dL_law_1519 : decode cL_law 1519 = .ok (.invokestatic 165, 3) := by decide +kernel
theorem dL_law_1522 : decode cL_law 1522 = .ok (.istore 5, 2) := by decide +kernel
theorem dL_law_1524 : decode cL_law 1524 = .ok (.aload_n 2, 1) := by decide +kernel
theorem dL_law_1525 : decode cL_law 1525 = .ok (.aload_n 0, 1) := by decide +kernel
theorem dL_law_1526 : decode cL_law 1526 = .ok (.iload 4, 2) := by decide +kernel
theorem dL_law_1528 : decode cL_law 1528 = .ok (.iconst 1, 1) := by decide +kernel
theorem dL_law_1529 : decode cL_law 1529 = .ok (.iadd, 1) := by decide +kernel
theorem dL_law_1530 : decode cL_law 1530 = .ok (.iaload, 1) := by decide +kernel
theorem dL_law_1531 : decode cL_law 1531 = .ok (.aload_n 0, 1) := by decide +kernel
theorem dL_law_1532 : decode cL_law 1532 = .ok (.iload 4, 2) := by decide +kernel
theorem dL_law_1534 : decode cL_law 1534 = .ok (.iconst 2, 1) := by decide +kernel
theorem dL_law_1535 : decode cL_law 1535 = .ok (.iadd, 1) := by decide +kernel
theorem dL_law_1536 : decode cL_law 1536 = .ok (.iaload, 1) := by decide +kernel
theorem dL_law_1537 : decode cL_law 1537 = .ok (.invokevirtual 167, 3) := by decide +kernel
theorem dL_law_1540 : decode cL_law 1540 = .ok (.lstore 6, 2) := by decide +kernel
theorem dL_law_1542 : decode cL_law 1542 = .ok (.aload_n 2, 1) := by decide +kernel
theorem dL_law_1543 : decode cL_law 1543 = .ok (.invokevirtual 101, 3) := by decide +kernel
theorem dL_law_1546 : decode cL_law 1546 = .ok (.iload 5, 2) := by decide +kernel
theorem dL_law_1548 : decode cL_law 1548 = .ok (.if_icmp .eq 5, 3) := by decide +kernel
theorem dL_law_1551 : decode cL_law 1551 = .ok (.iconst 0, 1) := by decide +kernel
theorem dL_law_1552 : decode cL_law 1552 = .ok (.ireturn, 1) := by decide +kernel
theorem dL_law_1553 : decode cL_law 1553 = .ok (.iload 5, 2) := by decide +kernel
theorem dL_law_1555 : decode cL_law 1555 = .ok (.ifCond .ne 14, 3) := by decide +kernel
theorem dL_law_1558 : decode cL_law 1558 = .ok (.aload_n 3, 1) := by decide +kernel
theorem dL_law_1559 : decode cL_law 1559 = .ok (.iconst 0, 1) := by decide +kernel
theorem dL_law_1560 : decode cL_law 1560 = .ok (.laload, 1) := by decide +kernel
theorem dL_law_1561 : decode cL_law 1561 = .ok (.lload 6, 2) := by decide +kernel
theorem dL_law_1563 : decode cL_law 1563 = .ok (.lcmp, 1) := by decide +kernel
theorem dL_law_1564 : decode cL_law 1564 = .ok (.ifCond .eq 5, 3) := by decide +kernel
theorem dL_law_1567 : decode cL_law 1567 = .ok (.iconst 0, 1) := by decide +kernel
theorem dL_law_1568 : decode cL_law 1568 = .ok (.ireturn, 1) := by decide +kernel
theorem dL_law_1569 : decode cL_law 1569 = .ok (.goto 125, 3) := by decide +kernel
theorem dL_law_1572 : decode cL_law 1572 = .ok (.aload_n 1, 1) := by decide +kernel
theorem dL_law_1573 : decode cL_law 1573 = .ok (.aload_n 0, 1) := by decide +kernel
theorem dL_law_1574 : decode cL_law 1574 = .ok (.iload 4, 2) := by decide +kernel
theorem dL_law_1576 : decode cL_law 1576 = .ok (.iconst 1, 1) := by decide +kernel
theorem dL_law_1577 : decode cL_law 1577 = .ok (.iadd, 1) := by decide +kernel
theorem dL_law_1578 : decode cL_law 1578 = .ok (.iaload, 1) := by decide +kernel
theorem dL_law_1579 : decode cL_law 1579 = .ok (.aload_n 3, 1) := by decide +kernel
theorem dL_law_1580 : decode cL_law 1580 = .ok (.invokestatic 168, 3) := by decide +kernel
theorem dL_law_1583 : decode cL_law 1583 = .ok (.istore 5, 2) := by decide +kernel
theorem dL_law_1585 : decode cL_law 1585 = .ok (.aload_n 2, 1) := by decide +kernel
theorem dL_law_1586 : decode cL_law 1586 = .ok (.aload_n 0, 1) := by decide +kernel
theorem dL_law_1587 : decode cL_law 1587 = .ok (.iload 4, 2) := by decide +kernel
theorem dL_law_1589 : decode cL_law 1589 = .ok (.iconst 1, 1) := by decide +kernel
theorem dL_law_1590 : decode cL_law 1590 = .ok (.iadd, 1) := by decide +kernel
theorem dL_law_1591 : decode cL_law 1591 = .ok (.iaload, 1) := by decide +kernel
theorem dL_law_1592 : decode cL_law 1592 = .ok (.invokevirtual 170, 3) := by decide +kernel
theorem dL_law_1595 : decode cL_law 1595 = .ok (.lstore 6, 2) := by decide +kernel
theorem dL_law_1597 : decode cL_law 1597 = .ok (.aload_n 2, 1) := by decide +kernel
theorem dL_law_1598 : decode cL_law 1598 = .ok (.invokevirtual 101, 3) := by decide +kernel
theorem dL_law_1601 : decode cL_law 1601 = .ok (.iload 5, 2) := by decide +kernel
theorem dL_law_1603 : decode cL_law 1603 = .ok (.if_icmp .eq 5, 3) := by decide +kernel
theorem dL_law_1606 : decode cL_law 1606 = .ok (.iconst 0, 1) := by decide +kernel
theorem dL_law_1607 : decode cL_law 1607 = .ok (.ireturn, 1) := by decide +kernel
theorem dL_law_1608 : decode cL_law 1608 = .ok (.iload 5, 2) := by decide +kernel
theorem dL_law_1610 : decode cL_law 1610 = .ok (.ifCond .ne 14, 3) := by decide +kernel
theorem dL_law_1613 : decode cL_law 1613 = .ok (.aload_n 3, 1) := by decide +kernel
theorem dL_law_1614 : decode cL_law 1614 = .ok (.iconst 0, 1) := by decide +kernel
theorem dL_law_1615 : decode cL_law 1615 = .ok (.laload, 1) := by decide +kernel
theorem dL_law_1616 : decode cL_law 1616 = .ok (.lload 6, 2) := by decide +kernel
theorem dL_law_1618 : decode cL_law 1618 = .ok (.lcmp, 1) := by decide +kernel
theorem dL_law_1619 : decode cL_law 1619 = .ok (.ifCond .eq 5, 3) := by decide +kernel
theorem dL_law_1622 : decode cL_law 1622 = .ok (.iconst 0, 1) := by decide +kernel
theorem dL_law_1623 : decode cL_law 1623 = .ok (.ireturn, 1) := by decide +kernel
theorem dL_law_1624 : decode cL_law 1624 = .ok (.goto 70, 3) := by decide +kernel
theorem dL_law_1627 : decode cL_law 1627 = .ok (.aload_n 1, 1) := by decide +kernel
theorem dL_law_1628 : decode cL_law 1628 = .ok (.aload_n 0, 1) := by decide +kernel
theorem dL_law_1629 : decode cL_law 1629 = .ok (.iload 4, 2) := by decide +kernel
theorem dL_law_1631 : decode cL_law 1631 = .ok (.iconst 1, 1) := by decide +kernel
theorem dL_law_1632 : decode cL_law 1632 = .ok (.iadd, 1) := by decide +kernel
theorem dL_law_1633 : decode cL_law 1633 = .ok (.iaload, 1) := by decide +kernel
theorem dL_law_1634 : decode cL_law 1634 = .ok (.aload_n 0, 1) := by decide +kernel
theorem dL_law_1635 : decode cL_law 1635 = .ok (.iload 4, 2) := by decide +kernel
theorem dL_law_1637 : decode cL_law 1637 = .ok (.iconst 2, 1) := by decide +kernel
theorem dL_law_1638 : decode cL_law 1638 = .ok (.iadd, 1) := by decide +kernel
theorem dL_law_1639 : decode cL_law 1639 = .ok (.iaload, 1) := by decide +kernel
theorem dL_law_1640 : decode cL_law 1640 = .ok (.aload_n 3, 1) := by decide +kernel
theorem dL_law_1641 : decode cL_law 1641 = .ok (.invokestatic 171, 3) := by decide +kernel
theorem dL_law_1644 : decode cL_law 1644 = .ok (.istore 5, 2) := by decide +kernel
theorem dL_law_1646 : decode cL_law 1646 = .ok (.aload_n 2, 1) := by decide +kernel
theorem dL_law_1647 : decode cL_law 1647 = .ok (.aload_n 0, 1) := by decide +kernel
theorem dL_law_1648 : decode cL_law 1648 = .ok (.iload 4, 2) := by decide +kernel
theorem dL_law_1650 : decode cL_law 1650 = .ok (.iconst 1, 1) := by decide +kernel
theorem dL_law_1651 : decode cL_law 1651 = .ok (.iadd, 1) := by decide +kernel
theorem dL_law_1652 : decode cL_law 1652 = .ok (.iaload, 1) := by decide +kernel
theorem dL_law_1653 : decode cL_law 1653 = .ok (.aload_n 0, 1) := by decide +kernel
theorem dL_law_1654 : decode cL_law 1654 = .ok (.iload 4, 2) := by decide +kernel
theorem dL_law_1656 : decode cL_law 1656 = .ok (.iconst 2, 1) := by decide +kernel
theorem dL_law_1657 : decode cL_law 1657 = .ok (.iadd, 1) := by decide +kernel
theorem dL_law_1658 : decode cL_law 1658 = .ok (.iaload, 1) := by decide +kernel
theorem dL_law_1659 : decode cL_law 1659 = .ok (.invokevirtual 173, 3) := by decide +kernel
theorem dL_law_1662 : decode cL_law 1662 = .ok (.lstore 6, 2) := by decide +kernel
theorem dL_law_1664 : decode cL_law 1664 = .ok (.aload_n 2, 1) := by decide +kernel
theorem dL_law_1665 : decode cL_law 1665 = .ok (.invokevirtual 101, 3) := by decide +kernel
theorem dL_law_1668 : decode cL_law 1668 = .ok (.iload 5, 2) := by decide +kernel
theorem dL_law_1670 : decode cL_law 1670 = .ok (.if_icmp .eq 5, 3) := by decide +kernel
theorem dL_law_1673 : decode cL_law 1673 = .ok (.iconst 0, 1) := by decide +kernel
theorem dL_law_1674 : decode cL_law 1674 = .ok (.ireturn, 1) := by decide +kernel
theorem dL_law_1675 : decode cL_law 1675 = .ok (.iload 5, 2) := by decide +kernel
theorem dL_law_1677 : decode cL_law 1677 = .ok (.ifCond .ne 14, 3) := by decide +kernel
theorem dL_law_1680 : decode cL_law 1680 = .ok (.aload_n 3, 1) := by decide +kernel
theorem dL_law_1681 : decode cL_law 1681 = .ok (.iconst 0, 1) := by decide +kernel
theorem dL_law_1682 : decode cL_law 1682 = .ok (.laload, 1) := by decide +kernel
theorem dL_law_1683 : decode cL_law 1683 = .ok (.lload 6, 2) := by decide +kernel
theorem dL_law_1685 : decode cL_law 1685 = .ok (.lcmp, 1) := by decide +kernel
theorem dL_law_1686 : decode cL_law 1686 = .ok (.ifCond .eq 5, 3) := by decide +kernel
theorem dL_law_1689 : decode cL_law 1689 = .ok (.iconst 0, 1) := by decide +kernel
theorem dL_law_1690 : decode cL_law 1690 = .ok (.ireturn, 1) := by decide +kernel
theorem dL_law_1691 : decode cL_law 1691 = .ok (.goto 3, 3) := by decide +kernel
theorem dL_law_1694 : decode cL_law 1694 = .ok (.iinc 4 5, 3) := by decide +kernel
theorem dL_law_1697 : decode cL_law 1697 = .ok (.goto (-1674), 3) := by decide +kernel
theorem dL_law_1700 : decode cL_law 1700 = .ok (.iconst 1, 1) := by decide +kernel
theorem dL_law_1701 : decode cL_law 1701 = .ok (.ireturn, 1) := by decide +kernel
end
section
/-! The world as a row of roles: role r lies at address ad r and holds c r. A method may change what lies from lo on. -/
def lA (lo : Nat) : Nat → Prop := fun q => lo ≤ q
def wl (R : List Nat) (ad : Nat → Nat) (c : Nat → va_E) : va_W := R.map (fun r => (ad r, c r))
theorem wl_at {R : List Nat} {r : Nat} (ad : Nat → Nat) (c : Nat → va_E) (h : r ∈ R) : ∃ k : Nat, R[k]? = some r ∧ (wl R ad c)[k]? = some (ad r, c r) := by
  obtain ⟨k, hk⟩ := List.getElem?_of_mem h
  exact ⟨k, hk, by rw [wl, List.getElem?_map, hk]; rfl⟩
theorem wl_set {A : Nat → Prop} {R : List Nat} {ad : Nat → Nat} {c : Nat → va_E} {r k : Nat} (e : va_E) (hD : va_D A (wl R ad c)) (hk : R[k]? = some r) : (wl R ad c).set k (ad r, e) = wl R ad (va_up c r e) := by
  apply List.ext_getElem?
  intro j
  rw [List.getElem?_set]
  by_cases hj : k = j
  · subst hj
    have hl : k < (wl R ad c).length := by rw [wl, List.length_map]; exact (List.getElem?_eq_some_iff.mp hk).1
    rw [if_pos rfl, if_pos hl, wl, List.getElem?_map, hk]
    simp [va_up]
  · rw [if_neg hj, wl, wl, List.getElem?_map, List.getElem?_map]
    cases hr : R[j]? with
    | none => rfl
    | some r' =>
      have hne : r' ≠ r := by
        intro h
        subst h
        exact hj (hD.1 k j (ad r', c r') (ad r', c r') (by rw [wl, List.getElem?_map, hk]; rfl) (by rw [wl, List.getElem?_map, hr]; rfl) rfl)
      simp [va_up, hne]
theorem wl_push {A : Nat → Prop} {R : List Nat} {ad : Nat → Nat} {c : Nat → va_E} {r a : Nat} {e : va_E} (hr : r ∉ R) : wl R ad c ++ [(a, e)] = wl (R ++ [r]) (va_up ad r a) (va_up c r e) := by
  have h : ∀ L : List Nat, r ∉ L → wl L ad c = wl L (va_up ad r a) (va_up c r e) := by
    intro L hL
    apply List.map_congr_left
    intro x hx
    have : x ≠ r := fun h => hL (h ▸ hx)
    simp [va_up, this]
  rw [h R hr]
  simp [wl, va_up]
theorem wl_congr {R : List Nat} {ad ad' : Nat → Nat} {c c' : Nat → va_E} (h : ∀ r ∈ R, ad r = ad' r ∧ c r = c' r) : wl R ad c = wl R ad' c' := by
  apply List.map_congr_left
  intro x hx
  rw [(h x hx).1, (h x hx).2]
/-! What a method finds around it: the tables' words, the nest's words, the texts, the classes, the statics that a throw reads, which classes are apart. -/
def k_tys (cy : Nat → ClassId) : List (ClassId × FieldType) := [(cy 0, .int), (cy 1, .long), (cy 2, .boolean), (cy 3, .object RX2), (cy 4, .object RX3)]
def k_nest : Cond → Bool
  | .fieldLinkNest _ _ _ _ _ _ => true
  | .methodLinkNest _ _ _ _ => true
  | .castable _ _ => true
  | .declares _ => true
  | _ => false
def e_IO : String := "java/lang/IndexOutOfBoundsException"
def e_IA : String := "java/lang/IllegalArgumentException"
def e_IS : String := "java/lang/IllegalStateException"
def k_ncs : List (String × String) := [(e_IA, e_IO), (e_IS, e_IO), (e_IS, e_IA)]
def k_Ev (D : va_G) (cy : Nat → ClassId) (lo : Nat) (U : State) : Prop :=
  (∀ w ∈ lw_tbl, goodWord w = true → w.before #[] U = true) ∧ (∀ w ∈ lw_tbl, k_nest w = true → va_Nw w U) ∧
  (∀ (own : String) (k : Nat) (tx : String), Cond.stringRef own k tx ∈ lw_tbl → ∃ a, vk_R own k tx a U) ∧ va_K D vwCl (k_tys cy) U ∧
  (vx_Zq Bundle.tN "UNASSIGNED_STACK" Bundle.steD (lA lo) U U.heap ∧ vx_Zq Bundle.tN "SUPPRESSED_SENTINEL" Bundle.listD (lA lo) U U.heap) ∧
  (∀ q ∈ k_ncs, va_Nc q.1 q.2 U) ∧ lo ≤ U.heap.size
theorem k_Ev.moved {D : va_G} {cy : Nat → ClassId} {lo : Nat} {s U : State} (hW : s.WarmedH U.vm) (h : k_Ev D cy lo s) (hz : s.heap.size ≤ U.heap.size) (hq : ∀ a : Nat, a < s.heap.size → ¬ lA lo a → U.heap[a]? = s.heap[a]?) : k_Ev D cy lo U := by
  obtain ⟨h1, h2, h3, h4, ⟨h5, h6⟩, h7, h8⟩ := h
  refine ⟨fun w hw hg => word_at hW (good_of_word hg) (h1 w hw hg), fun w hw hn => ?_, fun own k tx ht => ?_, va_K.moved hW.alike h4, ⟨(h5.moved hW.alike).kept hq, (h6.moved hW.alike).kept hq⟩, fun q hq => (h7 q hq).moved hW.alike, Nat.le_trans h8 hz⟩
  · have h9 := h2 w hw hn
    cases w <;> first | exact va_Nw.warmF hW h9 | exact va_Nw.warmM hW h9 | exact va_Nw.warmC hW h9 | exact va_Nw.warmD hW h9 | (simp [k_nest] at hn)
  · obtain ⟨a, ha⟩ := h3 own k tx ht
    exact ⟨a, ha.warm hW⟩
theorem k_Ev.word {D : va_G} {cy : Nat → ClassId} {lo : Nat} {U : State} (h : k_Ev D cy lo U) {w : Cond} (n : Nat) (hw : lw_tbl[n]? = some w) (hg : goodWord w = true) (args : Array Value) : w.before args U = true :=
  word_at (State.WarmedH.refl U) (good_of_word hg) (h.1 w (List.mem_of_getElem? hw) hg)
theorem k_Ev.nestF {D : va_G} {cy : Nat → ClassId} {lo : Nat} {U : State} (h : k_Ev D cy lo U) {a b n d t : String} {i : Nat} (j : Nat) (hw : lw_tbl[j]? = some (.fieldLinkNest a i b n d t)) (args : Array Value) : (Cond.fieldLinkNest a i b n d t).before args U = true :=
  (h.2.1 _ (List.mem_of_getElem? hw) rfl).use rfl
theorem k_Ev.nestM {D : va_G} {cy : Nat → ClassId} {lo : Nat} {U : State} (h : k_Ev D cy lo U) {a t : String} {y : MethodName} {i : Nat} (j : Nat) (hw : lw_tbl[j]? = some (.methodLinkNest a i y t)) : va_Nw (.methodLinkNest a i y t) U :=
  h.2.1 _ (List.mem_of_getElem? hw) rfl
theorem k_Ev.any {D : va_G} {cy : Nat → ClassId} {lo : Nat} {U : State} (h : k_Ev D cy lo U) {w : Cond} (hw : w ∈ lw_tbl) (hg : goodWord w = true ∨ k_nest w = true) (args : Array Value) : w.before args U = true := by
  rcases hg with hg | hn
  · exact word_at (State.WarmedH.refl U) (good_of_word hg) (h.1 w hw hg)
  · have h9 := h.2.1 w hw hn
    cases w <;> first | exact h9.use rfl | (simp [k_nest] at hn)
/-- what a method's start asks: the surroundings, and the world -/
def k_Pr (D : va_G) (cy : Nat → ClassId) (lo : Nat) (R : List Nat) (ad : Nat → Nat) (w : Nat → va_E) (U : State) : Prop :=
  k_Ev D cy lo U ∧ va_P D vwCl (wl R ad w) U.heap ∧ va_D (lA lo) (wl R ad w)
theorem k_Pr.blind {D : va_G} {cy : Nat → ClassId} {lo : Nat} {R : List Nat} {ad : Nat → Nat} {w : Nat → va_E} (av : List Value) : FrameBlind (va_Pc av (k_Pr D cy lo R ad w)) := by
  intro a U g mk h
  obtain ⟨h0, h1, h2, h3⟩ := h
  exact ⟨h0, k_Ev.moved (s := U) (U := U.calling g mk a) (State.WarmedH.refl U) h1 (Nat.le_refl _) (fun _ _ _ => rfl), h2, h3⟩
abbrev k_S : Type := List Nat × (Nat → Nat) × (Nat → va_E)
/-- what a method leaves: the world -/
def k_Po (D : va_G) (lo : Nat) (u : k_S) (t : State) : Prop := va_P D vwCl (wl u.1 u.2.1 u.2.2) t.heap ∧ va_D (lA lo) (wl u.1 u.2.1 u.2.2)
abbrev k_F (p : Program) (m : MethodId) (c : Code) (cc : ByteArray) (nL : Nat) (s : State) (own : String) (D : va_G) (cy : Nat → ClassId) (lo : Nat) : Prop :=
  p.tables.exec = Jvm.exec ∧ c.code = cc ∧ c.maxLocals = nL ∧ s.vm.findClass own = some m.cls ∧ k_Ev D cy lo s
/-- the judgement: from pc on, with the locals lv, the stack st and the world (R, ad, w) -/
def XW (D : va_G) (lo : Nat) (p : Program) (l : Launch) (e : Env) (Rm : Room) (s : State) (m : MethodId) (args : Array Value) (below : List Frame) (meth : Method) (c : Code) (nL cells slots : Nat) (Q : State → Prop)
    (R : List Nat) (ad : Nat → Nat) (w : Nat → va_E) (pc : Nat) (lv : List (Nat × Value)) (st : List Value) : Prop :=
  ∀ (H : Heap) (locs : List Loc) (ls : Array Slot), va_P D vwCl (wl R ad w) H → va_D (lA lo) (wl R ad w) → va_S (lA lo) s.heap H locs → lv_has ls nL lv → W p l e Rm s m args below meth c H locs cells slots Q (F0 m pc ls st)
/-- a method's contract: entered at the world (R, ad, w) with the arguments av, its answer and the world behind it stand in post -/
theorem k_met {l : Launch} {y : MethodName} {cc : ByteArray} {maxL : Nat} {ret : Option FieldType} {rm : Room} {D : va_G} {cy : Nat → ClassId} {lo : Nat} {R : List Nat} {ad : Nat → Nat} {w : Nat → va_E} {av : List Value} {Qc : Array Value → State → Outcome → State → Prop} {mc ms : Nat}
    (hy : plainName y.cls = true) (hav : (lg_sl av).length ≤ maxL)
    (body : ∀ p e s m below meth c, k_F p m c cc maxL s y.cls D cy lo → meth.sig.returnType = ret → meth.locks = false → meth.name = y.name → XW D lo p l e rm s m av.toArray below meth c maxL 0 0 (MQ below Qc av.toArray s mc ms (lA lo)) R ad w 0 (lv_args 0 av) []) :
    Met l y [.code y cc maxL ret] rm (va_Pc av (k_Pr D cy lo R ad w)) Qc mc ms (lA lo) := by
  refine Met.ofW (cc := cc) (maxL := maxL) (ret := ret) hy rfl ?_
  intro p e s m args below meth c s₁ B hml hv
  obtain ⟨rfl, hE, hP, hD⟩ := hv
  have hl := lv_entry av (n := maxL) hav
  rw [lg_entry_eq]
  exact body p e s m below meth c ⟨B.exec, B.bytes, hml, findClass_of_methodNamed B.named, hE⟩ B.returns B.notSynchronized (name_of_methodNamed B.named B.method).1 _ _ _ hP hD va_S.rf hl
end
section
section KROWS
variable {D : va_G} {cy : Nat → ClassId} {lo : Nat} {p : Program} {l : Launch} {e : Env} {Rm : Room} {s : State} {m : MethodId} {args : Array Value} {below : List Frame} {meth : Method} {c : Code} {cc : ByteArray} {nL cells slots : Nat} {Q : State → Prop} {own : String} {R : List Nat} {ad : Nat → Nat} {w : Nat → va_E} {pc : Nat} {lv lv' : List (Nat × Value)} {st : List Value}
theorem x_iconst (F : k_F p m c cc nL s own D cy lo) {n : Int} {v : Int32} (hdg : decode cc pc = .ok (.iconst n, 1)) (hv : Int32.ofInt n = v) (k : XW D lo p l e Rm s m args below meth c nL cells slots Q R ad w (pc + 1) lv (.int v :: st)) : XW D lo p l e Rm s m args below meth c nL cells slots Q R ad w pc lv (st) := fun H locs ls hP hD hS hl => lv_iconst F.1 F.2.1 hdg hv (k H locs ls hP hD hS hl)
theorem x_bipush (F : k_F p m c cc nL s own D cy lo) {n : Int} {v : Int32} (hdg : decode cc pc = .ok (.bipush n, 2)) (hv : (Int8.ofInt n).toInt32 = v) (k : XW D lo p l e Rm s m args below meth c nL cells slots Q R ad w (pc + 2) lv (.int v :: st)) : XW D lo p l e Rm s m args below meth c nL cells slots Q R ad w pc lv (st) := fun H locs ls hP hD hS hl => lv_bipush F.1 F.2.1 hdg hv (k H locs ls hP hD hS hl)
theorem x_sipush (F : k_F p m c cc nL s own D cy lo) {n : Int} {v : Int32} (hdg : decode cc pc = .ok (.sipush n, 3)) (hv : (Int16.ofInt n).toInt32 = v) (k : XW D lo p l e Rm s m args below meth c nL cells slots Q R ad w (pc + 3) lv (.int v :: st)) : XW D lo p l e Rm s m args below meth c nL cells slots Q R ad w pc lv (st) := fun H locs ls hP hD hS hl => lv_sipush F.1 F.2.1 hdg hv (k H locs ls hP hD hS hl)
theorem x_lconst (F : k_F p m c cc nL s own D cy lo) {n : Fin 2} {v : Int64} (hdg : decode cc pc = .ok (.lconst n, 1)) (hv : Int64.ofNat (n : Nat) = v) (k : XW D lo p l e Rm s m args below meth c nL cells slots Q R ad w (pc + 1) lv (.long v :: st)) : XW D lo p l e Rm s m args below meth c nL cells slots Q R ad w pc lv (st) := fun H locs ls hP hD hS hl => lv_lconst F.1 F.2.1 hdg hv (k H locs ls hP hD hS hl)
theorem x_iload_n (F : k_F p m c cc nL s own D cy lo) {k : Fin 4} {i : Nat} {x : Int32} (hdg : decode cc pc = .ok (.iload_n k, 1)) (hi : (k : Nat) = i) (ix : Nat) (hx : lv[ix]? = some (i, .int x)) (kk : XW D lo p l e Rm s m args below meth c nL cells slots Q R ad w (pc + 1) lv (.int x :: st)) : XW D lo p l e Rm s m args below meth c nL cells slots Q R ad w pc lv (st) := fun H locs ls hP hD hS hl => lv_iload_n F.1 F.2.1 hdg hi (lv_at hl ix hx) (kk H locs ls hP hD hS hl)
theorem x_iload (F : k_F p m c cc nL s own D cy lo) {i : Nat} {x : Int32} (hdg : decode cc pc = .ok (.iload i, 2)) (ix : Nat) (hx : lv[ix]? = some (i, .int x)) (kk : XW D lo p l e Rm s m args below meth c nL cells slots Q R ad w (pc + 2) lv (.int x :: st)) : XW D lo p l e Rm s m args below meth c nL cells slots Q R ad w pc lv (st) := fun H locs ls hP hD hS hl => lv_iload F.1 F.2.1 hdg (lv_at hl ix hx) (kk H locs ls hP hD hS hl)
theorem x_istore_n (F : k_F p m c cc nL s own D cy lo) {k : Fin 4} {i : Nat} {x : Int32} (lv' : List (Nat × Value)) (hdg : decode cc pc = .ok (.istore_n k, 1)) (hi : (k : Nat) = i) (hn : i < nL) (hx : (i, Value.int x) :: lv.filter (fun q => !(q.1 == i) && !(q.1 + 1 == i && q.2.category == 2)) = lv') (kk : XW D lo p l e Rm s m args below meth c nL cells slots Q R ad w (pc + 1) lv' (st)) : XW D lo p l e Rm s m args below meth c nL cells slots Q R ad w pc lv (.int x :: st) := fun H locs ls hP hD hS hl => lv_istore_n F.1 F.2.1 hdg hi hl hn hx (fun ls hl => kk H locs ls hP hD hS hl)
theorem x_istore (F : k_F p m c cc nL s own D cy lo) {i : Nat} {x : Int32} (lv' : List (Nat × Value)) (hdg : decode cc pc = .ok (.istore i, 2)) (hn : i < nL) (hx : (i, Value.int x) :: lv.filter (fun q => !(q.1 == i) && !(q.1 + 1 == i && q.2.category == 2)) = lv') (kk : XW D lo p l e Rm s m args below meth c nL cells slots Q R ad w (pc + 2) lv' (st)) : XW D lo p l e Rm s m args below meth c nL cells slots Q R ad w pc lv (.int x :: st) := fun H locs ls hP hD hS hl => lv_istore F.1 F.2.1 hdg hl hn hx (fun ls hl => kk H locs ls hP hD hS hl)
theorem x_lload_n (F : k_F p m c cc nL s own D cy lo) {k : Fin 4} {i : Nat} {x : Int64} (hdg : decode cc pc = .ok (.lload_n k, 1)) (hi : (k : Nat) = i) (ix : Nat) (hx : lv[ix]? = some (i, .long x)) (kk : XW D lo p l e Rm s m args below meth c nL cells slots Q R ad w (pc + 1) lv (.long x :: st)) : XW D lo p l e Rm s m args below meth c nL cells slots Q R ad w pc lv (st) := fun H locs ls hP hD hS hl => lv_lload_n F.1 F.2.1 hdg hi (lv_at hl ix hx) (kk H locs ls hP hD hS hl)
theorem x_lload (F : k_F p m c cc nL s own D cy lo) {i : Nat} {x : Int64} (hdg : decode cc pc = .ok (.lload i, 2)) (ix : Nat) (hx : lv[ix]? = some (i, .long x)) (kk : XW D lo p l e Rm s m args below meth c nL cells slots Q R ad w (pc + 2) lv (.long x :: st)) : XW D lo p l e Rm s m args below meth c nL cells slots Q R ad w pc lv (st) := fun H locs ls hP hD hS hl => lv_lload F.1 F.2.1 hdg (lv_at hl ix hx) (kk H locs ls hP hD hS hl)
theorem x_lstore_n (F : k_F p m c cc nL s own D cy lo) {k : Fin 4} {i : Nat} {x : Int64} (lv' : List (Nat × Value)) (hdg : decode cc pc = .ok (.lstore_n k, 1)) (hi : (k : Nat) = i) (hn : i + 1 < nL) (hx : (i, Value.long x) :: lv.filter (fun q => !(q.1 == i) && (!(q.1 == i + 1) && !(q.1 + 1 == i && q.2.category == 2))) = lv') (kk : XW D lo p l e Rm s m args below meth c nL cells slots Q R ad w (pc + 1) lv' (st)) : XW D lo p l e Rm s m args below meth c nL cells slots Q R ad w pc lv (.long x :: st) := fun H locs ls hP hD hS hl => lv_lstore_n F.1 F.2.1 hdg hi hl hn hx (fun ls hl => kk H locs ls hP hD hS hl)
theorem x_lstore (F : k_F p m c cc nL s own D cy lo) {i : Nat} {x : Int64} (lv' : List (Nat × Value)) (hdg : decode cc pc = .ok (.lstore i, 2)) (hn : i + 1 < nL) (hx : (i, Value.long x) :: lv.filter (fun q => !(q.1 == i) && (!(q.1 == i + 1) && !(q.1 + 1 == i && q.2.category == 2))) = lv') (kk : XW D lo p l e Rm s m args below meth c nL cells slots Q R ad w (pc + 2) lv' (st)) : XW D lo p l e Rm s m args below meth c nL cells slots Q R ad w pc lv (.long x :: st) := fun H locs ls hP hD hS hl => lv_lstore F.1 F.2.1 hdg hl hn hx (fun ls hl => kk H locs ls hP hD hS hl)
theorem x_aload_n (F : k_F p m c cc nL s own D cy lo) {k : Fin 4} {i : Nat} {x : Nat} (hdg : decode cc pc = .ok (.aload_n k, 1)) (hi : (k : Nat) = i) (ix : Nat) (hx : lv[ix]? = some (i, .ref x)) (kk : XW D lo p l e Rm s m args below meth c nL cells slots Q R ad w (pc + 1) lv (.ref x :: st)) : XW D lo p l e Rm s m args below meth c nL cells slots Q R ad w pc lv (st) := fun H locs ls hP hD hS hl => lv_aload_n F.1 F.2.1 hdg hi (lv_at hl ix hx) (kk H locs ls hP hD hS hl)
theorem x_aload (F : k_F p m c cc nL s own D cy lo) {i : Nat} {x : Nat} (hdg : decode cc pc = .ok (.aload i, 2)) (ix : Nat) (hx : lv[ix]? = some (i, .ref x)) (kk : XW D lo p l e Rm s m args below meth c nL cells slots Q R ad w (pc + 2) lv (.ref x :: st)) : XW D lo p l e Rm s m args below meth c nL cells slots Q R ad w pc lv (st) := fun H locs ls hP hD hS hl => lv_aload F.1 F.2.1 hdg (lv_at hl ix hx) (kk H locs ls hP hD hS hl)
theorem x_astore_n (F : k_F p m c cc nL s own D cy lo) {k : Fin 4} {i : Nat} {x : Nat} (lv' : List (Nat × Value)) (hdg : decode cc pc = .ok (.astore_n k, 1)) (hi : (k : Nat) = i) (hn : i < nL) (hx : (i, Value.ref x) :: lv.filter (fun q => !(q.1 == i) && !(q.1 + 1 == i && q.2.category == 2)) = lv') (kk : XW D lo p l e Rm s m args below meth c nL cells slots Q R ad w (pc + 1) lv' (st)) : XW D lo p l e Rm s m args below meth c nL cells slots Q R ad w pc lv (.ref x :: st) := fun H locs ls hP hD hS hl => lv_astore_n F.1 F.2.1 hdg hi hl hn hx (fun ls hl => kk H locs ls hP hD hS hl)
theorem x_astore (F : k_F p m c cc nL s own D cy lo) {i : Nat} {x : Nat} (lv' : List (Nat × Value)) (hdg : decode cc pc = .ok (.astore i, 2)) (hn : i < nL) (hx : (i, Value.ref x) :: lv.filter (fun q => !(q.1 == i) && !(q.1 + 1 == i && q.2.category == 2)) = lv') (kk : XW D lo p l e Rm s m args below meth c nL cells slots Q R ad w (pc + 2) lv' (st)) : XW D lo p l e Rm s m args below meth c nL cells slots Q R ad w pc lv (.ref x :: st) := fun H locs ls hP hD hS hl => lv_astore F.1 F.2.1 hdg hl hn hx (fun ls hl => kk H locs ls hP hD hS hl)
theorem x_iinc (F : k_F p m c cc nL s own D cy lo) {i : Nat} {n : Int} {x : Int32} (lv' : List (Nat × Value)) (hdg : decode cc pc = .ok (.iinc i n, 3)) (ix : Nat) (hk : lv[ix]? = some (i, .int x)) (hn : i < nL) (hx : (i, Value.int (x + Int32.ofInt n)) :: lv.filter (fun q => !(q.1 == i) && !(q.1 + 1 == i && q.2.category == 2)) = lv') (kk : XW D lo p l e Rm s m args below meth c nL cells slots Q R ad w (pc + 3) lv' (st)) : XW D lo p l e Rm s m args below meth c nL cells slots Q R ad w pc lv (st) := fun H locs ls hP hD hS hl => lv_iinc F.1 F.2.1 hdg hl hk rfl hn hx (fun ls hl => kk H locs ls hP hD hS hl)
theorem x_iadd (F : k_F p m c cc nL s own D cy lo) {x y : Int32} (hdg : decode cc pc = .ok (.iadd, 1))  (k : XW D lo p l e Rm s m args below meth c nL cells slots Q R ad w (pc + 1) lv (.int (x + y) :: st)) : XW D lo p l e Rm s m args below meth c nL cells slots Q R ad w pc lv (.int y :: .int x :: st) := fun H locs ls hP hD hS hl => lv_iadd F.1 F.2.1 hdg  (k H locs ls hP hD hS hl)
theorem x_isub (F : k_F p m c cc nL s own D cy lo) {x y : Int32} (hdg : decode cc pc = .ok (.isub, 1))  (k : XW D lo p l e Rm s m args below meth c nL cells slots Q R ad w (pc + 1) lv (.int (x - y) :: st)) : XW D lo p l e Rm s m args below meth c nL cells slots Q R ad w pc lv (.int y :: .int x :: st) := fun H locs ls hP hD hS hl => lv_isub F.1 F.2.1 hdg  (k H locs ls hP hD hS hl)
theorem x_imul (F : k_F p m c cc nL s own D cy lo) {x y : Int32} (hdg : decode cc pc = .ok (.imul, 1))  (k : XW D lo p l e Rm s m args below meth c nL cells slots Q R ad w (pc + 1) lv (.int (x * y) :: st)) : XW D lo p l e Rm s m args below meth c nL cells slots Q R ad w pc lv (.int y :: .int x :: st) := fun H locs ls hP hD hS hl => lv_imul F.1 F.2.1 hdg  (k H locs ls hP hD hS hl)
theorem x_iand (F : k_F p m c cc nL s own D cy lo) {x y : Int32} (hdg : decode cc pc = .ok (.iand, 1))  (k : XW D lo p l e Rm s m args below meth c nL cells slots Q R ad w (pc + 1) lv (.int (x &&& y) :: st)) : XW D lo p l e Rm s m args below meth c nL cells slots Q R ad w pc lv (.int y :: .int x :: st) := fun H locs ls hP hD hS hl => lv_iand F.1 F.2.1 hdg  (k H locs ls hP hD hS hl)
theorem x_ladd (F : k_F p m c cc nL s own D cy lo) {x y : Int64} (hdg : decode cc pc = .ok (.ladd, 1))  (k : XW D lo p l e Rm s m args below meth c nL cells slots Q R ad w (pc + 1) lv (.long (x + y) :: st)) : XW D lo p l e Rm s m args below meth c nL cells slots Q R ad w pc lv (.long y :: .long x :: st) := fun H locs ls hP hD hS hl => lv_ladd F.1 F.2.1 hdg  (k H locs ls hP hD hS hl)
theorem x_lsub (F : k_F p m c cc nL s own D cy lo) {x y : Int64} (hdg : decode cc pc = .ok (.lsub, 1))  (k : XW D lo p l e Rm s m args below meth c nL cells slots Q R ad w (pc + 1) lv (.long (x - y) :: st)) : XW D lo p l e Rm s m args below meth c nL cells slots Q R ad w pc lv (.long y :: .long x :: st) := fun H locs ls hP hD hS hl => lv_lsub F.1 F.2.1 hdg  (k H locs ls hP hD hS hl)
theorem x_lneg (F : k_F p m c cc nL s own D cy lo) {x : Int64} (hdg : decode cc pc = .ok (.lneg, 1))  (k : XW D lo p l e Rm s m args below meth c nL cells slots Q R ad w (pc + 1) lv (.long (-x) :: st)) : XW D lo p l e Rm s m args below meth c nL cells slots Q R ad w pc lv (.long x :: st) := fun H locs ls hP hD hS hl => lv_lneg F.1 F.2.1 hdg  (k H locs ls hP hD hS hl)
theorem x_irem (F : k_F p m c cc nL s own D cy lo) {x y : Int32} (hdg : decode cc pc = .ok (.irem, 1)) (hne : ¬ y = 0) (k : XW D lo p l e Rm s m args below meth c nL cells slots Q R ad w (pc + 1) lv (.int (x - x / y * y) :: st)) : XW D lo p l e Rm s m args below meth c nL cells slots Q R ad w pc lv (.int y :: .int x :: st) := fun H locs ls hP hD hS hl => lv_irem F.1 F.2.1 hdg hne (k H locs ls hP hD hS hl)
theorem x_i2l (F : k_F p m c cc nL s own D cy lo) {x : Int32} (hdg : decode cc pc = .ok (.i2l, 1))  (k : XW D lo p l e Rm s m args below meth c nL cells slots Q R ad w (pc + 1) lv (.long x.toInt64 :: st)) : XW D lo p l e Rm s m args below meth c nL cells slots Q R ad w pc lv (.int x :: st) := fun H locs ls hP hD hS hl => lv_i2l F.1 F.2.1 hdg rfl (k H locs ls hP hD hS hl)
theorem x_lcmp (F : k_F p m c cc nL s own D cy lo) {x y : Int64} (hdg : decode cc pc = .ok (.lcmp, 1))  (k : XW D lo p l e Rm s m args below meth c nL cells slots Q R ad w (pc + 1) lv (.int (lg_cmp x y) :: st)) : XW D lo p l e Rm s m args below meth c nL cells slots Q R ad w pc lv (.long y :: .long x :: st) := fun H locs ls hP hD hS hl => W.lcmp F.1 F.2.1 hdg  (k H locs ls hP hD hS hl)
theorem x_dup (F : k_F p m c cc nL s own D cy lo) {va : Value} (hdg : decode cc pc = .ok (.dup, 1)) (hva : va.category = 1) (k : XW D lo p l e Rm s m args below meth c nL cells slots Q R ad w (pc + 1) lv (va :: va :: st)) : XW D lo p l e Rm s m args below meth c nL cells slots Q R ad w pc lv (va :: st) := fun H locs ls hP hD hS hl => lv_dup F.1 F.2.1 hdg hva (k H locs ls hP hD hS hl)
theorem x_pop (F : k_F p m c cc nL s own D cy lo) {va : Value} (hdg : decode cc pc = .ok (.pop, 1)) (hva : va.category = 1) (k : XW D lo p l e Rm s m args below meth c nL cells slots Q R ad w (pc + 1) lv (st)) : XW D lo p l e Rm s m args below meth c nL cells slots Q R ad w pc lv (va :: st) := fun H locs ls hP hD hS hl => lv_pop F.1 F.2.1 hdg hva (k H locs ls hP hD hS hl)
theorem x_dup2 (F : k_F p m c cc nL s own D cy lo) {va vb : Value} (hdg : decode cc pc = .ok (.dup2, 1)) (hva : va.category = 1) (hvb : vb.category = 1) (k : XW D lo p l e Rm s m args below meth c nL cells slots Q R ad w (pc + 1) lv (va :: vb :: va :: vb :: st)) : XW D lo p l e Rm s m args below meth c nL cells slots Q R ad w pc lv (va :: vb :: st) := fun H locs ls hP hD hS hl => lv_dup2_11 F.1 F.2.1 hdg hva hvb (k H locs ls hP hD hS hl)
theorem x_dup_x1 (F : k_F p m c cc nL s own D cy lo) {va vb : Value} (hdg : decode cc pc = .ok (.dup_x1, 1)) (hva : va.category = 1) (hvb : vb.category = 1) (k : XW D lo p l e Rm s m args below meth c nL cells slots Q R ad w (pc + 1) lv (va :: vb :: va :: st)) : XW D lo p l e Rm s m args below meth c nL cells slots Q R ad w pc lv (va :: vb :: st) := fun H locs ls hP hD hS hl => lv_dup_x1 F.1 F.2.1 hdg hva hvb (k H locs ls hP hD hS hl)
theorem x_null (F : k_F p m c cc nL s own D cy lo)  (hdg : decode cc pc = .ok (.aconst_null, 1))  (k : XW D lo p l e Rm s m args below meth c nL cells slots Q R ad w (pc + 1) lv (.null :: st)) : XW D lo p l e Rm s m args below meth c nL cells slots Q R ad w pc lv (st) := fun H locs ls hP hD hS hl => lv_null F.1 F.2.1 hdg  (k H locs ls hP hD hS hl)
theorem x_ifnull (F : k_F p m c cc nL s own D cy lo) {x : Nat} {off : Int} (hdg : decode cc pc = .ok (.ifnull off, 3))  (k : XW D lo p l e Rm s m args below meth c nL cells slots Q R ad w (pc + 3) lv (st)) : XW D lo p l e Rm s m args below meth c nL cells slots Q R ad w pc lv (.ref x :: st) := fun H locs ls hP hD hS hl => lv_ifnull F.1 F.2.1 hdg  (k H locs ls hP hD hS hl)
theorem x_ifnonnullN (F : k_F p m c cc nL s own D cy lo) {off : Int} (hdg : decode cc pc = .ok (.ifnonnull off, 3))  (k : XW D lo p l e Rm s m args below meth c nL cells slots Q R ad w (pc + 3) lv (st)) : XW D lo p l e Rm s m args below meth c nL cells slots Q R ad w pc lv (.null :: st) := fun H locs ls hP hD hS hl => lv_ifnonnullN F.1 F.2.1 hdg  (k H locs ls hP hD hS hl)
theorem x_ifnonnull (F : k_F p m c cc nL s own D cy lo) {x : Nat} {off : Int} (tgt : Nat) (hdg : decode cc pc = .ok (.ifnonnull off, 3)) (ht : (pc : Int) + off = (tgt : Int)) (k : XW D lo p l e Rm s m args below meth c nL cells slots Q R ad w tgt lv (st)) : XW D lo p l e Rm s m args below meth c nL cells slots Q R ad w pc lv (.ref x :: st) := fun H locs ls hP hD hS hl => lv_ifnonnull F.1 F.2.1 hdg ht (k H locs ls hP hD hS hl)
theorem x_ifnullN (F : k_F p m c cc nL s own D cy lo) {off : Int} (tgt : Nat) (hdg : decode cc pc = .ok (.ifnull off, 3)) (ht : (pc : Int) + off = (tgt : Int)) (k : XW D lo p l e Rm s m args below meth c nL cells slots Q R ad w tgt lv (st)) : XW D lo p l e Rm s m args below meth c nL cells slots Q R ad w pc lv (.null :: st) := fun H locs ls hP hD hS hl => lv_ifnullN F.1 F.2.1 hdg ht (k H locs ls hP hD hS hl)
theorem x_goto (F : k_F p m c cc nL s own D cy lo) {off : Int} (tgt : Nat) (hdg : decode cc pc = .ok (.goto off, 3)) (ht : (pc : Int) + off = (tgt : Int)) (k : XW D lo p l e Rm s m args below meth c nL cells slots Q R ad w tgt lv (st)) : XW D lo p l e Rm s m args below meth c nL cells slots Q R ad w pc lv (st) := fun H locs ls hP hD hS hl => lv_goto F.1 F.2.1 hdg ht (k H locs ls hP hD hS hl)
theorem x_if_eq (F : k_F p m c cc nL s own D cy lo) {x : Int32} {off : Int} (tgt : Nat) (hdg : decode cc pc = .ok (.ifCond .eq off, 3)) (ht : (pc : Int) + off = (tgt : Int)) (kt : x = 0 → XW D lo p l e Rm s m args below meth c nL cells slots Q R ad w tgt lv (st)) (kf : ¬ x = 0 → XW D lo p l e Rm s m args below meth c nL cells slots Q R ad w (pc + 3) lv (st)) : XW D lo p l e Rm s m args below meth c nL cells slots Q R ad w pc lv (.int x :: st) := fun H locs ls hP hD hS hl => lv_if_eq F.1 F.2.1 hdg ht (fun h => kt h H locs ls hP hD hS hl) (fun h => kf h H locs ls hP hD hS hl)
theorem x_icmp_eq (F : k_F p m c cc nL s own D cy lo) {x y : Int32} {off : Int} (tgt : Nat) (hdg : decode cc pc = .ok (.if_icmp .eq off, 3)) (ht : (pc : Int) + off = (tgt : Int)) (kt : x = y → XW D lo p l e Rm s m args below meth c nL cells slots Q R ad w tgt lv (st)) (kf : ¬ x = y → XW D lo p l e Rm s m args below meth c nL cells slots Q R ad w (pc + 3) lv (st)) : XW D lo p l e Rm s m args below meth c nL cells slots Q R ad w pc lv (.int y :: .int x :: st) := fun H locs ls hP hD hS hl => lv_icmp_eq F.1 F.2.1 hdg ht (fun h => kt h H locs ls hP hD hS hl) (fun h => kf h H locs ls hP hD hS hl)
theorem x_if_ne (F : k_F p m c cc nL s own D cy lo) {x : Int32} {off : Int} (tgt : Nat) (hdg : decode cc pc = .ok (.ifCond .ne off, 3)) (ht : (pc : Int) + off = (tgt : Int)) (kt : ¬ x = 0 → XW D lo p l e Rm s m args below meth c nL cells slots Q R ad w tgt lv (st)) (kf : x = 0 → XW D lo p l e Rm s m args below meth c nL cells slots Q R ad w (pc + 3) lv (st)) : XW D lo p l e Rm s m args below meth c nL cells slots Q R ad w pc lv (.int x :: st) := fun H locs ls hP hD hS hl => lv_if_ne F.1 F.2.1 hdg ht (fun h => kt h H locs ls hP hD hS hl) (fun h => kf h H locs ls hP hD hS hl)
theorem x_icmp_ne (F : k_F p m c cc nL s own D cy lo) {x y : Int32} {off : Int} (tgt : Nat) (hdg : decode cc pc = .ok (.if_icmp .ne off, 3)) (ht : (pc : Int) + off = (tgt : Int)) (kt : ¬ x = y → XW D lo p l e Rm s m args below meth c nL cells slots Q R ad w tgt lv (st)) (kf : x = y → XW D lo p l e Rm s m args below meth c nL cells slots Q R ad w (pc + 3) lv (st)) : XW D lo p l e Rm s m args below meth c nL cells slots Q R ad w pc lv (.int y :: .int x :: st) := fun H locs ls hP hD hS hl => lv_icmp_ne F.1 F.2.1 hdg ht (fun h => kt h H locs ls hP hD hS hl) (fun h => kf h H locs ls hP hD hS hl)
theorem x_if_lt (F : k_F p m c cc nL s own D cy lo) {x : Int32} {off : Int} (tgt : Nat) (hdg : decode cc pc = .ok (.ifCond .lt off, 3)) (ht : (pc : Int) + off = (tgt : Int)) (kt : x < 0 → XW D lo p l e Rm s m args below meth c nL cells slots Q R ad w tgt lv (st)) (kf : ¬ x < 0 → XW D lo p l e Rm s m args below meth c nL cells slots Q R ad w (pc + 3) lv (st)) : XW D lo p l e Rm s m args below meth c nL cells slots Q R ad w pc lv (.int x :: st) := fun H locs ls hP hD hS hl => lv_if_lt F.1 F.2.1 hdg ht (fun h => kt h H locs ls hP hD hS hl) (fun h => kf h H locs ls hP hD hS hl)
theorem x_icmp_lt (F : k_F p m c cc nL s own D cy lo) {x y : Int32} {off : Int} (tgt : Nat) (hdg : decode cc pc = .ok (.if_icmp .lt off, 3)) (ht : (pc : Int) + off = (tgt : Int)) (kt : x < y → XW D lo p l e Rm s m args below meth c nL cells slots Q R ad w tgt lv (st)) (kf : ¬ x < y → XW D lo p l e Rm s m args below meth c nL cells slots Q R ad w (pc + 3) lv (st)) : XW D lo p l e Rm s m args below meth c nL cells slots Q R ad w pc lv (.int y :: .int x :: st) := fun H locs ls hP hD hS hl => lv_icmp_lt F.1 F.2.1 hdg ht (fun h => kt h H locs ls hP hD hS hl) (fun h => kf h H locs ls hP hD hS hl)
theorem x_if_ge (F : k_F p m c cc nL s own D cy lo) {x : Int32} {off : Int} (tgt : Nat) (hdg : decode cc pc = .ok (.ifCond .ge off, 3)) (ht : (pc : Int) + off = (tgt : Int)) (kt : 0 ≤ x → XW D lo p l e Rm s m args below meth c nL cells slots Q R ad w tgt lv (st)) (kf : ¬ 0 ≤ x → XW D lo p l e Rm s m args below meth c nL cells slots Q R ad w (pc + 3) lv (st)) : XW D lo p l e Rm s m args below meth c nL cells slots Q R ad w pc lv (.int x :: st) := fun H locs ls hP hD hS hl => lv_if_ge F.1 F.2.1 hdg ht (fun h => kt h H locs ls hP hD hS hl) (fun h => kf h H locs ls hP hD hS hl)
theorem x_icmp_ge (F : k_F p m c cc nL s own D cy lo) {x y : Int32} {off : Int} (tgt : Nat) (hdg : decode cc pc = .ok (.if_icmp .ge off, 3)) (ht : (pc : Int) + off = (tgt : Int)) (kt : y ≤ x → XW D lo p l e Rm s m args below meth c nL cells slots Q R ad w tgt lv (st)) (kf : ¬ y ≤ x → XW D lo p l e Rm s m args below meth c nL cells slots Q R ad w (pc + 3) lv (st)) : XW D lo p l e Rm s m args below meth c nL cells slots Q R ad w pc lv (.int y :: .int x :: st) := fun H locs ls hP hD hS hl => lv_icmp_ge F.1 F.2.1 hdg ht (fun h => kt h H locs ls hP hD hS hl) (fun h => kf h H locs ls hP hD hS hl)
theorem x_if_gt (F : k_F p m c cc nL s own D cy lo) {x : Int32} {off : Int} (tgt : Nat) (hdg : decode cc pc = .ok (.ifCond .gt off, 3)) (ht : (pc : Int) + off = (tgt : Int)) (kt : 0 < x → XW D lo p l e Rm s m args below meth c nL cells slots Q R ad w tgt lv (st)) (kf : ¬ 0 < x → XW D lo p l e Rm s m args below meth c nL cells slots Q R ad w (pc + 3) lv (st)) : XW D lo p l e Rm s m args below meth c nL cells slots Q R ad w pc lv (.int x :: st) := fun H locs ls hP hD hS hl => lv_if_gt F.1 F.2.1 hdg ht (fun h => kt h H locs ls hP hD hS hl) (fun h => kf h H locs ls hP hD hS hl)
theorem x_icmp_gt (F : k_F p m c cc nL s own D cy lo) {x y : Int32} {off : Int} (tgt : Nat) (hdg : decode cc pc = .ok (.if_icmp .gt off, 3)) (ht : (pc : Int) + off = (tgt : Int)) (kt : y < x → XW D lo p l e Rm s m args below meth c nL cells slots Q R ad w tgt lv (st)) (kf : ¬ y < x → XW D lo p l e Rm s m args below meth c nL cells slots Q R ad w (pc + 3) lv (st)) : XW D lo p l e Rm s m args below meth c nL cells slots Q R ad w pc lv (.int y :: .int x :: st) := fun H locs ls hP hD hS hl => lv_icmp_gt F.1 F.2.1 hdg ht (fun h => kt h H locs ls hP hD hS hl) (fun h => kf h H locs ls hP hD hS hl)
theorem x_if_le (F : k_F p m c cc nL s own D cy lo) {x : Int32} {off : Int} (tgt : Nat) (hdg : decode cc pc = .ok (.ifCond .le off, 3)) (ht : (pc : Int) + off = (tgt : Int)) (kt : x ≤ 0 → XW D lo p l e Rm s m args below meth c nL cells slots Q R ad w tgt lv (st)) (kf : ¬ x ≤ 0 → XW D lo p l e Rm s m args below meth c nL cells slots Q R ad w (pc + 3) lv (st)) : XW D lo p l e Rm s m args below meth c nL cells slots Q R ad w pc lv (.int x :: st) := fun H locs ls hP hD hS hl => lv_if_le F.1 F.2.1 hdg ht (fun h => kt h H locs ls hP hD hS hl) (fun h => kf h H locs ls hP hD hS hl)
theorem x_icmp_le (F : k_F p m c cc nL s own D cy lo) {x y : Int32} {off : Int} (tgt : Nat) (hdg : decode cc pc = .ok (.if_icmp .le off, 3)) (ht : (pc : Int) + off = (tgt : Int)) (kt : x ≤ y → XW D lo p l e Rm s m args below meth c nL cells slots Q R ad w tgt lv (st)) (kf : ¬ x ≤ y → XW D lo p l e Rm s m args below meth c nL cells slots Q R ad w (pc + 3) lv (st)) : XW D lo p l e Rm s m args below meth c nL cells slots Q R ad w pc lv (.int y :: .int x :: st) := fun H locs ls hP hD hS hl => lv_icmp_le F.1 F.2.1 hdg ht (fun h => kt h H locs ls hP hD hS hl) (fun h => kf h H locs ls hP hD hS hl)
theorem x_acmp_eq (F : k_F p m c cc nL s own D cy lo) {rx ry : Option Nat} {off : Int} (tgt : Nat) (hdg : decode cc pc = .ok (.if_acmp .eq off, 3)) (ht : (pc : Int) + off = (tgt : Int)) (kt : rx = ry → XW D lo p l e Rm s m args below meth c nL cells slots Q R ad w tgt lv (st)) (kf : ¬ rx = ry → XW D lo p l e Rm s m args below meth c nL cells slots Q R ad w (pc + 3) lv (st)) : XW D lo p l e Rm s m args below meth c nL cells slots Q R ad w pc lv (va_rf ry :: va_rf rx :: st) := fun H locs ls hP hD hS hl => lv_acmp_eq F.1 F.2.1 hdg ht (fun h => kt h H locs ls hP hD hS hl) (fun h => kf h H locs ls hP hD hS hl)
theorem x_acmp_ne (F : k_F p m c cc nL s own D cy lo) {rx ry : Option Nat} {off : Int} (tgt : Nat) (hdg : decode cc pc = .ok (.if_acmp .ne off, 3)) (ht : (pc : Int) + off = (tgt : Int)) (kt : ¬ rx = ry → XW D lo p l e Rm s m args below meth c nL cells slots Q R ad w tgt lv (st)) (kf : rx = ry → XW D lo p l e Rm s m args below meth c nL cells slots Q R ad w (pc + 3) lv (st)) : XW D lo p l e Rm s m args below meth c nL cells slots Q R ad w pc lv (va_rf ry :: va_rf rx :: st) := fun H locs ls hP hD hS hl => lv_acmp_ne F.1 F.2.1 hdg ht (fun h => kt h H locs ls hP hD hS hl) (fun h => kf h H locs ls hP hD hS hl)
theorem x_topi  {x : Int32} (k : ∀ y : Int32, y = x → XW D lo p l e Rm s m args below meth c nL cells slots Q R ad w pc lv (.int y :: st)) : XW D lo p l e Rm s m args below meth c nL cells slots Q R ad w pc lv (.int x :: st) := k x rfl
theorem x_ldc (F : k_F p m c cc nL s own D cy lo) {index : Nat} {v : Int32} (hdg : decode cc pc = .ok (.ldc index, 2)) (n : Nat) (hw : lw_tbl[n]? = some (.constant own index v)) (k : XW D lo p l e Rm s m args below meth c nL cells slots Q R ad w (pc + 2) lv (.int v :: st)) : XW D lo p l e Rm s m args below meth c nL cells slots Q R ad w pc lv (st) := fun H locs ls hP hD hS hl => lv_ldc F.1 F.2.1 F.2.2.2.1 (F.2.2.2.2.word n hw rfl args) hdg (k H locs ls hP hD hS hl)
theorem x_tabIn (F : k_F p m c cc nL s own D cy lo) {dflt a b : Int} {offs : Array Int} {len : Nat} {x : Int32} {off : Int} (tgt : Nat) (hdg : decode cc pc = .ok (.tableswitch dflt a b offs, len)) (h1 : ¬ x.toInt < a) (h2 : ¬ b < x.toInt) (ho : offs[(x.toInt - a).toNat]? = some off) (ht : (pc : Int) + off = (tgt : Int)) (k : XW D lo p l e Rm s m args below meth c nL cells slots Q R ad w tgt lv (st)) : XW D lo p l e Rm s m args below meth c nL cells slots Q R ad w pc lv (.int x :: st) := fun H locs ls hP hD hS hl => lv_tableIn F.1 F.2.1 hdg h1 h2 ho ht (k H locs ls hP hD hS hl)
theorem x_tabOut (F : k_F p m c cc nL s own D cy lo) {dflt a b : Int} {offs : Array Int} {len : Nat} {x : Int32} (tgt : Nat) (hdg : decode cc pc = .ok (.tableswitch dflt a b offs, len)) (h : x.toInt < a ∨ b < x.toInt) (ht : (pc : Int) + dflt = (tgt : Int)) (k : XW D lo p l e Rm s m args below meth c nL cells slots Q R ad w tgt lv (st)) : XW D lo p l e Rm s m args below meth c nL cells slots Q R ad w pc lv (.int x :: st) := fun H locs ls hP hD hS hl => lv_tableOut F.1 F.2.1 hdg h ht (k H locs ls hP hD hS hl)
theorem x_sub  (ks : List Nat) (hk : lv_pick lv ks = lv') (k : XW D lo p l e Rm s m args below meth c nL cells slots Q R ad w pc lv' (st)) : XW D lo p l e Rm s m args below meth c nL cells slots Q R ad w pc lv (st) := fun H locs ls hP hD hS hl => k H locs ls hP hD hS (lv_sub hl ks hk)
theorem x_world  {w' : Nat → va_E} (hw : w = w') (k : XW D lo p l e Rm s m args below meth c nL cells slots Q R ad w' pc lv (st)) : XW D lo p l e Rm s m args below meth c nL cells slots Q R ad w pc lv (st) := hw ▸ k
theorem x_get (F : k_F p m c cc nL s own D cy lo) {r ci index : Nat} {ref C  : String} {T : u_T} {N : Nat} {fs : List Value} {v : Value} (hr : r ∈ R) (hw : w r = .inr (ci, fs)) (hc : vwCl[ci]? = some (C, T, N)) (hin : ∀ x ∈ u_ws C T N, x.before args s = true) (k : Nat) (hk : k < N) (hlink : (Cond.fieldLink own index ref (T k).2.1 (T k).2.2.1).before args s = true) (hsame : ref = (T k).1) (hv : fs[k]? = some v) (hdg : decode cc pc = .ok (.getfield index, 3)) (kk : XW D lo p l e Rm s m args below meth c nL cells slots Q R ad w (pc + 3) lv (v :: st)) : XW D lo p l e Rm s m args below meth c nL cells slots Q R ad w pc lv (.ref (ad r) :: st) := by
  intro H locs ls hP hD hS hl
  obtain ⟨n, -, hn⟩ := wl_at ad w hr
  rw [hw] at hn
  exact va_get F.1 F.2.1 (Ts := u_ws C T N) hin (fun _ h => h) F.2.2.2.1 F.2.2.2.2.2.2.2.1 hP n hn hc k hk hlink (fun x h => by rw [hsame]; exact h) hv hdg (kk H locs ls hP hD hS hl)
theorem x_getN (F : k_F p m c cc nL s own D cy lo) {r ci index : Nat} {ref C host : String} {T : u_T} {N : Nat} {fs : List Value} {v : Value} (hr : r ∈ R) (hw : w r = .inr (ci, fs)) (hc : vwCl[ci]? = some (C, T, N)) (hin : ∀ x ∈ u_ws C T N, x.before args s = true) (k : Nat) (hk : k < N) (hlink : (Cond.fieldLinkNest own index ref (T k).2.1 (T k).2.2.1 host).before args s = true) (hsame : ref = (T k).1) (hv : fs[k]? = some v) (hdg : decode cc pc = .ok (.getfield index, 3)) (kk : XW D lo p l e Rm s m args below meth c nL cells slots Q R ad w (pc + 3) lv (v :: st)) : XW D lo p l e Rm s m args below meth c nL cells slots Q R ad w pc lv (.ref (ad r) :: st) := by
  intro H locs ls hP hD hS hl
  obtain ⟨n, -, hn⟩ := wl_at ad w hr
  rw [hw] at hn
  exact va_getN F.1 F.2.1 (Ts := u_ws C T N) hin (fun _ h => h) F.2.2.2.1 F.2.2.2.2.2.2.2.1 hP n hn hc k hk hlink (fun x h => by rw [hsame]; exact h) hv hdg (kk H locs ls hP hD hS hl)
theorem x_put (F : k_F p m c cc nL s own D cy lo) {r ci index : Nat} {ref C  : String} {T : u_T} {N : Nat} {fs : List Value} {v : Value} {ty : FieldType} (ty0 : Nat → FieldType) (hty : ∀ k, k < N → parseFieldDescriptor (T k).2.2.1 = some (ty0 k)) (hnm : ∀ a, a < N → ∀ b, b < N → a ≠ b → (T a).2.1 ≠ (T b).2.1) (hr : r ∈ R) (hw : w r = .inr (ci, fs)) (hc : vwCl[ci]? = some (C, T, N)) (hin : ∀ x ∈ u_ws C T N, x.before args s = true) (k : Nat) (hk : k < N) (hlink : (Cond.fieldLink own index ref (T k).2.1 (T k).2.2.1).before args s = true) (hsame : ref = (T k).1) (hfin : (T k).2.2.2 = false) (hd : parseFieldDescriptor (T k).2.2.1 = some ty) (hn : narrow ty v = v) (hfit : fits ty v = true) (hlen : k < fs.length) (hdg : decode cc pc = .ok (.putfield index, 3)) (kk : XW D lo p l e Rm s m args below meth c nL cells slots Q R ad (va_up w r (.inr (ci, fs.set k v))) (pc + 3) lv (st)) : XW D lo p l e Rm s m args below meth c nL cells slots Q R ad w pc lv (v :: .ref (ad r) :: st) := by
  intro H locs ls hP hD hS hl
  obtain ⟨n, hn0, hn1⟩ := wl_at ad w hr
  rw [hw] at hn1
  refine va_put F.1 F.2.1 (Ts := u_ws C T N) hin (fun _ h => h) ty0 hty hnm F.2.2.2.1 F.2.2.2.2.2.2.2.1 hP hD hS n hn1 hc k hk hlink (fun x h => by rw [hsame]; exact h) hfin hd hn hfit hlen hdg (fun H1 locs1 hP1 hD1 hS1 => ?_)
  rw [wl_set _ hD hn0] at hP1 hD1
  exact kk H1 locs1 ls hP1 hD1 hS1 hl
theorem x_putN (F : k_F p m c cc nL s own D cy lo) {r ci index : Nat} {ref C host : String} {T : u_T} {N : Nat} {fs : List Value} {v : Value} {ty : FieldType} (ty0 : Nat → FieldType) (hty : ∀ k, k < N → parseFieldDescriptor (T k).2.2.1 = some (ty0 k)) (hnm : ∀ a, a < N → ∀ b, b < N → a ≠ b → (T a).2.1 ≠ (T b).2.1) (hr : r ∈ R) (hw : w r = .inr (ci, fs)) (hc : vwCl[ci]? = some (C, T, N)) (hin : ∀ x ∈ u_ws C T N, x.before args s = true) (k : Nat) (hk : k < N) (hlink : (Cond.fieldLinkNest own index ref (T k).2.1 (T k).2.2.1 host).before args s = true) (hsame : ref = (T k).1) (hfin : (T k).2.2.2 = false) (hd : parseFieldDescriptor (T k).2.2.1 = some ty) (hn : narrow ty v = v) (hfit : fits ty v = true) (hlen : k < fs.length) (hdg : decode cc pc = .ok (.putfield index, 3)) (kk : XW D lo p l e Rm s m args below meth c nL cells slots Q R ad (va_up w r (.inr (ci, fs.set k v))) (pc + 3) lv (st)) : XW D lo p l e Rm s m args below meth c nL cells slots Q R ad w pc lv (v :: .ref (ad r) :: st) := by
  intro H locs ls hP hD hS hl
  obtain ⟨n, hn0, hn1⟩ := wl_at ad w hr
  rw [hw] at hn1
  refine va_putN F.1 F.2.1 (Ts := u_ws C T N) hin (fun _ h => h) ty0 hty hnm F.2.2.2.1 F.2.2.2.2.2.2.2.1 hP hD hS n hn1 hc k hk hlink (fun x h => by rw [hsame]; exact h) hfin hd hn hfit hlen hdg (fun H1 locs1 hP1 hD1 hS1 => ?_)
  rw [wl_set _ hD hn0] at hP1 hD1
  exact kk H1 locs1 ls hP1 hD1 hS1 hl
theorem x_putF (F : k_F p m c cc nL s own D cy lo) {r ci index : Nat} {ref C  : String} {T : u_T} {N : Nat} {fs : List Value} {v : Value} {ty : FieldType} (ty0 : Nat → FieldType) (hty : ∀ k, k < N → parseFieldDescriptor (T k).2.2.1 = some (ty0 k)) (hnm : ∀ a, a < N → ∀ b, b < N → a ≠ b → (T a).2.1 ≠ (T b).2.1) (hr : r ∈ R) (hw : w r = .inr (ci, fs)) (hc : vwCl[ci]? = some (C, T, N)) (hin : ∀ x ∈ u_ws C T N, x.before args s = true) (k : Nat) (hk : k < N) (hlink : (Cond.fieldLink own index ref (T k).2.1 (T k).2.2.1).before args s = true) (hsame : ref = (T k).1) (hfin : (T k).2.2.2 = true) (hin2 : meth.name = "<init>") (hdecl : (T k).1 = own) (hd : parseFieldDescriptor (T k).2.2.1 = some ty) (hn : narrow ty v = v) (hfit : fits ty v = true) (hlen : k < fs.length) (hdg : decode cc pc = .ok (.putfield index, 3)) (kk : XW D lo p l e Rm s m args below meth c nL cells slots Q R ad (va_up w r (.inr (ci, fs.set k v))) (pc + 3) lv (st)) : XW D lo p l e Rm s m args below meth c nL cells slots Q R ad w pc lv (v :: .ref (ad r) :: st) := by
  intro H locs ls hP hD hS hl
  obtain ⟨n, hn0, hn1⟩ := wl_at ad w hr
  rw [hw] at hn1
  refine va_putF F.1 F.2.1 (Ts := u_ws C T N) hin (fun _ h => h) ty0 hty hnm F.2.2.2.1 F.2.2.2.2.2.2.2.1 hP hD hS n hn1 hc k hk hlink (fun x h => by rw [hsame]; exact h) hfin hin2 hdecl hd hn hfit hlen hdg (fun H1 locs1 hP1 hD1 hS1 => ?_)
  rw [wl_set _ hD hn0] at hP1 hD1
  exact kk H1 locs1 ls hP1 hD1 hS1 hl
theorem x_iald (F : k_F p m c cc nL s own D cy lo) {r n : Nat} {f : Nat → Int32} {i : Int32} (hr : r ∈ R) (hw : w r = .inl (cy 0, n, .inl f)) (hin : vp_in i n) (hdg : decode cc pc = .ok (.iaload, 1)) (kk : XW D lo p l e Rm s m args below meth c nL cells slots Q R ad w (pc + 1) lv (.int (f i.toNatClampNeg) :: st)) : XW D lo p l e Rm s m args below meth c nL cells slots Q R ad w pc lv (.int i :: .ref (ad r) :: st) := by
  intro H locs ls hP hD hS hl
  obtain ⟨n0, -, hn⟩ := wl_at ad w hr
  rw [hw] at hn
  exact va_iald F.1 F.2.1 F.2.2.2.2.2.2.2.1 hP n0 0 hn rfl hin hdg (kk H locs ls hP hD hS hl)
theorem x_lald (F : k_F p m c cc nL s own D cy lo) {r n : Nat} {f : Nat → Int64} {i : Int32} (hr : r ∈ R) (hw : w r = .inl (cy 1, n, .inr (.inl f))) (hin : vp_in i n) (hdg : decode cc pc = .ok (.laload, 1)) (kk : XW D lo p l e Rm s m args below meth c nL cells slots Q R ad w (pc + 1) lv (.long (f i.toNatClampNeg) :: st)) : XW D lo p l e Rm s m args below meth c nL cells slots Q R ad w pc lv (.int i :: .ref (ad r) :: st) := by
  intro H locs ls hP hD hS hl
  obtain ⟨n0, -, hn⟩ := wl_at ad w hr
  rw [hw] at hn
  exact va_lald F.1 F.2.1 F.2.2.2.2.2.2.2.1 hP n0 1 hn rfl hin hdg (kk H locs ls hP hD hS hl)
theorem x_zald (F : k_F p m c cc nL s own D cy lo) {r n : Nat} {f : Nat → Int32} {i : Int32} (hr : r ∈ R) (hw : w r = .inl (cy 2, n, .inl f)) (hin : vp_in i n) (hdg : decode cc pc = .ok (.baload, 1)) (kk : XW D lo p l e Rm s m args below meth c nL cells slots Q R ad w (pc + 1) lv (.int (f i.toNatClampNeg) :: st)) : XW D lo p l e Rm s m args below meth c nL cells slots Q R ad w pc lv (.int i :: .ref (ad r) :: st) := by
  intro H locs ls hP hD hS hl
  obtain ⟨n0, -, hn⟩ := wl_at ad w hr
  rw [hw] at hn
  exact va_zald F.1 F.2.1 F.2.2.2.2.2.2.2.1 hP n0 2 hn rfl hin hdg (kk H locs ls hP hD hS hl)
theorem x_aldS (F : k_F p m c cc nL s own D cy lo) {r n : Nat} {f : Nat → Option Nat} {i : Int32} (hr : r ∈ R) (hw : w r = .inl (cy 3, n, .inr (.inr (.inr (.inr f))))) (hin : vp_in i n) (hdg : decode cc pc = .ok (.aaload, 1)) (kk : XW D lo p l e Rm s m args below meth c nL cells slots Q R ad w (pc + 1) lv (va_rf (f i.toNatClampNeg) :: st)) : XW D lo p l e Rm s m args below meth c nL cells slots Q R ad w pc lv (.int i :: .ref (ad r) :: st) := by
  intro H locs ls hP hD hS hl
  obtain ⟨n0, -, hn⟩ := wl_at ad w hr
  rw [hw] at hn
  exact va_aldq F.1 F.2.1 F.2.2.2.2.2.2.2.1 hP n0 3 hn rfl hin hdg (kk H locs ls hP hD hS hl)
theorem x_aldT (F : k_F p m c cc nL s own D cy lo) {r n : Nat} {f : Nat → Option Nat} {i : Int32} (hr : r ∈ R) (hw : w r = .inl (cy 4, n, .inr (.inr (.inr (.inr f))))) (hin : vp_in i n) (hdg : decode cc pc = .ok (.aaload, 1)) (kk : XW D lo p l e Rm s m args below meth c nL cells slots Q R ad w (pc + 1) lv (va_rf (f i.toNatClampNeg) :: st)) : XW D lo p l e Rm s m args below meth c nL cells slots Q R ad w pc lv (.int i :: .ref (ad r) :: st) := by
  intro H locs ls hP hD hS hl
  obtain ⟨n0, -, hn⟩ := wl_at ad w hr
  rw [hw] at hn
  exact va_aldq F.1 F.2.1 F.2.2.2.2.2.2.2.1 hP n0 4 hn rfl hin hdg (kk H locs ls hP hD hS hl)
theorem x_iast (F : k_F p m c cc nL s own D cy lo) {r n : Nat} {f : Nat → Int32} {i : Int32} {x : Int32} (hr : r ∈ R) (hw : w r = .inl (cy 0, n, .inl f)) (hin : vp_in i n) (hdg : decode cc pc = .ok (.iastore, 1)) (kk : XW D lo p l e Rm s m args below meth c nL cells slots Q R ad (va_up w r (.inl (cy 0, n, .inl (upd f i.toNatClampNeg x)))) (pc + 1) lv (st)) : XW D lo p l e Rm s m args below meth c nL cells slots Q R ad w pc lv (.int x :: .int i :: .ref (ad r) :: st) := by
  intro H locs ls hP hD hS hl
  obtain ⟨n0, hn0, hn⟩ := wl_at ad w hr
  rw [hw] at hn
  refine va_iast F.1 F.2.1 F.2.2.2.2.2.2.2.1 hP hD hS n0 0 hn rfl hin hdg (fun H1 locs1 hP1 hD1 hS1 => ?_)
  rw [wl_set _ hD hn0] at hP1 hD1
  exact kk H1 locs1 ls hP1 hD1 hS1 hl
theorem x_last (F : k_F p m c cc nL s own D cy lo) {r n : Nat} {f : Nat → Int64} {i : Int32} {x : Int64} (hr : r ∈ R) (hw : w r = .inl (cy 1, n, .inr (.inl f))) (hin : vp_in i n) (hdg : decode cc pc = .ok (.lastore, 1)) (kk : XW D lo p l e Rm s m args below meth c nL cells slots Q R ad (va_up w r (.inl (cy 1, n, .inr (.inl (vp_updL f i.toNatClampNeg x))))) (pc + 1) lv (st)) : XW D lo p l e Rm s m args below meth c nL cells slots Q R ad w pc lv (.long x :: .int i :: .ref (ad r) :: st) := by
  intro H locs ls hP hD hS hl
  obtain ⟨n0, hn0, hn⟩ := wl_at ad w hr
  rw [hw] at hn
  refine va_last F.1 F.2.1 F.2.2.2.2.2.2.2.1 hP hD hS n0 1 hn rfl hin hdg (fun H1 locs1 hP1 hD1 hS1 => ?_)
  rw [wl_set _ hD hn0] at hP1 hD1
  exact kk H1 locs1 ls hP1 hD1 hS1 hl
theorem x_zast (F : k_F p m c cc nL s own D cy lo) {r n : Nat} {f : Nat → Int32} {i : Int32} {x : Int32} (hr : r ∈ R) (hw : w r = .inl (cy 2, n, .inl f)) (hin : vp_in i n) (hdg : decode cc pc = .ok (.bastore, 1)) (kk : XW D lo p l e Rm s m args below meth c nL cells slots Q R ad (va_up w r (.inl (cy 2, n, .inl (upd f i.toNatClampNeg (vp_nar .boolean x))))) (pc + 1) lv (st)) : XW D lo p l e Rm s m args below meth c nL cells slots Q R ad w pc lv (.int x :: .int i :: .ref (ad r) :: st) := by
  intro H locs ls hP hD hS hl
  obtain ⟨n0, hn0, hn⟩ := wl_at ad w hr
  rw [hw] at hn
  refine va_zast F.1 F.2.1 F.2.2.2.2.2.2.2.1 hP hD hS n0 2 hn rfl hin hdg (fun H1 locs1 hP1 hD1 hS1 => ?_)
  rw [wl_set _ hD hn0] at hP1 hD1
  exact kk H1 locs1 ls hP1 hD1 hS1 hl
theorem x_astS (F : k_F p m c cc nL s own D cy lo) {r q n : Nat} {f : Nat → Option Nat} {i : Int32} {vs : List Value} (hr : r ∈ R) (hw : w r = .inl (cy 3, n, .inr (.inr (.inr (.inr f))))) (hq : q ∈ R) (hwq : w q = .inr (2, vs)) (hin : vp_in i n) (hdg : decode cc pc = .ok (.aastore, 1)) (kk : XW D lo p l e Rm s m args below meth c nL cells slots Q R ad (va_up w r (.inl (cy 3, n, .inr (.inr (.inr (.inr (va_up f i.toNatClampNeg (some (ad q))))))))) (pc + 1) lv (st)) : XW D lo p l e Rm s m args below meth c nL cells slots Q R ad w pc lv (.ref (ad q) :: .int i :: .ref (ad r) :: st) := by
  intro H locs ls hP hD hS hl
  obtain ⟨n0, hn0, hn⟩ := wl_at ad w hr
  obtain ⟨n1, hn1, hn2⟩ := wl_at ad w hq
  rw [hw] at hn
  rw [hwq] at hn2
  refine va_astq F.1 F.2.1 F.2.2.2.2.2.2.2.1 hP hD hS n0 3 n1 2 hn (r := (RX2, TX2, 4)) rfl hn2 rfl hin hdg (fun H1 locs1 hP1 hD1 hS1 => ?_)
  rw [wl_set _ hD hn0] at hP1 hD1
  exact kk H1 locs1 ls hP1 hD1 hS1 hl
theorem x_astT (F : k_F p m c cc nL s own D cy lo) {r q n : Nat} {f : Nat → Option Nat} {i : Int32} {vs : List Value} (hr : r ∈ R) (hw : w r = .inl (cy 4, n, .inr (.inr (.inr (.inr f))))) (hq : q ∈ R) (hwq : w q = .inr (3, vs)) (hin : vp_in i n) (hdg : decode cc pc = .ok (.aastore, 1)) (kk : XW D lo p l e Rm s m args below meth c nL cells slots Q R ad (va_up w r (.inl (cy 4, n, .inr (.inr (.inr (.inr (va_up f i.toNatClampNeg (some (ad q))))))))) (pc + 1) lv (st)) : XW D lo p l e Rm s m args below meth c nL cells slots Q R ad w pc lv (.ref (ad q) :: .int i :: .ref (ad r) :: st) := by
  intro H locs ls hP hD hS hl
  obtain ⟨n0, hn0, hn⟩ := wl_at ad w hr
  obtain ⟨n1, hn1, hn2⟩ := wl_at ad w hq
  rw [hw] at hn
  rw [hwq] at hn2
  refine va_astq F.1 F.2.1 F.2.2.2.2.2.2.2.1 hP hD hS n0 4 n1 3 hn (r := (RX3, TX3, 9)) rfl hn2 rfl hin hdg (fun H1 locs1 hP1 hD1 hS1 => ?_)
  rw [wl_set _ hD hn0] at hP1 hD1
  exact kk H1 locs1 ls hP1 hD1 hS1 hl
theorem x_alenI (F : k_F p m c cc nL s own D cy lo) {r n : Nat} {f : Nat → Int32} (hr : r ∈ R) (hw : w r = .inl (cy 0, n, .inl f)) (hdg : decode cc pc = .ok (.arraylength, 1)) (kk : XW D lo p l e Rm s m args below meth c nL cells slots Q R ad w (pc + 1) lv (.int (nI n) :: st)) : XW D lo p l e Rm s m args below meth c nL cells slots Q R ad w pc lv (.ref (ad r) :: st) := by
  intro H locs ls hP hD hS hl
  obtain ⟨n0, -, hn⟩ := wl_at ad w hr
  rw [hw] at hn
  exact va_alen F.1 F.2.1 F.2.2.2.2.2.2.2.1 hP n0 0 hn (ty := .int) rfl (v := nI n) rfl hdg (kk H locs ls hP hD hS hl)
theorem x_alenT (F : k_F p m c cc nL s own D cy lo) {r n : Nat} {f : Nat → Option Nat} (hr : r ∈ R) (hw : w r = .inl (cy 4, n, .inr (.inr (.inr (.inr f))))) (hdg : decode cc pc = .ok (.arraylength, 1)) (kk : XW D lo p l e Rm s m args below meth c nL cells slots Q R ad w (pc + 1) lv (.int (nI n) :: st)) : XW D lo p l e Rm s m args below meth c nL cells slots Q R ad w pc lv (.ref (ad r) :: st) := by
  intro H locs ls hP hD hS hl
  obtain ⟨n0, -, hn⟩ := wl_at ad w hr
  rw [hw] at hn
  exact va_alen F.1 F.2.1 F.2.2.2.2.2.2.2.1 hP n0 4 hn (ty := .object RX3) rfl (v := nI n) rfl hdg (kk H locs ls hP hD hS hl)
end KROWS
end
section
/-! What a method's words are: its code, its class, how it is chosen. -/
def k_Mc (y : MethodName) (b : ByteArray) (mL : Nat) (ret : Option FieldType) (n : Nat) : Prop :=
  Cond.code y b mL ret ∈ lw_tbl ∧ Cond.initialized y.cls ∈ lw_tbl ∧ y.cls ≠ "java/lang/invoke/MethodHandle" ∧ y.cls ≠ "java/lang/invoke/VarHandle" ∧ (parseMethodDescriptor y.desc).map (fun d => d.parameters.length) = some n
def k_Mv (y : MethodName) : Prop := Cond.instanceMethod y ∈ lw_tbl ∧ Cond.selects y.cls y y ∈ lw_tbl
def k_Ms (y : MethodName) : Prop := Cond.static y ∈ lw_tbl
theorem k_Ev.wm {D : va_G} {cy : Nat → ClassId} {lo : Nat} {U : State} (h : k_Ev D cy lo U) {w : Cond} (hw : w ∈ lw_tbl) (hg : goodWord w = true) (args : Array Value) : w.before args U = true :=
  word_at (State.WarmedH.refl U) (good_of_word hg) (h.1 w hw hg)
/-- a contract of ours -/
abbrev k_Met (l : Launch) (y : MethodName) (cc : ByteArray) (maxL : Nat) (ret : Option FieldType) (rm : Room) (D : va_G) (cy : Nat → ClassId) (lo : Nat) (R : List Nat) (ad : Nat → Nat) (w : Nat → va_E) (av : List Value) (Qc : Array Value → State → Outcome → State → Prop) : Prop :=
  Met l y [.code y cc maxL ret] rm (va_Pc av (k_Pr D cy lo R ad w)) Qc rm.cells rm.slots (lA lo)
/-- a contract of ours, of a method that may throw; what it throws, and the world then, stand in xpost -/
def k_XC (D : va_G) (lo : Nat) (xpost : String → k_S → Prop) : String → State → State → Prop := vx_X (fun _ : k_S => True) (fun E u t => xpost E u ∧ k_Po D lo u t) (lA lo)
abbrev k_MetX (l : Launch) (y : MethodName) (cc : ByteArray) (maxL : Nat) (ret : Option FieldType) (rm : Room) (D : va_G) (cy : Nat → ClassId) (lo : Nat) (R : List Nat) (ad : Nat → Nat) (w : Nat → va_E) (av : List Value) (Qc : Array Value → State → Outcome → State → Prop) (xpost : String → k_S → Prop) : Prop :=
  vx_Met l y [.code y cc maxL ret] rm (va_Pc av (k_Pr D cy lo R ad w)) Qc (k_XC D lo xpost) rm.cells rm.slots (lA lo)
abbrev k_Qi (D : va_G) (lo : Nat) (post : Int32 → k_S → Prop) : Array Value → State → Outcome → State → Prop := va_Qi post (k_Po D lo) (lA lo)
abbrev k_Ql (D : va_G) (lo : Nat) (post : Int64 → k_S → Prop) : Array Value → State → Outcome → State → Prop := va_Ql post (k_Po D lo) (lA lo)
abbrev k_Qv (D : va_G) (lo : Nat) (post : k_S → Prop) : Array Value → State → Outcome → State → Prop := va_Qv post (k_Po D lo) (lA lo)
abbrev k_Qq (D : va_G) (lo : Nat) (post : Option Nat → k_S → Prop) : Array Value → State → Outcome → State → Prop := va_Qq post (k_Po D lo) (lA lo)
/-- with E thrown over the frame at pc -/
def XT (D : va_G) (lo : Nat) (p : Program) (l : Launch) (e : Env) (Rm : Room) (s : State) (m : MethodId) (args : Array Value) (below : List Frame) (meth : Method) (c : Code) (nL cells slots : Nat) (Q : State → Prop)
    (R : List Nat) (ad : Nat → Nat) (w : Nat → va_E) (pc : Nat) (lv : List (Nat × Value)) (st : List Value) (E : String) : Prop :=
  ∀ (H : Heap) (locs : List Loc) (ls : Array Slot) (ce : Cell) (q : Addr), va_P D vwCl (wl R ad w) H → va_D (lA lo) (wl R ad w) → va_S (lA lo) s.heap H locs → lv_has ls nL lv → H[q]? = some ce → ce.vm = .none → s.vm.findClass E = some ce.cls → vx_W p l e Rm s m args below meth c H locs cells slots Q (F0 m pc ls st) q
section
variable {p : Program} {l : Launch} {e : Env} {R : Room} {s : State} {m : MethodId} {args : Array Value} {below : List Frame} {meth : Method} {c : Code} {H : Heap} {locs : List Loc} {cells slots : Nat} {Q : State → Prop}
variable {mc ms : Nat} {free : Addr → Prop} {A0 A1 : Nat → Prop} {H0 : Heap} {a : Array Value} {pc : Nat} {ls : Array Slot} {st0 rest : List Value}
theorem vx_callq {S SX : Type} {post : Option Nat → S → Prop} {px : SX → Prop} {B : S → State → Prop} {BX : String → SX → State → Prop} {AX : Nat → Prop} (hr : vx_Run p l e R s m args below meth c H locs cells slots mc ms (F0 m pc ls st0) rest (va_Qq post B A1 a) (vx_X px BX AX) free) (hS : va_S A0 H0 H locs) (hA : ∀ q, q < H.size → A1 q → A0 q) (hf : ∀ q, free q → A0 q) (hAX : ∀ q, q < H.size → AX q → A0 q)
    (kx : ∀ (E : String) (ce : Cell) (q9 : Addr) (u : SX) (t : State) (H1 : Heap) (locs1 : List Loc), t.heap = H1 → s.vm.Alike t.vm → px u → BX E u t → H.size ≤ H1.size → (∀ q : Nat, q < H.size → ¬ AX q → H1[q]? = H[q]?) → va_S A0 H0 H1 locs1 → H1[q9]? = some ce → ce.vm = .none → s.vm.findClass E = some ce.cls → vx_W p l e R s m args below meth c H1 locs1 (cells + mc) (slots + ms) Q (F0 m pc ls rest) q9)
    (kk : ∀ (r : Option Nat) (u : S) (t : State) (H1 : Heap) (locs1 : List Loc), t.heap = H1 → s.vm.Alike t.vm → post r u → B u t → H.size ≤ H1.size → (∀ q : Nat, q < H.size → ¬ A1 q → H1[q]? = H[q]?) → va_S A0 H0 H1 locs1 → W p l e R s m args below meth c H1 locs1 (cells + mc) (slots + ms) Q (F0 m (pc + 3) ls (va_rf r :: rest))) : W p l e R s m args below meth c H locs cells slots Q (F0 m pc ls st0) := by
  intro T hT X
  rcases hr T hT X with ⟨v, st₀, t, T', L, h0, X', hL, e1, e2, ⟨⟨r, u, hv, hp, hb⟩, hF⟩, st⟩ | ⟨q, st₀, t, T', L, E, ce, h0, X', hL, e1, e2, ⟨u, hp, hb, hF⟩, hce, hcv, hcl, st⟩
  · cases hv
    obtain ⟨k1, k2, k3⟩ := vx_keep h0 e1 hS hA hf hL hF
    obtain ⟨t2, a1, b1⟩ := kk r u t T'.heap (locs ++ L) e1.symm (by rw [← e2]; exact X'.warmed.alike) hp hb k1 k2 k3 T' rfl X'
    exact ⟨t2, st t2 a1, b1⟩
  · obtain ⟨k1, k2, k3⟩ := vx_keep h0 e1 hS hAX hf hL hF
    obtain ⟨t2, a1, b1⟩ := kx E ce q u t T'.heap (locs ++ L) e1.symm (by rw [← e2]; exact X'.warmed.alike) hp hb k1 k2 k3 (by rw [e1]; exact hce) hcv hcl T' rfl X'
    exact ⟨t2, st.trans a1, b1⟩
end
section KCALLS
variable {D : va_G} {cy : Nat → ClassId} {lo : Nat} {p : Program} {l : Launch} {e : Env} {Rm : Room} {s : State} {m : MethodId} {args : Array Value} {below : List Frame} {meth : Method} {c : Code} {cc : ByteArray} {nL cells slots : Nat} {Q : State → Prop} {own : String} {R : List Nat} {ad : Nat → Nat} {w : Nat → va_E} {pc : Nat} {lv : List (Nat × Value)} {st rest : List Value}
theorem k_pre (F : k_F p m c cc nL s own D cy lo) {H : Heap} {locs : List Loc} (hP : va_P D vwCl (wl R ad w) H) (hD : va_D (lA lo) (wl R ad w)) (hS : va_S (lA lo) s.heap H locs) (av : List Value) : ∀ U : State, U.heap = H → s.WarmedH U.vm → va_Pc av (k_Pr D cy lo R ad w) av.toArray U :=
  fun U hU hW => ⟨rfl, k_Ev.moved hW F.2.2.2.2 (by rw [hU]; exact hS.1) (fun a h1 h2 => by rw [hU]; exact hS.2.1 a h1 h2), by rw [hU]; exact hP, hD⟩
theorem k_callB (F : k_F p m c cc nL s own D cy lo) {index mL n : Nat} {y : MethodName} {b : ByteArray} {ret : Option FieldType} {rm : Room} (hc : k_Mc y b mL ret n) (hl : Cond.methodLink own index y ∈ lw_tbl) (hR : rm.frames + 1 ≤ Rm.frames ∧ 8 + (mL + 11) + rm.locals ≤ Rm.locals) : CallB Rm s args own index y b mL ret [.code y b mL ret] rm rm.cells rm.slots n :=
  ⟨rfl, rfl, hR.1, hR.2, fun w hw a' U hW => by rw [List.mem_singleton.mp hw]; exact word_at hW (good_of_word rfl) (F.2.2.2.2.wm hc.1 rfl args), List.mem_singleton.mpr rfl, F.2.2.2.2.wm hc.1 rfl args, F.2.2.2.2.wm hc.2.1 rfl args, ⟨hc.2.2.1, hc.2.2.2.1⟩, fun sig h => by
    have h2 := hc.2.2.2.2
    rw [h] at h2
    exact (Option.some.inj h2).symm, F.2.2.2.2.wm hl rfl args⟩
theorem k_callN (F : k_F p m c cc nL s own D cy lo) {index mL n : Nat} {y : MethodName} {host : String} {b : ByteArray} {ret : Option FieldType} {rm : Room} (hc : k_Mc y b mL ret n) (hl : Cond.methodLinkNest own index y host ∈ lw_tbl) (hR : rm.frames + 1 ≤ Rm.frames ∧ 8 + (mL + 11) + rm.locals ≤ Rm.locals) : va_CN Rm s args own index y host b mL ret [.code y b mL ret] rm rm.cells rm.slots n :=
  ⟨⟨rfl, rfl, hR.1, hR.2, fun w hw a' U hW => by rw [List.mem_singleton.mp hw]; exact word_at hW (good_of_word rfl) (F.2.2.2.2.wm hc.1 rfl args), List.mem_singleton.mpr rfl⟩, F.2.2.2.2.wm hc.1 rfl args, F.2.2.2.2.wm hc.2.1 rfl args, ⟨hc.2.2.1, hc.2.2.2.1⟩, fun sig h => by
    have h2 := hc.2.2.2.2
    rw [h] at h2
    exact (Option.some.inj h2).symm, va_Nw.use rfl (F.2.2.2.2.2.1 _ hl rfl)⟩
theorem k_fix (F : k_F p m c cc nL s own D cy lo) : CallFix p m c cc nL s args [] own := ⟨F.1, F.2.1, F.2.2.1, F.2.2.2.1, fun w h => absurd h List.not_mem_nil⟩
theorem x_callVi (F : k_F p m c cc nL s own D cy lo) {index mL n : Nat} {y : MethodName} {b : ByteArray} {ret : Option FieldType} {rm : Room} {post : Int32 → k_S → Prop} (As : List Value) {r0 ci : Nat} {fs : List Value} {T : u_T} {N : Nat} (hM : k_Met l y b mL ret rm D cy lo R ad w (.ref (ad r0) :: As) (k_Qi D lo post)) (hc : k_Mc y b mL ret n) (hv : k_Mv y) (hl : Cond.methodLink own index y ∈ lw_tbl) (hr : r0 ∈ R) (hw : w r0 = .inr (ci, fs)) (hcl : vwCl[ci]? = some (y.cls, T, N)) (hst : st = As.reverse ++ .ref (ad r0) :: rest) (hn : As.length = n) (hdg : decode cc pc = .ok (.invokevirtual index, 3)) (hR : rm.frames + 1 ≤ Rm.frames ∧ 8 + (mL + 11) + rm.locals ≤ Rm.locals) (hroom : cells + rm.cells ≤ Rm.cells ∧ slots + rm.slots ≤ Rm.slots) (hcat : (rest.map fun v => v.category).sum ≤ 8) (kk : ∀ (r : Int32) (u : k_S), post r u → XW D lo p l e Rm s m args below meth c nL (cells + rm.cells) (slots + rm.slots) Q u.1 u.2.1 u.2.2 (pc + 3) lv (.int r :: rest)) : XW D lo p l e Rm s m args below meth c nL cells slots Q R ad w pc lv (st) := by
  subst hst
  intro H locs ls hP hD hS hl0
  have hl := hl0
  obtain ⟨n0, -, hn0⟩ := wl_at ad w hr
  rw [hw] at hn0
  exact va_calli (va_runV (C := y.cls) (As := As) (rest := rest) (k_fix F) hM ⟨k_callB F hc ‹Cond.methodLink own index y ∈ lw_tbl› hR, F.2.2.2.2.wm hv.1 rfl args, F.2.2.2.2.wm hv.2 rfl args⟩ ⟨k_Pr.blind _, va_recv F.2.2.2.2.2.2.2.1 hP hcl hn0, k_pre F hP hD hS (.ref (ad r0) :: As)⟩ rfl hn hl0.1 rfl (lv_room hcat) hdg hroom) hS (fun _ _ h => h) (fun _ h => h) (fun r u t H1 locs1 ht hvm hpost hB hz hk hS => kk r u hpost H1 locs1 ls (by rw [← ht]; exact hB.1) hB.2 hS hl)
theorem x_callSi (F : k_F p m c cc nL s own D cy lo) {index mL n : Nat} {y : MethodName} {b : ByteArray} {ret : Option FieldType} {rm : Room} {post : Int32 → k_S → Prop} (As : List Value) (hM : k_Met l y b mL ret rm D cy lo R ad w (As) (k_Qi D lo post)) (hc : k_Mc y b mL ret n) (hv : k_Ms y) (hl : Cond.methodLink own index y ∈ lw_tbl) (hst : st = As.reverse ++ rest) (hn : As.length = n) (hdg : decode cc pc = .ok (.invokestatic index, 3)) (hR : rm.frames + 1 ≤ Rm.frames ∧ 8 + (mL + 11) + rm.locals ≤ Rm.locals) (hroom : cells + rm.cells ≤ Rm.cells ∧ slots + rm.slots ≤ Rm.slots) (hcat : (rest.map fun v => v.category).sum ≤ 8) (kk : ∀ (r : Int32) (u : k_S), post r u → XW D lo p l e Rm s m args below meth c nL (cells + rm.cells) (slots + rm.slots) Q u.1 u.2.1 u.2.2 (pc + 3) lv (.int r :: rest)) : XW D lo p l e Rm s m args below meth c nL cells slots Q R ad w pc lv (st) := by
  subst hst
  intro H locs ls hP hD hS hl0
  have hl := hl0
  exact va_calli (va_runS (As := As) (rest := rest) (k_fix F) hM ⟨k_callB F hc ‹Cond.methodLink own index y ∈ lw_tbl› hR, F.2.2.2.2.wm hv rfl args⟩ ⟨k_Pr.blind _, k_pre F hP hD hS As⟩ rfl hn hl0.1 rfl (lv_room hcat) hdg hroom) hS (fun _ _ h => h) (fun _ h => h) (fun r u t H1 locs1 ht hvm hpost hB hz hk hS => kk r u hpost H1 locs1 ls (by rw [← ht]; exact hB.1) hB.2 hS hl)
theorem x_callSNi (F : k_F p m c cc nL s own D cy lo) {index mL n : Nat} {y : MethodName} {b : ByteArray} {ret : Option FieldType} {rm : Room} {post : Int32 → k_S → Prop} (As : List Value) (hM : k_Met l y b mL ret rm D cy lo R ad w (As) (k_Qi D lo post)) {host : String} (hc : k_Mc y b mL ret n) (hv : k_Ms y) (hl : Cond.methodLinkNest own index y host ∈ lw_tbl) (hst : st = As.reverse ++ rest) (hn : As.length = n) (hdg : decode cc pc = .ok (.invokestatic index, 3)) (hR : rm.frames + 1 ≤ Rm.frames ∧ 8 + (mL + 11) + rm.locals ≤ Rm.locals) (hroom : cells + rm.cells ≤ Rm.cells ∧ slots + rm.slots ≤ Rm.slots) (hcat : (rest.map fun v => v.category).sum ≤ 8) (kk : ∀ (r : Int32) (u : k_S), post r u → XW D lo p l e Rm s m args below meth c nL (cells + rm.cells) (slots + rm.slots) Q u.1 u.2.1 u.2.2 (pc + 3) lv (.int r :: rest)) : XW D lo p l e Rm s m args below meth c nL cells slots Q R ad w pc lv (st) := by
  subst hst
  intro H locs ls hP hD hS hl0
  have hl := hl0
  exact va_calli (va_runSN (As := As) (rest := rest) (k_fix F) hM ⟨k_callN F hc ‹Cond.methodLinkNest own index y host ∈ lw_tbl› hR, F.2.2.2.2.wm hv rfl args, trivial⟩ ⟨k_Pr.blind _, k_pre F hP hD hS As⟩ rfl hn hl0.1 rfl (lv_room hcat) hdg hroom) hS (fun _ _ h => h) (fun _ h => h) (fun r u t H1 locs1 ht hvm hpost hB hz hk hS => kk r u hpost H1 locs1 ls (by rw [← ht]; exact hB.1) hB.2 hS hl)
theorem x_callVix (F : k_F p m c cc nL s own D cy lo) {xpost : String → k_S → Prop} {index mL n : Nat} {y : MethodName} {b : ByteArray} {ret : Option FieldType} {rm : Room} {post : Int32 → k_S → Prop} (As : List Value) {r0 ci : Nat} {fs : List Value} {T : u_T} {N : Nat} (hM : k_MetX l y b mL ret rm D cy lo R ad w (.ref (ad r0) :: As) (k_Qi D lo post) xpost) (hc : k_Mc y b mL ret n) (hv : k_Mv y) (hl : Cond.methodLink own index y ∈ lw_tbl) (hr : r0 ∈ R) (hw : w r0 = .inr (ci, fs)) (hcl : vwCl[ci]? = some (y.cls, T, N)) (hst : st = As.reverse ++ .ref (ad r0) :: rest) (hn : As.length = n) (hdg : decode cc pc = .ok (.invokevirtual index, 3)) (hR : rm.frames + 1 ≤ Rm.frames ∧ 8 + (mL + 11) + rm.locals ≤ Rm.locals) (hroom : cells + rm.cells ≤ Rm.cells ∧ slots + rm.slots ≤ Rm.slots) (hcat : (rest.map fun v => v.category).sum ≤ 8) (kx : ∀ (E : String) (u : k_S), xpost E u → XT D lo p l e Rm s m args below meth c nL (cells + rm.cells) (slots + rm.slots) Q u.1 u.2.1 u.2.2 pc lv (rest) E) (kk : ∀ (r : Int32) (u : k_S), post r u → XW D lo p l e Rm s m args below meth c nL (cells + rm.cells) (slots + rm.slots) Q u.1 u.2.1 u.2.2 (pc + 3) lv (.int r :: rest)) : XW D lo p l e Rm s m args below meth c nL cells slots Q R ad w pc lv (st) := by
  subst hst
  intro H locs ls hP hD hS hl0
  have hl := hl0
  obtain ⟨n0, -, hn0⟩ := wl_at ad w hr
  rw [hw] at hn0
  exact vx_calli (vx_runV (C := y.cls) (As := As) (rest := rest) (k_fix F) hM ⟨k_callB F hc ‹Cond.methodLink own index y ∈ lw_tbl› hR, F.2.2.2.2.wm hv.1 rfl args, F.2.2.2.2.wm hv.2 rfl args⟩ ⟨k_Pr.blind _, va_recv F.2.2.2.2.2.2.2.1 hP hcl hn0, k_pre F hP hD hS (.ref (ad r0) :: As)⟩ rfl hn hl0.1 rfl (lv_room hcat) hdg hroom) hS (fun _ _ h => h) (fun _ h => h) (fun _ _ h => h) (fun E ce q u t H1 locs1 ht hvm hp hB hz hk hS h1 h2 h3 => kx E u hB.1 H1 locs1 ls ce q (by rw [← ht]; exact hB.2.1) hB.2.2 hS hl h1 h2 h3) (fun r u t H1 locs1 ht hvm hpost hB hz hk hS => kk r u hpost H1 locs1 ls (by rw [← ht]; exact hB.1) hB.2 hS hl)
theorem x_callSix (F : k_F p m c cc nL s own D cy lo) {xpost : String → k_S → Prop} {index mL n : Nat} {y : MethodName} {b : ByteArray} {ret : Option FieldType} {rm : Room} {post : Int32 → k_S → Prop} (As : List Value) (hM : k_MetX l y b mL ret rm D cy lo R ad w (As) (k_Qi D lo post) xpost) (hc : k_Mc y b mL ret n) (hv : k_Ms y) (hl : Cond.methodLink own index y ∈ lw_tbl) (hst : st = As.reverse ++ rest) (hn : As.length = n) (hdg : decode cc pc = .ok (.invokestatic index, 3)) (hR : rm.frames + 1 ≤ Rm.frames ∧ 8 + (mL + 11) + rm.locals ≤ Rm.locals) (hroom : cells + rm.cells ≤ Rm.cells ∧ slots + rm.slots ≤ Rm.slots) (hcat : (rest.map fun v => v.category).sum ≤ 8) (kx : ∀ (E : String) (u : k_S), xpost E u → XT D lo p l e Rm s m args below meth c nL (cells + rm.cells) (slots + rm.slots) Q u.1 u.2.1 u.2.2 pc lv (rest) E) (kk : ∀ (r : Int32) (u : k_S), post r u → XW D lo p l e Rm s m args below meth c nL (cells + rm.cells) (slots + rm.slots) Q u.1 u.2.1 u.2.2 (pc + 3) lv (.int r :: rest)) : XW D lo p l e Rm s m args below meth c nL cells slots Q R ad w pc lv (st) := by
  subst hst
  intro H locs ls hP hD hS hl0
  have hl := hl0
  exact vx_calli (vx_runS (As := As) (rest := rest) (k_fix F) hM ⟨k_callB F hc ‹Cond.methodLink own index y ∈ lw_tbl› hR, F.2.2.2.2.wm hv rfl args⟩ ⟨k_Pr.blind _, k_pre F hP hD hS As⟩ rfl hn hl0.1 rfl (lv_room hcat) hdg hroom) hS (fun _ _ h => h) (fun _ h => h) (fun _ _ h => h) (fun E ce q u t H1 locs1 ht hvm hp hB hz hk hS h1 h2 h3 => kx E u hB.1 H1 locs1 ls ce q (by rw [← ht]; exact hB.2.1) hB.2.2 hS hl h1 h2 h3) (fun r u t H1 locs1 ht hvm hpost hB hz hk hS => kk r u hpost H1 locs1 ls (by rw [← ht]; exact hB.1) hB.2 hS hl)
theorem x_callVl (F : k_F p m c cc nL s own D cy lo) {index mL n : Nat} {y : MethodName} {b : ByteArray} {ret : Option FieldType} {rm : Room} {post : Int64 → k_S → Prop} (As : List Value) {r0 ci : Nat} {fs : List Value} {T : u_T} {N : Nat} (hM : k_Met l y b mL ret rm D cy lo R ad w (.ref (ad r0) :: As) (k_Ql D lo post)) (hc : k_Mc y b mL ret n) (hv : k_Mv y) (hl : Cond.methodLink own index y ∈ lw_tbl) (hr : r0 ∈ R) (hw : w r0 = .inr (ci, fs)) (hcl : vwCl[ci]? = some (y.cls, T, N)) (hst : st = As.reverse ++ .ref (ad r0) :: rest) (hn : As.length = n) (hdg : decode cc pc = .ok (.invokevirtual index, 3)) (hR : rm.frames + 1 ≤ Rm.frames ∧ 8 + (mL + 11) + rm.locals ≤ Rm.locals) (hroom : cells + rm.cells ≤ Rm.cells ∧ slots + rm.slots ≤ Rm.slots) (hcat : (rest.map fun v => v.category).sum ≤ 8) (kk : ∀ (r : Int64) (u : k_S), post r u → XW D lo p l e Rm s m args below meth c nL (cells + rm.cells) (slots + rm.slots) Q u.1 u.2.1 u.2.2 (pc + 3) lv (.long r :: rest)) : XW D lo p l e Rm s m args below meth c nL cells slots Q R ad w pc lv (st) := by
  subst hst
  intro H locs ls hP hD hS hl0
  have hl := hl0
  obtain ⟨n0, -, hn0⟩ := wl_at ad w hr
  rw [hw] at hn0
  exact va_calll (va_runV (C := y.cls) (As := As) (rest := rest) (k_fix F) hM ⟨k_callB F hc ‹Cond.methodLink own index y ∈ lw_tbl› hR, F.2.2.2.2.wm hv.1 rfl args, F.2.2.2.2.wm hv.2 rfl args⟩ ⟨k_Pr.blind _, va_recv F.2.2.2.2.2.2.2.1 hP hcl hn0, k_pre F hP hD hS (.ref (ad r0) :: As)⟩ rfl hn hl0.1 rfl (lv_room hcat) hdg hroom) hS (fun _ _ h => h) (fun _ h => h) (fun r u t H1 locs1 ht hvm hpost hB hz hk hS => kk r u hpost H1 locs1 ls (by rw [← ht]; exact hB.1) hB.2 hS hl)
theorem x_callSl (F : k_F p m c cc nL s own D cy lo) {index mL n : Nat} {y : MethodName} {b : ByteArray} {ret : Option FieldType} {rm : Room} {post : Int64 → k_S → Prop} (As : List Value) (hM : k_Met l y b mL ret rm D cy lo R ad w (As) (k_Ql D lo post)) (hc : k_Mc y b mL ret n) (hv : k_Ms y) (hl : Cond.methodLink own index y ∈ lw_tbl) (hst : st = As.reverse ++ rest) (hn : As.length = n) (hdg : decode cc pc = .ok (.invokestatic index, 3)) (hR : rm.frames + 1 ≤ Rm.frames ∧ 8 + (mL + 11) + rm.locals ≤ Rm.locals) (hroom : cells + rm.cells ≤ Rm.cells ∧ slots + rm.slots ≤ Rm.slots) (hcat : (rest.map fun v => v.category).sum ≤ 8) (kk : ∀ (r : Int64) (u : k_S), post r u → XW D lo p l e Rm s m args below meth c nL (cells + rm.cells) (slots + rm.slots) Q u.1 u.2.1 u.2.2 (pc + 3) lv (.long r :: rest)) : XW D lo p l e Rm s m args below meth c nL cells slots Q R ad w pc lv (st) := by
  subst hst
  intro H locs ls hP hD hS hl0
  have hl := hl0
  exact va_calll (va_runS (As := As) (rest := rest) (k_fix F) hM ⟨k_callB F hc ‹Cond.methodLink own index y ∈ lw_tbl› hR, F.2.2.2.2.wm hv rfl args⟩ ⟨k_Pr.blind _, k_pre F hP hD hS As⟩ rfl hn hl0.1 rfl (lv_room hcat) hdg hroom) hS (fun _ _ h => h) (fun _ h => h) (fun r u t H1 locs1 ht hvm hpost hB hz hk hS => kk r u hpost H1 locs1 ls (by rw [← ht]; exact hB.1) hB.2 hS hl)
theorem x_callSNl (F : k_F p m c cc nL s own D cy lo) {index mL n : Nat} {y : MethodName} {b : ByteArray} {ret : Option FieldType} {rm : Room} {post : Int64 → k_S → Prop} (As : List Value) (hM : k_Met l y b mL ret rm D cy lo R ad w (As) (k_Ql D lo post)) {host : String} (hc : k_Mc y b mL ret n) (hv : k_Ms y) (hl : Cond.methodLinkNest own index y host ∈ lw_tbl) (hst : st = As.reverse ++ rest) (hn : As.length = n) (hdg : decode cc pc = .ok (.invokestatic index, 3)) (hR : rm.frames + 1 ≤ Rm.frames ∧ 8 + (mL + 11) + rm.locals ≤ Rm.locals) (hroom : cells + rm.cells ≤ Rm.cells ∧ slots + rm.slots ≤ Rm.slots) (hcat : (rest.map fun v => v.category).sum ≤ 8) (kk : ∀ (r : Int64) (u : k_S), post r u → XW D lo p l e Rm s m args below meth c nL (cells + rm.cells) (slots + rm.slots) Q u.1 u.2.1 u.2.2 (pc + 3) lv (.long r :: rest)) : XW D lo p l e Rm s m args below meth c nL cells slots Q R ad w pc lv (st) := by
  subst hst
  intro H locs ls hP hD hS hl0
  have hl := hl0
  exact va_calll (va_runSN (As := As) (rest := rest) (k_fix F) hM ⟨k_callN F hc ‹Cond.methodLinkNest own index y host ∈ lw_tbl› hR, F.2.2.2.2.wm hv rfl args, trivial⟩ ⟨k_Pr.blind _, k_pre F hP hD hS As⟩ rfl hn hl0.1 rfl (lv_room hcat) hdg hroom) hS (fun _ _ h => h) (fun _ h => h) (fun r u t H1 locs1 ht hvm hpost hB hz hk hS => kk r u hpost H1 locs1 ls (by rw [← ht]; exact hB.1) hB.2 hS hl)
theorem x_callVlx (F : k_F p m c cc nL s own D cy lo) {xpost : String → k_S → Prop} {index mL n : Nat} {y : MethodName} {b : ByteArray} {ret : Option FieldType} {rm : Room} {post : Int64 → k_S → Prop} (As : List Value) {r0 ci : Nat} {fs : List Value} {T : u_T} {N : Nat} (hM : k_MetX l y b mL ret rm D cy lo R ad w (.ref (ad r0) :: As) (k_Ql D lo post) xpost) (hc : k_Mc y b mL ret n) (hv : k_Mv y) (hl : Cond.methodLink own index y ∈ lw_tbl) (hr : r0 ∈ R) (hw : w r0 = .inr (ci, fs)) (hcl : vwCl[ci]? = some (y.cls, T, N)) (hst : st = As.reverse ++ .ref (ad r0) :: rest) (hn : As.length = n) (hdg : decode cc pc = .ok (.invokevirtual index, 3)) (hR : rm.frames + 1 ≤ Rm.frames ∧ 8 + (mL + 11) + rm.locals ≤ Rm.locals) (hroom : cells + rm.cells ≤ Rm.cells ∧ slots + rm.slots ≤ Rm.slots) (hcat : (rest.map fun v => v.category).sum ≤ 8) (kx : ∀ (E : String) (u : k_S), xpost E u → XT D lo p l e Rm s m args below meth c nL (cells + rm.cells) (slots + rm.slots) Q u.1 u.2.1 u.2.2 pc lv (rest) E) (kk : ∀ (r : Int64) (u : k_S), post r u → XW D lo p l e Rm s m args below meth c nL (cells + rm.cells) (slots + rm.slots) Q u.1 u.2.1 u.2.2 (pc + 3) lv (.long r :: rest)) : XW D lo p l e Rm s m args below meth c nL cells slots Q R ad w pc lv (st) := by
  subst hst
  intro H locs ls hP hD hS hl0
  have hl := hl0
  obtain ⟨n0, -, hn0⟩ := wl_at ad w hr
  rw [hw] at hn0
  exact vx_calll (vx_runV (C := y.cls) (As := As) (rest := rest) (k_fix F) hM ⟨k_callB F hc ‹Cond.methodLink own index y ∈ lw_tbl› hR, F.2.2.2.2.wm hv.1 rfl args, F.2.2.2.2.wm hv.2 rfl args⟩ ⟨k_Pr.blind _, va_recv F.2.2.2.2.2.2.2.1 hP hcl hn0, k_pre F hP hD hS (.ref (ad r0) :: As)⟩ rfl hn hl0.1 rfl (lv_room hcat) hdg hroom) hS (fun _ _ h => h) (fun _ h => h) (fun _ _ h => h) (fun E ce q u t H1 locs1 ht hvm hp hB hz hk hS h1 h2 h3 => kx E u hB.1 H1 locs1 ls ce q (by rw [← ht]; exact hB.2.1) hB.2.2 hS hl h1 h2 h3) (fun r u t H1 locs1 ht hvm hpost hB hz hk hS => kk r u hpost H1 locs1 ls (by rw [← ht]; exact hB.1) hB.2 hS hl)
theorem x_callSlx (F : k_F p m c cc nL s own D cy lo) {xpost : String → k_S → Prop} {index mL n : Nat} {y : MethodName} {b : ByteArray} {ret : Option FieldType} {rm : Room} {post : Int64 → k_S → Prop} (As : List Value) (hM : k_MetX l y b mL ret rm D cy lo R ad w (As) (k_Ql D lo post) xpost) (hc : k_Mc y b mL ret n) (hv : k_Ms y) (hl : Cond.methodLink own index y ∈ lw_tbl) (hst : st = As.reverse ++ rest) (hn : As.length = n) (hdg : decode cc pc = .ok (.invokestatic index, 3)) (hR : rm.frames + 1 ≤ Rm.frames ∧ 8 + (mL + 11) + rm.locals ≤ Rm.locals) (hroom : cells + rm.cells ≤ Rm.cells ∧ slots + rm.slots ≤ Rm.slots) (hcat : (rest.map fun v => v.category).sum ≤ 8) (kx : ∀ (E : String) (u : k_S), xpost E u → XT D lo p l e Rm s m args below meth c nL (cells + rm.cells) (slots + rm.slots) Q u.1 u.2.1 u.2.2 pc lv (rest) E) (kk : ∀ (r : Int64) (u : k_S), post r u → XW D lo p l e Rm s m args below meth c nL (cells + rm.cells) (slots + rm.slots) Q u.1 u.2.1 u.2.2 (pc + 3) lv (.long r :: rest)) : XW D lo p l e Rm s m args below meth c nL cells slots Q R ad w pc lv (st) := by
  subst hst
  intro H locs ls hP hD hS hl0
  have hl := hl0
  exact vx_calll (vx_runS (As := As) (rest := rest) (k_fix F) hM ⟨k_callB F hc ‹Cond.methodLink own index y ∈ lw_tbl› hR, F.2.2.2.2.wm hv rfl args⟩ ⟨k_Pr.blind _, k_pre F hP hD hS As⟩ rfl hn hl0.1 rfl (lv_room hcat) hdg hroom) hS (fun _ _ h => h) (fun _ h => h) (fun _ _ h => h) (fun E ce q u t H1 locs1 ht hvm hp hB hz hk hS h1 h2 h3 => kx E u hB.1 H1 locs1 ls ce q (by rw [← ht]; exact hB.2.1) hB.2.2 hS hl h1 h2 h3) (fun r u t H1 locs1 ht hvm hpost hB hz hk hS => kk r u hpost H1 locs1 ls (by rw [← ht]; exact hB.1) hB.2 hS hl)
theorem x_callVv (F : k_F p m c cc nL s own D cy lo) {index mL n : Nat} {y : MethodName} {b : ByteArray} {ret : Option FieldType} {rm : Room} {post : k_S → Prop} (As : List Value) {r0 ci : Nat} {fs : List Value} {T : u_T} {N : Nat} (hM : k_Met l y b mL ret rm D cy lo R ad w (.ref (ad r0) :: As) (k_Qv D lo post)) (hc : k_Mc y b mL ret n) (hv : k_Mv y) (hl : Cond.methodLink own index y ∈ lw_tbl) (hr : r0 ∈ R) (hw : w r0 = .inr (ci, fs)) (hcl : vwCl[ci]? = some (y.cls, T, N)) (hst : st = As.reverse ++ .ref (ad r0) :: rest) (hn : As.length = n) (hdg : decode cc pc = .ok (.invokevirtual index, 3)) (hR : rm.frames + 1 ≤ Rm.frames ∧ 8 + (mL + 11) + rm.locals ≤ Rm.locals) (hroom : cells + rm.cells ≤ Rm.cells ∧ slots + rm.slots ≤ Rm.slots) (hcat : (rest.map fun v => v.category).sum ≤ 8) (kk : ∀ (u : k_S), post u → XW D lo p l e Rm s m args below meth c nL (cells + rm.cells) (slots + rm.slots) Q u.1 u.2.1 u.2.2 (pc + 3) lv (rest)) : XW D lo p l e Rm s m args below meth c nL cells slots Q R ad w pc lv (st) := by
  subst hst
  intro H locs ls hP hD hS hl0
  have hl := hl0
  obtain ⟨n0, -, hn0⟩ := wl_at ad w hr
  rw [hw] at hn0
  exact va_callv (va_runV (C := y.cls) (As := As) (rest := rest) (k_fix F) hM ⟨k_callB F hc ‹Cond.methodLink own index y ∈ lw_tbl› hR, F.2.2.2.2.wm hv.1 rfl args, F.2.2.2.2.wm hv.2 rfl args⟩ ⟨k_Pr.blind _, va_recv F.2.2.2.2.2.2.2.1 hP hcl hn0, k_pre F hP hD hS (.ref (ad r0) :: As)⟩ rfl hn hl0.1 rfl (lv_room hcat) hdg hroom) hS (fun _ _ h => h) (fun _ h => h) (fun u t H1 locs1 ht hvm hpost hB hz hk hS => kk u hpost H1 locs1 ls (by rw [← ht]; exact hB.1) hB.2 hS hl)
theorem x_callSv (F : k_F p m c cc nL s own D cy lo) {index mL n : Nat} {y : MethodName} {b : ByteArray} {ret : Option FieldType} {rm : Room} {post : k_S → Prop} (As : List Value) (hM : k_Met l y b mL ret rm D cy lo R ad w (As) (k_Qv D lo post)) (hc : k_Mc y b mL ret n) (hv : k_Ms y) (hl : Cond.methodLink own index y ∈ lw_tbl) (hst : st = As.reverse ++ rest) (hn : As.length = n) (hdg : decode cc pc = .ok (.invokestatic index, 3)) (hR : rm.frames + 1 ≤ Rm.frames ∧ 8 + (mL + 11) + rm.locals ≤ Rm.locals) (hroom : cells + rm.cells ≤ Rm.cells ∧ slots + rm.slots ≤ Rm.slots) (hcat : (rest.map fun v => v.category).sum ≤ 8) (kk : ∀ (u : k_S), post u → XW D lo p l e Rm s m args below meth c nL (cells + rm.cells) (slots + rm.slots) Q u.1 u.2.1 u.2.2 (pc + 3) lv (rest)) : XW D lo p l e Rm s m args below meth c nL cells slots Q R ad w pc lv (st) := by
  subst hst
  intro H locs ls hP hD hS hl0
  have hl := hl0
  exact va_callv (va_runS (As := As) (rest := rest) (k_fix F) hM ⟨k_callB F hc ‹Cond.methodLink own index y ∈ lw_tbl› hR, F.2.2.2.2.wm hv rfl args⟩ ⟨k_Pr.blind _, k_pre F hP hD hS As⟩ rfl hn hl0.1 rfl (lv_room hcat) hdg hroom) hS (fun _ _ h => h) (fun _ h => h) (fun u t H1 locs1 ht hvm hpost hB hz hk hS => kk u hpost H1 locs1 ls (by rw [← ht]; exact hB.1) hB.2 hS hl)
theorem x_callSNv (F : k_F p m c cc nL s own D cy lo) {index mL n : Nat} {y : MethodName} {b : ByteArray} {ret : Option FieldType} {rm : Room} {post : k_S → Prop} (As : List Value) (hM : k_Met l y b mL ret rm D cy lo R ad w (As) (k_Qv D lo post)) {host : String} (hc : k_Mc y b mL ret n) (hv : k_Ms y) (hl : Cond.methodLinkNest own index y host ∈ lw_tbl) (hst : st = As.reverse ++ rest) (hn : As.length = n) (hdg : decode cc pc = .ok (.invokestatic index, 3)) (hR : rm.frames + 1 ≤ Rm.frames ∧ 8 + (mL + 11) + rm.locals ≤ Rm.locals) (hroom : cells + rm.cells ≤ Rm.cells ∧ slots + rm.slots ≤ Rm.slots) (hcat : (rest.map fun v => v.category).sum ≤ 8) (kk : ∀ (u : k_S), post u → XW D lo p l e Rm s m args below meth c nL (cells + rm.cells) (slots + rm.slots) Q u.1 u.2.1 u.2.2 (pc + 3) lv (rest)) : XW D lo p l e Rm s m args below meth c nL cells slots Q R ad w pc lv (st) := by
  subst hst
  intro H locs ls hP hD hS hl0
  have hl := hl0
  exact va_callv (va_runSN (As := As) (rest := rest) (k_fix F) hM ⟨k_callN F hc ‹Cond.methodLinkNest own index y host ∈ lw_tbl› hR, F.2.2.2.2.wm hv rfl args, trivial⟩ ⟨k_Pr.blind _, k_pre F hP hD hS As⟩ rfl hn hl0.1 rfl (lv_room hcat) hdg hroom) hS (fun _ _ h => h) (fun _ h => h) (fun u t H1 locs1 ht hvm hpost hB hz hk hS => kk u hpost H1 locs1 ls (by rw [← ht]; exact hB.1) hB.2 hS hl)
theorem x_callI (F : k_F p m c cc nL s own D cy lo) {index mL n : Nat} {y : MethodName} {b : ByteArray} {rm : Room} {post : k_S → Prop} (As : List Value) {r0 : Nat} (hM : k_Met l y b mL none rm D cy lo R ad w (.ref (ad r0) :: As) (k_Qv D lo post)) (hc : k_Mc y b mL none n) (hy : y.name = "<init>") (hv : Cond.instanceMethod y ∈ lw_tbl) (hl : Cond.methodLink own index y ∈ lw_tbl) (hst : st = As.reverse ++ .ref (ad r0) :: rest) (hn : As.length = n) (hdg : decode cc pc = .ok (.invokespecial index, 3)) (hR : rm.frames + 1 ≤ Rm.frames ∧ 8 + (mL + 11) + rm.locals ≤ Rm.locals) (hroom : cells + rm.cells ≤ Rm.cells ∧ slots + rm.slots ≤ Rm.slots) (hcat : (rest.map fun v => v.category).sum ≤ 8) (kk : ∀ (u : k_S), post u → XW D lo p l e Rm s m args below meth c nL (cells + rm.cells) (slots + rm.slots) Q u.1 u.2.1 u.2.2 (pc + 3) lv (rest)) : XW D lo p l e Rm s m args below meth c nL cells slots Q R ad w pc lv (st) := by
  subst hst
  intro H locs ls hP hD hS hl0
  have hl := hl0
  exact va_callv (va_runI (As := As) (rest := rest) (k_fix F) hM ⟨k_callB F hc ‹Cond.methodLink own index y ∈ lw_tbl› hR, hy, F.2.2.2.2.wm hv rfl args⟩ ⟨k_Pr.blind _, k_pre F hP hD hS (.ref (ad r0) :: As)⟩ rfl hn hl0.1 rfl (lv_room hcat) hdg hroom) hS (fun _ _ h => h) (fun _ h => h) (fun u t H1 locs1 ht hvm hpost hB hz hk hS => kk u hpost H1 locs1 ls (by rw [← ht]; exact hB.1) hB.2 hS hl)
theorem x_callIN (F : k_F p m c cc nL s own D cy lo) {index mL n : Nat} {y : MethodName} {b : ByteArray} {rm : Room} {post : k_S → Prop} (As : List Value) {r0 : Nat} (hM : k_Met l y b mL none rm D cy lo R ad w (.ref (ad r0) :: As) (k_Qv D lo post)) {host : String} (hc : k_Mc y b mL none n) (hy : y.name = "<init>") (hv : Cond.instanceMethod y ∈ lw_tbl) (hl : Cond.methodLinkNest own index y host ∈ lw_tbl) (hst : st = As.reverse ++ .ref (ad r0) :: rest) (hn : As.length = n) (hdg : decode cc pc = .ok (.invokespecial index, 3)) (hR : rm.frames + 1 ≤ Rm.frames ∧ 8 + (mL + 11) + rm.locals ≤ Rm.locals) (hroom : cells + rm.cells ≤ Rm.cells ∧ slots + rm.slots ≤ Rm.slots) (hcat : (rest.map fun v => v.category).sum ≤ 8) (kk : ∀ (u : k_S), post u → XW D lo p l e Rm s m args below meth c nL (cells + rm.cells) (slots + rm.slots) Q u.1 u.2.1 u.2.2 (pc + 3) lv (rest)) : XW D lo p l e Rm s m args below meth c nL cells slots Q R ad w pc lv (st) := by
  subst hst
  intro H locs ls hP hD hS hl0
  have hl := hl0
  exact va_callv (va_runIN (As := As) (rest := rest) (k_fix F) hM ⟨k_callN F hc ‹Cond.methodLinkNest own index y host ∈ lw_tbl› hR, hy, F.2.2.2.2.wm hv rfl args⟩ ⟨k_Pr.blind _, k_pre F hP hD hS (.ref (ad r0) :: As)⟩ rfl hn hl0.1 rfl (lv_room hcat) hdg hroom) hS (fun _ _ h => h) (fun _ h => h) (fun u t H1 locs1 ht hvm hpost hB hz hk hS => kk u hpost H1 locs1 ls (by rw [← ht]; exact hB.1) hB.2 hS hl)
theorem x_callVvx (F : k_F p m c cc nL s own D cy lo) {xpost : String → k_S → Prop} {index mL n : Nat} {y : MethodName} {b : ByteArray} {ret : Option FieldType} {rm : Room} {post : k_S → Prop} (As : List Value) {r0 ci : Nat} {fs : List Value} {T : u_T} {N : Nat} (hM : k_MetX l y b mL ret rm D cy lo R ad w (.ref (ad r0) :: As) (k_Qv D lo post) xpost) (hc : k_Mc y b mL ret n) (hv : k_Mv y) (hl : Cond.methodLink own index y ∈ lw_tbl) (hr : r0 ∈ R) (hw : w r0 = .inr (ci, fs)) (hcl : vwCl[ci]? = some (y.cls, T, N)) (hst : st = As.reverse ++ .ref (ad r0) :: rest) (hn : As.length = n) (hdg : decode cc pc = .ok (.invokevirtual index, 3)) (hR : rm.frames + 1 ≤ Rm.frames ∧ 8 + (mL + 11) + rm.locals ≤ Rm.locals) (hroom : cells + rm.cells ≤ Rm.cells ∧ slots + rm.slots ≤ Rm.slots) (hcat : (rest.map fun v => v.category).sum ≤ 8) (kx : ∀ (E : String) (u : k_S), xpost E u → XT D lo p l e Rm s m args below meth c nL (cells + rm.cells) (slots + rm.slots) Q u.1 u.2.1 u.2.2 pc lv (rest) E) (kk : ∀ (u : k_S), post u → XW D lo p l e Rm s m args below meth c nL (cells + rm.cells) (slots + rm.slots) Q u.1 u.2.1 u.2.2 (pc + 3) lv (rest)) : XW D lo p l e Rm s m args below meth c nL cells slots Q R ad w pc lv (st) := by
  subst hst
  intro H locs ls hP hD hS hl0
  have hl := hl0
  obtain ⟨n0, -, hn0⟩ := wl_at ad w hr
  rw [hw] at hn0
  exact vx_callv (vx_runV (C := y.cls) (As := As) (rest := rest) (k_fix F) hM ⟨k_callB F hc ‹Cond.methodLink own index y ∈ lw_tbl› hR, F.2.2.2.2.wm hv.1 rfl args, F.2.2.2.2.wm hv.2 rfl args⟩ ⟨k_Pr.blind _, va_recv F.2.2.2.2.2.2.2.1 hP hcl hn0, k_pre F hP hD hS (.ref (ad r0) :: As)⟩ rfl hn hl0.1 rfl (lv_room hcat) hdg hroom) hS (fun _ _ h => h) (fun _ h => h) (fun _ _ h => h) (fun E ce q u t H1 locs1 ht hvm hp hB hz hk hS h1 h2 h3 => kx E u hB.1 H1 locs1 ls ce q (by rw [← ht]; exact hB.2.1) hB.2.2 hS hl h1 h2 h3) (fun u t H1 locs1 ht hvm hpost hB hz hk hS => kk u hpost H1 locs1 ls (by rw [← ht]; exact hB.1) hB.2 hS hl)
theorem x_callSvx (F : k_F p m c cc nL s own D cy lo) {xpost : String → k_S → Prop} {index mL n : Nat} {y : MethodName} {b : ByteArray} {ret : Option FieldType} {rm : Room} {post : k_S → Prop} (As : List Value) (hM : k_MetX l y b mL ret rm D cy lo R ad w (As) (k_Qv D lo post) xpost) (hc : k_Mc y b mL ret n) (hv : k_Ms y) (hl : Cond.methodLink own index y ∈ lw_tbl) (hst : st = As.reverse ++ rest) (hn : As.length = n) (hdg : decode cc pc = .ok (.invokestatic index, 3)) (hR : rm.frames + 1 ≤ Rm.frames ∧ 8 + (mL + 11) + rm.locals ≤ Rm.locals) (hroom : cells + rm.cells ≤ Rm.cells ∧ slots + rm.slots ≤ Rm.slots) (hcat : (rest.map fun v => v.category).sum ≤ 8) (kx : ∀ (E : String) (u : k_S), xpost E u → XT D lo p l e Rm s m args below meth c nL (cells + rm.cells) (slots + rm.slots) Q u.1 u.2.1 u.2.2 pc lv (rest) E) (kk : ∀ (u : k_S), post u → XW D lo p l e Rm s m args below meth c nL (cells + rm.cells) (slots + rm.slots) Q u.1 u.2.1 u.2.2 (pc + 3) lv (rest)) : XW D lo p l e Rm s m args below meth c nL cells slots Q R ad w pc lv (st) := by
  subst hst
  intro H locs ls hP hD hS hl0
  have hl := hl0
  exact vx_callv (vx_runS (As := As) (rest := rest) (k_fix F) hM ⟨k_callB F hc ‹Cond.methodLink own index y ∈ lw_tbl› hR, F.2.2.2.2.wm hv rfl args⟩ ⟨k_Pr.blind _, k_pre F hP hD hS As⟩ rfl hn hl0.1 rfl (lv_room hcat) hdg hroom) hS (fun _ _ h => h) (fun _ h => h) (fun _ _ h => h) (fun E ce q u t H1 locs1 ht hvm hp hB hz hk hS h1 h2 h3 => kx E u hB.1 H1 locs1 ls ce q (by rw [← ht]; exact hB.2.1) hB.2.2 hS hl h1 h2 h3) (fun u t H1 locs1 ht hvm hpost hB hz hk hS => kk u hpost H1 locs1 ls (by rw [← ht]; exact hB.1) hB.2 hS hl)
theorem x_callVq (F : k_F p m c cc nL s own D cy lo) {index mL n : Nat} {y : MethodName} {b : ByteArray} {ret : Option FieldType} {rm : Room} {post : Option Nat → k_S → Prop} (As : List Value) {r0 ci : Nat} {fs : List Value} {T : u_T} {N : Nat} (hM : k_Met l y b mL ret rm D cy lo R ad w (.ref (ad r0) :: As) (k_Qq D lo post)) (hc : k_Mc y b mL ret n) (hv : k_Mv y) (hl : Cond.methodLink own index y ∈ lw_tbl) (hr : r0 ∈ R) (hw : w r0 = .inr (ci, fs)) (hcl : vwCl[ci]? = some (y.cls, T, N)) (hst : st = As.reverse ++ .ref (ad r0) :: rest) (hn : As.length = n) (hdg : decode cc pc = .ok (.invokevirtual index, 3)) (hR : rm.frames + 1 ≤ Rm.frames ∧ 8 + (mL + 11) + rm.locals ≤ Rm.locals) (hroom : cells + rm.cells ≤ Rm.cells ∧ slots + rm.slots ≤ Rm.slots) (hcat : (rest.map fun v => v.category).sum ≤ 8) (kk : ∀ (r : Option Nat) (u : k_S), post r u → XW D lo p l e Rm s m args below meth c nL (cells + rm.cells) (slots + rm.slots) Q u.1 u.2.1 u.2.2 (pc + 3) lv (va_rf r :: rest)) : XW D lo p l e Rm s m args below meth c nL cells slots Q R ad w pc lv (st) := by
  subst hst
  intro H locs ls hP hD hS hl0
  have hl := hl0
  obtain ⟨n0, -, hn0⟩ := wl_at ad w hr
  rw [hw] at hn0
  exact va_callq (va_runV (C := y.cls) (As := As) (rest := rest) (k_fix F) hM ⟨k_callB F hc ‹Cond.methodLink own index y ∈ lw_tbl› hR, F.2.2.2.2.wm hv.1 rfl args, F.2.2.2.2.wm hv.2 rfl args⟩ ⟨k_Pr.blind _, va_recv F.2.2.2.2.2.2.2.1 hP hcl hn0, k_pre F hP hD hS (.ref (ad r0) :: As)⟩ rfl hn hl0.1 rfl (lv_room hcat) hdg hroom) hS (fun _ _ h => h) (fun _ h => h) (fun r u t H1 locs1 ht hvm hpost hB hz hk hS => kk r u hpost H1 locs1 ls (by rw [← ht]; exact hB.1) hB.2 hS hl)
theorem x_callSq (F : k_F p m c cc nL s own D cy lo) {index mL n : Nat} {y : MethodName} {b : ByteArray} {ret : Option FieldType} {rm : Room} {post : Option Nat → k_S → Prop} (As : List Value) (hM : k_Met l y b mL ret rm D cy lo R ad w (As) (k_Qq D lo post)) (hc : k_Mc y b mL ret n) (hv : k_Ms y) (hl : Cond.methodLink own index y ∈ lw_tbl) (hst : st = As.reverse ++ rest) (hn : As.length = n) (hdg : decode cc pc = .ok (.invokestatic index, 3)) (hR : rm.frames + 1 ≤ Rm.frames ∧ 8 + (mL + 11) + rm.locals ≤ Rm.locals) (hroom : cells + rm.cells ≤ Rm.cells ∧ slots + rm.slots ≤ Rm.slots) (hcat : (rest.map fun v => v.category).sum ≤ 8) (kk : ∀ (r : Option Nat) (u : k_S), post r u → XW D lo p l e Rm s m args below meth c nL (cells + rm.cells) (slots + rm.slots) Q u.1 u.2.1 u.2.2 (pc + 3) lv (va_rf r :: rest)) : XW D lo p l e Rm s m args below meth c nL cells slots Q R ad w pc lv (st) := by
  subst hst
  intro H locs ls hP hD hS hl0
  have hl := hl0
  exact va_callq (va_runS (As := As) (rest := rest) (k_fix F) hM ⟨k_callB F hc ‹Cond.methodLink own index y ∈ lw_tbl› hR, F.2.2.2.2.wm hv rfl args⟩ ⟨k_Pr.blind _, k_pre F hP hD hS As⟩ rfl hn hl0.1 rfl (lv_room hcat) hdg hroom) hS (fun _ _ h => h) (fun _ h => h) (fun r u t H1 locs1 ht hvm hpost hB hz hk hS => kk r u hpost H1 locs1 ls (by rw [← ht]; exact hB.1) hB.2 hS hl)
theorem x_callSNq (F : k_F p m c cc nL s own D cy lo) {index mL n : Nat} {y : MethodName} {b : ByteArray} {ret : Option FieldType} {rm : Room} {post : Option Nat → k_S → Prop} (As : List Value) (hM : k_Met l y b mL ret rm D cy lo R ad w (As) (k_Qq D lo post)) {host : String} (hc : k_Mc y b mL ret n) (hv : k_Ms y) (hl : Cond.methodLinkNest own index y host ∈ lw_tbl) (hst : st = As.reverse ++ rest) (hn : As.length = n) (hdg : decode cc pc = .ok (.invokestatic index, 3)) (hR : rm.frames + 1 ≤ Rm.frames ∧ 8 + (mL + 11) + rm.locals ≤ Rm.locals) (hroom : cells + rm.cells ≤ Rm.cells ∧ slots + rm.slots ≤ Rm.slots) (hcat : (rest.map fun v => v.category).sum ≤ 8) (kk : ∀ (r : Option Nat) (u : k_S), post r u → XW D lo p l e Rm s m args below meth c nL (cells + rm.cells) (slots + rm.slots) Q u.1 u.2.1 u.2.2 (pc + 3) lv (va_rf r :: rest)) : XW D lo p l e Rm s m args below meth c nL cells slots Q R ad w pc lv (st) := by
  subst hst
  intro H locs ls hP hD hS hl0
  have hl := hl0
  exact va_callq (va_runSN (As := As) (rest := rest) (k_fix F) hM ⟨k_callN F hc ‹Cond.methodLinkNest own index y host ∈ lw_tbl› hR, F.2.2.2.2.wm hv rfl args, trivial⟩ ⟨k_Pr.blind _, k_pre F hP hD hS As⟩ rfl hn hl0.1 rfl (lv_room hcat) hdg hroom) hS (fun _ _ h => h) (fun _ h => h) (fun r u t H1 locs1 ht hvm hpost hB hz hk hS => kk r u hpost H1 locs1 ls (by rw [← ht]; exact hB.1) hB.2 hS hl)
theorem x_callVqx (F : k_F p m c cc nL s own D cy lo) {xpost : String → k_S → Prop} {index mL n : Nat} {y : MethodName} {b : ByteArray} {ret : Option FieldType} {rm : Room} {post : Option Nat → k_S → Prop} (As : List Value) {r0 ci : Nat} {fs : List Value} {T : u_T} {N : Nat} (hM : k_MetX l y b mL ret rm D cy lo R ad w (.ref (ad r0) :: As) (k_Qq D lo post) xpost) (hc : k_Mc y b mL ret n) (hv : k_Mv y) (hl : Cond.methodLink own index y ∈ lw_tbl) (hr : r0 ∈ R) (hw : w r0 = .inr (ci, fs)) (hcl : vwCl[ci]? = some (y.cls, T, N)) (hst : st = As.reverse ++ .ref (ad r0) :: rest) (hn : As.length = n) (hdg : decode cc pc = .ok (.invokevirtual index, 3)) (hR : rm.frames + 1 ≤ Rm.frames ∧ 8 + (mL + 11) + rm.locals ≤ Rm.locals) (hroom : cells + rm.cells ≤ Rm.cells ∧ slots + rm.slots ≤ Rm.slots) (hcat : (rest.map fun v => v.category).sum ≤ 8) (kx : ∀ (E : String) (u : k_S), xpost E u → XT D lo p l e Rm s m args below meth c nL (cells + rm.cells) (slots + rm.slots) Q u.1 u.2.1 u.2.2 pc lv (rest) E) (kk : ∀ (r : Option Nat) (u : k_S), post r u → XW D lo p l e Rm s m args below meth c nL (cells + rm.cells) (slots + rm.slots) Q u.1 u.2.1 u.2.2 (pc + 3) lv (va_rf r :: rest)) : XW D lo p l e Rm s m args below meth c nL cells slots Q R ad w pc lv (st) := by
  subst hst
  intro H locs ls hP hD hS hl0
  have hl := hl0
  obtain ⟨n0, -, hn0⟩ := wl_at ad w hr
  rw [hw] at hn0
  exact vx_callq (vx_runV (C := y.cls) (As := As) (rest := rest) (k_fix F) hM ⟨k_callB F hc ‹Cond.methodLink own index y ∈ lw_tbl› hR, F.2.2.2.2.wm hv.1 rfl args, F.2.2.2.2.wm hv.2 rfl args⟩ ⟨k_Pr.blind _, va_recv F.2.2.2.2.2.2.2.1 hP hcl hn0, k_pre F hP hD hS (.ref (ad r0) :: As)⟩ rfl hn hl0.1 rfl (lv_room hcat) hdg hroom) hS (fun _ _ h => h) (fun _ h => h) (fun _ _ h => h) (fun E ce q u t H1 locs1 ht hvm hp hB hz hk hS h1 h2 h3 => kx E u hB.1 H1 locs1 ls ce q (by rw [← ht]; exact hB.2.1) hB.2.2 hS hl h1 h2 h3) (fun r u t H1 locs1 ht hvm hpost hB hz hk hS => kk r u hpost H1 locs1 ls (by rw [← ht]; exact hB.1) hB.2 hS hl)
theorem x_callSqx (F : k_F p m c cc nL s own D cy lo) {xpost : String → k_S → Prop} {index mL n : Nat} {y : MethodName} {b : ByteArray} {ret : Option FieldType} {rm : Room} {post : Option Nat → k_S → Prop} (As : List Value) (hM : k_MetX l y b mL ret rm D cy lo R ad w (As) (k_Qq D lo post) xpost) (hc : k_Mc y b mL ret n) (hv : k_Ms y) (hl : Cond.methodLink own index y ∈ lw_tbl) (hst : st = As.reverse ++ rest) (hn : As.length = n) (hdg : decode cc pc = .ok (.invokestatic index, 3)) (hR : rm.frames + 1 ≤ Rm.frames ∧ 8 + (mL + 11) + rm.locals ≤ Rm.locals) (hroom : cells + rm.cells ≤ Rm.cells ∧ slots + rm.slots ≤ Rm.slots) (hcat : (rest.map fun v => v.category).sum ≤ 8) (kx : ∀ (E : String) (u : k_S), xpost E u → XT D lo p l e Rm s m args below meth c nL (cells + rm.cells) (slots + rm.slots) Q u.1 u.2.1 u.2.2 pc lv (rest) E) (kk : ∀ (r : Option Nat) (u : k_S), post r u → XW D lo p l e Rm s m args below meth c nL (cells + rm.cells) (slots + rm.slots) Q u.1 u.2.1 u.2.2 (pc + 3) lv (va_rf r :: rest)) : XW D lo p l e Rm s m args below meth c nL cells slots Q R ad w pc lv (st) := by
  subst hst
  intro H locs ls hP hD hS hl0
  have hl := hl0
  exact vx_callq (vx_runS (As := As) (rest := rest) (k_fix F) hM ⟨k_callB F hc ‹Cond.methodLink own index y ∈ lw_tbl› hR, F.2.2.2.2.wm hv rfl args⟩ ⟨k_Pr.blind _, k_pre F hP hD hS As⟩ rfl hn hl0.1 rfl (lv_room hcat) hdg hroom) hS (fun _ _ h => h) (fun _ h => h) (fun _ _ h => h) (fun E ce q u t H1 locs1 ht hvm hp hB hz hk hS h1 h2 h3 => kx E u hB.1 H1 locs1 ls ce q (by rw [← ht]; exact hB.2.1) hB.2.2 hS hl h1 h2 h3) (fun r u t H1 locs1 ht hvm hpost hB hz hk hS => kk r u hpost H1 locs1 ls (by rw [← ht]; exact hB.1) hB.2 hS hl)
theorem x_widen {k n : Nat} (h1 : cells ≤ k) (h2 : slots ≤ n) (kk : XW D lo p l e Rm s m args below meth c nL k n Q R ad w pc lv (st)) : XW D lo p l e Rm s m args below meth c nL cells slots Q R ad w pc lv (st) := fun H locs ls hP hD hS hl => W.widen h1 h2 (kk H locs ls hP hD hS hl)
theorem x_iret (F : k_F p m c cc nL s own D cy lo) {post : Int32 → k_S → Prop} {v : Int32} (hr : meth.sig.returnType = some .int) (hlk : meth.locks = false)  (hpost : post v (R, ad, w)) (hdg : decode cc pc = .ok (.ireturn, 1)) : XW D lo p l e Rm s m args below meth c nL cells slots (MQ below (k_Qi D lo post) args s cells slots (lA lo)) R ad w pc lv ([.int v]) := fun H locs ls hP hD hS hl => (W.iret F.1 F.2.1 hr  (fun t ht hW => ⟨⟨v, (R, ad, w), rfl, hpost, by show va_P D vwCl (wl R ad w) t.heap; rw [ht]; exact hP, hD⟩, hS.F ht⟩) hS.2.2 hdg hlk)
theorem x_iretx (F : k_F p m c cc nL s own D cy lo) {post : Int32 → k_S → Prop} {xpost : String → k_S → Prop} {v : Int32} (hr : meth.sig.returnType = some .int) (hlk : meth.locks = false)  (hpost : post v (R, ad, w)) (hdg : decode cc pc = .ok (.ireturn, 1)) : XW D lo p l e Rm s m args below meth c nL cells slots (vx_MQ below (k_Qi D lo post) (k_XC D lo xpost) args s cells slots (lA lo)) R ad w pc lv ([.int v]) := fun H locs ls hP hD hS hl => vx_ret (W.iret F.1 F.2.1 hr  (fun t ht hW => ⟨⟨v, (R, ad, w), rfl, hpost, by show va_P D vwCl (wl R ad w) t.heap; rw [ht]; exact hP, hD⟩, hS.F ht⟩) hS.2.2 hdg hlk)
theorem x_zret (F : k_F p m c cc nL s own D cy lo) {post : Int32 → k_S → Prop} {v : Int32} (hr : meth.sig.returnType = some .boolean) (hlk : meth.locks = false) (hn : narrow .boolean (.int v) = .int v) (hpost : post v (R, ad, w)) (hdg : decode cc pc = .ok (.ireturn, 1)) : XW D lo p l e Rm s m args below meth c nL cells slots (MQ below (k_Qi D lo post) args s cells slots (lA lo)) R ad w pc lv ([.int v]) := fun H locs ls hP hD hS hl => (W.zret F.1 F.2.1 hr hn (fun t ht hW => ⟨⟨v, (R, ad, w), rfl, hpost, by show va_P D vwCl (wl R ad w) t.heap; rw [ht]; exact hP, hD⟩, hS.F ht⟩) hS.2.2 hdg hlk)
theorem x_zretx (F : k_F p m c cc nL s own D cy lo) {post : Int32 → k_S → Prop} {xpost : String → k_S → Prop} {v : Int32} (hr : meth.sig.returnType = some .boolean) (hlk : meth.locks = false) (hn : narrow .boolean (.int v) = .int v) (hpost : post v (R, ad, w)) (hdg : decode cc pc = .ok (.ireturn, 1)) : XW D lo p l e Rm s m args below meth c nL cells slots (vx_MQ below (k_Qi D lo post) (k_XC D lo xpost) args s cells slots (lA lo)) R ad w pc lv ([.int v]) := fun H locs ls hP hD hS hl => vx_ret (W.zret F.1 F.2.1 hr hn (fun t ht hW => ⟨⟨v, (R, ad, w), rfl, hpost, by show va_P D vwCl (wl R ad w) t.heap; rw [ht]; exact hP, hD⟩, hS.F ht⟩) hS.2.2 hdg hlk)
theorem x_lret (F : k_F p m c cc nL s own D cy lo) {post : Int64 → k_S → Prop} {v : Int64} (hr : meth.sig.returnType = some .long) (hlk : meth.locks = false)  (hpost : post v (R, ad, w)) (hdg : decode cc pc = .ok (.lreturn, 1)) : XW D lo p l e Rm s m args below meth c nL cells slots (MQ below (k_Ql D lo post) args s cells slots (lA lo)) R ad w pc lv ([.long v]) := fun H locs ls hP hD hS hl => (W.lret F.1 F.2.1 hr  (fun t ht hW => ⟨⟨v, (R, ad, w), rfl, hpost, by show va_P D vwCl (wl R ad w) t.heap; rw [ht]; exact hP, hD⟩, hS.F ht⟩) hS.2.2 hdg hlk)
theorem x_lretx (F : k_F p m c cc nL s own D cy lo) {post : Int64 → k_S → Prop} {xpost : String → k_S → Prop} {v : Int64} (hr : meth.sig.returnType = some .long) (hlk : meth.locks = false)  (hpost : post v (R, ad, w)) (hdg : decode cc pc = .ok (.lreturn, 1)) : XW D lo p l e Rm s m args below meth c nL cells slots (vx_MQ below (k_Ql D lo post) (k_XC D lo xpost) args s cells slots (lA lo)) R ad w pc lv ([.long v]) := fun H locs ls hP hD hS hl => vx_ret (W.lret F.1 F.2.1 hr  (fun t ht hW => ⟨⟨v, (R, ad, w), rfl, hpost, by show va_P D vwCl (wl R ad w) t.heap; rw [ht]; exact hP, hD⟩, hS.F ht⟩) hS.2.2 hdg hlk)
theorem x_vret (F : k_F p m c cc nL s own D cy lo) {post : k_S → Prop} (hr : meth.sig.returnType = none) (hlk : meth.locks = false) (hpost : post (R, ad, w)) (hdg : decode cc pc = .ok (.return_, 1)) : XW D lo p l e Rm s m args below meth c nL cells slots (MQ below (k_Qv D lo post) args s cells slots (lA lo)) R ad w pc lv ([]) := fun H locs ls hP hD hS hl => (W.vret F.1 F.2.1 hr (fun t ht hW => ⟨⟨(R, ad, w), rfl, hpost, by show va_P D vwCl (wl R ad w) t.heap; rw [ht]; exact hP, hD⟩, hS.F ht⟩) hS.2.2 hdg hlk)
theorem x_aret (F : k_F p m c cc nL s own D cy lo) {post : Option Nat → k_S → Prop} {cn : String} {v : Option Nat} (hr : meth.sig.returnType = some (.object cn)) (hlk : meth.locks = false) (hpost : post v (R, ad, w)) (hdg : decode cc pc = .ok (.areturn, 1)) : XW D lo p l e Rm s m args below meth c nL cells slots (MQ below (k_Qq D lo post) args s cells slots (lA lo)) R ad w pc lv ([va_rf v]) := fun H locs ls hP hD hS hl => (W.aret F.1 F.2.1 hr (Or.inl ⟨cn, rfl⟩) (va_rf_or v) (fun t ht hW => ⟨⟨v, (R, ad, w), rfl, hpost, by show va_P D vwCl (wl R ad w) t.heap; rw [ht]; exact hP, hD⟩, hS.F ht⟩) hS.2.2 hdg hlk)
theorem x_vretx (F : k_F p m c cc nL s own D cy lo) {post : k_S → Prop} {xpost : String → k_S → Prop} (hr : meth.sig.returnType = none) (hlk : meth.locks = false) (hpost : post (R, ad, w)) (hdg : decode cc pc = .ok (.return_, 1)) : XW D lo p l e Rm s m args below meth c nL cells slots (vx_MQ below (k_Qv D lo post) (k_XC D lo xpost) args s cells slots (lA lo)) R ad w pc lv ([]) := fun H locs ls hP hD hS hl => vx_ret (W.vret F.1 F.2.1 hr (fun t ht hW => ⟨⟨(R, ad, w), rfl, hpost, by show va_P D vwCl (wl R ad w) t.heap; rw [ht]; exact hP, hD⟩, hS.F ht⟩) hS.2.2 hdg hlk)
theorem x_aretx (F : k_F p m c cc nL s own D cy lo) {post : Option Nat → k_S → Prop} {xpost : String → k_S → Prop} {cn : String} {v : Option Nat} (hr : meth.sig.returnType = some (.object cn)) (hlk : meth.locks = false) (hpost : post v (R, ad, w)) (hdg : decode cc pc = .ok (.areturn, 1)) : XW D lo p l e Rm s m args below meth c nL cells slots (vx_MQ below (k_Qq D lo post) (k_XC D lo xpost) args s cells slots (lA lo)) R ad w pc lv ([va_rf v]) := fun H locs ls hP hD hS hl => vx_ret (W.aret F.1 F.2.1 hr (Or.inl ⟨cn, rfl⟩) (va_rf_or v) (fun t ht hW => ⟨⟨v, (R, ad, w), rfl, hpost, by show va_P D vwCl (wl R ad w) t.heap; rw [ht]; exact hP, hD⟩, hS.F ht⟩) hS.2.2 hdg hlk)
theorem x_out (F : k_F p m c cc nL s own D cy lo) {Qc : Array Value → State → Outcome → State → Prop} {xpost : String → k_S → Prop} {E : String} {mc ms : Nat} (ht : ∀ x ∈ c.exceptionTable.toList, False) (hlk : meth.locks = false) (hx : xpost E (R, ad, w)) (h1 : cells ≤ mc) (h2 : slots ≤ ms) : XT D lo p l e Rm s m args below meth c nL cells slots (vx_MQ below Qc (k_XC D lo xpost) args s mc ms (lA lo)) R ad w pc lv (st) E := fun H locs ls ce q hP hD hS hl g1 g2 g3 => vx_out (fun x hx => (ht x hx).elim) hlk g1 g2 g3 (fun t ht hW => ⟨(R, ad, w), trivial, ⟨hx, by show va_P D vwCl (wl R ad w) t.heap; rw [ht]; exact hP, hD⟩, hS.F ht⟩) hS.2.2 h1 h2
end KCALLS
theorem k_metX {l : Launch} {y : MethodName} {cc : ByteArray} {maxL : Nat} {ret : Option FieldType} {rm : Room} {D : va_G} {cy : Nat → ClassId} {lo : Nat} {R : List Nat} {ad : Nat → Nat} {w : Nat → va_E} {av : List Value} {Qc : Array Value → State → Outcome → State → Prop} {xpost : String → k_S → Prop}
    (hy : plainName y.cls = true) (hav : (lg_sl av).length ≤ maxL)
    (body : ∀ p e s m below meth c, k_F p m c cc maxL s y.cls D cy lo → meth.sig.returnType = ret → meth.locks = false → (∀ x ∈ c.exceptionTable.toList, False) → XW D lo p l e rm s m av.toArray below meth c maxL 0 0 (vx_MQ below Qc (k_XC D lo xpost) av.toArray s rm.cells rm.slots (lA lo)) R ad w 0 (lv_args 0 av) []) :
    k_MetX l y cc maxL ret rm D cy lo R ad w av Qc xpost := by
  refine vx_ofW (cc := cc) (maxL := maxL) (ret := ret) hy rfl ?_
  intro p e s m args below meth c s₁ B hml ht hv
  obtain ⟨rfl, hE, hP, hD⟩ := hv
  have hl := lv_entry av (n := maxL) hav
  rw [lg_entry_eq]
  exact body p e s m below meth c ⟨B.exec, B.bytes, hml, findClass_of_methodNamed B.named, hE⟩ B.returns B.notSynchronized ht _ _ _ hP hD va_S.rf hl
theorem XW.widX {D : va_G} {lo : Nat} {p : Program} {l : Launch} {e : Env} {Rm : Room} {s : State} {m : MethodId} {args : Array Value} {below : List Frame} {meth : Method} {c : Code} {nL cells slots k n : Nat} {Q : State → Prop} {R : List Nat} {ad : Nat → Nat} {w : Nat → va_E} {pc : Nat} {lv : List (Nat × Value)} {st : List Value} (h1 : cells ≤ k) (h2 : slots ≤ n) (kk : XW D lo p l e Rm s m args below meth c nL k n Q R ad w pc lv st) : XW D lo p l e Rm s m args below meth c nL cells slots Q R ad w pc lv st := fun H locs ls hP hD hS hl => W.widen h1 h2 (kk H locs ls hP hD hS hl)
end
section
def k_nmx : List String := ["java/lang/RuntimeException", "java/lang/Exception"]
set_option maxRecDepth 100000 in
theorem k_at_IO : ∀ w ∈ vx_atS RX4 115 e_IO k_nmx, w ∈ lw_tbl ∧ (goodWord w = true ∨ k_nest w = true) ∧ vx_ot w = true := by decide +kernel
set_option maxRecDepth 100000 in
theorem k_at_IA : ∀ w ∈ vx_atS RX4 60 e_IA k_nmx, w ∈ lw_tbl ∧ (goodWord w = true ∨ k_nest w = true) ∧ vx_ot w = true := by decide +kernel
set_option maxRecDepth 100000 in
theorem k_at_IS : ∀ w ∈ vx_atS RX4 78 e_IS k_nmx, w ∈ lw_tbl ∧ (goodWord w = true ∨ k_nest w = true) ∧ vx_ot w = true := by decide +kernel
section KTHROW
variable {D : va_G} {cy : Nat → ClassId} {lo : Nat} {p : Program} {l : Launch} {e : Env} {Rm : Room} {s : State} {m : MethodId} {args : Array Value} {below : List Frame} {meth : Method} {c : Code} {cc : ByteArray} {nL cells slots : Nat} {Q : State → Prop} {own : String} {R : List Nat} {ad : Nat → Nat} {w : Nat → va_E} {pc : Nat} {lv : List (Nat × Value)} {st rest : List Value}
/-- new X(text), thrown out of the method: the world stays -/
theorem x_throw (F : k_F p m c cc nL s own D cy lo) (hfl : l.stackTraces = false) (ht : ∀ x ∈ c.exceptionTable.toList, False) (hlk : meth.locks = false) {cls text : String} {ik is ic mc ms : Nat} {Qc : Array Value → State → Outcome → State → Prop} {xpost : String → k_S → Prop}
    (hcls : Bundle.fit cls = true) (hk : Cond.classLink own ik cls ∈ lw_tbl) (hini : Cond.initialized cls ∈ lw_tbl) (hstr : Cond.stringRef own is text ∈ lw_tbl) (hat : ∀ w ∈ vx_atS own ic cls k_nmx, w ∈ lw_tbl ∧ (goodWord w = true ∨ k_nest w = true) ∧ vx_ot w = true)
    (d0 : decode cc pc = .ok (.new ik, 3)) (d3 : decode cc (pc + 3) = .ok (.dup, 1)) (d4 : decode cc (pc + 4) = .ok (.ldc is, 2)) (d6 : decode cc (pc + 6) = .ok (.invokespecial ic, 3)) (d9 : decode cc (pc + 9) = .ok (.athrow, 1))
    (hR : 5 < Rm.frames ∧ (st.map fun v => v.category).sum + 82 ≤ Rm.locals ∧ cells + 1 ≤ Rm.cells ∧ slots + 6 ≤ Rm.slots) (hx : xpost cls (R, ad, w)) (hc : cells + 1 ≤ mc) (hs : slots + 6 ≤ ms) :
    XW D lo p l e Rm s m args below meth c nL cells slots (vx_MQ below Qc (k_XC D lo xpost) args s mc ms (lA lo)) R ad w pc lv st := by
  intro H locs ls hP hD hS hl
  obtain ⟨sa, hsa⟩ := F.2.2.2.2.2.2.1 own is text hstr
  refine vx_throwS (A := lA lo) (names := k_nmx) F.1 F.2.1 hfl F.2.2.2.1 hcls (by decide +kernel) (F.2.2.2.2.wm hk rfl args) (F.2.2.2.2.wm hini rfl args) hsa (fun w hw => F.2.2.2.2.any (hat w hw).1 (hat w hw).2.1 args) (fun w hw => ?_) F.2.2.2.2.2.2.2.2.1.1 F.2.2.2.2.2.2.2.2.1.2 hS (by rw [hl.1, F.2.2.1]) d0 d3 d4 d6 d9 (fun x hx => (ht x hx).elim) hR.1 hR.2.1 hR.2.2.1 hR.2.2.2 hlk (fun t hvm hz hq => ⟨(R, ad, w), trivial, ⟨hx, ?_, hD⟩, ?_⟩) hS.2.2 hc hs
  · rcases List.mem_cons.mp hw with rfl | hw
    · rfl
    · rcases List.mem_cons.mp hw with rfl | hw
      · rfl
      · exact (hat w hw).2.2
  · exact fun k q hk => (hP k q hk).kept (hq q.1 (hP k q hk).lt)
  · exact ⟨Nat.le_trans hS.1 hz, fun q h1 h2 => by rw [hq q (Nat.lt_of_lt_of_le h1 hS.1)]; exact hS.2.1 q h1 h2⟩
/-- a handler takes it -/
theorem x_catch (F : k_F p m c cc nL s own D cy lo) {E : String} (pre : List ExceptionTableEntry) (x : ExceptionTableEntry) (suf : List ExceptionTableEntry) (hsplit : c.exceptionTable.toList = pre ++ x :: suf)
    (hpass : ∀ z ∈ pre, z.catchType ≠ 0 ∧ ∃ nm : String, Cond.classLink own z.catchType nm ∈ lw_tbl ∧ (E, nm) ∈ k_ncs) (hx : covers x pc = true) (h0 : x.catchType ≠ 0) (hlink : Cond.classLink own x.catchType E ∈ lw_tbl) (hcast : Cond.castable E E ∈ lw_tbl)
    (kk : ∀ q : Nat, XW D lo p l e Rm s m args below meth c nL cells slots Q R ad w x.handlerPc lv [.ref q]) : XT D lo p l e Rm s m args below meth c nL cells slots Q R ad w pc lv st E :=
  fun H locs ls ce q hP hD hS hl g1 g2 g3 => vx_catch F.2.2.2.1 pre x suf hsplit (fun z hz => by
    obtain ⟨z1, nm, z2, z3⟩ := hpass z hz
    exact Or.inr ⟨z1, nm, F.2.2.2.2.wm z2 rfl args, F.2.2.2.2.2.2.2.2.2.1 _ z3⟩) hx h0 (F.2.2.2.2.wm hlink rfl args) (F.2.2.2.2.any hcast (Or.inr rfl) args) g1 g2 g3 (kk q H locs ls hP hD hS hl)
end KTHROW
end
section
/-! What each role holds: 0 .. 12 of RoamLedger (0 the object, 1 steps, 2 prices, 3 network, 4 subscribers, 5 talks, 6 asked, 7 its carriers, 8 rates, 9 trusts, 10 debts, 11 weights) and the law's out (12); 13 .. 35 of the reference; from 40 on a subscriber and its chain, two and two; from 80 on a talk, its route, the carriers, the charges, four and four. f holds a role's ints (fields by their slots), g its longs; q r 0 and q r 1 the caller and the called of the talk r. -/
def k_fx (cy : Nat → ClassId) (ad : Nat → Nat) (q : Nat → Nat → Nat) (ns nt : Nat) (f : Nat → Int32) (g : Nat → Int64) : List va_E := [
  Sum.inr (4, [.ref (ad 1), .ref (ad 2), .ref (ad 3), .ref (ad 4), .ref (ad 5), .ref (ad 6), .int (f 6), .int (f 7)]),
  Sum.inl (cy 0, (5, Sum.inl f)),
  Sum.inl (cy 0, (5, Sum.inl f)),
  Sum.inr (0, [.ref (ad 8), .ref (ad 9), .ref (ad 10), .ref (ad 11)]),
  Sum.inl (cy 3, (20, Sum.inr (Sum.inr (Sum.inr (Sum.inr (fun i => if i < ns then some (ad (40 + 2 * i)) else none)))))),
  Sum.inl (cy 4, (60, Sum.inr (Sum.inr (Sum.inr (Sum.inr (fun j => if j < nt then some (ad (80 + 4 * j)) else none)))))),
  Sum.inr (1, [.ref (ad 7), .int (f 1)]),
  Sum.inl (cy 0, (5, Sum.inl f)),
  Sum.inl (cy 0, (25, Sum.inl f)),
  Sum.inl (cy 0, (25, Sum.inl f)),
  Sum.inl (cy 1, (25, Sum.inr (Sum.inl g))),
  Sum.inl (cy 0, (5, Sum.inl f)),
  Sum.inl (cy 1, (1, Sum.inr (Sum.inl g))),
  Sum.inr (5, [.int (f 0), .ref (ad 14), .ref (ad 15), .ref (ad 16), .ref (ad 17), .ref (ad 18), .ref (ad 19), .ref (ad 20), .int (f 8), .ref (ad 21), .ref (ad 22), .ref (ad 23), .ref (ad 24), .int (f 13), .ref (ad 25), .ref (ad 26), .ref (ad 27), .ref (ad 28), .ref (ad 29), .ref (ad 30), .ref (ad 31), .ref (ad 32), .ref (ad 33), .int (f 23), .int (f 24), .ref (ad 34), .ref (ad 35)]),
  Sum.inl (cy 0, (5, Sum.inl f)),
  Sum.inl (cy 0, (5, Sum.inl f)),
  Sum.inl (cy 2, (25, Sum.inl f)),
  Sum.inl (cy 0, (25, Sum.inl f)),
  Sum.inl (cy 0, (25, Sum.inl f)),
  Sum.inl (cy 1, (25, Sum.inr (Sum.inl g))),
  Sum.inl (cy 1, (25, Sum.inr (Sum.inl g))),
  Sum.inl (cy 0, (20, Sum.inl f)),
  Sum.inl (cy 0, (200, Sum.inl f)),
  Sum.inl (cy 0, (20, Sum.inl f)),
  Sum.inl (cy 0, (20, Sum.inl f)),
  Sum.inl (cy 0, (60, Sum.inl f)),
  Sum.inl (cy 0, (60, Sum.inl f)),
  Sum.inl (cy 0, (60, Sum.inl f)),
  Sum.inl (cy 0, (60, Sum.inl f)),
  Sum.inl (cy 0, (60, Sum.inl f)),
  Sum.inl (cy 0, (60, Sum.inl f)),
  Sum.inl (cy 0, (60, Sum.inl f)),
  Sum.inl (cy 0, (60, Sum.inl f)),
  Sum.inl (cy 0, (300, Sum.inl f)),
  Sum.inl (cy 0, (5, Sum.inl f)),
  Sum.inl (cy 0, (5, Sum.inl f))]
def k_sh (cy : Nat → ClassId) (ad : Nat → Nat) (q : Nat → Nat → Nat) (ns nt : Nat) (r : Nat) (f : Nat → Int32) (g : Nat → Int64) : va_E :=
  if r < 40 then (k_fx cy ad q ns nt f g).getD r (Sum.inr (6, [])) else if r < 80 then (if r % 2 = 0 then Sum.inr (2, [.ref (ad (r + 1)), .int (f 1), .int (f 2), .int (f 3)]) else Sum.inl (cy 0, (10, Sum.inl f)))
  else if r % 4 = 0 then Sum.inr (3, [.ref (ad (40 + 2 * q r 0)), .ref (ad (40 + 2 * q r 1)), .int (f 2), .int (f 3), .ref (ad (r + 1)), .ref (ad (r + 3)), .int (f 6), .int (f 7), .int (f 8)]) else if r % 4 = 1 then Sum.inr (1, [.ref (ad (r + 1)), .int (f 1)]) else if r % 4 = 2 then Sum.inl (cy 0, (5, Sum.inl f)) else Sum.inl (cy 1, (25, Sum.inr (Sum.inl g)))
def k_c (cy : Nat → ClassId) (ad : Nat → Nat) (q : Nat → Nat → Nat) (ns nt : Nat) (I : Nat → Nat → Int32) (J : Nat → Nat → Int64) : Nat → va_E := fun r => k_sh cy ad q ns nt r (I r) (J r)
section KSHAPE
variable {cy : Nat → ClassId} {ad : Nat → Nat} {q : Nat → Nat → Nat} {ns nt : Nat} {I : Nat → Nat → Int32} {J : Nat → Nat → Int64} {r : Nat}
theorem ss_0 (f : Nat → Int32) (g : Nat → Int64) : k_sh cy ad q ns nt 0 f g = Sum.inr (4, [.ref (ad 1), .ref (ad 2), .ref (ad 3), .ref (ad 4), .ref (ad 5), .ref (ad 6), .int (f 6), .int (f 7)]) := rfl
theorem ss_1 (f : Nat → Int32) (g : Nat → Int64) : k_sh cy ad q ns nt 1 f g = Sum.inl (cy 0, (5, Sum.inl f)) := rfl
theorem ss_2 (f : Nat → Int32) (g : Nat → Int64) : k_sh cy ad q ns nt 2 f g = Sum.inl (cy 0, (5, Sum.inl f)) := rfl
theorem ss_3 (f : Nat → Int32) (g : Nat → Int64) : k_sh cy ad q ns nt 3 f g = Sum.inr (0, [.ref (ad 8), .ref (ad 9), .ref (ad 10), .ref (ad 11)]) := rfl
theorem ss_4 (f : Nat → Int32) (g : Nat → Int64) : k_sh cy ad q ns nt 4 f g = Sum.inl (cy 3, (20, Sum.inr (Sum.inr (Sum.inr (Sum.inr (fun i => if i < ns then some (ad (40 + 2 * i)) else none)))))) := rfl
theorem ss_5 (f : Nat → Int32) (g : Nat → Int64) : k_sh cy ad q ns nt 5 f g = Sum.inl (cy 4, (60, Sum.inr (Sum.inr (Sum.inr (Sum.inr (fun j => if j < nt then some (ad (80 + 4 * j)) else none)))))) := rfl
theorem ss_6 (f : Nat → Int32) (g : Nat → Int64) : k_sh cy ad q ns nt 6 f g = Sum.inr (1, [.ref (ad 7), .int (f 1)]) := rfl
theorem ss_7 (f : Nat → Int32) (g : Nat → Int64) : k_sh cy ad q ns nt 7 f g = Sum.inl (cy 0, (5, Sum.inl f)) := rfl
theorem ss_8 (f : Nat → Int32) (g : Nat → Int64) : k_sh cy ad q ns nt 8 f g = Sum.inl (cy 0, (25, Sum.inl f)) := rfl
theorem ss_9 (f : Nat → Int32) (g : Nat → Int64) : k_sh cy ad q ns nt 9 f g = Sum.inl (cy 0, (25, Sum.inl f)) := rfl
theorem ss_10 (f : Nat → Int32) (g : Nat → Int64) : k_sh cy ad q ns nt 10 f g = Sum.inl (cy 1, (25, Sum.inr (Sum.inl g))) := rfl
theorem ss_11 (f : Nat → Int32) (g : Nat → Int64) : k_sh cy ad q ns nt 11 f g = Sum.inl (cy 0, (5, Sum.inl f)) := rfl
theorem ss_12 (f : Nat → Int32) (g : Nat → Int64) : k_sh cy ad q ns nt 12 f g = Sum.inl (cy 1, (1, Sum.inr (Sum.inl g))) := rfl
theorem ss_13 (f : Nat → Int32) (g : Nat → Int64) : k_sh cy ad q ns nt 13 f g = Sum.inr (5, [.int (f 0), .ref (ad 14), .ref (ad 15), .ref (ad 16), .ref (ad 17), .ref (ad 18), .ref (ad 19), .ref (ad 20), .int (f 8), .ref (ad 21), .ref (ad 22), .ref (ad 23), .ref (ad 24), .int (f 13), .ref (ad 25), .ref (ad 26), .ref (ad 27), .ref (ad 28), .ref (ad 29), .ref (ad 30), .ref (ad 31), .ref (ad 32), .ref (ad 33), .int (f 23), .int (f 24), .ref (ad 34), .ref (ad 35)]) := rfl
theorem ss_14 (f : Nat → Int32) (g : Nat → Int64) : k_sh cy ad q ns nt 14 f g = Sum.inl (cy 0, (5, Sum.inl f)) := rfl
theorem ss_15 (f : Nat → Int32) (g : Nat → Int64) : k_sh cy ad q ns nt 15 f g = Sum.inl (cy 0, (5, Sum.inl f)) := rfl
theorem ss_16 (f : Nat → Int32) (g : Nat → Int64) : k_sh cy ad q ns nt 16 f g = Sum.inl (cy 2, (25, Sum.inl f)) := rfl
theorem ss_17 (f : Nat → Int32) (g : Nat → Int64) : k_sh cy ad q ns nt 17 f g = Sum.inl (cy 0, (25, Sum.inl f)) := rfl
theorem ss_18 (f : Nat → Int32) (g : Nat → Int64) : k_sh cy ad q ns nt 18 f g = Sum.inl (cy 0, (25, Sum.inl f)) := rfl
theorem ss_19 (f : Nat → Int32) (g : Nat → Int64) : k_sh cy ad q ns nt 19 f g = Sum.inl (cy 1, (25, Sum.inr (Sum.inl g))) := rfl
theorem ss_20 (f : Nat → Int32) (g : Nat → Int64) : k_sh cy ad q ns nt 20 f g = Sum.inl (cy 1, (25, Sum.inr (Sum.inl g))) := rfl
theorem ss_21 (f : Nat → Int32) (g : Nat → Int64) : k_sh cy ad q ns nt 21 f g = Sum.inl (cy 0, (20, Sum.inl f)) := rfl
theorem ss_22 (f : Nat → Int32) (g : Nat → Int64) : k_sh cy ad q ns nt 22 f g = Sum.inl (cy 0, (200, Sum.inl f)) := rfl
theorem ss_23 (f : Nat → Int32) (g : Nat → Int64) : k_sh cy ad q ns nt 23 f g = Sum.inl (cy 0, (20, Sum.inl f)) := rfl
theorem ss_24 (f : Nat → Int32) (g : Nat → Int64) : k_sh cy ad q ns nt 24 f g = Sum.inl (cy 0, (20, Sum.inl f)) := rfl
theorem ss_25 (f : Nat → Int32) (g : Nat → Int64) : k_sh cy ad q ns nt 25 f g = Sum.inl (cy 0, (60, Sum.inl f)) := rfl
theorem ss_26 (f : Nat → Int32) (g : Nat → Int64) : k_sh cy ad q ns nt 26 f g = Sum.inl (cy 0, (60, Sum.inl f)) := rfl
theorem ss_27 (f : Nat → Int32) (g : Nat → Int64) : k_sh cy ad q ns nt 27 f g = Sum.inl (cy 0, (60, Sum.inl f)) := rfl
theorem ss_28 (f : Nat → Int32) (g : Nat → Int64) : k_sh cy ad q ns nt 28 f g = Sum.inl (cy 0, (60, Sum.inl f)) := rfl
theorem ss_29 (f : Nat → Int32) (g : Nat → Int64) : k_sh cy ad q ns nt 29 f g = Sum.inl (cy 0, (60, Sum.inl f)) := rfl
theorem ss_30 (f : Nat → Int32) (g : Nat → Int64) : k_sh cy ad q ns nt 30 f g = Sum.inl (cy 0, (60, Sum.inl f)) := rfl
theorem ss_31 (f : Nat → Int32) (g : Nat → Int64) : k_sh cy ad q ns nt 31 f g = Sum.inl (cy 0, (60, Sum.inl f)) := rfl
theorem ss_32 (f : Nat → Int32) (g : Nat → Int64) : k_sh cy ad q ns nt 32 f g = Sum.inl (cy 0, (60, Sum.inl f)) := rfl
theorem ss_33 (f : Nat → Int32) (g : Nat → Int64) : k_sh cy ad q ns nt 33 f g = Sum.inl (cy 0, (300, Sum.inl f)) := rfl
theorem ss_34 (f : Nat → Int32) (g : Nat → Int64) : k_sh cy ad q ns nt 34 f g = Sum.inl (cy 0, (5, Sum.inl f)) := rfl
theorem ss_35 (f : Nat → Int32) (g : Nat → Int64) : k_sh cy ad q ns nt 35 f g = Sum.inl (cy 0, (5, Sum.inl f)) := rfl
theorem sc_0 : k_c cy ad q ns nt I J 0 = Sum.inr (4, [.ref (ad 1), .ref (ad 2), .ref (ad 3), .ref (ad 4), .ref (ad 5), .ref (ad 6), .int (I 0 6), .int (I 0 7)]) := rfl
theorem sc_1 : k_c cy ad q ns nt I J 1 = Sum.inl (cy 0, (5, Sum.inl (I 1))) := rfl
theorem sc_2 : k_c cy ad q ns nt I J 2 = Sum.inl (cy 0, (5, Sum.inl (I 2))) := rfl
theorem sc_3 : k_c cy ad q ns nt I J 3 = Sum.inr (0, [.ref (ad 8), .ref (ad 9), .ref (ad 10), .ref (ad 11)]) := rfl
theorem sc_4 : k_c cy ad q ns nt I J 4 = Sum.inl (cy 3, (20, Sum.inr (Sum.inr (Sum.inr (Sum.inr (fun i => if i < ns then some (ad (40 + 2 * i)) else none)))))) := rfl
theorem sc_5 : k_c cy ad q ns nt I J 5 = Sum.inl (cy 4, (60, Sum.inr (Sum.inr (Sum.inr (Sum.inr (fun j => if j < nt then some (ad (80 + 4 * j)) else none)))))) := rfl
theorem sc_6 : k_c cy ad q ns nt I J 6 = Sum.inr (1, [.ref (ad 7), .int (I 6 1)]) := rfl
theorem sc_7 : k_c cy ad q ns nt I J 7 = Sum.inl (cy 0, (5, Sum.inl (I 7))) := rfl
theorem sc_8 : k_c cy ad q ns nt I J 8 = Sum.inl (cy 0, (25, Sum.inl (I 8))) := rfl
theorem sc_9 : k_c cy ad q ns nt I J 9 = Sum.inl (cy 0, (25, Sum.inl (I 9))) := rfl
theorem sc_10 : k_c cy ad q ns nt I J 10 = Sum.inl (cy 1, (25, Sum.inr (Sum.inl (J 10)))) := rfl
theorem sc_11 : k_c cy ad q ns nt I J 11 = Sum.inl (cy 0, (5, Sum.inl (I 11))) := rfl
theorem sc_12 : k_c cy ad q ns nt I J 12 = Sum.inl (cy 1, (1, Sum.inr (Sum.inl (J 12)))) := rfl
theorem sc_13 : k_c cy ad q ns nt I J 13 = Sum.inr (5, [.int (I 13 0), .ref (ad 14), .ref (ad 15), .ref (ad 16), .ref (ad 17), .ref (ad 18), .ref (ad 19), .ref (ad 20), .int (I 13 8), .ref (ad 21), .ref (ad 22), .ref (ad 23), .ref (ad 24), .int (I 13 13), .ref (ad 25), .ref (ad 26), .ref (ad 27), .ref (ad 28), .ref (ad 29), .ref (ad 30), .ref (ad 31), .ref (ad 32), .ref (ad 33), .int (I 13 23), .int (I 13 24), .ref (ad 34), .ref (ad 35)]) := rfl
theorem sc_14 : k_c cy ad q ns nt I J 14 = Sum.inl (cy 0, (5, Sum.inl (I 14))) := rfl
theorem sc_15 : k_c cy ad q ns nt I J 15 = Sum.inl (cy 0, (5, Sum.inl (I 15))) := rfl
theorem sc_16 : k_c cy ad q ns nt I J 16 = Sum.inl (cy 2, (25, Sum.inl (I 16))) := rfl
theorem sc_17 : k_c cy ad q ns nt I J 17 = Sum.inl (cy 0, (25, Sum.inl (I 17))) := rfl
theorem sc_18 : k_c cy ad q ns nt I J 18 = Sum.inl (cy 0, (25, Sum.inl (I 18))) := rfl
theorem sc_19 : k_c cy ad q ns nt I J 19 = Sum.inl (cy 1, (25, Sum.inr (Sum.inl (J 19)))) := rfl
theorem sc_20 : k_c cy ad q ns nt I J 20 = Sum.inl (cy 1, (25, Sum.inr (Sum.inl (J 20)))) := rfl
theorem sc_21 : k_c cy ad q ns nt I J 21 = Sum.inl (cy 0, (20, Sum.inl (I 21))) := rfl
theorem sc_22 : k_c cy ad q ns nt I J 22 = Sum.inl (cy 0, (200, Sum.inl (I 22))) := rfl
theorem sc_23 : k_c cy ad q ns nt I J 23 = Sum.inl (cy 0, (20, Sum.inl (I 23))) := rfl
theorem sc_24 : k_c cy ad q ns nt I J 24 = Sum.inl (cy 0, (20, Sum.inl (I 24))) := rfl
theorem sc_25 : k_c cy ad q ns nt I J 25 = Sum.inl (cy 0, (60, Sum.inl (I 25))) := rfl
theorem sc_26 : k_c cy ad q ns nt I J 26 = Sum.inl (cy 0, (60, Sum.inl (I 26))) := rfl
theorem sc_27 : k_c cy ad q ns nt I J 27 = Sum.inl (cy 0, (60, Sum.inl (I 27))) := rfl
theorem sc_28 : k_c cy ad q ns nt I J 28 = Sum.inl (cy 0, (60, Sum.inl (I 28))) := rfl
theorem sc_29 : k_c cy ad q ns nt I J 29 = Sum.inl (cy 0, (60, Sum.inl (I 29))) := rfl
theorem sc_30 : k_c cy ad q ns nt I J 30 = Sum.inl (cy 0, (60, Sum.inl (I 30))) := rfl
theorem sc_31 : k_c cy ad q ns nt I J 31 = Sum.inl (cy 0, (60, Sum.inl (I 31))) := rfl
theorem sc_32 : k_c cy ad q ns nt I J 32 = Sum.inl (cy 0, (60, Sum.inl (I 32))) := rfl
theorem sc_33 : k_c cy ad q ns nt I J 33 = Sum.inl (cy 0, (300, Sum.inl (I 33))) := rfl
theorem sc_34 : k_c cy ad q ns nt I J 34 = Sum.inl (cy 0, (5, Sum.inl (I 34))) := rfl
theorem sc_35 : k_c cy ad q ns nt I J 35 = Sum.inl (cy 0, (5, Sum.inl (I 35))) := rfl
theorem ss_sub (h : 40 ≤ r ∧ r < 80 ∧ r % 2 = 0) (f : Nat → Int32) (g : Nat → Int64) : k_sh cy ad q ns nt r f g = Sum.inr (2, [.ref (ad (r + 1)), .int (f 1), .int (f 2), .int (f 3)]) := by
  rw [k_sh, if_neg (by omega), if_pos (by omega), if_pos (by omega)]
theorem sc_sub (h : 40 ≤ r ∧ r < 80 ∧ r % 2 = 0) : k_c cy ad q ns nt I J r = Sum.inr (2, [.ref (ad (r + 1)), .int (I r 1), .int (I r 2), .int (I r 3)]) := ss_sub h _ _
theorem ss_chn (h : 40 ≤ r ∧ r < 80 ∧ r % 2 = 0) (f : Nat → Int32) (g : Nat → Int64) : k_sh cy ad q ns nt (r + 1) f g = Sum.inl (cy 0, (10, Sum.inl f)) := by
  rw [k_sh, if_neg (by omega), if_pos (by omega), if_neg (by omega)]
theorem sc_chn (h : 40 ≤ r ∧ r < 80 ∧ r % 2 = 0) : k_c cy ad q ns nt I J (r + 1) = Sum.inl (cy 0, (10, Sum.inl (I (r + 1)))) := ss_chn h _ _
theorem ss_tlk (h : 80 ≤ r ∧ r % 4 = 0) (f : Nat → Int32) (g : Nat → Int64) : k_sh cy ad q ns nt r f g = Sum.inr (3, [.ref (ad (40 + 2 * q r 0)), .ref (ad (40 + 2 * q r 1)), .int (f 2), .int (f 3), .ref (ad (r + 1)), .ref (ad (r + 3)), .int (f 6), .int (f 7), .int (f 8)]) := by
  rw [k_sh, if_neg (by omega), if_neg (by omega), if_pos (by omega)]
theorem sc_tlk (h : 80 ≤ r ∧ r % 4 = 0) : k_c cy ad q ns nt I J r = Sum.inr (3, [.ref (ad (40 + 2 * q r 0)), .ref (ad (40 + 2 * q r 1)), .int (I r 2), .int (I r 3), .ref (ad (r + 1)), .ref (ad (r + 3)), .int (I r 6), .int (I r 7), .int (I r 8)]) := ss_tlk h _ _
theorem ss_trt (h : 80 ≤ r ∧ r % 4 = 0) (f : Nat → Int32) (g : Nat → Int64) : k_sh cy ad q ns nt (r + 1) f g = Sum.inr (1, [.ref (ad (r + 2)), .int (f 1)]) := by
  rw [k_sh, if_neg (by omega), if_neg (by omega), if_neg (by omega), if_pos (by omega)]
theorem sc_trt (h : 80 ≤ r ∧ r % 4 = 0) : k_c cy ad q ns nt I J (r + 1) = Sum.inr (1, [.ref (ad (r + 2)), .int (I (r + 1) 1)]) := ss_trt h _ _
theorem ss_trc (h : 80 ≤ r ∧ r % 4 = 0) (f : Nat → Int32) (g : Nat → Int64) : k_sh cy ad q ns nt (r + 2) f g = Sum.inl (cy 0, (5, Sum.inl f)) := by
  rw [k_sh, if_neg (by omega), if_neg (by omega), if_neg (by omega), if_neg (by omega), if_pos (by omega)]
theorem sc_trc (h : 80 ≤ r ∧ r % 4 = 0) : k_c cy ad q ns nt I J (r + 2) = Sum.inl (cy 0, (5, Sum.inl (I (r + 2)))) := ss_trc h _ _
theorem ss_chg (h : 80 ≤ r ∧ r % 4 = 0) (f : Nat → Int32) (g : Nat → Int64) : k_sh cy ad q ns nt (r + 3) f g = Sum.inl (cy 1, (25, Sum.inr (Sum.inl g))) := by
  rw [k_sh, if_neg (by omega), if_neg (by omega), if_neg (by omega), if_neg (by omega), if_neg (by omega)]
theorem sc_chg (h : 80 ≤ r ∧ r % 4 = 0) : k_c cy ad q ns nt I J (r + 3) = Sum.inl (cy 1, (25, Sum.inr (Sum.inl (J (r + 3))))) := ss_chg h _ _
theorem ss_rte (h : r = 6 ∨ (80 ≤ r ∧ r % 4 = 1)) (f : Nat → Int32) (g : Nat → Int64) : k_sh cy ad q ns nt r f g = Sum.inr (1, [.ref (ad (r + 1)), .int (f 1)]) := by
  rcases h with rfl | ⟨h1, h2⟩
  · rfl
  · rw [k_sh, if_neg (by omega), if_neg (by omega)]
    rw [if_neg (by omega), if_pos h2]
theorem sc_rte (h : r = 6 ∨ (80 ≤ r ∧ r % 4 = 1)) : k_c cy ad q ns nt I J r = Sum.inr (1, [.ref (ad (r + 1)), .int (I r 1)]) := ss_rte h _ _
theorem ss_rtc (h : r = 6 ∨ (80 ≤ r ∧ r % 4 = 1)) (f : Nat → Int32) (g : Nat → Int64) : k_sh cy ad q ns nt (r + 1) f g = Sum.inl (cy 0, (5, Sum.inl f)) := by
  rcases h with rfl | ⟨h1, h2⟩
  · rfl
  · rw [k_sh, if_neg (by omega), if_neg (by omega)]
    rw [if_neg (by omega), if_neg (by omega), if_pos (by omega)]
theorem sc_rtc (h : r = 6 ∨ (80 ≤ r ∧ r % 4 = 1)) : k_c cy ad q ns nt I J (r + 1) = Sum.inl (cy 0, (5, Sum.inl (I (r + 1)))) := ss_rtc h _ _
theorem k_upI {e : va_E} (f : Nat → Int32) (h : e = k_sh cy ad q ns nt r f (J r)) : va_up (k_c cy ad q ns nt I J) r e = k_c cy ad q ns nt (va_up I r f) J := by
  funext x
  by_cases hx : x = r
  · subst hx
    simp [va_up, k_c, h]
  · simp [va_up, k_c, hx]
theorem k_upJ {e : va_E} (g : Nat → Int64) (h : e = k_sh cy ad q ns nt r (I r) g) : va_up (k_c cy ad q ns nt I J) r e = k_c cy ad q ns nt I (va_up J r g) := by
  funext x
  by_cases hx : x = r
  · subst hx
    simp [va_up, k_c, h]
  · simp [va_up, k_c, hx]
end KSHAPE
end
section
def wI (I : Nat → Nat → Int32) (r k : Nat) (x : Int32) : Nat → Nat → Int32 := va_up I r (upd (I r) k x)
def wJ (J : Nat → Nat → Int64) (r k : Nat) (x : Int64) : Nat → Nat → Int64 := va_up J r (vp_updL (J r) k x)
theorem wI_eq (I : Nat → Nat → Int32) (r k : Nat) (x : Int32) (r' k' : Nat) : wI I r k x r' k' = if r' = r ∧ k' = k then x else I r' k' := by
  unfold wI va_up
  by_cases h : r' = r
  · subst h
    by_cases h2 : k' = k <;> simp [upd, h2]
  · simp [h]
theorem wJ_eq (J : Nat → Nat → Int64) (r k : Nat) (x : Int64) (r' k' : Nat) : wJ J r k x r' k' = if r' = r ∧ k' = k then x else J r' k' := by
  unfold wJ va_up
  by_cases h : r' = r
  · subst h
    by_cases h2 : k' = k <;> simp [vp_updL, h2]
  · simp [h]
section KFIELDS
variable {D : va_G} {cy : Nat → ClassId} {lo : Nat} {p : Program} {l : Launch} {e : Env} {Rm : Room} {s : State} {m : MethodId} {args : Array Value} {below : List Frame} {meth : Method} {c : Code} {cc : ByteArray} {nL cells slots : Nat} {Q : State → Prop} {own : String} {R : List Nat} {ad : Nat → Nat} {w : Nat → va_E} {pc : Nat} {lv : List (Nat × Value)} {st : List Value}
variable {q : Nat → Nat → Nat} {ns nt r : Nat} {I : Nat → Nat → Int32} {J : Nat → Nat → Int64}
set_option maxRecDepth 100000 in
theorem k_in0 : ∀ x ∈ u_ws RX0 TX0 4, x ∈ lw_tbl ∧ goodWord x = true := by decide +kernel
theorem k_hin0 (F : k_F p m c cc nL s own D cy lo) : ∀ x ∈ u_ws RX0 TX0 4, x.before args s = true := fun x hx => F.2.2.2.2.wm (k_in0 x hx).1 (k_in0 x hx).2 args
set_option maxRecDepth 100000 in
theorem k_in1 : ∀ x ∈ u_ws RX1 TX1 2, x ∈ lw_tbl ∧ goodWord x = true := by decide +kernel
theorem k_hin1 (F : k_F p m c cc nL s own D cy lo) : ∀ x ∈ u_ws RX1 TX1 2, x.before args s = true := fun x hx => F.2.2.2.2.wm (k_in1 x hx).1 (k_in1 x hx).2 args
set_option maxRecDepth 100000 in
theorem k_in2 : ∀ x ∈ u_ws RX2 TX2 4, x ∈ lw_tbl ∧ goodWord x = true := by decide +kernel
theorem k_hin2 (F : k_F p m c cc nL s own D cy lo) : ∀ x ∈ u_ws RX2 TX2 4, x.before args s = true := fun x hx => F.2.2.2.2.wm (k_in2 x hx).1 (k_in2 x hx).2 args
set_option maxRecDepth 100000 in
theorem k_in3 : ∀ x ∈ u_ws RX3 TX3 9, x ∈ lw_tbl ∧ goodWord x = true := by decide +kernel
theorem k_hin3 (F : k_F p m c cc nL s own D cy lo) : ∀ x ∈ u_ws RX3 TX3 9, x.before args s = true := fun x hx => F.2.2.2.2.wm (k_in3 x hx).1 (k_in3 x hx).2 args
set_option maxRecDepth 100000 in
theorem k_in4 : ∀ x ∈ u_ws RX4 TX4 8, x ∈ lw_tbl ∧ goodWord x = true := by decide +kernel
theorem k_hin4 (F : k_F p m c cc nL s own D cy lo) : ∀ x ∈ u_ws RX4 TX4 8, x.before args s = true := fun x hx => F.2.2.2.2.wm (k_in4 x hx).1 (k_in4 x hx).2 args
set_option maxRecDepth 100000 in
theorem k_in5 : ∀ x ∈ u_ws RX5 TX5 27, x ∈ lw_tbl ∧ goodWord x = true := by decide +kernel
theorem k_hin5 (F : k_F p m c cc nL s own D cy lo) : ∀ x ∈ u_ws RX5 TX5 27, x.before args s = true := fun x hx => F.2.2.2.2.wm (k_in5 x hx).1 (k_in5 x hx).2 args
theorem y_iald (F : k_F p m c cc nL s own D cy lo) {n : Nat} {i : Int32} (hr : r ∈ R) (hs : ∀ (f : Nat → Int32) (g : Nat → Int64), k_sh cy ad q ns nt r f g = Sum.inl (cy 0, n, Sum.inl f)) (hin : vp_in i n) (hdg : decode cc pc = .ok (.iaload, 1)) (kk : XW D lo p l e Rm s m args below meth c nL cells slots Q R ad (k_c cy ad q ns nt I J) (pc + 1) lv (.int (I r i.toNatClampNeg) :: st)) : XW D lo p l e Rm s m args below meth c nL cells slots Q R ad (k_c cy ad q ns nt I J) pc lv (.int i :: .ref (ad r) :: st) := x_iald F hr (hs (I r) (J r)) hin hdg kk
theorem y_zald (F : k_F p m c cc nL s own D cy lo) {n : Nat} {i : Int32} (hr : r ∈ R) (hs : ∀ (f : Nat → Int32) (g : Nat → Int64), k_sh cy ad q ns nt r f g = Sum.inl (cy 2, n, Sum.inl f)) (hin : vp_in i n) (hdg : decode cc pc = .ok (.baload, 1)) (kk : XW D lo p l e Rm s m args below meth c nL cells slots Q R ad (k_c cy ad q ns nt I J) (pc + 1) lv (.int (I r i.toNatClampNeg) :: st)) : XW D lo p l e Rm s m args below meth c nL cells slots Q R ad (k_c cy ad q ns nt I J) pc lv (.int i :: .ref (ad r) :: st) := x_zald F hr (hs (I r) (J r)) hin hdg kk
theorem y_lald (F : k_F p m c cc nL s own D cy lo) {n : Nat} {i : Int32} (hr : r ∈ R) (hs : ∀ (f : Nat → Int32) (g : Nat → Int64), k_sh cy ad q ns nt r f g = Sum.inl (cy 1, n, Sum.inr (Sum.inl g))) (hin : vp_in i n) (hdg : decode cc pc = .ok (.laload, 1)) (kk : XW D lo p l e Rm s m args below meth c nL cells slots Q R ad (k_c cy ad q ns nt I J) (pc + 1) lv (.long (J r i.toNatClampNeg) :: st)) : XW D lo p l e Rm s m args below meth c nL cells slots Q R ad (k_c cy ad q ns nt I J) pc lv (.int i :: .ref (ad r) :: st) := x_lald F hr (hs (I r) (J r)) hin hdg kk
theorem y_iast (F : k_F p m c cc nL s own D cy lo) {n : Nat} {i x : Int32} (hr : r ∈ R) (hs : ∀ (f : Nat → Int32) (g : Nat → Int64), k_sh cy ad q ns nt r f g = Sum.inl (cy 0, n, Sum.inl f)) (hin : vp_in i n) (hdg : decode cc pc = .ok (.iastore, 1)) (kk : XW D lo p l e Rm s m args below meth c nL cells slots Q R ad (k_c cy ad q ns nt (wI I r i.toNatClampNeg x) J) (pc + 1) lv (st)) : XW D lo p l e Rm s m args below meth c nL cells slots Q R ad (k_c cy ad q ns nt I J) pc lv (.int x :: .int i :: .ref (ad r) :: st) := x_iast F hr (hs (I r) (J r)) hin hdg (x_world (k_upI _ (hs _ _).symm) kk)
theorem y_zast (F : k_F p m c cc nL s own D cy lo) {n : Nat} {i x : Int32} (hr : r ∈ R) (hs : ∀ (f : Nat → Int32) (g : Nat → Int64), k_sh cy ad q ns nt r f g = Sum.inl (cy 2, n, Sum.inl f)) (hin : vp_in i n) (hx : vp_nar .boolean x = x) (hdg : decode cc pc = .ok (.bastore, 1)) (kk : XW D lo p l e Rm s m args below meth c nL cells slots Q R ad (k_c cy ad q ns nt (wI I r i.toNatClampNeg x) J) (pc + 1) lv (st)) : XW D lo p l e Rm s m args below meth c nL cells slots Q R ad (k_c cy ad q ns nt I J) pc lv (.int x :: .int i :: .ref (ad r) :: st) := x_zast F hr (hs (I r) (J r)) hin hdg (x_world (by rw [hx]; exact k_upI _ (hs _ _).symm) kk)
theorem y_last (F : k_F p m c cc nL s own D cy lo) {n : Nat} {i : Int32} {x : Int64} (hr : r ∈ R) (hs : ∀ (f : Nat → Int32) (g : Nat → Int64), k_sh cy ad q ns nt r f g = Sum.inl (cy 1, n, Sum.inr (Sum.inl g))) (hin : vp_in i n) (hdg : decode cc pc = .ok (.lastore, 1)) (kk : XW D lo p l e Rm s m args below meth c nL cells slots Q R ad (k_c cy ad q ns nt I (wJ J r i.toNatClampNeg x)) (pc + 1) lv (st)) : XW D lo p l e Rm s m args below meth c nL cells slots Q R ad (k_c cy ad q ns nt I J) pc lv (.long x :: .int i :: .ref (ad r) :: st) := x_last F hr (hs (I r) (J r)) hin hdg (x_world (k_upJ _ (hs _ _).symm) kk)
theorem y_aldS (F : k_F p m c cc nL s own D cy lo) {n : Nat} {i : Int32} {h : Nat → Option Nat} (hr : r ∈ R) (hs : k_sh cy ad q ns nt r (I r) (J r) = Sum.inl (cy 3, n, Sum.inr (Sum.inr (Sum.inr (Sum.inr h))))) (hin : vp_in i n) (hdg : decode cc pc = .ok (.aaload, 1)) (kk : XW D lo p l e Rm s m args below meth c nL cells slots Q R ad (k_c cy ad q ns nt I J) (pc + 1) lv (va_rf (h i.toNatClampNeg) :: st)) : XW D lo p l e Rm s m args below meth c nL cells slots Q R ad (k_c cy ad q ns nt I J) pc lv (.int i :: .ref (ad r) :: st) := x_aldS F hr hs hin hdg kk
theorem y_aldT (F : k_F p m c cc nL s own D cy lo) {n : Nat} {i : Int32} {h : Nat → Option Nat} (hr : r ∈ R) (hs : k_sh cy ad q ns nt r (I r) (J r) = Sum.inl (cy 4, n, Sum.inr (Sum.inr (Sum.inr (Sum.inr h))))) (hin : vp_in i n) (hdg : decode cc pc = .ok (.aaload, 1)) (kk : XW D lo p l e Rm s m args below meth c nL cells slots Q R ad (k_c cy ad q ns nt I J) (pc + 1) lv (va_rf (h i.toNatClampNeg) :: st)) : XW D lo p l e Rm s m args below meth c nL cells slots Q R ad (k_c cy ad q ns nt I J) pc lv (.int i :: .ref (ad r) :: st) := x_aldT F hr hs hin hdg kk
set_option maxRecDepth 100000 in
theorem g_X0_9 (F : k_F p m c cc nL s RX0 D cy lo) {fs : List Value} {v : Value} (hr : r ∈ R) (hw : w r = .inr (0, fs)) (hv : fs[0]? = some v) (hdg : decode cc pc = .ok (.getfield 9, 3)) (kk : XW D lo p l e Rm s m args below meth c nL cells slots Q R ad w (pc + 3) lv (v :: st)) : XW D lo p l e Rm s m args below meth c nL cells slots Q R ad w pc lv (.ref (ad r) :: st) := x_get F (T := TX0) (N := 4) hr hw rfl (k_hin0 F) 0 (by decide) (F.2.2.2.2.word 55 (by decide +kernel) rfl args) rfl hv hdg kk
set_option maxRecDepth 100000 in
theorem g_X0_15 (F : k_F p m c cc nL s RX0 D cy lo) {fs : List Value} {v : Value} (hr : r ∈ R) (hw : w r = .inr (0, fs)) (hv : fs[1]? = some v) (hdg : decode cc pc = .ok (.getfield 15, 3)) (kk : XW D lo p l e Rm s m args below meth c nL cells slots Q R ad w (pc + 3) lv (v :: st)) : XW D lo p l e Rm s m args below meth c nL cells slots Q R ad w pc lv (.ref (ad r) :: st) := x_get F (T := TX0) (N := 4) hr hw rfl (k_hin0 F) 1 (by decide) (F.2.2.2.2.word 56 (by decide +kernel) rfl args) rfl hv hdg kk
set_option maxRecDepth 100000 in
theorem g_X0_18 (F : k_F p m c cc nL s RX0 D cy lo) {fs : List Value} {v : Value} (hr : r ∈ R) (hw : w r = .inr (0, fs)) (hv : fs[2]? = some v) (hdg : decode cc pc = .ok (.getfield 18, 3)) (kk : XW D lo p l e Rm s m args below meth c nL cells slots Q R ad w (pc + 3) lv (v :: st)) : XW D lo p l e Rm s m args below meth c nL cells slots Q R ad w pc lv (.ref (ad r) :: st) := x_get F (T := TX0) (N := 4) hr hw rfl (k_hin0 F) 2 (by decide) (F.2.2.2.2.word 57 (by decide +kernel) rfl args) rfl hv hdg kk
set_option maxRecDepth 100000 in
theorem g_X0_22 (F : k_F p m c cc nL s RX0 D cy lo) {fs : List Value} {v : Value} (hr : r ∈ R) (hw : w r = .inr (0, fs)) (hv : fs[3]? = some v) (hdg : decode cc pc = .ok (.getfield 22, 3)) (kk : XW D lo p l e Rm s m args below meth c nL cells slots Q R ad w (pc + 3) lv (v :: st)) : XW D lo p l e Rm s m args below meth c nL cells slots Q R ad w pc lv (.ref (ad r) :: st) := x_get F (T := TX0) (N := 4) hr hw rfl (k_hin0 F) 3 (by decide) (F.2.2.2.2.word 58 (by decide +kernel) rfl args) rfl hv hdg kk
set_option maxRecDepth 100000 in
theorem g_X1_9 (F : k_F p m c cc nL s RX1 D cy lo) {fs : List Value} {v : Value} (hr : r ∈ R) (hw : w r = .inr (1, fs)) (hv : fs[0]? = some v) (hdg : decode cc pc = .ok (.getfield 9, 3)) (kk : XW D lo p l e Rm s m args below meth c nL cells slots Q R ad w (pc + 3) lv (v :: st)) : XW D lo p l e Rm s m args below meth c nL cells slots Q R ad w pc lv (.ref (ad r) :: st) := x_get F (T := TX1) (N := 2) hr hw rfl (k_hin1 F) 0 (by decide) (F.2.2.2.2.word 80 (by decide +kernel) rfl args) rfl hv hdg kk
set_option maxRecDepth 100000 in
theorem g_X1_15 (F : k_F p m c cc nL s RX1 D cy lo) {fs : List Value} {v : Value} (hr : r ∈ R) (hw : w r = .inr (1, fs)) (hv : fs[1]? = some v) (hdg : decode cc pc = .ok (.getfield 15, 3)) (kk : XW D lo p l e Rm s m args below meth c nL cells slots Q R ad w (pc + 3) lv (v :: st)) : XW D lo p l e Rm s m args below meth c nL cells slots Q R ad w pc lv (.ref (ad r) :: st) := x_get F (T := TX1) (N := 2) hr hw rfl (k_hin1 F) 1 (by decide) (F.2.2.2.2.word 81 (by decide +kernel) rfl args) rfl hv hdg kk
set_option maxRecDepth 100000 in
theorem p_X1_15 (F : k_F p m c cc nL s RX1 D cy lo) {a0 : Value} {v : Int32} (hr : r ∈ R) (hs : ∀ (f : Nat → Int32) (g : Nat → Int64), k_sh cy ad q ns nt r f g = Sum.inr (1, [a0, .int (f 1)])) (hdg : decode cc pc = .ok (.putfield 15, 3)) (kk : XW D lo p l e Rm s m args below meth c nL cells slots Q R ad (k_c cy ad q ns nt (wI I r 1 v) J) (pc + 3) lv (st)) : XW D lo p l e Rm s m args below meth c nL cells slots Q R ad (k_c cy ad q ns nt I J) pc lv (.int v :: .ref (ad r) :: st) := x_put F (T := TX1) (N := 2) (ty := .int) tyX1 tyX1_ok nmX1 hr (hs (I r) (J r)) rfl (k_hin1 F) 1 (by decide) (F.2.2.2.2.word 81 (by decide +kernel) rfl args) rfl rfl (by decide +kernel) rfl rfl (Nat.le_of_ble_eq_true rfl) hdg (x_world (k_upI (upd (I r) 1 v) (hs (upd (I r) 1 v) (J r)).symm) kk)
set_option maxRecDepth 100000 in
theorem g_X0_35 (F : k_F p m c cc nL s RX0 D cy lo) {fs : List Value} {v : Value} (hr : r ∈ R) (hw : w r = .inr (1, fs)) (hv : fs[1]? = some v) (hdg : decode cc pc = .ok (.getfield 35, 3)) (kk : XW D lo p l e Rm s m args below meth c nL cells slots Q R ad w (pc + 3) lv (v :: st)) : XW D lo p l e Rm s m args below meth c nL cells slots Q R ad w pc lv (.ref (ad r) :: st) := x_getN F (T := TX1) (N := 2) hr hw rfl (k_hin1 F) 1 (by decide) (F.2.2.2.2.nestF (t := RX4) 82 (by decide +kernel) args) rfl hv hdg kk
set_option maxRecDepth 100000 in
theorem p_X0_35 (F : k_F p m c cc nL s RX0 D cy lo) {a0 : Value} {v : Int32} (hr : r ∈ R) (hs : ∀ (f : Nat → Int32) (g : Nat → Int64), k_sh cy ad q ns nt r f g = Sum.inr (1, [a0, .int (f 1)])) (hdg : decode cc pc = .ok (.putfield 35, 3)) (kk : XW D lo p l e Rm s m args below meth c nL cells slots Q R ad (k_c cy ad q ns nt (wI I r 1 v) J) (pc + 3) lv (st)) : XW D lo p l e Rm s m args below meth c nL cells slots Q R ad (k_c cy ad q ns nt I J) pc lv (.int v :: .ref (ad r) :: st) := x_putN F (T := TX1) (N := 2) (ty := .int) tyX1 tyX1_ok nmX1 hr (hs (I r) (J r)) rfl (k_hin1 F) 1 (by decide) (F.2.2.2.2.nestF (t := RX4) 82 (by decide +kernel) args) rfl rfl (by decide +kernel) rfl rfl (Nat.le_of_ble_eq_true rfl) hdg (x_world (k_upI (upd (I r) 1 v) (hs (upd (I r) 1 v) (J r)).symm) kk)
set_option maxRecDepth 100000 in
theorem g_X4_233 (F : k_F p m c cc nL s RX4 D cy lo) {fs : List Value} {v : Value} (hr : r ∈ R) (hw : w r = .inr (1, fs)) (hv : fs[1]? = some v) (hdg : decode cc pc = .ok (.getfield 233, 3)) (kk : XW D lo p l e Rm s m args below meth c nL cells slots Q R ad w (pc + 3) lv (v :: st)) : XW D lo p l e Rm s m args below meth c nL cells slots Q R ad w pc lv (.ref (ad r) :: st) := x_getN F (T := TX1) (N := 2) hr hw rfl (k_hin1 F) 1 (by decide) (F.2.2.2.2.nestF (t := RX4) 83 (by decide +kernel) args) rfl hv hdg kk
set_option maxRecDepth 100000 in
theorem p_X4_233 (F : k_F p m c cc nL s RX4 D cy lo) {a0 : Value} {v : Int32} (hr : r ∈ R) (hs : ∀ (f : Nat → Int32) (g : Nat → Int64), k_sh cy ad q ns nt r f g = Sum.inr (1, [a0, .int (f 1)])) (hdg : decode cc pc = .ok (.putfield 233, 3)) (kk : XW D lo p l e Rm s m args below meth c nL cells slots Q R ad (k_c cy ad q ns nt (wI I r 1 v) J) (pc + 3) lv (st)) : XW D lo p l e Rm s m args below meth c nL cells slots Q R ad (k_c cy ad q ns nt I J) pc lv (.int v :: .ref (ad r) :: st) := x_putN F (T := TX1) (N := 2) (ty := .int) tyX1 tyX1_ok nmX1 hr (hs (I r) (J r)) rfl (k_hin1 F) 1 (by decide) (F.2.2.2.2.nestF (t := RX4) 83 (by decide +kernel) args) rfl rfl (by decide +kernel) rfl rfl (Nat.le_of_ble_eq_true rfl) hdg (x_world (k_upI (upd (I r) 1 v) (hs (upd (I r) 1 v) (J r)).symm) kk)
set_option maxRecDepth 100000 in
theorem g_X4_9 (F : k_F p m c cc nL s RX4 D cy lo) {fs : List Value} {v : Value} (hr : r ∈ R) (hw : w r = .inr (4, fs)) (hv : fs[0]? = some v) (hdg : decode cc pc = .ok (.getfield 9, 3)) (kk : XW D lo p l e Rm s m args below meth c nL cells slots Q R ad w (pc + 3) lv (v :: st)) : XW D lo p l e Rm s m args below meth c nL cells slots Q R ad w pc lv (.ref (ad r) :: st) := x_get F (T := TX4) (N := 8) hr hw rfl (k_hin4 F) 0 (by decide) (F.2.2.2.2.word 90 (by decide +kernel) rfl args) rfl hv hdg kk
set_option maxRecDepth 100000 in
theorem g_X4_13 (F : k_F p m c cc nL s RX4 D cy lo) {fs : List Value} {v : Value} (hr : r ∈ R) (hw : w r = .inr (4, fs)) (hv : fs[1]? = some v) (hdg : decode cc pc = .ok (.getfield 13, 3)) (kk : XW D lo p l e Rm s m args below meth c nL cells slots Q R ad w (pc + 3) lv (v :: st)) : XW D lo p l e Rm s m args below meth c nL cells slots Q R ad w pc lv (.ref (ad r) :: st) := x_get F (T := TX4) (N := 8) hr hw rfl (k_hin4 F) 1 (by decide) (F.2.2.2.2.word 91 (by decide +kernel) rfl args) rfl hv hdg kk
set_option maxRecDepth 100000 in
theorem g_X4_19 (F : k_F p m c cc nL s RX4 D cy lo) {fs : List Value} {v : Value} (hr : r ∈ R) (hw : w r = .inr (4, fs)) (hv : fs[2]? = some v) (hdg : decode cc pc = .ok (.getfield 19, 3)) (kk : XW D lo p l e Rm s m args below meth c nL cells slots Q R ad w (pc + 3) lv (v :: st)) : XW D lo p l e Rm s m args below meth c nL cells slots Q R ad w pc lv (.ref (ad r) :: st) := x_get F (T := TX4) (N := 8) hr hw rfl (k_hin4 F) 2 (by decide) (F.2.2.2.2.word 92 (by decide +kernel) rfl args) rfl hv hdg kk
set_option maxRecDepth 100000 in
theorem g_X4_25 (F : k_F p m c cc nL s RX4 D cy lo) {fs : List Value} {v : Value} (hr : r ∈ R) (hw : w r = .inr (4, fs)) (hv : fs[3]? = some v) (hdg : decode cc pc = .ok (.getfield 25, 3)) (kk : XW D lo p l e Rm s m args below meth c nL cells slots Q R ad w (pc + 3) lv (v :: st)) : XW D lo p l e Rm s m args below meth c nL cells slots Q R ad w pc lv (.ref (ad r) :: st) := x_get F (T := TX4) (N := 8) hr hw rfl (k_hin4 F) 3 (by decide) (F.2.2.2.2.word 93 (by decide +kernel) rfl args) rfl hv hdg kk
set_option maxRecDepth 100000 in
theorem g_X4_31 (F : k_F p m c cc nL s RX4 D cy lo) {fs : List Value} {v : Value} (hr : r ∈ R) (hw : w r = .inr (4, fs)) (hv : fs[4]? = some v) (hdg : decode cc pc = .ok (.getfield 31, 3)) (kk : XW D lo p l e Rm s m args below meth c nL cells slots Q R ad w (pc + 3) lv (v :: st)) : XW D lo p l e Rm s m args below meth c nL cells slots Q R ad w pc lv (.ref (ad r) :: st) := x_get F (T := TX4) (N := 8) hr hw rfl (k_hin4 F) 4 (by decide) (F.2.2.2.2.word 94 (by decide +kernel) rfl args) rfl hv hdg kk
set_option maxRecDepth 100000 in
theorem g_X4_38 (F : k_F p m c cc nL s RX4 D cy lo) {fs : List Value} {v : Value} (hr : r ∈ R) (hw : w r = .inr (4, fs)) (hv : fs[5]? = some v) (hdg : decode cc pc = .ok (.getfield 38, 3)) (kk : XW D lo p l e Rm s m args below meth c nL cells slots Q R ad w (pc + 3) lv (v :: st)) : XW D lo p l e Rm s m args below meth c nL cells slots Q R ad w pc lv (.ref (ad r) :: st) := x_get F (T := TX4) (N := 8) hr hw rfl (k_hin4 F) 5 (by decide) (F.2.2.2.2.word 95 (by decide +kernel) rfl args) rfl hv hdg kk
set_option maxRecDepth 100000 in
theorem g_X4_83 (F : k_F p m c cc nL s RX4 D cy lo) {fs : List Value} {v : Value} (hr : r ∈ R) (hw : w r = .inr (4, fs)) (hv : fs[6]? = some v) (hdg : decode cc pc = .ok (.getfield 83, 3)) (kk : XW D lo p l e Rm s m args below meth c nL cells slots Q R ad w (pc + 3) lv (v :: st)) : XW D lo p l e Rm s m args below meth c nL cells slots Q R ad w pc lv (.ref (ad r) :: st) := x_get F (T := TX4) (N := 8) hr hw rfl (k_hin4 F) 6 (by decide) (F.2.2.2.2.word 96 (by decide +kernel) rfl args) rfl hv hdg kk
set_option maxRecDepth 100000 in
theorem p_X4_83 (F : k_F p m c cc nL s RX4 D cy lo) {a0 a1 a2 a3 a4 a5 : Value} {v : Int32} (hr : r ∈ R) (hs : ∀ (f : Nat → Int32) (g : Nat → Int64), k_sh cy ad q ns nt r f g = Sum.inr (4, [a0, a1, a2, a3, a4, a5, .int (f 6), .int (f 7)])) (hdg : decode cc pc = .ok (.putfield 83, 3)) (kk : XW D lo p l e Rm s m args below meth c nL cells slots Q R ad (k_c cy ad q ns nt (wI I r 6 v) J) (pc + 3) lv (st)) : XW D lo p l e Rm s m args below meth c nL cells slots Q R ad (k_c cy ad q ns nt I J) pc lv (.int v :: .ref (ad r) :: st) := x_put F (T := TX4) (N := 8) (ty := .int) tyX4 tyX4_ok nmX4 hr (hs (I r) (J r)) rfl (k_hin4 F) 6 (by decide) (F.2.2.2.2.word 96 (by decide +kernel) rfl args) rfl rfl (by decide +kernel) rfl rfl (Nat.le_of_ble_eq_true rfl) hdg (x_world (k_upI (upd (I r) 6 v) (hs (upd (I r) 6 v) (J r)).symm) kk)
set_option maxRecDepth 100000 in
theorem g_X4_133 (F : k_F p m c cc nL s RX4 D cy lo) {fs : List Value} {v : Value} (hr : r ∈ R) (hw : w r = .inr (4, fs)) (hv : fs[7]? = some v) (hdg : decode cc pc = .ok (.getfield 133, 3)) (kk : XW D lo p l e Rm s m args below meth c nL cells slots Q R ad w (pc + 3) lv (v :: st)) : XW D lo p l e Rm s m args below meth c nL cells slots Q R ad w pc lv (.ref (ad r) :: st) := x_get F (T := TX4) (N := 8) hr hw rfl (k_hin4 F) 7 (by decide) (F.2.2.2.2.word 97 (by decide +kernel) rfl args) rfl hv hdg kk
set_option maxRecDepth 100000 in
theorem p_X4_133 (F : k_F p m c cc nL s RX4 D cy lo) {a0 a1 a2 a3 a4 a5 : Value} {v : Int32} (hr : r ∈ R) (hs : ∀ (f : Nat → Int32) (g : Nat → Int64), k_sh cy ad q ns nt r f g = Sum.inr (4, [a0, a1, a2, a3, a4, a5, .int (f 6), .int (f 7)])) (hdg : decode cc pc = .ok (.putfield 133, 3)) (kk : XW D lo p l e Rm s m args below meth c nL cells slots Q R ad (k_c cy ad q ns nt (wI I r 7 v) J) (pc + 3) lv (st)) : XW D lo p l e Rm s m args below meth c nL cells slots Q R ad (k_c cy ad q ns nt I J) pc lv (.int v :: .ref (ad r) :: st) := x_put F (T := TX4) (N := 8) (ty := .int) tyX4 tyX4_ok nmX4 hr (hs (I r) (J r)) rfl (k_hin4 F) 7 (by decide) (F.2.2.2.2.word 97 (by decide +kernel) rfl args) rfl rfl (by decide +kernel) rfl rfl (Nat.le_of_ble_eq_true rfl) hdg (x_world (k_upI (upd (I r) 7 v) (hs (upd (I r) 7 v) (J r)).symm) kk)
set_option maxRecDepth 100000 in
theorem g_X2_9 (F : k_F p m c cc nL s RX2 D cy lo) {fs : List Value} {v : Value} (hr : r ∈ R) (hw : w r = .inr (2, fs)) (hv : fs[0]? = some v) (hdg : decode cc pc = .ok (.getfield 9, 3)) (kk : XW D lo p l e Rm s m args below meth c nL cells slots Q R ad w (pc + 3) lv (v :: st)) : XW D lo p l e Rm s m args below meth c nL cells slots Q R ad w pc lv (.ref (ad r) :: st) := x_get F (T := TX2) (N := 4) hr hw rfl (k_hin2 F) 0 (by decide) (F.2.2.2.2.word 278 (by decide +kernel) rfl args) rfl hv hdg kk
set_option maxRecDepth 100000 in
theorem g_X2_15 (F : k_F p m c cc nL s RX2 D cy lo) {fs : List Value} {v : Value} (hr : r ∈ R) (hw : w r = .inr (2, fs)) (hv : fs[1]? = some v) (hdg : decode cc pc = .ok (.getfield 15, 3)) (kk : XW D lo p l e Rm s m args below meth c nL cells slots Q R ad w (pc + 3) lv (v :: st)) : XW D lo p l e Rm s m args below meth c nL cells slots Q R ad w pc lv (.ref (ad r) :: st) := x_get F (T := TX2) (N := 4) hr hw rfl (k_hin2 F) 1 (by decide) (F.2.2.2.2.word 279 (by decide +kernel) rfl args) rfl hv hdg kk
set_option maxRecDepth 100000 in
theorem p_X2_15 (F : k_F p m c cc nL s RX2 D cy lo) {a0 : Value} {v : Int32} (hr : r ∈ R) (hs : ∀ (f : Nat → Int32) (g : Nat → Int64), k_sh cy ad q ns nt r f g = Sum.inr (2, [a0, .int (f 1), .int (f 2), .int (f 3)])) (hdg : decode cc pc = .ok (.putfield 15, 3)) (kk : XW D lo p l e Rm s m args below meth c nL cells slots Q R ad (k_c cy ad q ns nt (wI I r 1 v) J) (pc + 3) lv (st)) : XW D lo p l e Rm s m args below meth c nL cells slots Q R ad (k_c cy ad q ns nt I J) pc lv (.int v :: .ref (ad r) :: st) := x_put F (T := TX2) (N := 4) (ty := .int) tyX2 tyX2_ok nmX2 hr (hs (I r) (J r)) rfl (k_hin2 F) 1 (by decide) (F.2.2.2.2.word 279 (by decide +kernel) rfl args) rfl rfl (by decide +kernel) rfl rfl (Nat.le_of_ble_eq_true rfl) hdg (x_world (k_upI (upd (I r) 1 v) (hs (upd (I r) 1 v) (J r)).symm) kk)
set_option maxRecDepth 100000 in
theorem g_X4_108 (F : k_F p m c cc nL s RX4 D cy lo) {fs : List Value} {v : Value} (hr : r ∈ R) (hw : w r = .inr (2, fs)) (hv : fs[1]? = some v) (hdg : decode cc pc = .ok (.getfield 108, 3)) (kk : XW D lo p l e Rm s m args below meth c nL cells slots Q R ad w (pc + 3) lv (v :: st)) : XW D lo p l e Rm s m args below meth c nL cells slots Q R ad w pc lv (.ref (ad r) :: st) := x_getN F (T := TX2) (N := 4) hr hw rfl (k_hin2 F) 1 (by decide) (F.2.2.2.2.nestF (t := RX4) 280 (by decide +kernel) args) rfl hv hdg kk
set_option maxRecDepth 100000 in
theorem p_X4_108 (F : k_F p m c cc nL s RX4 D cy lo) {a0 : Value} {v : Int32} (hr : r ∈ R) (hs : ∀ (f : Nat → Int32) (g : Nat → Int64), k_sh cy ad q ns nt r f g = Sum.inr (2, [a0, .int (f 1), .int (f 2), .int (f 3)])) (hdg : decode cc pc = .ok (.putfield 108, 3)) (kk : XW D lo p l e Rm s m args below meth c nL cells slots Q R ad (k_c cy ad q ns nt (wI I r 1 v) J) (pc + 3) lv (st)) : XW D lo p l e Rm s m args below meth c nL cells slots Q R ad (k_c cy ad q ns nt I J) pc lv (.int v :: .ref (ad r) :: st) := x_putN F (T := TX2) (N := 4) (ty := .int) tyX2 tyX2_ok nmX2 hr (hs (I r) (J r)) rfl (k_hin2 F) 1 (by decide) (F.2.2.2.2.nestF (t := RX4) 280 (by decide +kernel) args) rfl rfl (by decide +kernel) rfl rfl (Nat.le_of_ble_eq_true rfl) hdg (x_world (k_upI (upd (I r) 1 v) (hs (upd (I r) 1 v) (J r)).symm) kk)
set_option maxRecDepth 100000 in
theorem g_X2_19 (F : k_F p m c cc nL s RX2 D cy lo) {fs : List Value} {v : Value} (hr : r ∈ R) (hw : w r = .inr (2, fs)) (hv : fs[2]? = some v) (hdg : decode cc pc = .ok (.getfield 19, 3)) (kk : XW D lo p l e Rm s m args below meth c nL cells slots Q R ad w (pc + 3) lv (v :: st)) : XW D lo p l e Rm s m args below meth c nL cells slots Q R ad w pc lv (.ref (ad r) :: st) := x_get F (T := TX2) (N := 4) hr hw rfl (k_hin2 F) 2 (by decide) (F.2.2.2.2.word 281 (by decide +kernel) rfl args) rfl hv hdg kk
set_option maxRecDepth 100000 in
theorem p_X2_19 (F : k_F p m c cc nL s RX2 D cy lo) {a0 : Value} {v : Int32} (hr : r ∈ R) (hs : ∀ (f : Nat → Int32) (g : Nat → Int64), k_sh cy ad q ns nt r f g = Sum.inr (2, [a0, .int (f 1), .int (f 2), .int (f 3)])) (hdg : decode cc pc = .ok (.putfield 19, 3)) (kk : XW D lo p l e Rm s m args below meth c nL cells slots Q R ad (k_c cy ad q ns nt (wI I r 2 v) J) (pc + 3) lv (st)) : XW D lo p l e Rm s m args below meth c nL cells slots Q R ad (k_c cy ad q ns nt I J) pc lv (.int v :: .ref (ad r) :: st) := x_put F (T := TX2) (N := 4) (ty := .int) tyX2 tyX2_ok nmX2 hr (hs (I r) (J r)) rfl (k_hin2 F) 2 (by decide) (F.2.2.2.2.word 281 (by decide +kernel) rfl args) rfl rfl (by decide +kernel) rfl rfl (Nat.le_of_ble_eq_true rfl) hdg (x_world (k_upI (upd (I r) 2 v) (hs (upd (I r) 2 v) (J r)).symm) kk)
set_option maxRecDepth 100000 in
theorem g_X4_116 (F : k_F p m c cc nL s RX4 D cy lo) {fs : List Value} {v : Value} (hr : r ∈ R) (hw : w r = .inr (2, fs)) (hv : fs[2]? = some v) (hdg : decode cc pc = .ok (.getfield 116, 3)) (kk : XW D lo p l e Rm s m args below meth c nL cells slots Q R ad w (pc + 3) lv (v :: st)) : XW D lo p l e Rm s m args below meth c nL cells slots Q R ad w pc lv (.ref (ad r) :: st) := x_getN F (T := TX2) (N := 4) hr hw rfl (k_hin2 F) 2 (by decide) (F.2.2.2.2.nestF (t := RX4) 282 (by decide +kernel) args) rfl hv hdg kk
set_option maxRecDepth 100000 in
theorem p_X4_116 (F : k_F p m c cc nL s RX4 D cy lo) {a0 : Value} {v : Int32} (hr : r ∈ R) (hs : ∀ (f : Nat → Int32) (g : Nat → Int64), k_sh cy ad q ns nt r f g = Sum.inr (2, [a0, .int (f 1), .int (f 2), .int (f 3)])) (hdg : decode cc pc = .ok (.putfield 116, 3)) (kk : XW D lo p l e Rm s m args below meth c nL cells slots Q R ad (k_c cy ad q ns nt (wI I r 2 v) J) (pc + 3) lv (st)) : XW D lo p l e Rm s m args below meth c nL cells slots Q R ad (k_c cy ad q ns nt I J) pc lv (.int v :: .ref (ad r) :: st) := x_putN F (T := TX2) (N := 4) (ty := .int) tyX2 tyX2_ok nmX2 hr (hs (I r) (J r)) rfl (k_hin2 F) 2 (by decide) (F.2.2.2.2.nestF (t := RX4) 282 (by decide +kernel) args) rfl rfl (by decide +kernel) rfl rfl (Nat.le_of_ble_eq_true rfl) hdg (x_world (k_upI (upd (I r) 2 v) (hs (upd (I r) 2 v) (J r)).symm) kk)
set_option maxRecDepth 100000 in
theorem g_X2_22 (F : k_F p m c cc nL s RX2 D cy lo) {fs : List Value} {v : Value} (hr : r ∈ R) (hw : w r = .inr (2, fs)) (hv : fs[3]? = some v) (hdg : decode cc pc = .ok (.getfield 22, 3)) (kk : XW D lo p l e Rm s m args below meth c nL cells slots Q R ad w (pc + 3) lv (v :: st)) : XW D lo p l e Rm s m args below meth c nL cells slots Q R ad w pc lv (.ref (ad r) :: st) := x_get F (T := TX2) (N := 4) hr hw rfl (k_hin2 F) 3 (by decide) (F.2.2.2.2.word 283 (by decide +kernel) rfl args) rfl hv hdg kk
set_option maxRecDepth 100000 in
theorem p_X2_22 (F : k_F p m c cc nL s RX2 D cy lo) {a0 : Value} {v : Int32} (hr : r ∈ R) (hs : ∀ (f : Nat → Int32) (g : Nat → Int64), k_sh cy ad q ns nt r f g = Sum.inr (2, [a0, .int (f 1), .int (f 2), .int (f 3)])) (hdg : decode cc pc = .ok (.putfield 22, 3)) (kk : XW D lo p l e Rm s m args below meth c nL cells slots Q R ad (k_c cy ad q ns nt (wI I r 3 v) J) (pc + 3) lv (st)) : XW D lo p l e Rm s m args below meth c nL cells slots Q R ad (k_c cy ad q ns nt I J) pc lv (.int v :: .ref (ad r) :: st) := x_put F (T := TX2) (N := 4) (ty := .int) tyX2 tyX2_ok nmX2 hr (hs (I r) (J r)) rfl (k_hin2 F) 3 (by decide) (F.2.2.2.2.word 283 (by decide +kernel) rfl args) rfl rfl (by decide +kernel) rfl rfl (Nat.le_of_ble_eq_true rfl) hdg (x_world (k_upI (upd (I r) 3 v) (hs (upd (I r) 3 v) (J r)).symm) kk)
set_option maxRecDepth 100000 in
theorem g_X4_119 (F : k_F p m c cc nL s RX4 D cy lo) {fs : List Value} {v : Value} (hr : r ∈ R) (hw : w r = .inr (2, fs)) (hv : fs[3]? = some v) (hdg : decode cc pc = .ok (.getfield 119, 3)) (kk : XW D lo p l e Rm s m args below meth c nL cells slots Q R ad w (pc + 3) lv (v :: st)) : XW D lo p l e Rm s m args below meth c nL cells slots Q R ad w pc lv (.ref (ad r) :: st) := x_getN F (T := TX2) (N := 4) hr hw rfl (k_hin2 F) 3 (by decide) (F.2.2.2.2.nestF (t := RX4) 284 (by decide +kernel) args) rfl hv hdg kk
set_option maxRecDepth 100000 in
theorem p_X4_119 (F : k_F p m c cc nL s RX4 D cy lo) {a0 : Value} {v : Int32} (hr : r ∈ R) (hs : ∀ (f : Nat → Int32) (g : Nat → Int64), k_sh cy ad q ns nt r f g = Sum.inr (2, [a0, .int (f 1), .int (f 2), .int (f 3)])) (hdg : decode cc pc = .ok (.putfield 119, 3)) (kk : XW D lo p l e Rm s m args below meth c nL cells slots Q R ad (k_c cy ad q ns nt (wI I r 3 v) J) (pc + 3) lv (st)) : XW D lo p l e Rm s m args below meth c nL cells slots Q R ad (k_c cy ad q ns nt I J) pc lv (.int v :: .ref (ad r) :: st) := x_putN F (T := TX2) (N := 4) (ty := .int) tyX2 tyX2_ok nmX2 hr (hs (I r) (J r)) rfl (k_hin2 F) 3 (by decide) (F.2.2.2.2.nestF (t := RX4) 284 (by decide +kernel) args) rfl rfl (by decide +kernel) rfl rfl (Nat.le_of_ble_eq_true rfl) hdg (x_world (k_upI (upd (I r) 3 v) (hs (upd (I r) 3 v) (J r)).symm) kk)
set_option maxRecDepth 100000 in
theorem g_X3_26 (F : k_F p m c cc nL s RX3 D cy lo) {fs : List Value} {v : Value} (hr : r ∈ R) (hw : w r = .inr (3, fs)) (hv : fs[0]? = some v) (hdg : decode cc pc = .ok (.getfield 26, 3)) (kk : XW D lo p l e Rm s m args below meth c nL cells slots Q R ad w (pc + 3) lv (v :: st)) : XW D lo p l e Rm s m args below meth c nL cells slots Q R ad w pc lv (.ref (ad r) :: st) := x_get F (T := TX3) (N := 9) hr hw rfl (k_hin3 F) 0 (by decide) (F.2.2.2.2.word 407 (by decide +kernel) rfl args) rfl hv hdg kk
set_option maxRecDepth 100000 in
theorem g_X4_215 (F : k_F p m c cc nL s RX4 D cy lo) {fs : List Value} {v : Value} (hr : r ∈ R) (hw : w r = .inr (3, fs)) (hv : fs[0]? = some v) (hdg : decode cc pc = .ok (.getfield 215, 3)) (kk : XW D lo p l e Rm s m args below meth c nL cells slots Q R ad w (pc + 3) lv (v :: st)) : XW D lo p l e Rm s m args below meth c nL cells slots Q R ad w pc lv (.ref (ad r) :: st) := x_getN F (T := TX3) (N := 9) hr hw rfl (k_hin3 F) 0 (by decide) (F.2.2.2.2.nestF (t := RX4) 408 (by decide +kernel) args) rfl hv hdg kk
set_option maxRecDepth 100000 in
theorem g_X3_30 (F : k_F p m c cc nL s RX3 D cy lo) {fs : List Value} {v : Value} (hr : r ∈ R) (hw : w r = .inr (3, fs)) (hv : fs[1]? = some v) (hdg : decode cc pc = .ok (.getfield 30, 3)) (kk : XW D lo p l e Rm s m args below meth c nL cells slots Q R ad w (pc + 3) lv (v :: st)) : XW D lo p l e Rm s m args below meth c nL cells slots Q R ad w pc lv (.ref (ad r) :: st) := x_get F (T := TX3) (N := 9) hr hw rfl (k_hin3 F) 1 (by decide) (F.2.2.2.2.word 409 (by decide +kernel) rfl args) rfl hv hdg kk
set_option maxRecDepth 100000 in
theorem g_X4_219 (F : k_F p m c cc nL s RX4 D cy lo) {fs : List Value} {v : Value} (hr : r ∈ R) (hw : w r = .inr (3, fs)) (hv : fs[1]? = some v) (hdg : decode cc pc = .ok (.getfield 219, 3)) (kk : XW D lo p l e Rm s m args below meth c nL cells slots Q R ad w (pc + 3) lv (v :: st)) : XW D lo p l e Rm s m args below meth c nL cells slots Q R ad w pc lv (.ref (ad r) :: st) := x_getN F (T := TX3) (N := 9) hr hw rfl (k_hin3 F) 1 (by decide) (F.2.2.2.2.nestF (t := RX4) 410 (by decide +kernel) args) rfl hv hdg kk
set_option maxRecDepth 100000 in
theorem g_X3_33 (F : k_F p m c cc nL s RX3 D cy lo) {fs : List Value} {v : Value} (hr : r ∈ R) (hw : w r = .inr (3, fs)) (hv : fs[2]? = some v) (hdg : decode cc pc = .ok (.getfield 33, 3)) (kk : XW D lo p l e Rm s m args below meth c nL cells slots Q R ad w (pc + 3) lv (v :: st)) : XW D lo p l e Rm s m args below meth c nL cells slots Q R ad w pc lv (.ref (ad r) :: st) := x_get F (T := TX3) (N := 9) hr hw rfl (k_hin3 F) 2 (by decide) (F.2.2.2.2.word 411 (by decide +kernel) rfl args) rfl hv hdg kk
set_option maxRecDepth 100000 in
theorem p_X3_33 (F : k_F p m c cc nL s RX3 D cy lo) (hin2 : meth.name = "<init>") {a0 a1 a4 a5 : Value} {v : Int32} (hr : r ∈ R) (hs : ∀ (f : Nat → Int32) (g : Nat → Int64), k_sh cy ad q ns nt r f g = Sum.inr (3, [a0, a1, .int (f 2), .int (f 3), a4, a5, .int (f 6), .int (f 7), .int (f 8)])) (hdg : decode cc pc = .ok (.putfield 33, 3)) (kk : XW D lo p l e Rm s m args below meth c nL cells slots Q R ad (k_c cy ad q ns nt (wI I r 2 v) J) (pc + 3) lv (st)) : XW D lo p l e Rm s m args below meth c nL cells slots Q R ad (k_c cy ad q ns nt I J) pc lv (.int v :: .ref (ad r) :: st) := x_putF F (T := TX3) (N := 9) (ty := .int) tyX3 tyX3_ok nmX3 hr (hs (I r) (J r)) rfl (k_hin3 F) 2 (by decide) (F.2.2.2.2.word 411 (by decide +kernel) rfl args) rfl rfl hin2 rfl (by decide +kernel) rfl rfl (Nat.le_of_ble_eq_true rfl) hdg (x_world (k_upI (upd (I r) 2 v) (hs (upd (I r) 2 v) (J r)).symm) kk)
set_option maxRecDepth 100000 in
theorem g_X4_240 (F : k_F p m c cc nL s RX4 D cy lo) {fs : List Value} {v : Value} (hr : r ∈ R) (hw : w r = .inr (3, fs)) (hv : fs[2]? = some v) (hdg : decode cc pc = .ok (.getfield 240, 3)) (kk : XW D lo p l e Rm s m args below meth c nL cells slots Q R ad w (pc + 3) lv (v :: st)) : XW D lo p l e Rm s m args below meth c nL cells slots Q R ad w pc lv (.ref (ad r) :: st) := x_getN F (T := TX3) (N := 9) hr hw rfl (k_hin3 F) 2 (by decide) (F.2.2.2.2.nestF (t := RX4) 412 (by decide +kernel) args) rfl hv hdg kk
set_option maxRecDepth 100000 in
theorem g_X3_36 (F : k_F p m c cc nL s RX3 D cy lo) {fs : List Value} {v : Value} (hr : r ∈ R) (hw : w r = .inr (3, fs)) (hv : fs[3]? = some v) (hdg : decode cc pc = .ok (.getfield 36, 3)) (kk : XW D lo p l e Rm s m args below meth c nL cells slots Q R ad w (pc + 3) lv (v :: st)) : XW D lo p l e Rm s m args below meth c nL cells slots Q R ad w pc lv (.ref (ad r) :: st) := x_get F (T := TX3) (N := 9) hr hw rfl (k_hin3 F) 3 (by decide) (F.2.2.2.2.word 413 (by decide +kernel) rfl args) rfl hv hdg kk
set_option maxRecDepth 100000 in
theorem p_X3_36 (F : k_F p m c cc nL s RX3 D cy lo) (hin2 : meth.name = "<init>") {a0 a1 a4 a5 : Value} {v : Int32} (hr : r ∈ R) (hs : ∀ (f : Nat → Int32) (g : Nat → Int64), k_sh cy ad q ns nt r f g = Sum.inr (3, [a0, a1, .int (f 2), .int (f 3), a4, a5, .int (f 6), .int (f 7), .int (f 8)])) (hdg : decode cc pc = .ok (.putfield 36, 3)) (kk : XW D lo p l e Rm s m args below meth c nL cells slots Q R ad (k_c cy ad q ns nt (wI I r 3 v) J) (pc + 3) lv (st)) : XW D lo p l e Rm s m args below meth c nL cells slots Q R ad (k_c cy ad q ns nt I J) pc lv (.int v :: .ref (ad r) :: st) := x_putF F (T := TX3) (N := 9) (ty := .int) tyX3 tyX3_ok nmX3 hr (hs (I r) (J r)) rfl (k_hin3 F) 3 (by decide) (F.2.2.2.2.word 413 (by decide +kernel) rfl args) rfl rfl hin2 rfl (by decide +kernel) rfl rfl (Nat.le_of_ble_eq_true rfl) hdg (x_world (k_upI (upd (I r) 3 v) (hs (upd (I r) 3 v) (J r)).symm) kk)
set_option maxRecDepth 100000 in
theorem g_X4_243 (F : k_F p m c cc nL s RX4 D cy lo) {fs : List Value} {v : Value} (hr : r ∈ R) (hw : w r = .inr (3, fs)) (hv : fs[3]? = some v) (hdg : decode cc pc = .ok (.getfield 243, 3)) (kk : XW D lo p l e Rm s m args below meth c nL cells slots Q R ad w (pc + 3) lv (v :: st)) : XW D lo p l e Rm s m args below meth c nL cells slots Q R ad w pc lv (.ref (ad r) :: st) := x_getN F (T := TX3) (N := 9) hr hw rfl (k_hin3 F) 3 (by decide) (F.2.2.2.2.nestF (t := RX4) 414 (by decide +kernel) args) rfl hv hdg kk
set_option maxRecDepth 100000 in
theorem g_X3_12 (F : k_F p m c cc nL s RX3 D cy lo) {fs : List Value} {v : Value} (hr : r ∈ R) (hw : w r = .inr (3, fs)) (hv : fs[4]? = some v) (hdg : decode cc pc = .ok (.getfield 12, 3)) (kk : XW D lo p l e Rm s m args below meth c nL cells slots Q R ad w (pc + 3) lv (v :: st)) : XW D lo p l e Rm s m args below meth c nL cells slots Q R ad w pc lv (.ref (ad r) :: st) := x_get F (T := TX3) (N := 9) hr hw rfl (k_hin3 F) 4 (by decide) (F.2.2.2.2.word 415 (by decide +kernel) rfl args) rfl hv hdg kk
set_option maxRecDepth 100000 in
theorem g_X0_52 (F : k_F p m c cc nL s RX0 D cy lo) {fs : List Value} {v : Value} (hr : r ∈ R) (hw : w r = .inr (3, fs)) (hv : fs[4]? = some v) (hdg : decode cc pc = .ok (.getfield 52, 3)) (kk : XW D lo p l e Rm s m args below meth c nL cells slots Q R ad w (pc + 3) lv (v :: st)) : XW D lo p l e Rm s m args below meth c nL cells slots Q R ad w pc lv (.ref (ad r) :: st) := x_getN F (T := TX3) (N := 9) hr hw rfl (k_hin3 F) 4 (by decide) (F.2.2.2.2.nestF (t := RX4) 416 (by decide +kernel) args) rfl hv hdg kk
set_option maxRecDepth 100000 in
theorem g_X4_169 (F : k_F p m c cc nL s RX4 D cy lo) {fs : List Value} {v : Value} (hr : r ∈ R) (hw : w r = .inr (3, fs)) (hv : fs[4]? = some v) (hdg : decode cc pc = .ok (.getfield 169, 3)) (kk : XW D lo p l e Rm s m args below meth c nL cells slots Q R ad w (pc + 3) lv (v :: st)) : XW D lo p l e Rm s m args below meth c nL cells slots Q R ad w pc lv (.ref (ad r) :: st) := x_getN F (T := TX3) (N := 9) hr hw rfl (k_hin3 F) 4 (by decide) (F.2.2.2.2.nestF (t := RX4) 417 (by decide +kernel) args) rfl hv hdg kk
set_option maxRecDepth 100000 in
theorem g_X3_18 (F : k_F p m c cc nL s RX3 D cy lo) {fs : List Value} {v : Value} (hr : r ∈ R) (hw : w r = .inr (3, fs)) (hv : fs[5]? = some v) (hdg : decode cc pc = .ok (.getfield 18, 3)) (kk : XW D lo p l e Rm s m args below meth c nL cells slots Q R ad w (pc + 3) lv (v :: st)) : XW D lo p l e Rm s m args below meth c nL cells slots Q R ad w pc lv (.ref (ad r) :: st) := x_get F (T := TX3) (N := 9) hr hw rfl (k_hin3 F) 5 (by decide) (F.2.2.2.2.word 418 (by decide +kernel) rfl args) rfl hv hdg kk
set_option maxRecDepth 100000 in
theorem g_X3_22 (F : k_F p m c cc nL s RX3 D cy lo) {fs : List Value} {v : Value} (hr : r ∈ R) (hw : w r = .inr (3, fs)) (hv : fs[6]? = some v) (hdg : decode cc pc = .ok (.getfield 22, 3)) (kk : XW D lo p l e Rm s m args below meth c nL cells slots Q R ad w (pc + 3) lv (v :: st)) : XW D lo p l e Rm s m args below meth c nL cells slots Q R ad w pc lv (.ref (ad r) :: st) := x_get F (T := TX3) (N := 9) hr hw rfl (k_hin3 F) 6 (by decide) (F.2.2.2.2.word 419 (by decide +kernel) rfl args) rfl hv hdg kk
set_option maxRecDepth 100000 in
theorem p_X3_22 (F : k_F p m c cc nL s RX3 D cy lo) {a0 a1 a4 a5 : Value} {v : Int32} (hr : r ∈ R) (hs : ∀ (f : Nat → Int32) (g : Nat → Int64), k_sh cy ad q ns nt r f g = Sum.inr (3, [a0, a1, .int (f 2), .int (f 3), a4, a5, .int (f 6), .int (f 7), .int (f 8)])) (hdg : decode cc pc = .ok (.putfield 22, 3)) (kk : XW D lo p l e Rm s m args below meth c nL cells slots Q R ad (k_c cy ad q ns nt (wI I r 6 v) J) (pc + 3) lv (st)) : XW D lo p l e Rm s m args below meth c nL cells slots Q R ad (k_c cy ad q ns nt I J) pc lv (.int v :: .ref (ad r) :: st) := x_put F (T := TX3) (N := 9) (ty := .int) tyX3 tyX3_ok nmX3 hr (hs (I r) (J r)) rfl (k_hin3 F) 6 (by decide) (F.2.2.2.2.word 419 (by decide +kernel) rfl args) rfl rfl (by decide +kernel) rfl rfl (Nat.le_of_ble_eq_true rfl) hdg (x_world (k_upI (upd (I r) 6 v) (hs (upd (I r) 6 v) (J r)).symm) kk)
set_option maxRecDepth 100000 in
theorem g_X4_152 (F : k_F p m c cc nL s RX4 D cy lo) {fs : List Value} {v : Value} (hr : r ∈ R) (hw : w r = .inr (3, fs)) (hv : fs[6]? = some v) (hdg : decode cc pc = .ok (.getfield 152, 3)) (kk : XW D lo p l e Rm s m args below meth c nL cells slots Q R ad w (pc + 3) lv (v :: st)) : XW D lo p l e Rm s m args below meth c nL cells slots Q R ad w pc lv (.ref (ad r) :: st) := x_getN F (T := TX3) (N := 9) hr hw rfl (k_hin3 F) 6 (by decide) (F.2.2.2.2.nestF (t := RX4) 420 (by decide +kernel) args) rfl hv hdg kk
set_option maxRecDepth 100000 in
theorem p_X4_152 (F : k_F p m c cc nL s RX4 D cy lo) {a0 a1 a4 a5 : Value} {v : Int32} (hr : r ∈ R) (hs : ∀ (f : Nat → Int32) (g : Nat → Int64), k_sh cy ad q ns nt r f g = Sum.inr (3, [a0, a1, .int (f 2), .int (f 3), a4, a5, .int (f 6), .int (f 7), .int (f 8)])) (hdg : decode cc pc = .ok (.putfield 152, 3)) (kk : XW D lo p l e Rm s m args below meth c nL cells slots Q R ad (k_c cy ad q ns nt (wI I r 6 v) J) (pc + 3) lv (st)) : XW D lo p l e Rm s m args below meth c nL cells slots Q R ad (k_c cy ad q ns nt I J) pc lv (.int v :: .ref (ad r) :: st) := x_putN F (T := TX3) (N := 9) (ty := .int) tyX3 tyX3_ok nmX3 hr (hs (I r) (J r)) rfl (k_hin3 F) 6 (by decide) (F.2.2.2.2.nestF (t := RX4) 420 (by decide +kernel) args) rfl rfl (by decide +kernel) rfl rfl (Nat.le_of_ble_eq_true rfl) hdg (x_world (k_upI (upd (I r) 6 v) (hs (upd (I r) 6 v) (J r)).symm) kk)
set_option maxRecDepth 100000 in
theorem g_X3_39 (F : k_F p m c cc nL s RX3 D cy lo) {fs : List Value} {v : Value} (hr : r ∈ R) (hw : w r = .inr (3, fs)) (hv : fs[7]? = some v) (hdg : decode cc pc = .ok (.getfield 39, 3)) (kk : XW D lo p l e Rm s m args below meth c nL cells slots Q R ad w (pc + 3) lv (v :: st)) : XW D lo p l e Rm s m args below meth c nL cells slots Q R ad w pc lv (.ref (ad r) :: st) := x_get F (T := TX3) (N := 9) hr hw rfl (k_hin3 F) 7 (by decide) (F.2.2.2.2.word 421 (by decide +kernel) rfl args) rfl hv hdg kk
set_option maxRecDepth 100000 in
theorem p_X3_39 (F : k_F p m c cc nL s RX3 D cy lo) {a0 a1 a4 a5 : Value} {v : Int32} (hr : r ∈ R) (hs : ∀ (f : Nat → Int32) (g : Nat → Int64), k_sh cy ad q ns nt r f g = Sum.inr (3, [a0, a1, .int (f 2), .int (f 3), a4, a5, .int (f 6), .int (f 7), .int (f 8)])) (hdg : decode cc pc = .ok (.putfield 39, 3)) (kk : XW D lo p l e Rm s m args below meth c nL cells slots Q R ad (k_c cy ad q ns nt (wI I r 7 v) J) (pc + 3) lv (st)) : XW D lo p l e Rm s m args below meth c nL cells slots Q R ad (k_c cy ad q ns nt I J) pc lv (.int v :: .ref (ad r) :: st) := x_put F (T := TX3) (N := 9) (ty := .int) tyX3 tyX3_ok nmX3 hr (hs (I r) (J r)) rfl (k_hin3 F) 7 (by decide) (F.2.2.2.2.word 421 (by decide +kernel) rfl args) rfl rfl (by decide +kernel) rfl rfl (Nat.le_of_ble_eq_true rfl) hdg (x_world (k_upI (upd (I r) 7 v) (hs (upd (I r) 7 v) (J r)).symm) kk)
set_option maxRecDepth 100000 in
theorem g_X4_157 (F : k_F p m c cc nL s RX4 D cy lo) {fs : List Value} {v : Value} (hr : r ∈ R) (hw : w r = .inr (3, fs)) (hv : fs[7]? = some v) (hdg : decode cc pc = .ok (.getfield 157, 3)) (kk : XW D lo p l e Rm s m args below meth c nL cells slots Q R ad w (pc + 3) lv (v :: st)) : XW D lo p l e Rm s m args below meth c nL cells slots Q R ad w pc lv (.ref (ad r) :: st) := x_getN F (T := TX3) (N := 9) hr hw rfl (k_hin3 F) 7 (by decide) (F.2.2.2.2.nestF (t := RX4) 422 (by decide +kernel) args) rfl hv hdg kk
set_option maxRecDepth 100000 in
theorem p_X4_157 (F : k_F p m c cc nL s RX4 D cy lo) {a0 a1 a4 a5 : Value} {v : Int32} (hr : r ∈ R) (hs : ∀ (f : Nat → Int32) (g : Nat → Int64), k_sh cy ad q ns nt r f g = Sum.inr (3, [a0, a1, .int (f 2), .int (f 3), a4, a5, .int (f 6), .int (f 7), .int (f 8)])) (hdg : decode cc pc = .ok (.putfield 157, 3)) (kk : XW D lo p l e Rm s m args below meth c nL cells slots Q R ad (k_c cy ad q ns nt (wI I r 7 v) J) (pc + 3) lv (st)) : XW D lo p l e Rm s m args below meth c nL cells slots Q R ad (k_c cy ad q ns nt I J) pc lv (.int v :: .ref (ad r) :: st) := x_putN F (T := TX3) (N := 9) (ty := .int) tyX3 tyX3_ok nmX3 hr (hs (I r) (J r)) rfl (k_hin3 F) 7 (by decide) (F.2.2.2.2.nestF (t := RX4) 422 (by decide +kernel) args) rfl rfl (by decide +kernel) rfl rfl (Nat.le_of_ble_eq_true rfl) hdg (x_world (k_upI (upd (I r) 7 v) (hs (upd (I r) 7 v) (J r)).symm) kk)
set_option maxRecDepth 100000 in
theorem g_X4_166 (F : k_F p m c cc nL s RX4 D cy lo) {fs : List Value} {v : Value} (hr : r ∈ R) (hw : w r = .inr (3, fs)) (hv : fs[8]? = some v) (hdg : decode cc pc = .ok (.getfield 166, 3)) (kk : XW D lo p l e Rm s m args below meth c nL cells slots Q R ad w (pc + 3) lv (v :: st)) : XW D lo p l e Rm s m args below meth c nL cells slots Q R ad w pc lv (.ref (ad r) :: st) := x_getN F (T := TX3) (N := 9) hr hw rfl (k_hin3 F) 8 (by decide) (F.2.2.2.2.nestF (t := RX4) 423 (by decide +kernel) args) rfl hv hdg kk
set_option maxRecDepth 100000 in
theorem p_X4_166 (F : k_F p m c cc nL s RX4 D cy lo) {a0 a1 a4 a5 : Value} {v : Int32} (hr : r ∈ R) (hs : ∀ (f : Nat → Int32) (g : Nat → Int64), k_sh cy ad q ns nt r f g = Sum.inr (3, [a0, a1, .int (f 2), .int (f 3), a4, a5, .int (f 6), .int (f 7), .int (f 8)])) (hdg : decode cc pc = .ok (.putfield 166, 3)) (kk : XW D lo p l e Rm s m args below meth c nL cells slots Q R ad (k_c cy ad q ns nt (wI I r 8 v) J) (pc + 3) lv (st)) : XW D lo p l e Rm s m args below meth c nL cells slots Q R ad (k_c cy ad q ns nt I J) pc lv (.int v :: .ref (ad r) :: st) := x_putN F (T := TX3) (N := 9) (ty := .int) tyX3 tyX3_ok nmX3 hr (hs (I r) (J r)) rfl (k_hin3 F) 8 (by decide) (F.2.2.2.2.nestF (t := RX4) 423 (by decide +kernel) args) rfl rfl (by decide +kernel) rfl rfl (Nat.le_of_ble_eq_true rfl) hdg (x_world (k_upI (upd (I r) 8 v) (hs (upd (I r) 8 v) (J r)).symm) kk)
set_option maxRecDepth 100000 in
theorem g_X5_78 (F : k_F p m c cc nL s RX5 D cy lo) {fs : List Value} {v : Value} (hr : r ∈ R) (hw : w r = .inr (5, fs)) (hv : fs[0]? = some v) (hdg : decode cc pc = .ok (.getfield 78, 3)) (kk : XW D lo p l e Rm s m args below meth c nL cells slots Q R ad w (pc + 3) lv (v :: st)) : XW D lo p l e Rm s m args below meth c nL cells slots Q R ad w pc lv (.ref (ad r) :: st) := x_get F (T := TX5) (N := 27) hr hw rfl (k_hin5 F) 0 (by decide) (F.2.2.2.2.word 605 (by decide +kernel) rfl args) rfl hv hdg kk
set_option maxRecDepth 100000 in
theorem p_X5_78 (F : k_F p m c cc nL s RX5 D cy lo) {a1 a2 a3 a4 a5 a6 a7 a9 a10 a11 a12 a14 a15 a16 a17 a18 a19 a20 a21 a22 a25 a26 : Value} {v : Int32} (hr : r ∈ R) (hs : ∀ (f : Nat → Int32) (g : Nat → Int64), k_sh cy ad q ns nt r f g = Sum.inr (5, [.int (f 0), a1, a2, a3, a4, a5, a6, a7, .int (f 8), a9, a10, a11, a12, .int (f 13), a14, a15, a16, a17, a18, a19, a20, a21, a22, .int (f 23), .int (f 24), a25, a26])) (hdg : decode cc pc = .ok (.putfield 78, 3)) (kk : XW D lo p l e Rm s m args below meth c nL cells slots Q R ad (k_c cy ad q ns nt (wI I r 0 v) J) (pc + 3) lv (st)) : XW D lo p l e Rm s m args below meth c nL cells slots Q R ad (k_c cy ad q ns nt I J) pc lv (.int v :: .ref (ad r) :: st) := x_put F (T := TX5) (N := 27) (ty := .int) tyX5 tyX5_ok nmX5 hr (hs (I r) (J r)) rfl (k_hin5 F) 0 (by decide) (F.2.2.2.2.word 605 (by decide +kernel) rfl args) rfl rfl (by decide +kernel) rfl rfl (Nat.le_of_ble_eq_true rfl) hdg (x_world (k_upI (upd (I r) 0 v) (hs (upd (I r) 0 v) (J r)).symm) kk)
set_option maxRecDepth 100000 in
theorem g_X5_7 (F : k_F p m c cc nL s RX5 D cy lo) {fs : List Value} {v : Value} (hr : r ∈ R) (hw : w r = .inr (5, fs)) (hv : fs[1]? = some v) (hdg : decode cc pc = .ok (.getfield 7, 3)) (kk : XW D lo p l e Rm s m args below meth c nL cells slots Q R ad w (pc + 3) lv (v :: st)) : XW D lo p l e Rm s m args below meth c nL cells slots Q R ad w pc lv (.ref (ad r) :: st) := x_get F (T := TX5) (N := 27) hr hw rfl (k_hin5 F) 1 (by decide) (F.2.2.2.2.word 606 (by decide +kernel) rfl args) rfl hv hdg kk
set_option maxRecDepth 100000 in
theorem g_X5_13 (F : k_F p m c cc nL s RX5 D cy lo) {fs : List Value} {v : Value} (hr : r ∈ R) (hw : w r = .inr (5, fs)) (hv : fs[2]? = some v) (hdg : decode cc pc = .ok (.getfield 13, 3)) (kk : XW D lo p l e Rm s m args below meth c nL cells slots Q R ad w (pc + 3) lv (v :: st)) : XW D lo p l e Rm s m args below meth c nL cells slots Q R ad w pc lv (.ref (ad r) :: st) := x_get F (T := TX5) (N := 27) hr hw rfl (k_hin5 F) 2 (by decide) (F.2.2.2.2.word 607 (by decide +kernel) rfl args) rfl hv hdg kk
set_option maxRecDepth 100000 in
theorem g_X5_16 (F : k_F p m c cc nL s RX5 D cy lo) {fs : List Value} {v : Value} (hr : r ∈ R) (hw : w r = .inr (5, fs)) (hv : fs[3]? = some v) (hdg : decode cc pc = .ok (.getfield 16, 3)) (kk : XW D lo p l e Rm s m args below meth c nL cells slots Q R ad w (pc + 3) lv (v :: st)) : XW D lo p l e Rm s m args below meth c nL cells slots Q R ad w pc lv (.ref (ad r) :: st) := x_get F (T := TX5) (N := 27) hr hw rfl (k_hin5 F) 3 (by decide) (F.2.2.2.2.word 608 (by decide +kernel) rfl args) rfl hv hdg kk
set_option maxRecDepth 100000 in
theorem g_X5_20 (F : k_F p m c cc nL s RX5 D cy lo) {fs : List Value} {v : Value} (hr : r ∈ R) (hw : w r = .inr (5, fs)) (hv : fs[4]? = some v) (hdg : decode cc pc = .ok (.getfield 20, 3)) (kk : XW D lo p l e Rm s m args below meth c nL cells slots Q R ad w (pc + 3) lv (v :: st)) : XW D lo p l e Rm s m args below meth c nL cells slots Q R ad w pc lv (.ref (ad r) :: st) := x_get F (T := TX5) (N := 27) hr hw rfl (k_hin5 F) 4 (by decide) (F.2.2.2.2.word 609 (by decide +kernel) rfl args) rfl hv hdg kk
set_option maxRecDepth 100000 in
theorem g_X5_23 (F : k_F p m c cc nL s RX5 D cy lo) {fs : List Value} {v : Value} (hr : r ∈ R) (hw : w r = .inr (5, fs)) (hv : fs[5]? = some v) (hdg : decode cc pc = .ok (.getfield 23, 3)) (kk : XW D lo p l e Rm s m args below meth c nL cells slots Q R ad w (pc + 3) lv (v :: st)) : XW D lo p l e Rm s m args below meth c nL cells slots Q R ad w pc lv (.ref (ad r) :: st) := x_get F (T := TX5) (N := 27) hr hw rfl (k_hin5 F) 5 (by decide) (F.2.2.2.2.word 610 (by decide +kernel) rfl args) rfl hv hdg kk
set_option maxRecDepth 100000 in
theorem g_X5_26 (F : k_F p m c cc nL s RX5 D cy lo) {fs : List Value} {v : Value} (hr : r ∈ R) (hw : w r = .inr (5, fs)) (hv : fs[6]? = some v) (hdg : decode cc pc = .ok (.getfield 26, 3)) (kk : XW D lo p l e Rm s m args below meth c nL cells slots Q R ad w (pc + 3) lv (v :: st)) : XW D lo p l e Rm s m args below meth c nL cells slots Q R ad w pc lv (.ref (ad r) :: st) := x_get F (T := TX5) (N := 27) hr hw rfl (k_hin5 F) 6 (by decide) (F.2.2.2.2.word 611 (by decide +kernel) rfl args) rfl hv hdg kk
set_option maxRecDepth 100000 in
theorem g_X5_30 (F : k_F p m c cc nL s RX5 D cy lo) {fs : List Value} {v : Value} (hr : r ∈ R) (hw : w r = .inr (5, fs)) (hv : fs[7]? = some v) (hdg : decode cc pc = .ok (.getfield 30, 3)) (kk : XW D lo p l e Rm s m args below meth c nL cells slots Q R ad w (pc + 3) lv (v :: st)) : XW D lo p l e Rm s m args below meth c nL cells slots Q R ad w pc lv (.ref (ad r) :: st) := x_get F (T := TX5) (N := 27) hr hw rfl (k_hin5 F) 7 (by decide) (F.2.2.2.2.word 612 (by decide +kernel) rfl args) rfl hv hdg kk
set_option maxRecDepth 100000 in
theorem g_X5_90 (F : k_F p m c cc nL s RX5 D cy lo) {fs : List Value} {v : Value} (hr : r ∈ R) (hw : w r = .inr (5, fs)) (hv : fs[8]? = some v) (hdg : decode cc pc = .ok (.getfield 90, 3)) (kk : XW D lo p l e Rm s m args below meth c nL cells slots Q R ad w (pc + 3) lv (v :: st)) : XW D lo p l e Rm s m args below meth c nL cells slots Q R ad w pc lv (.ref (ad r) :: st) := x_get F (T := TX5) (N := 27) hr hw rfl (k_hin5 F) 8 (by decide) (F.2.2.2.2.word 613 (by decide +kernel) rfl args) rfl hv hdg kk
set_option maxRecDepth 100000 in
theorem p_X5_90 (F : k_F p m c cc nL s RX5 D cy lo) {a1 a2 a3 a4 a5 a6 a7 a9 a10 a11 a12 a14 a15 a16 a17 a18 a19 a20 a21 a22 a25 a26 : Value} {v : Int32} (hr : r ∈ R) (hs : ∀ (f : Nat → Int32) (g : Nat → Int64), k_sh cy ad q ns nt r f g = Sum.inr (5, [.int (f 0), a1, a2, a3, a4, a5, a6, a7, .int (f 8), a9, a10, a11, a12, .int (f 13), a14, a15, a16, a17, a18, a19, a20, a21, a22, .int (f 23), .int (f 24), a25, a26])) (hdg : decode cc pc = .ok (.putfield 90, 3)) (kk : XW D lo p l e Rm s m args below meth c nL cells slots Q R ad (k_c cy ad q ns nt (wI I r 8 v) J) (pc + 3) lv (st)) : XW D lo p l e Rm s m args below meth c nL cells slots Q R ad (k_c cy ad q ns nt I J) pc lv (.int v :: .ref (ad r) :: st) := x_put F (T := TX5) (N := 27) (ty := .int) tyX5 tyX5_ok nmX5 hr (hs (I r) (J r)) rfl (k_hin5 F) 8 (by decide) (F.2.2.2.2.word 613 (by decide +kernel) rfl args) rfl rfl (by decide +kernel) rfl rfl (Nat.le_of_ble_eq_true rfl) hdg (x_world (k_upI (upd (I r) 8 v) (hs (upd (I r) 8 v) (J r)).symm) kk)
set_option maxRecDepth 100000 in
theorem g_X5_33 (F : k_F p m c cc nL s RX5 D cy lo) {fs : List Value} {v : Value} (hr : r ∈ R) (hw : w r = .inr (5, fs)) (hv : fs[9]? = some v) (hdg : decode cc pc = .ok (.getfield 33, 3)) (kk : XW D lo p l e Rm s m args below meth c nL cells slots Q R ad w (pc + 3) lv (v :: st)) : XW D lo p l e Rm s m args below meth c nL cells slots Q R ad w pc lv (.ref (ad r) :: st) := x_get F (T := TX5) (N := 27) hr hw rfl (k_hin5 F) 9 (by decide) (F.2.2.2.2.word 614 (by decide +kernel) rfl args) rfl hv hdg kk
set_option maxRecDepth 100000 in
theorem g_X5_36 (F : k_F p m c cc nL s RX5 D cy lo) {fs : List Value} {v : Value} (hr : r ∈ R) (hw : w r = .inr (5, fs)) (hv : fs[10]? = some v) (hdg : decode cc pc = .ok (.getfield 36, 3)) (kk : XW D lo p l e Rm s m args below meth c nL cells slots Q R ad w (pc + 3) lv (v :: st)) : XW D lo p l e Rm s m args below meth c nL cells slots Q R ad w pc lv (.ref (ad r) :: st) := x_get F (T := TX5) (N := 27) hr hw rfl (k_hin5 F) 10 (by decide) (F.2.2.2.2.word 615 (by decide +kernel) rfl args) rfl hv hdg kk
set_option maxRecDepth 100000 in
theorem g_X5_39 (F : k_F p m c cc nL s RX5 D cy lo) {fs : List Value} {v : Value} (hr : r ∈ R) (hw : w r = .inr (5, fs)) (hv : fs[11]? = some v) (hdg : decode cc pc = .ok (.getfield 39, 3)) (kk : XW D lo p l e Rm s m args below meth c nL cells slots Q R ad w (pc + 3) lv (v :: st)) : XW D lo p l e Rm s m args below meth c nL cells slots Q R ad w pc lv (.ref (ad r) :: st) := x_get F (T := TX5) (N := 27) hr hw rfl (k_hin5 F) 11 (by decide) (F.2.2.2.2.word 616 (by decide +kernel) rfl args) rfl hv hdg kk
set_option maxRecDepth 100000 in
theorem g_X5_42 (F : k_F p m c cc nL s RX5 D cy lo) {fs : List Value} {v : Value} (hr : r ∈ R) (hw : w r = .inr (5, fs)) (hv : fs[12]? = some v) (hdg : decode cc pc = .ok (.getfield 42, 3)) (kk : XW D lo p l e Rm s m args below meth c nL cells slots Q R ad w (pc + 3) lv (v :: st)) : XW D lo p l e Rm s m args below meth c nL cells slots Q R ad w pc lv (.ref (ad r) :: st) := x_get F (T := TX5) (N := 27) hr hw rfl (k_hin5 F) 12 (by decide) (F.2.2.2.2.word 617 (by decide +kernel) rfl args) rfl hv hdg kk
set_option maxRecDepth 100000 in
theorem g_X5_93 (F : k_F p m c cc nL s RX5 D cy lo) {fs : List Value} {v : Value} (hr : r ∈ R) (hw : w r = .inr (5, fs)) (hv : fs[13]? = some v) (hdg : decode cc pc = .ok (.getfield 93, 3)) (kk : XW D lo p l e Rm s m args below meth c nL cells slots Q R ad w (pc + 3) lv (v :: st)) : XW D lo p l e Rm s m args below meth c nL cells slots Q R ad w pc lv (.ref (ad r) :: st) := x_get F (T := TX5) (N := 27) hr hw rfl (k_hin5 F) 13 (by decide) (F.2.2.2.2.word 618 (by decide +kernel) rfl args) rfl hv hdg kk
set_option maxRecDepth 100000 in
theorem p_X5_93 (F : k_F p m c cc nL s RX5 D cy lo) {a1 a2 a3 a4 a5 a6 a7 a9 a10 a11 a12 a14 a15 a16 a17 a18 a19 a20 a21 a22 a25 a26 : Value} {v : Int32} (hr : r ∈ R) (hs : ∀ (f : Nat → Int32) (g : Nat → Int64), k_sh cy ad q ns nt r f g = Sum.inr (5, [.int (f 0), a1, a2, a3, a4, a5, a6, a7, .int (f 8), a9, a10, a11, a12, .int (f 13), a14, a15, a16, a17, a18, a19, a20, a21, a22, .int (f 23), .int (f 24), a25, a26])) (hdg : decode cc pc = .ok (.putfield 93, 3)) (kk : XW D lo p l e Rm s m args below meth c nL cells slots Q R ad (k_c cy ad q ns nt (wI I r 13 v) J) (pc + 3) lv (st)) : XW D lo p l e Rm s m args below meth c nL cells slots Q R ad (k_c cy ad q ns nt I J) pc lv (.int v :: .ref (ad r) :: st) := x_put F (T := TX5) (N := 27) (ty := .int) tyX5 tyX5_ok nmX5 hr (hs (I r) (J r)) rfl (k_hin5 F) 13 (by decide) (F.2.2.2.2.word 618 (by decide +kernel) rfl args) rfl rfl (by decide +kernel) rfl rfl (Nat.le_of_ble_eq_true rfl) hdg (x_world (k_upI (upd (I r) 13 v) (hs (upd (I r) 13 v) (J r)).symm) kk)
set_option maxRecDepth 100000 in
theorem g_X5_45 (F : k_F p m c cc nL s RX5 D cy lo) {fs : List Value} {v : Value} (hr : r ∈ R) (hw : w r = .inr (5, fs)) (hv : fs[14]? = some v) (hdg : decode cc pc = .ok (.getfield 45, 3)) (kk : XW D lo p l e Rm s m args below meth c nL cells slots Q R ad w (pc + 3) lv (v :: st)) : XW D lo p l e Rm s m args below meth c nL cells slots Q R ad w pc lv (.ref (ad r) :: st) := x_get F (T := TX5) (N := 27) hr hw rfl (k_hin5 F) 14 (by decide) (F.2.2.2.2.word 619 (by decide +kernel) rfl args) rfl hv hdg kk
set_option maxRecDepth 100000 in
theorem g_X5_48 (F : k_F p m c cc nL s RX5 D cy lo) {fs : List Value} {v : Value} (hr : r ∈ R) (hw : w r = .inr (5, fs)) (hv : fs[15]? = some v) (hdg : decode cc pc = .ok (.getfield 48, 3)) (kk : XW D lo p l e Rm s m args below meth c nL cells slots Q R ad w (pc + 3) lv (v :: st)) : XW D lo p l e Rm s m args below meth c nL cells slots Q R ad w pc lv (.ref (ad r) :: st) := x_get F (T := TX5) (N := 27) hr hw rfl (k_hin5 F) 15 (by decide) (F.2.2.2.2.word 620 (by decide +kernel) rfl args) rfl hv hdg kk
set_option maxRecDepth 100000 in
theorem g_X5_51 (F : k_F p m c cc nL s RX5 D cy lo) {fs : List Value} {v : Value} (hr : r ∈ R) (hw : w r = .inr (5, fs)) (hv : fs[16]? = some v) (hdg : decode cc pc = .ok (.getfield 51, 3)) (kk : XW D lo p l e Rm s m args below meth c nL cells slots Q R ad w (pc + 3) lv (v :: st)) : XW D lo p l e Rm s m args below meth c nL cells slots Q R ad w pc lv (.ref (ad r) :: st) := x_get F (T := TX5) (N := 27) hr hw rfl (k_hin5 F) 16 (by decide) (F.2.2.2.2.word 621 (by decide +kernel) rfl args) rfl hv hdg kk
set_option maxRecDepth 100000 in
theorem g_X5_54 (F : k_F p m c cc nL s RX5 D cy lo) {fs : List Value} {v : Value} (hr : r ∈ R) (hw : w r = .inr (5, fs)) (hv : fs[17]? = some v) (hdg : decode cc pc = .ok (.getfield 54, 3)) (kk : XW D lo p l e Rm s m args below meth c nL cells slots Q R ad w (pc + 3) lv (v :: st)) : XW D lo p l e Rm s m args below meth c nL cells slots Q R ad w pc lv (.ref (ad r) :: st) := x_get F (T := TX5) (N := 27) hr hw rfl (k_hin5 F) 17 (by decide) (F.2.2.2.2.word 622 (by decide +kernel) rfl args) rfl hv hdg kk
set_option maxRecDepth 100000 in
theorem g_X5_57 (F : k_F p m c cc nL s RX5 D cy lo) {fs : List Value} {v : Value} (hr : r ∈ R) (hw : w r = .inr (5, fs)) (hv : fs[18]? = some v) (hdg : decode cc pc = .ok (.getfield 57, 3)) (kk : XW D lo p l e Rm s m args below meth c nL cells slots Q R ad w (pc + 3) lv (v :: st)) : XW D lo p l e Rm s m args below meth c nL cells slots Q R ad w pc lv (.ref (ad r) :: st) := x_get F (T := TX5) (N := 27) hr hw rfl (k_hin5 F) 18 (by decide) (F.2.2.2.2.word 623 (by decide +kernel) rfl args) rfl hv hdg kk
set_option maxRecDepth 100000 in
theorem g_X5_60 (F : k_F p m c cc nL s RX5 D cy lo) {fs : List Value} {v : Value} (hr : r ∈ R) (hw : w r = .inr (5, fs)) (hv : fs[19]? = some v) (hdg : decode cc pc = .ok (.getfield 60, 3)) (kk : XW D lo p l e Rm s m args below meth c nL cells slots Q R ad w (pc + 3) lv (v :: st)) : XW D lo p l e Rm s m args below meth c nL cells slots Q R ad w pc lv (.ref (ad r) :: st) := x_get F (T := TX5) (N := 27) hr hw rfl (k_hin5 F) 19 (by decide) (F.2.2.2.2.word 624 (by decide +kernel) rfl args) rfl hv hdg kk
set_option maxRecDepth 100000 in
theorem g_X5_63 (F : k_F p m c cc nL s RX5 D cy lo) {fs : List Value} {v : Value} (hr : r ∈ R) (hw : w r = .inr (5, fs)) (hv : fs[20]? = some v) (hdg : decode cc pc = .ok (.getfield 63, 3)) (kk : XW D lo p l e Rm s m args below meth c nL cells slots Q R ad w (pc + 3) lv (v :: st)) : XW D lo p l e Rm s m args below meth c nL cells slots Q R ad w pc lv (.ref (ad r) :: st) := x_get F (T := TX5) (N := 27) hr hw rfl (k_hin5 F) 20 (by decide) (F.2.2.2.2.word 625 (by decide +kernel) rfl args) rfl hv hdg kk
set_option maxRecDepth 100000 in
theorem g_X5_66 (F : k_F p m c cc nL s RX5 D cy lo) {fs : List Value} {v : Value} (hr : r ∈ R) (hw : w r = .inr (5, fs)) (hv : fs[21]? = some v) (hdg : decode cc pc = .ok (.getfield 66, 3)) (kk : XW D lo p l e Rm s m args below meth c nL cells slots Q R ad w (pc + 3) lv (v :: st)) : XW D lo p l e Rm s m args below meth c nL cells slots Q R ad w pc lv (.ref (ad r) :: st) := x_get F (T := TX5) (N := 27) hr hw rfl (k_hin5 F) 21 (by decide) (F.2.2.2.2.word 626 (by decide +kernel) rfl args) rfl hv hdg kk
set_option maxRecDepth 100000 in
theorem g_X5_69 (F : k_F p m c cc nL s RX5 D cy lo) {fs : List Value} {v : Value} (hr : r ∈ R) (hw : w r = .inr (5, fs)) (hv : fs[22]? = some v) (hdg : decode cc pc = .ok (.getfield 69, 3)) (kk : XW D lo p l e Rm s m args below meth c nL cells slots Q R ad w (pc + 3) lv (v :: st)) : XW D lo p l e Rm s m args below meth c nL cells slots Q R ad w pc lv (.ref (ad r) :: st) := x_get F (T := TX5) (N := 27) hr hw rfl (k_hin5 F) 22 (by decide) (F.2.2.2.2.word 627 (by decide +kernel) rfl args) rfl hv hdg kk
set_option maxRecDepth 100000 in
theorem g_X5_116 (F : k_F p m c cc nL s RX5 D cy lo) {fs : List Value} {v : Value} (hr : r ∈ R) (hw : w r = .inr (5, fs)) (hv : fs[23]? = some v) (hdg : decode cc pc = .ok (.getfield 116, 3)) (kk : XW D lo p l e Rm s m args below meth c nL cells slots Q R ad w (pc + 3) lv (v :: st)) : XW D lo p l e Rm s m args below meth c nL cells slots Q R ad w pc lv (.ref (ad r) :: st) := x_get F (T := TX5) (N := 27) hr hw rfl (k_hin5 F) 23 (by decide) (F.2.2.2.2.word 628 (by decide +kernel) rfl args) rfl hv hdg kk
set_option maxRecDepth 100000 in
theorem p_X5_116 (F : k_F p m c cc nL s RX5 D cy lo) {a1 a2 a3 a4 a5 a6 a7 a9 a10 a11 a12 a14 a15 a16 a17 a18 a19 a20 a21 a22 a25 a26 : Value} {v : Int32} (hr : r ∈ R) (hs : ∀ (f : Nat → Int32) (g : Nat → Int64), k_sh cy ad q ns nt r f g = Sum.inr (5, [.int (f 0), a1, a2, a3, a4, a5, a6, a7, .int (f 8), a9, a10, a11, a12, .int (f 13), a14, a15, a16, a17, a18, a19, a20, a21, a22, .int (f 23), .int (f 24), a25, a26])) (hdg : decode cc pc = .ok (.putfield 116, 3)) (kk : XW D lo p l e Rm s m args below meth c nL cells slots Q R ad (k_c cy ad q ns nt (wI I r 23 v) J) (pc + 3) lv (st)) : XW D lo p l e Rm s m args below meth c nL cells slots Q R ad (k_c cy ad q ns nt I J) pc lv (.int v :: .ref (ad r) :: st) := x_put F (T := TX5) (N := 27) (ty := .int) tyX5 tyX5_ok nmX5 hr (hs (I r) (J r)) rfl (k_hin5 F) 23 (by decide) (F.2.2.2.2.word 628 (by decide +kernel) rfl args) rfl rfl (by decide +kernel) rfl rfl (Nat.le_of_ble_eq_true rfl) hdg (x_world (k_upI (upd (I r) 23 v) (hs (upd (I r) 23 v) (J r)).symm) kk)
set_option maxRecDepth 100000 in
theorem g_X5_122 (F : k_F p m c cc nL s RX5 D cy lo) {fs : List Value} {v : Value} (hr : r ∈ R) (hw : w r = .inr (5, fs)) (hv : fs[24]? = some v) (hdg : decode cc pc = .ok (.getfield 122, 3)) (kk : XW D lo p l e Rm s m args below meth c nL cells slots Q R ad w (pc + 3) lv (v :: st)) : XW D lo p l e Rm s m args below meth c nL cells slots Q R ad w pc lv (.ref (ad r) :: st) := x_get F (T := TX5) (N := 27) hr hw rfl (k_hin5 F) 24 (by decide) (F.2.2.2.2.word 629 (by decide +kernel) rfl args) rfl hv hdg kk
set_option maxRecDepth 100000 in
theorem p_X5_122 (F : k_F p m c cc nL s RX5 D cy lo) {a1 a2 a3 a4 a5 a6 a7 a9 a10 a11 a12 a14 a15 a16 a17 a18 a19 a20 a21 a22 a25 a26 : Value} {v : Int32} (hr : r ∈ R) (hs : ∀ (f : Nat → Int32) (g : Nat → Int64), k_sh cy ad q ns nt r f g = Sum.inr (5, [.int (f 0), a1, a2, a3, a4, a5, a6, a7, .int (f 8), a9, a10, a11, a12, .int (f 13), a14, a15, a16, a17, a18, a19, a20, a21, a22, .int (f 23), .int (f 24), a25, a26])) (hdg : decode cc pc = .ok (.putfield 122, 3)) (kk : XW D lo p l e Rm s m args below meth c nL cells slots Q R ad (k_c cy ad q ns nt (wI I r 24 v) J) (pc + 3) lv (st)) : XW D lo p l e Rm s m args below meth c nL cells slots Q R ad (k_c cy ad q ns nt I J) pc lv (.int v :: .ref (ad r) :: st) := x_put F (T := TX5) (N := 27) (ty := .int) tyX5 tyX5_ok nmX5 hr (hs (I r) (J r)) rfl (k_hin5 F) 24 (by decide) (F.2.2.2.2.word 629 (by decide +kernel) rfl args) rfl rfl (by decide +kernel) rfl rfl (Nat.le_of_ble_eq_true rfl) hdg (x_world (k_upI (upd (I r) 24 v) (hs (upd (I r) 24 v) (J r)).symm) kk)
set_option maxRecDepth 100000 in
theorem g_X5_72 (F : k_F p m c cc nL s RX5 D cy lo) {fs : List Value} {v : Value} (hr : r ∈ R) (hw : w r = .inr (5, fs)) (hv : fs[25]? = some v) (hdg : decode cc pc = .ok (.getfield 72, 3)) (kk : XW D lo p l e Rm s m args below meth c nL cells slots Q R ad w (pc + 3) lv (v :: st)) : XW D lo p l e Rm s m args below meth c nL cells slots Q R ad w pc lv (.ref (ad r) :: st) := x_get F (T := TX5) (N := 27) hr hw rfl (k_hin5 F) 25 (by decide) (F.2.2.2.2.word 630 (by decide +kernel) rfl args) rfl hv hdg kk
set_option maxRecDepth 100000 in
theorem g_X5_75 (F : k_F p m c cc nL s RX5 D cy lo) {fs : List Value} {v : Value} (hr : r ∈ R) (hw : w r = .inr (5, fs)) (hv : fs[26]? = some v) (hdg : decode cc pc = .ok (.getfield 75, 3)) (kk : XW D lo p l e Rm s m args below meth c nL cells slots Q R ad w (pc + 3) lv (v :: st)) : XW D lo p l e Rm s m args below meth c nL cells slots Q R ad w pc lv (.ref (ad r) :: st) := x_get F (T := TX5) (N := 27) hr hw rfl (k_hin5 F) 26 (by decide) (F.2.2.2.2.word 631 (by decide +kernel) rfl args) rfl hv hdg kk
end KFIELDS
end
section
set_option maxRecDepth 100000 in
theorem mc_X0_init : k_Mc yX0_init cX0_init 1 none 0 := ⟨List.mem_of_getElem? (i := 50) (by decide +kernel), List.mem_of_getElem? (i := 25) (by decide +kernel), by decide +kernel, by decide +kernel, by decide +kernel⟩
set_option maxRecDepth 100000 in
theorem mi_X0_init : Cond.instanceMethod yX0_init ∈ lw_tbl := List.mem_of_getElem? (i := 49) (by decide +kernel)
set_option maxRecDepth 100000 in
theorem mc_X0_rateOf : k_Mc yX0_rateOf cX0_rateOf 4 (some .int) 2 := ⟨List.mem_of_getElem? (i := 229) (by decide +kernel), List.mem_of_getElem? (i := 25) (by decide +kernel), by decide +kernel, by decide +kernel, by decide +kernel⟩
set_option maxRecDepth 100000 in
theorem mv_X0_rateOf : k_Mv yX0_rateOf := ⟨List.mem_of_getElem? (i := 227) (by decide +kernel), List.mem_of_getElem? (i := 228) (by decide +kernel)⟩
set_option maxRecDepth 100000 in
theorem mc_X0_setLink : k_Mc yX0_setLink cX0_setLink 6 none 4 := ⟨List.mem_of_getElem? (i := 236) (by decide +kernel), List.mem_of_getElem? (i := 25) (by decide +kernel), by decide +kernel, by decide +kernel, by decide +kernel⟩
set_option maxRecDepth 100000 in
theorem mv_X0_setLink : k_Mv yX0_setLink := ⟨List.mem_of_getElem? (i := 234) (by decide +kernel), List.mem_of_getElem? (i := 235) (by decide +kernel)⟩
set_option maxRecDepth 100000 in
theorem mc_X0_debtOf : k_Mc yX0_debtOf cX0_debtOf 4 (some .long) 2 := ⟨List.mem_of_getElem? (i := 570) (by decide +kernel), List.mem_of_getElem? (i := 25) (by decide +kernel), by decide +kernel, by decide +kernel, by decide +kernel⟩
set_option maxRecDepth 100000 in
theorem mv_X0_debtOf : k_Mv yX0_debtOf := ⟨List.mem_of_getElem? (i := 568) (by decide +kernel), List.mem_of_getElem? (i := 569) (by decide +kernel)⟩
set_option maxRecDepth 100000 in
theorem mc_X0_addDebt : k_Mc yX0_addDebt cX0_addDebt 7 none 3 := ⟨List.mem_of_getElem? (i := 499) (by decide +kernel), List.mem_of_getElem? (i := 25) (by decide +kernel), by decide +kernel, by decide +kernel, by decide +kernel⟩
set_option maxRecDepth 100000 in
theorem mv_X0_addDebt : k_Mv yX0_addDebt := ⟨List.mem_of_getElem? (i := 497) (by decide +kernel), List.mem_of_getElem? (i := 498) (by decide +kernel)⟩
set_option maxRecDepth 100000 in
theorem mc_X0_isOpen : k_Mc yX0_isOpen cX0_isOpen 4 (some .boolean) 2 := ⟨List.mem_of_getElem? (i := 374) (by decide +kernel), List.mem_of_getElem? (i := 25) (by decide +kernel), by decide +kernel, by decide +kernel, by decide +kernel⟩
set_option maxRecDepth 100000 in
theorem mv_X0_isOpen : k_Mv yX0_isOpen := ⟨List.mem_of_getElem? (i := 372) (by decide +kernel), List.mem_of_getElem? (i := 373) (by decide +kernel)⟩
set_option maxRecDepth 100000 in
theorem mc_X0_isOpenAlong : k_Mc yX0_isOpenAlong cX0_isOpenAlong 3 (some .boolean) 1 := ⟨List.mem_of_getElem? (i := 481) (by decide +kernel), List.mem_of_getElem? (i := 25) (by decide +kernel), by decide +kernel, by decide +kernel, by decide +kernel⟩
set_option maxRecDepth 100000 in
theorem mv_X0_isOpenAlong : k_Mv yX0_isOpenAlong := ⟨List.mem_of_getElem? (i := 479) (by decide +kernel), List.mem_of_getElem? (i := 480) (by decide +kernel)⟩
set_option maxRecDepth 100000 in
theorem mc_X0_costOf : k_Mc yX0_costOf cX0_costOf 4 (some .int) 1 := ⟨List.mem_of_getElem? (i := 543) (by decide +kernel), List.mem_of_getElem? (i := 25) (by decide +kernel), by decide +kernel, by decide +kernel, by decide +kernel⟩
set_option maxRecDepth 100000 in
theorem mv_X0_costOf : k_Mv yX0_costOf := ⟨List.mem_of_getElem? (i := 541) (by decide +kernel), List.mem_of_getElem? (i := 542) (by decide +kernel)⟩
set_option maxRecDepth 100000 in
theorem mc_X0_charge : k_Mc yX0_charge cX0_charge 6 none 1 := ⟨List.mem_of_getElem? (i := 495) (by decide +kernel), List.mem_of_getElem? (i := 25) (by decide +kernel), by decide +kernel, by decide +kernel, by decide +kernel⟩
set_option maxRecDepth 100000 in
theorem mv_X0_charge : k_Mv yX0_charge := ⟨List.mem_of_getElem? (i := 493) (by decide +kernel), List.mem_of_getElem? (i := 494) (by decide +kernel)⟩
set_option maxRecDepth 100000 in
theorem mc_X0_findBest : k_Mc yX0_findBest cX0_findBest 6 (some .boolean) 3 := ⟨List.mem_of_getElem? (i := 364) (by decide +kernel), List.mem_of_getElem? (i := 25) (by decide +kernel), by decide +kernel, by decide +kernel, by decide +kernel⟩
set_option maxRecDepth 100000 in
theorem mv_X0_findBest : k_Mv yX0_findBest := ⟨List.mem_of_getElem? (i := 362) (by decide +kernel), List.mem_of_getElem? (i := 363) (by decide +kernel)⟩
set_option maxRecDepth 100000 in
theorem mc_X0_weighWaysTo : k_Mc yX0_weighWaysTo cX0_weighWaysTo 5 none 1 := ⟨List.mem_of_getElem? (i := 369) (by decide +kernel), List.mem_of_getElem? (i := 25) (by decide +kernel), by decide +kernel, by decide +kernel, by decide +kernel⟩
set_option maxRecDepth 100000 in
theorem mv_X0_weighWaysTo : k_Mv yX0_weighWaysTo := ⟨List.mem_of_getElem? (i := 368) (by decide +kernel), List.mem_of_getElem? (i := 3) (by decide +kernel)⟩
set_option maxRecDepth 100000 in
theorem mc_X0_nextOnBest : k_Mc yX0_nextOnBest cX0_nextOnBest 3 (some .int) 1 := ⟨List.mem_of_getElem? (i := 394) (by decide +kernel), List.mem_of_getElem? (i := 25) (by decide +kernel), by decide +kernel, by decide +kernel, by decide +kernel⟩
set_option maxRecDepth 100000 in
theorem mv_X0_nextOnBest : k_Mv yX0_nextOnBest := ⟨List.mem_of_getElem? (i := 393) (by decide +kernel), List.mem_of_getElem? (i := 5) (by decide +kernel)⟩
set_option maxRecDepth 100000 in
theorem mc_X0_weightOver : k_Mc yX0_weightOver cX0_weightOver 4 (some .int) 2 := ⟨List.mem_of_getElem? (i := 378) (by decide +kernel), List.mem_of_getElem? (i := 25) (by decide +kernel), by decide +kernel, by decide +kernel, by decide +kernel⟩
set_option maxRecDepth 100000 in
theorem mv_X0_weightOver : k_Mv yX0_weightOver := ⟨List.mem_of_getElem? (i := 377) (by decide +kernel), List.mem_of_getElem? (i := 4) (by decide +kernel)⟩
set_option maxRecDepth 100000 in
theorem mc_X1_init : k_Mc yX1_init cX1_init 1 none 0 := ⟨List.mem_of_getElem? (i := 78) (by decide +kernel), List.mem_of_getElem? (i := 27) (by decide +kernel), by decide +kernel, by decide +kernel, by decide +kernel⟩
set_option maxRecDepth 100000 in
theorem mi_X1_init : Cond.instanceMethod yX1_init ∈ lw_tbl := List.mem_of_getElem? (i := 77) (by decide +kernel)
set_option maxRecDepth 100000 in
theorem mc_X1_carrierAt : k_Mc yX1_carrierAt cX1_carrierAt 2 (some .int) 1 := ⟨List.mem_of_getElem? (i := 451) (by decide +kernel), List.mem_of_getElem? (i := 27) (by decide +kernel), by decide +kernel, by decide +kernel, by decide +kernel⟩
set_option maxRecDepth 100000 in
theorem mv_X1_carrierAt : k_Mv yX1_carrierAt := ⟨List.mem_of_getElem? (i := 449) (by decide +kernel), List.mem_of_getElem? (i := 450) (by decide +kernel)⟩
set_option maxRecDepth 100000 in
theorem mc_X1_clear : k_Mc yX1_clear cX1_clear 1 none 0 := ⟨List.mem_of_getElem? (i := 386) (by decide +kernel), List.mem_of_getElem? (i := 27) (by decide +kernel), by decide +kernel, by decide +kernel, by decide +kernel⟩
set_option maxRecDepth 100000 in
theorem mv_X1_clear : k_Mv yX1_clear := ⟨List.mem_of_getElem? (i := 384) (by decide +kernel), List.mem_of_getElem? (i := 385) (by decide +kernel)⟩
set_option maxRecDepth 100000 in
theorem mc_X1_add : k_Mc yX1_add cX1_add 2 none 1 := ⟨List.mem_of_getElem? (i := 390) (by decide +kernel), List.mem_of_getElem? (i := 27) (by decide +kernel), by decide +kernel, by decide +kernel, by decide +kernel⟩
set_option maxRecDepth 100000 in
theorem mv_X1_add : k_Mv yX1_add := ⟨List.mem_of_getElem? (i := 388) (by decide +kernel), List.mem_of_getElem? (i := 389) (by decide +kernel)⟩
set_option maxRecDepth 100000 in
theorem mc_X1_become : k_Mc yX1_become cX1_become 3 none 1 := ⟨List.mem_of_getElem? (i := 446) (by decide +kernel), List.mem_of_getElem? (i := 27) (by decide +kernel), by decide +kernel, by decide +kernel, by decide +kernel⟩
set_option maxRecDepth 100000 in
theorem mv_X1_become : k_Mv yX1_become := ⟨List.mem_of_getElem? (i := 444) (by decide +kernel), List.mem_of_getElem? (i := 445) (by decide +kernel)⟩
set_option maxRecDepth 100000 in
theorem mc_X2_init : k_Mc yX2_init cX2_init 4 none 3 := ⟨List.mem_of_getElem? (i := 276) (by decide +kernel), List.mem_of_getElem? (i := 35) (by decide +kernel), by decide +kernel, by decide +kernel, by decide +kernel⟩
set_option maxRecDepth 100000 in
theorem mi_X2_init : Cond.instanceMethod yX2_init ∈ lw_tbl := List.mem_of_getElem? (i := 275) (by decide +kernel)
set_option maxRecDepth 100000 in
theorem mc_X2_homeAt : k_Mc yX2_homeAt cX2_homeAt 2 (some .int) 1 := ⟨List.mem_of_getElem? (i := 309) (by decide +kernel), List.mem_of_getElem? (i := 35) (by decide +kernel), by decide +kernel, by decide +kernel, by decide +kernel⟩
set_option maxRecDepth 100000 in
theorem mv_X2_homeAt : k_Mv yX2_homeAt := ⟨List.mem_of_getElem? (i := 307) (by decide +kernel), List.mem_of_getElem? (i := 308) (by decide +kernel)⟩
set_option maxRecDepth 100000 in
theorem mc_X2_moveTo : k_Mc yX2_moveTo cX2_moveTo 2 (some .boolean) 1 := ⟨List.mem_of_getElem? (i := 314) (by decide +kernel), List.mem_of_getElem? (i := 35) (by decide +kernel), by decide +kernel, by decide +kernel, by decide +kernel⟩
set_option maxRecDepth 100000 in
theorem mv_X2_moveTo : k_Mv yX2_moveTo := ⟨List.mem_of_getElem? (i := 312) (by decide +kernel), List.mem_of_getElem? (i := 313) (by decide +kernel)⟩
set_option maxRecDepth 100000 in
theorem mc_X2_pay : k_Mc yX2_pay cX2_pay 3 (some .boolean) 2 := ⟨List.mem_of_getElem? (i := 491) (by decide +kernel), List.mem_of_getElem? (i := 35) (by decide +kernel), by decide +kernel, by decide +kernel, by decide +kernel⟩
set_option maxRecDepth 100000 in
theorem mv_X2_pay : k_Mv yX2_pay := ⟨List.mem_of_getElem? (i := 489) (by decide +kernel), List.mem_of_getElem? (i := 490) (by decide +kernel)⟩
set_option maxRecDepth 100000 in
theorem mc_X3_init : k_Mc yX3_init cX3_init 5 none 4 := ⟨List.mem_of_getElem? (i := 403) (by decide +kernel), List.mem_of_getElem? (i := 37) (by decide +kernel), by decide +kernel, by decide +kernel, by decide +kernel⟩
set_option maxRecDepth 100000 in
theorem mi_X3_init : Cond.instanceMethod yX3_init ∈ lw_tbl := List.mem_of_getElem? (i := 402) (by decide +kernel)
set_option maxRecDepth 100000 in
theorem mc_X3_isStepDue : k_Mc yX3_isStepDue cX3_isStepDue 1 (some .boolean) 0 := ⟨List.mem_of_getElem? (i := 487) (by decide +kernel), List.mem_of_getElem? (i := 37) (by decide +kernel), by decide +kernel, by decide +kernel, by decide +kernel⟩
set_option maxRecDepth 100000 in
theorem mv_X3_isStepDue : k_Mv yX3_isStepDue := ⟨List.mem_of_getElem? (i := 485) (by decide +kernel), List.mem_of_getElem? (i := 486) (by decide +kernel)⟩
set_option maxRecDepth 100000 in
theorem mc_X3_addCharge : k_Mc yX3_addCharge cX3_addCharge 3 none 2 := ⟨List.mem_of_getElem? (i := 503) (by decide +kernel), List.mem_of_getElem? (i := 37) (by decide +kernel), by decide +kernel, by decide +kernel, by decide +kernel⟩
set_option maxRecDepth 100000 in
theorem mv_X3_addCharge : k_Mv yX3_addCharge := ⟨List.mem_of_getElem? (i := 501) (by decide +kernel), List.mem_of_getElem? (i := 502) (by decide +kernel)⟩
set_option maxRecDepth 100000 in
theorem mc_X3_chargeOf : k_Mc yX3_chargeOf cX3_chargeOf 2 (some .long) 1 := ⟨List.mem_of_getElem? (i := 582) (by decide +kernel), List.mem_of_getElem? (i := 37) (by decide +kernel), by decide +kernel, by decide +kernel, by decide +kernel⟩
set_option maxRecDepth 100000 in
theorem mv_X3_chargeOf : k_Mv yX3_chargeOf := ⟨List.mem_of_getElem? (i := 580) (by decide +kernel), List.mem_of_getElem? (i := 581) (by decide +kernel)⟩
set_option maxRecDepth 100000 in
theorem mc_X4_init : k_Mc yX4_init cX4_init 1 none 0 := ⟨List.mem_of_getElem? (i := 42) (by decide +kernel), List.mem_of_getElem? (i := 24) (by decide +kernel), by decide +kernel, by decide +kernel, by decide +kernel⟩
set_option maxRecDepth 100000 in
theorem mi_X4_init : Cond.instanceMethod yX4_init ∈ lw_tbl := List.mem_of_getElem? (i := 41) (by decide +kernel)
set_option maxRecDepth 100000 in
theorem mc_X4_tariff : k_Mc yX4_tariff cX4_tariff 5 (some .int) 3 := ⟨List.mem_of_getElem? (i := 123) (by decide +kernel), List.mem_of_getElem? (i := 24) (by decide +kernel), by decide +kernel, by decide +kernel, by decide +kernel⟩
set_option maxRecDepth 100000 in
theorem mv_X4_tariff : k_Mv yX4_tariff := ⟨List.mem_of_getElem? (i := 121) (by decide +kernel), List.mem_of_getElem? (i := 122) (by decide +kernel)⟩
set_option maxRecDepth 100000 in
theorem mc_X4_link : k_Mc yX4_link cX4_link 6 (some .boolean) 4 := ⟨List.mem_of_getElem? (i := 223) (by decide +kernel), List.mem_of_getElem? (i := 24) (by decide +kernel), by decide +kernel, by decide +kernel, by decide +kernel⟩
set_option maxRecDepth 100000 in
theorem mv_X4_link : k_Mv yX4_link := ⟨List.mem_of_getElem? (i := 221) (by decide +kernel), List.mem_of_getElem? (i := 222) (by decide +kernel)⟩
set_option maxRecDepth 100000 in
theorem mc_X4_unlink : k_Mc yX4_unlink cX4_unlink 4 (some .int) 2 := ⟨List.mem_of_getElem? (i := 244) (by decide +kernel), List.mem_of_getElem? (i := 24) (by decide +kernel), by decide +kernel, by decide +kernel, by decide +kernel⟩
set_option maxRecDepth 100000 in
theorem mv_X4_unlink : k_Mv yX4_unlink := ⟨List.mem_of_getElem? (i := 242) (by decide +kernel), List.mem_of_getElem? (i := 243) (by decide +kernel)⟩
set_option maxRecDepth 100000 in
theorem mc_X4_number : k_Mc yX4_number cX4_number 5 (some .int) 3 := ⟨List.mem_of_getElem? (i := 267) (by decide +kernel), List.mem_of_getElem? (i := 24) (by decide +kernel), by decide +kernel, by decide +kernel, by decide +kernel⟩
set_option maxRecDepth 100000 in
theorem mv_X4_number : k_Mv yX4_number := ⟨List.mem_of_getElem? (i := 265) (by decide +kernel), List.mem_of_getElem? (i := 266) (by decide +kernel)⟩
set_option maxRecDepth 100000 in
theorem mc_X4_carryOver : k_Mc yX4_carryOver cX4_carryOver 4 (some .int) 2 := ⟨List.mem_of_getElem? (i := 300) (by decide +kernel), List.mem_of_getElem? (i := 24) (by decide +kernel), by decide +kernel, by decide +kernel, by decide +kernel⟩
set_option maxRecDepth 100000 in
theorem mv_X4_carryOver : k_Mv yX4_carryOver := ⟨List.mem_of_getElem? (i := 298) (by decide +kernel), List.mem_of_getElem? (i := 299) (by decide +kernel)⟩
set_option maxRecDepth 100000 in
theorem mc_X4_home : k_Mc yX4_home cX4_home 4 (some .int) 2 := ⟨List.mem_of_getElem? (i := 322) (by decide +kernel), List.mem_of_getElem? (i := 24) (by decide +kernel), by decide +kernel, by decide +kernel, by decide +kernel⟩
set_option maxRecDepth 100000 in
theorem mv_X4_home : k_Mv yX4_home := ⟨List.mem_of_getElem? (i := 320) (by decide +kernel), List.mem_of_getElem? (i := 321) (by decide +kernel)⟩
set_option maxRecDepth 100000 in
theorem mc_X4_topUp : k_Mc yX4_topUp cX4_topUp 7 (some .int) 3 := ⟨List.mem_of_getElem? (i := 330) (by decide +kernel), List.mem_of_getElem? (i := 24) (by decide +kernel), by decide +kernel, by decide +kernel, by decide +kernel⟩
set_option maxRecDepth 100000 in
theorem mv_X4_topUp : k_Mv yX4_topUp := ⟨List.mem_of_getElem? (i := 328) (by decide +kernel), List.mem_of_getElem? (i := 329) (by decide +kernel)⟩
set_option maxRecDepth 100000 in
theorem mc_X4_balance : k_Mc yX4_balance cX4_balance 2 (some .int) 1 := ⟨List.mem_of_getElem? (i := 339) (by decide +kernel), List.mem_of_getElem? (i := 24) (by decide +kernel), by decide +kernel, by decide +kernel, by decide +kernel⟩
set_option maxRecDepth 100000 in
theorem mv_X4_balance : k_Mv yX4_balance := ⟨List.mem_of_getElem? (i := 337) (by decide +kernel), List.mem_of_getElem? (i := 338) (by decide +kernel)⟩
set_option maxRecDepth 100000 in
theorem mc_X4_bundle : k_Mc yX4_bundle cX4_bundle 2 (some .int) 1 := ⟨List.mem_of_getElem? (i := 346) (by decide +kernel), List.mem_of_getElem? (i := 24) (by decide +kernel), by decide +kernel, by decide +kernel, by decide +kernel⟩
set_option maxRecDepth 100000 in
theorem mv_X4_bundle : k_Mv yX4_bundle := ⟨List.mem_of_getElem? (i := 344) (by decide +kernel), List.mem_of_getElem? (i := 345) (by decide +kernel)⟩
set_option maxRecDepth 100000 in
theorem mc_X4_call : k_Mc yX4_call cX4_call 6 (some .int) 2 := ⟨List.mem_of_getElem? (i := 353) (by decide +kernel), List.mem_of_getElem? (i := 24) (by decide +kernel), by decide +kernel, by decide +kernel, by decide +kernel⟩
set_option maxRecDepth 100000 in
theorem mv_X4_call : k_Mv yX4_call := ⟨List.mem_of_getElem? (i := 351) (by decide +kernel), List.mem_of_getElem? (i := 352) (by decide +kernel)⟩
set_option maxRecDepth 100000 in
theorem mc_X4_hangUp : k_Mc yX4_hangUp cX4_hangUp 3 (some .int) 1 := ⟨List.mem_of_getElem? (i := 459) (by decide +kernel), List.mem_of_getElem? (i := 24) (by decide +kernel), by decide +kernel, by decide +kernel, by decide +kernel⟩
set_option maxRecDepth 100000 in
theorem mv_X4_hangUp : k_Mv yX4_hangUp := ⟨List.mem_of_getElem? (i := 457) (by decide +kernel), List.mem_of_getElem? (i := 458) (by decide +kernel)⟩
set_option maxRecDepth 100000 in
theorem mc_X4_pass : k_Mc yX4_pass cX4_pass 8 (some .int) 1 := ⟨List.mem_of_getElem? (i := 472) (by decide +kernel), List.mem_of_getElem? (i := 24) (by decide +kernel), by decide +kernel, by decide +kernel, by decide +kernel⟩
set_option maxRecDepth 100000 in
theorem mv_X4_pass : k_Mv yX4_pass := ⟨List.mem_of_getElem? (i := 470) (by decide +kernel), List.mem_of_getElem? (i := 471) (by decide +kernel)⟩
set_option maxRecDepth 100000 in
theorem mc_X4_state : k_Mc yX4_state cX4_state 2 (some .int) 1 := ⟨List.mem_of_getElem? (i := 510) (by decide +kernel), List.mem_of_getElem? (i := 24) (by decide +kernel), by decide +kernel, by decide +kernel, by decide +kernel⟩
set_option maxRecDepth 100000 in
theorem mv_X4_state : k_Mv yX4_state := ⟨List.mem_of_getElem? (i := 508) (by decide +kernel), List.mem_of_getElem? (i := 509) (by decide +kernel)⟩
set_option maxRecDepth 100000 in
theorem mc_X4_minutes : k_Mc yX4_minutes cX4_minutes 2 (some .int) 1 := ⟨List.mem_of_getElem? (i := 517) (by decide +kernel), List.mem_of_getElem? (i := 24) (by decide +kernel), by decide +kernel, by decide +kernel, by decide +kernel⟩
set_option maxRecDepth 100000 in
theorem mv_X4_minutes : k_Mv yX4_minutes := ⟨List.mem_of_getElem? (i := 515) (by decide +kernel), List.mem_of_getElem? (i := 516) (by decide +kernel)⟩
set_option maxRecDepth 100000 in
theorem mc_X4_moved : k_Mc yX4_moved cX4_moved 2 (some .int) 1 := ⟨List.mem_of_getElem? (i := 524) (by decide +kernel), List.mem_of_getElem? (i := 24) (by decide +kernel), by decide +kernel, by decide +kernel, by decide +kernel⟩
set_option maxRecDepth 100000 in
theorem mv_X4_moved : k_Mv yX4_moved := ⟨List.mem_of_getElem? (i := 522) (by decide +kernel), List.mem_of_getElem? (i := 523) (by decide +kernel)⟩
set_option maxRecDepth 100000 in
theorem mc_X4_way : k_Mc yX4_way cX4_way 4 (some .int) 2 := ⟨List.mem_of_getElem? (i := 531) (by decide +kernel), List.mem_of_getElem? (i := 24) (by decide +kernel), by decide +kernel, by decide +kernel, by decide +kernel⟩
set_option maxRecDepth 100000 in
theorem mv_X4_way : k_Mv yX4_way := ⟨List.mem_of_getElem? (i := 529) (by decide +kernel), List.mem_of_getElem? (i := 530) (by decide +kernel)⟩
set_option maxRecDepth 100000 in
theorem mc_X4_cost : k_Mc yX4_cost cX4_cost 3 (some .int) 2 := ⟨List.mem_of_getElem? (i := 539) (by decide +kernel), List.mem_of_getElem? (i := 24) (by decide +kernel), by decide +kernel, by decide +kernel, by decide +kernel⟩
set_option maxRecDepth 100000 in
theorem mv_X4_cost : k_Mv yX4_cost := ⟨List.mem_of_getElem? (i := 537) (by decide +kernel), List.mem_of_getElem? (i := 538) (by decide +kernel)⟩
set_option maxRecDepth 100000 in
theorem mc_X4_best : k_Mc yX4_best cX4_best 5 (some .int) 3 := ⟨List.mem_of_getElem? (i := 550) (by decide +kernel), List.mem_of_getElem? (i := 24) (by decide +kernel), by decide +kernel, by decide +kernel, by decide +kernel⟩
set_option maxRecDepth 100000 in
theorem mv_X4_best : k_Mv yX4_best := ⟨List.mem_of_getElem? (i := 548) (by decide +kernel), List.mem_of_getElem? (i := 549) (by decide +kernel)⟩
set_option maxRecDepth 100000 in
theorem mc_X4_isBarred : k_Mc yX4_isBarred cX4_isBarred 3 (some .boolean) 2 := ⟨List.mem_of_getElem? (i := 558) (by decide +kernel), List.mem_of_getElem? (i := 24) (by decide +kernel), by decide +kernel, by decide +kernel, by decide +kernel⟩
set_option maxRecDepth 100000 in
theorem mv_X4_isBarred : k_Mv yX4_isBarred := ⟨List.mem_of_getElem? (i := 556) (by decide +kernel), List.mem_of_getElem? (i := 557) (by decide +kernel)⟩
set_option maxRecDepth 100000 in
theorem mc_X4_debt : k_Mc yX4_debt cX4_debt 3 (some .long) 2 := ⟨List.mem_of_getElem? (i := 566) (by decide +kernel), List.mem_of_getElem? (i := 24) (by decide +kernel), by decide +kernel, by decide +kernel, by decide +kernel⟩
set_option maxRecDepth 100000 in
theorem mv_X4_debt : k_Mv yX4_debt := ⟨List.mem_of_getElem? (i := 564) (by decide +kernel), List.mem_of_getElem? (i := 565) (by decide +kernel)⟩
set_option maxRecDepth 100000 in
theorem mc_X4_charged : k_Mc yX4_charged cX4_charged 10 (some .long) 2 := ⟨List.mem_of_getElem? (i := 577) (by decide +kernel), List.mem_of_getElem? (i := 24) (by decide +kernel), by decide +kernel, by decide +kernel, by decide +kernel⟩
set_option maxRecDepth 100000 in
theorem mv_X4_charged : k_Mv yX4_charged := ⟨List.mem_of_getElem? (i := 575) (by decide +kernel), List.mem_of_getElem? (i := 576) (by decide +kernel)⟩
set_option maxRecDepth 100000 in
theorem mc_X4_position : k_Mc yX4_position cX4_position 5 (some .long) 1 := ⟨List.mem_of_getElem? (i := 589) (by decide +kernel), List.mem_of_getElem? (i := 24) (by decide +kernel), by decide +kernel, by decide +kernel, by decide +kernel⟩
set_option maxRecDepth 100000 in
theorem mv_X4_position : k_Mv yX4_position := ⟨List.mem_of_getElem? (i := 587) (by decide +kernel), List.mem_of_getElem? (i := 588) (by decide +kernel)⟩
set_option maxRecDepth 100000 in
theorem mc_X4_settle : k_Mc yX4_settle cX4_settle 5 (some .long) 2 := ⟨List.mem_of_getElem? (i := 596) (by decide +kernel), List.mem_of_getElem? (i := 24) (by decide +kernel), by decide +kernel, by decide +kernel, by decide +kernel⟩
set_option maxRecDepth 100000 in
theorem mv_X4_settle : k_Mv yX4_settle := ⟨List.mem_of_getElem? (i := 594) (by decide +kernel), List.mem_of_getElem? (i := 595) (by decide +kernel)⟩
set_option maxRecDepth 100000 in
theorem mc_X4_isWithin : k_Mc yX4_isWithin cX4_isWithin 3 (some .boolean) 3 := ⟨List.mem_of_getElem? (i := 200) (by decide +kernel), List.mem_of_getElem? (i := 24) (by decide +kernel), by decide +kernel, by decide +kernel, by decide +kernel⟩
set_option maxRecDepth 100000 in
theorem ms_X4_isWithin : k_Ms yX4_isWithin := List.mem_of_getElem? (i := 199) (by decide +kernel)
set_option maxRecDepth 100000 in
theorem mc_X4_isCarrier : k_Mc yX4_isCarrier cX4_isCarrier 1 (some .boolean) 1 := ⟨List.mem_of_getElem? (i := 129) (by decide +kernel), List.mem_of_getElem? (i := 24) (by decide +kernel), by decide +kernel, by decide +kernel, by decide +kernel⟩
set_option maxRecDepth 100000 in
theorem ms_X4_isCarrier : k_Ms yX4_isCarrier := List.mem_of_getElem? (i := 128) (by decide +kernel)
set_option maxRecDepth 100000 in
theorem mc_X4_pairOf : k_Mc yX4_pairOf cX4_pairOf 3 (some .int) 2 := ⟨List.mem_of_getElem? (i := 232) (by decide +kernel), List.mem_of_getElem? (i := 24) (by decide +kernel), by decide +kernel, by decide +kernel, by decide +kernel⟩
set_option maxRecDepth 100000 in
theorem ms_X4_pairOf : k_Ms yX4_pairOf := List.mem_of_getElem? (i := 231) (by decide +kernel)
set_option maxRecDepth 100000 in
theorem mc_X4_demandCarrier : k_Mc yX4_demandCarrier cX4_demandCarrier 1 none 1 := ⟨List.mem_of_getElem? (i := 126) (by decide +kernel), List.mem_of_getElem? (i := 24) (by decide +kernel), by decide +kernel, by decide +kernel, by decide +kernel⟩
set_option maxRecDepth 100000 in
theorem ms_X4_demandCarrier : k_Ms yX4_demandCarrier := List.mem_of_getElem? (i := 125) (by decide +kernel)
set_option maxRecDepth 100000 in
theorem mc_X4_demandCredit : k_Mc yX4_demandCredit cX4_demandCredit 2 none 2 := ⟨List.mem_of_getElem? (i := 270) (by decide +kernel), List.mem_of_getElem? (i := 24) (by decide +kernel), by decide +kernel, by decide +kernel, by decide +kernel⟩
set_option maxRecDepth 100000 in
theorem ms_X4_demandCredit : k_Ms yX4_demandCredit := List.mem_of_getElem? (i := 269) (by decide +kernel)
set_option maxRecDepth 100000 in
theorem mc_X4_subscriberOf : k_Mc yX4_subscriberOf cX4_subscriberOf 3 (some (.object "RoamLedger$Subscriber")) 1 := ⟨List.mem_of_getElem? (i := 304) (by decide +kernel), List.mem_of_getElem? (i := 24) (by decide +kernel), by decide +kernel, by decide +kernel, by decide +kernel⟩
set_option maxRecDepth 100000 in
theorem mv_X4_subscriberOf : k_Mv yX4_subscriberOf := ⟨List.mem_of_getElem? (i := 303) (by decide +kernel), List.mem_of_getElem? (i := 1) (by decide +kernel)⟩
set_option maxRecDepth 100000 in
theorem mc_X4_talkOf : k_Mc yX4_talkOf cX4_talkOf 3 (some (.object "RoamLedger$Talk")) 1 := ⟨List.mem_of_getElem? (i := 463) (by decide +kernel), List.mem_of_getElem? (i := 24) (by decide +kernel), by decide +kernel, by decide +kernel, by decide +kernel⟩
set_option maxRecDepth 100000 in
theorem mv_X4_talkOf : k_Mv yX4_talkOf := ⟨List.mem_of_getElem? (i := 462) (by decide +kernel), List.mem_of_getElem? (i := 7) (by decide +kernel)⟩
set_option maxRecDepth 100000 in
theorem mc_X4_isTalking : k_Mc yX4_isTalking cX4_isTalking 6 (some .boolean) 1 := ⟨List.mem_of_getElem? (i := 358) (by decide +kernel), List.mem_of_getElem? (i := 24) (by decide +kernel), by decide +kernel, by decide +kernel, by decide +kernel⟩
set_option maxRecDepth 100000 in
theorem mv_X4_isTalking : k_Mv yX4_isTalking := ⟨List.mem_of_getElem? (i := 357) (by decide +kernel), List.mem_of_getElem? (i := 2) (by decide +kernel)⟩
set_option maxRecDepth 100000 in
theorem mc_X4_newTalk : k_Mc yX4_newTalk cX4_newTalk 8 (some (.object "RoamLedger$Talk")) 3 := ⟨List.mem_of_getElem? (i := 399) (by decide +kernel), List.mem_of_getElem? (i := 24) (by decide +kernel), by decide +kernel, by decide +kernel, by decide +kernel⟩
set_option maxRecDepth 100000 in
theorem mv_X4_newTalk : k_Mv yX4_newTalk := ⟨List.mem_of_getElem? (i := 398) (by decide +kernel), List.mem_of_getElem? (i := 6) (by decide +kernel)⟩
set_option maxRecDepth 100000 in
theorem mc_X4_runOneMinute : k_Mc yX4_runOneMinute cX4_runOneMinute 3 (some .boolean) 1 := ⟨List.mem_of_getElem? (i := 477) (by decide +kernel), List.mem_of_getElem? (i := 24) (by decide +kernel), by decide +kernel, by decide +kernel, by decide +kernel⟩
set_option maxRecDepth 100000 in
theorem mv_X4_runOneMinute : k_Mv yX4_runOneMinute := ⟨List.mem_of_getElem? (i := 476) (by decide +kernel), List.mem_of_getElem? (i := 8) (by decide +kernel)⟩
set_option maxRecDepth 100000 in
theorem mc_X5_init : k_Mc yX5_init cX5_init 2 none 0 := ⟨List.mem_of_getElem? (i := 603) (by decide +kernel), List.mem_of_getElem? (i := 28) (by decide +kernel), by decide +kernel, by decide +kernel, by decide +kernel⟩
set_option maxRecDepth 100000 in
theorem mi_X5_init : Cond.instanceMethod yX5_init ∈ lw_tbl := List.mem_of_getElem? (i := 602) (by decide +kernel)
set_option maxRecDepth 100000 in
theorem mc_X5_thrown : k_Mc yX5_thrown cX5_thrown 1 (some .int) 0 := ⟨List.mem_of_getElem? (i := 691) (by decide +kernel), List.mem_of_getElem? (i := 28) (by decide +kernel), by decide +kernel, by decide +kernel, by decide +kernel⟩
set_option maxRecDepth 100000 in
theorem mv_X5_thrown : k_Mv yX5_thrown := ⟨List.mem_of_getElem? (i := 689) (by decide +kernel), List.mem_of_getElem? (i := 690) (by decide +kernel)⟩
set_option maxRecDepth 100000 in
theorem mc_X5_isIn : k_Mc yX5_isIn cX5_isIn 3 (some .boolean) 3 := ⟨List.mem_of_getElem? (i := 701) (by decide +kernel), List.mem_of_getElem? (i := 28) (by decide +kernel), by decide +kernel, by decide +kernel, by decide +kernel⟩
set_option maxRecDepth 100000 in
theorem ms_X5_isIn : k_Ms yX5_isIn := List.mem_of_getElem? (i := 700) (by decide +kernel)
set_option maxRecDepth 100000 in
theorem mc_X5_isCarrier : k_Mc yX5_isCarrier cX5_isCarrier 1 (some .boolean) 1 := ⟨List.mem_of_getElem? (i := 698) (by decide +kernel), List.mem_of_getElem? (i := 28) (by decide +kernel), by decide +kernel, by decide +kernel, by decide +kernel⟩
set_option maxRecDepth 100000 in
theorem ms_X5_isCarrier : k_Ms yX5_isCarrier := List.mem_of_getElem? (i := 697) (by decide +kernel)
set_option maxRecDepth 100000 in
theorem mc_X5_areCarriers : k_Mc yX5_areCarriers cX5_areCarriers 2 (some .boolean) 2 := ⟨List.mem_of_getElem? (i := 709) (by decide +kernel), List.mem_of_getElem? (i := 28) (by decide +kernel), by decide +kernel, by decide +kernel, by decide +kernel⟩
set_option maxRecDepth 100000 in
theorem ms_X5_areCarriers : k_Ms yX5_areCarriers := List.mem_of_getElem? (i := 708) (by decide +kernel)
set_option maxRecDepth 100000 in
theorem mc_X5_isNumber : k_Mc yX5_isNumber cX5_isNumber 2 (some .boolean) 1 := ⟨List.mem_of_getElem? (i := 725) (by decide +kernel), List.mem_of_getElem? (i := 28) (by decide +kernel), by decide +kernel, by decide +kernel, by decide +kernel⟩
set_option maxRecDepth 100000 in
theorem mv_X5_isNumber : k_Mv yX5_isNumber := ⟨List.mem_of_getElem? (i := 724) (by decide +kernel), List.mem_of_getElem? (i := 9) (by decide +kernel)⟩
set_option maxRecDepth 100000 in
theorem mc_X5_isCall : k_Mc yX5_isCall cX5_isCall 2 (some .boolean) 1 := ⟨List.mem_of_getElem? (i := 786) (by decide +kernel), List.mem_of_getElem? (i := 28) (by decide +kernel), by decide +kernel, by decide +kernel, by decide +kernel⟩
set_option maxRecDepth 100000 in
theorem mv_X5_isCall : k_Mv yX5_isCall := ⟨List.mem_of_getElem? (i := 785) (by decide +kernel), List.mem_of_getElem? (i := 18) (by decide +kernel)⟩
set_option maxRecDepth 100000 in
theorem mc_X5_homeOf : k_Mc yX5_homeOf cX5_homeOf 2 (some .int) 1 := ⟨List.mem_of_getElem? (i := 729) (by decide +kernel), List.mem_of_getElem? (i := 28) (by decide +kernel), by decide +kernel, by decide +kernel, by decide +kernel⟩
set_option maxRecDepth 100000 in
theorem mv_X5_homeOf : k_Mv yX5_homeOf := ⟨List.mem_of_getElem? (i := 728) (by decide +kernel), List.mem_of_getElem? (i := 10) (by decide +kernel)⟩
set_option maxRecDepth 100000 in
theorem mc_X5_tariff : k_Mc yX5_tariff cX5_tariff 5 (some .int) 3 := ⟨List.mem_of_getElem? (i := 695) (by decide +kernel), List.mem_of_getElem? (i := 28) (by decide +kernel), by decide +kernel, by decide +kernel, by decide +kernel⟩
set_option maxRecDepth 100000 in
theorem mv_X5_tariff : k_Mv yX5_tariff := ⟨List.mem_of_getElem? (i := 693) (by decide +kernel), List.mem_of_getElem? (i := 694) (by decide +kernel)⟩
set_option maxRecDepth 100000 in
theorem mc_X5_link : k_Mc yX5_link cX5_link 8 (some .boolean) 4 := ⟨List.mem_of_getElem? (i := 705) (by decide +kernel), List.mem_of_getElem? (i := 28) (by decide +kernel), by decide +kernel, by decide +kernel, by decide +kernel⟩
set_option maxRecDepth 100000 in
theorem mv_X5_link : k_Mv yX5_link := ⟨List.mem_of_getElem? (i := 703) (by decide +kernel), List.mem_of_getElem? (i := 704) (by decide +kernel)⟩
set_option maxRecDepth 100000 in
theorem mc_X5_unlink : k_Mc yX5_unlink cX5_unlink 4 (some .int) 2 := ⟨List.mem_of_getElem? (i := 713) (by decide +kernel), List.mem_of_getElem? (i := 28) (by decide +kernel), by decide +kernel, by decide +kernel, by decide +kernel⟩
set_option maxRecDepth 100000 in
theorem mv_X5_unlink : k_Mv yX5_unlink := ⟨List.mem_of_getElem? (i := 711) (by decide +kernel), List.mem_of_getElem? (i := 712) (by decide +kernel)⟩
set_option maxRecDepth 100000 in
theorem mc_X5_number : k_Mc yX5_number cX5_number 5 (some .int) 3 := ⟨List.mem_of_getElem? (i := 717) (by decide +kernel), List.mem_of_getElem? (i := 28) (by decide +kernel), by decide +kernel, by decide +kernel, by decide +kernel⟩
set_option maxRecDepth 100000 in
theorem mv_X5_number : k_Mv yX5_number := ⟨List.mem_of_getElem? (i := 715) (by decide +kernel), List.mem_of_getElem? (i := 716) (by decide +kernel)⟩
set_option maxRecDepth 100000 in
theorem mc_X5_carryOver : k_Mc yX5_carryOver cX5_carryOver 3 (some .int) 2 := ⟨List.mem_of_getElem? (i := 721) (by decide +kernel), List.mem_of_getElem? (i := 28) (by decide +kernel), by decide +kernel, by decide +kernel, by decide +kernel⟩
set_option maxRecDepth 100000 in
theorem mv_X5_carryOver : k_Mv yX5_carryOver := ⟨List.mem_of_getElem? (i := 719) (by decide +kernel), List.mem_of_getElem? (i := 720) (by decide +kernel)⟩
set_option maxRecDepth 100000 in
theorem mc_X5_home : k_Mc yX5_home cX5_home 4 (some .int) 2 := ⟨List.mem_of_getElem? (i := 733) (by decide +kernel), List.mem_of_getElem? (i := 28) (by decide +kernel), by decide +kernel, by decide +kernel, by decide +kernel⟩
set_option maxRecDepth 100000 in
theorem mv_X5_home : k_Mv yX5_home := ⟨List.mem_of_getElem? (i := 731) (by decide +kernel), List.mem_of_getElem? (i := 732) (by decide +kernel)⟩
set_option maxRecDepth 100000 in
theorem mc_X5_topUp : k_Mc yX5_topUp cX5_topUp 4 (some .int) 3 := ⟨List.mem_of_getElem? (i := 737) (by decide +kernel), List.mem_of_getElem? (i := 28) (by decide +kernel), by decide +kernel, by decide +kernel, by decide +kernel⟩
set_option maxRecDepth 100000 in
theorem mv_X5_topUp : k_Mv yX5_topUp := ⟨List.mem_of_getElem? (i := 735) (by decide +kernel), List.mem_of_getElem? (i := 736) (by decide +kernel)⟩
set_option maxRecDepth 100000 in
theorem mc_X5_balance : k_Mc yX5_balance cX5_balance 2 (some .int) 1 := ⟨List.mem_of_getElem? (i := 742) (by decide +kernel), List.mem_of_getElem? (i := 28) (by decide +kernel), by decide +kernel, by decide +kernel, by decide +kernel⟩
set_option maxRecDepth 100000 in
theorem mv_X5_balance : k_Mv yX5_balance := ⟨List.mem_of_getElem? (i := 740) (by decide +kernel), List.mem_of_getElem? (i := 741) (by decide +kernel)⟩
set_option maxRecDepth 100000 in
theorem mc_X5_bundle : k_Mc yX5_bundle cX5_bundle 2 (some .int) 1 := ⟨List.mem_of_getElem? (i := 746) (by decide +kernel), List.mem_of_getElem? (i := 28) (by decide +kernel), by decide +kernel, by decide +kernel, by decide +kernel⟩
set_option maxRecDepth 100000 in
theorem mv_X5_bundle : k_Mv yX5_bundle := ⟨List.mem_of_getElem? (i := 744) (by decide +kernel), List.mem_of_getElem? (i := 745) (by decide +kernel)⟩
set_option maxRecDepth 100000 in
theorem mc_X5_debtOf : k_Mc yX5_debtOf cX5_debtOf 5 (some .long) 2 := ⟨List.mem_of_getElem? (i := 774) (by decide +kernel), List.mem_of_getElem? (i := 28) (by decide +kernel), by decide +kernel, by decide +kernel, by decide +kernel⟩
set_option maxRecDepth 100000 in
theorem mv_X5_debtOf : k_Mv yX5_debtOf := ⟨List.mem_of_getElem? (i := 773) (by decide +kernel), List.mem_of_getElem? (i := 16) (by decide +kernel)⟩
set_option maxRecDepth 100000 in
theorem mc_X5_isShut : k_Mc yX5_isShut cX5_isShut 4 (some .boolean) 2 := ⟨List.mem_of_getElem? (i := 770) (by decide +kernel), List.mem_of_getElem? (i := 28) (by decide +kernel), by decide +kernel, by decide +kernel, by decide +kernel⟩
set_option maxRecDepth 100000 in
theorem mv_X5_isShut : k_Mv yX5_isShut := ⟨List.mem_of_getElem? (i := 769) (by decide +kernel), List.mem_of_getElem? (i := 15) (by decide +kernel)⟩
set_option maxRecDepth 100000 in
theorem mc_X5_canGo : k_Mc yX5_canGo cX5_canGo 5 (some .boolean) 1 := ⟨List.mem_of_getElem? (i := 766) (by decide +kernel), List.mem_of_getElem? (i := 28) (by decide +kernel), by decide +kernel, by decide +kernel, by decide +kernel⟩
set_option maxRecDepth 100000 in
theorem mv_X5_canGo : k_Mv yX5_canGo := ⟨List.mem_of_getElem? (i := 765) (by decide +kernel), List.mem_of_getElem? (i := 14) (by decide +kernel)⟩
set_option maxRecDepth 100000 in
theorem mc_X5_costOf : k_Mc yX5_costOf cX5_costOf 4 (some .int) 1 := ⟨List.mem_of_getElem? (i := 762) (by decide +kernel), List.mem_of_getElem? (i := 28) (by decide +kernel), by decide +kernel, by decide +kernel, by decide +kernel⟩
set_option maxRecDepth 100000 in
theorem mv_X5_costOf : k_Mv yX5_costOf := ⟨List.mem_of_getElem? (i := 761) (by decide +kernel), List.mem_of_getElem? (i := 13) (by decide +kernel)⟩
set_option maxRecDepth 100000 in
theorem mc_X5_finds : k_Mc yX5_finds cX5_finds 7 (some .boolean) 2 := ⟨List.mem_of_getElem? (i := 758) (by decide +kernel), List.mem_of_getElem? (i := 28) (by decide +kernel), by decide +kernel, by decide +kernel, by decide +kernel⟩
set_option maxRecDepth 100000 in
theorem mv_X5_finds : k_Mv yX5_finds := ⟨List.mem_of_getElem? (i := 757) (by decide +kernel), List.mem_of_getElem? (i := 12) (by decide +kernel)⟩
set_option maxRecDepth 100000 in
theorem mc_X5_isBusy : k_Mc yX5_isBusy cX5_isBusy 4 (some .boolean) 1 := ⟨List.mem_of_getElem? (i := 754) (by decide +kernel), List.mem_of_getElem? (i := 28) (by decide +kernel), by decide +kernel, by decide +kernel, by decide +kernel⟩
set_option maxRecDepth 100000 in
theorem mv_X5_isBusy : k_Mv yX5_isBusy := ⟨List.mem_of_getElem? (i := 753) (by decide +kernel), List.mem_of_getElem? (i := 11) (by decide +kernel)⟩
set_option maxRecDepth 100000 in
theorem mc_X5_takesBest : k_Mc yX5_takesBest cX5_takesBest 3 none 1 := ⟨List.mem_of_getElem? (i := 778) (by decide +kernel), List.mem_of_getElem? (i := 28) (by decide +kernel), by decide +kernel, by decide +kernel, by decide +kernel⟩
set_option maxRecDepth 100000 in
theorem mv_X5_takesBest : k_Mv yX5_takesBest := ⟨List.mem_of_getElem? (i := 777) (by decide +kernel), List.mem_of_getElem? (i := 17) (by decide +kernel)⟩
set_option maxRecDepth 100000 in
theorem mc_X5_call : k_Mc yX5_call cX5_call 4 (some .int) 2 := ⟨List.mem_of_getElem? (i := 750) (by decide +kernel), List.mem_of_getElem? (i := 28) (by decide +kernel), by decide +kernel, by decide +kernel, by decide +kernel⟩
set_option maxRecDepth 100000 in
theorem mv_X5_call : k_Mv yX5_call := ⟨List.mem_of_getElem? (i := 748) (by decide +kernel), List.mem_of_getElem? (i := 749) (by decide +kernel)⟩
set_option maxRecDepth 100000 in
theorem mc_X5_hangUp : k_Mc yX5_hangUp cX5_hangUp 2 (some .int) 1 := ⟨List.mem_of_getElem? (i := 782) (by decide +kernel), List.mem_of_getElem? (i := 28) (by decide +kernel), by decide +kernel, by decide +kernel, by decide +kernel⟩
set_option maxRecDepth 100000 in
theorem mv_X5_hangUp : k_Mv yX5_hangUp := ⟨List.mem_of_getElem? (i := 780) (by decide +kernel), List.mem_of_getElem? (i := 781) (by decide +kernel)⟩
set_option maxRecDepth 100000 in
theorem mc_X5_isStopped : k_Mc yX5_isStopped cX5_isStopped 4 (some .boolean) 1 := ⟨List.mem_of_getElem? (i := 798) (by decide +kernel), List.mem_of_getElem? (i := 28) (by decide +kernel), by decide +kernel, by decide +kernel, by decide +kernel⟩
set_option maxRecDepth 100000 in
theorem mv_X5_isStopped : k_Mv yX5_isStopped := ⟨List.mem_of_getElem? (i := 797) (by decide +kernel), List.mem_of_getElem? (i := 20) (by decide +kernel)⟩
set_option maxRecDepth 100000 in
theorem mc_X5_isPaid : k_Mc yX5_isPaid cX5_isPaid 4 (some .boolean) 1 := ⟨List.mem_of_getElem? (i := 802) (by decide +kernel), List.mem_of_getElem? (i := 28) (by decide +kernel), by decide +kernel, by decide +kernel, by decide +kernel⟩
set_option maxRecDepth 100000 in
theorem mv_X5_isPaid : k_Mv yX5_isPaid := ⟨List.mem_of_getElem? (i := 801) (by decide +kernel), List.mem_of_getElem? (i := 21) (by decide +kernel)⟩
set_option maxRecDepth 100000 in
theorem mc_X5_minute : k_Mc yX5_minute cX5_minute 5 none 1 := ⟨List.mem_of_getElem? (i := 794) (by decide +kernel), List.mem_of_getElem? (i := 28) (by decide +kernel), by decide +kernel, by decide +kernel, by decide +kernel⟩
set_option maxRecDepth 100000 in
theorem mv_X5_minute : k_Mv yX5_minute := ⟨List.mem_of_getElem? (i := 793) (by decide +kernel), List.mem_of_getElem? (i := 19) (by decide +kernel)⟩
set_option maxRecDepth 100000 in
theorem mc_X5_pass : k_Mc yX5_pass cX5_pass 5 (some .int) 1 := ⟨List.mem_of_getElem? (i := 790) (by decide +kernel), List.mem_of_getElem? (i := 28) (by decide +kernel), by decide +kernel, by decide +kernel, by decide +kernel⟩
set_option maxRecDepth 100000 in
theorem mv_X5_pass : k_Mv yX5_pass := ⟨List.mem_of_getElem? (i := 788) (by decide +kernel), List.mem_of_getElem? (i := 789) (by decide +kernel)⟩
set_option maxRecDepth 100000 in
theorem mc_X5_asks : k_Mc yX5_asks cX5_asks 2 (some .boolean) 1 := ⟨List.mem_of_getElem? (i := 810) (by decide +kernel), List.mem_of_getElem? (i := 28) (by decide +kernel), by decide +kernel, by decide +kernel, by decide +kernel⟩
set_option maxRecDepth 100000 in
theorem mv_X5_asks : k_Mv yX5_asks := ⟨List.mem_of_getElem? (i := 809) (by decide +kernel), List.mem_of_getElem? (i := 22) (by decide +kernel)⟩
set_option maxRecDepth 100000 in
theorem mc_X5_state : k_Mc yX5_state cX5_state 2 (some .int) 1 := ⟨List.mem_of_getElem? (i := 806) (by decide +kernel), List.mem_of_getElem? (i := 28) (by decide +kernel), by decide +kernel, by decide +kernel, by decide +kernel⟩
set_option maxRecDepth 100000 in
theorem mv_X5_state : k_Mv yX5_state := ⟨List.mem_of_getElem? (i := 804) (by decide +kernel), List.mem_of_getElem? (i := 805) (by decide +kernel)⟩
set_option maxRecDepth 100000 in
theorem mc_X5_minutes : k_Mc yX5_minutes cX5_minutes 2 (some .int) 1 := ⟨List.mem_of_getElem? (i := 814) (by decide +kernel), List.mem_of_getElem? (i := 28) (by decide +kernel), by decide +kernel, by decide +kernel, by decide +kernel⟩
set_option maxRecDepth 100000 in
theorem mv_X5_minutes : k_Mv yX5_minutes := ⟨List.mem_of_getElem? (i := 812) (by decide +kernel), List.mem_of_getElem? (i := 813) (by decide +kernel)⟩
set_option maxRecDepth 100000 in
theorem mc_X5_moved : k_Mc yX5_moved cX5_moved 2 (some .int) 1 := ⟨List.mem_of_getElem? (i := 818) (by decide +kernel), List.mem_of_getElem? (i := 28) (by decide +kernel), by decide +kernel, by decide +kernel, by decide +kernel⟩
set_option maxRecDepth 100000 in
theorem mv_X5_moved : k_Mv yX5_moved := ⟨List.mem_of_getElem? (i := 816) (by decide +kernel), List.mem_of_getElem? (i := 817) (by decide +kernel)⟩
set_option maxRecDepth 100000 in
theorem mc_X5_way : k_Mc yX5_way cX5_way 3 (some .int) 2 := ⟨List.mem_of_getElem? (i := 822) (by decide +kernel), List.mem_of_getElem? (i := 28) (by decide +kernel), by decide +kernel, by decide +kernel, by decide +kernel⟩
set_option maxRecDepth 100000 in
theorem mv_X5_way : k_Mv yX5_way := ⟨List.mem_of_getElem? (i := 820) (by decide +kernel), List.mem_of_getElem? (i := 821) (by decide +kernel)⟩
set_option maxRecDepth 100000 in
theorem mc_X5_cost : k_Mc yX5_cost cX5_cost 3 (some .int) 2 := ⟨List.mem_of_getElem? (i := 826) (by decide +kernel), List.mem_of_getElem? (i := 28) (by decide +kernel), by decide +kernel, by decide +kernel, by decide +kernel⟩
set_option maxRecDepth 100000 in
theorem mv_X5_cost : k_Mv yX5_cost := ⟨List.mem_of_getElem? (i := 824) (by decide +kernel), List.mem_of_getElem? (i := 825) (by decide +kernel)⟩
set_option maxRecDepth 100000 in
theorem mc_X5_best : k_Mc yX5_best cX5_best 4 (some .int) 3 := ⟨List.mem_of_getElem? (i := 830) (by decide +kernel), List.mem_of_getElem? (i := 28) (by decide +kernel), by decide +kernel, by decide +kernel, by decide +kernel⟩
set_option maxRecDepth 100000 in
theorem mv_X5_best : k_Mv yX5_best := ⟨List.mem_of_getElem? (i := 828) (by decide +kernel), List.mem_of_getElem? (i := 829) (by decide +kernel)⟩
set_option maxRecDepth 100000 in
theorem mc_X5_isBarred : k_Mc yX5_isBarred cX5_isBarred 3 (some .boolean) 2 := ⟨List.mem_of_getElem? (i := 834) (by decide +kernel), List.mem_of_getElem? (i := 28) (by decide +kernel), by decide +kernel, by decide +kernel, by decide +kernel⟩
set_option maxRecDepth 100000 in
theorem mv_X5_isBarred : k_Mv yX5_isBarred := ⟨List.mem_of_getElem? (i := 832) (by decide +kernel), List.mem_of_getElem? (i := 833) (by decide +kernel)⟩
set_option maxRecDepth 100000 in
theorem mc_X5_debt : k_Mc yX5_debt cX5_debt 3 (some .long) 2 := ⟨List.mem_of_getElem? (i := 838) (by decide +kernel), List.mem_of_getElem? (i := 28) (by decide +kernel), by decide +kernel, by decide +kernel, by decide +kernel⟩
set_option maxRecDepth 100000 in
theorem mv_X5_debt : k_Mv yX5_debt := ⟨List.mem_of_getElem? (i := 836) (by decide +kernel), List.mem_of_getElem? (i := 837) (by decide +kernel)⟩
set_option maxRecDepth 100000 in
theorem mc_X5_charged : k_Mc yX5_charged cX5_charged 3 (some .long) 2 := ⟨List.mem_of_getElem? (i := 842) (by decide +kernel), List.mem_of_getElem? (i := 28) (by decide +kernel), by decide +kernel, by decide +kernel, by decide +kernel⟩
set_option maxRecDepth 100000 in
theorem mv_X5_charged : k_Mv yX5_charged := ⟨List.mem_of_getElem? (i := 840) (by decide +kernel), List.mem_of_getElem? (i := 841) (by decide +kernel)⟩
set_option maxRecDepth 100000 in
theorem mc_X5_position : k_Mc yX5_position cX5_position 5 (some .long) 1 := ⟨List.mem_of_getElem? (i := 846) (by decide +kernel), List.mem_of_getElem? (i := 28) (by decide +kernel), by decide +kernel, by decide +kernel, by decide +kernel⟩
set_option maxRecDepth 100000 in
theorem mv_X5_position : k_Mv yX5_position := ⟨List.mem_of_getElem? (i := 844) (by decide +kernel), List.mem_of_getElem? (i := 845) (by decide +kernel)⟩
set_option maxRecDepth 100000 in
theorem mc_X5_settle : k_Mc yX5_settle cX5_settle 5 (some .long) 2 := ⟨List.mem_of_getElem? (i := 850) (by decide +kernel), List.mem_of_getElem? (i := 28) (by decide +kernel), by decide +kernel, by decide +kernel, by decide +kernel⟩
set_option maxRecDepth 100000 in
theorem mv_X5_settle : k_Mv yX5_settle := ⟨List.mem_of_getElem? (i := 848) (by decide +kernel), List.mem_of_getElem? (i := 849) (by decide +kernel)⟩
set_option maxRecDepth 100000 in
theorem mc_J9_min_7cf53 : k_Mc yJ9_min_7cf53 cJ9_min_7cf53 2 (some .int) 2 := ⟨List.mem_of_getElem? (i := 382) (by decide +kernel), List.mem_of_getElem? (i := 36) (by decide +kernel), by decide +kernel, by decide +kernel, by decide +kernel⟩
set_option maxRecDepth 100000 in
theorem ms_J9_min_7cf53 : k_Ms yJ9_min_7cf53 := List.mem_of_getElem? (i := 381) (by decide +kernel)
set_option maxRecDepth 100000 in
theorem mc_J7_fill_53178 : k_Mc yJ7_fill_53178 cJ7_fill_53178 4 none 2 := ⟨List.mem_of_getElem? (i := 54) (by decide +kernel), List.mem_of_getElem? (i := 26) (by decide +kernel), by decide +kernel, by decide +kernel, by decide +kernel⟩
set_option maxRecDepth 100000 in
theorem ms_J7_fill_53178 : k_Ms yJ7_fill_53178 := List.mem_of_getElem? (i := 53) (by decide +kernel)
set_option maxRecDepth 100000 in
theorem ms_L_tariff : k_Ms yL_tariff := List.mem_of_getElem? (i := 116) (by decide +kernel)
set_option maxRecDepth 100000 in
theorem ms_L_link : k_Ms yL_link := List.mem_of_getElem? (i := 218) (by decide +kernel)
set_option maxRecDepth 100000 in
theorem ms_L_unlink : k_Ms yL_unlink := List.mem_of_getElem? (i := 238) (by decide +kernel)
set_option maxRecDepth 100000 in
theorem ms_L_number : k_Ms yL_number := List.mem_of_getElem? (i := 262) (by decide +kernel)
set_option maxRecDepth 100000 in
theorem ms_L_carryOver : k_Ms yL_carryOver := List.mem_of_getElem? (i := 295) (by decide +kernel)
set_option maxRecDepth 100000 in
theorem ms_L_home : k_Ms yL_home := List.mem_of_getElem? (i := 317) (by decide +kernel)
set_option maxRecDepth 100000 in
theorem ms_L_topUp : k_Ms yL_topUp := List.mem_of_getElem? (i := 325) (by decide +kernel)
set_option maxRecDepth 100000 in
theorem ms_L_balance : k_Ms yL_balance := List.mem_of_getElem? (i := 334) (by decide +kernel)
set_option maxRecDepth 100000 in
theorem ms_L_bundle : k_Ms yL_bundle := List.mem_of_getElem? (i := 341) (by decide +kernel)
set_option maxRecDepth 100000 in
theorem ms_L_call : k_Ms yL_call := List.mem_of_getElem? (i := 348) (by decide +kernel)
set_option maxRecDepth 100000 in
theorem ms_L_hangUp : k_Ms yL_hangUp := List.mem_of_getElem? (i := 454) (by decide +kernel)
set_option maxRecDepth 100000 in
theorem ms_L_pass : k_Ms yL_pass := List.mem_of_getElem? (i := 467) (by decide +kernel)
set_option maxRecDepth 100000 in
theorem ms_L_state : k_Ms yL_state := List.mem_of_getElem? (i := 505) (by decide +kernel)
set_option maxRecDepth 100000 in
theorem ms_L_minutes : k_Ms yL_minutes := List.mem_of_getElem? (i := 512) (by decide +kernel)
set_option maxRecDepth 100000 in
theorem ms_L_moved : k_Ms yL_moved := List.mem_of_getElem? (i := 519) (by decide +kernel)
set_option maxRecDepth 100000 in
theorem ms_L_way : k_Ms yL_way := List.mem_of_getElem? (i := 526) (by decide +kernel)
set_option maxRecDepth 100000 in
theorem ms_L_cost : k_Ms yL_cost := List.mem_of_getElem? (i := 534) (by decide +kernel)
set_option maxRecDepth 100000 in
theorem ms_L_best : k_Ms yL_best := List.mem_of_getElem? (i := 545) (by decide +kernel)
set_option maxRecDepth 100000 in
theorem ms_L_isBarred : k_Ms yL_isBarred := List.mem_of_getElem? (i := 553) (by decide +kernel)
set_option maxRecDepth 100000 in
theorem ms_L_debt : k_Ms yL_debt := List.mem_of_getElem? (i := 561) (by decide +kernel)
set_option maxRecDepth 100000 in
theorem ms_L_charged : k_Ms yL_charged := List.mem_of_getElem? (i := 572) (by decide +kernel)
set_option maxRecDepth 100000 in
theorem ms_L_position : k_Ms yL_position := List.mem_of_getElem? (i := 584) (by decide +kernel)
set_option maxRecDepth 100000 in
theorem ms_L_settle : k_Ms yL_settle := List.mem_of_getElem? (i := 591) (by decide +kernel)
set_option maxRecDepth 100000 in
theorem lk_L_91 : Cond.methodLink RL 91 yX4_init ∈ lw_tbl := List.mem_of_getElem? (i := 40) (by decide +kernel)
set_option maxRecDepth 100000 in
theorem lk_X4_18 : Cond.methodLink RX4 18 yX0_init ∈ lw_tbl := List.mem_of_getElem? (i := 48) (by decide +kernel)
set_option maxRecDepth 100000 in
theorem lk_X0_25 : Cond.methodLink RX0 25 yJ7_fill_53178 ∈ lw_tbl := List.mem_of_getElem? (i := 52) (by decide +kernel)
set_option maxRecDepth 100000 in
theorem lk_X4_37 : Cond.methodLinkNest RX4 37 yX1_init RX4 ∈ lw_tbl := List.mem_of_getElem? (i := 76) (by decide +kernel)
set_option maxRecDepth 100000 in
theorem lk_X4_42 : Cond.methodLink RX4 42 yJ7_fill_53178 ∈ lw_tbl := List.mem_of_getElem? (i := 89) (by decide +kernel)
set_option maxRecDepth 100000 in
theorem lk_L_95 : Cond.methodLink RL 95 yL_tariff ∈ lw_tbl := List.mem_of_getElem? (i := 115) (by decide +kernel)
set_option maxRecDepth 100000 in
theorem lk_L_7 : Cond.methodLink RL 7 yX4_tariff ∈ lw_tbl := List.mem_of_getElem? (i := 120) (by decide +kernel)
set_option maxRecDepth 100000 in
theorem lk_X4_48 : Cond.methodLink RX4 48 yX4_demandCarrier ∈ lw_tbl := List.mem_of_getElem? (i := 124) (by decide +kernel)
set_option maxRecDepth 100000 in
theorem lk_X4_204 : Cond.methodLink RX4 204 yX4_isCarrier ∈ lw_tbl := List.mem_of_getElem? (i := 127) (by decide +kernel)
set_option maxRecDepth 100000 in
theorem lk_X4_52 : Cond.methodLink RX4 52 yX4_isWithin ∈ lw_tbl := List.mem_of_getElem? (i := 198) (by decide +kernel)
set_option maxRecDepth 100000 in
theorem lk_L_105 : Cond.methodLink RL 105 yL_link ∈ lw_tbl := List.mem_of_getElem? (i := 217) (by decide +kernel)
set_option maxRecDepth 100000 in
theorem lk_L_17 : Cond.methodLink RL 17 yX4_link ∈ lw_tbl := List.mem_of_getElem? (i := 220) (by decide +kernel)
set_option maxRecDepth 100000 in
theorem lk_X4_66 : Cond.methodLink RX4 66 yX0_rateOf ∈ lw_tbl := List.mem_of_getElem? (i := 226) (by decide +kernel)
set_option maxRecDepth 100000 in
theorem lk_X0_31 : Cond.methodLinkNest RX0 31 yX4_pairOf RX4 ∈ lw_tbl := List.mem_of_getElem? (i := 230) (by decide +kernel)
set_option maxRecDepth 100000 in
theorem lk_X4_70 : Cond.methodLink RX4 70 yX0_setLink ∈ lw_tbl := List.mem_of_getElem? (i := 233) (by decide +kernel)
set_option maxRecDepth 100000 in
theorem lk_L_109 : Cond.methodLink RL 109 yL_unlink ∈ lw_tbl := List.mem_of_getElem? (i := 237) (by decide +kernel)
set_option maxRecDepth 100000 in
theorem lk_L_21 : Cond.methodLink RL 21 yX4_unlink ∈ lw_tbl := List.mem_of_getElem? (i := 241) (by decide +kernel)
set_option maxRecDepth 100000 in
theorem lk_L_113 : Cond.methodLink RL 113 yL_number ∈ lw_tbl := List.mem_of_getElem? (i := 261) (by decide +kernel)
set_option maxRecDepth 100000 in
theorem lk_L_27 : Cond.methodLink RL 27 yX4_number ∈ lw_tbl := List.mem_of_getElem? (i := 264) (by decide +kernel)
set_option maxRecDepth 100000 in
theorem lk_X4_79 : Cond.methodLink RX4 79 yX4_demandCredit ∈ lw_tbl := List.mem_of_getElem? (i := 268) (by decide +kernel)
set_option maxRecDepth 100000 in
theorem lk_X4_89 : Cond.methodLink RX4 89 yX2_init ∈ lw_tbl := List.mem_of_getElem? (i := 274) (by decide +kernel)
set_option maxRecDepth 100000 in
theorem lk_L_116 : Cond.methodLink RL 116 yL_carryOver ∈ lw_tbl := List.mem_of_getElem? (i := 294) (by decide +kernel)
set_option maxRecDepth 100000 in
theorem lk_L_30 : Cond.methodLink RL 30 yX4_carryOver ∈ lw_tbl := List.mem_of_getElem? (i := 297) (by decide +kernel)
set_option maxRecDepth 100000 in
theorem lk_X4_92 : Cond.methodLink RX4 92 yX4_subscriberOf ∈ lw_tbl := List.mem_of_getElem? (i := 301) (by decide +kernel)
set_option maxRecDepth 100000 in
theorem lk_X4_96 : Cond.methodLink RX4 96 yX2_homeAt ∈ lw_tbl := List.mem_of_getElem? (i := 306) (by decide +kernel)
set_option maxRecDepth 100000 in
theorem lk_X4_102 : Cond.methodLink RX4 102 yX2_moveTo ∈ lw_tbl := List.mem_of_getElem? (i := 311) (by decide +kernel)
set_option maxRecDepth 100000 in
theorem lk_L_119 : Cond.methodLink RL 119 yL_home ∈ lw_tbl := List.mem_of_getElem? (i := 316) (by decide +kernel)
set_option maxRecDepth 100000 in
theorem lk_L_33 : Cond.methodLink RL 33 yX4_home ∈ lw_tbl := List.mem_of_getElem? (i := 319) (by decide +kernel)
set_option maxRecDepth 100000 in
theorem lk_L_122 : Cond.methodLink RL 122 yL_topUp ∈ lw_tbl := List.mem_of_getElem? (i := 324) (by decide +kernel)
set_option maxRecDepth 100000 in
theorem lk_L_36 : Cond.methodLink RL 36 yX4_topUp ∈ lw_tbl := List.mem_of_getElem? (i := 327) (by decide +kernel)
set_option maxRecDepth 100000 in
theorem lk_L_125 : Cond.methodLink RL 125 yL_balance ∈ lw_tbl := List.mem_of_getElem? (i := 333) (by decide +kernel)
set_option maxRecDepth 100000 in
theorem lk_L_39 : Cond.methodLink RL 39 yX4_balance ∈ lw_tbl := List.mem_of_getElem? (i := 336) (by decide +kernel)
set_option maxRecDepth 100000 in
theorem lk_L_129 : Cond.methodLink RL 129 yL_bundle ∈ lw_tbl := List.mem_of_getElem? (i := 340) (by decide +kernel)
set_option maxRecDepth 100000 in
theorem lk_L_43 : Cond.methodLink RL 43 yX4_bundle ∈ lw_tbl := List.mem_of_getElem? (i := 343) (by decide +kernel)
set_option maxRecDepth 100000 in
theorem lk_L_132 : Cond.methodLink RL 132 yL_call ∈ lw_tbl := List.mem_of_getElem? (i := 347) (by decide +kernel)
set_option maxRecDepth 100000 in
theorem lk_L_46 : Cond.methodLink RL 46 yX4_call ∈ lw_tbl := List.mem_of_getElem? (i := 350) (by decide +kernel)
set_option maxRecDepth 100000 in
theorem lk_X4_127 : Cond.methodLink RX4 127 yX4_isTalking ∈ lw_tbl := List.mem_of_getElem? (i := 355) (by decide +kernel)
set_option maxRecDepth 100000 in
theorem lk_X4_138 : Cond.methodLink RX4 138 yX0_findBest ∈ lw_tbl := List.mem_of_getElem? (i := 361) (by decide +kernel)
set_option maxRecDepth 100000 in
theorem lk_X0_66 : Cond.methodLinkNest RX0 66 yX4_isCarrier RX4 ∈ lw_tbl := List.mem_of_getElem? (i := 365) (by decide +kernel)
set_option maxRecDepth 100000 in
theorem lk_X0_70 : Cond.methodLink RX0 70 yX0_weighWaysTo ∈ lw_tbl := List.mem_of_getElem? (i := 366) (by decide +kernel)
set_option maxRecDepth 100000 in
theorem lk_X0_45 : Cond.methodLink RX0 45 yX0_isOpen ∈ lw_tbl := List.mem_of_getElem? (i := 371) (by decide +kernel)
set_option maxRecDepth 100000 in
theorem lk_X0_84 : Cond.methodLink RX0 84 yX0_weightOver ∈ lw_tbl := List.mem_of_getElem? (i := 375) (by decide +kernel)
set_option maxRecDepth 100000 in
theorem lk_X0_49 : Cond.methodLink RX0 49 yX0_rateOf ∈ lw_tbl := List.mem_of_getElem? (i := 379) (by decide +kernel)
set_option maxRecDepth 100000 in
theorem lk_X0_87 : Cond.methodLink RX0 87 yJ9_min_7cf53 ∈ lw_tbl := List.mem_of_getElem? (i := 380) (by decide +kernel)
set_option maxRecDepth 100000 in
theorem lk_X0_75 : Cond.methodLink RX0 75 yX1_clear ∈ lw_tbl := List.mem_of_getElem? (i := 383) (by decide +kernel)
set_option maxRecDepth 100000 in
theorem lk_X0_78 : Cond.methodLink RX0 78 yX1_add ∈ lw_tbl := List.mem_of_getElem? (i := 387) (by decide +kernel)
set_option maxRecDepth 100000 in
theorem lk_X0_81 : Cond.methodLink RX0 81 yX0_nextOnBest ∈ lw_tbl := List.mem_of_getElem? (i := 391) (by decide +kernel)
set_option maxRecDepth 100000 in
theorem lk_X4_144 : Cond.methodLink RX4 144 yX4_newTalk ∈ lw_tbl := List.mem_of_getElem? (i := 396) (by decide +kernel)
set_option maxRecDepth 100000 in
theorem lk_X4_222 : Cond.methodLink RX4 222 yX3_init ∈ lw_tbl := List.mem_of_getElem? (i := 401) (by decide +kernel)
set_option maxRecDepth 100000 in
theorem lk_X3_11 : Cond.methodLinkNest RX3 11 yX1_init RX4 ∈ lw_tbl := List.mem_of_getElem? (i := 406) (by decide +kernel)
set_option maxRecDepth 100000 in
theorem lk_X4_225 : Cond.methodLink RX4 225 yX1_become ∈ lw_tbl := List.mem_of_getElem? (i := 443) (by decide +kernel)
set_option maxRecDepth 100000 in
theorem lk_X1_19 : Cond.methodLink RX1 19 yX1_clear ∈ lw_tbl := List.mem_of_getElem? (i := 447) (by decide +kernel)
set_option maxRecDepth 100000 in
theorem lk_X1_22 : Cond.methodLink RX1 22 yX1_carrierAt ∈ lw_tbl := List.mem_of_getElem? (i := 448) (by decide +kernel)
set_option maxRecDepth 100000 in
theorem lk_X1_26 : Cond.methodLink RX1 26 yX1_add ∈ lw_tbl := List.mem_of_getElem? (i := 452) (by decide +kernel)
set_option maxRecDepth 100000 in
theorem lk_L_135 : Cond.methodLink RL 135 yL_hangUp ∈ lw_tbl := List.mem_of_getElem? (i := 453) (by decide +kernel)
set_option maxRecDepth 100000 in
theorem lk_L_49 : Cond.methodLink RL 49 yX4_hangUp ∈ lw_tbl := List.mem_of_getElem? (i := 456) (by decide +kernel)
set_option maxRecDepth 100000 in
theorem lk_X4_148 : Cond.methodLink RX4 148 yX4_talkOf ∈ lw_tbl := List.mem_of_getElem? (i := 460) (by decide +kernel)
set_option maxRecDepth 100000 in
theorem lk_L_138 : Cond.methodLink RL 138 yL_pass ∈ lw_tbl := List.mem_of_getElem? (i := 466) (by decide +kernel)
set_option maxRecDepth 100000 in
theorem lk_L_52 : Cond.methodLink RL 52 yX4_pass ∈ lw_tbl := List.mem_of_getElem? (i := 469) (by decide +kernel)
set_option maxRecDepth 100000 in
theorem lk_X4_162 : Cond.methodLink RX4 162 yX4_runOneMinute ∈ lw_tbl := List.mem_of_getElem? (i := 474) (by decide +kernel)
set_option maxRecDepth 100000 in
theorem lk_X4_229 : Cond.methodLink RX4 229 yX0_isOpenAlong ∈ lw_tbl := List.mem_of_getElem? (i := 478) (by decide +kernel)
set_option maxRecDepth 100000 in
theorem lk_X0_41 : Cond.methodLink RX0 41 yX1_carrierAt ∈ lw_tbl := List.mem_of_getElem? (i := 482) (by decide +kernel)
set_option maxRecDepth 100000 in
theorem lk_X4_172 : Cond.methodLink RX4 172 yX1_carrierAt ∈ lw_tbl := List.mem_of_getElem? (i := 483) (by decide +kernel)
set_option maxRecDepth 100000 in
theorem lk_X4_236 : Cond.methodLink RX4 236 yX3_isStepDue ∈ lw_tbl := List.mem_of_getElem? (i := 484) (by decide +kernel)
set_option maxRecDepth 100000 in
theorem lk_X4_246 : Cond.methodLink RX4 246 yX2_pay ∈ lw_tbl := List.mem_of_getElem? (i := 488) (by decide +kernel)
set_option maxRecDepth 100000 in
theorem lk_X4_249 : Cond.methodLink RX4 249 yX0_charge ∈ lw_tbl := List.mem_of_getElem? (i := 492) (by decide +kernel)
set_option maxRecDepth 100000 in
theorem lk_X0_58 : Cond.methodLink RX0 58 yX0_addDebt ∈ lw_tbl := List.mem_of_getElem? (i := 496) (by decide +kernel)
set_option maxRecDepth 100000 in
theorem lk_X0_62 : Cond.methodLink RX0 62 yX3_addCharge ∈ lw_tbl := List.mem_of_getElem? (i := 500) (by decide +kernel)
set_option maxRecDepth 100000 in
theorem lk_L_141 : Cond.methodLink RL 141 yL_state ∈ lw_tbl := List.mem_of_getElem? (i := 504) (by decide +kernel)
set_option maxRecDepth 100000 in
theorem lk_L_55 : Cond.methodLink RL 55 yX4_state ∈ lw_tbl := List.mem_of_getElem? (i := 507) (by decide +kernel)
set_option maxRecDepth 100000 in
theorem lk_L_144 : Cond.methodLink RL 144 yL_minutes ∈ lw_tbl := List.mem_of_getElem? (i := 511) (by decide +kernel)
set_option maxRecDepth 100000 in
theorem lk_L_58 : Cond.methodLink RL 58 yX4_minutes ∈ lw_tbl := List.mem_of_getElem? (i := 514) (by decide +kernel)
set_option maxRecDepth 100000 in
theorem lk_L_147 : Cond.methodLink RL 147 yL_moved ∈ lw_tbl := List.mem_of_getElem? (i := 518) (by decide +kernel)
set_option maxRecDepth 100000 in
theorem lk_L_61 : Cond.methodLink RL 61 yX4_moved ∈ lw_tbl := List.mem_of_getElem? (i := 521) (by decide +kernel)
set_option maxRecDepth 100000 in
theorem lk_L_150 : Cond.methodLink RL 150 yL_way ∈ lw_tbl := List.mem_of_getElem? (i := 525) (by decide +kernel)
set_option maxRecDepth 100000 in
theorem lk_L_64 : Cond.methodLink RL 64 yX4_way ∈ lw_tbl := List.mem_of_getElem? (i := 528) (by decide +kernel)
set_option maxRecDepth 100000 in
theorem lk_L_153 : Cond.methodLink RL 153 yL_cost ∈ lw_tbl := List.mem_of_getElem? (i := 533) (by decide +kernel)
set_option maxRecDepth 100000 in
theorem lk_L_67 : Cond.methodLink RL 67 yX4_cost ∈ lw_tbl := List.mem_of_getElem? (i := 536) (by decide +kernel)
set_option maxRecDepth 100000 in
theorem lk_X4_177 : Cond.methodLink RX4 177 yX0_costOf ∈ lw_tbl := List.mem_of_getElem? (i := 540) (by decide +kernel)
set_option maxRecDepth 100000 in
theorem lk_L_156 : Cond.methodLink RL 156 yL_best ∈ lw_tbl := List.mem_of_getElem? (i := 544) (by decide +kernel)
set_option maxRecDepth 100000 in
theorem lk_L_70 : Cond.methodLink RL 70 yX4_best ∈ lw_tbl := List.mem_of_getElem? (i := 547) (by decide +kernel)
set_option maxRecDepth 100000 in
theorem lk_L_159 : Cond.methodLink RL 159 yL_isBarred ∈ lw_tbl := List.mem_of_getElem? (i := 552) (by decide +kernel)
set_option maxRecDepth 100000 in
theorem lk_L_73 : Cond.methodLink RL 73 yX4_isBarred ∈ lw_tbl := List.mem_of_getElem? (i := 555) (by decide +kernel)
set_option maxRecDepth 100000 in
theorem lk_X4_183 : Cond.methodLink RX4 183 yX0_isOpen ∈ lw_tbl := List.mem_of_getElem? (i := 559) (by decide +kernel)
set_option maxRecDepth 100000 in
theorem lk_L_162 : Cond.methodLink RL 162 yL_debt ∈ lw_tbl := List.mem_of_getElem? (i := 560) (by decide +kernel)
set_option maxRecDepth 100000 in
theorem lk_L_77 : Cond.methodLink RL 77 yX4_debt ∈ lw_tbl := List.mem_of_getElem? (i := 563) (by decide +kernel)
set_option maxRecDepth 100000 in
theorem lk_X4_187 : Cond.methodLink RX4 187 yX0_debtOf ∈ lw_tbl := List.mem_of_getElem? (i := 567) (by decide +kernel)
set_option maxRecDepth 100000 in
theorem lk_L_165 : Cond.methodLink RL 165 yL_charged ∈ lw_tbl := List.mem_of_getElem? (i := 571) (by decide +kernel)
set_option maxRecDepth 100000 in
theorem lk_L_81 : Cond.methodLink RL 81 yX4_charged ∈ lw_tbl := List.mem_of_getElem? (i := 574) (by decide +kernel)
set_option maxRecDepth 100000 in
theorem lk_X4_191 : Cond.methodLink RX4 191 yX4_pairOf ∈ lw_tbl := List.mem_of_getElem? (i := 578) (by decide +kernel)
set_option maxRecDepth 100000 in
theorem lk_X4_194 : Cond.methodLink RX4 194 yX3_chargeOf ∈ lw_tbl := List.mem_of_getElem? (i := 579) (by decide +kernel)
set_option maxRecDepth 100000 in
theorem lk_L_168 : Cond.methodLink RL 168 yL_position ∈ lw_tbl := List.mem_of_getElem? (i := 583) (by decide +kernel)
set_option maxRecDepth 100000 in
theorem lk_L_84 : Cond.methodLink RL 84 yX4_position ∈ lw_tbl := List.mem_of_getElem? (i := 586) (by decide +kernel)
set_option maxRecDepth 100000 in
theorem lk_L_171 : Cond.methodLink RL 171 yL_settle ∈ lw_tbl := List.mem_of_getElem? (i := 590) (by decide +kernel)
set_option maxRecDepth 100000 in
theorem lk_L_88 : Cond.methodLink RL 88 yX4_settle ∈ lw_tbl := List.mem_of_getElem? (i := 593) (by decide +kernel)
set_option maxRecDepth 100000 in
theorem lk_X4_200 : Cond.methodLink RX4 200 yX0_addDebt ∈ lw_tbl := List.mem_of_getElem? (i := 598) (by decide +kernel)
set_option maxRecDepth 100000 in
theorem lk_L_94 : Cond.methodLink RL 94 yX5_init ∈ lw_tbl := List.mem_of_getElem? (i := 601) (by decide +kernel)
set_option maxRecDepth 100000 in
theorem lk_L_101 : Cond.methodLink RL 101 yX5_thrown ∈ lw_tbl := List.mem_of_getElem? (i := 688) (by decide +kernel)
set_option maxRecDepth 100000 in
theorem lk_L_100 : Cond.methodLink RL 100 yX5_tariff ∈ lw_tbl := List.mem_of_getElem? (i := 692) (by decide +kernel)
set_option maxRecDepth 100000 in
theorem lk_X5_86 : Cond.methodLink RX5 86 yX5_isCarrier ∈ lw_tbl := List.mem_of_getElem? (i := 696) (by decide +kernel)
set_option maxRecDepth 100000 in
theorem lk_X5_82 : Cond.methodLink RX5 82 yX5_isIn ∈ lw_tbl := List.mem_of_getElem? (i := 699) (by decide +kernel)
set_option maxRecDepth 100000 in
theorem lk_L_108 : Cond.methodLink RL 108 yX5_link ∈ lw_tbl := List.mem_of_getElem? (i := 702) (by decide +kernel)
set_option maxRecDepth 100000 in
theorem lk_X5_97 : Cond.methodLink RX5 97 yX5_areCarriers ∈ lw_tbl := List.mem_of_getElem? (i := 707) (by decide +kernel)
set_option maxRecDepth 100000 in
theorem lk_L_112 : Cond.methodLink RL 112 yX5_unlink ∈ lw_tbl := List.mem_of_getElem? (i := 710) (by decide +kernel)
set_option maxRecDepth 100000 in
theorem lk_L_115 : Cond.methodLink RL 115 yX5_number ∈ lw_tbl := List.mem_of_getElem? (i := 714) (by decide +kernel)
set_option maxRecDepth 100000 in
theorem lk_L_118 : Cond.methodLink RL 118 yX5_carryOver ∈ lw_tbl := List.mem_of_getElem? (i := 718) (by decide +kernel)
set_option maxRecDepth 100000 in
theorem lk_X5_101 : Cond.methodLink RX5 101 yX5_isNumber ∈ lw_tbl := List.mem_of_getElem? (i := 722) (by decide +kernel)
set_option maxRecDepth 100000 in
theorem lk_X5_104 : Cond.methodLink RX5 104 yX5_homeOf ∈ lw_tbl := List.mem_of_getElem? (i := 726) (by decide +kernel)
set_option maxRecDepth 100000 in
theorem lk_L_121 : Cond.methodLink RL 121 yX5_home ∈ lw_tbl := List.mem_of_getElem? (i := 730) (by decide +kernel)
set_option maxRecDepth 100000 in
theorem lk_L_124 : Cond.methodLink RL 124 yX5_topUp ∈ lw_tbl := List.mem_of_getElem? (i := 734) (by decide +kernel)
set_option maxRecDepth 100000 in
theorem lk_L_128 : Cond.methodLink RL 128 yX5_balance ∈ lw_tbl := List.mem_of_getElem? (i := 739) (by decide +kernel)
set_option maxRecDepth 100000 in
theorem lk_L_131 : Cond.methodLink RL 131 yX5_bundle ∈ lw_tbl := List.mem_of_getElem? (i := 743) (by decide +kernel)
set_option maxRecDepth 100000 in
theorem lk_L_134 : Cond.methodLink RL 134 yX5_call ∈ lw_tbl := List.mem_of_getElem? (i := 747) (by decide +kernel)
set_option maxRecDepth 100000 in
theorem lk_X5_128 : Cond.methodLink RX5 128 yX5_isBusy ∈ lw_tbl := List.mem_of_getElem? (i := 751) (by decide +kernel)
set_option maxRecDepth 100000 in
theorem lk_X5_131 : Cond.methodLink RX5 131 yX5_finds ∈ lw_tbl := List.mem_of_getElem? (i := 755) (by decide +kernel)
set_option maxRecDepth 100000 in
theorem lk_X5_119 : Cond.methodLink RX5 119 yX5_costOf ∈ lw_tbl := List.mem_of_getElem? (i := 759) (by decide +kernel)
set_option maxRecDepth 100000 in
theorem lk_X5_125 : Cond.methodLink RX5 125 yX5_canGo ∈ lw_tbl := List.mem_of_getElem? (i := 763) (by decide +kernel)
set_option maxRecDepth 100000 in
theorem lk_X5_113 : Cond.methodLink RX5 113 yX5_isShut ∈ lw_tbl := List.mem_of_getElem? (i := 767) (by decide +kernel)
set_option maxRecDepth 100000 in
theorem lk_X5_109 : Cond.methodLink RX5 109 yX5_debtOf ∈ lw_tbl := List.mem_of_getElem? (i := 771) (by decide +kernel)
set_option maxRecDepth 100000 in
theorem lk_X5_134 : Cond.methodLink RX5 134 yX5_takesBest ∈ lw_tbl := List.mem_of_getElem? (i := 775) (by decide +kernel)
set_option maxRecDepth 100000 in
theorem lk_L_137 : Cond.methodLink RL 137 yX5_hangUp ∈ lw_tbl := List.mem_of_getElem? (i := 779) (by decide +kernel)
set_option maxRecDepth 100000 in
theorem lk_X5_138 : Cond.methodLink RX5 138 yX5_isCall ∈ lw_tbl := List.mem_of_getElem? (i := 783) (by decide +kernel)
set_option maxRecDepth 100000 in
theorem lk_L_140 : Cond.methodLink RL 140 yX5_pass ∈ lw_tbl := List.mem_of_getElem? (i := 787) (by decide +kernel)
set_option maxRecDepth 100000 in
theorem lk_X5_147 : Cond.methodLink RX5 147 yX5_minute ∈ lw_tbl := List.mem_of_getElem? (i := 791) (by decide +kernel)
set_option maxRecDepth 100000 in
theorem lk_X5_141 : Cond.methodLink RX5 141 yX5_isStopped ∈ lw_tbl := List.mem_of_getElem? (i := 795) (by decide +kernel)
set_option maxRecDepth 100000 in
theorem lk_X5_144 : Cond.methodLink RX5 144 yX5_isPaid ∈ lw_tbl := List.mem_of_getElem? (i := 799) (by decide +kernel)
set_option maxRecDepth 100000 in
theorem lk_L_143 : Cond.methodLink RL 143 yX5_state ∈ lw_tbl := List.mem_of_getElem? (i := 803) (by decide +kernel)
set_option maxRecDepth 100000 in
theorem lk_X5_150 : Cond.methodLink RX5 150 yX5_asks ∈ lw_tbl := List.mem_of_getElem? (i := 807) (by decide +kernel)
set_option maxRecDepth 100000 in
theorem lk_L_146 : Cond.methodLink RL 146 yX5_minutes ∈ lw_tbl := List.mem_of_getElem? (i := 811) (by decide +kernel)
set_option maxRecDepth 100000 in
theorem lk_L_149 : Cond.methodLink RL 149 yX5_moved ∈ lw_tbl := List.mem_of_getElem? (i := 815) (by decide +kernel)
set_option maxRecDepth 100000 in
theorem lk_L_152 : Cond.methodLink RL 152 yX5_way ∈ lw_tbl := List.mem_of_getElem? (i := 819) (by decide +kernel)
set_option maxRecDepth 100000 in
theorem lk_L_155 : Cond.methodLink RL 155 yX5_cost ∈ lw_tbl := List.mem_of_getElem? (i := 823) (by decide +kernel)
set_option maxRecDepth 100000 in
theorem lk_L_158 : Cond.methodLink RL 158 yX5_best ∈ lw_tbl := List.mem_of_getElem? (i := 827) (by decide +kernel)
set_option maxRecDepth 100000 in
theorem lk_L_161 : Cond.methodLink RL 161 yX5_isBarred ∈ lw_tbl := List.mem_of_getElem? (i := 831) (by decide +kernel)
set_option maxRecDepth 100000 in
theorem lk_L_164 : Cond.methodLink RL 164 yX5_debt ∈ lw_tbl := List.mem_of_getElem? (i := 835) (by decide +kernel)
set_option maxRecDepth 100000 in
theorem lk_L_167 : Cond.methodLink RL 167 yX5_charged ∈ lw_tbl := List.mem_of_getElem? (i := 839) (by decide +kernel)
set_option maxRecDepth 100000 in
theorem lk_L_170 : Cond.methodLink RL 170 yX5_position ∈ lw_tbl := List.mem_of_getElem? (i := 843) (by decide +kernel)
set_option maxRecDepth 100000 in
theorem lk_L_173 : Cond.methodLink RL 173 yX5_settle ∈ lw_tbl := List.mem_of_getElem? (i := 847) (by decide +kernel)
set_option maxRecDepth 100000 in
theorem ck_L_8 : Cond.classLink RL 8 RX4 ∈ lw_tbl := List.mem_of_getElem? (i := 38) (by decide +kernel)
set_option maxRecDepth 100000 in
theorem ck_X4_16 : Cond.classLink RX4 16 RX0 ∈ lw_tbl := List.mem_of_getElem? (i := 46) (by decide +kernel)
set_option maxRecDepth 100000 in
theorem ck_X4_23 : Cond.classLink RX4 23 RX2 ∈ lw_tbl := List.mem_of_getElem? (i := 70) (by decide +kernel)
set_option maxRecDepth 100000 in
theorem ck_X4_29 : Cond.classLink RX4 29 RX3 ∈ lw_tbl := List.mem_of_getElem? (i := 72) (by decide +kernel)
set_option maxRecDepth 100000 in
theorem ck_X4_35 : Cond.classLink RX4 35 RX1 ∈ lw_tbl := List.mem_of_getElem? (i := 74) (by decide +kernel)
set_option maxRecDepth 100000 in
theorem ck_L_13 : Cond.classLink RL 13 e_IO ∈ lw_tbl := List.mem_of_getElem? (i := 118) (by decide +kernel)
set_option maxRecDepth 100000 in
theorem ck_L_15 : Cond.classLink RL 15 e_IA ∈ lw_tbl := List.mem_of_getElem? (i := 119) (by decide +kernel)
set_option maxRecDepth 100000 in
theorem ck_X4_111 : Cond.classLink RX4 111 e_IO ∈ lw_tbl := List.mem_of_getElem? (i := 130) (by decide +kernel)
set_option maxRecDepth 100000 in
theorem ck_X4_56 : Cond.classLink RX4 56 e_IA ∈ lw_tbl := List.mem_of_getElem? (i := 201) (by decide +kernel)
set_option maxRecDepth 100000 in
theorem ck_L_25 : Cond.classLink RL 25 e_IS ∈ lw_tbl := List.mem_of_getElem? (i := 240) (by decide +kernel)
set_option maxRecDepth 100000 in
theorem ck_X4_74 : Cond.classLink RX4 74 e_IS ∈ lw_tbl := List.mem_of_getElem? (i := 245) (by decide +kernel)
set_option maxRecDepth 100000 in
theorem ck_X3_9 : Cond.classLink RX3 9 RX1 ∈ lw_tbl := List.mem_of_getElem? (i := 405) (by decide +kernel)
set_option maxRecDepth 100000 in
theorem ck_L_92 : Cond.classLink RL 92 RX5 ∈ lw_tbl := List.mem_of_getElem? (i := 599) (by decide +kernel)
set_option maxRecDepth 100000 in
theorem sk_X4_207 : Cond.stringRef RX4 207 "no such carrier" ∈ lw_tbl := List.mem_of_getElem? (i := 171) (by decide +kernel)
set_option maxRecDepth 100000 in
theorem sk_X4_58 : Cond.stringRef RX4 58 "step or price is out of its range" ∈ lw_tbl := List.mem_of_getElem? (i := 210) (by decide +kernel)
set_option maxRecDepth 100000 in
theorem sk_X4_64 : Cond.stringRef RX4 64 "both are the same, or rate or trust is out of its range" ∈ lw_tbl := List.mem_of_getElem? (i := 225) (by decide +kernel)
set_option maxRecDepth 100000 in
theorem sk_X4_76 : Cond.stringRef RX4 76 "there is no such link" ∈ lw_tbl := List.mem_of_getElem? (i := 254) (by decide +kernel)
set_option maxRecDepth 100000 in
theorem sk_X4_209 : Cond.stringRef RX4 209 "balance or bundle is out of its range" ∈ lw_tbl := List.mem_of_getElem? (i := 271) (by decide +kernel)
set_option maxRecDepth 100000 in
theorem sk_X4_87 : Cond.stringRef RX4 87 "all numbers are given out" ∈ lw_tbl := List.mem_of_getElem? (i := 272) (by decide +kernel)
set_option maxRecDepth 100000 in
theorem sk_X4_211 : Cond.stringRef RX4 211 "no such number" ∈ lw_tbl := List.mem_of_getElem? (i := 305) (by decide +kernel)
set_option maxRecDepth 100000 in
theorem sk_X4_100 : Cond.stringRef RX4 100 "it is its home already" ∈ lw_tbl := List.mem_of_getElem? (i := 310) (by decide +kernel)
set_option maxRecDepth 100000 in
theorem sk_X4_106 : Cond.stringRef RX4 106 "its chain is full" ∈ lw_tbl := List.mem_of_getElem? (i := 315) (by decide +kernel)
set_option maxRecDepth 100000 in
theorem sk_X4_113 : Cond.stringRef RX4 113 "there are not so many homes" ∈ lw_tbl := List.mem_of_getElem? (i := 323) (by decide +kernel)
set_option maxRecDepth 100000 in
theorem sk_X4_123 : Cond.stringRef RX4 123 "its balance or its bundle would be too large" ∈ lw_tbl := List.mem_of_getElem? (i := 332) (by decide +kernel)
set_option maxRecDepth 100000 in
theorem sk_X4_125 : Cond.stringRef RX4 125 "a number cannot call itself" ∈ lw_tbl := List.mem_of_getElem? (i := 354) (by decide +kernel)
set_option maxRecDepth 100000 in
theorem sk_X4_131 : Cond.stringRef RX4 131 "one of them has a running call" ∈ lw_tbl := List.mem_of_getElem? (i := 359) (by decide +kernel)
set_option maxRecDepth 100000 in
theorem sk_X4_136 : Cond.stringRef RX4 136 "the list of calls is full" ∈ lw_tbl := List.mem_of_getElem? (i := 360) (by decide +kernel)
set_option maxRecDepth 100000 in
theorem sk_X4_142 : Cond.stringRef RX4 142 "there is no way" ∈ lw_tbl := List.mem_of_getElem? (i := 395) (by decide +kernel)
set_option maxRecDepth 100000 in
theorem sk_X4_213 : Cond.stringRef RX4 213 "no such call" ∈ lw_tbl := List.mem_of_getElem? (i := 464) (by decide +kernel)
set_option maxRecDepth 100000 in
theorem sk_X4_155 : Cond.stringRef RX4 155 "it is not running" ∈ lw_tbl := List.mem_of_getElem? (i := 465) (by decide +kernel)
set_option maxRecDepth 100000 in
theorem sk_X4_160 : Cond.stringRef RX4 160 "minutes is out of its range" ∈ lw_tbl := List.mem_of_getElem? (i := 473) (by decide +kernel)
set_option maxRecDepth 100000 in
theorem sk_X4_175 : Cond.stringRef RX4 175 "its way has not so many carriers" ∈ lw_tbl := List.mem_of_getElem? (i := 532) (by decide +kernel)
set_option maxRecDepth 100000 in
theorem sk_X4_181 : Cond.stringRef RX4 181 "there is no way, or it has not so many carriers" ∈ lw_tbl := List.mem_of_getElem? (i := 551) (by decide +kernel)
set_option maxRecDepth 100000 in
theorem sk_X4_198 : Cond.stringRef RX4 198 "its debt is not above 0" ∈ lw_tbl := List.mem_of_getElem? (i := 597) (by decide +kernel)
set_option maxRecDepth 100000 in
theorem ik_L : Cond.initialized RL ∈ lw_tbl := List.mem_of_getElem? (i := 23) (by decide +kernel)
set_option maxRecDepth 100000 in
theorem ik_X4 : Cond.initialized RX4 ∈ lw_tbl := List.mem_of_getElem? (i := 24) (by decide +kernel)
set_option maxRecDepth 100000 in
theorem ik_X0 : Cond.initialized RX0 ∈ lw_tbl := List.mem_of_getElem? (i := 25) (by decide +kernel)
set_option maxRecDepth 100000 in
theorem ik_J7 : Cond.initialized RJ7 ∈ lw_tbl := List.mem_of_getElem? (i := 26) (by decide +kernel)
set_option maxRecDepth 100000 in
theorem ik_X1 : Cond.initialized RX1 ∈ lw_tbl := List.mem_of_getElem? (i := 27) (by decide +kernel)
set_option maxRecDepth 100000 in
theorem ik_X5 : Cond.initialized RX5 ∈ lw_tbl := List.mem_of_getElem? (i := 28) (by decide +kernel)
set_option maxRecDepth 100000 in
theorem ik_X2 : Cond.initialized RX2 ∈ lw_tbl := List.mem_of_getElem? (i := 35) (by decide +kernel)
set_option maxRecDepth 100000 in
theorem ik_J9 : Cond.initialized RJ9 ∈ lw_tbl := List.mem_of_getElem? (i := 36) (by decide +kernel)
set_option maxRecDepth 100000 in
theorem ik_X3 : Cond.initialized RX3 ∈ lw_tbl := List.mem_of_getElem? (i := 37) (by decide +kernel)
set_option maxRecDepth 100000 in
theorem ik_IO : Cond.initialized e_IO ∈ lw_tbl := List.mem_of_getElem? (i := 32) (by decide +kernel)
set_option maxRecDepth 100000 in
theorem tk_IO : Cond.castable e_IO e_IO ∈ lw_tbl := List.mem_of_getElem? (i := 132) (by decide +kernel)
set_option maxRecDepth 100000 in
theorem ik_IA : Cond.initialized e_IA ∈ lw_tbl := List.mem_of_getElem? (i := 33) (by decide +kernel)
set_option maxRecDepth 100000 in
theorem tk_IA : Cond.castable e_IA e_IA ∈ lw_tbl := List.mem_of_getElem? (i := 203) (by decide +kernel)
set_option maxRecDepth 100000 in
theorem ik_IS : Cond.initialized e_IS ∈ lw_tbl := List.mem_of_getElem? (i := 34) (by decide +kernel)
set_option maxRecDepth 100000 in
theorem tk_IS : Cond.castable e_IS e_IS ∈ lw_tbl := List.mem_of_getElem? (i := 247) (by decide +kernel)
set_option maxRecDepth 100000 in
theorem ok_i : Cond.instanceMethod Lib.objectInit ∈ lw_tbl := List.mem_of_getElem? (i := 44) (by decide +kernel)
set_option maxRecDepth 100000 in
theorem ok_c : Cond.code Lib.objectInit ⟨#[0xb1]⟩ 1 none ∈ lw_tbl := List.mem_of_getElem? (i := 45) (by decide +kernel)
end
section
/-- a truth value as the machine has it -/
def k_b (b : Bool) : Int32 := if b = true then 1 else 0
theorem kb0 {b : Bool} : k_b b = 0 ↔ b = false := by cases b <;> simp [k_b]
theorem kb1 {b : Bool} : ¬ k_b b = 0 ↔ b = true := by cases b <;> simp [k_b]
theorem kb_t : k_b true = 1 := rfl
theorem kb_f : k_b false = 0 := rfl
theorem kb_n (b : Bool) : narrow .boolean (.int (k_b b)) = .int (k_b b) := by cases b <;> decide
theorem kb_z (b : Bool) : vp_nar .boolean (k_b b) = k_b b := by cases b <;> decide
theorem vin_of {i : Int32} {n : Nat} (hn : n < 2 ^ 31) (h0 : ¬ i < 0) (h1 : ¬ nI n ≤ i) : vp_in i n := by
  rw [vp_in_iff]
  have h2 : (0 : Int32).toInt = 0 := rfl
  rw [Int32.lt_iff_toInt_lt, h2] at h0
  rw [Int32.le_iff_toInt_le, nI_toInt hn] at h1
  omega
abbrev k_Ci (l : Launch) (y : MethodName) (cc : ByteArray) (mL : Nat) (ret : Option FieldType) (fr lc : Nat) (D : va_G) (cy : Nat → ClassId) (lo : Nat) (R : List Nat) (ad : Nat → Nat) (w : Nat → va_E) (av : List Value) (rv : Int32) (w' : Nat → va_E) : Prop := k_Met l y cc mL ret { frames := fr, cells := 0, slots := 0, locals := lc } D cy lo R ad w av (k_Qi D lo (fun r u => r = rv ∧ u = (R, ad, w')))
abbrev k_Cl (l : Launch) (y : MethodName) (cc : ByteArray) (mL : Nat) (ret : Option FieldType) (fr lc : Nat) (D : va_G) (cy : Nat → ClassId) (lo : Nat) (R : List Nat) (ad : Nat → Nat) (w : Nat → va_E) (av : List Value) (rv : Int64) (w' : Nat → va_E) : Prop := k_Met l y cc mL ret { frames := fr, cells := 0, slots := 0, locals := lc } D cy lo R ad w av (k_Ql D lo (fun r u => r = rv ∧ u = (R, ad, w')))
abbrev k_Cv (l : Launch) (y : MethodName) (cc : ByteArray) (mL : Nat) (ret : Option FieldType) (fr lc : Nat) (D : va_G) (cy : Nat → ClassId) (lo : Nat) (R : List Nat) (ad : Nat → Nat) (w : Nat → va_E) (av : List Value) (w' : Nat → va_E) : Prop := k_Met l y cc mL ret { frames := fr, cells := 0, slots := 0, locals := lc } D cy lo R ad w av (k_Qv D lo (fun u => u = (R, ad, w')))
abbrev k_Xi (l : Launch) (y : MethodName) (cc : ByteArray) (mL : Nat) (ret : Option FieldType) (fr lc mc ms : Nat) (D : va_G) (cy : Nat → ClassId) (lo : Nat) (R : List Nat) (ad : Nat → Nat) (w : Nat → va_E) (av : List Value) (ok : Prop) (xp : String → Prop) (rv : Int32) (w' : Nat → va_E) : Prop := k_MetX l y cc mL ret { frames := fr, cells := mc, slots := ms, locals := lc } D cy lo R ad w av (k_Qi D lo (fun r u => ok ∧ r = rv ∧ u = (R, ad, w'))) (fun E u => xp E ∧ u = (R, ad, w))
abbrev k_Xl (l : Launch) (y : MethodName) (cc : ByteArray) (mL : Nat) (ret : Option FieldType) (fr lc mc ms : Nat) (D : va_G) (cy : Nat → ClassId) (lo : Nat) (R : List Nat) (ad : Nat → Nat) (w : Nat → va_E) (av : List Value) (ok : Prop) (xp : String → Prop) (rv : Int64) (w' : Nat → va_E) : Prop := k_MetX l y cc mL ret { frames := fr, cells := mc, slots := ms, locals := lc } D cy lo R ad w av (k_Ql D lo (fun r u => ok ∧ r = rv ∧ u = (R, ad, w'))) (fun E u => xp E ∧ u = (R, ad, w))
abbrev k_Xv (l : Launch) (y : MethodName) (cc : ByteArray) (mL : Nat) (ret : Option FieldType) (fr lc mc ms : Nat) (D : va_G) (cy : Nat → ClassId) (lo : Nat) (R : List Nat) (ad : Nat → Nat) (w : Nat → va_E) (av : List Value) (ok : Prop) (xp : String → Prop) (w' : Nat → va_E) : Prop := k_MetX l y cc mL ret { frames := fr, cells := mc, slots := ms, locals := lc } D cy lo R ad w av (k_Qv D lo (fun u => ok ∧ u = (R, ad, w'))) (fun E u => xp E ∧ u = (R, ad, w))
abbrev k_Xq (l : Launch) (y : MethodName) (cc : ByteArray) (mL : Nat) (ret : Option FieldType) (fr lc mc ms : Nat) (D : va_G) (cy : Nat → ClassId) (lo : Nat) (R : List Nat) (ad : Nat → Nat) (w : Nat → va_E) (av : List Value) (ok : Prop) (xp : String → Prop) (rv : Option Nat) (w' : Nat → va_E) : Prop := k_MetX l y cc mL ret { frames := fr, cells := mc, slots := ms, locals := lc } D cy lo R ad w av (k_Qq D lo (fun r u => ok ∧ r = rv ∧ u = (R, ad, w'))) (fun E u => xp E ∧ u = (R, ad, w))
section KZ
variable {D : va_G} {cy : Nat → ClassId} {lo : Nat} {p : Program} {l : Launch} {e : Env} {Rm : Room} {s : State} {m : MethodId} {args : Array Value} {below : List Frame} {meth : Method} {c : Code} {cc : ByteArray} {nL cells slots : Nat} {Q : State → Prop} {own : String} {R : List Nat} {ad : Nat → Nat} {w w' : Nat → va_E} {pc : Nat} {lv : List (Nat × Value)} {st rest : List Value}
theorem z_callVi (F : k_F p m c cc nL s own D cy lo) {index mL n fr lc : Nat} {y : MethodName} {b : ByteArray} {ret : Option FieldType} {rv : Int32} (As : List Value) {r0 ci : Nat} {fs : List Value} {T : u_T} {N : Nat} (hM : k_Ci l y b mL ret fr lc D cy lo R ad w (.ref (ad r0) :: As) rv w') (hc : k_Mc y b mL ret n) (hv : k_Mv y) (hl : Cond.methodLink own index y ∈ lw_tbl) (hr : r0 ∈ R) (hw : w r0 = .inr (ci, fs)) (hcl : vwCl[ci]? = some (y.cls, T, N)) (hst : st = As.reverse ++ .ref (ad r0) :: rest) (hn : As.length = n) (hdg : decode cc pc = .ok (.invokevirtual index, 3)) (hR : fr + 1 ≤ Rm.frames ∧ 8 + (mL + 11) + lc ≤ Rm.locals) (hroom : cells ≤ Rm.cells ∧ slots ≤ Rm.slots) (hcat : (rest.map fun v => v.category).sum ≤ 8) (kk : XW D lo p l e Rm s m args below meth c nL cells slots Q R ad w' (pc + 3) lv (.int rv :: rest)) : XW D lo p l e Rm s m args below meth c nL cells slots Q R ad w pc lv (st) := x_callVi F As hM hc hv hl hr hw hcl hst hn hdg hR hroom hcat (fun r u h => by obtain ⟨rfl, rfl⟩ := h; exact kk)
theorem z_callSi (F : k_F p m c cc nL s own D cy lo) {index mL n fr lc : Nat} {y : MethodName} {b : ByteArray} {ret : Option FieldType} {rv : Int32} (As : List Value) (hM : k_Ci l y b mL ret fr lc D cy lo R ad w (As) rv w') (hc : k_Mc y b mL ret n) (hv : k_Ms y) (hl : Cond.methodLink own index y ∈ lw_tbl) (hst : st = As.reverse ++ rest) (hn : As.length = n) (hdg : decode cc pc = .ok (.invokestatic index, 3)) (hR : fr + 1 ≤ Rm.frames ∧ 8 + (mL + 11) + lc ≤ Rm.locals) (hroom : cells ≤ Rm.cells ∧ slots ≤ Rm.slots) (hcat : (rest.map fun v => v.category).sum ≤ 8) (kk : XW D lo p l e Rm s m args below meth c nL cells slots Q R ad w' (pc + 3) lv (.int rv :: rest)) : XW D lo p l e Rm s m args below meth c nL cells slots Q R ad w pc lv (st) := x_callSi F As hM hc hv hl hst hn hdg hR hroom hcat (fun r u h => by obtain ⟨rfl, rfl⟩ := h; exact kk)
theorem z_callSNi (F : k_F p m c cc nL s own D cy lo) {index mL n fr lc : Nat} {y : MethodName} {b : ByteArray} {ret : Option FieldType} {rv : Int32} (As : List Value) (hM : k_Ci l y b mL ret fr lc D cy lo R ad w (As) rv w') {host : String} (hc : k_Mc y b mL ret n) (hv : k_Ms y) (hl : Cond.methodLinkNest own index y host ∈ lw_tbl) (hst : st = As.reverse ++ rest) (hn : As.length = n) (hdg : decode cc pc = .ok (.invokestatic index, 3)) (hR : fr + 1 ≤ Rm.frames ∧ 8 + (mL + 11) + lc ≤ Rm.locals) (hroom : cells ≤ Rm.cells ∧ slots ≤ Rm.slots) (hcat : (rest.map fun v => v.category).sum ≤ 8) (kk : XW D lo p l e Rm s m args below meth c nL cells slots Q R ad w' (pc + 3) lv (.int rv :: rest)) : XW D lo p l e Rm s m args below meth c nL cells slots Q R ad w pc lv (st) := x_callSNi F As hM hc hv hl hst hn hdg hR hroom hcat (fun r u h => by obtain ⟨rfl, rfl⟩ := h; exact kk)
theorem z_callVl (F : k_F p m c cc nL s own D cy lo) {index mL n fr lc : Nat} {y : MethodName} {b : ByteArray} {ret : Option FieldType} {rv : Int64} (As : List Value) {r0 ci : Nat} {fs : List Value} {T : u_T} {N : Nat} (hM : k_Cl l y b mL ret fr lc D cy lo R ad w (.ref (ad r0) :: As) rv w') (hc : k_Mc y b mL ret n) (hv : k_Mv y) (hl : Cond.methodLink own index y ∈ lw_tbl) (hr : r0 ∈ R) (hw : w r0 = .inr (ci, fs)) (hcl : vwCl[ci]? = some (y.cls, T, N)) (hst : st = As.reverse ++ .ref (ad r0) :: rest) (hn : As.length = n) (hdg : decode cc pc = .ok (.invokevirtual index, 3)) (hR : fr + 1 ≤ Rm.frames ∧ 8 + (mL + 11) + lc ≤ Rm.locals) (hroom : cells ≤ Rm.cells ∧ slots ≤ Rm.slots) (hcat : (rest.map fun v => v.category).sum ≤ 8) (kk : XW D lo p l e Rm s m args below meth c nL cells slots Q R ad w' (pc + 3) lv (.long rv :: rest)) : XW D lo p l e Rm s m args below meth c nL cells slots Q R ad w pc lv (st) := x_callVl F As hM hc hv hl hr hw hcl hst hn hdg hR hroom hcat (fun r u h => by obtain ⟨rfl, rfl⟩ := h; exact kk)
theorem z_callSl (F : k_F p m c cc nL s own D cy lo) {index mL n fr lc : Nat} {y : MethodName} {b : ByteArray} {ret : Option FieldType} {rv : Int64} (As : List Value) (hM : k_Cl l y b mL ret fr lc D cy lo R ad w (As) rv w') (hc : k_Mc y b mL ret n) (hv : k_Ms y) (hl : Cond.methodLink own index y ∈ lw_tbl) (hst : st = As.reverse ++ rest) (hn : As.length = n) (hdg : decode cc pc = .ok (.invokestatic index, 3)) (hR : fr + 1 ≤ Rm.frames ∧ 8 + (mL + 11) + lc ≤ Rm.locals) (hroom : cells ≤ Rm.cells ∧ slots ≤ Rm.slots) (hcat : (rest.map fun v => v.category).sum ≤ 8) (kk : XW D lo p l e Rm s m args below meth c nL cells slots Q R ad w' (pc + 3) lv (.long rv :: rest)) : XW D lo p l e Rm s m args below meth c nL cells slots Q R ad w pc lv (st) := x_callSl F As hM hc hv hl hst hn hdg hR hroom hcat (fun r u h => by obtain ⟨rfl, rfl⟩ := h; exact kk)
theorem z_callSNl (F : k_F p m c cc nL s own D cy lo) {index mL n fr lc : Nat} {y : MethodName} {b : ByteArray} {ret : Option FieldType} {rv : Int64} (As : List Value) (hM : k_Cl l y b mL ret fr lc D cy lo R ad w (As) rv w') {host : String} (hc : k_Mc y b mL ret n) (hv : k_Ms y) (hl : Cond.methodLinkNest own index y host ∈ lw_tbl) (hst : st = As.reverse ++ rest) (hn : As.length = n) (hdg : decode cc pc = .ok (.invokestatic index, 3)) (hR : fr + 1 ≤ Rm.frames ∧ 8 + (mL + 11) + lc ≤ Rm.locals) (hroom : cells ≤ Rm.cells ∧ slots ≤ Rm.slots) (hcat : (rest.map fun v => v.category).sum ≤ 8) (kk : XW D lo p l e Rm s m args below meth c nL cells slots Q R ad w' (pc + 3) lv (.long rv :: rest)) : XW D lo p l e Rm s m args below meth c nL cells slots Q R ad w pc lv (st) := x_callSNl F As hM hc hv hl hst hn hdg hR hroom hcat (fun r u h => by obtain ⟨rfl, rfl⟩ := h; exact kk)
theorem z_callVv (F : k_F p m c cc nL s own D cy lo) {index mL n fr lc : Nat} {y : MethodName} {b : ByteArray} {ret : Option FieldType} (As : List Value) {r0 ci : Nat} {fs : List Value} {T : u_T} {N : Nat} (hM : k_Cv l y b mL ret fr lc D cy lo R ad w (.ref (ad r0) :: As) w') (hc : k_Mc y b mL ret n) (hv : k_Mv y) (hl : Cond.methodLink own index y ∈ lw_tbl) (hr : r0 ∈ R) (hw : w r0 = .inr (ci, fs)) (hcl : vwCl[ci]? = some (y.cls, T, N)) (hst : st = As.reverse ++ .ref (ad r0) :: rest) (hn : As.length = n) (hdg : decode cc pc = .ok (.invokevirtual index, 3)) (hR : fr + 1 ≤ Rm.frames ∧ 8 + (mL + 11) + lc ≤ Rm.locals) (hroom : cells ≤ Rm.cells ∧ slots ≤ Rm.slots) (hcat : (rest.map fun v => v.category).sum ≤ 8) (kk : XW D lo p l e Rm s m args below meth c nL cells slots Q R ad w' (pc + 3) lv (rest)) : XW D lo p l e Rm s m args below meth c nL cells slots Q R ad w pc lv (st) := x_callVv F As hM hc hv hl hr hw hcl hst hn hdg hR hroom hcat (fun u h => by subst h; exact kk)
theorem z_callSv (F : k_F p m c cc nL s own D cy lo) {index mL n fr lc : Nat} {y : MethodName} {b : ByteArray} {ret : Option FieldType} (As : List Value) (hM : k_Cv l y b mL ret fr lc D cy lo R ad w (As) w') (hc : k_Mc y b mL ret n) (hv : k_Ms y) (hl : Cond.methodLink own index y ∈ lw_tbl) (hst : st = As.reverse ++ rest) (hn : As.length = n) (hdg : decode cc pc = .ok (.invokestatic index, 3)) (hR : fr + 1 ≤ Rm.frames ∧ 8 + (mL + 11) + lc ≤ Rm.locals) (hroom : cells ≤ Rm.cells ∧ slots ≤ Rm.slots) (hcat : (rest.map fun v => v.category).sum ≤ 8) (kk : XW D lo p l e Rm s m args below meth c nL cells slots Q R ad w' (pc + 3) lv (rest)) : XW D lo p l e Rm s m args below meth c nL cells slots Q R ad w pc lv (st) := x_callSv F As hM hc hv hl hst hn hdg hR hroom hcat (fun u h => by subst h; exact kk)
theorem z_callSNv (F : k_F p m c cc nL s own D cy lo) {index mL n fr lc : Nat} {y : MethodName} {b : ByteArray} {ret : Option FieldType} (As : List Value) (hM : k_Cv l y b mL ret fr lc D cy lo R ad w (As) w') {host : String} (hc : k_Mc y b mL ret n) (hv : k_Ms y) (hl : Cond.methodLinkNest own index y host ∈ lw_tbl) (hst : st = As.reverse ++ rest) (hn : As.length = n) (hdg : decode cc pc = .ok (.invokestatic index, 3)) (hR : fr + 1 ≤ Rm.frames ∧ 8 + (mL + 11) + lc ≤ Rm.locals) (hroom : cells ≤ Rm.cells ∧ slots ≤ Rm.slots) (hcat : (rest.map fun v => v.category).sum ≤ 8) (kk : XW D lo p l e Rm s m args below meth c nL cells slots Q R ad w' (pc + 3) lv (rest)) : XW D lo p l e Rm s m args below meth c nL cells slots Q R ad w pc lv (st) := x_callSNv F As hM hc hv hl hst hn hdg hR hroom hcat (fun u h => by subst h; exact kk)
theorem z_callVix (F : k_F p m c cc nL s own D cy lo) {index mL n fr lc mc ms : Nat} {y : MethodName} {b : ByteArray} {ret : Option FieldType} {ok : Prop} {xp : String → Prop} {rv : Int32} (As : List Value) {r0 ci : Nat} {fs : List Value} {T : u_T} {N : Nat} (hM : k_Xi l y b mL ret fr lc mc ms D cy lo R ad w (.ref (ad r0) :: As) ok xp rv w') (hc : k_Mc y b mL ret n) (hv : k_Mv y) (hl : Cond.methodLink own index y ∈ lw_tbl) (hr : r0 ∈ R) (hw : w r0 = .inr (ci, fs)) (hcl : vwCl[ci]? = some (y.cls, T, N)) (hst : st = As.reverse ++ .ref (ad r0) :: rest) (hn : As.length = n) (hdg : decode cc pc = .ok (.invokevirtual index, 3)) (hR : fr + 1 ≤ Rm.frames ∧ 8 + (mL + 11) + lc ≤ Rm.locals) (hroom : cells + mc ≤ Rm.cells ∧ slots + ms ≤ Rm.slots) (hcat : (rest.map fun v => v.category).sum ≤ 8) (kx : ∀ E : String, xp E → XT D lo p l e Rm s m args below meth c nL (cells + mc) (slots + ms) Q R ad w pc lv rest E) (kk : ok → XW D lo p l e Rm s m args below meth c nL (cells + mc) (slots + ms) Q R ad w' (pc + 3) lv (.int rv :: rest)) : XW D lo p l e Rm s m args below meth c nL cells slots Q R ad w pc lv (st) := x_callVix F As hM hc hv hl hr hw hcl hst hn hdg hR hroom hcat (fun E u h => by obtain ⟨h0, rfl⟩ := h; exact kx E h0) (fun r u h => by obtain ⟨h0, rfl, rfl⟩ := h; exact kk h0)
theorem z_callSix (F : k_F p m c cc nL s own D cy lo) {index mL n fr lc mc ms : Nat} {y : MethodName} {b : ByteArray} {ret : Option FieldType} {ok : Prop} {xp : String → Prop} {rv : Int32} (As : List Value) (hM : k_Xi l y b mL ret fr lc mc ms D cy lo R ad w (As) ok xp rv w') (hc : k_Mc y b mL ret n) (hv : k_Ms y) (hl : Cond.methodLink own index y ∈ lw_tbl) (hst : st = As.reverse ++ rest) (hn : As.length = n) (hdg : decode cc pc = .ok (.invokestatic index, 3)) (hR : fr + 1 ≤ Rm.frames ∧ 8 + (mL + 11) + lc ≤ Rm.locals) (hroom : cells + mc ≤ Rm.cells ∧ slots + ms ≤ Rm.slots) (hcat : (rest.map fun v => v.category).sum ≤ 8) (kx : ∀ E : String, xp E → XT D lo p l e Rm s m args below meth c nL (cells + mc) (slots + ms) Q R ad w pc lv rest E) (kk : ok → XW D lo p l e Rm s m args below meth c nL (cells + mc) (slots + ms) Q R ad w' (pc + 3) lv (.int rv :: rest)) : XW D lo p l e Rm s m args below meth c nL cells slots Q R ad w pc lv (st) := x_callSix F As hM hc hv hl hst hn hdg hR hroom hcat (fun E u h => by obtain ⟨h0, rfl⟩ := h; exact kx E h0) (fun r u h => by obtain ⟨h0, rfl, rfl⟩ := h; exact kk h0)
theorem z_callVlx (F : k_F p m c cc nL s own D cy lo) {index mL n fr lc mc ms : Nat} {y : MethodName} {b : ByteArray} {ret : Option FieldType} {ok : Prop} {xp : String → Prop} {rv : Int64} (As : List Value) {r0 ci : Nat} {fs : List Value} {T : u_T} {N : Nat} (hM : k_Xl l y b mL ret fr lc mc ms D cy lo R ad w (.ref (ad r0) :: As) ok xp rv w') (hc : k_Mc y b mL ret n) (hv : k_Mv y) (hl : Cond.methodLink own index y ∈ lw_tbl) (hr : r0 ∈ R) (hw : w r0 = .inr (ci, fs)) (hcl : vwCl[ci]? = some (y.cls, T, N)) (hst : st = As.reverse ++ .ref (ad r0) :: rest) (hn : As.length = n) (hdg : decode cc pc = .ok (.invokevirtual index, 3)) (hR : fr + 1 ≤ Rm.frames ∧ 8 + (mL + 11) + lc ≤ Rm.locals) (hroom : cells + mc ≤ Rm.cells ∧ slots + ms ≤ Rm.slots) (hcat : (rest.map fun v => v.category).sum ≤ 8) (kx : ∀ E : String, xp E → XT D lo p l e Rm s m args below meth c nL (cells + mc) (slots + ms) Q R ad w pc lv rest E) (kk : ok → XW D lo p l e Rm s m args below meth c nL (cells + mc) (slots + ms) Q R ad w' (pc + 3) lv (.long rv :: rest)) : XW D lo p l e Rm s m args below meth c nL cells slots Q R ad w pc lv (st) := x_callVlx F As hM hc hv hl hr hw hcl hst hn hdg hR hroom hcat (fun E u h => by obtain ⟨h0, rfl⟩ := h; exact kx E h0) (fun r u h => by obtain ⟨h0, rfl, rfl⟩ := h; exact kk h0)
theorem z_callSlx (F : k_F p m c cc nL s own D cy lo) {index mL n fr lc mc ms : Nat} {y : MethodName} {b : ByteArray} {ret : Option FieldType} {ok : Prop} {xp : String → Prop} {rv : Int64} (As : List Value) (hM : k_Xl l y b mL ret fr lc mc ms D cy lo R ad w (As) ok xp rv w') (hc : k_Mc y b mL ret n) (hv : k_Ms y) (hl : Cond.methodLink own index y ∈ lw_tbl) (hst : st = As.reverse ++ rest) (hn : As.length = n) (hdg : decode cc pc = .ok (.invokestatic index, 3)) (hR : fr + 1 ≤ Rm.frames ∧ 8 + (mL + 11) + lc ≤ Rm.locals) (hroom : cells + mc ≤ Rm.cells ∧ slots + ms ≤ Rm.slots) (hcat : (rest.map fun v => v.category).sum ≤ 8) (kx : ∀ E : String, xp E → XT D lo p l e Rm s m args below meth c nL (cells + mc) (slots + ms) Q R ad w pc lv rest E) (kk : ok → XW D lo p l e Rm s m args below meth c nL (cells + mc) (slots + ms) Q R ad w' (pc + 3) lv (.long rv :: rest)) : XW D lo p l e Rm s m args below meth c nL cells slots Q R ad w pc lv (st) := x_callSlx F As hM hc hv hl hst hn hdg hR hroom hcat (fun E u h => by obtain ⟨h0, rfl⟩ := h; exact kx E h0) (fun r u h => by obtain ⟨h0, rfl, rfl⟩ := h; exact kk h0)
theorem z_callVvx (F : k_F p m c cc nL s own D cy lo) {index mL n fr lc mc ms : Nat} {y : MethodName} {b : ByteArray} {ret : Option FieldType} {ok : Prop} {xp : String → Prop} (As : List Value) {r0 ci : Nat} {fs : List Value} {T : u_T} {N : Nat} (hM : k_Xv l y b mL ret fr lc mc ms D cy lo R ad w (.ref (ad r0) :: As) ok xp w') (hc : k_Mc y b mL ret n) (hv : k_Mv y) (hl : Cond.methodLink own index y ∈ lw_tbl) (hr : r0 ∈ R) (hw : w r0 = .inr (ci, fs)) (hcl : vwCl[ci]? = some (y.cls, T, N)) (hst : st = As.reverse ++ .ref (ad r0) :: rest) (hn : As.length = n) (hdg : decode cc pc = .ok (.invokevirtual index, 3)) (hR : fr + 1 ≤ Rm.frames ∧ 8 + (mL + 11) + lc ≤ Rm.locals) (hroom : cells + mc ≤ Rm.cells ∧ slots + ms ≤ Rm.slots) (hcat : (rest.map fun v => v.category).sum ≤ 8) (kx : ∀ E : String, xp E → XT D lo p l e Rm s m args below meth c nL (cells + mc) (slots + ms) Q R ad w pc lv rest E) (kk : ok → XW D lo p l e Rm s m args below meth c nL (cells + mc) (slots + ms) Q R ad w' (pc + 3) lv (rest)) : XW D lo p l e Rm s m args below meth c nL cells slots Q R ad w pc lv (st) := x_callVvx F As hM hc hv hl hr hw hcl hst hn hdg hR hroom hcat (fun E u h => by obtain ⟨h0, rfl⟩ := h; exact kx E h0) (fun u h => by obtain ⟨h0, rfl⟩ := h; exact kk h0)
theorem z_callSvx (F : k_F p m c cc nL s own D cy lo) {index mL n fr lc mc ms : Nat} {y : MethodName} {b : ByteArray} {ret : Option FieldType} {ok : Prop} {xp : String → Prop} (As : List Value) (hM : k_Xv l y b mL ret fr lc mc ms D cy lo R ad w (As) ok xp w') (hc : k_Mc y b mL ret n) (hv : k_Ms y) (hl : Cond.methodLink own index y ∈ lw_tbl) (hst : st = As.reverse ++ rest) (hn : As.length = n) (hdg : decode cc pc = .ok (.invokestatic index, 3)) (hR : fr + 1 ≤ Rm.frames ∧ 8 + (mL + 11) + lc ≤ Rm.locals) (hroom : cells + mc ≤ Rm.cells ∧ slots + ms ≤ Rm.slots) (hcat : (rest.map fun v => v.category).sum ≤ 8) (kx : ∀ E : String, xp E → XT D lo p l e Rm s m args below meth c nL (cells + mc) (slots + ms) Q R ad w pc lv rest E) (kk : ok → XW D lo p l e Rm s m args below meth c nL (cells + mc) (slots + ms) Q R ad w' (pc + 3) lv (rest)) : XW D lo p l e Rm s m args below meth c nL cells slots Q R ad w pc lv (st) := x_callSvx F As hM hc hv hl hst hn hdg hR hroom hcat (fun E u h => by obtain ⟨h0, rfl⟩ := h; exact kx E h0) (fun u h => by obtain ⟨h0, rfl⟩ := h; exact kk h0)
theorem z_callVqx (F : k_F p m c cc nL s own D cy lo) {index mL n fr lc mc ms : Nat} {y : MethodName} {b : ByteArray} {ret : Option FieldType} {ok : Prop} {xp : String → Prop} {rv : Option Nat} (As : List Value) {r0 ci : Nat} {fs : List Value} {T : u_T} {N : Nat} (hM : k_Xq l y b mL ret fr lc mc ms D cy lo R ad w (.ref (ad r0) :: As) ok xp rv w') (hc : k_Mc y b mL ret n) (hv : k_Mv y) (hl : Cond.methodLink own index y ∈ lw_tbl) (hr : r0 ∈ R) (hw : w r0 = .inr (ci, fs)) (hcl : vwCl[ci]? = some (y.cls, T, N)) (hst : st = As.reverse ++ .ref (ad r0) :: rest) (hn : As.length = n) (hdg : decode cc pc = .ok (.invokevirtual index, 3)) (hR : fr + 1 ≤ Rm.frames ∧ 8 + (mL + 11) + lc ≤ Rm.locals) (hroom : cells + mc ≤ Rm.cells ∧ slots + ms ≤ Rm.slots) (hcat : (rest.map fun v => v.category).sum ≤ 8) (kx : ∀ E : String, xp E → XT D lo p l e Rm s m args below meth c nL (cells + mc) (slots + ms) Q R ad w pc lv rest E) (kk : ok → XW D lo p l e Rm s m args below meth c nL (cells + mc) (slots + ms) Q R ad w' (pc + 3) lv (va_rf rv :: rest)) : XW D lo p l e Rm s m args below meth c nL cells slots Q R ad w pc lv (st) := x_callVqx F As hM hc hv hl hr hw hcl hst hn hdg hR hroom hcat (fun E u h => by obtain ⟨h0, rfl⟩ := h; exact kx E h0) (fun r u h => by obtain ⟨h0, rfl, rfl⟩ := h; exact kk h0)
theorem z_callSqx (F : k_F p m c cc nL s own D cy lo) {index mL n fr lc mc ms : Nat} {y : MethodName} {b : ByteArray} {ret : Option FieldType} {ok : Prop} {xp : String → Prop} {rv : Option Nat} (As : List Value) (hM : k_Xq l y b mL ret fr lc mc ms D cy lo R ad w (As) ok xp rv w') (hc : k_Mc y b mL ret n) (hv : k_Ms y) (hl : Cond.methodLink own index y ∈ lw_tbl) (hst : st = As.reverse ++ rest) (hn : As.length = n) (hdg : decode cc pc = .ok (.invokestatic index, 3)) (hR : fr + 1 ≤ Rm.frames ∧ 8 + (mL + 11) + lc ≤ Rm.locals) (hroom : cells + mc ≤ Rm.cells ∧ slots + ms ≤ Rm.slots) (hcat : (rest.map fun v => v.category).sum ≤ 8) (kx : ∀ E : String, xp E → XT D lo p l e Rm s m args below meth c nL (cells + mc) (slots + ms) Q R ad w pc lv rest E) (kk : ok → XW D lo p l e Rm s m args below meth c nL (cells + mc) (slots + ms) Q R ad w' (pc + 3) lv (va_rf rv :: rest)) : XW D lo p l e Rm s m args below meth c nL cells slots Q R ad w pc lv (st) := x_callSqx F As hM hc hv hl hst hn hdg hR hroom hcat (fun E u h => by obtain ⟨h0, rfl⟩ := h; exact kx E h0) (fun r u h => by obtain ⟨h0, rfl, rfl⟩ := h; exact kk h0)
theorem z_min (F : k_F p m c cc nL s own D cy lo) {x y : Int32} {index : Nat} (hl : Cond.methodLink own index Lib.Math.min.name ∈ lw_tbl) (hs : Cond.static Lib.Math.min.name ∈ lw_tbl) (hi : Cond.initialized "java/lang/Math" ∈ lw_tbl) (hcd : Cond.code Lib.Math.min.name Lib.Math.min.code 2 (some .int) ∈ lw_tbl) (hR : 1 ≤ Rm.frames ∧ (st.map fun v => v.category).sum + 13 ≤ Rm.locals ∧ cells ≤ Rm.cells ∧ slots ≤ Rm.slots) (hdg : decode cc pc = .ok (.invokestatic index, 3)) (kk : XW D lo p l e Rm s m args below meth c nL cells slots Q R ad w (pc + 3) lv (.int (if y < x then y else x) :: st)) : XW D lo p l e Rm s m args below meth c nL cells slots Q R ad w pc lv (.int y :: .int x :: st) := fun H locs ls hP hD hS hl0 => va_mmin F.1 F.2.1 (by rw [F.2.2.1, hl0.1]) F.2.2.2.1 (F.2.2.2.2.wm hl rfl args) (F.2.2.2.2.wm hs rfl args) (F.2.2.2.2.wm hi rfl args) (F.2.2.2.2.wm hcd rfl args) hR.1 hR.2.1 hR.2.2.1 hR.2.2.2 hdg (kk H locs ls hP hD hS hl0)
end KZ
end
section
section KMORE
variable {D : va_G} {cy : Nat → ClassId} {lo : Nat} {p : Program} {l : Launch} {e : Env} {Rm : Room} {s : State} {m : MethodId} {args : Array Value} {below : List Frame} {meth : Method} {c : Code} {nL cells slots : Nat} {Q : State → Prop} {R : List Nat} {ad : Nat → Nat} {w : Nat → va_E} {pc : Nat} {lv : List (Nat × Value)} {st : List Value}
/-- a reference read from a row: it is there, or null -/
theorem x_rf {b : Prop} [Decidable b] {a : Nat} (ht : b → XW D lo p l e Rm s m args below meth c nL cells slots Q R ad w pc lv (.ref a :: st)) (hf : ¬ b → XW D lo p l e Rm s m args below meth c nL cells slots Q R ad w pc lv (.null :: st)) : XW D lo p l e Rm s m args below meth c nL cells slots Q R ad w pc lv (va_rf (if b then some a else none) :: st) := by
  by_cases h : b
  · rw [if_pos h]; exact ht h
  · rw [if_neg h]; exact hf h
end KMORE
/-- an int read as a carrier, in a range, as a pair's place -/
def isCar (c : Int32) : Bool := !decide (c < 0) && !decide (5 ≤ c)
def isWi (v a b : Int32) : Bool := !decide (v < a) && !decide (b < v)
def pairI (a b : Int32) : Int32 := if (isCar a && isCar b) = true then a * 5 + b else -1
set_option maxRecDepth 100000 in
theorem ms_min : Cond.static Lib.Math.min.name ∈ lw_tbl := List.mem_of_getElem? (i := 381) (by decide +kernel)
set_option maxRecDepth 100000 in
theorem mc_min : Cond.code Lib.Math.min.name Lib.Math.min.code 2 (some .int) ∈ lw_tbl := List.mem_of_getElem? (i := 382) (by decide +kernel)
set_option maxRecDepth 100000 in
theorem ik_Math : Cond.initialized "java/lang/Math" ∈ lw_tbl := List.mem_of_getElem? (i := 36) (by decide +kernel)
end
section
/-- a contract, its end named Q -/
theorem k_metQ {l : Launch} {y : MethodName} {cc : ByteArray} {maxL : Nat} {ret : Option FieldType} {rm : Room} {D : va_G} {cy : Nat → ClassId} {lo : Nat} {R : List Nat} {ad : Nat → Nat} {w : Nat → va_E} {av : List Value} {Qc : Array Value → State → Outcome → State → Prop}
    (hy : plainName y.cls = true) (hav : (lg_sl av).length ≤ maxL)
    (body : ∀ p e s m args below meth c Q, k_F p m c cc maxL s y.cls D cy lo → meth.sig.returnType = ret → meth.locks = false → meth.name = y.name → Q = MQ below Qc args s rm.cells rm.slots (lA lo) → XW D lo p l e rm s m args below meth c maxL 0 0 Q R ad w 0 (lv_args 0 av) []) :
    k_Met l y cc maxL ret rm D cy lo R ad w av Qc :=
  k_met hy hav (fun p e s m below meth c F hr hlk hnm => body p e s m _ below meth c _ F hr hlk hnm rfl)
/-- .. of a method that may throw -/
theorem k_metXQ {l : Launch} {y : MethodName} {cc : ByteArray} {maxL : Nat} {ret : Option FieldType} {rm : Room} {D : va_G} {cy : Nat → ClassId} {lo : Nat} {R : List Nat} {ad : Nat → Nat} {w : Nat → va_E} {av : List Value} {Qc : Array Value → State → Outcome → State → Prop} {xpost : String → k_S → Prop}
    (hy : plainName y.cls = true) (hav : (lg_sl av).length ≤ maxL)
    (body : ∀ p e s m args below meth c Q, k_F p m c cc maxL s y.cls D cy lo → meth.sig.returnType = ret → meth.locks = false → (∀ x ∈ c.exceptionTable.toList, False) → Q = vx_MQ below Qc (k_XC D lo xpost) args s rm.cells rm.slots (lA lo) → XW D lo p l e rm s m args below meth c maxL 0 0 Q R ad w 0 (lv_args 0 av) []) :
    k_MetX l y cc maxL ret rm D cy lo R ad w av Qc xpost :=
  k_metX hy hav (fun p e s m below meth c F hr hlk ht => body p e s m _ below meth c _ F hr hlk ht rfl)
theorem lp_exit {k N : Nat} (hN : N < 2 ^ 31) (hk : k ≤ N) (h : nI N ≤ nI k) : k = N := by
  rcases Nat.lt_or_ge k N with z | z
  · exact absurd h (nI_ge z hN)
  · omega
theorem lp_go {k N : Nat} (hN : N < 2 ^ 31) (hk : k ≤ N) (h : ¬ nI N ≤ nI k) : k < N := by
  rcases Nat.lt_or_ge k N with z | z
  · exact z
  · exact absurd (nI_le z (by omega)) h
end
section
section KMORE2
variable {D : va_G} {cy : Nat → ClassId} {lo : Nat} {p : Program} {l : Launch} {e : Env} {Rm : Room} {s : State} {m : MethodId} {args : Array Value} {below : List Frame} {meth : Method} {c : Code} {nL cells slots : Nat} {Q : State → Prop} {R : List Nat} {ad : Nat → Nat} {w : Nat → va_E} {pc : Nat} {lv : List (Nat × Value)} {st : List Value}
/-- the int on top by another name -/
theorem x_cast {x y : Int32} (h : x = y) (k : XW D lo p l e Rm s m args below meth c nL cells slots Q R ad w pc lv (.int y :: st)) : XW D lo p l e Rm s m args below meth c nL cells slots Q R ad w pc lv (.int x :: st) := h ▸ k
end KMORE2
end
section
set_option maxHeartbeats 4000000 in
set_option maxRecDepth 100000 in
/-- isWithin -/
theorem c_X4_isWithin (l : Launch) (D : va_G) (cy : Nat → ClassId) (lo : Nat) (R : List Nat) (ad : Nat → Nat) (w : Nat → va_E) (a b c : Int32) : k_Ci l yX4_isWithin cX4_isWithin 3 (some .boolean) 0 0 D cy lo R ad w [.int a, .int b, .int c] (k_b (isWi a b c)) w := by
  refine k_metQ (by decide +kernel) (Nat.le_of_ble_eq_true rfl) ?_
  intro p e s m args below meth c Q F hr hlk hnm hQ
  refine x_iload_n F dX4_isWithin_0 rfl 0 rfl ?_
  refine x_iload_n F dX4_isWithin_1 rfl 1 rfl ?_
  refine x_icmp_lt F 14 dX4_isWithin_2 (by decide) (fun h2 => ?_) (fun h2 => ?_)
  · refine x_iconst F (v := 0) dX4_isWithin_14 (by decide) ?_
    rw [hQ]
    exact x_zret F hr hlk (by decide) ⟨by simp [isWi, k_b, *], rfl⟩ dX4_isWithin_15
  · refine x_iload_n F dX4_isWithin_5 rfl 0 rfl ?_
    refine x_iload_n F dX4_isWithin_6 rfl 2 rfl ?_
    refine x_icmp_gt F 14 dX4_isWithin_7 (by decide) (fun h7 => ?_) (fun h7 => ?_)
    · refine x_iconst F (v := 0) dX4_isWithin_14 (by decide) ?_
      rw [hQ]
      exact x_zret F hr hlk (by decide) ⟨by simp [isWi, k_b, *], rfl⟩ dX4_isWithin_15
    · refine x_iconst F (v := 1) dX4_isWithin_10 (by decide) ?_
      refine x_goto F 15 dX4_isWithin_11 (by decide) ?_
      rw [hQ]
      exact x_zret F hr hlk (by decide) ⟨by simp [isWi, k_b, *], rfl⟩ dX4_isWithin_15
set_option maxHeartbeats 4000000 in
set_option maxRecDepth 100000 in
/-- isCarrier -/
theorem c_X4_isCarrier (l : Launch) (D : va_G) (cy : Nat → ClassId) (lo : Nat) (R : List Nat) (ad : Nat → Nat) (w : Nat → va_E) (a : Int32) : k_Ci l yX4_isCarrier cX4_isCarrier 1 (some .boolean) 0 0 D cy lo R ad w [.int a] (k_b (isCar a)) w := by
  refine k_metQ (by decide +kernel) (Nat.le_of_ble_eq_true rfl) ?_
  intro p e s m args below meth c Q F hr hlk hnm hQ
  refine x_iload_n F dX4_isCarrier_0 rfl 0 rfl ?_
  refine x_if_lt F 13 dX4_isCarrier_1 (by decide) (fun h1 => ?_) (fun h1 => ?_)
  · refine x_iconst F (v := 0) dX4_isCarrier_13 (by decide) ?_
    rw [hQ]
    exact x_zret F hr hlk (by decide) ⟨by simp [isCar, k_b, *], rfl⟩ dX4_isCarrier_14
  · refine x_iload_n F dX4_isCarrier_4 rfl 0 rfl ?_
    refine x_iconst F (v := 5) dX4_isCarrier_5 (by decide) ?_
    refine x_icmp_ge F 13 dX4_isCarrier_6 (by decide) (fun h6 => ?_) (fun h6 => ?_)
    · refine x_iconst F (v := 0) dX4_isCarrier_13 (by decide) ?_
      rw [hQ]
      exact x_zret F hr hlk (by decide) ⟨by simp [isCar, k_b, *], rfl⟩ dX4_isCarrier_14
    · refine x_iconst F (v := 1) dX4_isCarrier_9 (by decide) ?_
      refine x_goto F 14 dX4_isCarrier_10 (by decide) ?_
      rw [hQ]
      exact x_zret F hr hlk (by decide) ⟨by simp [isCar, k_b, *], rfl⟩ dX4_isCarrier_14
set_option maxHeartbeats 4000000 in
set_option maxRecDepth 100000 in
/-- pairOf -/
theorem c_X4_pairOf (l : Launch) (D : va_G) (cy : Nat → ClassId) (lo : Nat) (R : List Nat) (ad : Nat → Nat) (w : Nat → va_E) (a b : Int32) : k_Ci l yX4_pairOf cX4_pairOf 3 (some .int) 0 0 D cy lo R ad w [.int a, .int b] (pairI a b) w := by
  refine k_metQ (by decide +kernel) (Nat.le_of_ble_eq_true rfl) ?_
  intro p e s m args below meth c Q F hr hlk hnm hQ
  refine x_iload_n F dX4_pairOf_0 rfl 0 rfl ?_
  refine x_if_lt F 22 dX4_pairOf_1 (by decide) (fun h1 => ?_) (fun h1 => ?_)
  · refine x_iconst F (v := 0) dX4_pairOf_22 (by decide) ?_
    refine x_istore_n F [(2, .int 0), (0, .int a), (1, .int b)] dX4_pairOf_23 rfl (by decide) rfl ?_
    refine x_iload_n F dX4_pairOf_24 rfl 0 rfl ?_
    refine x_if_eq F 36 dX4_pairOf_25 (by decide) (fun h25 => ?_) (fun h25 => ?_)
    · refine x_iconst F (v := -1) dX4_pairOf_36 (by decide) ?_
      rw [hQ]
      exact x_iret F hr hlk ⟨by simp [pairI, isCar, *], rfl⟩ dX4_pairOf_37
    · exact False.elim (by revert h25; decide)
  · refine x_iload_n F dX4_pairOf_4 rfl 0 rfl ?_
    refine x_iconst F (v := 5) dX4_pairOf_5 (by decide) ?_
    refine x_icmp_ge F 22 dX4_pairOf_6 (by decide) (fun h6 => ?_) (fun h6 => ?_)
    · refine x_iconst F (v := 0) dX4_pairOf_22 (by decide) ?_
      refine x_istore_n F [(2, .int 0), (0, .int a), (1, .int b)] dX4_pairOf_23 rfl (by decide) rfl ?_
      refine x_iload_n F dX4_pairOf_24 rfl 0 rfl ?_
      refine x_if_eq F 36 dX4_pairOf_25 (by decide) (fun h25 => ?_) (fun h25 => ?_)
      · refine x_iconst F (v := -1) dX4_pairOf_36 (by decide) ?_
        rw [hQ]
        exact x_iret F hr hlk ⟨by simp [pairI, isCar, *], rfl⟩ dX4_pairOf_37
      · exact False.elim (by revert h25; decide)
    · refine x_iload_n F dX4_pairOf_9 rfl 1 rfl ?_
      refine x_if_lt F 22 dX4_pairOf_10 (by decide) (fun h10 => ?_) (fun h10 => ?_)
      · refine x_iconst F (v := 0) dX4_pairOf_22 (by decide) ?_
        refine x_istore_n F [(2, .int 0), (0, .int a), (1, .int b)] dX4_pairOf_23 rfl (by decide) rfl ?_
        refine x_iload_n F dX4_pairOf_24 rfl 0 rfl ?_
        refine x_if_eq F 36 dX4_pairOf_25 (by decide) (fun h25 => ?_) (fun h25 => ?_)
        · refine x_iconst F (v := -1) dX4_pairOf_36 (by decide) ?_
          rw [hQ]
          exact x_iret F hr hlk ⟨by simp [pairI, isCar, *], rfl⟩ dX4_pairOf_37
        · exact False.elim (by revert h25; decide)
      · refine x_iload_n F dX4_pairOf_13 rfl 1 rfl ?_
        refine x_iconst F (v := 5) dX4_pairOf_14 (by decide) ?_
        refine x_icmp_ge F 22 dX4_pairOf_15 (by decide) (fun h15 => ?_) (fun h15 => ?_)
        · refine x_iconst F (v := 0) dX4_pairOf_22 (by decide) ?_
          refine x_istore_n F [(2, .int 0), (0, .int a), (1, .int b)] dX4_pairOf_23 rfl (by decide) rfl ?_
          refine x_iload_n F dX4_pairOf_24 rfl 0 rfl ?_
          refine x_if_eq F 36 dX4_pairOf_25 (by decide) (fun h25 => ?_) (fun h25 => ?_)
          · refine x_iconst F (v := -1) dX4_pairOf_36 (by decide) ?_
            rw [hQ]
            exact x_iret F hr hlk ⟨by simp [pairI, isCar, *], rfl⟩ dX4_pairOf_37
          · exact False.elim (by revert h25; decide)
        · refine x_iconst F (v := 1) dX4_pairOf_18 (by decide) ?_
          refine x_goto F 23 dX4_pairOf_19 (by decide) ?_
          refine x_istore_n F [(2, .int 1), (0, .int a), (1, .int b)] dX4_pairOf_23 rfl (by decide) rfl ?_
          refine x_iload_n F dX4_pairOf_24 rfl 0 rfl ?_
          refine x_if_eq F 36 dX4_pairOf_25 (by decide) (fun h25 => ?_) (fun h25 => ?_)
          · exact False.elim (by revert h25; decide)
          · refine x_iload_n F dX4_pairOf_28 rfl 1 rfl ?_
            refine x_iconst F (v := 5) dX4_pairOf_29 (by decide) ?_
            refine x_imul F dX4_pairOf_30 ?_
            refine x_iload_n F dX4_pairOf_31 rfl 2 rfl ?_
            refine x_iadd F dX4_pairOf_32 ?_
            refine x_goto F 37 dX4_pairOf_33 (by decide) ?_
            rw [hQ]
            exact x_iret F hr hlk ⟨by simp [pairI, isCar, *], rfl⟩ dX4_pairOf_37
set_option maxHeartbeats 4000000 in
set_option maxRecDepth 100000 in
/-- isIn -/
theorem c_X5_isIn (l : Launch) (D : va_G) (cy : Nat → ClassId) (lo : Nat) (R : List Nat) (ad : Nat → Nat) (w : Nat → va_E) (a b c : Int32) : k_Ci l yX5_isIn cX5_isIn 3 (some .boolean) 0 0 D cy lo R ad w [.int a, .int b, .int c] (k_b (isWi a b c)) w := by
  refine k_metQ (by decide +kernel) (Nat.le_of_ble_eq_true rfl) ?_
  intro p e s m args below meth c Q F hr hlk hnm hQ
  refine x_iload_n F dX5_isIn_0 rfl 0 rfl ?_
  refine x_iload_n F dX5_isIn_1 rfl 1 rfl ?_
  refine x_icmp_lt F 14 dX5_isIn_2 (by decide) (fun h2 => ?_) (fun h2 => ?_)
  · refine x_iconst F (v := 0) dX5_isIn_14 (by decide) ?_
    rw [hQ]
    exact x_zret F hr hlk (by decide) ⟨by simp [isWi, k_b, *], rfl⟩ dX5_isIn_15
  · refine x_iload_n F dX5_isIn_5 rfl 0 rfl ?_
    refine x_iload_n F dX5_isIn_6 rfl 2 rfl ?_
    refine x_icmp_gt F 14 dX5_isIn_7 (by decide) (fun h7 => ?_) (fun h7 => ?_)
    · refine x_iconst F (v := 0) dX5_isIn_14 (by decide) ?_
      rw [hQ]
      exact x_zret F hr hlk (by decide) ⟨by simp [isWi, k_b, *], rfl⟩ dX5_isIn_15
    · refine x_iconst F (v := 1) dX5_isIn_10 (by decide) ?_
      refine x_goto F 15 dX5_isIn_11 (by decide) ?_
      rw [hQ]
      exact x_zret F hr hlk (by decide) ⟨by simp [isWi, k_b, *], rfl⟩ dX5_isIn_15
end
section
/-! what the methods answer, as their code has it -/
theorem vin_lt {i : Int32} {n : Nat} (hn : n < 2 ^ 31) (h0 : ¬ i < 0) (h1 : i < nI n) : vp_in i n := by
  rw [vp_in_iff]
  have h2 : (0 : Int32).toInt = 0 := rfl
  rw [Int32.lt_iff_toInt_lt, h2] at h0
  rw [Int32.lt_iff_toInt_lt, nI_toInt hn] at h1
  omega
def isP (k : Int32) : Bool := !decide (k < 0) && !decide (25 ≤ k)
def rateF (I : Nat → Nat → Int32) (a b : Int32) : Int32 := if isP (pairI a b) = true then I 8 (pairI a b).toNatClampNeg else -1
def setLinkI (I : Nat → Nat → Int32) (a b x t : Int32) : Nat → Nat → Int32 := if isP (pairI a b) = true then wI (wI I 8 (pairI a b).toNatClampNeg x) 9 (pairI a b).toNatClampNeg t else I
def debtF (J : Nat → Nat → Int64) (a b : Int32) : Int64 := if isP (pairI a b) = true then J 10 (pairI a b).toNatClampNeg else 0
def addJ (J : Nat → Nat → Int64) (r k : Nat) (x : Int64) : Nat → Nat → Int64 := wJ J r k (J r k + x)
def addDebtJ (J : Nat → Nat → Int64) (a b : Int32) (x : Int64) : Nat → Nat → Int64 :=
  if isP (pairI a b) = true ∧ isP (pairI b a) = true then wJ (addJ J 10 (pairI a b).toNatClampNeg x) 10 (pairI b a).toNatClampNeg ((addJ J 10 (pairI a b).toNatClampNeg x) 10 (pairI b a).toNatClampNeg - x) else J
def openF (I : Nat → Nat → Int32) (J : Nat → Nat → Int64) (a b : Int32) : Bool :=
  isP (pairI a b) && !decide (I 8 (pairI a b).toNatClampNeg = -1) && !decide ((I 9 (pairI a b).toNatClampNeg).toInt64 < J 10 (pairI a b).toNatClampNeg + (I 8 (pairI a b).toNatClampNeg).toInt64)
def isPl (n p : Int32) : Bool := !decide (p < 0) && !decide (n ≤ p) && !decide (5 ≤ p)
def carAt (I : Nat → Nat → Int32) (r : Nat) (p : Int32) : Int32 := if isPl (I r 1) p = true then I (r + 1) p.toNatClampNeg else -1
def addRI (I : Nat → Nat → Int32) (r : Nat) (x : Int32) : Nat → Nat → Int32 := if (!decide (I r 1 < 0) && !decide (5 ≤ I r 1)) = true then wI (wI I (r + 1) (I r 1).toNatClampNeg x) r 1 ((wI I (r + 1) (I r 1).toNatClampNeg x) r 1 + 1) else I
set_option maxHeartbeats 4000000 in
set_option maxRecDepth 100000 in
/-- Route.carrierAt -/
theorem c_X1_carrierAt (l : Launch) (D : va_G) (cy : Nat → ClassId) (lo : Nat) (R : List Nat) (ad : Nat → Nat) (q : Nat → Nat → Nat) (ns nt : Nat) (I : Nat → Nat → Int32) (J : Nat → Nat → Int64) (hR : ∀ r, r < 36 → r ∈ R) (r : Nat) (x : Int32) (hk : r = 6 ∨ (80 ≤ r ∧ r % 4 = 1)) (hm : r ∈ R) (hn : r + 1 ∈ R) : k_Ci l yX1_carrierAt cX1_carrierAt 2 (some .int) 0 0 D cy lo R ad (k_c cy ad q ns nt I J) [.ref (ad r), .int x] (carAt I r x) (k_c cy ad q ns nt I J) := by
  refine k_metQ (by decide +kernel) (Nat.le_of_ble_eq_true rfl) ?_
  intro p e s m args below meth c Q F hr hlk hnm hQ
  refine x_iload_n F dX1_carrierAt_0 rfl 1 rfl ?_
  refine x_if_lt F 26 dX1_carrierAt_1 (by decide) (fun h1 => ?_) (fun h1 => ?_)
  · refine x_iconst F (v := -1) dX1_carrierAt_26 (by decide) ?_
    rw [hQ]
    exact x_iret F hr hlk ⟨by simp [carAt, isPl, *], by simp [carAt, isPl, *]⟩ dX1_carrierAt_27
  · refine x_iload_n F dX1_carrierAt_4 rfl 1 rfl ?_
    refine x_aload_n F dX1_carrierAt_5 rfl 0 rfl ?_
    refine g_X1_15 F hm (sc_rte hk) rfl dX1_carrierAt_6 ?_
    refine x_icmp_ge F 26 dX1_carrierAt_9 (by decide) (fun h9 => ?_) (fun h9 => ?_)
    · refine x_iconst F (v := -1) dX1_carrierAt_26 (by decide) ?_
      rw [hQ]
      exact x_iret F hr hlk ⟨by simp [carAt, isPl, *], by simp [carAt, isPl, *]⟩ dX1_carrierAt_27
    · refine x_iload_n F dX1_carrierAt_12 rfl 1 rfl ?_
      refine x_iconst F (v := 5) dX1_carrierAt_13 (by decide) ?_
      refine x_icmp_ge F 26 dX1_carrierAt_14 (by decide) (fun h14 => ?_) (fun h14 => ?_)
      · refine x_iconst F (v := -1) dX1_carrierAt_26 (by decide) ?_
        rw [hQ]
        exact x_iret F hr hlk ⟨by simp [carAt, isPl, *], by simp [carAt, isPl, *]⟩ dX1_carrierAt_27
      · refine x_aload_n F dX1_carrierAt_17 rfl 0 rfl ?_
        refine g_X1_9 F hm (sc_rte hk) rfl dX1_carrierAt_18 ?_
        refine x_iload_n F dX1_carrierAt_21 rfl 1 rfl ?_
        refine y_iald F hn (ss_rtc hk) (by first | exact vin_of (n := 5) (by decide) ‹_› ‹_› | exact vin_lt (n := 5) (by decide) ‹_› ‹_›) dX1_carrierAt_22 ?_
        refine x_goto F 27 dX1_carrierAt_23 (by decide) ?_
        rw [hQ]
        exact x_iret F hr hlk ⟨by simp [carAt, isPl, *], by simp [carAt, isPl, *]⟩ dX1_carrierAt_27
set_option maxHeartbeats 4000000 in
set_option maxRecDepth 100000 in
/-- Route.clear -/
theorem c_X1_clear (l : Launch) (D : va_G) (cy : Nat → ClassId) (lo : Nat) (R : List Nat) (ad : Nat → Nat) (q : Nat → Nat → Nat) (ns nt : Nat) (I : Nat → Nat → Int32) (J : Nat → Nat → Int64) (hR : ∀ r, r < 36 → r ∈ R) (r : Nat) (hk : r = 6 ∨ (80 ≤ r ∧ r % 4 = 1)) (hm : r ∈ R) (hn : r + 1 ∈ R) : k_Cv l yX1_clear cX1_clear 1 none 0 0 D cy lo R ad (k_c cy ad q ns nt I J) [.ref (ad r)] (k_c cy ad q ns nt (wI I r 1 0) J) := by
  refine k_metQ (by decide +kernel) (Nat.le_of_ble_eq_true rfl) ?_
  intro p e s m args below meth c Q F hr hlk hnm hQ
  refine x_aload_n F dX1_clear_0 rfl 0 rfl ?_
  refine x_iconst F (v := 0) dX1_clear_1 (by decide) ?_
  refine p_X1_15 F hm (ss_rte hk) dX1_clear_2 ?_
  rw [hQ]
  exact x_vret F hr hlk (by simp [wI, *]) dX1_clear_5
set_option maxHeartbeats 4000000 in
set_option maxRecDepth 100000 in
/-- Route.add -/
theorem c_X1_add (l : Launch) (D : va_G) (cy : Nat → ClassId) (lo : Nat) (R : List Nat) (ad : Nat → Nat) (q : Nat → Nat → Nat) (ns nt : Nat) (I : Nat → Nat → Int32) (J : Nat → Nat → Int64) (hR : ∀ r, r < 36 → r ∈ R) (r : Nat) (x : Int32) (hk : r = 6 ∨ (80 ≤ r ∧ r % 4 = 1)) (hm : r ∈ R) (hn : r + 1 ∈ R) : k_Cv l yX1_add cX1_add 2 none 0 0 D cy lo R ad (k_c cy ad q ns nt I J) [.ref (ad r), .int x] (k_c cy ad q ns nt (addRI I r x) J) := by
  refine k_metQ (by decide +kernel) (Nat.le_of_ble_eq_true rfl) ?_
  intro p e s m args below meth c Q F hr hlk hnm hQ
  refine x_aload_n F dX1_add_0 rfl 0 rfl ?_
  refine g_X1_15 F hm (sc_rte hk) rfl dX1_add_1 ?_
  refine x_if_lt F 35 dX1_add_4 (by decide) (fun h4 => ?_) (fun h4 => ?_)
  · rw [hQ]
    exact x_vret F hr hlk (by simp [addRI, *]) dX1_add_35
  · refine x_aload_n F dX1_add_7 rfl 0 rfl ?_
    refine g_X1_15 F hm (sc_rte hk) rfl dX1_add_8 ?_
    refine x_iconst F (v := 5) dX1_add_11 (by decide) ?_
    refine x_icmp_ge F 35 dX1_add_12 (by decide) (fun h12 => ?_) (fun h12 => ?_)
    · rw [hQ]
      exact x_vret F hr hlk (by simp [addRI, *]) dX1_add_35
    · refine x_aload_n F dX1_add_15 rfl 0 rfl ?_
      refine g_X1_9 F hm (sc_rte hk) rfl dX1_add_16 ?_
      refine x_aload_n F dX1_add_19 rfl 0 rfl ?_
      refine g_X1_15 F hm (sc_rte hk) rfl dX1_add_20 ?_
      refine x_iload_n F dX1_add_23 rfl 1 rfl ?_
      refine y_iast F hn (ss_rtc hk) (by first | exact vin_of (n := 5) (by decide) ‹_› ‹_› | exact vin_lt (n := 5) (by decide) ‹_› ‹_›) dX1_add_24 ?_
      refine x_aload_n F dX1_add_25 rfl 0 rfl ?_
      refine x_dup F dX1_add_26 rfl ?_
      refine g_X1_15 F hm (sc_rte hk) rfl dX1_add_27 ?_
      refine x_iconst F (v := 1) dX1_add_30 (by decide) ?_
      refine x_iadd F dX1_add_31 ?_
      refine p_X1_15 F hm (ss_rte hk) dX1_add_32 ?_
      rw [hQ]
      exact x_vret F hr hlk (by simp [addRI, *]) dX1_add_35
set_option maxHeartbeats 4000000 in
set_option maxRecDepth 100000 in
/-- Network.rateOf -/
theorem c_X0_rateOf (l : Launch) (D : va_G) (cy : Nat → ClassId) (lo : Nat) (R : List Nat) (ad : Nat → Nat) (q : Nat → Nat → Nat) (ns nt : Nat) (I : Nat → Nat → Int32) (J : Nat → Nat → Int64) (hR : ∀ r, r < 36 → r ∈ R) (a : Int32) (b : Int32) : k_Ci l yX0_rateOf cX0_rateOf 4 (some .int) 1 22 D cy lo R ad (k_c cy ad q ns nt I J) [.ref (ad 3), .int a, .int b] (rateF I a b) (k_c cy ad q ns nt I J) := by
  refine k_metQ (by decide +kernel) (Nat.le_of_ble_eq_true rfl) ?_
  intro p e s m args below meth c Q F hr hlk hnm hQ
  refine x_iload_n F dX0_rateOf_0 rfl 1 rfl ?_
  refine x_iload_n F dX0_rateOf_1 rfl 2 rfl ?_
  refine z_callSNi F [.int a, .int b] (c_X4_pairOf l D cy lo R ad _ a b) mc_X4_pairOf ms_X4_pairOf lk_X0_31 rfl rfl dX0_rateOf_2 ⟨Nat.le_of_ble_eq_true rfl, Nat.le_of_ble_eq_true rfl⟩ ⟨Nat.le_of_ble_eq_true rfl, Nat.le_of_ble_eq_true rfl⟩ (Nat.le_of_ble_eq_true rfl) ?_
  refine x_istore_n F [(3, .int (pairI a b)), (0, .ref (ad 3)), (1, .int a), (2, .int b)] dX0_rateOf_5 rfl (by decide) rfl ?_
  refine x_iload_n F dX0_rateOf_6 rfl 0 rfl ?_
  refine x_if_lt F 25 dX0_rateOf_7 (by decide) (fun h7 => ?_) (fun h7 => ?_)
  · refine x_iconst F (v := -1) dX0_rateOf_25 (by decide) ?_
    rw [hQ]
    exact x_iret F hr hlk ⟨by simp [rateF, isP, *], by simp [rateF, isP, *]⟩ dX0_rateOf_26
  · refine x_iload_n F dX0_rateOf_10 rfl 0 rfl ?_
    refine x_bipush F (v := 25) dX0_rateOf_11 (by decide) ?_
    refine x_icmp_ge F 25 dX0_rateOf_13 (by decide) (fun h13 => ?_) (fun h13 => ?_)
    · refine x_iconst F (v := -1) dX0_rateOf_25 (by decide) ?_
      rw [hQ]
      exact x_iret F hr hlk ⟨by simp [rateF, isP, *], by simp [rateF, isP, *]⟩ dX0_rateOf_26
    · refine x_aload_n F dX0_rateOf_16 rfl 1 rfl ?_
      refine g_X0_9 F (hR 3 (by decide)) sc_3 rfl dX0_rateOf_17 ?_
      refine x_iload_n F dX0_rateOf_20 rfl 0 rfl ?_
      refine y_iald F (hR 8 (by decide)) ss_8 (by first | exact vin_of (n := 25) (by decide) ‹_› ‹_› | exact vin_lt (n := 25) (by decide) ‹_› ‹_›) dX0_rateOf_21 ?_
      refine x_goto F 26 dX0_rateOf_22 (by decide) ?_
      rw [hQ]
      exact x_iret F hr hlk ⟨by simp [rateF, isP, *], by simp [rateF, isP, *]⟩ dX0_rateOf_26
set_option maxHeartbeats 4000000 in
set_option maxRecDepth 100000 in
/-- Network.setLink -/
theorem c_X0_setLink (l : Launch) (D : va_G) (cy : Nat → ClassId) (lo : Nat) (R : List Nat) (ad : Nat → Nat) (q : Nat → Nat → Nat) (ns nt : Nat) (I : Nat → Nat → Int32) (J : Nat → Nat → Int64) (hR : ∀ r, r < 36 → r ∈ R) (a : Int32) (b : Int32) (x : Int32) (t : Int32) : k_Cv l yX0_setLink cX0_setLink 6 none 1 22 D cy lo R ad (k_c cy ad q ns nt I J) [.ref (ad 3), .int a, .int b, .int x, .int t] (k_c cy ad q ns nt (setLinkI I a b x t) J) := by
  refine k_metQ (by decide +kernel) (Nat.le_of_ble_eq_true rfl) ?_
  intro p e s m args below meth c Q F hr hlk hnm hQ
  refine x_iload_n F dX0_setLink_0 rfl 1 rfl ?_
  refine x_iload_n F dX0_setLink_1 rfl 2 rfl ?_
  refine z_callSNi F [.int a, .int b] (c_X4_pairOf l D cy lo R ad _ a b) mc_X4_pairOf ms_X4_pairOf lk_X0_31 rfl rfl dX0_setLink_2 ⟨Nat.le_of_ble_eq_true rfl, Nat.le_of_ble_eq_true rfl⟩ ⟨Nat.le_of_ble_eq_true rfl, Nat.le_of_ble_eq_true rfl⟩ (Nat.le_of_ble_eq_true rfl) ?_
  refine x_istore F [(5, .int (pairI a b)), (0, .ref (ad 3)), (1, .int a), (2, .int b), (3, .int x), (4, .int t)] dX0_setLink_5 (by decide) rfl ?_
  refine x_iload F dX0_setLink_7 0 rfl ?_
  refine x_if_lt F 36 dX0_setLink_9 (by decide) (fun h9 => ?_) (fun h9 => ?_)
  · rw [hQ]
    exact x_vret F hr hlk (by simp [setLinkI, isP, *]) dX0_setLink_36
  · refine x_iload F dX0_setLink_12 0 rfl ?_
    refine x_bipush F (v := 25) dX0_setLink_14 (by decide) ?_
    refine x_icmp_ge F 36 dX0_setLink_16 (by decide) (fun h16 => ?_) (fun h16 => ?_)
    · rw [hQ]
      exact x_vret F hr hlk (by simp [setLinkI, isP, *]) dX0_setLink_36
    · refine x_aload_n F dX0_setLink_19 rfl 1 rfl ?_
      refine g_X0_9 F (hR 3 (by decide)) sc_3 rfl dX0_setLink_20 ?_
      refine x_iload F dX0_setLink_23 0 rfl ?_
      refine x_iload_n F dX0_setLink_25 rfl 4 rfl ?_
      refine y_iast F (hR 8 (by decide)) ss_8 (by first | exact vin_of (n := 25) (by decide) ‹_› ‹_› | exact vin_lt (n := 25) (by decide) ‹_› ‹_›) dX0_setLink_26 ?_
      refine x_aload_n F dX0_setLink_27 rfl 1 rfl ?_
      refine g_X0_15 F (hR 3 (by decide)) sc_3 rfl dX0_setLink_28 ?_
      refine x_iload F dX0_setLink_31 0 rfl ?_
      refine x_iload F dX0_setLink_33 5 rfl ?_
      refine y_iast F (hR 9 (by decide)) ss_9 (by first | exact vin_of (n := 25) (by decide) ‹_› ‹_› | exact vin_lt (n := 25) (by decide) ‹_› ‹_›) dX0_setLink_35 ?_
      rw [hQ]
      exact x_vret F hr hlk (by simp [setLinkI, isP, *]) dX0_setLink_36
set_option maxHeartbeats 4000000 in
set_option maxRecDepth 100000 in
/-- Network.debtOf -/
theorem c_X0_debtOf (l : Launch) (D : va_G) (cy : Nat → ClassId) (lo : Nat) (R : List Nat) (ad : Nat → Nat) (q : Nat → Nat → Nat) (ns nt : Nat) (I : Nat → Nat → Int32) (J : Nat → Nat → Int64) (hR : ∀ r, r < 36 → r ∈ R) (a : Int32) (b : Int32) : k_Cl l yX0_debtOf cX0_debtOf 4 (some .long) 1 22 D cy lo R ad (k_c cy ad q ns nt I J) [.ref (ad 3), .int a, .int b] (debtF J a b) (k_c cy ad q ns nt I J) := by
  refine k_metQ (by decide +kernel) (Nat.le_of_ble_eq_true rfl) ?_
  intro p e s m args below meth c Q F hr hlk hnm hQ
  refine x_iload_n F dX0_debtOf_0 rfl 1 rfl ?_
  refine x_iload_n F dX0_debtOf_1 rfl 2 rfl ?_
  refine z_callSNi F [.int a, .int b] (c_X4_pairOf l D cy lo R ad _ a b) mc_X4_pairOf ms_X4_pairOf lk_X0_31 rfl rfl dX0_debtOf_2 ⟨Nat.le_of_ble_eq_true rfl, Nat.le_of_ble_eq_true rfl⟩ ⟨Nat.le_of_ble_eq_true rfl, Nat.le_of_ble_eq_true rfl⟩ (Nat.le_of_ble_eq_true rfl) ?_
  refine x_istore_n F [(3, .int (pairI a b)), (0, .ref (ad 3)), (1, .int a), (2, .int b)] dX0_debtOf_5 rfl (by decide) rfl ?_
  refine x_iload_n F dX0_debtOf_6 rfl 0 rfl ?_
  refine x_if_lt F 25 dX0_debtOf_7 (by decide) (fun h7 => ?_) (fun h7 => ?_)
  · refine x_lconst F (v := 0) dX0_debtOf_25 (by decide) ?_
    rw [hQ]
    exact x_lret F hr hlk ⟨by simp [debtF, isP, *], by simp [debtF, isP, *]⟩ dX0_debtOf_26
  · refine x_iload_n F dX0_debtOf_10 rfl 0 rfl ?_
    refine x_bipush F (v := 25) dX0_debtOf_11 (by decide) ?_
    refine x_icmp_ge F 25 dX0_debtOf_13 (by decide) (fun h13 => ?_) (fun h13 => ?_)
    · refine x_lconst F (v := 0) dX0_debtOf_25 (by decide) ?_
      rw [hQ]
      exact x_lret F hr hlk ⟨by simp [debtF, isP, *], by simp [debtF, isP, *]⟩ dX0_debtOf_26
    · refine x_aload_n F dX0_debtOf_16 rfl 1 rfl ?_
      refine g_X0_18 F (hR 3 (by decide)) sc_3 rfl dX0_debtOf_17 ?_
      refine x_iload_n F dX0_debtOf_20 rfl 0 rfl ?_
      refine y_lald F (hR 10 (by decide)) ss_10 (by first | exact vin_of (n := 25) (by decide) ‹_› ‹_› | exact vin_lt (n := 25) (by decide) ‹_› ‹_›) dX0_debtOf_21 ?_
      refine x_goto F 26 dX0_debtOf_22 (by decide) ?_
      rw [hQ]
      exact x_lret F hr hlk ⟨by simp [debtF, isP, *], by simp [debtF, isP, *]⟩ dX0_debtOf_26
set_option maxHeartbeats 4000000 in
set_option maxRecDepth 100000 in
/-- Network.addDebt -/
theorem c_X0_addDebt (l : Launch) (D : va_G) (cy : Nat → ClassId) (lo : Nat) (R : List Nat) (ad : Nat → Nat) (q : Nat → Nat → Nat) (ns nt : Nat) (I : Nat → Nat → Int32) (J : Nat → Nat → Int64) (hR : ∀ r, r < 36 → r ∈ R) (a : Int32) (b : Int32) (x : Int64) : k_Cv l yX0_addDebt cX0_addDebt 7 none 1 22 D cy lo R ad (k_c cy ad q ns nt I J) [.ref (ad 3), .int a, .int b, .long x] (k_c cy ad q ns nt I (addDebtJ J a b x)) := by
  refine k_metQ (by decide +kernel) (Nat.le_of_ble_eq_true rfl) ?_
  intro p e s m args below meth c Q F hr hlk hnm hQ
  refine x_iload_n F dX0_addDebt_0 rfl 1 rfl ?_
  refine x_iload_n F dX0_addDebt_1 rfl 2 rfl ?_
  refine z_callSNi F [.int a, .int b] (c_X4_pairOf l D cy lo R ad _ a b) mc_X4_pairOf ms_X4_pairOf lk_X0_31 rfl rfl dX0_addDebt_2 ⟨Nat.le_of_ble_eq_true rfl, Nat.le_of_ble_eq_true rfl⟩ ⟨Nat.le_of_ble_eq_true rfl, Nat.le_of_ble_eq_true rfl⟩ (Nat.le_of_ble_eq_true rfl) ?_
  refine x_istore F [(5, .int (pairI a b)), (0, .ref (ad 3)), (1, .int a), (2, .int b), (3, .long x)] dX0_addDebt_5 (by decide) rfl ?_
  refine x_iload_n F dX0_addDebt_7 rfl 3 rfl ?_
  refine x_iload_n F dX0_addDebt_8 rfl 2 rfl ?_
  refine z_callSNi F [.int b, .int a] (c_X4_pairOf l D cy lo R ad _ b a) mc_X4_pairOf ms_X4_pairOf lk_X0_31 rfl rfl dX0_addDebt_9 ⟨Nat.le_of_ble_eq_true rfl, Nat.le_of_ble_eq_true rfl⟩ ⟨Nat.le_of_ble_eq_true rfl, Nat.le_of_ble_eq_true rfl⟩ (Nat.le_of_ble_eq_true rfl) ?_
  refine x_istore F [(6, .int (pairI b a)), (5, .int (pairI a b)), (0, .ref (ad 3)), (1, .int a), (2, .int b), (3, .long x)] dX0_addDebt_12 (by decide) rfl ?_
  refine x_iload F dX0_addDebt_14 1 rfl ?_
  refine x_if_lt F 60 dX0_addDebt_16 (by decide) (fun h16 => ?_) (fun h16 => ?_)
  · rw [hQ]
    exact x_vret F hr hlk (by simp [addDebtJ, addJ, isP, *]) dX0_addDebt_60
  · refine x_iload F dX0_addDebt_19 1 rfl ?_
    refine x_bipush F (v := 25) dX0_addDebt_21 (by decide) ?_
    refine x_icmp_ge F 60 dX0_addDebt_23 (by decide) (fun h23 => ?_) (fun h23 => ?_)
    · rw [hQ]
      exact x_vret F hr hlk (by simp [addDebtJ, addJ, isP, *]) dX0_addDebt_60
    · refine x_iload F dX0_addDebt_26 0 rfl ?_
      refine x_if_lt F 60 dX0_addDebt_28 (by decide) (fun h28 => ?_) (fun h28 => ?_)
      · rw [hQ]
        exact x_vret F hr hlk (by simp [addDebtJ, addJ, isP, *]) dX0_addDebt_60
      · refine x_iload F dX0_addDebt_31 0 rfl ?_
        refine x_bipush F (v := 25) dX0_addDebt_33 (by decide) ?_
        refine x_icmp_ge F 60 dX0_addDebt_35 (by decide) (fun h35 => ?_) (fun h35 => ?_)
        · rw [hQ]
          exact x_vret F hr hlk (by simp [addDebtJ, addJ, isP, *]) dX0_addDebt_60
        · refine x_aload_n F dX0_addDebt_38 rfl 2 rfl ?_
          refine g_X0_18 F (hR 3 (by decide)) sc_3 rfl dX0_addDebt_39 ?_
          refine x_iload F dX0_addDebt_42 1 rfl ?_
          refine x_dup2 F dX0_addDebt_44 rfl rfl ?_
          refine y_lald F (hR 10 (by decide)) ss_10 (by first | exact vin_of (n := 25) (by decide) ‹_› ‹_› | exact vin_lt (n := 25) (by decide) ‹_› ‹_›) dX0_addDebt_45 ?_
          refine x_lload_n F dX0_addDebt_46 rfl 5 rfl ?_
          refine x_ladd F dX0_addDebt_47 ?_
          refine y_last F (hR 10 (by decide)) ss_10 (by first | exact vin_of (n := 25) (by decide) ‹_› ‹_› | exact vin_lt (n := 25) (by decide) ‹_› ‹_›) dX0_addDebt_48 ?_
          refine x_aload_n F dX0_addDebt_49 rfl 2 rfl ?_
          refine g_X0_18 F (hR 3 (by decide)) sc_3 rfl dX0_addDebt_50 ?_
          refine x_iload F dX0_addDebt_53 0 rfl ?_
          refine x_dup2 F dX0_addDebt_55 rfl rfl ?_
          refine y_lald F (hR 10 (by decide)) ss_10 (by first | exact vin_of (n := 25) (by decide) ‹_› ‹_› | exact vin_lt (n := 25) (by decide) ‹_› ‹_›) dX0_addDebt_56 ?_
          refine x_lload_n F dX0_addDebt_57 rfl 5 rfl ?_
          refine x_lsub F dX0_addDebt_58 ?_
          refine y_last F (hR 10 (by decide)) ss_10 (by first | exact vin_of (n := 25) (by decide) ‹_› ‹_› | exact vin_lt (n := 25) (by decide) ‹_› ‹_›) dX0_addDebt_59 ?_
          rw [hQ]
          exact x_vret F hr hlk (by simp [addDebtJ, addJ, isP, *]) dX0_addDebt_60
set_option maxHeartbeats 4000000 in
set_option maxRecDepth 100000 in
/-- Network.isOpen -/
theorem c_X0_isOpen (l : Launch) (D : va_G) (cy : Nat → ClassId) (lo : Nat) (R : List Nat) (ad : Nat → Nat) (q : Nat → Nat → Nat) (ns nt : Nat) (I : Nat → Nat → Int32) (J : Nat → Nat → Int64) (hR : ∀ r, r < 36 → r ∈ R) (a : Int32) (b : Int32) : k_Ci l yX0_isOpen cX0_isOpen 4 (some .boolean) 1 22 D cy lo R ad (k_c cy ad q ns nt I J) [.ref (ad 3), .int a, .int b] (k_b (openF I J a b)) (k_c cy ad q ns nt I J) := by
  refine k_metQ (by decide +kernel) (Nat.le_of_ble_eq_true rfl) ?_
  intro p e s m args below meth c Q F hr hlk hnm hQ
  refine x_iload_n F dX0_isOpen_0 rfl 1 rfl ?_
  refine x_iload_n F dX0_isOpen_1 rfl 2 rfl ?_
  refine z_callSNi F [.int a, .int b] (c_X4_pairOf l D cy lo R ad _ a b) mc_X4_pairOf ms_X4_pairOf lk_X0_31 rfl rfl dX0_isOpen_2 ⟨Nat.le_of_ble_eq_true rfl, Nat.le_of_ble_eq_true rfl⟩ ⟨Nat.le_of_ble_eq_true rfl, Nat.le_of_ble_eq_true rfl⟩ (Nat.le_of_ble_eq_true rfl) ?_
  refine x_istore_n F [(3, .int (pairI a b)), (0, .ref (ad 3)), (1, .int a), (2, .int b)] dX0_isOpen_5 rfl (by decide) rfl ?_
  refine x_iload_n F dX0_isOpen_6 rfl 0 rfl ?_
  refine x_if_lt F 55 dX0_isOpen_7 (by decide) (fun h7 => ?_) (fun h7 => ?_)
  · refine x_iconst F (v := 0) dX0_isOpen_55 (by decide) ?_
    rw [hQ]
    exact x_zret F hr hlk (by decide) ⟨by simp [openF, isP, k_b, *], by simp [openF, isP, k_b, *]⟩ dX0_isOpen_56
  · refine x_iload_n F dX0_isOpen_10 rfl 0 rfl ?_
    refine x_bipush F (v := 25) dX0_isOpen_11 (by decide) ?_
    refine x_icmp_ge F 55 dX0_isOpen_13 (by decide) (fun h13 => ?_) (fun h13 => ?_)
    · refine x_iconst F (v := 0) dX0_isOpen_55 (by decide) ?_
      rw [hQ]
      exact x_zret F hr hlk (by decide) ⟨by simp [openF, isP, k_b, *], by simp [openF, isP, k_b, *]⟩ dX0_isOpen_56
    · refine x_aload_n F dX0_isOpen_16 rfl 1 rfl ?_
      refine g_X0_9 F (hR 3 (by decide)) sc_3 rfl dX0_isOpen_17 ?_
      refine x_iload_n F dX0_isOpen_20 rfl 0 rfl ?_
      refine y_iald F (hR 8 (by decide)) ss_8 (by first | exact vin_of (n := 25) (by decide) ‹_› ‹_› | exact vin_lt (n := 25) (by decide) ‹_› ‹_›) dX0_isOpen_21 ?_
      refine x_iconst F (v := -1) dX0_isOpen_22 (by decide) ?_
      refine x_icmp_eq F 55 dX0_isOpen_23 (by decide) (fun h23 => ?_) (fun h23 => ?_)
      · refine x_iconst F (v := 0) dX0_isOpen_55 (by decide) ?_
        rw [hQ]
        exact x_zret F hr hlk (by decide) ⟨by simp [openF, isP, k_b, *], by simp [openF, isP, k_b, *]⟩ dX0_isOpen_56
      · refine x_aload_n F dX0_isOpen_26 rfl 1 rfl ?_
        refine g_X0_18 F (hR 3 (by decide)) sc_3 rfl dX0_isOpen_27 ?_
        refine x_iload_n F dX0_isOpen_30 rfl 0 rfl ?_
        refine y_lald F (hR 10 (by decide)) ss_10 (by first | exact vin_of (n := 25) (by decide) ‹_› ‹_› | exact vin_lt (n := 25) (by decide) ‹_› ‹_›) dX0_isOpen_31 ?_
        refine x_aload_n F dX0_isOpen_32 rfl 1 rfl ?_
        refine g_X0_9 F (hR 3 (by decide)) sc_3 rfl dX0_isOpen_33 ?_
        refine x_iload_n F dX0_isOpen_36 rfl 0 rfl ?_
        refine y_iald F (hR 8 (by decide)) ss_8 (by first | exact vin_of (n := 25) (by decide) ‹_› ‹_› | exact vin_lt (n := 25) (by decide) ‹_› ‹_›) dX0_isOpen_37 ?_
        refine x_i2l F dX0_isOpen_38 ?_
        refine x_ladd F dX0_isOpen_39 ?_
        refine x_aload_n F dX0_isOpen_40 rfl 1 rfl ?_
        refine g_X0_15 F (hR 3 (by decide)) sc_3 rfl dX0_isOpen_41 ?_
        refine x_iload_n F dX0_isOpen_44 rfl 0 rfl ?_
        refine y_iald F (hR 9 (by decide)) ss_9 (by first | exact vin_of (n := 25) (by decide) ‹_› ‹_› | exact vin_lt (n := 25) (by decide) ‹_› ‹_›) dX0_isOpen_45 ?_
        refine x_i2l F dX0_isOpen_46 ?_
        refine x_lcmp F dX0_isOpen_47 ?_
        refine x_if_gt F 55 dX0_isOpen_48 (by decide) (fun h48 => ?_) (fun h48 => ?_)
        · rw [lg_cmp_gt] at h48
          refine x_iconst F (v := 0) dX0_isOpen_55 (by decide) ?_
          rw [hQ]
          exact x_zret F hr hlk (by decide) ⟨by simp [openF, isP, k_b, *], by simp [openF, isP, k_b, *]⟩ dX0_isOpen_56
        · rw [lg_cmp_gt] at h48
          refine x_iconst F (v := 1) dX0_isOpen_51 (by decide) ?_
          refine x_goto F 56 dX0_isOpen_52 (by decide) ?_
          rw [hQ]
          exact x_zret F hr hlk (by decide) ⟨by simp [openF, isP, k_b, *], by simp [openF, isP, k_b, *]⟩ dX0_isOpen_56
end
section
def homeF (I : Nat → Nat → Int32) (r : Nat) (b : Int32) : Int32 := if (!decide (b < 0) && !decide (I r 1 ≤ b) && !decide (10 < I r 1)) = true then I (r + 1) (I r 1 - 1 - b).toNatClampNeg else -1
theorem vin_home {n b : Int32} (h0 : ¬ b < 0) (h1 : ¬ n ≤ b) (h2 : ¬ 10 < n) : vp_in (n - 1 - b) 10 := by
  rw [vp_in_iff]
  rw [Int32.lt_iff_toInt_lt] at h0 h2
  rw [Int32.le_iff_toInt_le] at h1
  have e0 : (0 : Int32).toInt = 0 := rfl
  have e1 : (1 : Int32).toInt = 1 := rfl
  have e2 : (10 : Int32).toInt = 10 := rfl
  rw [e0] at h0
  rw [e2] at h2
  have a1 : (n - 1).toInt = n.toInt - 1 := by
    rw [Int32.toInt_sub, e1, Int.bmod_eq_of_le (by omega) (by omega)]
  have a2 : (n - 1 - b).toInt = n.toInt - 1 - b.toInt := by
    rw [Int32.toInt_sub, a1, Int.bmod_eq_of_le (by omega) (by omega)]
  rw [a2]
  omega
def moveB (I : Nat → Nat → Int32) (r : Nat) : Bool := !decide (I r 1 < 0) && decide (I r 1 < 10)
def moveI (I : Nat → Nat → Int32) (r : Nat) (x : Int32) : Nat → Nat → Int32 := if moveB I r = true then wI (wI I (r + 1) (I r 1).toNatClampNeg x) r 1 ((wI I (r + 1) (I r 1).toNatClampNeg x) r 1 + 1) else I
def payB (I : Nat → Nat → Int32) (r : Nat) (x t : Int32) : Bool := !decide (I r 3 < x) || !decide (I r 2 < t)
def payI (I : Nat → Nat → Int32) (r : Nat) (x t : Int32) : Nat → Nat → Int32 := if I r 3 < x then (if I r 2 < t then I else wI I r 2 (I r 2 - t)) else wI I r 3 (I r 3 - x)
def dueF (I : Nat → Nat → Int32) (r : Nat) : Bool := !decide (I r 2 ≤ 0) && decide (I r 7 - I r 7 / I r 2 * I r 2 = 0)
def addChJ (J : Nat → Nat → Int64) (r : Nat) (k x : Int32) : Nat → Nat → Int64 := if isP k = true then addJ J (r + 3) k.toNatClampNeg x.toInt64 else J
def chF (J : Nat → Nat → Int64) (r : Nat) (k : Int32) : Int64 := if isP k = true then J (r + 3) k.toNatClampNeg else 0
def overF (I : Nat → Nat → Int32) (a b : Int32) : Int32 := (if isCar b = true then I 11 b.toNatClampNeg else 1000000) + rateF I a b * 8 + 1
theorem vin_car {c : Int32} (h : isCar c = true) : vp_in c 5 := by
  simp only [isCar, Bool.and_eq_true, Bool.not_eq_true', decide_eq_false_iff_not] at h
  exact vin_of (n := 5) (by decide) h.1 h.2
set_option maxHeartbeats 4000000 in
set_option maxRecDepth 100000 in
/-- Subscriber.homeAt -/
theorem c_X2_homeAt (l : Launch) (D : va_G) (cy : Nat → ClassId) (lo : Nat) (R : List Nat) (ad : Nat → Nat) (q : Nat → Nat → Nat) (ns nt : Nat) (I : Nat → Nat → Int32) (J : Nat → Nat → Int64) (hR : ∀ r, r < 36 → r ∈ R) (r : Nat) (x : Int32) (hk : 40 ≤ r ∧ r < 80 ∧ r % 2 = 0) (hm : r ∈ R) (hn : r + 1 ∈ R) : k_Ci l yX2_homeAt cX2_homeAt 2 (some .int) 0 0 D cy lo R ad (k_c cy ad q ns nt I J) [.ref (ad r), .int x] (homeF I r x) (k_c cy ad q ns nt I J) := by
  refine k_metQ (by decide +kernel) (Nat.le_of_ble_eq_true rfl) ?_
  intro p e s m args below meth c Q F hr hlk hnm hQ
  refine x_iload_n F dX2_homeAt_0 rfl 1 rfl ?_
  refine x_if_lt F 37 dX2_homeAt_1 (by decide) (fun h1 => ?_) (fun h1 => ?_)
  · refine x_iconst F (v := -1) dX2_homeAt_37 (by decide) ?_
    rw [hQ]
    exact x_iret F hr hlk ⟨by simp [homeF, *], by simp [homeF, *]⟩ dX2_homeAt_38
  · refine x_iload_n F dX2_homeAt_4 rfl 1 rfl ?_
    refine x_aload_n F dX2_homeAt_5 rfl 0 rfl ?_
    refine g_X2_15 F hm (sc_sub hk) rfl dX2_homeAt_6 ?_
    refine x_icmp_ge F 37 dX2_homeAt_9 (by decide) (fun h9 => ?_) (fun h9 => ?_)
    · refine x_iconst F (v := -1) dX2_homeAt_37 (by decide) ?_
      rw [hQ]
      exact x_iret F hr hlk ⟨by simp [homeF, *], by simp [homeF, *]⟩ dX2_homeAt_38
    · refine x_aload_n F dX2_homeAt_12 rfl 0 rfl ?_
      refine g_X2_15 F hm (sc_sub hk) rfl dX2_homeAt_13 ?_
      refine x_bipush F (v := 10) dX2_homeAt_16 (by decide) ?_
      refine x_icmp_gt F 37 dX2_homeAt_18 (by decide) (fun h18 => ?_) (fun h18 => ?_)
      · refine x_iconst F (v := -1) dX2_homeAt_37 (by decide) ?_
        rw [hQ]
        exact x_iret F hr hlk ⟨by simp [homeF, *], by simp [homeF, *]⟩ dX2_homeAt_38
      · refine x_aload_n F dX2_homeAt_21 rfl 0 rfl ?_
        refine g_X2_9 F hm (sc_sub hk) rfl dX2_homeAt_22 ?_
        refine x_aload_n F dX2_homeAt_25 rfl 0 rfl ?_
        refine g_X2_15 F hm (sc_sub hk) rfl dX2_homeAt_26 ?_
        refine x_iconst F (v := 1) dX2_homeAt_29 (by decide) ?_
        refine x_isub F dX2_homeAt_30 ?_
        refine x_iload_n F dX2_homeAt_31 rfl 1 rfl ?_
        refine x_isub F dX2_homeAt_32 ?_
        refine y_iald F hn (ss_chn hk) (vin_home ‹_› ‹_› ‹_›) dX2_homeAt_33 ?_
        refine x_goto F 38 dX2_homeAt_34 (by decide) ?_
        rw [hQ]
        exact x_iret F hr hlk ⟨by simp [homeF, *], by simp [homeF, *]⟩ dX2_homeAt_38
set_option maxHeartbeats 4000000 in
set_option maxRecDepth 100000 in
/-- Subscriber.moveTo -/
theorem c_X2_moveTo (l : Launch) (D : va_G) (cy : Nat → ClassId) (lo : Nat) (R : List Nat) (ad : Nat → Nat) (q : Nat → Nat → Nat) (ns nt : Nat) (I : Nat → Nat → Int32) (J : Nat → Nat → Int64) (hR : ∀ r, r < 36 → r ∈ R) (r : Nat) (x : Int32) (hk : 40 ≤ r ∧ r < 80 ∧ r % 2 = 0) (hm : r ∈ R) (hn : r + 1 ∈ R) : k_Ci l yX2_moveTo cX2_moveTo 2 (some .boolean) 0 0 D cy lo R ad (k_c cy ad q ns nt I J) [.ref (ad r), .int x] (k_b (moveB I r)) (k_c cy ad q ns nt (moveI I r x) J) := by
  refine k_metQ (by decide +kernel) (Nat.le_of_ble_eq_true rfl) ?_
  intro p e s m args below meth c Q F hr hlk hnm hQ
  refine x_aload_n F dX2_moveTo_0 rfl 0 rfl ?_
  refine g_X2_15 F hm (sc_sub hk) rfl dX2_moveTo_1 ?_
  refine x_if_lt F 16 dX2_moveTo_4 (by decide) (fun h4 => ?_) (fun h4 => ?_)
  · refine x_iconst F (v := 0) dX2_moveTo_16 (by decide) ?_
    rw [hQ]
    exact x_zret F hr hlk (by decide) ⟨by simp [moveI, moveB, k_b, *], by simp [moveI, moveB, k_b, *]⟩ dX2_moveTo_17
  · refine x_aload_n F dX2_moveTo_7 rfl 0 rfl ?_
    refine g_X2_15 F hm (sc_sub hk) rfl dX2_moveTo_8 ?_
    refine x_bipush F (v := 10) dX2_moveTo_11 (by decide) ?_
    refine x_icmp_lt F 18 dX2_moveTo_13 (by decide) (fun h13 => ?_) (fun h13 => ?_)
    · refine x_aload_n F dX2_moveTo_18 rfl 0 rfl ?_
      refine g_X2_9 F hm (sc_sub hk) rfl dX2_moveTo_19 ?_
      refine x_aload_n F dX2_moveTo_22 rfl 0 rfl ?_
      refine g_X2_15 F hm (sc_sub hk) rfl dX2_moveTo_23 ?_
      refine x_iload_n F dX2_moveTo_26 rfl 1 rfl ?_
      refine y_iast F hn (ss_chn hk) (by first | exact vin_of (n := 10) (by decide) ‹_› ‹_› | exact vin_lt (n := 10) (by decide) ‹_› ‹_›) dX2_moveTo_27 ?_
      refine x_aload_n F dX2_moveTo_28 rfl 0 rfl ?_
      refine x_dup F dX2_moveTo_29 rfl ?_
      refine g_X2_15 F hm (sc_sub hk) rfl dX2_moveTo_30 ?_
      refine x_iconst F (v := 1) dX2_moveTo_33 (by decide) ?_
      refine x_iadd F dX2_moveTo_34 ?_
      refine p_X2_15 F hm (ss_sub hk) dX2_moveTo_35 ?_
      refine x_iconst F (v := 1) dX2_moveTo_38 (by decide) ?_
      rw [hQ]
      exact x_zret F hr hlk (by decide) ⟨by simp [moveI, moveB, k_b, *], by simp [moveI, moveB, k_b, *]⟩ dX2_moveTo_39
    · refine x_iconst F (v := 0) dX2_moveTo_16 (by decide) ?_
      rw [hQ]
      exact x_zret F hr hlk (by decide) ⟨by simp [moveI, moveB, k_b, *], by simp [moveI, moveB, k_b, *]⟩ dX2_moveTo_17
set_option maxHeartbeats 4000000 in
set_option maxRecDepth 100000 in
/-- Subscriber.pay -/
theorem c_X2_pay (l : Launch) (D : va_G) (cy : Nat → ClassId) (lo : Nat) (R : List Nat) (ad : Nat → Nat) (q : Nat → Nat → Nat) (ns nt : Nat) (I : Nat → Nat → Int32) (J : Nat → Nat → Int64) (hR : ∀ r, r < 36 → r ∈ R) (r : Nat) (x : Int32) (t : Int32) (hk : 40 ≤ r ∧ r < 80 ∧ r % 2 = 0) (hm : r ∈ R) (hn : r + 1 ∈ R) : k_Ci l yX2_pay cX2_pay 3 (some .boolean) 0 0 D cy lo R ad (k_c cy ad q ns nt I J) [.ref (ad r), .int x, .int t] (k_b (payB I r x t)) (k_c cy ad q ns nt (payI I r x t) J) := by
  refine k_metQ (by decide +kernel) (Nat.le_of_ble_eq_true rfl) ?_
  intro p e s m args below meth c Q F hr hlk hnm hQ
  refine x_aload_n F dX2_pay_0 rfl 0 rfl ?_
  refine g_X2_22 F hm (sc_sub hk) rfl dX2_pay_1 ?_
  refine x_iload_n F dX2_pay_4 rfl 1 rfl ?_
  refine x_icmp_lt F 20 dX2_pay_5 (by decide) (fun h5 => ?_) (fun h5 => ?_)
  · refine x_aload_n F dX2_pay_20 rfl 0 rfl ?_
    refine g_X2_19 F hm (sc_sub hk) rfl dX2_pay_21 ?_
    refine x_iload_n F dX2_pay_24 rfl 2 rfl ?_
    refine x_icmp_lt F 40 dX2_pay_25 (by decide) (fun h25 => ?_) (fun h25 => ?_)
    · refine x_iconst F (v := 0) dX2_pay_40 (by decide) ?_
      rw [hQ]
      exact x_zret F hr hlk (by decide) ⟨by simp [payI, payB, k_b, *], by simp [payI, payB, k_b, *]⟩ dX2_pay_41
    · refine x_aload_n F dX2_pay_28 rfl 0 rfl ?_
      refine x_dup F dX2_pay_29 rfl ?_
      refine g_X2_19 F hm (sc_sub hk) rfl dX2_pay_30 ?_
      refine x_iload_n F dX2_pay_33 rfl 2 rfl ?_
      refine x_isub F dX2_pay_34 ?_
      refine p_X2_19 F hm (ss_sub hk) dX2_pay_35 ?_
      refine x_iconst F (v := 1) dX2_pay_38 (by decide) ?_
      rw [hQ]
      exact x_zret F hr hlk (by decide) ⟨by simp [payI, payB, k_b, *], by simp [payI, payB, k_b, *]⟩ dX2_pay_39
  · refine x_aload_n F dX2_pay_8 rfl 0 rfl ?_
    refine x_dup F dX2_pay_9 rfl ?_
    refine g_X2_22 F hm (sc_sub hk) rfl dX2_pay_10 ?_
    refine x_iload_n F dX2_pay_13 rfl 1 rfl ?_
    refine x_isub F dX2_pay_14 ?_
    refine p_X2_22 F hm (ss_sub hk) dX2_pay_15 ?_
    refine x_iconst F (v := 1) dX2_pay_18 (by decide) ?_
    rw [hQ]
    exact x_zret F hr hlk (by decide) ⟨by simp [payI, payB, k_b, *], by simp [payI, payB, k_b, *]⟩ dX2_pay_19
set_option maxHeartbeats 4000000 in
set_option maxRecDepth 100000 in
/-- Talk.isStepDue -/
theorem c_X3_isStepDue (l : Launch) (D : va_G) (cy : Nat → ClassId) (lo : Nat) (R : List Nat) (ad : Nat → Nat) (q : Nat → Nat → Nat) (ns nt : Nat) (I : Nat → Nat → Int32) (J : Nat → Nat → Int64) (hR : ∀ r, r < 36 → r ∈ R) (r : Nat) (hk : 80 ≤ r ∧ r % 4 = 0) (h0 : r ∈ R) (h1 : r + 1 ∈ R) (h2 : r + 1 + 1 ∈ R) (h3 : r + 3 ∈ R) : k_Ci l yX3_isStepDue cX3_isStepDue 1 (some .boolean) 0 0 D cy lo R ad (k_c cy ad q ns nt I J) [.ref (ad r)] (k_b (dueF I r)) (k_c cy ad q ns nt I J) := by
  refine k_metQ (by decide +kernel) (Nat.le_of_ble_eq_true rfl) ?_
  intro p e s m args below meth c Q F hr hlk hnm hQ
  refine x_aload_n F dX3_isStepDue_0 rfl 0 rfl ?_
  refine g_X3_33 F h0 (sc_tlk hk) rfl dX3_isStepDue_1 ?_
  refine x_if_le F 23 dX3_isStepDue_4 (by decide) (fun h4 => ?_) (fun h4 => ?_)
  · refine x_iconst F (v := 0) dX3_isStepDue_23 (by decide) ?_
    rw [hQ]
    exact x_zret F hr hlk (by decide) ⟨by simp [dueF, k_b, *], by simp [dueF, k_b, *]⟩ dX3_isStepDue_24
  · refine x_aload_n F dX3_isStepDue_7 rfl 0 rfl ?_
    refine g_X3_39 F h0 (sc_tlk hk) rfl dX3_isStepDue_8 ?_
    refine x_aload_n F dX3_isStepDue_11 rfl 0 rfl ?_
    refine g_X3_33 F h0 (sc_tlk hk) rfl dX3_isStepDue_12 ?_
    refine x_irem F dX3_isStepDue_15 (by intro h; simp_all) ?_
    refine x_if_ne F 23 dX3_isStepDue_16 (by decide) (fun h16 => ?_) (fun h16 => ?_)
    · refine x_iconst F (v := 0) dX3_isStepDue_23 (by decide) ?_
      rw [hQ]
      exact x_zret F hr hlk (by decide) ⟨by simp [dueF, k_b, *], by simp [dueF, k_b, *]⟩ dX3_isStepDue_24
    · refine x_iconst F (v := 1) dX3_isStepDue_19 (by decide) ?_
      refine x_goto F 24 dX3_isStepDue_20 (by decide) ?_
      rw [hQ]
      exact x_zret F hr hlk (by decide) ⟨by simp [dueF, k_b, *], by simp [dueF, k_b, *]⟩ dX3_isStepDue_24
set_option maxHeartbeats 4000000 in
set_option maxRecDepth 100000 in
/-- Talk.addCharge -/
theorem c_X3_addCharge (l : Launch) (D : va_G) (cy : Nat → ClassId) (lo : Nat) (R : List Nat) (ad : Nat → Nat) (q : Nat → Nat → Nat) (ns nt : Nat) (I : Nat → Nat → Int32) (J : Nat → Nat → Int64) (hR : ∀ r, r < 36 → r ∈ R) (r : Nat) (k : Int32) (x : Int32) (hk : 80 ≤ r ∧ r % 4 = 0) (h0 : r ∈ R) (h1 : r + 1 ∈ R) (h2 : r + 1 + 1 ∈ R) (h3 : r + 3 ∈ R) : k_Cv l yX3_addCharge cX3_addCharge 3 none 0 0 D cy lo R ad (k_c cy ad q ns nt I J) [.ref (ad r), .int k, .int x] (k_c cy ad q ns nt I (addChJ J r k x)) := by
  refine k_metQ (by decide +kernel) (Nat.le_of_ble_eq_true rfl) ?_
  intro p e s m args below meth c Q F hr hlk hnm hQ
  refine x_iload_n F dX3_addCharge_0 rfl 1 rfl ?_
  refine x_if_lt F 21 dX3_addCharge_1 (by decide) (fun h1 => ?_) (fun h1 => ?_)
  · rw [hQ]
    exact x_vret F hr hlk (by simp [addChJ, addJ, isP, *]) dX3_addCharge_21
  · refine x_iload_n F dX3_addCharge_4 rfl 1 rfl ?_
    refine x_bipush F (v := 25) dX3_addCharge_5 (by decide) ?_
    refine x_icmp_ge F 21 dX3_addCharge_7 (by decide) (fun h7 => ?_) (fun h7 => ?_)
    · rw [hQ]
      exact x_vret F hr hlk (by simp [addChJ, addJ, isP, *]) dX3_addCharge_21
    · refine x_aload_n F dX3_addCharge_10 rfl 0 rfl ?_
      refine g_X3_18 F h0 (sc_tlk hk) rfl dX3_addCharge_11 ?_
      refine x_iload_n F dX3_addCharge_14 rfl 1 rfl ?_
      refine x_dup2 F dX3_addCharge_15 rfl rfl ?_
      refine y_lald F h3 (ss_chg hk) (by first | exact vin_of (n := 25) (by decide) ‹_› ‹_› | exact vin_lt (n := 25) (by decide) ‹_› ‹_›) dX3_addCharge_16 ?_
      refine x_iload_n F dX3_addCharge_17 rfl 2 rfl ?_
      refine x_i2l F dX3_addCharge_18 ?_
      refine x_ladd F dX3_addCharge_19 ?_
      refine y_last F h3 (ss_chg hk) (by first | exact vin_of (n := 25) (by decide) ‹_› ‹_› | exact vin_lt (n := 25) (by decide) ‹_› ‹_›) dX3_addCharge_20 ?_
      rw [hQ]
      exact x_vret F hr hlk (by simp [addChJ, addJ, isP, *]) dX3_addCharge_21
set_option maxHeartbeats 4000000 in
set_option maxRecDepth 100000 in
/-- Talk.chargeOf -/
theorem c_X3_chargeOf (l : Launch) (D : va_G) (cy : Nat → ClassId) (lo : Nat) (R : List Nat) (ad : Nat → Nat) (q : Nat → Nat → Nat) (ns nt : Nat) (I : Nat → Nat → Int32) (J : Nat → Nat → Int64) (hR : ∀ r, r < 36 → r ∈ R) (r : Nat) (k : Int32) (hk : 80 ≤ r ∧ r % 4 = 0) (h0 : r ∈ R) (h1 : r + 1 ∈ R) (h2 : r + 1 + 1 ∈ R) (h3 : r + 3 ∈ R) : k_Cl l yX3_chargeOf cX3_chargeOf 2 (some .long) 0 0 D cy lo R ad (k_c cy ad q ns nt I J) [.ref (ad r), .int k] (chF J r k) (k_c cy ad q ns nt I J) := by
  refine k_metQ (by decide +kernel) (Nat.le_of_ble_eq_true rfl) ?_
  intro p e s m args below meth c Q F hr hlk hnm hQ
  refine x_iload_n F dX3_chargeOf_0 rfl 1 rfl ?_
  refine x_if_lt F 19 dX3_chargeOf_1 (by decide) (fun h1 => ?_) (fun h1 => ?_)
  · refine x_lconst F (v := 0) dX3_chargeOf_19 (by decide) ?_
    rw [hQ]
    exact x_lret F hr hlk ⟨by simp [chF, isP, *], by simp [chF, isP, *]⟩ dX3_chargeOf_20
  · refine x_iload_n F dX3_chargeOf_4 rfl 1 rfl ?_
    refine x_bipush F (v := 25) dX3_chargeOf_5 (by decide) ?_
    refine x_icmp_ge F 19 dX3_chargeOf_7 (by decide) (fun h7 => ?_) (fun h7 => ?_)
    · refine x_lconst F (v := 0) dX3_chargeOf_19 (by decide) ?_
      rw [hQ]
      exact x_lret F hr hlk ⟨by simp [chF, isP, *], by simp [chF, isP, *]⟩ dX3_chargeOf_20
    · refine x_aload_n F dX3_chargeOf_10 rfl 0 rfl ?_
      refine g_X3_18 F h0 (sc_tlk hk) rfl dX3_chargeOf_11 ?_
      refine x_iload_n F dX3_chargeOf_14 rfl 1 rfl ?_
      refine y_lald F h3 (ss_chg hk) (by first | exact vin_of (n := 25) (by decide) ‹_› ‹_› | exact vin_lt (n := 25) (by decide) ‹_› ‹_›) dX3_chargeOf_15 ?_
      refine x_goto F 20 dX3_chargeOf_16 (by decide) ?_
      rw [hQ]
      exact x_lret F hr hlk ⟨by simp [chF, isP, *], by simp [chF, isP, *]⟩ dX3_chargeOf_20
set_option maxHeartbeats 4000000 in
set_option maxRecDepth 100000 in
/-- Network.weightOver -/
theorem c_X0_weightOver (l : Launch) (D : va_G) (cy : Nat → ClassId) (lo : Nat) (R : List Nat) (ad : Nat → Nat) (q : Nat → Nat → Nat) (ns nt : Nat) (I : Nat → Nat → Int32) (J : Nat → Nat → Int64) (hR : ∀ r, r < 36 → r ∈ R) (a : Int32) (b : Int32) : k_Ci l yX0_weightOver cX0_weightOver 4 (some .int) 2 45 D cy lo R ad (k_c cy ad q ns nt I J) [.ref (ad 3), .int a, .int b] (overF I a b) (k_c cy ad q ns nt I J) := by
  refine k_metQ (by decide +kernel) (Nat.le_of_ble_eq_true rfl) ?_
  intro p e s m args below meth c Q F hr hlk hnm hQ
  refine x_iload_n F dX0_weightOver_0 rfl 2 rfl ?_
  refine z_callSNi F [.int b] (c_X4_isCarrier l D cy lo R ad _ b) mc_X4_isCarrier ms_X4_isCarrier lk_X0_66 rfl rfl dX0_weightOver_1 ⟨Nat.le_of_ble_eq_true rfl, Nat.le_of_ble_eq_true rfl⟩ ⟨Nat.le_of_ble_eq_true rfl, Nat.le_of_ble_eq_true rfl⟩ (Nat.le_of_ble_eq_true rfl) ?_
  refine x_if_eq F 16 dX0_weightOver_4 (by decide) (fun h4 => ?_) (fun h4 => ?_)
  · rw [kb0] at h4
    refine x_ldc F (v := 1000000) dX0_weightOver_16 370 (by decide +kernel) ?_
    refine x_istore_n F [(3, .int 1000000), (0, .ref (ad 3)), (1, .int a), (2, .int b)] dX0_weightOver_18 rfl (by decide) rfl ?_
    refine x_iload_n F dX0_weightOver_19 rfl 0 rfl ?_
    refine x_aload_n F dX0_weightOver_20 rfl 1 rfl ?_
    refine x_iload_n F dX0_weightOver_21 rfl 2 rfl ?_
    refine x_iload_n F dX0_weightOver_22 rfl 3 rfl ?_
    refine z_callVi F [.int a, .int b] (c_X0_rateOf l D cy lo R ad q ns nt I J hR a b ) mc_X0_rateOf mv_X0_rateOf lk_X0_49 (hR 3 (by decide)) sc_3 rfl rfl rfl dX0_weightOver_23 ⟨Nat.le_of_ble_eq_true rfl, Nat.le_of_ble_eq_true rfl⟩ ⟨Nat.le_of_ble_eq_true rfl, Nat.le_of_ble_eq_true rfl⟩ (Nat.le_of_ble_eq_true rfl) ?_
    refine x_bipush F (v := 8) dX0_weightOver_26 (by decide) ?_
    refine x_imul F dX0_weightOver_28 ?_
    refine x_iadd F dX0_weightOver_29 ?_
    refine x_iconst F (v := 1) dX0_weightOver_30 (by decide) ?_
    refine x_iadd F dX0_weightOver_31 ?_
    rw [hQ]
    exact x_iret F hr hlk ⟨by simp [overF, *], by simp [overF, *]⟩ dX0_weightOver_32
  · rw [kb1] at h4
    refine x_aload_n F dX0_weightOver_7 rfl 0 rfl ?_
    refine g_X0_22 F (hR 3 (by decide)) sc_3 rfl dX0_weightOver_8 ?_
    refine x_iload_n F dX0_weightOver_11 rfl 2 rfl ?_
    refine y_iald F (hR 11 (by decide)) ss_11 (vin_car ‹_›) dX0_weightOver_12 ?_
    refine x_goto F 18 dX0_weightOver_13 (by decide) ?_
    refine x_istore_n F [(3, .int (I 11 b.toNatClampNeg)), (0, .ref (ad 3)), (1, .int a), (2, .int b)] dX0_weightOver_18 rfl (by decide) rfl ?_
    refine x_iload_n F dX0_weightOver_19 rfl 0 rfl ?_
    refine x_aload_n F dX0_weightOver_20 rfl 1 rfl ?_
    refine x_iload_n F dX0_weightOver_21 rfl 2 rfl ?_
    refine x_iload_n F dX0_weightOver_22 rfl 3 rfl ?_
    refine z_callVi F [.int a, .int b] (c_X0_rateOf l D cy lo R ad q ns nt I J hR a b ) mc_X0_rateOf mv_X0_rateOf lk_X0_49 (hR 3 (by decide)) sc_3 rfl rfl rfl dX0_weightOver_23 ⟨Nat.le_of_ble_eq_true rfl, Nat.le_of_ble_eq_true rfl⟩ ⟨Nat.le_of_ble_eq_true rfl, Nat.le_of_ble_eq_true rfl⟩ (Nat.le_of_ble_eq_true rfl) ?_
    refine x_bipush F (v := 8) dX0_weightOver_26 (by decide) ?_
    refine x_imul F dX0_weightOver_28 ?_
    refine x_iadd F dX0_weightOver_29 ?_
    refine x_iconst F (v := 1) dX0_weightOver_30 (by decide) ?_
    refine x_iadd F dX0_weightOver_31 ?_
    rw [hQ]
    exact x_iret F hr hlk ⟨by simp [overF, *], by simp [overF, *]⟩ dX0_weightOver_32
end
section
/-! loops: a way's links, its cost, its charges; a route copied; the next carrier on the best way; the weights; the best way -/
def linkF (I : Nat → Nat → Int32) (J : Nat → Nat → Int64) (r k : Nat) : Bool := openF I J (carAt I r (nI k - 1)) (carAt I r (nI k))
def alongF (I : Nat → Nat → Int32) (J : Nat → Nat → Int64) (r : Nat) : Nat → Bool
  | 0 => true
  | k + 1 => alongF I J r k && (k == 0 || linkF I J r k)
theorem along_no {I : Nat → Nat → Int32} {J : Nat → Nat → Int64} {r k : Nat} (h1 : 1 ≤ k) (h : linkF I J r k = false) : ∀ n, k < n → alongF I J r n = false := by
  intro n
  induction n with
  | zero => intro h; omega
  | succ n ih =>
    intro hn
    rw [alongF]
    rcases Nat.lt_or_ge k n with z | z
    · rw [ih z]; rfl
    · have e : n = k := by omega
      subst e
      have : (n == 0) = false := by simp; omega
      rw [this, h]; simp
def costF (I : Nat → Nat → Int32) (r : Nat) : Nat → Int32
  | 0 => 0
  | k + 1 => if k = 0 then 0 else costF I r k + rateF I (carAt I r (nI k - 1)) (carAt I r (nI k))
set_option maxHeartbeats 4000000 in
set_option maxRecDepth 100000 in
/-- Network.isOpenAlong -/
theorem c_X0_isOpenAlong (l : Launch) (D : va_G) (cy : Nat → ClassId) (lo : Nat) (R : List Nat) (ad : Nat → Nat) (q : Nat → Nat → Nat) (ns nt : Nat) (I : Nat → Nat → Int32) (J : Nat → Nat → Int64) (hR : ∀ r, r < 36 → r ∈ R) (r : Nat) (hk : r = 6 ∨ (80 ≤ r ∧ r % 4 = 1)) (hm : r ∈ R) (hn : r + 1 ∈ R) (n : Nat) (hlen : I r 1 = nI n) (hn5 : n ≤ 5) (hn1 : 1 ≤ n) : k_Ci l yX0_isOpenAlong cX0_isOpenAlong 3 (some .boolean) 2 45 D cy lo R ad (k_c cy ad q ns nt I J) [.ref (ad 3), .ref (ad r)] (k_b (alongF I J r n)) (k_c cy ad q ns nt I J) := by
  refine k_metQ (by decide +kernel) (Nat.le_of_ble_eq_true rfl) ?_
  intro p e s m args below meth c Q F hr hlk hnm hQ
  refine x_iconst F (v := 1) dX0_isOpenAlong_0 (by decide) ?_
  refine x_istore_n F [(2, .int 1), (0, .ref (ad 3)), (1, .ref (ad r))] dX0_isOpenAlong_1 rfl (by decide) rfl ?_
  have lp2 : ∀ (fu2 : Nat) (k : Nat), n - k < fu2 → (1 ≤ k) → (k ≤ n) → (alongF I J r k = true) → XW D lo p l e { frames := 2, cells := 0, slots := 0, locals := 45 } s m args below meth c 3 0 0 Q R ad (k_c cy ad q ns nt I J) 2 [(2, .int (nI k)), (0, .ref (ad 3)), (1, .ref (ad r))] [] := by
    intro fu2
    induction fu2 with
    | zero => intro k hf2; exact absurd hf2 (Nat.not_lt_zero _)
    | succ fu2 ih2 =>
      intro k hf2 hk1 hkn hc
      refine x_iload_n F dX0_isOpenAlong_2 rfl 0 rfl ?_
      refine x_aload_n F dX0_isOpenAlong_3 rfl 2 rfl ?_
      refine g_X0_35 F hm (sc_rte hk) rfl dX0_isOpenAlong_4 ?_
      refine x_icmp_ge F 37 dX0_isOpenAlong_7 (by decide) (fun h7 => ?_) (fun h7 => ?_)
      · rw [hlen] at h7
        have hk9 := lp_exit (by omega) hkn h7
        subst hk9
        refine x_iconst F (v := 1) dX0_isOpenAlong_37 (by decide) ?_
        rw [hQ]
        exact x_zret F hr hlk (by decide) ⟨by rw [hc]; rfl, rfl⟩ dX0_isOpenAlong_38
      · rw [hlen] at h7
        have hk9 := lp_go (by omega) hkn h7
        refine x_aload_n F dX0_isOpenAlong_10 rfl 1 rfl ?_
        refine x_aload_n F dX0_isOpenAlong_11 rfl 2 rfl ?_
        refine x_iload_n F dX0_isOpenAlong_12 rfl 0 rfl ?_
        refine x_iconst F (v := 1) dX0_isOpenAlong_13 (by decide) ?_
        refine x_isub F dX0_isOpenAlong_14 ?_
        refine z_callVi F [.int ((nI k) - 1)] (c_X1_carrierAt l D cy lo R ad q ns nt I J hR r ((nI k) - 1) hk hm hn) mc_X1_carrierAt mv_X1_carrierAt lk_X0_41 hm (sc_rte hk) rfl rfl rfl dX0_isOpenAlong_15 ⟨Nat.le_of_ble_eq_true rfl, Nat.le_of_ble_eq_true rfl⟩ ⟨Nat.le_of_ble_eq_true rfl, Nat.le_of_ble_eq_true rfl⟩ (Nat.le_of_ble_eq_true rfl) ?_
        refine x_aload_n F dX0_isOpenAlong_18 rfl 2 rfl ?_
        refine x_iload_n F dX0_isOpenAlong_19 rfl 0 rfl ?_
        refine z_callVi F [.int (nI k)] (c_X1_carrierAt l D cy lo R ad q ns nt I J hR r (nI k) hk hm hn) mc_X1_carrierAt mv_X1_carrierAt lk_X0_41 hm (sc_rte hk) rfl rfl rfl dX0_isOpenAlong_20 ⟨Nat.le_of_ble_eq_true rfl, Nat.le_of_ble_eq_true rfl⟩ ⟨Nat.le_of_ble_eq_true rfl, Nat.le_of_ble_eq_true rfl⟩ (Nat.le_of_ble_eq_true rfl) ?_
        refine z_callVi F [.int (carAt I r ((nI k) - 1)), .int (carAt I r (nI k))] (c_X0_isOpen l D cy lo R ad q ns nt I J hR (carAt I r ((nI k) - 1)) (carAt I r (nI k)) ) mc_X0_isOpen mv_X0_isOpen lk_X0_45 (hR 3 (by decide)) sc_3 rfl rfl rfl dX0_isOpenAlong_23 ⟨Nat.le_of_ble_eq_true rfl, Nat.le_of_ble_eq_true rfl⟩ ⟨Nat.le_of_ble_eq_true rfl, Nat.le_of_ble_eq_true rfl⟩ (Nat.le_of_ble_eq_true rfl) ?_
        refine x_if_ne F 31 dX0_isOpenAlong_26 (by decide) (fun h26 => ?_) (fun h26 => ?_)
        · rw [kb1] at h26
          refine x_iinc F [(2, .int ((nI k) + 1)), (0, .ref (ad 3)), (1, .ref (ad r))] dX0_isOpenAlong_31 0 rfl (by decide) rfl ?_
          refine x_goto F 2 dX0_isOpenAlong_34 (by decide) ?_
          rw [nI_1]
          exact ih2 (k + 1) (by omega) (by omega) (by omega) (by rw [alongF, hc]; simp [linkF, h26])
        · rw [kb0] at h26
          refine x_iconst F (v := 0) dX0_isOpenAlong_29 (by decide) ?_
          rw [hQ]
          exact x_zret F hr hlk (by decide) ⟨by rw [along_no hk1 h26 n hk9]; rfl, rfl⟩ dX0_isOpenAlong_30
  exact lp2 (n + 1) 1 (by omega) (by omega) (by omega) rfl
set_option maxHeartbeats 4000000 in
set_option maxRecDepth 100000 in
/-- Network.costOf -/
theorem c_X0_costOf (l : Launch) (D : va_G) (cy : Nat → ClassId) (lo : Nat) (R : List Nat) (ad : Nat → Nat) (q : Nat → Nat → Nat) (ns nt : Nat) (I : Nat → Nat → Int32) (J : Nat → Nat → Int64) (hR : ∀ r, r < 36 → r ∈ R) (r : Nat) (hk : r = 6 ∨ (80 ≤ r ∧ r % 4 = 1)) (hm : r ∈ R) (hn : r + 1 ∈ R) (n : Nat) (hlen : I r 1 = nI n) (hn5 : n ≤ 5) (hn1 : 1 ≤ n) : k_Ci l yX0_costOf cX0_costOf 4 (some .int) 2 45 D cy lo R ad (k_c cy ad q ns nt I J) [.ref (ad 3), .ref (ad r)] (costF I r n) (k_c cy ad q ns nt I J) := by
  refine k_metQ (by decide +kernel) (Nat.le_of_ble_eq_true rfl) ?_
  intro p e s m args below meth c Q F hr hlk hnm hQ
  refine x_iconst F (v := 0) dX0_costOf_0 (by decide) ?_
  refine x_istore_n F [(2, .int 0), (0, .ref (ad 3)), (1, .ref (ad r))] dX0_costOf_1 rfl (by decide) rfl ?_
  refine x_iconst F (v := 1) dX0_costOf_2 (by decide) ?_
  refine x_istore_n F [(3, .int 1), (2, .int 0), (0, .ref (ad 3)), (1, .ref (ad r))] dX0_costOf_3 rfl (by decide) rfl ?_
  have lp4 : ∀ (fu4 : Nat) (k : Nat), n - k < fu4 → (1 ≤ k) → (k ≤ n) → XW D lo p l e { frames := 2, cells := 0, slots := 0, locals := 45 } s m args below meth c 4 0 0 Q R ad (k_c cy ad q ns nt I J) 4 [(3, .int (nI k)), (2, .int (costF I r k)), (0, .ref (ad 3)), (1, .ref (ad r))] [] := by
    intro fu4
    induction fu4 with
    | zero => intro k hf4; exact absurd hf4 (Nat.not_lt_zero _)
    | succ fu4 ih4 =>
      intro k hf4 hk1 hkn
      refine x_iload_n F dX0_costOf_4 rfl 0 rfl ?_
      refine x_aload_n F dX0_costOf_5 rfl 3 rfl ?_
      refine g_X0_35 F hm (sc_rte hk) rfl dX0_costOf_6 ?_
      refine x_icmp_ge F 37 dX0_costOf_9 (by decide) (fun h9 => ?_) (fun h9 => ?_)
      · rw [hlen] at h9
        have hk9 := lp_exit (by omega) hkn h9
        subst hk9
        refine x_iload_n F dX0_costOf_37 rfl 1 rfl ?_
        rw [hQ]
        exact x_iret F hr hlk ⟨rfl, rfl⟩ dX0_costOf_38
      · rw [hlen] at h9
        have hk9 := lp_go (by omega) hkn h9
        refine x_iload_n F dX0_costOf_12 rfl 1 rfl ?_
        refine x_aload_n F dX0_costOf_13 rfl 2 rfl ?_
        refine x_aload_n F dX0_costOf_14 rfl 3 rfl ?_
        refine x_iload_n F dX0_costOf_15 rfl 0 rfl ?_
        refine x_iconst F (v := 1) dX0_costOf_16 (by decide) ?_
        refine x_isub F dX0_costOf_17 ?_
        refine z_callVi F [.int ((nI k) - 1)] (c_X1_carrierAt l D cy lo R ad q ns nt I J hR r ((nI k) - 1) hk hm hn) mc_X1_carrierAt mv_X1_carrierAt lk_X0_41 hm (sc_rte hk) rfl rfl rfl dX0_costOf_18 ⟨Nat.le_of_ble_eq_true rfl, Nat.le_of_ble_eq_true rfl⟩ ⟨Nat.le_of_ble_eq_true rfl, Nat.le_of_ble_eq_true rfl⟩ (Nat.le_of_ble_eq_true rfl) ?_
        refine x_aload_n F dX0_costOf_21 rfl 3 rfl ?_
        refine x_iload_n F dX0_costOf_22 rfl 0 rfl ?_
        refine z_callVi F [.int (nI k)] (c_X1_carrierAt l D cy lo R ad q ns nt I J hR r (nI k) hk hm hn) mc_X1_carrierAt mv_X1_carrierAt lk_X0_41 hm (sc_rte hk) rfl rfl rfl dX0_costOf_23 ⟨Nat.le_of_ble_eq_true rfl, Nat.le_of_ble_eq_true rfl⟩ ⟨Nat.le_of_ble_eq_true rfl, Nat.le_of_ble_eq_true rfl⟩ (Nat.le_of_ble_eq_true rfl) ?_
        refine z_callVi F [.int (carAt I r ((nI k) - 1)), .int (carAt I r (nI k))] (c_X0_rateOf l D cy lo R ad q ns nt I J hR (carAt I r ((nI k) - 1)) (carAt I r (nI k)) ) mc_X0_rateOf mv_X0_rateOf lk_X0_49 (hR 3 (by decide)) sc_3 rfl rfl rfl dX0_costOf_26 ⟨Nat.le_of_ble_eq_true rfl, Nat.le_of_ble_eq_true rfl⟩ ⟨Nat.le_of_ble_eq_true rfl, Nat.le_of_ble_eq_true rfl⟩ (Nat.le_of_ble_eq_true rfl) ?_
        refine x_iadd F dX0_costOf_29 ?_
        refine x_istore_n F [(2, .int ((costF I r k) + (rateF I (carAt I r ((nI k) - 1)) (carAt I r (nI k))))), (3, .int (nI k)), (0, .ref (ad 3)), (1, .ref (ad r))] dX0_costOf_30 rfl (by decide) rfl ?_
        refine x_iinc F [(3, .int ((nI k) + 1)), (2, .int ((costF I r k) + (rateF I (carAt I r ((nI k) - 1)) (carAt I r (nI k))))), (0, .ref (ad 3)), (1, .ref (ad r))] dX0_costOf_31 1 rfl (by decide) rfl ?_
        refine x_goto F 4 dX0_costOf_34 (by decide) ?_
        rw [nI_1, show costF I r k + rateF I (carAt I r (nI k - 1)) (carAt I r (nI k)) = costF I r (k + 1) by rw [costF, if_neg (by omega)]]
        exact ih4 (k + 1) (by omega) (by omega) (by omega)
  exact lp4 (n + 1) 1 (by omega) (by omega) (by omega)
end
section
def chargeJ (I : Nat → Nat → Int32) (J : Nat → Nat → Int64) (r : Nat) : Nat → Nat → Nat → Int64
  | 0 => J
  | k + 1 => if k = 0 then J else addChJ (addDebtJ (chargeJ I J r k) (carAt I (r + 1) (nI k - 1)) (carAt I (r + 1) (nI k)) (rateF I (carAt I (r + 1) (nI k - 1)) (carAt I (r + 1) (nI k))).toInt64) r (pairI (carAt I (r + 1) (nI k - 1)) (carAt I (r + 1) (nI k))) (rateF I (carAt I (r + 1) (nI k - 1)) (carAt I (r + 1) (nI k)))
def becomeI (I : Nat → Nat → Int32) (r o : Nat) : Nat → Nat → Nat → Int32
  | 0 => wI I r 1 0
  | k + 1 => addRI (becomeI I r o k) r (carAt (becomeI I r o k) o (nI k))
theorem become_len {I : Nat → Nat → Int32} {r o : Nat} (h : o ≠ r) (h2 : o ≠ r + 1) : ∀ k, becomeI I r o k o 1 = I o 1 := by
  intro k
  induction k with
  | zero => rw [becomeI, wI_eq, if_neg (by omega)]
  | succ k ih =>
    rw [becomeI, addRI]
    split
    · rw [wI_eq, if_neg (by omega), wI_eq, if_neg (by omega), ih]
    · exact ih
def condF (I : Nat → Nat → Int32) (J : Nat → Nat → Int64) (a : Int32) (k : Nat) : Bool := openF I J a (nI k) && isCar a && decide (overF I a (nI k) = I 11 a.toNatClampNeg)
def nextG (I : Nat → Nat → Int32) (J : Nat → Nat → Int64) (a : Int32) : Nat → Nat → Int32
  | 0, _ => -1
  | d + 1, k => if condF I J a k = true then nI k else nextG I J a d (k + 1)
def nextF (I : Nat → Nat → Int32) (J : Nat → Nat → Int64) (a : Int32) : Int32 := nextG I J a 5 0
theorem next_no {I : Nat → Nat → Int32} {J : Nat → Nat → Int64} {a : Int32} {k : Nat} (hk : k < 5) (h : condF I J a k = false) : nextG I J a (5 - k) k = nextG I J a (5 - (k + 1)) (k + 1) := by
  rw [show 5 - k = (5 - (k + 1)) + 1 by omega, nextG, h]; simp
theorem next_yes {I : Nat → Nat → Int32} {J : Nat → Nat → Int64} {a : Int32} {k : Nat} (hk : k < 5) (h : condF I J a k = true) : nextG I J a (5 - k) k = nI k := by
  rw [show 5 - k = (5 - (k + 1)) + 1 by omega, nextG, h]; simp
def fillI (I : Nat → Nat → Int32) (r n : Nat) (v : Int32) : Nat → Nat → Int32 := fun r' k' => if r' = r ∧ k' < n then v else I r' k'
theorem fill_0 (I : Nat → Nat → Int32) (r : Nat) (v : Int32) : fillI I r 0 v = I := by
  funext x y
  simp [fillI]
theorem fill_s (I : Nat → Nat → Int32) (r n : Nat) (v : Int32) : wI (fillI I r n v) r n v = fillI I r (n + 1) v := by
  funext x y
  rw [wI_eq, fillI, fillI]
  by_cases h1 : x = r
  · by_cases h2 : y = n
    · simp [h1, h2]
    · by_cases h3 : y < n
      · have : y < n + 1 := by omega
        simp [h1, h2, h3, this]
      · have : ¬ y < n + 1 := by omega
        simp [h1, h2, h3, this]
  · simp [h1]
def relaxI (I : Nat → Nat → Int32) (J : Nat → Nat → Int64) (f n : Nat) : Nat → Nat → Int32 :=
  if openF I J (nI f) (nI n) = true then wI I 11 (nI f).toNatClampNeg (if overF I (nI f) (nI n) < I 11 (nI f).toNatClampNeg then overF I (nI f) (nI n) else I 11 (nI f).toNatClampNeg) else I
def innerI (I : Nat → Nat → Int32) (J : Nat → Nat → Int64) (f : Nat) : Nat → Nat → Nat → Int32
  | 0 => I
  | n + 1 => relaxI (innerI I J f n) J f n
def midI (I : Nat → Nat → Int32) (J : Nat → Nat → Int64) : Nat → Nat → Nat → Int32
  | 0 => I
  | f + 1 => innerI (midI I J f) J f 5
def outI (I : Nat → Nat → Int32) (J : Nat → Nat → Int64) : Nat → Nat → Nat → Int32
  | 0 => I
  | d + 1 => midI (outI I J d) J 5
def weigh0 (I : Nat → Nat → Int32) (b : Int32) : Nat → Nat → Int32 := if isCar b = true then wI (fillI I 11 5 1000000) 11 b.toNatClampNeg 0 else fillI I 11 5 1000000
def weighI (I : Nat → Nat → Int32) (J : Nat → Nat → Int64) (b : Int32) : Nat → Nat → Int32 := outI (weigh0 I b) J 4
def goF (I : Nat → Nat → Int32) (J : Nat → Nat → Int64) (r : Nat) (a b : Int32) : Nat → Int32 × (Nat → Nat → Int32)
  | 0 => (a, addRI (wI I r 1 0) r a)
  | j + 1 => if (goF I J r a b j).1 = b then goF I J r a b j else (nextF (goF I J r a b j).2 J (goF I J r a b j).1, addRI (goF I J r a b j).2 r (nextF (goF I J r a b j).2 J (goF I J r a b j).1))
theorem go_0 {I : Nat → Nat → Int32} {J : Nat → Nat → Int64} {r : Nat} {a b : Int32} : goF I J r a b 0 = (a, addRI (wI I r 1 0) r a) := rfl
theorem go_stay {I : Nat → Nat → Int32} {J : Nat → Nat → Int64} {r : Nat} {a b : Int32} {j : Nat} (h : (goF I J r a b j).1 = b) : ∀ m, j ≤ m → goF I J r a b m = goF I J r a b j := by
  intro m
  induction m with
  | zero => intro hm; rw [show j = 0 by omega]
  | succ m ih =>
    intro hm
    rcases Nat.lt_or_ge m j with z | z
    · rw [show j = m + 1 by omega]
    · have e := ih z
      rw [goF, e, if_pos h]
def fbB (I : Nat → Nat → Int32) (J : Nat → Nat → Int64) (a b : Int32) : Bool := isCar a && isCar b && decide (weighI I J b 11 a.toNatClampNeg < 1000000)
def fbI (I : Nat → Nat → Int32) (J : Nat → Nat → Int64) (a b : Int32) (r : Nat) : Nat → Nat → Int32 :=
  if (isCar a && isCar b) = true then (if weighI I J b 11 a.toNatClampNeg < 1000000 then (goF (weighI I J b) J r a b 4).2 else weighI I J b) else I
set_option maxHeartbeats 4000000 in
set_option maxRecDepth 100000 in
/-- Network.charge -/
theorem c_X0_charge (l : Launch) (D : va_G) (cy : Nat → ClassId) (lo : Nat) (R : List Nat) (ad : Nat → Nat) (q : Nat → Nat → Nat) (ns nt : Nat) (I : Nat → Nat → Int32) (J : Nat → Nat → Int64) (hR : ∀ r, r < 36 → r ∈ R) (r : Nat) (hk : 80 ≤ r ∧ r % 4 = 0) (h0 : r ∈ R) (h1 : r + 1 ∈ R) (h2 : r + 1 + 1 ∈ R) (h3 : r + 3 ∈ R) (n : Nat) (hlen : I (r + 1) 1 = nI n) (hn5 : n ≤ 5) (hn1 : 1 ≤ n) : k_Cv l yX0_charge cX0_charge 6 none 2 48 D cy lo R ad (k_c cy ad q ns nt I J) [.ref (ad 3), .ref (ad r)] (k_c cy ad q ns nt I (chargeJ I J r n)) := by
  refine k_metQ (by decide +kernel) (Nat.le_of_ble_eq_true rfl) ?_
  intro p e s m args below meth c Q F hr hlk hnm hQ
  refine x_iconst F (v := 1) dX0_charge_0 (by decide) ?_
  refine x_istore_n F [(2, .int 1), (0, .ref (ad 3)), (1, .ref (ad r))] dX0_charge_1 rfl (by decide) rfl ?_
  have lp2 : ∀ (fu2 : Nat) (k : Nat), n - k < fu2 → (1 ≤ k) → (k ≤ n) → XW D lo p l e { frames := 2, cells := 0, slots := 0, locals := 48 } s m args below meth c 6 0 0 Q R ad (k_c cy ad q ns nt I (chargeJ I J r k)) 2 [(2, .int (nI k)), (0, .ref (ad 3)), (1, .ref (ad r))] [] := by
    intro fu2
    induction fu2 with
    | zero => intro k hf2; exact absurd hf2 (Nat.not_lt_zero _)
    | succ fu2 ih2 =>
      intro k hf2 hk1 hkn
      refine x_iload_n F dX0_charge_2 rfl 0 rfl ?_
      refine x_aload_n F dX0_charge_3 rfl 2 rfl ?_
      refine g_X0_52 F h0 (sc_tlk hk) rfl dX0_charge_4 ?_
      refine g_X0_35 F h1 (sc_rte (Or.inr ⟨by have := hk; omega, by have := hk; omega⟩)) rfl dX0_charge_7 ?_
      refine x_icmp_ge F 71 dX0_charge_10 (by decide) (fun h10 => ?_) (fun h10 => ?_)
      · rw [hlen] at h10
        have hk9 := lp_exit (by omega) hkn h10
        subst hk9
        rw [hQ]
        exact x_vret F hr hlk rfl dX0_charge_71
      · rw [hlen] at h10
        have hk9 := lp_go (by omega) hkn h10
        refine x_aload_n F dX0_charge_13 rfl 2 rfl ?_
        refine g_X0_52 F h0 (sc_tlk hk) rfl dX0_charge_14 ?_
        refine x_iload_n F dX0_charge_17 rfl 0 rfl ?_
        refine x_iconst F (v := 1) dX0_charge_18 (by decide) ?_
        refine x_isub F dX0_charge_19 ?_
        refine z_callVi F [.int ((nI k) - 1)] (c_X1_carrierAt l D cy lo R ad q ns nt I (chargeJ I J r k) hR (r + 1) ((nI k) - 1) (Or.inr ⟨by have := hk; omega, by have := hk; omega⟩) h1 h2) mc_X1_carrierAt mv_X1_carrierAt lk_X0_41 h1 (sc_rte (Or.inr ⟨by have := hk; omega, by have := hk; omega⟩)) rfl rfl rfl dX0_charge_20 ⟨Nat.le_of_ble_eq_true rfl, Nat.le_of_ble_eq_true rfl⟩ ⟨Nat.le_of_ble_eq_true rfl, Nat.le_of_ble_eq_true rfl⟩ (Nat.le_of_ble_eq_true rfl) ?_
        refine x_istore_n F [(3, .int (carAt I (r + 1) ((nI k) - 1))), (2, .int (nI k)), (0, .ref (ad 3)), (1, .ref (ad r))] dX0_charge_23 rfl (by decide) rfl ?_
        refine x_aload_n F dX0_charge_24 rfl 3 rfl ?_
        refine g_X0_52 F h0 (sc_tlk hk) rfl dX0_charge_25 ?_
        refine x_iload_n F dX0_charge_28 rfl 1 rfl ?_
        refine z_callVi F [.int (nI k)] (c_X1_carrierAt l D cy lo R ad q ns nt I (chargeJ I J r k) hR (r + 1) (nI k) (Or.inr ⟨by have := hk; omega, by have := hk; omega⟩) h1 h2) mc_X1_carrierAt mv_X1_carrierAt lk_X0_41 h1 (sc_rte (Or.inr ⟨by have := hk; omega, by have := hk; omega⟩)) rfl rfl rfl dX0_charge_29 ⟨Nat.le_of_ble_eq_true rfl, Nat.le_of_ble_eq_true rfl⟩ ⟨Nat.le_of_ble_eq_true rfl, Nat.le_of_ble_eq_true rfl⟩ (Nat.le_of_ble_eq_true rfl) ?_
        refine x_istore F [(4, .int (carAt I (r + 1) (nI k))), (3, .int (carAt I (r + 1) ((nI k) - 1))), (2, .int (nI k)), (0, .ref (ad 3)), (1, .ref (ad r))] dX0_charge_32 (by decide) rfl ?_
        refine x_aload_n F dX0_charge_34 rfl 3 rfl ?_
        refine x_iload_n F dX0_charge_35 rfl 1 rfl ?_
        refine x_iload F dX0_charge_36 0 rfl ?_
        refine z_callVi F [.int (carAt I (r + 1) ((nI k) - 1)), .int (carAt I (r + 1) (nI k))] (c_X0_rateOf l D cy lo R ad q ns nt I (chargeJ I J r k) hR (carAt I (r + 1) ((nI k) - 1)) (carAt I (r + 1) (nI k)) ) mc_X0_rateOf mv_X0_rateOf lk_X0_49 (hR 3 (by decide)) sc_3 rfl rfl rfl dX0_charge_38 ⟨Nat.le_of_ble_eq_true rfl, Nat.le_of_ble_eq_true rfl⟩ ⟨Nat.le_of_ble_eq_true rfl, Nat.le_of_ble_eq_true rfl⟩ (Nat.le_of_ble_eq_true rfl) ?_
        refine x_istore F [(5, .int (rateF I (carAt I (r + 1) ((nI k) - 1)) (carAt I (r + 1) (nI k)))), (4, .int (carAt I (r + 1) (nI k))), (3, .int (carAt I (r + 1) ((nI k) - 1))), (2, .int (nI k)), (0, .ref (ad 3)), (1, .ref (ad r))] dX0_charge_41 (by decide) rfl ?_
        refine x_aload_n F dX0_charge_43 rfl 4 rfl ?_
        refine x_iload_n F dX0_charge_44 rfl 2 rfl ?_
        refine x_iload F dX0_charge_45 1 rfl ?_
        refine x_iload F dX0_charge_47 0 rfl ?_
        refine x_i2l F dX0_charge_49 ?_
        refine z_callVv F [.int (carAt I (r + 1) ((nI k) - 1)), .int (carAt I (r + 1) (nI k)), .long ((rateF I (carAt I (r + 1) ((nI k) - 1)) (carAt I (r + 1) (nI k))).toInt64)] (c_X0_addDebt l D cy lo R ad q ns nt I (chargeJ I J r k) hR (carAt I (r + 1) ((nI k) - 1)) (carAt I (r + 1) (nI k)) ((rateF I (carAt I (r + 1) ((nI k) - 1)) (carAt I (r + 1) (nI k))).toInt64) ) mc_X0_addDebt mv_X0_addDebt lk_X0_58 (hR 3 (by decide)) sc_3 rfl rfl rfl dX0_charge_50 ⟨Nat.le_of_ble_eq_true rfl, Nat.le_of_ble_eq_true rfl⟩ ⟨Nat.le_of_ble_eq_true rfl, Nat.le_of_ble_eq_true rfl⟩ (Nat.le_of_ble_eq_true rfl) ?_
        refine x_aload_n F dX0_charge_53 rfl 5 rfl ?_
        refine x_iload_n F dX0_charge_54 rfl 2 rfl ?_
        refine x_iload F dX0_charge_55 1 rfl ?_
        refine z_callSNi F [.int (carAt I (r + 1) ((nI k) - 1)), .int (carAt I (r + 1) (nI k))] (c_X4_pairOf l D cy lo R ad _ (carAt I (r + 1) ((nI k) - 1)) (carAt I (r + 1) (nI k))) mc_X4_pairOf ms_X4_pairOf lk_X0_31 rfl rfl dX0_charge_57 ⟨Nat.le_of_ble_eq_true rfl, Nat.le_of_ble_eq_true rfl⟩ ⟨Nat.le_of_ble_eq_true rfl, Nat.le_of_ble_eq_true rfl⟩ (Nat.le_of_ble_eq_true rfl) ?_
        refine x_iload F dX0_charge_60 0 rfl ?_
        refine z_callVv F [.int (pairI (carAt I (r + 1) ((nI k) - 1)) (carAt I (r + 1) (nI k))), .int (rateF I (carAt I (r + 1) ((nI k) - 1)) (carAt I (r + 1) (nI k)))] (c_X3_addCharge l D cy lo R ad q ns nt I (addDebtJ (chargeJ I J r k) (carAt I (r + 1) ((nI k) - 1)) (carAt I (r + 1) (nI k)) ((rateF I (carAt I (r + 1) ((nI k) - 1)) (carAt I (r + 1) (nI k))).toInt64)) hR r (pairI (carAt I (r + 1) ((nI k) - 1)) (carAt I (r + 1) (nI k))) (rateF I (carAt I (r + 1) ((nI k) - 1)) (carAt I (r + 1) (nI k))) hk h0 h1 h2 h3) mc_X3_addCharge mv_X3_addCharge lk_X0_62 h0 (sc_tlk hk) rfl rfl rfl dX0_charge_62 ⟨Nat.le_of_ble_eq_true rfl, Nat.le_of_ble_eq_true rfl⟩ ⟨Nat.le_of_ble_eq_true rfl, Nat.le_of_ble_eq_true rfl⟩ (Nat.le_of_ble_eq_true rfl) ?_
        refine x_iinc F [(2, .int ((nI k) + 1)), (5, .int (rateF I (carAt I (r + 1) ((nI k) - 1)) (carAt I (r + 1) (nI k)))), (4, .int (carAt I (r + 1) (nI k))), (3, .int (carAt I (r + 1) ((nI k) - 1))), (0, .ref (ad 3)), (1, .ref (ad r))] dX0_charge_65 3 rfl (by decide) rfl ?_
        refine x_goto F 2 dX0_charge_68 (by decide) ?_
        refine x_world (congrArg (fun z => k_c cy ad q ns nt I z) (show addChJ (addDebtJ (chargeJ I J r k) (carAt I (r + 1) ((nI k) - 1)) (carAt I (r + 1) (nI k)) ((rateF I (carAt I (r + 1) ((nI k) - 1)) (carAt I (r + 1) (nI k))).toInt64)) r (pairI (carAt I (r + 1) ((nI k) - 1)) (carAt I (r + 1) (nI k))) (rateF I (carAt I (r + 1) ((nI k) - 1)) (carAt I (r + 1) (nI k))) = chargeJ I J r (k + 1) by rw [chargeJ, if_neg (by omega)])) ?_
        rw [nI_1]
        refine x_sub [0, 4, 5] rfl ?_
        exact ih2 (k + 1) (by omega) (by omega) (by omega)
  refine x_world (congrArg (fun z => k_c cy ad q ns nt I z) (show J = chargeJ I J r 1 by rw [chargeJ, if_pos rfl])) ?_
  exact lp2 (n + 1) 1 (by omega) (by omega) (by omega)
set_option maxHeartbeats 4000000 in
set_option maxRecDepth 100000 in
/-- Route.become -/
theorem c_X1_become (l : Launch) (D : va_G) (cy : Nat → ClassId) (lo : Nat) (R : List Nat) (ad : Nat → Nat) (q : Nat → Nat → Nat) (ns nt : Nat) (I : Nat → Nat → Int32) (J : Nat → Nat → Int64) (hR : ∀ r, r < 36 → r ∈ R) (r : Nat) (o : Nat) (hk : r = 6 ∨ (80 ≤ r ∧ r % 4 = 1)) (hm : r ∈ R) (hn : r + 1 ∈ R) (ok : o = 6 ∨ (80 ≤ o ∧ o % 4 = 1)) (om : o ∈ R) (on : o + 1 ∈ R) (n : Nat) (hlen : I o 1 = nI n) (hn5 : n ≤ 5) (hne : o ≠ r) (hne2 : o ≠ r + 1) : k_Cv l yX1_become cX1_become 3 none 1 21 D cy lo R ad (k_c cy ad q ns nt I J) [.ref (ad r), .ref (ad o)] (k_c cy ad q ns nt (becomeI I r o n) J) := by
  refine k_metQ (by decide +kernel) (Nat.le_of_ble_eq_true rfl) ?_
  intro p e s m args below meth c Q F hr hlk hnm hQ
  refine x_aload_n F dX1_become_0 rfl 0 rfl ?_
  refine z_callVv F [] (c_X1_clear l D cy lo R ad q ns nt I J hR r hk hm hn) mc_X1_clear mv_X1_clear lk_X1_19 hm (sc_rte hk) rfl rfl rfl dX1_become_1 ⟨Nat.le_of_ble_eq_true rfl, Nat.le_of_ble_eq_true rfl⟩ ⟨Nat.le_of_ble_eq_true rfl, Nat.le_of_ble_eq_true rfl⟩ (Nat.le_of_ble_eq_true rfl) ?_
  refine x_iconst F (v := 0) dX1_become_4 (by decide) ?_
  refine x_istore_n F [(2, .int 0), (0, .ref (ad r)), (1, .ref (ad o))] dX1_become_5 rfl (by decide) rfl ?_
  have lp6 : ∀ (fu6 : Nat) (k : Nat), n - k < fu6 → (k ≤ n) → XW D lo p l e { frames := 1, cells := 0, slots := 0, locals := 21 } s m args below meth c 3 0 0 Q R ad (k_c cy ad q ns nt (becomeI I r o k) J) 6 [(2, .int (nI k)), (0, .ref (ad r)), (1, .ref (ad o))] [] := by
    intro fu6
    induction fu6 with
    | zero => intro k hf6; exact absurd hf6 (Nat.not_lt_zero _)
    | succ fu6 ih6 =>
      intro k hf6 hkn
      refine x_iload_n F dX1_become_6 rfl 0 rfl ?_
      refine x_aload_n F dX1_become_7 rfl 2 rfl ?_
      refine g_X1_15 F om (sc_rte ok) rfl dX1_become_8 ?_
      refine x_icmp_ge F 29 dX1_become_11 (by decide) (fun h11 => ?_) (fun h11 => ?_)
      · rw [become_len hne hne2, hlen] at h11
        have hk9 := lp_exit (by omega) hkn h11
        subst hk9
        rw [hQ]
        exact x_vret F hr hlk rfl dX1_become_29
      · rw [become_len hne hne2, hlen] at h11
        have hk9 := lp_go (by omega) hkn h11
        refine x_aload_n F dX1_become_14 rfl 1 rfl ?_
        refine x_aload_n F dX1_become_15 rfl 2 rfl ?_
        refine x_iload_n F dX1_become_16 rfl 0 rfl ?_
        refine z_callVi F [.int (nI k)] (c_X1_carrierAt l D cy lo R ad q ns nt (becomeI I r o k) J hR o (nI k) ok om on) mc_X1_carrierAt mv_X1_carrierAt lk_X1_22 om (sc_rte ok) rfl rfl rfl dX1_become_17 ⟨Nat.le_of_ble_eq_true rfl, Nat.le_of_ble_eq_true rfl⟩ ⟨Nat.le_of_ble_eq_true rfl, Nat.le_of_ble_eq_true rfl⟩ (Nat.le_of_ble_eq_true rfl) ?_
        refine z_callVv F [.int (carAt (becomeI I r o k) o (nI k))] (c_X1_add l D cy lo R ad q ns nt (becomeI I r o k) J hR r (carAt (becomeI I r o k) o (nI k)) hk hm hn) mc_X1_add mv_X1_add lk_X1_26 hm (sc_rte hk) rfl rfl rfl dX1_become_20 ⟨Nat.le_of_ble_eq_true rfl, Nat.le_of_ble_eq_true rfl⟩ ⟨Nat.le_of_ble_eq_true rfl, Nat.le_of_ble_eq_true rfl⟩ (Nat.le_of_ble_eq_true rfl) ?_
        refine x_iinc F [(2, .int ((nI k) + 1)), (0, .ref (ad r)), (1, .ref (ad o))] dX1_become_23 0 rfl (by decide) rfl ?_
        refine x_goto F 6 dX1_become_26 (by decide) ?_
        refine x_world (congrArg (fun z => k_c cy ad q ns nt z J) (show addRI (becomeI I r o k) r (carAt (becomeI I r o k) o (nI k)) = becomeI I r o (k + 1) by rw [becomeI])) ?_
        rw [nI_1]
        exact ih6 (k + 1) (by omega) (by omega)
  refine x_world (congrArg (fun z => k_c cy ad q ns nt z J) (show wI I r 1 0 = becomeI I r o 0 by rw [becomeI])) ?_
  exact lp6 (n + 1) 0 (by omega) (by omega)
set_option maxHeartbeats 4000000 in
set_option maxRecDepth 100000 in
/-- Network.nextOnBest -/
theorem c_X0_nextOnBest (l : Launch) (D : va_G) (cy : Nat → ClassId) (lo : Nat) (R : List Nat) (ad : Nat → Nat) (q : Nat → Nat → Nat) (ns nt : Nat) (I : Nat → Nat → Int32) (J : Nat → Nat → Int64) (hR : ∀ r, r < 36 → r ∈ R) (a : Int32) : k_Ci l yX0_nextOnBest cX0_nextOnBest 3 (some .int) 3 68 D cy lo R ad (k_c cy ad q ns nt I J) [.ref (ad 3), .int a] (nextF I J a) (k_c cy ad q ns nt I J) := by
  refine k_metQ (by decide +kernel) (Nat.le_of_ble_eq_true rfl) ?_
  intro p e s m args below meth c Q F hr hlk hnm hQ
  refine x_iconst F (v := 0) dX0_nextOnBest_0 (by decide) ?_
  refine x_istore_n F [(2, .int 0), (0, .ref (ad 3)), (1, .int a)] dX0_nextOnBest_1 rfl (by decide) rfl ?_
  have lp2 : ∀ (fu2 : Nat) (k : Nat), 5 - k < fu2 → (k ≤ 5) → (nextF I J a = nextG I J a (5 - k) k) → XW D lo p l e { frames := 3, cells := 0, slots := 0, locals := 68 } s m args below meth c 3 0 0 Q R ad (k_c cy ad q ns nt I J) 2 [(2, .int (nI k)), (0, .ref (ad 3)), (1, .int a)] [] := by
    intro fu2
    induction fu2 with
    | zero => intro k hf2; exact absurd hf2 (Nat.not_lt_zero _)
    | succ fu2 ih2 =>
      intro k hf2 hkn hc
      refine x_iload_n F dX0_nextOnBest_2 rfl 0 rfl ?_
      refine x_iconst F (v := 5) dX0_nextOnBest_3 (by decide) ?_
      refine x_icmp_ge F 46 dX0_nextOnBest_4 (by decide) (fun h4 => ?_) (fun h4 => ?_)
      · have hk9 := lp_exit (N := 5) (by omega) hkn h4
        subst hk9
        refine x_iconst F (v := -1) dX0_nextOnBest_46 (by decide) ?_
        rw [hQ]
        exact x_iret F hr hlk ⟨by rw [hc]; rfl, rfl⟩ dX0_nextOnBest_47
      · have hk9 := lp_go (N := 5) (by omega) hkn h4
        refine x_aload_n F dX0_nextOnBest_7 rfl 1 rfl ?_
        refine x_iload_n F dX0_nextOnBest_8 rfl 2 rfl ?_
        refine x_iload_n F dX0_nextOnBest_9 rfl 0 rfl ?_
        refine z_callVi F [.int a, .int (nI k)] (c_X0_isOpen l D cy lo R ad q ns nt I J hR a (nI k) ) mc_X0_isOpen mv_X0_isOpen lk_X0_45 (hR 3 (by decide)) sc_3 rfl rfl rfl dX0_nextOnBest_10 ⟨Nat.le_of_ble_eq_true rfl, Nat.le_of_ble_eq_true rfl⟩ ⟨Nat.le_of_ble_eq_true rfl, Nat.le_of_ble_eq_true rfl⟩ (Nat.le_of_ble_eq_true rfl) ?_
        refine x_if_eq F 40 dX0_nextOnBest_13 (by decide) (fun h13 => ?_) (fun h13 => ?_)
        · rw [kb0] at h13
          refine x_iinc F [(2, .int ((nI k) + 1)), (0, .ref (ad 3)), (1, .int a)] dX0_nextOnBest_40 0 rfl (by decide) rfl ?_
          refine x_goto F 2 dX0_nextOnBest_43 (by decide) ?_
          rw [nI_1]
          exact ih2 (k + 1) (by omega) (by omega) (hc.trans (next_no hk9 (by simp [condF, *])))
        · rw [kb1] at h13
          refine x_iload_n F dX0_nextOnBest_16 rfl 2 rfl ?_
          refine z_callSNi F [.int a] (c_X4_isCarrier l D cy lo R ad _ a) mc_X4_isCarrier ms_X4_isCarrier lk_X0_66 rfl rfl dX0_nextOnBest_17 ⟨Nat.le_of_ble_eq_true rfl, Nat.le_of_ble_eq_true rfl⟩ ⟨Nat.le_of_ble_eq_true rfl, Nat.le_of_ble_eq_true rfl⟩ (Nat.le_of_ble_eq_true rfl) ?_
          refine x_if_eq F 40 dX0_nextOnBest_20 (by decide) (fun h20 => ?_) (fun h20 => ?_)
          · rw [kb0] at h20
            refine x_iinc F [(2, .int ((nI k) + 1)), (0, .ref (ad 3)), (1, .int a)] dX0_nextOnBest_40 0 rfl (by decide) rfl ?_
            refine x_goto F 2 dX0_nextOnBest_43 (by decide) ?_
            rw [nI_1]
            exact ih2 (k + 1) (by omega) (by omega) (hc.trans (next_no hk9 (by simp [condF, *])))
          · rw [kb1] at h20
            refine x_aload_n F dX0_nextOnBest_23 rfl 1 rfl ?_
            refine x_iload_n F dX0_nextOnBest_24 rfl 2 rfl ?_
            refine x_iload_n F dX0_nextOnBest_25 rfl 0 rfl ?_
            refine z_callVi F [.int a, .int (nI k)] (c_X0_weightOver l D cy lo R ad q ns nt I J hR a (nI k) ) mc_X0_weightOver mv_X0_weightOver lk_X0_84 (hR 3 (by decide)) sc_3 rfl rfl rfl dX0_nextOnBest_26 ⟨Nat.le_of_ble_eq_true rfl, Nat.le_of_ble_eq_true rfl⟩ ⟨Nat.le_of_ble_eq_true rfl, Nat.le_of_ble_eq_true rfl⟩ (Nat.le_of_ble_eq_true rfl) ?_
            refine x_aload_n F dX0_nextOnBest_29 rfl 1 rfl ?_
            refine g_X0_22 F (hR 3 (by decide)) sc_3 rfl dX0_nextOnBest_30 ?_
            refine x_iload_n F dX0_nextOnBest_33 rfl 2 rfl ?_
            refine y_iald F (hR 11 (by decide)) ss_11 (vin_car ‹_›) dX0_nextOnBest_34 ?_
            refine x_icmp_ne F 40 dX0_nextOnBest_35 (by decide) (fun h35 => ?_) (fun h35 => ?_)
            · refine x_iinc F [(2, .int ((nI k) + 1)), (0, .ref (ad 3)), (1, .int a)] dX0_nextOnBest_40 0 rfl (by decide) rfl ?_
              refine x_goto F 2 dX0_nextOnBest_43 (by decide) ?_
              rw [nI_1]
              exact ih2 (k + 1) (by omega) (by omega) (hc.trans (next_no hk9 (by simp [condF, *])))
            · refine x_iload_n F dX0_nextOnBest_38 rfl 0 rfl ?_
              rw [hQ]
              exact x_iret F hr hlk ⟨by rw [hc, next_yes hk9 (by simp [condF, *])], rfl⟩ dX0_nextOnBest_39
  exact lp2 6 0 (by omega) (by omega) rfl
set_option maxHeartbeats 4000000 in
set_option maxRecDepth 100000 in
/-- Arrays.fill -/
theorem c_J7_fill_53178 (l : Launch) (D : va_G) (cy : Nat → ClassId) (lo : Nat) (R : List Nat) (ad : Nat → Nat) (q : Nat → Nat → Nat) (ns nt : Nat) (I : Nat → Nat → Int32) (J : Nat → Nat → Int64) (hR : ∀ r, r < 36 → r ∈ R) (r : Nat) (v : Int32) (n : Nat) (hs : ∀ (f : Nat → Int32) (g : Nat → Int64), k_sh cy ad q ns nt r f g = Sum.inl (cy 0, n, Sum.inl f)) (hm : r ∈ R) (hnn : n < 2 ^ 31) : k_Cv l yJ7_fill_53178 cJ7_fill_53178 4 none 0 0 D cy lo R ad (k_c cy ad q ns nt I J) [.ref (ad r), .int v] (k_c cy ad q ns nt (fillI I r n v) J) := by
  refine k_metQ (by decide +kernel) (Nat.le_of_ble_eq_true rfl) ?_
  intro p e s m args below meth c Q F hr hlk hnm hQ
  refine x_iconst F (v := 0) dJ7_fill_53178_0 (by decide) ?_
  refine x_istore_n F [(2, .int 0), (0, .ref (ad r)), (1, .int v)] dJ7_fill_53178_1 rfl (by decide) rfl ?_
  refine x_aload_n F dJ7_fill_53178_2 rfl 1 rfl ?_
  refine x_alenI F hm (hs _ _) dJ7_fill_53178_3 ?_
  refine x_istore_n F [(3, .int (nI n)), (2, .int 0), (0, .ref (ad r)), (1, .int v)] dJ7_fill_53178_4 rfl (by decide) rfl ?_
  have lp5 : ∀ (fu5 : Nat) (k : Nat), n - k < fu5 → (k ≤ n) → XW D lo p l e { frames := 0, cells := 0, slots := 0, locals := 0 } s m args below meth c 4 0 0 Q R ad (k_c cy ad q ns nt (fillI I r k v) J) 5 [(3, .int (nI n)), (2, .int (nI k)), (0, .ref (ad r)), (1, .int v)] [] := by
    intro fu5
    induction fu5 with
    | zero => intro k hf5; exact absurd hf5 (Nat.not_lt_zero _)
    | succ fu5 ih5 =>
      intro k hf5 hkn
      refine x_iload_n F dJ7_fill_53178_5 rfl 1 rfl ?_
      refine x_iload_n F dJ7_fill_53178_6 rfl 0 rfl ?_
      refine x_icmp_ge F 20 dJ7_fill_53178_7 (by decide) (fun h7 => ?_) (fun h7 => ?_)
      · have hk9 := lp_exit (by omega) hkn h7
        subst hk9
        rw [hQ]
        exact x_vret F hr hlk rfl dJ7_fill_53178_20
      · have hk9 := lp_go (by omega) hkn h7
        refine x_aload_n F dJ7_fill_53178_10 rfl 2 rfl ?_
        refine x_iload_n F dJ7_fill_53178_11 rfl 1 rfl ?_
        refine x_iload_n F dJ7_fill_53178_12 rfl 3 rfl ?_
        refine y_iast F hm hs (vp_in_nI hk9 (by omega)) dJ7_fill_53178_13 ?_
        refine x_iinc F [(2, .int ((nI k) + 1)), (3, .int (nI n)), (0, .ref (ad r)), (1, .int v)] dJ7_fill_53178_14 1 rfl (by decide) rfl ?_
        refine x_goto F 5 dJ7_fill_53178_17 (by decide) ?_
        refine x_world (congrArg (fun z => k_c cy ad q ns nt z J) (show wI (fillI I r k v) r ((nI k).toNatClampNeg) v = fillI I r (k + 1) v by rw [nI_clamp (by omega), fill_s])) ?_
        rw [nI_1]
        refine x_sub [1, 0, 2, 3] rfl ?_
        exact ih5 (k + 1) (by omega) (by omega)
  refine x_world (congrArg (fun z => k_c cy ad q ns nt z J) (fill_0 I r v).symm) ?_
  exact lp5 (n + 1) 0 (by omega) (by omega)
set_option maxHeartbeats 4000000 in
set_option maxRecDepth 100000 in
/-- Network.weighWaysTo -/
theorem c_X0_weighWaysTo (l : Launch) (D : va_G) (cy : Nat → ClassId) (lo : Nat) (R : List Nat) (ad : Nat → Nat) (q : Nat → Nat → Nat) (ns nt : Nat) (I : Nat → Nat → Int32) (J : Nat → Nat → Int64) (hR : ∀ r, r < 36 → r ∈ R) (b : Int32) : k_Cv l yX0_weighWaysTo cX0_weighWaysTo 5 none 3 68 D cy lo R ad (k_c cy ad q ns nt I J) [.ref (ad 3), .int b] (k_c cy ad q ns nt (weighI I J b) J) := by
  refine k_metQ (by decide +kernel) (Nat.le_of_ble_eq_true rfl) ?_
  intro p e s m args below meth c Q F hr hlk hnm hQ
  refine x_aload_n F dX0_weighWaysTo_0 rfl 0 rfl ?_
  refine g_X0_22 F (hR 3 (by decide)) sc_3 rfl dX0_weighWaysTo_1 ?_
  refine x_ldc F (v := 1000000) dX0_weighWaysTo_4 370 (by decide +kernel) ?_
  refine z_callSv F [.ref (ad 11), .int 1000000] (c_J7_fill_53178 l D cy lo R ad q ns nt I J hR 11 1000000 5 ss_11 (hR 11 (by decide)) (by decide)) mc_J7_fill_53178 ms_J7_fill_53178 lk_X0_25 rfl rfl dX0_weighWaysTo_6 ⟨Nat.le_of_ble_eq_true rfl, Nat.le_of_ble_eq_true rfl⟩ ⟨Nat.le_of_ble_eq_true rfl, Nat.le_of_ble_eq_true rfl⟩ (Nat.le_of_ble_eq_true rfl) ?_
  refine x_iload_n F dX0_weighWaysTo_9 rfl 1 rfl ?_
  refine z_callSNi F [.int b] (c_X4_isCarrier l D cy lo R ad _ b) mc_X4_isCarrier ms_X4_isCarrier lk_X0_66 rfl rfl dX0_weighWaysTo_10 ⟨Nat.le_of_ble_eq_true rfl, Nat.le_of_ble_eq_true rfl⟩ ⟨Nat.le_of_ble_eq_true rfl, Nat.le_of_ble_eq_true rfl⟩ (Nat.le_of_ble_eq_true rfl) ?_
  refine x_if_eq F 23 dX0_weighWaysTo_13 (by decide) (fun h13 => ?_) (fun h13 => ?_)
  · rw [kb0] at h13
    refine x_iconst F (v := 1) dX0_weighWaysTo_23 (by decide) ?_
    refine x_istore_n F [(2, .int 1), (0, .ref (ad 3)), (1, .int b)] dX0_weighWaysTo_24 rfl (by decide) rfl ?_
    have lp25 : ∀ (fu25 : Nat) (d : Nat), 4 - d < fu25 → (d ≤ 4) → XW D lo p l e { frames := 3, cells := 0, slots := 0, locals := 68 } s m args below meth c 5 0 0 Q R ad (k_c cy ad q ns nt (outI (weigh0 I b) J d) J) 25 [(2, .int (nI (d + 1))), (0, .ref (ad 3)), (1, .int b)] [] := by
      intro fu25
      induction fu25 with
      | zero => intro d hf25; exact absurd hf25 (Nat.not_lt_zero _)
      | succ fu25 ih25 =>
        intro d hf25 hd4
        refine x_iload_n F dX0_weighWaysTo_25 rfl 0 rfl ?_
        refine x_iconst F (v := 5) dX0_weighWaysTo_26 (by decide) ?_
        refine x_icmp_ge F 96 dX0_weighWaysTo_27 (by decide) (fun h27 => ?_) (fun h27 => ?_)
        · have hk9 := lp_exit (N := 5) (k := d + 1) (by omega) (by omega) h27
          have hd9 : d = 4 := by omega
          rw [hQ]
          exact x_vret F hr hlk (by rw [hd9]; rfl) dX0_weighWaysTo_96
        · have hk9 := lp_go (N := 5) (k := d + 1) (by omega) (by omega) h27
          refine x_iconst F (v := 0) dX0_weighWaysTo_30 (by decide) ?_
          refine x_istore_n F [(3, .int 0), (2, .int (nI (d + 1))), (0, .ref (ad 3)), (1, .int b)] dX0_weighWaysTo_31 rfl (by decide) rfl ?_
          have lp32 : ∀ (fu32 : Nat) (f : Nat), 5 - f < fu32 → (f ≤ 5) → XW D lo p l e { frames := 3, cells := 0, slots := 0, locals := 68 } s m args below meth c 5 0 0 Q R ad (k_c cy ad q ns nt (midI (outI (weigh0 I b) J d) J f) J) 32 [(3, .int (nI f)), (2, .int (nI (d + 1))), (0, .ref (ad 3)), (1, .int b)] [] := by
            intro fu32
            induction fu32 with
            | zero => intro f hf32; exact absurd hf32 (Nat.not_lt_zero _)
            | succ fu32 ih32 =>
              intro f hf32 hf5
              refine x_iload_n F dX0_weighWaysTo_32 rfl 0 rfl ?_
              refine x_iconst F (v := 5) dX0_weighWaysTo_33 (by decide) ?_
              refine x_icmp_ge F 90 dX0_weighWaysTo_34 (by decide) (fun h34 => ?_) (fun h34 => ?_)
              · have hk8 := lp_exit (N := 5) (by omega) hf5 h34
                refine x_iinc F [(2, .int ((nI (d + 1)) + 1)), (3, .int (nI f)), (0, .ref (ad 3)), (1, .int b)] dX0_weighWaysTo_90 1 rfl (by decide) rfl ?_
                refine x_goto F 25 dX0_weighWaysTo_93 (by decide) ?_
                refine x_world (congrArg (fun z => k_c cy ad q ns nt z J) (show (midI (outI (weigh0 I b) J d) J f) = outI (weigh0 I b) J (d + 1) by rw [hk8, outI])) ?_
                rw [nI_1]
                refine x_sub [0, 2, 3] rfl ?_
                exact ih25 (d + 1) (by omega) (by omega)
              · have hk8 := lp_go (N := 5) (by omega) hf5 h34
                refine x_iconst F (v := 0) dX0_weighWaysTo_37 (by decide) ?_
                refine x_istore F [(4, .int 0), (3, .int (nI f)), (2, .int (nI (d + 1))), (0, .ref (ad 3)), (1, .int b)] dX0_weighWaysTo_38 (by decide) rfl ?_
                have lp40 : ∀ (fu40 : Nat) (g : Nat), 5 - g < fu40 → (g ≤ 5) → XW D lo p l e { frames := 3, cells := 0, slots := 0, locals := 68 } s m args below meth c 5 0 0 Q R ad (k_c cy ad q ns nt (innerI (midI (outI (weigh0 I b) J d) J f) J f g) J) 40 [(4, .int (nI g)), (3, .int (nI f)), (2, .int (nI (d + 1))), (0, .ref (ad 3)), (1, .int b)] [] := by
                  intro fu40
                  induction fu40 with
                  | zero => intro g hf40; exact absurd hf40 (Nat.not_lt_zero _)
                  | succ fu40 ih40 =>
                    intro g hf40 hg5
                    refine x_iload F dX0_weighWaysTo_40 0 rfl ?_
                    refine x_iconst F (v := 5) dX0_weighWaysTo_42 (by decide) ?_
                    refine x_icmp_ge F 84 dX0_weighWaysTo_43 (by decide) (fun h43 => ?_) (fun h43 => ?_)
                    · have hk7 := lp_exit (N := 5) (by omega) hg5 h43
                      refine x_iinc F [(3, .int ((nI f) + 1)), (4, .int (nI g)), (2, .int (nI (d + 1))), (0, .ref (ad 3)), (1, .int b)] dX0_weighWaysTo_84 1 rfl (by decide) rfl ?_
                      refine x_goto F 32 dX0_weighWaysTo_87 (by decide) ?_
                      refine x_world (congrArg (fun z => k_c cy ad q ns nt z J) (show (innerI (midI (outI (weigh0 I b) J d) J f) J f g) = midI (outI (weigh0 I b) J d) J (f + 1) by rw [hk7, midI])) ?_
                      rw [nI_1]
                      refine x_sub [0, 2, 3, 4] rfl ?_
                      exact ih32 (f + 1) (by omega) (by omega)
                    · have hk7 := lp_go (N := 5) (by omega) hg5 h43
                      refine x_aload_n F dX0_weighWaysTo_46 rfl 3 rfl ?_
                      refine x_iload_n F dX0_weighWaysTo_47 rfl 1 rfl ?_
                      refine x_iload F dX0_weighWaysTo_48 0 rfl ?_
                      refine z_callVi F [.int (nI f), .int (nI g)] (c_X0_isOpen l D cy lo R ad q ns nt (innerI (midI (outI (weigh0 I b) J d) J f) J f g) J hR (nI f) (nI g) ) mc_X0_isOpen mv_X0_isOpen lk_X0_45 (hR 3 (by decide)) sc_3 rfl rfl rfl dX0_weighWaysTo_50 ⟨Nat.le_of_ble_eq_true rfl, Nat.le_of_ble_eq_true rfl⟩ ⟨Nat.le_of_ble_eq_true rfl, Nat.le_of_ble_eq_true rfl⟩ (Nat.le_of_ble_eq_true rfl) ?_
                      refine x_if_eq F 78 dX0_weighWaysTo_53 (by decide) (fun h53 => ?_) (fun h53 => ?_)
                      · rw [kb0] at h53
                        refine x_iinc F [(4, .int ((nI g) + 1)), (3, .int (nI f)), (2, .int (nI (d + 1))), (0, .ref (ad 3)), (1, .int b)] dX0_weighWaysTo_78 0 rfl (by decide) rfl ?_
                        refine x_goto F 40 dX0_weighWaysTo_81 (by decide) ?_
                        refine x_world (congrArg (fun z => k_c cy ad q ns nt z J) (show (innerI (midI (outI (weigh0 I b) J d) J f) J f g) = innerI (midI (outI (weigh0 I b) J d) J f) J f (g + 1) by rw [innerI, relaxI, if_neg (by rw [h53]; decide)])) ?_
                        rw [nI_1]
                        exact ih40 (g + 1) (by omega) (by omega)
                      · rw [kb1] at h53
                        refine x_aload_n F dX0_weighWaysTo_56 rfl 3 rfl ?_
                        refine g_X0_22 F (hR 3 (by decide)) sc_3 rfl dX0_weighWaysTo_57 ?_
                        refine x_iload_n F dX0_weighWaysTo_60 rfl 1 rfl ?_
                        refine x_aload_n F dX0_weighWaysTo_61 rfl 3 rfl ?_
                        refine g_X0_22 F (hR 3 (by decide)) sc_3 rfl dX0_weighWaysTo_62 ?_
                        refine x_iload_n F dX0_weighWaysTo_65 rfl 1 rfl ?_
                        refine y_iald F (hR 11 (by decide)) ss_11 (vp_in_nI (by omega) (by decide)) dX0_weighWaysTo_66 ?_
                        refine x_aload_n F dX0_weighWaysTo_67 rfl 3 rfl ?_
                        refine x_iload_n F dX0_weighWaysTo_68 rfl 1 rfl ?_
                        refine x_iload F dX0_weighWaysTo_69 0 rfl ?_
                        refine z_callVi F [.int (nI f), .int (nI g)] (c_X0_weightOver l D cy lo R ad q ns nt (innerI (midI (outI (weigh0 I b) J d) J f) J f g) J hR (nI f) (nI g) ) mc_X0_weightOver mv_X0_weightOver lk_X0_84 (hR 3 (by decide)) sc_3 rfl rfl rfl dX0_weighWaysTo_71 ⟨Nat.le_of_ble_eq_true rfl, Nat.le_of_ble_eq_true rfl⟩ ⟨Nat.le_of_ble_eq_true rfl, Nat.le_of_ble_eq_true rfl⟩ (Nat.le_of_ble_eq_true rfl) ?_
                        refine z_min F lk_X0_87 ms_min ik_Math mc_min ⟨by decide, Nat.le_of_ble_eq_true rfl, Nat.le_of_ble_eq_true rfl, Nat.le_of_ble_eq_true rfl⟩ dX0_weighWaysTo_74 ?_
                        refine y_iast F (hR 11 (by decide)) ss_11 (vp_in_nI (by omega) (by decide)) dX0_weighWaysTo_77 ?_
                        refine x_iinc F [(4, .int ((nI g) + 1)), (3, .int (nI f)), (2, .int (nI (d + 1))), (0, .ref (ad 3)), (1, .int b)] dX0_weighWaysTo_78 0 rfl (by decide) rfl ?_
                        refine x_goto F 40 dX0_weighWaysTo_81 (by decide) ?_
                        refine x_world (congrArg (fun z => k_c cy ad q ns nt z J) (show wI (innerI (midI (outI (weigh0 I b) J d) J f) J f g) 11 ((nI f).toNatClampNeg) (if (overF (innerI (midI (outI (weigh0 I b) J d) J f) J f g) (nI f) (nI g)) < ((innerI (midI (outI (weigh0 I b) J d) J f) J f g) 11 (nI f).toNatClampNeg) then (overF (innerI (midI (outI (weigh0 I b) J d) J f) J f g) (nI f) (nI g)) else ((innerI (midI (outI (weigh0 I b) J d) J f) J f g) 11 (nI f).toNatClampNeg)) = innerI (midI (outI (weigh0 I b) J d) J f) J f (g + 1) by rw [innerI, relaxI, if_pos h53])) ?_
                        rw [nI_1]
                        exact ih40 (g + 1) (by omega) (by omega)
                refine x_world (congrArg (fun z => k_c cy ad q ns nt z J) (show (midI (outI (weigh0 I b) J d) J f) = innerI (midI (outI (weigh0 I b) J d) J f) J f 0 by rw [innerI])) ?_
                exact lp40 6 0 (by omega) (by omega)
          refine x_world (congrArg (fun z => k_c cy ad q ns nt z J) (show (outI (weigh0 I b) J d) = midI (outI (weigh0 I b) J d) J 0 by rw [midI])) ?_
          exact lp32 6 0 (by omega) (by omega)
    refine x_world (congrArg (fun z => k_c cy ad q ns nt z J) (show fillI I 11 5 1000000 = weigh0 I b by simp [weigh0, *])) ?_
    refine x_world (congrArg (fun z => k_c cy ad q ns nt z J) (show weigh0 I b = outI (weigh0 I b) J 0 by rw [outI])) ?_
    exact lp25 5 0 (by omega) (by omega)
  · rw [kb1] at h13
    refine x_aload_n F dX0_weighWaysTo_16 rfl 0 rfl ?_
    refine g_X0_22 F (hR 3 (by decide)) sc_3 rfl dX0_weighWaysTo_17 ?_
    refine x_iload_n F dX0_weighWaysTo_20 rfl 1 rfl ?_
    refine x_iconst F (v := 0) dX0_weighWaysTo_21 (by decide) ?_
    refine y_iast F (hR 11 (by decide)) ss_11 (vin_car ‹_›) dX0_weighWaysTo_22 ?_
    refine x_iconst F (v := 1) dX0_weighWaysTo_23 (by decide) ?_
    refine x_istore_n F [(2, .int 1), (0, .ref (ad 3)), (1, .int b)] dX0_weighWaysTo_24 rfl (by decide) rfl ?_
    have lp25 : ∀ (fu25 : Nat) (d : Nat), 4 - d < fu25 → (d ≤ 4) → XW D lo p l e { frames := 3, cells := 0, slots := 0, locals := 68 } s m args below meth c 5 0 0 Q R ad (k_c cy ad q ns nt (outI (weigh0 I b) J d) J) 25 [(2, .int (nI (d + 1))), (0, .ref (ad 3)), (1, .int b)] [] := by
      intro fu25
      induction fu25 with
      | zero => intro d hf25; exact absurd hf25 (Nat.not_lt_zero _)
      | succ fu25 ih25 =>
        intro d hf25 hd4
        refine x_iload_n F dX0_weighWaysTo_25 rfl 0 rfl ?_
        refine x_iconst F (v := 5) dX0_weighWaysTo_26 (by decide) ?_
        refine x_icmp_ge F 96 dX0_weighWaysTo_27 (by decide) (fun h27 => ?_) (fun h27 => ?_)
        · have hk9 := lp_exit (N := 5) (k := d + 1) (by omega) (by omega) h27
          have hd9 : d = 4 := by omega
          rw [hQ]
          exact x_vret F hr hlk (by rw [hd9]; rfl) dX0_weighWaysTo_96
        · have hk9 := lp_go (N := 5) (k := d + 1) (by omega) (by omega) h27
          refine x_iconst F (v := 0) dX0_weighWaysTo_30 (by decide) ?_
          refine x_istore_n F [(3, .int 0), (2, .int (nI (d + 1))), (0, .ref (ad 3)), (1, .int b)] dX0_weighWaysTo_31 rfl (by decide) rfl ?_
          have lp32 : ∀ (fu32 : Nat) (f : Nat), 5 - f < fu32 → (f ≤ 5) → XW D lo p l e { frames := 3, cells := 0, slots := 0, locals := 68 } s m args below meth c 5 0 0 Q R ad (k_c cy ad q ns nt (midI (outI (weigh0 I b) J d) J f) J) 32 [(3, .int (nI f)), (2, .int (nI (d + 1))), (0, .ref (ad 3)), (1, .int b)] [] := by
            intro fu32
            induction fu32 with
            | zero => intro f hf32; exact absurd hf32 (Nat.not_lt_zero _)
            | succ fu32 ih32 =>
              intro f hf32 hf5
              refine x_iload_n F dX0_weighWaysTo_32 rfl 0 rfl ?_
              refine x_iconst F (v := 5) dX0_weighWaysTo_33 (by decide) ?_
              refine x_icmp_ge F 90 dX0_weighWaysTo_34 (by decide) (fun h34 => ?_) (fun h34 => ?_)
              · have hk8 := lp_exit (N := 5) (by omega) hf5 h34
                refine x_iinc F [(2, .int ((nI (d + 1)) + 1)), (3, .int (nI f)), (0, .ref (ad 3)), (1, .int b)] dX0_weighWaysTo_90 1 rfl (by decide) rfl ?_
                refine x_goto F 25 dX0_weighWaysTo_93 (by decide) ?_
                refine x_world (congrArg (fun z => k_c cy ad q ns nt z J) (show (midI (outI (weigh0 I b) J d) J f) = outI (weigh0 I b) J (d + 1) by rw [hk8, outI])) ?_
                rw [nI_1]
                refine x_sub [0, 2, 3] rfl ?_
                exact ih25 (d + 1) (by omega) (by omega)
              · have hk8 := lp_go (N := 5) (by omega) hf5 h34
                refine x_iconst F (v := 0) dX0_weighWaysTo_37 (by decide) ?_
                refine x_istore F [(4, .int 0), (3, .int (nI f)), (2, .int (nI (d + 1))), (0, .ref (ad 3)), (1, .int b)] dX0_weighWaysTo_38 (by decide) rfl ?_
                have lp40 : ∀ (fu40 : Nat) (g : Nat), 5 - g < fu40 → (g ≤ 5) → XW D lo p l e { frames := 3, cells := 0, slots := 0, locals := 68 } s m args below meth c 5 0 0 Q R ad (k_c cy ad q ns nt (innerI (midI (outI (weigh0 I b) J d) J f) J f g) J) 40 [(4, .int (nI g)), (3, .int (nI f)), (2, .int (nI (d + 1))), (0, .ref (ad 3)), (1, .int b)] [] := by
                  intro fu40
                  induction fu40 with
                  | zero => intro g hf40; exact absurd hf40 (Nat.not_lt_zero _)
                  | succ fu40 ih40 =>
                    intro g hf40 hg5
                    refine x_iload F dX0_weighWaysTo_40 0 rfl ?_
                    refine x_iconst F (v := 5) dX0_weighWaysTo_42 (by decide) ?_
                    refine x_icmp_ge F 84 dX0_weighWaysTo_43 (by decide) (fun h43 => ?_) (fun h43 => ?_)
                    · have hk7 := lp_exit (N := 5) (by omega) hg5 h43
                      refine x_iinc F [(3, .int ((nI f) + 1)), (4, .int (nI g)), (2, .int (nI (d + 1))), (0, .ref (ad 3)), (1, .int b)] dX0_weighWaysTo_84 1 rfl (by decide) rfl ?_
                      refine x_goto F 32 dX0_weighWaysTo_87 (by decide) ?_
                      refine x_world (congrArg (fun z => k_c cy ad q ns nt z J) (show (innerI (midI (outI (weigh0 I b) J d) J f) J f g) = midI (outI (weigh0 I b) J d) J (f + 1) by rw [hk7, midI])) ?_
                      rw [nI_1]
                      refine x_sub [0, 2, 3, 4] rfl ?_
                      exact ih32 (f + 1) (by omega) (by omega)
                    · have hk7 := lp_go (N := 5) (by omega) hg5 h43
                      refine x_aload_n F dX0_weighWaysTo_46 rfl 3 rfl ?_
                      refine x_iload_n F dX0_weighWaysTo_47 rfl 1 rfl ?_
                      refine x_iload F dX0_weighWaysTo_48 0 rfl ?_
                      refine z_callVi F [.int (nI f), .int (nI g)] (c_X0_isOpen l D cy lo R ad q ns nt (innerI (midI (outI (weigh0 I b) J d) J f) J f g) J hR (nI f) (nI g) ) mc_X0_isOpen mv_X0_isOpen lk_X0_45 (hR 3 (by decide)) sc_3 rfl rfl rfl dX0_weighWaysTo_50 ⟨Nat.le_of_ble_eq_true rfl, Nat.le_of_ble_eq_true rfl⟩ ⟨Nat.le_of_ble_eq_true rfl, Nat.le_of_ble_eq_true rfl⟩ (Nat.le_of_ble_eq_true rfl) ?_
                      refine x_if_eq F 78 dX0_weighWaysTo_53 (by decide) (fun h53 => ?_) (fun h53 => ?_)
                      · rw [kb0] at h53
                        refine x_iinc F [(4, .int ((nI g) + 1)), (3, .int (nI f)), (2, .int (nI (d + 1))), (0, .ref (ad 3)), (1, .int b)] dX0_weighWaysTo_78 0 rfl (by decide) rfl ?_
                        refine x_goto F 40 dX0_weighWaysTo_81 (by decide) ?_
                        refine x_world (congrArg (fun z => k_c cy ad q ns nt z J) (show (innerI (midI (outI (weigh0 I b) J d) J f) J f g) = innerI (midI (outI (weigh0 I b) J d) J f) J f (g + 1) by rw [innerI, relaxI, if_neg (by rw [h53]; decide)])) ?_
                        rw [nI_1]
                        exact ih40 (g + 1) (by omega) (by omega)
                      · rw [kb1] at h53
                        refine x_aload_n F dX0_weighWaysTo_56 rfl 3 rfl ?_
                        refine g_X0_22 F (hR 3 (by decide)) sc_3 rfl dX0_weighWaysTo_57 ?_
                        refine x_iload_n F dX0_weighWaysTo_60 rfl 1 rfl ?_
                        refine x_aload_n F dX0_weighWaysTo_61 rfl 3 rfl ?_
                        refine g_X0_22 F (hR 3 (by decide)) sc_3 rfl dX0_weighWaysTo_62 ?_
                        refine x_iload_n F dX0_weighWaysTo_65 rfl 1 rfl ?_
                        refine y_iald F (hR 11 (by decide)) ss_11 (vp_in_nI (by omega) (by decide)) dX0_weighWaysTo_66 ?_
                        refine x_aload_n F dX0_weighWaysTo_67 rfl 3 rfl ?_
                        refine x_iload_n F dX0_weighWaysTo_68 rfl 1 rfl ?_
                        refine x_iload F dX0_weighWaysTo_69 0 rfl ?_
                        refine z_callVi F [.int (nI f), .int (nI g)] (c_X0_weightOver l D cy lo R ad q ns nt (innerI (midI (outI (weigh0 I b) J d) J f) J f g) J hR (nI f) (nI g) ) mc_X0_weightOver mv_X0_weightOver lk_X0_84 (hR 3 (by decide)) sc_3 rfl rfl rfl dX0_weighWaysTo_71 ⟨Nat.le_of_ble_eq_true rfl, Nat.le_of_ble_eq_true rfl⟩ ⟨Nat.le_of_ble_eq_true rfl, Nat.le_of_ble_eq_true rfl⟩ (Nat.le_of_ble_eq_true rfl) ?_
                        refine z_min F lk_X0_87 ms_min ik_Math mc_min ⟨by decide, Nat.le_of_ble_eq_true rfl, Nat.le_of_ble_eq_true rfl, Nat.le_of_ble_eq_true rfl⟩ dX0_weighWaysTo_74 ?_
                        refine y_iast F (hR 11 (by decide)) ss_11 (vp_in_nI (by omega) (by decide)) dX0_weighWaysTo_77 ?_
                        refine x_iinc F [(4, .int ((nI g) + 1)), (3, .int (nI f)), (2, .int (nI (d + 1))), (0, .ref (ad 3)), (1, .int b)] dX0_weighWaysTo_78 0 rfl (by decide) rfl ?_
                        refine x_goto F 40 dX0_weighWaysTo_81 (by decide) ?_
                        refine x_world (congrArg (fun z => k_c cy ad q ns nt z J) (show wI (innerI (midI (outI (weigh0 I b) J d) J f) J f g) 11 ((nI f).toNatClampNeg) (if (overF (innerI (midI (outI (weigh0 I b) J d) J f) J f g) (nI f) (nI g)) < ((innerI (midI (outI (weigh0 I b) J d) J f) J f g) 11 (nI f).toNatClampNeg) then (overF (innerI (midI (outI (weigh0 I b) J d) J f) J f g) (nI f) (nI g)) else ((innerI (midI (outI (weigh0 I b) J d) J f) J f g) 11 (nI f).toNatClampNeg)) = innerI (midI (outI (weigh0 I b) J d) J f) J f (g + 1) by rw [innerI, relaxI, if_pos h53])) ?_
                        rw [nI_1]
                        exact ih40 (g + 1) (by omega) (by omega)
                refine x_world (congrArg (fun z => k_c cy ad q ns nt z J) (show (midI (outI (weigh0 I b) J d) J f) = innerI (midI (outI (weigh0 I b) J d) J f) J f 0 by rw [innerI])) ?_
                exact lp40 6 0 (by omega) (by omega)
          refine x_world (congrArg (fun z => k_c cy ad q ns nt z J) (show (outI (weigh0 I b) J d) = midI (outI (weigh0 I b) J d) J 0 by rw [midI])) ?_
          exact lp32 6 0 (by omega) (by omega)
    refine x_world (congrArg (fun z => k_c cy ad q ns nt z J) (show wI (fillI I 11 5 1000000) 11 b.toNatClampNeg 0 = weigh0 I b by simp [weigh0, *])) ?_
    refine x_world (congrArg (fun z => k_c cy ad q ns nt z J) (show weigh0 I b = outI (weigh0 I b) J 0 by rw [outI])) ?_
    exact lp25 5 0 (by omega) (by omega)
set_option maxHeartbeats 4000000 in
set_option maxRecDepth 100000 in
/-- Network.findBest -/
theorem c_X0_findBest (l : Launch) (D : va_G) (cy : Nat → ClassId) (lo : Nat) (R : List Nat) (ad : Nat → Nat) (q : Nat → Nat → Nat) (ns nt : Nat) (I : Nat → Nat → Int32) (J : Nat → Nat → Int64) (hR : ∀ r, r < 36 → r ∈ R) (r : Nat) (a : Int32) (b : Int32) (hk : r = 6 ∨ (80 ≤ r ∧ r % 4 = 1)) (hm : r ∈ R) (hn : r + 1 ∈ R) : k_Ci l yX0_findBest cX0_findBest 6 (some .boolean) 4 92 D cy lo R ad (k_c cy ad q ns nt I J) [.ref (ad 3), .int a, .int b, .ref (ad r)] (k_b (fbB I J a b)) (k_c cy ad q ns nt (fbI I J a b r) J) := by
  refine k_metQ (by decide +kernel) (Nat.le_of_ble_eq_true rfl) ?_
  intro p e s m args below meth c Q F hr hlk hnm hQ
  refine x_iload_n F dX0_findBest_0 rfl 1 rfl ?_
  refine z_callSNi F [.int a] (c_X4_isCarrier l D cy lo R ad _ a) mc_X4_isCarrier ms_X4_isCarrier lk_X0_66 rfl rfl dX0_findBest_1 ⟨Nat.le_of_ble_eq_true rfl, Nat.le_of_ble_eq_true rfl⟩ ⟨Nat.le_of_ble_eq_true rfl, Nat.le_of_ble_eq_true rfl⟩ (Nat.le_of_ble_eq_true rfl) ?_
  refine x_if_eq F 14 dX0_findBest_4 (by decide) (fun h4 => ?_) (fun h4 => ?_)
  · rw [kb0] at h4
    refine x_iconst F (v := 0) dX0_findBest_14 (by decide) ?_
    rw [hQ]
    exact x_zret F hr hlk (by decide) ⟨by simp [fbB, k_b, *], by simp [fbI, *]⟩ dX0_findBest_15
  · rw [kb1] at h4
    refine x_iload_n F dX0_findBest_7 rfl 2 rfl ?_
    refine z_callSNi F [.int b] (c_X4_isCarrier l D cy lo R ad _ b) mc_X4_isCarrier ms_X4_isCarrier lk_X0_66 rfl rfl dX0_findBest_8 ⟨Nat.le_of_ble_eq_true rfl, Nat.le_of_ble_eq_true rfl⟩ ⟨Nat.le_of_ble_eq_true rfl, Nat.le_of_ble_eq_true rfl⟩ (Nat.le_of_ble_eq_true rfl) ?_
    refine x_if_ne F 16 dX0_findBest_11 (by decide) (fun h11 => ?_) (fun h11 => ?_)
    · rw [kb1] at h11
      refine x_aload_n F dX0_findBest_16 rfl 0 rfl ?_
      refine x_iload_n F dX0_findBest_17 rfl 2 rfl ?_
      refine z_callVv F [.int b] (c_X0_weighWaysTo l D cy lo R ad q ns nt I J hR b ) mc_X0_weighWaysTo mv_X0_weighWaysTo lk_X0_70 (hR 3 (by decide)) sc_3 rfl rfl rfl dX0_findBest_18 ⟨Nat.le_of_ble_eq_true rfl, Nat.le_of_ble_eq_true rfl⟩ ⟨Nat.le_of_ble_eq_true rfl, Nat.le_of_ble_eq_true rfl⟩ (Nat.le_of_ble_eq_true rfl) ?_
      refine x_aload_n F dX0_findBest_21 rfl 0 rfl ?_
      refine g_X0_22 F (hR 3 (by decide)) sc_3 rfl dX0_findBest_22 ?_
      refine x_iload_n F dX0_findBest_25 rfl 1 rfl ?_
      refine y_iald F (hR 11 (by decide)) ss_11 (vin_car ‹_›) dX0_findBest_26 ?_
      refine x_ldc F (v := 1000000) dX0_findBest_27 370 (by decide +kernel) ?_
      refine x_icmp_lt F 34 dX0_findBest_29 (by decide) (fun h29 => ?_) (fun h29 => ?_)
      · refine x_aload_n F dX0_findBest_34 rfl 3 rfl ?_
        refine z_callVv F [] (c_X1_clear l D cy lo R ad q ns nt (weighI I J b) J hR r hk hm hn) mc_X1_clear mv_X1_clear lk_X0_75 hm (sc_rte hk) rfl rfl rfl dX0_findBest_35 ⟨Nat.le_of_ble_eq_true rfl, Nat.le_of_ble_eq_true rfl⟩ ⟨Nat.le_of_ble_eq_true rfl, Nat.le_of_ble_eq_true rfl⟩ (Nat.le_of_ble_eq_true rfl) ?_
        refine x_aload_n F dX0_findBest_38 rfl 3 rfl ?_
        refine x_iload_n F dX0_findBest_39 rfl 1 rfl ?_
        refine z_callVv F [.int a] (c_X1_add l D cy lo R ad q ns nt (wI (weighI I J b) r 1 0) J hR r a hk hm hn) mc_X1_add mv_X1_add lk_X0_78 hm (sc_rte hk) rfl rfl rfl dX0_findBest_40 ⟨Nat.le_of_ble_eq_true rfl, Nat.le_of_ble_eq_true rfl⟩ ⟨Nat.le_of_ble_eq_true rfl, Nat.le_of_ble_eq_true rfl⟩ (Nat.le_of_ble_eq_true rfl) ?_
        refine x_iload_n F dX0_findBest_43 rfl 1 rfl ?_
        refine x_istore F [(4, .int a), (0, .ref (ad 3)), (1, .int a), (2, .int b), (3, .ref (ad r))] dX0_findBest_44 (by decide) rfl ?_
        refine x_iconst F (v := 1) dX0_findBest_46 (by decide) ?_
        refine x_istore F [(5, .int 1), (4, .int a), (0, .ref (ad 3)), (1, .int a), (2, .int b), (3, .ref (ad r))] dX0_findBest_47 (by decide) rfl ?_
        have lp49 : ∀ (fu49 : Nat) (j : Nat), 4 - j < fu49 → (j ≤ 4) → XW D lo p l e { frames := 4, cells := 0, slots := 0, locals := 92 } s m args below meth c 6 0 0 Q R ad (k_c cy ad q ns nt ((goF (weighI I J b) J r a b j).2) J) 49 [(5, .int (nI (j + 1))), (4, .int ((goF (weighI I J b) J r a b j).1)), (0, .ref (ad 3)), (1, .int a), (2, .int b), (3, .ref (ad r))] [] := by
          intro fu49
          induction fu49 with
          | zero => intro j hf49; exact absurd hf49 (Nat.not_lt_zero _)
          | succ fu49 ih49 =>
            intro j hf49 hj4
            refine x_iload F dX0_findBest_49 0 rfl ?_
            refine x_iconst F (v := 5) dX0_findBest_51 (by decide) ?_
            refine x_icmp_ge F 81 dX0_findBest_52 (by decide) (fun h52 => ?_) (fun h52 => ?_)
            · have hk9 := lp_exit (N := 5) (k := j + 1) (by omega) (by omega) h52
              have hj9 : j = 4 := by omega
              refine x_iconst F (v := 1) dX0_findBest_81 (by decide) ?_
              rw [hQ]
              exact x_zret F hr hlk (by decide) ⟨by simp [fbB, k_b, h4, h11, h29], by rw [fbI, if_pos (by simp [h4, h11]), if_pos h29, hj9]⟩ dX0_findBest_82
            · have hk9 := lp_go (N := 5) (k := j + 1) (by omega) (by omega) h52
              refine x_iload F dX0_findBest_55 1 rfl ?_
              refine x_iload_n F dX0_findBest_57 rfl 4 rfl ?_
              refine x_icmp_eq F 81 dX0_findBest_58 (by decide) (fun h58 => ?_) (fun h58 => ?_)
              · have hs9 := go_stay h58 4 (by omega)
                refine x_iconst F (v := 1) dX0_findBest_81 (by decide) ?_
                rw [hQ]
                exact x_zret F hr hlk (by decide) ⟨by simp [fbB, k_b, h4, h11, h29], by rw [fbI, if_pos (by simp [h4, h11]), if_pos h29, hs9]⟩ dX0_findBest_82
              · refine x_aload_n F dX0_findBest_61 rfl 2 rfl ?_
                refine x_iload F dX0_findBest_62 1 rfl ?_
                refine z_callVi F [.int ((goF (weighI I J b) J r a b j).1)] (c_X0_nextOnBest l D cy lo R ad q ns nt ((goF (weighI I J b) J r a b j).2) J hR ((goF (weighI I J b) J r a b j).1) ) mc_X0_nextOnBest mv_X0_nextOnBest lk_X0_81 (hR 3 (by decide)) sc_3 rfl rfl rfl dX0_findBest_64 ⟨Nat.le_of_ble_eq_true rfl, Nat.le_of_ble_eq_true rfl⟩ ⟨Nat.le_of_ble_eq_true rfl, Nat.le_of_ble_eq_true rfl⟩ (Nat.le_of_ble_eq_true rfl) ?_
                refine x_istore F [(4, .int (nextF ((goF (weighI I J b) J r a b j).2) J ((goF (weighI I J b) J r a b j).1))), (5, .int (nI (j + 1))), (0, .ref (ad 3)), (1, .int a), (2, .int b), (3, .ref (ad r))] dX0_findBest_67 (by decide) rfl ?_
                refine x_aload_n F dX0_findBest_69 rfl 5 rfl ?_
                refine x_iload F dX0_findBest_70 0 rfl ?_
                refine z_callVv F [.int (nextF ((goF (weighI I J b) J r a b j).2) J ((goF (weighI I J b) J r a b j).1))] (c_X1_add l D cy lo R ad q ns nt ((goF (weighI I J b) J r a b j).2) J hR r (nextF ((goF (weighI I J b) J r a b j).2) J ((goF (weighI I J b) J r a b j).1)) hk hm hn) mc_X1_add mv_X1_add lk_X0_78 hm (sc_rte hk) rfl rfl rfl dX0_findBest_72 ⟨Nat.le_of_ble_eq_true rfl, Nat.le_of_ble_eq_true rfl⟩ ⟨Nat.le_of_ble_eq_true rfl, Nat.le_of_ble_eq_true rfl⟩ (Nat.le_of_ble_eq_true rfl) ?_
                refine x_iinc F [(5, .int ((nI (j + 1)) + 1)), (4, .int (nextF ((goF (weighI I J b) J r a b j).2) J ((goF (weighI I J b) J r a b j).1))), (0, .ref (ad 3)), (1, .int a), (2, .int b), (3, .ref (ad r))] dX0_findBest_75 1 rfl (by decide) rfl ?_
                refine x_goto F 49 dX0_findBest_78 (by decide) ?_
                refine x_world (congrArg (fun z => k_c cy ad q ns nt z J) (show addRI ((goF (weighI I J b) J r a b j).2) r (nextF ((goF (weighI I J b) J r a b j).2) J ((goF (weighI I J b) J r a b j).1)) = (goF (weighI I J b) J r a b (j + 1)).2 by conv => rhs; rw [goF, if_neg h58])) ?_
                rw [nI_1, show nextF (goF (weighI I J b) J r a b j).2 J (goF (weighI I J b) J r a b j).1 = (goF (weighI I J b) J r a b (j + 1)).1 by rw [goF, if_neg h58]]
                exact ih49 (j + 1) (by omega) (by omega)
        refine x_sub (lv' := [(5, .int (nI (0 + 1))), (4, .int ((goF (weighI I J b) J r a b 0).1)), (0, .ref (ad 3)), (1, .int a), (2, .int b), (3, .ref (ad r))]) [0, 1, 2, 3, 4, 5] (by rw [go_0]; rfl) ?_
        refine x_world (congrArg (fun z => k_c cy ad q ns nt z J) (show addRI (wI (weighI I J b) r 1 0) r a = (goF (weighI I J b) J r a b 0).2 by rw [go_0])) ?_
        exact lp49 5 0 (by omega) (by omega)
      · refine x_iconst F (v := 0) dX0_findBest_32 (by decide) ?_
        rw [hQ]
        exact x_zret F hr hlk (by decide) ⟨by simp [fbB, k_b, *], by simp [fbI, *]⟩ dX0_findBest_33
    · rw [kb0] at h11
      refine x_iconst F (v := 0) dX0_findBest_14 (by decide) ?_
      rw [hQ]
      exact x_zret F hr hlk (by decide) ⟨by simp [fbB, k_b, *], by simp [fbI, *]⟩ dX0_findBest_15
end
section
theorem wi_car (c : Int32) : isWi c 0 4 = isCar c := by
  have h : (4 : Int32) < c ↔ 5 ≤ c := by
    rw [Int32.lt_iff_toInt_lt, Int32.le_iff_toInt_le]
    have e4 : (4 : Int32).toInt = 4 := rfl
    have e5 : (5 : Int32).toInt = 5 := rfl
    rw [e4, e5]
    omega
  by_cases h1 : c < 0 <;> by_cases h2 : 5 ≤ c <;> simp [isWi, isCar, h1, h2, h]
theorem car_nI {c : Int32} (h : isCar c = true) : ∃ n : Nat, n < 5 ∧ c = nI n := vp_in_of (vin_car h) (by decide)
theorem car_of {n : Nat} (h : n < 5) : isCar (nI n) = true := by
  rcases (show n = 0 ∨ n = 1 ∨ n = 2 ∨ n = 3 ∨ n = 4 by omega) with rfl | rfl | rfl | rfl | rfl <;> decide
theorem pair_nI {a b : Int32} (ha : isCar a = true) (hb : isCar b = true) : ∃ m n : Nat, m < 5 ∧ n < 5 ∧ a = nI m ∧ b = nI n ∧ 5 * a + b = nI (5 * m + n) := by
  obtain ⟨m, hm, rfl⟩ := car_nI ha
  obtain ⟨n, hn, rfl⟩ := car_nI hb
  exact ⟨m, n, hm, hn, rfl, rfl, by rw [show (5 : Int32) = nI 5 from rfl, pk_mul, nI_add]⟩
theorem vin_pair {a b : Int32} (ha : isCar a = true) (hb : isCar b = true) : vp_in (5 * a + b) 25 := by
  obtain ⟨m, n, hm, hn, -, -, e⟩ := pair_nI ha hb
  rw [e]
  exact vp_in_nI (by omega) (by decide)
end
section
def debtM (J : Nat → Nat → Int64) (a b : Int32) : Int64 := J 19 (5 * a + b).toNatClampNeg - J 20 (5 * a + b).toNatClampNeg - J 19 (5 * b + a).toNatClampNeg + J 20 (5 * b + a).toNatClampNeg
def shutM (I : Nat → Nat → Int32) (J : Nat → Nat → Int64) (a b : Int32) : Bool := decide (I 16 (5 * a + b).toNatClampNeg = 0) || decide ((I 18 (5 * a + b).toNatClampNeg).toInt64 < debtM J a b + (I 17 (5 * a + b).toNatClampNeg).toInt64)
def homeM (I : Nat → Nat → Int32) (n : Int32) : Int32 := I 22 (10 * n + I 21 n.toNatClampNeg - 1).toNatClampNeg
def isNum (I : Nat → Nat → Int32) (n : Int32) : Bool := isWi n 0 (I 13 8 - 1)
def isCal (I : Nat → Nat → Int32) (n : Int32) : Bool := isWi n 0 (I 13 13 - 1)
set_option maxHeartbeats 4000000 in
set_option maxRecDepth 100000 in
/-- isCarrier -/
theorem c_X5_isCarrier (l : Launch) (D : va_G) (cy : Nat → ClassId) (lo : Nat) (R : List Nat) (ad : Nat → Nat) (w : Nat → va_E) (a : Int32) : k_Ci l yX5_isCarrier cX5_isCarrier 1 (some .boolean) 1 22 D cy lo R ad w [.int a] (k_b (isCar a)) w := by
  refine k_metQ (by decide +kernel) (Nat.le_of_ble_eq_true rfl) ?_
  intro p e s m args below meth c Q F hr hlk hnm hQ
  refine x_iload_n F dX5_isCarrier_0 rfl 0 rfl ?_
  refine x_iconst F (v := 0) dX5_isCarrier_1 (by decide) ?_
  refine x_iconst F (v := 4) dX5_isCarrier_2 (by decide) ?_
  refine z_callSi F [.int a, .int 0, .int 4] (c_X5_isIn l D cy lo R ad _ a 0 4) mc_X5_isIn ms_X5_isIn lk_X5_82 rfl rfl dX5_isCarrier_3 ⟨Nat.le_of_ble_eq_true rfl, Nat.le_of_ble_eq_true rfl⟩ ⟨Nat.le_of_ble_eq_true rfl, Nat.le_of_ble_eq_true rfl⟩ (Nat.le_of_ble_eq_true rfl) ?_
  rw [hQ]
  exact x_zret F hr hlk (kb_n _) ⟨by rw [wi_car], rfl⟩ dX5_isCarrier_6
set_option maxHeartbeats 4000000 in
set_option maxRecDepth 100000 in
/-- areCarriers -/
theorem c_X5_areCarriers (l : Launch) (D : va_G) (cy : Nat → ClassId) (lo : Nat) (R : List Nat) (ad : Nat → Nat) (w : Nat → va_E) (a b : Int32) : k_Ci l yX5_areCarriers cX5_areCarriers 2 (some .boolean) 2 42 D cy lo R ad w [.int a, .int b] (k_b (isCar a && isCar b)) w := by
  refine k_metQ (by decide +kernel) (Nat.le_of_ble_eq_true rfl) ?_
  intro p e s m args below meth c Q F hr hlk hnm hQ
  refine x_iload_n F dX5_areCarriers_0 rfl 0 rfl ?_
  refine z_callSi F [.int a] (c_X5_isCarrier l D cy lo R ad _ a) mc_X5_isCarrier ms_X5_isCarrier lk_X5_86 rfl rfl dX5_areCarriers_1 ⟨Nat.le_of_ble_eq_true rfl, Nat.le_of_ble_eq_true rfl⟩ ⟨Nat.le_of_ble_eq_true rfl, Nat.le_of_ble_eq_true rfl⟩ (Nat.le_of_ble_eq_true rfl) ?_
  refine x_if_eq F 18 dX5_areCarriers_4 (by decide) (fun h4 => ?_) (fun h4 => ?_)
  · rw [kb0] at h4
    refine x_iconst F (v := 0) dX5_areCarriers_18 (by decide) ?_
    rw [hQ]
    exact x_zret F hr hlk (by decide) ⟨by simp [k_b, *], rfl⟩ dX5_areCarriers_19
  · rw [kb1] at h4
    refine x_iload_n F dX5_areCarriers_7 rfl 1 rfl ?_
    refine z_callSi F [.int b] (c_X5_isCarrier l D cy lo R ad _ b) mc_X5_isCarrier ms_X5_isCarrier lk_X5_86 rfl rfl dX5_areCarriers_8 ⟨Nat.le_of_ble_eq_true rfl, Nat.le_of_ble_eq_true rfl⟩ ⟨Nat.le_of_ble_eq_true rfl, Nat.le_of_ble_eq_true rfl⟩ (Nat.le_of_ble_eq_true rfl) ?_
    refine x_if_eq F 18 dX5_areCarriers_11 (by decide) (fun h11 => ?_) (fun h11 => ?_)
    · rw [kb0] at h11
      refine x_iconst F (v := 0) dX5_areCarriers_18 (by decide) ?_
      rw [hQ]
      exact x_zret F hr hlk (by decide) ⟨by simp [k_b, *], rfl⟩ dX5_areCarriers_19
    · rw [kb1] at h11
      refine x_iconst F (v := 1) dX5_areCarriers_14 (by decide) ?_
      refine x_goto F 19 dX5_areCarriers_15 (by decide) ?_
      rw [hQ]
      exact x_zret F hr hlk (by decide) ⟨by simp [k_b, *], rfl⟩ dX5_areCarriers_19
set_option maxHeartbeats 4000000 in
set_option maxRecDepth 100000 in
/-- thrown -/
theorem c_X5_thrown (l : Launch) (D : va_G) (cy : Nat → ClassId) (lo : Nat) (R : List Nat) (ad : Nat → Nat) (q : Nat → Nat → Nat) (ns nt : Nat) (I : Nat → Nat → Int32) (J : Nat → Nat → Int64) (hR : ∀ r, r < 36 → r ∈ R) : k_Ci l yX5_thrown cX5_thrown 1 (some .int) 0 0 D cy lo R ad (k_c cy ad q ns nt I J) [.ref (ad 13)] (I 13 0) (k_c cy ad q ns nt I J) := by
  refine k_metQ (by decide +kernel) (Nat.le_of_ble_eq_true rfl) ?_
  intro p e s m args below meth c Q F hr hlk hnm hQ
  refine x_aload_n F dX5_thrown_0 rfl 0 rfl ?_
  refine g_X5_78 F (hR 13 (by decide)) sc_13 rfl dX5_thrown_1 ?_
  rw [hQ]
  exact x_iret F hr hlk ⟨rfl, rfl⟩ dX5_thrown_4
set_option maxHeartbeats 4000000 in
set_option maxRecDepth 100000 in
/-- isNumber -/
theorem c_X5_isNumber (l : Launch) (D : va_G) (cy : Nat → ClassId) (lo : Nat) (R : List Nat) (ad : Nat → Nat) (q : Nat → Nat → Nat) (ns nt : Nat) (I : Nat → Nat → Int32) (J : Nat → Nat → Int64) (hR : ∀ r, r < 36 → r ∈ R) (a : Int32) : k_Ci l yX5_isNumber cX5_isNumber 2 (some .boolean) 1 22 D cy lo R ad (k_c cy ad q ns nt I J) [.ref (ad 13), .int a] (k_b (isNum I a)) (k_c cy ad q ns nt I J) := by
  refine k_metQ (by decide +kernel) (Nat.le_of_ble_eq_true rfl) ?_
  intro p e s m args below meth c Q F hr hlk hnm hQ
  refine x_iload_n F dX5_isNumber_0 rfl 1 rfl ?_
  refine x_iconst F (v := 0) dX5_isNumber_1 (by decide) ?_
  refine x_aload_n F dX5_isNumber_2 rfl 0 rfl ?_
  refine g_X5_90 F (hR 13 (by decide)) sc_13 rfl dX5_isNumber_3 ?_
  refine x_iconst F (v := 1) dX5_isNumber_6 (by decide) ?_
  refine x_isub F dX5_isNumber_7 ?_
  refine z_callSi F [.int a, .int 0, .int ((I 13 8) - 1)] (c_X5_isIn l D cy lo R ad _ a 0 ((I 13 8) - 1)) mc_X5_isIn ms_X5_isIn lk_X5_82 rfl rfl dX5_isNumber_8 ⟨Nat.le_of_ble_eq_true rfl, Nat.le_of_ble_eq_true rfl⟩ ⟨Nat.le_of_ble_eq_true rfl, Nat.le_of_ble_eq_true rfl⟩ (Nat.le_of_ble_eq_true rfl) ?_
  rw [hQ]
  exact x_zret F hr hlk (kb_n _) ⟨rfl, rfl⟩ dX5_isNumber_11
set_option maxHeartbeats 4000000 in
set_option maxRecDepth 100000 in
/-- isCall -/
theorem c_X5_isCall (l : Launch) (D : va_G) (cy : Nat → ClassId) (lo : Nat) (R : List Nat) (ad : Nat → Nat) (q : Nat → Nat → Nat) (ns nt : Nat) (I : Nat → Nat → Int32) (J : Nat → Nat → Int64) (hR : ∀ r, r < 36 → r ∈ R) (a : Int32) : k_Ci l yX5_isCall cX5_isCall 2 (some .boolean) 1 22 D cy lo R ad (k_c cy ad q ns nt I J) [.ref (ad 13), .int a] (k_b (isCal I a)) (k_c cy ad q ns nt I J) := by
  refine k_metQ (by decide +kernel) (Nat.le_of_ble_eq_true rfl) ?_
  intro p e s m args below meth c Q F hr hlk hnm hQ
  refine x_iload_n F dX5_isCall_0 rfl 1 rfl ?_
  refine x_iconst F (v := 0) dX5_isCall_1 (by decide) ?_
  refine x_aload_n F dX5_isCall_2 rfl 0 rfl ?_
  refine g_X5_93 F (hR 13 (by decide)) sc_13 rfl dX5_isCall_3 ?_
  refine x_iconst F (v := 1) dX5_isCall_6 (by decide) ?_
  refine x_isub F dX5_isCall_7 ?_
  refine z_callSi F [.int a, .int 0, .int ((I 13 13) - 1)] (c_X5_isIn l D cy lo R ad _ a 0 ((I 13 13) - 1)) mc_X5_isIn ms_X5_isIn lk_X5_82 rfl rfl dX5_isCall_8 ⟨Nat.le_of_ble_eq_true rfl, Nat.le_of_ble_eq_true rfl⟩ ⟨Nat.le_of_ble_eq_true rfl, Nat.le_of_ble_eq_true rfl⟩ (Nat.le_of_ble_eq_true rfl) ?_
  rw [hQ]
  exact x_zret F hr hlk (kb_n _) ⟨rfl, rfl⟩ dX5_isCall_11
set_option maxHeartbeats 4000000 in
set_option maxRecDepth 100000 in
/-- homeOf -/
theorem c_X5_homeOf (l : Launch) (D : va_G) (cy : Nat → ClassId) (lo : Nat) (R : List Nat) (ad : Nat → Nat) (q : Nat → Nat → Nat) (ns nt : Nat) (I : Nat → Nat → Int32) (J : Nat → Nat → Int64) (hR : ∀ r, r < 36 → r ∈ R) (a : Int32) (hx1 : vp_in a 20) (hx2 : vp_in (10 * a + I 21 a.toNatClampNeg - 1) 200) : k_Ci l yX5_homeOf cX5_homeOf 2 (some .int) 0 0 D cy lo R ad (k_c cy ad q ns nt I J) [.ref (ad 13), .int a] (homeM I a) (k_c cy ad q ns nt I J) := by
  refine k_metQ (by decide +kernel) (Nat.le_of_ble_eq_true rfl) ?_
  intro p e s m args below meth c Q F hr hlk hnm hQ
  refine x_aload_n F dX5_homeOf_0 rfl 0 rfl ?_
  refine g_X5_36 F (hR 13 (by decide)) sc_13 rfl dX5_homeOf_1 ?_
  refine x_bipush F (v := 10) dX5_homeOf_4 (by decide) ?_
  refine x_iload_n F dX5_homeOf_6 rfl 1 rfl ?_
  refine x_imul F dX5_homeOf_7 ?_
  refine x_aload_n F dX5_homeOf_8 rfl 0 rfl ?_
  refine g_X5_33 F (hR 13 (by decide)) sc_13 rfl dX5_homeOf_9 ?_
  refine x_iload_n F dX5_homeOf_12 rfl 1 rfl ?_
  refine y_iald F (hR 21 (by decide)) ss_21 ‹_› dX5_homeOf_13 ?_
  refine x_iadd F dX5_homeOf_14 ?_
  refine x_iconst F (v := 1) dX5_homeOf_15 (by decide) ?_
  refine x_isub F dX5_homeOf_16 ?_
  refine y_iald F (hR 22 (by decide)) ss_22 ‹_› dX5_homeOf_17 ?_
  rw [hQ]
  exact x_iret F hr hlk ⟨rfl, rfl⟩ dX5_homeOf_18
set_option maxHeartbeats 4000000 in
set_option maxRecDepth 100000 in
/-- debtOf -/
theorem c_X5_debtOf (l : Launch) (D : va_G) (cy : Nat → ClassId) (lo : Nat) (R : List Nat) (ad : Nat → Nat) (q : Nat → Nat → Nat) (ns nt : Nat) (I : Nat → Nat → Int32) (J : Nat → Nat → Int64) (hR : ∀ r, r < 36 → r ∈ R) (a : Int32) (b : Int32) (ha : isCar a = true) (hb : isCar b = true) : k_Cl l yX5_debtOf cX5_debtOf 5 (some .long) 0 0 D cy lo R ad (k_c cy ad q ns nt I J) [.ref (ad 13), .int a, .int b] (debtM J a b) (k_c cy ad q ns nt I J) := by
  refine k_metQ (by decide +kernel) (Nat.le_of_ble_eq_true rfl) ?_
  intro p e s m args below meth c Q F hr hlk hnm hQ
  refine x_iconst F (v := 5) dX5_debtOf_0 (by decide) ?_
  refine x_iload_n F dX5_debtOf_1 rfl 1 rfl ?_
  refine x_imul F dX5_debtOf_2 ?_
  refine x_iload_n F dX5_debtOf_3 rfl 2 rfl ?_
  refine x_iadd F dX5_debtOf_4 ?_
  refine x_istore_n F [(3, .int ((5 * a) + b)), (0, .ref (ad 13)), (1, .int a), (2, .int b)] dX5_debtOf_5 rfl (by decide) rfl ?_
  refine x_iconst F (v := 5) dX5_debtOf_6 (by decide) ?_
  refine x_iload_n F dX5_debtOf_7 rfl 3 rfl ?_
  refine x_imul F dX5_debtOf_8 ?_
  refine x_iload_n F dX5_debtOf_9 rfl 2 rfl ?_
  refine x_iadd F dX5_debtOf_10 ?_
  refine x_istore F [(4, .int ((5 * b) + a)), (3, .int ((5 * a) + b)), (0, .ref (ad 13)), (1, .int a), (2, .int b)] dX5_debtOf_11 (by decide) rfl ?_
  refine x_aload_n F dX5_debtOf_13 rfl 2 rfl ?_
  refine g_X5_26 F (hR 13 (by decide)) sc_13 rfl dX5_debtOf_14 ?_
  refine x_iload_n F dX5_debtOf_17 rfl 1 rfl ?_
  refine y_lald F (hR 19 (by decide)) ss_19 (vin_pair ‹_› ‹_›) dX5_debtOf_18 ?_
  refine x_aload_n F dX5_debtOf_19 rfl 2 rfl ?_
  refine g_X5_30 F (hR 13 (by decide)) sc_13 rfl dX5_debtOf_20 ?_
  refine x_iload_n F dX5_debtOf_23 rfl 1 rfl ?_
  refine y_lald F (hR 20 (by decide)) ss_20 (vin_pair ‹_› ‹_›) dX5_debtOf_24 ?_
  refine x_lsub F dX5_debtOf_25 ?_
  refine x_aload_n F dX5_debtOf_26 rfl 2 rfl ?_
  refine g_X5_26 F (hR 13 (by decide)) sc_13 rfl dX5_debtOf_27 ?_
  refine x_iload F dX5_debtOf_30 0 rfl ?_
  refine y_lald F (hR 19 (by decide)) ss_19 (vin_pair ‹_› ‹_›) dX5_debtOf_32 ?_
  refine x_lsub F dX5_debtOf_33 ?_
  refine x_aload_n F dX5_debtOf_34 rfl 2 rfl ?_
  refine g_X5_30 F (hR 13 (by decide)) sc_13 rfl dX5_debtOf_35 ?_
  refine x_iload F dX5_debtOf_38 0 rfl ?_
  refine y_lald F (hR 20 (by decide)) ss_20 (vin_pair ‹_› ‹_›) dX5_debtOf_40 ?_
  refine x_ladd F dX5_debtOf_41 ?_
  rw [hQ]
  exact x_lret F hr hlk ⟨rfl, rfl⟩ dX5_debtOf_42
set_option maxHeartbeats 4000000 in
set_option maxRecDepth 100000 in
/-- isShut -/
theorem c_X5_isShut (l : Launch) (D : va_G) (cy : Nat → ClassId) (lo : Nat) (R : List Nat) (ad : Nat → Nat) (q : Nat → Nat → Nat) (ns nt : Nat) (I : Nat → Nat → Int32) (J : Nat → Nat → Int64) (hR : ∀ r, r < 36 → r ∈ R) (a : Int32) (b : Int32) (ha : isCar a = true) (hb : isCar b = true) : k_Ci l yX5_isShut cX5_isShut 4 (some .boolean) 1 24 D cy lo R ad (k_c cy ad q ns nt I J) [.ref (ad 13), .int a, .int b] (k_b (shutM I J a b)) (k_c cy ad q ns nt I J) := by
  refine k_metQ (by decide +kernel) (Nat.le_of_ble_eq_true rfl) ?_
  intro p e s m args below meth c Q F hr hlk hnm hQ
  refine x_iconst F (v := 5) dX5_isShut_0 (by decide) ?_
  refine x_iload_n F dX5_isShut_1 rfl 1 rfl ?_
  refine x_imul F dX5_isShut_2 ?_
  refine x_iload_n F dX5_isShut_3 rfl 2 rfl ?_
  refine x_iadd F dX5_isShut_4 ?_
  refine x_istore_n F [(3, .int ((5 * a) + b)), (0, .ref (ad 13)), (1, .int a), (2, .int b)] dX5_isShut_5 rfl (by decide) rfl ?_
  refine x_aload_n F dX5_isShut_6 rfl 1 rfl ?_
  refine g_X5_16 F (hR 13 (by decide)) sc_13 rfl dX5_isShut_7 ?_
  refine x_iload_n F dX5_isShut_10 rfl 0 rfl ?_
  refine y_zald F (hR 16 (by decide)) ss_16 (vin_pair ‹_› ‹_›) dX5_isShut_11 ?_
  refine x_if_eq F 40 dX5_isShut_12 (by decide) (fun h12 => ?_) (fun h12 => ?_)
  · refine x_iconst F (v := 1) dX5_isShut_40 (by decide) ?_
    refine x_goto F 45 dX5_isShut_41 (by decide) ?_
    rw [hQ]
    exact x_zret F hr hlk (by decide) ⟨by simp [shutM, k_b, *], by simp [shutM, k_b, *]⟩ dX5_isShut_45
  · refine x_aload_n F dX5_isShut_15 rfl 1 rfl ?_
    refine x_iload_n F dX5_isShut_16 rfl 2 rfl ?_
    refine x_iload_n F dX5_isShut_17 rfl 3 rfl ?_
    refine z_callVl F [.int a, .int b] (c_X5_debtOf l D cy lo R ad q ns nt I J hR a b ha hb) mc_X5_debtOf mv_X5_debtOf lk_X5_109 (hR 13 (by decide)) sc_13 rfl rfl rfl dX5_isShut_18 ⟨Nat.le_of_ble_eq_true rfl, Nat.le_of_ble_eq_true rfl⟩ ⟨Nat.le_of_ble_eq_true rfl, Nat.le_of_ble_eq_true rfl⟩ (Nat.le_of_ble_eq_true rfl) ?_
    refine x_aload_n F dX5_isShut_21 rfl 1 rfl ?_
    refine g_X5_20 F (hR 13 (by decide)) sc_13 rfl dX5_isShut_22 ?_
    refine x_iload_n F dX5_isShut_25 rfl 0 rfl ?_
    refine y_iald F (hR 17 (by decide)) ss_17 (vin_pair ‹_› ‹_›) dX5_isShut_26 ?_
    refine x_i2l F dX5_isShut_27 ?_
    refine x_ladd F dX5_isShut_28 ?_
    refine x_aload_n F dX5_isShut_29 rfl 1 rfl ?_
    refine g_X5_23 F (hR 13 (by decide)) sc_13 rfl dX5_isShut_30 ?_
    refine x_iload_n F dX5_isShut_33 rfl 0 rfl ?_
    refine y_iald F (hR 18 (by decide)) ss_18 (vin_pair ‹_› ‹_›) dX5_isShut_34 ?_
    refine x_i2l F dX5_isShut_35 ?_
    refine x_lcmp F dX5_isShut_36 ?_
    refine x_if_le F 44 dX5_isShut_37 (by decide) (fun h37 => ?_) (fun h37 => ?_)
    · rw [lg_cmp_le] at h37
      refine x_iconst F (v := 0) dX5_isShut_44 (by decide) ?_
      rw [hQ]
      exact x_zret F hr hlk (by decide) ⟨by simp [shutM, k_b, *], by simp [shutM, k_b, *]⟩ dX5_isShut_45
    · rw [lg_cmp_le] at h37
      refine x_iconst F (v := 1) dX5_isShut_40 (by decide) ?_
      refine x_goto F 45 dX5_isShut_41 (by decide) ?_
      rw [hQ]
      exact x_zret F hr hlk (by decide) ⟨by simp [shutM, k_b, *], by simp [shutM, k_b, *]⟩ dX5_isShut_45
end
section
/-! Ways among five carriers: which go on (op), what they cost (rt); their order; what is found when all ways up to a place are seen. -/
def lexlt : List Nat → List Nat → Prop
  | _, [] => False
  | [], _ :: _ => True
  | x :: xs, y :: ys => x < y ∨ (x = y ∧ lexlt xs ys)
theorem lex_irr : ∀ p : List Nat, ¬ lexlt p p
  | [] => fun h => h
  | x :: xs => by
    intro h
    rcases h with h | ⟨-, h⟩
    · omega
    · exact lex_irr xs h
theorem lex_trans : ∀ {p q r : List Nat}, lexlt p q → lexlt q r → lexlt p r
  | p, [], r, h, _ => by cases p <;> exact absurd h (fun h => h)
  | p, y :: ys, [], _, h => absurd h (fun h => h)
  | [], y :: ys, z :: zs, _, _ => trivial
  | x :: xs, y :: ys, z :: zs, h1, h2 => by
    rcases h1 with h1 | ⟨e1, h1⟩
    · rcases h2 with h2 | ⟨e2, h2⟩
      · exact Or.inl (by omega)
      · exact Or.inl (by omega)
    · rcases h2 with h2 | ⟨e2, h2⟩
      · exact Or.inl (by omega)
      · exact Or.inr ⟨by omega, lex_trans h1 h2⟩
theorem lex_tri : ∀ p q : List Nat, lexlt p q ∨ p = q ∨ lexlt q p
  | [], [] => Or.inr (Or.inl rfl)
  | [], _ :: _ => Or.inl trivial
  | _ :: _, [] => Or.inr (Or.inr trivial)
  | x :: xs, y :: ys => by
    rcases Nat.lt_trichotomy x y with h | h | h
    · exact Or.inl (Or.inl h)
    · subst h
      rcases lex_tri xs ys with h | h | h
      · exact Or.inl (Or.inr ⟨rfl, h⟩)
      · subst h; exact Or.inr (Or.inl rfl)
      · exact Or.inr (Or.inr (Or.inr ⟨rfl, h⟩))
    · exact Or.inr (Or.inr (Or.inl h))
/-- up to the next digit: what lay before, and what goes on from here -/
theorem lex_next : ∀ (p q : List Nat) (t : Nat), lexlt q (p ++ [t + 1]) ↔ lexlt q (p ++ [t]) ∨ ∃ z, q = p ++ t :: z
  | [], [], t => by simp [lexlt]
  | [], x :: xs, t => by
    have e : ∀ n, lexlt (x :: xs) [n] ↔ x < n := by
      intro n
      simp only [lexlt]
      constructor
      · intro h
        rcases h with h | ⟨-, h⟩
        · exact h
        · cases xs <;> exact absurd h (fun h => h)
      · exact Or.inl
    rw [List.nil_append, List.nil_append, e, e]
    constructor
    · intro h
      rcases Nat.lt_or_ge x t with z | z
      · exact Or.inl z
      · exact Or.inr ⟨xs, by rw [show x = t by omega]; rfl⟩
    · intro h
      rcases h with h | ⟨z, h⟩
      · omega
      · rw [List.nil_append] at h
        injection h with h1 h2
        omega
  | y :: ys, [], t => by simp [lexlt]
  | y :: ys, x :: xs, t => by
    have ih := lex_next ys xs t
    simp only [List.cons_append, lexlt]
    constructor
    · intro h
      rcases h with h | ⟨rfl, h⟩
      · exact Or.inl (Or.inl h)
      · rcases ih.mp h with h | ⟨z, rfl⟩
        · exact Or.inl (Or.inr ⟨rfl, h⟩)
        · exact Or.inr ⟨z, rfl⟩
    · intro h
      rcases h with (h | ⟨rfl, h⟩) | ⟨z, h⟩
      · exact Or.inl h
      · exact Or.inr ⟨rfl, ih.mpr (Or.inl h)⟩
      · injection h with h1 h2
        exact Or.inr ⟨h1, ih.mpr (Or.inr ⟨z, h2⟩)⟩
/-- the first digit below: what lay before, and this one itself -/
theorem lex_zero : ∀ (p q : List Nat), lexlt q (p ++ [0]) ↔ lexlt q p ∨ q = p
  | [], [] => by simp [lexlt]
  | [], x :: xs => by
    simp only [List.nil_append, lexlt]
    constructor
    · intro h
      rcases h with h | ⟨-, h⟩
      · omega
      · cases xs <;> exact absurd h (fun h => h)
    · intro h
      rcases h with h | h
      · exact absurd h (fun h => h)
      · cases h
  | y :: ys, [] => by simp [lexlt]
  | y :: ys, x :: xs => by
    have ih := lex_zero ys xs
    simp only [List.cons_append, lexlt, ih]
    constructor
    · intro h
      rcases h with h | ⟨rfl, h | rfl⟩
      · exact Or.inl (Or.inl h)
      · exact Or.inl (Or.inr ⟨rfl, h⟩)
      · exact Or.inr rfl
    · intro h
      rcases h with (h | ⟨rfl, h⟩) | h
      · exact Or.inl h
      · exact Or.inr ⟨rfl, Or.inl h⟩
      · injection h with h1 h2
        exact Or.inr ⟨h1, Or.inr h2⟩
/-- behind the last digit below -/
theorem lex_pop : ∀ (p q : List Nat) (u : Nat), (∀ x ∈ q, x < 5) → (lexlt q (p ++ [u] ++ [5]) ↔ lexlt q (p ++ [u + 1]))
  | [], [], u, _ => by simp [lexlt]
  | [], x :: xs, u, hq => by
    simp only [List.nil_append, List.cons_append, lexlt]
    constructor
    · intro h
      rcases h with h | ⟨rfl, h⟩
      · exact Or.inl (by omega)
      · exact Or.inl (by omega)
    · intro h
      rcases h with h | ⟨-, h⟩
      · rcases Nat.lt_or_ge x u with z | z
        · exact Or.inl z
        · refine Or.inr ⟨by omega, ?_⟩
          cases xs with
          | nil => trivial
          | cons y ys => exact Or.inl (hq y (by simp))
      · cases xs <;> exact absurd h (fun h => h)
  | y :: ys, [], u, _ => by simp [lexlt]
  | y :: ys, x :: xs, u, hq => by
    have ih := lex_pop ys xs u (fun z hz => hq z (List.mem_cons_of_mem _ hz))
    simp only [List.cons_append, lexlt]
    rw [ih]
section WAYS
variable {op : Nat → Nat → Bool} {rt : Nat → Nat → Nat} {a b : Nat}
/-- a row of different carriers, each linked to the next -/
def chn (op : Nat → Nat → Bool) : List Nat → Prop
  | [] => True
  | [_] => True
  | x :: y :: zs => op x y = true ∧ chn op (y :: zs)
def Pre (op : Nat → Nat → Bool) (a : Nat) (p : List Nat) : Prop := p.head? = some a ∧ p.Nodup ∧ (∀ x ∈ p, x < 5) ∧ chn op p
def Way (op : Nat → Nat → Bool) (a b : Nat) (p : List Nat) : Prop := Pre op a p ∧ p.getLast? = some b
def cst (rt : Nat → Nat → Nat) : List Nat → Nat
  | [] => 0
  | [_] => 0
  | x :: y :: zs => rt x y + cst rt (y :: zs)
/-- the better way: the cheaper, the shorter, the lower -/
def bet (rt : Nat → Nat → Nat) (p q : List Nat) : Prop := cst rt p < cst rt q ∨ (cst rt p = cst rt q ∧ (p.length < q.length ∨ (p.length = q.length ∧ lexlt p q)))
theorem bet_trans {p q r : List Nat} (h1 : bet rt p q) (h2 : bet rt q r) : bet rt p r := by
  rcases h1 with h1 | ⟨e1, h1⟩
  · rcases h2 with h2 | ⟨e2, h2⟩
    · exact Or.inl (by omega)
    · exact Or.inl (by omega)
  · rcases h2 with h2 | ⟨e2, h2⟩
    · exact Or.inl (by omega)
    · refine Or.inr ⟨by omega, ?_⟩
      rcases h1 with h1 | ⟨l1, h1⟩
      · rcases h2 with h2 | ⟨l2, h2⟩
        · exact Or.inl (by omega)
        · exact Or.inl (by omega)
      · rcases h2 with h2 | ⟨l2, h2⟩
        · exact Or.inl (by omega)
        · exact Or.inr ⟨by omega, lex_trans h1 h2⟩
theorem bet_irr (p : List Nat) : ¬ bet rt p p := by
  intro h
  rcases h with h | ⟨-, h | ⟨-, h⟩⟩
  · omega
  · omega
  · exact lex_irr p h
theorem bet_tri (p q : List Nat) : bet rt p q ∨ p = q ∨ bet rt q p := by
  rcases Nat.lt_trichotomy (cst rt p) (cst rt q) with h | h | h
  · exact Or.inl (Or.inl h)
  · rcases Nat.lt_trichotomy p.length q.length with g | g | g
    · exact Or.inl (Or.inr ⟨h, Or.inl g⟩)
    · rcases lex_tri p q with k | k | k
      · exact Or.inl (Or.inr ⟨h, Or.inr ⟨g, k⟩⟩)
      · exact Or.inr (Or.inl k)
      · exact Or.inr (Or.inr (Or.inr ⟨h.symm, Or.inr ⟨g.symm, k⟩⟩))
    · exact Or.inr (Or.inr (Or.inr ⟨h.symm, Or.inl g⟩))
  · exact Or.inr (Or.inr (Or.inl h))
/-- the best way, or that there is none -/
def Best (op : Nat → Nat → Bool) (rt : Nat → Nat → Nat) (a b : Nat) : Option (List Nat) → Prop
  | none => ∀ q, ¬ Way op a b q
  | some w => Way op a b w ∧ ∀ q, Way op a b q → ¬ bet rt q w
theorem best_one {u v : Option (List Nat)} (hu : Best op rt a b u) (hv : Best op rt a b v) : u = v := by
  cases u with
  | none =>
    cases v with
    | none => rfl
    | some w => exact absurd hv.1 (hu w)
  | some w =>
    cases v with
    | none => exact absurd hu.1 (hv w)
    | some z =>
      rcases bet_tri (rt := rt) w z with h | h | h
      · exact absurd h (hv.2 w hu.1)
      · rw [h]
      · exact absurd h (hu.2 z hv.1)
/-- the best of the ways ahead of cur -/
def Seen (op : Nat → Nat → Bool) (rt : Nat → Nat → Nat) (a b : Nat) (cur : List Nat) : Option (List Nat) → Prop
  | none => ∀ q, Way op a b q → ¬ lexlt q cur
  | some w => Way op a b w ∧ lexlt w cur ∧ ∀ q, Way op a b q → lexlt q cur → ¬ bet rt q w
theorem seen_iff {c1 c2 : List Nat} {v : Option (List Nat)} (h : ∀ q, Way op a b q → (lexlt q c1 ↔ lexlt q c2)) (hs : Seen op rt a b c1 v) : Seen op rt a b c2 v := by
  cases v with
  | none => exact fun q hq hl => hs q hq ((h q hq).mpr hl)
  | some w => exact ⟨hs.1, (h w hs.1).mp hs.2.1, fun q hq hl => hs.2.2 q hq ((h q hq).mpr hl)⟩
theorem chn_pre : ∀ {p z : List Nat}, chn op (p ++ z) → chn op p
  | [], _, _ => trivial
  | [_], _, _ => trivial
  | x :: y :: zs, z, h => ⟨h.1, chn_pre (p := y :: zs) h.2⟩
theorem pre_pre {p z : List Nat} (hp : p ≠ []) (h : Pre op a (p ++ z)) : Pre op a p := by
  obtain ⟨h1, h2, h3, h4⟩ := h
  refine ⟨?_, (List.nodup_append.mp h2).1, fun x hx => h3 x (List.mem_append_left _ hx), chn_pre h4⟩
  cases p with
  | nil => exact absurd rfl hp
  | cons x xs => exact h1
/-- no way goes on over a row that can't be -/
theorem seen_no {p : List Nat} {t : Nat} {v : Option (List Nat)} (hn : ¬ Pre op a (p ++ [t])) (hs : Seen op rt a b (p ++ [t]) v) : Seen op rt a b (p ++ [t + 1]) v := by
  refine seen_iff (fun q hq => ?_) hs
  rw [lex_next]
  constructor
  · exact Or.inl
  · intro h
    rcases h with h | ⟨z, rfl⟩
    · exact h
    · exact absurd (pre_pre (p := p ++ [t]) (z := z) (by simp) (by simpa using hq.1)) hn
theorem seen_pop {p : List Nat} {u : Nat} {v : Option (List Nat)} (hs : Seen op rt a b (p ++ [u] ++ [5]) v) : Seen op rt a b (p ++ [u + 1]) v :=
  seen_iff (fun q hq => lex_pop p q u hq.1.2.2.1) hs
theorem seen_push {p : List Nat} {v : Option (List Nat)} (hn : ¬ Way op a b p) (hs : Seen op rt a b p v) : Seen op rt a b (p ++ [0]) v := by
  refine seen_iff (fun q hq => ?_) hs
  rw [lex_zero]
  constructor
  · exact Or.inl
  · intro h
    rcases h with h | rfl
    · exact h
    · exact absurd hq hn
/-- a row of five that isn't a way -/
theorem nodup5 : ∀ (n : Nat) (p : List Nat), p.Nodup → (∀ x ∈ p, x < n) → p.length ≤ n := by
  intro n
  induction n with
  | zero =>
    intro p _ h
    cases p with
    | nil => exact Nat.le_refl _
    | cons x xs => exact absurd (h x (by simp)) (by omega)
  | succ n ih =>
    intro p hp h
    have h2 := ih (p.erase n) (hp.erase n) (fun x hx => by
      have h3 := h x (List.mem_of_mem_erase hx)
      have h4 : x ≠ n := (hp.mem_erase_iff.mp hx).1
      omega)
    by_cases hm : n ∈ p
    · rw [List.length_erase_of_mem hm] at h2
      omega
    · rw [List.erase_of_not_mem hm] at h2
      omega
theorem seen_full {p : List Nat} {u : Nat} {v : Option (List Nat)} (hl : (p ++ [u]).length = 5) (hn : ¬ Way op a b (p ++ [u])) (hs : Seen op rt a b (p ++ [u]) v) : Seen op rt a b (p ++ [u + 1]) v := by
  refine seen_iff (fun q hq => ?_) hs
  rw [lex_next]
  constructor
  · exact Or.inl
  · intro h
    rcases h with h | ⟨z, rfl⟩
    · exact h
    · exfalso
      have h5 := nodup5 5 _ hq.1.2.1 hq.1.2.2.1
      have hz : z = [] := by
        cases z with
        | nil => rfl
        | cons x xs =>
          simp at h5 hl
          omega
      subst hz
      exact hn hq
/-- a way is seen: it is taken if it is cheaper, or as cheap and shorter -/
def take (rt : Nat → Nat → Nat) (p : List Nat) : Option (List Nat) → Option (List Nat)
  | none => some p
  | some w => if cst rt p < cst rt w ∨ (cst rt p = cst rt w ∧ p.length < w.length) then some p else some w
theorem way_end {p z : List Nat} (h : Way op a b p) (h2 : Way op a b (p ++ z)) : z = [] := by
  cases hz : z.reverse with
  | nil => simpa using hz
  | cons y ys =>
    exfalso
    have e : z = ys.reverse ++ [y] := by
      have := congrArg List.reverse hz
      simpa using this
    have h3 : (p ++ z).getLast? = some y := by rw [e, ← List.append_assoc]; simp
    have hyb : y = b := Option.some.inj (h3.symm.trans h2.2)
    have hbp : b ∈ p := List.mem_of_getLast? h.2
    have hbz : b ∈ z := by rw [e, ← hyb]; simp
    have hd := (List.nodup_append.mp h2.1.2.1).2.2
    exact hd b hbp b hbz rfl
theorem seen_take {p : List Nat} {u : Nat} {v : Option (List Nat)} (hw : Way op a b (p ++ [u])) (hs : Seen op rt a b (p ++ [u]) v) : Seen op rt a b (p ++ [u + 1]) (take rt (p ++ [u]) v) := by
  have key : ∀ q, Way op a b q → (lexlt q (p ++ [u + 1]) ↔ lexlt q (p ++ [u]) ∨ q = p ++ [u]) := by
    intro q hq
    rw [lex_next]
    constructor
    · intro h
      rcases h with h | ⟨z, rfl⟩
      · exact Or.inl h
      · have hz : z = [] := way_end hw (by simpa using hq)
        subst hz
        exact Or.inr rfl
    · intro h
      rcases h with h | rfl
      · exact Or.inl h
      · exact Or.inr ⟨[], rfl⟩
  cases v with
  | none =>
    refine ⟨hw, (key _ hw).mpr (Or.inr rfl), fun q hq hl => ?_⟩
    rcases (key q hq).mp hl with h | rfl
    · exact absurd h (hs q hq)
    · exact bet_irr _
  | some w =>
    simp only [take]
    split
    · rename_i hb
      have hbet : bet rt (p ++ [u]) w := by
        rcases hb with hb | ⟨hb, hc⟩
        · exact Or.inl hb
        · exact Or.inr ⟨hb, Or.inl hc⟩
      refine ⟨hw, (key _ hw).mpr (Or.inr rfl), fun q hq hl => ?_⟩
      rcases (key q hq).mp hl with h | rfl
      · exact fun h9 => hs.2.2 q hq h (bet_trans h9 hbet)
      · exact bet_irr _
    · rename_i hb
      refine ⟨hs.1, (key _ hs.1).mpr (Or.inl hs.2.1), fun q hq hl => ?_⟩
      rcases (key q hq).mp hl with h | rfl
      · exact hs.2.2 q hq h
      · intro h9
        rcases h9 with h9 | ⟨e9, h9 | ⟨l9, h9⟩⟩
        · exact hb (Or.inl h9)
        · exact hb (Or.inr ⟨e9, h9⟩)
        · exact lex_irr _ (lex_trans h9 hs.2.1)
theorem seen_start {v : Option (List Nat)} (hv : v = none) : Seen op rt a b [a] v := by
  subst hv
  intro q hq hl
  have h1 := hq.1.1
  cases q with
  | nil => cases h1
  | cons x xs =>
    have e : x = a := Option.some.inj h1
    subst e
    rcases hl with hl | ⟨-, hl⟩
    · omega
    · cases xs <;> exact absurd hl (fun h => h)
theorem seen_end {v : Option (List Nat)} (hs : Seen op rt a b [a + 1] v) : Best op rt a b v := by
  have key : ∀ q, Way op a b q → lexlt q [a + 1] := by
    intro q hq
    have h1 := hq.1.1
    cases q with
    | nil => cases h1
    | cons x xs =>
      have e : x = a := Option.some.inj h1
      exact Or.inl (by omega)
  cases v with
  | none => exact fun q hq => hs q hq (key q hq)
  | some w => exact ⟨hs.1, fun q hq => hs.2.2 q hq (key q hq)⟩
/-- a place in the order, as a number: it grows at every step of the search -/
def cod : Nat → List Nat → Nat
  | _, [] => 0
  | k, x :: xs => x * 6 ^ k + cod (k - 1) xs
theorem cod_app : ∀ (k : Nat) (p : List Nat) (t : Nat), p.length ≤ k → cod k (p ++ [t]) = cod k p + t * 6 ^ (k - p.length)
  | k, [], t, _ => by simp [cod]
  | k, x :: xs, t, h => by
    have h1 : xs.length ≤ k - 1 := by simp at h; omega
    rw [List.cons_append, cod, cod, cod_app (k - 1) xs t h1]
    have e : k - 1 - xs.length = k - (x :: xs).length := by simp; omega
    rw [e]
    omega
theorem cod_le : ∀ (k : Nat) (p : List Nat), p.length ≤ k + 1 → (∀ x ∈ p, x ≤ 5) → cod k p < 6 ^ (k + 1)
  | k, [], _, _ => Nat.pow_pos (by omega)
  | 0, x :: xs, h, hx => by
    have hxs : xs = [] := by
      cases xs with
      | nil => rfl
      | cons y ys => simp at h
    subst hxs
    have := hx x (by simp)
    simp [cod]
    omega
  | k + 1, x :: xs, h, hx => by
    have h1 := cod_le k xs (by simp at h; omega) (fun y hy => hx y (List.mem_cons_of_mem _ hy))
    have h2 := hx x (by simp)
    rw [cod, show k + 1 - 1 = k by omega]
    have h3 : x * 6 ^ (k + 1) ≤ 5 * 6 ^ (k + 1) := Nat.mul_le_mul_right _ h2
    have h4 : 6 ^ (k + 1 + 1) = 6 * 6 ^ (k + 1) := by rw [Nat.pow_succ]; omega
    omega
end WAYS
end
section
def go0 (I : Nat → Nat → Int32) (J : Nat → Nat → Int64) (n : Nat) : Bool := decide (nI n = 1) || !shutM I J (I 35 (nI n - 2).toNatClampNeg) (I 35 (nI n - 1).toNatClampNeg)
def goM (I : Nat → Nat → Int32) (J : Nat → Nat → Int64) (n : Nat) : Nat → Bool
  | 0 => go0 I J n
  | k + 1 => goM I J n k && !decide (I 35 k = I 35 (nI n - 1).toNatClampNeg)
def costM (I : Nat → Nat → Int32) : Nat → Int32
  | 0 => 0
  | k + 1 => if k = 0 then 0 else costM I k + I 17 (5 * I 35 (nI k - 1).toNatClampNeg + I 35 (nI k).toNatClampNeg).toNatClampNeg
theorem nI_m1 {n : Nat} (h : 1 ≤ n) : nI n - 1 = nI (n - 1) := by
  rw [show (1 : Int32) = nI 1 from rfl, pk_sub h]
theorem nI_m2 {n : Nat} (h : 2 ≤ n) : nI n - 2 = nI (n - 2) := by
  rw [show (2 : Int32) = nI 2 from rfl, pk_sub h]
theorem vin_m1 {n : Nat} (h : 1 ≤ n) (h5 : n ≤ 5) : vp_in (nI n - 1) 5 := by rw [nI_m1 h]; exact vp_in_nI (by omega) (by decide)
theorem vin_m2 {n : Nat} (h : 2 ≤ n) (h5 : n ≤ 5) : vp_in (nI n - 2) 5 := by rw [nI_m2 h]; exact vp_in_nI (by omega) (by decide)
theorem car_m1 {I : Nat → Nat → Int32} {n : Nat} (hcar : ∀ i, i < n → isCar (I 35 i) = true) (h : 1 ≤ n) (h5 : n ≤ 5) : isCar (I 35 (nI n - 1).toNatClampNeg) = true := by
  rw [nI_m1 h, nI_clamp (by omega)]; exact hcar _ (by omega)
theorem car_m2 {I : Nat → Nat → Int32} {n : Nat} (hcar : ∀ i, i < n → isCar (I 35 i) = true) (h : 2 ≤ n) (h5 : n ≤ 5) : isCar (I 35 (nI n - 2).toNatClampNeg) = true := by
  rw [nI_m2 h, nI_clamp (by omega)]; exact hcar _ (by omega)
theorem one_lt {n : Nat} (h1 : 1 ≤ n) (h : ¬ nI n = 1) : 2 ≤ n := by
  rcases Nat.lt_or_ge n 2 with z | z
  · exact absurd (show nI n = 1 by rw [show n = 1 by omega]; rfl) h
  · exact z
set_option maxHeartbeats 4000000 in
set_option maxRecDepth 100000 in
/-- canGo -/
theorem c_X5_canGo (l : Launch) (D : va_G) (cy : Nat → ClassId) (lo : Nat) (R : List Nat) (ad : Nat → Nat) (q : Nat → Nat → Nat) (ns nt : Nat) (I : Nat → Nat → Int32) (J : Nat → Nat → Int64) (hR : ∀ r, r < 36 → r ∈ R) (n : Nat) (hn1 : 1 ≤ n) (hn5 : n ≤ 5) (hcar : ∀ i, i < n → isCar (I 35 i) = true) : k_Ci l yX5_canGo cX5_canGo 5 (some .boolean) 2 47 D cy lo R ad (k_c cy ad q ns nt I J) [.ref (ad 13), .int (nI n)] (k_b (goM I J n (n - 1))) (k_c cy ad q ns nt I J) := by
  refine k_metQ (by decide +kernel) (Nat.le_of_ble_eq_true rfl) ?_
  intro p e s m args below meth c Q F hr hlk hnm hQ
  refine x_aload_n F dX5_canGo_0 rfl 0 rfl ?_
  refine g_X5_75 F (hR 13 (by decide)) sc_13 rfl dX5_canGo_1 ?_
  refine x_iload_n F dX5_canGo_4 rfl 1 rfl ?_
  refine x_iconst F (v := 1) dX5_canGo_5 (by decide) ?_
  refine x_isub F dX5_canGo_6 ?_
  refine y_iald F (hR 35 (by decide)) ss_35 (vin_m1 hn1 hn5) dX5_canGo_7 ?_
  refine x_istore_n F [(2, .int (I 35 ((nI n) - 1).toNatClampNeg)), (0, .ref (ad 13)), (1, .int (nI n))] dX5_canGo_8 rfl (by decide) rfl ?_
  refine x_iload_n F dX5_canGo_9 rfl 2 rfl ?_
  refine x_iconst F (v := 1) dX5_canGo_10 (by decide) ?_
  refine x_icmp_eq F 30 dX5_canGo_11 (by decide) (fun h11 => ?_) (fun h11 => ?_)
  · refine x_iconst F (v := 1) dX5_canGo_30 (by decide) ?_
    refine x_goto F 35 dX5_canGo_31 (by decide) ?_
    refine x_istore_n F [(3, .int 1), (2, .int (I 35 ((nI n) - 1).toNatClampNeg)), (0, .ref (ad 13)), (1, .int (nI n))] dX5_canGo_35 rfl (by decide) rfl ?_
    refine x_iconst F (v := 0) dX5_canGo_36 (by decide) ?_
    refine x_istore F [(4, .int 0), (3, .int 1), (2, .int (I 35 ((nI n) - 1).toNatClampNeg)), (0, .ref (ad 13)), (1, .int (nI n))] dX5_canGo_37 (by decide) rfl ?_
    have lp39 : ∀ (fu39 : Nat) (k : Nat), n - k < fu39 → (k ≤ n - 1) → XW D lo p l e { frames := 2, cells := 0, slots := 0, locals := 47 } s m args below meth c 5 0 0 Q R ad (k_c cy ad q ns nt I J) 39 [(4, .int (nI k)), (3, .int (k_b (goM I J n k))), (2, .int (I 35 (nI n - 1).toNatClampNeg)), (0, .ref (ad 13)), (1, .int (nI n))] [] := by
      intro fu39
      induction fu39 with
      | zero => intro k hf39; exact absurd hf39 (Nat.not_lt_zero _)
      | succ fu39 ih39 =>
        intro k hf39 hkn
        refine x_iload F dX5_canGo_39 0 rfl ?_
        refine x_iload_n F dX5_canGo_41 rfl 4 rfl ?_
        refine x_iconst F (v := 1) dX5_canGo_42 (by decide) ?_
        refine x_isub F dX5_canGo_43 ?_
        refine x_icmp_ge F 74 dX5_canGo_44 (by decide) (fun h44 => ?_) (fun h44 => ?_)
        · rw [nI_m1 hn1] at h44
          have hk9 := lp_exit (by omega) hkn h44
          refine x_iload_n F dX5_canGo_74 rfl 1 rfl ?_
          rw [hQ]
          exact x_zret F hr hlk (kb_n _) ⟨by rw [hk9], rfl⟩ dX5_canGo_75
        · rw [nI_m1 hn1] at h44
          have hk9 := lp_go (by omega) hkn h44
          refine x_iload_n F dX5_canGo_47 rfl 1 rfl ?_
          refine x_if_eq F 66 dX5_canGo_48 (by decide) (fun h48 => ?_) (fun h48 => ?_)
          · rw [kb0] at h48
            refine x_iconst F (v := 0) dX5_canGo_66 (by decide) ?_
            refine x_istore_n F [(3, .int 0), (4, .int (nI k)), (2, .int (I 35 (nI n - 1).toNatClampNeg)), (0, .ref (ad 13)), (1, .int (nI n))] dX5_canGo_67 rfl (by decide) rfl ?_
            refine x_iinc F [(4, .int ((nI k) + 1)), (3, .int 0), (2, .int (I 35 (nI n - 1).toNatClampNeg)), (0, .ref (ad 13)), (1, .int (nI n))] dX5_canGo_68 1 rfl (by decide) rfl ?_
            refine x_goto F 39 dX5_canGo_71 (by decide) ?_
            rw [nI_1]
            refine x_sub (lv' := [(4, .int (nI (k + 1))), (3, .int (k_b (goM I J n (k + 1)))), (2, .int (I 35 (nI n - 1).toNatClampNeg)), (0, .ref (ad 13)), (1, .int (nI n))]) [0, 1, 2, 3, 4] (by rw [show goM I J n (k + 1) = false by first | (rw [goM, h48]; rfl) | (rw [nI_clamp (show k < 2 ^ 31 by omega)] at h59; rw [goM, h48]; simp [h59])]; rfl) ?_
            exact ih39 (k + 1) (by omega) (by omega)
          · rw [kb1] at h48
            refine x_aload_n F dX5_canGo_51 rfl 3 rfl ?_
            refine g_X5_75 F (hR 13 (by decide)) sc_13 rfl dX5_canGo_52 ?_
            refine x_iload F dX5_canGo_55 0 rfl ?_
            refine y_iald F (hR 35 (by decide)) ss_35 (vp_in_nI (by omega) (by decide)) dX5_canGo_57 ?_
            refine x_iload_n F dX5_canGo_58 rfl 2 rfl ?_
            refine x_icmp_eq F 66 dX5_canGo_59 (by decide) (fun h59 => ?_) (fun h59 => ?_)
            · refine x_iconst F (v := 0) dX5_canGo_66 (by decide) ?_
              refine x_istore_n F [(3, .int 0), (4, .int (nI k)), (2, .int (I 35 (nI n - 1).toNatClampNeg)), (0, .ref (ad 13)), (1, .int (nI n))] dX5_canGo_67 rfl (by decide) rfl ?_
              refine x_iinc F [(4, .int ((nI k) + 1)), (3, .int 0), (2, .int (I 35 (nI n - 1).toNatClampNeg)), (0, .ref (ad 13)), (1, .int (nI n))] dX5_canGo_68 1 rfl (by decide) rfl ?_
              refine x_goto F 39 dX5_canGo_71 (by decide) ?_
              rw [nI_1]
              refine x_sub (lv' := [(4, .int (nI (k + 1))), (3, .int (k_b (goM I J n (k + 1)))), (2, .int (I 35 (nI n - 1).toNatClampNeg)), (0, .ref (ad 13)), (1, .int (nI n))]) [0, 1, 2, 3, 4] (by rw [show goM I J n (k + 1) = false by first | (rw [goM, h48]; rfl) | (rw [nI_clamp (show k < 2 ^ 31 by omega)] at h59; rw [goM, h48]; simp [h59])]; rfl) ?_
              exact ih39 (k + 1) (by omega) (by omega)
            · refine x_iconst F (v := 1) dX5_canGo_62 (by decide) ?_
              refine x_goto F 67 dX5_canGo_63 (by decide) ?_
              refine x_istore_n F [(3, .int 1), (4, .int (nI k)), (2, .int (I 35 (nI n - 1).toNatClampNeg)), (0, .ref (ad 13)), (1, .int (nI n))] dX5_canGo_67 rfl (by decide) rfl ?_
              refine x_iinc F [(4, .int ((nI k) + 1)), (3, .int 1), (2, .int (I 35 (nI n - 1).toNatClampNeg)), (0, .ref (ad 13)), (1, .int (nI n))] dX5_canGo_68 1 rfl (by decide) rfl ?_
              refine x_goto F 39 dX5_canGo_71 (by decide) ?_
              rw [nI_1]
              refine x_sub (lv' := [(4, .int (nI (k + 1))), (3, .int (k_b (goM I J n (k + 1)))), (2, .int (I 35 (nI n - 1).toNatClampNeg)), (0, .ref (ad 13)), (1, .int (nI n))]) [0, 1, 2, 3, 4] (by rw [show goM I J n (k + 1) = true by first | (rw [goM, h48]; rfl) | (rw [nI_clamp (show k < 2 ^ 31 by omega)] at h59; rw [goM, h48]; simp [h59])]; rfl) ?_
              exact ih39 (k + 1) (by omega) (by omega)
    refine x_sub (lv' := [(4, .int (nI 0)), (3, .int (k_b (goM I J n 0))), (2, .int (I 35 (nI n - 1).toNatClampNeg)), (0, .ref (ad 13)), (1, .int (nI n))]) [0, 1, 2, 3, 4] (by rw [show goM I J n 0 = true by first | simp [goM, go0, h11, h27] | simp [goM, go0, h11]]; rfl) ?_
    exact lp39 (n + 1) 0 (by omega) (by omega)
  · refine x_aload_n F dX5_canGo_14 rfl 1 rfl ?_
    refine x_aload_n F dX5_canGo_15 rfl 1 rfl ?_
    refine g_X5_75 F (hR 13 (by decide)) sc_13 rfl dX5_canGo_16 ?_
    refine x_iload_n F dX5_canGo_19 rfl 2 rfl ?_
    refine x_iconst F (v := 2) dX5_canGo_20 (by decide) ?_
    refine x_isub F dX5_canGo_21 ?_
    refine y_iald F (hR 35 (by decide)) ss_35 (vin_m2 (one_lt hn1 h11) hn5) dX5_canGo_22 ?_
    refine x_iload_n F dX5_canGo_23 rfl 0 rfl ?_
    refine z_callVi F [.int (I 35 ((nI n) - 2).toNatClampNeg), .int (I 35 ((nI n) - 1).toNatClampNeg)] (c_X5_isShut l D cy lo R ad q ns nt I J hR (I 35 ((nI n) - 2).toNatClampNeg) (I 35 ((nI n) - 1).toNatClampNeg) (car_m2 hcar (one_lt hn1 h11) hn5) (car_m1 hcar hn1 hn5)) mc_X5_isShut mv_X5_isShut lk_X5_113 (hR 13 (by decide)) sc_13 rfl rfl rfl dX5_canGo_24 ⟨Nat.le_of_ble_eq_true rfl, Nat.le_of_ble_eq_true rfl⟩ ⟨Nat.le_of_ble_eq_true rfl, Nat.le_of_ble_eq_true rfl⟩ (Nat.le_of_ble_eq_true rfl) ?_
    refine x_if_ne F 34 dX5_canGo_27 (by decide) (fun h27 => ?_) (fun h27 => ?_)
    · rw [kb1] at h27
      refine x_iconst F (v := 0) dX5_canGo_34 (by decide) ?_
      refine x_istore_n F [(3, .int 0), (2, .int (I 35 ((nI n) - 1).toNatClampNeg)), (0, .ref (ad 13)), (1, .int (nI n))] dX5_canGo_35 rfl (by decide) rfl ?_
      refine x_iconst F (v := 0) dX5_canGo_36 (by decide) ?_
      refine x_istore F [(4, .int 0), (3, .int 0), (2, .int (I 35 ((nI n) - 1).toNatClampNeg)), (0, .ref (ad 13)), (1, .int (nI n))] dX5_canGo_37 (by decide) rfl ?_
      have lp39 : ∀ (fu39 : Nat) (k : Nat), n - k < fu39 → (k ≤ n - 1) → XW D lo p l e { frames := 2, cells := 0, slots := 0, locals := 47 } s m args below meth c 5 0 0 Q R ad (k_c cy ad q ns nt I J) 39 [(4, .int (nI k)), (3, .int (k_b (goM I J n k))), (2, .int (I 35 (nI n - 1).toNatClampNeg)), (0, .ref (ad 13)), (1, .int (nI n))] [] := by
        intro fu39
        induction fu39 with
        | zero => intro k hf39; exact absurd hf39 (Nat.not_lt_zero _)
        | succ fu39 ih39 =>
          intro k hf39 hkn
          refine x_iload F dX5_canGo_39 0 rfl ?_
          refine x_iload_n F dX5_canGo_41 rfl 4 rfl ?_
          refine x_iconst F (v := 1) dX5_canGo_42 (by decide) ?_
          refine x_isub F dX5_canGo_43 ?_
          refine x_icmp_ge F 74 dX5_canGo_44 (by decide) (fun h44 => ?_) (fun h44 => ?_)
          · rw [nI_m1 hn1] at h44
            have hk9 := lp_exit (by omega) hkn h44
            refine x_iload_n F dX5_canGo_74 rfl 1 rfl ?_
            rw [hQ]
            exact x_zret F hr hlk (kb_n _) ⟨by rw [hk9], rfl⟩ dX5_canGo_75
          · rw [nI_m1 hn1] at h44
            have hk9 := lp_go (by omega) hkn h44
            refine x_iload_n F dX5_canGo_47 rfl 1 rfl ?_
            refine x_if_eq F 66 dX5_canGo_48 (by decide) (fun h48 => ?_) (fun h48 => ?_)
            · rw [kb0] at h48
              refine x_iconst F (v := 0) dX5_canGo_66 (by decide) ?_
              refine x_istore_n F [(3, .int 0), (4, .int (nI k)), (2, .int (I 35 (nI n - 1).toNatClampNeg)), (0, .ref (ad 13)), (1, .int (nI n))] dX5_canGo_67 rfl (by decide) rfl ?_
              refine x_iinc F [(4, .int ((nI k) + 1)), (3, .int 0), (2, .int (I 35 (nI n - 1).toNatClampNeg)), (0, .ref (ad 13)), (1, .int (nI n))] dX5_canGo_68 1 rfl (by decide) rfl ?_
              refine x_goto F 39 dX5_canGo_71 (by decide) ?_
              rw [nI_1]
              refine x_sub (lv' := [(4, .int (nI (k + 1))), (3, .int (k_b (goM I J n (k + 1)))), (2, .int (I 35 (nI n - 1).toNatClampNeg)), (0, .ref (ad 13)), (1, .int (nI n))]) [0, 1, 2, 3, 4] (by rw [show goM I J n (k + 1) = false by first | (rw [goM, h48]; rfl) | (rw [nI_clamp (show k < 2 ^ 31 by omega)] at h59; rw [goM, h48]; simp [h59])]; rfl) ?_
              exact ih39 (k + 1) (by omega) (by omega)
            · rw [kb1] at h48
              refine x_aload_n F dX5_canGo_51 rfl 3 rfl ?_
              refine g_X5_75 F (hR 13 (by decide)) sc_13 rfl dX5_canGo_52 ?_
              refine x_iload F dX5_canGo_55 0 rfl ?_
              refine y_iald F (hR 35 (by decide)) ss_35 (vp_in_nI (by omega) (by decide)) dX5_canGo_57 ?_
              refine x_iload_n F dX5_canGo_58 rfl 2 rfl ?_
              refine x_icmp_eq F 66 dX5_canGo_59 (by decide) (fun h59 => ?_) (fun h59 => ?_)
              · refine x_iconst F (v := 0) dX5_canGo_66 (by decide) ?_
                refine x_istore_n F [(3, .int 0), (4, .int (nI k)), (2, .int (I 35 (nI n - 1).toNatClampNeg)), (0, .ref (ad 13)), (1, .int (nI n))] dX5_canGo_67 rfl (by decide) rfl ?_
                refine x_iinc F [(4, .int ((nI k) + 1)), (3, .int 0), (2, .int (I 35 (nI n - 1).toNatClampNeg)), (0, .ref (ad 13)), (1, .int (nI n))] dX5_canGo_68 1 rfl (by decide) rfl ?_
                refine x_goto F 39 dX5_canGo_71 (by decide) ?_
                rw [nI_1]
                refine x_sub (lv' := [(4, .int (nI (k + 1))), (3, .int (k_b (goM I J n (k + 1)))), (2, .int (I 35 (nI n - 1).toNatClampNeg)), (0, .ref (ad 13)), (1, .int (nI n))]) [0, 1, 2, 3, 4] (by rw [show goM I J n (k + 1) = false by first | (rw [goM, h48]; rfl) | (rw [nI_clamp (show k < 2 ^ 31 by omega)] at h59; rw [goM, h48]; simp [h59])]; rfl) ?_
                exact ih39 (k + 1) (by omega) (by omega)
              · refine x_iconst F (v := 1) dX5_canGo_62 (by decide) ?_
                refine x_goto F 67 dX5_canGo_63 (by decide) ?_
                refine x_istore_n F [(3, .int 1), (4, .int (nI k)), (2, .int (I 35 (nI n - 1).toNatClampNeg)), (0, .ref (ad 13)), (1, .int (nI n))] dX5_canGo_67 rfl (by decide) rfl ?_
                refine x_iinc F [(4, .int ((nI k) + 1)), (3, .int 1), (2, .int (I 35 (nI n - 1).toNatClampNeg)), (0, .ref (ad 13)), (1, .int (nI n))] dX5_canGo_68 1 rfl (by decide) rfl ?_
                refine x_goto F 39 dX5_canGo_71 (by decide) ?_
                rw [nI_1]
                refine x_sub (lv' := [(4, .int (nI (k + 1))), (3, .int (k_b (goM I J n (k + 1)))), (2, .int (I 35 (nI n - 1).toNatClampNeg)), (0, .ref (ad 13)), (1, .int (nI n))]) [0, 1, 2, 3, 4] (by rw [show goM I J n (k + 1) = true by first | (rw [goM, h48]; rfl) | (rw [nI_clamp (show k < 2 ^ 31 by omega)] at h59; rw [goM, h48]; simp [h59])]; rfl) ?_
                exact ih39 (k + 1) (by omega) (by omega)
      refine x_sub (lv' := [(4, .int (nI 0)), (3, .int (k_b (goM I J n 0))), (2, .int (I 35 (nI n - 1).toNatClampNeg)), (0, .ref (ad 13)), (1, .int (nI n))]) [0, 1, 2, 3, 4] (by rw [show goM I J n 0 = false by first | simp [goM, go0, h11, h27] | simp [goM, go0, h11]]; rfl) ?_
      exact lp39 (n + 1) 0 (by omega) (by omega)
    · rw [kb0] at h27
      refine x_iconst F (v := 1) dX5_canGo_30 (by decide) ?_
      refine x_goto F 35 dX5_canGo_31 (by decide) ?_
      refine x_istore_n F [(3, .int 1), (2, .int (I 35 ((nI n) - 1).toNatClampNeg)), (0, .ref (ad 13)), (1, .int (nI n))] dX5_canGo_35 rfl (by decide) rfl ?_
      refine x_iconst F (v := 0) dX5_canGo_36 (by decide) ?_
      refine x_istore F [(4, .int 0), (3, .int 1), (2, .int (I 35 ((nI n) - 1).toNatClampNeg)), (0, .ref (ad 13)), (1, .int (nI n))] dX5_canGo_37 (by decide) rfl ?_
      have lp39 : ∀ (fu39 : Nat) (k : Nat), n - k < fu39 → (k ≤ n - 1) → XW D lo p l e { frames := 2, cells := 0, slots := 0, locals := 47 } s m args below meth c 5 0 0 Q R ad (k_c cy ad q ns nt I J) 39 [(4, .int (nI k)), (3, .int (k_b (goM I J n k))), (2, .int (I 35 (nI n - 1).toNatClampNeg)), (0, .ref (ad 13)), (1, .int (nI n))] [] := by
        intro fu39
        induction fu39 with
        | zero => intro k hf39; exact absurd hf39 (Nat.not_lt_zero _)
        | succ fu39 ih39 =>
          intro k hf39 hkn
          refine x_iload F dX5_canGo_39 0 rfl ?_
          refine x_iload_n F dX5_canGo_41 rfl 4 rfl ?_
          refine x_iconst F (v := 1) dX5_canGo_42 (by decide) ?_
          refine x_isub F dX5_canGo_43 ?_
          refine x_icmp_ge F 74 dX5_canGo_44 (by decide) (fun h44 => ?_) (fun h44 => ?_)
          · rw [nI_m1 hn1] at h44
            have hk9 := lp_exit (by omega) hkn h44
            refine x_iload_n F dX5_canGo_74 rfl 1 rfl ?_
            rw [hQ]
            exact x_zret F hr hlk (kb_n _) ⟨by rw [hk9], rfl⟩ dX5_canGo_75
          · rw [nI_m1 hn1] at h44
            have hk9 := lp_go (by omega) hkn h44
            refine x_iload_n F dX5_canGo_47 rfl 1 rfl ?_
            refine x_if_eq F 66 dX5_canGo_48 (by decide) (fun h48 => ?_) (fun h48 => ?_)
            · rw [kb0] at h48
              refine x_iconst F (v := 0) dX5_canGo_66 (by decide) ?_
              refine x_istore_n F [(3, .int 0), (4, .int (nI k)), (2, .int (I 35 (nI n - 1).toNatClampNeg)), (0, .ref (ad 13)), (1, .int (nI n))] dX5_canGo_67 rfl (by decide) rfl ?_
              refine x_iinc F [(4, .int ((nI k) + 1)), (3, .int 0), (2, .int (I 35 (nI n - 1).toNatClampNeg)), (0, .ref (ad 13)), (1, .int (nI n))] dX5_canGo_68 1 rfl (by decide) rfl ?_
              refine x_goto F 39 dX5_canGo_71 (by decide) ?_
              rw [nI_1]
              refine x_sub (lv' := [(4, .int (nI (k + 1))), (3, .int (k_b (goM I J n (k + 1)))), (2, .int (I 35 (nI n - 1).toNatClampNeg)), (0, .ref (ad 13)), (1, .int (nI n))]) [0, 1, 2, 3, 4] (by rw [show goM I J n (k + 1) = false by first | (rw [goM, h48]; rfl) | (rw [nI_clamp (show k < 2 ^ 31 by omega)] at h59; rw [goM, h48]; simp [h59])]; rfl) ?_
              exact ih39 (k + 1) (by omega) (by omega)
            · rw [kb1] at h48
              refine x_aload_n F dX5_canGo_51 rfl 3 rfl ?_
              refine g_X5_75 F (hR 13 (by decide)) sc_13 rfl dX5_canGo_52 ?_
              refine x_iload F dX5_canGo_55 0 rfl ?_
              refine y_iald F (hR 35 (by decide)) ss_35 (vp_in_nI (by omega) (by decide)) dX5_canGo_57 ?_
              refine x_iload_n F dX5_canGo_58 rfl 2 rfl ?_
              refine x_icmp_eq F 66 dX5_canGo_59 (by decide) (fun h59 => ?_) (fun h59 => ?_)
              · refine x_iconst F (v := 0) dX5_canGo_66 (by decide) ?_
                refine x_istore_n F [(3, .int 0), (4, .int (nI k)), (2, .int (I 35 (nI n - 1).toNatClampNeg)), (0, .ref (ad 13)), (1, .int (nI n))] dX5_canGo_67 rfl (by decide) rfl ?_
                refine x_iinc F [(4, .int ((nI k) + 1)), (3, .int 0), (2, .int (I 35 (nI n - 1).toNatClampNeg)), (0, .ref (ad 13)), (1, .int (nI n))] dX5_canGo_68 1 rfl (by decide) rfl ?_
                refine x_goto F 39 dX5_canGo_71 (by decide) ?_
                rw [nI_1]
                refine x_sub (lv' := [(4, .int (nI (k + 1))), (3, .int (k_b (goM I J n (k + 1)))), (2, .int (I 35 (nI n - 1).toNatClampNeg)), (0, .ref (ad 13)), (1, .int (nI n))]) [0, 1, 2, 3, 4] (by rw [show goM I J n (k + 1) = false by first | (rw [goM, h48]; rfl) | (rw [nI_clamp (show k < 2 ^ 31 by omega)] at h59; rw [goM, h48]; simp [h59])]; rfl) ?_
                exact ih39 (k + 1) (by omega) (by omega)
              · refine x_iconst F (v := 1) dX5_canGo_62 (by decide) ?_
                refine x_goto F 67 dX5_canGo_63 (by decide) ?_
                refine x_istore_n F [(3, .int 1), (4, .int (nI k)), (2, .int (I 35 (nI n - 1).toNatClampNeg)), (0, .ref (ad 13)), (1, .int (nI n))] dX5_canGo_67 rfl (by decide) rfl ?_
                refine x_iinc F [(4, .int ((nI k) + 1)), (3, .int 1), (2, .int (I 35 (nI n - 1).toNatClampNeg)), (0, .ref (ad 13)), (1, .int (nI n))] dX5_canGo_68 1 rfl (by decide) rfl ?_
                refine x_goto F 39 dX5_canGo_71 (by decide) ?_
                rw [nI_1]
                refine x_sub (lv' := [(4, .int (nI (k + 1))), (3, .int (k_b (goM I J n (k + 1)))), (2, .int (I 35 (nI n - 1).toNatClampNeg)), (0, .ref (ad 13)), (1, .int (nI n))]) [0, 1, 2, 3, 4] (by rw [show goM I J n (k + 1) = true by first | (rw [goM, h48]; rfl) | (rw [nI_clamp (show k < 2 ^ 31 by omega)] at h59; rw [goM, h48]; simp [h59])]; rfl) ?_
                exact ih39 (k + 1) (by omega) (by omega)
      refine x_sub (lv' := [(4, .int (nI 0)), (3, .int (k_b (goM I J n 0))), (2, .int (I 35 (nI n - 1).toNatClampNeg)), (0, .ref (ad 13)), (1, .int (nI n))]) [0, 1, 2, 3, 4] (by rw [show goM I J n 0 = true by first | simp [goM, go0, h11, h27] | simp [goM, go0, h11]]; rfl) ?_
      exact lp39 (n + 1) 0 (by omega) (by omega)
set_option maxHeartbeats 4000000 in
set_option maxRecDepth 100000 in
/-- costOf -/
theorem c_X5_costOf (l : Launch) (D : va_G) (cy : Nat → ClassId) (lo : Nat) (R : List Nat) (ad : Nat → Nat) (q : Nat → Nat → Nat) (ns nt : Nat) (I : Nat → Nat → Int32) (J : Nat → Nat → Int64) (hR : ∀ r, r < 36 → r ∈ R) (n : Nat) (hn1 : 1 ≤ n) (hn5 : n ≤ 5) (hcar : ∀ i, i < n → isCar (I 35 i) = true) : k_Ci l yX5_costOf cX5_costOf 4 (some .int) 0 0 D cy lo R ad (k_c cy ad q ns nt I J) [.ref (ad 13), .int (nI n)] (costM I n) (k_c cy ad q ns nt I J) := by
  refine k_metQ (by decide +kernel) (Nat.le_of_ble_eq_true rfl) ?_
  intro p e s m args below meth c Q F hr hlk hnm hQ
  refine x_iconst F (v := 0) dX5_costOf_0 (by decide) ?_
  refine x_istore_n F [(2, .int 0), (0, .ref (ad 13)), (1, .int (nI n))] dX5_costOf_1 rfl (by decide) rfl ?_
  refine x_iconst F (v := 1) dX5_costOf_2 (by decide) ?_
  refine x_istore_n F [(3, .int 1), (2, .int 0), (0, .ref (ad 13)), (1, .int (nI n))] dX5_costOf_3 rfl (by decide) rfl ?_
  have lp4 : ∀ (fu4 : Nat) (k : Nat), n - k < fu4 → (1 ≤ k) → (k ≤ n) → XW D lo p l e { frames := 0, cells := 0, slots := 0, locals := 0 } s m args below meth c 4 0 0 Q R ad (k_c cy ad q ns nt I J) 4 [(3, .int (nI k)), (2, .int (costM I k)), (0, .ref (ad 13)), (1, .int (nI n))] [] := by
    intro fu4
    induction fu4 with
    | zero => intro k hf4; exact absurd hf4 (Nat.not_lt_zero _)
    | succ fu4 ih4 =>
      intro k hf4 hk1 hkn
      refine x_iload_n F dX5_costOf_4 rfl 0 rfl ?_
      refine x_iload_n F dX5_costOf_5 rfl 3 rfl ?_
      refine x_icmp_ge F 40 dX5_costOf_6 (by decide) (fun h6 => ?_) (fun h6 => ?_)
      · have hk9 := lp_exit (by omega) hkn h6
        refine x_iload_n F dX5_costOf_40 rfl 1 rfl ?_
        rw [hQ]
        exact x_iret F hr hlk ⟨by rw [hk9], rfl⟩ dX5_costOf_41
      · have hk9 := lp_go (by omega) hkn h6
        refine x_iload_n F dX5_costOf_9 rfl 1 rfl ?_
        refine x_aload_n F dX5_costOf_10 rfl 2 rfl ?_
        refine g_X5_20 F (hR 13 (by decide)) sc_13 rfl dX5_costOf_11 ?_
        refine x_iconst F (v := 5) dX5_costOf_14 (by decide) ?_
        refine x_aload_n F dX5_costOf_15 rfl 2 rfl ?_
        refine g_X5_75 F (hR 13 (by decide)) sc_13 rfl dX5_costOf_16 ?_
        refine x_iload_n F dX5_costOf_19 rfl 0 rfl ?_
        refine x_iconst F (v := 1) dX5_costOf_20 (by decide) ?_
        refine x_isub F dX5_costOf_21 ?_
        refine y_iald F (hR 35 (by decide)) ss_35 (vin_m1 hk1 (by omega)) dX5_costOf_22 ?_
        refine x_imul F dX5_costOf_23 ?_
        refine x_aload_n F dX5_costOf_24 rfl 2 rfl ?_
        refine g_X5_75 F (hR 13 (by decide)) sc_13 rfl dX5_costOf_25 ?_
        refine x_iload_n F dX5_costOf_28 rfl 0 rfl ?_
        refine y_iald F (hR 35 (by decide)) ss_35 (vp_in_nI (by omega) (by decide)) dX5_costOf_29 ?_
        refine x_iadd F dX5_costOf_30 ?_
        refine y_iald F (hR 17 (by decide)) ss_17 (vin_pair (by rw [nI_m1 hk1, nI_clamp (by omega)]; exact hcar _ (by omega)) (by rw [nI_clamp (by omega)]; exact hcar _ (by omega))) dX5_costOf_31 ?_
        refine x_iadd F dX5_costOf_32 ?_
        refine x_istore_n F [(2, .int ((costM I k) + (I 17 ((5 * (I 35 ((nI k) - 1).toNatClampNeg)) + (I 35 (nI k).toNatClampNeg)).toNatClampNeg))), (3, .int (nI k)), (0, .ref (ad 13)), (1, .int (nI n))] dX5_costOf_33 rfl (by decide) rfl ?_
        refine x_iinc F [(3, .int ((nI k) + 1)), (2, .int ((costM I k) + (I 17 ((5 * (I 35 ((nI k) - 1).toNatClampNeg)) + (I 35 (nI k).toNatClampNeg)).toNatClampNeg))), (0, .ref (ad 13)), (1, .int (nI n))] dX5_costOf_34 1 rfl (by decide) rfl ?_
        refine x_goto F 4 dX5_costOf_37 (by decide) ?_
        rw [nI_1]
        refine x_sub (lv' := [(3, .int (nI (k + 1))), (2, .int (costM I (k + 1))), (0, .ref (ad 13)), (1, .int (nI n))]) [0, 1, 2, 3] (by rw [costM, if_neg (by omega)]; rfl) ?_
        exact ih4 (k + 1) (by omega) (by omega) (by omega)
  exact lp4 (n + 1) 1 (by omega) (by omega) (by omega)
end
