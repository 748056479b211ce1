/-! The world as a row of roles: role r lies at address ad r and holds c r. A method may change what lies from lo on. -/
def lA (lo : Nat) : Nat → Prop := fun q => lo ≤ q
def wl (R : List Nat) (ad : Nat → Nat) (c : Nat → va_E) : va_W := R.map (fun r => (ad r, c r))
theorem wl_at {R : List Nat} {r : Nat} (ad : Nat → Nat) (c : Nat → va_E) (h : r ∈ R) : ∃ k : Nat, R[k]? = some r ∧ (wl R ad c)[k]? = some (ad r, c r) := by
  obtain ⟨k, hk⟩ := List.getElem?_of_mem h
  exact ⟨k, hk, by rw [wl, List.getElem?_map, hk]; rfl⟩
theorem wl_set {A : Nat → Prop} {R : List Nat} {ad : Nat → Nat} {c : Nat → va_E} {r k : Nat} (e : va_E) (hD : va_D A (wl R ad c)) (hk : R[k]? = some r) : (wl R ad c).set k (ad r, e) = wl R ad (va_up c r e) := by
  apply List.ext_getElem?
  intro j
  rw [List.getElem?_set]
  by_cases hj : k = j
  · subst hj
    have hl : k < (wl R ad c).length := by rw [wl, List.length_map]; exact (List.getElem?_eq_some_iff.mp hk).1
    rw [if_pos rfl, if_pos hl, wl, List.getElem?_map, hk]
    simp [va_up]
  · rw [if_neg hj, wl, wl, List.getElem?_map, List.getElem?_map]
    cases hr : R[j]? with
    | none => rfl
    | some r' =>
      have hne : r' ≠ r := by
        intro h
        subst h
        exact hj (hD.1 k j (ad r', c r') (ad r', c r') (by rw [wl, List.getElem?_map, hk]; rfl) (by rw [wl, List.getElem?_map, hr]; rfl) rfl)
      simp [va_up, hne]
theorem wl_push {A : Nat → Prop} {R : List Nat} {ad : Nat → Nat} {c : Nat → va_E} {r a : Nat} {e : va_E} (hr : r ∉ R) : wl R ad c ++ [(a, e)] = wl (R ++ [r]) (va_up ad r a) (va_up c r e) := by
  have h : ∀ L : List Nat, r ∉ L → wl L ad c = wl L (va_up ad r a) (va_up c r e) := by
    intro L hL
    apply List.map_congr_left
    intro x hx
    have : x ≠ r := fun h => hL (h ▸ hx)
    simp [va_up, this]
  rw [h R hr]
  simp [wl, va_up]
theorem wl_congr {R : List Nat} {ad ad' : Nat → Nat} {c c' : Nat → va_E} (h : ∀ r ∈ R, ad r = ad' r ∧ c r = c' r) : wl R ad c = wl R ad' c' := by
  apply List.map_congr_left
  intro x hx
  rw [(h x hx).1, (h x hx).2]
/-! What a method finds around it: the tables' words, the nest's words, the texts, the classes, the statics that a throw reads, which classes are apart. -/
def k_tys (cy : Nat → ClassId) : List (ClassId × FieldType) := [(cy 0, .int), (cy 1, .long), (cy 2, .int), (cy 3, .object RX2), (cy 4, .object RX3)]
def k_nest : Cond → Bool
  | .fieldLinkNest _ _ _ _ _ _ => true
  | .methodLinkNest _ _ _ _ => true
  | .castable _ _ => true
  | .declares _ => true
  | _ => false
def e_IO : String := "java/lang/IndexOutOfBoundsException"
def e_IA : String := "java/lang/IllegalArgumentException"
def e_IS : String := "java/lang/IllegalStateException"
def k_ncs : List (String × String) := [(e_IA, e_IO), (e_IS, e_IO), (e_IS, e_IA)]
def k_Ev (D : va_G) (cy : Nat → ClassId) (lo : Nat) (U : State) : Prop :=
  (∀ w ∈ lw_tbl, goodWord w = true → w.before #[] U = true) ∧ ((∀ w ∈ lw_tbl, k_nest w = true → va_Nw w U) ∧ va_AO RX2 U ∧ va_AO RX3 U) ∧
  (∀ (own : String) (k : Nat) (tx : String), Cond.stringRef own k tx ∈ lw_tbl → ∃ a, vk_R own k tx a U) ∧ va_K D vwCl (k_tys cy) U ∧
  (vx_Zq Bundle.tN "UNASSIGNED_STACK" Bundle.steD (lA lo) U U.heap ∧ vx_Zq Bundle.tN "SUPPRESSED_SENTINEL" Bundle.listD (lA lo) U U.heap) ∧
  (∀ q ∈ k_ncs, va_Nc q.1 q.2 U) ∧ lo ≤ U.heap.size
theorem k_Ev.moved {D : va_G} {cy : Nat → ClassId} {lo : Nat} {s U : State} (hW : s.WarmedH U.vm) (h : k_Ev D cy lo s) (hz : s.heap.size ≤ U.heap.size) (hq : ∀ a : Nat, a < s.heap.size → ¬ lA lo a → U.heap[a]? = s.heap[a]?) : k_Ev D cy lo U := by
  obtain ⟨h1, ⟨h2, h2a, h2b⟩, h3, h4, ⟨h5, h6⟩, h7, h8⟩ := h
  refine ⟨fun w hw hg => word_at hW (good_of_word hg) (h1 w hw hg), ⟨fun w hw hn => ?_, h2a.moved hW.alike, h2b.moved hW.alike⟩, fun own k tx ht => ?_, va_K.moved hW.alike h4, ⟨(h5.moved hW.alike).kept hq, (h6.moved hW.alike).kept hq⟩, fun q hq => (h7 q hq).moved hW.alike, Nat.le_trans h8 hz⟩
  · have h9 := h2 w hw hn
    cases w <;> first | exact va_Nw.warmF hW h9 | exact va_Nw.warmM hW h9 | exact va_Nw.warmC hW h9 | exact va_Nw.warmD hW h9 | (simp [k_nest] at hn)
  · obtain ⟨a, ha⟩ := h3 own k tx ht
    exact ⟨a, ha.warm hW⟩
theorem k_Ev.word {D : va_G} {cy : Nat → ClassId} {lo : Nat} {U : State} (h : k_Ev D cy lo U) {w : Cond} (n : Nat) (hw : lw_tbl[n]? = some w) (hg : goodWord w = true) (args : Array Value) : w.before args U = true :=
  word_at (State.WarmedH.refl U) (good_of_word hg) (h.1 w (List.mem_of_getElem? hw) hg)
theorem k_Ev.nestF {D : va_G} {cy : Nat → ClassId} {lo : Nat} {U : State} (h : k_Ev D cy lo U) {a b n d t : String} {i : Nat} (j : Nat) (hw : lw_tbl[j]? = some (.fieldLinkNest a i b n d t)) (args : Array Value) : (Cond.fieldLinkNest a i b n d t).before args U = true :=
  (h.2.1.1 _ (List.mem_of_getElem? hw) rfl).use rfl
theorem k_Ev.nestM {D : va_G} {cy : Nat → ClassId} {lo : Nat} {U : State} (h : k_Ev D cy lo U) {a t : String} {y : MethodName} {i : Nat} (j : Nat) (hw : lw_tbl[j]? = some (.methodLinkNest a i y t)) : va_Nw (.methodLinkNest a i y t) U :=
  h.2.1.1 _ (List.mem_of_getElem? hw) rfl
theorem k_Ev.any {D : va_G} {cy : Nat → ClassId} {lo : Nat} {U : State} (h : k_Ev D cy lo U) {w : Cond} (hw : w ∈ lw_tbl) (hg : goodWord w = true ∨ k_nest w = true) (args : Array Value) : w.before args U = true := by
  rcases hg with hg | hn
  · exact word_at (State.WarmedH.refl U) (good_of_word hg) (h.1 w hw hg)
  · have h9 := h.2.1.1 w hw hn
    cases w <;> first | exact h9.use rfl | (simp [k_nest] at hn)
/-- what a method's start asks: the surroundings, and the world -/
def k_Pr (D : va_G) (cy : Nat → ClassId) (lo : Nat) (R : List Nat) (ad : Nat → Nat) (w : Nat → va_E) (U : State) : Prop :=
  k_Ev D cy lo U ∧ va_P D vwCl (wl R ad w) U.heap ∧ va_D (lA lo) (wl R ad w)
theorem k_Pr.blind {D : va_G} {cy : Nat → ClassId} {lo : Nat} {R : List Nat} {ad : Nat → Nat} {w : Nat → va_E} (av : List Value) : FrameBlind (va_Pc av (k_Pr D cy lo R ad w)) := by
  intro a U g mk h
  obtain ⟨h0, h1, h2, h3⟩ := h
  exact ⟨h0, k_Ev.moved (s := U) (U := U.calling g mk a) (State.WarmedH.refl U) h1 (Nat.le_refl _) (fun _ _ _ => rfl), h2, h3⟩
abbrev k_S : Type := List Nat × (Nat → Nat) × (Nat → va_E)
/-- what a method leaves: the world -/
def k_Po (D : va_G) (lo : Nat) (u : k_S) (t : State) : Prop := va_P D vwCl (wl u.1 u.2.1 u.2.2) t.heap ∧ va_D (lA lo) (wl u.1 u.2.1 u.2.2)
abbrev k_F (p : Program) (m : MethodId) (c : Code) (cc : ByteArray) (nL : Nat) (s : State) (own : String) (D : va_G) (cy : Nat → ClassId) (lo : Nat) : Prop :=
  p.tables.exec = Jvm.exec ∧ c.code = cc ∧ c.maxLocals = nL ∧ s.vm.findClass own = some m.cls ∧ k_Ev D cy lo s
/-- the judgement: from pc on, with the locals lv, the stack st and the world (R, ad, w) -/
def XW (D : va_G) (lo : Nat) (p : Program) (l : Launch) (e : Env) (Rm : Room) (s : State) (m : MethodId) (args : Array Value) (below : List Frame) (meth : Method) (c : Code) (nL cells slots : Nat) (Q : State → Prop)
    (R : List Nat) (ad : Nat → Nat) (w : Nat → va_E) (pc : Nat) (lv : List (Nat × Value)) (st : List Value) : Prop :=
  ∀ (H : Heap) (locs : List Loc) (ls : Array Slot), va_P D vwCl (wl R ad w) H → va_D (lA lo) (wl R ad w) → va_S (lA lo) s.heap H locs → lv_has ls nL lv → W p l e Rm s m args below meth c H locs cells slots Q (F0 m pc ls st)
/-- a method's contract: entered at the world (R, ad, w) with the arguments av, its answer and the world behind it stand in post -/
theorem k_met {l : Launch} {y : MethodName} {cc : ByteArray} {maxL : Nat} {ret : Option FieldType} {rm : Room} {D : va_G} {cy : Nat → ClassId} {lo : Nat} {R : List Nat} {ad : Nat → Nat} {w : Nat → va_E} {av : List Value} {Qc : Array Value → State → Outcome → State → Prop} {mc ms : Nat}
    (hy : plainName y.cls = true) (hav : (lg_sl av).length ≤ maxL)
    (body : ∀ p e s m below meth c, k_F p m c cc maxL s y.cls D cy lo → meth.sig.returnType = ret → meth.locks = false → meth.name = y.name → XW D lo p l e rm s m av.toArray below meth c maxL 0 0 (MQ below Qc av.toArray s mc ms (lA lo)) R ad w 0 (lv_args 0 av) []) :
    Met l y [.code y cc maxL ret] rm (va_Pc av (k_Pr D cy lo R ad w)) Qc mc ms (lA lo) := by
  refine Met.ofW (cc := cc) (maxL := maxL) (ret := ret) hy rfl ?_
  intro p e s m args below meth c s₁ B hml hv
  obtain ⟨rfl, hE, hP, hD⟩ := hv
  have hl := lv_entry av (n := maxL) hav
  rw [lg_entry_eq]
  exact body p e s m below meth c ⟨B.exec, B.bytes, hml, findClass_of_methodNamed B.named, hE⟩ B.returns B.notSynchronized (name_of_methodNamed B.named B.method).1 _ _ _ hP hD va_S.rf hl
