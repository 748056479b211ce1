/-! The law's own methods: they have handlers. -/
abbrev k_MetH (l : Launch) (y : MethodName) (cc : ByteArray) (maxL : Nat) (ret : Option FieldType) (hh : List (Nat × Nat × Nat × Nat)) (rm : Room) (D : va_G) (cy : Nat → ClassId) (lo : Nat) (R : List Nat) (ad : Nat → Nat) (w : Nat → va_E) (av : List Value) (Qc : Array Value → State → Outcome → State → Prop) : Prop :=
  Met l y [.codeWith y cc maxL ret hh] rm (va_Pc av (k_Pr D cy lo R ad w)) Qc rm.cells rm.slots (lA lo)
theorem k_metH {l : Launch} {y : MethodName} {cc : ByteArray} {maxL : Nat} {ret : Option FieldType} {hh : List (Nat × Nat × Nat × Nat)} {rm : Room} {D : va_G} {cy : Nat → ClassId} {lo : Nat} {R : List Nat} {ad : Nat → Nat} {w : Nat → va_E} {av : List Value} {Qc : Array Value → State → Outcome → State → Prop}
    (hy : plainName y.cls = true) (hav : (lg_sl av).length ≤ maxL)
    (body : ∀ p e s m args below meth c Q, k_F p m c cc maxL s y.cls D cy lo → meth.sig.returnType = ret → meth.locks = false → c.exceptionTable.toList = tableOf hh → Q = MQ below Qc args s rm.cells rm.slots (lA lo) → XW D lo p l e rm s m args below meth c maxL 0 0 Q R ad w 0 (lv_args 0 av) []) :
    k_MetH l y cc maxL ret hh rm D cy lo R ad w av Qc := by
  refine va_MetW (cc := cc) (maxL := maxL) (ret := ret) (hh := hh) hy rfl ?_
  intro p e s m args below meth c s₁ B hml hv
  have ht := vx_table (x := y) B (atoms_spec (ws := [.codeWith y cc maxL ret hh]) B.pre _ List.mem_cons_self)
  obtain ⟨rfl, hE, hP, hD⟩ := hv
  have hl := lv_entry av (n := maxL) hav
  rw [lg_entry_eq]
  exact body p e s m _ below meth c _ ⟨B.exec, B.bytes, hml, findClass_of_methodNamed B.named, hE⟩ B.returns B.notSynchronized ht rfl _ _ _ hP hD va_S.rf hl
def k_Mh (y : MethodName) (b : ByteArray) (mL : Nat) (ret : Option FieldType) (hh : List (Nat × Nat × Nat × Nat)) (n : Nat) : Prop :=
  Cond.codeWith y b mL ret hh ∈ lw_tbl ∧ Cond.initialized y.cls ∈ lw_tbl ∧ y.cls ≠ "java/lang/invoke/MethodHandle" ∧ y.cls ≠ "java/lang/invoke/VarHandle" ∧ (parseMethodDescriptor y.desc).map (fun d => d.parameters.length) = some n
section KLAW
variable {D : va_G} {cy : Nat → ClassId} {lo : Nat} {p : Program} {l : Launch} {e : Env} {Rm : Room} {s : State} {m : MethodId} {args : Array Value} {below : List Frame} {meth : Method} {c : Code} {cc : ByteArray} {nL cells slots : Nat} {Q : State → Prop} {own : String} {R : List Nat} {ad : Nat → Nat} {w : Nat → va_E} {pc : Nat} {lv : List (Nat × Value)} {st rest : List Value}
/-- a static call of a method with handlers -/
theorem x_callHi (F : k_F p m c cc nL s own D cy lo) {index mL n : Nat} {y : MethodName} {b : ByteArray} {ret : Option FieldType} {hh : List (Nat × Nat × Nat × Nat)} {rm : Room} {post : Int32 → k_S → Prop} (As : List Value) (hM : k_MetH l y b mL ret hh rm D cy lo R ad w As (k_Qi D lo post)) (hc : k_Mh y b mL ret hh n) (hv : k_Ms y) (hl : Cond.methodLink own index y ∈ lw_tbl) (hst : st = As.reverse ++ rest) (hn : As.length = n) (hdg : decode cc pc = .ok (.invokestatic index, 3)) (hR : rm.frames + 1 ≤ Rm.frames ∧ 8 + (mL + 11) + rm.locals ≤ Rm.locals) (hroom : cells + rm.cells ≤ Rm.cells ∧ slots + rm.slots ≤ Rm.slots) (hcat : (rest.map fun v => v.category).sum ≤ 8) (kk : ∀ (r : Int32) (u : k_S), post r u → XW D lo p l e Rm s m args below meth c nL (cells + rm.cells) (slots + rm.slots) Q u.1 u.2.1 u.2.2 (pc + 3) lv (.int r :: rest)) : XW D lo p l e Rm s m args below meth c nL cells slots Q R ad w pc lv st := by
  subst hst
  intro H locs ls hP hD hS hl0
  have hl1 := hl0
  have cw : vx_CSW Rm s args own index y b mL ret hh [.codeWith y b mL ret hh] rm rm.cells rm.slots n :=
    ⟨⟨rfl, rfl, hR.1, hR.2, fun w hw a' U hW => by rw [List.mem_singleton.mp hw]; exact word_at hW (good_of_word rfl) (F.2.2.2.2.wm hc.1 rfl args), List.mem_singleton.mpr rfl⟩, F.2.2.2.2.wm hc.1 rfl args, F.2.2.2.2.wm hc.2.1 rfl args, ⟨hc.2.2.1, hc.2.2.2.1⟩, fun sig h => by
      have h2 := hc.2.2.2.2
      rw [h] at h2
      exact (Option.some.inj h2).symm, F.2.2.2.2.wm hl rfl args, F.2.2.2.2.wm hv rfl args⟩
  exact va_calli (vx_runSW (As := As) (rest := rest) (k_fix F) hM cw ⟨k_Pr.blind _, k_pre F hP hD hS As⟩ rfl hn hl0.1 rfl (lv_room hcat) hdg hroom) hS (fun _ _ h => h) (fun _ h => h) (fun r u t H1 locs1 ht hvm hpost hB hz hk hS => kk r u hpost H1 locs1 ls (by rw [← ht]; exact hB.1) hB.2 hS hl1)
end KLAW
set_option maxRecDepth 100000 in
theorem mh_refused : k_Mh yL_refused cL_refused 5 (some .int) [((0 : Nat), (114 : Nat), (115 : Nat), (53 : Nat)), ((0 : Nat), (114 : Nat), (119 : Nat), (55 : Nat)), ((0 : Nat), (114 : Nat), (123 : Nat), (57 : Nat))] 4 := ⟨(List.mem_of_getElem? (i := 474) (by decide +kernel)), (List.mem_of_getElem? (i := 9) (by decide +kernel)), by decide +kernel, by decide +kernel, by decide +kernel⟩
set_option maxHeartbeats 4000000 in
set_option maxRecDepth 100000 in
/-- refused, kind 0 -/
theorem c_rf_0 (l : Launch) (D : va_G) (cy : Nat → ClassId) (lo : Nat) (R : List Nat) (ad : Nat → Nat) (q : Nat → Nat → Nat) (ns nt : Nat) (I : Nat → Nat → Int32) (J : Nat → Nat → Int64) (hR : ∀ r, r < 19 → r ∈ R) (a b : Int32) (fr lc mc ms : Nat) (post : Int32 → k_S → Prop) (xpost : String → k_S → Prop) (hM : k_MetX l yX4_call cX4_call 6 (some .int) { frames := fr, cells := mc, slots := ms, locals := lc } D cy lo R ad (k_c cy ad q ns nt I J) (.ref (ad 0) :: [.int a, .int b]) (k_Qi D lo post) xpost) (hE9 : ∀ E u, xpost E u → E = e_IO ∨ E = e_IA ∨ E = e_IS) (hno : ∀ v u, ¬ post v u) : k_MetH l yL_refused cL_refused 5 (some .int) [((0 : Nat), (114 : Nat), (115 : Nat), (53 : Nat)), ((0 : Nat), (114 : Nat), (119 : Nat), (55 : Nat)), ((0 : Nat), (114 : Nat), (123 : Nat), (57 : Nat))] { frames := fr + 1, cells := mc, slots := ms, locals := 8 + (6 + 11) + lc } D cy lo R ad (k_c cy ad q ns nt I J) [.ref (ad 0), .int 0, .int a, .int b] (k_Qi D lo (fun r u => (xpost e_IO u ∧ r = 1) ∨ (xpost e_IA u ∧ r = 2) ∨ (xpost e_IS u ∧ r = 3))) := by
  refine k_metH (by decide +kernel) (Nat.le_of_ble_eq_true rfl) ?_
  intro p e s m args below meth c Q F hr hlk ht hQ
  refine x_iload_n F dL_refused_0 rfl 1 rfl ?_
  refine x_if_ne F 14 dL_refused_1 (by decide) (fun h1 => ?_) (fun h1 => ?_)
  · exact False.elim (by revert h1; decide)
  · refine x_aload_n F dL_refused_4 rfl 0 rfl ?_
    refine x_iload_n F dL_refused_5 rfl 2 rfl ?_
    refine x_iload_n F dL_refused_6 rfl 3 rfl ?_
    refine x_callVix F (r0 := 0) [.int a, .int b] hM mc_X4_call mv_X4_call lk_L_25 (hR 0 (by decide)) sc_0 rfl rfl rfl dL_refused_7 ⟨Nat.le_refl _, Nat.le_refl _⟩ ⟨Nat.le_of_eq (Nat.zero_add _), Nat.le_of_eq (Nat.zero_add _)⟩ (Nat.le_of_ble_eq_true rfl) (fun E u hx => ?_) (fun v u hp => absurd hp (hno v u))
    rcases hE9 E u hx with hE | hE | hE
    · subst hE
      refine x_catch F [] ⟨0, 114, 115, 53⟩ [⟨0, 114, 119, 55⟩, ⟨0, 114, 123, 57⟩] (by rw [ht]; rfl) (fun z hz => absurd hz List.not_mem_nil) (by decide) (by decide) (List.mem_of_getElem? (i := 475) (by decide +kernel)) (List.mem_of_getElem? (i := 112) (by decide +kernel)) (fun q9 => ?_)
      refine x_astore F [(4, .ref q9), (0, .ref (ad 0)), (1, .int 0), (2, .int a), (3, .int b)] dL_refused_115 (by decide) rfl ?_
      refine x_iconst F (v := 1) dL_refused_117 (by decide) ?_
      rw [hQ]
      refine x_widen (k := mc) (n := ms) (Nat.le_of_eq (Nat.zero_add _)) (Nat.le_of_eq (Nat.zero_add _)) ?_
      exact x_iret F hr hlk (by exact Or.inl ⟨hx, rfl⟩) dL_refused_118
    · subst hE
      refine x_catch F [⟨0, 114, 115, 53⟩] ⟨0, 114, 119, 55⟩ [⟨0, 114, 123, 57⟩] (by rw [ht]; rfl) (fun z hz => by simp only [List.mem_cons, List.not_mem_nil, or_false] at hz; rcases hz with rfl <;> first | exact ⟨by decide, e_IO, (List.mem_of_getElem? (i := 475) (by decide +kernel)), by decide +kernel⟩) (by decide) (by decide) (List.mem_of_getElem? (i := 476) (by decide +kernel)) (List.mem_of_getElem? (i := 183) (by decide +kernel)) (fun q9 => ?_)
      refine x_astore F [(4, .ref q9), (0, .ref (ad 0)), (1, .int 0), (2, .int a), (3, .int b)] dL_refused_119 (by decide) rfl ?_
      refine x_iconst F (v := 2) dL_refused_121 (by decide) ?_
      rw [hQ]
      refine x_widen (k := mc) (n := ms) (Nat.le_of_eq (Nat.zero_add _)) (Nat.le_of_eq (Nat.zero_add _)) ?_
      exact x_iret F hr hlk (by exact Or.inr (Or.inl ⟨hx, rfl⟩)) dL_refused_122
    · subst hE
      refine x_catch F [⟨0, 114, 115, 53⟩, ⟨0, 114, 119, 55⟩] ⟨0, 114, 123, 57⟩ [] (by rw [ht]; rfl) (fun z hz => by simp only [List.mem_cons, List.not_mem_nil, or_false] at hz; rcases hz with rfl | rfl <;> first | exact ⟨by decide, e_IO, (List.mem_of_getElem? (i := 475) (by decide +kernel)), by decide +kernel⟩ | exact ⟨by decide, e_IA, (List.mem_of_getElem? (i := 476) (by decide +kernel)), by decide +kernel⟩) (by decide) (by decide) (List.mem_of_getElem? (i := 477) (by decide +kernel)) (List.mem_of_getElem? (i := 220) (by decide +kernel)) (fun q9 => ?_)
      refine x_astore F [(4, .ref q9), (0, .ref (ad 0)), (1, .int 0), (2, .int a), (3, .int b)] dL_refused_123 (by decide) rfl ?_
      refine x_iconst F (v := 3) dL_refused_125 (by decide) ?_
      rw [hQ]
      refine x_widen (k := mc) (n := ms) (Nat.le_of_eq (Nat.zero_add _)) (Nat.le_of_eq (Nat.zero_add _)) ?_
      exact x_iret F hr hlk (by exact Or.inr (Or.inr ⟨hx, rfl⟩)) dL_refused_126
set_option maxHeartbeats 4000000 in
set_option maxRecDepth 100000 in
/-- refused, kind 1 -/
theorem c_rf_1 (l : Launch) (D : va_G) (cy : Nat → ClassId) (lo : Nat) (R : List Nat) (ad : Nat → Nat) (q : Nat → Nat → Nat) (ns nt : Nat) (I : Nat → Nat → Int32) (J : Nat → Nat → Int64) (hR : ∀ r, r < 19 → r ∈ R) (a b : Int32) (fr lc mc ms : Nat) (post : Int32 → k_S → Prop) (xpost : String → k_S → Prop) (hM : k_MetX l yX4_hangUp cX4_hangUp 3 (some .int) { frames := fr, cells := mc, slots := ms, locals := lc } D cy lo R ad (k_c cy ad q ns nt I J) (.ref (ad 0) :: [.int a]) (k_Qi D lo post) xpost) (hE9 : ∀ E u, xpost E u → E = e_IO ∨ E = e_IA ∨ E = e_IS) (hno : ∀ v u, ¬ post v u) : k_MetH l yL_refused cL_refused 5 (some .int) [((0 : Nat), (114 : Nat), (115 : Nat), (53 : Nat)), ((0 : Nat), (114 : Nat), (119 : Nat), (55 : Nat)), ((0 : Nat), (114 : Nat), (123 : Nat), (57 : Nat))] { frames := fr + 1, cells := mc, slots := ms, locals := 8 + (3 + 11) + lc } D cy lo R ad (k_c cy ad q ns nt I J) [.ref (ad 0), .int 1, .int a, .int b] (k_Qi D lo (fun r u => (xpost e_IO u ∧ r = 1) ∨ (xpost e_IA u ∧ r = 2) ∨ (xpost e_IS u ∧ r = 3))) := by
  refine k_metH (by decide +kernel) (Nat.le_of_ble_eq_true rfl) ?_
  intro p e s m args below meth c Q F hr hlk ht hQ
  refine x_iload_n F dL_refused_0 rfl 1 rfl ?_
  refine x_if_ne F 14 dL_refused_1 (by decide) (fun h1 => ?_) (fun h1 => ?_)
  · refine x_iload_n F dL_refused_14 rfl 1 rfl ?_
    refine x_iconst F (v := 1) dL_refused_15 (by decide) ?_
    refine x_icmp_ne F 28 dL_refused_16 (by decide) (fun h16 => ?_) (fun h16 => ?_)
    · exact False.elim (by revert h16; decide)
    · refine x_aload_n F dL_refused_19 rfl 0 rfl ?_
      refine x_iload_n F dL_refused_20 rfl 2 rfl ?_
      refine x_callVix F (r0 := 0) [.int a] hM mc_X4_hangUp mv_X4_hangUp lk_L_31 (hR 0 (by decide)) sc_0 rfl rfl rfl dL_refused_21 ⟨Nat.le_refl _, Nat.le_refl _⟩ ⟨Nat.le_of_eq (Nat.zero_add _), Nat.le_of_eq (Nat.zero_add _)⟩ (Nat.le_of_ble_eq_true rfl) (fun E u hx => ?_) (fun v u hp => absurd hp (hno v u))
      rcases hE9 E u hx with hE | hE | hE
      · subst hE
        refine x_catch F [] ⟨0, 114, 115, 53⟩ [⟨0, 114, 119, 55⟩, ⟨0, 114, 123, 57⟩] (by rw [ht]; rfl) (fun z hz => absurd hz List.not_mem_nil) (by decide) (by decide) (List.mem_of_getElem? (i := 475) (by decide +kernel)) (List.mem_of_getElem? (i := 112) (by decide +kernel)) (fun q9 => ?_)
        refine x_astore F [(4, .ref q9), (0, .ref (ad 0)), (1, .int 1), (2, .int a), (3, .int b)] dL_refused_115 (by decide) rfl ?_
        refine x_iconst F (v := 1) dL_refused_117 (by decide) ?_
        rw [hQ]
        refine x_widen (k := mc) (n := ms) (Nat.le_of_eq (Nat.zero_add _)) (Nat.le_of_eq (Nat.zero_add _)) ?_
        exact x_iret F hr hlk (by exact Or.inl ⟨hx, rfl⟩) dL_refused_118
      · subst hE
        refine x_catch F [⟨0, 114, 115, 53⟩] ⟨0, 114, 119, 55⟩ [⟨0, 114, 123, 57⟩] (by rw [ht]; rfl) (fun z hz => by simp only [List.mem_cons, List.not_mem_nil, or_false] at hz; rcases hz with rfl <;> first | exact ⟨by decide, e_IO, (List.mem_of_getElem? (i := 475) (by decide +kernel)), by decide +kernel⟩) (by decide) (by decide) (List.mem_of_getElem? (i := 476) (by decide +kernel)) (List.mem_of_getElem? (i := 183) (by decide +kernel)) (fun q9 => ?_)
        refine x_astore F [(4, .ref q9), (0, .ref (ad 0)), (1, .int 1), (2, .int a), (3, .int b)] dL_refused_119 (by decide) rfl ?_
        refine x_iconst F (v := 2) dL_refused_121 (by decide) ?_
        rw [hQ]
        refine x_widen (k := mc) (n := ms) (Nat.le_of_eq (Nat.zero_add _)) (Nat.le_of_eq (Nat.zero_add _)) ?_
        exact x_iret F hr hlk (by exact Or.inr (Or.inl ⟨hx, rfl⟩)) dL_refused_122
      · subst hE
        refine x_catch F [⟨0, 114, 115, 53⟩, ⟨0, 114, 119, 55⟩] ⟨0, 114, 123, 57⟩ [] (by rw [ht]; rfl) (fun z hz => by simp only [List.mem_cons, List.not_mem_nil, or_false] at hz; rcases hz with rfl | rfl <;> first | exact ⟨by decide, e_IO, (List.mem_of_getElem? (i := 475) (by decide +kernel)), by decide +kernel⟩ | exact ⟨by decide, e_IA, (List.mem_of_getElem? (i := 476) (by decide +kernel)), by decide +kernel⟩) (by decide) (by decide) (List.mem_of_getElem? (i := 477) (by decide +kernel)) (List.mem_of_getElem? (i := 220) (by decide +kernel)) (fun q9 => ?_)
        refine x_astore F [(4, .ref q9), (0, .ref (ad 0)), (1, .int 1), (2, .int a), (3, .int b)] dL_refused_123 (by decide) rfl ?_
        refine x_iconst F (v := 3) dL_refused_125 (by decide) ?_
        rw [hQ]
        refine x_widen (k := mc) (n := ms) (Nat.le_of_eq (Nat.zero_add _)) (Nat.le_of_eq (Nat.zero_add _)) ?_
        exact x_iret F hr hlk (by exact Or.inr (Or.inr ⟨hx, rfl⟩)) dL_refused_126
  · exact False.elim (by revert h1; decide)
set_option maxHeartbeats 4000000 in
set_option maxRecDepth 100000 in
/-- refused, kind 2 -/
theorem c_rf_2 (l : Launch) (D : va_G) (cy : Nat → ClassId) (lo : Nat) (R : List Nat) (ad : Nat → Nat) (q : Nat → Nat → Nat) (ns nt : Nat) (I : Nat → Nat → Int32) (J : Nat → Nat → Int64) (hR : ∀ r, r < 19 → r ∈ R) (a b : Int32) (fr lc mc ms : Nat) (post : Int64 → k_S → Prop) (xpost : String → k_S → Prop) (hM : k_MetX l yX4_settle cX4_settle 5 (some .long) { frames := fr, cells := mc, slots := ms, locals := lc } D cy lo R ad (k_c cy ad q ns nt I J) (.ref (ad 0) :: [.int a, .int b]) (k_Ql D lo post) xpost) (hE9 : ∀ E u, xpost E u → E = e_IO ∨ E = e_IA ∨ E = e_IS) (hno : ∀ v u, ¬ post v u) : k_MetH l yL_refused cL_refused 5 (some .int) [((0 : Nat), (114 : Nat), (115 : Nat), (53 : Nat)), ((0 : Nat), (114 : Nat), (119 : Nat), (55 : Nat)), ((0 : Nat), (114 : Nat), (123 : Nat), (57 : Nat))] { frames := fr + 1, cells := mc, slots := ms, locals := 8 + (5 + 11) + lc } D cy lo R ad (k_c cy ad q ns nt I J) [.ref (ad 0), .int 2, .int a, .int b] (k_Qi D lo (fun r u => (xpost e_IO u ∧ r = 1) ∨ (xpost e_IA u ∧ r = 2) ∨ (xpost e_IS u ∧ r = 3))) := by
  refine k_metH (by decide +kernel) (Nat.le_of_ble_eq_true rfl) ?_
  intro p e s m args below meth c Q F hr hlk ht hQ
  refine x_iload_n F dL_refused_0 rfl 1 rfl ?_
  refine x_if_ne F 14 dL_refused_1 (by decide) (fun h1 => ?_) (fun h1 => ?_)
  · refine x_iload_n F dL_refused_14 rfl 1 rfl ?_
    refine x_iconst F (v := 1) dL_refused_15 (by decide) ?_
    refine x_icmp_ne F 28 dL_refused_16 (by decide) (fun h16 => ?_) (fun h16 => ?_)
    · refine x_iload_n F dL_refused_28 rfl 1 rfl ?_
      refine x_iconst F (v := 2) dL_refused_29 (by decide) ?_
      refine x_icmp_ne F 42 dL_refused_30 (by decide) (fun h30 => ?_) (fun h30 => ?_)
      · exact False.elim (by revert h30; decide)
      · refine x_aload_n F dL_refused_33 rfl 0 rfl ?_
        refine x_iload_n F dL_refused_34 rfl 2 rfl ?_
        refine x_iload_n F dL_refused_35 rfl 3 rfl ?_
        refine x_callVlx F (r0 := 0) [.int a, .int b] hM mc_X4_settle mv_X4_settle lk_L_34 (hR 0 (by decide)) sc_0 rfl rfl rfl dL_refused_36 ⟨Nat.le_refl _, Nat.le_refl _⟩ ⟨Nat.le_of_eq (Nat.zero_add _), Nat.le_of_eq (Nat.zero_add _)⟩ (Nat.le_of_ble_eq_true rfl) (fun E u hx => ?_) (fun v u hp => absurd hp (hno v u))
        rcases hE9 E u hx with hE | hE | hE
        · subst hE
          refine x_catch F [] ⟨0, 114, 115, 53⟩ [⟨0, 114, 119, 55⟩, ⟨0, 114, 123, 57⟩] (by rw [ht]; rfl) (fun z hz => absurd hz List.not_mem_nil) (by decide) (by decide) (List.mem_of_getElem? (i := 475) (by decide +kernel)) (List.mem_of_getElem? (i := 112) (by decide +kernel)) (fun q9 => ?_)
          refine x_astore F [(4, .ref q9), (0, .ref (ad 0)), (1, .int 2), (2, .int a), (3, .int b)] dL_refused_115 (by decide) rfl ?_
          refine x_iconst F (v := 1) dL_refused_117 (by decide) ?_
          rw [hQ]
          refine x_widen (k := mc) (n := ms) (Nat.le_of_eq (Nat.zero_add _)) (Nat.le_of_eq (Nat.zero_add _)) ?_
          exact x_iret F hr hlk (by exact Or.inl ⟨hx, rfl⟩) dL_refused_118
        · subst hE
          refine x_catch F [⟨0, 114, 115, 53⟩] ⟨0, 114, 119, 55⟩ [⟨0, 114, 123, 57⟩] (by rw [ht]; rfl) (fun z hz => by simp only [List.mem_cons, List.not_mem_nil, or_false] at hz; rcases hz with rfl <;> first | exact ⟨by decide, e_IO, (List.mem_of_getElem? (i := 475) (by decide +kernel)), by decide +kernel⟩) (by decide) (by decide) (List.mem_of_getElem? (i := 476) (by decide +kernel)) (List.mem_of_getElem? (i := 183) (by decide +kernel)) (fun q9 => ?_)
          refine x_astore F [(4, .ref q9), (0, .ref (ad 0)), (1, .int 2), (2, .int a), (3, .int b)] dL_refused_119 (by decide) rfl ?_
          refine x_iconst F (v := 2) dL_refused_121 (by decide) ?_
          rw [hQ]
          refine x_widen (k := mc) (n := ms) (Nat.le_of_eq (Nat.zero_add _)) (Nat.le_of_eq (Nat.zero_add _)) ?_
          exact x_iret F hr hlk (by exact Or.inr (Or.inl ⟨hx, rfl⟩)) dL_refused_122
        · subst hE
          refine x_catch F [⟨0, 114, 115, 53⟩, ⟨0, 114, 119, 55⟩] ⟨0, 114, 123, 57⟩ [] (by rw [ht]; rfl) (fun z hz => by simp only [List.mem_cons, List.not_mem_nil, or_false] at hz; rcases hz with rfl | rfl <;> first | exact ⟨by decide, e_IO, (List.mem_of_getElem? (i := 475) (by decide +kernel)), by decide +kernel⟩ | exact ⟨by decide, e_IA, (List.mem_of_getElem? (i := 476) (by decide +kernel)), by decide +kernel⟩) (by decide) (by decide) (List.mem_of_getElem? (i := 477) (by decide +kernel)) (List.mem_of_getElem? (i := 220) (by decide +kernel)) (fun q9 => ?_)
          refine x_astore F [(4, .ref q9), (0, .ref (ad 0)), (1, .int 2), (2, .int a), (3, .int b)] dL_refused_123 (by decide) rfl ?_
          refine x_iconst F (v := 3) dL_refused_125 (by decide) ?_
          rw [hQ]
          refine x_widen (k := mc) (n := ms) (Nat.le_of_eq (Nat.zero_add _)) (Nat.le_of_eq (Nat.zero_add _)) ?_
          exact x_iret F hr hlk (by exact Or.inr (Or.inr ⟨hx, rfl⟩)) dL_refused_126
    · exact False.elim (by revert h16; decide)
  · exact False.elim (by revert h1; decide)
set_option maxHeartbeats 4000000 in
set_option maxRecDepth 100000 in
/-- refused, kind 3 -/
theorem c_rf_3 (l : Launch) (D : va_G) (cy : Nat → ClassId) (lo : Nat) (R : List Nat) (ad : Nat → Nat) (q : Nat → Nat → Nat) (ns nt : Nat) (I : Nat → Nat → Int32) (J : Nat → Nat → Int64) (hR : ∀ r, r < 19 → r ∈ R) (a b : Int32) (fr lc mc ms : Nat) (post : Int32 → k_S → Prop) (xpost : String → k_S → Prop) (hM : k_MetX l yX4_unlink cX4_unlink 4 (some .int) { frames := fr, cells := mc, slots := ms, locals := lc } D cy lo R ad (k_c cy ad q ns nt I J) (.ref (ad 0) :: [.int a, .int b]) (k_Qi D lo post) xpost) (hE9 : ∀ E u, xpost E u → E = e_IO ∨ E = e_IA ∨ E = e_IS) (hno : ∀ v u, ¬ post v u) : k_MetH l yL_refused cL_refused 5 (some .int) [((0 : Nat), (114 : Nat), (115 : Nat), (53 : Nat)), ((0 : Nat), (114 : Nat), (119 : Nat), (55 : Nat)), ((0 : Nat), (114 : Nat), (123 : Nat), (57 : Nat))] { frames := fr + 1, cells := mc, slots := ms, locals := 8 + (4 + 11) + lc } D cy lo R ad (k_c cy ad q ns nt I J) [.ref (ad 0), .int 3, .int a, .int b] (k_Qi D lo (fun r u => (xpost e_IO u ∧ r = 1) ∨ (xpost e_IA u ∧ r = 2) ∨ (xpost e_IS u ∧ r = 3))) := by
  refine k_metH (by decide +kernel) (Nat.le_of_ble_eq_true rfl) ?_
  intro p e s m args below meth c Q F hr hlk ht hQ
  refine x_iload_n F dL_refused_0 rfl 1 rfl ?_
  refine x_if_ne F 14 dL_refused_1 (by decide) (fun h1 => ?_) (fun h1 => ?_)
  · refine x_iload_n F dL_refused_14 rfl 1 rfl ?_
    refine x_iconst F (v := 1) dL_refused_15 (by decide) ?_
    refine x_icmp_ne F 28 dL_refused_16 (by decide) (fun h16 => ?_) (fun h16 => ?_)
    · refine x_iload_n F dL_refused_28 rfl 1 rfl ?_
      refine x_iconst F (v := 2) dL_refused_29 (by decide) ?_
      refine x_icmp_ne F 42 dL_refused_30 (by decide) (fun h30 => ?_) (fun h30 => ?_)
      · refine x_iload_n F dL_refused_42 rfl 1 rfl ?_
        refine x_iconst F (v := 3) dL_refused_43 (by decide) ?_
        refine x_icmp_ne F 57 dL_refused_44 (by decide) (fun h44 => ?_) (fun h44 => ?_)
        · exact False.elim (by revert h44; decide)
        · refine x_aload_n F dL_refused_47 rfl 0 rfl ?_
          refine x_iload_n F dL_refused_48 rfl 2 rfl ?_
          refine x_iload_n F dL_refused_49 rfl 3 rfl ?_
          refine x_callVix F (r0 := 0) [.int a, .int b] hM mc_X4_unlink mv_X4_unlink lk_L_38 (hR 0 (by decide)) sc_0 rfl rfl rfl dL_refused_50 ⟨Nat.le_refl _, Nat.le_refl _⟩ ⟨Nat.le_of_eq (Nat.zero_add _), Nat.le_of_eq (Nat.zero_add _)⟩ (Nat.le_of_ble_eq_true rfl) (fun E u hx => ?_) (fun v u hp => absurd hp (hno v u))
          rcases hE9 E u hx with hE | hE | hE
          · subst hE
            refine x_catch F [] ⟨0, 114, 115, 53⟩ [⟨0, 114, 119, 55⟩, ⟨0, 114, 123, 57⟩] (by rw [ht]; rfl) (fun z hz => absurd hz List.not_mem_nil) (by decide) (by decide) (List.mem_of_getElem? (i := 475) (by decide +kernel)) (List.mem_of_getElem? (i := 112) (by decide +kernel)) (fun q9 => ?_)
            refine x_astore F [(4, .ref q9), (0, .ref (ad 0)), (1, .int 3), (2, .int a), (3, .int b)] dL_refused_115 (by decide) rfl ?_
            refine x_iconst F (v := 1) dL_refused_117 (by decide) ?_
            rw [hQ]
            refine x_widen (k := mc) (n := ms) (Nat.le_of_eq (Nat.zero_add _)) (Nat.le_of_eq (Nat.zero_add _)) ?_
            exact x_iret F hr hlk (by exact Or.inl ⟨hx, rfl⟩) dL_refused_118
          · subst hE
            refine x_catch F [⟨0, 114, 115, 53⟩] ⟨0, 114, 119, 55⟩ [⟨0, 114, 123, 57⟩] (by rw [ht]; rfl) (fun z hz => by simp only [List.mem_cons, List.not_mem_nil, or_false] at hz; rcases hz with rfl <;> first | exact ⟨by decide, e_IO, (List.mem_of_getElem? (i := 475) (by decide +kernel)), by decide +kernel⟩) (by decide) (by decide) (List.mem_of_getElem? (i := 476) (by decide +kernel)) (List.mem_of_getElem? (i := 183) (by decide +kernel)) (fun q9 => ?_)
            refine x_astore F [(4, .ref q9), (0, .ref (ad 0)), (1, .int 3), (2, .int a), (3, .int b)] dL_refused_119 (by decide) rfl ?_
            refine x_iconst F (v := 2) dL_refused_121 (by decide) ?_
            rw [hQ]
            refine x_widen (k := mc) (n := ms) (Nat.le_of_eq (Nat.zero_add _)) (Nat.le_of_eq (Nat.zero_add _)) ?_
            exact x_iret F hr hlk (by exact Or.inr (Or.inl ⟨hx, rfl⟩)) dL_refused_122
          · subst hE
            refine x_catch F [⟨0, 114, 115, 53⟩, ⟨0, 114, 119, 55⟩] ⟨0, 114, 123, 57⟩ [] (by rw [ht]; rfl) (fun z hz => by simp only [List.mem_cons, List.not_mem_nil, or_false] at hz; rcases hz with rfl | rfl <;> first | exact ⟨by decide, e_IO, (List.mem_of_getElem? (i := 475) (by decide +kernel)), by decide +kernel⟩ | exact ⟨by decide, e_IA, (List.mem_of_getElem? (i := 476) (by decide +kernel)), by decide +kernel⟩) (by decide) (by decide) (List.mem_of_getElem? (i := 477) (by decide +kernel)) (List.mem_of_getElem? (i := 220) (by decide +kernel)) (fun q9 => ?_)
            refine x_astore F [(4, .ref q9), (0, .ref (ad 0)), (1, .int 3), (2, .int a), (3, .int b)] dL_refused_123 (by decide) rfl ?_
            refine x_iconst F (v := 3) dL_refused_125 (by decide) ?_
            rw [hQ]
            refine x_widen (k := mc) (n := ms) (Nat.le_of_eq (Nat.zero_add _)) (Nat.le_of_eq (Nat.zero_add _)) ?_
            exact x_iret F hr hlk (by exact Or.inr (Or.inr ⟨hx, rfl⟩)) dL_refused_126
      · exact False.elim (by revert h30; decide)
    · exact False.elim (by revert h16; decide)
  · exact False.elim (by revert h1; decide)
set_option maxHeartbeats 4000000 in
set_option maxRecDepth 100000 in
/-- refused, kind 4 -/
theorem c_rf_4 (l : Launch) (D : va_G) (cy : Nat → ClassId) (lo : Nat) (R : List Nat) (ad : Nat → Nat) (q : Nat → Nat → Nat) (ns nt : Nat) (I : Nat → Nat → Int32) (J : Nat → Nat → Int64) (hR : ∀ r, r < 19 → r ∈ R) (a b : Int32) (fr lc mc ms : Nat) (post : Int32 → k_S → Prop) (xpost : String → k_S → Prop) (hM : k_MetX l yX4_carryOver cX4_carryOver 4 (some .int) { frames := fr, cells := mc, slots := ms, locals := lc } D cy lo R ad (k_c cy ad q ns nt I J) (.ref (ad 0) :: [.int a, .int b]) (k_Qi D lo post) xpost) (hE9 : ∀ E u, xpost E u → E = e_IO ∨ E = e_IA ∨ E = e_IS) (hno : ∀ v u, ¬ post v u) : k_MetH l yL_refused cL_refused 5 (some .int) [((0 : Nat), (114 : Nat), (115 : Nat), (53 : Nat)), ((0 : Nat), (114 : Nat), (119 : Nat), (55 : Nat)), ((0 : Nat), (114 : Nat), (123 : Nat), (57 : Nat))] { frames := fr + 1, cells := mc, slots := ms, locals := 8 + (4 + 11) + lc } D cy lo R ad (k_c cy ad q ns nt I J) [.ref (ad 0), .int 4, .int a, .int b] (k_Qi D lo (fun r u => (xpost e_IO u ∧ r = 1) ∨ (xpost e_IA u ∧ r = 2) ∨ (xpost e_IS u ∧ r = 3))) := by
  refine k_metH (by decide +kernel) (Nat.le_of_ble_eq_true rfl) ?_
  intro p e s m args below meth c Q F hr hlk ht hQ
  refine x_iload_n F dL_refused_0 rfl 1 rfl ?_
  refine x_if_ne F 14 dL_refused_1 (by decide) (fun h1 => ?_) (fun h1 => ?_)
  · refine x_iload_n F dL_refused_14 rfl 1 rfl ?_
    refine x_iconst F (v := 1) dL_refused_15 (by decide) ?_
    refine x_icmp_ne F 28 dL_refused_16 (by decide) (fun h16 => ?_) (fun h16 => ?_)
    · refine x_iload_n F dL_refused_28 rfl 1 rfl ?_
      refine x_iconst F (v := 2) dL_refused_29 (by decide) ?_
      refine x_icmp_ne F 42 dL_refused_30 (by decide) (fun h30 => ?_) (fun h30 => ?_)
      · refine x_iload_n F dL_refused_42 rfl 1 rfl ?_
        refine x_iconst F (v := 3) dL_refused_43 (by decide) ?_
        refine x_icmp_ne F 57 dL_refused_44 (by decide) (fun h44 => ?_) (fun h44 => ?_)
        · refine x_iload_n F dL_refused_57 rfl 1 rfl ?_
          refine x_iconst F (v := 4) dL_refused_58 (by decide) ?_
          refine x_icmp_ne F 72 dL_refused_59 (by decide) (fun h59 => ?_) (fun h59 => ?_)
          · exact False.elim (by revert h59; decide)
          · refine x_aload_n F dL_refused_62 rfl 0 rfl ?_
            refine x_iload_n F dL_refused_63 rfl 2 rfl ?_
            refine x_iload_n F dL_refused_64 rfl 3 rfl ?_
            refine x_callVix F (r0 := 0) [.int a, .int b] hM mc_X4_carryOver mv_X4_carryOver lk_L_41 (hR 0 (by decide)) sc_0 rfl rfl rfl dL_refused_65 ⟨Nat.le_refl _, Nat.le_refl _⟩ ⟨Nat.le_of_eq (Nat.zero_add _), Nat.le_of_eq (Nat.zero_add _)⟩ (Nat.le_of_ble_eq_true rfl) (fun E u hx => ?_) (fun v u hp => absurd hp (hno v u))
            rcases hE9 E u hx with hE | hE | hE
            · subst hE
              refine x_catch F [] ⟨0, 114, 115, 53⟩ [⟨0, 114, 119, 55⟩, ⟨0, 114, 123, 57⟩] (by rw [ht]; rfl) (fun z hz => absurd hz List.not_mem_nil) (by decide) (by decide) (List.mem_of_getElem? (i := 475) (by decide +kernel)) (List.mem_of_getElem? (i := 112) (by decide +kernel)) (fun q9 => ?_)
              refine x_astore F [(4, .ref q9), (0, .ref (ad 0)), (1, .int 4), (2, .int a), (3, .int b)] dL_refused_115 (by decide) rfl ?_
              refine x_iconst F (v := 1) dL_refused_117 (by decide) ?_
              rw [hQ]
              refine x_widen (k := mc) (n := ms) (Nat.le_of_eq (Nat.zero_add _)) (Nat.le_of_eq (Nat.zero_add _)) ?_
              exact x_iret F hr hlk (by exact Or.inl ⟨hx, rfl⟩) dL_refused_118
            · subst hE
              refine x_catch F [⟨0, 114, 115, 53⟩] ⟨0, 114, 119, 55⟩ [⟨0, 114, 123, 57⟩] (by rw [ht]; rfl) (fun z hz => by simp only [List.mem_cons, List.not_mem_nil, or_false] at hz; rcases hz with rfl <;> first | exact ⟨by decide, e_IO, (List.mem_of_getElem? (i := 475) (by decide +kernel)), by decide +kernel⟩) (by decide) (by decide) (List.mem_of_getElem? (i := 476) (by decide +kernel)) (List.mem_of_getElem? (i := 183) (by decide +kernel)) (fun q9 => ?_)
              refine x_astore F [(4, .ref q9), (0, .ref (ad 0)), (1, .int 4), (2, .int a), (3, .int b)] dL_refused_119 (by decide) rfl ?_
              refine x_iconst F (v := 2) dL_refused_121 (by decide) ?_
              rw [hQ]
              refine x_widen (k := mc) (n := ms) (Nat.le_of_eq (Nat.zero_add _)) (Nat.le_of_eq (Nat.zero_add _)) ?_
              exact x_iret F hr hlk (by exact Or.inr (Or.inl ⟨hx, rfl⟩)) dL_refused_122
            · subst hE
              refine x_catch F [⟨0, 114, 115, 53⟩, ⟨0, 114, 119, 55⟩] ⟨0, 114, 123, 57⟩ [] (by rw [ht]; rfl) (fun z hz => by simp only [List.mem_cons, List.not_mem_nil, or_false] at hz; rcases hz with rfl | rfl <;> first | exact ⟨by decide, e_IO, (List.mem_of_getElem? (i := 475) (by decide +kernel)), by decide +kernel⟩ | exact ⟨by decide, e_IA, (List.mem_of_getElem? (i := 476) (by decide +kernel)), by decide +kernel⟩) (by decide) (by decide) (List.mem_of_getElem? (i := 477) (by decide +kernel)) (List.mem_of_getElem? (i := 220) (by decide +kernel)) (fun q9 => ?_)
              refine x_astore F [(4, .ref q9), (0, .ref (ad 0)), (1, .int 4), (2, .int a), (3, .int b)] dL_refused_123 (by decide) rfl ?_
              refine x_iconst F (v := 3) dL_refused_125 (by decide) ?_
              rw [hQ]
              refine x_widen (k := mc) (n := ms) (Nat.le_of_eq (Nat.zero_add _)) (Nat.le_of_eq (Nat.zero_add _)) ?_
              exact x_iret F hr hlk (by exact Or.inr (Or.inr ⟨hx, rfl⟩)) dL_refused_126
        · exact False.elim (by revert h44; decide)
      · exact False.elim (by revert h30; decide)
    · exact False.elim (by revert h16; decide)
  · exact False.elim (by revert h1; decide)
set_option maxHeartbeats 4000000 in
set_option maxRecDepth 100000 in
/-- refused, kind 5 -/
theorem c_rf_5 (l : Launch) (D : va_G) (cy : Nat → ClassId) (lo : Nat) (R : List Nat) (ad : Nat → Nat) (q : Nat → Nat → Nat) (ns nt : Nat) (I : Nat → Nat → Int32) (J : Nat → Nat → Int64) (hR : ∀ r, r < 19 → r ∈ R) (a b : Int32) (fr lc mc ms : Nat) (post : Int32 → k_S → Prop) (xpost : String → k_S → Prop) (hM : k_MetX l yX4_way cX4_way 4 (some .int) { frames := fr, cells := mc, slots := ms, locals := lc } D cy lo R ad (k_c cy ad q ns nt I J) (.ref (ad 0) :: [.int a, .int b]) (k_Qi D lo post) xpost) (hE9 : ∀ E u, xpost E u → E = e_IO ∨ E = e_IA ∨ E = e_IS) (hno : ∀ v u, ¬ post v u) : k_MetH l yL_refused cL_refused 5 (some .int) [((0 : Nat), (114 : Nat), (115 : Nat), (53 : Nat)), ((0 : Nat), (114 : Nat), (119 : Nat), (55 : Nat)), ((0 : Nat), (114 : Nat), (123 : Nat), (57 : Nat))] { frames := fr + 1, cells := mc, slots := ms, locals := 8 + (4 + 11) + lc } D cy lo R ad (k_c cy ad q ns nt I J) [.ref (ad 0), .int 5, .int a, .int b] (k_Qi D lo (fun r u => (xpost e_IO u ∧ r = 1) ∨ (xpost e_IA u ∧ r = 2) ∨ (xpost e_IS u ∧ r = 3))) := by
  refine k_metH (by decide +kernel) (Nat.le_of_ble_eq_true rfl) ?_
  intro p e s m args below meth c Q F hr hlk ht hQ
  refine x_iload_n F dL_refused_0 rfl 1 rfl ?_
  refine x_if_ne F 14 dL_refused_1 (by decide) (fun h1 => ?_) (fun h1 => ?_)
  · refine x_iload_n F dL_refused_14 rfl 1 rfl ?_
    refine x_iconst F (v := 1) dL_refused_15 (by decide) ?_
    refine x_icmp_ne F 28 dL_refused_16 (by decide) (fun h16 => ?_) (fun h16 => ?_)
    · refine x_iload_n F dL_refused_28 rfl 1 rfl ?_
      refine x_iconst F (v := 2) dL_refused_29 (by decide) ?_
      refine x_icmp_ne F 42 dL_refused_30 (by decide) (fun h30 => ?_) (fun h30 => ?_)
      · refine x_iload_n F dL_refused_42 rfl 1 rfl ?_
        refine x_iconst F (v := 3) dL_refused_43 (by decide) ?_
        refine x_icmp_ne F 57 dL_refused_44 (by decide) (fun h44 => ?_) (fun h44 => ?_)
        · refine x_iload_n F dL_refused_57 rfl 1 rfl ?_
          refine x_iconst F (v := 4) dL_refused_58 (by decide) ?_
          refine x_icmp_ne F 72 dL_refused_59 (by decide) (fun h59 => ?_) (fun h59 => ?_)
          · refine x_iload_n F dL_refused_72 rfl 1 rfl ?_
            refine x_iconst F (v := 5) dL_refused_73 (by decide) ?_
            refine x_icmp_ne F 87 dL_refused_74 (by decide) (fun h74 => ?_) (fun h74 => ?_)
            · exact False.elim (by revert h74; decide)
            · refine x_aload_n F dL_refused_77 rfl 0 rfl ?_
              refine x_iload_n F dL_refused_78 rfl 2 rfl ?_
              refine x_iload_n F dL_refused_79 rfl 3 rfl ?_
              refine x_callVix F (r0 := 0) [.int a, .int b] hM mc_X4_way mv_X4_way lk_L_44 (hR 0 (by decide)) sc_0 rfl rfl rfl dL_refused_80 ⟨Nat.le_refl _, Nat.le_refl _⟩ ⟨Nat.le_of_eq (Nat.zero_add _), Nat.le_of_eq (Nat.zero_add _)⟩ (Nat.le_of_ble_eq_true rfl) (fun E u hx => ?_) (fun v u hp => absurd hp (hno v u))
              rcases hE9 E u hx with hE | hE | hE
              · subst hE
                refine x_catch F [] ⟨0, 114, 115, 53⟩ [⟨0, 114, 119, 55⟩, ⟨0, 114, 123, 57⟩] (by rw [ht]; rfl) (fun z hz => absurd hz List.not_mem_nil) (by decide) (by decide) (List.mem_of_getElem? (i := 475) (by decide +kernel)) (List.mem_of_getElem? (i := 112) (by decide +kernel)) (fun q9 => ?_)
                refine x_astore F [(4, .ref q9), (0, .ref (ad 0)), (1, .int 5), (2, .int a), (3, .int b)] dL_refused_115 (by decide) rfl ?_
                refine x_iconst F (v := 1) dL_refused_117 (by decide) ?_
                rw [hQ]
                refine x_widen (k := mc) (n := ms) (Nat.le_of_eq (Nat.zero_add _)) (Nat.le_of_eq (Nat.zero_add _)) ?_
                exact x_iret F hr hlk (by exact Or.inl ⟨hx, rfl⟩) dL_refused_118
              · subst hE
                refine x_catch F [⟨0, 114, 115, 53⟩] ⟨0, 114, 119, 55⟩ [⟨0, 114, 123, 57⟩] (by rw [ht]; rfl) (fun z hz => by simp only [List.mem_cons, List.not_mem_nil, or_false] at hz; rcases hz with rfl <;> first | exact ⟨by decide, e_IO, (List.mem_of_getElem? (i := 475) (by decide +kernel)), by decide +kernel⟩) (by decide) (by decide) (List.mem_of_getElem? (i := 476) (by decide +kernel)) (List.mem_of_getElem? (i := 183) (by decide +kernel)) (fun q9 => ?_)
                refine x_astore F [(4, .ref q9), (0, .ref (ad 0)), (1, .int 5), (2, .int a), (3, .int b)] dL_refused_119 (by decide) rfl ?_
                refine x_iconst F (v := 2) dL_refused_121 (by decide) ?_
                rw [hQ]
                refine x_widen (k := mc) (n := ms) (Nat.le_of_eq (Nat.zero_add _)) (Nat.le_of_eq (Nat.zero_add _)) ?_
                exact x_iret F hr hlk (by exact Or.inr (Or.inl ⟨hx, rfl⟩)) dL_refused_122
              · subst hE
                refine x_catch F [⟨0, 114, 115, 53⟩, ⟨0, 114, 119, 55⟩] ⟨0, 114, 123, 57⟩ [] (by rw [ht]; rfl) (fun z hz => by simp only [List.mem_cons, List.not_mem_nil, or_false] at hz; rcases hz with rfl | rfl <;> first | exact ⟨by decide, e_IO, (List.mem_of_getElem? (i := 475) (by decide +kernel)), by decide +kernel⟩ | exact ⟨by decide, e_IA, (List.mem_of_getElem? (i := 476) (by decide +kernel)), by decide +kernel⟩) (by decide) (by decide) (List.mem_of_getElem? (i := 477) (by decide +kernel)) (List.mem_of_getElem? (i := 220) (by decide +kernel)) (fun q9 => ?_)
                refine x_astore F [(4, .ref q9), (0, .ref (ad 0)), (1, .int 5), (2, .int a), (3, .int b)] dL_refused_123 (by decide) rfl ?_
                refine x_iconst F (v := 3) dL_refused_125 (by decide) ?_
                rw [hQ]
                refine x_widen (k := mc) (n := ms) (Nat.le_of_eq (Nat.zero_add _)) (Nat.le_of_eq (Nat.zero_add _)) ?_
                exact x_iret F hr hlk (by exact Or.inr (Or.inr ⟨hx, rfl⟩)) dL_refused_126
          · exact False.elim (by revert h59; decide)
        · exact False.elim (by revert h44; decide)
      · exact False.elim (by revert h30; decide)
    · exact False.elim (by revert h16; decide)
  · exact False.elim (by revert h1; decide)
set_option maxHeartbeats 4000000 in
set_option maxRecDepth 100000 in
/-- refused, kind 6 -/
theorem c_rf_6 (l : Launch) (D : va_G) (cy : Nat → ClassId) (lo : Nat) (R : List Nat) (ad : Nat → Nat) (q : Nat → Nat → Nat) (ns nt : Nat) (I : Nat → Nat → Int32) (J : Nat → Nat → Int64) (hR : ∀ r, r < 19 → r ∈ R) (a b : Int32) (fr lc mc ms : Nat) (post : Int32 → k_S → Prop) (xpost : String → k_S → Prop) (hM : k_MetX l yX4_best cX4_best 5 (some .int) { frames := fr, cells := mc, slots := ms, locals := lc } D cy lo R ad (k_c cy ad q ns nt I J) (.ref (ad 0) :: [.int a, .int b, .int 0]) (k_Qi D lo post) xpost) (hE9 : ∀ E u, xpost E u → E = e_IO ∨ E = e_IA ∨ E = e_IS) (hno : ∀ v u, ¬ post v u) : k_MetH l yL_refused cL_refused 5 (some .int) [((0 : Nat), (114 : Nat), (115 : Nat), (53 : Nat)), ((0 : Nat), (114 : Nat), (119 : Nat), (55 : Nat)), ((0 : Nat), (114 : Nat), (123 : Nat), (57 : Nat))] { frames := fr + 1, cells := mc, slots := ms, locals := 8 + (5 + 11) + lc } D cy lo R ad (k_c cy ad q ns nt I J) [.ref (ad 0), .int 6, .int a, .int b] (k_Qi D lo (fun r u => (xpost e_IO u ∧ r = 1) ∨ (xpost e_IA u ∧ r = 2) ∨ (xpost e_IS u ∧ r = 3))) := by
  refine k_metH (by decide +kernel) (Nat.le_of_ble_eq_true rfl) ?_
  intro p e s m args below meth c Q F hr hlk ht hQ
  refine x_iload_n F dL_refused_0 rfl 1 rfl ?_
  refine x_if_ne F 14 dL_refused_1 (by decide) (fun h1 => ?_) (fun h1 => ?_)
  · refine x_iload_n F dL_refused_14 rfl 1 rfl ?_
    refine x_iconst F (v := 1) dL_refused_15 (by decide) ?_
    refine x_icmp_ne F 28 dL_refused_16 (by decide) (fun h16 => ?_) (fun h16 => ?_)
    · refine x_iload_n F dL_refused_28 rfl 1 rfl ?_
      refine x_iconst F (v := 2) dL_refused_29 (by decide) ?_
      refine x_icmp_ne F 42 dL_refused_30 (by decide) (fun h30 => ?_) (fun h30 => ?_)
      · refine x_iload_n F dL_refused_42 rfl 1 rfl ?_
        refine x_iconst F (v := 3) dL_refused_43 (by decide) ?_
        refine x_icmp_ne F 57 dL_refused_44 (by decide) (fun h44 => ?_) (fun h44 => ?_)
        · refine x_iload_n F dL_refused_57 rfl 1 rfl ?_
          refine x_iconst F (v := 4) dL_refused_58 (by decide) ?_
          refine x_icmp_ne F 72 dL_refused_59 (by decide) (fun h59 => ?_) (fun h59 => ?_)
          · refine x_iload_n F dL_refused_72 rfl 1 rfl ?_
            refine x_iconst F (v := 5) dL_refused_73 (by decide) ?_
            refine x_icmp_ne F 87 dL_refused_74 (by decide) (fun h74 => ?_) (fun h74 => ?_)
            · refine x_iload_n F dL_refused_87 rfl 1 rfl ?_
              refine x_bipush F (v := 6) dL_refused_88 (by decide) ?_
              refine x_icmp_ne F 104 dL_refused_90 (by decide) (fun h90 => ?_) (fun h90 => ?_)
              · exact False.elim (by revert h90; decide)
              · refine x_aload_n F dL_refused_93 rfl 0 rfl ?_
                refine x_iload_n F dL_refused_94 rfl 2 rfl ?_
                refine x_iload_n F dL_refused_95 rfl 3 rfl ?_
                refine x_iconst F (v := 0) dL_refused_96 (by decide) ?_
                refine x_callVix F (r0 := 0) [.int a, .int b, .int 0] hM mc_X4_best mv_X4_best lk_L_47 (hR 0 (by decide)) sc_0 rfl rfl rfl dL_refused_97 ⟨Nat.le_refl _, Nat.le_refl _⟩ ⟨Nat.le_of_eq (Nat.zero_add _), Nat.le_of_eq (Nat.zero_add _)⟩ (Nat.le_of_ble_eq_true rfl) (fun E u hx => ?_) (fun v u hp => absurd hp (hno v u))
                rcases hE9 E u hx with hE | hE | hE
                · subst hE
                  refine x_catch F [] ⟨0, 114, 115, 53⟩ [⟨0, 114, 119, 55⟩, ⟨0, 114, 123, 57⟩] (by rw [ht]; rfl) (fun z hz => absurd hz List.not_mem_nil) (by decide) (by decide) (List.mem_of_getElem? (i := 475) (by decide +kernel)) (List.mem_of_getElem? (i := 112) (by decide +kernel)) (fun q9 => ?_)
                  refine x_astore F [(4, .ref q9), (0, .ref (ad 0)), (1, .int 6), (2, .int a), (3, .int b)] dL_refused_115 (by decide) rfl ?_
                  refine x_iconst F (v := 1) dL_refused_117 (by decide) ?_
                  rw [hQ]
                  refine x_widen (k := mc) (n := ms) (Nat.le_of_eq (Nat.zero_add _)) (Nat.le_of_eq (Nat.zero_add _)) ?_
                  exact x_iret F hr hlk (by exact Or.inl ⟨hx, rfl⟩) dL_refused_118
                · subst hE
                  refine x_catch F [⟨0, 114, 115, 53⟩] ⟨0, 114, 119, 55⟩ [⟨0, 114, 123, 57⟩] (by rw [ht]; rfl) (fun z hz => by simp only [List.mem_cons, List.not_mem_nil, or_false] at hz; rcases hz with rfl <;> first | exact ⟨by decide, e_IO, (List.mem_of_getElem? (i := 475) (by decide +kernel)), by decide +kernel⟩) (by decide) (by decide) (List.mem_of_getElem? (i := 476) (by decide +kernel)) (List.mem_of_getElem? (i := 183) (by decide +kernel)) (fun q9 => ?_)
                  refine x_astore F [(4, .ref q9), (0, .ref (ad 0)), (1, .int 6), (2, .int a), (3, .int b)] dL_refused_119 (by decide) rfl ?_
                  refine x_iconst F (v := 2) dL_refused_121 (by decide) ?_
                  rw [hQ]
                  refine x_widen (k := mc) (n := ms) (Nat.le_of_eq (Nat.zero_add _)) (Nat.le_of_eq (Nat.zero_add _)) ?_
                  exact x_iret F hr hlk (by exact Or.inr (Or.inl ⟨hx, rfl⟩)) dL_refused_122
                · subst hE
                  refine x_catch F [⟨0, 114, 115, 53⟩, ⟨0, 114, 119, 55⟩] ⟨0, 114, 123, 57⟩ [] (by rw [ht]; rfl) (fun z hz => by simp only [List.mem_cons, List.not_mem_nil, or_false] at hz; rcases hz with rfl | rfl <;> first | exact ⟨by decide, e_IO, (List.mem_of_getElem? (i := 475) (by decide +kernel)), by decide +kernel⟩ | exact ⟨by decide, e_IA, (List.mem_of_getElem? (i := 476) (by decide +kernel)), by decide +kernel⟩) (by decide) (by decide) (List.mem_of_getElem? (i := 477) (by decide +kernel)) (List.mem_of_getElem? (i := 220) (by decide +kernel)) (fun q9 => ?_)
                  refine x_astore F [(4, .ref q9), (0, .ref (ad 0)), (1, .int 6), (2, .int a), (3, .int b)] dL_refused_123 (by decide) rfl ?_
                  refine x_iconst F (v := 3) dL_refused_125 (by decide) ?_
                  rw [hQ]
                  refine x_widen (k := mc) (n := ms) (Nat.le_of_eq (Nat.zero_add _)) (Nat.le_of_eq (Nat.zero_add _)) ?_
                  exact x_iret F hr hlk (by exact Or.inr (Or.inr ⟨hx, rfl⟩)) dL_refused_126
            · exact False.elim (by revert h74; decide)
          · exact False.elim (by revert h59; decide)
        · exact False.elim (by revert h44; decide)
      · exact False.elim (by revert h30; decide)
    · exact False.elim (by revert h16; decide)
  · exact False.elim (by revert h1; decide)
set_option maxHeartbeats 4000000 in
set_option maxRecDepth 100000 in
/-- refused, kind 7 -/
theorem c_rf_7 (l : Launch) (D : va_G) (cy : Nat → ClassId) (lo : Nat) (R : List Nat) (ad : Nat → Nat) (q : Nat → Nat → Nat) (ns nt : Nat) (I : Nat → Nat → Int32) (J : Nat → Nat → Int64) (hR : ∀ r, r < 19 → r ∈ R) (a b : Int32) (fr lc mc ms : Nat) (post : Int32 → k_S → Prop) (xpost : String → k_S → Prop) (hM : k_MetX l yX4_home cX4_home 4 (some .int) { frames := fr, cells := mc, slots := ms, locals := lc } D cy lo R ad (k_c cy ad q ns nt I J) (.ref (ad 0) :: [.int a, .int b]) (k_Qi D lo post) xpost) (hE9 : ∀ E u, xpost E u → E = e_IO ∨ E = e_IA ∨ E = e_IS) (hno : ∀ v u, ¬ post v u) : k_MetH l yL_refused cL_refused 5 (some .int) [((0 : Nat), (114 : Nat), (115 : Nat), (53 : Nat)), ((0 : Nat), (114 : Nat), (119 : Nat), (55 : Nat)), ((0 : Nat), (114 : Nat), (123 : Nat), (57 : Nat))] { frames := fr + 1, cells := mc, slots := ms, locals := 8 + (4 + 11) + lc } D cy lo R ad (k_c cy ad q ns nt I J) [.ref (ad 0), .int 7, .int a, .int b] (k_Qi D lo (fun r u => (xpost e_IO u ∧ r = 1) ∨ (xpost e_IA u ∧ r = 2) ∨ (xpost e_IS u ∧ r = 3))) := by
  refine k_metH (by decide +kernel) (Nat.le_of_ble_eq_true rfl) ?_
  intro p e s m args below meth c Q F hr hlk ht hQ
  refine x_iload_n F dL_refused_0 rfl 1 rfl ?_
  refine x_if_ne F 14 dL_refused_1 (by decide) (fun h1 => ?_) (fun h1 => ?_)
  · refine x_iload_n F dL_refused_14 rfl 1 rfl ?_
    refine x_iconst F (v := 1) dL_refused_15 (by decide) ?_
    refine x_icmp_ne F 28 dL_refused_16 (by decide) (fun h16 => ?_) (fun h16 => ?_)
    · refine x_iload_n F dL_refused_28 rfl 1 rfl ?_
      refine x_iconst F (v := 2) dL_refused_29 (by decide) ?_
      refine x_icmp_ne F 42 dL_refused_30 (by decide) (fun h30 => ?_) (fun h30 => ?_)
      · refine x_iload_n F dL_refused_42 rfl 1 rfl ?_
        refine x_iconst F (v := 3) dL_refused_43 (by decide) ?_
        refine x_icmp_ne F 57 dL_refused_44 (by decide) (fun h44 => ?_) (fun h44 => ?_)
        · refine x_iload_n F dL_refused_57 rfl 1 rfl ?_
          refine x_iconst F (v := 4) dL_refused_58 (by decide) ?_
          refine x_icmp_ne F 72 dL_refused_59 (by decide) (fun h59 => ?_) (fun h59 => ?_)
          · refine x_iload_n F dL_refused_72 rfl 1 rfl ?_
            refine x_iconst F (v := 5) dL_refused_73 (by decide) ?_
            refine x_icmp_ne F 87 dL_refused_74 (by decide) (fun h74 => ?_) (fun h74 => ?_)
            · refine x_iload_n F dL_refused_87 rfl 1 rfl ?_
              refine x_bipush F (v := 6) dL_refused_88 (by decide) ?_
              refine x_icmp_ne F 104 dL_refused_90 (by decide) (fun h90 => ?_) (fun h90 => ?_)
              · refine x_aload_n F dL_refused_104 rfl 0 rfl ?_
                refine x_iload_n F dL_refused_105 rfl 2 rfl ?_
                refine x_iload_n F dL_refused_106 rfl 3 rfl ?_
                refine x_callVix F (r0 := 0) [.int a, .int b] hM mc_X4_home mv_X4_home lk_L_50 (hR 0 (by decide)) sc_0 rfl rfl rfl dL_refused_107 ⟨Nat.le_refl _, Nat.le_refl _⟩ ⟨Nat.le_of_eq (Nat.zero_add _), Nat.le_of_eq (Nat.zero_add _)⟩ (Nat.le_of_ble_eq_true rfl) (fun E u hx => ?_) (fun v u hp => absurd hp (hno v u))
                rcases hE9 E u hx with hE | hE | hE
                · subst hE
                  refine x_catch F [] ⟨0, 114, 115, 53⟩ [⟨0, 114, 119, 55⟩, ⟨0, 114, 123, 57⟩] (by rw [ht]; rfl) (fun z hz => absurd hz List.not_mem_nil) (by decide) (by decide) (List.mem_of_getElem? (i := 475) (by decide +kernel)) (List.mem_of_getElem? (i := 112) (by decide +kernel)) (fun q9 => ?_)
                  refine x_astore F [(4, .ref q9), (0, .ref (ad 0)), (1, .int 7), (2, .int a), (3, .int b)] dL_refused_115 (by decide) rfl ?_
                  refine x_iconst F (v := 1) dL_refused_117 (by decide) ?_
                  rw [hQ]
                  refine x_widen (k := mc) (n := ms) (Nat.le_of_eq (Nat.zero_add _)) (Nat.le_of_eq (Nat.zero_add _)) ?_
                  exact x_iret F hr hlk (by exact Or.inl ⟨hx, rfl⟩) dL_refused_118
                · subst hE
                  refine x_catch F [⟨0, 114, 115, 53⟩] ⟨0, 114, 119, 55⟩ [⟨0, 114, 123, 57⟩] (by rw [ht]; rfl) (fun z hz => by simp only [List.mem_cons, List.not_mem_nil, or_false] at hz; rcases hz with rfl <;> first | exact ⟨by decide, e_IO, (List.mem_of_getElem? (i := 475) (by decide +kernel)), by decide +kernel⟩) (by decide) (by decide) (List.mem_of_getElem? (i := 476) (by decide +kernel)) (List.mem_of_getElem? (i := 183) (by decide +kernel)) (fun q9 => ?_)
                  refine x_astore F [(4, .ref q9), (0, .ref (ad 0)), (1, .int 7), (2, .int a), (3, .int b)] dL_refused_119 (by decide) rfl ?_
                  refine x_iconst F (v := 2) dL_refused_121 (by decide) ?_
                  rw [hQ]
                  refine x_widen (k := mc) (n := ms) (Nat.le_of_eq (Nat.zero_add _)) (Nat.le_of_eq (Nat.zero_add _)) ?_
                  exact x_iret F hr hlk (by exact Or.inr (Or.inl ⟨hx, rfl⟩)) dL_refused_122
                · subst hE
                  refine x_catch F [⟨0, 114, 115, 53⟩, ⟨0, 114, 119, 55⟩] ⟨0, 114, 123, 57⟩ [] (by rw [ht]; rfl) (fun z hz => by simp only [List.mem_cons, List.not_mem_nil, or_false] at hz; rcases hz with rfl | rfl <;> first | exact ⟨by decide, e_IO, (List.mem_of_getElem? (i := 475) (by decide +kernel)), by decide +kernel⟩ | exact ⟨by decide, e_IA, (List.mem_of_getElem? (i := 476) (by decide +kernel)), by decide +kernel⟩) (by decide) (by decide) (List.mem_of_getElem? (i := 477) (by decide +kernel)) (List.mem_of_getElem? (i := 220) (by decide +kernel)) (fun q9 => ?_)
                  refine x_astore F [(4, .ref q9), (0, .ref (ad 0)), (1, .int 7), (2, .int a), (3, .int b)] dL_refused_123 (by decide) rfl ?_
                  refine x_iconst F (v := 3) dL_refused_125 (by decide) ?_
                  rw [hQ]
                  refine x_widen (k := mc) (n := ms) (Nat.le_of_eq (Nat.zero_add _)) (Nat.le_of_eq (Nat.zero_add _)) ?_
                  exact x_iret F hr hlk (by exact Or.inr (Or.inr ⟨hx, rfl⟩)) dL_refused_126
              · exact False.elim (by revert h90; decide)
            · exact False.elim (by revert h74; decide)
          · exact False.elim (by revert h59; decide)
        · exact False.elim (by revert h44; decide)
      · exact False.elim (by revert h30; decide)
    · exact False.elim (by revert h16; decide)
  · exact False.elim (by revert h1; decide)
