/-! The law's own methods: they have handlers. -/
abbrev k_MetH (l : Launch) (y : MethodName) (cc : ByteArray) (maxL : Nat) (ret : Option FieldType) (hh : List (Nat × Nat × Nat × Nat)) (rm : Room) (D : va_G) (cy : Nat → ClassId) (lo : Nat) (R : List Nat) (ad : Nat → Nat) (w : Nat → va_E) (av : List Value) (Qc : Array Value → State → Outcome → State → Prop) : Prop :=
  Met l y [.codeWith y cc maxL ret hh] rm (va_Pc av (k_Pr D cy lo R ad w)) Qc rm.cells rm.slots (lA lo)
theorem k_metH {l : Launch} {y : MethodName} {cc : ByteArray} {maxL : Nat} {ret : Option FieldType} {hh : List (Nat × Nat × Nat × Nat)} {rm : Room} {D : va_G} {cy : Nat → ClassId} {lo : Nat} {R : List Nat} {ad : Nat → Nat} {w : Nat → va_E} {av : List Value} {Qc : Array Value → State → Outcome → State → Prop}
    (hy : plainName y.cls = true) (hav : (lg_sl av).length ≤ maxL)
    (body : ∀ p e s m args below meth c Q, k_F p m c cc maxL s y.cls D cy lo → meth.sig.returnType = ret → meth.locks = false → c.exceptionTable.toList = tableOf hh → Q = MQ below Qc args s rm.cells rm.slots (lA lo) → XW D lo p l e rm s m args below meth c maxL 0 0 Q R ad w 0 (lv_args 0 av) []) :
    k_MetH l y cc maxL ret hh rm D cy lo R ad w av Qc := by
  refine va_MetW (cc := cc) (maxL := maxL) (ret := ret) (hh := hh) hy rfl ?_
  intro p e s m args below meth c s₁ B hml hv
  have ht := vx_table (x := y) B (atoms_spec (ws := [.codeWith y cc maxL ret hh]) B.pre _ List.mem_cons_self)
  obtain ⟨rfl, hE, hP, hD⟩ := hv
  have hl := lv_entry av (n := maxL) hav
  rw [lg_entry_eq]
  exact body p e s m _ below meth c _ ⟨B.exec, B.bytes, hml, findClass_of_methodNamed B.named, hE⟩ B.returns B.notSynchronized ht rfl _ _ _ hP hD va_S.rf hl
def k_Mh (y : MethodName) (b : ByteArray) (mL : Nat) (ret : Option FieldType) (hh : List (Nat × Nat × Nat × Nat)) (n : Nat) : Prop :=
  Cond.codeWith y b mL ret hh ∈ lw_tbl ∧ Cond.initialized y.cls ∈ lw_tbl ∧ y.cls ≠ "java/lang/invoke/MethodHandle" ∧ y.cls ≠ "java/lang/invoke/VarHandle" ∧ (parseMethodDescriptor y.desc).map (fun d => d.parameters.length) = some n
section KLAW
variable {D : va_G} {cy : Nat → ClassId} {lo : Nat} {p : Program} {l : Launch} {e : Env} {Rm : Room} {s : State} {m : MethodId} {args : Array Value} {below : List Frame} {meth : Method} {c : Code} {cc : ByteArray} {nL cells slots : Nat} {Q : State → Prop} {own : String} {R : List Nat} {ad : Nat → Nat} {w : Nat → va_E} {pc : Nat} {lv : List (Nat × Value)} {st rest : List Value}
/-- a static call of a method with handlers -/
theorem x_callHi (F : k_F p m c cc nL s own D cy lo) {index mL n : Nat} {y : MethodName} {b : ByteArray} {ret : Option FieldType} {hh : List (Nat × Nat × Nat × Nat)} {rm : Room} {post : Int32 → k_S → Prop} (As : List Value) (hM : k_MetH l y b mL ret hh rm D cy lo R ad w As (k_Qi D lo post)) (hc : k_Mh y b mL ret hh n) (hv : k_Ms y) (hl : Cond.methodLink own index y ∈ lw_tbl) (hst : st = As.reverse ++ rest) (hn : As.length = n) (hdg : decode cc pc = .ok (.invokestatic index, 3)) (hR : rm.frames + 1 ≤ Rm.frames ∧ 8 + (mL + 11) + rm.locals ≤ Rm.locals) (hroom : cells + rm.cells ≤ Rm.cells ∧ slots + rm.slots ≤ Rm.slots) (hcat : (rest.map fun v => v.category).sum ≤ 8) (kk : ∀ (r : Int32) (u : k_S), post r u → XW D lo p l e Rm s m args below meth c nL (cells + rm.cells) (slots + rm.slots) Q u.1 u.2.1 u.2.2 (pc + 3) lv (.int r :: rest)) : XW D lo p l e Rm s m args below meth c nL cells slots Q R ad w pc lv st := by
  subst hst
  intro H locs ls hP hD hS hl0
  have hl1 := hl0
  have cw : vx_CSW Rm s args own index y b mL ret hh [.codeWith y b mL ret hh] rm rm.cells rm.slots n :=
    ⟨⟨rfl, rfl, hR.1, hR.2, fun w hw a' U hW => by rw [List.mem_singleton.mp hw]; exact word_at hW (good_of_word rfl) (F.2.2.2.2.wm hc.1 rfl args), List.mem_singleton.mpr rfl⟩, F.2.2.2.2.wm hc.1 rfl args, F.2.2.2.2.wm hc.2.1 rfl args, ⟨hc.2.2.1, hc.2.2.2.1⟩, fun sig h => by
      have h2 := hc.2.2.2.2
      rw [h] at h2
      exact (Option.some.inj h2).symm, F.2.2.2.2.wm hl rfl args, F.2.2.2.2.wm hv rfl args⟩
  exact va_calli (vx_runSW (As := As) (rest := rest) (k_fix F) hM cw ⟨k_Pr.blind _, k_pre F hP hD hS As⟩ rfl hn hl0.1 rfl (lv_room hcat) hdg hroom) hS (fun _ _ h => h) (fun _ h => h) (fun r u t H1 locs1 ht hvm hpost hB hz hk hS => kk r u hpost H1 locs1 ls (by rw [← ht]; exact hB.1) hB.2 hS hl1)
end KLAW
