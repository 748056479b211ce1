def k_nmx : List String := ["java/lang/RuntimeException", "java/lang/Exception"]
set_option maxRecDepth 100000 in
theorem k_at_IO : ∀ w ∈ vx_atS RX4 115 e_IO k_nmx, w ∈ lw_tbl ∧ (goodWord w = true ∨ k_nest w = true) ∧ vx_ot w = true := by decide +kernel
set_option maxRecDepth 100000 in
theorem k_at_IA : ∀ w ∈ vx_atS RX4 60 e_IA k_nmx, w ∈ lw_tbl ∧ (goodWord w = true ∨ k_nest w = true) ∧ vx_ot w = true := by decide +kernel
set_option maxRecDepth 100000 in
theorem k_at_IS : ∀ w ∈ vx_atS RX4 78 e_IS k_nmx, w ∈ lw_tbl ∧ (goodWord w = true ∨ k_nest w = true) ∧ vx_ot w = true := by decide +kernel
section KTHROW
variable {D : va_G} {cy : Nat → ClassId} {lo : Nat} {p : Program} {l : Launch} {e : Env} {Rm : Room} {s : State} {m : MethodId} {args : Array Value} {below : List Frame} {meth : Method} {c : Code} {cc : ByteArray} {nL cells slots : Nat} {Q : State → Prop} {own : String} {R : List Nat} {ad : Nat → Nat} {w : Nat → va_E} {pc : Nat} {lv : List (Nat × Value)} {st rest : List Value}
/-- new X(text), thrown out of the method: the world stays -/
theorem x_throw (F : k_F p m c cc nL s own D cy lo) (hfl : l.stackTraces = false) (ht : ∀ x ∈ c.exceptionTable.toList, False) (hlk : meth.locks = false) {cls text : String} {ik is ic mc ms : Nat} {Qc : Array Value → State → Outcome → State → Prop} {xpost : String → k_S → Prop}
    (hcls : Bundle.fit cls = true) (hk : Cond.classLink own ik cls ∈ lw_tbl) (hini : Cond.initialized cls ∈ lw_tbl) (hstr : Cond.stringRef own is text ∈ lw_tbl) (hat : ∀ w ∈ vx_atS own ic cls k_nmx, w ∈ lw_tbl ∧ (goodWord w = true ∨ k_nest w = true) ∧ vx_ot w = true)
    (d0 : decode cc pc = .ok (.new ik, 3)) (d3 : decode cc (pc + 3) = .ok (.dup, 1)) (d4 : decode cc (pc + 4) = .ok (.ldc is, 2)) (d6 : decode cc (pc + 6) = .ok (.invokespecial ic, 3)) (d9 : decode cc (pc + 9) = .ok (.athrow, 1))
    (hR : 5 < Rm.frames ∧ (st.map fun v => v.category).sum + 82 ≤ Rm.locals ∧ cells + 1 ≤ Rm.cells ∧ slots + 6 ≤ Rm.slots) (hx : xpost cls (R, ad, w)) (hc : cells + 1 ≤ mc) (hs : slots + 6 ≤ ms) :
    XW D lo p l e Rm s m args below meth c nL cells slots (vx_MQ below Qc (k_XC D lo xpost) args s mc ms (lA lo)) R ad w pc lv st := by
  intro H locs ls hP hD hS hl
  obtain ⟨sa, hsa⟩ := F.2.2.2.2.2.2.1 own is text hstr
  refine vx_throwS (A := lA lo) (names := k_nmx) F.1 F.2.1 hfl F.2.2.2.1 hcls (by decide +kernel) (F.2.2.2.2.wm hk rfl args) (F.2.2.2.2.wm hini rfl args) hsa (fun w hw => F.2.2.2.2.any (hat w hw).1 (hat w hw).2.1 args) (fun w hw => ?_) F.2.2.2.2.2.2.2.2.1.1 F.2.2.2.2.2.2.2.2.1.2 hS (by rw [hl.1, F.2.2.1]) d0 d3 d4 d6 d9 (fun x hx => (ht x hx).elim) hR.1 hR.2.1 hR.2.2.1 hR.2.2.2 hlk (fun t hvm hz hq => ⟨(R, ad, w), trivial, ⟨hx, ?_, hD⟩, ?_⟩) hS.2.2 hc hs
  · rcases List.mem_cons.mp hw with rfl | hw
    · rfl
    · rcases List.mem_cons.mp hw with rfl | hw
      · rfl
      · exact (hat w hw).2.2
  · exact fun k q hk => (hP k q hk).kept (hq q.1 (hP k q hk).lt)
  · exact ⟨Nat.le_trans hS.1 hz, fun q h1 h2 => by rw [hq q (Nat.lt_of_lt_of_le h1 hS.1)]; exact hS.2.1 q h1 h2⟩
/-- a handler takes it -/
theorem x_catch (F : k_F p m c cc nL s own D cy lo) {E : String} (pre : List ExceptionTableEntry) (x : ExceptionTableEntry) (suf : List ExceptionTableEntry) (hsplit : c.exceptionTable.toList = pre ++ x :: suf)
    (hpass : ∀ z ∈ pre, z.catchType ≠ 0 ∧ ∃ nm : String, Cond.classLink own z.catchType nm ∈ lw_tbl ∧ (E, nm) ∈ k_ncs) (hx : covers x pc = true) (h0 : x.catchType ≠ 0) (hlink : Cond.classLink own x.catchType E ∈ lw_tbl) (hcast : Cond.castable E E ∈ lw_tbl)
    (kk : ∀ q : Nat, XW D lo p l e Rm s m args below meth c nL cells slots Q R ad w x.handlerPc lv [.ref q]) : XT D lo p l e Rm s m args below meth c nL cells slots Q R ad w pc lv st E :=
  fun H locs ls ce q hP hD hS hl g1 g2 g3 => vx_catch F.2.2.2.1 pre x suf hsplit (fun z hz => by
    obtain ⟨z1, nm, z2, z3⟩ := hpass z hz
    exact Or.inr ⟨z1, nm, F.2.2.2.2.wm z2 rfl args, F.2.2.2.2.2.2.2.2.2.1 _ z3⟩) hx h0 (F.2.2.2.2.wm hlink rfl args) (F.2.2.2.2.any hcast (Or.inr rfl) args) g1 g2 g3 (kk q H locs ls hP hD hS hl)
end KTHROW
