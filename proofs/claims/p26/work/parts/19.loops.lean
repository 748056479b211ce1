/-- a contract, its end named Q -/
theorem k_metQ {l : Launch} {y : MethodName} {cc : ByteArray} {maxL : Nat} {ret : Option FieldType} {rm : Room} {D : va_G} {cy : Nat → ClassId} {lo : Nat} {R : List Nat} {ad : Nat → Nat} {w : Nat → va_E} {av : List Value} {Qc : Array Value → State → Outcome → State → Prop}
    (hy : plainName y.cls = true) (hav : (lg_sl av).length ≤ maxL)
    (body : ∀ p e s m args below meth c Q, k_F p m c cc maxL s y.cls D cy lo → meth.sig.returnType = ret → meth.locks = false → meth.name = y.name → Q = MQ below Qc args s rm.cells rm.slots (lA lo) → XW D lo p l e rm s m args below meth c maxL 0 0 Q R ad w 0 (lv_args 0 av) []) :
    k_Met l y cc maxL ret rm D cy lo R ad w av Qc :=
  k_met hy hav (fun p e s m below meth c F hr hlk hnm => body p e s m _ below meth c _ F hr hlk hnm rfl)
/-- .. of a method that may throw -/
theorem k_metXQ {l : Launch} {y : MethodName} {cc : ByteArray} {maxL : Nat} {ret : Option FieldType} {rm : Room} {D : va_G} {cy : Nat → ClassId} {lo : Nat} {R : List Nat} {ad : Nat → Nat} {w : Nat → va_E} {av : List Value} {Qc : Array Value → State → Outcome → State → Prop} {xpost : String → k_S → Prop}
    (hy : plainName y.cls = true) (hav : (lg_sl av).length ≤ maxL)
    (body : ∀ p e s m args below meth c Q, k_F p m c cc maxL s y.cls D cy lo → meth.sig.returnType = ret → meth.locks = false → (∀ x ∈ c.exceptionTable.toList, False) → Q = vx_MQ below Qc (k_XC D lo xpost) args s rm.cells rm.slots (lA lo) → XW D lo p l e rm s m args below meth c maxL 0 0 Q R ad w 0 (lv_args 0 av) []) :
    k_MetX l y cc maxL ret rm D cy lo R ad w av Qc xpost :=
  k_metX hy hav (fun p e s m below meth c F hr hlk ht => body p e s m _ below meth c _ F hr hlk ht rfl)
theorem lp_exit {k N : Nat} (hN : N < 2 ^ 31) (hk : k ≤ N) (h : nI N ≤ nI k) : k = N := by
  rcases Nat.lt_or_ge k N with z | z
  · exact absurd h (nI_ge z hN)
  · omega
theorem lp_go {k N : Nat} (hN : N < 2 ^ 31) (hk : k ≤ N) (h : ¬ nI N ≤ nI k) : k < N := by
  rcases Nat.lt_or_ge k N with z | z
  · exact z
  · exact absurd (nI_le z (by omega)) h
