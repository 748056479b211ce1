section KMORE
variable {D : va_G} {cy : Nat → ClassId} {lo : Nat} {p : Program} {l : Launch} {e : Env} {Rm : Room} {s : State} {m : MethodId} {args : Array Value} {below : List Frame} {meth : Method} {c : Code} {nL cells slots : Nat} {Q : State → Prop} {R : List Nat} {ad : Nat → Nat} {w : Nat → va_E} {pc : Nat} {lv : List (Nat × Value)} {st : List Value}
/-- a reference read from a row: it is there, or null -/
theorem x_rf {b : Prop} [Decidable b] {a : Nat} (ht : b → XW D lo p l e Rm s m args below meth c nL cells slots Q R ad w pc lv (.ref a :: st)) (hf : ¬ b → XW D lo p l e Rm s m args below meth c nL cells slots Q R ad w pc lv (.null :: st)) : XW D lo p l e Rm s m args below meth c nL cells slots Q R ad w pc lv (va_rf (if b then some a else none) :: st) := by
  by_cases h : b
  · rw [if_pos h]; exact ht h
  · rw [if_neg h]; exact hf h
end KMORE
/-- an int read as a carrier, in a range, as a pair's place -/
def isCar (c : Int32) : Bool := !decide (c < 0) && !decide (5 ≤ c)
def isWi (v a b : Int32) : Bool := !decide (v < a) && !decide (b < v)
def pairI (a b : Int32) : Int32 := if (isCar a && isCar b) = true then a * 5 + b else -1
set_option maxRecDepth 100000 in
theorem ms_min : Cond.static Lib.Math.min.name ∈ lw_tbl := List.mem_of_getElem? (i := 320) (by decide +kernel)
set_option maxRecDepth 100000 in
theorem mc_min : Cond.code Lib.Math.min.name Lib.Math.min.code 2 (some .int) ∈ lw_tbl := List.mem_of_getElem? (i := 321) (by decide +kernel)
set_option maxRecDepth 100000 in
theorem ik_Math : Cond.initialized "java/lang/Math" ∈ lw_tbl := List.mem_of_getElem? (i := 21) (by decide +kernel)
