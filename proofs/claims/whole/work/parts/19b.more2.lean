section KMORE2
variable {D : va_G} {cy : Nat → ClassId} {lo : Nat} {p : Program} {l : Launch} {e : Env} {Rm : Room} {s : State} {m : MethodId} {args : Array Value} {below : List Frame} {meth : Method} {c : Code} {nL cells slots : Nat} {Q : State → Prop} {R : List Nat} {ad : Nat → Nat} {w : Nat → va_E} {pc : Nat} {lv : List (Nat × Value)} {st : List Value}
/-- the int on top by another name -/
theorem x_cast {x y : Int32} (h : x = y) (k : XW D lo p l e Rm s m args below meth c nL cells slots Q R ad w pc lv (.int y :: st)) : XW D lo p l e Rm s m args below meth c nL cells slots Q R ad w pc lv (.int x :: st) := h ▸ k
theorem x_castl {x y : Int64} (h : x = y) (k : XW D lo p l e Rm s m args below meth c nL cells slots Q R ad w pc lv (.long y :: st)) : XW D lo p l e Rm s m args below meth c nL cells slots Q R ad w pc lv (.long x :: st) := h ▸ k
end KMORE2
