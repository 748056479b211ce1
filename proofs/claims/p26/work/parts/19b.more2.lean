section KMORE2
variable {D : va_G} {cy : Nat → ClassId} {lo : Nat} {p : Program} {l : Launch} {e : Env} {Rm : Room} {s : State} {m : MethodId} {args : Array Value} {below : List Frame} {meth : Method} {c : Code} {nL cells slots : Nat} {Q : State → Prop} {R : List Nat} {ad : Nat → Nat} {w : Nat → va_E} {pc : Nat} {lv : List (Nat × Value)} {st : List Value}
/-- the int on top by another name -/
theorem x_cast {x y : Int32} (h : x = y) (k : XW D lo p l e Rm s m args below meth c nL cells slots Q R ad w pc lv (.int y :: st)) : XW D lo p l e Rm s m args below meth c nL cells slots Q R ad w pc lv (.int x :: st) := h ▸ k
theorem x_castl {x y : Int64} (h : x = y) (k : XW D lo p l e Rm s m args below meth c nL cells slots Q R ad w pc lv (.long y :: st)) : XW D lo p l e Rm s m args below meth c nL cells slots Q R ad w pc lv (.long x :: st) := h ▸ k
theorem x_aload_nN {cc : ByteArray} {own : String} {cy : Nat → ClassId} (F : k_F p m c cc nL s own D cy lo) {k : Fin 4} {i : Nat} (hdg : decode cc pc = .ok (.aload_n k, 1)) (hi : (k : Nat) = i) (ix : Nat) (hx : lv[ix]? = some (i, .null)) (kk : XW D lo p l e Rm s m args below meth c nL cells slots Q R ad w (pc + 1) lv (.null :: st)) : XW D lo p l e Rm s m args below meth c nL cells slots Q R ad w (pc) lv (st) := fun H locs ls hP hD hS hl => lv_aload_nN F.1 F.2.1 hdg hi (lv_at hl ix hx) (kk H locs ls hP hD hS hl)
theorem x_aloadN {cc : ByteArray} {own : String} {cy : Nat → ClassId} (F : k_F p m c cc nL s own D cy lo) {i : Nat} (hdg : decode cc pc = .ok (.aload i, 2)) (ix : Nat) (hx : lv[ix]? = some (i, .null)) (kk : XW D lo p l e Rm s m args below meth c nL cells slots Q R ad w (pc + 2) lv (.null :: st)) : XW D lo p l e Rm s m args below meth c nL cells slots Q R ad w (pc) lv (st) := fun H locs ls hP hD hS hl => lv_aloadN F.1 F.2.1 hdg (lv_at hl ix hx) (kk H locs ls hP hD hS hl)
theorem x_astore_nN {cc : ByteArray} {own : String} {cy : Nat → ClassId} (F : k_F p m c cc nL s own D cy lo) {k : Fin 4} {i : Nat} (lv' : List (Nat × Value)) (hdg : decode cc pc = .ok (.astore_n k, 1)) (hi : (k : Nat) = i) (hn : i < nL) (hx : (i, Value.null) :: lv.filter (fun q => !(q.1 == i) && !(q.1 + 1 == i && q.2.category == 2)) = lv') (kk : XW D lo p l e Rm s m args below meth c nL cells slots Q R ad w (pc + 1) lv' (st)) : XW D lo p l e Rm s m args below meth c nL cells slots Q R ad w (pc) lv (.null :: st) := fun H locs ls hP hD hS hl => lv_astore_nN F.1 F.2.1 hdg hi hl hn hx (fun ls hl => kk H locs ls hP hD hS hl)
theorem x_astoreN {cc : ByteArray} {own : String} {cy : Nat → ClassId} (F : k_F p m c cc nL s own D cy lo) {i : Nat} (lv' : List (Nat × Value)) (hdg : decode cc pc = .ok (.astore i, 2)) (hn : i < nL) (hx : (i, Value.null) :: lv.filter (fun q => !(q.1 == i) && !(q.1 + 1 == i && q.2.category == 2)) = lv') (kk : XW D lo p l e Rm s m args below meth c nL cells slots Q R ad w (pc + 2) lv' (st)) : XW D lo p l e Rm s m args below meth c nL cells slots Q R ad w (pc) lv (.null :: st) := fun H locs ls hP hD hS hl => lv_astoreN F.1 F.2.1 hdg hl hn hx (fun ls hl => kk H locs ls hP hD hS hl)
/-- two roles at one address are one -/
theorem x_inj {r1 r2 : Nat} (h1 : r1 ∈ R) (h2 : r2 ∈ R) (k : (ad r1 = ad r2 → r1 = r2) → XW D lo p l e Rm s m args below meth c nL cells slots Q R ad w pc lv st) : XW D lo p l e Rm s m args below meth c nL cells slots Q R ad w pc lv st := by
  intro H locs ls hP hD hS hl
  refine k (fun he => ?_) H locs ls hP hD hS hl
  obtain ⟨i, hi, gi⟩ := wl_at ad w h1
  obtain ⟨j, hj, gj⟩ := wl_at ad w h2
  have e := hD.1 i j _ _ gi gj he
  subst e
  exact Option.some.inj (hi.symm.trans hj)
end KMORE2
