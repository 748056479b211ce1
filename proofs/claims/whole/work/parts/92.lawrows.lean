section LAWROWS
variable {D : va_G} {cy : Nat → ClassId} {lo : Nat} {p : Program} {l : Launch} {e : Env} {Rm : Room} {s : State} {m : MethodId} {args : Array Value} {below : List Frame} {meth : Method} {c : Code} {cc : ByteArray} {nL cells slots : Nat} {Q : State → Prop} {own : String} {R : List Nat} {ad : Nat → Nat} {w : Nat → va_E} {pc : Nat} {lv : List (Nat × Value)} {st : List Value}
theorem x_sld (F : k_F p m c cc nL s own D cy lo) {b L : Nat} {xs : Nat → Int32} (hX : va_X b L xs s s.heap) (hb : b < s.heap.size) (hlo : lo = s.heap.size) {ix : Int32} {j : Nat} (hix : ix = nI j) (hj : j < L) (hL : L ≤ 2560) (hdg : decode cc pc = .ok (.iaload, 1))
    (k : XW D lo p l e Rm s m args below meth c nL cells slots Q R ad w (pc + 1) lv (.int (xs j) :: st)) : XW D lo p l e Rm s m args below meth c nL cells slots Q R ad w pc lv (.int ix :: .ref b :: st) := by
  subst hix
  intro H locs ls hP hD hS hl
  have e9 : (nI j).toNatClampNeg = j := nI_clamp (by omega)
  have h := k H locs ls hP hD hS hl
  rw [← e9] at h
  exact va_sld F.1 F.2.1 hX hb (by subst hlo; exact Nat.not_le.mpr hb) hS (vp_in_nI hj (by omega)) hdg h
theorem x_slen (F : k_F p m c cc nL s own D cy lo) {b L : Nat} {xs : Nat → Int32} (hX : va_X b L xs s s.heap) (hb : b < s.heap.size) (hlo : lo = s.heap.size) (hdg : decode cc pc = .ok (.arraylength, 1))
    (k : XW D lo p l e Rm s m args below meth c nL cells slots Q R ad w (pc + 1) lv (.int (nI L) :: st)) : XW D lo p l e Rm s m args below meth c nL cells slots Q R ad w pc lv (.ref b :: st) := by
  intro H locs ls hP hD hS hl
  exact va_slen F.1 F.2.1 hX hb (by subst hlo; exact Nat.not_le.mpr hb) hS hdg (k H locs ls hP hD hS hl)
theorem x_stk {st' : List Value} (h : st = st') (k : XW D lo p l e Rm s m args below meth c nL cells slots Q R ad w pc lv st') : XW D lo p l e Rm s m args below meth c nL cells slots Q R ad w pc lv st := h ▸ k
theorem cmp_self {x y : Int64} (h : x = y) : lg_cmp x y = 0 := by
  subst h
  unfold lg_cmp
  rw [if_neg (fun h => absurd h (Int64.lt_irrefl)), if_pos rfl]
theorem SR.homes {q : Nat → Nat → Nat} {ns nt : Nat} {Ic Im : Nat → Nat → Int32} {Jc Jm : Nat → Nat → Int64} (h : SR q ns nt Ic Jc Im Jm) : ∀ i, isNum Im i = true → isCar (homeM Im i) = true := by
  intro i hi
  rw [h.num] at hi
  obtain ⟨j, hj, rfl, -⟩ := isN_of hi
  obtain ⟨e1, c, hc, e2⟩ := homeM_c h hj
  rw [e1, e2]
  exact car_of hc
/-- the law's locals at its loop -/
abbrev k_LV (ad : Nat → Nat) (b i : Nat) : List (Nat × Value) := [(4, .int (nI i)), (3, .ref (ad 12)), (2, .ref (ad 13)), (1, .ref (ad 0)), (0, .ref b)]
end LAWROWS
