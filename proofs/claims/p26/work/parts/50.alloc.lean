section KNEW
variable {D : va_G} {cy : Nat → ClassId} {lo : Nat} {p : Program} {l : Launch} {e : Env} {Rm : Room} {s : State} {m : MethodId} {args : Array Value} {below : List Frame} {meth : Method} {c : Code} {cc : ByteArray} {nL cells slots : Nat} {Q : State → Prop} {own : String} {R : List Nat} {ad : Nat → Nat} {w : Nat → va_E} {pc : Nat} {lv : List (Nat × Value)} {st : List Value}
theorem x_wc {w' : Nat → va_E} (h : ∀ x ∈ R, w x = w' x) (k : XW D lo p l e Rm s m args below meth c nL cells slots Q R ad w' pc lv st) : XW D lo p l e Rm s m args below meth c nL cells slots Q R ad w pc lv st := by
  intro H locs ls hP hD hS hl
  have e1 : wl R ad w = wl R ad w' := wl_congr (fun r hr => ⟨rfl, h r hr⟩)
  rw [e1] at hP hD
  exact k H locs ls hP hD hS hl
theorem x_objI (F : k_F p m c cc nL s own D cy lo) {index : Nat} {a : Nat} (hl0 : Cond.methodLink own index Lib.objectInit ∈ lw_tbl) (hdg : decode cc pc = .ok (.invokespecial index, 3)) (hR : 1 ≤ Rm.frames ∧ (st.map fun v => v.category).sum + 12 ≤ Rm.locals) (kk : XW D lo p l e Rm s m args below meth c nL cells slots Q R ad w (pc + 3) lv st) : XW D lo p l e Rm s m args below meth c nL cells slots Q R ad w pc lv (.ref a :: st) := by
  intro H locs ls hP hD hS hl
  exact W.objInit F.1 F.2.1 F.2.2.2.1 (F.2.2.2.2.wm hl0 rfl args) (F.2.2.2.2.wm ok_i rfl args) (F.2.2.2.2.wm ok_c rfl args) rfl (by rw [F.2.2.1]; exact hl.1) rfl hdg hR.1 (by have h0 : (F0 m pc ls (.ref a :: st)).monitorRoom = 0 := rfl; rw [h0]; omega) (kk H locs ls hP hD hS hl)
set_option maxHeartbeats 100000 in
set_option maxRecDepth 100000 in
theorem x_newI (F : k_F p m c cc nL s own D cy lo) (r : Nat) {N : Nat} {n : Int32} (hr : r ∉ R) (hn : ¬ n < 0) (hN : n.toNatClampNeg = N) (hb : N * componentBytes .int ≤ 536870912) (hroom : cells + 1 ≤ Rm.cells ∧ slots + N ≤ Rm.slots) (hdg : decode cc pc = .ok (.newarray .int, 2))
    (kk : ∀ ad' : Nat → Nat, (∀ x, x ≠ r → ad' x = ad x) → XW D lo p l e Rm s m args below meth c nL (cells + 1) (slots + N) Q (R ++ [r]) ad' (va_up w r (.inl (cy 0, N, .inl fun _ => 0))) (pc + 2) lv (.ref (ad' r) :: st)) : XW D lo p l e Rm s m args below meth c nL cells slots Q R ad w pc lv (.int n :: st) := by
  intro H locs ls hP hD hS hl
  have hw : Cond.arrayClass .int ∈ lw_tbl := List.mem_of_getElem? (i := 53) (by decide +kernel)
  have hA : ∀ q, s.heap.size ≤ q → lA lo q := fun q hq => Nat.le_trans F.2.2.2.2.2.2.2.2.2.2 hq
  refine va_newa (A := lA lo) (atype := .int) (ty := .int) (N' := N) (a0 := (N, .inl fun _ => 0)) F.1 F.2.1 (F.2.2.2.2.wm hw rfl args) rfl F.2.2.2.2.2.2.2.1 hP hD hS hA (fun cA => rfl) hn hN hb hroom.1 hroom.2 hdg (fun q cA H1 hK hP1 hD1 hS1 => ?_)
  have e1 : s.vm.findClass ("[" ++ (FieldType.int).toString) = some cA := (hK.2 5 (cA, .int) rfl).2
  have e2 : s.vm.findClass ("[" ++ (FieldType.int).toString) = some (cy 0) := (F.2.2.2.2.2.2.2.1.2 0 (cy 0, .int) rfl).2
  have e3 : cA = cy 0 := Option.some.inj (e1.symm.trans e2)
  subst e3
  rw [wl_push (A := lA lo) hr] at hP1 hD1
  have h9 := kk (va_up ad r q) (fun x hx => by simp [va_up, hx]) H1 locs ls hP1 hD1 hS1 hl
  rw [show va_up ad r q r = q by simp [va_up]] at h9
  exact h9
set_option maxHeartbeats 100000 in
set_option maxRecDepth 100000 in
theorem x_newJ (F : k_F p m c cc nL s own D cy lo) (r : Nat) {N : Nat} {n : Int32} (hr : r ∉ R) (hn : ¬ n < 0) (hN : n.toNatClampNeg = N) (hb : N * componentBytes .long ≤ 536870912) (hroom : cells + 1 ≤ Rm.cells ∧ slots + N ≤ Rm.slots) (hdg : decode cc pc = .ok (.newarray .long, 2))
    (kk : ∀ ad' : Nat → Nat, (∀ x, x ≠ r → ad' x = ad x) → XW D lo p l e Rm s m args below meth c nL (cells + 1) (slots + N) Q (R ++ [r]) ad' (va_up w r (.inl (cy 1, N, .inr (.inl fun _ => 0)))) (pc + 2) lv (.ref (ad' r) :: st)) : XW D lo p l e Rm s m args below meth c nL cells slots Q R ad w pc lv (.int n :: st) := by
  intro H locs ls hP hD hS hl
  have hw : Cond.arrayClass .long ∈ lw_tbl := List.mem_of_getElem? (i := 54) (by decide +kernel)
  have hA : ∀ q, s.heap.size ≤ q → lA lo q := fun q hq => Nat.le_trans F.2.2.2.2.2.2.2.2.2.2 hq
  refine va_newa (A := lA lo) (atype := .long) (ty := .long) (N' := N) (a0 := (N, .inr (.inl fun _ => 0))) F.1 F.2.1 (F.2.2.2.2.wm hw rfl args) rfl F.2.2.2.2.2.2.2.1 hP hD hS hA (fun cA => rfl) hn hN hb hroom.1 hroom.2 hdg (fun q cA H1 hK hP1 hD1 hS1 => ?_)
  have e1 : s.vm.findClass ("[" ++ (FieldType.long).toString) = some cA := (hK.2 5 (cA, .long) rfl).2
  have e2 : s.vm.findClass ("[" ++ (FieldType.long).toString) = some (cy 1) := (F.2.2.2.2.2.2.2.1.2 1 (cy 1, .long) rfl).2
  have e3 : cA = cy 1 := Option.some.inj (e1.symm.trans e2)
  subst e3
  rw [wl_push (A := lA lo) hr] at hP1 hD1
  have h9 := kk (va_up ad r q) (fun x hx => by simp [va_up, hx]) H1 locs ls hP1 hD1 hS1 hl
  rw [show va_up ad r q r = q by simp [va_up]] at h9
  exact h9
set_option maxRecDepth 100000 in
theorem x_newAS (F : k_F p m c cc nL s own D cy lo) (r : Nat) {N index : Nat} {n : Int32} (hl0 : Cond.classLink own index RX2 ∈ lw_tbl) (hr : r ∉ R) (hn : ¬ n < 0) (hN : n.toNatClampNeg = N) (hb : N * 4 ≤ 536870912) (hroom : cells + 1 ≤ Rm.cells ∧ slots + N ≤ Rm.slots) (hdg : decode cc pc = .ok (.anewarray index, 3))
    (kk : ∀ ad' : Nat → Nat, (∀ x, x ≠ r → ad' x = ad x) → XW D lo p l e Rm s m args below meth c nL (cells + 1) (slots + N) Q (R ++ [r]) ad' (va_up w r (.inl (cy 3, N, .inr (.inr (.inr (.inr (fun _ => none))))))) (pc + 3) lv (.ref (ad' r) :: st)) : XW D lo p l e Rm s m args below meth c nL cells slots Q R ad w pc lv (.int n :: st) := by
  intro H locs ls hP hD hS hl
  have hA : ∀ q, s.heap.size ≤ q → lA lo q := fun q hq => Nat.le_trans F.2.2.2.2.2.2.2.2.2.2 hq
  refine va_newq (A := lA lo) (C := RX2) (N' := N) F.1 F.2.1 F.2.2.2.1 (F.2.2.2.2.wm hl0 rfl args) F.2.2.2.2.2.1.2.1 F.2.2.2.2.2.2.2.1 hP hD hS hA hn hN hb hroom.1 hroom.2 hdg (fun q cA H1 hK hP1 hD1 hS1 => ?_)
  obtain ⟨-, -, -, -, -, e1⟩ := (hK.2 5 (cA, .object RX2) rfl).2
  obtain ⟨-, -, -, -, -, e2⟩ := (F.2.2.2.2.2.2.2.1.2 3 (cy 3, .object RX2) rfl).2
  have e3 : cA = cy 3 := Option.some.inj (e1.symm.trans e2)
  subst e3
  rw [wl_push (A := lA lo) hr] at hP1 hD1
  have h9 := kk (va_up ad r q) (fun x hx => by simp [va_up, hx]) H1 locs ls hP1 hD1 hS1 hl
  rw [show va_up ad r q r = q by simp [va_up]] at h9
  exact h9
set_option maxRecDepth 100000 in
theorem x_newAT (F : k_F p m c cc nL s own D cy lo) (r : Nat) {N index : Nat} {n : Int32} (hl0 : Cond.classLink own index RX3 ∈ lw_tbl) (hr : r ∉ R) (hn : ¬ n < 0) (hN : n.toNatClampNeg = N) (hb : N * 4 ≤ 536870912) (hroom : cells + 1 ≤ Rm.cells ∧ slots + N ≤ Rm.slots) (hdg : decode cc pc = .ok (.anewarray index, 3))
    (kk : ∀ ad' : Nat → Nat, (∀ x, x ≠ r → ad' x = ad x) → XW D lo p l e Rm s m args below meth c nL (cells + 1) (slots + N) Q (R ++ [r]) ad' (va_up w r (.inl (cy 4, N, .inr (.inr (.inr (.inr (fun _ => none))))))) (pc + 3) lv (.ref (ad' r) :: st)) : XW D lo p l e Rm s m args below meth c nL cells slots Q R ad w pc lv (.int n :: st) := by
  intro H locs ls hP hD hS hl
  have hA : ∀ q, s.heap.size ≤ q → lA lo q := fun q hq => Nat.le_trans F.2.2.2.2.2.2.2.2.2.2 hq
  refine va_newq (A := lA lo) (C := RX3) (N' := N) F.1 F.2.1 F.2.2.2.1 (F.2.2.2.2.wm hl0 rfl args) F.2.2.2.2.2.1.2.2 F.2.2.2.2.2.2.2.1 hP hD hS hA hn hN hb hroom.1 hroom.2 hdg (fun q cA H1 hK hP1 hD1 hS1 => ?_)
  obtain ⟨-, -, -, -, -, e1⟩ := (hK.2 5 (cA, .object RX3) rfl).2
  obtain ⟨-, -, -, -, -, e2⟩ := (F.2.2.2.2.2.2.2.1.2 4 (cy 4, .object RX3) rfl).2
  have e3 : cA = cy 4 := Option.some.inj (e1.symm.trans e2)
  subst e3
  rw [wl_push (A := lA lo) hr] at hP1 hD1
  have h9 := kk (va_up ad r q) (fun x hx => by simp [va_up, hx]) H1 locs ls hP1 hD1 hS1 hl
  rw [show va_up ad r q r = q by simp [va_up]] at h9
  exact h9
set_option maxRecDepth 100000 in
theorem x_newO0 (F : k_F p m c cc nL s own D cy lo) (r : Nat) {index : Nat} (hl0 : Cond.classLink own index RX0 ∈ lw_tbl) (hr : r ∉ R) (hroom : cells + 1 ≤ Rm.cells ∧ slots + 4 ≤ Rm.slots) (hdg : decode cc pc = .ok (.new index, 3))
    (kk : ∀ ad' : Nat → Nat, (∀ x, x ≠ r → ad' x = ad x) → XW D lo p l e Rm s m args below meth c nL (cells + 1) (slots + 4) Q (R ++ [r]) ad' (va_up w r (.inr (0, [.null, .null, .null, .null]))) (pc + 3) lv (.ref (ad' r) :: st)) : XW D lo p l e Rm s m args below meth c nL cells slots Q R ad w pc lv st := by
  intro H locs ls hP hD hS hl
  have hw1 : Cond.instantiable RX0 4 ∈ lw_tbl := List.mem_of_getElem? (i := 32) (by decide +kernel)
  have hw2 : Cond.initialized RX0 ∈ lw_tbl := List.mem_of_getElem? (i := 11) (by decide +kernel)
  have hA : ∀ q, s.heap.size ≤ q → lA lo q := fun q hq => Nat.le_trans F.2.2.2.2.2.2.2.2.2.2 hq
  refine va_new (A := lA lo) (C := RX0) (T := TX0) (N := 4) (ci := 0) (fs := [.null, .null, .null, .null]) F.1 F.2.1 (k_hin0 F) (fun _ h => h) tyX0 tyX0_ok F.2.2.2.1 (F.2.2.2.2.wm hl0 rfl args) (F.2.2.2.2.wm hw1 rfl args) (F.2.2.2.2.wm hw2 rfl args) F.2.2.2.2.2.2.2.1 hP hD hS hA rfl (fun j hj => ?_) hroom.1 hroom.2 hdg (fun q H1 hP1 hD1 hS1 => ?_)
  · revert j
    decide +kernel
  · rw [wl_push (A := lA lo) hr] at hP1 hD1
    have h9 := kk (va_up ad r q) (fun x hx => by simp [va_up, hx]) H1 locs ls hP1 hD1 hS1 hl
    rw [show va_up ad r q r = q by simp [va_up]] at h9
    exact h9
set_option maxRecDepth 100000 in
theorem x_newO1 (F : k_F p m c cc nL s own D cy lo) (r : Nat) {index : Nat} (hl0 : Cond.classLink own index RX1 ∈ lw_tbl) (hr : r ∉ R) (hroom : cells + 1 ≤ Rm.cells ∧ slots + 2 ≤ Rm.slots) (hdg : decode cc pc = .ok (.new index, 3))
    (kk : ∀ ad' : Nat → Nat, (∀ x, x ≠ r → ad' x = ad x) → XW D lo p l e Rm s m args below meth c nL (cells + 1) (slots + 2) Q (R ++ [r]) ad' (va_up w r (.inr (1, [.null, .int 0]))) (pc + 3) lv (.ref (ad' r) :: st)) : XW D lo p l e Rm s m args below meth c nL cells slots Q R ad w pc lv st := by
  intro H locs ls hP hD hS hl
  have hw1 : Cond.instantiable RX1 2 ∈ lw_tbl := List.mem_of_getElem? (i := 60) (by decide +kernel)
  have hw2 : Cond.initialized RX1 ∈ lw_tbl := List.mem_of_getElem? (i := 13) (by decide +kernel)
  have hA : ∀ q, s.heap.size ≤ q → lA lo q := fun q hq => Nat.le_trans F.2.2.2.2.2.2.2.2.2.2 hq
  refine va_new (A := lA lo) (C := RX1) (T := TX1) (N := 2) (ci := 1) (fs := [.null, .int 0]) F.1 F.2.1 (k_hin1 F) (fun _ h => h) tyX1 tyX1_ok F.2.2.2.1 (F.2.2.2.2.wm hl0 rfl args) (F.2.2.2.2.wm hw1 rfl args) (F.2.2.2.2.wm hw2 rfl args) F.2.2.2.2.2.2.2.1 hP hD hS hA rfl (fun j hj => ?_) hroom.1 hroom.2 hdg (fun q H1 hP1 hD1 hS1 => ?_)
  · revert j
    decide +kernel
  · rw [wl_push (A := lA lo) hr] at hP1 hD1
    have h9 := kk (va_up ad r q) (fun x hx => by simp [va_up, hx]) H1 locs ls hP1 hD1 hS1 hl
    rw [show va_up ad r q r = q by simp [va_up]] at h9
    exact h9
set_option maxRecDepth 100000 in
theorem x_newO2 (F : k_F p m c cc nL s own D cy lo) (r : Nat) {index : Nat} (hl0 : Cond.classLink own index RX2 ∈ lw_tbl) (hr : r ∉ R) (hroom : cells + 1 ≤ Rm.cells ∧ slots + 4 ≤ Rm.slots) (hdg : decode cc pc = .ok (.new index, 3))
    (kk : ∀ ad' : Nat → Nat, (∀ x, x ≠ r → ad' x = ad x) → XW D lo p l e Rm s m args below meth c nL (cells + 1) (slots + 4) Q (R ++ [r]) ad' (va_up w r (.inr (2, [.null, .int 0, .int 0, .int 0]))) (pc + 3) lv (.ref (ad' r) :: st)) : XW D lo p l e Rm s m args below meth c nL cells slots Q R ad w pc lv st := by
  intro H locs ls hP hD hS hl
  have hw1 : Cond.instantiable RX2 4 ∈ lw_tbl := List.mem_of_getElem? (i := 243) (by decide +kernel)
  have hw2 : Cond.initialized RX2 ∈ lw_tbl := List.mem_of_getElem? (i := 20) (by decide +kernel)
  have hA : ∀ q, s.heap.size ≤ q → lA lo q := fun q hq => Nat.le_trans F.2.2.2.2.2.2.2.2.2.2 hq
  refine va_new (A := lA lo) (C := RX2) (T := TX2) (N := 4) (ci := 2) (fs := [.null, .int 0, .int 0, .int 0]) F.1 F.2.1 (k_hin2 F) (fun _ h => h) tyX2 tyX2_ok F.2.2.2.1 (F.2.2.2.2.wm hl0 rfl args) (F.2.2.2.2.wm hw1 rfl args) (F.2.2.2.2.wm hw2 rfl args) F.2.2.2.2.2.2.2.1 hP hD hS hA rfl (fun j hj => ?_) hroom.1 hroom.2 hdg (fun q H1 hP1 hD1 hS1 => ?_)
  · revert j
    decide +kernel
  · rw [wl_push (A := lA lo) hr] at hP1 hD1
    have h9 := kk (va_up ad r q) (fun x hx => by simp [va_up, hx]) H1 locs ls hP1 hD1 hS1 hl
    rw [show va_up ad r q r = q by simp [va_up]] at h9
    exact h9
set_option maxRecDepth 100000 in
theorem x_newO3 (F : k_F p m c cc nL s own D cy lo) (r : Nat) {index : Nat} (hl0 : Cond.classLink own index RX3 ∈ lw_tbl) (hr : r ∉ R) (hroom : cells + 1 ≤ Rm.cells ∧ slots + 9 ≤ Rm.slots) (hdg : decode cc pc = .ok (.new index, 3))
    (kk : ∀ ad' : Nat → Nat, (∀ x, x ≠ r → ad' x = ad x) → XW D lo p l e Rm s m args below meth c nL (cells + 1) (slots + 9) Q (R ++ [r]) ad' (va_up w r (.inr (3, [.null, .null, .int 0, .int 0, .null, .null, .int 0, .int 0, .int 0]))) (pc + 3) lv (.ref (ad' r) :: st)) : XW D lo p l e Rm s m args below meth c nL cells slots Q R ad w pc lv st := by
  intro H locs ls hP hD hS hl
  have hw1 : Cond.instantiable RX3 9 ∈ lw_tbl := List.mem_of_getElem? (i := 339) (by decide +kernel)
  have hw2 : Cond.initialized RX3 ∈ lw_tbl := List.mem_of_getElem? (i := 22) (by decide +kernel)
  have hA : ∀ q, s.heap.size ≤ q → lA lo q := fun q hq => Nat.le_trans F.2.2.2.2.2.2.2.2.2.2 hq
  refine va_new (A := lA lo) (C := RX3) (T := TX3) (N := 9) (ci := 3) (fs := [.null, .null, .int 0, .int 0, .null, .null, .int 0, .int 0, .int 0]) F.1 F.2.1 (k_hin3 F) (fun _ h => h) tyX3 tyX3_ok F.2.2.2.1 (F.2.2.2.2.wm hl0 rfl args) (F.2.2.2.2.wm hw1 rfl args) (F.2.2.2.2.wm hw2 rfl args) F.2.2.2.2.2.2.2.1 hP hD hS hA rfl (fun j hj => ?_) hroom.1 hroom.2 hdg (fun q H1 hP1 hD1 hS1 => ?_)
  · revert j
    decide +kernel
  · rw [wl_push (A := lA lo) hr] at hP1 hD1
    have h9 := kk (va_up ad r q) (fun x hx => by simp [va_up, hx]) H1 locs ls hP1 hD1 hS1 hl
    rw [show va_up ad r q r = q by simp [va_up]] at h9
    exact h9
set_option maxRecDepth 100000 in
theorem x_newO4 (F : k_F p m c cc nL s own D cy lo) (r : Nat) {index : Nat} (hl0 : Cond.classLink own index RX4 ∈ lw_tbl) (hr : r ∉ R) (hroom : cells + 1 ≤ Rm.cells ∧ slots + 8 ≤ Rm.slots) (hdg : decode cc pc = .ok (.new index, 3))
    (kk : ∀ ad' : Nat → Nat, (∀ x, x ≠ r → ad' x = ad x) → XW D lo p l e Rm s m args below meth c nL (cells + 1) (slots + 8) Q (R ++ [r]) ad' (va_up w r (.inr (4, [.null, .null, .null, .null, .null, .null, .int 0, .int 0]))) (pc + 3) lv (.ref (ad' r) :: st)) : XW D lo p l e Rm s m args below meth c nL cells slots Q R ad w pc lv st := by
  intro H locs ls hP hD hS hl
  have hw1 : Cond.instantiable RX4 8 ∈ lw_tbl := List.mem_of_getElem? (i := 24) (by decide +kernel)
  have hw2 : Cond.initialized RX4 ∈ lw_tbl := List.mem_of_getElem? (i := 10) (by decide +kernel)
  have hA : ∀ q, s.heap.size ≤ q → lA lo q := fun q hq => Nat.le_trans F.2.2.2.2.2.2.2.2.2.2 hq
  refine va_new (A := lA lo) (C := RX4) (T := TX4) (N := 8) (ci := 4) (fs := [.null, .null, .null, .null, .null, .null, .int 0, .int 0]) F.1 F.2.1 (k_hin4 F) (fun _ h => h) tyX4 tyX4_ok F.2.2.2.1 (F.2.2.2.2.wm hl0 rfl args) (F.2.2.2.2.wm hw1 rfl args) (F.2.2.2.2.wm hw2 rfl args) F.2.2.2.2.2.2.2.1 hP hD hS hA rfl (fun j hj => ?_) hroom.1 hroom.2 hdg (fun q H1 hP1 hD1 hS1 => ?_)
  · revert j
    decide +kernel
  · rw [wl_push (A := lA lo) hr] at hP1 hD1
    have h9 := kk (va_up ad r q) (fun x hx => by simp [va_up, hx]) H1 locs ls hP1 hD1 hS1 hl
    rw [show va_up ad r q r = q by simp [va_up]] at h9
    exact h9
end KNEW
theorem up_at {α : Type} (w : Nat → α) (r : Nat) (x : α) : va_up w r x r = x := by simp [va_up]
theorem up_ne {α : Type} (w : Nat → α) {r r' : Nat} (x : α) (h : r' ≠ r) : va_up w r x r' = w r' := by simp [va_up, h]
set_option maxHeartbeats 4000000 in
set_option maxRecDepth 100000 in
/-- Arrays.fill, in any world -/
theorem c_fill (l : Launch) (D : va_G) (cy : Nat → ClassId) (lo : Nat) (R : List Nat) (ad : Nat → Nat) (w : Nat → va_E) (r : Nat) (v : Int32) (n : Nat) (f : Nat → Int32) (hs : w r = .inl (cy 0, n, .inl f)) (hm : r ∈ R) (hnn : n < 2 ^ 31) : k_Cv l yJ7_fill_53178 cJ7_fill_53178 4 none 0 0 D cy lo R ad w [.ref (ad r), .int v] (va_up w r (.inl (cy 0, n, .inl (fun j => if j < n then v else f j)))) := by
  refine k_metQ (by decide +kernel) (Nat.le_of_ble_eq_true rfl) ?_
  intro p e s m args below meth c Q F hr hlk hnm hQ
  refine x_iconst F (v := 0) dJ7_fill_53178_0 (by decide) ?_
  refine x_istore_n F [(2, .int 0), (0, .ref (ad r)), (1, .int v)] dJ7_fill_53178_1 rfl (by decide) rfl ?_
  refine x_aload_n F dJ7_fill_53178_2 rfl 1 rfl ?_
  refine x_alenI F hm hs dJ7_fill_53178_3 ?_
  refine x_istore_n F [(3, .int (nI n)), (2, .int 0), (0, .ref (ad r)), (1, .int v)] dJ7_fill_53178_4 rfl (by decide) rfl ?_
  have lp5 : ∀ (fu5 : Nat) (k : Nat), n - k < fu5 → (k ≤ n) → XW D lo p l e { frames := 0, cells := 0, slots := 0, locals := 0 } s m args below meth c 4 0 0 Q R ad (va_up w r (.inl (cy 0, n, .inl (fun j => if j < k then v else f j)))) 5 [(3, .int (nI n)), (2, .int (nI k)), (0, .ref (ad r)), (1, .int v)] [] := by
    intro fu5
    induction fu5 with
    | zero => intro k hf5; exact absurd hf5 (Nat.not_lt_zero _)
    | succ fu5 ih5 =>
      intro k hf5 hkn
      refine x_iload_n F dJ7_fill_53178_5 rfl 1 rfl ?_
      refine x_iload_n F dJ7_fill_53178_6 rfl 0 rfl ?_
      refine x_icmp_ge F 20 dJ7_fill_53178_7 (by decide) (fun h7 => ?_) (fun h7 => ?_)
      · have hk9 := lp_exit (by omega) hkn h7
        subst hk9
        rw [hQ]
        exact x_vret F hr hlk rfl dJ7_fill_53178_20
      · have hk9 := lp_go (by omega) hkn h7
        refine x_aload_n F dJ7_fill_53178_10 rfl 2 rfl ?_
        refine x_iload_n F dJ7_fill_53178_11 rfl 1 rfl ?_
        refine x_iload_n F dJ7_fill_53178_12 rfl 3 rfl ?_
        refine x_iast F hm (up_at _ _ _) (vp_in_nI hk9 (by omega)) dJ7_fill_53178_13 ?_
        refine x_iinc F [(2, .int ((nI k) + 1)), (3, .int (nI n)), (0, .ref (ad r)), (1, .int v)] dJ7_fill_53178_14 1 rfl (by decide) rfl ?_
        refine x_goto F 5 dJ7_fill_53178_17 (by decide) ?_
        refine x_world (w' := va_up w r (.inl (cy 0, n, .inl (fun j => if j < k + 1 then v else f j)))) ?_ ?_
        · rw [nI_clamp (by omega)]
          funext x
          by_cases hx : x = r
          · subst hx
            rw [up_at, up_at]
            congr 4
            funext j
            by_cases h1 : j = k
            · simp [upd, h1]
            · by_cases h2 : j < k
              · have : j < k + 1 := by omega
                simp [upd, h1, h2, this]
              · have : ¬ j < k + 1 := by omega
                simp [upd, h1, h2, this]
          · rw [up_ne _ _ hx, up_ne _ _ hx, up_ne _ _ hx]
        rw [nI_1]
        refine x_sub [1, 0, 2, 3] rfl ?_
        exact ih5 (k + 1) (by omega) (by omega)
  refine x_world (w' := va_up w r (.inl (cy 0, n, .inl (fun j => if j < 0 then v else f j)))) ?_ (lp5 (n + 1) 0 (by omega) (by omega))
  funext x
  by_cases hx : x = r
  · subst hx
    rw [up_at, hs]
    simp
  · rw [up_ne _ _ hx]
