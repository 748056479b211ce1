section CELL
variable {D : va_G} {cy : Nat → ClassId} {lo : Nat} {p : Program} {l : Launch} {e : Env} {Rm : Room} {s : State} {m : MethodId} {args : Array Value} {below : List Frame} {meth : Method} {c : Code} {cc : ByteArray} {nL cells slots : Nat} {Q : State → Prop} {own : String} {R : List Nat} {ad : Nat → Nat} {w : Nat → va_E} {pc : Nat} {lv : List (Nat × Value)} {st rest : List Value}
/-- a start beside the script at b -/
def k_PX (D : va_G) (cy : Nat → ClassId) (lo : Nat) (R : List Nat) (ad : Nat → Nat) (w : Nat → va_E) (b L : Nat) (xs : Nat → Int32) (U : State) : Prop := k_Pr D cy lo R ad w U ∧ va_X b L xs U U.heap
theorem k_PX.blind {b L : Nat} {xs : Nat → Int32} (av : List Value) : FrameBlind (va_Pc av (k_PX D cy lo R ad w b L xs)) := by
  intro a U g mk h
  obtain ⟨h0, ⟨h1, h2, h3⟩, h4⟩ := h
  exact ⟨h0, ⟨k_Ev.moved (s := U) (U := U.calling g mk a) (State.WarmedH.refl U) h1 (Nat.le_refl _) (fun _ _ _ => rfl), h2, h3⟩, va_X.moved (u := U) (U := U.calling g mk a) (State.WarmedH.refl U).alike h4⟩
theorem k_preX (F : k_F p m c cc nL s own D cy lo) {b L : Nat} {xs : Nat → Int32} (hX : va_X b L xs s s.heap) (hb : b < lo) {H : Heap} {locs : List Loc} (hP : va_P D vwCl (wl R ad w) H) (hD : va_D (lA lo) (wl R ad w)) (hS : va_S (lA lo) s.heap H locs) (av : List Value) : ∀ U : State, U.heap = H → s.WarmedH U.vm → va_Pc av (k_PX D cy lo R ad w b L xs) av.toArray U := fun U hU hW => by
  have h1 := k_pre F hP hD hS av U hU hW
  refine ⟨rfl, h1.2, va_X.moved hW.alike (hX.kept ?_)⟩
  rw [hU]
  exact hS.2.1 b (Nat.lt_of_lt_of_le hb F.2.2.2.2.2.2.2.2.2.2) (Nat.not_le.mpr hb)
theorem x_sldc (F : k_F p m c cc nL s own D cy lo) {b L : Nat} {xs : Nat → Int32} (hX : va_X b L xs s s.heap) (hb : b < lo) {j : Nat} (hj : j < L) (hL : L < 2 ^ 31) (hdg : decode cc pc = .ok (.iaload, 1))
    (k : XW D lo p l e Rm s m args below meth c nL cells slots Q R ad w (pc + 1) lv (.int (xs j) :: st)) : XW D lo p l e Rm s m args below meth c nL cells slots Q R ad w pc lv (.int (nI j) :: .ref b :: st) := by
  intro H locs ls hP hD hS hl
  have e9 : (nI j).toNatClampNeg = j := nI_clamp (by omega)
  have h := k H locs ls hP hD hS hl
  rw [← e9] at h
  exact va_sld F.1 F.2.1 hX (Nat.lt_of_lt_of_le hb F.2.2.2.2.2.2.2.2.2.2) (Nat.not_le.mpr hb) hS (vp_in_nI hj hL) hdg h
theorem x_slenc (F : k_F p m c cc nL s own D cy lo) {b L : Nat} {xs : Nat → Int32} (hX : va_X b L xs s s.heap) (hb : b < lo) (hdg : decode cc pc = .ok (.arraylength, 1))
    (k : XW D lo p l e Rm s m args below meth c nL cells slots Q R ad w (pc + 1) lv (.int (nI L) :: st)) : XW D lo p l e Rm s m args below meth c nL cells slots Q R ad w pc lv (.ref b :: st) := by
  intro H locs ls hP hD hS hl
  exact va_slen F.1 F.2.1 hX (Nat.lt_of_lt_of_le hb F.2.2.2.2.2.2.2.2.2.2) (Nat.not_le.mpr hb) hS hdg (k H locs ls hP hD hS hl)
theorem k_metC {l : Launch} {y : MethodName} {cc : ByteArray} {maxL : Nat} {ret : Option FieldType} {rm : Room} {b L : Nat} {xs : Nat → Int32} {av : List Value} {Qc : Array Value → State → Outcome → State → Prop}
    (hy : plainName y.cls = true) (hav : (lg_sl av).length ≤ maxL)
    (body : ∀ p e s m args below meth c Q, k_F p m c cc maxL s y.cls D cy lo → va_X b L xs s s.heap → meth.sig.returnType = ret → meth.locks = false → Q = MQ below Qc args s rm.cells rm.slots (lA lo) → XW D lo p l e rm s m args below meth c maxL 0 0 Q R ad w 0 (lv_args 0 av) []) :
    Met l y [.code y cc maxL ret] rm (va_Pc av (k_PX D cy lo R ad w b L xs)) Qc rm.cells rm.slots (lA lo) := by
  refine Met.ofW (cc := cc) (maxL := maxL) (ret := ret) hy rfl ?_
  intro p e s m args below meth c s₁ B hml hv
  obtain ⟨rfl, ⟨hE, hP, hD⟩, hX⟩ := hv
  have hl := lv_entry av (n := maxL) hav
  rw [lg_entry_eq]
  exact body p e s m _ below meth c _ ⟨B.exec, B.bytes, hml, findClass_of_methodNamed B.named, hE⟩ hX B.returns B.notSynchronized rfl _ _ _ hP hD va_S.rf hl
theorem x_callC (F : k_F p m c cc nL s own D cy lo) {index mL n : Nat} {y : MethodName} {bb : ByteArray} {ret : Option FieldType} {rm : Room} {b L : Nat} {xs : Nat → Int32} (hX : va_X b L xs s s.heap) (hb : b < lo) {post : Int32 → k_S → Prop} (As : List Value) (hM : Met l y [.code y bb mL ret] rm (va_Pc As (k_PX D cy lo R ad w b L xs)) (k_Qi D lo post) rm.cells rm.slots (lA lo)) (hc : k_Mc y bb mL ret n) (hv : k_Ms y) (hl : Cond.methodLink own index y ∈ lw_tbl) (hst : st = As.reverse ++ rest) (hn : As.length = n) (hdg : decode cc pc = .ok (.invokestatic index, 3)) (hR : rm.frames + 1 ≤ Rm.frames ∧ 8 + (mL + 11) + rm.locals ≤ Rm.locals) (hroom : cells + rm.cells ≤ Rm.cells ∧ slots + rm.slots ≤ Rm.slots) (hcat : (rest.map fun v => v.category).sum ≤ 8) (kk : ∀ (r : Int32) (u : k_S), post r u → XW D lo p l e Rm s m args below meth c nL (cells + rm.cells) (slots + rm.slots) Q u.1 u.2.1 u.2.2 (pc + 3) lv (.int r :: rest)) : XW D lo p l e Rm s m args below meth c nL cells slots Q R ad w pc lv (st) := by
  subst hst
  intro H locs ls hP hD hS hl0
  have hl9 := hl0
  exact va_calli (va_runS (As := As) (rest := rest) (k_fix F) hM ⟨k_callB F hc hl hR, F.2.2.2.2.wm hv rfl args⟩ ⟨k_PX.blind _, k_preX F hX hb hP hD hS As⟩ rfl hn hl0.1 rfl (lv_room hcat) hdg hroom) hS (fun _ _ h => h) (fun _ h => h) (fun r u t H1 locs1 ht hvm hpost hB hz hk hS => kk r u hpost H1 locs1 ls (by rw [← ht]; exact hB.1) hB.2 hS hl9)
end CELL
set_option maxHeartbeats 4000000 in
set_option maxRecDepth 100000 in
/-- cell -/
theorem c_L_cell (l : Launch) (D : va_G) (cy : Nat → ClassId) (lo : Nat) (R : List Nat) (ad : Nat → Nat) (w : Nat → va_E) {b L : Nat} {xs : Nat → Int32} (hb : b < lo) (hL : L ≤ 260) (k : Nat) (hk : k < 1000) : Met l yL_cell [.code yL_cell cL_cell 2 (some .int)] { frames := 0, cells := 0, slots := 0, locals := 0 } (va_Pc [.ref b, .int (nI k)] (k_PX D cy lo R ad w b L xs)) (k_Qi D lo (fun _ u => u = (R, ad, w))) 0 0 (lA lo) := by
  refine k_metC (rm := { frames := 0, cells := 0, slots := 0, locals := 0 }) (by decide +kernel) (Nat.le_of_ble_eq_true rfl) ?_
  intro p e s m args below meth c Q F hX hr hlk hQ
  refine x_iload_n F dL_cell_0 rfl 1 rfl ?_
  refine x_aload_n F dL_cell_1 rfl 0 rfl ?_
  refine x_slenc F hX hb dL_cell_2 ?_
  refine x_icmp_ge F 12 dL_cell_3 (by decide) (fun h3 => ?_) (fun h3 => ?_)
  · replace h3 : L ≤ k := (nI_leI (a := L) (b := k) (by omega) (by omega)).mp h3
    refine x_ldc F (v := 1000308241) dL_cell_12 450 (by decide +kernel) ?_
    refine x_iload_n F dL_cell_14 rfl 1 rfl ?_
    refine x_iconst F (v := 1) dL_cell_15 (by decide) ?_
    refine x_iadd F dL_cell_16 ?_
    refine x_cast (y := nI (k + 1)) (nI_add k 1) ?_
    refine x_imul F dL_cell_17 ?_
    refine x_cast (y := nI (1000308241 * (k + 1))) (pk_mul 1000308241 (k + 1)) ?_
    refine x_ldc F (v := 751363415) dL_cell_18 451 (by decide +kernel) ?_
    refine x_iadd F dL_cell_20 ?_
    refine x_cast (y := nI (1000308241 * (k + 1) + 751363415)) (nI_add (1000308241 * (k + 1)) 751363415) ?_
    rw [hQ]
    exact x_iret F hr hlk rfl dL_cell_21
  · replace h3 : ¬ L ≤ k := fun z => h3 ((nI_leI (a := L) (b := k) (by omega) (by omega)).mpr z)
    refine x_aload_n F dL_cell_6 rfl 0 rfl ?_
    refine x_iload_n F dL_cell_7 rfl 1 rfl ?_
    refine x_sldc F hX hb (by omega) (by omega) dL_cell_8 ?_
    refine x_goto F 21 dL_cell_9 (by decide) ?_
    rw [hQ]
    exact x_iret F hr hlk rfl dL_cell_21
