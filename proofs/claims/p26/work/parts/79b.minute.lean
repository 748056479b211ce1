theorem wI_row {I : Nat → Nat → Int32} {r k r' : Nat} {x : Int32} (h : r' ≠ r) : wI I r k x r' = I r' := funext fun k' => by rw [wI_eq, if_neg (by omega)]
theorem wJ_row {J : Nat → Nat → Int64} {r k r' : Nat} {x : Int64} (h : r' ≠ r) : wJ J r k x r' = J r' := funext fun k' => by rw [wJ_eq, if_neg (by omega)]
theorem wI_at {I : Nat → Nat → Int32} {r k : Nat} {x : Int32} : wI I r k x r k = x := by rw [wI_eq, if_pos ⟨rfl, rfl⟩]
theorem wI_off {I : Nat → Nat → Int32} {r k k' : Nat} {x : Int32} (h : k' ≠ k) : wI I r k x r k' = I r k' := by rw [wI_eq, if_neg (by omega)]
theorem wJ_at {J : Nat → Nat → Int64} {r k : Nat} {x : Int64} : wJ J r k x r k = x := by rw [wJ_eq, if_pos ⟨rfl, rfl⟩]
theorem wJ_off {J : Nat → Nat → Int64} {r k k' : Nat} {x : Int64} (h : k' ≠ k) : wJ J r k x r k' = J r k' := by rw [wJ_eq, if_neg (by omega)]
/-! A minute of the call j of the law: its caller's number ci, its row pp, the best row v between its ends. -/
def stopL (I : Nat → Nat → Int32) (J : Nat → Nat → Int64) (pp : List Nat) : Nat → Bool
  | 0 => false
  | k + 1 => if k = 0 then false else stopL I J pp k || shutL I J (List.getD pp (k - 1) 0) (List.getD pp k 0)
theorem stopL_s {I : Nat → Nat → Int32} {J : Nat → Nat → Int64} {pp : List Nat} {k : Nat} (h : 1 ≤ k) : (stopL I J pp k || shutL I J (List.getD pp (k - 1) 0) (List.getD pp k 0)) = stopL I J pp (k + 1) := by rw [stopL, if_neg (by omega)]
def dueL (I : Nat → Nat → Int32) (j : Nat) : Bool := decide (I 17 (8 * j + 5) - I 17 (8 * j + 5) / I 17 (8 * j + 3) * I 17 (8 * j + 3) = 0)
def payLB (I : Nat → Nat → Int32) (j ci : Nat) : Bool := !dueL I j || !decide (I 16 (4 * ci + 2) < I 17 (8 * j + 3)) || !decide (I 16 (4 * ci + 1) < I 17 (8 * j + 4))
def payLI (I : Nat → Nat → Int32) (j ci : Nat) : Nat → Nat → Int32 :=
  if dueL I j = true then (if I 16 (4 * ci + 2) < I 17 (8 * j + 3) then (if I 16 (4 * ci + 1) < I 17 (8 * j + 4) then I else wI I 16 (4 * ci + 1) (I 16 (4 * ci + 1) - I 17 (8 * j + 4))) else wI I 16 (4 * ci + 2) (I 16 (4 * ci + 2) - I 17 (8 * j + 3))) else I
def mPI (I : Nat → Nat → Int32) (j ci : Nat) : Nat → Nat → Int32 := if payLB I j ci = true then wI (payLI I j ci) 17 (8 * j + 5) (I 17 (8 * j + 5) + 1) else wI I 17 (8 * j + 2) 2
def hopL (J : Nat → Nat → Int64) (x y : Nat) (r : Int64) : Nat → Nat → Int64 :=
  wJ (wJ (wJ J 13 (5 * x + y) (J 13 (5 * x + y) + r)) 14 (5 * x + y) (wJ J 13 (5 * x + y) (J 13 (5 * x + y) + r) 14 (5 * x + y) + r)) 14 (5 * y + x) (wJ (wJ J 13 (5 * x + y) (J 13 (5 * x + y) + r)) 14 (5 * x + y) (wJ J 13 (5 * x + y) (J 13 (5 * x + y) + r) 14 (5 * x + y) + r) 14 (5 * y + x) - r)
def chargeL (I : Nat → Nat → Int32) (J : Nat → Nat → Int64) (pp : List Nat) : Nat → Nat → Nat → Int64
  | 0 => J
  | k + 1 => if k = 0 then J else hopL (chargeL I J pp k) (List.getD pp (k - 1) 0) (List.getD pp k 0) (I 12 (2 * (5 * List.getD pp (k - 1) 0 + List.getD pp k 0))).toInt64
def mPJ (I : Nat → Nat → Int32) (J : Nat → Nat → Int64) (j ci : Nat) (pp : List Nat) : Nat → Nat → Int64 := if payLB I j ci = true then chargeL I J pp pp.length else J
def moveL (I : Nat → Nat → Int32) (j : Nat) (w : List Nat) : Nat → Nat → Int32 := wI (wI I 17 (8 * j + 7) (nI (enc w))) 17 (8 * j + 6) (I 17 (8 * j + 6) + 1)
def minI (I : Nat → Nat → Int32) (J : Nat → Nat → Int64) (j ci : Nat) (pp : List Nat) (v : Option (List Nat)) : Nat → Nat → Int32 :=
  if stopL I J pp pp.length = true then (match v with | none => wI I 17 (8 * j + 2) 2 | some w => mPI (moveL I j w) j ci) else mPI I j ci
def minJ (I : Nat → Nat → Int32) (J : Nat → Nat → Int64) (j ci : Nat) (pp : List Nat) (v : Option (List Nat)) : Nat → Nat → Int64 :=
  if stopL I J pp pp.length = true then (match v with | none => J | some w => mPJ (moveL I j w) J j ci w) else mPJ I J j ci pp
section
variable {I : Nat → Nat → Int32} {J : Nat → Nat → Int64} {j ci : Nat} {pp w : List Nat} {v : Option (List Nat)}
theorem min_no (h : stopL I J pp pp.length = false) : minI I J j ci pp v = mPI I j ci ∧ minJ I J j ci pp v = mPJ I J j ci pp := by
  unfold minI minJ
  rw [if_neg (by rw [h]; decide), if_neg (by rw [h]; decide)]
  exact ⟨rfl, rfl⟩
theorem min_none (h : stopL I J pp pp.length = true) : minI I J j ci pp none = wI I 17 (8 * j + 2) 2 ∧ minJ I J j ci pp none = J := by
  unfold minI minJ
  rw [if_pos h, if_pos h]
  exact ⟨rfl, rfl⟩
theorem min_some (h : stopL I J pp pp.length = true) : minI I J j ci pp (some w) = mPI (moveL I j w) j ci ∧ minJ I J j ci pp (some w) = mPJ (moveL I j w) J j ci w := by
  unfold minI minJ
  rw [if_pos h, if_pos h]
  exact ⟨rfl, rfl⟩
end
theorem enc_0 {w : List Nat} (h : 1 ≤ w.length) : 0 < enc w := by
  cases w with
  | nil => simp at h
  | cons x xs => simp only [enc]; omega
theorem encO_lt {op : Nat → Nat → Bool} {rt : Nat → Nat → Nat} {a b : Nat} {v : Option (List Nat)} (hv : Best op rt a b v) : encO v < 32768 := by
  cases v with
  | none => decide
  | some w => exact enc_lt5 hv.1.1.2.2.1 (way_len hv.1).2
theorem encO_some {op : Nat → Nat → Bool} {rt : Nat → Nat → Nat} {a b : Nat} {v : Option (List Nat)} (hv : Best op rt a b v) (h : ¬ encO v ≤ 0) : ∃ w, v = some w ∧ (∀ y ∈ w, y < 5) ∧ w.length ≤ 5 ∧ 1 ≤ w.length := by
  cases v with
  | none => exact absurd (Nat.le_refl 0) h
  | some w => exact ⟨w, rfl, hv.1.1.2.2.1, (way_len hv.1).2, (way_len hv.1).1⟩
theorem encO_none {op : Nat → Nat → Bool} {rt : Nat → Nat → Nat} {a b : Nat} {v : Option (List Nat)} (hv : Best op rt a b v) (h : encO v ≤ 0) : v = none := by
  cases v with
  | none => rfl
  | some w =>
    have h1 := enc_0 (way_len hv.1).1
    simp only [encO] at h
    omega
set_option maxHeartbeats 4000000 in
set_option maxRecDepth 100000 in
/-- minute -/
theorem c_L_minute (l : Launch) (D : va_G) (cy : Nat → ClassId) (lo : Nat) (R : List Nat) (ad : Nat → Nat) (q : Nat → Nat → Nat) (ns nt : Nat) (I : Nat → Nat → Int32) (J : Nat → Nat → Int64) (hR : ∀ r, r < 19 → r ∈ R) (j : Nat) (ci : Nat) (sn : Nat) (pp : List Nat) (op : Nat → Nat → Bool) (rt : Nat → Nat → Nat) (v : Option (List Nat)) (hj : j < 7) (hci8 : ci < 8) (hrow : I 17 (8 * j + 7) = nI (enc pp)) (hp5 : ∀ y ∈ pp, y < 5) (hpl : pp.length ≤ 5) (hp1 : 1 ≤ pp.length) (hst : I 17 (8 * j + 3) = nI sn) (hsn : 1 ≤ sn ∧ sn ≤ 10) (hci : I 17 (8 * j) = nI ci) (hg : GL I J op rt) (hv : Best op rt (List.getD pp 0 0) (List.getD pp (pp.length - 1) 0) v) : k_Cv l yL_minute cL_minute 12 none 2 60 D cy lo R ad (k_c cy ad q ns nt I J) [.int (nI (8 * j)), .ref (ad 12), .ref (ad 13), .ref (ad 14), .ref (ad 16), .ref (ad 17)] (k_c cy ad q ns nt (minI I J j ci pp v) (minJ I J j ci pp v)) := by
  refine k_metQ (by decide +kernel) (Nat.le_of_ble_eq_true rfl) ?_
  intro p e s m args below meth c Q F hr hlk hnm hQ
  refine x_iconst F (v := 0) dL_minute_0 (by decide) ?_
  refine x_istore F [(6, .int 0), (0, .int (nI (8 * j))), (1, .ref (ad 12)), (2, .ref (ad 13)), (3, .ref (ad 14)), (4, .ref (ad 16)), (5, .ref (ad 17))] dL_minute_1 (by decide) rfl ?_
  have j116 : ∀ (I9 : Nat → Nat → Int32) (w9 : List Nat), (∀ y ∈ w9, y < 5) → (w9.length ≤ 5) → (1 ≤ w9.length) → (I9 17 (8 * j) = nI ci) → (I9 17 (8 * j + 3) = nI sn) → (minI I J j ci pp v = mPI I9 j ci) → (minJ I J j ci pp v = mPJ I9 J j ci w9) → XW D lo p l e { frames := 2, cells := 0, slots := 0, locals := 60 } s m args below meth c 12 0 0 Q R ad (k_c cy ad q ns nt I9 J) 116 [(7, .int (nI (enc w9))), (0, .int (nI (8 * j))), (1, .ref (ad 12)), (2, .ref (ad 13)), (3, .ref (ad 14)), (4, .ref (ad 16)), (5, .ref (ad 17))] [] := by
    intro I9 w9 h5 hl h1 hc9 hs9 hI9 hJ9
    have hw0 := enc_0 h1
    have hw1 := enc_lt5 h5 hl
    refine x_iload F dL_minute_116 0 rfl ?_
    refine x_if_le F 235 dL_minute_118 (by decide) (fun h118 => ?_) (fun h118 => ?_)
    · exact absurd ((nI_leI (a := enc w9) (b := 0) (by omega) (by omega)).mp h118) (by omega)
    · refine x_aload F dL_minute_121 6 rfl ?_
      refine x_iload_n F dL_minute_123 rfl 1 rfl ?_
      refine x_iconst F (v := 5) dL_minute_124 (by decide) ?_
      refine x_iadd F dL_minute_125 ?_
      refine x_cast (y := nI (8 * j + 5)) (nI_add (8 * j) 5) ?_
      refine y_iald F (hR 17 (by decide)) ss_17 (vp_in_nI (n := 8 * j + 5) (N := 56) (by omega) (by decide)) dL_minute_126 ?_
      refine x_cast (y := I9 17 (8 * j + 5)) (by rw [nI_clamp (by omega)]) ?_
      refine x_aload F dL_minute_127 6 rfl ?_
      refine x_iload_n F dL_minute_129 rfl 1 rfl ?_
      refine x_iconst F (v := 3) dL_minute_130 (by decide) ?_
      refine x_iadd F dL_minute_131 ?_
      refine x_cast (y := nI (8 * j + 3)) (nI_add (8 * j) 3) ?_
      refine y_iald F (hR 17 (by decide)) ss_17 (vp_in_nI (n := 8 * j + 3) (N := 56) (by omega) (by decide)) dL_minute_132 ?_
      refine x_cast (y := I9 17 (8 * j + 3)) (by rw [nI_clamp (by omega)]) ?_
      refine x_irem F dL_minute_133 (by rw [hs9]; exact nI_ne0 (by omega) (by omega)) ?_
      refine x_if_ne F 235 dL_minute_134 (by decide) (fun h134 => ?_) (fun h134 => ?_)
      · refine x_iload F dL_minute_235 0 rfl ?_
        refine x_if_ne F 248 dL_minute_237 (by decide) (fun h237 => ?_) (fun h237 => ?_)
        · refine x_iconst F (v := 1) dL_minute_248 (by decide) ?_
          refine x_istore F [(8, .int 1), (7, .int (nI (enc w9))), (0, .int (nI (8 * j))), (1, .ref (ad 12)), (2, .ref (ad 13)), (3, .ref (ad 14)), (4, .ref (ad 16)), (5, .ref (ad 17))] dL_minute_249 (by decide) rfl ?_
          have lp251 : ∀ (fu251 : Nat) (i : Nat), w9.length - i < fu251 → (1 ≤ i) → (i ≤ w9.length) → XW D lo p l e { frames := 2, cells := 0, slots := 0, locals := 60 } s m args below meth c 12 0 0 Q R ad (k_c cy ad q ns nt I9 (chargeL I9 J w9 i)) 251 [(8, .int (nI i)), (7, .int (nI (enc w9))), (0, .int (nI (8 * j))), (1, .ref (ad 12)), (2, .ref (ad 13)), (3, .ref (ad 14)), (4, .ref (ad 16)), (5, .ref (ad 17))] [] := by
            intro fu251
            induction fu251 with
            | zero => intro i hf251; exact absurd hf251 (Nat.not_lt_zero _)
            | succ fu251 ih251 =>
              intro i hf251 hi1 hi
              refine x_iload F dL_minute_251 1 rfl ?_
              refine x_iconst F (v := 3) dL_minute_253 (by decide) ?_
              refine x_iload F dL_minute_254 0 rfl ?_
              refine x_imul F dL_minute_256 ?_
              refine x_cast (y := nI (3 * i)) (pk_mul 3 i) ?_
              refine x_ishr F dL_minute_257 ?_
              refine x_cast (y := nI (enc (List.drop i w9))) (row_sh (p := w9) (s := 3 * i) (k := i) h5 hl (by omega) (by omega)) ?_
              refine x_if_le F 355 dL_minute_258 (by decide) (fun h258 => ?_) (fun h258 => ?_)
              · rw [row_le h5 hl] at h258
                have hi9 : i = w9.length := by omega
                refine x_aload F dL_minute_355 7 rfl ?_
                refine x_iload_n F dL_minute_357 rfl 2 rfl ?_
                refine x_iconst F (v := 5) dL_minute_358 (by decide) ?_
                refine x_iadd F dL_minute_359 ?_
                refine x_cast (y := nI (8 * j + 5)) (nI_add (8 * j) 5) ?_
                refine x_dup2 F dL_minute_360 rfl rfl ?_
                refine y_iald F (hR 17 (by decide)) ss_17 (vp_in_nI (n := 8 * j + 5) (N := 56) (by omega) (by decide)) dL_minute_361 ?_
                refine x_cast (y := I9 17 (8 * j + 5)) (by rw [nI_clamp (by omega)]) ?_
                refine x_iconst F (v := 1) dL_minute_362 (by decide) ?_
                refine x_iadd F dL_minute_363 ?_
                refine y_iast F (hR 17 (by decide)) ss_17 (vp_in_nI (n := 8 * j + 5) (N := 56) (by omega) (by decide)) dL_minute_364 ?_
                refine x_world (congrArg (fun z => k_c cy ad q ns nt z (chargeL I9 J w9 i)) (show wI I9 17 ((nI (8 * j + 5)).toNatClampNeg) ((I9 17 (8 * j + 5)) + 1) = wI I9 17 (8 * j + 5) ((I9 17 (8 * j + 5)) + 1) by rw [nI_clamp (by omega)])) ?_
                rw [hQ]
                exact x_vret F hr hlk (by
              have eI : mPI I9 j ci = wI I9 17 (8 * j + 5) ((I9 17 (8 * j + 5)) + 1) := by simp [mPI, payLB, payLI, dueL, h134]
              have eJ : mPJ I9 J j ci w9 = chargeL I9 J w9 i := by rw [hi9]; simp [mPJ, payLB, dueL, h134]
              rw [hI9, hJ9, eI, eJ]) dL_minute_365
              · rw [row_le h5 hl] at h258
                have g1 := pD_lt (p := w9) (k := i - 1) h5
                have g2 := pD_lt (p := w9) (k := i) h5
                refine x_iload F dL_minute_261 1 rfl ?_
                refine x_iconst F (v := 3) dL_minute_263 (by decide) ?_
                refine x_iload F dL_minute_264 0 rfl ?_
                refine x_imul F dL_minute_266 ?_
                refine x_cast (y := nI (3 * i)) (pk_mul 3 i) ?_
                refine x_iconst F (v := 3) dL_minute_267 (by decide) ?_
                refine x_isub F dL_minute_268 ?_
                refine x_cast (y := nI (3 * i - 3)) (pk_sub (a := 3 * i) (b := 3) (by omega)) ?_
                refine x_ishr F dL_minute_269 ?_
                refine x_cast (y := nI (enc (List.drop (i - 1) w9))) (row_sh (p := w9) (s := 3 * i - 3) (k := i - 1) h5 hl (by omega) (by omega)) ?_
                refine x_bipush F (v := 7) dL_minute_270 (by decide) ?_
                refine x_iand F dL_minute_272 ?_
                refine x_cast (y := nI (List.getD w9 (i - 1) 0 + 1)) (row_an (p := w9) (k := i - 1) h5 hl (by omega)) ?_
                refine x_iconst F (v := 1) dL_minute_273 (by decide) ?_
                refine x_isub F dL_minute_274 ?_
                refine x_cast (y := nI (List.getD w9 (i - 1) 0)) (nI_pred (List.getD w9 (i - 1) 0)) ?_
                refine x_istore F [(9, .int (nI (List.getD w9 (i - 1) 0))), (8, .int (nI i)), (7, .int (nI (enc w9))), (0, .int (nI (8 * j))), (1, .ref (ad 12)), (2, .ref (ad 13)), (3, .ref (ad 14)), (4, .ref (ad 16)), (5, .ref (ad 17))] dL_minute_275 (by decide) rfl ?_
                refine x_iload F dL_minute_277 2 rfl ?_
                refine x_iconst F (v := 3) dL_minute_279 (by decide) ?_
                refine x_iload F dL_minute_280 1 rfl ?_
                refine x_imul F dL_minute_282 ?_
                refine x_cast (y := nI (3 * i)) (pk_mul 3 i) ?_
                refine x_ishr F dL_minute_283 ?_
                refine x_cast (y := nI (enc (List.drop i w9))) (row_sh (p := w9) (s := 3 * i) (k := i) h5 hl (by omega) (by omega)) ?_
                refine x_bipush F (v := 7) dL_minute_284 (by decide) ?_
                refine x_iand F dL_minute_286 ?_
                refine x_cast (y := nI (List.getD w9 i 0 + 1)) (row_an (p := w9) (k := i) h5 hl (by omega)) ?_
                refine x_iconst F (v := 1) dL_minute_287 (by decide) ?_
                refine x_isub F dL_minute_288 ?_
                refine x_cast (y := nI (List.getD w9 i 0)) (nI_pred (List.getD w9 i 0)) ?_
                refine x_istore F [(10, .int (nI (List.getD w9 i 0))), (9, .int (nI (List.getD w9 (i - 1) 0))), (8, .int (nI i)), (7, .int (nI (enc w9))), (0, .int (nI (8 * j))), (1, .ref (ad 12)), (2, .ref (ad 13)), (3, .ref (ad 14)), (4, .ref (ad 16)), (5, .ref (ad 17))] dL_minute_289 (by decide) rfl ?_
                refine x_aload_n F dL_minute_291 rfl 5 rfl ?_
                refine x_iconst F (v := 2) dL_minute_292 (by decide) ?_
                refine x_iconst F (v := 5) dL_minute_293 (by decide) ?_
                refine x_iload F dL_minute_294 1 rfl ?_
                refine x_imul F dL_minute_296 ?_
                refine x_cast (y := nI (5 * (List.getD w9 (i - 1) 0))) (pk_mul 5 (List.getD w9 (i - 1) 0)) ?_
                refine x_iload F dL_minute_297 0 rfl ?_
                refine x_iadd F dL_minute_299 ?_
                refine x_cast (y := nI (5 * (List.getD w9 (i - 1) 0) + (List.getD w9 i 0))) (nI_add (5 * (List.getD w9 (i - 1) 0)) (List.getD w9 i 0)) ?_
                refine x_imul F dL_minute_300 ?_
                refine x_cast (y := nI (2 * (5 * (List.getD w9 (i - 1) 0) + (List.getD w9 i 0)))) (pk_mul 2 (5 * (List.getD w9 (i - 1) 0) + (List.getD w9 i 0))) ?_
                refine y_iald F (hR 12 (by decide)) ss_12 (vp_in_nI (n := 2 * (5 * (List.getD w9 (i - 1) 0) + (List.getD w9 i 0))) (N := 50) (by omega) (by decide)) dL_minute_301 ?_
                refine x_cast (y := I9 12 (2 * (5 * (List.getD w9 (i - 1) 0) + (List.getD w9 i 0)))) (by rw [nI_clamp (by omega)]) ?_
                refine x_istore F [(11, .int (I9 12 (2 * (5 * (List.getD w9 (i - 1) 0) + (List.getD w9 i 0))))), (10, .int (nI (List.getD w9 i 0))), (9, .int (nI (List.getD w9 (i - 1) 0))), (8, .int (nI i)), (7, .int (nI (enc w9))), (0, .int (nI (8 * j))), (1, .ref (ad 12)), (2, .ref (ad 13)), (3, .ref (ad 14)), (4, .ref (ad 16)), (5, .ref (ad 17))] dL_minute_302 (by decide) rfl ?_
                refine x_aload_n F dL_minute_304 rfl 7 rfl ?_
                refine x_iconst F (v := 5) dL_minute_305 (by decide) ?_
                refine x_iload F dL_minute_306 2 rfl ?_
                refine x_imul F dL_minute_308 ?_
                refine x_cast (y := nI (5 * (List.getD w9 (i - 1) 0))) (pk_mul 5 (List.getD w9 (i - 1) 0)) ?_
                refine x_iload F dL_minute_309 1 rfl ?_
                refine x_iadd F dL_minute_311 ?_
                refine x_cast (y := nI (5 * (List.getD w9 (i - 1) 0) + (List.getD w9 i 0))) (nI_add (5 * (List.getD w9 (i - 1) 0)) (List.getD w9 i 0)) ?_
                refine x_dup2 F dL_minute_312 rfl rfl ?_
                refine y_lald F (hR 13 (by decide)) ss_13 (vp_in_nI (n := 5 * (List.getD w9 (i - 1) 0) + (List.getD w9 i 0)) (N := 25) (by omega) (by decide)) dL_minute_313 ?_
                refine x_castl (y := (chargeL I9 J w9 i) 13 (5 * (List.getD w9 (i - 1) 0) + (List.getD w9 i 0))) (by rw [nI_clamp (by omega)]) ?_
                refine x_iload F dL_minute_314 0 rfl ?_
                refine x_i2l F dL_minute_316 ?_
                refine x_ladd F dL_minute_317 ?_
                refine y_last F (hR 13 (by decide)) ss_13 (vp_in_nI (n := 5 * (List.getD w9 (i - 1) 0) + (List.getD w9 i 0)) (N := 25) (by omega) (by decide)) dL_minute_318 ?_
                refine x_world (congrArg (fun z => k_c cy ad q ns nt I9 z) (show wJ (chargeL I9 J w9 i) 13 (nI (5 * (List.getD w9 (i - 1) 0) + (List.getD w9 i 0))).toNatClampNeg (((chargeL I9 J w9 i) 13 (5 * (List.getD w9 (i - 1) 0) + (List.getD w9 i 0))) + ((I9 12 (2 * (5 * (List.getD w9 (i - 1) 0) + (List.getD w9 i 0)))).toInt64)) = wJ (chargeL I9 J w9 i) 13 (5 * (List.getD w9 (i - 1) 0) + (List.getD w9 i 0)) (((chargeL I9 J w9 i) 13 (5 * (List.getD w9 (i - 1) 0) + (List.getD w9 i 0))) + ((I9 12 (2 * (5 * (List.getD w9 (i - 1) 0) + (List.getD w9 i 0)))).toInt64)) by rw [nI_clamp (by omega)])) ?_
                refine x_aload_n F dL_minute_319 rfl 8 rfl ?_
                refine x_iconst F (v := 5) dL_minute_320 (by decide) ?_
                refine x_iload F dL_minute_321 2 rfl ?_
                refine x_imul F dL_minute_323 ?_
                refine x_cast (y := nI (5 * (List.getD w9 (i - 1) 0))) (pk_mul 5 (List.getD w9 (i - 1) 0)) ?_
                refine x_iload F dL_minute_324 1 rfl ?_
                refine x_iadd F dL_minute_326 ?_
                refine x_cast (y := nI (5 * (List.getD w9 (i - 1) 0) + (List.getD w9 i 0))) (nI_add (5 * (List.getD w9 (i - 1) 0)) (List.getD w9 i 0)) ?_
                refine x_dup2 F dL_minute_327 rfl rfl ?_
                refine y_lald F (hR 14 (by decide)) ss_14 (vp_in_nI (n := 5 * (List.getD w9 (i - 1) 0) + (List.getD w9 i 0)) (N := 25) (by omega) (by decide)) dL_minute_328 ?_
                refine x_castl (y := (wJ (chargeL I9 J w9 i) 13 (5 * (List.getD w9 (i - 1) 0) + (List.getD w9 i 0)) (((chargeL I9 J w9 i) 13 (5 * (List.getD w9 (i - 1) 0) + (List.getD w9 i 0))) + ((I9 12 (2 * (5 * (List.getD w9 (i - 1) 0) + (List.getD w9 i 0)))).toInt64))) 14 (5 * (List.getD w9 (i - 1) 0) + (List.getD w9 i 0))) (by rw [nI_clamp (by omega)]) ?_
                refine x_iload F dL_minute_329 0 rfl ?_
                refine x_i2l F dL_minute_331 ?_
                refine x_ladd F dL_minute_332 ?_
                refine y_last F (hR 14 (by decide)) ss_14 (vp_in_nI (n := 5 * (List.getD w9 (i - 1) 0) + (List.getD w9 i 0)) (N := 25) (by omega) (by decide)) dL_minute_333 ?_
                refine x_world (congrArg (fun z => k_c cy ad q ns nt I9 z) (show wJ (wJ (chargeL I9 J w9 i) 13 (5 * (List.getD w9 (i - 1) 0) + (List.getD w9 i 0)) (((chargeL I9 J w9 i) 13 (5 * (List.getD w9 (i - 1) 0) + (List.getD w9 i 0))) + ((I9 12 (2 * (5 * (List.getD w9 (i - 1) 0) + (List.getD w9 i 0)))).toInt64))) 14 (nI (5 * (List.getD w9 (i - 1) 0) + (List.getD w9 i 0))).toNatClampNeg (((wJ (chargeL I9 J w9 i) 13 (5 * (List.getD w9 (i - 1) 0) + (List.getD w9 i 0)) (((chargeL I9 J w9 i) 13 (5 * (List.getD w9 (i - 1) 0) + (List.getD w9 i 0))) + ((I9 12 (2 * (5 * (List.getD w9 (i - 1) 0) + (List.getD w9 i 0)))).toInt64))) 14 (5 * (List.getD w9 (i - 1) 0) + (List.getD w9 i 0))) + ((I9 12 (2 * (5 * (List.getD w9 (i - 1) 0) + (List.getD w9 i 0)))).toInt64)) = wJ (wJ (chargeL I9 J w9 i) 13 (5 * (List.getD w9 (i - 1) 0) + (List.getD w9 i 0)) (((chargeL I9 J w9 i) 13 (5 * (List.getD w9 (i - 1) 0) + (List.getD w9 i 0))) + ((I9 12 (2 * (5 * (List.getD w9 (i - 1) 0) + (List.getD w9 i 0)))).toInt64))) 14 (5 * (List.getD w9 (i - 1) 0) + (List.getD w9 i 0)) (((wJ (chargeL I9 J w9 i) 13 (5 * (List.getD w9 (i - 1) 0) + (List.getD w9 i 0)) (((chargeL I9 J w9 i) 13 (5 * (List.getD w9 (i - 1) 0) + (List.getD w9 i 0))) + ((I9 12 (2 * (5 * (List.getD w9 (i - 1) 0) + (List.getD w9 i 0)))).toInt64))) 14 (5 * (List.getD w9 (i - 1) 0) + (List.getD w9 i 0))) + ((I9 12 (2 * (5 * (List.getD w9 (i - 1) 0) + (List.getD w9 i 0)))).toInt64)) by rw [nI_clamp (by omega)])) ?_
                refine x_aload_n F dL_minute_334 rfl 8 rfl ?_
                refine x_iconst F (v := 5) dL_minute_335 (by decide) ?_
                refine x_iload F dL_minute_336 1 rfl ?_
                refine x_imul F dL_minute_338 ?_
                refine x_cast (y := nI (5 * (List.getD w9 i 0))) (pk_mul 5 (List.getD w9 i 0)) ?_
                refine x_iload F dL_minute_339 2 rfl ?_
                refine x_iadd F dL_minute_341 ?_
                refine x_cast (y := nI (5 * (List.getD w9 i 0) + (List.getD w9 (i - 1) 0))) (nI_add (5 * (List.getD w9 i 0)) (List.getD w9 (i - 1) 0)) ?_
                refine x_dup2 F dL_minute_342 rfl rfl ?_
                refine y_lald F (hR 14 (by decide)) ss_14 (vp_in_nI (n := 5 * (List.getD w9 i 0) + (List.getD w9 (i - 1) 0)) (N := 25) (by omega) (by decide)) dL_minute_343 ?_
                refine x_castl (y := (wJ (wJ (chargeL I9 J w9 i) 13 (5 * (List.getD w9 (i - 1) 0) + (List.getD w9 i 0)) (((chargeL I9 J w9 i) 13 (5 * (List.getD w9 (i - 1) 0) + (List.getD w9 i 0))) + ((I9 12 (2 * (5 * (List.getD w9 (i - 1) 0) + (List.getD w9 i 0)))).toInt64))) 14 (5 * (List.getD w9 (i - 1) 0) + (List.getD w9 i 0)) (((wJ (chargeL I9 J w9 i) 13 (5 * (List.getD w9 (i - 1) 0) + (List.getD w9 i 0)) (((chargeL I9 J w9 i) 13 (5 * (List.getD w9 (i - 1) 0) + (List.getD w9 i 0))) + ((I9 12 (2 * (5 * (List.getD w9 (i - 1) 0) + (List.getD w9 i 0)))).toInt64))) 14 (5 * (List.getD w9 (i - 1) 0) + (List.getD w9 i 0))) + ((I9 12 (2 * (5 * (List.getD w9 (i - 1) 0) + (List.getD w9 i 0)))).toInt64))) 14 (5 * (List.getD w9 i 0) + (List.getD w9 (i - 1) 0))) (by rw [nI_clamp (by omega)]) ?_
                refine x_iload F dL_minute_344 0 rfl ?_
                refine x_i2l F dL_minute_346 ?_
                refine x_lsub F dL_minute_347 ?_
                refine y_last F (hR 14 (by decide)) ss_14 (vp_in_nI (n := 5 * (List.getD w9 i 0) + (List.getD w9 (i - 1) 0)) (N := 25) (by omega) (by decide)) dL_minute_348 ?_
                refine x_world (congrArg (fun z => k_c cy ad q ns nt I9 z) (show wJ (wJ (wJ (chargeL I9 J w9 i) 13 (5 * (List.getD w9 (i - 1) 0) + (List.getD w9 i 0)) (((chargeL I9 J w9 i) 13 (5 * (List.getD w9 (i - 1) 0) + (List.getD w9 i 0))) + ((I9 12 (2 * (5 * (List.getD w9 (i - 1) 0) + (List.getD w9 i 0)))).toInt64))) 14 (5 * (List.getD w9 (i - 1) 0) + (List.getD w9 i 0)) (((wJ (chargeL I9 J w9 i) 13 (5 * (List.getD w9 (i - 1) 0) + (List.getD w9 i 0)) (((chargeL I9 J w9 i) 13 (5 * (List.getD w9 (i - 1) 0) + (List.getD w9 i 0))) + ((I9 12 (2 * (5 * (List.getD w9 (i - 1) 0) + (List.getD w9 i 0)))).toInt64))) 14 (5 * (List.getD w9 (i - 1) 0) + (List.getD w9 i 0))) + ((I9 12 (2 * (5 * (List.getD w9 (i - 1) 0) + (List.getD w9 i 0)))).toInt64))) 14 (nI (5 * (List.getD w9 i 0) + (List.getD w9 (i - 1) 0))).toNatClampNeg (((wJ (wJ (chargeL I9 J w9 i) 13 (5 * (List.getD w9 (i - 1) 0) + (List.getD w9 i 0)) (((chargeL I9 J w9 i) 13 (5 * (List.getD w9 (i - 1) 0) + (List.getD w9 i 0))) + ((I9 12 (2 * (5 * (List.getD w9 (i - 1) 0) + (List.getD w9 i 0)))).toInt64))) 14 (5 * (List.getD w9 (i - 1) 0) + (List.getD w9 i 0)) (((wJ (chargeL I9 J w9 i) 13 (5 * (List.getD w9 (i - 1) 0) + (List.getD w9 i 0)) (((chargeL I9 J w9 i) 13 (5 * (List.getD w9 (i - 1) 0) + (List.getD w9 i 0))) + ((I9 12 (2 * (5 * (List.getD w9 (i - 1) 0) + (List.getD w9 i 0)))).toInt64))) 14 (5 * (List.getD w9 (i - 1) 0) + (List.getD w9 i 0))) + ((I9 12 (2 * (5 * (List.getD w9 (i - 1) 0) + (List.getD w9 i 0)))).toInt64))) 14 (5 * (List.getD w9 i 0) + (List.getD w9 (i - 1) 0))) - ((I9 12 (2 * (5 * (List.getD w9 (i - 1) 0) + (List.getD w9 i 0)))).toInt64)) = wJ (wJ (wJ (chargeL I9 J w9 i) 13 (5 * (List.getD w9 (i - 1) 0) + (List.getD w9 i 0)) (((chargeL I9 J w9 i) 13 (5 * (List.getD w9 (i - 1) 0) + (List.getD w9 i 0))) + ((I9 12 (2 * (5 * (List.getD w9 (i - 1) 0) + (List.getD w9 i 0)))).toInt64))) 14 (5 * (List.getD w9 (i - 1) 0) + (List.getD w9 i 0)) (((wJ (chargeL I9 J w9 i) 13 (5 * (List.getD w9 (i - 1) 0) + (List.getD w9 i 0)) (((chargeL I9 J w9 i) 13 (5 * (List.getD w9 (i - 1) 0) + (List.getD w9 i 0))) + ((I9 12 (2 * (5 * (List.getD w9 (i - 1) 0) + (List.getD w9 i 0)))).toInt64))) 14 (5 * (List.getD w9 (i - 1) 0) + (List.getD w9 i 0))) + ((I9 12 (2 * (5 * (List.getD w9 (i - 1) 0) + (List.getD w9 i 0)))).toInt64))) 14 (5 * (List.getD w9 i 0) + (List.getD w9 (i - 1) 0)) (((wJ (wJ (chargeL I9 J w9 i) 13 (5 * (List.getD w9 (i - 1) 0) + (List.getD w9 i 0)) (((chargeL I9 J w9 i) 13 (5 * (List.getD w9 (i - 1) 0) + (List.getD w9 i 0))) + ((I9 12 (2 * (5 * (List.getD w9 (i - 1) 0) + (List.getD w9 i 0)))).toInt64))) 14 (5 * (List.getD w9 (i - 1) 0) + (List.getD w9 i 0)) (((wJ (chargeL I9 J w9 i) 13 (5 * (List.getD w9 (i - 1) 0) + (List.getD w9 i 0)) (((chargeL I9 J w9 i) 13 (5 * (List.getD w9 (i - 1) 0) + (List.getD w9 i 0))) + ((I9 12 (2 * (5 * (List.getD w9 (i - 1) 0) + (List.getD w9 i 0)))).toInt64))) 14 (5 * (List.getD w9 (i - 1) 0) + (List.getD w9 i 0))) + ((I9 12 (2 * (5 * (List.getD w9 (i - 1) 0) + (List.getD w9 i 0)))).toInt64))) 14 (5 * (List.getD w9 i 0) + (List.getD w9 (i - 1) 0))) - ((I9 12 (2 * (5 * (List.getD w9 (i - 1) 0) + (List.getD w9 i 0)))).toInt64)) by rw [nI_clamp (by omega)])) ?_
                refine x_iinc F [(8, .int ((nI i) + 1)), (11, .int (I9 12 (2 * (5 * (List.getD w9 (i - 1) 0) + (List.getD w9 i 0))))), (10, .int (nI (List.getD w9 i 0))), (9, .int (nI (List.getD w9 (i - 1) 0))), (7, .int (nI (enc w9))), (0, .int (nI (8 * j))), (1, .ref (ad 12)), (2, .ref (ad 13)), (3, .ref (ad 14)), (4, .ref (ad 16)), (5, .ref (ad 17))] dL_minute_349 3 rfl (by decide) rfl ?_
                refine x_goto F 251 dL_minute_352 (by decide) ?_
                refine x_world (congrArg (fun z => k_c cy ad q ns nt I9 z) (show wJ (wJ (wJ (chargeL I9 J w9 i) 13 (5 * (List.getD w9 (i - 1) 0) + (List.getD w9 i 0)) (((chargeL I9 J w9 i) 13 (5 * (List.getD w9 (i - 1) 0) + (List.getD w9 i 0))) + ((I9 12 (2 * (5 * (List.getD w9 (i - 1) 0) + (List.getD w9 i 0)))).toInt64))) 14 (5 * (List.getD w9 (i - 1) 0) + (List.getD w9 i 0)) (((wJ (chargeL I9 J w9 i) 13 (5 * (List.getD w9 (i - 1) 0) + (List.getD w9 i 0)) (((chargeL I9 J w9 i) 13 (5 * (List.getD w9 (i - 1) 0) + (List.getD w9 i 0))) + ((I9 12 (2 * (5 * (List.getD w9 (i - 1) 0) + (List.getD w9 i 0)))).toInt64))) 14 (5 * (List.getD w9 (i - 1) 0) + (List.getD w9 i 0))) + ((I9 12 (2 * (5 * (List.getD w9 (i - 1) 0) + (List.getD w9 i 0)))).toInt64))) 14 (5 * (List.getD w9 i 0) + (List.getD w9 (i - 1) 0)) (((wJ (wJ (chargeL I9 J w9 i) 13 (5 * (List.getD w9 (i - 1) 0) + (List.getD w9 i 0)) (((chargeL I9 J w9 i) 13 (5 * (List.getD w9 (i - 1) 0) + (List.getD w9 i 0))) + ((I9 12 (2 * (5 * (List.getD w9 (i - 1) 0) + (List.getD w9 i 0)))).toInt64))) 14 (5 * (List.getD w9 (i - 1) 0) + (List.getD w9 i 0)) (((wJ (chargeL I9 J w9 i) 13 (5 * (List.getD w9 (i - 1) 0) + (List.getD w9 i 0)) (((chargeL I9 J w9 i) 13 (5 * (List.getD w9 (i - 1) 0) + (List.getD w9 i 0))) + ((I9 12 (2 * (5 * (List.getD w9 (i - 1) 0) + (List.getD w9 i 0)))).toInt64))) 14 (5 * (List.getD w9 (i - 1) 0) + (List.getD w9 i 0))) + ((I9 12 (2 * (5 * (List.getD w9 (i - 1) 0) + (List.getD w9 i 0)))).toInt64))) 14 (5 * (List.getD w9 i 0) + (List.getD w9 (i - 1) 0))) - ((I9 12 (2 * (5 * (List.getD w9 (i - 1) 0) + (List.getD w9 i 0)))).toInt64)) = chargeL I9 J w9 (i + 1) by rw [chargeL, if_neg (by omega)]; rfl)) ?_
                rw [nI_1]
                refine x_sub [0, 4, 5, 6, 7, 8, 9, 10] rfl ?_
                exact ih251 (i + 1) (by omega) (by omega) (by omega)
          refine x_world (congrArg (fun z => k_c cy ad q ns nt I9 z) (show J = chargeL I9 J w9 1 by rw [chargeL, if_pos rfl])) ?_
          refine x_sub [0, 1, 2, 3, 4, 5, 6, 7] rfl ?_
          exact lp251 (w9.length + 1) 1 (by omega) (by omega) (by omega)
        · exact absurd ((nI_eq (a := enc w9) (b := 0) (by omega) (by omega)).mp h237) (by omega)
      · refine x_iconst F (v := 4) dL_minute_137 (by decide) ?_
        refine x_aload F dL_minute_138 6 rfl ?_
        refine x_iload_n F dL_minute_140 rfl 1 rfl ?_
        refine y_iald F (hR 17 (by decide)) ss_17 (vp_in_nI (n := 8 * j) (N := 56) (by omega) (by decide)) dL_minute_141 ?_
        refine x_cast (y := I9 17 (8 * j)) (by rw [nI_clamp (by omega)]) ?_
        refine x_cast (y := nI ci) (hc9) ?_
        refine x_imul F dL_minute_142 ?_
        refine x_cast (y := nI (4 * ci)) (pk_mul 4 ci) ?_
        refine x_istore F [(8, .int (nI (4 * ci))), (7, .int (nI (enc w9))), (0, .int (nI (8 * j))), (1, .ref (ad 12)), (2, .ref (ad 13)), (3, .ref (ad 14)), (4, .ref (ad 16)), (5, .ref (ad 17))] dL_minute_143 (by decide) rfl ?_
        refine x_aload F dL_minute_145 6 rfl ?_
        refine x_iload F dL_minute_147 0 rfl ?_
        refine x_iconst F (v := 2) dL_minute_149 (by decide) ?_
        refine x_iadd F dL_minute_150 ?_
        refine x_cast (y := nI (4 * ci + 2)) (nI_add (4 * ci) 2) ?_
        refine y_iald F (hR 16 (by decide)) ss_16 (vp_in_nI (n := 4 * ci + 2) (N := 32) (by omega) (by decide)) dL_minute_151 ?_
        refine x_cast (y := I9 16 (4 * ci + 2)) (by rw [nI_clamp (by omega)]) ?_
        refine x_aload F dL_minute_152 7 rfl ?_
        refine x_iload_n F dL_minute_154 rfl 2 rfl ?_
        refine x_iconst F (v := 3) dL_minute_155 (by decide) ?_
        refine x_iadd F dL_minute_156 ?_
        refine x_cast (y := nI (8 * j + 3)) (nI_add (8 * j) 3) ?_
        refine y_iald F (hR 17 (by decide)) ss_17 (vp_in_nI (n := 8 * j + 3) (N := 56) (by omega) (by decide)) dL_minute_157 ?_
        refine x_cast (y := I9 17 (8 * j + 3)) (by rw [nI_clamp (by omega)]) ?_
        refine x_icmp_lt F 165 dL_minute_158 (by decide) (fun h158 => ?_) (fun h158 => ?_)
        · refine x_iconst F (v := 0) dL_minute_165 (by decide) ?_
          refine x_istore F [(9, .int 0), (8, .int (nI (4 * ci))), (7, .int (nI (enc w9))), (0, .int (nI (8 * j))), (1, .ref (ad 12)), (2, .ref (ad 13)), (3, .ref (ad 14)), (4, .ref (ad 16)), (5, .ref (ad 17))] dL_minute_166 (by decide) rfl ?_
          refine x_iload F dL_minute_168 0 rfl ?_
          refine x_if_ne F 195 dL_minute_170 (by decide) (fun h170 => ?_) (fun h170 => ?_)
          · exact False.elim (by revert h170; decide)
          · refine x_aload F dL_minute_173 7 rfl ?_
            refine x_iload F dL_minute_175 1 rfl ?_
            refine x_iconst F (v := 1) dL_minute_177 (by decide) ?_
            refine x_iadd F dL_minute_178 ?_
            refine x_cast (y := nI (4 * ci + 1)) (nI_add (4 * ci) 1) ?_
            refine y_iald F (hR 16 (by decide)) ss_16 (vp_in_nI (n := 4 * ci + 1) (N := 32) (by omega) (by decide)) dL_minute_179 ?_
            refine x_cast (y := I9 16 (4 * ci + 1)) (by rw [nI_clamp (by omega)]) ?_
            refine x_aload F dL_minute_180 8 rfl ?_
            refine x_iload_n F dL_minute_182 rfl 3 rfl ?_
            refine x_iconst F (v := 4) dL_minute_183 (by decide) ?_
            refine x_iadd F dL_minute_184 ?_
            refine x_cast (y := nI (8 * j + 4)) (nI_add (8 * j) 4) ?_
            refine y_iald F (hR 17 (by decide)) ss_17 (vp_in_nI (n := 8 * j + 4) (N := 56) (by omega) (by decide)) dL_minute_185 ?_
            refine x_cast (y := I9 17 (8 * j + 4)) (by rw [nI_clamp (by omega)]) ?_
            refine x_icmp_ge F 195 dL_minute_186 (by decide) (fun h186 => ?_) (fun h186 => ?_)
            · refine x_iload F dL_minute_195 0 rfl ?_
              refine x_if_eq F 219 dL_minute_197 (by decide) (fun h197 => ?_) (fun h197 => ?_)
              · refine x_aload F dL_minute_219 7 rfl ?_
                refine x_iload F dL_minute_221 1 rfl ?_
                refine x_iconst F (v := 1) dL_minute_223 (by decide) ?_
                refine x_iadd F dL_minute_224 ?_
                refine x_cast (y := nI (4 * ci + 1)) (nI_add (4 * ci) 1) ?_
                refine x_dup2 F dL_minute_225 rfl rfl ?_
                refine y_iald F (hR 16 (by decide)) ss_16 (vp_in_nI (n := 4 * ci + 1) (N := 32) (by omega) (by decide)) dL_minute_226 ?_
                refine x_cast (y := I9 16 (4 * ci + 1)) (by rw [nI_clamp (by omega)]) ?_
                refine x_aload F dL_minute_227 8 rfl ?_
                refine x_iload_n F dL_minute_229 rfl 3 rfl ?_
                refine x_iconst F (v := 4) dL_minute_230 (by decide) ?_
                refine x_iadd F dL_minute_231 ?_
                refine x_cast (y := nI (8 * j + 4)) (nI_add (8 * j) 4) ?_
                refine y_iald F (hR 17 (by decide)) ss_17 (vp_in_nI (n := 8 * j + 4) (N := 56) (by omega) (by decide)) dL_minute_232 ?_
                refine x_cast (y := I9 17 (8 * j + 4)) (by rw [nI_clamp (by omega)]) ?_
                refine x_isub F dL_minute_233 ?_
                refine y_iast F (hR 16 (by decide)) ss_16 (vp_in_nI (n := 4 * ci + 1) (N := 32) (by omega) (by decide)) dL_minute_234 ?_
                refine x_world (congrArg (fun z => k_c cy ad q ns nt z J) (show wI I9 16 ((nI (4 * ci + 1)).toNatClampNeg) ((I9 16 (4 * ci + 1)) - (I9 17 (8 * j + 4))) = wI I9 16 (4 * ci + 1) ((I9 16 (4 * ci + 1)) - (I9 17 (8 * j + 4))) by rw [nI_clamp (by omega)])) ?_
                refine x_iload F dL_minute_235 2 rfl ?_
                refine x_if_ne F 248 dL_minute_237 (by decide) (fun h237 => ?_) (fun h237 => ?_)
                · refine x_iconst F (v := 1) dL_minute_248 (by decide) ?_
                  refine x_istore F [(8, .int 1), (9, .int 0), (7, .int (nI (enc w9))), (0, .int (nI (8 * j))), (1, .ref (ad 12)), (2, .ref (ad 13)), (3, .ref (ad 14)), (4, .ref (ad 16)), (5, .ref (ad 17))] dL_minute_249 (by decide) rfl ?_
                  have lp251 : ∀ (fu251 : Nat) (i : Nat), w9.length - i < fu251 → (1 ≤ i) → (i ≤ w9.length) → XW D lo p l e { frames := 2, cells := 0, slots := 0, locals := 60 } s m args below meth c 12 0 0 Q R ad (k_c cy ad q ns nt (wI I9 16 (4 * ci + 1) ((I9 16 (4 * ci + 1)) - (I9 17 (8 * j + 4)))) (chargeL I9 J w9 i)) 251 [(8, .int (nI i)), (7, .int (nI (enc w9))), (0, .int (nI (8 * j))), (1, .ref (ad 12)), (2, .ref (ad 13)), (3, .ref (ad 14)), (4, .ref (ad 16)), (5, .ref (ad 17))] [] := by
                    intro fu251
                    induction fu251 with
                    | zero => intro i hf251; exact absurd hf251 (Nat.not_lt_zero _)
                    | succ fu251 ih251 =>
                      intro i hf251 hi1 hi
                      refine x_iload F dL_minute_251 1 rfl ?_
                      refine x_iconst F (v := 3) dL_minute_253 (by decide) ?_
                      refine x_iload F dL_minute_254 0 rfl ?_
                      refine x_imul F dL_minute_256 ?_
                      refine x_cast (y := nI (3 * i)) (pk_mul 3 i) ?_
                      refine x_ishr F dL_minute_257 ?_
                      refine x_cast (y := nI (enc (List.drop i w9))) (row_sh (p := w9) (s := 3 * i) (k := i) h5 hl (by omega) (by omega)) ?_
                      refine x_if_le F 355 dL_minute_258 (by decide) (fun h258 => ?_) (fun h258 => ?_)
                      · rw [row_le h5 hl] at h258
                        have hi9 : i = w9.length := by omega
                        refine x_aload F dL_minute_355 7 rfl ?_
                        refine x_iload_n F dL_minute_357 rfl 2 rfl ?_
                        refine x_iconst F (v := 5) dL_minute_358 (by decide) ?_
                        refine x_iadd F dL_minute_359 ?_
                        refine x_cast (y := nI (8 * j + 5)) (nI_add (8 * j) 5) ?_
                        refine x_dup2 F dL_minute_360 rfl rfl ?_
                        refine y_iald F (hR 17 (by decide)) ss_17 (vp_in_nI (n := 8 * j + 5) (N := 56) (by omega) (by decide)) dL_minute_361 ?_
                        refine x_cast (y := (wI I9 16 (4 * ci + 1) ((I9 16 (4 * ci + 1)) - (I9 17 (8 * j + 4)))) 17 (8 * j + 5)) (by rw [nI_clamp (by omega)]) ?_
                        refine x_cast (y := (I9 17 (8 * j + 5))) (by first | rfl | simp [wI_eq]) ?_
                        refine x_iconst F (v := 1) dL_minute_362 (by decide) ?_
                        refine x_iadd F dL_minute_363 ?_
                        refine y_iast F (hR 17 (by decide)) ss_17 (vp_in_nI (n := 8 * j + 5) (N := 56) (by omega) (by decide)) dL_minute_364 ?_
                        refine x_world (congrArg (fun z => k_c cy ad q ns nt z (chargeL I9 J w9 i)) (show wI (wI I9 16 (4 * ci + 1) ((I9 16 (4 * ci + 1)) - (I9 17 (8 * j + 4)))) 17 ((nI (8 * j + 5)).toNatClampNeg) ((I9 17 (8 * j + 5)) + 1) = wI (wI I9 16 (4 * ci + 1) ((I9 16 (4 * ci + 1)) - (I9 17 (8 * j + 4)))) 17 (8 * j + 5) ((I9 17 (8 * j + 5)) + 1) by rw [nI_clamp (by omega)])) ?_
                        rw [hQ]
                        exact x_vret F hr hlk (by
                      have eI : mPI I9 j ci = wI (wI I9 16 (4 * ci + 1) ((I9 16 (4 * ci + 1)) - (I9 17 (8 * j + 4)))) 17 (8 * j + 5) ((I9 17 (8 * j + 5)) + 1) := by simp [mPI, payLB, payLI, dueL, h134, h158, Int32.not_lt.mpr h186]
                      have eJ : mPJ I9 J j ci w9 = chargeL I9 J w9 i := by rw [hi9]; simp [mPJ, payLB, dueL, h134, h158, Int32.not_lt.mpr h186]
                      rw [hI9, hJ9, eI, eJ]) dL_minute_365
                      · rw [row_le h5 hl] at h258
                        have g1 := pD_lt (p := w9) (k := i - 1) h5
                        have g2 := pD_lt (p := w9) (k := i) h5
                        refine x_iload F dL_minute_261 1 rfl ?_
                        refine x_iconst F (v := 3) dL_minute_263 (by decide) ?_
                        refine x_iload F dL_minute_264 0 rfl ?_
                        refine x_imul F dL_minute_266 ?_
                        refine x_cast (y := nI (3 * i)) (pk_mul 3 i) ?_
                        refine x_iconst F (v := 3) dL_minute_267 (by decide) ?_
                        refine x_isub F dL_minute_268 ?_
                        refine x_cast (y := nI (3 * i - 3)) (pk_sub (a := 3 * i) (b := 3) (by omega)) ?_
                        refine x_ishr F dL_minute_269 ?_
                        refine x_cast (y := nI (enc (List.drop (i - 1) w9))) (row_sh (p := w9) (s := 3 * i - 3) (k := i - 1) h5 hl (by omega) (by omega)) ?_
                        refine x_bipush F (v := 7) dL_minute_270 (by decide) ?_
                        refine x_iand F dL_minute_272 ?_
                        refine x_cast (y := nI (List.getD w9 (i - 1) 0 + 1)) (row_an (p := w9) (k := i - 1) h5 hl (by omega)) ?_
                        refine x_iconst F (v := 1) dL_minute_273 (by decide) ?_
                        refine x_isub F dL_minute_274 ?_
                        refine x_cast (y := nI (List.getD w9 (i - 1) 0)) (nI_pred (List.getD w9 (i - 1) 0)) ?_
                        refine x_istore F [(9, .int (nI (List.getD w9 (i - 1) 0))), (8, .int (nI i)), (7, .int (nI (enc w9))), (0, .int (nI (8 * j))), (1, .ref (ad 12)), (2, .ref (ad 13)), (3, .ref (ad 14)), (4, .ref (ad 16)), (5, .ref (ad 17))] dL_minute_275 (by decide) rfl ?_
                        refine x_iload F dL_minute_277 2 rfl ?_
                        refine x_iconst F (v := 3) dL_minute_279 (by decide) ?_
                        refine x_iload F dL_minute_280 1 rfl ?_
                        refine x_imul F dL_minute_282 ?_
                        refine x_cast (y := nI (3 * i)) (pk_mul 3 i) ?_
                        refine x_ishr F dL_minute_283 ?_
                        refine x_cast (y := nI (enc (List.drop i w9))) (row_sh (p := w9) (s := 3 * i) (k := i) h5 hl (by omega) (by omega)) ?_
                        refine x_bipush F (v := 7) dL_minute_284 (by decide) ?_
                        refine x_iand F dL_minute_286 ?_
                        refine x_cast (y := nI (List.getD w9 i 0 + 1)) (row_an (p := w9) (k := i) h5 hl (by omega)) ?_
                        refine x_iconst F (v := 1) dL_minute_287 (by decide) ?_
                        refine x_isub F dL_minute_288 ?_
                        refine x_cast (y := nI (List.getD w9 i 0)) (nI_pred (List.getD w9 i 0)) ?_
                        refine x_istore F [(10, .int (nI (List.getD w9 i 0))), (9, .int (nI (List.getD w9 (i - 1) 0))), (8, .int (nI i)), (7, .int (nI (enc w9))), (0, .int (nI (8 * j))), (1, .ref (ad 12)), (2, .ref (ad 13)), (3, .ref (ad 14)), (4, .ref (ad 16)), (5, .ref (ad 17))] dL_minute_289 (by decide) rfl ?_
                        refine x_aload_n F dL_minute_291 rfl 5 rfl ?_
                        refine x_iconst F (v := 2) dL_minute_292 (by decide) ?_
                        refine x_iconst F (v := 5) dL_minute_293 (by decide) ?_
                        refine x_iload F dL_minute_294 1 rfl ?_
                        refine x_imul F dL_minute_296 ?_
                        refine x_cast (y := nI (5 * (List.getD w9 (i - 1) 0))) (pk_mul 5 (List.getD w9 (i - 1) 0)) ?_
                        refine x_iload F dL_minute_297 0 rfl ?_
                        refine x_iadd F dL_minute_299 ?_
                        refine x_cast (y := nI (5 * (List.getD w9 (i - 1) 0) + (List.getD w9 i 0))) (nI_add (5 * (List.getD w9 (i - 1) 0)) (List.getD w9 i 0)) ?_
                        refine x_imul F dL_minute_300 ?_
                        refine x_cast (y := nI (2 * (5 * (List.getD w9 (i - 1) 0) + (List.getD w9 i 0)))) (pk_mul 2 (5 * (List.getD w9 (i - 1) 0) + (List.getD w9 i 0))) ?_
                        refine y_iald F (hR 12 (by decide)) ss_12 (vp_in_nI (n := 2 * (5 * (List.getD w9 (i - 1) 0) + (List.getD w9 i 0))) (N := 50) (by omega) (by decide)) dL_minute_301 ?_
                        refine x_cast (y := (wI I9 16 (4 * ci + 1) ((I9 16 (4 * ci + 1)) - (I9 17 (8 * j + 4)))) 12 (2 * (5 * (List.getD w9 (i - 1) 0) + (List.getD w9 i 0)))) (by rw [nI_clamp (by omega)]) ?_
                        refine x_cast (y := (I9 12 (2 * (5 * (List.getD w9 (i - 1) 0) + (List.getD w9 i 0))))) (by first | rfl | simp [wI_eq]) ?_
                        refine x_istore F [(11, .int (I9 12 (2 * (5 * (List.getD w9 (i - 1) 0) + (List.getD w9 i 0))))), (10, .int (nI (List.getD w9 i 0))), (9, .int (nI (List.getD w9 (i - 1) 0))), (8, .int (nI i)), (7, .int (nI (enc w9))), (0, .int (nI (8 * j))), (1, .ref (ad 12)), (2, .ref (ad 13)), (3, .ref (ad 14)), (4, .ref (ad 16)), (5, .ref (ad 17))] dL_minute_302 (by decide) rfl ?_
                        refine x_aload_n F dL_minute_304 rfl 7 rfl ?_
                        refine x_iconst F (v := 5) dL_minute_305 (by decide) ?_
                        refine x_iload F dL_minute_306 2 rfl ?_
                        refine x_imul F dL_minute_308 ?_
                        refine x_cast (y := nI (5 * (List.getD w9 (i - 1) 0))) (pk_mul 5 (List.getD w9 (i - 1) 0)) ?_
                        refine x_iload F dL_minute_309 1 rfl ?_
                        refine x_iadd F dL_minute_311 ?_
                        refine x_cast (y := nI (5 * (List.getD w9 (i - 1) 0) + (List.getD w9 i 0))) (nI_add (5 * (List.getD w9 (i - 1) 0)) (List.getD w9 i 0)) ?_
                        refine x_dup2 F dL_minute_312 rfl rfl ?_
                        refine y_lald F (hR 13 (by decide)) ss_13 (vp_in_nI (n := 5 * (List.getD w9 (i - 1) 0) + (List.getD w9 i 0)) (N := 25) (by omega) (by decide)) dL_minute_313 ?_
                        refine x_castl (y := (chargeL I9 J w9 i) 13 (5 * (List.getD w9 (i - 1) 0) + (List.getD w9 i 0))) (by rw [nI_clamp (by omega)]) ?_
                        refine x_iload F dL_minute_314 0 rfl ?_
                        refine x_i2l F dL_minute_316 ?_
                        refine x_ladd F dL_minute_317 ?_
                        refine y_last F (hR 13 (by decide)) ss_13 (vp_in_nI (n := 5 * (List.getD w9 (i - 1) 0) + (List.getD w9 i 0)) (N := 25) (by omega) (by decide)) dL_minute_318 ?_
                        refine x_world (congrArg (fun z => k_c cy ad q ns nt (wI I9 16 (4 * ci + 1) ((I9 16 (4 * ci + 1)) - (I9 17 (8 * j + 4)))) z) (show wJ (chargeL I9 J w9 i) 13 (nI (5 * (List.getD w9 (i - 1) 0) + (List.getD w9 i 0))).toNatClampNeg (((chargeL I9 J w9 i) 13 (5 * (List.getD w9 (i - 1) 0) + (List.getD w9 i 0))) + ((I9 12 (2 * (5 * (List.getD w9 (i - 1) 0) + (List.getD w9 i 0)))).toInt64)) = wJ (chargeL I9 J w9 i) 13 (5 * (List.getD w9 (i - 1) 0) + (List.getD w9 i 0)) (((chargeL I9 J w9 i) 13 (5 * (List.getD w9 (i - 1) 0) + (List.getD w9 i 0))) + ((I9 12 (2 * (5 * (List.getD w9 (i - 1) 0) + (List.getD w9 i 0)))).toInt64)) by rw [nI_clamp (by omega)])) ?_
                        refine x_aload_n F dL_minute_319 rfl 8 rfl ?_
                        refine x_iconst F (v := 5) dL_minute_320 (by decide) ?_
                        refine x_iload F dL_minute_321 2 rfl ?_
                        refine x_imul F dL_minute_323 ?_
                        refine x_cast (y := nI (5 * (List.getD w9 (i - 1) 0))) (pk_mul 5 (List.getD w9 (i - 1) 0)) ?_
                        refine x_iload F dL_minute_324 1 rfl ?_
                        refine x_iadd F dL_minute_326 ?_
                        refine x_cast (y := nI (5 * (List.getD w9 (i - 1) 0) + (List.getD w9 i 0))) (nI_add (5 * (List.getD w9 (i - 1) 0)) (List.getD w9 i 0)) ?_
                        refine x_dup2 F dL_minute_327 rfl rfl ?_
                        refine y_lald F (hR 14 (by decide)) ss_14 (vp_in_nI (n := 5 * (List.getD w9 (i - 1) 0) + (List.getD w9 i 0)) (N := 25) (by omega) (by decide)) dL_minute_328 ?_
                        refine x_castl (y := (wJ (chargeL I9 J w9 i) 13 (5 * (List.getD w9 (i - 1) 0) + (List.getD w9 i 0)) (((chargeL I9 J w9 i) 13 (5 * (List.getD w9 (i - 1) 0) + (List.getD w9 i 0))) + ((I9 12 (2 * (5 * (List.getD w9 (i - 1) 0) + (List.getD w9 i 0)))).toInt64))) 14 (5 * (List.getD w9 (i - 1) 0) + (List.getD w9 i 0))) (by rw [nI_clamp (by omega)]) ?_
                        refine x_iload F dL_minute_329 0 rfl ?_
                        refine x_i2l F dL_minute_331 ?_
                        refine x_ladd F dL_minute_332 ?_
                        refine y_last F (hR 14 (by decide)) ss_14 (vp_in_nI (n := 5 * (List.getD w9 (i - 1) 0) + (List.getD w9 i 0)) (N := 25) (by omega) (by decide)) dL_minute_333 ?_
                        refine x_world (congrArg (fun z => k_c cy ad q ns nt (wI I9 16 (4 * ci + 1) ((I9 16 (4 * ci + 1)) - (I9 17 (8 * j + 4)))) z) (show wJ (wJ (chargeL I9 J w9 i) 13 (5 * (List.getD w9 (i - 1) 0) + (List.getD w9 i 0)) (((chargeL I9 J w9 i) 13 (5 * (List.getD w9 (i - 1) 0) + (List.getD w9 i 0))) + ((I9 12 (2 * (5 * (List.getD w9 (i - 1) 0) + (List.getD w9 i 0)))).toInt64))) 14 (nI (5 * (List.getD w9 (i - 1) 0) + (List.getD w9 i 0))).toNatClampNeg (((wJ (chargeL I9 J w9 i) 13 (5 * (List.getD w9 (i - 1) 0) + (List.getD w9 i 0)) (((chargeL I9 J w9 i) 13 (5 * (List.getD w9 (i - 1) 0) + (List.getD w9 i 0))) + ((I9 12 (2 * (5 * (List.getD w9 (i - 1) 0) + (List.getD w9 i 0)))).toInt64))) 14 (5 * (List.getD w9 (i - 1) 0) + (List.getD w9 i 0))) + ((I9 12 (2 * (5 * (List.getD w9 (i - 1) 0) + (List.getD w9 i 0)))).toInt64)) = wJ (wJ (chargeL I9 J w9 i) 13 (5 * (List.getD w9 (i - 1) 0) + (List.getD w9 i 0)) (((chargeL I9 J w9 i) 13 (5 * (List.getD w9 (i - 1) 0) + (List.getD w9 i 0))) + ((I9 12 (2 * (5 * (List.getD w9 (i - 1) 0) + (List.getD w9 i 0)))).toInt64))) 14 (5 * (List.getD w9 (i - 1) 0) + (List.getD w9 i 0)) (((wJ (chargeL I9 J w9 i) 13 (5 * (List.getD w9 (i - 1) 0) + (List.getD w9 i 0)) (((chargeL I9 J w9 i) 13 (5 * (List.getD w9 (i - 1) 0) + (List.getD w9 i 0))) + ((I9 12 (2 * (5 * (List.getD w9 (i - 1) 0) + (List.getD w9 i 0)))).toInt64))) 14 (5 * (List.getD w9 (i - 1) 0) + (List.getD w9 i 0))) + ((I9 12 (2 * (5 * (List.getD w9 (i - 1) 0) + (List.getD w9 i 0)))).toInt64)) by rw [nI_clamp (by omega)])) ?_
                        refine x_aload_n F dL_minute_334 rfl 8 rfl ?_
                        refine x_iconst F (v := 5) dL_minute_335 (by decide) ?_
                        refine x_iload F dL_minute_336 1 rfl ?_
                        refine x_imul F dL_minute_338 ?_
                        refine x_cast (y := nI (5 * (List.getD w9 i 0))) (pk_mul 5 (List.getD w9 i 0)) ?_
                        refine x_iload F dL_minute_339 2 rfl ?_
                        refine x_iadd F dL_minute_341 ?_
                        refine x_cast (y := nI (5 * (List.getD w9 i 0) + (List.getD w9 (i - 1) 0))) (nI_add (5 * (List.getD w9 i 0)) (List.getD w9 (i - 1) 0)) ?_
                        refine x_dup2 F dL_minute_342 rfl rfl ?_
                        refine y_lald F (hR 14 (by decide)) ss_14 (vp_in_nI (n := 5 * (List.getD w9 i 0) + (List.getD w9 (i - 1) 0)) (N := 25) (by omega) (by decide)) dL_minute_343 ?_
                        refine x_castl (y := (wJ (wJ (chargeL I9 J w9 i) 13 (5 * (List.getD w9 (i - 1) 0) + (List.getD w9 i 0)) (((chargeL I9 J w9 i) 13 (5 * (List.getD w9 (i - 1) 0) + (List.getD w9 i 0))) + ((I9 12 (2 * (5 * (List.getD w9 (i - 1) 0) + (List.getD w9 i 0)))).toInt64))) 14 (5 * (List.getD w9 (i - 1) 0) + (List.getD w9 i 0)) (((wJ (chargeL I9 J w9 i) 13 (5 * (List.getD w9 (i - 1) 0) + (List.getD w9 i 0)) (((chargeL I9 J w9 i) 13 (5 * (List.getD w9 (i - 1) 0) + (List.getD w9 i 0))) + ((I9 12 (2 * (5 * (List.getD w9 (i - 1) 0) + (List.getD w9 i 0)))).toInt64))) 14 (5 * (List.getD w9 (i - 1) 0) + (List.getD w9 i 0))) + ((I9 12 (2 * (5 * (List.getD w9 (i - 1) 0) + (List.getD w9 i 0)))).toInt64))) 14 (5 * (List.getD w9 i 0) + (List.getD w9 (i - 1) 0))) (by rw [nI_clamp (by omega)]) ?_
                        refine x_iload F dL_minute_344 0 rfl ?_
                        refine x_i2l F dL_minute_346 ?_
                        refine x_lsub F dL_minute_347 ?_
                        refine y_last F (hR 14 (by decide)) ss_14 (vp_in_nI (n := 5 * (List.getD w9 i 0) + (List.getD w9 (i - 1) 0)) (N := 25) (by omega) (by decide)) dL_minute_348 ?_
                        refine x_world (congrArg (fun z => k_c cy ad q ns nt (wI I9 16 (4 * ci + 1) ((I9 16 (4 * ci + 1)) - (I9 17 (8 * j + 4)))) z) (show wJ (wJ (wJ (chargeL I9 J w9 i) 13 (5 * (List.getD w9 (i - 1) 0) + (List.getD w9 i 0)) (((chargeL I9 J w9 i) 13 (5 * (List.getD w9 (i - 1) 0) + (List.getD w9 i 0))) + ((I9 12 (2 * (5 * (List.getD w9 (i - 1) 0) + (List.getD w9 i 0)))).toInt64))) 14 (5 * (List.getD w9 (i - 1) 0) + (List.getD w9 i 0)) (((wJ (chargeL I9 J w9 i) 13 (5 * (List.getD w9 (i - 1) 0) + (List.getD w9 i 0)) (((chargeL I9 J w9 i) 13 (5 * (List.getD w9 (i - 1) 0) + (List.getD w9 i 0))) + ((I9 12 (2 * (5 * (List.getD w9 (i - 1) 0) + (List.getD w9 i 0)))).toInt64))) 14 (5 * (List.getD w9 (i - 1) 0) + (List.getD w9 i 0))) + ((I9 12 (2 * (5 * (List.getD w9 (i - 1) 0) + (List.getD w9 i 0)))).toInt64))) 14 (nI (5 * (List.getD w9 i 0) + (List.getD w9 (i - 1) 0))).toNatClampNeg (((wJ (wJ (chargeL I9 J w9 i) 13 (5 * (List.getD w9 (i - 1) 0) + (List.getD w9 i 0)) (((chargeL I9 J w9 i) 13 (5 * (List.getD w9 (i - 1) 0) + (List.getD w9 i 0))) + ((I9 12 (2 * (5 * (List.getD w9 (i - 1) 0) + (List.getD w9 i 0)))).toInt64))) 14 (5 * (List.getD w9 (i - 1) 0) + (List.getD w9 i 0)) (((wJ (chargeL I9 J w9 i) 13 (5 * (List.getD w9 (i - 1) 0) + (List.getD w9 i 0)) (((chargeL I9 J w9 i) 13 (5 * (List.getD w9 (i - 1) 0) + (List.getD w9 i 0))) + ((I9 12 (2 * (5 * (List.getD w9 (i - 1) 0) + (List.getD w9 i 0)))).toInt64))) 14 (5 * (List.getD w9 (i - 1) 0) + (List.getD w9 i 0))) + ((I9 12 (2 * (5 * (List.getD w9 (i - 1) 0) + (List.getD w9 i 0)))).toInt64))) 14 (5 * (List.getD w9 i 0) + (List.getD w9 (i - 1) 0))) - ((I9 12 (2 * (5 * (List.getD w9 (i - 1) 0) + (List.getD w9 i 0)))).toInt64)) = wJ (wJ (wJ (chargeL I9 J w9 i) 13 (5 * (List.getD w9 (i - 1) 0) + (List.getD w9 i 0)) (((chargeL I9 J w9 i) 13 (5 * (List.getD w9 (i - 1) 0) + (List.getD w9 i 0))) + ((I9 12 (2 * (5 * (List.getD w9 (i - 1) 0) + (List.getD w9 i 0)))).toInt64))) 14 (5 * (List.getD w9 (i - 1) 0) + (List.getD w9 i 0)) (((wJ (chargeL I9 J w9 i) 13 (5 * (List.getD w9 (i - 1) 0) + (List.getD w9 i 0)) (((chargeL I9 J w9 i) 13 (5 * (List.getD w9 (i - 1) 0) + (List.getD w9 i 0))) + ((I9 12 (2 * (5 * (List.getD w9 (i - 1) 0) + (List.getD w9 i 0)))).toInt64))) 14 (5 * (List.getD w9 (i - 1) 0) + (List.getD w9 i 0))) + ((I9 12 (2 * (5 * (List.getD w9 (i - 1) 0) + (List.getD w9 i 0)))).toInt64))) 14 (5 * (List.getD w9 i 0) + (List.getD w9 (i - 1) 0)) (((wJ (wJ (chargeL I9 J w9 i) 13 (5 * (List.getD w9 (i - 1) 0) + (List.getD w9 i 0)) (((chargeL I9 J w9 i) 13 (5 * (List.getD w9 (i - 1) 0) + (List.getD w9 i 0))) + ((I9 12 (2 * (5 * (List.getD w9 (i - 1) 0) + (List.getD w9 i 0)))).toInt64))) 14 (5 * (List.getD w9 (i - 1) 0) + (List.getD w9 i 0)) (((wJ (chargeL I9 J w9 i) 13 (5 * (List.getD w9 (i - 1) 0) + (List.getD w9 i 0)) (((chargeL I9 J w9 i) 13 (5 * (List.getD w9 (i - 1) 0) + (List.getD w9 i 0))) + ((I9 12 (2 * (5 * (List.getD w9 (i - 1) 0) + (List.getD w9 i 0)))).toInt64))) 14 (5 * (List.getD w9 (i - 1) 0) + (List.getD w9 i 0))) + ((I9 12 (2 * (5 * (List.getD w9 (i - 1) 0) + (List.getD w9 i 0)))).toInt64))) 14 (5 * (List.getD w9 i 0) + (List.getD w9 (i - 1) 0))) - ((I9 12 (2 * (5 * (List.getD w9 (i - 1) 0) + (List.getD w9 i 0)))).toInt64)) by rw [nI_clamp (by omega)])) ?_
                        refine x_iinc F [(8, .int ((nI i) + 1)), (11, .int (I9 12 (2 * (5 * (List.getD w9 (i - 1) 0) + (List.getD w9 i 0))))), (10, .int (nI (List.getD w9 i 0))), (9, .int (nI (List.getD w9 (i - 1) 0))), (7, .int (nI (enc w9))), (0, .int (nI (8 * j))), (1, .ref (ad 12)), (2, .ref (ad 13)), (3, .ref (ad 14)), (4, .ref (ad 16)), (5, .ref (ad 17))] dL_minute_349 3 rfl (by decide) rfl ?_
                        refine x_goto F 251 dL_minute_352 (by decide) ?_
                        refine x_world (congrArg (fun z => k_c cy ad q ns nt (wI I9 16 (4 * ci + 1) ((I9 16 (4 * ci + 1)) - (I9 17 (8 * j + 4)))) z) (show wJ (wJ (wJ (chargeL I9 J w9 i) 13 (5 * (List.getD w9 (i - 1) 0) + (List.getD w9 i 0)) (((chargeL I9 J w9 i) 13 (5 * (List.getD w9 (i - 1) 0) + (List.getD w9 i 0))) + ((I9 12 (2 * (5 * (List.getD w9 (i - 1) 0) + (List.getD w9 i 0)))).toInt64))) 14 (5 * (List.getD w9 (i - 1) 0) + (List.getD w9 i 0)) (((wJ (chargeL I9 J w9 i) 13 (5 * (List.getD w9 (i - 1) 0) + (List.getD w9 i 0)) (((chargeL I9 J w9 i) 13 (5 * (List.getD w9 (i - 1) 0) + (List.getD w9 i 0))) + ((I9 12 (2 * (5 * (List.getD w9 (i - 1) 0) + (List.getD w9 i 0)))).toInt64))) 14 (5 * (List.getD w9 (i - 1) 0) + (List.getD w9 i 0))) + ((I9 12 (2 * (5 * (List.getD w9 (i - 1) 0) + (List.getD w9 i 0)))).toInt64))) 14 (5 * (List.getD w9 i 0) + (List.getD w9 (i - 1) 0)) (((wJ (wJ (chargeL I9 J w9 i) 13 (5 * (List.getD w9 (i - 1) 0) + (List.getD w9 i 0)) (((chargeL I9 J w9 i) 13 (5 * (List.getD w9 (i - 1) 0) + (List.getD w9 i 0))) + ((I9 12 (2 * (5 * (List.getD w9 (i - 1) 0) + (List.getD w9 i 0)))).toInt64))) 14 (5 * (List.getD w9 (i - 1) 0) + (List.getD w9 i 0)) (((wJ (chargeL I9 J w9 i) 13 (5 * (List.getD w9 (i - 1) 0) + (List.getD w9 i 0)) (((chargeL I9 J w9 i) 13 (5 * (List.getD w9 (i - 1) 0) + (List.getD w9 i 0))) + ((I9 12 (2 * (5 * (List.getD w9 (i - 1) 0) + (List.getD w9 i 0)))).toInt64))) 14 (5 * (List.getD w9 (i - 1) 0) + (List.getD w9 i 0))) + ((I9 12 (2 * (5 * (List.getD w9 (i - 1) 0) + (List.getD w9 i 0)))).toInt64))) 14 (5 * (List.getD w9 i 0) + (List.getD w9 (i - 1) 0))) - ((I9 12 (2 * (5 * (List.getD w9 (i - 1) 0) + (List.getD w9 i 0)))).toInt64)) = chargeL I9 J w9 (i + 1) by rw [chargeL, if_neg (by omega)]; rfl)) ?_
                        rw [nI_1]
                        refine x_sub [0, 4, 5, 6, 7, 8, 9, 10] rfl ?_
                        exact ih251 (i + 1) (by omega) (by omega) (by omega)
                  refine x_world (congrArg (fun z => k_c cy ad q ns nt (wI I9 16 (4 * ci + 1) ((I9 16 (4 * ci + 1)) - (I9 17 (8 * j + 4)))) z) (show J = chargeL I9 J w9 1 by rw [chargeL, if_pos rfl])) ?_
                  refine x_sub [0, 2, 3, 4, 5, 6, 7, 8] rfl ?_
                  exact lp251 (w9.length + 1) 1 (by omega) (by omega) (by omega)
                · exact absurd ((nI_eq (a := enc w9) (b := 0) (by omega) (by omega)).mp h237) (by omega)
              · exact False.elim (by revert h197; decide)
            · refine x_iconst F (v := 0) dL_minute_189 (by decide) ?_
              refine x_istore F [(7, .int 0), (9, .int 0), (8, .int (nI (4 * ci))), (0, .int (nI (8 * j))), (1, .ref (ad 12)), (2, .ref (ad 13)), (3, .ref (ad 14)), (4, .ref (ad 16)), (5, .ref (ad 17))] dL_minute_190 (by decide) rfl ?_
              refine x_goto F 235 dL_minute_192 (by decide) ?_
              refine x_iload F dL_minute_235 0 rfl ?_
              refine x_if_ne F 248 dL_minute_237 (by decide) (fun h237 => ?_) (fun h237 => ?_)
              · exact False.elim (by revert h237; decide)
              · refine x_aload F dL_minute_240 8 rfl ?_
                refine x_iload_n F dL_minute_242 rfl 3 rfl ?_
                refine x_iconst F (v := 2) dL_minute_243 (by decide) ?_
                refine x_iadd F dL_minute_244 ?_
                refine x_cast (y := nI (8 * j + 2)) (nI_add (8 * j) 2) ?_
                refine x_iconst F (v := 2) dL_minute_245 (by decide) ?_
                refine y_iast F (hR 17 (by decide)) ss_17 (vp_in_nI (n := 8 * j + 2) (N := 56) (by omega) (by decide)) dL_minute_246 ?_
                refine x_world (congrArg (fun z => k_c cy ad q ns nt z J) (show wI I9 17 ((nI (8 * j + 2)).toNatClampNeg) 2 = wI I9 17 (8 * j + 2) 2 by rw [nI_clamp (by omega)])) ?_
                rw [hQ]
                exact x_vret F hr hlk (by
      have eI : mPI I9 j ci = wI I9 17 (8 * j + 2) 2 := by simp [mPI, payLB, payLI, dueL, h134, h158, Int32.not_le.mp h186]
      have eJ : mPJ I9 J j ci w9 = J := by simp [mPJ, payLB, dueL, h134, h158, Int32.not_le.mp h186]
      rw [hI9, hJ9, eI, eJ]) dL_minute_247
        · refine x_iconst F (v := 1) dL_minute_161 (by decide) ?_
          refine x_goto F 166 dL_minute_162 (by decide) ?_
          refine x_istore F [(9, .int 1), (8, .int (nI (4 * ci))), (7, .int (nI (enc w9))), (0, .int (nI (8 * j))), (1, .ref (ad 12)), (2, .ref (ad 13)), (3, .ref (ad 14)), (4, .ref (ad 16)), (5, .ref (ad 17))] dL_minute_166 (by decide) rfl ?_
          refine x_iload F dL_minute_168 0 rfl ?_
          refine x_if_ne F 195 dL_minute_170 (by decide) (fun h170 => ?_) (fun h170 => ?_)
          · refine x_iload F dL_minute_195 0 rfl ?_
            refine x_if_eq F 219 dL_minute_197 (by decide) (fun h197 => ?_) (fun h197 => ?_)
            · exact False.elim (by revert h197; decide)
            · refine x_aload F dL_minute_200 7 rfl ?_
              refine x_iload F dL_minute_202 1 rfl ?_
              refine x_iconst F (v := 2) dL_minute_204 (by decide) ?_
              refine x_iadd F dL_minute_205 ?_
              refine x_cast (y := nI (4 * ci + 2)) (nI_add (4 * ci) 2) ?_
              refine x_dup2 F dL_minute_206 rfl rfl ?_
              refine y_iald F (hR 16 (by decide)) ss_16 (vp_in_nI (n := 4 * ci + 2) (N := 32) (by omega) (by decide)) dL_minute_207 ?_
              refine x_cast (y := I9 16 (4 * ci + 2)) (by rw [nI_clamp (by omega)]) ?_
              refine x_aload F dL_minute_208 8 rfl ?_
              refine x_iload_n F dL_minute_210 rfl 3 rfl ?_
              refine x_iconst F (v := 3) dL_minute_211 (by decide) ?_
              refine x_iadd F dL_minute_212 ?_
              refine x_cast (y := nI (8 * j + 3)) (nI_add (8 * j) 3) ?_
              refine y_iald F (hR 17 (by decide)) ss_17 (vp_in_nI (n := 8 * j + 3) (N := 56) (by omega) (by decide)) dL_minute_213 ?_
              refine x_cast (y := I9 17 (8 * j + 3)) (by rw [nI_clamp (by omega)]) ?_
              refine x_isub F dL_minute_214 ?_
              refine y_iast F (hR 16 (by decide)) ss_16 (vp_in_nI (n := 4 * ci + 2) (N := 32) (by omega) (by decide)) dL_minute_215 ?_
              refine x_world (congrArg (fun z => k_c cy ad q ns nt z J) (show wI I9 16 ((nI (4 * ci + 2)).toNatClampNeg) ((I9 16 (4 * ci + 2)) - (I9 17 (8 * j + 3))) = wI I9 16 (4 * ci + 2) ((I9 16 (4 * ci + 2)) - (I9 17 (8 * j + 3))) by rw [nI_clamp (by omega)])) ?_
              refine x_goto F 235 dL_minute_216 (by decide) ?_
              refine x_iload F dL_minute_235 2 rfl ?_
              refine x_if_ne F 248 dL_minute_237 (by decide) (fun h237 => ?_) (fun h237 => ?_)
              · refine x_iconst F (v := 1) dL_minute_248 (by decide) ?_
                refine x_istore F [(8, .int 1), (9, .int 1), (7, .int (nI (enc w9))), (0, .int (nI (8 * j))), (1, .ref (ad 12)), (2, .ref (ad 13)), (3, .ref (ad 14)), (4, .ref (ad 16)), (5, .ref (ad 17))] dL_minute_249 (by decide) rfl ?_
                have lp251 : ∀ (fu251 : Nat) (i : Nat), w9.length - i < fu251 → (1 ≤ i) → (i ≤ w9.length) → XW D lo p l e { frames := 2, cells := 0, slots := 0, locals := 60 } s m args below meth c 12 0 0 Q R ad (k_c cy ad q ns nt (wI I9 16 (4 * ci + 2) ((I9 16 (4 * ci + 2)) - (I9 17 (8 * j + 3)))) (chargeL I9 J w9 i)) 251 [(8, .int (nI i)), (7, .int (nI (enc w9))), (0, .int (nI (8 * j))), (1, .ref (ad 12)), (2, .ref (ad 13)), (3, .ref (ad 14)), (4, .ref (ad 16)), (5, .ref (ad 17))] [] := by
                  intro fu251
                  induction fu251 with
                  | zero => intro i hf251; exact absurd hf251 (Nat.not_lt_zero _)
                  | succ fu251 ih251 =>
                    intro i hf251 hi1 hi
                    refine x_iload F dL_minute_251 1 rfl ?_
                    refine x_iconst F (v := 3) dL_minute_253 (by decide) ?_
                    refine x_iload F dL_minute_254 0 rfl ?_
                    refine x_imul F dL_minute_256 ?_
                    refine x_cast (y := nI (3 * i)) (pk_mul 3 i) ?_
                    refine x_ishr F dL_minute_257 ?_
                    refine x_cast (y := nI (enc (List.drop i w9))) (row_sh (p := w9) (s := 3 * i) (k := i) h5 hl (by omega) (by omega)) ?_
                    refine x_if_le F 355 dL_minute_258 (by decide) (fun h258 => ?_) (fun h258 => ?_)
                    · rw [row_le h5 hl] at h258
                      have hi9 : i = w9.length := by omega
                      refine x_aload F dL_minute_355 7 rfl ?_
                      refine x_iload_n F dL_minute_357 rfl 2 rfl ?_
                      refine x_iconst F (v := 5) dL_minute_358 (by decide) ?_
                      refine x_iadd F dL_minute_359 ?_
                      refine x_cast (y := nI (8 * j + 5)) (nI_add (8 * j) 5) ?_
                      refine x_dup2 F dL_minute_360 rfl rfl ?_
                      refine y_iald F (hR 17 (by decide)) ss_17 (vp_in_nI (n := 8 * j + 5) (N := 56) (by omega) (by decide)) dL_minute_361 ?_
                      refine x_cast (y := (wI I9 16 (4 * ci + 2) ((I9 16 (4 * ci + 2)) - (I9 17 (8 * j + 3)))) 17 (8 * j + 5)) (by rw [nI_clamp (by omega)]) ?_
                      refine x_cast (y := (I9 17 (8 * j + 5))) (by first | rfl | simp [wI_eq]) ?_
                      refine x_iconst F (v := 1) dL_minute_362 (by decide) ?_
                      refine x_iadd F dL_minute_363 ?_
                      refine y_iast F (hR 17 (by decide)) ss_17 (vp_in_nI (n := 8 * j + 5) (N := 56) (by omega) (by decide)) dL_minute_364 ?_
                      refine x_world (congrArg (fun z => k_c cy ad q ns nt z (chargeL I9 J w9 i)) (show wI (wI I9 16 (4 * ci + 2) ((I9 16 (4 * ci + 2)) - (I9 17 (8 * j + 3)))) 17 ((nI (8 * j + 5)).toNatClampNeg) ((I9 17 (8 * j + 5)) + 1) = wI (wI I9 16 (4 * ci + 2) ((I9 16 (4 * ci + 2)) - (I9 17 (8 * j + 3)))) 17 (8 * j + 5) ((I9 17 (8 * j + 5)) + 1) by rw [nI_clamp (by omega)])) ?_
                      rw [hQ]
                      exact x_vret F hr hlk (by
                    have eI : mPI I9 j ci = wI (wI I9 16 (4 * ci + 2) ((I9 16 (4 * ci + 2)) - (I9 17 (8 * j + 3)))) 17 (8 * j + 5) ((I9 17 (8 * j + 5)) + 1) := by simp [mPI, payLB, payLI, dueL, h134, h158]
                    have eJ : mPJ I9 J j ci w9 = chargeL I9 J w9 i := by rw [hi9]; simp [mPJ, payLB, dueL, h134, h158]
                    rw [hI9, hJ9, eI, eJ]) dL_minute_365
                    · rw [row_le h5 hl] at h258
                      have g1 := pD_lt (p := w9) (k := i - 1) h5
                      have g2 := pD_lt (p := w9) (k := i) h5
                      refine x_iload F dL_minute_261 1 rfl ?_
                      refine x_iconst F (v := 3) dL_minute_263 (by decide) ?_
                      refine x_iload F dL_minute_264 0 rfl ?_
                      refine x_imul F dL_minute_266 ?_
                      refine x_cast (y := nI (3 * i)) (pk_mul 3 i) ?_
                      refine x_iconst F (v := 3) dL_minute_267 (by decide) ?_
                      refine x_isub F dL_minute_268 ?_
                      refine x_cast (y := nI (3 * i - 3)) (pk_sub (a := 3 * i) (b := 3) (by omega)) ?_
                      refine x_ishr F dL_minute_269 ?_
                      refine x_cast (y := nI (enc (List.drop (i - 1) w9))) (row_sh (p := w9) (s := 3 * i - 3) (k := i - 1) h5 hl (by omega) (by omega)) ?_
                      refine x_bipush F (v := 7) dL_minute_270 (by decide) ?_
                      refine x_iand F dL_minute_272 ?_
                      refine x_cast (y := nI (List.getD w9 (i - 1) 0 + 1)) (row_an (p := w9) (k := i - 1) h5 hl (by omega)) ?_
                      refine x_iconst F (v := 1) dL_minute_273 (by decide) ?_
                      refine x_isub F dL_minute_274 ?_
                      refine x_cast (y := nI (List.getD w9 (i - 1) 0)) (nI_pred (List.getD w9 (i - 1) 0)) ?_
                      refine x_istore F [(9, .int (nI (List.getD w9 (i - 1) 0))), (8, .int (nI i)), (7, .int (nI (enc w9))), (0, .int (nI (8 * j))), (1, .ref (ad 12)), (2, .ref (ad 13)), (3, .ref (ad 14)), (4, .ref (ad 16)), (5, .ref (ad 17))] dL_minute_275 (by decide) rfl ?_
                      refine x_iload F dL_minute_277 2 rfl ?_
                      refine x_iconst F (v := 3) dL_minute_279 (by decide) ?_
                      refine x_iload F dL_minute_280 1 rfl ?_
                      refine x_imul F dL_minute_282 ?_
                      refine x_cast (y := nI (3 * i)) (pk_mul 3 i) ?_
                      refine x_ishr F dL_minute_283 ?_
                      refine x_cast (y := nI (enc (List.drop i w9))) (row_sh (p := w9) (s := 3 * i) (k := i) h5 hl (by omega) (by omega)) ?_
                      refine x_bipush F (v := 7) dL_minute_284 (by decide) ?_
                      refine x_iand F dL_minute_286 ?_
                      refine x_cast (y := nI (List.getD w9 i 0 + 1)) (row_an (p := w9) (k := i) h5 hl (by omega)) ?_
                      refine x_iconst F (v := 1) dL_minute_287 (by decide) ?_
                      refine x_isub F dL_minute_288 ?_
                      refine x_cast (y := nI (List.getD w9 i 0)) (nI_pred (List.getD w9 i 0)) ?_
                      refine x_istore F [(10, .int (nI (List.getD w9 i 0))), (9, .int (nI (List.getD w9 (i - 1) 0))), (8, .int (nI i)), (7, .int (nI (enc w9))), (0, .int (nI (8 * j))), (1, .ref (ad 12)), (2, .ref (ad 13)), (3, .ref (ad 14)), (4, .ref (ad 16)), (5, .ref (ad 17))] dL_minute_289 (by decide) rfl ?_
                      refine x_aload_n F dL_minute_291 rfl 5 rfl ?_
                      refine x_iconst F (v := 2) dL_minute_292 (by decide) ?_
                      refine x_iconst F (v := 5) dL_minute_293 (by decide) ?_
                      refine x_iload F dL_minute_294 1 rfl ?_
                      refine x_imul F dL_minute_296 ?_
                      refine x_cast (y := nI (5 * (List.getD w9 (i - 1) 0))) (pk_mul 5 (List.getD w9 (i - 1) 0)) ?_
                      refine x_iload F dL_minute_297 0 rfl ?_
                      refine x_iadd F dL_minute_299 ?_
                      refine x_cast (y := nI (5 * (List.getD w9 (i - 1) 0) + (List.getD w9 i 0))) (nI_add (5 * (List.getD w9 (i - 1) 0)) (List.getD w9 i 0)) ?_
                      refine x_imul F dL_minute_300 ?_
                      refine x_cast (y := nI (2 * (5 * (List.getD w9 (i - 1) 0) + (List.getD w9 i 0)))) (pk_mul 2 (5 * (List.getD w9 (i - 1) 0) + (List.getD w9 i 0))) ?_
                      refine y_iald F (hR 12 (by decide)) ss_12 (vp_in_nI (n := 2 * (5 * (List.getD w9 (i - 1) 0) + (List.getD w9 i 0))) (N := 50) (by omega) (by decide)) dL_minute_301 ?_
                      refine x_cast (y := (wI I9 16 (4 * ci + 2) ((I9 16 (4 * ci + 2)) - (I9 17 (8 * j + 3)))) 12 (2 * (5 * (List.getD w9 (i - 1) 0) + (List.getD w9 i 0)))) (by rw [nI_clamp (by omega)]) ?_
                      refine x_cast (y := (I9 12 (2 * (5 * (List.getD w9 (i - 1) 0) + (List.getD w9 i 0))))) (by first | rfl | simp [wI_eq]) ?_
                      refine x_istore F [(11, .int (I9 12 (2 * (5 * (List.getD w9 (i - 1) 0) + (List.getD w9 i 0))))), (10, .int (nI (List.getD w9 i 0))), (9, .int (nI (List.getD w9 (i - 1) 0))), (8, .int (nI i)), (7, .int (nI (enc w9))), (0, .int (nI (8 * j))), (1, .ref (ad 12)), (2, .ref (ad 13)), (3, .ref (ad 14)), (4, .ref (ad 16)), (5, .ref (ad 17))] dL_minute_302 (by decide) rfl ?_
                      refine x_aload_n F dL_minute_304 rfl 7 rfl ?_
                      refine x_iconst F (v := 5) dL_minute_305 (by decide) ?_
                      refine x_iload F dL_minute_306 2 rfl ?_
                      refine x_imul F dL_minute_308 ?_
                      refine x_cast (y := nI (5 * (List.getD w9 (i - 1) 0))) (pk_mul 5 (List.getD w9 (i - 1) 0)) ?_
                      refine x_iload F dL_minute_309 1 rfl ?_
                      refine x_iadd F dL_minute_311 ?_
                      refine x_cast (y := nI (5 * (List.getD w9 (i - 1) 0) + (List.getD w9 i 0))) (nI_add (5 * (List.getD w9 (i - 1) 0)) (List.getD w9 i 0)) ?_
                      refine x_dup2 F dL_minute_312 rfl rfl ?_
                      refine y_lald F (hR 13 (by decide)) ss_13 (vp_in_nI (n := 5 * (List.getD w9 (i - 1) 0) + (List.getD w9 i 0)) (N := 25) (by omega) (by decide)) dL_minute_313 ?_
                      refine x_castl (y := (chargeL I9 J w9 i) 13 (5 * (List.getD w9 (i - 1) 0) + (List.getD w9 i 0))) (by rw [nI_clamp (by omega)]) ?_
                      refine x_iload F dL_minute_314 0 rfl ?_
                      refine x_i2l F dL_minute_316 ?_
                      refine x_ladd F dL_minute_317 ?_
                      refine y_last F (hR 13 (by decide)) ss_13 (vp_in_nI (n := 5 * (List.getD w9 (i - 1) 0) + (List.getD w9 i 0)) (N := 25) (by omega) (by decide)) dL_minute_318 ?_
                      refine x_world (congrArg (fun z => k_c cy ad q ns nt (wI I9 16 (4 * ci + 2) ((I9 16 (4 * ci + 2)) - (I9 17 (8 * j + 3)))) z) (show wJ (chargeL I9 J w9 i) 13 (nI (5 * (List.getD w9 (i - 1) 0) + (List.getD w9 i 0))).toNatClampNeg (((chargeL I9 J w9 i) 13 (5 * (List.getD w9 (i - 1) 0) + (List.getD w9 i 0))) + ((I9 12 (2 * (5 * (List.getD w9 (i - 1) 0) + (List.getD w9 i 0)))).toInt64)) = wJ (chargeL I9 J w9 i) 13 (5 * (List.getD w9 (i - 1) 0) + (List.getD w9 i 0)) (((chargeL I9 J w9 i) 13 (5 * (List.getD w9 (i - 1) 0) + (List.getD w9 i 0))) + ((I9 12 (2 * (5 * (List.getD w9 (i - 1) 0) + (List.getD w9 i 0)))).toInt64)) by rw [nI_clamp (by omega)])) ?_
                      refine x_aload_n F dL_minute_319 rfl 8 rfl ?_
                      refine x_iconst F (v := 5) dL_minute_320 (by decide) ?_
                      refine x_iload F dL_minute_321 2 rfl ?_
                      refine x_imul F dL_minute_323 ?_
                      refine x_cast (y := nI (5 * (List.getD w9 (i - 1) 0))) (pk_mul 5 (List.getD w9 (i - 1) 0)) ?_
                      refine x_iload F dL_minute_324 1 rfl ?_
                      refine x_iadd F dL_minute_326 ?_
                      refine x_cast (y := nI (5 * (List.getD w9 (i - 1) 0) + (List.getD w9 i 0))) (nI_add (5 * (List.getD w9 (i - 1) 0)) (List.getD w9 i 0)) ?_
                      refine x_dup2 F dL_minute_327 rfl rfl ?_
                      refine y_lald F (hR 14 (by decide)) ss_14 (vp_in_nI (n := 5 * (List.getD w9 (i - 1) 0) + (List.getD w9 i 0)) (N := 25) (by omega) (by decide)) dL_minute_328 ?_
                      refine x_castl (y := (wJ (chargeL I9 J w9 i) 13 (5 * (List.getD w9 (i - 1) 0) + (List.getD w9 i 0)) (((chargeL I9 J w9 i) 13 (5 * (List.getD w9 (i - 1) 0) + (List.getD w9 i 0))) + ((I9 12 (2 * (5 * (List.getD w9 (i - 1) 0) + (List.getD w9 i 0)))).toInt64))) 14 (5 * (List.getD w9 (i - 1) 0) + (List.getD w9 i 0))) (by rw [nI_clamp (by omega)]) ?_
                      refine x_iload F dL_minute_329 0 rfl ?_
                      refine x_i2l F dL_minute_331 ?_
                      refine x_ladd F dL_minute_332 ?_
                      refine y_last F (hR 14 (by decide)) ss_14 (vp_in_nI (n := 5 * (List.getD w9 (i - 1) 0) + (List.getD w9 i 0)) (N := 25) (by omega) (by decide)) dL_minute_333 ?_
                      refine x_world (congrArg (fun z => k_c cy ad q ns nt (wI I9 16 (4 * ci + 2) ((I9 16 (4 * ci + 2)) - (I9 17 (8 * j + 3)))) z) (show wJ (wJ (chargeL I9 J w9 i) 13 (5 * (List.getD w9 (i - 1) 0) + (List.getD w9 i 0)) (((chargeL I9 J w9 i) 13 (5 * (List.getD w9 (i - 1) 0) + (List.getD w9 i 0))) + ((I9 12 (2 * (5 * (List.getD w9 (i - 1) 0) + (List.getD w9 i 0)))).toInt64))) 14 (nI (5 * (List.getD w9 (i - 1) 0) + (List.getD w9 i 0))).toNatClampNeg (((wJ (chargeL I9 J w9 i) 13 (5 * (List.getD w9 (i - 1) 0) + (List.getD w9 i 0)) (((chargeL I9 J w9 i) 13 (5 * (List.getD w9 (i - 1) 0) + (List.getD w9 i 0))) + ((I9 12 (2 * (5 * (List.getD w9 (i - 1) 0) + (List.getD w9 i 0)))).toInt64))) 14 (5 * (List.getD w9 (i - 1) 0) + (List.getD w9 i 0))) + ((I9 12 (2 * (5 * (List.getD w9 (i - 1) 0) + (List.getD w9 i 0)))).toInt64)) = wJ (wJ (chargeL I9 J w9 i) 13 (5 * (List.getD w9 (i - 1) 0) + (List.getD w9 i 0)) (((chargeL I9 J w9 i) 13 (5 * (List.getD w9 (i - 1) 0) + (List.getD w9 i 0))) + ((I9 12 (2 * (5 * (List.getD w9 (i - 1) 0) + (List.getD w9 i 0)))).toInt64))) 14 (5 * (List.getD w9 (i - 1) 0) + (List.getD w9 i 0)) (((wJ (chargeL I9 J w9 i) 13 (5 * (List.getD w9 (i - 1) 0) + (List.getD w9 i 0)) (((chargeL I9 J w9 i) 13 (5 * (List.getD w9 (i - 1) 0) + (List.getD w9 i 0))) + ((I9 12 (2 * (5 * (List.getD w9 (i - 1) 0) + (List.getD w9 i 0)))).toInt64))) 14 (5 * (List.getD w9 (i - 1) 0) + (List.getD w9 i 0))) + ((I9 12 (2 * (5 * (List.getD w9 (i - 1) 0) + (List.getD w9 i 0)))).toInt64)) by rw [nI_clamp (by omega)])) ?_
                      refine x_aload_n F dL_minute_334 rfl 8 rfl ?_
                      refine x_iconst F (v := 5) dL_minute_335 (by decide) ?_
                      refine x_iload F dL_minute_336 1 rfl ?_
                      refine x_imul F dL_minute_338 ?_
                      refine x_cast (y := nI (5 * (List.getD w9 i 0))) (pk_mul 5 (List.getD w9 i 0)) ?_
                      refine x_iload F dL_minute_339 2 rfl ?_
                      refine x_iadd F dL_minute_341 ?_
                      refine x_cast (y := nI (5 * (List.getD w9 i 0) + (List.getD w9 (i - 1) 0))) (nI_add (5 * (List.getD w9 i 0)) (List.getD w9 (i - 1) 0)) ?_
                      refine x_dup2 F dL_minute_342 rfl rfl ?_
                      refine y_lald F (hR 14 (by decide)) ss_14 (vp_in_nI (n := 5 * (List.getD w9 i 0) + (List.getD w9 (i - 1) 0)) (N := 25) (by omega) (by decide)) dL_minute_343 ?_
                      refine x_castl (y := (wJ (wJ (chargeL I9 J w9 i) 13 (5 * (List.getD w9 (i - 1) 0) + (List.getD w9 i 0)) (((chargeL I9 J w9 i) 13 (5 * (List.getD w9 (i - 1) 0) + (List.getD w9 i 0))) + ((I9 12 (2 * (5 * (List.getD w9 (i - 1) 0) + (List.getD w9 i 0)))).toInt64))) 14 (5 * (List.getD w9 (i - 1) 0) + (List.getD w9 i 0)) (((wJ (chargeL I9 J w9 i) 13 (5 * (List.getD w9 (i - 1) 0) + (List.getD w9 i 0)) (((chargeL I9 J w9 i) 13 (5 * (List.getD w9 (i - 1) 0) + (List.getD w9 i 0))) + ((I9 12 (2 * (5 * (List.getD w9 (i - 1) 0) + (List.getD w9 i 0)))).toInt64))) 14 (5 * (List.getD w9 (i - 1) 0) + (List.getD w9 i 0))) + ((I9 12 (2 * (5 * (List.getD w9 (i - 1) 0) + (List.getD w9 i 0)))).toInt64))) 14 (5 * (List.getD w9 i 0) + (List.getD w9 (i - 1) 0))) (by rw [nI_clamp (by omega)]) ?_
                      refine x_iload F dL_minute_344 0 rfl ?_
                      refine x_i2l F dL_minute_346 ?_
                      refine x_lsub F dL_minute_347 ?_
                      refine y_last F (hR 14 (by decide)) ss_14 (vp_in_nI (n := 5 * (List.getD w9 i 0) + (List.getD w9 (i - 1) 0)) (N := 25) (by omega) (by decide)) dL_minute_348 ?_
                      refine x_world (congrArg (fun z => k_c cy ad q ns nt (wI I9 16 (4 * ci + 2) ((I9 16 (4 * ci + 2)) - (I9 17 (8 * j + 3)))) z) (show wJ (wJ (wJ (chargeL I9 J w9 i) 13 (5 * (List.getD w9 (i - 1) 0) + (List.getD w9 i 0)) (((chargeL I9 J w9 i) 13 (5 * (List.getD w9 (i - 1) 0) + (List.getD w9 i 0))) + ((I9 12 (2 * (5 * (List.getD w9 (i - 1) 0) + (List.getD w9 i 0)))).toInt64))) 14 (5 * (List.getD w9 (i - 1) 0) + (List.getD w9 i 0)) (((wJ (chargeL I9 J w9 i) 13 (5 * (List.getD w9 (i - 1) 0) + (List.getD w9 i 0)) (((chargeL I9 J w9 i) 13 (5 * (List.getD w9 (i - 1) 0) + (List.getD w9 i 0))) + ((I9 12 (2 * (5 * (List.getD w9 (i - 1) 0) + (List.getD w9 i 0)))).toInt64))) 14 (5 * (List.getD w9 (i - 1) 0) + (List.getD w9 i 0))) + ((I9 12 (2 * (5 * (List.getD w9 (i - 1) 0) + (List.getD w9 i 0)))).toInt64))) 14 (nI (5 * (List.getD w9 i 0) + (List.getD w9 (i - 1) 0))).toNatClampNeg (((wJ (wJ (chargeL I9 J w9 i) 13 (5 * (List.getD w9 (i - 1) 0) + (List.getD w9 i 0)) (((chargeL I9 J w9 i) 13 (5 * (List.getD w9 (i - 1) 0) + (List.getD w9 i 0))) + ((I9 12 (2 * (5 * (List.getD w9 (i - 1) 0) + (List.getD w9 i 0)))).toInt64))) 14 (5 * (List.getD w9 (i - 1) 0) + (List.getD w9 i 0)) (((wJ (chargeL I9 J w9 i) 13 (5 * (List.getD w9 (i - 1) 0) + (List.getD w9 i 0)) (((chargeL I9 J w9 i) 13 (5 * (List.getD w9 (i - 1) 0) + (List.getD w9 i 0))) + ((I9 12 (2 * (5 * (List.getD w9 (i - 1) 0) + (List.getD w9 i 0)))).toInt64))) 14 (5 * (List.getD w9 (i - 1) 0) + (List.getD w9 i 0))) + ((I9 12 (2 * (5 * (List.getD w9 (i - 1) 0) + (List.getD w9 i 0)))).toInt64))) 14 (5 * (List.getD w9 i 0) + (List.getD w9 (i - 1) 0))) - ((I9 12 (2 * (5 * (List.getD w9 (i - 1) 0) + (List.getD w9 i 0)))).toInt64)) = wJ (wJ (wJ (chargeL I9 J w9 i) 13 (5 * (List.getD w9 (i - 1) 0) + (List.getD w9 i 0)) (((chargeL I9 J w9 i) 13 (5 * (List.getD w9 (i - 1) 0) + (List.getD w9 i 0))) + ((I9 12 (2 * (5 * (List.getD w9 (i - 1) 0) + (List.getD w9 i 0)))).toInt64))) 14 (5 * (List.getD w9 (i - 1) 0) + (List.getD w9 i 0)) (((wJ (chargeL I9 J w9 i) 13 (5 * (List.getD w9 (i - 1) 0) + (List.getD w9 i 0)) (((chargeL I9 J w9 i) 13 (5 * (List.getD w9 (i - 1) 0) + (List.getD w9 i 0))) + ((I9 12 (2 * (5 * (List.getD w9 (i - 1) 0) + (List.getD w9 i 0)))).toInt64))) 14 (5 * (List.getD w9 (i - 1) 0) + (List.getD w9 i 0))) + ((I9 12 (2 * (5 * (List.getD w9 (i - 1) 0) + (List.getD w9 i 0)))).toInt64))) 14 (5 * (List.getD w9 i 0) + (List.getD w9 (i - 1) 0)) (((wJ (wJ (chargeL I9 J w9 i) 13 (5 * (List.getD w9 (i - 1) 0) + (List.getD w9 i 0)) (((chargeL I9 J w9 i) 13 (5 * (List.getD w9 (i - 1) 0) + (List.getD w9 i 0))) + ((I9 12 (2 * (5 * (List.getD w9 (i - 1) 0) + (List.getD w9 i 0)))).toInt64))) 14 (5 * (List.getD w9 (i - 1) 0) + (List.getD w9 i 0)) (((wJ (chargeL I9 J w9 i) 13 (5 * (List.getD w9 (i - 1) 0) + (List.getD w9 i 0)) (((chargeL I9 J w9 i) 13 (5 * (List.getD w9 (i - 1) 0) + (List.getD w9 i 0))) + ((I9 12 (2 * (5 * (List.getD w9 (i - 1) 0) + (List.getD w9 i 0)))).toInt64))) 14 (5 * (List.getD w9 (i - 1) 0) + (List.getD w9 i 0))) + ((I9 12 (2 * (5 * (List.getD w9 (i - 1) 0) + (List.getD w9 i 0)))).toInt64))) 14 (5 * (List.getD w9 i 0) + (List.getD w9 (i - 1) 0))) - ((I9 12 (2 * (5 * (List.getD w9 (i - 1) 0) + (List.getD w9 i 0)))).toInt64)) by rw [nI_clamp (by omega)])) ?_
                      refine x_iinc F [(8, .int ((nI i) + 1)), (11, .int (I9 12 (2 * (5 * (List.getD w9 (i - 1) 0) + (List.getD w9 i 0))))), (10, .int (nI (List.getD w9 i 0))), (9, .int (nI (List.getD w9 (i - 1) 0))), (7, .int (nI (enc w9))), (0, .int (nI (8 * j))), (1, .ref (ad 12)), (2, .ref (ad 13)), (3, .ref (ad 14)), (4, .ref (ad 16)), (5, .ref (ad 17))] dL_minute_349 3 rfl (by decide) rfl ?_
                      refine x_goto F 251 dL_minute_352 (by decide) ?_
                      refine x_world (congrArg (fun z => k_c cy ad q ns nt (wI I9 16 (4 * ci + 2) ((I9 16 (4 * ci + 2)) - (I9 17 (8 * j + 3)))) z) (show wJ (wJ (wJ (chargeL I9 J w9 i) 13 (5 * (List.getD w9 (i - 1) 0) + (List.getD w9 i 0)) (((chargeL I9 J w9 i) 13 (5 * (List.getD w9 (i - 1) 0) + (List.getD w9 i 0))) + ((I9 12 (2 * (5 * (List.getD w9 (i - 1) 0) + (List.getD w9 i 0)))).toInt64))) 14 (5 * (List.getD w9 (i - 1) 0) + (List.getD w9 i 0)) (((wJ (chargeL I9 J w9 i) 13 (5 * (List.getD w9 (i - 1) 0) + (List.getD w9 i 0)) (((chargeL I9 J w9 i) 13 (5 * (List.getD w9 (i - 1) 0) + (List.getD w9 i 0))) + ((I9 12 (2 * (5 * (List.getD w9 (i - 1) 0) + (List.getD w9 i 0)))).toInt64))) 14 (5 * (List.getD w9 (i - 1) 0) + (List.getD w9 i 0))) + ((I9 12 (2 * (5 * (List.getD w9 (i - 1) 0) + (List.getD w9 i 0)))).toInt64))) 14 (5 * (List.getD w9 i 0) + (List.getD w9 (i - 1) 0)) (((wJ (wJ (chargeL I9 J w9 i) 13 (5 * (List.getD w9 (i - 1) 0) + (List.getD w9 i 0)) (((chargeL I9 J w9 i) 13 (5 * (List.getD w9 (i - 1) 0) + (List.getD w9 i 0))) + ((I9 12 (2 * (5 * (List.getD w9 (i - 1) 0) + (List.getD w9 i 0)))).toInt64))) 14 (5 * (List.getD w9 (i - 1) 0) + (List.getD w9 i 0)) (((wJ (chargeL I9 J w9 i) 13 (5 * (List.getD w9 (i - 1) 0) + (List.getD w9 i 0)) (((chargeL I9 J w9 i) 13 (5 * (List.getD w9 (i - 1) 0) + (List.getD w9 i 0))) + ((I9 12 (2 * (5 * (List.getD w9 (i - 1) 0) + (List.getD w9 i 0)))).toInt64))) 14 (5 * (List.getD w9 (i - 1) 0) + (List.getD w9 i 0))) + ((I9 12 (2 * (5 * (List.getD w9 (i - 1) 0) + (List.getD w9 i 0)))).toInt64))) 14 (5 * (List.getD w9 i 0) + (List.getD w9 (i - 1) 0))) - ((I9 12 (2 * (5 * (List.getD w9 (i - 1) 0) + (List.getD w9 i 0)))).toInt64)) = chargeL I9 J w9 (i + 1) by rw [chargeL, if_neg (by omega)]; rfl)) ?_
                      rw [nI_1]
                      refine x_sub [0, 4, 5, 6, 7, 8, 9, 10] rfl ?_
                      exact ih251 (i + 1) (by omega) (by omega) (by omega)
                refine x_world (congrArg (fun z => k_c cy ad q ns nt (wI I9 16 (4 * ci + 2) ((I9 16 (4 * ci + 2)) - (I9 17 (8 * j + 3)))) z) (show J = chargeL I9 J w9 1 by rw [chargeL, if_pos rfl])) ?_
                refine x_sub [0, 2, 3, 4, 5, 6, 7, 8] rfl ?_
                exact lp251 (w9.length + 1) 1 (by omega) (by omega) (by omega)
              · exact absurd ((nI_eq (a := enc w9) (b := 0) (by omega) (by omega)).mp h237) (by omega)
          · exact False.elim (by revert h170; decide)
  refine x_aload F dL_minute_3 6 rfl ?_
  refine x_iload_n F dL_minute_5 rfl 1 rfl ?_
  refine x_bipush F (v := 7) dL_minute_6 (by decide) ?_
  refine x_iadd F dL_minute_8 ?_
  refine x_cast (y := nI (8 * j + 7)) (nI_add (8 * j) 7) ?_
  refine y_iald F (hR 17 (by decide)) ss_17 (vp_in_nI (n := 8 * j + 7) (N := 56) (by omega) (by decide)) dL_minute_9 ?_
  refine x_cast (y := I 17 (8 * j + 7)) (by rw [nI_clamp (by omega)]) ?_
  refine x_cast (y := nI (enc pp)) (hrow) ?_
  refine x_istore F [(7, .int (nI (enc pp))), (6, .int 0), (0, .int (nI (8 * j))), (1, .ref (ad 12)), (2, .ref (ad 13)), (3, .ref (ad 14)), (4, .ref (ad 16)), (5, .ref (ad 17))] dL_minute_10 (by decide) rfl ?_
  refine x_iconst F (v := 1) dL_minute_12 (by decide) ?_
  refine x_istore F [(8, .int 1), (7, .int (nI (enc pp))), (6, .int 0), (0, .int (nI (8 * j))), (1, .ref (ad 12)), (2, .ref (ad 13)), (3, .ref (ad 14)), (4, .ref (ad 16)), (5, .ref (ad 17))] dL_minute_13 (by decide) rfl ?_
  have lp15 : ∀ (fu15 : Nat) (i : Nat), pp.length - i < fu15 → (1 ≤ i) → (i ≤ pp.length) → XW D lo p l e { frames := 2, cells := 0, slots := 0, locals := 60 } s m args below meth c 12 0 0 Q R ad (k_c cy ad q ns nt I J) 15 [(8, .int (nI i)), (6, .int (k_b (stopL I J pp i))), (7, .int (nI (enc pp))), (0, .int (nI (8 * j))), (1, .ref (ad 12)), (2, .ref (ad 13)), (3, .ref (ad 14)), (4, .ref (ad 16)), (5, .ref (ad 17))] [] := by
    intro fu15
    induction fu15 with
    | zero => intro i hf15; exact absurd hf15 (Nat.not_lt_zero _)
    | succ fu15 ih15 =>
      intro i hf15 hi1 hi
      refine x_iload F dL_minute_15 2 rfl ?_
      refine x_iconst F (v := 3) dL_minute_17 (by decide) ?_
      refine x_iload F dL_minute_18 0 rfl ?_
      refine x_imul F dL_minute_20 ?_
      refine x_cast (y := nI (3 * i)) (pk_mul 3 i) ?_
      refine x_ishr F dL_minute_21 ?_
      refine x_cast (y := nI (enc (List.drop i pp))) (row_sh (p := pp) (s := 3 * i) (k := i) hp5 hpl (by omega) (by omega)) ?_
      refine x_if_le F 67 dL_minute_22 (by decide) (fun h22 => ?_) (fun h22 => ?_)
      · rw [row_le hp5 hpl] at h22
        have hi9 : i = pp.length := by omega
        refine x_iload F dL_minute_67 1 rfl ?_
        refine x_if_eq F 116 dL_minute_69 (by decide) (fun h69 => ?_) (fun h69 => ?_)
        · rw [kb0] at h69
          rw [hi9] at h69
          refine x_sub [2, 3, 4, 5, 6, 7, 8] rfl ?_
          exact j116 I pp hp5 hpl hp1 hci hst (min_no h69).1 (min_no h69).2
        · rw [kb1] at h69
          rw [hi9] at h69
          have hpa := pD_lt (p := pp) (k := 0) hp5
          have hpb := pD_lt (p := pp) (k := pp.length - 1) hp5
          have hev := encO_lt hv
          refine x_iload F dL_minute_72 2 rfl ?_
          refine x_bipush F (v := 7) dL_minute_74 (by decide) ?_
          refine x_iand F dL_minute_76 ?_
          refine x_cast (y := nI (List.getD pp 0 0 + 1)) (row_an0 (p := pp) hp5 hpl (by omega)) ?_
          refine x_iconst F (v := 1) dL_minute_77 (by decide) ?_
          refine x_isub F dL_minute_78 ?_
          refine x_cast (y := nI (List.getD pp 0 0)) (nI_pred (List.getD pp 0 0)) ?_
          refine x_iload F dL_minute_79 2 rfl ?_
          refine z_callSi F [.int (nI (enc pp))] (c_L_end l D cy lo R ad q ns nt I J hR pp hp5 hpl hp1) mc_L_end ms_L_end lk_L_17 rfl rfl dL_minute_81 ⟨Nat.le_of_ble_eq_true rfl, Nat.le_of_ble_eq_true rfl⟩ ⟨Nat.le_of_ble_eq_true rfl, Nat.le_of_ble_eq_true rfl⟩ (Nat.le_of_ble_eq_true rfl) ?_
          refine x_aload_n F dL_minute_84 rfl 4 rfl ?_
          refine x_aload_n F dL_minute_85 rfl 6 rfl ?_
          refine z_callSi F [.int (nI (List.getD pp 0 0)), .int (nI (List.getD pp (pp.length - 1) 0)), .ref (ad 12), .ref (ad 14)] (c_L_best l D cy lo R ad q ns nt I J hR (List.getD pp 0 0) (List.getD pp (pp.length - 1) 0) op rt v hpa hpb hg hv) mc_L_best ms_L_best lk_L_21 rfl rfl dL_minute_86 ⟨Nat.le_of_ble_eq_true rfl, Nat.le_of_ble_eq_true rfl⟩ ⟨Nat.le_of_ble_eq_true rfl, Nat.le_of_ble_eq_true rfl⟩ (Nat.le_of_ble_eq_true rfl) ?_
          refine x_istore F [(7, .int (nI (encO v))), (8, .int (nI i)), (6, .int (k_b (stopL I J pp i))), (0, .int (nI (8 * j))), (1, .ref (ad 12)), (2, .ref (ad 13)), (3, .ref (ad 14)), (4, .ref (ad 16)), (5, .ref (ad 17))] dL_minute_89 (by decide) rfl ?_
          refine x_iload F dL_minute_91 0 rfl ?_
          refine x_if_le F 116 dL_minute_93 (by decide) (fun h93 => ?_) (fun h93 => ?_)
          · replace h93 : (encO v) ≤ 0 := (nI_leI (a := encO v) (b := 0) (by omega) (by omega)).mp h93
            refine x_iload F dL_minute_116 0 rfl ?_
            refine x_if_le F 235 dL_minute_118 (by decide) (fun h118 => ?_) (fun h118 => ?_)
            · refine x_iload F dL_minute_235 0 rfl ?_
              refine x_if_ne F 248 dL_minute_237 (by decide) (fun h237 => ?_) (fun h237 => ?_)
              · exact (h237 (by rw [show encO v = 0 by omega]; rfl)).elim
              · refine x_aload F dL_minute_240 8 rfl ?_
                refine x_iload_n F dL_minute_242 rfl 3 rfl ?_
                refine x_iconst F (v := 2) dL_minute_243 (by decide) ?_
                refine x_iadd F dL_minute_244 ?_
                refine x_cast (y := nI (8 * j + 2)) (nI_add (8 * j) 2) ?_
                refine x_iconst F (v := 2) dL_minute_245 (by decide) ?_
                refine y_iast F (hR 17 (by decide)) ss_17 (vp_in_nI (n := 8 * j + 2) (N := 56) (by omega) (by decide)) dL_minute_246 ?_
                refine x_world (congrArg (fun z => k_c cy ad q ns nt z J) (show wI I 17 ((nI (8 * j + 2)).toNatClampNeg) 2 = wI I 17 (8 * j + 2) 2 by rw [nI_clamp (by omega)])) ?_
                rw [hQ]
                exact x_vret F hr hlk (by rw [encO_none hv h93, (min_none h69).1, (min_none h69).2]) dL_minute_247
            · exact (h118 ((nI_leI (a := encO v) (b := 0) (by omega) (by omega)).mpr h93)).elim
          · replace h93 : ¬ (encO v) ≤ 0 := fun z => h93 ((nI_leI (a := encO v) (b := 0) (by omega) (by omega)).mpr z)
            obtain ⟨ww, hww, k5, kl, k1⟩ := encO_some hv h93
            refine x_aload F dL_minute_96 8 rfl ?_
            refine x_iload_n F dL_minute_98 rfl 3 rfl ?_
            refine x_bipush F (v := 7) dL_minute_99 (by decide) ?_
            refine x_iadd F dL_minute_101 ?_
            refine x_cast (y := nI (8 * j + 7)) (nI_add (8 * j) 7) ?_
            refine x_iload F dL_minute_102 0 rfl ?_
            refine y_iast F (hR 17 (by decide)) ss_17 (vp_in_nI (n := 8 * j + 7) (N := 56) (by omega) (by decide)) dL_minute_104 ?_
            refine x_world (congrArg (fun z => k_c cy ad q ns nt z J) (show wI I 17 ((nI (8 * j + 7)).toNatClampNeg) (nI (encO v)) = wI I 17 (8 * j + 7) (nI (encO v)) by rw [nI_clamp (by omega)])) ?_
            refine x_aload F dL_minute_105 8 rfl ?_
            refine x_iload_n F dL_minute_107 rfl 3 rfl ?_
            refine x_bipush F (v := 6) dL_minute_108 (by decide) ?_
            refine x_iadd F dL_minute_110 ?_
            refine x_cast (y := nI (8 * j + 6)) (nI_add (8 * j) 6) ?_
            refine x_dup2 F dL_minute_111 rfl rfl ?_
            refine y_iald F (hR 17 (by decide)) ss_17 (vp_in_nI (n := 8 * j + 6) (N := 56) (by omega) (by decide)) dL_minute_112 ?_
            refine x_cast (y := (wI I 17 (8 * j + 7) (nI (encO v))) 17 (8 * j + 6)) (by rw [nI_clamp (by omega)]) ?_
            refine x_cast (y := I 17 (8 * j + 6)) (by rw [wI_off (by omega)]) ?_
            refine x_iconst F (v := 1) dL_minute_113 (by decide) ?_
            refine x_iadd F dL_minute_114 ?_
            refine y_iast F (hR 17 (by decide)) ss_17 (vp_in_nI (n := 8 * j + 6) (N := 56) (by omega) (by decide)) dL_minute_115 ?_
            refine x_world (congrArg (fun z => k_c cy ad q ns nt z J) (show wI (wI I 17 (8 * j + 7) (nI (encO v))) 17 ((nI (8 * j + 6)).toNatClampNeg) ((I 17 (8 * j + 6)) + 1) = wI (wI I 17 (8 * j + 7) (nI (encO v))) 17 (8 * j + 6) ((I 17 (8 * j + 6)) + 1) by rw [nI_clamp (by omega)])) ?_
            refine x_world (congrArg (fun z => k_c cy ad q ns nt z J) (show wI (wI I 17 (8 * j + 7) (nI (encO v))) 17 (8 * j + 6) ((I 17 (8 * j + 6)) + 1) = moveL I j ww by rw [moveL, hww]; rfl)) ?_
            rw [show encO v = enc ww by rw [hww]; rfl]
            refine x_sub [0, 3, 4, 5, 6, 7, 8] rfl ?_
            exact j116 (moveL I j ww) ww k5 kl k1 (by rw [moveL, wI_off (by omega), wI_off (by omega)]; exact hci) (by rw [moveL, wI_off (by omega), wI_off (by omega)]; exact hst) (by rw [hww]; exact (min_some h69).1) (by rw [hww]; exact (min_some h69).2)
      · rw [row_le hp5 hpl] at h22
        have g1 := pD_lt (p := pp) (k := i - 1) hp5
        have g2 := pD_lt (p := pp) (k := i) hp5
        refine x_iload F dL_minute_25 1 rfl ?_
        refine x_iload F dL_minute_27 2 rfl ?_
        refine x_iconst F (v := 3) dL_minute_29 (by decide) ?_
        refine x_iload F dL_minute_30 0 rfl ?_
        refine x_imul F dL_minute_32 ?_
        refine x_cast (y := nI (3 * i)) (pk_mul 3 i) ?_
        refine x_iconst F (v := 3) dL_minute_33 (by decide) ?_
        refine x_isub F dL_minute_34 ?_
        refine x_cast (y := nI (3 * i - 3)) (pk_sub (a := 3 * i) (b := 3) (by omega)) ?_
        refine x_ishr F dL_minute_35 ?_
        refine x_cast (y := nI (enc (List.drop (i - 1) pp))) (row_sh (p := pp) (s := 3 * i - 3) (k := i - 1) hp5 hpl (by omega) (by omega)) ?_
        refine x_bipush F (v := 7) dL_minute_36 (by decide) ?_
        refine x_iand F dL_minute_38 ?_
        refine x_cast (y := nI (List.getD pp (i - 1) 0 + 1)) (row_an (p := pp) (k := i - 1) hp5 hpl (by omega)) ?_
        refine x_iconst F (v := 1) dL_minute_39 (by decide) ?_
        refine x_isub F dL_minute_40 ?_
        refine x_cast (y := nI (List.getD pp (i - 1) 0)) (nI_pred (List.getD pp (i - 1) 0)) ?_
        refine x_iload F dL_minute_41 2 rfl ?_
        refine x_iconst F (v := 3) dL_minute_43 (by decide) ?_
        refine x_iload F dL_minute_44 0 rfl ?_
        refine x_imul F dL_minute_46 ?_
        refine x_cast (y := nI (3 * i)) (pk_mul 3 i) ?_
        refine x_ishr F dL_minute_47 ?_
        refine x_cast (y := nI (enc (List.drop i pp))) (row_sh (p := pp) (s := 3 * i) (k := i) hp5 hpl (by omega) (by omega)) ?_
        refine x_bipush F (v := 7) dL_minute_48 (by decide) ?_
        refine x_iand F dL_minute_50 ?_
        refine x_cast (y := nI (List.getD pp i 0 + 1)) (row_an (p := pp) (k := i) hp5 hpl (by omega)) ?_
        refine x_iconst F (v := 1) dL_minute_51 (by decide) ?_
        refine x_isub F dL_minute_52 ?_
        refine x_cast (y := nI (List.getD pp i 0)) (nI_pred (List.getD pp i 0)) ?_
        refine x_aload_n F dL_minute_53 rfl 4 rfl ?_
        refine x_aload_n F dL_minute_54 rfl 6 rfl ?_
        refine z_callSi F [.int (nI (List.getD pp (i - 1) 0)), .int (nI (List.getD pp i 0)), .ref (ad 12), .ref (ad 14)] (c_L_shut l D cy lo R ad q ns nt I J hR (List.getD pp (i - 1) 0) (List.getD pp i 0) (by omega) (by omega)) mc_L_shut ms_L_shut lk_L_11 rfl rfl dL_minute_55 ⟨Nat.le_of_ble_eq_true rfl, Nat.le_of_ble_eq_true rfl⟩ ⟨Nat.le_of_ble_eq_true rfl, Nat.le_of_ble_eq_true rfl⟩ (Nat.le_of_ble_eq_true rfl) ?_
        refine x_ior F dL_minute_58 ?_
        refine x_cast (y := k_b (stopL I J pp (i + 1))) (by rw [or_b, stopL_s (by omega)]) ?_
        refine x_istore F [(6, .int (k_b (stopL I J pp (i + 1)))), (8, .int (nI i)), (7, .int (nI (enc pp))), (0, .int (nI (8 * j))), (1, .ref (ad 12)), (2, .ref (ad 13)), (3, .ref (ad 14)), (4, .ref (ad 16)), (5, .ref (ad 17))] dL_minute_59 (by decide) rfl ?_
        refine x_iinc F [(8, .int ((nI i) + 1)), (6, .int (k_b (stopL I J pp (i + 1)))), (7, .int (nI (enc pp))), (0, .int (nI (8 * j))), (1, .ref (ad 12)), (2, .ref (ad 13)), (3, .ref (ad 14)), (4, .ref (ad 16)), (5, .ref (ad 17))] dL_minute_61 1 rfl (by decide) rfl ?_
        refine x_goto F 15 dL_minute_64 (by decide) ?_
        rw [nI_1]
        exact ih15 (i + 1) (by omega) (by omega) (by omega)
  refine x_sub (lv' := [(8, .int (nI 1)), (6, .int (k_b (stopL I J pp 1))), (7, .int (nI (enc pp))), (0, .int (nI (8 * j))), (1, .ref (ad 12)), (2, .ref (ad 13)), (3, .ref (ad 14)), (4, .ref (ad 16)), (5, .ref (ad 17))]) [0, 2, 1, 3, 4, 5, 6, 7, 8] (by rfl) ?_
  exact lp15 (pp.length + 1) 1 (by omega) (by omega) (by omega)
