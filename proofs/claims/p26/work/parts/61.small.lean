/-! The law's small methods: what they answer over the law's cells: 12 l, 13 c, 14 d, 15 t, 16 n, 17 k, 18 g. -/
def shutL (I : Nat → Nat → Int32) (J : Nat → Nat → Int64) (x y : Nat) : Bool := decide (I 12 (2 * (5 * x + y)) < 0) || decide ((I 12 (2 * (5 * x + y) + 1)).toInt64 < J 14 (5 * x + y) + (I 12 (2 * (5 * x + y))).toInt64)
/-- the cost of the first k carriers of a row -/
def costL (I : Nat → Nat → Int32) (p : List Nat) : Nat → Int32
  | 0 => 0
  | k + 1 => if k = 0 then 0 else costL I p k + I 12 (2 * (5 * List.getD p (k - 1) 0 + List.getD p k 0))
theorem costL_s {I : Nat → Nat → Int32} {p : List Nat} {k : Nat} (h : 1 ≤ k) : costL I p k + I 12 (2 * (5 * List.getD p (k - 1) 0 + List.getD p k 0)) = costL I p (k + 1) := by rw [costL, if_neg (by omega)]
theorem row_an0 {p : List Nat} (h5 : ∀ y ∈ p, y < 5) (hl : p.length ≤ 5) (hk : 0 < p.length) : nI (enc p) &&& 7 = nI (List.getD p 0 0 + 1) := row_an (k := 0) h5 hl hk
/-- one of the calls ahead of k runs with number x -/
def busyL (I : Nat → Nat → Int32) (x : Nat) : Nat → Bool
  | 0 => false
  | k + 1 => busyL I x k || (decide (I 17 (8 * k + 2) = 0) && (decide (I 17 (8 * k) = nI x) || decide (I 17 (8 * k + 1) = nI x)))
theorem busyL_on {I : Nat → Nat → Int32} {x k : Nat} (h : (decide (I 17 (8 * k + 2) = 0) && (decide (I 17 (8 * k) = nI x) || decide (I 17 (8 * k + 1) = nI x))) = true) : ∀ n, k < n → busyL I x n = true := by
  intro n
  induction n with
  | zero => intro h; omega
  | succ n ih =>
    intro hn
    rw [busyL]
    rcases Nat.lt_or_ge k n with z | z
    · rw [ih z]; rfl
    · have e : n = k := by omega
      subst e
      rw [h, Bool.or_true]
set_option maxHeartbeats 4000000 in
set_option maxRecDepth 100000 in
theorem c_L_low (l : Launch) (D : va_G) (cy : Nat → ClassId) (lo : Nat) (R : List Nat) (ad : Nat → Nat) (w : Nat → va_E) (v n : Int32) (hn : ¬ n = 0) : k_Ci l yL_low cL_low 2 (some .int) 0 0 D cy lo R ad w [.int v, .int n] (lowI v n) w := by
  refine k_metQ (by decide +kernel) (Nat.le_of_ble_eq_true rfl) ?_
  intro p e s m args below meth c Q F hr hlk hnm hQ
  refine x_iload_n F dL_low_0 rfl 0 rfl ?_
  refine x_ldc F (v := 2147483647) dL_low_1 455 (by decide +kernel) ?_
  refine x_iand F dL_low_3 ?_
  refine x_iload_n F dL_low_4 rfl 1 rfl ?_
  refine x_irem F dL_low_5 hn ?_
  rw [hQ]
  exact x_iret F hr hlk ⟨rfl, rfl⟩ dL_low_6
set_option maxHeartbeats 4000000 in
set_option maxRecDepth 100000 in
/-- shut -/
theorem c_L_shut (l : Launch) (D : va_G) (cy : Nat → ClassId) (lo : Nat) (R : List Nat) (ad : Nat → Nat) (q : Nat → Nat → Nat) (ns nt : Nat) (I : Nat → Nat → Int32) (J : Nat → Nat → Int64) (hR : ∀ r, r < 19 → r ∈ R) (x : Nat) (y : Nat) (hx : x < 5) (hy : y < 5) : k_Ci l yL_shut cL_shut 5 (some .boolean) 0 0 D cy lo R ad (k_c cy ad q ns nt I J) [.int (nI x), .int (nI y), .ref (ad 12), .ref (ad 14)] (k_b (shutL I J x y)) (k_c cy ad q ns nt I J) := by
  refine k_metQ (by decide +kernel) (Nat.le_of_ble_eq_true rfl) ?_
  intro p e s m args below meth c Q F hr hlk hnm hQ
  refine x_iconst F (v := 2) dL_shut_0 (by decide) ?_
  refine x_iconst F (v := 5) dL_shut_1 (by decide) ?_
  refine x_iload_n F dL_shut_2 rfl 0 rfl ?_
  refine x_imul F dL_shut_3 ?_
  refine x_cast (y := nI (5 * x)) (pk_mul 5 x) ?_
  refine x_iload_n F dL_shut_4 rfl 1 rfl ?_
  refine x_iadd F dL_shut_5 ?_
  refine x_cast (y := nI (5 * x + y)) (nI_add (5 * x) y) ?_
  refine x_imul F dL_shut_6 ?_
  refine x_cast (y := nI (2 * (5 * x + y))) (pk_mul 2 (5 * x + y)) ?_
  refine x_istore F [(4, .int (nI (2 * (5 * x + y)))), (0, .int (nI x)), (1, .int (nI y)), (2, .ref (ad 12)), (3, .ref (ad 14))] dL_shut_7 (by decide) rfl ?_
  refine x_aload_n F dL_shut_9 rfl 3 rfl ?_
  refine x_iload F dL_shut_10 0 rfl ?_
  refine y_iald F (hR 12 (by decide)) ss_12 (vp_in_nI (n := 2 * (5 * x + y)) (N := 50) (by omega) (by decide)) dL_shut_12 ?_
  refine x_cast (y := I 12 (2 * (5 * x + y))) (by rw [nI_clamp (by omega)]) ?_
  refine x_if_lt F 40 dL_shut_13 (by decide) (fun h13 => ?_) (fun h13 => ?_)
  · refine x_iconst F (v := 1) dL_shut_40 (by decide) ?_
    refine x_goto F 45 dL_shut_41 (by decide) ?_
    rw [hQ]
    exact x_zret F hr hlk (by decide) ⟨by simp [shutL, k_b, Int64.not_le, *], rfl⟩ dL_shut_45
  · refine x_aload_n F dL_shut_16 rfl 4 rfl ?_
    refine x_iconst F (v := 5) dL_shut_17 (by decide) ?_
    refine x_iload_n F dL_shut_18 rfl 1 rfl ?_
    refine x_imul F dL_shut_19 ?_
    refine x_cast (y := nI (5 * x)) (pk_mul 5 x) ?_
    refine x_iload_n F dL_shut_20 rfl 2 rfl ?_
    refine x_iadd F dL_shut_21 ?_
    refine x_cast (y := nI (5 * x + y)) (nI_add (5 * x) y) ?_
    refine y_lald F (hR 14 (by decide)) ss_14 (vp_in_nI (n := 5 * x + y) (N := 25) (by omega) (by decide)) dL_shut_22 ?_
    refine x_castl (y := J 14 (5 * x + y)) (by rw [nI_clamp (by omega)]) ?_
    refine x_aload_n F dL_shut_23 rfl 3 rfl ?_
    refine x_iload F dL_shut_24 0 rfl ?_
    refine y_iald F (hR 12 (by decide)) ss_12 (vp_in_nI (n := 2 * (5 * x + y)) (N := 50) (by omega) (by decide)) dL_shut_26 ?_
    refine x_cast (y := I 12 (2 * (5 * x + y))) (by rw [nI_clamp (by omega)]) ?_
    refine x_i2l F dL_shut_27 ?_
    refine x_ladd F dL_shut_28 ?_
    refine x_aload_n F dL_shut_29 rfl 3 rfl ?_
    refine x_iload F dL_shut_30 0 rfl ?_
    refine x_iconst F (v := 1) dL_shut_32 (by decide) ?_
    refine x_iadd F dL_shut_33 ?_
    refine x_cast (y := nI (2 * (5 * x + y) + 1)) (nI_add (2 * (5 * x + y)) 1) ?_
    refine y_iald F (hR 12 (by decide)) ss_12 (vp_in_nI (n := 2 * (5 * x + y) + 1) (N := 50) (by omega) (by decide)) dL_shut_34 ?_
    refine x_cast (y := I 12 (2 * (5 * x + y) + 1)) (by rw [nI_clamp (by omega)]) ?_
    refine x_i2l F dL_shut_35 ?_
    refine x_lcmp F dL_shut_36 ?_
    refine x_if_le F 44 dL_shut_37 (by decide) (fun h37 => ?_) (fun h37 => ?_)
    · rw [lg_cmp_le] at h37
      refine x_iconst F (v := 0) dL_shut_44 (by decide) ?_
      rw [hQ]
      exact x_zret F hr hlk (by decide) ⟨by simp [shutL, k_b, Int64.not_le, *], rfl⟩ dL_shut_45
    · rw [lg_cmp_le] at h37
      refine x_iconst F (v := 1) dL_shut_40 (by decide) ?_
      refine x_goto F 45 dL_shut_41 (by decide) ?_
      rw [hQ]
      exact x_zret F hr hlk (by decide) ⟨by simp [shutL, k_b, Int64.not_le, *], rfl⟩ dL_shut_45
set_option maxHeartbeats 4000000 in
set_option maxRecDepth 100000 in
/-- end -/
theorem c_L_end (l : Launch) (D : va_G) (cy : Nat → ClassId) (lo : Nat) (R : List Nat) (ad : Nat → Nat) (q : Nat → Nat → Nat) (ns nt : Nat) (I : Nat → Nat → Int32) (J : Nat → Nat → Int64) (hR : ∀ r, r < 19 → r ∈ R) (pp : List Nat) (h5 : ∀ y ∈ pp, y < 5) (hl : pp.length ≤ 5) (h1 : 1 ≤ pp.length) : k_Ci l yL_end cL_end 2 (some .int) 0 0 D cy lo R ad (k_c cy ad q ns nt I J) [.int (nI (enc pp))] (nI (List.getD pp (pp.length - 1) 0)) (k_c cy ad q ns nt I J) := by
  refine k_metQ (by decide +kernel) (Nat.le_of_ble_eq_true rfl) ?_
  intro p e s m args below meth c Q F hr hlk hnm hQ
  refine x_iconst F (v := 0) dL_end_0 (by decide) ?_
  refine x_istore_n F [(1, .int 0), (0, .int (nI (enc pp)))] dL_end_1 rfl (by decide) rfl ?_
  have lp2 : ∀ (fu2 : Nat) (i : Nat), pp.length - i < fu2 → (i + 1 ≤ pp.length) → XW D lo p l e { frames := 0, cells := 0, slots := 0, locals := 0 } s m args below meth c 2 0 0 Q R ad (k_c cy ad q ns nt I J) 2 [(1, .int (nI i)), (0, .int (nI (enc pp)))] [] := by
    intro fu2
    induction fu2 with
    | zero => intro i hf2; exact absurd hf2 (Nat.not_lt_zero _)
    | succ fu2 ih2 =>
      intro i hf2 hi
      refine x_iload_n F dL_end_2 rfl 1 rfl ?_
      refine x_iconst F (v := 3) dL_end_3 (by decide) ?_
      refine x_iload_n F dL_end_4 rfl 0 rfl ?_
      refine x_imul F dL_end_5 ?_
      refine x_cast (y := nI (3 * i)) (pk_mul 3 i) ?_
      refine x_iconst F (v := 3) dL_end_6 (by decide) ?_
      refine x_iadd F dL_end_7 ?_
      refine x_cast (y := nI (3 * i + 3)) (nI_add (3 * i) 3) ?_
      refine x_ishr F dL_end_8 ?_
      refine x_cast (y := nI (enc (List.drop (i + 1) pp))) (row_sh (p := pp) (s := 3 * i + 3) (k := i + 1) h5 hl (by omega) (by omega)) ?_
      refine x_if_le F 18 dL_end_9 (by decide) (fun h9 => ?_) (fun h9 => ?_)
      · rw [row_le h5 hl] at h9
        have hi9 : i = pp.length - 1 := by omega
        refine x_iload_n F dL_end_18 rfl 1 rfl ?_
        refine x_iconst F (v := 3) dL_end_19 (by decide) ?_
        refine x_iload_n F dL_end_20 rfl 0 rfl ?_
        refine x_imul F dL_end_21 ?_
        refine x_cast (y := nI (3 * i)) (pk_mul 3 i) ?_
        refine x_ishr F dL_end_22 ?_
        refine x_cast (y := nI (enc (List.drop i pp))) (row_sh (p := pp) (s := 3 * i) (k := i) h5 hl (by omega) (by omega)) ?_
        refine x_bipush F (v := 7) dL_end_23 (by decide) ?_
        refine x_iand F dL_end_25 ?_
        refine x_cast (y := nI (List.getD pp i 0 + 1)) (row_an (p := pp) (k := i) h5 hl (by omega)) ?_
        refine x_iconst F (v := 1) dL_end_26 (by decide) ?_
        refine x_isub F dL_end_27 ?_
        refine x_cast (y := nI (List.getD pp i 0)) (nI_pred (List.getD pp i 0)) ?_
        rw [hQ]
        exact x_iret F hr hlk ⟨by rw [hi9], rfl⟩ dL_end_28
      · rw [row_le h5 hl] at h9
        refine x_iinc F [(1, .int ((nI i) + 1)), (0, .int (nI (enc pp)))] dL_end_12 0 rfl (by decide) rfl ?_
        refine x_goto F 2 dL_end_15 (by decide) ?_
        rw [nI_1]
        exact ih2 (i + 1) (by omega) (by omega)
  exact lp2 (pp.length + 1) 0 (by omega) (by omega)
set_option maxHeartbeats 4000000 in
set_option maxRecDepth 100000 in
/-- cost -/
theorem c_L_cost (l : Launch) (D : va_G) (cy : Nat → ClassId) (lo : Nat) (R : List Nat) (ad : Nat → Nat) (q : Nat → Nat → Nat) (ns nt : Nat) (I : Nat → Nat → Int32) (J : Nat → Nat → Int64) (hR : ∀ r, r < 19 → r ∈ R) (pp : List Nat) (h5 : ∀ y ∈ pp, y < 5) (hl : pp.length ≤ 5) (h1 : 1 ≤ pp.length) : k_Ci l yL_cost cL_cost 4 (some .int) 0 0 D cy lo R ad (k_c cy ad q ns nt I J) [.int (nI (enc pp)), .ref (ad 12)] (costL I pp pp.length) (k_c cy ad q ns nt I J) := by
  refine k_metQ (by decide +kernel) (Nat.le_of_ble_eq_true rfl) ?_
  intro p e s m args below meth c Q F hr hlk hnm hQ
  refine x_iconst F (v := 0) dL_cost_0 (by decide) ?_
  refine x_istore_n F [(2, .int 0), (0, .int (nI (enc pp))), (1, .ref (ad 12))] dL_cost_1 rfl (by decide) rfl ?_
  refine x_iconst F (v := 1) dL_cost_2 (by decide) ?_
  refine x_istore_n F [(3, .int 1), (2, .int 0), (0, .int (nI (enc pp))), (1, .ref (ad 12))] dL_cost_3 rfl (by decide) rfl ?_
  have lp4 : ∀ (fu4 : Nat) (i : Nat), pp.length - i < fu4 → (1 ≤ i) → (i ≤ pp.length) → XW D lo p l e { frames := 0, cells := 0, slots := 0, locals := 0 } s m args below meth c 4 0 0 Q R ad (k_c cy ad q ns nt I J) 4 [(3, .int (nI i)), (2, .int (costL I pp i)), (0, .int (nI (enc pp))), (1, .ref (ad 12))] [] := by
    intro fu4
    induction fu4 with
    | zero => intro i hf4; exact absurd hf4 (Nat.not_lt_zero _)
    | succ fu4 ih4 =>
      intro i hf4 hi1 hi
      refine x_iload_n F dL_cost_4 rfl 2 rfl ?_
      refine x_iconst F (v := 3) dL_cost_5 (by decide) ?_
      refine x_iload_n F dL_cost_6 rfl 0 rfl ?_
      refine x_imul F dL_cost_7 ?_
      refine x_cast (y := nI (3 * i)) (pk_mul 3 i) ?_
      refine x_ishr F dL_cost_8 ?_
      refine x_cast (y := nI (enc (List.drop i pp))) (row_sh (p := pp) (s := 3 * i) (k := i) h5 hl (by omega) (by omega)) ?_
      refine x_if_le F 50 dL_cost_9 (by decide) (fun h9 => ?_) (fun h9 => ?_)
      · rw [row_le h5 hl] at h9
        have hi9 : i = pp.length := by omega
        refine x_iload_n F dL_cost_50 rfl 1 rfl ?_
        rw [hQ]
        exact x_iret F hr hlk ⟨by rw [hi9], rfl⟩ dL_cost_51
      · rw [row_le h5 hl] at h9
        have g1 := pD_lt (p := pp) (k := i - 1) h5
        have g2 := pD_lt (p := pp) (k := i) h5
        refine x_iload_n F dL_cost_12 rfl 1 rfl ?_
        refine x_aload_n F dL_cost_13 rfl 3 rfl ?_
        refine x_iconst F (v := 2) dL_cost_14 (by decide) ?_
        refine x_iconst F (v := 5) dL_cost_15 (by decide) ?_
        refine x_iload_n F dL_cost_16 rfl 2 rfl ?_
        refine x_iconst F (v := 3) dL_cost_17 (by decide) ?_
        refine x_iload_n F dL_cost_18 rfl 0 rfl ?_
        refine x_imul F dL_cost_19 ?_
        refine x_cast (y := nI (3 * i)) (pk_mul 3 i) ?_
        refine x_iconst F (v := 3) dL_cost_20 (by decide) ?_
        refine x_isub F dL_cost_21 ?_
        refine x_cast (y := nI (3 * i - 3)) (pk_sub (a := 3 * i) (b := 3) (by omega)) ?_
        refine x_ishr F dL_cost_22 ?_
        refine x_cast (y := nI (enc (List.drop (i - 1) pp))) (row_sh (p := pp) (s := 3 * i - 3) (k := i - 1) h5 hl (by omega) (by omega)) ?_
        refine x_bipush F (v := 7) dL_cost_23 (by decide) ?_
        refine x_iand F dL_cost_25 ?_
        refine x_cast (y := nI (List.getD pp (i - 1) 0 + 1)) (row_an (p := pp) (k := i - 1) h5 hl (by omega)) ?_
        refine x_iconst F (v := 1) dL_cost_26 (by decide) ?_
        refine x_isub F dL_cost_27 ?_
        refine x_cast (y := nI (List.getD pp (i - 1) 0)) (nI_pred (List.getD pp (i - 1) 0)) ?_
        refine x_imul F dL_cost_28 ?_
        refine x_cast (y := nI (5 * (List.getD pp (i - 1) 0))) (pk_mul 5 (List.getD pp (i - 1) 0)) ?_
        refine x_iload_n F dL_cost_29 rfl 2 rfl ?_
        refine x_iconst F (v := 3) dL_cost_30 (by decide) ?_
        refine x_iload_n F dL_cost_31 rfl 0 rfl ?_
        refine x_imul F dL_cost_32 ?_
        refine x_cast (y := nI (3 * i)) (pk_mul 3 i) ?_
        refine x_ishr F dL_cost_33 ?_
        refine x_cast (y := nI (enc (List.drop i pp))) (row_sh (p := pp) (s := 3 * i) (k := i) h5 hl (by omega) (by omega)) ?_
        refine x_bipush F (v := 7) dL_cost_34 (by decide) ?_
        refine x_iand F dL_cost_36 ?_
        refine x_cast (y := nI (List.getD pp i 0 + 1)) (row_an (p := pp) (k := i) h5 hl (by omega)) ?_
        refine x_iadd F dL_cost_37 ?_
        refine x_cast (y := nI (5 * (List.getD pp (i - 1) 0) + (List.getD pp i 0 + 1))) (nI_add (5 * (List.getD pp (i - 1) 0)) (List.getD pp i 0 + 1)) ?_
        refine x_iconst F (v := 1) dL_cost_38 (by decide) ?_
        refine x_isub F dL_cost_39 ?_
        refine x_cast (y := nI (5 * (List.getD pp (i - 1) 0) + (List.getD pp i 0 + 1) - 1)) (pk_sub (a := 5 * (List.getD pp (i - 1) 0) + (List.getD pp i 0 + 1)) (b := 1) (by omega)) ?_
        refine x_imul F dL_cost_40 ?_
        refine x_cast (y := nI (2 * (5 * (List.getD pp (i - 1) 0) + (List.getD pp i 0 + 1) - 1))) (pk_mul 2 (5 * (List.getD pp (i - 1) 0) + (List.getD pp i 0 + 1) - 1)) ?_
        refine y_iald F (hR 12 (by decide)) ss_12 (vp_in_nI (n := 2 * (5 * (List.getD pp (i - 1) 0) + (List.getD pp i 0 + 1) - 1)) (N := 50) (by omega) (by decide)) dL_cost_41 ?_
        refine x_cast (y := I 12 (2 * (5 * (List.getD pp (i - 1) 0) + (List.getD pp i 0 + 1) - 1))) (by rw [nI_clamp (by omega)]) ?_
        refine x_iadd F dL_cost_42 ?_
        refine x_istore_n F [(2, .int ((costL I pp i) + (I 12 (2 * (5 * (List.getD pp (i - 1) 0) + (List.getD pp i 0 + 1) - 1))))), (3, .int (nI i)), (0, .int (nI (enc pp))), (1, .ref (ad 12))] dL_cost_43 rfl (by decide) rfl ?_
        refine x_iinc F [(3, .int ((nI i) + 1)), (2, .int ((costL I pp i) + (I 12 (2 * (5 * (List.getD pp (i - 1) 0) + (List.getD pp i 0 + 1) - 1))))), (0, .int (nI (enc pp))), (1, .ref (ad 12))] dL_cost_44 1 rfl (by decide) rfl ?_
        refine x_goto F 4 dL_cost_47 (by decide) ?_
        rw [show 5 * List.getD pp (i - 1) 0 + (List.getD pp i 0 + 1) - 1 = 5 * List.getD pp (i - 1) 0 + List.getD pp i 0 by omega, costL_s (by omega), nI_1]
        exact ih4 (i + 1) (by omega) (by omega) (by omega)
  exact lp4 (pp.length + 1) 1 (by omega) (by omega) (by omega)
set_option maxHeartbeats 4000000 in
set_option maxRecDepth 100000 in
/-- busy -/
theorem c_L_busy (l : Launch) (D : va_G) (cy : Nat → ClassId) (lo : Nat) (R : List Nat) (ad : Nat → Nat) (q : Nat → Nat → Nat) (ns nt : Nat) (I : Nat → Nat → Int32) (J : Nat → Nat → Int64) (hR : ∀ r, r < 19 → r ∈ R) (x : Nat) (hx : x < 8) (hn : nt ≤ 7) (hg : I 18 1 = nI nt) : k_Ci l yL_busy cL_busy 4 (some .boolean) 0 0 D cy lo R ad (k_c cy ad q ns nt I J) [.int (nI x), .ref (ad 17), .ref (ad 18)] (k_b (busyL I x nt)) (k_c cy ad q ns nt I J) := by
  refine k_metQ (by decide +kernel) (Nat.le_of_ble_eq_true rfl) ?_
  intro p e s m args below meth c Q F hr hlk hnm hQ
  refine x_iconst F (v := 0) dL_busy_0 (by decide) ?_
  refine x_istore_n F [(3, .int 0), (0, .int (nI x)), (1, .ref (ad 17)), (2, .ref (ad 18))] dL_busy_1 rfl (by decide) rfl ?_
  have lp2 : ∀ (fu2 : Nat) (i : Nat), nt - i < fu2 → (i ≤ nt) → (busyL I x i = false) → XW D lo p l e { frames := 0, cells := 0, slots := 0, locals := 0 } s m args below meth c 4 0 0 Q R ad (k_c cy ad q ns nt I J) 2 [(3, .int (nI i)), (0, .int (nI x)), (1, .ref (ad 17)), (2, .ref (ad 18))] [] := by
    intro fu2
    induction fu2 with
    | zero => intro i hf2; exact absurd hf2 (Nat.not_lt_zero _)
    | succ fu2 ih2 =>
      intro i hf2 hi hc
      refine x_iload_n F dL_busy_2 rfl 0 rfl ?_
      refine x_aload_n F dL_busy_3 rfl 3 rfl ?_
      refine x_iconst F (v := 1) dL_busy_4 (by decide) ?_
      refine y_iald F (hR 18 (by decide)) ss_18 (show vp_in (nI 1) 2 from vp_in_nI (by decide) (by decide)) dL_busy_5 ?_
      refine x_cast (y := I 18 1) (by rw [show (1 : Int32).toNatClampNeg = 1 from by decide]) ?_
      refine x_cast (y := nI nt) (hg) ?_
      refine x_icmp_ge F 50 dL_busy_6 (by decide) (fun h6 => ?_) (fun h6 => ?_)
      · replace h6 : nt ≤ i := (nI_leI (a := nt) (b := i) (by omega) (by omega)).mp h6
        have hi9 : i = nt := by omega
        refine x_iconst F (v := 0) dL_busy_50 (by decide) ?_
        rw [hQ]
        exact x_zret F hr hlk (by decide) ⟨by rw [← hi9, hc]; rfl, rfl⟩ dL_busy_51
      · replace h6 : ¬ nt ≤ i := fun z => h6 ((nI_leI (a := nt) (b := i) (by omega) (by omega)).mpr z)
        refine x_aload_n F dL_busy_9 rfl 2 rfl ?_
        refine x_bipush F (v := 8) dL_busy_10 (by decide) ?_
        refine x_iload_n F dL_busy_12 rfl 0 rfl ?_
        refine x_imul F dL_busy_13 ?_
        refine x_cast (y := nI (8 * i)) (pk_mul 8 i) ?_
        refine x_iconst F (v := 2) dL_busy_14 (by decide) ?_
        refine x_iadd F dL_busy_15 ?_
        refine x_cast (y := nI (8 * i + 2)) (nI_add (8 * i) 2) ?_
        refine y_iald F (hR 17 (by decide)) ss_17 (vp_in_nI (n := 8 * i + 2) (N := 56) (by omega) (by decide)) dL_busy_16 ?_
        refine x_cast (y := I 17 (8 * i + 2)) (by rw [nI_clamp (by omega)]) ?_
        refine x_if_ne F 44 dL_busy_17 (by decide) (fun h17 => ?_) (fun h17 => ?_)
        · refine x_iinc F [(3, .int ((nI i) + 1)), (0, .int (nI x)), (1, .ref (ad 17)), (2, .ref (ad 18))] dL_busy_44 0 rfl (by decide) rfl ?_
          refine x_goto F 2 dL_busy_47 (by decide) ?_
          rw [nI_1]
          exact ih2 (i + 1) (by omega) (by omega) (by rw [busyL, hc]; simp [*])
        · refine x_aload_n F dL_busy_20 rfl 2 rfl ?_
          refine x_bipush F (v := 8) dL_busy_21 (by decide) ?_
          refine x_iload_n F dL_busy_23 rfl 0 rfl ?_
          refine x_imul F dL_busy_24 ?_
          refine x_cast (y := nI (8 * i)) (pk_mul 8 i) ?_
          refine y_iald F (hR 17 (by decide)) ss_17 (vp_in_nI (n := 8 * i) (N := 56) (by omega) (by decide)) dL_busy_25 ?_
          refine x_cast (y := I 17 (8 * i)) (by rw [nI_clamp (by omega)]) ?_
          refine x_iload_n F dL_busy_26 rfl 1 rfl ?_
          refine x_icmp_eq F 42 dL_busy_27 (by decide) (fun h27 => ?_) (fun h27 => ?_)
          · refine x_iconst F (v := 1) dL_busy_42 (by decide) ?_
            rw [hQ]
            exact x_zret F hr hlk (by decide) ⟨by rw [busyL_on (k := i) (by simp [*]) nt (by omega)]; rfl, rfl⟩ dL_busy_43
          · refine x_aload_n F dL_busy_30 rfl 2 rfl ?_
            refine x_bipush F (v := 8) dL_busy_31 (by decide) ?_
            refine x_iload_n F dL_busy_33 rfl 0 rfl ?_
            refine x_imul F dL_busy_34 ?_
            refine x_cast (y := nI (8 * i)) (pk_mul 8 i) ?_
            refine x_iconst F (v := 1) dL_busy_35 (by decide) ?_
            refine x_iadd F dL_busy_36 ?_
            refine x_cast (y := nI (8 * i + 1)) (nI_add (8 * i) 1) ?_
            refine y_iald F (hR 17 (by decide)) ss_17 (vp_in_nI (n := 8 * i + 1) (N := 56) (by omega) (by decide)) dL_busy_37 ?_
            refine x_cast (y := I 17 (8 * i + 1)) (by rw [nI_clamp (by omega)]) ?_
            refine x_iload_n F dL_busy_38 rfl 1 rfl ?_
            refine x_icmp_ne F 44 dL_busy_39 (by decide) (fun h39 => ?_) (fun h39 => ?_)
            · refine x_iinc F [(3, .int ((nI i) + 1)), (0, .int (nI x)), (1, .ref (ad 17)), (2, .ref (ad 18))] dL_busy_44 0 rfl (by decide) rfl ?_
              refine x_goto F 2 dL_busy_47 (by decide) ?_
              rw [nI_1]
              exact ih2 (i + 1) (by omega) (by omega) (by rw [busyL, hc]; simp [*])
            · refine x_iconst F (v := 1) dL_busy_42 (by decide) ?_
              rw [hQ]
              exact x_zret F hr hlk (by decide) ⟨by rw [busyL_on (k := i) (by simp [*]) nt (by omega)]; rfl, rfl⟩ dL_busy_43
  exact lp2 (nt + 1) 0 (by omega) (by omega) rfl
