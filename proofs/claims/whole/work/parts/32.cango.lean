def go0 (I : Nat → Nat → Int32) (J : Nat → Nat → Int64) (n : Nat) : Bool := decide (nI n = 1) || !shutM I J (I 35 (nI n - 2).toNatClampNeg) (I 35 (nI n - 1).toNatClampNeg)
def goM (I : Nat → Nat → Int32) (J : Nat → Nat → Int64) (n : Nat) : Nat → Bool
  | 0 => go0 I J n
  | k + 1 => goM I J n k && !decide (I 35 k = I 35 (nI n - 1).toNatClampNeg)
def costM (I : Nat → Nat → Int32) : Nat → Int32
  | 0 => 0
  | k + 1 => if k = 0 then 0 else costM I k + I 17 (5 * I 35 (nI k - 1).toNatClampNeg + I 35 (nI k).toNatClampNeg).toNatClampNeg
theorem nI_m1 {n : Nat} (h : 1 ≤ n) : nI n - 1 = nI (n - 1) := by
  rw [show (1 : Int32) = nI 1 from rfl, pk_sub h]
theorem nI_m2 {n : Nat} (h : 2 ≤ n) : nI n - 2 = nI (n - 2) := by
  rw [show (2 : Int32) = nI 2 from rfl, pk_sub h]
theorem vin_m1 {n : Nat} (h : 1 ≤ n) (h5 : n ≤ 5) : vp_in (nI n - 1) 5 := by rw [nI_m1 h]; exact vp_in_nI (by omega) (by decide)
theorem vin_m2 {n : Nat} (h : 2 ≤ n) (h5 : n ≤ 5) : vp_in (nI n - 2) 5 := by rw [nI_m2 h]; exact vp_in_nI (by omega) (by decide)
theorem car_m1 {I : Nat → Nat → Int32} {n : Nat} (hcar : ∀ i, i < n → isCar (I 35 i) = true) (h : 1 ≤ n) (h5 : n ≤ 5) : isCar (I 35 (nI n - 1).toNatClampNeg) = true := by
  rw [nI_m1 h, nI_clamp (by omega)]; exact hcar _ (by omega)
theorem car_m2 {I : Nat → Nat → Int32} {n : Nat} (hcar : ∀ i, i < n → isCar (I 35 i) = true) (h : 2 ≤ n) (h5 : n ≤ 5) : isCar (I 35 (nI n - 2).toNatClampNeg) = true := by
  rw [nI_m2 h, nI_clamp (by omega)]; exact hcar _ (by omega)
theorem one_lt {n : Nat} (h1 : 1 ≤ n) (h : ¬ nI n = 1) : 2 ≤ n := by
  rcases Nat.lt_or_ge n 2 with z | z
  · exact absurd (show nI n = 1 by rw [show n = 1 by omega]; rfl) h
  · exact z
set_option maxHeartbeats 4000000 in
set_option maxRecDepth 100000 in
/-- canGo -/
theorem c_X5_canGo (l : Launch) (D : va_G) (cy : Nat → ClassId) (lo : Nat) (R : List Nat) (ad : Nat → Nat) (q : Nat → Nat → Nat) (ns nt : Nat) (I : Nat → Nat → Int32) (J : Nat → Nat → Int64) (hR : ∀ r, r < 36 → r ∈ R) (n : Nat) (hn1 : 1 ≤ n) (hn5 : n ≤ 5) (hcar : ∀ i, i < n → isCar (I 35 i) = true) : k_Ci l yX5_canGo cX5_canGo 5 (some .boolean) 2 47 D cy lo R ad (k_c cy ad q ns nt I J) [.ref (ad 13), .int (nI n)] (k_b (goM I J n (n - 1))) (k_c cy ad q ns nt I J) := by
  refine k_metQ (by decide +kernel) (Nat.le_of_ble_eq_true rfl) ?_
  intro p e s m args below meth c Q F hr hlk hnm hQ
  refine x_aload_n F dX5_canGo_0 rfl 0 rfl ?_
  refine g_X5_75 F (hR 13 (by decide)) sc_13 rfl dX5_canGo_1 ?_
  refine x_iload_n F dX5_canGo_4 rfl 1 rfl ?_
  refine x_iconst F (v := 1) dX5_canGo_5 (by decide) ?_
  refine x_isub F dX5_canGo_6 ?_
  refine y_iald F (hR 35 (by decide)) ss_35 (vin_m1 hn1 hn5) dX5_canGo_7 ?_
  refine x_istore_n F [(2, .int (I 35 ((nI n) - 1).toNatClampNeg)), (0, .ref (ad 13)), (1, .int (nI n))] dX5_canGo_8 rfl (by decide) rfl ?_
  refine x_iload_n F dX5_canGo_9 rfl 2 rfl ?_
  refine x_iconst F (v := 1) dX5_canGo_10 (by decide) ?_
  refine x_icmp_eq F 30 dX5_canGo_11 (by decide) (fun h11 => ?_) (fun h11 => ?_)
  · refine x_iconst F (v := 1) dX5_canGo_30 (by decide) ?_
    refine x_goto F 35 dX5_canGo_31 (by decide) ?_
    refine x_istore_n F [(3, .int 1), (2, .int (I 35 ((nI n) - 1).toNatClampNeg)), (0, .ref (ad 13)), (1, .int (nI n))] dX5_canGo_35 rfl (by decide) rfl ?_
    refine x_iconst F (v := 0) dX5_canGo_36 (by decide) ?_
    refine x_istore F [(4, .int 0), (3, .int 1), (2, .int (I 35 ((nI n) - 1).toNatClampNeg)), (0, .ref (ad 13)), (1, .int (nI n))] dX5_canGo_37 (by decide) rfl ?_
    have lp39 : ∀ (fu39 : Nat) (k : Nat), n - k < fu39 → (k ≤ n - 1) → XW D lo p l e { frames := 2, cells := 0, slots := 0, locals := 47 } s m args below meth c 5 0 0 Q R ad (k_c cy ad q ns nt I J) 39 [(4, .int (nI k)), (3, .int (k_b (goM I J n k))), (2, .int (I 35 (nI n - 1).toNatClampNeg)), (0, .ref (ad 13)), (1, .int (nI n))] [] := by
      intro fu39
      induction fu39 with
      | zero => intro k hf39; exact absurd hf39 (Nat.not_lt_zero _)
      | succ fu39 ih39 =>
        intro k hf39 hkn
        refine x_iload F dX5_canGo_39 0 rfl ?_
        refine x_iload_n F dX5_canGo_41 rfl 4 rfl ?_
        refine x_iconst F (v := 1) dX5_canGo_42 (by decide) ?_
        refine x_isub F dX5_canGo_43 ?_
        refine x_icmp_ge F 74 dX5_canGo_44 (by decide) (fun h44 => ?_) (fun h44 => ?_)
        · rw [nI_m1 hn1] at h44
          have hk9 := lp_exit (by omega) hkn h44
          refine x_iload_n F dX5_canGo_74 rfl 1 rfl ?_
          rw [hQ]
          exact x_zret F hr hlk (kb_n _) ⟨by rw [hk9], rfl⟩ dX5_canGo_75
        · rw [nI_m1 hn1] at h44
          have hk9 := lp_go (by omega) hkn h44
          refine x_iload_n F dX5_canGo_47 rfl 1 rfl ?_
          refine x_if_eq F 66 dX5_canGo_48 (by decide) (fun h48 => ?_) (fun h48 => ?_)
          · rw [kb0] at h48
            refine x_iconst F (v := 0) dX5_canGo_66 (by decide) ?_
            refine x_istore_n F [(3, .int 0), (4, .int (nI k)), (2, .int (I 35 (nI n - 1).toNatClampNeg)), (0, .ref (ad 13)), (1, .int (nI n))] dX5_canGo_67 rfl (by decide) rfl ?_
            refine x_iinc F [(4, .int ((nI k) + 1)), (3, .int 0), (2, .int (I 35 (nI n - 1).toNatClampNeg)), (0, .ref (ad 13)), (1, .int (nI n))] dX5_canGo_68 1 rfl (by decide) rfl ?_
            refine x_goto F 39 dX5_canGo_71 (by decide) ?_
            rw [nI_1]
            refine x_sub (lv' := [(4, .int (nI (k + 1))), (3, .int (k_b (goM I J n (k + 1)))), (2, .int (I 35 (nI n - 1).toNatClampNeg)), (0, .ref (ad 13)), (1, .int (nI n))]) [0, 1, 2, 3, 4] (by rw [show goM I J n (k + 1) = false by first | (rw [goM, h48]; rfl) | (rw [nI_clamp (show k < 2 ^ 31 by omega)] at h59; rw [goM, h48]; simp [h59])]; rfl) ?_
            exact ih39 (k + 1) (by omega) (by omega)
          · rw [kb1] at h48
            refine x_aload_n F dX5_canGo_51 rfl 3 rfl ?_
            refine g_X5_75 F (hR 13 (by decide)) sc_13 rfl dX5_canGo_52 ?_
            refine x_iload F dX5_canGo_55 0 rfl ?_
            refine y_iald F (hR 35 (by decide)) ss_35 (vp_in_nI (by omega) (by decide)) dX5_canGo_57 ?_
            refine x_iload_n F dX5_canGo_58 rfl 2 rfl ?_
            refine x_icmp_eq F 66 dX5_canGo_59 (by decide) (fun h59 => ?_) (fun h59 => ?_)
            · refine x_iconst F (v := 0) dX5_canGo_66 (by decide) ?_
              refine x_istore_n F [(3, .int 0), (4, .int (nI k)), (2, .int (I 35 (nI n - 1).toNatClampNeg)), (0, .ref (ad 13)), (1, .int (nI n))] dX5_canGo_67 rfl (by decide) rfl ?_
              refine x_iinc F [(4, .int ((nI k) + 1)), (3, .int 0), (2, .int (I 35 (nI n - 1).toNatClampNeg)), (0, .ref (ad 13)), (1, .int (nI n))] dX5_canGo_68 1 rfl (by decide) rfl ?_
              refine x_goto F 39 dX5_canGo_71 (by decide) ?_
              rw [nI_1]
              refine x_sub (lv' := [(4, .int (nI (k + 1))), (3, .int (k_b (goM I J n (k + 1)))), (2, .int (I 35 (nI n - 1).toNatClampNeg)), (0, .ref (ad 13)), (1, .int (nI n))]) [0, 1, 2, 3, 4] (by rw [show goM I J n (k + 1) = false by first | (rw [goM, h48]; rfl) | (rw [nI_clamp (show k < 2 ^ 31 by omega)] at h59; rw [goM, h48]; simp [h59])]; rfl) ?_
              exact ih39 (k + 1) (by omega) (by omega)
            · refine x_iconst F (v := 1) dX5_canGo_62 (by decide) ?_
              refine x_goto F 67 dX5_canGo_63 (by decide) ?_
              refine x_istore_n F [(3, .int 1), (4, .int (nI k)), (2, .int (I 35 (nI n - 1).toNatClampNeg)), (0, .ref (ad 13)), (1, .int (nI n))] dX5_canGo_67 rfl (by decide) rfl ?_
              refine x_iinc F [(4, .int ((nI k) + 1)), (3, .int 1), (2, .int (I 35 (nI n - 1).toNatClampNeg)), (0, .ref (ad 13)), (1, .int (nI n))] dX5_canGo_68 1 rfl (by decide) rfl ?_
              refine x_goto F 39 dX5_canGo_71 (by decide) ?_
              rw [nI_1]
              refine x_sub (lv' := [(4, .int (nI (k + 1))), (3, .int (k_b (goM I J n (k + 1)))), (2, .int (I 35 (nI n - 1).toNatClampNeg)), (0, .ref (ad 13)), (1, .int (nI n))]) [0, 1, 2, 3, 4] (by rw [show goM I J n (k + 1) = true by first | (rw [goM, h48]; rfl) | (rw [nI_clamp (show k < 2 ^ 31 by omega)] at h59; rw [goM, h48]; simp [h59])]; rfl) ?_
              exact ih39 (k + 1) (by omega) (by omega)
    refine x_sub (lv' := [(4, .int (nI 0)), (3, .int (k_b (goM I J n 0))), (2, .int (I 35 (nI n - 1).toNatClampNeg)), (0, .ref (ad 13)), (1, .int (nI n))]) [0, 1, 2, 3, 4] (by rw [show goM I J n 0 = true by first | simp [goM, go0, h11, h27] | simp [goM, go0, h11]]; rfl) ?_
    exact lp39 (n + 1) 0 (by omega) (by omega)
  · refine x_aload_n F dX5_canGo_14 rfl 1 rfl ?_
    refine x_aload_n F dX5_canGo_15 rfl 1 rfl ?_
    refine g_X5_75 F (hR 13 (by decide)) sc_13 rfl dX5_canGo_16 ?_
    refine x_iload_n F dX5_canGo_19 rfl 2 rfl ?_
    refine x_iconst F (v := 2) dX5_canGo_20 (by decide) ?_
    refine x_isub F dX5_canGo_21 ?_
    refine y_iald F (hR 35 (by decide)) ss_35 (vin_m2 (one_lt hn1 h11) hn5) dX5_canGo_22 ?_
    refine x_iload_n F dX5_canGo_23 rfl 0 rfl ?_
    refine z_callVi F [.int (I 35 ((nI n) - 2).toNatClampNeg), .int (I 35 ((nI n) - 1).toNatClampNeg)] (c_X5_isShut l D cy lo R ad q ns nt I J hR (I 35 ((nI n) - 2).toNatClampNeg) (I 35 ((nI n) - 1).toNatClampNeg) (car_m2 hcar (one_lt hn1 h11) hn5) (car_m1 hcar hn1 hn5)) mc_X5_isShut mv_X5_isShut lk_X5_113 (hR 13 (by decide)) sc_13 rfl rfl rfl dX5_canGo_24 ⟨Nat.le_of_ble_eq_true rfl, Nat.le_of_ble_eq_true rfl⟩ ⟨Nat.le_of_ble_eq_true rfl, Nat.le_of_ble_eq_true rfl⟩ (Nat.le_of_ble_eq_true rfl) ?_
    refine x_if_ne F 34 dX5_canGo_27 (by decide) (fun h27 => ?_) (fun h27 => ?_)
    · rw [kb1] at h27
      refine x_iconst F (v := 0) dX5_canGo_34 (by decide) ?_
      refine x_istore_n F [(3, .int 0), (2, .int (I 35 ((nI n) - 1).toNatClampNeg)), (0, .ref (ad 13)), (1, .int (nI n))] dX5_canGo_35 rfl (by decide) rfl ?_
      refine x_iconst F (v := 0) dX5_canGo_36 (by decide) ?_
      refine x_istore F [(4, .int 0), (3, .int 0), (2, .int (I 35 ((nI n) - 1).toNatClampNeg)), (0, .ref (ad 13)), (1, .int (nI n))] dX5_canGo_37 (by decide) rfl ?_
      have lp39 : ∀ (fu39 : Nat) (k : Nat), n - k < fu39 → (k ≤ n - 1) → XW D lo p l e { frames := 2, cells := 0, slots := 0, locals := 47 } s m args below meth c 5 0 0 Q R ad (k_c cy ad q ns nt I J) 39 [(4, .int (nI k)), (3, .int (k_b (goM I J n k))), (2, .int (I 35 (nI n - 1).toNatClampNeg)), (0, .ref (ad 13)), (1, .int (nI n))] [] := by
        intro fu39
        induction fu39 with
        | zero => intro k hf39; exact absurd hf39 (Nat.not_lt_zero _)
        | succ fu39 ih39 =>
          intro k hf39 hkn
          refine x_iload F dX5_canGo_39 0 rfl ?_
          refine x_iload_n F dX5_canGo_41 rfl 4 rfl ?_
          refine x_iconst F (v := 1) dX5_canGo_42 (by decide) ?_
          refine x_isub F dX5_canGo_43 ?_
          refine x_icmp_ge F 74 dX5_canGo_44 (by decide) (fun h44 => ?_) (fun h44 => ?_)
          · rw [nI_m1 hn1] at h44
            have hk9 := lp_exit (by omega) hkn h44
            refine x_iload_n F dX5_canGo_74 rfl 1 rfl ?_
            rw [hQ]
            exact x_zret F hr hlk (kb_n _) ⟨by rw [hk9], rfl⟩ dX5_canGo_75
          · rw [nI_m1 hn1] at h44
            have hk9 := lp_go (by omega) hkn h44
            refine x_iload_n F dX5_canGo_47 rfl 1 rfl ?_
            refine x_if_eq F 66 dX5_canGo_48 (by decide) (fun h48 => ?_) (fun h48 => ?_)
            · rw [kb0] at h48
              refine x_iconst F (v := 0) dX5_canGo_66 (by decide) ?_
              refine x_istore_n F [(3, .int 0), (4, .int (nI k)), (2, .int (I 35 (nI n - 1).toNatClampNeg)), (0, .ref (ad 13)), (1, .int (nI n))] dX5_canGo_67 rfl (by decide) rfl ?_
              refine x_iinc F [(4, .int ((nI k) + 1)), (3, .int 0), (2, .int (I 35 (nI n - 1).toNatClampNeg)), (0, .ref (ad 13)), (1, .int (nI n))] dX5_canGo_68 1 rfl (by decide) rfl ?_
              refine x_goto F 39 dX5_canGo_71 (by decide) ?_
              rw [nI_1]
              refine x_sub (lv' := [(4, .int (nI (k + 1))), (3, .int (k_b (goM I J n (k + 1)))), (2, .int (I 35 (nI n - 1).toNatClampNeg)), (0, .ref (ad 13)), (1, .int (nI n))]) [0, 1, 2, 3, 4] (by rw [show goM I J n (k + 1) = false by first | (rw [goM, h48]; rfl) | (rw [nI_clamp (show k < 2 ^ 31 by omega)] at h59; rw [goM, h48]; simp [h59])]; rfl) ?_
              exact ih39 (k + 1) (by omega) (by omega)
            · rw [kb1] at h48
              refine x_aload_n F dX5_canGo_51 rfl 3 rfl ?_
              refine g_X5_75 F (hR 13 (by decide)) sc_13 rfl dX5_canGo_52 ?_
              refine x_iload F dX5_canGo_55 0 rfl ?_
              refine y_iald F (hR 35 (by decide)) ss_35 (vp_in_nI (by omega) (by decide)) dX5_canGo_57 ?_
              refine x_iload_n F dX5_canGo_58 rfl 2 rfl ?_
              refine x_icmp_eq F 66 dX5_canGo_59 (by decide) (fun h59 => ?_) (fun h59 => ?_)
              · refine x_iconst F (v := 0) dX5_canGo_66 (by decide) ?_
                refine x_istore_n F [(3, .int 0), (4, .int (nI k)), (2, .int (I 35 (nI n - 1).toNatClampNeg)), (0, .ref (ad 13)), (1, .int (nI n))] dX5_canGo_67 rfl (by decide) rfl ?_
                refine x_iinc F [(4, .int ((nI k) + 1)), (3, .int 0), (2, .int (I 35 (nI n - 1).toNatClampNeg)), (0, .ref (ad 13)), (1, .int (nI n))] dX5_canGo_68 1 rfl (by decide) rfl ?_
                refine x_goto F 39 dX5_canGo_71 (by decide) ?_
                rw [nI_1]
                refine x_sub (lv' := [(4, .int (nI (k + 1))), (3, .int (k_b (goM I J n (k + 1)))), (2, .int (I 35 (nI n - 1).toNatClampNeg)), (0, .ref (ad 13)), (1, .int (nI n))]) [0, 1, 2, 3, 4] (by rw [show goM I J n (k + 1) = false by first | (rw [goM, h48]; rfl) | (rw [nI_clamp (show k < 2 ^ 31 by omega)] at h59; rw [goM, h48]; simp [h59])]; rfl) ?_
                exact ih39 (k + 1) (by omega) (by omega)
              · refine x_iconst F (v := 1) dX5_canGo_62 (by decide) ?_
                refine x_goto F 67 dX5_canGo_63 (by decide) ?_
                refine x_istore_n F [(3, .int 1), (4, .int (nI k)), (2, .int (I 35 (nI n - 1).toNatClampNeg)), (0, .ref (ad 13)), (1, .int (nI n))] dX5_canGo_67 rfl (by decide) rfl ?_
                refine x_iinc F [(4, .int ((nI k) + 1)), (3, .int 1), (2, .int (I 35 (nI n - 1).toNatClampNeg)), (0, .ref (ad 13)), (1, .int (nI n))] dX5_canGo_68 1 rfl (by decide) rfl ?_
                refine x_goto F 39 dX5_canGo_71 (by decide) ?_
                rw [nI_1]
                refine x_sub (lv' := [(4, .int (nI (k + 1))), (3, .int (k_b (goM I J n (k + 1)))), (2, .int (I 35 (nI n - 1).toNatClampNeg)), (0, .ref (ad 13)), (1, .int (nI n))]) [0, 1, 2, 3, 4] (by rw [show goM I J n (k + 1) = true by first | (rw [goM, h48]; rfl) | (rw [nI_clamp (show k < 2 ^ 31 by omega)] at h59; rw [goM, h48]; simp [h59])]; rfl) ?_
                exact ih39 (k + 1) (by omega) (by omega)
      refine x_sub (lv' := [(4, .int (nI 0)), (3, .int (k_b (goM I J n 0))), (2, .int (I 35 (nI n - 1).toNatClampNeg)), (0, .ref (ad 13)), (1, .int (nI n))]) [0, 1, 2, 3, 4] (by rw [show goM I J n 0 = false by first | simp [goM, go0, h11, h27] | simp [goM, go0, h11]]; rfl) ?_
      exact lp39 (n + 1) 0 (by omega) (by omega)
    · rw [kb0] at h27
      refine x_iconst F (v := 1) dX5_canGo_30 (by decide) ?_
      refine x_goto F 35 dX5_canGo_31 (by decide) ?_
      refine x_istore_n F [(3, .int 1), (2, .int (I 35 ((nI n) - 1).toNatClampNeg)), (0, .ref (ad 13)), (1, .int (nI n))] dX5_canGo_35 rfl (by decide) rfl ?_
      refine x_iconst F (v := 0) dX5_canGo_36 (by decide) ?_
      refine x_istore F [(4, .int 0), (3, .int 1), (2, .int (I 35 ((nI n) - 1).toNatClampNeg)), (0, .ref (ad 13)), (1, .int (nI n))] dX5_canGo_37 (by decide) rfl ?_
      have lp39 : ∀ (fu39 : Nat) (k : Nat), n - k < fu39 → (k ≤ n - 1) → XW D lo p l e { frames := 2, cells := 0, slots := 0, locals := 47 } s m args below meth c 5 0 0 Q R ad (k_c cy ad q ns nt I J) 39 [(4, .int (nI k)), (3, .int (k_b (goM I J n k))), (2, .int (I 35 (nI n - 1).toNatClampNeg)), (0, .ref (ad 13)), (1, .int (nI n))] [] := by
        intro fu39
        induction fu39 with
        | zero => intro k hf39; exact absurd hf39 (Nat.not_lt_zero _)
        | succ fu39 ih39 =>
          intro k hf39 hkn
          refine x_iload F dX5_canGo_39 0 rfl ?_
          refine x_iload_n F dX5_canGo_41 rfl 4 rfl ?_
          refine x_iconst F (v := 1) dX5_canGo_42 (by decide) ?_
          refine x_isub F dX5_canGo_43 ?_
          refine x_icmp_ge F 74 dX5_canGo_44 (by decide) (fun h44 => ?_) (fun h44 => ?_)
          · rw [nI_m1 hn1] at h44
            have hk9 := lp_exit (by omega) hkn h44
            refine x_iload_n F dX5_canGo_74 rfl 1 rfl ?_
            rw [hQ]
            exact x_zret F hr hlk (kb_n _) ⟨by rw [hk9], rfl⟩ dX5_canGo_75
          · rw [nI_m1 hn1] at h44
            have hk9 := lp_go (by omega) hkn h44
            refine x_iload_n F dX5_canGo_47 rfl 1 rfl ?_
            refine x_if_eq F 66 dX5_canGo_48 (by decide) (fun h48 => ?_) (fun h48 => ?_)
            · rw [kb0] at h48
              refine x_iconst F (v := 0) dX5_canGo_66 (by decide) ?_
              refine x_istore_n F [(3, .int 0), (4, .int (nI k)), (2, .int (I 35 (nI n - 1).toNatClampNeg)), (0, .ref (ad 13)), (1, .int (nI n))] dX5_canGo_67 rfl (by decide) rfl ?_
              refine x_iinc F [(4, .int ((nI k) + 1)), (3, .int 0), (2, .int (I 35 (nI n - 1).toNatClampNeg)), (0, .ref (ad 13)), (1, .int (nI n))] dX5_canGo_68 1 rfl (by decide) rfl ?_
              refine x_goto F 39 dX5_canGo_71 (by decide) ?_
              rw [nI_1]
              refine x_sub (lv' := [(4, .int (nI (k + 1))), (3, .int (k_b (goM I J n (k + 1)))), (2, .int (I 35 (nI n - 1).toNatClampNeg)), (0, .ref (ad 13)), (1, .int (nI n))]) [0, 1, 2, 3, 4] (by rw [show goM I J n (k + 1) = false by first | (rw [goM, h48]; rfl) | (rw [nI_clamp (show k < 2 ^ 31 by omega)] at h59; rw [goM, h48]; simp [h59])]; rfl) ?_
              exact ih39 (k + 1) (by omega) (by omega)
            · rw [kb1] at h48
              refine x_aload_n F dX5_canGo_51 rfl 3 rfl ?_
              refine g_X5_75 F (hR 13 (by decide)) sc_13 rfl dX5_canGo_52 ?_
              refine x_iload F dX5_canGo_55 0 rfl ?_
              refine y_iald F (hR 35 (by decide)) ss_35 (vp_in_nI (by omega) (by decide)) dX5_canGo_57 ?_
              refine x_iload_n F dX5_canGo_58 rfl 2 rfl ?_
              refine x_icmp_eq F 66 dX5_canGo_59 (by decide) (fun h59 => ?_) (fun h59 => ?_)
              · refine x_iconst F (v := 0) dX5_canGo_66 (by decide) ?_
                refine x_istore_n F [(3, .int 0), (4, .int (nI k)), (2, .int (I 35 (nI n - 1).toNatClampNeg)), (0, .ref (ad 13)), (1, .int (nI n))] dX5_canGo_67 rfl (by decide) rfl ?_
                refine x_iinc F [(4, .int ((nI k) + 1)), (3, .int 0), (2, .int (I 35 (nI n - 1).toNatClampNeg)), (0, .ref (ad 13)), (1, .int (nI n))] dX5_canGo_68 1 rfl (by decide) rfl ?_
                refine x_goto F 39 dX5_canGo_71 (by decide) ?_
                rw [nI_1]
                refine x_sub (lv' := [(4, .int (nI (k + 1))), (3, .int (k_b (goM I J n (k + 1)))), (2, .int (I 35 (nI n - 1).toNatClampNeg)), (0, .ref (ad 13)), (1, .int (nI n))]) [0, 1, 2, 3, 4] (by rw [show goM I J n (k + 1) = false by first | (rw [goM, h48]; rfl) | (rw [nI_clamp (show k < 2 ^ 31 by omega)] at h59; rw [goM, h48]; simp [h59])]; rfl) ?_
                exact ih39 (k + 1) (by omega) (by omega)
              · refine x_iconst F (v := 1) dX5_canGo_62 (by decide) ?_
                refine x_goto F 67 dX5_canGo_63 (by decide) ?_
                refine x_istore_n F [(3, .int 1), (4, .int (nI k)), (2, .int (I 35 (nI n - 1).toNatClampNeg)), (0, .ref (ad 13)), (1, .int (nI n))] dX5_canGo_67 rfl (by decide) rfl ?_
                refine x_iinc F [(4, .int ((nI k) + 1)), (3, .int 1), (2, .int (I 35 (nI n - 1).toNatClampNeg)), (0, .ref (ad 13)), (1, .int (nI n))] dX5_canGo_68 1 rfl (by decide) rfl ?_
                refine x_goto F 39 dX5_canGo_71 (by decide) ?_
                rw [nI_1]
                refine x_sub (lv' := [(4, .int (nI (k + 1))), (3, .int (k_b (goM I J n (k + 1)))), (2, .int (I 35 (nI n - 1).toNatClampNeg)), (0, .ref (ad 13)), (1, .int (nI n))]) [0, 1, 2, 3, 4] (by rw [show goM I J n (k + 1) = true by first | (rw [goM, h48]; rfl) | (rw [nI_clamp (show k < 2 ^ 31 by omega)] at h59; rw [goM, h48]; simp [h59])]; rfl) ?_
                exact ih39 (k + 1) (by omega) (by omega)
      refine x_sub (lv' := [(4, .int (nI 0)), (3, .int (k_b (goM I J n 0))), (2, .int (I 35 (nI n - 1).toNatClampNeg)), (0, .ref (ad 13)), (1, .int (nI n))]) [0, 1, 2, 3, 4] (by rw [show goM I J n 0 = true by first | simp [goM, go0, h11, h27] | simp [goM, go0, h11]]; rfl) ?_
      exact lp39 (n + 1) 0 (by omega) (by omega)
set_option maxHeartbeats 4000000 in
set_option maxRecDepth 100000 in
/-- costOf -/
theorem c_X5_costOf (l : Launch) (D : va_G) (cy : Nat → ClassId) (lo : Nat) (R : List Nat) (ad : Nat → Nat) (q : Nat → Nat → Nat) (ns nt : Nat) (I : Nat → Nat → Int32) (J : Nat → Nat → Int64) (hR : ∀ r, r < 36 → r ∈ R) (n : Nat) (hn1 : 1 ≤ n) (hn5 : n ≤ 5) (hcar : ∀ i, i < n → isCar (I 35 i) = true) : k_Ci l yX5_costOf cX5_costOf 4 (some .int) 0 0 D cy lo R ad (k_c cy ad q ns nt I J) [.ref (ad 13), .int (nI n)] (costM I n) (k_c cy ad q ns nt I J) := by
  refine k_metQ (by decide +kernel) (Nat.le_of_ble_eq_true rfl) ?_
  intro p e s m args below meth c Q F hr hlk hnm hQ
  refine x_iconst F (v := 0) dX5_costOf_0 (by decide) ?_
  refine x_istore_n F [(2, .int 0), (0, .ref (ad 13)), (1, .int (nI n))] dX5_costOf_1 rfl (by decide) rfl ?_
  refine x_iconst F (v := 1) dX5_costOf_2 (by decide) ?_
  refine x_istore_n F [(3, .int 1), (2, .int 0), (0, .ref (ad 13)), (1, .int (nI n))] dX5_costOf_3 rfl (by decide) rfl ?_
  have lp4 : ∀ (fu4 : Nat) (k : Nat), n - k < fu4 → (1 ≤ k) → (k ≤ n) → XW D lo p l e { frames := 0, cells := 0, slots := 0, locals := 0 } s m args below meth c 4 0 0 Q R ad (k_c cy ad q ns nt I J) 4 [(3, .int (nI k)), (2, .int (costM I k)), (0, .ref (ad 13)), (1, .int (nI n))] [] := by
    intro fu4
    induction fu4 with
    | zero => intro k hf4; exact absurd hf4 (Nat.not_lt_zero _)
    | succ fu4 ih4 =>
      intro k hf4 hk1 hkn
      refine x_iload_n F dX5_costOf_4 rfl 0 rfl ?_
      refine x_iload_n F dX5_costOf_5 rfl 3 rfl ?_
      refine x_icmp_ge F 40 dX5_costOf_6 (by decide) (fun h6 => ?_) (fun h6 => ?_)
      · have hk9 := lp_exit (by omega) hkn h6
        refine x_iload_n F dX5_costOf_40 rfl 1 rfl ?_
        rw [hQ]
        exact x_iret F hr hlk ⟨by rw [hk9], rfl⟩ dX5_costOf_41
      · have hk9 := lp_go (by omega) hkn h6
        refine x_iload_n F dX5_costOf_9 rfl 1 rfl ?_
        refine x_aload_n F dX5_costOf_10 rfl 2 rfl ?_
        refine g_X5_20 F (hR 13 (by decide)) sc_13 rfl dX5_costOf_11 ?_
        refine x_iconst F (v := 5) dX5_costOf_14 (by decide) ?_
        refine x_aload_n F dX5_costOf_15 rfl 2 rfl ?_
        refine g_X5_75 F (hR 13 (by decide)) sc_13 rfl dX5_costOf_16 ?_
        refine x_iload_n F dX5_costOf_19 rfl 0 rfl ?_
        refine x_iconst F (v := 1) dX5_costOf_20 (by decide) ?_
        refine x_isub F dX5_costOf_21 ?_
        refine y_iald F (hR 35 (by decide)) ss_35 (vin_m1 hk1 (by omega)) dX5_costOf_22 ?_
        refine x_imul F dX5_costOf_23 ?_
        refine x_aload_n F dX5_costOf_24 rfl 2 rfl ?_
        refine g_X5_75 F (hR 13 (by decide)) sc_13 rfl dX5_costOf_25 ?_
        refine x_iload_n F dX5_costOf_28 rfl 0 rfl ?_
        refine y_iald F (hR 35 (by decide)) ss_35 (vp_in_nI (by omega) (by decide)) dX5_costOf_29 ?_
        refine x_iadd F dX5_costOf_30 ?_
        refine y_iald F (hR 17 (by decide)) ss_17 (vin_pair (by rw [nI_m1 hk1, nI_clamp (by omega)]; exact hcar _ (by omega)) (by rw [nI_clamp (by omega)]; exact hcar _ (by omega))) dX5_costOf_31 ?_
        refine x_iadd F dX5_costOf_32 ?_
        refine x_istore_n F [(2, .int ((costM I k) + (I 17 ((5 * (I 35 ((nI k) - 1).toNatClampNeg)) + (I 35 (nI k).toNatClampNeg)).toNatClampNeg))), (3, .int (nI k)), (0, .ref (ad 13)), (1, .int (nI n))] dX5_costOf_33 rfl (by decide) rfl ?_
        refine x_iinc F [(3, .int ((nI k) + 1)), (2, .int ((costM I k) + (I 17 ((5 * (I 35 ((nI k) - 1).toNatClampNeg)) + (I 35 (nI k).toNatClampNeg)).toNatClampNeg))), (0, .ref (ad 13)), (1, .int (nI n))] dX5_costOf_34 1 rfl (by decide) rfl ?_
        refine x_goto F 4 dX5_costOf_37 (by decide) ?_
        rw [nI_1]
        refine x_sub (lv' := [(3, .int (nI (k + 1))), (2, .int (costM I (k + 1))), (0, .ref (ad 13)), (1, .int (nI n))]) [0, 1, 2, 3] (by rw [costM, if_neg (by omega)]; rfl) ?_
        exact ih4 (k + 1) (by omega) (by omega) (by omega)
  exact lp4 (n + 1) 1 (by omega) (by omega) (by omega)
