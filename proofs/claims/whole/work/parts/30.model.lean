def debtM (J : Nat → Nat → Int64) (a b : Int32) : Int64 := J 19 (5 * a + b).toNatClampNeg - J 20 (5 * a + b).toNatClampNeg - J 19 (5 * b + a).toNatClampNeg + J 20 (5 * b + a).toNatClampNeg
def shutM (I : Nat → Nat → Int32) (J : Nat → Nat → Int64) (a b : Int32) : Bool := decide (I 16 (5 * a + b).toNatClampNeg = 0) || decide ((I 18 (5 * a + b).toNatClampNeg).toInt64 < debtM J a b + (I 17 (5 * a + b).toNatClampNeg).toInt64)
def homeM (I : Nat → Nat → Int32) (n : Int32) : Int32 := I 22 (10 * n + I 21 n.toNatClampNeg - 1).toNatClampNeg
def isNum (I : Nat → Nat → Int32) (n : Int32) : Bool := isWi n 0 (I 13 8 - 1)
def isCal (I : Nat → Nat → Int32) (n : Int32) : Bool := isWi n 0 (I 13 13 - 1)
set_option maxHeartbeats 4000000 in
set_option maxRecDepth 100000 in
/-- isCarrier -/
theorem c_X5_isCarrier (l : Launch) (D : va_G) (cy : Nat → ClassId) (lo : Nat) (R : List Nat) (ad : Nat → Nat) (w : Nat → va_E) (a : Int32) : k_Ci l yX5_isCarrier cX5_isCarrier 1 (some .boolean) 1 22 D cy lo R ad w [.int a] (k_b (isCar a)) w := by
  refine k_metQ (by decide +kernel) (Nat.le_of_ble_eq_true rfl) ?_
  intro p e s m args below meth c Q F hr hlk hnm hQ
  refine x_iload_n F dX5_isCarrier_0 rfl 0 rfl ?_
  refine x_iconst F (v := 0) dX5_isCarrier_1 (by decide) ?_
  refine x_iconst F (v := 4) dX5_isCarrier_2 (by decide) ?_
  refine z_callSi F [.int a, .int 0, .int 4] (c_X5_isIn l D cy lo R ad _ a 0 4) mc_X5_isIn ms_X5_isIn lk_X5_82 rfl rfl dX5_isCarrier_3 ⟨Nat.le_of_ble_eq_true rfl, Nat.le_of_ble_eq_true rfl⟩ ⟨Nat.le_of_ble_eq_true rfl, Nat.le_of_ble_eq_true rfl⟩ (Nat.le_of_ble_eq_true rfl) ?_
  rw [hQ]
  exact x_zret F hr hlk (kb_n _) ⟨by rw [wi_car], rfl⟩ dX5_isCarrier_6
set_option maxHeartbeats 4000000 in
set_option maxRecDepth 100000 in
/-- areCarriers -/
theorem c_X5_areCarriers (l : Launch) (D : va_G) (cy : Nat → ClassId) (lo : Nat) (R : List Nat) (ad : Nat → Nat) (w : Nat → va_E) (a b : Int32) : k_Ci l yX5_areCarriers cX5_areCarriers 2 (some .boolean) 2 42 D cy lo R ad w [.int a, .int b] (k_b (isCar a && isCar b)) w := by
  refine k_metQ (by decide +kernel) (Nat.le_of_ble_eq_true rfl) ?_
  intro p e s m args below meth c Q F hr hlk hnm hQ
  refine x_iload_n F dX5_areCarriers_0 rfl 0 rfl ?_
  refine z_callSi F [.int a] (c_X5_isCarrier l D cy lo R ad _ a) mc_X5_isCarrier ms_X5_isCarrier lk_X5_86 rfl rfl dX5_areCarriers_1 ⟨Nat.le_of_ble_eq_true rfl, Nat.le_of_ble_eq_true rfl⟩ ⟨Nat.le_of_ble_eq_true rfl, Nat.le_of_ble_eq_true rfl⟩ (Nat.le_of_ble_eq_true rfl) ?_
  refine x_if_eq F 18 dX5_areCarriers_4 (by decide) (fun h4 => ?_) (fun h4 => ?_)
  · rw [kb0] at h4
    refine x_iconst F (v := 0) dX5_areCarriers_18 (by decide) ?_
    rw [hQ]
    exact x_zret F hr hlk (by decide) ⟨by simp [k_b, *], rfl⟩ dX5_areCarriers_19
  · rw [kb1] at h4
    refine x_iload_n F dX5_areCarriers_7 rfl 1 rfl ?_
    refine z_callSi F [.int b] (c_X5_isCarrier l D cy lo R ad _ b) mc_X5_isCarrier ms_X5_isCarrier lk_X5_86 rfl rfl dX5_areCarriers_8 ⟨Nat.le_of_ble_eq_true rfl, Nat.le_of_ble_eq_true rfl⟩ ⟨Nat.le_of_ble_eq_true rfl, Nat.le_of_ble_eq_true rfl⟩ (Nat.le_of_ble_eq_true rfl) ?_
    refine x_if_eq F 18 dX5_areCarriers_11 (by decide) (fun h11 => ?_) (fun h11 => ?_)
    · rw [kb0] at h11
      refine x_iconst F (v := 0) dX5_areCarriers_18 (by decide) ?_
      rw [hQ]
      exact x_zret F hr hlk (by decide) ⟨by simp [k_b, *], rfl⟩ dX5_areCarriers_19
    · rw [kb1] at h11
      refine x_iconst F (v := 1) dX5_areCarriers_14 (by decide) ?_
      refine x_goto F 19 dX5_areCarriers_15 (by decide) ?_
      rw [hQ]
      exact x_zret F hr hlk (by decide) ⟨by simp [k_b, *], rfl⟩ dX5_areCarriers_19
set_option maxHeartbeats 4000000 in
set_option maxRecDepth 100000 in
/-- thrown -/
theorem c_X5_thrown (l : Launch) (D : va_G) (cy : Nat → ClassId) (lo : Nat) (R : List Nat) (ad : Nat → Nat) (q : Nat → Nat → Nat) (ns nt : Nat) (I : Nat → Nat → Int32) (J : Nat → Nat → Int64) (hR : ∀ r, r < 36 → r ∈ R) : k_Ci l yX5_thrown cX5_thrown 1 (some .int) 0 0 D cy lo R ad (k_c cy ad q ns nt I J) [.ref (ad 13)] (I 13 0) (k_c cy ad q ns nt I J) := by
  refine k_metQ (by decide +kernel) (Nat.le_of_ble_eq_true rfl) ?_
  intro p e s m args below meth c Q F hr hlk hnm hQ
  refine x_aload_n F dX5_thrown_0 rfl 0 rfl ?_
  refine g_X5_78 F (hR 13 (by decide)) sc_13 rfl dX5_thrown_1 ?_
  rw [hQ]
  exact x_iret F hr hlk ⟨rfl, rfl⟩ dX5_thrown_4
set_option maxHeartbeats 4000000 in
set_option maxRecDepth 100000 in
/-- isNumber -/
theorem c_X5_isNumber (l : Launch) (D : va_G) (cy : Nat → ClassId) (lo : Nat) (R : List Nat) (ad : Nat → Nat) (q : Nat → Nat → Nat) (ns nt : Nat) (I : Nat → Nat → Int32) (J : Nat → Nat → Int64) (hR : ∀ r, r < 36 → r ∈ R) (a : Int32) : k_Ci l yX5_isNumber cX5_isNumber 2 (some .boolean) 1 22 D cy lo R ad (k_c cy ad q ns nt I J) [.ref (ad 13), .int a] (k_b (isNum I a)) (k_c cy ad q ns nt I J) := by
  refine k_metQ (by decide +kernel) (Nat.le_of_ble_eq_true rfl) ?_
  intro p e s m args below meth c Q F hr hlk hnm hQ
  refine x_iload_n F dX5_isNumber_0 rfl 1 rfl ?_
  refine x_iconst F (v := 0) dX5_isNumber_1 (by decide) ?_
  refine x_aload_n F dX5_isNumber_2 rfl 0 rfl ?_
  refine g_X5_90 F (hR 13 (by decide)) sc_13 rfl dX5_isNumber_3 ?_
  refine x_iconst F (v := 1) dX5_isNumber_6 (by decide) ?_
  refine x_isub F dX5_isNumber_7 ?_
  refine z_callSi F [.int a, .int 0, .int ((I 13 8) - 1)] (c_X5_isIn l D cy lo R ad _ a 0 ((I 13 8) - 1)) mc_X5_isIn ms_X5_isIn lk_X5_82 rfl rfl dX5_isNumber_8 ⟨Nat.le_of_ble_eq_true rfl, Nat.le_of_ble_eq_true rfl⟩ ⟨Nat.le_of_ble_eq_true rfl, Nat.le_of_ble_eq_true rfl⟩ (Nat.le_of_ble_eq_true rfl) ?_
  rw [hQ]
  exact x_zret F hr hlk (kb_n _) ⟨rfl, rfl⟩ dX5_isNumber_11
set_option maxHeartbeats 4000000 in
set_option maxRecDepth 100000 in
/-- isCall -/
theorem c_X5_isCall (l : Launch) (D : va_G) (cy : Nat → ClassId) (lo : Nat) (R : List Nat) (ad : Nat → Nat) (q : Nat → Nat → Nat) (ns nt : Nat) (I : Nat → Nat → Int32) (J : Nat → Nat → Int64) (hR : ∀ r, r < 36 → r ∈ R) (a : Int32) : k_Ci l yX5_isCall cX5_isCall 2 (some .boolean) 1 22 D cy lo R ad (k_c cy ad q ns nt I J) [.ref (ad 13), .int a] (k_b (isCal I a)) (k_c cy ad q ns nt I J) := by
  refine k_metQ (by decide +kernel) (Nat.le_of_ble_eq_true rfl) ?_
  intro p e s m args below meth c Q F hr hlk hnm hQ
  refine x_iload_n F dX5_isCall_0 rfl 1 rfl ?_
  refine x_iconst F (v := 0) dX5_isCall_1 (by decide) ?_
  refine x_aload_n F dX5_isCall_2 rfl 0 rfl ?_
  refine g_X5_93 F (hR 13 (by decide)) sc_13 rfl dX5_isCall_3 ?_
  refine x_iconst F (v := 1) dX5_isCall_6 (by decide) ?_
  refine x_isub F dX5_isCall_7 ?_
  refine z_callSi F [.int a, .int 0, .int ((I 13 13) - 1)] (c_X5_isIn l D cy lo R ad _ a 0 ((I 13 13) - 1)) mc_X5_isIn ms_X5_isIn lk_X5_82 rfl rfl dX5_isCall_8 ⟨Nat.le_of_ble_eq_true rfl, Nat.le_of_ble_eq_true rfl⟩ ⟨Nat.le_of_ble_eq_true rfl, Nat.le_of_ble_eq_true rfl⟩ (Nat.le_of_ble_eq_true rfl) ?_
  rw [hQ]
  exact x_zret F hr hlk (kb_n _) ⟨rfl, rfl⟩ dX5_isCall_11
set_option maxHeartbeats 4000000 in
set_option maxRecDepth 100000 in
/-- homeOf -/
theorem c_X5_homeOf (l : Launch) (D : va_G) (cy : Nat → ClassId) (lo : Nat) (R : List Nat) (ad : Nat → Nat) (q : Nat → Nat → Nat) (ns nt : Nat) (I : Nat → Nat → Int32) (J : Nat → Nat → Int64) (hR : ∀ r, r < 36 → r ∈ R) (a : Int32) (hx1 : vp_in a 20) (hx2 : vp_in (10 * a + I 21 a.toNatClampNeg - 1) 200) : k_Ci l yX5_homeOf cX5_homeOf 2 (some .int) 0 0 D cy lo R ad (k_c cy ad q ns nt I J) [.ref (ad 13), .int a] (homeM I a) (k_c cy ad q ns nt I J) := by
  refine k_metQ (by decide +kernel) (Nat.le_of_ble_eq_true rfl) ?_
  intro p e s m args below meth c Q F hr hlk hnm hQ
  refine x_aload_n F dX5_homeOf_0 rfl 0 rfl ?_
  refine g_X5_36 F (hR 13 (by decide)) sc_13 rfl dX5_homeOf_1 ?_
  refine x_bipush F (v := 10) dX5_homeOf_4 (by decide) ?_
  refine x_iload_n F dX5_homeOf_6 rfl 1 rfl ?_
  refine x_imul F dX5_homeOf_7 ?_
  refine x_aload_n F dX5_homeOf_8 rfl 0 rfl ?_
  refine g_X5_33 F (hR 13 (by decide)) sc_13 rfl dX5_homeOf_9 ?_
  refine x_iload_n F dX5_homeOf_12 rfl 1 rfl ?_
  refine y_iald F (hR 21 (by decide)) ss_21 ‹_› dX5_homeOf_13 ?_
  refine x_iadd F dX5_homeOf_14 ?_
  refine x_iconst F (v := 1) dX5_homeOf_15 (by decide) ?_
  refine x_isub F dX5_homeOf_16 ?_
  refine y_iald F (hR 22 (by decide)) ss_22 ‹_› dX5_homeOf_17 ?_
  rw [hQ]
  exact x_iret F hr hlk ⟨rfl, rfl⟩ dX5_homeOf_18
set_option maxHeartbeats 4000000 in
set_option maxRecDepth 100000 in
/-- debtOf -/
theorem c_X5_debtOf (l : Launch) (D : va_G) (cy : Nat → ClassId) (lo : Nat) (R : List Nat) (ad : Nat → Nat) (q : Nat → Nat → Nat) (ns nt : Nat) (I : Nat → Nat → Int32) (J : Nat → Nat → Int64) (hR : ∀ r, r < 36 → r ∈ R) (a : Int32) (b : Int32) (ha : isCar a = true) (hb : isCar b = true) : k_Cl l yX5_debtOf cX5_debtOf 5 (some .long) 0 0 D cy lo R ad (k_c cy ad q ns nt I J) [.ref (ad 13), .int a, .int b] (debtM J a b) (k_c cy ad q ns nt I J) := by
  refine k_metQ (by decide +kernel) (Nat.le_of_ble_eq_true rfl) ?_
  intro p e s m args below meth c Q F hr hlk hnm hQ
  refine x_iconst F (v := 5) dX5_debtOf_0 (by decide) ?_
  refine x_iload_n F dX5_debtOf_1 rfl 1 rfl ?_
  refine x_imul F dX5_debtOf_2 ?_
  refine x_iload_n F dX5_debtOf_3 rfl 2 rfl ?_
  refine x_iadd F dX5_debtOf_4 ?_
  refine x_istore_n F [(3, .int ((5 * a) + b)), (0, .ref (ad 13)), (1, .int a), (2, .int b)] dX5_debtOf_5 rfl (by decide) rfl ?_
  refine x_iconst F (v := 5) dX5_debtOf_6 (by decide) ?_
  refine x_iload_n F dX5_debtOf_7 rfl 3 rfl ?_
  refine x_imul F dX5_debtOf_8 ?_
  refine x_iload_n F dX5_debtOf_9 rfl 2 rfl ?_
  refine x_iadd F dX5_debtOf_10 ?_
  refine x_istore F [(4, .int ((5 * b) + a)), (3, .int ((5 * a) + b)), (0, .ref (ad 13)), (1, .int a), (2, .int b)] dX5_debtOf_11 (by decide) rfl ?_
  refine x_aload_n F dX5_debtOf_13 rfl 2 rfl ?_
  refine g_X5_26 F (hR 13 (by decide)) sc_13 rfl dX5_debtOf_14 ?_
  refine x_iload_n F dX5_debtOf_17 rfl 1 rfl ?_
  refine y_lald F (hR 19 (by decide)) ss_19 (vin_pair ‹_› ‹_›) dX5_debtOf_18 ?_
  refine x_aload_n F dX5_debtOf_19 rfl 2 rfl ?_
  refine g_X5_30 F (hR 13 (by decide)) sc_13 rfl dX5_debtOf_20 ?_
  refine x_iload_n F dX5_debtOf_23 rfl 1 rfl ?_
  refine y_lald F (hR 20 (by decide)) ss_20 (vin_pair ‹_› ‹_›) dX5_debtOf_24 ?_
  refine x_lsub F dX5_debtOf_25 ?_
  refine x_aload_n F dX5_debtOf_26 rfl 2 rfl ?_
  refine g_X5_26 F (hR 13 (by decide)) sc_13 rfl dX5_debtOf_27 ?_
  refine x_iload F dX5_debtOf_30 0 rfl ?_
  refine y_lald F (hR 19 (by decide)) ss_19 (vin_pair ‹_› ‹_›) dX5_debtOf_32 ?_
  refine x_lsub F dX5_debtOf_33 ?_
  refine x_aload_n F dX5_debtOf_34 rfl 2 rfl ?_
  refine g_X5_30 F (hR 13 (by decide)) sc_13 rfl dX5_debtOf_35 ?_
  refine x_iload F dX5_debtOf_38 0 rfl ?_
  refine y_lald F (hR 20 (by decide)) ss_20 (vin_pair ‹_› ‹_›) dX5_debtOf_40 ?_
  refine x_ladd F dX5_debtOf_41 ?_
  rw [hQ]
  exact x_lret F hr hlk ⟨rfl, rfl⟩ dX5_debtOf_42
set_option maxHeartbeats 4000000 in
set_option maxRecDepth 100000 in
/-- isShut -/
theorem c_X5_isShut (l : Launch) (D : va_G) (cy : Nat → ClassId) (lo : Nat) (R : List Nat) (ad : Nat → Nat) (q : Nat → Nat → Nat) (ns nt : Nat) (I : Nat → Nat → Int32) (J : Nat → Nat → Int64) (hR : ∀ r, r < 36 → r ∈ R) (a : Int32) (b : Int32) (ha : isCar a = true) (hb : isCar b = true) : k_Ci l yX5_isShut cX5_isShut 4 (some .boolean) 1 24 D cy lo R ad (k_c cy ad q ns nt I J) [.ref (ad 13), .int a, .int b] (k_b (shutM I J a b)) (k_c cy ad q ns nt I J) := by
  refine k_metQ (by decide +kernel) (Nat.le_of_ble_eq_true rfl) ?_
  intro p e s m args below meth c Q F hr hlk hnm hQ
  refine x_iconst F (v := 5) dX5_isShut_0 (by decide) ?_
  refine x_iload_n F dX5_isShut_1 rfl 1 rfl ?_
  refine x_imul F dX5_isShut_2 ?_
  refine x_iload_n F dX5_isShut_3 rfl 2 rfl ?_
  refine x_iadd F dX5_isShut_4 ?_
  refine x_istore_n F [(3, .int ((5 * a) + b)), (0, .ref (ad 13)), (1, .int a), (2, .int b)] dX5_isShut_5 rfl (by decide) rfl ?_
  refine x_aload_n F dX5_isShut_6 rfl 1 rfl ?_
  refine g_X5_16 F (hR 13 (by decide)) sc_13 rfl dX5_isShut_7 ?_
  refine x_iload_n F dX5_isShut_10 rfl 0 rfl ?_
  refine y_zald F (hR 16 (by decide)) ss_16 (vin_pair ‹_› ‹_›) dX5_isShut_11 ?_
  refine x_if_eq F 40 dX5_isShut_12 (by decide) (fun h12 => ?_) (fun h12 => ?_)
  · refine x_iconst F (v := 1) dX5_isShut_40 (by decide) ?_
    refine x_goto F 45 dX5_isShut_41 (by decide) ?_
    rw [hQ]
    exact x_zret F hr hlk (by decide) ⟨by simp [shutM, k_b, *], by simp [shutM, k_b, *]⟩ dX5_isShut_45
  · refine x_aload_n F dX5_isShut_15 rfl 1 rfl ?_
    refine x_iload_n F dX5_isShut_16 rfl 2 rfl ?_
    refine x_iload_n F dX5_isShut_17 rfl 3 rfl ?_
    refine z_callVl F [.int a, .int b] (c_X5_debtOf l D cy lo R ad q ns nt I J hR a b ha hb) mc_X5_debtOf mv_X5_debtOf lk_X5_109 (hR 13 (by decide)) sc_13 rfl rfl rfl dX5_isShut_18 ⟨Nat.le_of_ble_eq_true rfl, Nat.le_of_ble_eq_true rfl⟩ ⟨Nat.le_of_ble_eq_true rfl, Nat.le_of_ble_eq_true rfl⟩ (Nat.le_of_ble_eq_true rfl) ?_
    refine x_aload_n F dX5_isShut_21 rfl 1 rfl ?_
    refine g_X5_20 F (hR 13 (by decide)) sc_13 rfl dX5_isShut_22 ?_
    refine x_iload_n F dX5_isShut_25 rfl 0 rfl ?_
    refine y_iald F (hR 17 (by decide)) ss_17 (vin_pair ‹_› ‹_›) dX5_isShut_26 ?_
    refine x_i2l F dX5_isShut_27 ?_
    refine x_ladd F dX5_isShut_28 ?_
    refine x_aload_n F dX5_isShut_29 rfl 1 rfl ?_
    refine g_X5_23 F (hR 13 (by decide)) sc_13 rfl dX5_isShut_30 ?_
    refine x_iload_n F dX5_isShut_33 rfl 0 rfl ?_
    refine y_iald F (hR 18 (by decide)) ss_18 (vin_pair ‹_› ‹_›) dX5_isShut_34 ?_
    refine x_i2l F dX5_isShut_35 ?_
    refine x_lcmp F dX5_isShut_36 ?_
    refine x_if_le F 44 dX5_isShut_37 (by decide) (fun h37 => ?_) (fun h37 => ?_)
    · rw [lg_cmp_le] at h37
      refine x_iconst F (v := 0) dX5_isShut_44 (by decide) ?_
      rw [hQ]
      exact x_zret F hr hlk (by decide) ⟨by simp [shutM, k_b, *], by simp [shutM, k_b, *]⟩ dX5_isShut_45
    · rw [lg_cmp_le] at h37
      refine x_iconst F (v := 1) dX5_isShut_40 (by decide) ?_
      refine x_goto F 45 dX5_isShut_41 (by decide) ?_
      rw [hQ]
      exact x_zret F hr hlk (by decide) ⟨by simp [shutM, k_b, *], by simp [shutM, k_b, *]⟩ dX5_isShut_45
