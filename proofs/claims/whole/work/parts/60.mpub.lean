/-! the reference's public methods: what they set thrown to, what they answer, what they leave -/
theorem num_vin {I : Nat → Nat → Int32} {a : Int32} {ns : Nat} (h : isNum I a = true) (h8 : I 13 8 = nI ns) (hns : ns ≤ 20) : ∃ i, i < ns ∧ a = nI i := by
  simp only [isNum, isWi, h8, Bool.and_eq_true, Bool.not_eq_true', decide_eq_false_iff_not] at h
  obtain ⟨h1, h2⟩ := h
  obtain ⟨i, hi, rfl⟩ := nI_of h1
  refine ⟨i, ?_, rfl⟩
  rcases Nat.eq_zero_or_pos ns with z | z
  · subst z
    exfalso
    apply h2
    rw [show nI 0 - 1 = (-1 : Int32) from rfl, Int32.lt_iff_toInt_lt, nI_toInt hi]
    have e0 : (-1 : Int32).toInt = -1 := rfl
    omega
  · rw [nI_m1 z] at h2
    rw [Int32.lt_iff_toInt_lt, nI_toInt hi, nI_toInt (by omega)] at h2
    omega
theorem num_of {I : Nat → Nat → Int32} {ns i : Nat} (h8 : I 13 8 = nI ns) (hns : ns ≤ 20) (hi : i < ns) : isNum I (nI i) = true := by
  simp only [isNum, isWi, h8, Bool.and_eq_true, Bool.not_eq_true', decide_eq_false_iff_not]
  refine ⟨nI_pos (by omega), ?_⟩
  rw [nI_m1 (by omega), Int32.lt_iff_toInt_lt, nI_toInt (by omega), nI_toInt (by omega)]
  omega
theorem num_eq {I : Nat → Nat → Int32} {a : Int32} {ns : Nat} (h8 : I 13 8 = nI ns) (hns : ns ≤ 20) : isNum I a = isN ns a := by
  cases h : isN ns a with
  | true =>
    obtain ⟨i, hi, rfl, -⟩ := isN_nI h
    exact num_of h8 hns hi
  | false =>
    cases h2 : isNum I a with
    | false => rfl
    | true =>
      obtain ⟨i, hi, rfl⟩ := num_vin h2 h8 hns
      rw [isN_yes (nI_pos (by omega)) (by rw [nI_clamp (by omega)]; exact hi)] at h
      cases h
theorem cal_eq {I : Nat → Nat → Int32} {a : Int32} {nt : Nat} (h8 : I 13 13 = nI nt) (hnt : nt ≤ 60) : isCal I a = isN nt a := by
  cases h : isN nt a with
  | true =>
    obtain ⟨i, hi, rfl, -⟩ := isN_nI h
    simp only [isCal, isWi, h8, Bool.and_eq_true, Bool.not_eq_true', decide_eq_false_iff_not]
    refine ⟨nI_pos (by omega), ?_⟩
    rw [nI_m1 (by omega), Int32.lt_iff_toInt_lt, nI_toInt (by omega), nI_toInt (by omega)]
    omega
  | false =>
    cases h2 : isCal I a with
    | false => rfl
    | true =>
      simp only [isCal, isWi, h8, Bool.and_eq_true, Bool.not_eq_true', decide_eq_false_iff_not] at h2
      obtain ⟨h1, h2⟩ := h2
      obtain ⟨i, hi, rfl⟩ := nI_of h1
      exfalso
      have : ¬ i < nt := by
        intro hlt
        rw [isN_yes h1 (by rw [nI_clamp hi]; exact hlt)] at h
        cases h
      apply h2
      rcases Nat.eq_zero_or_pos nt with z | z
      · subst z
        rw [show nI 0 - 1 = (-1 : Int32) from rfl, Int32.lt_iff_toInt_lt, nI_toInt hi]
        have e0 : (-1 : Int32).toInt = -1 := rfl
        omega
      · rw [nI_m1 z, Int32.lt_iff_toInt_lt, nI_toInt (by omega), nI_toInt hi]
        omega
theorem n_vin {a : Int32} {n N : Nat} (h : isN n a = true) (hn : n ≤ N) (hN : N < 2 ^ 31) : vp_in a N := by
  obtain ⟨i, hi, rfl, -⟩ := isN_nI h
  exact vp_in_nI (by omega) hN
theorem num_in {I : Nat → Nat → Int32} {a : Int32} {ns : Nat} (h8 : I 13 8 = nI ns) (hns : ns ≤ 20) (h : isNum I a = true) : vp_in a 20 := n_vin ((num_eq h8 hns).symm.trans h) hns (by decide)
theorem cal_in {I : Nat → Nat → Int32} {a : Int32} {nt : Nat} (h8 : I 13 13 = nI nt) (hnt : nt ≤ 60) (h : isCal I a = true) : vp_in a 60 := n_vin ((cal_eq h8 hnt).symm.trans h) hnt (by decide)
theorem vin_pair2 {a b : Int32} (h : (isCar a && isCar b) = true) : vp_in (5 * a + b) 25 := vin_pair (Bool.and_eq_true_iff.mp h).1 (Bool.and_eq_true_iff.mp h).2
theorem car2 {a b : Int32} (h : (isCar a && isCar b) = true) : isCar a = true ∧ isCar b = true := Bool.and_eq_true_iff.mp h
theorem shutM_th {I : Nat → Nat → Int32} {J : Nat → Nat → Int64} {x a b : Int32} : shutM (wI I 13 0 x) J a b = shutM I J a b := by simp [shutM, wI_eq]
theorem wI_wI {I : Nat → Nat → Int32} {r k : Nat} {x y : Int32} : wI (wI I r k x) r k y = wI I r k y := by
  funext r' k'
  simp only [wI_eq]
  split <;> rfl
def thI (I : Nat → Nat → Int32) (x : Int32) : Nat → Nat → Int32 := wI I 13 0 x
def mTar (a b c2 : Int32) : Int32 := if isCar a = true then (if (isWi b 1 10 && isWi c2 0 1000) = true then 0 else 2) else 1
def mLnk (a b x t : Int32) : Int32 := if (isCar a && isCar b) = true then (if (!decide (a = b) && isWi x 0 100 && isWi t 0 100000) = true then 0 else 2) else 1
set_option maxHeartbeats 4000000 in
set_option maxRecDepth 100000 in
/-- tariff -/
theorem c_X5_tariff (l : Launch) (D : va_G) (cy : Nat → ClassId) (lo : Nat) (R : List Nat) (ad : Nat → Nat) (q : Nat → Nat → Nat) (ns nt : Nat) (I : Nat → Nat → Int32) (J : Nat → Nat → Int64) (hR : ∀ r, r < 36 → r ∈ R) (a : Int32) (b : Int32) (c2 : Int32) : k_Ci l yX5_tariff cX5_tariff 5 (some .int) 2 42 D cy lo R ad (k_c cy ad q ns nt I J) [.ref (ad 13), .int a, .int b, .int c2] (if mTar a b c2 = 0 then I 15 a.toNatClampNeg else 0) (k_c cy ad q ns nt (if mTar a b c2 = 0 then wI (wI (wI I 13 0 0) 14 a.toNatClampNeg b) 15 a.toNatClampNeg c2 else wI I 13 0 (mTar a b c2)) J) := by
  refine k_metQ (by decide +kernel) (Nat.le_of_ble_eq_true rfl) ?_
  intro p e s m args below meth c Q F hr hlk hnm hQ
  refine x_aload_n F dX5_tariff_0 rfl 0 rfl ?_
  refine x_iload_n F dX5_tariff_1 rfl 1 rfl ?_
  refine z_callSi F [.int a] (c_X5_isCarrier l D cy lo R ad _ a) mc_X5_isCarrier ms_X5_isCarrier lk_X5_86 rfl rfl dX5_tariff_2 ⟨Nat.le_of_ble_eq_true rfl, Nat.le_of_ble_eq_true rfl⟩ ⟨Nat.le_of_ble_eq_true rfl, Nat.le_of_ble_eq_true rfl⟩ (Nat.le_of_ble_eq_true rfl) ?_
  refine x_if_ne F 12 dX5_tariff_5 (by decide) (fun h5 => ?_) (fun h5 => ?_)
  · rw [kb1] at h5
    refine x_iload_n F dX5_tariff_12 rfl 2 rfl ?_
    refine x_iconst F (v := 1) dX5_tariff_13 (by decide) ?_
    refine x_bipush F (v := 10) dX5_tariff_14 (by decide) ?_
    refine z_callSi F [.int b, .int 1, .int 10] (c_X5_isIn l D cy lo R ad _ b 1 10) mc_X5_isIn ms_X5_isIn lk_X5_82 rfl rfl dX5_tariff_16 ⟨Nat.le_of_ble_eq_true rfl, Nat.le_of_ble_eq_true rfl⟩ ⟨Nat.le_of_ble_eq_true rfl, Nat.le_of_ble_eq_true rfl⟩ (Nat.le_of_ble_eq_true rfl) ?_
    refine x_if_eq F 37 dX5_tariff_19 (by decide) (fun h19 => ?_) (fun h19 => ?_)
    · rw [kb0] at h19
      refine x_iconst F (v := 2) dX5_tariff_37 (by decide) ?_
      refine p_X5_78 F (hR 13 (by decide)) ss_13 dX5_tariff_38 ?_
      refine x_aload_n F dX5_tariff_41 rfl 0 rfl ?_
      refine g_X5_78 F (hR 13 (by decide)) sc_13 rfl dX5_tariff_42 ?_
      refine x_cast (y := 2) (by first | rfl | simp [wI_eq]) ?_
      refine x_if_le F 50 dX5_tariff_45 (by decide) (fun h45 => ?_) (fun h45 => ?_)
      · exact False.elim (by revert h45; decide)
      · refine x_iconst F (v := 0) dX5_tariff_48 (by decide) ?_
        rw [hQ]
        exact x_iret F hr hlk ⟨by simp [mTar, wI_eq, *], by simp [mTar, wI_wI, *]⟩ dX5_tariff_49
    · rw [kb1] at h19
      refine x_iload_n F dX5_tariff_22 rfl 3 rfl ?_
      refine x_iconst F (v := 0) dX5_tariff_23 (by decide) ?_
      refine x_sipush F (v := 1000) dX5_tariff_24 (by decide) ?_
      refine z_callSi F [.int c2, .int 0, .int 1000] (c_X5_isIn l D cy lo R ad _ c2 0 1000) mc_X5_isIn ms_X5_isIn lk_X5_82 rfl rfl dX5_tariff_27 ⟨Nat.le_of_ble_eq_true rfl, Nat.le_of_ble_eq_true rfl⟩ ⟨Nat.le_of_ble_eq_true rfl, Nat.le_of_ble_eq_true rfl⟩ (Nat.le_of_ble_eq_true rfl) ?_
      refine x_if_eq F 37 dX5_tariff_30 (by decide) (fun h30 => ?_) (fun h30 => ?_)
      · rw [kb0] at h30
        refine x_iconst F (v := 2) dX5_tariff_37 (by decide) ?_
        refine p_X5_78 F (hR 13 (by decide)) ss_13 dX5_tariff_38 ?_
        refine x_aload_n F dX5_tariff_41 rfl 0 rfl ?_
        refine g_X5_78 F (hR 13 (by decide)) sc_13 rfl dX5_tariff_42 ?_
        refine x_cast (y := 2) (by first | rfl | simp [wI_eq]) ?_
        refine x_if_le F 50 dX5_tariff_45 (by decide) (fun h45 => ?_) (fun h45 => ?_)
        · exact False.elim (by revert h45; decide)
        · refine x_iconst F (v := 0) dX5_tariff_48 (by decide) ?_
          rw [hQ]
          exact x_iret F hr hlk ⟨by simp [mTar, wI_eq, *], by simp [mTar, wI_wI, *]⟩ dX5_tariff_49
      · rw [kb1] at h30
        refine x_iconst F (v := 0) dX5_tariff_33 (by decide) ?_
        refine x_goto F 38 dX5_tariff_34 (by decide) ?_
        refine p_X5_78 F (hR 13 (by decide)) ss_13 dX5_tariff_38 ?_
        refine x_aload_n F dX5_tariff_41 rfl 0 rfl ?_
        refine g_X5_78 F (hR 13 (by decide)) sc_13 rfl dX5_tariff_42 ?_
        refine x_cast (y := 0) (by first | rfl | simp [wI_eq]) ?_
        refine x_if_le F 50 dX5_tariff_45 (by decide) (fun h45 => ?_) (fun h45 => ?_)
        · refine x_aload_n F dX5_tariff_50 rfl 0 rfl ?_
          refine g_X5_13 F (hR 13 (by decide)) sc_13 rfl dX5_tariff_51 ?_
          refine x_iload_n F dX5_tariff_54 rfl 1 rfl ?_
          refine y_iald F (hR 15 (by decide)) ss_15 (vin_car (by assumption)) dX5_tariff_55 ?_
          refine x_cast (y := (I 15 a.toNatClampNeg)) (by first | rfl | simp [wI_eq]) ?_
          refine x_istore F [(4, .int (I 15 a.toNatClampNeg)), (0, .ref (ad 13)), (1, .int a), (2, .int b), (3, .int c2)] dX5_tariff_56 (by decide) rfl ?_
          refine x_aload_n F dX5_tariff_58 rfl 1 rfl ?_
          refine g_X5_7 F (hR 13 (by decide)) sc_13 rfl dX5_tariff_59 ?_
          refine x_iload_n F dX5_tariff_62 rfl 2 rfl ?_
          refine x_iload_n F dX5_tariff_63 rfl 3 rfl ?_
          refine y_iast F (hR 14 (by decide)) ss_14 (vin_car (by assumption)) dX5_tariff_64 ?_
          refine x_aload_n F dX5_tariff_65 rfl 1 rfl ?_
          refine g_X5_13 F (hR 13 (by decide)) sc_13 rfl dX5_tariff_66 ?_
          refine x_iload_n F dX5_tariff_69 rfl 2 rfl ?_
          refine x_iload_n F dX5_tariff_70 rfl 4 rfl ?_
          refine y_iast F (hR 15 (by decide)) ss_15 (vin_car (by assumption)) dX5_tariff_71 ?_
          refine x_iload F dX5_tariff_72 0 rfl ?_
          rw [hQ]
          exact x_iret F hr hlk ⟨by simp [mTar, wI_eq, *], by simp [mTar, wI_wI, *]⟩ dX5_tariff_74
        · exact False.elim (by revert h45; decide)
  · rw [kb0] at h5
    refine x_iconst F (v := 1) dX5_tariff_8 (by decide) ?_
    refine x_goto F 38 dX5_tariff_9 (by decide) ?_
    refine p_X5_78 F (hR 13 (by decide)) ss_13 dX5_tariff_38 ?_
    refine x_aload_n F dX5_tariff_41 rfl 0 rfl ?_
    refine g_X5_78 F (hR 13 (by decide)) sc_13 rfl dX5_tariff_42 ?_
    refine x_cast (y := 1) (by first | rfl | simp [wI_eq]) ?_
    refine x_if_le F 50 dX5_tariff_45 (by decide) (fun h45 => ?_) (fun h45 => ?_)
    · exact False.elim (by revert h45; decide)
    · refine x_iconst F (v := 0) dX5_tariff_48 (by decide) ?_
      rw [hQ]
      exact x_iret F hr hlk ⟨by simp [mTar, wI_eq, *], by simp [mTar, wI_wI, *]⟩ dX5_tariff_49
set_option maxHeartbeats 4000000 in
set_option maxRecDepth 100000 in
/-- balance -/
theorem c_X5_balance (l : Launch) (D : va_G) (cy : Nat → ClassId) (lo : Nat) (R : List Nat) (ad : Nat → Nat) (q : Nat → Nat → Nat) (ns nt : Nat) (I : Nat → Nat → Int32) (J : Nat → Nat → Int64) (hR : ∀ r, r < 36 → r ∈ R) (a : Int32) (h8 : I 13 8 = nI ns) (hns : ns ≤ 20) : k_Ci l yX5_balance cX5_balance 2 (some .int) 2 43 D cy lo R ad (k_c cy ad q ns nt I J) [.ref (ad 13), .int a] (if isNum I a = true then I 23 a.toNatClampNeg else 0) (k_c cy ad q ns nt (wI I 13 0 (if isNum I a = true then 0 else 1)) J) := by
  refine k_metQ (by decide +kernel) (Nat.le_of_ble_eq_true rfl) ?_
  intro p e s m args below meth c Q F hr hlk hnm hQ
  refine x_aload_n F dX5_balance_0 rfl 0 rfl ?_
  refine x_aload_n F dX5_balance_1 rfl 0 rfl ?_
  refine x_iload_n F dX5_balance_2 rfl 1 rfl ?_
  refine z_callVi F [.int a] (c_X5_isNumber l D cy lo R ad q ns nt I J hR a ) mc_X5_isNumber mv_X5_isNumber lk_X5_101 (hR 13 (by decide)) sc_13 rfl rfl rfl dX5_balance_3 ⟨Nat.le_of_ble_eq_true rfl, Nat.le_of_ble_eq_true rfl⟩ ⟨Nat.le_of_ble_eq_true rfl, Nat.le_of_ble_eq_true rfl⟩ (Nat.le_of_ble_eq_true rfl) ?_
  refine x_if_eq F 13 dX5_balance_6 (by decide) (fun h6 => ?_) (fun h6 => ?_)
  · rw [kb0] at h6
    refine x_iconst F (v := 1) dX5_balance_13 (by decide) ?_
    refine p_X5_78 F (hR 13 (by decide)) ss_13 dX5_balance_14 ?_
    refine x_aload_n F dX5_balance_17 rfl 0 rfl ?_
    refine g_X5_78 F (hR 13 (by decide)) sc_13 rfl dX5_balance_18 ?_
    refine x_cast (y := 1) (by first | rfl | simp [wI_eq]) ?_
    refine x_if_le F 28 dX5_balance_21 (by decide) (fun h21 => ?_) (fun h21 => ?_)
    · exact False.elim (by revert h21; decide)
    · refine x_iconst F (v := 0) dX5_balance_24 (by decide) ?_
      refine x_goto F 34 dX5_balance_25 (by decide) ?_
      rw [hQ]
      exact x_iret F hr hlk ⟨by simp [wI_eq, *], by simp [wI_wI, *]⟩ dX5_balance_34
  · rw [kb1] at h6
    refine x_iconst F (v := 0) dX5_balance_9 (by decide) ?_
    refine x_goto F 14 dX5_balance_10 (by decide) ?_
    refine p_X5_78 F (hR 13 (by decide)) ss_13 dX5_balance_14 ?_
    refine x_aload_n F dX5_balance_17 rfl 0 rfl ?_
    refine g_X5_78 F (hR 13 (by decide)) sc_13 rfl dX5_balance_18 ?_
    refine x_cast (y := 0) (by first | rfl | simp [wI_eq]) ?_
    refine x_if_le F 28 dX5_balance_21 (by decide) (fun h21 => ?_) (fun h21 => ?_)
    · refine x_aload_n F dX5_balance_28 rfl 0 rfl ?_
      refine g_X5_39 F (hR 13 (by decide)) sc_13 rfl dX5_balance_29 ?_
      refine x_iload_n F dX5_balance_32 rfl 1 rfl ?_
      refine y_iald F (hR 23 (by decide)) ss_23 (num_in h8 hns (by assumption)) dX5_balance_33 ?_
      refine x_cast (y := (I 23 a.toNatClampNeg)) (by first | rfl | simp [wI_eq]) ?_
      rw [hQ]
      exact x_iret F hr hlk ⟨by simp [wI_eq, *], by simp [wI_wI, *]⟩ dX5_balance_34
    · exact False.elim (by revert h21; decide)
set_option maxHeartbeats 4000000 in
set_option maxRecDepth 100000 in
/-- bundle -/
theorem c_X5_bundle (l : Launch) (D : va_G) (cy : Nat → ClassId) (lo : Nat) (R : List Nat) (ad : Nat → Nat) (q : Nat → Nat → Nat) (ns nt : Nat) (I : Nat → Nat → Int32) (J : Nat → Nat → Int64) (hR : ∀ r, r < 36 → r ∈ R) (a : Int32) (h8 : I 13 8 = nI ns) (hns : ns ≤ 20) : k_Ci l yX5_bundle cX5_bundle 2 (some .int) 2 43 D cy lo R ad (k_c cy ad q ns nt I J) [.ref (ad 13), .int a] (if isNum I a = true then I 24 a.toNatClampNeg else 0) (k_c cy ad q ns nt (wI I 13 0 (if isNum I a = true then 0 else 1)) J) := by
  refine k_metQ (by decide +kernel) (Nat.le_of_ble_eq_true rfl) ?_
  intro p e s m args below meth c Q F hr hlk hnm hQ
  refine x_aload_n F dX5_bundle_0 rfl 0 rfl ?_
  refine x_aload_n F dX5_bundle_1 rfl 0 rfl ?_
  refine x_iload_n F dX5_bundle_2 rfl 1 rfl ?_
  refine z_callVi F [.int a] (c_X5_isNumber l D cy lo R ad q ns nt I J hR a ) mc_X5_isNumber mv_X5_isNumber lk_X5_101 (hR 13 (by decide)) sc_13 rfl rfl rfl dX5_bundle_3 ⟨Nat.le_of_ble_eq_true rfl, Nat.le_of_ble_eq_true rfl⟩ ⟨Nat.le_of_ble_eq_true rfl, Nat.le_of_ble_eq_true rfl⟩ (Nat.le_of_ble_eq_true rfl) ?_
  refine x_if_eq F 13 dX5_bundle_6 (by decide) (fun h6 => ?_) (fun h6 => ?_)
  · rw [kb0] at h6
    refine x_iconst F (v := 1) dX5_bundle_13 (by decide) ?_
    refine p_X5_78 F (hR 13 (by decide)) ss_13 dX5_bundle_14 ?_
    refine x_aload_n F dX5_bundle_17 rfl 0 rfl ?_
    refine g_X5_78 F (hR 13 (by decide)) sc_13 rfl dX5_bundle_18 ?_
    refine x_cast (y := 1) (by first | rfl | simp [wI_eq]) ?_
    refine x_if_le F 28 dX5_bundle_21 (by decide) (fun h21 => ?_) (fun h21 => ?_)
    · exact False.elim (by revert h21; decide)
    · refine x_iconst F (v := 0) dX5_bundle_24 (by decide) ?_
      refine x_goto F 34 dX5_bundle_25 (by decide) ?_
      rw [hQ]
      exact x_iret F hr hlk ⟨by simp [wI_eq, *], by simp [wI_wI, *]⟩ dX5_bundle_34
  · rw [kb1] at h6
    refine x_iconst F (v := 0) dX5_bundle_9 (by decide) ?_
    refine x_goto F 14 dX5_bundle_10 (by decide) ?_
    refine p_X5_78 F (hR 13 (by decide)) ss_13 dX5_bundle_14 ?_
    refine x_aload_n F dX5_bundle_17 rfl 0 rfl ?_
    refine g_X5_78 F (hR 13 (by decide)) sc_13 rfl dX5_bundle_18 ?_
    refine x_cast (y := 0) (by first | rfl | simp [wI_eq]) ?_
    refine x_if_le F 28 dX5_bundle_21 (by decide) (fun h21 => ?_) (fun h21 => ?_)
    · refine x_aload_n F dX5_bundle_28 rfl 0 rfl ?_
      refine g_X5_42 F (hR 13 (by decide)) sc_13 rfl dX5_bundle_29 ?_
      refine x_iload_n F dX5_bundle_32 rfl 1 rfl ?_
      refine y_iald F (hR 24 (by decide)) ss_24 (num_in h8 hns (by assumption)) dX5_bundle_33 ?_
      refine x_cast (y := (I 24 a.toNatClampNeg)) (by first | rfl | simp [wI_eq]) ?_
      rw [hQ]
      exact x_iret F hr hlk ⟨by simp [wI_eq, *], by simp [wI_wI, *]⟩ dX5_bundle_34
    · exact False.elim (by revert h21; decide)
set_option maxHeartbeats 4000000 in
set_option maxRecDepth 100000 in
/-- asks -/
theorem c_X5_asks (l : Launch) (D : va_G) (cy : Nat → ClassId) (lo : Nat) (R : List Nat) (ad : Nat → Nat) (q : Nat → Nat → Nat) (ns nt : Nat) (I : Nat → Nat → Int32) (J : Nat → Nat → Int64) (hR : ∀ r, r < 36 → r ∈ R) (a : Int32) : k_Ci l yX5_asks cX5_asks 2 (some .boolean) 2 43 D cy lo R ad (k_c cy ad q ns nt I J) [.ref (ad 13), .int a] (k_b (isCal I a)) (k_c cy ad q ns nt (wI I 13 0 (if isCal I a = true then 0 else 1)) J) := by
  refine k_metQ (by decide +kernel) (Nat.le_of_ble_eq_true rfl) ?_
  intro p e s m args below meth c Q F hr hlk hnm hQ
  refine x_aload_n F dX5_asks_0 rfl 0 rfl ?_
  refine x_aload_n F dX5_asks_1 rfl 0 rfl ?_
  refine x_iload_n F dX5_asks_2 rfl 1 rfl ?_
  refine z_callVi F [.int a] (c_X5_isCall l D cy lo R ad q ns nt I J hR a ) mc_X5_isCall mv_X5_isCall lk_X5_138 (hR 13 (by decide)) sc_13 rfl rfl rfl dX5_asks_3 ⟨Nat.le_of_ble_eq_true rfl, Nat.le_of_ble_eq_true rfl⟩ ⟨Nat.le_of_ble_eq_true rfl, Nat.le_of_ble_eq_true rfl⟩ (Nat.le_of_ble_eq_true rfl) ?_
  refine x_if_eq F 13 dX5_asks_6 (by decide) (fun h6 => ?_) (fun h6 => ?_)
  · rw [kb0] at h6
    refine x_iconst F (v := 1) dX5_asks_13 (by decide) ?_
    refine p_X5_78 F (hR 13 (by decide)) ss_13 dX5_asks_14 ?_
    refine x_aload_n F dX5_asks_17 rfl 0 rfl ?_
    refine g_X5_78 F (hR 13 (by decide)) sc_13 rfl dX5_asks_18 ?_
    refine x_cast (y := 1) (by first | rfl | simp [wI_eq]) ?_
    refine x_if_ne F 28 dX5_asks_21 (by decide) (fun h21 => ?_) (fun h21 => ?_)
    · refine x_iconst F (v := 0) dX5_asks_28 (by decide) ?_
      rw [hQ]
      exact x_zret F hr hlk (by decide) ⟨by simp [k_b, wI_eq, *], by simp [k_b, wI_wI, *]⟩ dX5_asks_29
    · exact False.elim (by revert h21; decide)
  · rw [kb1] at h6
    refine x_iconst F (v := 0) dX5_asks_9 (by decide) ?_
    refine x_goto F 14 dX5_asks_10 (by decide) ?_
    refine p_X5_78 F (hR 13 (by decide)) ss_13 dX5_asks_14 ?_
    refine x_aload_n F dX5_asks_17 rfl 0 rfl ?_
    refine g_X5_78 F (hR 13 (by decide)) sc_13 rfl dX5_asks_18 ?_
    refine x_cast (y := 0) (by first | rfl | simp [wI_eq]) ?_
    refine x_if_ne F 28 dX5_asks_21 (by decide) (fun h21 => ?_) (fun h21 => ?_)
    · exact False.elim (by revert h21; decide)
    · refine x_iconst F (v := 1) dX5_asks_24 (by decide) ?_
      refine x_goto F 29 dX5_asks_25 (by decide) ?_
      rw [hQ]
      exact x_zret F hr hlk (by decide) ⟨by simp [k_b, wI_eq, *], by simp [k_b, wI_wI, *]⟩ dX5_asks_29
set_option maxHeartbeats 4000000 in
set_option maxRecDepth 100000 in
/-- X5_state -/
theorem c_X5_state (l : Launch) (D : va_G) (cy : Nat → ClassId) (lo : Nat) (R : List Nat) (ad : Nat → Nat) (q : Nat → Nat → Nat) (ns nt : Nat) (I : Nat → Nat → Int32) (J : Nat → Nat → Int64) (hR : ∀ r, r < 36 → r ∈ R) (a : Int32) (h8 : I 13 13 = nI nt) (hnt : nt ≤ 60) : k_Ci l yX5_state cX5_state 2 (some .int) 3 64 D cy lo R ad (k_c cy ad q ns nt I J) [.ref (ad 13), .int a] (if isCal I a = true then I 27 a.toNatClampNeg else 0) (k_c cy ad q ns nt (wI I 13 0 (if isCal I a = true then 0 else 1)) J) := by
  refine k_metQ (by decide +kernel) (Nat.le_of_ble_eq_true rfl) ?_
  intro p e s m args below meth c Q F hr hlk hnm hQ
  refine x_aload_n F dX5_state_0 rfl 0 rfl ?_
  refine x_iload_n F dX5_state_1 rfl 1 rfl ?_
  refine z_callVi F [.int a] (c_X5_asks l D cy lo R ad q ns nt I J hR a ) mc_X5_asks mv_X5_asks lk_X5_150 (hR 13 (by decide)) sc_13 rfl rfl rfl dX5_state_2 ⟨Nat.le_of_ble_eq_true rfl, Nat.le_of_ble_eq_true rfl⟩ ⟨Nat.le_of_ble_eq_true rfl, Nat.le_of_ble_eq_true rfl⟩ (Nat.le_of_ble_eq_true rfl) ?_
  refine x_if_eq F 17 dX5_state_5 (by decide) (fun h5 => ?_) (fun h5 => ?_)
  · rw [kb0] at h5
    refine x_iconst F (v := 0) dX5_state_17 (by decide) ?_
    rw [hQ]
    exact x_iret F hr hlk ⟨by simp [wI_eq, *], by simp [wI_wI, *]⟩ dX5_state_18
  · rw [kb1] at h5
    refine x_aload_n F dX5_state_8 rfl 0 rfl ?_
    refine g_X5_51 F (hR 13 (by decide)) sc_13 rfl dX5_state_9 ?_
    refine x_iload_n F dX5_state_12 rfl 1 rfl ?_
    refine y_iald F (hR 27 (by decide)) ss_27 (cal_in h8 hnt (by assumption)) dX5_state_13 ?_
    refine x_goto F 18 dX5_state_14 (by decide) ?_
    rw [hQ]
    exact x_iret F hr hlk ⟨by simp [wI_eq, *], by simp [wI_wI, *]⟩ dX5_state_18
set_option maxHeartbeats 4000000 in
set_option maxRecDepth 100000 in
/-- X5_minutes -/
theorem c_X5_minutes (l : Launch) (D : va_G) (cy : Nat → ClassId) (lo : Nat) (R : List Nat) (ad : Nat → Nat) (q : Nat → Nat → Nat) (ns nt : Nat) (I : Nat → Nat → Int32) (J : Nat → Nat → Int64) (hR : ∀ r, r < 36 → r ∈ R) (a : Int32) (h8 : I 13 13 = nI nt) (hnt : nt ≤ 60) : k_Ci l yX5_minutes cX5_minutes 2 (some .int) 3 64 D cy lo R ad (k_c cy ad q ns nt I J) [.ref (ad 13), .int a] (if isCal I a = true then I 30 a.toNatClampNeg else 0) (k_c cy ad q ns nt (wI I 13 0 (if isCal I a = true then 0 else 1)) J) := by
  refine k_metQ (by decide +kernel) (Nat.le_of_ble_eq_true rfl) ?_
  intro p e s m args below meth c Q F hr hlk hnm hQ
  refine x_aload_n F dX5_minutes_0 rfl 0 rfl ?_
  refine x_iload_n F dX5_minutes_1 rfl 1 rfl ?_
  refine z_callVi F [.int a] (c_X5_asks l D cy lo R ad q ns nt I J hR a ) mc_X5_asks mv_X5_asks lk_X5_150 (hR 13 (by decide)) sc_13 rfl rfl rfl dX5_minutes_2 ⟨Nat.le_of_ble_eq_true rfl, Nat.le_of_ble_eq_true rfl⟩ ⟨Nat.le_of_ble_eq_true rfl, Nat.le_of_ble_eq_true rfl⟩ (Nat.le_of_ble_eq_true rfl) ?_
  refine x_if_eq F 17 dX5_minutes_5 (by decide) (fun h5 => ?_) (fun h5 => ?_)
  · rw [kb0] at h5
    refine x_iconst F (v := 0) dX5_minutes_17 (by decide) ?_
    rw [hQ]
    exact x_iret F hr hlk ⟨by simp [wI_eq, *], by simp [wI_wI, *]⟩ dX5_minutes_18
  · rw [kb1] at h5
    refine x_aload_n F dX5_minutes_8 rfl 0 rfl ?_
    refine g_X5_60 F (hR 13 (by decide)) sc_13 rfl dX5_minutes_9 ?_
    refine x_iload_n F dX5_minutes_12 rfl 1 rfl ?_
    refine y_iald F (hR 30 (by decide)) ss_30 (cal_in h8 hnt (by assumption)) dX5_minutes_13 ?_
    refine x_goto F 18 dX5_minutes_14 (by decide) ?_
    rw [hQ]
    exact x_iret F hr hlk ⟨by simp [wI_eq, *], by simp [wI_wI, *]⟩ dX5_minutes_18
set_option maxHeartbeats 4000000 in
set_option maxRecDepth 100000 in
/-- X5_moved -/
theorem c_X5_moved (l : Launch) (D : va_G) (cy : Nat → ClassId) (lo : Nat) (R : List Nat) (ad : Nat → Nat) (q : Nat → Nat → Nat) (ns nt : Nat) (I : Nat → Nat → Int32) (J : Nat → Nat → Int64) (hR : ∀ r, r < 36 → r ∈ R) (a : Int32) (h8 : I 13 13 = nI nt) (hnt : nt ≤ 60) : k_Ci l yX5_moved cX5_moved 2 (some .int) 3 64 D cy lo R ad (k_c cy ad q ns nt I J) [.ref (ad 13), .int a] (if isCal I a = true then I 31 a.toNatClampNeg else 0) (k_c cy ad q ns nt (wI I 13 0 (if isCal I a = true then 0 else 1)) J) := by
  refine k_metQ (by decide +kernel) (Nat.le_of_ble_eq_true rfl) ?_
  intro p e s m args below meth c Q F hr hlk hnm hQ
  refine x_aload_n F dX5_moved_0 rfl 0 rfl ?_
  refine x_iload_n F dX5_moved_1 rfl 1 rfl ?_
  refine z_callVi F [.int a] (c_X5_asks l D cy lo R ad q ns nt I J hR a ) mc_X5_asks mv_X5_asks lk_X5_150 (hR 13 (by decide)) sc_13 rfl rfl rfl dX5_moved_2 ⟨Nat.le_of_ble_eq_true rfl, Nat.le_of_ble_eq_true rfl⟩ ⟨Nat.le_of_ble_eq_true rfl, Nat.le_of_ble_eq_true rfl⟩ (Nat.le_of_ble_eq_true rfl) ?_
  refine x_if_eq F 17 dX5_moved_5 (by decide) (fun h5 => ?_) (fun h5 => ?_)
  · rw [kb0] at h5
    refine x_iconst F (v := 0) dX5_moved_17 (by decide) ?_
    rw [hQ]
    exact x_iret F hr hlk ⟨by simp [wI_eq, *], by simp [wI_wI, *]⟩ dX5_moved_18
  · rw [kb1] at h5
    refine x_aload_n F dX5_moved_8 rfl 0 rfl ?_
    refine g_X5_63 F (hR 13 (by decide)) sc_13 rfl dX5_moved_9 ?_
    refine x_iload_n F dX5_moved_12 rfl 1 rfl ?_
    refine y_iald F (hR 31 (by decide)) ss_31 (cal_in h8 hnt (by assumption)) dX5_moved_13 ?_
    refine x_goto F 18 dX5_moved_14 (by decide) ?_
    rw [hQ]
    exact x_iret F hr hlk ⟨by simp [wI_eq, *], by simp [wI_wI, *]⟩ dX5_moved_18
set_option maxHeartbeats 4000000 in
set_option maxRecDepth 100000 in
/-- isBarred -/
theorem c_X5_isBarred (l : Launch) (D : va_G) (cy : Nat → ClassId) (lo : Nat) (R : List Nat) (ad : Nat → Nat) (q : Nat → Nat → Nat) (ns nt : Nat) (I : Nat → Nat → Int32) (J : Nat → Nat → Int64) (hR : ∀ r, r < 36 → r ∈ R) (a : Int32) (b : Int32) : k_Ci l yX5_isBarred cX5_isBarred 3 (some .boolean) 3 63 D cy lo R ad (k_c cy ad q ns nt I J) [.ref (ad 13), .int a, .int b] (k_b ((isCar a && isCar b) && shutM I J a b)) (k_c cy ad q ns nt (wI I 13 0 (if (isCar a && isCar b) = true then 0 else 1)) J) := by
  refine k_metQ (by decide +kernel) (Nat.le_of_ble_eq_true rfl) ?_
  intro p e s m args below meth c Q F hr hlk hnm hQ
  refine x_aload_n F dX5_isBarred_0 rfl 0 rfl ?_
  refine x_iload_n F dX5_isBarred_1 rfl 1 rfl ?_
  refine x_iload_n F dX5_isBarred_2 rfl 2 rfl ?_
  refine z_callSi F [.int a, .int b] (c_X5_areCarriers l D cy lo R ad _ a b) mc_X5_areCarriers ms_X5_areCarriers lk_X5_97 rfl rfl dX5_isBarred_3 ⟨Nat.le_of_ble_eq_true rfl, Nat.le_of_ble_eq_true rfl⟩ ⟨Nat.le_of_ble_eq_true rfl, Nat.le_of_ble_eq_true rfl⟩ (Nat.le_of_ble_eq_true rfl) ?_
  refine x_if_eq F 13 dX5_isBarred_6 (by decide) (fun h6 => ?_) (fun h6 => ?_)
  · rw [kb0] at h6
    refine x_iconst F (v := 1) dX5_isBarred_13 (by decide) ?_
    refine p_X5_78 F (hR 13 (by decide)) ss_13 dX5_isBarred_14 ?_
    refine x_aload_n F dX5_isBarred_17 rfl 0 rfl ?_
    refine g_X5_78 F (hR 13 (by decide)) sc_13 rfl dX5_isBarred_18 ?_
    refine x_cast (y := 1) (by first | rfl | simp [wI_eq]) ?_
    refine x_if_ne F 37 dX5_isBarred_21 (by decide) (fun h21 => ?_) (fun h21 => ?_)
    · refine x_iconst F (v := 0) dX5_isBarred_37 (by decide) ?_
      rw [hQ]
      exact x_zret F hr hlk (by decide) ⟨by simp [k_b, shutM_th, wI_eq, *], by simp [k_b, shutM_th, wI_wI, *]⟩ dX5_isBarred_38
    · exact False.elim (by revert h21; decide)
  · rw [kb1] at h6
    refine x_iconst F (v := 0) dX5_isBarred_9 (by decide) ?_
    refine x_goto F 14 dX5_isBarred_10 (by decide) ?_
    refine p_X5_78 F (hR 13 (by decide)) ss_13 dX5_isBarred_14 ?_
    refine x_aload_n F dX5_isBarred_17 rfl 0 rfl ?_
    refine g_X5_78 F (hR 13 (by decide)) sc_13 rfl dX5_isBarred_18 ?_
    refine x_cast (y := 0) (by first | rfl | simp [wI_eq]) ?_
    refine x_if_ne F 37 dX5_isBarred_21 (by decide) (fun h21 => ?_) (fun h21 => ?_)
    · exact False.elim (by revert h21; decide)
    · refine x_aload_n F dX5_isBarred_24 rfl 0 rfl ?_
      refine x_iload_n F dX5_isBarred_25 rfl 1 rfl ?_
      refine x_iload_n F dX5_isBarred_26 rfl 2 rfl ?_
      refine z_callVi F [.int a, .int b] (c_X5_isShut l D cy lo R ad q ns nt (wI I 13 0 0) J hR a b ((car2 (by assumption)).1) ((car2 (by assumption)).2)) mc_X5_isShut mv_X5_isShut lk_X5_113 (hR 13 (by decide)) sc_13 rfl rfl rfl dX5_isBarred_27 ⟨Nat.le_of_ble_eq_true rfl, Nat.le_of_ble_eq_true rfl⟩ ⟨Nat.le_of_ble_eq_true rfl, Nat.le_of_ble_eq_true rfl⟩ (Nat.le_of_ble_eq_true rfl) ?_
      refine x_if_eq F 37 dX5_isBarred_30 (by decide) (fun h30 => ?_) (fun h30 => ?_)
      · rw [kb0] at h30
        rw [shutM_th] at h30
        refine x_iconst F (v := 0) dX5_isBarred_37 (by decide) ?_
        rw [hQ]
        exact x_zret F hr hlk (by decide) ⟨by simp [k_b, shutM_th, wI_eq, *], by simp [k_b, shutM_th, wI_wI, *]⟩ dX5_isBarred_38
      · rw [kb1] at h30
        rw [shutM_th] at h30
        refine x_iconst F (v := 1) dX5_isBarred_33 (by decide) ?_
        refine x_goto F 38 dX5_isBarred_34 (by decide) ?_
        rw [hQ]
        exact x_zret F hr hlk (by decide) ⟨by simp [k_b, shutM_th, wI_eq, *], by simp [k_b, shutM_th, wI_wI, *]⟩ dX5_isBarred_38
set_option maxHeartbeats 4000000 in
set_option maxRecDepth 100000 in
/-- debt -/
theorem c_X5_debt (l : Launch) (D : va_G) (cy : Nat → ClassId) (lo : Nat) (R : List Nat) (ad : Nat → Nat) (q : Nat → Nat → Nat) (ns nt : Nat) (I : Nat → Nat → Int32) (J : Nat → Nat → Int64) (hR : ∀ r, r < 36 → r ∈ R) (a : Int32) (b : Int32) : k_Cl l yX5_debt cX5_debt 3 (some .long) 3 63 D cy lo R ad (k_c cy ad q ns nt I J) [.ref (ad 13), .int a, .int b] (if (isCar a && isCar b) = true then debtM J a b else 0) (k_c cy ad q ns nt (wI I 13 0 (if (isCar a && isCar b) = true then 0 else 1)) J) := by
  refine k_metQ (by decide +kernel) (Nat.le_of_ble_eq_true rfl) ?_
  intro p e s m args below meth c Q F hr hlk hnm hQ
  refine x_aload_n F dX5_debt_0 rfl 0 rfl ?_
  refine x_iload_n F dX5_debt_1 rfl 1 rfl ?_
  refine x_iload_n F dX5_debt_2 rfl 2 rfl ?_
  refine z_callSi F [.int a, .int b] (c_X5_areCarriers l D cy lo R ad _ a b) mc_X5_areCarriers ms_X5_areCarriers lk_X5_97 rfl rfl dX5_debt_3 ⟨Nat.le_of_ble_eq_true rfl, Nat.le_of_ble_eq_true rfl⟩ ⟨Nat.le_of_ble_eq_true rfl, Nat.le_of_ble_eq_true rfl⟩ (Nat.le_of_ble_eq_true rfl) ?_
  refine x_if_eq F 13 dX5_debt_6 (by decide) (fun h6 => ?_) (fun h6 => ?_)
  · rw [kb0] at h6
    refine x_iconst F (v := 1) dX5_debt_13 (by decide) ?_
    refine p_X5_78 F (hR 13 (by decide)) ss_13 dX5_debt_14 ?_
    refine x_aload_n F dX5_debt_17 rfl 0 rfl ?_
    refine g_X5_78 F (hR 13 (by decide)) sc_13 rfl dX5_debt_18 ?_
    refine x_cast (y := 1) (by first | rfl | simp [wI_eq]) ?_
    refine x_if_le F 28 dX5_debt_21 (by decide) (fun h21 => ?_) (fun h21 => ?_)
    · exact False.elim (by revert h21; decide)
    · refine x_lconst F (v := 0) dX5_debt_24 (by decide) ?_
      refine x_goto F 34 dX5_debt_25 (by decide) ?_
      rw [hQ]
      exact x_lret F hr hlk ⟨by simp [wI_eq, *], by simp [wI_wI, *]⟩ dX5_debt_34
  · rw [kb1] at h6
    refine x_iconst F (v := 0) dX5_debt_9 (by decide) ?_
    refine x_goto F 14 dX5_debt_10 (by decide) ?_
    refine p_X5_78 F (hR 13 (by decide)) ss_13 dX5_debt_14 ?_
    refine x_aload_n F dX5_debt_17 rfl 0 rfl ?_
    refine g_X5_78 F (hR 13 (by decide)) sc_13 rfl dX5_debt_18 ?_
    refine x_cast (y := 0) (by first | rfl | simp [wI_eq]) ?_
    refine x_if_le F 28 dX5_debt_21 (by decide) (fun h21 => ?_) (fun h21 => ?_)
    · refine x_aload_n F dX5_debt_28 rfl 0 rfl ?_
      refine x_iload_n F dX5_debt_29 rfl 1 rfl ?_
      refine x_iload_n F dX5_debt_30 rfl 2 rfl ?_
      refine z_callVl F [.int a, .int b] (c_X5_debtOf l D cy lo R ad q ns nt (wI I 13 0 0) J hR a b ((car2 (by assumption)).1) ((car2 (by assumption)).2)) mc_X5_debtOf mv_X5_debtOf lk_X5_109 (hR 13 (by decide)) sc_13 rfl rfl rfl dX5_debt_31 ⟨Nat.le_of_ble_eq_true rfl, Nat.le_of_ble_eq_true rfl⟩ ⟨Nat.le_of_ble_eq_true rfl, Nat.le_of_ble_eq_true rfl⟩ (Nat.le_of_ble_eq_true rfl) ?_
      rw [hQ]
      exact x_lret F hr hlk ⟨by simp [wI_eq, *], by simp [wI_wI, *]⟩ dX5_debt_34
    · exact False.elim (by revert h21; decide)
set_option maxHeartbeats 4000000 in
set_option maxRecDepth 100000 in
/-- charged -/
theorem c_X5_charged (l : Launch) (D : va_G) (cy : Nat → ClassId) (lo : Nat) (R : List Nat) (ad : Nat → Nat) (q : Nat → Nat → Nat) (ns nt : Nat) (I : Nat → Nat → Int32) (J : Nat → Nat → Int64) (hR : ∀ r, r < 36 → r ∈ R) (a : Int32) (b : Int32) : k_Cl l yX5_charged cX5_charged 3 (some .long) 3 63 D cy lo R ad (k_c cy ad q ns nt I J) [.ref (ad 13), .int a, .int b] (if (isCar a && isCar b) = true then J 19 (5 * a + b).toNatClampNeg else 0) (k_c cy ad q ns nt (wI I 13 0 (if (isCar a && isCar b) = true then 0 else 1)) J) := by
  refine k_metQ (by decide +kernel) (Nat.le_of_ble_eq_true rfl) ?_
  intro p e s m args below meth c Q F hr hlk hnm hQ
  refine x_aload_n F dX5_charged_0 rfl 0 rfl ?_
  refine x_iload_n F dX5_charged_1 rfl 1 rfl ?_
  refine x_iload_n F dX5_charged_2 rfl 2 rfl ?_
  refine z_callSi F [.int a, .int b] (c_X5_areCarriers l D cy lo R ad _ a b) mc_X5_areCarriers ms_X5_areCarriers lk_X5_97 rfl rfl dX5_charged_3 ⟨Nat.le_of_ble_eq_true rfl, Nat.le_of_ble_eq_true rfl⟩ ⟨Nat.le_of_ble_eq_true rfl, Nat.le_of_ble_eq_true rfl⟩ (Nat.le_of_ble_eq_true rfl) ?_
  refine x_if_eq F 13 dX5_charged_6 (by decide) (fun h6 => ?_) (fun h6 => ?_)
  · rw [kb0] at h6
    refine x_iconst F (v := 1) dX5_charged_13 (by decide) ?_
    refine p_X5_78 F (hR 13 (by decide)) ss_13 dX5_charged_14 ?_
    refine x_aload_n F dX5_charged_17 rfl 0 rfl ?_
    refine g_X5_78 F (hR 13 (by decide)) sc_13 rfl dX5_charged_18 ?_
    refine x_cast (y := 1) (by first | rfl | simp [wI_eq]) ?_
    refine x_if_le F 28 dX5_charged_21 (by decide) (fun h21 => ?_) (fun h21 => ?_)
    · exact False.elim (by revert h21; decide)
    · refine x_lconst F (v := 0) dX5_charged_24 (by decide) ?_
      refine x_goto F 38 dX5_charged_25 (by decide) ?_
      rw [hQ]
      exact x_lret F hr hlk ⟨by simp [wI_eq, *], by simp [wI_wI, *]⟩ dX5_charged_38
  · rw [kb1] at h6
    refine x_iconst F (v := 0) dX5_charged_9 (by decide) ?_
    refine x_goto F 14 dX5_charged_10 (by decide) ?_
    refine p_X5_78 F (hR 13 (by decide)) ss_13 dX5_charged_14 ?_
    refine x_aload_n F dX5_charged_17 rfl 0 rfl ?_
    refine g_X5_78 F (hR 13 (by decide)) sc_13 rfl dX5_charged_18 ?_
    refine x_cast (y := 0) (by first | rfl | simp [wI_eq]) ?_
    refine x_if_le F 28 dX5_charged_21 (by decide) (fun h21 => ?_) (fun h21 => ?_)
    · refine x_aload_n F dX5_charged_28 rfl 0 rfl ?_
      refine g_X5_26 F (hR 13 (by decide)) sc_13 rfl dX5_charged_29 ?_
      refine x_iconst F (v := 5) dX5_charged_32 (by decide) ?_
      refine x_iload_n F dX5_charged_33 rfl 1 rfl ?_
      refine x_imul F dX5_charged_34 ?_
      refine x_iload_n F dX5_charged_35 rfl 2 rfl ?_
      refine x_iadd F dX5_charged_36 ?_
      refine y_lald F (hR 19 (by decide)) ss_19 (vin_pair2 (by assumption)) dX5_charged_37 ?_
      rw [hQ]
      exact x_lret F hr hlk ⟨by simp [wI_eq, *], by simp [wI_wI, *]⟩ dX5_charged_38
    · exact False.elim (by revert h21; decide)
set_option maxHeartbeats 4000000 in
set_option maxRecDepth 100000 in
/-- settle -/
theorem c_X5_settle (l : Launch) (D : va_G) (cy : Nat → ClassId) (lo : Nat) (R : List Nat) (ad : Nat → Nat) (q : Nat → Nat → Nat) (ns nt : Nat) (I : Nat → Nat → Int32) (J : Nat → Nat → Int64) (hR : ∀ r, r < 36 → r ∈ R) (a : Int32) (b : Int32) : k_Cl l yX5_settle cX5_settle 5 (some .long) 3 63 D cy lo R ad (k_c cy ad q ns nt I J) [.ref (ad 13), .int a, .int b] (if (isCar a && isCar b) = true ∧ 0 < debtM J a b then debtM J a b else 0) (k_c cy ad q ns nt (wI I 13 0 (if (isCar a && isCar b) = true then (if 0 < debtM J a b then 0 else 2) else 1)) (if (isCar a && isCar b) = true ∧ 0 < debtM J a b then wJ J 20 (5 * a + b).toNatClampNeg (J 20 (5 * a + b).toNatClampNeg + debtM J a b) else J)) := by
  refine k_metQ (by decide +kernel) (Nat.le_of_ble_eq_true rfl) ?_
  intro p e s m args below meth c Q F hr hlk hnm hQ
  refine x_aload_n F dX5_settle_0 rfl 0 rfl ?_
  refine x_iload_n F dX5_settle_1 rfl 1 rfl ?_
  refine x_iload_n F dX5_settle_2 rfl 2 rfl ?_
  refine z_callSi F [.int a, .int b] (c_X5_areCarriers l D cy lo R ad _ a b) mc_X5_areCarriers ms_X5_areCarriers lk_X5_97 rfl rfl dX5_settle_3 ⟨Nat.le_of_ble_eq_true rfl, Nat.le_of_ble_eq_true rfl⟩ ⟨Nat.le_of_ble_eq_true rfl, Nat.le_of_ble_eq_true rfl⟩ (Nat.le_of_ble_eq_true rfl) ?_
  refine x_if_eq F 13 dX5_settle_6 (by decide) (fun h6 => ?_) (fun h6 => ?_)
  · rw [kb0] at h6
    refine x_iconst F (v := 1) dX5_settle_13 (by decide) ?_
    refine p_X5_78 F (hR 13 (by decide)) ss_13 dX5_settle_14 ?_
    refine x_aload_n F dX5_settle_17 rfl 0 rfl ?_
    refine g_X5_78 F (hR 13 (by decide)) sc_13 rfl dX5_settle_18 ?_
    refine x_cast (y := 1) (by first | rfl | simp [wI_eq]) ?_
    refine x_if_le F 26 dX5_settle_21 (by decide) (fun h21 => ?_) (fun h21 => ?_)
    · exact False.elim (by revert h21; decide)
    · refine x_lconst F (v := 0) dX5_settle_24 (by decide) ?_
      rw [hQ]
      exact x_lret F hr hlk ⟨by simp [*], by simp [wI_wI, *]⟩ dX5_settle_25
  · rw [kb1] at h6
    refine x_iconst F (v := 0) dX5_settle_9 (by decide) ?_
    refine x_goto F 14 dX5_settle_10 (by decide) ?_
    refine p_X5_78 F (hR 13 (by decide)) ss_13 dX5_settle_14 ?_
    refine x_aload_n F dX5_settle_17 rfl 0 rfl ?_
    refine g_X5_78 F (hR 13 (by decide)) sc_13 rfl dX5_settle_18 ?_
    refine x_cast (y := 0) (by first | rfl | simp [wI_eq]) ?_
    refine x_if_le F 26 dX5_settle_21 (by decide) (fun h21 => ?_) (fun h21 => ?_)
    · refine x_aload_n F dX5_settle_26 rfl 0 rfl ?_
      refine x_iload_n F dX5_settle_27 rfl 1 rfl ?_
      refine x_iload_n F dX5_settle_28 rfl 2 rfl ?_
      refine z_callVl F [.int a, .int b] (c_X5_debtOf l D cy lo R ad q ns nt (wI I 13 0 0) J hR a b ((car2 (by assumption)).1) ((car2 (by assumption)).2)) mc_X5_debtOf mv_X5_debtOf lk_X5_109 (hR 13 (by decide)) sc_13 rfl rfl rfl dX5_settle_29 ⟨Nat.le_of_ble_eq_true rfl, Nat.le_of_ble_eq_true rfl⟩ ⟨Nat.le_of_ble_eq_true rfl, Nat.le_of_ble_eq_true rfl⟩ (Nat.le_of_ble_eq_true rfl) ?_
      refine x_lstore_n F [(3, .long (debtM J a b)), (0, .ref (ad 13)), (1, .int a), (2, .int b)] dX5_settle_32 rfl (by decide) rfl ?_
      refine x_aload_n F dX5_settle_33 rfl 1 rfl ?_
      refine x_lload_n F dX5_settle_34 rfl 0 rfl ?_
      refine x_lconst F (v := 0) dX5_settle_35 (by decide) ?_
      refine x_lcmp F dX5_settle_36 ?_
      refine x_if_le F 44 dX5_settle_37 (by decide) (fun h37 => ?_) (fun h37 => ?_)
      · rw [lg_cmp_le] at h37
        have hd9 : ¬ 0 < debtM J a b := Int64.not_lt.mpr h37
        refine x_iconst F (v := 2) dX5_settle_44 (by decide) ?_
        refine p_X5_78 F (hR 13 (by decide)) ss_13 dX5_settle_45 ?_
        refine x_aload_n F dX5_settle_48 rfl 1 rfl ?_
        refine g_X5_78 F (hR 13 (by decide)) sc_13 rfl dX5_settle_49 ?_
        refine x_cast (y := 2) (by first | rfl | simp [wI_eq]) ?_
        refine x_if_le F 57 dX5_settle_52 (by decide) (fun h52 => ?_) (fun h52 => ?_)
        · exact False.elim (by revert h52; decide)
        · refine x_lconst F (v := 0) dX5_settle_55 (by decide) ?_
          rw [hQ]
          exact x_lret F hr hlk ⟨by simp [*], by simp [wI_wI, *]⟩ dX5_settle_56
      · rw [lg_cmp_le] at h37
        have hd9 : 0 < debtM J a b := Int64.not_le.mp h37
        refine x_iconst F (v := 0) dX5_settle_40 (by decide) ?_
        refine x_goto F 45 dX5_settle_41 (by decide) ?_
        refine p_X5_78 F (hR 13 (by decide)) ss_13 dX5_settle_45 ?_
        refine x_aload_n F dX5_settle_48 rfl 1 rfl ?_
        refine g_X5_78 F (hR 13 (by decide)) sc_13 rfl dX5_settle_49 ?_
        refine x_cast (y := 0) (by first | rfl | simp [wI_eq]) ?_
        refine x_if_le F 57 dX5_settle_52 (by decide) (fun h52 => ?_) (fun h52 => ?_)
        · refine x_aload_n F dX5_settle_57 rfl 1 rfl ?_
          refine g_X5_30 F (hR 13 (by decide)) sc_13 rfl dX5_settle_58 ?_
          refine x_iconst F (v := 5) dX5_settle_61 (by decide) ?_
          refine x_iload_n F dX5_settle_62 rfl 2 rfl ?_
          refine x_imul F dX5_settle_63 ?_
          refine x_iload_n F dX5_settle_64 rfl 3 rfl ?_
          refine x_iadd F dX5_settle_65 ?_
          refine x_dup2 F dX5_settle_66 rfl rfl ?_
          refine y_lald F (hR 20 (by decide)) ss_20 (vin_pair2 (by assumption)) dX5_settle_67 ?_
          refine x_lload_n F dX5_settle_68 rfl 0 rfl ?_
          refine x_ladd F dX5_settle_69 ?_
          refine y_last F (hR 20 (by decide)) ss_20 (vin_pair2 (by assumption)) dX5_settle_70 ?_
          refine x_lload_n F dX5_settle_71 rfl 0 rfl ?_
          rw [hQ]
          exact x_lret F hr hlk ⟨by simp [*], by simp [wI_wI, *]⟩ dX5_settle_72
        · exact False.elim (by revert h52; decide)
    · exact False.elim (by revert h21; decide)
set_option maxHeartbeats 4000000 in
set_option maxRecDepth 100000 in
/-- link -/
theorem c_X5_link (l : Launch) (D : va_G) (cy : Nat → ClassId) (lo : Nat) (R : List Nat) (ad : Nat → Nat) (q : Nat → Nat → Nat) (ns nt : Nat) (I : Nat → Nat → Int32) (J : Nat → Nat → Int64) (hR : ∀ r, r < 36 → r ∈ R) (a : Int32) (b : Int32) (x : Int32) (t : Int32) (hz : ∀ k, narrow .boolean (.int (I 16 k)) = .int (I 16 k)) : k_Ci l yX5_link cX5_link 8 (some .boolean) 3 63 D cy lo R ad (k_c cy ad q ns nt I J) [.ref (ad 13), .int a, .int b, .int x, .int t] (if mLnk a b x t = 0 then I 16 (5 * a + b).toNatClampNeg else 0) (k_c cy ad q ns nt (if mLnk a b x t = 0 then wI (wI (wI (wI I 13 0 0) 16 (5 * a + b).toNatClampNeg 1) 17 (5 * a + b).toNatClampNeg x) 18 (5 * a + b).toNatClampNeg t else wI I 13 0 (mLnk a b x t)) J) := by
  refine k_metQ (by decide +kernel) (Nat.le_of_ble_eq_true rfl) ?_
  intro p e s m args below meth c Q F hr hlk hnm hQ
  refine x_iload_n F dX5_link_0 rfl 1 rfl ?_
  refine x_iload_n F dX5_link_1 rfl 2 rfl ?_
  refine x_icmp_eq F 30 dX5_link_2 (by decide) (fun h2 => ?_) (fun h2 => ?_)
  · have hd2 : decide (a = b) = true := decide_eq_true h2
    clear h2
    refine x_iconst F (v := 0) dX5_link_30 (by decide) ?_
    refine x_istore F [(5, .int 0), (0, .ref (ad 13)), (1, .int a), (2, .int b), (3, .int x), (4, .int t)] dX5_link_31 (by decide) rfl ?_
    refine x_aload_n F dX5_link_33 rfl 1 rfl ?_
    refine x_iload_n F dX5_link_34 rfl 2 rfl ?_
    refine x_iload_n F dX5_link_35 rfl 3 rfl ?_
    refine z_callSi F [.int a, .int b] (c_X5_areCarriers l D cy lo R ad _ a b) mc_X5_areCarriers ms_X5_areCarriers lk_X5_97 rfl rfl dX5_link_36 ⟨Nat.le_of_ble_eq_true rfl, Nat.le_of_ble_eq_true rfl⟩ ⟨Nat.le_of_ble_eq_true rfl, Nat.le_of_ble_eq_true rfl⟩ (Nat.le_of_ble_eq_true rfl) ?_
    refine x_if_ne F 46 dX5_link_39 (by decide) (fun h39 => ?_) (fun h39 => ?_)
    · rw [kb1] at h39
      refine x_iload F dX5_link_46 0 rfl ?_
      refine x_if_eq F 55 dX5_link_48 (by decide) (fun h48 => ?_) (fun h48 => ?_)
      · refine x_iconst F (v := 2) dX5_link_55 (by decide) ?_
        refine p_X5_78 F (hR 13 (by decide)) ss_13 dX5_link_56 ?_
        refine x_aload_n F dX5_link_59 rfl 1 rfl ?_
        refine g_X5_78 F (hR 13 (by decide)) sc_13 rfl dX5_link_60 ?_
        refine x_cast (y := 2) (by first | rfl | simp [wI_eq]) ?_
        refine x_if_le F 68 dX5_link_63 (by decide) (fun h63 => ?_) (fun h63 => ?_)
        · exact False.elim (by revert h63; decide)
        · refine x_iconst F (v := 0) dX5_link_66 (by decide) ?_
          rw [hQ]
          exact x_zret F hr hlk (by first | decide | exact hz _ | (simp only [wI_eq]; exact hz _)) ⟨by simp [mLnk, wI_eq, *], by simp [mLnk, wI_wI, *]⟩ dX5_link_67
      · exact False.elim (by revert h48; decide)
    · rw [kb0] at h39
      refine x_iconst F (v := 1) dX5_link_42 (by decide) ?_
      refine x_goto F 56 dX5_link_43 (by decide) ?_
      refine p_X5_78 F (hR 13 (by decide)) ss_13 dX5_link_56 ?_
      refine x_aload_n F dX5_link_59 rfl 1 rfl ?_
      refine g_X5_78 F (hR 13 (by decide)) sc_13 rfl dX5_link_60 ?_
      refine x_cast (y := 1) (by first | rfl | simp [wI_eq]) ?_
      refine x_if_le F 68 dX5_link_63 (by decide) (fun h63 => ?_) (fun h63 => ?_)
      · exact False.elim (by revert h63; decide)
      · refine x_iconst F (v := 0) dX5_link_66 (by decide) ?_
        rw [hQ]
        exact x_zret F hr hlk (by first | decide | exact hz _ | (simp only [wI_eq]; exact hz _)) ⟨by simp [mLnk, wI_eq, *], by simp [mLnk, wI_wI, *]⟩ dX5_link_67
  · have hd2 : decide (a = b) = false := decide_eq_false h2
    clear h2
    refine x_iload_n F dX5_link_5 rfl 3 rfl ?_
    refine x_iconst F (v := 0) dX5_link_6 (by decide) ?_
    refine x_bipush F (v := 100) dX5_link_7 (by decide) ?_
    refine z_callSi F [.int x, .int 0, .int 100] (c_X5_isIn l D cy lo R ad _ x 0 100) mc_X5_isIn ms_X5_isIn lk_X5_82 rfl rfl dX5_link_9 ⟨Nat.le_of_ble_eq_true rfl, Nat.le_of_ble_eq_true rfl⟩ ⟨Nat.le_of_ble_eq_true rfl, Nat.le_of_ble_eq_true rfl⟩ (Nat.le_of_ble_eq_true rfl) ?_
    refine x_if_eq F 30 dX5_link_12 (by decide) (fun h12 => ?_) (fun h12 => ?_)
    · rw [kb0] at h12
      refine x_iconst F (v := 0) dX5_link_30 (by decide) ?_
      refine x_istore F [(5, .int 0), (0, .ref (ad 13)), (1, .int a), (2, .int b), (3, .int x), (4, .int t)] dX5_link_31 (by decide) rfl ?_
      refine x_aload_n F dX5_link_33 rfl 1 rfl ?_
      refine x_iload_n F dX5_link_34 rfl 2 rfl ?_
      refine x_iload_n F dX5_link_35 rfl 3 rfl ?_
      refine z_callSi F [.int a, .int b] (c_X5_areCarriers l D cy lo R ad _ a b) mc_X5_areCarriers ms_X5_areCarriers lk_X5_97 rfl rfl dX5_link_36 ⟨Nat.le_of_ble_eq_true rfl, Nat.le_of_ble_eq_true rfl⟩ ⟨Nat.le_of_ble_eq_true rfl, Nat.le_of_ble_eq_true rfl⟩ (Nat.le_of_ble_eq_true rfl) ?_
      refine x_if_ne F 46 dX5_link_39 (by decide) (fun h39 => ?_) (fun h39 => ?_)
      · rw [kb1] at h39
        refine x_iload F dX5_link_46 0 rfl ?_
        refine x_if_eq F 55 dX5_link_48 (by decide) (fun h48 => ?_) (fun h48 => ?_)
        · refine x_iconst F (v := 2) dX5_link_55 (by decide) ?_
          refine p_X5_78 F (hR 13 (by decide)) ss_13 dX5_link_56 ?_
          refine x_aload_n F dX5_link_59 rfl 1 rfl ?_
          refine g_X5_78 F (hR 13 (by decide)) sc_13 rfl dX5_link_60 ?_
          refine x_cast (y := 2) (by first | rfl | simp [wI_eq]) ?_
          refine x_if_le F 68 dX5_link_63 (by decide) (fun h63 => ?_) (fun h63 => ?_)
          · exact False.elim (by revert h63; decide)
          · refine x_iconst F (v := 0) dX5_link_66 (by decide) ?_
            rw [hQ]
            exact x_zret F hr hlk (by first | decide | exact hz _ | (simp only [wI_eq]; exact hz _)) ⟨by simp [mLnk, wI_eq, *], by simp [mLnk, wI_wI, *]⟩ dX5_link_67
        · exact False.elim (by revert h48; decide)
      · rw [kb0] at h39
        refine x_iconst F (v := 1) dX5_link_42 (by decide) ?_
        refine x_goto F 56 dX5_link_43 (by decide) ?_
        refine p_X5_78 F (hR 13 (by decide)) ss_13 dX5_link_56 ?_
        refine x_aload_n F dX5_link_59 rfl 1 rfl ?_
        refine g_X5_78 F (hR 13 (by decide)) sc_13 rfl dX5_link_60 ?_
        refine x_cast (y := 1) (by first | rfl | simp [wI_eq]) ?_
        refine x_if_le F 68 dX5_link_63 (by decide) (fun h63 => ?_) (fun h63 => ?_)
        · exact False.elim (by revert h63; decide)
        · refine x_iconst F (v := 0) dX5_link_66 (by decide) ?_
          rw [hQ]
          exact x_zret F hr hlk (by first | decide | exact hz _ | (simp only [wI_eq]; exact hz _)) ⟨by simp [mLnk, wI_eq, *], by simp [mLnk, wI_wI, *]⟩ dX5_link_67
    · rw [kb1] at h12
      refine x_iload F dX5_link_15 4 rfl ?_
      refine x_iconst F (v := 0) dX5_link_17 (by decide) ?_
      refine x_ldc F (v := 100000) dX5_link_18 706 (by decide +kernel) ?_
      refine z_callSi F [.int t, .int 0, .int 100000] (c_X5_isIn l D cy lo R ad _ t 0 100000) mc_X5_isIn ms_X5_isIn lk_X5_82 rfl rfl dX5_link_20 ⟨Nat.le_of_ble_eq_true rfl, Nat.le_of_ble_eq_true rfl⟩ ⟨Nat.le_of_ble_eq_true rfl, Nat.le_of_ble_eq_true rfl⟩ (Nat.le_of_ble_eq_true rfl) ?_
      refine x_if_eq F 30 dX5_link_23 (by decide) (fun h23 => ?_) (fun h23 => ?_)
      · rw [kb0] at h23
        refine x_iconst F (v := 0) dX5_link_30 (by decide) ?_
        refine x_istore F [(5, .int 0), (0, .ref (ad 13)), (1, .int a), (2, .int b), (3, .int x), (4, .int t)] dX5_link_31 (by decide) rfl ?_
        refine x_aload_n F dX5_link_33 rfl 1 rfl ?_
        refine x_iload_n F dX5_link_34 rfl 2 rfl ?_
        refine x_iload_n F dX5_link_35 rfl 3 rfl ?_
        refine z_callSi F [.int a, .int b] (c_X5_areCarriers l D cy lo R ad _ a b) mc_X5_areCarriers ms_X5_areCarriers lk_X5_97 rfl rfl dX5_link_36 ⟨Nat.le_of_ble_eq_true rfl, Nat.le_of_ble_eq_true rfl⟩ ⟨Nat.le_of_ble_eq_true rfl, Nat.le_of_ble_eq_true rfl⟩ (Nat.le_of_ble_eq_true rfl) ?_
        refine x_if_ne F 46 dX5_link_39 (by decide) (fun h39 => ?_) (fun h39 => ?_)
        · rw [kb1] at h39
          refine x_iload F dX5_link_46 0 rfl ?_
          refine x_if_eq F 55 dX5_link_48 (by decide) (fun h48 => ?_) (fun h48 => ?_)
          · refine x_iconst F (v := 2) dX5_link_55 (by decide) ?_
            refine p_X5_78 F (hR 13 (by decide)) ss_13 dX5_link_56 ?_
            refine x_aload_n F dX5_link_59 rfl 1 rfl ?_
            refine g_X5_78 F (hR 13 (by decide)) sc_13 rfl dX5_link_60 ?_
            refine x_cast (y := 2) (by first | rfl | simp [wI_eq]) ?_
            refine x_if_le F 68 dX5_link_63 (by decide) (fun h63 => ?_) (fun h63 => ?_)
            · exact False.elim (by revert h63; decide)
            · refine x_iconst F (v := 0) dX5_link_66 (by decide) ?_
              rw [hQ]
              exact x_zret F hr hlk (by first | decide | exact hz _ | (simp only [wI_eq]; exact hz _)) ⟨by simp [mLnk, wI_eq, *], by simp [mLnk, wI_wI, *]⟩ dX5_link_67
          · exact False.elim (by revert h48; decide)
        · rw [kb0] at h39
          refine x_iconst F (v := 1) dX5_link_42 (by decide) ?_
          refine x_goto F 56 dX5_link_43 (by decide) ?_
          refine p_X5_78 F (hR 13 (by decide)) ss_13 dX5_link_56 ?_
          refine x_aload_n F dX5_link_59 rfl 1 rfl ?_
          refine g_X5_78 F (hR 13 (by decide)) sc_13 rfl dX5_link_60 ?_
          refine x_cast (y := 1) (by first | rfl | simp [wI_eq]) ?_
          refine x_if_le F 68 dX5_link_63 (by decide) (fun h63 => ?_) (fun h63 => ?_)
          · exact False.elim (by revert h63; decide)
          · refine x_iconst F (v := 0) dX5_link_66 (by decide) ?_
            rw [hQ]
            exact x_zret F hr hlk (by first | decide | exact hz _ | (simp only [wI_eq]; exact hz _)) ⟨by simp [mLnk, wI_eq, *], by simp [mLnk, wI_wI, *]⟩ dX5_link_67
      · rw [kb1] at h23
        refine x_iconst F (v := 1) dX5_link_26 (by decide) ?_
        refine x_goto F 31 dX5_link_27 (by decide) ?_
        refine x_istore F [(5, .int 1), (0, .ref (ad 13)), (1, .int a), (2, .int b), (3, .int x), (4, .int t)] dX5_link_31 (by decide) rfl ?_
        refine x_aload_n F dX5_link_33 rfl 1 rfl ?_
        refine x_iload_n F dX5_link_34 rfl 2 rfl ?_
        refine x_iload_n F dX5_link_35 rfl 3 rfl ?_
        refine z_callSi F [.int a, .int b] (c_X5_areCarriers l D cy lo R ad _ a b) mc_X5_areCarriers ms_X5_areCarriers lk_X5_97 rfl rfl dX5_link_36 ⟨Nat.le_of_ble_eq_true rfl, Nat.le_of_ble_eq_true rfl⟩ ⟨Nat.le_of_ble_eq_true rfl, Nat.le_of_ble_eq_true rfl⟩ (Nat.le_of_ble_eq_true rfl) ?_
        refine x_if_ne F 46 dX5_link_39 (by decide) (fun h39 => ?_) (fun h39 => ?_)
        · rw [kb1] at h39
          refine x_iload F dX5_link_46 0 rfl ?_
          refine x_if_eq F 55 dX5_link_48 (by decide) (fun h48 => ?_) (fun h48 => ?_)
          · exact False.elim (by revert h48; decide)
          · refine x_iconst F (v := 0) dX5_link_51 (by decide) ?_
            refine x_goto F 56 dX5_link_52 (by decide) ?_
            refine p_X5_78 F (hR 13 (by decide)) ss_13 dX5_link_56 ?_
            refine x_aload_n F dX5_link_59 rfl 1 rfl ?_
            refine g_X5_78 F (hR 13 (by decide)) sc_13 rfl dX5_link_60 ?_
            refine x_cast (y := 0) (by first | rfl | simp [wI_eq]) ?_
            refine x_if_le F 68 dX5_link_63 (by decide) (fun h63 => ?_) (fun h63 => ?_)
            · refine x_iconst F (v := 5) dX5_link_68 (by decide) ?_
              refine x_iload_n F dX5_link_69 rfl 2 rfl ?_
              refine x_imul F dX5_link_70 ?_
              refine x_iload_n F dX5_link_71 rfl 3 rfl ?_
              refine x_iadd F dX5_link_72 ?_
              refine x_istore F [(6, .int ((5 * a) + b)), (5, .int 1), (0, .ref (ad 13)), (1, .int a), (2, .int b), (3, .int x), (4, .int t)] dX5_link_73 (by decide) rfl ?_
              refine x_aload_n F dX5_link_75 rfl 2 rfl ?_
              refine g_X5_16 F (hR 13 (by decide)) sc_13 rfl dX5_link_76 ?_
              refine x_iload F dX5_link_79 0 rfl ?_
              refine y_zald F (hR 16 (by decide)) ss_16 (vin_pair2 (by assumption)) dX5_link_81 ?_
              refine x_cast (y := (I 16 ((5 * a) + b).toNatClampNeg)) (by first | rfl | simp [wI_eq]) ?_
              refine x_istore F [(7, .int (I 16 ((5 * a) + b).toNatClampNeg)), (6, .int ((5 * a) + b)), (5, .int 1), (0, .ref (ad 13)), (1, .int a), (2, .int b), (3, .int x), (4, .int t)] dX5_link_82 (by decide) rfl ?_
              refine x_aload_n F dX5_link_84 rfl 3 rfl ?_
              refine g_X5_16 F (hR 13 (by decide)) sc_13 rfl dX5_link_85 ?_
              refine x_iload F dX5_link_88 1 rfl ?_
              refine x_iconst F (v := 1) dX5_link_90 (by decide) ?_
              refine y_zast F (hR 16 (by decide)) ss_16 (vin_pair2 (by assumption)) (by decide) dX5_link_91 ?_
              refine x_aload_n F dX5_link_92 rfl 3 rfl ?_
              refine g_X5_20 F (hR 13 (by decide)) sc_13 rfl dX5_link_93 ?_
              refine x_iload F dX5_link_96 1 rfl ?_
              refine x_iload_n F dX5_link_98 rfl 6 rfl ?_
              refine y_iast F (hR 17 (by decide)) ss_17 (vin_pair2 (by assumption)) dX5_link_99 ?_
              refine x_aload_n F dX5_link_100 rfl 3 rfl ?_
              refine g_X5_23 F (hR 13 (by decide)) sc_13 rfl dX5_link_101 ?_
              refine x_iload F dX5_link_104 1 rfl ?_
              refine x_iload F dX5_link_106 7 rfl ?_
              refine y_iast F (hR 18 (by decide)) ss_18 (vin_pair2 (by assumption)) dX5_link_108 ?_
              refine x_iload F dX5_link_109 0 rfl ?_
              rw [hQ]
              exact x_zret F hr hlk (by first | decide | exact hz _ | (simp only [wI_eq]; exact hz _)) ⟨by simp [mLnk, wI_eq, *], by simp [mLnk, wI_wI, *]⟩ dX5_link_111
            · exact False.elim (by revert h63; decide)
        · rw [kb0] at h39
          refine x_iconst F (v := 1) dX5_link_42 (by decide) ?_
          refine x_goto F 56 dX5_link_43 (by decide) ?_
          refine p_X5_78 F (hR 13 (by decide)) ss_13 dX5_link_56 ?_
          refine x_aload_n F dX5_link_59 rfl 1 rfl ?_
          refine g_X5_78 F (hR 13 (by decide)) sc_13 rfl dX5_link_60 ?_
          refine x_cast (y := 1) (by first | rfl | simp [wI_eq]) ?_
          refine x_if_le F 68 dX5_link_63 (by decide) (fun h63 => ?_) (fun h63 => ?_)
          · exact False.elim (by revert h63; decide)
          · refine x_iconst F (v := 0) dX5_link_66 (by decide) ?_
            rw [hQ]
            exact x_zret F hr hlk (by first | decide | exact hz _ | (simp only [wI_eq]; exact hz _)) ⟨by simp [mLnk, wI_eq, *], by simp [mLnk, wI_wI, *]⟩ dX5_link_67
