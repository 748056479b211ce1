theorem homeM_th {I : Nat → Nat → Int32} {x a : Int32} : homeM (wI I 13 0 x) a = homeM I a := by simp [homeM, wI_eq]
def k_HH (I : Nat → Nat → Int32) (ns : Nat) : Prop := ∀ i, i < ns → ∃ h : Nat, 1 ≤ h ∧ h ≤ 10 ∧ I 21 i = nI h
theorem hh_at {I : Nat → Nat → Int32} {a : Int32} {ns : Nat} (h8 : I 13 8 = nI ns) (hns : ns ≤ 20) (hh : k_HH I ns) (h : isNum I a = true) : ∃ i h : Nat, i < 20 ∧ 1 ≤ h ∧ h ≤ 10 ∧ a = nI i ∧ I 21 a.toNatClampNeg = nI h := by
  obtain ⟨i, hi, rfl⟩ := num_vin h h8 hns
  obtain ⟨h, h1, h2, h3⟩ := hh i hi
  exact ⟨i, h, by omega, h1, h2, rfl, by rw [nI_clamp (by omega)]; exact h3⟩
theorem n10 (i h : Nat) : 10 * nI i + nI h = nI (10 * i + h) := by rw [show (10 : Int32) = nI 10 from rfl, pk_mul, nI_add]
theorem chain_in {I : Nat → Nat → Int32} {a : Int32} {ns : Nat} (h8 : I 13 8 = nI ns) (hns : ns ≤ 20) (hh : k_HH I ns) (h : isNum I a = true) : vp_in (10 * a + I 21 a.toNatClampNeg - 1) 200 := by
  obtain ⟨i, m, hi, h1, h2, rfl, e⟩ := hh_at h8 hns hh h
  rw [e, n10, nI_m1 (by omega)]
  exact vp_in_nI (by omega) (by decide)
theorem chain_th {I : Nat → Nat → Int32} {a x : Int32} {ns : Nat} (h8 : I 13 8 = nI ns) (hns : ns ≤ 20) (hh : k_HH I ns) (h : isNum I a = true) : vp_in (10 * a + wI I 13 0 x 21 a.toNatClampNeg - 1) 200 := by
  rw [wI_eq, if_neg (by omega)]
  exact chain_in h8 hns hh h
theorem chain_to {I : Nat → Nat → Int32} {a : Int32} {ns : Nat} (h8 : I 13 8 = nI ns) (hns : ns ≤ 20) (hh : k_HH I ns) (h : isNum I a = true) (h10 : ¬ I 21 a.toNatClampNeg = 10) : vp_in (10 * a + I 21 a.toNatClampNeg) 200 := by
  obtain ⟨i, m, hi, h1, h2, rfl, e⟩ := hh_at h8 hns hh h
  rw [e] at h10 ⊢
  have : m ≠ 10 := fun he => h10 (by rw [he]; rfl)
  rw [n10]
  exact vp_in_nI (by omega) (by decide)
theorem chain_bk {I : Nat → Nat → Int32} {a b : Int32} {ns : Nat} (h8 : I 13 8 = nI ns) (hns : ns ≤ 20) (hh : k_HH I ns) (h : isNum I a = true) (h0 : ¬ b < 0) (hb : b < I 21 a.toNatClampNeg) : vp_in (10 * a + I 21 a.toNatClampNeg - 1 - b) 200 := by
  obtain ⟨i, m, hi, h1, h2, rfl, e⟩ := hh_at h8 hns hh h
  obtain ⟨k, hk, rfl⟩ := nI_of h0
  rw [e] at hb ⊢
  rw [nI_ltI hk (by omega)] at hb
  rw [n10, nI_m1 (by omega), show nI (10 * i + m - 1) - nI k = nI (10 * i + m - 1 - k) from pk_sub (by omega)]
  exact vp_in_nI (by omega) (by decide)
def mTop (I : Nat → Nat → Int32) (a b c2 : Int32) : Int32 := if isNum I a = true then (if (isWi b 0 10000 && isWi c2 0 1000) = true then (if (decide (1000000 < I 23 a.toNatClampNeg + b) || decide (100000 < I 24 a.toNatClampNeg + c2)) = true then 3 else 0) else 2) else 1
def mNum (I : Nat → Nat → Int32) (a b c2 : Int32) : Int32 := if isCar a = true then (if (isWi b 0 10000 && isWi c2 0 1000) = true then (if I 13 8 = 20 then 3 else 0) else 2) else 1
def mCar (I : Nat → Nat → Int32) (a b : Int32) : Int32 := if (isNum I a && isCar b) = true then (if homeM I a = b then 2 else if I 21 a.toNatClampNeg = 10 then 3 else 0) else 1
def mHom (I : Nat → Nat → Int32) (a b : Int32) : Bool := isNum I a && (!decide (b < 0) && decide (b < I 21 a.toNatClampNeg))
def posM (J : Nat → Nat → Int64) (c : Int32) : Nat → Int64
  | 0 => 0
  | k + 1 => posM J c k + debtM J (nI k) c
set_option maxHeartbeats 4000000 in
set_option maxRecDepth 100000 in
/-- unlink -/
theorem c_X5_unlink (l : Launch) (D : va_G) (cy : Nat → ClassId) (lo : Nat) (R : List Nat) (ad : Nat → Nat) (q : Nat → Nat → Nat) (ns nt : Nat) (I : Nat → Nat → Int32) (J : Nat → Nat → Int64) (hR : ∀ r, r < 36 → r ∈ R) (a : Int32) (b : Int32) : k_Ci l yX5_unlink cX5_unlink 4 (some .int) 3 63 D cy lo R ad (k_c cy ad q ns nt I J) [.ref (ad 13), .int a, .int b] (if (isCar a && isCar b) = true ∧ ¬ I 16 (5 * a + b).toNatClampNeg = 0 then I 17 (5 * a + b).toNatClampNeg else 0) (k_c cy ad q ns nt (if (isCar a && isCar b) = true then wI (wI I 13 0 (if I 16 (5 * a + b).toNatClampNeg = 0 then 2 else 0)) 16 (5 * a + b).toNatClampNeg 0 else wI I 13 0 1) J) := by
  refine k_metQ (by decide +kernel) (Nat.le_of_ble_eq_true rfl) ?_
  intro p e s m args below meth c Q F hr hlk hnm hQ
  refine x_aload_n F dX5_unlink_0 rfl 0 rfl ?_
  refine x_iload_n F dX5_unlink_1 rfl 1 rfl ?_
  refine x_iload_n F dX5_unlink_2 rfl 2 rfl ?_
  refine z_callSi F [.int a, .int b] (c_X5_areCarriers l D cy lo R ad _ a b) mc_X5_areCarriers ms_X5_areCarriers lk_X5_97 rfl rfl dX5_unlink_3 ⟨Nat.le_of_ble_eq_true rfl, Nat.le_of_ble_eq_true rfl⟩ ⟨Nat.le_of_ble_eq_true rfl, Nat.le_of_ble_eq_true rfl⟩ (Nat.le_of_ble_eq_true rfl) ?_
  refine x_if_eq F 13 dX5_unlink_6 (by decide) (fun h6 => ?_) (fun h6 => ?_)
  · rw [kb0] at h6
    refine x_iconst F (v := 1) dX5_unlink_13 (by decide) ?_
    refine p_X5_78 F (hR 13 (by decide)) ss_13 dX5_unlink_14 ?_
    refine x_aload_n F dX5_unlink_17 rfl 0 rfl ?_
    refine g_X5_78 F (hR 13 (by decide)) sc_13 rfl dX5_unlink_18 ?_
    refine x_cast (y := 1) (by first | rfl | simp [wI_eq]) ?_
    refine x_if_le F 26 dX5_unlink_21 (by decide) (fun h21 => ?_) (fun h21 => ?_)
    · exact False.elim (by revert h21; decide)
    · refine x_iconst F (v := 0) dX5_unlink_24 (by decide) ?_
      rw [hQ]
      exact x_iret F hr hlk ⟨by simp [wI_eq, *], by simp [wI_wI, *]⟩ dX5_unlink_25
  · rw [kb1] at h6
    refine x_iconst F (v := 0) dX5_unlink_9 (by decide) ?_
    refine x_goto F 14 dX5_unlink_10 (by decide) ?_
    refine p_X5_78 F (hR 13 (by decide)) ss_13 dX5_unlink_14 ?_
    refine x_aload_n F dX5_unlink_17 rfl 0 rfl ?_
    refine g_X5_78 F (hR 13 (by decide)) sc_13 rfl dX5_unlink_18 ?_
    refine x_cast (y := 0) (by first | rfl | simp [wI_eq]) ?_
    refine x_if_le F 26 dX5_unlink_21 (by decide) (fun h21 => ?_) (fun h21 => ?_)
    · refine x_iconst F (v := 5) dX5_unlink_26 (by decide) ?_
      refine x_iload_n F dX5_unlink_27 rfl 1 rfl ?_
      refine x_imul F dX5_unlink_28 ?_
      refine x_iload_n F dX5_unlink_29 rfl 2 rfl ?_
      refine x_iadd F dX5_unlink_30 ?_
      refine x_istore_n F [(3, .int ((5 * a) + b)), (0, .ref (ad 13)), (1, .int a), (2, .int b)] dX5_unlink_31 rfl (by decide) rfl ?_
      refine x_aload_n F dX5_unlink_32 rfl 1 rfl ?_
      refine x_aload_n F dX5_unlink_33 rfl 1 rfl ?_
      refine g_X5_16 F (hR 13 (by decide)) sc_13 rfl dX5_unlink_34 ?_
      refine x_iload_n F dX5_unlink_37 rfl 0 rfl ?_
      refine y_zald F (hR 16 (by decide)) ss_16 (vin_pair2 (by assumption)) dX5_unlink_38 ?_
      refine x_cast (y := (I 16 ((5 * a) + b).toNatClampNeg)) (by first | rfl | simp [wI_eq]) ?_
      refine x_if_eq F 46 dX5_unlink_39 (by decide) (fun h39 => ?_) (fun h39 => ?_)
      · refine x_iconst F (v := 2) dX5_unlink_46 (by decide) ?_
        refine p_X5_78 F (hR 13 (by decide)) ss_13 dX5_unlink_47 ?_
        refine x_aload_n F dX5_unlink_50 rfl 1 rfl ?_
        refine g_X5_16 F (hR 13 (by decide)) sc_13 rfl dX5_unlink_51 ?_
        refine x_iload_n F dX5_unlink_54 rfl 0 rfl ?_
        refine x_iconst F (v := 0) dX5_unlink_55 (by decide) ?_
        refine y_zast F (hR 16 (by decide)) ss_16 (vin_pair2 (by assumption)) (by decide) dX5_unlink_56 ?_
        refine x_aload_n F dX5_unlink_57 rfl 1 rfl ?_
        refine g_X5_78 F (hR 13 (by decide)) sc_13 rfl dX5_unlink_58 ?_
        refine x_cast (y := 2) (by first | rfl | simp [wI_eq]) ?_
        refine x_if_le F 68 dX5_unlink_61 (by decide) (fun h61 => ?_) (fun h61 => ?_)
        · exact False.elim (by revert h61; decide)
        · refine x_iconst F (v := 0) dX5_unlink_64 (by decide) ?_
          refine x_goto F 74 dX5_unlink_65 (by decide) ?_
          rw [hQ]
          exact x_iret F hr hlk ⟨by simp [wI_eq, *], by simp [wI_wI, *]⟩ dX5_unlink_74
      · refine x_iconst F (v := 0) dX5_unlink_42 (by decide) ?_
        refine x_goto F 47 dX5_unlink_43 (by decide) ?_
        refine p_X5_78 F (hR 13 (by decide)) ss_13 dX5_unlink_47 ?_
        refine x_aload_n F dX5_unlink_50 rfl 1 rfl ?_
        refine g_X5_16 F (hR 13 (by decide)) sc_13 rfl dX5_unlink_51 ?_
        refine x_iload_n F dX5_unlink_54 rfl 0 rfl ?_
        refine x_iconst F (v := 0) dX5_unlink_55 (by decide) ?_
        refine y_zast F (hR 16 (by decide)) ss_16 (vin_pair2 (by assumption)) (by decide) dX5_unlink_56 ?_
        refine x_aload_n F dX5_unlink_57 rfl 1 rfl ?_
        refine g_X5_78 F (hR 13 (by decide)) sc_13 rfl dX5_unlink_58 ?_
        refine x_cast (y := 0) (by first | rfl | simp [wI_eq]) ?_
        refine x_if_le F 68 dX5_unlink_61 (by decide) (fun h61 => ?_) (fun h61 => ?_)
        · refine x_aload_n F dX5_unlink_68 rfl 1 rfl ?_
          refine g_X5_20 F (hR 13 (by decide)) sc_13 rfl dX5_unlink_69 ?_
          refine x_iload_n F dX5_unlink_72 rfl 0 rfl ?_
          refine y_iald F (hR 17 (by decide)) ss_17 (vin_pair2 (by assumption)) dX5_unlink_73 ?_
          refine x_cast (y := (I 17 ((5 * a) + b).toNatClampNeg)) (by first | rfl | simp [wI_eq]) ?_
          rw [hQ]
          exact x_iret F hr hlk ⟨by simp [wI_eq, *], by simp [wI_wI, *]⟩ dX5_unlink_74
        · exact False.elim (by revert h61; decide)
    · exact False.elim (by revert h21; decide)
set_option maxHeartbeats 4000000 in
set_option maxRecDepth 100000 in
/-- hangUp -/
theorem c_X5_hangUp (l : Launch) (D : va_G) (cy : Nat → ClassId) (lo : Nat) (R : List Nat) (ad : Nat → Nat) (q : Nat → Nat → Nat) (ns nt : Nat) (I : Nat → Nat → Int32) (J : Nat → Nat → Int64) (hR : ∀ r, r < 36 → r ∈ R) (a : Int32) (h8 : I 13 13 = nI nt) (hnt : nt ≤ 60) : k_Ci l yX5_hangUp cX5_hangUp 2 (some .int) 2 43 D cy lo R ad (k_c cy ad q ns nt I J) [.ref (ad 13), .int a] (if isCal I a = true ∧ I 27 a.toNatClampNeg = 0 then I 30 a.toNatClampNeg else 0) (k_c cy ad q ns nt (if isCal I a = true then (if I 27 a.toNatClampNeg = 0 then wI (wI I 13 0 0) 27 a.toNatClampNeg 1 else wI I 13 0 2) else wI I 13 0 1) J) := by
  refine k_metQ (by decide +kernel) (Nat.le_of_ble_eq_true rfl) ?_
  intro p e s m args below meth c Q F hr hlk hnm hQ
  refine x_aload_n F dX5_hangUp_0 rfl 0 rfl ?_
  refine x_aload_n F dX5_hangUp_1 rfl 0 rfl ?_
  refine x_iload_n F dX5_hangUp_2 rfl 1 rfl ?_
  refine z_callVi F [.int a] (c_X5_isCall l D cy lo R ad q ns nt I J hR a ) mc_X5_isCall mv_X5_isCall lk_X5_138 (hR 13 (by decide)) sc_13 rfl rfl rfl dX5_hangUp_3 ⟨Nat.le_of_ble_eq_true rfl, Nat.le_of_ble_eq_true rfl⟩ ⟨Nat.le_of_ble_eq_true rfl, Nat.le_of_ble_eq_true rfl⟩ (Nat.le_of_ble_eq_true rfl) ?_
  refine x_if_ne F 13 dX5_hangUp_6 (by decide) (fun h6 => ?_) (fun h6 => ?_)
  · rw [kb1] at h6
    refine x_aload_n F dX5_hangUp_13 rfl 0 rfl ?_
    refine g_X5_51 F (hR 13 (by decide)) sc_13 rfl dX5_hangUp_14 ?_
    refine x_iload_n F dX5_hangUp_17 rfl 1 rfl ?_
    refine y_iald F (hR 27 (by decide)) ss_27 (cal_in h8 hnt (by assumption)) dX5_hangUp_18 ?_
    refine x_if_eq F 26 dX5_hangUp_19 (by decide) (fun h19 => ?_) (fun h19 => ?_)
    · refine x_iconst F (v := 0) dX5_hangUp_26 (by decide) ?_
      refine p_X5_78 F (hR 13 (by decide)) ss_13 dX5_hangUp_27 ?_
      refine x_aload_n F dX5_hangUp_30 rfl 0 rfl ?_
      refine g_X5_78 F (hR 13 (by decide)) sc_13 rfl dX5_hangUp_31 ?_
      refine x_cast (y := 0) (by first | rfl | simp [wI_eq]) ?_
      refine x_if_le F 39 dX5_hangUp_34 (by decide) (fun h34 => ?_) (fun h34 => ?_)
      · refine x_aload_n F dX5_hangUp_39 rfl 0 rfl ?_
        refine g_X5_51 F (hR 13 (by decide)) sc_13 rfl dX5_hangUp_40 ?_
        refine x_iload_n F dX5_hangUp_43 rfl 1 rfl ?_
        refine x_iconst F (v := 1) dX5_hangUp_44 (by decide) ?_
        refine y_iast F (hR 27 (by decide)) ss_27 (cal_in h8 hnt (by assumption)) dX5_hangUp_45 ?_
        refine x_aload_n F dX5_hangUp_46 rfl 0 rfl ?_
        refine g_X5_60 F (hR 13 (by decide)) sc_13 rfl dX5_hangUp_47 ?_
        refine x_iload_n F dX5_hangUp_50 rfl 1 rfl ?_
        refine y_iald F (hR 30 (by decide)) ss_30 (cal_in h8 hnt (by assumption)) dX5_hangUp_51 ?_
        refine x_cast (y := (I 30 a.toNatClampNeg)) (by first | rfl | simp [wI_eq]) ?_
        rw [hQ]
        exact x_iret F hr hlk ⟨by simp [wI_eq, *], by simp [wI_wI, *]⟩ dX5_hangUp_52
      · exact False.elim (by revert h34; decide)
    · refine x_iconst F (v := 2) dX5_hangUp_22 (by decide) ?_
      refine x_goto F 27 dX5_hangUp_23 (by decide) ?_
      refine p_X5_78 F (hR 13 (by decide)) ss_13 dX5_hangUp_27 ?_
      refine x_aload_n F dX5_hangUp_30 rfl 0 rfl ?_
      refine g_X5_78 F (hR 13 (by decide)) sc_13 rfl dX5_hangUp_31 ?_
      refine x_cast (y := 2) (by first | rfl | simp [wI_eq]) ?_
      refine x_if_le F 39 dX5_hangUp_34 (by decide) (fun h34 => ?_) (fun h34 => ?_)
      · exact False.elim (by revert h34; decide)
      · refine x_iconst F (v := 0) dX5_hangUp_37 (by decide) ?_
        rw [hQ]
        exact x_iret F hr hlk ⟨by simp [wI_eq, *], by simp [wI_wI, *]⟩ dX5_hangUp_38
  · rw [kb0] at h6
    refine x_iconst F (v := 1) dX5_hangUp_9 (by decide) ?_
    refine x_goto F 27 dX5_hangUp_10 (by decide) ?_
    refine p_X5_78 F (hR 13 (by decide)) ss_13 dX5_hangUp_27 ?_
    refine x_aload_n F dX5_hangUp_30 rfl 0 rfl ?_
    refine g_X5_78 F (hR 13 (by decide)) sc_13 rfl dX5_hangUp_31 ?_
    refine x_cast (y := 1) (by first | rfl | simp [wI_eq]) ?_
    refine x_if_le F 39 dX5_hangUp_34 (by decide) (fun h34 => ?_) (fun h34 => ?_)
    · exact False.elim (by revert h34; decide)
    · refine x_iconst F (v := 0) dX5_hangUp_37 (by decide) ?_
      rw [hQ]
      exact x_iret F hr hlk ⟨by simp [wI_eq, *], by simp [wI_wI, *]⟩ dX5_hangUp_38
set_option maxHeartbeats 4000000 in
set_option maxRecDepth 100000 in
/-- topUp -/
theorem c_X5_topUp (l : Launch) (D : va_G) (cy : Nat → ClassId) (lo : Nat) (R : List Nat) (ad : Nat → Nat) (q : Nat → Nat → Nat) (ns nt : Nat) (I : Nat → Nat → Int32) (J : Nat → Nat → Int64) (hR : ∀ r, r < 36 → r ∈ R) (a : Int32) (b : Int32) (c2 : Int32) (h8 : I 13 8 = nI ns) (hns : ns ≤ 20) : k_Ci l yX5_topUp cX5_topUp 4 (some .int) 2 43 D cy lo R ad (k_c cy ad q ns nt I J) [.ref (ad 13), .int a, .int b, .int c2] (if mTop I a b c2 = 0 then I 23 a.toNatClampNeg + b else 0) (k_c cy ad q ns nt (if mTop I a b c2 = 0 then wI (wI (wI I 13 0 0) 23 a.toNatClampNeg (I 23 a.toNatClampNeg + b)) 24 a.toNatClampNeg (I 24 a.toNatClampNeg + c2) else wI I 13 0 (mTop I a b c2)) J) := by
  refine k_metQ (by decide +kernel) (Nat.le_of_ble_eq_true rfl) ?_
  intro p e s m args below meth c Q F hr hlk hnm hQ
  refine x_aload_n F dX5_topUp_0 rfl 0 rfl ?_
  refine x_aload_n F dX5_topUp_1 rfl 0 rfl ?_
  refine x_iload_n F dX5_topUp_2 rfl 1 rfl ?_
  refine z_callVi F [.int a] (c_X5_isNumber l D cy lo R ad q ns nt I J hR a ) mc_X5_isNumber mv_X5_isNumber lk_X5_101 (hR 13 (by decide)) sc_13 rfl rfl rfl dX5_topUp_3 ⟨Nat.le_of_ble_eq_true rfl, Nat.le_of_ble_eq_true rfl⟩ ⟨Nat.le_of_ble_eq_true rfl, Nat.le_of_ble_eq_true rfl⟩ (Nat.le_of_ble_eq_true rfl) ?_
  refine x_if_ne F 13 dX5_topUp_6 (by decide) (fun h6 => ?_) (fun h6 => ?_)
  · rw [kb1] at h6
    refine x_iload_n F dX5_topUp_13 rfl 2 rfl ?_
    refine x_iconst F (v := 0) dX5_topUp_14 (by decide) ?_
    refine x_sipush F (v := 10000) dX5_topUp_15 (by decide) ?_
    refine z_callSi F [.int b, .int 0, .int 10000] (c_X5_isIn l D cy lo R ad _ b 0 10000) mc_X5_isIn ms_X5_isIn lk_X5_82 rfl rfl dX5_topUp_18 ⟨Nat.le_of_ble_eq_true rfl, Nat.le_of_ble_eq_true rfl⟩ ⟨Nat.le_of_ble_eq_true rfl, Nat.le_of_ble_eq_true rfl⟩ (Nat.le_of_ble_eq_true rfl) ?_
    refine x_if_eq F 39 dX5_topUp_21 (by decide) (fun h21 => ?_) (fun h21 => ?_)
    · rw [kb0] at h21
      refine x_iconst F (v := 2) dX5_topUp_39 (by decide) ?_
      refine p_X5_78 F (hR 13 (by decide)) ss_13 dX5_topUp_40 ?_
      refine x_aload_n F dX5_topUp_43 rfl 0 rfl ?_
      refine g_X5_78 F (hR 13 (by decide)) sc_13 rfl dX5_topUp_44 ?_
      refine x_cast (y := 2) (by first | rfl | simp [wI_eq]) ?_
      refine x_if_le F 52 dX5_topUp_47 (by decide) (fun h47 => ?_) (fun h47 => ?_)
      · exact False.elim (by revert h47; decide)
      · refine x_iconst F (v := 0) dX5_topUp_50 (by decide) ?_
        rw [hQ]
        exact x_iret F hr hlk ⟨by simp [mTop, wI_eq, *], by simp [mTop, wI_wI, *]⟩ dX5_topUp_51
    · rw [kb1] at h21
      refine x_iload_n F dX5_topUp_24 rfl 3 rfl ?_
      refine x_iconst F (v := 0) dX5_topUp_25 (by decide) ?_
      refine x_sipush F (v := 1000) dX5_topUp_26 (by decide) ?_
      refine z_callSi F [.int c2, .int 0, .int 1000] (c_X5_isIn l D cy lo R ad _ c2 0 1000) mc_X5_isIn ms_X5_isIn lk_X5_82 rfl rfl dX5_topUp_29 ⟨Nat.le_of_ble_eq_true rfl, Nat.le_of_ble_eq_true rfl⟩ ⟨Nat.le_of_ble_eq_true rfl, Nat.le_of_ble_eq_true rfl⟩ (Nat.le_of_ble_eq_true rfl) ?_
      refine x_if_eq F 39 dX5_topUp_32 (by decide) (fun h32 => ?_) (fun h32 => ?_)
      · rw [kb0] at h32
        refine x_iconst F (v := 2) dX5_topUp_39 (by decide) ?_
        refine p_X5_78 F (hR 13 (by decide)) ss_13 dX5_topUp_40 ?_
        refine x_aload_n F dX5_topUp_43 rfl 0 rfl ?_
        refine g_X5_78 F (hR 13 (by decide)) sc_13 rfl dX5_topUp_44 ?_
        refine x_cast (y := 2) (by first | rfl | simp [wI_eq]) ?_
        refine x_if_le F 52 dX5_topUp_47 (by decide) (fun h47 => ?_) (fun h47 => ?_)
        · exact False.elim (by revert h47; decide)
        · refine x_iconst F (v := 0) dX5_topUp_50 (by decide) ?_
          rw [hQ]
          exact x_iret F hr hlk ⟨by simp [mTop, wI_eq, *], by simp [mTop, wI_wI, *]⟩ dX5_topUp_51
      · rw [kb1] at h32
        refine x_iconst F (v := 0) dX5_topUp_35 (by decide) ?_
        refine x_goto F 40 dX5_topUp_36 (by decide) ?_
        refine p_X5_78 F (hR 13 (by decide)) ss_13 dX5_topUp_40 ?_
        refine x_aload_n F dX5_topUp_43 rfl 0 rfl ?_
        refine g_X5_78 F (hR 13 (by decide)) sc_13 rfl dX5_topUp_44 ?_
        refine x_cast (y := 0) (by first | rfl | simp [wI_eq]) ?_
        refine x_if_le F 52 dX5_topUp_47 (by decide) (fun h47 => ?_) (fun h47 => ?_)
        · refine x_aload_n F dX5_topUp_52 rfl 0 rfl ?_
          refine x_aload_n F dX5_topUp_53 rfl 0 rfl ?_
          refine g_X5_39 F (hR 13 (by decide)) sc_13 rfl dX5_topUp_54 ?_
          refine x_iload_n F dX5_topUp_57 rfl 1 rfl ?_
          refine y_iald F (hR 23 (by decide)) ss_23 (num_in h8 hns (by assumption)) dX5_topUp_58 ?_
          refine x_cast (y := (I 23 a.toNatClampNeg)) (by first | rfl | simp [wI_eq]) ?_
          refine x_iload_n F dX5_topUp_59 rfl 2 rfl ?_
          refine x_iadd F dX5_topUp_60 ?_
          refine x_ldc F (v := 1000000) dX5_topUp_61 738 (by decide +kernel) ?_
          refine x_icmp_gt F 79 dX5_topUp_63 (by decide) (fun h63 => ?_) (fun h63 => ?_)
          · refine x_iconst F (v := 3) dX5_topUp_79 (by decide) ?_
            refine x_goto F 84 dX5_topUp_80 (by decide) ?_
            refine p_X5_78 F (hR 13 (by decide)) ss_13 dX5_topUp_84 ?_
            refine x_aload_n F dX5_topUp_87 rfl 0 rfl ?_
            refine g_X5_78 F (hR 13 (by decide)) sc_13 rfl dX5_topUp_88 ?_
            refine x_cast (y := 3) (by first | rfl | simp [wI_eq]) ?_
            refine x_if_le F 96 dX5_topUp_91 (by decide) (fun h91 => ?_) (fun h91 => ?_)
            · exact False.elim (by revert h91; decide)
            · refine x_iconst F (v := 0) dX5_topUp_94 (by decide) ?_
              rw [hQ]
              exact x_iret F hr hlk ⟨by simp [mTop, wI_eq, *], by simp [mTop, wI_wI, *]⟩ dX5_topUp_95
          · refine x_aload_n F dX5_topUp_66 rfl 0 rfl ?_
            refine g_X5_42 F (hR 13 (by decide)) sc_13 rfl dX5_topUp_67 ?_
            refine x_iload_n F dX5_topUp_70 rfl 1 rfl ?_
            refine y_iald F (hR 24 (by decide)) ss_24 (num_in h8 hns (by assumption)) dX5_topUp_71 ?_
            refine x_cast (y := (I 24 a.toNatClampNeg)) (by first | rfl | simp [wI_eq]) ?_
            refine x_iload_n F dX5_topUp_72 rfl 3 rfl ?_
            refine x_iadd F dX5_topUp_73 ?_
            refine x_ldc F (v := 100000) dX5_topUp_74 706 (by decide +kernel) ?_
            refine x_icmp_le F 83 dX5_topUp_76 (by decide) (fun h76 => ?_) (fun h76 => ?_)
            · refine x_iconst F (v := 0) dX5_topUp_83 (by decide) ?_
              refine p_X5_78 F (hR 13 (by decide)) ss_13 dX5_topUp_84 ?_
              refine x_aload_n F dX5_topUp_87 rfl 0 rfl ?_
              refine g_X5_78 F (hR 13 (by decide)) sc_13 rfl dX5_topUp_88 ?_
              refine x_cast (y := 0) (by first | rfl | simp [wI_eq]) ?_
              refine x_if_le F 96 dX5_topUp_91 (by decide) (fun h91 => ?_) (fun h91 => ?_)
              · refine x_aload_n F dX5_topUp_96 rfl 0 rfl ?_
                refine g_X5_39 F (hR 13 (by decide)) sc_13 rfl dX5_topUp_97 ?_
                refine x_iload_n F dX5_topUp_100 rfl 1 rfl ?_
                refine x_dup2 F dX5_topUp_101 rfl rfl ?_
                refine y_iald F (hR 23 (by decide)) ss_23 (num_in h8 hns (by assumption)) dX5_topUp_102 ?_
                refine x_cast (y := (I 23 a.toNatClampNeg)) (by first | rfl | simp [wI_eq]) ?_
                refine x_iload_n F dX5_topUp_103 rfl 2 rfl ?_
                refine x_iadd F dX5_topUp_104 ?_
                refine y_iast F (hR 23 (by decide)) ss_23 (num_in h8 hns (by assumption)) dX5_topUp_105 ?_
                refine x_aload_n F dX5_topUp_106 rfl 0 rfl ?_
                refine g_X5_42 F (hR 13 (by decide)) sc_13 rfl dX5_topUp_107 ?_
                refine x_iload_n F dX5_topUp_110 rfl 1 rfl ?_
                refine x_dup2 F dX5_topUp_111 rfl rfl ?_
                refine y_iald F (hR 24 (by decide)) ss_24 (num_in h8 hns (by assumption)) dX5_topUp_112 ?_
                refine x_cast (y := (I 24 a.toNatClampNeg)) (by first | rfl | simp [wI_eq]) ?_
                refine x_iload_n F dX5_topUp_113 rfl 3 rfl ?_
                refine x_iadd F dX5_topUp_114 ?_
                refine y_iast F (hR 24 (by decide)) ss_24 (num_in h8 hns (by assumption)) dX5_topUp_115 ?_
                refine x_aload_n F dX5_topUp_116 rfl 0 rfl ?_
                refine g_X5_39 F (hR 13 (by decide)) sc_13 rfl dX5_topUp_117 ?_
                refine x_iload_n F dX5_topUp_120 rfl 1 rfl ?_
                refine y_iald F (hR 23 (by decide)) ss_23 (num_in h8 hns (by assumption)) dX5_topUp_121 ?_
                refine x_cast (y := ((I 23 a.toNatClampNeg) + b)) (by first | rfl | simp [wI_eq]) ?_
                rw [hQ]
                exact x_iret F hr hlk ⟨by simp [mTop, wI_eq, *], by simp [mTop, wI_wI, *]⟩ dX5_topUp_122
              · exact False.elim (by revert h91; decide)
            · have k76 := Int32.not_le.mp h76
              refine x_iconst F (v := 3) dX5_topUp_79 (by decide) ?_
              refine x_goto F 84 dX5_topUp_80 (by decide) ?_
              refine p_X5_78 F (hR 13 (by decide)) ss_13 dX5_topUp_84 ?_
              refine x_aload_n F dX5_topUp_87 rfl 0 rfl ?_
              refine g_X5_78 F (hR 13 (by decide)) sc_13 rfl dX5_topUp_88 ?_
              refine x_cast (y := 3) (by first | rfl | simp [wI_eq]) ?_
              refine x_if_le F 96 dX5_topUp_91 (by decide) (fun h91 => ?_) (fun h91 => ?_)
              · exact False.elim (by revert h91; decide)
              · refine x_iconst F (v := 0) dX5_topUp_94 (by decide) ?_
                rw [hQ]
                exact x_iret F hr hlk ⟨by simp [mTop, wI_eq, *], by simp [mTop, wI_wI, *]⟩ dX5_topUp_95
        · exact False.elim (by revert h47; decide)
  · rw [kb0] at h6
    refine x_iconst F (v := 1) dX5_topUp_9 (by decide) ?_
    refine x_goto F 40 dX5_topUp_10 (by decide) ?_
    refine p_X5_78 F (hR 13 (by decide)) ss_13 dX5_topUp_40 ?_
    refine x_aload_n F dX5_topUp_43 rfl 0 rfl ?_
    refine g_X5_78 F (hR 13 (by decide)) sc_13 rfl dX5_topUp_44 ?_
    refine x_cast (y := 1) (by first | rfl | simp [wI_eq]) ?_
    refine x_if_le F 52 dX5_topUp_47 (by decide) (fun h47 => ?_) (fun h47 => ?_)
    · exact False.elim (by revert h47; decide)
    · refine x_iconst F (v := 0) dX5_topUp_50 (by decide) ?_
      rw [hQ]
      exact x_iret F hr hlk ⟨by simp [mTop, wI_eq, *], by simp [mTop, wI_wI, *]⟩ dX5_topUp_51
set_option maxHeartbeats 4000000 in
set_option maxRecDepth 100000 in
/-- number -/
theorem c_X5_number (l : Launch) (D : va_G) (cy : Nat → ClassId) (lo : Nat) (R : List Nat) (ad : Nat → Nat) (q : Nat → Nat → Nat) (ns nt : Nat) (I : Nat → Nat → Int32) (J : Nat → Nat → Int64) (hR : ∀ r, r < 36 → r ∈ R) (a : Int32) (b : Int32) (c2 : Int32) (n8 : Nat) (g8 : I 13 8 = nI n8) (gns : n8 ≤ 20) : k_Ci l yX5_number cX5_number 5 (some .int) 2 42 D cy lo R ad (k_c cy ad q ns nt I J) [.ref (ad 13), .int a, .int b, .int c2] (if mNum I a b c2 = 0 then I 13 8 + 1 - 1 else 0) (k_c cy ad q ns nt (if mNum I a b c2 = 0 then wI (wI (wI (wI (wI (wI I 13 0 0) 21 (I 13 8).toNatClampNeg 1) 22 (10 * I 13 8).toNatClampNeg a) 23 (I 13 8).toNatClampNeg b) 24 (I 13 8).toNatClampNeg c2) 13 8 (I 13 8 + 1) else wI I 13 0 (mNum I a b c2)) J) := by
  refine k_metQ (by decide +kernel) (Nat.le_of_ble_eq_true rfl) ?_
  intro p e s m args below meth c Q F hr hlk hnm hQ
  refine x_iload_n F dX5_number_0 rfl 2 rfl ?_
  refine x_iconst F (v := 0) dX5_number_1 (by decide) ?_
  refine x_sipush F (v := 10000) dX5_number_2 (by decide) ?_
  refine z_callSi F [.int b, .int 0, .int 10000] (c_X5_isIn l D cy lo R ad _ b 0 10000) mc_X5_isIn ms_X5_isIn lk_X5_82 rfl rfl dX5_number_5 ⟨Nat.le_of_ble_eq_true rfl, Nat.le_of_ble_eq_true rfl⟩ ⟨Nat.le_of_ble_eq_true rfl, Nat.le_of_ble_eq_true rfl⟩ (Nat.le_of_ble_eq_true rfl) ?_
  refine x_if_eq F 26 dX5_number_8 (by decide) (fun h8 => ?_) (fun h8 => ?_)
  · rw [kb0] at h8
    refine x_iconst F (v := 0) dX5_number_26 (by decide) ?_
    refine x_istore F [(4, .int 0), (0, .ref (ad 13)), (1, .int a), (2, .int b), (3, .int c2)] dX5_number_27 (by decide) rfl ?_
    refine x_aload_n F dX5_number_29 rfl 1 rfl ?_
    refine x_iload_n F dX5_number_30 rfl 2 rfl ?_
    refine z_callSi F [.int a] (c_X5_isCarrier l D cy lo R ad _ a) mc_X5_isCarrier ms_X5_isCarrier lk_X5_86 rfl rfl dX5_number_31 ⟨Nat.le_of_ble_eq_true rfl, Nat.le_of_ble_eq_true rfl⟩ ⟨Nat.le_of_ble_eq_true rfl, Nat.le_of_ble_eq_true rfl⟩ (Nat.le_of_ble_eq_true rfl) ?_
    refine x_if_ne F 41 dX5_number_34 (by decide) (fun h34 => ?_) (fun h34 => ?_)
    · rw [kb1] at h34
      refine x_iload F dX5_number_41 0 rfl ?_
      refine x_if_ne F 50 dX5_number_43 (by decide) (fun h43 => ?_) (fun h43 => ?_)
      · exact False.elim (by revert h43; decide)
      · refine x_iconst F (v := 2) dX5_number_46 (by decide) ?_
        refine x_goto F 64 dX5_number_47 (by decide) ?_
        refine p_X5_78 F (hR 13 (by decide)) ss_13 dX5_number_64 ?_
        refine x_aload_n F dX5_number_67 rfl 1 rfl ?_
        refine g_X5_78 F (hR 13 (by decide)) sc_13 rfl dX5_number_68 ?_
        refine x_cast (y := 2) (by first | rfl | simp [wI_eq]) ?_
        refine x_if_le F 76 dX5_number_71 (by decide) (fun h71 => ?_) (fun h71 => ?_)
        · exact False.elim (by revert h71; decide)
        · refine x_iconst F (v := 0) dX5_number_74 (by decide) ?_
          rw [hQ]
          exact x_iret F hr hlk ⟨by simp [mNum, wI_eq, *, -g8], by simp [mNum, wI_wI, *, -g8]⟩ dX5_number_75
    · rw [kb0] at h34
      refine x_iconst F (v := 1) dX5_number_37 (by decide) ?_
      refine x_goto F 64 dX5_number_38 (by decide) ?_
      refine p_X5_78 F (hR 13 (by decide)) ss_13 dX5_number_64 ?_
      refine x_aload_n F dX5_number_67 rfl 1 rfl ?_
      refine g_X5_78 F (hR 13 (by decide)) sc_13 rfl dX5_number_68 ?_
      refine x_cast (y := 1) (by first | rfl | simp [wI_eq]) ?_
      refine x_if_le F 76 dX5_number_71 (by decide) (fun h71 => ?_) (fun h71 => ?_)
      · exact False.elim (by revert h71; decide)
      · refine x_iconst F (v := 0) dX5_number_74 (by decide) ?_
        rw [hQ]
        exact x_iret F hr hlk ⟨by simp [mNum, wI_eq, *, -g8], by simp [mNum, wI_wI, *, -g8]⟩ dX5_number_75
  · rw [kb1] at h8
    refine x_iload_n F dX5_number_11 rfl 3 rfl ?_
    refine x_iconst F (v := 0) dX5_number_12 (by decide) ?_
    refine x_sipush F (v := 1000) dX5_number_13 (by decide) ?_
    refine z_callSi F [.int c2, .int 0, .int 1000] (c_X5_isIn l D cy lo R ad _ c2 0 1000) mc_X5_isIn ms_X5_isIn lk_X5_82 rfl rfl dX5_number_16 ⟨Nat.le_of_ble_eq_true rfl, Nat.le_of_ble_eq_true rfl⟩ ⟨Nat.le_of_ble_eq_true rfl, Nat.le_of_ble_eq_true rfl⟩ (Nat.le_of_ble_eq_true rfl) ?_
    refine x_if_eq F 26 dX5_number_19 (by decide) (fun h19 => ?_) (fun h19 => ?_)
    · rw [kb0] at h19
      refine x_iconst F (v := 0) dX5_number_26 (by decide) ?_
      refine x_istore F [(4, .int 0), (0, .ref (ad 13)), (1, .int a), (2, .int b), (3, .int c2)] dX5_number_27 (by decide) rfl ?_
      refine x_aload_n F dX5_number_29 rfl 1 rfl ?_
      refine x_iload_n F dX5_number_30 rfl 2 rfl ?_
      refine z_callSi F [.int a] (c_X5_isCarrier l D cy lo R ad _ a) mc_X5_isCarrier ms_X5_isCarrier lk_X5_86 rfl rfl dX5_number_31 ⟨Nat.le_of_ble_eq_true rfl, Nat.le_of_ble_eq_true rfl⟩ ⟨Nat.le_of_ble_eq_true rfl, Nat.le_of_ble_eq_true rfl⟩ (Nat.le_of_ble_eq_true rfl) ?_
      refine x_if_ne F 41 dX5_number_34 (by decide) (fun h34 => ?_) (fun h34 => ?_)
      · rw [kb1] at h34
        refine x_iload F dX5_number_41 0 rfl ?_
        refine x_if_ne F 50 dX5_number_43 (by decide) (fun h43 => ?_) (fun h43 => ?_)
        · exact False.elim (by revert h43; decide)
        · refine x_iconst F (v := 2) dX5_number_46 (by decide) ?_
          refine x_goto F 64 dX5_number_47 (by decide) ?_
          refine p_X5_78 F (hR 13 (by decide)) ss_13 dX5_number_64 ?_
          refine x_aload_n F dX5_number_67 rfl 1 rfl ?_
          refine g_X5_78 F (hR 13 (by decide)) sc_13 rfl dX5_number_68 ?_
          refine x_cast (y := 2) (by first | rfl | simp [wI_eq]) ?_
          refine x_if_le F 76 dX5_number_71 (by decide) (fun h71 => ?_) (fun h71 => ?_)
          · exact False.elim (by revert h71; decide)
          · refine x_iconst F (v := 0) dX5_number_74 (by decide) ?_
            rw [hQ]
            exact x_iret F hr hlk ⟨by simp [mNum, wI_eq, *, -g8], by simp [mNum, wI_wI, *, -g8]⟩ dX5_number_75
      · rw [kb0] at h34
        refine x_iconst F (v := 1) dX5_number_37 (by decide) ?_
        refine x_goto F 64 dX5_number_38 (by decide) ?_
        refine p_X5_78 F (hR 13 (by decide)) ss_13 dX5_number_64 ?_
        refine x_aload_n F dX5_number_67 rfl 1 rfl ?_
        refine g_X5_78 F (hR 13 (by decide)) sc_13 rfl dX5_number_68 ?_
        refine x_cast (y := 1) (by first | rfl | simp [wI_eq]) ?_
        refine x_if_le F 76 dX5_number_71 (by decide) (fun h71 => ?_) (fun h71 => ?_)
        · exact False.elim (by revert h71; decide)
        · refine x_iconst F (v := 0) dX5_number_74 (by decide) ?_
          rw [hQ]
          exact x_iret F hr hlk ⟨by simp [mNum, wI_eq, *, -g8], by simp [mNum, wI_wI, *, -g8]⟩ dX5_number_75
    · rw [kb1] at h19
      refine x_iconst F (v := 1) dX5_number_22 (by decide) ?_
      refine x_goto F 27 dX5_number_23 (by decide) ?_
      refine x_istore F [(4, .int 1), (0, .ref (ad 13)), (1, .int a), (2, .int b), (3, .int c2)] dX5_number_27 (by decide) rfl ?_
      refine x_aload_n F dX5_number_29 rfl 1 rfl ?_
      refine x_iload_n F dX5_number_30 rfl 2 rfl ?_
      refine z_callSi F [.int a] (c_X5_isCarrier l D cy lo R ad _ a) mc_X5_isCarrier ms_X5_isCarrier lk_X5_86 rfl rfl dX5_number_31 ⟨Nat.le_of_ble_eq_true rfl, Nat.le_of_ble_eq_true rfl⟩ ⟨Nat.le_of_ble_eq_true rfl, Nat.le_of_ble_eq_true rfl⟩ (Nat.le_of_ble_eq_true rfl) ?_
      refine x_if_ne F 41 dX5_number_34 (by decide) (fun h34 => ?_) (fun h34 => ?_)
      · rw [kb1] at h34
        refine x_iload F dX5_number_41 0 rfl ?_
        refine x_if_ne F 50 dX5_number_43 (by decide) (fun h43 => ?_) (fun h43 => ?_)
        · refine x_aload_n F dX5_number_50 rfl 1 rfl ?_
          refine g_X5_90 F (hR 13 (by decide)) sc_13 rfl dX5_number_51 ?_
          refine x_bipush F (v := 20) dX5_number_54 (by decide) ?_
          refine x_icmp_ne F 63 dX5_number_56 (by decide) (fun h56 => ?_) (fun h56 => ?_)
          · have hlt : n8 < 20 := by
              rcases Nat.lt_or_ge n8 20 with z | z
              · exact z
              · exact absurd (g8.trans (show nI n8 = 20 by rw [show n8 = 20 by omega]; rfl)) h56
            refine x_iconst F (v := 0) dX5_number_63 (by decide) ?_
            refine p_X5_78 F (hR 13 (by decide)) ss_13 dX5_number_64 ?_
            refine x_aload_n F dX5_number_67 rfl 1 rfl ?_
            refine g_X5_78 F (hR 13 (by decide)) sc_13 rfl dX5_number_68 ?_
            refine x_cast (y := 0) (by first | rfl | simp [wI_eq]) ?_
            refine x_if_le F 76 dX5_number_71 (by decide) (fun h71 => ?_) (fun h71 => ?_)
            · refine x_aload_n F dX5_number_76 rfl 1 rfl ?_
              refine g_X5_33 F (hR 13 (by decide)) sc_13 rfl dX5_number_77 ?_
              refine x_aload_n F dX5_number_80 rfl 1 rfl ?_
              refine g_X5_90 F (hR 13 (by decide)) sc_13 rfl dX5_number_81 ?_
              refine x_cast (y := (I 13 8)) (by first | rfl | simp [wI_eq]) ?_
              refine x_iconst F (v := 1) dX5_number_84 (by decide) ?_
              refine y_iast F (hR 21 (by decide)) ss_21 (by rw [g8]; exact vp_in_nI hlt (by decide)) dX5_number_85 ?_
              refine x_aload_n F dX5_number_86 rfl 1 rfl ?_
              refine g_X5_36 F (hR 13 (by decide)) sc_13 rfl dX5_number_87 ?_
              refine x_bipush F (v := 10) dX5_number_90 (by decide) ?_
              refine x_aload_n F dX5_number_92 rfl 1 rfl ?_
              refine g_X5_90 F (hR 13 (by decide)) sc_13 rfl dX5_number_93 ?_
              refine x_cast (y := (I 13 8)) (by first | rfl | simp [wI_eq]) ?_
              refine x_imul F dX5_number_96 ?_
              refine x_iload_n F dX5_number_97 rfl 2 rfl ?_
              refine y_iast F (hR 22 (by decide)) ss_22 (by rw [g8, show (10 : Int32) = nI 10 from rfl, pk_mul]; exact vp_in_nI (by omega) (by decide)) dX5_number_98 ?_
              refine x_aload_n F dX5_number_99 rfl 1 rfl ?_
              refine g_X5_39 F (hR 13 (by decide)) sc_13 rfl dX5_number_100 ?_
              refine x_aload_n F dX5_number_103 rfl 1 rfl ?_
              refine g_X5_90 F (hR 13 (by decide)) sc_13 rfl dX5_number_104 ?_
              refine x_cast (y := (I 13 8)) (by first | rfl | simp [wI_eq]) ?_
              refine x_iload_n F dX5_number_107 rfl 3 rfl ?_
              refine y_iast F (hR 23 (by decide)) ss_23 (by rw [g8]; exact vp_in_nI hlt (by decide)) dX5_number_108 ?_
              refine x_aload_n F dX5_number_109 rfl 1 rfl ?_
              refine g_X5_42 F (hR 13 (by decide)) sc_13 rfl dX5_number_110 ?_
              refine x_aload_n F dX5_number_113 rfl 1 rfl ?_
              refine g_X5_90 F (hR 13 (by decide)) sc_13 rfl dX5_number_114 ?_
              refine x_cast (y := (I 13 8)) (by first | rfl | simp [wI_eq]) ?_
              refine x_iload_n F dX5_number_117 rfl 4 rfl ?_
              refine y_iast F (hR 24 (by decide)) ss_24 (by rw [g8]; exact vp_in_nI hlt (by decide)) dX5_number_118 ?_
              refine x_aload_n F dX5_number_119 rfl 1 rfl ?_
              refine x_dup F dX5_number_120 rfl ?_
              refine g_X5_90 F (hR 13 (by decide)) sc_13 rfl dX5_number_121 ?_
              refine x_cast (y := (I 13 8)) (by first | rfl | simp [wI_eq]) ?_
              refine x_iconst F (v := 1) dX5_number_124 (by decide) ?_
              refine x_iadd F dX5_number_125 ?_
              refine p_X5_90 F (hR 13 (by decide)) ss_13 dX5_number_126 ?_
              refine x_aload_n F dX5_number_129 rfl 1 rfl ?_
              refine g_X5_90 F (hR 13 (by decide)) sc_13 rfl dX5_number_130 ?_
              refine x_cast (y := ((I 13 8) + 1)) (by first | rfl | simp [wI_eq]) ?_
              refine x_iconst F (v := 1) dX5_number_133 (by decide) ?_
              refine x_isub F dX5_number_134 ?_
              rw [hQ]
              exact x_iret F hr hlk ⟨by simp [mNum, wI_eq, *, -g8], by simp [mNum, wI_wI, *, -g8]⟩ dX5_number_135
            · exact False.elim (by revert h71; decide)
          · refine x_iconst F (v := 3) dX5_number_59 (by decide) ?_
            refine x_goto F 64 dX5_number_60 (by decide) ?_
            refine p_X5_78 F (hR 13 (by decide)) ss_13 dX5_number_64 ?_
            refine x_aload_n F dX5_number_67 rfl 1 rfl ?_
            refine g_X5_78 F (hR 13 (by decide)) sc_13 rfl dX5_number_68 ?_
            refine x_cast (y := 3) (by first | rfl | simp [wI_eq]) ?_
            refine x_if_le F 76 dX5_number_71 (by decide) (fun h71 => ?_) (fun h71 => ?_)
            · exact False.elim (by revert h71; decide)
            · refine x_iconst F (v := 0) dX5_number_74 (by decide) ?_
              rw [hQ]
              exact x_iret F hr hlk ⟨by simp [mNum, wI_eq, *, -g8], by simp [mNum, wI_wI, *, -g8]⟩ dX5_number_75
        · exact False.elim (by revert h43; decide)
      · rw [kb0] at h34
        refine x_iconst F (v := 1) dX5_number_37 (by decide) ?_
        refine x_goto F 64 dX5_number_38 (by decide) ?_
        refine p_X5_78 F (hR 13 (by decide)) ss_13 dX5_number_64 ?_
        refine x_aload_n F dX5_number_67 rfl 1 rfl ?_
        refine g_X5_78 F (hR 13 (by decide)) sc_13 rfl dX5_number_68 ?_
        refine x_cast (y := 1) (by first | rfl | simp [wI_eq]) ?_
        refine x_if_le F 76 dX5_number_71 (by decide) (fun h71 => ?_) (fun h71 => ?_)
        · exact False.elim (by revert h71; decide)
        · refine x_iconst F (v := 0) dX5_number_74 (by decide) ?_
          rw [hQ]
          exact x_iret F hr hlk ⟨by simp [mNum, wI_eq, *, -g8], by simp [mNum, wI_wI, *, -g8]⟩ dX5_number_75
set_option maxHeartbeats 4000000 in
set_option maxRecDepth 100000 in
/-- home -/
theorem c_X5_home (l : Launch) (D : va_G) (cy : Nat → ClassId) (lo : Nat) (R : List Nat) (ad : Nat → Nat) (q : Nat → Nat → Nat) (ns nt : Nat) (I : Nat → Nat → Int32) (J : Nat → Nat → Int64) (hR : ∀ r, r < 36 → r ∈ R) (a : Int32) (b : Int32) (h8 : I 13 8 = nI ns) (hns : ns ≤ 20) (hh : k_HH I ns) : k_Ci l yX5_home cX5_home 4 (some .int) 2 43 D cy lo R ad (k_c cy ad q ns nt I J) [.ref (ad 13), .int a, .int b] (if mHom I a b = true then I 22 (10 * a + I 21 a.toNatClampNeg - 1 - b).toNatClampNeg else 0) (k_c cy ad q ns nt (wI I 13 0 (if mHom I a b = true then 0 else 1)) J) := by
  refine k_metQ (by decide +kernel) (Nat.le_of_ble_eq_true rfl) ?_
  intro p e s m args below meth c Q F hr hlk hnm hQ
  refine x_aload_n F dX5_home_0 rfl 0 rfl ?_
  refine x_iload_n F dX5_home_1 rfl 1 rfl ?_
  refine z_callVi F [.int a] (c_X5_isNumber l D cy lo R ad q ns nt I J hR a ) mc_X5_isNumber mv_X5_isNumber lk_X5_101 (hR 13 (by decide)) sc_13 rfl rfl rfl dX5_home_2 ⟨Nat.le_of_ble_eq_true rfl, Nat.le_of_ble_eq_true rfl⟩ ⟨Nat.le_of_ble_eq_true rfl, Nat.le_of_ble_eq_true rfl⟩ (Nat.le_of_ble_eq_true rfl) ?_
  refine x_if_eq F 26 dX5_home_5 (by decide) (fun h5 => ?_) (fun h5 => ?_)
  · rw [kb0] at h5
    refine x_iconst F (v := 0) dX5_home_26 (by decide) ?_
    refine x_istore_n F [(3, .int 0), (0, .ref (ad 13)), (1, .int a), (2, .int b)] dX5_home_27 rfl (by decide) rfl ?_
    refine x_aload_n F dX5_home_28 rfl 1 rfl ?_
    refine x_iload_n F dX5_home_29 rfl 0 rfl ?_
    refine x_if_eq F 37 dX5_home_30 (by decide) (fun h30 => ?_) (fun h30 => ?_)
    · refine x_iconst F (v := 1) dX5_home_37 (by decide) ?_
      refine p_X5_78 F (hR 13 (by decide)) ss_13 dX5_home_38 ?_
      refine x_aload_n F dX5_home_41 rfl 1 rfl ?_
      refine g_X5_78 F (hR 13 (by decide)) sc_13 rfl dX5_home_42 ?_
      refine x_cast (y := 1) (by first | rfl | simp [wI_eq]) ?_
      refine x_if_le F 52 dX5_home_45 (by decide) (fun h45 => ?_) (fun h45 => ?_)
      · exact False.elim (by revert h45; decide)
      · refine x_iconst F (v := 0) dX5_home_48 (by decide) ?_
        refine x_goto F 72 dX5_home_49 (by decide) ?_
        rw [hQ]
        exact x_iret F hr hlk ⟨by simp [mHom, wI_eq, *], by simp [mHom, *]⟩ dX5_home_72
    · exact False.elim (by revert h30; decide)
  · rw [kb1] at h5
    refine x_iload_n F dX5_home_8 rfl 2 rfl ?_
    refine x_if_lt F 26 dX5_home_9 (by decide) (fun h9 => ?_) (fun h9 => ?_)
    · refine x_iconst F (v := 0) dX5_home_26 (by decide) ?_
      refine x_istore_n F [(3, .int 0), (0, .ref (ad 13)), (1, .int a), (2, .int b)] dX5_home_27 rfl (by decide) rfl ?_
      refine x_aload_n F dX5_home_28 rfl 1 rfl ?_
      refine x_iload_n F dX5_home_29 rfl 0 rfl ?_
      refine x_if_eq F 37 dX5_home_30 (by decide) (fun h30 => ?_) (fun h30 => ?_)
      · refine x_iconst F (v := 1) dX5_home_37 (by decide) ?_
        refine p_X5_78 F (hR 13 (by decide)) ss_13 dX5_home_38 ?_
        refine x_aload_n F dX5_home_41 rfl 1 rfl ?_
        refine g_X5_78 F (hR 13 (by decide)) sc_13 rfl dX5_home_42 ?_
        refine x_cast (y := 1) (by first | rfl | simp [wI_eq]) ?_
        refine x_if_le F 52 dX5_home_45 (by decide) (fun h45 => ?_) (fun h45 => ?_)
        · exact False.elim (by revert h45; decide)
        · refine x_iconst F (v := 0) dX5_home_48 (by decide) ?_
          refine x_goto F 72 dX5_home_49 (by decide) ?_
          rw [hQ]
          exact x_iret F hr hlk ⟨by simp [mHom, wI_eq, *], by simp [mHom, *]⟩ dX5_home_72
      · exact False.elim (by revert h30; decide)
    · refine x_iload_n F dX5_home_12 rfl 2 rfl ?_
      refine x_aload_n F dX5_home_13 rfl 0 rfl ?_
      refine g_X5_33 F (hR 13 (by decide)) sc_13 rfl dX5_home_14 ?_
      refine x_iload_n F dX5_home_17 rfl 1 rfl ?_
      refine y_iald F (hR 21 (by decide)) ss_21 (num_in h8 hns (by assumption)) dX5_home_18 ?_
      refine x_icmp_ge F 26 dX5_home_19 (by decide) (fun h19 => ?_) (fun h19 => ?_)
      · have k19 : ¬ b < I 21 a.toNatClampNeg := Int32.not_lt.mpr h19
        refine x_iconst F (v := 0) dX5_home_26 (by decide) ?_
        refine x_istore_n F [(3, .int 0), (0, .ref (ad 13)), (1, .int a), (2, .int b)] dX5_home_27 rfl (by decide) rfl ?_
        refine x_aload_n F dX5_home_28 rfl 1 rfl ?_
        refine x_iload_n F dX5_home_29 rfl 0 rfl ?_
        refine x_if_eq F 37 dX5_home_30 (by decide) (fun h30 => ?_) (fun h30 => ?_)
        · refine x_iconst F (v := 1) dX5_home_37 (by decide) ?_
          refine p_X5_78 F (hR 13 (by decide)) ss_13 dX5_home_38 ?_
          refine x_aload_n F dX5_home_41 rfl 1 rfl ?_
          refine g_X5_78 F (hR 13 (by decide)) sc_13 rfl dX5_home_42 ?_
          refine x_cast (y := 1) (by first | rfl | simp [wI_eq]) ?_
          refine x_if_le F 52 dX5_home_45 (by decide) (fun h45 => ?_) (fun h45 => ?_)
          · exact False.elim (by revert h45; decide)
          · refine x_iconst F (v := 0) dX5_home_48 (by decide) ?_
            refine x_goto F 72 dX5_home_49 (by decide) ?_
            rw [hQ]
            exact x_iret F hr hlk ⟨by simp [mHom, wI_eq, *], by simp [mHom, *]⟩ dX5_home_72
        · exact False.elim (by revert h30; decide)
      · have k19 := Int32.not_le.mp h19
        refine x_iconst F (v := 1) dX5_home_22 (by decide) ?_
        refine x_goto F 27 dX5_home_23 (by decide) ?_
        refine x_istore_n F [(3, .int 1), (0, .ref (ad 13)), (1, .int a), (2, .int b)] dX5_home_27 rfl (by decide) rfl ?_
        refine x_aload_n F dX5_home_28 rfl 1 rfl ?_
        refine x_iload_n F dX5_home_29 rfl 0 rfl ?_
        refine x_if_eq F 37 dX5_home_30 (by decide) (fun h30 => ?_) (fun h30 => ?_)
        · exact False.elim (by revert h30; decide)
        · refine x_iconst F (v := 0) dX5_home_33 (by decide) ?_
          refine x_goto F 38 dX5_home_34 (by decide) ?_
          refine p_X5_78 F (hR 13 (by decide)) ss_13 dX5_home_38 ?_
          refine x_aload_n F dX5_home_41 rfl 1 rfl ?_
          refine g_X5_78 F (hR 13 (by decide)) sc_13 rfl dX5_home_42 ?_
          refine x_cast (y := 0) (by first | rfl | simp [wI_eq]) ?_
          refine x_if_le F 52 dX5_home_45 (by decide) (fun h45 => ?_) (fun h45 => ?_)
          · refine x_aload_n F dX5_home_52 rfl 1 rfl ?_
            refine g_X5_36 F (hR 13 (by decide)) sc_13 rfl dX5_home_53 ?_
            refine x_bipush F (v := 10) dX5_home_56 (by decide) ?_
            refine x_iload_n F dX5_home_58 rfl 2 rfl ?_
            refine x_imul F dX5_home_59 ?_
            refine x_aload_n F dX5_home_60 rfl 1 rfl ?_
            refine g_X5_33 F (hR 13 (by decide)) sc_13 rfl dX5_home_61 ?_
            refine x_iload_n F dX5_home_64 rfl 2 rfl ?_
            refine y_iald F (hR 21 (by decide)) ss_21 (num_in h8 hns (by assumption)) dX5_home_65 ?_
            refine x_cast (y := (I 21 a.toNatClampNeg)) (by first | rfl | simp [wI_eq]) ?_
            refine x_iadd F dX5_home_66 ?_
            refine x_iconst F (v := 1) dX5_home_67 (by decide) ?_
            refine x_isub F dX5_home_68 ?_
            refine x_iload_n F dX5_home_69 rfl 3 rfl ?_
            refine x_isub F dX5_home_70 ?_
            refine y_iald F (hR 22 (by decide)) ss_22 (chain_bk h8 hns hh (by assumption) (by assumption) (Int32.not_le.mp (by assumption))) dX5_home_71 ?_
            refine x_cast (y := (I 22 ((((10 * a) + (I 21 a.toNatClampNeg)) - 1) - b).toNatClampNeg)) (by first | rfl | simp [wI_eq]) ?_
            rw [hQ]
            exact x_iret F hr hlk ⟨by simp [mHom, wI_eq, *], by simp [mHom, *]⟩ dX5_home_72
          · exact False.elim (by revert h45; decide)
set_option maxHeartbeats 4000000 in
set_option maxRecDepth 100000 in
/-- carryOver -/
theorem c_X5_carryOver (l : Launch) (D : va_G) (cy : Nat → ClassId) (lo : Nat) (R : List Nat) (ad : Nat → Nat) (q : Nat → Nat → Nat) (ns nt : Nat) (I : Nat → Nat → Int32) (J : Nat → Nat → Int64) (hR : ∀ r, r < 36 → r ∈ R) (a : Int32) (b : Int32) (h8 : I 13 8 = nI ns) (hns : ns ≤ 20) (hh : k_HH I ns) : k_Ci l yX5_carryOver cX5_carryOver 3 (some .int) 2 43 D cy lo R ad (k_c cy ad q ns nt I J) [.ref (ad 13), .int a, .int b] (if mCar I a b = 0 then I 21 a.toNatClampNeg + 1 else 0) (k_c cy ad q ns nt (if mCar I a b = 0 then wI (wI (wI I 13 0 0) 22 (10 * a + I 21 a.toNatClampNeg).toNatClampNeg b) 21 a.toNatClampNeg (I 21 a.toNatClampNeg + 1) else wI I 13 0 (mCar I a b)) J) := by
  refine k_metQ (by decide +kernel) (Nat.le_of_ble_eq_true rfl) ?_
  intro p e s m args below meth c Q F hr hlk hnm hQ
  refine x_aload_n F dX5_carryOver_0 rfl 0 rfl ?_
  refine x_aload_n F dX5_carryOver_1 rfl 0 rfl ?_
  refine x_iload_n F dX5_carryOver_2 rfl 1 rfl ?_
  refine z_callVi F [.int a] (c_X5_isNumber l D cy lo R ad q ns nt I J hR a ) mc_X5_isNumber mv_X5_isNumber lk_X5_101 (hR 13 (by decide)) sc_13 rfl rfl rfl dX5_carryOver_3 ⟨Nat.le_of_ble_eq_true rfl, Nat.le_of_ble_eq_true rfl⟩ ⟨Nat.le_of_ble_eq_true rfl, Nat.le_of_ble_eq_true rfl⟩ (Nat.le_of_ble_eq_true rfl) ?_
  refine x_if_eq F 20 dX5_carryOver_6 (by decide) (fun h6 => ?_) (fun h6 => ?_)
  · rw [kb0] at h6
    refine x_iconst F (v := 1) dX5_carryOver_20 (by decide) ?_
    refine p_X5_78 F (hR 13 (by decide)) ss_13 dX5_carryOver_21 ?_
    refine x_aload_n F dX5_carryOver_24 rfl 0 rfl ?_
    refine g_X5_78 F (hR 13 (by decide)) sc_13 rfl dX5_carryOver_25 ?_
    refine x_cast (y := 1) (by first | rfl | simp [wI_eq]) ?_
    refine x_if_le F 33 dX5_carryOver_28 (by decide) (fun h28 => ?_) (fun h28 => ?_)
    · exact False.elim (by revert h28; decide)
    · refine x_iconst F (v := 0) dX5_carryOver_31 (by decide) ?_
      rw [hQ]
      exact x_iret F hr hlk ⟨by simp [mCar, homeM_th, wI_eq, *], by simp [mCar, homeM_th, wI_wI, *]⟩ dX5_carryOver_32
  · rw [kb1] at h6
    refine x_iload_n F dX5_carryOver_9 rfl 2 rfl ?_
    refine z_callSi F [.int b] (c_X5_isCarrier l D cy lo R ad _ b) mc_X5_isCarrier ms_X5_isCarrier lk_X5_86 rfl rfl dX5_carryOver_10 ⟨Nat.le_of_ble_eq_true rfl, Nat.le_of_ble_eq_true rfl⟩ ⟨Nat.le_of_ble_eq_true rfl, Nat.le_of_ble_eq_true rfl⟩ (Nat.le_of_ble_eq_true rfl) ?_
    refine x_if_eq F 20 dX5_carryOver_13 (by decide) (fun h13 => ?_) (fun h13 => ?_)
    · rw [kb0] at h13
      refine x_iconst F (v := 1) dX5_carryOver_20 (by decide) ?_
      refine p_X5_78 F (hR 13 (by decide)) ss_13 dX5_carryOver_21 ?_
      refine x_aload_n F dX5_carryOver_24 rfl 0 rfl ?_
      refine g_X5_78 F (hR 13 (by decide)) sc_13 rfl dX5_carryOver_25 ?_
      refine x_cast (y := 1) (by first | rfl | simp [wI_eq]) ?_
      refine x_if_le F 33 dX5_carryOver_28 (by decide) (fun h28 => ?_) (fun h28 => ?_)
      · exact False.elim (by revert h28; decide)
      · refine x_iconst F (v := 0) dX5_carryOver_31 (by decide) ?_
        rw [hQ]
        exact x_iret F hr hlk ⟨by simp [mCar, homeM_th, wI_eq, *], by simp [mCar, homeM_th, wI_wI, *]⟩ dX5_carryOver_32
    · rw [kb1] at h13
      refine x_iconst F (v := 0) dX5_carryOver_16 (by decide) ?_
      refine x_goto F 21 dX5_carryOver_17 (by decide) ?_
      refine p_X5_78 F (hR 13 (by decide)) ss_13 dX5_carryOver_21 ?_
      refine x_aload_n F dX5_carryOver_24 rfl 0 rfl ?_
      refine g_X5_78 F (hR 13 (by decide)) sc_13 rfl dX5_carryOver_25 ?_
      refine x_cast (y := 0) (by first | rfl | simp [wI_eq]) ?_
      refine x_if_le F 33 dX5_carryOver_28 (by decide) (fun h28 => ?_) (fun h28 => ?_)
      · refine x_aload_n F dX5_carryOver_33 rfl 0 rfl ?_
        refine x_aload_n F dX5_carryOver_34 rfl 0 rfl ?_
        refine x_iload_n F dX5_carryOver_35 rfl 1 rfl ?_
        refine z_callVi F [.int a] (c_X5_homeOf l D cy lo R ad q ns nt (wI I 13 0 0) J hR a (num_in h8 hns (by assumption)) (chain_th h8 hns hh (by assumption))) mc_X5_homeOf mv_X5_homeOf lk_X5_104 (hR 13 (by decide)) sc_13 rfl rfl rfl dX5_carryOver_36 ⟨Nat.le_of_ble_eq_true rfl, Nat.le_of_ble_eq_true rfl⟩ ⟨Nat.le_of_ble_eq_true rfl, Nat.le_of_ble_eq_true rfl⟩ (Nat.le_of_ble_eq_true rfl) ?_
        refine x_iload_n F dX5_carryOver_39 rfl 2 rfl ?_
        refine x_icmp_ne F 47 dX5_carryOver_40 (by decide) (fun h40 => ?_) (fun h40 => ?_)
        · rw [homeM_th] at h40
          refine x_aload_n F dX5_carryOver_47 rfl 0 rfl ?_
          refine g_X5_33 F (hR 13 (by decide)) sc_13 rfl dX5_carryOver_48 ?_
          refine x_iload_n F dX5_carryOver_51 rfl 1 rfl ?_
          refine y_iald F (hR 21 (by decide)) ss_21 (num_in h8 hns (by assumption)) dX5_carryOver_52 ?_
          refine x_cast (y := (I 21 a.toNatClampNeg)) (by first | rfl | simp [wI_eq]) ?_
          refine x_bipush F (v := 10) dX5_carryOver_53 (by decide) ?_
          refine x_icmp_ne F 62 dX5_carryOver_55 (by decide) (fun h55 => ?_) (fun h55 => ?_)
          · refine x_iconst F (v := 0) dX5_carryOver_62 (by decide) ?_
            refine p_X5_78 F (hR 13 (by decide)) ss_13 dX5_carryOver_63 ?_
            refine x_aload_n F dX5_carryOver_66 rfl 0 rfl ?_
            refine g_X5_78 F (hR 13 (by decide)) sc_13 rfl dX5_carryOver_67 ?_
            refine x_cast (y := 0) (by first | rfl | simp [wI_eq]) ?_
            refine x_if_le F 75 dX5_carryOver_70 (by decide) (fun h70 => ?_) (fun h70 => ?_)
            · refine x_aload_n F dX5_carryOver_75 rfl 0 rfl ?_
              refine g_X5_36 F (hR 13 (by decide)) sc_13 rfl dX5_carryOver_76 ?_
              refine x_bipush F (v := 10) dX5_carryOver_79 (by decide) ?_
              refine x_iload_n F dX5_carryOver_81 rfl 1 rfl ?_
              refine x_imul F dX5_carryOver_82 ?_
              refine x_aload_n F dX5_carryOver_83 rfl 0 rfl ?_
              refine g_X5_33 F (hR 13 (by decide)) sc_13 rfl dX5_carryOver_84 ?_
              refine x_iload_n F dX5_carryOver_87 rfl 1 rfl ?_
              refine y_iald F (hR 21 (by decide)) ss_21 (num_in h8 hns (by assumption)) dX5_carryOver_88 ?_
              refine x_cast (y := (I 21 a.toNatClampNeg)) (by first | rfl | simp [wI_eq]) ?_
              refine x_iadd F dX5_carryOver_89 ?_
              refine x_iload_n F dX5_carryOver_90 rfl 2 rfl ?_
              refine y_iast F (hR 22 (by decide)) ss_22 (chain_to h8 hns hh (by assumption) (by assumption)) dX5_carryOver_91 ?_
              refine x_aload_n F dX5_carryOver_92 rfl 0 rfl ?_
              refine g_X5_33 F (hR 13 (by decide)) sc_13 rfl dX5_carryOver_93 ?_
              refine x_iload_n F dX5_carryOver_96 rfl 1 rfl ?_
              refine x_dup2 F dX5_carryOver_97 rfl rfl ?_
              refine y_iald F (hR 21 (by decide)) ss_21 (num_in h8 hns (by assumption)) dX5_carryOver_98 ?_
              refine x_cast (y := (I 21 a.toNatClampNeg)) (by first | rfl | simp [wI_eq]) ?_
              refine x_iconst F (v := 1) dX5_carryOver_99 (by decide) ?_
              refine x_iadd F dX5_carryOver_100 ?_
              refine y_iast F (hR 21 (by decide)) ss_21 (num_in h8 hns (by assumption)) dX5_carryOver_101 ?_
              refine x_aload_n F dX5_carryOver_102 rfl 0 rfl ?_
              refine g_X5_33 F (hR 13 (by decide)) sc_13 rfl dX5_carryOver_103 ?_
              refine x_iload_n F dX5_carryOver_106 rfl 1 rfl ?_
              refine y_iald F (hR 21 (by decide)) ss_21 (num_in h8 hns (by assumption)) dX5_carryOver_107 ?_
              refine x_cast (y := ((I 21 a.toNatClampNeg) + 1)) (by first | rfl | simp [wI_eq]) ?_
              rw [hQ]
              exact x_iret F hr hlk ⟨by simp [mCar, homeM_th, wI_eq, *], by simp [mCar, homeM_th, wI_wI, *]⟩ dX5_carryOver_108
            · exact False.elim (by revert h70; decide)
          · refine x_iconst F (v := 3) dX5_carryOver_58 (by decide) ?_
            refine x_goto F 63 dX5_carryOver_59 (by decide) ?_
            refine p_X5_78 F (hR 13 (by decide)) ss_13 dX5_carryOver_63 ?_
            refine x_aload_n F dX5_carryOver_66 rfl 0 rfl ?_
            refine g_X5_78 F (hR 13 (by decide)) sc_13 rfl dX5_carryOver_67 ?_
            refine x_cast (y := 3) (by first | rfl | simp [wI_eq]) ?_
            refine x_if_le F 75 dX5_carryOver_70 (by decide) (fun h70 => ?_) (fun h70 => ?_)
            · exact False.elim (by revert h70; decide)
            · refine x_iconst F (v := 0) dX5_carryOver_73 (by decide) ?_
              rw [hQ]
              exact x_iret F hr hlk ⟨by simp [mCar, homeM_th, wI_eq, *], by simp [mCar, homeM_th, wI_wI, *]⟩ dX5_carryOver_74
        · rw [homeM_th] at h40
          refine x_iconst F (v := 2) dX5_carryOver_43 (by decide) ?_
          refine x_goto F 63 dX5_carryOver_44 (by decide) ?_
          refine p_X5_78 F (hR 13 (by decide)) ss_13 dX5_carryOver_63 ?_
          refine x_aload_n F dX5_carryOver_66 rfl 0 rfl ?_
          refine g_X5_78 F (hR 13 (by decide)) sc_13 rfl dX5_carryOver_67 ?_
          refine x_cast (y := 2) (by first | rfl | simp [wI_eq]) ?_
          refine x_if_le F 75 dX5_carryOver_70 (by decide) (fun h70 => ?_) (fun h70 => ?_)
          · exact False.elim (by revert h70; decide)
          · refine x_iconst F (v := 0) dX5_carryOver_73 (by decide) ?_
            rw [hQ]
            exact x_iret F hr hlk ⟨by simp [mCar, homeM_th, wI_eq, *], by simp [mCar, homeM_th, wI_wI, *]⟩ dX5_carryOver_74
      · exact False.elim (by revert h28; decide)
