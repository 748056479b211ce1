def k_LL (I : Nat → Nat → Int32) (nt : Nat) : Prop := ∀ j, j < nt → ∃ n : Nat, 1 ≤ n ∧ n ≤ 5 ∧ I 32 j = nI n
def mWay (I : Nat → Nat → Int32) (a b : Int32) : Bool := isCal I a && isWi b 0 (I 32 a.toNatClampNeg - 1)
theorem cal_at {I : Nat → Nat → Int32} {a : Int32} {nt : Nat} (h8 : I 13 13 = nI nt) (hnt : nt ≤ 60) (h : isCal I a = true) : ∃ j, j < nt ∧ a = nI j := by
  obtain ⟨j, h1, h2, -⟩ := isN_nI ((cal_eq h8 hnt).symm.trans h)
  exact ⟨j, h1, h2⟩
theorem way_in {I : Nat → Nat → Int32} {a b : Int32} {nt : Nat} (h8 : I 13 13 = nI nt) (hnt : nt ≤ 60) (hw : k_LL I nt) (h : isCal I a = true) (hb : isWi b 0 (I 32 a.toNatClampNeg - 1) = true) : vp_in (5 * a + b) 300 := by
  obtain ⟨j, hj, rfl⟩ := cal_at h8 hnt h
  obtain ⟨n, h1, h2, h3⟩ := hw j hj
  rw [nI_clamp (by omega), h3, nI_m1 h1] at hb
  simp only [isWi, Bool.and_eq_true, Bool.not_eq_true', decide_eq_false_iff_not] at hb
  obtain ⟨g1, g2⟩ := hb
  obtain ⟨k, hk, rfl⟩ := nI_of g1
  rw [Int32.lt_iff_toInt_lt, nI_toInt (by omega), nI_toInt hk] at g2
  rw [n5jk]
  exact vp_in_nI (by omega) (by decide)
set_option maxHeartbeats 4000000 in
set_option maxRecDepth 100000 in
/-- position -/
theorem c_X5_position (l : Launch) (D : va_G) (cy : Nat → ClassId) (lo : Nat) (R : List Nat) (ad : Nat → Nat) (q : Nat → Nat → Nat) (ns nt : Nat) (I : Nat → Nat → Int32) (J : Nat → Nat → Int64) (hR : ∀ r, r < 36 → r ∈ R) (a : Int32) : k_Cl l yX5_position cX5_position 5 (some .long) 2 42 D cy lo R ad (k_c cy ad q ns nt I J) [.ref (ad 13), .int a] (if isCar a = true then posM J a 5 else 0) (k_c cy ad q ns nt (wI I 13 0 (if isCar a = true then 0 else 1)) J) := by
  refine k_metQ (by decide +kernel) (Nat.le_of_ble_eq_true rfl) ?_
  intro p e s m args below meth c Q F hr hlk hnm hQ
  refine x_aload_n F dX5_position_0 rfl 0 rfl ?_
  refine x_iload_n F dX5_position_1 rfl 1 rfl ?_
  refine z_callSi F [.int a] (c_X5_isCarrier l D cy lo R ad _ a) mc_X5_isCarrier ms_X5_isCarrier lk_X5_86 rfl rfl dX5_position_2 ⟨Nat.le_of_ble_eq_true rfl, Nat.le_of_ble_eq_true rfl⟩ ⟨Nat.le_of_ble_eq_true rfl, Nat.le_of_ble_eq_true rfl⟩ (Nat.le_of_ble_eq_true rfl) ?_
  refine x_if_eq F 12 dX5_position_5 (by decide) (fun h5 => ?_) (fun h5 => ?_)
  · rw [kb0] at h5
    refine x_iconst F (v := 1) dX5_position_12 (by decide) ?_
    refine p_X5_78 F (hR 13 (by decide)) ss_13 dX5_position_13 ?_
    refine x_lconst F (v := 0) dX5_position_16 (by decide) ?_
    refine x_lstore_n F [(2, .long 0), (0, .ref (ad 13)), (1, .int a)] dX5_position_17 rfl (by decide) rfl ?_
    refine x_iconst F (v := 0) dX5_position_18 (by decide) ?_
    refine x_istore F [(4, .int 0), (2, .long 0), (0, .ref (ad 13)), (1, .int a)] dX5_position_19 (by decide) rfl ?_
    refine x_iload F dX5_position_21 0 rfl ?_
    refine x_iconst F (v := 5) dX5_position_23 (by decide) ?_
    refine x_icmp_ge F 50 dX5_position_24 (by decide) (fun h24 => ?_) (fun h24 => ?_)
    · exact False.elim (by revert h24; decide)
    · refine x_aload_n F dX5_position_27 rfl 2 rfl ?_
      refine g_X5_78 F (hR 13 (by decide)) sc_13 rfl dX5_position_28 ?_
      refine x_cast (y := 1) (by first | rfl | simp [wI_eq]) ?_
      refine x_if_ne F 50 dX5_position_31 (by decide) (fun h31 => ?_) (fun h31 => ?_)
      · refine x_lload_n F dX5_position_50 rfl 1 rfl ?_
        rw [hQ]
        exact x_lret F hr hlk ⟨by simp [*], by simp [*]⟩ dX5_position_51
      · exact False.elim (by revert h31; decide)
  · rw [kb1] at h5
    refine x_iconst F (v := 0) dX5_position_8 (by decide) ?_
    refine x_goto F 13 dX5_position_9 (by decide) ?_
    refine p_X5_78 F (hR 13 (by decide)) ss_13 dX5_position_13 ?_
    refine x_lconst F (v := 0) dX5_position_16 (by decide) ?_
    refine x_lstore_n F [(2, .long 0), (0, .ref (ad 13)), (1, .int a)] dX5_position_17 rfl (by decide) rfl ?_
    refine x_iconst F (v := 0) dX5_position_18 (by decide) ?_
    refine x_istore F [(4, .int 0), (2, .long 0), (0, .ref (ad 13)), (1, .int a)] dX5_position_19 (by decide) rfl ?_
    have lp21 : ∀ (fu21 : Nat) (k : Nat), 5 - k < fu21 → (k ≤ 5) → XW D lo p l e { frames := 2, cells := 0, slots := 0, locals := 42 } s m args below meth c 5 0 0 Q R ad (k_c cy ad q ns nt (wI I 13 0 0) J) 21 [(4, .int (nI k)), (2, .long (posM J a k)), (0, .ref (ad 13)), (1, .int a)] [] := by
      intro fu21
      induction fu21 with
      | zero => intro k hf21; exact absurd hf21 (Nat.not_lt_zero _)
      | succ fu21 ih21 =>
        intro k hf21 hkn
        refine x_iload F dX5_position_21 0 rfl ?_
        refine x_iconst F (v := 5) dX5_position_23 (by decide) ?_
        refine x_icmp_ge F 50 dX5_position_24 (by decide) (fun h24 => ?_) (fun h24 => ?_)
        · have hk9 : k = 5 := lp_exit (N := 5) (by omega) hkn h24
          refine x_lload_n F dX5_position_50 rfl 1 rfl ?_
          rw [hQ]
          exact x_lret F hr hlk ⟨by rw [if_pos h5, hk9], by rw [if_pos h5]⟩ dX5_position_51
        · have hk9 : k < 5 := lp_go (N := 5) (by omega) hkn h24
          refine x_aload_n F dX5_position_27 rfl 2 rfl ?_
          refine g_X5_78 F (hR 13 (by decide)) sc_13 rfl dX5_position_28 ?_
          refine x_cast (y := 0) (by first | rfl | simp [wI_eq]) ?_
          refine x_if_ne F 50 dX5_position_31 (by decide) (fun h31 => ?_) (fun h31 => ?_)
          · exact False.elim (by revert h31; decide)
          · refine x_lload_n F dX5_position_34 rfl 1 rfl ?_
            refine x_aload_n F dX5_position_35 rfl 2 rfl ?_
            refine x_iload F dX5_position_36 0 rfl ?_
            refine x_iload_n F dX5_position_38 rfl 3 rfl ?_
            refine z_callVl F [.int (nI k), .int a] (c_X5_debtOf l D cy lo R ad q ns nt (wI I 13 0 0) J hR (nI k) a (car_of hk9) h5) mc_X5_debtOf mv_X5_debtOf lk_X5_109 (hR 13 (by decide)) sc_13 rfl rfl rfl dX5_position_39 ⟨Nat.le_of_ble_eq_true rfl, Nat.le_of_ble_eq_true rfl⟩ ⟨Nat.le_of_ble_eq_true rfl, Nat.le_of_ble_eq_true rfl⟩ (Nat.le_of_ble_eq_true rfl) ?_
            refine x_ladd F dX5_position_42 ?_
            refine x_lstore_n F [(2, .long ((posM J a k) + (debtM J (nI k) a))), (4, .int (nI k)), (0, .ref (ad 13)), (1, .int a)] dX5_position_43 rfl (by decide) rfl ?_
            refine x_iinc F [(4, .int ((nI k) + 1)), (2, .long ((posM J a k) + (debtM J (nI k) a))), (0, .ref (ad 13)), (1, .int a)] dX5_position_44 1 rfl (by decide) rfl ?_
            refine x_goto F 21 dX5_position_47 (by decide) ?_
            rw [nI_1]
            refine x_sub [0, 1, 2, 3] rfl ?_
            exact ih21 (k + 1) (by omega) (by omega)
    exact lp21 6 0 (by omega) (by omega)
set_option maxHeartbeats 4000000 in
set_option maxRecDepth 100000 in
/-- way -/
theorem c_X5_way (l : Launch) (D : va_G) (cy : Nat → ClassId) (lo : Nat) (R : List Nat) (ad : Nat → Nat) (q : Nat → Nat → Nat) (ns nt : Nat) (I : Nat → Nat → Int32) (J : Nat → Nat → Int64) (hR : ∀ r, r < 36 → r ∈ R) (a : Int32) (b : Int32) (h8 : I 13 13 = nI nt) (hnt : nt ≤ 60) (hw : k_LL I nt) : k_Ci l yX5_way cX5_way 3 (some .int) 2 43 D cy lo R ad (k_c cy ad q ns nt I J) [.ref (ad 13), .int a, .int b] (if mWay I a b = true then I 33 (5 * a + b).toNatClampNeg else 0) (k_c cy ad q ns nt (wI I 13 0 (if mWay I a b = true then 0 else 1)) J) := by
  refine k_metQ (by decide +kernel) (Nat.le_of_ble_eq_true rfl) ?_
  intro p e s m args below meth c Q F hr hlk hnm hQ
  refine x_aload_n F dX5_way_0 rfl 0 rfl ?_
  refine x_aload_n F dX5_way_1 rfl 0 rfl ?_
  refine x_iload_n F dX5_way_2 rfl 1 rfl ?_
  refine z_callVi F [.int a] (c_X5_isCall l D cy lo R ad q ns nt I J hR a ) mc_X5_isCall mv_X5_isCall lk_X5_138 (hR 13 (by decide)) sc_13 rfl rfl rfl dX5_way_3 ⟨Nat.le_of_ble_eq_true rfl, Nat.le_of_ble_eq_true rfl⟩ ⟨Nat.le_of_ble_eq_true rfl, Nat.le_of_ble_eq_true rfl⟩ (Nat.le_of_ble_eq_true rfl) ?_
  refine x_if_eq F 41 dX5_way_6 (by decide) (fun h6 => ?_) (fun h6 => ?_)
  · rw [kb0] at h6
    refine x_iconst F (v := 1) dX5_way_41 (by decide) ?_
    refine p_X5_78 F (hR 13 (by decide)) ss_13 dX5_way_42 ?_
    refine x_aload_n F dX5_way_45 rfl 0 rfl ?_
    refine g_X5_78 F (hR 13 (by decide)) sc_13 rfl dX5_way_46 ?_
    refine x_cast (y := 1) (by first | rfl | simp [wI_eq]) ?_
    refine x_if_le F 56 dX5_way_49 (by decide) (fun h49 => ?_) (fun h49 => ?_)
    · exact False.elim (by revert h49; decide)
    · refine x_iconst F (v := 0) dX5_way_52 (by decide) ?_
      refine x_goto F 66 dX5_way_53 (by decide) ?_
      rw [hQ]
      exact x_iret F hr hlk ⟨by simp [mWay, wI_eq, *], by simp [mWay, wI_wI, *]⟩ dX5_way_66
  · rw [kb1] at h6
    refine x_iload_n F dX5_way_9 rfl 2 rfl ?_
    refine x_iconst F (v := 0) dX5_way_10 (by decide) ?_
    refine x_aload_n F dX5_way_11 rfl 0 rfl ?_
    refine g_X5_66 F (hR 13 (by decide)) sc_13 rfl dX5_way_12 ?_
    refine x_aload_n F dX5_way_15 rfl 0 rfl ?_
    refine x_iload_n F dX5_way_16 rfl 1 rfl ?_
    refine z_callVi F [.int a] (c_X5_isCall l D cy lo R ad q ns nt I J hR a ) mc_X5_isCall mv_X5_isCall lk_X5_138 (hR 13 (by decide)) sc_13 rfl rfl rfl dX5_way_17 ⟨Nat.le_of_ble_eq_true rfl, Nat.le_of_ble_eq_true rfl⟩ ⟨Nat.le_of_ble_eq_true rfl, Nat.le_of_ble_eq_true rfl⟩ (Nat.le_of_ble_eq_true rfl) ?_
    refine x_if_eq F 27 dX5_way_20 (by decide) (fun h20 => ?_) (fun h20 => ?_)
    · exact absurd (kb0.mp h20) (by rw [h6]; decide)
    · rw [kb1] at h20
      refine x_iload_n F dX5_way_23 rfl 1 rfl ?_
      refine x_goto F 28 dX5_way_24 (by decide) ?_
      refine y_iald F (hR 32 (by decide)) ss_32 (cal_in h8 hnt (by assumption)) dX5_way_28 ?_
      refine x_iconst F (v := 1) dX5_way_29 (by decide) ?_
      refine x_isub F dX5_way_30 ?_
      refine z_callSi F [.int b, .int 0, .int ((I 32 a.toNatClampNeg) - 1)] (c_X5_isIn l D cy lo R ad _ b 0 ((I 32 a.toNatClampNeg) - 1)) mc_X5_isIn ms_X5_isIn lk_X5_82 rfl rfl dX5_way_31 ⟨Nat.le_of_ble_eq_true rfl, Nat.le_of_ble_eq_true rfl⟩ ⟨Nat.le_of_ble_eq_true rfl, Nat.le_of_ble_eq_true rfl⟩ (Nat.le_of_ble_eq_true rfl) ?_
      refine x_if_eq F 41 dX5_way_34 (by decide) (fun h34 => ?_) (fun h34 => ?_)
      · rw [kb0] at h34
        refine x_iconst F (v := 1) dX5_way_41 (by decide) ?_
        refine p_X5_78 F (hR 13 (by decide)) ss_13 dX5_way_42 ?_
        refine x_aload_n F dX5_way_45 rfl 0 rfl ?_
        refine g_X5_78 F (hR 13 (by decide)) sc_13 rfl dX5_way_46 ?_
        refine x_cast (y := 1) (by first | rfl | simp [wI_eq]) ?_
        refine x_if_le F 56 dX5_way_49 (by decide) (fun h49 => ?_) (fun h49 => ?_)
        · exact False.elim (by revert h49; decide)
        · refine x_iconst F (v := 0) dX5_way_52 (by decide) ?_
          refine x_goto F 66 dX5_way_53 (by decide) ?_
          rw [hQ]
          exact x_iret F hr hlk ⟨by simp [mWay, wI_eq, *], by simp [mWay, wI_wI, *]⟩ dX5_way_66
      · rw [kb1] at h34
        refine x_iconst F (v := 0) dX5_way_37 (by decide) ?_
        refine x_goto F 42 dX5_way_38 (by decide) ?_
        refine p_X5_78 F (hR 13 (by decide)) ss_13 dX5_way_42 ?_
        refine x_aload_n F dX5_way_45 rfl 0 rfl ?_
        refine g_X5_78 F (hR 13 (by decide)) sc_13 rfl dX5_way_46 ?_
        refine x_cast (y := 0) (by first | rfl | simp [wI_eq]) ?_
        refine x_if_le F 56 dX5_way_49 (by decide) (fun h49 => ?_) (fun h49 => ?_)
        · refine x_aload_n F dX5_way_56 rfl 0 rfl ?_
          refine g_X5_69 F (hR 13 (by decide)) sc_13 rfl dX5_way_57 ?_
          refine x_iconst F (v := 5) dX5_way_60 (by decide) ?_
          refine x_iload_n F dX5_way_61 rfl 1 rfl ?_
          refine x_imul F dX5_way_62 ?_
          refine x_iload_n F dX5_way_63 rfl 2 rfl ?_
          refine x_iadd F dX5_way_64 ?_
          refine y_iald F (hR 33 (by decide)) ss_33 (way_in h8 hnt hw (by assumption) (by assumption)) dX5_way_65 ?_
          refine x_cast (y := (I 33 ((5 * a) + b).toNatClampNeg)) (by first | rfl | simp [wI_eq]) ?_
          rw [hQ]
          exact x_iret F hr hlk ⟨by simp [mWay, wI_eq, *], by simp [mWay, wI_wI, *]⟩ dX5_way_66
        · exact False.elim (by revert h49; decide)
