theorem grf_th {I : Nat → Nat → Int32} {J : Nat → Nat → Int64} {x : Int32} {op : Nat → Nat → Bool} {rt : Nat → Nat → Nat} (h : Grf I J op rt) : Grf (wI I 13 0 x) J op rt := by
  intro a b ha hb
  obtain ⟨h1, h2⟩ := h a b ha hb
  refine ⟨by rw [shutM_th]; exact h1, fun ho => ?_⟩
  rw [wI_eq, if_neg (by omega)]
  exact h2 ho
theorem best_in {I : Nat → Nat → Int32} {op : Nat → Nat → Bool} {rt : Nat → Nat → Nat} {x y : Nat} {v : Option (List Nat)} {c2 : Int32} (hB : Best op rt x y v) (hv : Bst I rt v) (hs : v.isSome = true) (hc : isWi c2 0 (I 13 23 - 1) = true) : vp_in c2 5 := by
  cases v with
  | none => cases hs
  | some w =>
    have hl := way_len hB.1
    rw [hv.1, nI_m1 hl.1] at hc
    simp only [isWi, Bool.and_eq_true, Bool.not_eq_true', decide_eq_false_iff_not] at hc
    obtain ⟨g1, g2⟩ := hc
    obtain ⟨k, hk, rfl⟩ := nI_of g1
    rw [Int32.lt_iff_toInt_lt, nI_toInt (by omega), nI_toInt hk] at g2
    exact vp_in_nI (by omega) (by decide)
set_option maxHeartbeats 4000000 in
set_option maxRecDepth 100000 in
/-- cost -/
theorem c_X5_cost (l : Launch) (D : va_G) (cy : Nat → ClassId) (lo : Nat) (R : List Nat) (ad : Nat → Nat) (q : Nat → Nat → Nat) (ns nt : Nat) (I : Nat → Nat → Int32) (J : Nat → Nat → Int64) (hR : ∀ r, r < 36 → r ∈ R) (op : Nat → Nat → Bool) (rt : Nat → Nat → Nat) (a b : Int32) (hg : Grf I J op rt) : k_Met l yX5_cost cX5_cost 3 (some .int) { frames := 4, cells := 0, slots := 0, locals := 97 } D cy lo R ad (k_c cy ad q ns nt I J) [.ref (ad 13), .int a, .int b] (k_Qi D lo (fun r u => ((isCar a && isCar b) = false ∧ r = 0 ∧ u = (R, ad, (k_c cy ad q ns nt (wI I 13 0 1) J))) ∨ ((isCar a && isCar b) = true ∧ ∃ (I' : Nat → Nat → Int32) (v : Option (List Nat)), u = (R, ad, (k_c cy ad q ns nt I' J)) ∧ FR (wI I 13 0 0) I' ∧ Best op rt a.toNatClampNeg b.toNatClampNeg v ∧ Bst I' rt v ∧ r = (match v with | none => -1 | some w => nI (cst rt w))))) := by
  refine k_metQ (by decide +kernel) (Nat.le_of_ble_eq_true rfl) ?_
  intro p e s m args below meth c Q F hr hlk hnm hQ
  refine x_aload_n F dX5_cost_0 rfl 0 rfl ?_
  refine x_iload_n F dX5_cost_1 rfl 1 rfl ?_
  refine x_iload_n F dX5_cost_2 rfl 2 rfl ?_
  refine z_callSi F [.int a, .int b] (c_X5_areCarriers l D cy lo R ad _ a b) mc_X5_areCarriers ms_X5_areCarriers lk_X5_97 rfl rfl dX5_cost_3 ⟨Nat.le_of_ble_eq_true rfl, Nat.le_of_ble_eq_true rfl⟩ ⟨Nat.le_of_ble_eq_true rfl, Nat.le_of_ble_eq_true rfl⟩ (Nat.le_of_ble_eq_true rfl) ?_
  refine x_if_eq F 13 dX5_cost_6 (by decide) (fun h6 => ?_) (fun h6 => ?_)
  · rw [kb0] at h6
    refine x_iconst F (v := 1) dX5_cost_13 (by decide) ?_
    refine p_X5_78 F (hR 13 (by decide)) ss_13 dX5_cost_14 ?_
    refine x_aload_n F dX5_cost_17 rfl 0 rfl ?_
    refine g_X5_78 F (hR 13 (by decide)) sc_13 rfl dX5_cost_18 ?_
    refine x_cast (y := 1) (by first | rfl | simp [wI_eq]) ?_
    refine x_if_le F 26 dX5_cost_21 (by decide) (fun h21 => ?_) (fun h21 => ?_)
    · exact False.elim (by revert h21; decide)
    · refine x_iconst F (v := 0) dX5_cost_24 (by decide) ?_
      rw [hQ]
      exact x_iret F hr hlk (by exact Or.inl ⟨by assumption, rfl, rfl⟩) dX5_cost_25
  · rw [kb1] at h6
    refine x_iconst F (v := 0) dX5_cost_9 (by decide) ?_
    refine x_goto F 14 dX5_cost_10 (by decide) ?_
    refine p_X5_78 F (hR 13 (by decide)) ss_13 dX5_cost_14 ?_
    refine x_aload_n F dX5_cost_17 rfl 0 rfl ?_
    refine g_X5_78 F (hR 13 (by decide)) sc_13 rfl dX5_cost_18 ?_
    refine x_cast (y := 0) (by first | rfl | simp [wI_eq]) ?_
    refine x_if_le F 26 dX5_cost_21 (by decide) (fun h21 => ?_) (fun h21 => ?_)
    · refine x_aload_n F dX5_cost_26 rfl 0 rfl ?_
      refine x_iload_n F dX5_cost_27 rfl 1 rfl ?_
      refine x_iload_n F dX5_cost_28 rfl 2 rfl ?_
      obtain ⟨ha, hb⟩ := car2 h6
      obtain ⟨x, hx, rfl⟩ := car_nI ha
      obtain ⟨y, hy, rfl⟩ := car_nI hb
      have ex : (nI x).toNatClampNeg = x := nI_clamp (by omega)
      have ey : (nI y).toNatClampNeg = y := nI_clamp (by omega)
      refine x_callVi F [.int (nI x), .int (nI y)] (c_X5_finds l D cy lo R ad q ns nt (wI I 13 0 0) J hR op rt x y hx hy (grf_th hg)) mc_X5_finds mv_X5_finds lk_X5_131 (hR 13 (by decide)) sc_13 rfl rfl rfl dX5_cost_29 ⟨Nat.le_of_ble_eq_true rfl, Nat.le_of_ble_eq_true rfl⟩ ⟨Nat.le_of_ble_eq_true rfl, Nat.le_of_ble_eq_true rfl⟩ (Nat.le_of_ble_eq_true rfl) (fun rv u hu => ?_)
      obtain ⟨I2, v, rfl, hF, hB, hv, rfl⟩ := hu
      dsimp only
      refine x_if_eq F 42 dX5_cost_32 (by decide) (fun h32 => ?_) (fun h32 => ?_)
      · rw [kb0] at h32
        refine x_iconst F (v := -1) dX5_cost_42 (by decide) ?_
        rw [hQ]
        exact x_iret F hr hlk (by exact Or.inr ⟨by assumption, I2, v, rfl, hF, by rw [ex, ey]; exact hB, hv, by cases v <;> first | rfl | exact hv.2.1 | (exfalso; revert h32; simp)⟩) dX5_cost_43
      · rw [kb1] at h32
        refine x_aload_n F dX5_cost_35 rfl 0 rfl ?_
        refine g_X5_122 F (hR 13 (by decide)) sc_13 rfl dX5_cost_36 ?_
        refine x_goto F 43 dX5_cost_39 (by decide) ?_
        rw [hQ]
        exact x_iret F hr hlk (by exact Or.inr ⟨by assumption, I2, v, rfl, hF, by rw [ex, ey]; exact hB, hv, by cases v <;> first | rfl | exact hv.2.1 | (exfalso; revert h32; simp)⟩) dX5_cost_43
    · exact False.elim (by revert h21; decide)
set_option maxHeartbeats 4000000 in
set_option maxRecDepth 100000 in
/-- best -/
theorem c_X5_best (l : Launch) (D : va_G) (cy : Nat → ClassId) (lo : Nat) (R : List Nat) (ad : Nat → Nat) (q : Nat → Nat → Nat) (ns nt : Nat) (I : Nat → Nat → Int32) (J : Nat → Nat → Int64) (hR : ∀ r, r < 36 → r ∈ R) (op : Nat → Nat → Bool) (rt : Nat → Nat → Nat) (a b c2 : Int32) (hg : Grf I J op rt) : k_Met l yX5_best cX5_best 4 (some .int) { frames := 4, cells := 0, slots := 0, locals := 97 } D cy lo R ad (k_c cy ad q ns nt I J) [.ref (ad 13), .int a, .int b, .int c2] (k_Qi D lo (fun r u => ((isCar a && isCar b) = false ∧ r = 0 ∧ u = (R, ad, (k_c cy ad q ns nt (wI I 13 0 1) J))) ∨ ((isCar a && isCar b) = true ∧ ∃ (I' : Nat → Nat → Int32) (v : Option (List Nat)), u = (R, ad, (k_c cy ad q ns nt (wI I' 13 0 (if (v.isSome && isWi c2 0 (I' 13 23 - 1)) = true then 0 else 1)) J)) ∧ FR (wI I 13 0 0) I' ∧ Best op rt a.toNatClampNeg b.toNatClampNeg v ∧ Bst I' rt v ∧ r = (if (v.isSome && isWi c2 0 (I' 13 23 - 1)) = true then I' 34 c2.toNatClampNeg else 0)))) := by
  refine k_metQ (by decide +kernel) (Nat.le_of_ble_eq_true rfl) ?_
  intro p e s m args below meth c Q F hr hlk hnm hQ
  refine x_aload_n F dX5_best_0 rfl 0 rfl ?_
  refine x_iload_n F dX5_best_1 rfl 1 rfl ?_
  refine x_iload_n F dX5_best_2 rfl 2 rfl ?_
  refine z_callSi F [.int a, .int b] (c_X5_areCarriers l D cy lo R ad _ a b) mc_X5_areCarriers ms_X5_areCarriers lk_X5_97 rfl rfl dX5_best_3 ⟨Nat.le_of_ble_eq_true rfl, Nat.le_of_ble_eq_true rfl⟩ ⟨Nat.le_of_ble_eq_true rfl, Nat.le_of_ble_eq_true rfl⟩ (Nat.le_of_ble_eq_true rfl) ?_
  refine x_if_eq F 13 dX5_best_6 (by decide) (fun h6 => ?_) (fun h6 => ?_)
  · rw [kb0] at h6
    refine x_iconst F (v := 1) dX5_best_13 (by decide) ?_
    refine p_X5_78 F (hR 13 (by decide)) ss_13 dX5_best_14 ?_
    refine x_aload_n F dX5_best_17 rfl 0 rfl ?_
    refine g_X5_78 F (hR 13 (by decide)) sc_13 rfl dX5_best_18 ?_
    refine x_cast (y := 1) (by first | rfl | simp [wI_eq]) ?_
    refine x_if_le F 26 dX5_best_21 (by decide) (fun h21 => ?_) (fun h21 => ?_)
    · exact False.elim (by revert h21; decide)
    · refine x_iconst F (v := 0) dX5_best_24 (by decide) ?_
      rw [hQ]
      exact x_iret F hr hlk (by exact Or.inl ⟨by assumption, rfl, rfl⟩) dX5_best_25
  · rw [kb1] at h6
    refine x_iconst F (v := 0) dX5_best_9 (by decide) ?_
    refine x_goto F 14 dX5_best_10 (by decide) ?_
    refine p_X5_78 F (hR 13 (by decide)) ss_13 dX5_best_14 ?_
    refine x_aload_n F dX5_best_17 rfl 0 rfl ?_
    refine g_X5_78 F (hR 13 (by decide)) sc_13 rfl dX5_best_18 ?_
    refine x_cast (y := 0) (by first | rfl | simp [wI_eq]) ?_
    refine x_if_le F 26 dX5_best_21 (by decide) (fun h21 => ?_) (fun h21 => ?_)
    · refine x_aload_n F dX5_best_26 rfl 0 rfl ?_
      refine x_aload_n F dX5_best_27 rfl 0 rfl ?_
      refine x_iload_n F dX5_best_28 rfl 1 rfl ?_
      refine x_iload_n F dX5_best_29 rfl 2 rfl ?_
      obtain ⟨ha, hb⟩ := car2 h6
      obtain ⟨x, hx, rfl⟩ := car_nI ha
      obtain ⟨y, hy, rfl⟩ := car_nI hb
      have ex : (nI x).toNatClampNeg = x := nI_clamp (by omega)
      have ey : (nI y).toNatClampNeg = y := nI_clamp (by omega)
      refine x_callVi F [.int (nI x), .int (nI y)] (c_X5_finds l D cy lo R ad q ns nt (wI I 13 0 0) J hR op rt x y hx hy (grf_th hg)) mc_X5_finds mv_X5_finds lk_X5_131 (hR 13 (by decide)) sc_13 rfl rfl rfl dX5_best_30 ⟨Nat.le_of_ble_eq_true rfl, Nat.le_of_ble_eq_true rfl⟩ ⟨Nat.le_of_ble_eq_true rfl, Nat.le_of_ble_eq_true rfl⟩ (Nat.le_of_ble_eq_true rfl) (fun rv u hu => ?_)
      obtain ⟨I2, v, rfl, hF, hB, hv, rfl⟩ := hu
      dsimp only
      refine x_if_eq F 54 dX5_best_33 (by decide) (fun h33 => ?_) (fun h33 => ?_)
      · rw [kb0] at h33
        refine x_iconst F (v := 1) dX5_best_54 (by decide) ?_
        refine p_X5_78 F (hR 13 (by decide)) ss_13 dX5_best_55 ?_
        refine x_aload_n F dX5_best_58 rfl 0 rfl ?_
        refine g_X5_78 F (hR 13 (by decide)) sc_13 rfl dX5_best_59 ?_
        refine x_cast (y := 1) (by first | rfl | simp [wI_eq]) ?_
        refine x_if_le F 69 dX5_best_62 (by decide) (fun h62 => ?_) (fun h62 => ?_)
        · exact False.elim (by revert h62; decide)
        · refine x_iconst F (v := 0) dX5_best_65 (by decide) ?_
          refine x_goto F 75 dX5_best_66 (by decide) ?_
          rw [hQ]
          exact x_iret F hr hlk (by exact Or.inr ⟨by assumption, I2, v, by simp [*], hF, by rw [ex, ey]; exact hB, hv, by simp [wI_eq, *]⟩) dX5_best_75
      · rw [kb1] at h33
        refine x_iload_n F dX5_best_36 rfl 3 rfl ?_
        refine x_iconst F (v := 0) dX5_best_37 (by decide) ?_
        refine x_aload_n F dX5_best_38 rfl 0 rfl ?_
        refine g_X5_116 F (hR 13 (by decide)) sc_13 rfl dX5_best_39 ?_
        refine x_iconst F (v := 1) dX5_best_42 (by decide) ?_
        refine x_isub F dX5_best_43 ?_
        refine z_callSi F [.int c2, .int 0, .int ((I2 13 23) - 1)] (c_X5_isIn l D cy lo R ad _ c2 0 ((I2 13 23) - 1)) mc_X5_isIn ms_X5_isIn lk_X5_82 rfl rfl dX5_best_44 ⟨Nat.le_of_ble_eq_true rfl, Nat.le_of_ble_eq_true rfl⟩ ⟨Nat.le_of_ble_eq_true rfl, Nat.le_of_ble_eq_true rfl⟩ (Nat.le_of_ble_eq_true rfl) ?_
        refine x_if_eq F 54 dX5_best_47 (by decide) (fun h47 => ?_) (fun h47 => ?_)
        · rw [kb0] at h47
          refine x_iconst F (v := 1) dX5_best_54 (by decide) ?_
          refine p_X5_78 F (hR 13 (by decide)) ss_13 dX5_best_55 ?_
          refine x_aload_n F dX5_best_58 rfl 0 rfl ?_
          refine g_X5_78 F (hR 13 (by decide)) sc_13 rfl dX5_best_59 ?_
          refine x_cast (y := 1) (by first | rfl | simp [wI_eq]) ?_
          refine x_if_le F 69 dX5_best_62 (by decide) (fun h62 => ?_) (fun h62 => ?_)
          · exact False.elim (by revert h62; decide)
          · refine x_iconst F (v := 0) dX5_best_65 (by decide) ?_
            refine x_goto F 75 dX5_best_66 (by decide) ?_
            rw [hQ]
            exact x_iret F hr hlk (by exact Or.inr ⟨by assumption, I2, v, by simp [*], hF, by rw [ex, ey]; exact hB, hv, by simp [wI_eq, *]⟩) dX5_best_75
        · rw [kb1] at h47
          refine x_iconst F (v := 0) dX5_best_50 (by decide) ?_
          refine x_goto F 55 dX5_best_51 (by decide) ?_
          refine p_X5_78 F (hR 13 (by decide)) ss_13 dX5_best_55 ?_
          refine x_aload_n F dX5_best_58 rfl 0 rfl ?_
          refine g_X5_78 F (hR 13 (by decide)) sc_13 rfl dX5_best_59 ?_
          refine x_cast (y := 0) (by first | rfl | simp [wI_eq]) ?_
          refine x_if_le F 69 dX5_best_62 (by decide) (fun h62 => ?_) (fun h62 => ?_)
          · refine x_aload_n F dX5_best_69 rfl 0 rfl ?_
            refine g_X5_72 F (hR 13 (by decide)) sc_13 rfl dX5_best_70 ?_
            refine x_iload_n F dX5_best_73 rfl 3 rfl ?_
            refine y_iald F (hR 34 (by decide)) ss_34 (best_in hB hv (by assumption) (by assumption)) dX5_best_74 ?_
            refine x_cast (y := (I2 34 c2.toNatClampNeg)) (by first | rfl | simp [wI_eq]) ?_
            rw [hQ]
            exact x_iret F hr hlk (by exact Or.inr ⟨by assumption, I2, v, by simp [*], hF, by rw [ex, ey]; exact hB, hv, by simp [wI_eq, *]⟩) dX5_best_75
          · exact False.elim (by revert h62; decide)
    · exact False.elim (by revert h21; decide)
