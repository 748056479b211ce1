set_option maxHeartbeats 4000000 in
set_option maxRecDepth 100000 in
/-- isWithin -/
theorem c_X4_isWithin (l : Launch) (D : va_G) (cy : Nat → ClassId) (lo : Nat) (R : List Nat) (ad : Nat → Nat) (w : Nat → va_E) (a b c : Int32) : k_Ci l yX4_isWithin cX4_isWithin 3 (some .boolean) 0 0 D cy lo R ad w [.int a, .int b, .int c] (k_b (isWi a b c)) w := by
  refine k_metQ (by decide +kernel) (Nat.le_of_ble_eq_true rfl) ?_
  intro p e s m args below meth c Q F hr hlk hnm hQ
  refine x_iload_n F dX4_isWithin_0 rfl 0 rfl ?_
  refine x_iload_n F dX4_isWithin_1 rfl 1 rfl ?_
  refine x_icmp_lt F 14 dX4_isWithin_2 (by decide) (fun h2 => ?_) (fun h2 => ?_)
  · refine x_iconst F (v := 0) dX4_isWithin_14 (by decide) ?_
    rw [hQ]
    exact x_zret F hr hlk (by decide) ⟨by simp [isWi, k_b, *], rfl⟩ dX4_isWithin_15
  · refine x_iload_n F dX4_isWithin_5 rfl 0 rfl ?_
    refine x_iload_n F dX4_isWithin_6 rfl 2 rfl ?_
    refine x_icmp_gt F 14 dX4_isWithin_7 (by decide) (fun h7 => ?_) (fun h7 => ?_)
    · refine x_iconst F (v := 0) dX4_isWithin_14 (by decide) ?_
      rw [hQ]
      exact x_zret F hr hlk (by decide) ⟨by simp [isWi, k_b, *], rfl⟩ dX4_isWithin_15
    · refine x_iconst F (v := 1) dX4_isWithin_10 (by decide) ?_
      refine x_goto F 15 dX4_isWithin_11 (by decide) ?_
      rw [hQ]
      exact x_zret F hr hlk (by decide) ⟨by simp [isWi, k_b, *], rfl⟩ dX4_isWithin_15
set_option maxHeartbeats 4000000 in
set_option maxRecDepth 100000 in
/-- isCarrier -/
theorem c_X4_isCarrier (l : Launch) (D : va_G) (cy : Nat → ClassId) (lo : Nat) (R : List Nat) (ad : Nat → Nat) (w : Nat → va_E) (a : Int32) : k_Ci l yX4_isCarrier cX4_isCarrier 1 (some .boolean) 0 0 D cy lo R ad w [.int a] (k_b (isCar a)) w := by
  refine k_metQ (by decide +kernel) (Nat.le_of_ble_eq_true rfl) ?_
  intro p e s m args below meth c Q F hr hlk hnm hQ
  refine x_iload_n F dX4_isCarrier_0 rfl 0 rfl ?_
  refine x_if_lt F 13 dX4_isCarrier_1 (by decide) (fun h1 => ?_) (fun h1 => ?_)
  · refine x_iconst F (v := 0) dX4_isCarrier_13 (by decide) ?_
    rw [hQ]
    exact x_zret F hr hlk (by decide) ⟨by simp [isCar, k_b, *], rfl⟩ dX4_isCarrier_14
  · refine x_iload_n F dX4_isCarrier_4 rfl 0 rfl ?_
    refine x_iconst F (v := 5) dX4_isCarrier_5 (by decide) ?_
    refine x_icmp_ge F 13 dX4_isCarrier_6 (by decide) (fun h6 => ?_) (fun h6 => ?_)
    · refine x_iconst F (v := 0) dX4_isCarrier_13 (by decide) ?_
      rw [hQ]
      exact x_zret F hr hlk (by decide) ⟨by simp [isCar, k_b, *], rfl⟩ dX4_isCarrier_14
    · refine x_iconst F (v := 1) dX4_isCarrier_9 (by decide) ?_
      refine x_goto F 14 dX4_isCarrier_10 (by decide) ?_
      rw [hQ]
      exact x_zret F hr hlk (by decide) ⟨by simp [isCar, k_b, *], rfl⟩ dX4_isCarrier_14
set_option maxHeartbeats 4000000 in
set_option maxRecDepth 100000 in
/-- pairOf -/
theorem c_X4_pairOf (l : Launch) (D : va_G) (cy : Nat → ClassId) (lo : Nat) (R : List Nat) (ad : Nat → Nat) (w : Nat → va_E) (a b : Int32) : k_Ci l yX4_pairOf cX4_pairOf 3 (some .int) 0 0 D cy lo R ad w [.int a, .int b] (pairI a b) w := by
  refine k_metQ (by decide +kernel) (Nat.le_of_ble_eq_true rfl) ?_
  intro p e s m args below meth c Q F hr hlk hnm hQ
  refine x_iload_n F dX4_pairOf_0 rfl 0 rfl ?_
  refine x_if_lt F 22 dX4_pairOf_1 (by decide) (fun h1 => ?_) (fun h1 => ?_)
  · refine x_iconst F (v := 0) dX4_pairOf_22 (by decide) ?_
    refine x_istore_n F [(2, .int 0), (0, .int a), (1, .int b)] dX4_pairOf_23 rfl (by decide) rfl ?_
    refine x_iload_n F dX4_pairOf_24 rfl 0 rfl ?_
    refine x_if_eq F 36 dX4_pairOf_25 (by decide) (fun h25 => ?_) (fun h25 => ?_)
    · refine x_iconst F (v := -1) dX4_pairOf_36 (by decide) ?_
      rw [hQ]
      exact x_iret F hr hlk ⟨by simp [pairI, isCar, *], rfl⟩ dX4_pairOf_37
    · exact False.elim (by revert h25; decide)
  · refine x_iload_n F dX4_pairOf_4 rfl 0 rfl ?_
    refine x_iconst F (v := 5) dX4_pairOf_5 (by decide) ?_
    refine x_icmp_ge F 22 dX4_pairOf_6 (by decide) (fun h6 => ?_) (fun h6 => ?_)
    · refine x_iconst F (v := 0) dX4_pairOf_22 (by decide) ?_
      refine x_istore_n F [(2, .int 0), (0, .int a), (1, .int b)] dX4_pairOf_23 rfl (by decide) rfl ?_
      refine x_iload_n F dX4_pairOf_24 rfl 0 rfl ?_
      refine x_if_eq F 36 dX4_pairOf_25 (by decide) (fun h25 => ?_) (fun h25 => ?_)
      · refine x_iconst F (v := -1) dX4_pairOf_36 (by decide) ?_
        rw [hQ]
        exact x_iret F hr hlk ⟨by simp [pairI, isCar, *], rfl⟩ dX4_pairOf_37
      · exact False.elim (by revert h25; decide)
    · refine x_iload_n F dX4_pairOf_9 rfl 1 rfl ?_
      refine x_if_lt F 22 dX4_pairOf_10 (by decide) (fun h10 => ?_) (fun h10 => ?_)
      · refine x_iconst F (v := 0) dX4_pairOf_22 (by decide) ?_
        refine x_istore_n F [(2, .int 0), (0, .int a), (1, .int b)] dX4_pairOf_23 rfl (by decide) rfl ?_
        refine x_iload_n F dX4_pairOf_24 rfl 0 rfl ?_
        refine x_if_eq F 36 dX4_pairOf_25 (by decide) (fun h25 => ?_) (fun h25 => ?_)
        · refine x_iconst F (v := -1) dX4_pairOf_36 (by decide) ?_
          rw [hQ]
          exact x_iret F hr hlk ⟨by simp [pairI, isCar, *], rfl⟩ dX4_pairOf_37
        · exact False.elim (by revert h25; decide)
      · refine x_iload_n F dX4_pairOf_13 rfl 1 rfl ?_
        refine x_iconst F (v := 5) dX4_pairOf_14 (by decide) ?_
        refine x_icmp_ge F 22 dX4_pairOf_15 (by decide) (fun h15 => ?_) (fun h15 => ?_)
        · refine x_iconst F (v := 0) dX4_pairOf_22 (by decide) ?_
          refine x_istore_n F [(2, .int 0), (0, .int a), (1, .int b)] dX4_pairOf_23 rfl (by decide) rfl ?_
          refine x_iload_n F dX4_pairOf_24 rfl 0 rfl ?_
          refine x_if_eq F 36 dX4_pairOf_25 (by decide) (fun h25 => ?_) (fun h25 => ?_)
          · refine x_iconst F (v := -1) dX4_pairOf_36 (by decide) ?_
            rw [hQ]
            exact x_iret F hr hlk ⟨by simp [pairI, isCar, *], rfl⟩ dX4_pairOf_37
          · exact False.elim (by revert h25; decide)
        · refine x_iconst F (v := 1) dX4_pairOf_18 (by decide) ?_
          refine x_goto F 23 dX4_pairOf_19 (by decide) ?_
          refine x_istore_n F [(2, .int 1), (0, .int a), (1, .int b)] dX4_pairOf_23 rfl (by decide) rfl ?_
          refine x_iload_n F dX4_pairOf_24 rfl 0 rfl ?_
          refine x_if_eq F 36 dX4_pairOf_25 (by decide) (fun h25 => ?_) (fun h25 => ?_)
          · exact False.elim (by revert h25; decide)
          · refine x_iload_n F dX4_pairOf_28 rfl 1 rfl ?_
            refine x_iconst F (v := 5) dX4_pairOf_29 (by decide) ?_
            refine x_imul F dX4_pairOf_30 ?_
            refine x_iload_n F dX4_pairOf_31 rfl 2 rfl ?_
            refine x_iadd F dX4_pairOf_32 ?_
            refine x_goto F 37 dX4_pairOf_33 (by decide) ?_
            rw [hQ]
            exact x_iret F hr hlk ⟨by simp [pairI, isCar, *], rfl⟩ dX4_pairOf_37
