set_option maxHeartbeats 4000000 in
set_option maxRecDepth 100000 in
/-- balance -/
theorem c_X4_balance (l : Launch) (D : va_G) (cy : Nat → ClassId) (lo : Nat) (R : List Nat) (ad : Nat → Nat) (q : Nat → Nat → Nat) (ns nt : Nat) (I : Nat → Nat → Int32) (J : Nat → Nat → Int64) (hL : k_RL R ns nt) (hfl : l.stackTraces = false) (a : Int32) : k_Xi l yX4_balance cX4_balance 2 (some .int) 7 108 1 6 D cy lo R ad (k_c cy ad q ns nt I J) [.ref (ad 0), .int a] (isN ns a = true) (fun E => E = e_IO ∧ isN ns a = false) (I (40 + 2 * a.toNatClampNeg) 2) (k_c cy ad q ns nt I J) := by
  refine k_metXQ (by decide +kernel) (Nat.le_of_ble_eq_true rfl) ?_
  intro p e s m args below meth c Q F hr hlk ht hQ
  have hR := hL.1
  refine x_aload_n F dX4_balance_0 rfl 0 rfl ?_
  refine x_iload_n F dX4_balance_1 rfl 1 rfl ?_
  refine z_callVqx F [.int a] (c_X4_subscriberOf l D cy lo R ad q ns nt I J hL hfl a ) mc_X4_subscriberOf mv_X4_subscriberOf lk_X4_92 (hL.1 0 (by decide)) sc_0 rfl rfl rfl dX4_balance_2 ⟨Nat.le_of_ble_eq_true rfl, Nat.le_of_ble_eq_true rfl⟩ ⟨Nat.le_of_ble_eq_true rfl, Nat.le_of_ble_eq_true rfl⟩ (Nat.le_of_ble_eq_true rfl) (fun E hE2 => ?_) (fun ok2 => ?_)
  · rw [hQ]
    exact x_out F ht hlk ⟨hE2, rfl⟩ (by decide) (by decide)
  · refine g_X4_116 F (hL.2.1 _ (isN_lt ok2)).1 (sc_sub (sub_rng (isN_lt ok2) hL)) rfl dX4_balance_5 ?_
    rw [hQ]
    refine x_widen (k := 1) (n := 6) (Nat.le_of_ble_eq_true rfl) (Nat.le_of_ble_eq_true rfl) ?_
    exact x_iretx F hr hlk ⟨‹_›, rfl, rfl⟩ dX4_balance_8
set_option maxHeartbeats 4000000 in
set_option maxRecDepth 100000 in
/-- bundle -/
theorem c_X4_bundle (l : Launch) (D : va_G) (cy : Nat → ClassId) (lo : Nat) (R : List Nat) (ad : Nat → Nat) (q : Nat → Nat → Nat) (ns nt : Nat) (I : Nat → Nat → Int32) (J : Nat → Nat → Int64) (hL : k_RL R ns nt) (hfl : l.stackTraces = false) (a : Int32) : k_Xi l yX4_bundle cX4_bundle 2 (some .int) 7 108 1 6 D cy lo R ad (k_c cy ad q ns nt I J) [.ref (ad 0), .int a] (isN ns a = true) (fun E => E = e_IO ∧ isN ns a = false) (I (40 + 2 * a.toNatClampNeg) 3) (k_c cy ad q ns nt I J) := by
  refine k_metXQ (by decide +kernel) (Nat.le_of_ble_eq_true rfl) ?_
  intro p e s m args below meth c Q F hr hlk ht hQ
  have hR := hL.1
  refine x_aload_n F dX4_bundle_0 rfl 0 rfl ?_
  refine x_iload_n F dX4_bundle_1 rfl 1 rfl ?_
  refine z_callVqx F [.int a] (c_X4_subscriberOf l D cy lo R ad q ns nt I J hL hfl a ) mc_X4_subscriberOf mv_X4_subscriberOf lk_X4_92 (hL.1 0 (by decide)) sc_0 rfl rfl rfl dX4_bundle_2 ⟨Nat.le_of_ble_eq_true rfl, Nat.le_of_ble_eq_true rfl⟩ ⟨Nat.le_of_ble_eq_true rfl, Nat.le_of_ble_eq_true rfl⟩ (Nat.le_of_ble_eq_true rfl) (fun E hE2 => ?_) (fun ok2 => ?_)
  · rw [hQ]
    exact x_out F ht hlk ⟨hE2, rfl⟩ (by decide) (by decide)
  · refine g_X4_119 F (hL.2.1 _ (isN_lt ok2)).1 (sc_sub (sub_rng (isN_lt ok2) hL)) rfl dX4_bundle_5 ?_
    rw [hQ]
    refine x_widen (k := 1) (n := 6) (Nat.le_of_ble_eq_true rfl) (Nat.le_of_ble_eq_true rfl) ?_
    exact x_iretx F hr hlk ⟨‹_›, rfl, rfl⟩ dX4_bundle_8
set_option maxHeartbeats 4000000 in
set_option maxRecDepth 100000 in
/-- state -/
theorem c_X4_state (l : Launch) (D : va_G) (cy : Nat → ClassId) (lo : Nat) (R : List Nat) (ad : Nat → Nat) (q : Nat → Nat → Nat) (ns nt : Nat) (I : Nat → Nat → Int32) (J : Nat → Nat → Int64) (hL : k_RL R ns nt) (hfl : l.stackTraces = false) (a : Int32) : k_Xi l yX4_state cX4_state 2 (some .int) 7 108 1 6 D cy lo R ad (k_c cy ad q ns nt I J) [.ref (ad 0), .int a] (isN nt a = true) (fun E => E = e_IO ∧ isN nt a = false) (I (80 + 4 * a.toNatClampNeg) 6) (k_c cy ad q ns nt I J) := by
  refine k_metXQ (by decide +kernel) (Nat.le_of_ble_eq_true rfl) ?_
  intro p e s m args below meth c Q F hr hlk ht hQ
  have hR := hL.1
  refine x_aload_n F dX4_state_0 rfl 0 rfl ?_
  refine x_iload_n F dX4_state_1 rfl 1 rfl ?_
  refine z_callVqx F [.int a] (c_X4_talkOf l D cy lo R ad q ns nt I J hL hfl a ) mc_X4_talkOf mv_X4_talkOf lk_X4_148 (hL.1 0 (by decide)) sc_0 rfl rfl rfl dX4_state_2 ⟨Nat.le_of_ble_eq_true rfl, Nat.le_of_ble_eq_true rfl⟩ ⟨Nat.le_of_ble_eq_true rfl, Nat.le_of_ble_eq_true rfl⟩ (Nat.le_of_ble_eq_true rfl) (fun E hE2 => ?_) (fun ok2 => ?_)
  · rw [hQ]
    exact x_out F ht hlk ⟨hE2, rfl⟩ (by decide) (by decide)
  · refine g_X4_152 F (hL.2.2.1 _ (isN_lt ok2)).1 (sc_tlk (tlk_rng (a.toNatClampNeg))) rfl dX4_state_5 ?_
    rw [hQ]
    refine x_widen (k := 1) (n := 6) (Nat.le_of_ble_eq_true rfl) (Nat.le_of_ble_eq_true rfl) ?_
    exact x_iretx F hr hlk ⟨‹_›, rfl, rfl⟩ dX4_state_8
set_option maxHeartbeats 4000000 in
set_option maxRecDepth 100000 in
/-- minutes -/
theorem c_X4_minutes (l : Launch) (D : va_G) (cy : Nat → ClassId) (lo : Nat) (R : List Nat) (ad : Nat → Nat) (q : Nat → Nat → Nat) (ns nt : Nat) (I : Nat → Nat → Int32) (J : Nat → Nat → Int64) (hL : k_RL R ns nt) (hfl : l.stackTraces = false) (a : Int32) : k_Xi l yX4_minutes cX4_minutes 2 (some .int) 7 108 1 6 D cy lo R ad (k_c cy ad q ns nt I J) [.ref (ad 0), .int a] (isN nt a = true) (fun E => E = e_IO ∧ isN nt a = false) (I (80 + 4 * a.toNatClampNeg) 7) (k_c cy ad q ns nt I J) := by
  refine k_metXQ (by decide +kernel) (Nat.le_of_ble_eq_true rfl) ?_
  intro p e s m args below meth c Q F hr hlk ht hQ
  have hR := hL.1
  refine x_aload_n F dX4_minutes_0 rfl 0 rfl ?_
  refine x_iload_n F dX4_minutes_1 rfl 1 rfl ?_
  refine z_callVqx F [.int a] (c_X4_talkOf l D cy lo R ad q ns nt I J hL hfl a ) mc_X4_talkOf mv_X4_talkOf lk_X4_148 (hL.1 0 (by decide)) sc_0 rfl rfl rfl dX4_minutes_2 ⟨Nat.le_of_ble_eq_true rfl, Nat.le_of_ble_eq_true rfl⟩ ⟨Nat.le_of_ble_eq_true rfl, Nat.le_of_ble_eq_true rfl⟩ (Nat.le_of_ble_eq_true rfl) (fun E hE2 => ?_) (fun ok2 => ?_)
  · rw [hQ]
    exact x_out F ht hlk ⟨hE2, rfl⟩ (by decide) (by decide)
  · refine g_X4_157 F (hL.2.2.1 _ (isN_lt ok2)).1 (sc_tlk (tlk_rng (a.toNatClampNeg))) rfl dX4_minutes_5 ?_
    rw [hQ]
    refine x_widen (k := 1) (n := 6) (Nat.le_of_ble_eq_true rfl) (Nat.le_of_ble_eq_true rfl) ?_
    exact x_iretx F hr hlk ⟨‹_›, rfl, rfl⟩ dX4_minutes_8
set_option maxHeartbeats 4000000 in
set_option maxRecDepth 100000 in
/-- moved -/
theorem c_X4_moved (l : Launch) (D : va_G) (cy : Nat → ClassId) (lo : Nat) (R : List Nat) (ad : Nat → Nat) (q : Nat → Nat → Nat) (ns nt : Nat) (I : Nat → Nat → Int32) (J : Nat → Nat → Int64) (hL : k_RL R ns nt) (hfl : l.stackTraces = false) (a : Int32) : k_Xi l yX4_moved cX4_moved 2 (some .int) 7 108 1 6 D cy lo R ad (k_c cy ad q ns nt I J) [.ref (ad 0), .int a] (isN nt a = true) (fun E => E = e_IO ∧ isN nt a = false) (I (80 + 4 * a.toNatClampNeg) 8) (k_c cy ad q ns nt I J) := by
  refine k_metXQ (by decide +kernel) (Nat.le_of_ble_eq_true rfl) ?_
  intro p e s m args below meth c Q F hr hlk ht hQ
  have hR := hL.1
  refine x_aload_n F dX4_moved_0 rfl 0 rfl ?_
  refine x_iload_n F dX4_moved_1 rfl 1 rfl ?_
  refine z_callVqx F [.int a] (c_X4_talkOf l D cy lo R ad q ns nt I J hL hfl a ) mc_X4_talkOf mv_X4_talkOf lk_X4_148 (hL.1 0 (by decide)) sc_0 rfl rfl rfl dX4_moved_2 ⟨Nat.le_of_ble_eq_true rfl, Nat.le_of_ble_eq_true rfl⟩ ⟨Nat.le_of_ble_eq_true rfl, Nat.le_of_ble_eq_true rfl⟩ (Nat.le_of_ble_eq_true rfl) (fun E hE2 => ?_) (fun ok2 => ?_)
  · rw [hQ]
    exact x_out F ht hlk ⟨hE2, rfl⟩ (by decide) (by decide)
  · refine g_X4_166 F (hL.2.2.1 _ (isN_lt ok2)).1 (sc_tlk (tlk_rng (a.toNatClampNeg))) rfl dX4_moved_5 ?_
    rw [hQ]
    refine x_widen (k := 1) (n := 6) (Nat.le_of_ble_eq_true rfl) (Nat.le_of_ble_eq_true rfl) ?_
    exact x_iretx F hr hlk ⟨‹_›, rfl, rfl⟩ dX4_moved_8
set_option maxHeartbeats 4000000 in
set_option maxRecDepth 100000 in
/-- tariff -/
theorem c_X4_tariff (l : Launch) (D : va_G) (cy : Nat → ClassId) (lo : Nat) (R : List Nat) (ad : Nat → Nat) (q : Nat → Nat → Nat) (ns nt : Nat) (I : Nat → Nat → Int32) (J : Nat → Nat → Int64) (hL : k_RL R ns nt) (hfl : l.stackTraces = false) (a : Int32) (b : Int32) (c2 : Int32) : k_Xi l yX4_tariff cX4_tariff 5 (some .int) 7 106 2 12 D cy lo R ad (k_c cy ad q ns nt I J) [.ref (ad 0), .int a, .int b, .int c2] (isCar a = true ∧ (isWi b 1 10 && isWi c2 0 1000) = true) (fun E => (E = e_IO ∧ isCar a = false) ∨ (E = e_IA ∧ isCar a = true ∧ (isWi b 1 10 && isWi c2 0 1000) = false)) (I 2 a.toNatClampNeg) (k_c cy ad q ns nt (wI (wI I 1 a.toNatClampNeg b) 2 a.toNatClampNeg c2) J) := by
  refine k_metXQ (by decide +kernel) (Nat.le_of_ble_eq_true rfl) ?_
  intro p e s m args below meth c Q F hr hlk ht hQ
  have hR := hL.1
  refine x_iload_n F dX4_tariff_0 rfl 1 rfl ?_
  refine z_callSvx F [.int a] (c_X4_demandCarrier l D cy lo R ad _ hfl a) mc_X4_demandCarrier ms_X4_demandCarrier lk_X4_48 rfl rfl dX4_tariff_1 ⟨Nat.le_of_ble_eq_true rfl, Nat.le_of_ble_eq_true rfl⟩ ⟨Nat.le_of_ble_eq_true rfl, Nat.le_of_ble_eq_true rfl⟩ (Nat.le_of_ble_eq_true rfl) (fun E hE1 => ?_) (fun ok1 => ?_)
  · rw [hQ]
    exact x_out F ht hlk ⟨Or.inl hE1, rfl⟩ (by decide) (by decide)
  · refine x_iload_n F dX4_tariff_4 rfl 2 rfl ?_
    refine x_iconst F (v := 1) dX4_tariff_5 (by decide) ?_
    refine x_bipush F (v := 10) dX4_tariff_6 (by decide) ?_
    refine z_callSi F [.int b, .int 1, .int 10] (c_X4_isWithin l D cy lo R ad _ b 1 10) mc_X4_isWithin ms_X4_isWithin lk_X4_52 rfl rfl dX4_tariff_8 ⟨Nat.le_of_ble_eq_true rfl, Nat.le_of_ble_eq_true rfl⟩ ⟨Nat.le_of_ble_eq_true rfl, Nat.le_of_ble_eq_true rfl⟩ (Nat.le_of_ble_eq_true rfl) ?_
    refine x_if_eq F 25 dX4_tariff_11 (by decide) (fun h11 => ?_) (fun h11 => ?_)
    · rw [kb0] at h11
      rw [hQ]
      exact x_throw F hfl ht hlk (by decide +kernel) ck_X4_56 ik_IA sk_X4_58 k_at_IA dX4_tariff_25 dX4_tariff_28 dX4_tariff_29 dX4_tariff_31 dX4_tariff_34 ⟨Nat.le_of_ble_eq_true rfl, Nat.le_of_ble_eq_true rfl, Nat.le_of_ble_eq_true rfl, Nat.le_of_ble_eq_true rfl⟩ ⟨Or.inr ⟨rfl, by assumption, by simp [*]⟩, rfl⟩ (by decide) (by decide)
    · rw [kb1] at h11
      refine x_iload_n F dX4_tariff_14 rfl 3 rfl ?_
      refine x_iconst F (v := 0) dX4_tariff_15 (by decide) ?_
      refine x_sipush F (v := 1000) dX4_tariff_16 (by decide) ?_
      refine z_callSi F [.int c2, .int 0, .int 1000] (c_X4_isWithin l D cy lo R ad _ c2 0 1000) mc_X4_isWithin ms_X4_isWithin lk_X4_52 rfl rfl dX4_tariff_19 ⟨Nat.le_of_ble_eq_true rfl, Nat.le_of_ble_eq_true rfl⟩ ⟨Nat.le_of_ble_eq_true rfl, Nat.le_of_ble_eq_true rfl⟩ (Nat.le_of_ble_eq_true rfl) ?_
      refine x_if_ne F 35 dX4_tariff_22 (by decide) (fun h22 => ?_) (fun h22 => ?_)
      · rw [kb1] at h22
        refine x_aload_n F dX4_tariff_35 rfl 0 rfl ?_
        refine g_X4_13 F (hL.1 0 (by decide)) sc_0 rfl dX4_tariff_36 ?_
        refine x_iload_n F dX4_tariff_39 rfl 1 rfl ?_
        refine y_iald F (hR 2 (by decide)) ss_2 (vin_car ‹_›) dX4_tariff_40 ?_
        refine x_istore F [(4, .int (I 2 a.toNatClampNeg)), (0, .ref (ad 0)), (1, .int a), (2, .int b), (3, .int c2)] dX4_tariff_41 (by decide) rfl ?_
        refine x_aload_n F dX4_tariff_43 rfl 1 rfl ?_
        refine g_X4_9 F (hL.1 0 (by decide)) sc_0 rfl dX4_tariff_44 ?_
        refine x_iload_n F dX4_tariff_47 rfl 2 rfl ?_
        refine x_iload_n F dX4_tariff_48 rfl 3 rfl ?_
        refine y_iast F (hR 1 (by decide)) ss_1 (vin_car ‹_›) dX4_tariff_49 ?_
        refine x_aload_n F dX4_tariff_50 rfl 1 rfl ?_
        refine g_X4_13 F (hL.1 0 (by decide)) sc_0 rfl dX4_tariff_51 ?_
        refine x_iload_n F dX4_tariff_54 rfl 2 rfl ?_
        refine x_iload_n F dX4_tariff_55 rfl 4 rfl ?_
        refine y_iast F (hR 2 (by decide)) ss_2 (vin_car ‹_›) dX4_tariff_56 ?_
        refine x_iload F dX4_tariff_57 0 rfl ?_
        rw [hQ]
        refine x_widen (k := 2) (n := 12) (Nat.le_of_ble_eq_true rfl) (Nat.le_of_ble_eq_true rfl) ?_
        exact x_iretx F hr hlk ⟨⟨by assumption, by simp [*]⟩, rfl, rfl⟩ dX4_tariff_59
      · rw [kb0] at h22
        rw [hQ]
        exact x_throw F hfl ht hlk (by decide +kernel) ck_X4_56 ik_IA sk_X4_58 k_at_IA dX4_tariff_25 dX4_tariff_28 dX4_tariff_29 dX4_tariff_31 dX4_tariff_34 ⟨Nat.le_of_ble_eq_true rfl, Nat.le_of_ble_eq_true rfl, Nat.le_of_ble_eq_true rfl, Nat.le_of_ble_eq_true rfl⟩ ⟨Or.inr ⟨rfl, by assumption, by simp [*]⟩, rfl⟩ (by decide) (by decide)
set_option maxHeartbeats 4000000 in
set_option maxRecDepth 100000 in
/-- link -/
theorem c_X4_link (l : Launch) (D : va_G) (cy : Nat → ClassId) (lo : Nat) (R : List Nat) (ad : Nat → Nat) (q : Nat → Nat → Nat) (ns nt : Nat) (I : Nat → Nat → Int32) (J : Nat → Nat → Int64) (hL : k_RL R ns nt) (hfl : l.stackTraces = false) (a : Int32) (b : Int32) (x : Int32) (t : Int32) : k_Xi l yX4_link cX4_link 6 (some .boolean) 7 106 3 18 D cy lo R ad (k_c cy ad q ns nt I J) [.ref (ad 0), .int a, .int b, .int x, .int t] ((isCar a && isCar b) = true ∧ (!decide (a = b) && isWi x 0 100 && isWi t 0 100000) = true) (fun E => (E = e_IO ∧ (isCar a && isCar b) = false) ∨ (E = e_IA ∧ (isCar a && isCar b) = true ∧ (!decide (a = b) && isWi x 0 100 && isWi t 0 100000) = false)) (k_b (!decide (rateF I a b = -1))) (k_c cy ad q ns nt (setLinkI I a b x t) J) := by
  refine k_metXQ (by decide +kernel) (Nat.le_of_ble_eq_true rfl) ?_
  intro p e s m args below meth c Q F hr hlk ht hQ
  have hR := hL.1
  refine x_iload_n F dX4_link_0 rfl 1 rfl ?_
  refine z_callSvx F [.int a] (c_X4_demandCarrier l D cy lo R ad _ hfl a) mc_X4_demandCarrier ms_X4_demandCarrier lk_X4_48 rfl rfl dX4_link_1 ⟨Nat.le_of_ble_eq_true rfl, Nat.le_of_ble_eq_true rfl⟩ ⟨Nat.le_of_ble_eq_true rfl, Nat.le_of_ble_eq_true rfl⟩ (Nat.le_of_ble_eq_true rfl) (fun E hE1 => ?_) (fun ok1 => ?_)
  · rw [hQ]
    exact x_out F ht hlk ⟨Or.inl ⟨hE1.1, by simp [hE1.2]⟩, rfl⟩ (by decide) (by decide)
  · refine x_iload_n F dX4_link_4 rfl 2 rfl ?_
    refine z_callSvx F [.int b] (c_X4_demandCarrier l D cy lo R ad _ hfl b) mc_X4_demandCarrier ms_X4_demandCarrier lk_X4_48 rfl rfl dX4_link_5 ⟨Nat.le_of_ble_eq_true rfl, Nat.le_of_ble_eq_true rfl⟩ ⟨Nat.le_of_ble_eq_true rfl, Nat.le_of_ble_eq_true rfl⟩ (Nat.le_of_ble_eq_true rfl) (fun E hE5 => ?_) (fun ok5 => ?_)
    · rw [hQ]
      exact x_out F ht hlk ⟨Or.inl ⟨hE5.1, by simp [hE5.2]⟩, rfl⟩ (by decide) (by decide)
    · refine x_iload_n F dX4_link_8 rfl 1 rfl ?_
      refine x_iload_n F dX4_link_9 rfl 2 rfl ?_
      refine x_icmp_eq F 34 dX4_link_10 (by decide) (fun h10 => ?_) (fun h10 => ?_)
      · rw [hQ]
        exact x_throw F hfl ht hlk (by decide +kernel) ck_X4_56 ik_IA sk_X4_64 k_at_IA dX4_link_34 dX4_link_37 dX4_link_38 dX4_link_40 dX4_link_43 ⟨Nat.le_of_ble_eq_true rfl, Nat.le_of_ble_eq_true rfl, Nat.le_of_ble_eq_true rfl, Nat.le_of_ble_eq_true rfl⟩ ⟨Or.inr ⟨rfl, by simp [*], by simp [*]⟩, rfl⟩ (by decide) (by decide)
      · refine x_iload_n F dX4_link_13 rfl 3 rfl ?_
        refine x_iconst F (v := 0) dX4_link_14 (by decide) ?_
        refine x_bipush F (v := 100) dX4_link_15 (by decide) ?_
        refine z_callSi F [.int x, .int 0, .int 100] (c_X4_isWithin l D cy lo R ad _ x 0 100) mc_X4_isWithin ms_X4_isWithin lk_X4_52 rfl rfl dX4_link_17 ⟨Nat.le_of_ble_eq_true rfl, Nat.le_of_ble_eq_true rfl⟩ ⟨Nat.le_of_ble_eq_true rfl, Nat.le_of_ble_eq_true rfl⟩ (Nat.le_of_ble_eq_true rfl) ?_
        refine x_if_eq F 34 dX4_link_20 (by decide) (fun h20 => ?_) (fun h20 => ?_)
        · rw [kb0] at h20
          rw [hQ]
          exact x_throw F hfl ht hlk (by decide +kernel) ck_X4_56 ik_IA sk_X4_64 k_at_IA dX4_link_34 dX4_link_37 dX4_link_38 dX4_link_40 dX4_link_43 ⟨Nat.le_of_ble_eq_true rfl, Nat.le_of_ble_eq_true rfl, Nat.le_of_ble_eq_true rfl, Nat.le_of_ble_eq_true rfl⟩ ⟨Or.inr ⟨rfl, by simp [*], by simp [*]⟩, rfl⟩ (by decide) (by decide)
        · rw [kb1] at h20
          refine x_iload F dX4_link_23 4 rfl ?_
          refine x_iconst F (v := 0) dX4_link_25 (by decide) ?_
          refine x_ldc F (v := 100000) dX4_link_26 201 (by decide +kernel) ?_
          refine z_callSi F [.int t, .int 0, .int 100000] (c_X4_isWithin l D cy lo R ad _ t 0 100000) mc_X4_isWithin ms_X4_isWithin lk_X4_52 rfl rfl dX4_link_28 ⟨Nat.le_of_ble_eq_true rfl, Nat.le_of_ble_eq_true rfl⟩ ⟨Nat.le_of_ble_eq_true rfl, Nat.le_of_ble_eq_true rfl⟩ (Nat.le_of_ble_eq_true rfl) ?_
          refine x_if_ne F 44 dX4_link_31 (by decide) (fun h31 => ?_) (fun h31 => ?_)
          · rw [kb1] at h31
            refine x_aload_n F dX4_link_44 rfl 0 rfl ?_
            refine g_X4_19 F (hL.1 0 (by decide)) sc_0 rfl dX4_link_45 ?_
            refine x_iload_n F dX4_link_48 rfl 1 rfl ?_
            refine x_iload_n F dX4_link_49 rfl 2 rfl ?_
            refine z_callVi F [.int a, .int b] (c_X0_rateOf l D cy lo R ad q ns nt I J hR a b ) mc_X0_rateOf mv_X0_rateOf lk_X4_66 (hR 3 (by decide)) sc_3 rfl rfl rfl dX4_link_50 ⟨Nat.le_of_ble_eq_true rfl, Nat.le_of_ble_eq_true rfl⟩ ⟨Nat.le_of_ble_eq_true rfl, Nat.le_of_ble_eq_true rfl⟩ (Nat.le_of_ble_eq_true rfl) ?_
            refine x_iconst F (v := -1) dX4_link_53 (by decide) ?_
            refine x_icmp_eq F 61 dX4_link_54 (by decide) (fun h54 => ?_) (fun h54 => ?_)
            · refine x_iconst F (v := 0) dX4_link_61 (by decide) ?_
              refine x_istore F [(5, .int 0), (0, .ref (ad 0)), (1, .int a), (2, .int b), (3, .int x), (4, .int t)] dX4_link_62 (by decide) rfl ?_
              refine x_aload_n F dX4_link_64 rfl 1 rfl ?_
              refine g_X4_19 F (hL.1 0 (by decide)) sc_0 rfl dX4_link_65 ?_
              refine x_iload_n F dX4_link_68 rfl 2 rfl ?_
              refine x_iload_n F dX4_link_69 rfl 3 rfl ?_
              refine x_iload_n F dX4_link_70 rfl 4 rfl ?_
              refine x_iload F dX4_link_71 5 rfl ?_
              refine z_callVv F [.int a, .int b, .int x, .int t] (c_X0_setLink l D cy lo R ad q ns nt I J hR a b x t ) mc_X0_setLink mv_X0_setLink lk_X4_70 (hR 3 (by decide)) sc_3 rfl rfl rfl dX4_link_73 ⟨Nat.le_of_ble_eq_true rfl, Nat.le_of_ble_eq_true rfl⟩ ⟨Nat.le_of_ble_eq_true rfl, Nat.le_of_ble_eq_true rfl⟩ (Nat.le_of_ble_eq_true rfl) ?_
              refine x_iload F dX4_link_76 0 rfl ?_
              rw [hQ]
              refine x_widen (k := 3) (n := 18) (Nat.le_of_ble_eq_true rfl) (Nat.le_of_ble_eq_true rfl) ?_
              exact x_zretx F hr hlk (by decide) ⟨⟨by simp [*], by simp [*]⟩, by simp [k_b, *], rfl⟩ dX4_link_78
            · refine x_iconst F (v := 1) dX4_link_57 (by decide) ?_
              refine x_goto F 62 dX4_link_58 (by decide) ?_
              refine x_istore F [(5, .int 1), (0, .ref (ad 0)), (1, .int a), (2, .int b), (3, .int x), (4, .int t)] dX4_link_62 (by decide) rfl ?_
              refine x_aload_n F dX4_link_64 rfl 1 rfl ?_
              refine g_X4_19 F (hL.1 0 (by decide)) sc_0 rfl dX4_link_65 ?_
              refine x_iload_n F dX4_link_68 rfl 2 rfl ?_
              refine x_iload_n F dX4_link_69 rfl 3 rfl ?_
              refine x_iload_n F dX4_link_70 rfl 4 rfl ?_
              refine x_iload F dX4_link_71 5 rfl ?_
              refine z_callVv F [.int a, .int b, .int x, .int t] (c_X0_setLink l D cy lo R ad q ns nt I J hR a b x t ) mc_X0_setLink mv_X0_setLink lk_X4_70 (hR 3 (by decide)) sc_3 rfl rfl rfl dX4_link_73 ⟨Nat.le_of_ble_eq_true rfl, Nat.le_of_ble_eq_true rfl⟩ ⟨Nat.le_of_ble_eq_true rfl, Nat.le_of_ble_eq_true rfl⟩ (Nat.le_of_ble_eq_true rfl) ?_
              refine x_iload F dX4_link_76 0 rfl ?_
              rw [hQ]
              refine x_widen (k := 3) (n := 18) (Nat.le_of_ble_eq_true rfl) (Nat.le_of_ble_eq_true rfl) ?_
              exact x_zretx F hr hlk (by decide) ⟨⟨by simp [*], by simp [*]⟩, by simp [k_b, *], rfl⟩ dX4_link_78
          · rw [kb0] at h31
            rw [hQ]
            exact x_throw F hfl ht hlk (by decide +kernel) ck_X4_56 ik_IA sk_X4_64 k_at_IA dX4_link_34 dX4_link_37 dX4_link_38 dX4_link_40 dX4_link_43 ⟨Nat.le_of_ble_eq_true rfl, Nat.le_of_ble_eq_true rfl, Nat.le_of_ble_eq_true rfl, Nat.le_of_ble_eq_true rfl⟩ ⟨Or.inr ⟨rfl, by simp [*], by simp [*]⟩, rfl⟩ (by decide) (by decide)
set_option maxHeartbeats 4000000 in
set_option maxRecDepth 100000 in
/-- unlink -/
theorem c_X4_unlink (l : Launch) (D : va_G) (cy : Nat → ClassId) (lo : Nat) (R : List Nat) (ad : Nat → Nat) (q : Nat → Nat → Nat) (ns nt : Nat) (I : Nat → Nat → Int32) (J : Nat → Nat → Int64) (hL : k_RL R ns nt) (hfl : l.stackTraces = false) (a : Int32) (b : Int32) : k_Xi l yX4_unlink cX4_unlink 4 (some .int) 7 106 3 18 D cy lo R ad (k_c cy ad q ns nt I J) [.ref (ad 0), .int a, .int b] ((isCar a && isCar b) = true ∧ ¬ rateF I a b = -1) (fun E => (E = e_IO ∧ (isCar a && isCar b) = false) ∨ (E = e_IS ∧ (isCar a && isCar b) = true ∧ rateF I a b = -1)) (rateF I a b) (k_c cy ad q ns nt (setLinkI I a b (-1) 0) J) := by
  refine k_metXQ (by decide +kernel) (Nat.le_of_ble_eq_true rfl) ?_
  intro p e s m args below meth c Q F hr hlk ht hQ
  have hR := hL.1
  refine x_iload_n F dX4_unlink_0 rfl 1 rfl ?_
  refine z_callSvx F [.int a] (c_X4_demandCarrier l D cy lo R ad _ hfl a) mc_X4_demandCarrier ms_X4_demandCarrier lk_X4_48 rfl rfl dX4_unlink_1 ⟨Nat.le_of_ble_eq_true rfl, Nat.le_of_ble_eq_true rfl⟩ ⟨Nat.le_of_ble_eq_true rfl, Nat.le_of_ble_eq_true rfl⟩ (Nat.le_of_ble_eq_true rfl) (fun E hE1 => ?_) (fun ok1 => ?_)
  · rw [hQ]
    exact x_out F ht hlk ⟨Or.inl ⟨hE1.1, by simp [hE1.2]⟩, rfl⟩ (by decide) (by decide)
  · refine x_iload_n F dX4_unlink_4 rfl 2 rfl ?_
    refine z_callSvx F [.int b] (c_X4_demandCarrier l D cy lo R ad _ hfl b) mc_X4_demandCarrier ms_X4_demandCarrier lk_X4_48 rfl rfl dX4_unlink_5 ⟨Nat.le_of_ble_eq_true rfl, Nat.le_of_ble_eq_true rfl⟩ ⟨Nat.le_of_ble_eq_true rfl, Nat.le_of_ble_eq_true rfl⟩ (Nat.le_of_ble_eq_true rfl) (fun E hE5 => ?_) (fun ok5 => ?_)
    · rw [hQ]
      exact x_out F ht hlk ⟨Or.inl ⟨hE5.1, by simp [hE5.2]⟩, rfl⟩ (by decide) (by decide)
    · refine x_aload_n F dX4_unlink_8 rfl 0 rfl ?_
      refine g_X4_19 F (hL.1 0 (by decide)) sc_0 rfl dX4_unlink_9 ?_
      refine x_iload_n F dX4_unlink_12 rfl 1 rfl ?_
      refine x_iload_n F dX4_unlink_13 rfl 2 rfl ?_
      refine z_callVi F [.int a, .int b] (c_X0_rateOf l D cy lo R ad q ns nt I J hR a b ) mc_X0_rateOf mv_X0_rateOf lk_X4_66 (hR 3 (by decide)) sc_3 rfl rfl rfl dX4_unlink_14 ⟨Nat.le_of_ble_eq_true rfl, Nat.le_of_ble_eq_true rfl⟩ ⟨Nat.le_of_ble_eq_true rfl, Nat.le_of_ble_eq_true rfl⟩ (Nat.le_of_ble_eq_true rfl) ?_
      refine x_istore_n F [(3, .int (rateF I a b)), (0, .ref (ad 0)), (1, .int a), (2, .int b)] dX4_unlink_17 rfl (by decide) rfl ?_
      refine x_iload_n F dX4_unlink_18 rfl 0 rfl ?_
      refine x_iconst F (v := -1) dX4_unlink_19 (by decide) ?_
      refine x_icmp_ne F 33 dX4_unlink_20 (by decide) (fun h20 => ?_) (fun h20 => ?_)
      · refine x_aload_n F dX4_unlink_33 rfl 1 rfl ?_
        refine g_X4_19 F (hL.1 0 (by decide)) sc_0 rfl dX4_unlink_34 ?_
        refine x_iload_n F dX4_unlink_37 rfl 2 rfl ?_
        refine x_iload_n F dX4_unlink_38 rfl 3 rfl ?_
        refine x_iconst F (v := -1) dX4_unlink_39 (by decide) ?_
        refine x_iconst F (v := 0) dX4_unlink_40 (by decide) ?_
        refine z_callVv F [.int a, .int b, .int (-1), .int 0] (c_X0_setLink l D cy lo R ad q ns nt I J hR a b (-1) 0 ) mc_X0_setLink mv_X0_setLink lk_X4_70 (hR 3 (by decide)) sc_3 rfl rfl rfl dX4_unlink_41 ⟨Nat.le_of_ble_eq_true rfl, Nat.le_of_ble_eq_true rfl⟩ ⟨Nat.le_of_ble_eq_true rfl, Nat.le_of_ble_eq_true rfl⟩ (Nat.le_of_ble_eq_true rfl) ?_
        refine x_iload_n F dX4_unlink_44 rfl 0 rfl ?_
        rw [hQ]
        refine x_widen (k := 3) (n := 18) (Nat.le_of_ble_eq_true rfl) (Nat.le_of_ble_eq_true rfl) ?_
        exact x_iretx F hr hlk ⟨⟨by simp [*], by assumption⟩, rfl, rfl⟩ dX4_unlink_45
      · rw [hQ]
        exact x_throw F hfl ht hlk (by decide +kernel) ck_X4_74 ik_IS sk_X4_76 k_at_IS dX4_unlink_23 dX4_unlink_26 dX4_unlink_27 dX4_unlink_29 dX4_unlink_32 ⟨Nat.le_of_ble_eq_true rfl, Nat.le_of_ble_eq_true rfl, Nat.le_of_ble_eq_true rfl, Nat.le_of_ble_eq_true rfl⟩ ⟨Or.inr ⟨rfl, by simp [*], by assumption⟩, rfl⟩ (by decide) (by decide)
set_option maxHeartbeats 4000000 in
set_option maxRecDepth 100000 in
/-- isBarred -/
theorem c_X4_isBarred (l : Launch) (D : va_G) (cy : Nat → ClassId) (lo : Nat) (R : List Nat) (ad : Nat → Nat) (q : Nat → Nat → Nat) (ns nt : Nat) (I : Nat → Nat → Int32) (J : Nat → Nat → Int64) (hL : k_RL R ns nt) (hfl : l.stackTraces = false) (a : Int32) (b : Int32) : k_Xi l yX4_isBarred cX4_isBarred 3 (some .boolean) 7 106 2 12 D cy lo R ad (k_c cy ad q ns nt I J) [.ref (ad 0), .int a, .int b] ((isCar a && isCar b) = true) (fun E => E = e_IO ∧ (isCar a && isCar b) = false) (k_b (!openF I J a b)) (k_c cy ad q ns nt I J) := by
  refine k_metXQ (by decide +kernel) (Nat.le_of_ble_eq_true rfl) ?_
  intro p e s m args below meth c Q F hr hlk ht hQ
  have hR := hL.1
  refine x_iload_n F dX4_isBarred_0 rfl 1 rfl ?_
  refine z_callSvx F [.int a] (c_X4_demandCarrier l D cy lo R ad _ hfl a) mc_X4_demandCarrier ms_X4_demandCarrier lk_X4_48 rfl rfl dX4_isBarred_1 ⟨Nat.le_of_ble_eq_true rfl, Nat.le_of_ble_eq_true rfl⟩ ⟨Nat.le_of_ble_eq_true rfl, Nat.le_of_ble_eq_true rfl⟩ (Nat.le_of_ble_eq_true rfl) (fun E hE1 => ?_) (fun ok1 => ?_)
  · rw [hQ]
    exact x_out F ht hlk ⟨⟨hE1.1, by simp [hE1.2]⟩, rfl⟩ (by decide) (by decide)
  · refine x_iload_n F dX4_isBarred_4 rfl 2 rfl ?_
    refine z_callSvx F [.int b] (c_X4_demandCarrier l D cy lo R ad _ hfl b) mc_X4_demandCarrier ms_X4_demandCarrier lk_X4_48 rfl rfl dX4_isBarred_5 ⟨Nat.le_of_ble_eq_true rfl, Nat.le_of_ble_eq_true rfl⟩ ⟨Nat.le_of_ble_eq_true rfl, Nat.le_of_ble_eq_true rfl⟩ (Nat.le_of_ble_eq_true rfl) (fun E hE5 => ?_) (fun ok5 => ?_)
    · rw [hQ]
      exact x_out F ht hlk ⟨⟨hE5.1, by simp [hE5.2]⟩, rfl⟩ (by decide) (by decide)
    · refine x_aload_n F dX4_isBarred_8 rfl 0 rfl ?_
      refine g_X4_19 F (hL.1 0 (by decide)) sc_0 rfl dX4_isBarred_9 ?_
      refine x_iload_n F dX4_isBarred_12 rfl 1 rfl ?_
      refine x_iload_n F dX4_isBarred_13 rfl 2 rfl ?_
      refine z_callVi F [.int a, .int b] (c_X0_isOpen l D cy lo R ad q ns nt I J hR a b ) mc_X0_isOpen mv_X0_isOpen lk_X4_183 (hR 3 (by decide)) sc_3 rfl rfl rfl dX4_isBarred_14 ⟨Nat.le_of_ble_eq_true rfl, Nat.le_of_ble_eq_true rfl⟩ ⟨Nat.le_of_ble_eq_true rfl, Nat.le_of_ble_eq_true rfl⟩ (Nat.le_of_ble_eq_true rfl) ?_
      refine x_if_ne F 24 dX4_isBarred_17 (by decide) (fun h17 => ?_) (fun h17 => ?_)
      · rw [kb1] at h17
        refine x_iconst F (v := 0) dX4_isBarred_24 (by decide) ?_
        rw [hQ]
        refine x_widen (k := 2) (n := 12) (Nat.le_of_ble_eq_true rfl) (Nat.le_of_ble_eq_true rfl) ?_
        exact x_zretx F hr hlk (by decide) ⟨by simp [*], by simp [k_b, *], rfl⟩ dX4_isBarred_25
      · rw [kb0] at h17
        refine x_iconst F (v := 1) dX4_isBarred_20 (by decide) ?_
        refine x_goto F 25 dX4_isBarred_21 (by decide) ?_
        rw [hQ]
        refine x_widen (k := 2) (n := 12) (Nat.le_of_ble_eq_true rfl) (Nat.le_of_ble_eq_true rfl) ?_
        exact x_zretx F hr hlk (by decide) ⟨by simp [*], by simp [k_b, *], rfl⟩ dX4_isBarred_25
set_option maxHeartbeats 4000000 in
set_option maxRecDepth 100000 in
/-- debt -/
theorem c_X4_debt (l : Launch) (D : va_G) (cy : Nat → ClassId) (lo : Nat) (R : List Nat) (ad : Nat → Nat) (q : Nat → Nat → Nat) (ns nt : Nat) (I : Nat → Nat → Int32) (J : Nat → Nat → Int64) (hL : k_RL R ns nt) (hfl : l.stackTraces = false) (a : Int32) (b : Int32) : k_Xl l yX4_debt cX4_debt 3 (some .long) 7 106 2 12 D cy lo R ad (k_c cy ad q ns nt I J) [.ref (ad 0), .int a, .int b] ((isCar a && isCar b) = true) (fun E => E = e_IO ∧ (isCar a && isCar b) = false) (debtF J a b) (k_c cy ad q ns nt I J) := by
  refine k_metXQ (by decide +kernel) (Nat.le_of_ble_eq_true rfl) ?_
  intro p e s m args below meth c Q F hr hlk ht hQ
  have hR := hL.1
  refine x_iload_n F dX4_debt_0 rfl 1 rfl ?_
  refine z_callSvx F [.int a] (c_X4_demandCarrier l D cy lo R ad _ hfl a) mc_X4_demandCarrier ms_X4_demandCarrier lk_X4_48 rfl rfl dX4_debt_1 ⟨Nat.le_of_ble_eq_true rfl, Nat.le_of_ble_eq_true rfl⟩ ⟨Nat.le_of_ble_eq_true rfl, Nat.le_of_ble_eq_true rfl⟩ (Nat.le_of_ble_eq_true rfl) (fun E hE1 => ?_) (fun ok1 => ?_)
  · rw [hQ]
    exact x_out F ht hlk ⟨⟨hE1.1, by simp [hE1.2]⟩, rfl⟩ (by decide) (by decide)
  · refine x_iload_n F dX4_debt_4 rfl 2 rfl ?_
    refine z_callSvx F [.int b] (c_X4_demandCarrier l D cy lo R ad _ hfl b) mc_X4_demandCarrier ms_X4_demandCarrier lk_X4_48 rfl rfl dX4_debt_5 ⟨Nat.le_of_ble_eq_true rfl, Nat.le_of_ble_eq_true rfl⟩ ⟨Nat.le_of_ble_eq_true rfl, Nat.le_of_ble_eq_true rfl⟩ (Nat.le_of_ble_eq_true rfl) (fun E hE5 => ?_) (fun ok5 => ?_)
    · rw [hQ]
      exact x_out F ht hlk ⟨⟨hE5.1, by simp [hE5.2]⟩, rfl⟩ (by decide) (by decide)
    · refine x_aload_n F dX4_debt_8 rfl 0 rfl ?_
      refine g_X4_19 F (hL.1 0 (by decide)) sc_0 rfl dX4_debt_9 ?_
      refine x_iload_n F dX4_debt_12 rfl 1 rfl ?_
      refine x_iload_n F dX4_debt_13 rfl 2 rfl ?_
      refine z_callVl F [.int a, .int b] (c_X0_debtOf l D cy lo R ad q ns nt I J hR a b ) mc_X0_debtOf mv_X0_debtOf lk_X4_187 (hR 3 (by decide)) sc_3 rfl rfl rfl dX4_debt_14 ⟨Nat.le_of_ble_eq_true rfl, Nat.le_of_ble_eq_true rfl⟩ ⟨Nat.le_of_ble_eq_true rfl, Nat.le_of_ble_eq_true rfl⟩ (Nat.le_of_ble_eq_true rfl) ?_
      rw [hQ]
      refine x_widen (k := 2) (n := 12) (Nat.le_of_ble_eq_true rfl) (Nat.le_of_ble_eq_true rfl) ?_
      exact x_lretx F hr hlk ⟨by simp [*], rfl, rfl⟩ dX4_debt_17
set_option maxHeartbeats 4000000 in
set_option maxRecDepth 100000 in
/-- settle -/
theorem c_X4_settle (l : Launch) (D : va_G) (cy : Nat → ClassId) (lo : Nat) (R : List Nat) (ad : Nat → Nat) (q : Nat → Nat → Nat) (ns nt : Nat) (I : Nat → Nat → Int32) (J : Nat → Nat → Int64) (hL : k_RL R ns nt) (hfl : l.stackTraces = false) (a : Int32) (b : Int32) : k_Xl l yX4_settle cX4_settle 5 (some .long) 7 106 3 18 D cy lo R ad (k_c cy ad q ns nt I J) [.ref (ad 0), .int a, .int b] ((isCar a && isCar b) = true ∧ 0 < debtF J a b) (fun E => (E = e_IO ∧ (isCar a && isCar b) = false) ∨ (E = e_IS ∧ (isCar a && isCar b) = true ∧ ¬ 0 < debtF J a b)) (debtF J a b) (k_c cy ad q ns nt I (addDebtJ J a b (-debtF J a b))) := by
  refine k_metXQ (by decide +kernel) (Nat.le_of_ble_eq_true rfl) ?_
  intro p e s m args below meth c Q F hr hlk ht hQ
  have hR := hL.1
  refine x_iload_n F dX4_settle_0 rfl 1 rfl ?_
  refine z_callSvx F [.int a] (c_X4_demandCarrier l D cy lo R ad _ hfl a) mc_X4_demandCarrier ms_X4_demandCarrier lk_X4_48 rfl rfl dX4_settle_1 ⟨Nat.le_of_ble_eq_true rfl, Nat.le_of_ble_eq_true rfl⟩ ⟨Nat.le_of_ble_eq_true rfl, Nat.le_of_ble_eq_true rfl⟩ (Nat.le_of_ble_eq_true rfl) (fun E hE1 => ?_) (fun ok1 => ?_)
  · rw [hQ]
    exact x_out F ht hlk ⟨Or.inl ⟨hE1.1, by simp [hE1.2]⟩, rfl⟩ (by decide) (by decide)
  · refine x_iload_n F dX4_settle_4 rfl 2 rfl ?_
    refine z_callSvx F [.int b] (c_X4_demandCarrier l D cy lo R ad _ hfl b) mc_X4_demandCarrier ms_X4_demandCarrier lk_X4_48 rfl rfl dX4_settle_5 ⟨Nat.le_of_ble_eq_true rfl, Nat.le_of_ble_eq_true rfl⟩ ⟨Nat.le_of_ble_eq_true rfl, Nat.le_of_ble_eq_true rfl⟩ (Nat.le_of_ble_eq_true rfl) (fun E hE5 => ?_) (fun ok5 => ?_)
    · rw [hQ]
      exact x_out F ht hlk ⟨Or.inl ⟨hE5.1, by simp [hE5.2]⟩, rfl⟩ (by decide) (by decide)
    · refine x_aload_n F dX4_settle_8 rfl 0 rfl ?_
      refine g_X4_19 F (hL.1 0 (by decide)) sc_0 rfl dX4_settle_9 ?_
      refine x_iload_n F dX4_settle_12 rfl 1 rfl ?_
      refine x_iload_n F dX4_settle_13 rfl 2 rfl ?_
      refine z_callVl F [.int a, .int b] (c_X0_debtOf l D cy lo R ad q ns nt I J hR a b ) mc_X0_debtOf mv_X0_debtOf lk_X4_187 (hR 3 (by decide)) sc_3 rfl rfl rfl dX4_settle_14 ⟨Nat.le_of_ble_eq_true rfl, Nat.le_of_ble_eq_true rfl⟩ ⟨Nat.le_of_ble_eq_true rfl, Nat.le_of_ble_eq_true rfl⟩ (Nat.le_of_ble_eq_true rfl) ?_
      refine x_lstore_n F [(3, .long (debtF J a b)), (0, .ref (ad 0)), (1, .int a), (2, .int b)] dX4_settle_17 rfl (by decide) rfl ?_
      refine x_lload_n F dX4_settle_18 rfl 0 rfl ?_
      refine x_lconst F (v := 0) dX4_settle_19 (by decide) ?_
      refine x_lcmp F dX4_settle_20 ?_
      refine x_if_gt F 34 dX4_settle_21 (by decide) (fun h21 => ?_) (fun h21 => ?_)
      · rw [lg_cmp_gt] at h21
        refine x_aload_n F dX4_settle_34 rfl 1 rfl ?_
        refine g_X4_19 F (hL.1 0 (by decide)) sc_0 rfl dX4_settle_35 ?_
        refine x_iload_n F dX4_settle_38 rfl 2 rfl ?_
        refine x_iload_n F dX4_settle_39 rfl 3 rfl ?_
        refine x_lload_n F dX4_settle_40 rfl 0 rfl ?_
        refine x_lneg F dX4_settle_41 ?_
        refine z_callVv F [.int a, .int b, .long (-(debtF J a b))] (c_X0_addDebt l D cy lo R ad q ns nt I J hR a b (-(debtF J a b)) ) mc_X0_addDebt mv_X0_addDebt lk_X4_200 (hR 3 (by decide)) sc_3 rfl rfl rfl dX4_settle_42 ⟨Nat.le_of_ble_eq_true rfl, Nat.le_of_ble_eq_true rfl⟩ ⟨Nat.le_of_ble_eq_true rfl, Nat.le_of_ble_eq_true rfl⟩ (Nat.le_of_ble_eq_true rfl) ?_
        refine x_lload_n F dX4_settle_45 rfl 0 rfl ?_
        rw [hQ]
        refine x_widen (k := 3) (n := 18) (Nat.le_of_ble_eq_true rfl) (Nat.le_of_ble_eq_true rfl) ?_
        exact x_lretx F hr hlk ⟨⟨by simp [*], by assumption⟩, rfl, rfl⟩ dX4_settle_46
      · rw [lg_cmp_gt] at h21
        rw [hQ]
        exact x_throw F hfl ht hlk (by decide +kernel) ck_X4_74 ik_IS sk_X4_198 k_at_IS dX4_settle_24 dX4_settle_27 dX4_settle_28 dX4_settle_30 dX4_settle_33 ⟨Nat.le_of_ble_eq_true rfl, Nat.le_of_ble_eq_true rfl, Nat.le_of_ble_eq_true rfl, Nat.le_of_ble_eq_true rfl⟩ ⟨Or.inr ⟨rfl, by simp [*], by assumption⟩, rfl⟩ (by decide) (by decide)
set_option maxHeartbeats 4000000 in
set_option maxRecDepth 100000 in
/-- hangUp -/
theorem c_X4_hangUp (l : Launch) (D : va_G) (cy : Nat → ClassId) (lo : Nat) (R : List Nat) (ad : Nat → Nat) (q : Nat → Nat → Nat) (ns nt : Nat) (I : Nat → Nat → Int32) (J : Nat → Nat → Int64) (hL : k_RL R ns nt) (hfl : l.stackTraces = false) (a : Int32) : k_Xi l yX4_hangUp cX4_hangUp 3 (some .int) 7 108 2 12 D cy lo R ad (k_c cy ad q ns nt I J) [.ref (ad 0), .int a] (isN nt a = true ∧ I (80 + 4 * a.toNatClampNeg) 6 = 0) (fun E => (E = e_IO ∧ isN nt a = false) ∨ (E = e_IS ∧ isN nt a = true ∧ ¬ I (80 + 4 * a.toNatClampNeg) 6 = 0)) (I (80 + 4 * a.toNatClampNeg) 7) (k_c cy ad q ns nt (wI I (80 + 4 * a.toNatClampNeg) 6 1) J) := by
  refine k_metXQ (by decide +kernel) (Nat.le_of_ble_eq_true rfl) ?_
  intro p e s m args below meth c Q F hr hlk ht hQ
  have hR := hL.1
  refine x_aload_n F dX4_hangUp_0 rfl 0 rfl ?_
  refine x_iload_n F dX4_hangUp_1 rfl 1 rfl ?_
  refine z_callVqx F [.int a] (c_X4_talkOf l D cy lo R ad q ns nt I J hL hfl a ) mc_X4_talkOf mv_X4_talkOf lk_X4_148 (hL.1 0 (by decide)) sc_0 rfl rfl rfl dX4_hangUp_2 ⟨Nat.le_of_ble_eq_true rfl, Nat.le_of_ble_eq_true rfl⟩ ⟨Nat.le_of_ble_eq_true rfl, Nat.le_of_ble_eq_true rfl⟩ (Nat.le_of_ble_eq_true rfl) (fun E hE2 => ?_) (fun ok2 => ?_)
  · rw [hQ]
    exact x_out F ht hlk ⟨Or.inl hE2, rfl⟩ (by decide) (by decide)
  · refine x_astore_n F [(2, .ref (ad (80 + 4 * a.toNatClampNeg))), (0, .ref (ad 0)), (1, .int a)] dX4_hangUp_5 rfl (by decide) rfl ?_
    refine x_aload_n F dX4_hangUp_6 rfl 0 rfl ?_
    refine g_X4_152 F (hL.2.2.1 _ (isN_lt ok2)).1 (sc_tlk (tlk_rng (a.toNatClampNeg))) rfl dX4_hangUp_7 ?_
    refine x_if_eq F 23 dX4_hangUp_10 (by decide) (fun h10 => ?_) (fun h10 => ?_)
    · refine x_aload_n F dX4_hangUp_23 rfl 0 rfl ?_
      refine x_iconst F (v := 1) dX4_hangUp_24 (by decide) ?_
      refine p_X4_152 F (hL.2.2.1 _ (isN_lt ok2)).1 (ss_tlk (tlk_rng (a.toNatClampNeg))) dX4_hangUp_25 ?_
      refine x_aload_n F dX4_hangUp_28 rfl 0 rfl ?_
      refine g_X4_157 F (hL.2.2.1 _ (isN_lt ok2)).1 (sc_tlk (tlk_rng (a.toNatClampNeg))) rfl dX4_hangUp_29 ?_
      refine x_cast (y := (I (80 + 4 * a.toNatClampNeg) 7)) (by first | rfl | simp [wI_eq]) ?_
      rw [hQ]
      refine x_widen (k := 2) (n := 12) (Nat.le_of_ble_eq_true rfl) (Nat.le_of_ble_eq_true rfl) ?_
      exact x_iretx F hr hlk ⟨⟨by assumption, by assumption⟩, rfl, rfl⟩ dX4_hangUp_32
    · rw [hQ]
      exact x_throw F hfl ht hlk (by decide +kernel) ck_X4_74 ik_IS sk_X4_155 k_at_IS dX4_hangUp_13 dX4_hangUp_16 dX4_hangUp_17 dX4_hangUp_19 dX4_hangUp_22 ⟨Nat.le_of_ble_eq_true rfl, Nat.le_of_ble_eq_true rfl, Nat.le_of_ble_eq_true rfl, Nat.le_of_ble_eq_true rfl⟩ ⟨Or.inr ⟨rfl, by assumption, by assumption⟩, rfl⟩ (by decide) (by decide)
set_option maxHeartbeats 4000000 in
set_option maxRecDepth 100000 in
/-- home -/
theorem c_X4_home (l : Launch) (D : va_G) (cy : Nat → ClassId) (lo : Nat) (R : List Nat) (ad : Nat → Nat) (q : Nat → Nat → Nat) (ns nt : Nat) (I : Nat → Nat → Int32) (J : Nat → Nat → Int64) (hL : k_RL R ns nt) (hfl : l.stackTraces = false) (a : Int32) (b : Int32) : k_Xi l yX4_home cX4_home 4 (some .int) 7 108 2 12 D cy lo R ad (k_c cy ad q ns nt I J) [.ref (ad 0), .int a, .int b] (isN ns a = true ∧ ¬ homeF I (40 + 2 * a.toNatClampNeg) b = -1) (fun E => E = e_IO ∧ (isN ns a = false ∨ homeF I (40 + 2 * a.toNatClampNeg) b = -1)) (homeF I (40 + 2 * a.toNatClampNeg) b) (k_c cy ad q ns nt I J) := by
  refine k_metXQ (by decide +kernel) (Nat.le_of_ble_eq_true rfl) ?_
  intro p e s m args below meth c Q F hr hlk ht hQ
  have hR := hL.1
  refine x_aload_n F dX4_home_0 rfl 0 rfl ?_
  refine x_iload_n F dX4_home_1 rfl 1 rfl ?_
  refine z_callVqx F [.int a] (c_X4_subscriberOf l D cy lo R ad q ns nt I J hL hfl a ) mc_X4_subscriberOf mv_X4_subscriberOf lk_X4_92 (hL.1 0 (by decide)) sc_0 rfl rfl rfl dX4_home_2 ⟨Nat.le_of_ble_eq_true rfl, Nat.le_of_ble_eq_true rfl⟩ ⟨Nat.le_of_ble_eq_true rfl, Nat.le_of_ble_eq_true rfl⟩ (Nat.le_of_ble_eq_true rfl) (fun E hE2 => ?_) (fun ok2 => ?_)
  · rw [hQ]
    exact x_out F ht hlk ⟨⟨hE2.1, Or.inl hE2.2⟩, rfl⟩ (by decide) (by decide)
  · refine x_iload_n F dX4_home_5 rfl 2 rfl ?_
    refine z_callVi F [.int b] (c_X2_homeAt l D cy lo R ad q ns nt I J hR (40 + 2 * a.toNatClampNeg) b (sub_rng (isN_lt ok2) hL) ((hL.2.1 _ (isN_lt ok2)).1) ((hL.2.1 _ (isN_lt ok2)).2)) mc_X2_homeAt mv_X2_homeAt lk_X4_96 (hL.2.1 _ (isN_lt ok2)).1 (sc_sub (sub_rng (isN_lt ok2) hL)) rfl rfl rfl dX4_home_6 ⟨Nat.le_of_ble_eq_true rfl, Nat.le_of_ble_eq_true rfl⟩ ⟨Nat.le_of_ble_eq_true rfl, Nat.le_of_ble_eq_true rfl⟩ (Nat.le_of_ble_eq_true rfl) ?_
    refine x_istore_n F [(3, .int (homeF I (40 + 2 * a.toNatClampNeg) b)), (0, .ref (ad 0)), (1, .int a), (2, .int b)] dX4_home_9 rfl (by decide) rfl ?_
    refine x_iload_n F dX4_home_10 rfl 0 rfl ?_
    refine x_iconst F (v := -1) dX4_home_11 (by decide) ?_
    refine x_icmp_ne F 25 dX4_home_12 (by decide) (fun h12 => ?_) (fun h12 => ?_)
    · refine x_iload_n F dX4_home_25 rfl 0 rfl ?_
      rw [hQ]
      refine x_widen (k := 2) (n := 12) (Nat.le_of_ble_eq_true rfl) (Nat.le_of_ble_eq_true rfl) ?_
      exact x_iretx F hr hlk ⟨⟨by assumption, by assumption⟩, rfl, rfl⟩ dX4_home_26
    · rw [hQ]
      exact x_throw F hfl ht hlk (by decide +kernel) ck_X4_111 ik_IO sk_X4_113 k_at_IO dX4_home_15 dX4_home_18 dX4_home_19 dX4_home_21 dX4_home_24 ⟨Nat.le_of_ble_eq_true rfl, Nat.le_of_ble_eq_true rfl, Nat.le_of_ble_eq_true rfl, Nat.le_of_ble_eq_true rfl⟩ ⟨⟨rfl, Or.inr (by assumption)⟩, rfl⟩ (by decide) (by decide)
set_option maxHeartbeats 4000000 in
set_option maxRecDepth 100000 in
/-- way -/
theorem c_X4_way (l : Launch) (D : va_G) (cy : Nat → ClassId) (lo : Nat) (R : List Nat) (ad : Nat → Nat) (q : Nat → Nat → Nat) (ns nt : Nat) (I : Nat → Nat → Int32) (J : Nat → Nat → Int64) (hL : k_RL R ns nt) (hfl : l.stackTraces = false) (a : Int32) (b : Int32) : k_Xi l yX4_way cX4_way 4 (some .int) 7 108 2 12 D cy lo R ad (k_c cy ad q ns nt I J) [.ref (ad 0), .int a, .int b] (isN nt a = true ∧ ¬ carAt I ((80 + 4 * a.toNatClampNeg) + 1) b = -1) (fun E => E = e_IO ∧ (isN nt a = false ∨ carAt I ((80 + 4 * a.toNatClampNeg) + 1) b = -1)) (carAt I ((80 + 4 * a.toNatClampNeg) + 1) b) (k_c cy ad q ns nt I J) := by
  refine k_metXQ (by decide +kernel) (Nat.le_of_ble_eq_true rfl) ?_
  intro p e s m args below meth c Q F hr hlk ht hQ
  have hR := hL.1
  refine x_aload_n F dX4_way_0 rfl 0 rfl ?_
  refine x_iload_n F dX4_way_1 rfl 1 rfl ?_
  refine z_callVqx F [.int a] (c_X4_talkOf l D cy lo R ad q ns nt I J hL hfl a ) mc_X4_talkOf mv_X4_talkOf lk_X4_148 (hL.1 0 (by decide)) sc_0 rfl rfl rfl dX4_way_2 ⟨Nat.le_of_ble_eq_true rfl, Nat.le_of_ble_eq_true rfl⟩ ⟨Nat.le_of_ble_eq_true rfl, Nat.le_of_ble_eq_true rfl⟩ (Nat.le_of_ble_eq_true rfl) (fun E hE2 => ?_) (fun ok2 => ?_)
  · rw [hQ]
    exact x_out F ht hlk ⟨⟨hE2.1, Or.inl hE2.2⟩, rfl⟩ (by decide) (by decide)
  · refine g_X4_169 F (hL.2.2.1 _ (isN_lt ok2)).1 (sc_tlk (tlk_rng (a.toNatClampNeg))) rfl dX4_way_5 ?_
    refine x_iload_n F dX4_way_8 rfl 2 rfl ?_
    refine z_callVi F [.int b] (c_X1_carrierAt l D cy lo R ad q ns nt I J hR ((80 + 4 * a.toNatClampNeg) + 1) b (Or.inr ⟨by have := (tlk_rng (a.toNatClampNeg)); omega, by have := (tlk_rng (a.toNatClampNeg)); omega⟩) ((hL.2.2.1 _ (isN_lt ok2)).2.1) ((hL.2.2.1 _ (isN_lt ok2)).2.2.1)) mc_X1_carrierAt mv_X1_carrierAt lk_X4_172 (hL.2.2.1 _ (isN_lt ok2)).2.1 (sc_rte (Or.inr ⟨by have := (tlk_rng (a.toNatClampNeg)); omega, by have := (tlk_rng (a.toNatClampNeg)); omega⟩)) rfl rfl rfl dX4_way_9 ⟨Nat.le_of_ble_eq_true rfl, Nat.le_of_ble_eq_true rfl⟩ ⟨Nat.le_of_ble_eq_true rfl, Nat.le_of_ble_eq_true rfl⟩ (Nat.le_of_ble_eq_true rfl) ?_
    refine x_istore_n F [(3, .int (carAt I ((80 + 4 * a.toNatClampNeg) + 1) b)), (0, .ref (ad 0)), (1, .int a), (2, .int b)] dX4_way_12 rfl (by decide) rfl ?_
    refine x_iload_n F dX4_way_13 rfl 0 rfl ?_
    refine x_iconst F (v := -1) dX4_way_14 (by decide) ?_
    refine x_icmp_ne F 28 dX4_way_15 (by decide) (fun h15 => ?_) (fun h15 => ?_)
    · refine x_iload_n F dX4_way_28 rfl 0 rfl ?_
      rw [hQ]
      refine x_widen (k := 2) (n := 12) (Nat.le_of_ble_eq_true rfl) (Nat.le_of_ble_eq_true rfl) ?_
      exact x_iretx F hr hlk ⟨⟨by assumption, by assumption⟩, rfl, rfl⟩ dX4_way_29
    · rw [hQ]
      exact x_throw F hfl ht hlk (by decide +kernel) ck_X4_111 ik_IO sk_X4_175 k_at_IO dX4_way_18 dX4_way_21 dX4_way_22 dX4_way_24 dX4_way_27 ⟨Nat.le_of_ble_eq_true rfl, Nat.le_of_ble_eq_true rfl, Nat.le_of_ble_eq_true rfl, Nat.le_of_ble_eq_true rfl⟩ ⟨⟨rfl, Or.inr (by assumption)⟩, rfl⟩ (by decide) (by decide)
set_option maxHeartbeats 4000000 in
set_option maxRecDepth 100000 in
/-- topUp -/
theorem c_X4_topUp (l : Launch) (D : va_G) (cy : Nat → ClassId) (lo : Nat) (R : List Nat) (ad : Nat → Nat) (q : Nat → Nat → Nat) (ns nt : Nat) (I : Nat → Nat → Int32) (J : Nat → Nat → Int64) (hL : k_RL R ns nt) (hfl : l.stackTraces = false) (a : Int32) (b : Int32) (m2 : Int32) : k_Xi l yX4_topUp cX4_topUp 7 (some .int) 7 108 3 18 D cy lo R ad (k_c cy ad q ns nt I J) [.ref (ad 0), .int a, .int b, .int m2] (isN ns a = true ∧ (isWi b 0 10000 && isWi m2 0 1000) = true ∧ (decide (1000000 < I (40 + 2 * a.toNatClampNeg) 2 + b) || decide (100000 < I (40 + 2 * a.toNatClampNeg) 3 + m2)) = false) (fun E => (E = e_IO ∧ isN ns a = false) ∨ (E = e_IA ∧ isN ns a = true ∧ (isWi b 0 10000 && isWi m2 0 1000) = false) ∨ (E = e_IS ∧ isN ns a = true ∧ (isWi b 0 10000 && isWi m2 0 1000) = true ∧ (decide (1000000 < I (40 + 2 * a.toNatClampNeg) 2 + b) || decide (100000 < I (40 + 2 * a.toNatClampNeg) 3 + m2)) = true)) (I (40 + 2 * a.toNatClampNeg) 2 + b) (k_c cy ad q ns nt (wI (wI I (40 + 2 * a.toNatClampNeg) 2 (I (40 + 2 * a.toNatClampNeg) 2 + b)) (40 + 2 * a.toNatClampNeg) 3 (I (40 + 2 * a.toNatClampNeg) 3 + m2)) J) := by
  refine k_metXQ (by decide +kernel) (Nat.le_of_ble_eq_true rfl) ?_
  intro p e s m args below meth c Q F hr hlk ht hQ
  have hR := hL.1
  refine x_aload_n F dX4_topUp_0 rfl 0 rfl ?_
  refine x_iload_n F dX4_topUp_1 rfl 1 rfl ?_
  refine z_callVqx F [.int a] (c_X4_subscriberOf l D cy lo R ad q ns nt I J hL hfl a ) mc_X4_subscriberOf mv_X4_subscriberOf lk_X4_92 (hL.1 0 (by decide)) sc_0 rfl rfl rfl dX4_topUp_2 ⟨Nat.le_of_ble_eq_true rfl, Nat.le_of_ble_eq_true rfl⟩ ⟨Nat.le_of_ble_eq_true rfl, Nat.le_of_ble_eq_true rfl⟩ (Nat.le_of_ble_eq_true rfl) (fun E hE2 => ?_) (fun ok2 => ?_)
  · rw [hQ]
    exact x_out F ht hlk ⟨Or.inl hE2, rfl⟩ (by decide) (by decide)
  · refine x_astore F [(4, .ref (ad (40 + 2 * a.toNatClampNeg))), (0, .ref (ad 0)), (1, .int a), (2, .int b), (3, .int m2)] dX4_topUp_5 (by decide) rfl ?_
    refine x_iload_n F dX4_topUp_7 rfl 3 rfl ?_
    refine x_iload_n F dX4_topUp_8 rfl 4 rfl ?_
    refine z_callSvx F [.int b, .int m2] (c_X4_demandCredit l D cy lo R ad _ hfl b m2) mc_X4_demandCredit ms_X4_demandCredit lk_X4_79 rfl rfl dX4_topUp_9 ⟨Nat.le_of_ble_eq_true rfl, Nat.le_of_ble_eq_true rfl⟩ ⟨Nat.le_of_ble_eq_true rfl, Nat.le_of_ble_eq_true rfl⟩ (Nat.le_of_ble_eq_true rfl) (fun E hE9 => ?_) (fun ok9 => ?_)
    · rw [hQ]
      exact x_out F ht hlk ⟨Or.inr (Or.inl ⟨hE9.1, by assumption, hE9.2⟩), rfl⟩ (by decide) (by decide)
    · refine x_aload F dX4_topUp_12 0 rfl ?_
      refine g_X4_116 F (hL.2.1 _ (isN_lt ok2)).1 (sc_sub (sub_rng (isN_lt ok2) hL)) rfl dX4_topUp_14 ?_
      refine x_iload_n F dX4_topUp_17 rfl 3 rfl ?_
      refine x_iadd F dX4_topUp_18 ?_
      refine x_istore F [(5, .int ((I (40 + 2 * a.toNatClampNeg) 2) + b)), (4, .ref (ad (40 + 2 * a.toNatClampNeg))), (0, .ref (ad 0)), (1, .int a), (2, .int b), (3, .int m2)] dX4_topUp_19 (by decide) rfl ?_
      refine x_aload F dX4_topUp_21 1 rfl ?_
      refine g_X4_119 F (hL.2.1 _ (isN_lt ok2)).1 (sc_sub (sub_rng (isN_lt ok2) hL)) rfl dX4_topUp_23 ?_
      refine x_iload_n F dX4_topUp_26 rfl 5 rfl ?_
      refine x_iadd F dX4_topUp_27 ?_
      refine x_istore F [(6, .int ((I (40 + 2 * a.toNatClampNeg) 3) + m2)), (5, .int ((I (40 + 2 * a.toNatClampNeg) 2) + b)), (4, .ref (ad (40 + 2 * a.toNatClampNeg))), (0, .ref (ad 0)), (1, .int a), (2, .int b), (3, .int m2)] dX4_topUp_28 (by decide) rfl ?_
      refine x_iload F dX4_topUp_30 1 rfl ?_
      refine x_ldc F (v := 1000000) dX4_topUp_32 287 (by decide +kernel) ?_
      refine x_icmp_gt F 44 dX4_topUp_34 (by decide) (fun h34 => ?_) (fun h34 => ?_)
      · rw [hQ]
        exact x_throw F hfl ht hlk (by decide +kernel) ck_X4_74 ik_IS sk_X4_123 k_at_IS dX4_topUp_44 dX4_topUp_47 dX4_topUp_48 dX4_topUp_50 dX4_topUp_53 ⟨Nat.le_of_ble_eq_true rfl, Nat.le_of_ble_eq_true rfl, Nat.le_of_ble_eq_true rfl, Nat.le_of_ble_eq_true rfl⟩ ⟨Or.inr (Or.inr ⟨rfl, by assumption, by assumption, by simp [Int32.not_le.mp, *]; try (exact Int32.not_le.mp ‹_›)⟩), rfl⟩ (by decide) (by decide)
      · refine x_iload F dX4_topUp_37 0 rfl ?_
        refine x_ldc F (v := 100000) dX4_topUp_39 201 (by decide +kernel) ?_
        refine x_icmp_le F 54 dX4_topUp_41 (by decide) (fun h41 => ?_) (fun h41 => ?_)
        · refine x_aload F dX4_topUp_54 2 rfl ?_
          refine x_iload F dX4_topUp_56 1 rfl ?_
          refine p_X4_116 F (hL.2.1 _ (isN_lt ok2)).1 (ss_sub (sub_rng (isN_lt ok2) hL)) dX4_topUp_58 ?_
          refine x_aload F dX4_topUp_61 2 rfl ?_
          refine x_iload F dX4_topUp_63 0 rfl ?_
          refine p_X4_119 F (hL.2.1 _ (isN_lt ok2)).1 (ss_sub (sub_rng (isN_lt ok2) hL)) dX4_topUp_65 ?_
          refine x_iload F dX4_topUp_68 1 rfl ?_
          rw [hQ]
          refine x_widen (k := 3) (n := 18) (Nat.le_of_ble_eq_true rfl) (Nat.le_of_ble_eq_true rfl) ?_
          exact x_iretx F hr hlk ⟨⟨by assumption, by assumption, by simp [Int32.not_lt, *]⟩, rfl, rfl⟩ dX4_topUp_70
        · rw [hQ]
          exact x_throw F hfl ht hlk (by decide +kernel) ck_X4_74 ik_IS sk_X4_123 k_at_IS dX4_topUp_44 dX4_topUp_47 dX4_topUp_48 dX4_topUp_50 dX4_topUp_53 ⟨Nat.le_of_ble_eq_true rfl, Nat.le_of_ble_eq_true rfl, Nat.le_of_ble_eq_true rfl, Nat.le_of_ble_eq_true rfl⟩ ⟨Or.inr (Or.inr ⟨rfl, by assumption, by assumption, by simp [Int32.not_le.mp, *]; try (exact Int32.not_le.mp ‹_›)⟩), rfl⟩ (by decide) (by decide)
set_option maxHeartbeats 4000000 in
set_option maxRecDepth 100000 in
/-- carryOver -/
theorem c_X4_carryOver (l : Launch) (D : va_G) (cy : Nat → ClassId) (lo : Nat) (R : List Nat) (ad : Nat → Nat) (q : Nat → Nat → Nat) (ns nt : Nat) (I : Nat → Nat → Int32) (J : Nat → Nat → Int64) (hL : k_RL R ns nt) (hfl : l.stackTraces = false) (a : Int32) (b : Int32) : k_Xi l yX4_carryOver cX4_carryOver 4 (some .int) 7 108 3 18 D cy lo R ad (k_c cy ad q ns nt I J) [.ref (ad 0), .int a, .int b] (isN ns a = true ∧ isCar b = true ∧ ¬ homeF I (40 + 2 * a.toNatClampNeg) 0 = b ∧ moveB I (40 + 2 * a.toNatClampNeg) = true) (fun E => (E = e_IO ∧ (isN ns a && isCar b) = false) ∨ (E = e_IA ∧ isN ns a = true ∧ isCar b = true ∧ homeF I (40 + 2 * a.toNatClampNeg) 0 = b) ∨ (E = e_IS ∧ isN ns a = true ∧ isCar b = true ∧ ¬ homeF I (40 + 2 * a.toNatClampNeg) 0 = b ∧ moveB I (40 + 2 * a.toNatClampNeg) = false)) ((moveI I (40 + 2 * a.toNatClampNeg) b) (40 + 2 * a.toNatClampNeg) 1) (k_c cy ad q ns nt (moveI I (40 + 2 * a.toNatClampNeg) b) J) := by
  refine k_metXQ (by decide +kernel) (Nat.le_of_ble_eq_true rfl) ?_
  intro p e s m args below meth c Q F hr hlk ht hQ
  have hR := hL.1
  refine x_aload_n F dX4_carryOver_0 rfl 0 rfl ?_
  refine x_iload_n F dX4_carryOver_1 rfl 1 rfl ?_
  refine z_callVqx F [.int a] (c_X4_subscriberOf l D cy lo R ad q ns nt I J hL hfl a ) mc_X4_subscriberOf mv_X4_subscriberOf lk_X4_92 (hL.1 0 (by decide)) sc_0 rfl rfl rfl dX4_carryOver_2 ⟨Nat.le_of_ble_eq_true rfl, Nat.le_of_ble_eq_true rfl⟩ ⟨Nat.le_of_ble_eq_true rfl, Nat.le_of_ble_eq_true rfl⟩ (Nat.le_of_ble_eq_true rfl) (fun E hE2 => ?_) (fun ok2 => ?_)
  · rw [hQ]
    exact x_out F ht hlk ⟨Or.inl ⟨hE2.1, by simp [hE2.2]⟩, rfl⟩ (by decide) (by decide)
  · refine x_astore_n F [(3, .ref (ad (40 + 2 * a.toNatClampNeg))), (0, .ref (ad 0)), (1, .int a), (2, .int b)] dX4_carryOver_5 rfl (by decide) rfl ?_
    refine x_iload_n F dX4_carryOver_6 rfl 3 rfl ?_
    refine z_callSvx F [.int b] (c_X4_demandCarrier l D cy lo R ad _ hfl b) mc_X4_demandCarrier ms_X4_demandCarrier lk_X4_48 rfl rfl dX4_carryOver_7 ⟨Nat.le_of_ble_eq_true rfl, Nat.le_of_ble_eq_true rfl⟩ ⟨Nat.le_of_ble_eq_true rfl, Nat.le_of_ble_eq_true rfl⟩ (Nat.le_of_ble_eq_true rfl) (fun E hE7 => ?_) (fun ok7 => ?_)
    · rw [hQ]
      exact x_out F ht hlk ⟨Or.inl ⟨hE7.1, by simp [hE7.2]⟩, rfl⟩ (by decide) (by decide)
    · refine x_aload_n F dX4_carryOver_10 rfl 0 rfl ?_
      refine x_iconst F (v := 0) dX4_carryOver_11 (by decide) ?_
      refine z_callVi F [.int 0] (c_X2_homeAt l D cy lo R ad q ns nt I J hR (40 + 2 * a.toNatClampNeg) 0 (sub_rng (isN_lt ok2) hL) ((hL.2.1 _ (isN_lt ok2)).1) ((hL.2.1 _ (isN_lt ok2)).2)) mc_X2_homeAt mv_X2_homeAt lk_X4_96 (hL.2.1 _ (isN_lt ok2)).1 (sc_sub (sub_rng (isN_lt ok2) hL)) rfl rfl rfl dX4_carryOver_12 ⟨Nat.le_of_ble_eq_true rfl, Nat.le_of_ble_eq_true rfl⟩ ⟨Nat.le_of_ble_eq_true rfl, Nat.le_of_ble_eq_true rfl⟩ (Nat.le_of_ble_eq_true rfl) ?_
      refine x_iload_n F dX4_carryOver_15 rfl 3 rfl ?_
      refine x_icmp_ne F 29 dX4_carryOver_16 (by decide) (fun h16 => ?_) (fun h16 => ?_)
      · refine x_aload_n F dX4_carryOver_29 rfl 0 rfl ?_
        refine x_iload_n F dX4_carryOver_30 rfl 3 rfl ?_
        refine z_callVi F [.int b] (c_X2_moveTo l D cy lo R ad q ns nt I J hR (40 + 2 * a.toNatClampNeg) b (sub_rng (isN_lt ok2) hL) ((hL.2.1 _ (isN_lt ok2)).1) ((hL.2.1 _ (isN_lt ok2)).2)) mc_X2_moveTo mv_X2_moveTo lk_X4_102 (hL.2.1 _ (isN_lt ok2)).1 (sc_sub (sub_rng (isN_lt ok2) hL)) rfl rfl rfl dX4_carryOver_31 ⟨Nat.le_of_ble_eq_true rfl, Nat.le_of_ble_eq_true rfl⟩ ⟨Nat.le_of_ble_eq_true rfl, Nat.le_of_ble_eq_true rfl⟩ (Nat.le_of_ble_eq_true rfl) ?_
        refine x_if_ne F 47 dX4_carryOver_34 (by decide) (fun h34 => ?_) (fun h34 => ?_)
        · rw [kb1] at h34
          refine x_aload_n F dX4_carryOver_47 rfl 0 rfl ?_
          refine g_X4_108 F (hL.2.1 _ (isN_lt ok2)).1 (sc_sub (sub_rng (isN_lt ok2) hL)) rfl dX4_carryOver_48 ?_
          rw [hQ]
          refine x_widen (k := 3) (n := 18) (Nat.le_of_ble_eq_true rfl) (Nat.le_of_ble_eq_true rfl) ?_
          exact x_iretx F hr hlk ⟨⟨by assumption, by assumption, by assumption, by assumption⟩, rfl, rfl⟩ dX4_carryOver_51
        · rw [kb0] at h34
          rw [hQ]
          exact x_throw F hfl ht hlk (by decide +kernel) ck_X4_74 ik_IS sk_X4_106 k_at_IS dX4_carryOver_37 dX4_carryOver_40 dX4_carryOver_41 dX4_carryOver_43 dX4_carryOver_46 ⟨Nat.le_of_ble_eq_true rfl, Nat.le_of_ble_eq_true rfl, Nat.le_of_ble_eq_true rfl, Nat.le_of_ble_eq_true rfl⟩ ⟨Or.inr (Or.inr ⟨rfl, by assumption, by assumption, by assumption, by assumption⟩), by simp [moveI, *]⟩ (by decide) (by decide)
      · rw [hQ]
        exact x_throw F hfl ht hlk (by decide +kernel) ck_X4_56 ik_IA sk_X4_100 k_at_IA dX4_carryOver_19 dX4_carryOver_22 dX4_carryOver_23 dX4_carryOver_25 dX4_carryOver_28 ⟨Nat.le_of_ble_eq_true rfl, Nat.le_of_ble_eq_true rfl, Nat.le_of_ble_eq_true rfl, Nat.le_of_ble_eq_true rfl⟩ ⟨Or.inr (Or.inl ⟨rfl, by assumption, by assumption, by assumption⟩), rfl⟩ (by decide) (by decide)
