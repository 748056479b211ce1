def k_RL (R : List Nat) (ns nt : Nat) : Prop := (∀ r, r < 19 → r ∈ R) ∧ (∀ i, i < ns → 40 + 2 * i ∈ R ∧ 40 + 2 * i + 1 ∈ R) ∧ (∀ j, j < nt → 80 + 4 * j ∈ R ∧ 80 + 4 * j + 1 ∈ R ∧ 80 + 4 * j + 1 + 1 ∈ R ∧ 80 + 4 * j + 3 ∈ R) ∧ ns ≤ 20 ∧ nt ≤ 60
/-- an int that numbers one of n things -/
def isN (n : Nat) (a : Int32) : Bool := !decide (a < 0) && decide (a.toNatClampNeg < n)
theorem isN_nI {n : Nat} {a : Int32} (h : isN n a = true) : ∃ j, j < n ∧ a = nI j ∧ a.toNatClampNeg = j := by
  simp only [isN, Bool.and_eq_true, Bool.not_eq_true', decide_eq_false_iff_not, decide_eq_true_eq] at h
  obtain ⟨j, hj, rfl⟩ := nI_of h.1
  rw [nI_clamp hj] at h
  exact ⟨j, h.2, rfl, nI_clamp hj⟩
theorem isN_lt {n : Nat} {a : Int32} (h : isN n a = true) : a.toNatClampNeg < n := by
  obtain ⟨j, hj, -, e⟩ := isN_nI h
  rw [e]; exact hj
theorem isN_no {n : Nat} {a : Int32} (h0 : ¬ a < 0) (h : ¬ a.toNatClampNeg < n) : isN n a = false := by simp [isN, h0, h]
theorem isN_yes {n : Nat} {a : Int32} (h0 : ¬ a < 0) (h : a.toNatClampNeg < n) : isN n a = true := by simp [isN, h0, h]
theorem isN_neg {n : Nat} {a : Int32} (h0 : a < 0) : isN n a = false := by simp [isN, h0]
theorem isN_big {n m : Nat} {a : Int32} (h0 : ¬ a < 0) (h : nI m ≤ a) (hm : m < 2 ^ 31) (hn : n ≤ m) : isN n a = false := by
  obtain ⟨j, hj, rfl⟩ := nI_of h0
  rw [nI_leI hm hj] at h
  rw [isN, nI_clamp hj]
  have : ¬ j < n := by omega
  simp [this]
set_option maxHeartbeats 4000000 in
set_option maxRecDepth 100000 in
/-- demandCarrier -/
theorem c_X4_demandCarrier (l : Launch) (D : va_G) (cy : Nat → ClassId) (lo : Nat) (R : List Nat) (ad : Nat → Nat) (w : Nat → va_E) (hfl : l.stackTraces = false) (a : Int32) : k_Xv l yX4_demandCarrier cX4_demandCarrier 1 none 6 86 1 6 D cy lo R ad w [.int a] (isCar a = true) (fun E => E = e_IO ∧ isCar a = false) w := by
  refine k_metXQ (by decide +kernel) (Nat.le_of_ble_eq_true rfl) ?_
  intro p e s m args below meth c Q F hr hlk ht hQ
  refine x_iload_n F dX4_demandCarrier_0 rfl 0 rfl ?_
  refine z_callSi F [.int a] (c_X4_isCarrier l D cy lo R ad _ a) mc_X4_isCarrier ms_X4_isCarrier lk_X4_204 rfl rfl dX4_demandCarrier_1 ⟨Nat.le_of_ble_eq_true rfl, Nat.le_of_ble_eq_true rfl⟩ ⟨Nat.le_of_ble_eq_true rfl, Nat.le_of_ble_eq_true rfl⟩ (Nat.le_of_ble_eq_true rfl) ?_
  refine x_if_ne F 17 dX4_demandCarrier_4 (by decide) (fun h4 => ?_) (fun h4 => ?_)
  · rw [kb1] at h4
    rw [hQ]
    refine x_widen (k := 1) (n := 6) (Nat.le_of_ble_eq_true rfl) (Nat.le_of_ble_eq_true rfl) ?_
    exact x_vretx F hr hlk ⟨‹_›, rfl⟩ dX4_demandCarrier_17
  · rw [kb0] at h4
    rw [hQ]
    exact x_throw F hfl ht hlk (by decide +kernel) ck_X4_111 ik_IO sk_X4_207 k_at_IO dX4_demandCarrier_7 dX4_demandCarrier_10 dX4_demandCarrier_11 dX4_demandCarrier_13 dX4_demandCarrier_16 ⟨Nat.le_of_ble_eq_true rfl, Nat.le_of_ble_eq_true rfl, Nat.le_of_ble_eq_true rfl, Nat.le_of_ble_eq_true rfl⟩ ⟨by first | exact ⟨rfl, ‹_›⟩ | simp [*], rfl⟩ (by decide) (by decide)
set_option maxHeartbeats 4000000 in
set_option maxRecDepth 100000 in
/-- demandCredit -/
theorem c_X4_demandCredit (l : Launch) (D : va_G) (cy : Nat → ClassId) (lo : Nat) (R : List Nat) (ad : Nat → Nat) (w : Nat → va_E) (hfl : l.stackTraces = false) (a b : Int32) : k_Xv l yX4_demandCredit cX4_demandCredit 2 none 6 86 1 6 D cy lo R ad w [.int a, .int b] ((isWi a 0 10000 && isWi b 0 1000) = true) (fun E => E = e_IA ∧ (isWi a 0 10000 && isWi b 0 1000) = false) w := by
  refine k_metXQ (by decide +kernel) (Nat.le_of_ble_eq_true rfl) ?_
  intro p e s m args below meth c Q F hr hlk ht hQ
  refine x_iload_n F dX4_demandCredit_0 rfl 0 rfl ?_
  refine x_iconst F (v := 0) dX4_demandCredit_1 (by decide) ?_
  refine x_sipush F (v := 10000) dX4_demandCredit_2 (by decide) ?_
  refine z_callSi F [.int a, .int 0, .int 10000] (c_X4_isWithin l D cy lo R ad _ a 0 10000) mc_X4_isWithin ms_X4_isWithin lk_X4_52 rfl rfl dX4_demandCredit_5 ⟨Nat.le_of_ble_eq_true rfl, Nat.le_of_ble_eq_true rfl⟩ ⟨Nat.le_of_ble_eq_true rfl, Nat.le_of_ble_eq_true rfl⟩ (Nat.le_of_ble_eq_true rfl) ?_
  refine x_if_eq F 22 dX4_demandCredit_8 (by decide) (fun h8 => ?_) (fun h8 => ?_)
  · rw [kb0] at h8
    rw [hQ]
    exact x_throw F hfl ht hlk (by decide +kernel) ck_X4_56 ik_IA sk_X4_209 k_at_IA dX4_demandCredit_22 dX4_demandCredit_25 dX4_demandCredit_26 dX4_demandCredit_28 dX4_demandCredit_31 ⟨Nat.le_of_ble_eq_true rfl, Nat.le_of_ble_eq_true rfl, Nat.le_of_ble_eq_true rfl, Nat.le_of_ble_eq_true rfl⟩ ⟨⟨rfl, by simp [*]⟩, rfl⟩ (by decide) (by decide)
  · rw [kb1] at h8
    refine x_iload_n F dX4_demandCredit_11 rfl 1 rfl ?_
    refine x_iconst F (v := 0) dX4_demandCredit_12 (by decide) ?_
    refine x_sipush F (v := 1000) dX4_demandCredit_13 (by decide) ?_
    refine z_callSi F [.int b, .int 0, .int 1000] (c_X4_isWithin l D cy lo R ad _ b 0 1000) mc_X4_isWithin ms_X4_isWithin lk_X4_52 rfl rfl dX4_demandCredit_16 ⟨Nat.le_of_ble_eq_true rfl, Nat.le_of_ble_eq_true rfl⟩ ⟨Nat.le_of_ble_eq_true rfl, Nat.le_of_ble_eq_true rfl⟩ (Nat.le_of_ble_eq_true rfl) ?_
    refine x_if_ne F 32 dX4_demandCredit_19 (by decide) (fun h19 => ?_) (fun h19 => ?_)
    · rw [kb1] at h19
      rw [hQ]
      refine x_widen (k := 1) (n := 6) (Nat.le_of_ble_eq_true rfl) (Nat.le_of_ble_eq_true rfl) ?_
      exact x_vretx F hr hlk ⟨by simp [*], rfl⟩ dX4_demandCredit_32
    · rw [kb0] at h19
      rw [hQ]
      exact x_throw F hfl ht hlk (by decide +kernel) ck_X4_56 ik_IA sk_X4_209 k_at_IA dX4_demandCredit_22 dX4_demandCredit_25 dX4_demandCredit_26 dX4_demandCredit_28 dX4_demandCredit_31 ⟨Nat.le_of_ble_eq_true rfl, Nat.le_of_ble_eq_true rfl, Nat.le_of_ble_eq_true rfl, Nat.le_of_ble_eq_true rfl⟩ ⟨⟨rfl, by simp [*]⟩, rfl⟩ (by decide) (by decide)
theorem sub_rng {R : List Nat} {ns nt i : Nat} (h : i < ns) (hL : k_RL R ns nt) : 40 ≤ 40 + 2 * i ∧ 40 + 2 * i < 80 ∧ (40 + 2 * i) % 2 = 0 := by
  have := hL.2.2.2.1
  omega
theorem tlk_rng (j : Nat) : 80 ≤ 80 + 4 * j ∧ (80 + 4 * j) % 4 = 0 := by omega
set_option maxHeartbeats 4000000 in
set_option maxRecDepth 100000 in
/-- subscriberOf -/
theorem c_X4_subscriberOf (l : Launch) (D : va_G) (cy : Nat → ClassId) (lo : Nat) (R : List Nat) (ad : Nat → Nat) (q : Nat → Nat → Nat) (ns nt : Nat) (I : Nat → Nat → Int32) (J : Nat → Nat → Int64) (hL : k_RL R ns nt) (hfl : l.stackTraces = false) (a : Int32) : k_Xq l yX4_subscriberOf cX4_subscriberOf 3 (some (.object "RoamLedger$Subscriber")) 6 86 1 6 D cy lo R ad (k_c cy ad q ns nt I J) [.ref (ad 0), .int a] (isN ns a = true) (fun E => E = e_IO ∧ isN ns a = false) (some (ad (40 + 2 * a.toNatClampNeg))) (k_c cy ad q ns nt I J) := by
  refine k_metXQ (by decide +kernel) (Nat.le_of_ble_eq_true rfl) ?_
  intro p e s m args below meth c Q F hr hlk ht hQ
  have hR := hL.1
  refine x_iload_n F dX4_subscriberOf_0 rfl 1 rfl ?_
  refine x_if_lt F 19 dX4_subscriberOf_1 (by decide) (fun h1 => ?_) (fun h1 => ?_)
  · refine x_null F dX4_subscriberOf_19 ?_
    refine x_astore_nN F [(2, .null), (0, .ref (ad 0)), (1, .int a)] dX4_subscriberOf_20 rfl (by decide) rfl ?_
    refine x_aload_nN F dX4_subscriberOf_21 rfl 0 rfl ?_
    refine x_ifnonnullN F dX4_subscriberOf_22 ?_
    rw [hQ]
    exact x_throw F hfl ht hlk (by decide +kernel) ck_X4_111 ik_IO sk_X4_211 k_at_IO dX4_subscriberOf_25 dX4_subscriberOf_28 dX4_subscriberOf_29 dX4_subscriberOf_31 dX4_subscriberOf_34 ⟨Nat.le_of_ble_eq_true rfl, Nat.le_of_ble_eq_true rfl, Nat.le_of_ble_eq_true rfl, Nat.le_of_ble_eq_true rfl⟩ ⟨⟨rfl, by first | exact isN_no ‹_› ‹_› | exact isN_neg ‹_› | exact isN_big (m := 20) ‹_› ‹_› (by decide) hL.2.2.2.1 | exact isN_big (m := 60) ‹_› ‹_› (by decide) hL.2.2.2.2⟩, rfl⟩ (by decide) (by decide)
  · refine x_iload_n F dX4_subscriberOf_4 rfl 1 rfl ?_
    refine x_bipush F (v := 20) dX4_subscriberOf_5 (by decide) ?_
    refine x_icmp_ge F 19 dX4_subscriberOf_7 (by decide) (fun h7 => ?_) (fun h7 => ?_)
    · refine x_null F dX4_subscriberOf_19 ?_
      refine x_astore_nN F [(2, .null), (0, .ref (ad 0)), (1, .int a)] dX4_subscriberOf_20 rfl (by decide) rfl ?_
      refine x_aload_nN F dX4_subscriberOf_21 rfl 0 rfl ?_
      refine x_ifnonnullN F dX4_subscriberOf_22 ?_
      rw [hQ]
      exact x_throw F hfl ht hlk (by decide +kernel) ck_X4_111 ik_IO sk_X4_211 k_at_IO dX4_subscriberOf_25 dX4_subscriberOf_28 dX4_subscriberOf_29 dX4_subscriberOf_31 dX4_subscriberOf_34 ⟨Nat.le_of_ble_eq_true rfl, Nat.le_of_ble_eq_true rfl, Nat.le_of_ble_eq_true rfl, Nat.le_of_ble_eq_true rfl⟩ ⟨⟨rfl, by first | exact isN_no ‹_› ‹_› | exact isN_neg ‹_› | exact isN_big (m := 20) ‹_› ‹_› (by decide) hL.2.2.2.1 | exact isN_big (m := 60) ‹_› ‹_› (by decide) hL.2.2.2.2⟩, rfl⟩ (by decide) (by decide)
    · refine x_aload_n F dX4_subscriberOf_10 rfl 0 rfl ?_
      refine g_X4_25 F (hL.1 0 (by decide)) sc_0 rfl dX4_subscriberOf_11 ?_
      refine x_iload_n F dX4_subscriberOf_14 rfl 1 rfl ?_
      refine y_aldS F (hR 4 (by decide)) (ss_4 _ _) (by first | exact vin_of (n := 20) (by decide) ‹_› ‹_› | exact vin_lt (n := 20) (by decide) ‹_› ‹_›) dX4_subscriberOf_15 ?_
      refine x_rf (fun h15n => ?_) (fun h15n => ?_)
      · refine x_goto F 20 dX4_subscriberOf_16 (by decide) ?_
        refine x_astore_n F [(2, .ref (ad (40 + 2 * a.toNatClampNeg))), (0, .ref (ad 0)), (1, .int a)] dX4_subscriberOf_20 rfl (by decide) rfl ?_
        refine x_aload_n F dX4_subscriberOf_21 rfl 0 rfl ?_
        refine x_ifnonnull F 35 dX4_subscriberOf_22 (by decide) ?_
        refine x_aload_n F dX4_subscriberOf_35 rfl 0 rfl ?_
        rw [hQ]
        refine x_widen (k := 1) (n := 6) (Nat.le_of_ble_eq_true rfl) (Nat.le_of_ble_eq_true rfl) ?_
        exact x_aretx F (v := some (ad (40 + 2 * a.toNatClampNeg))) hr hlk ⟨isN_yes ‹_› ‹_›, rfl, rfl⟩ dX4_subscriberOf_36
      · refine x_goto F 20 dX4_subscriberOf_16 (by decide) ?_
        refine x_astore_nN F [(2, .null), (0, .ref (ad 0)), (1, .int a)] dX4_subscriberOf_20 rfl (by decide) rfl ?_
        refine x_aload_nN F dX4_subscriberOf_21 rfl 0 rfl ?_
        refine x_ifnonnullN F dX4_subscriberOf_22 ?_
        rw [hQ]
        exact x_throw F hfl ht hlk (by decide +kernel) ck_X4_111 ik_IO sk_X4_211 k_at_IO dX4_subscriberOf_25 dX4_subscriberOf_28 dX4_subscriberOf_29 dX4_subscriberOf_31 dX4_subscriberOf_34 ⟨Nat.le_of_ble_eq_true rfl, Nat.le_of_ble_eq_true rfl, Nat.le_of_ble_eq_true rfl, Nat.le_of_ble_eq_true rfl⟩ ⟨⟨rfl, by first | exact isN_no ‹_› ‹_› | exact isN_neg ‹_› | exact isN_big (m := 20) ‹_› ‹_› (by decide) hL.2.2.2.1 | exact isN_big (m := 60) ‹_› ‹_› (by decide) hL.2.2.2.2⟩, rfl⟩ (by decide) (by decide)
set_option maxHeartbeats 4000000 in
set_option maxRecDepth 100000 in
/-- talkOf -/
theorem c_X4_talkOf (l : Launch) (D : va_G) (cy : Nat → ClassId) (lo : Nat) (R : List Nat) (ad : Nat → Nat) (q : Nat → Nat → Nat) (ns nt : Nat) (I : Nat → Nat → Int32) (J : Nat → Nat → Int64) (hL : k_RL R ns nt) (hfl : l.stackTraces = false) (a : Int32) : k_Xq l yX4_talkOf cX4_talkOf 3 (some (.object "RoamLedger$Talk")) 6 86 1 6 D cy lo R ad (k_c cy ad q ns nt I J) [.ref (ad 0), .int a] (isN nt a = true) (fun E => E = e_IO ∧ isN nt a = false) (some (ad (80 + 4 * a.toNatClampNeg))) (k_c cy ad q ns nt I J) := by
  refine k_metXQ (by decide +kernel) (Nat.le_of_ble_eq_true rfl) ?_
  intro p e s m args below meth c Q F hr hlk ht hQ
  have hR := hL.1
  refine x_iload_n F dX4_talkOf_0 rfl 1 rfl ?_
  refine x_if_lt F 19 dX4_talkOf_1 (by decide) (fun h1 => ?_) (fun h1 => ?_)
  · refine x_null F dX4_talkOf_19 ?_
    refine x_astore_nN F [(2, .null), (0, .ref (ad 0)), (1, .int a)] dX4_talkOf_20 rfl (by decide) rfl ?_
    refine x_aload_nN F dX4_talkOf_21 rfl 0 rfl ?_
    refine x_ifnonnullN F dX4_talkOf_22 ?_
    rw [hQ]
    exact x_throw F hfl ht hlk (by decide +kernel) ck_X4_111 ik_IO sk_X4_213 k_at_IO dX4_talkOf_25 dX4_talkOf_28 dX4_talkOf_29 dX4_talkOf_31 dX4_talkOf_34 ⟨Nat.le_of_ble_eq_true rfl, Nat.le_of_ble_eq_true rfl, Nat.le_of_ble_eq_true rfl, Nat.le_of_ble_eq_true rfl⟩ ⟨⟨rfl, by first | exact isN_no ‹_› ‹_› | exact isN_neg ‹_› | exact isN_big (m := 20) ‹_› ‹_› (by decide) hL.2.2.2.1 | exact isN_big (m := 60) ‹_› ‹_› (by decide) hL.2.2.2.2⟩, rfl⟩ (by decide) (by decide)
  · refine x_iload_n F dX4_talkOf_4 rfl 1 rfl ?_
    refine x_bipush F (v := 60) dX4_talkOf_5 (by decide) ?_
    refine x_icmp_ge F 19 dX4_talkOf_7 (by decide) (fun h7 => ?_) (fun h7 => ?_)
    · refine x_null F dX4_talkOf_19 ?_
      refine x_astore_nN F [(2, .null), (0, .ref (ad 0)), (1, .int a)] dX4_talkOf_20 rfl (by decide) rfl ?_
      refine x_aload_nN F dX4_talkOf_21 rfl 0 rfl ?_
      refine x_ifnonnullN F dX4_talkOf_22 ?_
      rw [hQ]
      exact x_throw F hfl ht hlk (by decide +kernel) ck_X4_111 ik_IO sk_X4_213 k_at_IO dX4_talkOf_25 dX4_talkOf_28 dX4_talkOf_29 dX4_talkOf_31 dX4_talkOf_34 ⟨Nat.le_of_ble_eq_true rfl, Nat.le_of_ble_eq_true rfl, Nat.le_of_ble_eq_true rfl, Nat.le_of_ble_eq_true rfl⟩ ⟨⟨rfl, by first | exact isN_no ‹_› ‹_› | exact isN_neg ‹_› | exact isN_big (m := 20) ‹_› ‹_› (by decide) hL.2.2.2.1 | exact isN_big (m := 60) ‹_› ‹_› (by decide) hL.2.2.2.2⟩, rfl⟩ (by decide) (by decide)
    · refine x_aload_n F dX4_talkOf_10 rfl 0 rfl ?_
      refine g_X4_31 F (hL.1 0 (by decide)) sc_0 rfl dX4_talkOf_11 ?_
      refine x_iload_n F dX4_talkOf_14 rfl 1 rfl ?_
      refine y_aldT F (hR 5 (by decide)) (ss_5 _ _) (by first | exact vin_of (n := 60) (by decide) ‹_› ‹_› | exact vin_lt (n := 60) (by decide) ‹_› ‹_›) dX4_talkOf_15 ?_
      refine x_rf (fun h15n => ?_) (fun h15n => ?_)
      · refine x_goto F 20 dX4_talkOf_16 (by decide) ?_
        refine x_astore_n F [(2, .ref (ad (80 + 4 * a.toNatClampNeg))), (0, .ref (ad 0)), (1, .int a)] dX4_talkOf_20 rfl (by decide) rfl ?_
        refine x_aload_n F dX4_talkOf_21 rfl 0 rfl ?_
        refine x_ifnonnull F 35 dX4_talkOf_22 (by decide) ?_
        refine x_aload_n F dX4_talkOf_35 rfl 0 rfl ?_
        rw [hQ]
        refine x_widen (k := 1) (n := 6) (Nat.le_of_ble_eq_true rfl) (Nat.le_of_ble_eq_true rfl) ?_
        exact x_aretx F (v := some (ad (80 + 4 * a.toNatClampNeg))) hr hlk ⟨isN_yes ‹_› ‹_›, rfl, rfl⟩ dX4_talkOf_36
      · refine x_goto F 20 dX4_talkOf_16 (by decide) ?_
        refine x_astore_nN F [(2, .null), (0, .ref (ad 0)), (1, .int a)] dX4_talkOf_20 rfl (by decide) rfl ?_
        refine x_aload_nN F dX4_talkOf_21 rfl 0 rfl ?_
        refine x_ifnonnullN F dX4_talkOf_22 ?_
        rw [hQ]
        exact x_throw F hfl ht hlk (by decide +kernel) ck_X4_111 ik_IO sk_X4_213 k_at_IO dX4_talkOf_25 dX4_talkOf_28 dX4_talkOf_29 dX4_talkOf_31 dX4_talkOf_34 ⟨Nat.le_of_ble_eq_true rfl, Nat.le_of_ble_eq_true rfl, Nat.le_of_ble_eq_true rfl, Nat.le_of_ble_eq_true rfl⟩ ⟨⟨rfl, by first | exact isN_no ‹_› ‹_› | exact isN_neg ‹_› | exact isN_big (m := 20) ‹_› ‹_› (by decide) hL.2.2.2.1 | exact isN_big (m := 60) ‹_› ‹_› (by decide) hL.2.2.2.2⟩, rfl⟩ (by decide) (by decide)
