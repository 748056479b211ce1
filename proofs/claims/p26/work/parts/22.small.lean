def homeF (I : Nat → Nat → Int32) (r : Nat) (b : Int32) : Int32 := if (!decide (b < 0) && !decide (I r 1 ≤ b) && !decide (10 < I r 1)) = true then I (r + 1) (I r 1 - 1 - b).toNatClampNeg else -1
theorem vin_home {n b : Int32} (h0 : ¬ b < 0) (h1 : ¬ n ≤ b) (h2 : ¬ 10 < n) : vp_in (n - 1 - b) 10 := by
  rw [vp_in_iff]
  rw [Int32.lt_iff_toInt_lt] at h0 h2
  rw [Int32.le_iff_toInt_le] at h1
  have e0 : (0 : Int32).toInt = 0 := rfl
  have e1 : (1 : Int32).toInt = 1 := rfl
  have e2 : (10 : Int32).toInt = 10 := rfl
  rw [e0] at h0
  rw [e2] at h2
  have a1 : (n - 1).toInt = n.toInt - 1 := by
    rw [Int32.toInt_sub, e1, Int.bmod_eq_of_le (by omega) (by omega)]
  have a2 : (n - 1 - b).toInt = n.toInt - 1 - b.toInt := by
    rw [Int32.toInt_sub, a1, Int.bmod_eq_of_le (by omega) (by omega)]
  rw [a2]
  omega
def moveB (I : Nat → Nat → Int32) (r : Nat) : Bool := !decide (I r 1 < 0) && decide (I r 1 < 10)
def moveI (I : Nat → Nat → Int32) (r : Nat) (x : Int32) : Nat → Nat → Int32 := if moveB I r = true then wI (wI I (r + 1) (I r 1).toNatClampNeg x) r 1 ((wI I (r + 1) (I r 1).toNatClampNeg x) r 1 + 1) else I
def payB (I : Nat → Nat → Int32) (r : Nat) (x t : Int32) : Bool := !decide (I r 3 < x) || !decide (I r 2 < t)
def payI (I : Nat → Nat → Int32) (r : Nat) (x t : Int32) : Nat → Nat → Int32 := if I r 3 < x then (if I r 2 < t then I else wI I r 2 (I r 2 - t)) else wI I r 3 (I r 3 - x)
def dueF (I : Nat → Nat → Int32) (r : Nat) : Bool := !decide (I r 2 ≤ 0) && decide (I r 7 - I r 7 / I r 2 * I r 2 = 0)
def addChJ (J : Nat → Nat → Int64) (r : Nat) (k x : Int32) : Nat → Nat → Int64 := if isP k = true then addJ J (r + 3) k.toNatClampNeg x.toInt64 else J
def chF (J : Nat → Nat → Int64) (r : Nat) (k : Int32) : Int64 := if isP k = true then J (r + 3) k.toNatClampNeg else 0
def overF (I : Nat → Nat → Int32) (a b : Int32) : Int32 := (if isCar b = true then I 11 b.toNatClampNeg else 1000000) + rateF I a b * 8 + 1
theorem vin_car {c : Int32} (h : isCar c = true) : vp_in c 5 := by
  simp only [isCar, Bool.and_eq_true, Bool.not_eq_true', decide_eq_false_iff_not] at h
  exact vin_of (n := 5) (by decide) h.1 h.2
set_option maxHeartbeats 4000000 in
set_option maxRecDepth 100000 in
/-- Subscriber.homeAt -/
theorem c_X2_homeAt (l : Launch) (D : va_G) (cy : Nat → ClassId) (lo : Nat) (R : List Nat) (ad : Nat → Nat) (q : Nat → Nat → Nat) (ns nt : Nat) (I : Nat → Nat → Int32) (J : Nat → Nat → Int64) (hR : ∀ r, r < 19 → r ∈ R) (r : Nat) (x : Int32) (hk : 40 ≤ r ∧ r < 80 ∧ r % 2 = 0) (hm : r ∈ R) (hn : r + 1 ∈ R) : k_Ci l yX2_homeAt cX2_homeAt 2 (some .int) 0 0 D cy lo R ad (k_c cy ad q ns nt I J) [.ref (ad r), .int x] (homeF I r x) (k_c cy ad q ns nt I J) := by
  refine k_metQ (by decide +kernel) (Nat.le_of_ble_eq_true rfl) ?_
  intro p e s m args below meth c Q F hr hlk hnm hQ
  refine x_iload_n F dX2_homeAt_0 rfl 1 rfl ?_
  refine x_if_lt F 37 dX2_homeAt_1 (by decide) (fun h1 => ?_) (fun h1 => ?_)
  · refine x_iconst F (v := -1) dX2_homeAt_37 (by decide) ?_
    rw [hQ]
    exact x_iret F hr hlk ⟨by simp [homeF, *], by simp [homeF, *]⟩ dX2_homeAt_38
  · refine x_iload_n F dX2_homeAt_4 rfl 1 rfl ?_
    refine x_aload_n F dX2_homeAt_5 rfl 0 rfl ?_
    refine g_X2_15 F hm (sc_sub hk) rfl dX2_homeAt_6 ?_
    refine x_icmp_ge F 37 dX2_homeAt_9 (by decide) (fun h9 => ?_) (fun h9 => ?_)
    · refine x_iconst F (v := -1) dX2_homeAt_37 (by decide) ?_
      rw [hQ]
      exact x_iret F hr hlk ⟨by simp [homeF, *], by simp [homeF, *]⟩ dX2_homeAt_38
    · refine x_aload_n F dX2_homeAt_12 rfl 0 rfl ?_
      refine g_X2_15 F hm (sc_sub hk) rfl dX2_homeAt_13 ?_
      refine x_bipush F (v := 10) dX2_homeAt_16 (by decide) ?_
      refine x_icmp_gt F 37 dX2_homeAt_18 (by decide) (fun h18 => ?_) (fun h18 => ?_)
      · refine x_iconst F (v := -1) dX2_homeAt_37 (by decide) ?_
        rw [hQ]
        exact x_iret F hr hlk ⟨by simp [homeF, *], by simp [homeF, *]⟩ dX2_homeAt_38
      · refine x_aload_n F dX2_homeAt_21 rfl 0 rfl ?_
        refine g_X2_9 F hm (sc_sub hk) rfl dX2_homeAt_22 ?_
        refine x_aload_n F dX2_homeAt_25 rfl 0 rfl ?_
        refine g_X2_15 F hm (sc_sub hk) rfl dX2_homeAt_26 ?_
        refine x_iconst F (v := 1) dX2_homeAt_29 (by decide) ?_
        refine x_isub F dX2_homeAt_30 ?_
        refine x_iload_n F dX2_homeAt_31 rfl 1 rfl ?_
        refine x_isub F dX2_homeAt_32 ?_
        refine y_iald F hn (ss_chn hk) (vin_home ‹_› ‹_› ‹_›) dX2_homeAt_33 ?_
        refine x_goto F 38 dX2_homeAt_34 (by decide) ?_
        rw [hQ]
        exact x_iret F hr hlk ⟨by simp [homeF, *], by simp [homeF, *]⟩ dX2_homeAt_38
set_option maxHeartbeats 4000000 in
set_option maxRecDepth 100000 in
/-- Subscriber.moveTo -/
theorem c_X2_moveTo (l : Launch) (D : va_G) (cy : Nat → ClassId) (lo : Nat) (R : List Nat) (ad : Nat → Nat) (q : Nat → Nat → Nat) (ns nt : Nat) (I : Nat → Nat → Int32) (J : Nat → Nat → Int64) (hR : ∀ r, r < 19 → r ∈ R) (r : Nat) (x : Int32) (hk : 40 ≤ r ∧ r < 80 ∧ r % 2 = 0) (hm : r ∈ R) (hn : r + 1 ∈ R) : k_Ci l yX2_moveTo cX2_moveTo 2 (some .boolean) 0 0 D cy lo R ad (k_c cy ad q ns nt I J) [.ref (ad r), .int x] (k_b (moveB I r)) (k_c cy ad q ns nt (moveI I r x) J) := by
  refine k_metQ (by decide +kernel) (Nat.le_of_ble_eq_true rfl) ?_
  intro p e s m args below meth c Q F hr hlk hnm hQ
  refine x_aload_n F dX2_moveTo_0 rfl 0 rfl ?_
  refine g_X2_15 F hm (sc_sub hk) rfl dX2_moveTo_1 ?_
  refine x_if_lt F 16 dX2_moveTo_4 (by decide) (fun h4 => ?_) (fun h4 => ?_)
  · refine x_iconst F (v := 0) dX2_moveTo_16 (by decide) ?_
    rw [hQ]
    exact x_zret F hr hlk (by decide) ⟨by simp [moveI, moveB, k_b, *], by simp [moveI, moveB, k_b, *]⟩ dX2_moveTo_17
  · refine x_aload_n F dX2_moveTo_7 rfl 0 rfl ?_
    refine g_X2_15 F hm (sc_sub hk) rfl dX2_moveTo_8 ?_
    refine x_bipush F (v := 10) dX2_moveTo_11 (by decide) ?_
    refine x_icmp_lt F 18 dX2_moveTo_13 (by decide) (fun h13 => ?_) (fun h13 => ?_)
    · refine x_aload_n F dX2_moveTo_18 rfl 0 rfl ?_
      refine g_X2_9 F hm (sc_sub hk) rfl dX2_moveTo_19 ?_
      refine x_aload_n F dX2_moveTo_22 rfl 0 rfl ?_
      refine g_X2_15 F hm (sc_sub hk) rfl dX2_moveTo_23 ?_
      refine x_iload_n F dX2_moveTo_26 rfl 1 rfl ?_
      refine y_iast F hn (ss_chn hk) (by first | exact vin_of (n := 10) (by decide) ‹_› ‹_› | exact vin_lt (n := 10) (by decide) ‹_› ‹_›) dX2_moveTo_27 ?_
      refine x_aload_n F dX2_moveTo_28 rfl 0 rfl ?_
      refine x_dup F dX2_moveTo_29 rfl ?_
      refine g_X2_15 F hm (sc_sub hk) rfl dX2_moveTo_30 ?_
      refine x_iconst F (v := 1) dX2_moveTo_33 (by decide) ?_
      refine x_iadd F dX2_moveTo_34 ?_
      refine p_X2_15 F hm (ss_sub hk) dX2_moveTo_35 ?_
      refine x_iconst F (v := 1) dX2_moveTo_38 (by decide) ?_
      rw [hQ]
      exact x_zret F hr hlk (by decide) ⟨by simp [moveI, moveB, k_b, *], by simp [moveI, moveB, k_b, *]⟩ dX2_moveTo_39
    · refine x_iconst F (v := 0) dX2_moveTo_16 (by decide) ?_
      rw [hQ]
      exact x_zret F hr hlk (by decide) ⟨by simp [moveI, moveB, k_b, *], by simp [moveI, moveB, k_b, *]⟩ dX2_moveTo_17
set_option maxHeartbeats 4000000 in
set_option maxRecDepth 100000 in
/-- Subscriber.pay -/
theorem c_X2_pay (l : Launch) (D : va_G) (cy : Nat → ClassId) (lo : Nat) (R : List Nat) (ad : Nat → Nat) (q : Nat → Nat → Nat) (ns nt : Nat) (I : Nat → Nat → Int32) (J : Nat → Nat → Int64) (hR : ∀ r, r < 19 → r ∈ R) (r : Nat) (x : Int32) (t : Int32) (hk : 40 ≤ r ∧ r < 80 ∧ r % 2 = 0) (hm : r ∈ R) (hn : r + 1 ∈ R) : k_Ci l yX2_pay cX2_pay 3 (some .boolean) 0 0 D cy lo R ad (k_c cy ad q ns nt I J) [.ref (ad r), .int x, .int t] (k_b (payB I r x t)) (k_c cy ad q ns nt (payI I r x t) J) := by
  refine k_metQ (by decide +kernel) (Nat.le_of_ble_eq_true rfl) ?_
  intro p e s m args below meth c Q F hr hlk hnm hQ
  refine x_aload_n F dX2_pay_0 rfl 0 rfl ?_
  refine g_X2_22 F hm (sc_sub hk) rfl dX2_pay_1 ?_
  refine x_iload_n F dX2_pay_4 rfl 1 rfl ?_
  refine x_icmp_lt F 20 dX2_pay_5 (by decide) (fun h5 => ?_) (fun h5 => ?_)
  · refine x_aload_n F dX2_pay_20 rfl 0 rfl ?_
    refine g_X2_19 F hm (sc_sub hk) rfl dX2_pay_21 ?_
    refine x_iload_n F dX2_pay_24 rfl 2 rfl ?_
    refine x_icmp_lt F 40 dX2_pay_25 (by decide) (fun h25 => ?_) (fun h25 => ?_)
    · refine x_iconst F (v := 0) dX2_pay_40 (by decide) ?_
      rw [hQ]
      exact x_zret F hr hlk (by decide) ⟨by simp [payI, payB, k_b, *], by simp [payI, payB, k_b, *]⟩ dX2_pay_41
    · refine x_aload_n F dX2_pay_28 rfl 0 rfl ?_
      refine x_dup F dX2_pay_29 rfl ?_
      refine g_X2_19 F hm (sc_sub hk) rfl dX2_pay_30 ?_
      refine x_iload_n F dX2_pay_33 rfl 2 rfl ?_
      refine x_isub F dX2_pay_34 ?_
      refine p_X2_19 F hm (ss_sub hk) dX2_pay_35 ?_
      refine x_iconst F (v := 1) dX2_pay_38 (by decide) ?_
      rw [hQ]
      exact x_zret F hr hlk (by decide) ⟨by simp [payI, payB, k_b, *], by simp [payI, payB, k_b, *]⟩ dX2_pay_39
  · refine x_aload_n F dX2_pay_8 rfl 0 rfl ?_
    refine x_dup F dX2_pay_9 rfl ?_
    refine g_X2_22 F hm (sc_sub hk) rfl dX2_pay_10 ?_
    refine x_iload_n F dX2_pay_13 rfl 1 rfl ?_
    refine x_isub F dX2_pay_14 ?_
    refine p_X2_22 F hm (ss_sub hk) dX2_pay_15 ?_
    refine x_iconst F (v := 1) dX2_pay_18 (by decide) ?_
    rw [hQ]
    exact x_zret F hr hlk (by decide) ⟨by simp [payI, payB, k_b, *], by simp [payI, payB, k_b, *]⟩ dX2_pay_19
set_option maxHeartbeats 4000000 in
set_option maxRecDepth 100000 in
/-- Talk.isStepDue -/
theorem c_X3_isStepDue (l : Launch) (D : va_G) (cy : Nat → ClassId) (lo : Nat) (R : List Nat) (ad : Nat → Nat) (q : Nat → Nat → Nat) (ns nt : Nat) (I : Nat → Nat → Int32) (J : Nat → Nat → Int64) (hR : ∀ r, r < 19 → r ∈ R) (r : Nat) (hk : 80 ≤ r ∧ r % 4 = 0) (h0 : r ∈ R) (h1 : r + 1 ∈ R) (h2 : r + 1 + 1 ∈ R) (h3 : r + 3 ∈ R) : k_Ci l yX3_isStepDue cX3_isStepDue 1 (some .boolean) 0 0 D cy lo R ad (k_c cy ad q ns nt I J) [.ref (ad r)] (k_b (dueF I r)) (k_c cy ad q ns nt I J) := by
  refine k_metQ (by decide +kernel) (Nat.le_of_ble_eq_true rfl) ?_
  intro p e s m args below meth c Q F hr hlk hnm hQ
  refine x_aload_n F dX3_isStepDue_0 rfl 0 rfl ?_
  refine g_X3_33 F h0 (sc_tlk hk) rfl dX3_isStepDue_1 ?_
  refine x_if_le F 23 dX3_isStepDue_4 (by decide) (fun h4 => ?_) (fun h4 => ?_)
  · refine x_iconst F (v := 0) dX3_isStepDue_23 (by decide) ?_
    rw [hQ]
    exact x_zret F hr hlk (by decide) ⟨by simp [dueF, k_b, *], by simp [dueF, k_b, *]⟩ dX3_isStepDue_24
  · refine x_aload_n F dX3_isStepDue_7 rfl 0 rfl ?_
    refine g_X3_39 F h0 (sc_tlk hk) rfl dX3_isStepDue_8 ?_
    refine x_aload_n F dX3_isStepDue_11 rfl 0 rfl ?_
    refine g_X3_33 F h0 (sc_tlk hk) rfl dX3_isStepDue_12 ?_
    refine x_irem F dX3_isStepDue_15 (by intro h; simp_all) ?_
    refine x_if_ne F 23 dX3_isStepDue_16 (by decide) (fun h16 => ?_) (fun h16 => ?_)
    · refine x_iconst F (v := 0) dX3_isStepDue_23 (by decide) ?_
      rw [hQ]
      exact x_zret F hr hlk (by decide) ⟨by simp [dueF, k_b, *], by simp [dueF, k_b, *]⟩ dX3_isStepDue_24
    · refine x_iconst F (v := 1) dX3_isStepDue_19 (by decide) ?_
      refine x_goto F 24 dX3_isStepDue_20 (by decide) ?_
      rw [hQ]
      exact x_zret F hr hlk (by decide) ⟨by simp [dueF, k_b, *], by simp [dueF, k_b, *]⟩ dX3_isStepDue_24
set_option maxHeartbeats 4000000 in
set_option maxRecDepth 100000 in
/-- Talk.addCharge -/
theorem c_X3_addCharge (l : Launch) (D : va_G) (cy : Nat → ClassId) (lo : Nat) (R : List Nat) (ad : Nat → Nat) (q : Nat → Nat → Nat) (ns nt : Nat) (I : Nat → Nat → Int32) (J : Nat → Nat → Int64) (hR : ∀ r, r < 19 → r ∈ R) (r : Nat) (k : Int32) (x : Int32) (hk : 80 ≤ r ∧ r % 4 = 0) (h0 : r ∈ R) (h1 : r + 1 ∈ R) (h2 : r + 1 + 1 ∈ R) (h3 : r + 3 ∈ R) : k_Cv l yX3_addCharge cX3_addCharge 3 none 0 0 D cy lo R ad (k_c cy ad q ns nt I J) [.ref (ad r), .int k, .int x] (k_c cy ad q ns nt I (addChJ J r k x)) := by
  refine k_metQ (by decide +kernel) (Nat.le_of_ble_eq_true rfl) ?_
  intro p e s m args below meth c Q F hr hlk hnm hQ
  refine x_iload_n F dX3_addCharge_0 rfl 1 rfl ?_
  refine x_if_lt F 21 dX3_addCharge_1 (by decide) (fun h1 => ?_) (fun h1 => ?_)
  · rw [hQ]
    exact x_vret F hr hlk (by simp [addChJ, addJ, isP, *]) dX3_addCharge_21
  · refine x_iload_n F dX3_addCharge_4 rfl 1 rfl ?_
    refine x_bipush F (v := 25) dX3_addCharge_5 (by decide) ?_
    refine x_icmp_ge F 21 dX3_addCharge_7 (by decide) (fun h7 => ?_) (fun h7 => ?_)
    · rw [hQ]
      exact x_vret F hr hlk (by simp [addChJ, addJ, isP, *]) dX3_addCharge_21
    · refine x_aload_n F dX3_addCharge_10 rfl 0 rfl ?_
      refine g_X3_18 F h0 (sc_tlk hk) rfl dX3_addCharge_11 ?_
      refine x_iload_n F dX3_addCharge_14 rfl 1 rfl ?_
      refine x_dup2 F dX3_addCharge_15 rfl rfl ?_
      refine y_lald F h3 (ss_chg hk) (by first | exact vin_of (n := 25) (by decide) ‹_› ‹_› | exact vin_lt (n := 25) (by decide) ‹_› ‹_›) dX3_addCharge_16 ?_
      refine x_iload_n F dX3_addCharge_17 rfl 2 rfl ?_
      refine x_i2l F dX3_addCharge_18 ?_
      refine x_ladd F dX3_addCharge_19 ?_
      refine y_last F h3 (ss_chg hk) (by first | exact vin_of (n := 25) (by decide) ‹_› ‹_› | exact vin_lt (n := 25) (by decide) ‹_› ‹_›) dX3_addCharge_20 ?_
      rw [hQ]
      exact x_vret F hr hlk (by simp [addChJ, addJ, isP, *]) dX3_addCharge_21
set_option maxHeartbeats 4000000 in
set_option maxRecDepth 100000 in
/-- Talk.chargeOf -/
theorem c_X3_chargeOf (l : Launch) (D : va_G) (cy : Nat → ClassId) (lo : Nat) (R : List Nat) (ad : Nat → Nat) (q : Nat → Nat → Nat) (ns nt : Nat) (I : Nat → Nat → Int32) (J : Nat → Nat → Int64) (hR : ∀ r, r < 19 → r ∈ R) (r : Nat) (k : Int32) (hk : 80 ≤ r ∧ r % 4 = 0) (h0 : r ∈ R) (h1 : r + 1 ∈ R) (h2 : r + 1 + 1 ∈ R) (h3 : r + 3 ∈ R) : k_Cl l yX3_chargeOf cX3_chargeOf 2 (some .long) 0 0 D cy lo R ad (k_c cy ad q ns nt I J) [.ref (ad r), .int k] (chF J r k) (k_c cy ad q ns nt I J) := by
  refine k_metQ (by decide +kernel) (Nat.le_of_ble_eq_true rfl) ?_
  intro p e s m args below meth c Q F hr hlk hnm hQ
  refine x_iload_n F dX3_chargeOf_0 rfl 1 rfl ?_
  refine x_if_lt F 19 dX3_chargeOf_1 (by decide) (fun h1 => ?_) (fun h1 => ?_)
  · refine x_lconst F (v := 0) dX3_chargeOf_19 (by decide) ?_
    rw [hQ]
    exact x_lret F hr hlk ⟨by simp [chF, isP, *], by simp [chF, isP, *]⟩ dX3_chargeOf_20
  · refine x_iload_n F dX3_chargeOf_4 rfl 1 rfl ?_
    refine x_bipush F (v := 25) dX3_chargeOf_5 (by decide) ?_
    refine x_icmp_ge F 19 dX3_chargeOf_7 (by decide) (fun h7 => ?_) (fun h7 => ?_)
    · refine x_lconst F (v := 0) dX3_chargeOf_19 (by decide) ?_
      rw [hQ]
      exact x_lret F hr hlk ⟨by simp [chF, isP, *], by simp [chF, isP, *]⟩ dX3_chargeOf_20
    · refine x_aload_n F dX3_chargeOf_10 rfl 0 rfl ?_
      refine g_X3_18 F h0 (sc_tlk hk) rfl dX3_chargeOf_11 ?_
      refine x_iload_n F dX3_chargeOf_14 rfl 1 rfl ?_
      refine y_lald F h3 (ss_chg hk) (by first | exact vin_of (n := 25) (by decide) ‹_› ‹_› | exact vin_lt (n := 25) (by decide) ‹_› ‹_›) dX3_chargeOf_15 ?_
      refine x_goto F 20 dX3_chargeOf_16 (by decide) ?_
      rw [hQ]
      exact x_lret F hr hlk ⟨by simp [chF, isP, *], by simp [chF, isP, *]⟩ dX3_chargeOf_20
set_option maxHeartbeats 4000000 in
set_option maxRecDepth 100000 in
/-- Network.weightOver -/
theorem c_X0_weightOver (l : Launch) (D : va_G) (cy : Nat → ClassId) (lo : Nat) (R : List Nat) (ad : Nat → Nat) (q : Nat → Nat → Nat) (ns nt : Nat) (I : Nat → Nat → Int32) (J : Nat → Nat → Int64) (hR : ∀ r, r < 19 → r ∈ R) (a : Int32) (b : Int32) : k_Ci l yX0_weightOver cX0_weightOver 4 (some .int) 2 45 D cy lo R ad (k_c cy ad q ns nt I J) [.ref (ad 3), .int a, .int b] (overF I a b) (k_c cy ad q ns nt I J) := by
  refine k_metQ (by decide +kernel) (Nat.le_of_ble_eq_true rfl) ?_
  intro p e s m args below meth c Q F hr hlk hnm hQ
  refine x_iload_n F dX0_weightOver_0 rfl 2 rfl ?_
  refine z_callSNi F [.int b] (c_X4_isCarrier l D cy lo R ad _ b) mc_X4_isCarrier ms_X4_isCarrier lk_X0_66 rfl rfl dX0_weightOver_1 ⟨Nat.le_of_ble_eq_true rfl, Nat.le_of_ble_eq_true rfl⟩ ⟨Nat.le_of_ble_eq_true rfl, Nat.le_of_ble_eq_true rfl⟩ (Nat.le_of_ble_eq_true rfl) ?_
  refine x_if_eq F 16 dX0_weightOver_4 (by decide) (fun h4 => ?_) (fun h4 => ?_)
  · rw [kb0] at h4
    refine x_ldc F (v := 1000000) dX0_weightOver_16 309 (by decide +kernel) ?_
    refine x_istore_n F [(3, .int 1000000), (0, .ref (ad 3)), (1, .int a), (2, .int b)] dX0_weightOver_18 rfl (by decide) rfl ?_
    refine x_iload_n F dX0_weightOver_19 rfl 0 rfl ?_
    refine x_aload_n F dX0_weightOver_20 rfl 1 rfl ?_
    refine x_iload_n F dX0_weightOver_21 rfl 2 rfl ?_
    refine x_iload_n F dX0_weightOver_22 rfl 3 rfl ?_
    refine z_callVi F [.int a, .int b] (c_X0_rateOf l D cy lo R ad q ns nt I J hR a b ) mc_X0_rateOf mv_X0_rateOf lk_X0_49 (hR 3 (by decide)) sc_3 rfl rfl rfl dX0_weightOver_23 ⟨Nat.le_of_ble_eq_true rfl, Nat.le_of_ble_eq_true rfl⟩ ⟨Nat.le_of_ble_eq_true rfl, Nat.le_of_ble_eq_true rfl⟩ (Nat.le_of_ble_eq_true rfl) ?_
    refine x_bipush F (v := 8) dX0_weightOver_26 (by decide) ?_
    refine x_imul F dX0_weightOver_28 ?_
    refine x_iadd F dX0_weightOver_29 ?_
    refine x_iconst F (v := 1) dX0_weightOver_30 (by decide) ?_
    refine x_iadd F dX0_weightOver_31 ?_
    rw [hQ]
    exact x_iret F hr hlk ⟨by simp [overF, *], by simp [overF, *]⟩ dX0_weightOver_32
  · rw [kb1] at h4
    refine x_aload_n F dX0_weightOver_7 rfl 0 rfl ?_
    refine g_X0_22 F (hR 3 (by decide)) sc_3 rfl dX0_weightOver_8 ?_
    refine x_iload_n F dX0_weightOver_11 rfl 2 rfl ?_
    refine y_iald F (hR 11 (by decide)) ss_11 (vin_car ‹_›) dX0_weightOver_12 ?_
    refine x_goto F 18 dX0_weightOver_13 (by decide) ?_
    refine x_istore_n F [(3, .int (I 11 b.toNatClampNeg)), (0, .ref (ad 3)), (1, .int a), (2, .int b)] dX0_weightOver_18 rfl (by decide) rfl ?_
    refine x_iload_n F dX0_weightOver_19 rfl 0 rfl ?_
    refine x_aload_n F dX0_weightOver_20 rfl 1 rfl ?_
    refine x_iload_n F dX0_weightOver_21 rfl 2 rfl ?_
    refine x_iload_n F dX0_weightOver_22 rfl 3 rfl ?_
    refine z_callVi F [.int a, .int b] (c_X0_rateOf l D cy lo R ad q ns nt I J hR a b ) mc_X0_rateOf mv_X0_rateOf lk_X0_49 (hR 3 (by decide)) sc_3 rfl rfl rfl dX0_weightOver_23 ⟨Nat.le_of_ble_eq_true rfl, Nat.le_of_ble_eq_true rfl⟩ ⟨Nat.le_of_ble_eq_true rfl, Nat.le_of_ble_eq_true rfl⟩ (Nat.le_of_ble_eq_true rfl) ?_
    refine x_bipush F (v := 8) dX0_weightOver_26 (by decide) ?_
    refine x_imul F dX0_weightOver_28 ?_
    refine x_iadd F dX0_weightOver_29 ?_
    refine x_iconst F (v := 1) dX0_weightOver_30 (by decide) ?_
    refine x_iadd F dX0_weightOver_31 ?_
    rw [hQ]
    exact x_iret F hr hlk ⟨by simp [overF, *], by simp [overF, *]⟩ dX0_weightOver_32
