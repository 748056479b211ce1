/-! what the methods answer, as their code has it -/
theorem vin_lt {i : Int32} {n : Nat} (hn : n < 2 ^ 31) (h0 : ¬ i < 0) (h1 : i < nI n) : vp_in i n := by
  rw [vp_in_iff]
  have h2 : (0 : Int32).toInt = 0 := rfl
  rw [Int32.lt_iff_toInt_lt, h2] at h0
  rw [Int32.lt_iff_toInt_lt, nI_toInt hn] at h1
  omega
def isP (k : Int32) : Bool := !decide (k < 0) && !decide (25 ≤ k)
def rateF (I : Nat → Nat → Int32) (a b : Int32) : Int32 := if isP (pairI a b) = true then I 8 (pairI a b).toNatClampNeg else -1
def setLinkI (I : Nat → Nat → Int32) (a b x t : Int32) : Nat → Nat → Int32 := if isP (pairI a b) = true then wI (wI I 8 (pairI a b).toNatClampNeg x) 9 (pairI a b).toNatClampNeg t else I
def debtF (J : Nat → Nat → Int64) (a b : Int32) : Int64 := if isP (pairI a b) = true then J 10 (pairI a b).toNatClampNeg else 0
def addJ (J : Nat → Nat → Int64) (r k : Nat) (x : Int64) : Nat → Nat → Int64 := wJ J r k (J r k + x)
def addDebtJ (J : Nat → Nat → Int64) (a b : Int32) (x : Int64) : Nat → Nat → Int64 :=
  if isP (pairI a b) = true ∧ isP (pairI b a) = true then wJ (addJ J 10 (pairI a b).toNatClampNeg x) 10 (pairI b a).toNatClampNeg ((addJ J 10 (pairI a b).toNatClampNeg x) 10 (pairI b a).toNatClampNeg - x) else J
def openF (I : Nat → Nat → Int32) (J : Nat → Nat → Int64) (a b : Int32) : Bool :=
  isP (pairI a b) && !decide (I 8 (pairI a b).toNatClampNeg = -1) && !decide ((I 9 (pairI a b).toNatClampNeg).toInt64 < J 10 (pairI a b).toNatClampNeg + (I 8 (pairI a b).toNatClampNeg).toInt64)
def isPl (n p : Int32) : Bool := !decide (p < 0) && !decide (n ≤ p) && !decide (5 ≤ p)
def carAt (I : Nat → Nat → Int32) (r : Nat) (p : Int32) : Int32 := if isPl (I r 1) p = true then I (r + 1) p.toNatClampNeg else -1
def addRI (I : Nat → Nat → Int32) (r : Nat) (x : Int32) : Nat → Nat → Int32 := if (!decide (I r 1 < 0) && !decide (5 ≤ I r 1)) = true then wI (wI I (r + 1) (I r 1).toNatClampNeg x) r 1 ((wI I (r + 1) (I r 1).toNatClampNeg x) r 1 + 1) else I
set_option maxHeartbeats 4000000 in
set_option maxRecDepth 100000 in
/-- Route.carrierAt -/
theorem c_X1_carrierAt (l : Launch) (D : va_G) (cy : Nat → ClassId) (lo : Nat) (R : List Nat) (ad : Nat → Nat) (q : Nat → Nat → Nat) (ns nt : Nat) (I : Nat → Nat → Int32) (J : Nat → Nat → Int64) (hR : ∀ r, r < 19 → r ∈ R) (r : Nat) (x : Int32) (hk : r = 6 ∨ (80 ≤ r ∧ r % 4 = 1)) (hm : r ∈ R) (hn : r + 1 ∈ R) : k_Ci l yX1_carrierAt cX1_carrierAt 2 (some .int) 0 0 D cy lo R ad (k_c cy ad q ns nt I J) [.ref (ad r), .int x] (carAt I r x) (k_c cy ad q ns nt I J) := by
  refine k_metQ (by decide +kernel) (Nat.le_of_ble_eq_true rfl) ?_
  intro p e s m args below meth c Q F hr hlk hnm hQ
  refine x_iload_n F dX1_carrierAt_0 rfl 1 rfl ?_
  refine x_if_lt F 26 dX1_carrierAt_1 (by decide) (fun h1 => ?_) (fun h1 => ?_)
  · refine x_iconst F (v := -1) dX1_carrierAt_26 (by decide) ?_
    rw [hQ]
    exact x_iret F hr hlk ⟨by simp [carAt, isPl, *], by simp [carAt, isPl, *]⟩ dX1_carrierAt_27
  · refine x_iload_n F dX1_carrierAt_4 rfl 1 rfl ?_
    refine x_aload_n F dX1_carrierAt_5 rfl 0 rfl ?_
    refine g_X1_15 F hm (sc_rte hk) rfl dX1_carrierAt_6 ?_
    refine x_icmp_ge F 26 dX1_carrierAt_9 (by decide) (fun h9 => ?_) (fun h9 => ?_)
    · refine x_iconst F (v := -1) dX1_carrierAt_26 (by decide) ?_
      rw [hQ]
      exact x_iret F hr hlk ⟨by simp [carAt, isPl, *], by simp [carAt, isPl, *]⟩ dX1_carrierAt_27
    · refine x_iload_n F dX1_carrierAt_12 rfl 1 rfl ?_
      refine x_iconst F (v := 5) dX1_carrierAt_13 (by decide) ?_
      refine x_icmp_ge F 26 dX1_carrierAt_14 (by decide) (fun h14 => ?_) (fun h14 => ?_)
      · refine x_iconst F (v := -1) dX1_carrierAt_26 (by decide) ?_
        rw [hQ]
        exact x_iret F hr hlk ⟨by simp [carAt, isPl, *], by simp [carAt, isPl, *]⟩ dX1_carrierAt_27
      · refine x_aload_n F dX1_carrierAt_17 rfl 0 rfl ?_
        refine g_X1_9 F hm (sc_rte hk) rfl dX1_carrierAt_18 ?_
        refine x_iload_n F dX1_carrierAt_21 rfl 1 rfl ?_
        refine y_iald F hn (ss_rtc hk) (by first | exact vin_of (n := 5) (by decide) ‹_› ‹_› | exact vin_lt (n := 5) (by decide) ‹_› ‹_›) dX1_carrierAt_22 ?_
        refine x_goto F 27 dX1_carrierAt_23 (by decide) ?_
        rw [hQ]
        exact x_iret F hr hlk ⟨by simp [carAt, isPl, *], by simp [carAt, isPl, *]⟩ dX1_carrierAt_27
set_option maxHeartbeats 4000000 in
set_option maxRecDepth 100000 in
/-- Route.clear -/
theorem c_X1_clear (l : Launch) (D : va_G) (cy : Nat → ClassId) (lo : Nat) (R : List Nat) (ad : Nat → Nat) (q : Nat → Nat → Nat) (ns nt : Nat) (I : Nat → Nat → Int32) (J : Nat → Nat → Int64) (hR : ∀ r, r < 19 → r ∈ R) (r : Nat) (hk : r = 6 ∨ (80 ≤ r ∧ r % 4 = 1)) (hm : r ∈ R) (hn : r + 1 ∈ R) : k_Cv l yX1_clear cX1_clear 1 none 0 0 D cy lo R ad (k_c cy ad q ns nt I J) [.ref (ad r)] (k_c cy ad q ns nt (wI I r 1 0) J) := by
  refine k_metQ (by decide +kernel) (Nat.le_of_ble_eq_true rfl) ?_
  intro p e s m args below meth c Q F hr hlk hnm hQ
  refine x_aload_n F dX1_clear_0 rfl 0 rfl ?_
  refine x_iconst F (v := 0) dX1_clear_1 (by decide) ?_
  refine p_X1_15 F hm (ss_rte hk) dX1_clear_2 ?_
  rw [hQ]
  exact x_vret F hr hlk (by simp [wI, *]) dX1_clear_5
set_option maxHeartbeats 4000000 in
set_option maxRecDepth 100000 in
/-- Route.add -/
theorem c_X1_add (l : Launch) (D : va_G) (cy : Nat → ClassId) (lo : Nat) (R : List Nat) (ad : Nat → Nat) (q : Nat → Nat → Nat) (ns nt : Nat) (I : Nat → Nat → Int32) (J : Nat → Nat → Int64) (hR : ∀ r, r < 19 → r ∈ R) (r : Nat) (x : Int32) (hk : r = 6 ∨ (80 ≤ r ∧ r % 4 = 1)) (hm : r ∈ R) (hn : r + 1 ∈ R) : k_Cv l yX1_add cX1_add 2 none 0 0 D cy lo R ad (k_c cy ad q ns nt I J) [.ref (ad r), .int x] (k_c cy ad q ns nt (addRI I r x) J) := by
  refine k_metQ (by decide +kernel) (Nat.le_of_ble_eq_true rfl) ?_
  intro p e s m args below meth c Q F hr hlk hnm hQ
  refine x_aload_n F dX1_add_0 rfl 0 rfl ?_
  refine g_X1_15 F hm (sc_rte hk) rfl dX1_add_1 ?_
  refine x_if_lt F 35 dX1_add_4 (by decide) (fun h4 => ?_) (fun h4 => ?_)
  · rw [hQ]
    exact x_vret F hr hlk (by simp [addRI, *]) dX1_add_35
  · refine x_aload_n F dX1_add_7 rfl 0 rfl ?_
    refine g_X1_15 F hm (sc_rte hk) rfl dX1_add_8 ?_
    refine x_iconst F (v := 5) dX1_add_11 (by decide) ?_
    refine x_icmp_ge F 35 dX1_add_12 (by decide) (fun h12 => ?_) (fun h12 => ?_)
    · rw [hQ]
      exact x_vret F hr hlk (by simp [addRI, *]) dX1_add_35
    · refine x_aload_n F dX1_add_15 rfl 0 rfl ?_
      refine g_X1_9 F hm (sc_rte hk) rfl dX1_add_16 ?_
      refine x_aload_n F dX1_add_19 rfl 0 rfl ?_
      refine g_X1_15 F hm (sc_rte hk) rfl dX1_add_20 ?_
      refine x_iload_n F dX1_add_23 rfl 1 rfl ?_
      refine y_iast F hn (ss_rtc hk) (by first | exact vin_of (n := 5) (by decide) ‹_› ‹_› | exact vin_lt (n := 5) (by decide) ‹_› ‹_›) dX1_add_24 ?_
      refine x_aload_n F dX1_add_25 rfl 0 rfl ?_
      refine x_dup F dX1_add_26 rfl ?_
      refine g_X1_15 F hm (sc_rte hk) rfl dX1_add_27 ?_
      refine x_iconst F (v := 1) dX1_add_30 (by decide) ?_
      refine x_iadd F dX1_add_31 ?_
      refine p_X1_15 F hm (ss_rte hk) dX1_add_32 ?_
      rw [hQ]
      exact x_vret F hr hlk (by simp [addRI, *]) dX1_add_35
set_option maxHeartbeats 4000000 in
set_option maxRecDepth 100000 in
/-- Network.rateOf -/
theorem c_X0_rateOf (l : Launch) (D : va_G) (cy : Nat → ClassId) (lo : Nat) (R : List Nat) (ad : Nat → Nat) (q : Nat → Nat → Nat) (ns nt : Nat) (I : Nat → Nat → Int32) (J : Nat → Nat → Int64) (hR : ∀ r, r < 19 → r ∈ R) (a : Int32) (b : Int32) : k_Ci l yX0_rateOf cX0_rateOf 4 (some .int) 1 22 D cy lo R ad (k_c cy ad q ns nt I J) [.ref (ad 3), .int a, .int b] (rateF I a b) (k_c cy ad q ns nt I J) := by
  refine k_metQ (by decide +kernel) (Nat.le_of_ble_eq_true rfl) ?_
  intro p e s m args below meth c Q F hr hlk hnm hQ
  refine x_iload_n F dX0_rateOf_0 rfl 1 rfl ?_
  refine x_iload_n F dX0_rateOf_1 rfl 2 rfl ?_
  refine z_callSNi F [.int a, .int b] (c_X4_pairOf l D cy lo R ad _ a b) mc_X4_pairOf ms_X4_pairOf lk_X0_31 rfl rfl dX0_rateOf_2 ⟨Nat.le_of_ble_eq_true rfl, Nat.le_of_ble_eq_true rfl⟩ ⟨Nat.le_of_ble_eq_true rfl, Nat.le_of_ble_eq_true rfl⟩ (Nat.le_of_ble_eq_true rfl) ?_
  refine x_istore_n F [(3, .int (pairI a b)), (0, .ref (ad 3)), (1, .int a), (2, .int b)] dX0_rateOf_5 rfl (by decide) rfl ?_
  refine x_iload_n F dX0_rateOf_6 rfl 0 rfl ?_
  refine x_if_lt F 25 dX0_rateOf_7 (by decide) (fun h7 => ?_) (fun h7 => ?_)
  · refine x_iconst F (v := -1) dX0_rateOf_25 (by decide) ?_
    rw [hQ]
    exact x_iret F hr hlk ⟨by simp [rateF, isP, *], by simp [rateF, isP, *]⟩ dX0_rateOf_26
  · refine x_iload_n F dX0_rateOf_10 rfl 0 rfl ?_
    refine x_bipush F (v := 25) dX0_rateOf_11 (by decide) ?_
    refine x_icmp_ge F 25 dX0_rateOf_13 (by decide) (fun h13 => ?_) (fun h13 => ?_)
    · refine x_iconst F (v := -1) dX0_rateOf_25 (by decide) ?_
      rw [hQ]
      exact x_iret F hr hlk ⟨by simp [rateF, isP, *], by simp [rateF, isP, *]⟩ dX0_rateOf_26
    · refine x_aload_n F dX0_rateOf_16 rfl 1 rfl ?_
      refine g_X0_9 F (hR 3 (by decide)) sc_3 rfl dX0_rateOf_17 ?_
      refine x_iload_n F dX0_rateOf_20 rfl 0 rfl ?_
      refine y_iald F (hR 8 (by decide)) ss_8 (by first | exact vin_of (n := 25) (by decide) ‹_› ‹_› | exact vin_lt (n := 25) (by decide) ‹_› ‹_›) dX0_rateOf_21 ?_
      refine x_goto F 26 dX0_rateOf_22 (by decide) ?_
      rw [hQ]
      exact x_iret F hr hlk ⟨by simp [rateF, isP, *], by simp [rateF, isP, *]⟩ dX0_rateOf_26
set_option maxHeartbeats 4000000 in
set_option maxRecDepth 100000 in
/-- Network.setLink -/
theorem c_X0_setLink (l : Launch) (D : va_G) (cy : Nat → ClassId) (lo : Nat) (R : List Nat) (ad : Nat → Nat) (q : Nat → Nat → Nat) (ns nt : Nat) (I : Nat → Nat → Int32) (J : Nat → Nat → Int64) (hR : ∀ r, r < 19 → r ∈ R) (a : Int32) (b : Int32) (x : Int32) (t : Int32) : k_Cv l yX0_setLink cX0_setLink 6 none 1 22 D cy lo R ad (k_c cy ad q ns nt I J) [.ref (ad 3), .int a, .int b, .int x, .int t] (k_c cy ad q ns nt (setLinkI I a b x t) J) := by
  refine k_metQ (by decide +kernel) (Nat.le_of_ble_eq_true rfl) ?_
  intro p e s m args below meth c Q F hr hlk hnm hQ
  refine x_iload_n F dX0_setLink_0 rfl 1 rfl ?_
  refine x_iload_n F dX0_setLink_1 rfl 2 rfl ?_
  refine z_callSNi F [.int a, .int b] (c_X4_pairOf l D cy lo R ad _ a b) mc_X4_pairOf ms_X4_pairOf lk_X0_31 rfl rfl dX0_setLink_2 ⟨Nat.le_of_ble_eq_true rfl, Nat.le_of_ble_eq_true rfl⟩ ⟨Nat.le_of_ble_eq_true rfl, Nat.le_of_ble_eq_true rfl⟩ (Nat.le_of_ble_eq_true rfl) ?_
  refine x_istore F [(5, .int (pairI a b)), (0, .ref (ad 3)), (1, .int a), (2, .int b), (3, .int x), (4, .int t)] dX0_setLink_5 (by decide) rfl ?_
  refine x_iload F dX0_setLink_7 0 rfl ?_
  refine x_if_lt F 36 dX0_setLink_9 (by decide) (fun h9 => ?_) (fun h9 => ?_)
  · rw [hQ]
    exact x_vret F hr hlk (by simp [setLinkI, isP, *]) dX0_setLink_36
  · refine x_iload F dX0_setLink_12 0 rfl ?_
    refine x_bipush F (v := 25) dX0_setLink_14 (by decide) ?_
    refine x_icmp_ge F 36 dX0_setLink_16 (by decide) (fun h16 => ?_) (fun h16 => ?_)
    · rw [hQ]
      exact x_vret F hr hlk (by simp [setLinkI, isP, *]) dX0_setLink_36
    · refine x_aload_n F dX0_setLink_19 rfl 1 rfl ?_
      refine g_X0_9 F (hR 3 (by decide)) sc_3 rfl dX0_setLink_20 ?_
      refine x_iload F dX0_setLink_23 0 rfl ?_
      refine x_iload_n F dX0_setLink_25 rfl 4 rfl ?_
      refine y_iast F (hR 8 (by decide)) ss_8 (by first | exact vin_of (n := 25) (by decide) ‹_› ‹_› | exact vin_lt (n := 25) (by decide) ‹_› ‹_›) dX0_setLink_26 ?_
      refine x_aload_n F dX0_setLink_27 rfl 1 rfl ?_
      refine g_X0_15 F (hR 3 (by decide)) sc_3 rfl dX0_setLink_28 ?_
      refine x_iload F dX0_setLink_31 0 rfl ?_
      refine x_iload F dX0_setLink_33 5 rfl ?_
      refine y_iast F (hR 9 (by decide)) ss_9 (by first | exact vin_of (n := 25) (by decide) ‹_› ‹_› | exact vin_lt (n := 25) (by decide) ‹_› ‹_›) dX0_setLink_35 ?_
      rw [hQ]
      exact x_vret F hr hlk (by simp [setLinkI, isP, *]) dX0_setLink_36
set_option maxHeartbeats 4000000 in
set_option maxRecDepth 100000 in
/-- Network.debtOf -/
theorem c_X0_debtOf (l : Launch) (D : va_G) (cy : Nat → ClassId) (lo : Nat) (R : List Nat) (ad : Nat → Nat) (q : Nat → Nat → Nat) (ns nt : Nat) (I : Nat → Nat → Int32) (J : Nat → Nat → Int64) (hR : ∀ r, r < 19 → r ∈ R) (a : Int32) (b : Int32) : k_Cl l yX0_debtOf cX0_debtOf 4 (some .long) 1 22 D cy lo R ad (k_c cy ad q ns nt I J) [.ref (ad 3), .int a, .int b] (debtF J a b) (k_c cy ad q ns nt I J) := by
  refine k_metQ (by decide +kernel) (Nat.le_of_ble_eq_true rfl) ?_
  intro p e s m args below meth c Q F hr hlk hnm hQ
  refine x_iload_n F dX0_debtOf_0 rfl 1 rfl ?_
  refine x_iload_n F dX0_debtOf_1 rfl 2 rfl ?_
  refine z_callSNi F [.int a, .int b] (c_X4_pairOf l D cy lo R ad _ a b) mc_X4_pairOf ms_X4_pairOf lk_X0_31 rfl rfl dX0_debtOf_2 ⟨Nat.le_of_ble_eq_true rfl, Nat.le_of_ble_eq_true rfl⟩ ⟨Nat.le_of_ble_eq_true rfl, Nat.le_of_ble_eq_true rfl⟩ (Nat.le_of_ble_eq_true rfl) ?_
  refine x_istore_n F [(3, .int (pairI a b)), (0, .ref (ad 3)), (1, .int a), (2, .int b)] dX0_debtOf_5 rfl (by decide) rfl ?_
  refine x_iload_n F dX0_debtOf_6 rfl 0 rfl ?_
  refine x_if_lt F 25 dX0_debtOf_7 (by decide) (fun h7 => ?_) (fun h7 => ?_)
  · refine x_lconst F (v := 0) dX0_debtOf_25 (by decide) ?_
    rw [hQ]
    exact x_lret F hr hlk ⟨by simp [debtF, isP, *], by simp [debtF, isP, *]⟩ dX0_debtOf_26
  · refine x_iload_n F dX0_debtOf_10 rfl 0 rfl ?_
    refine x_bipush F (v := 25) dX0_debtOf_11 (by decide) ?_
    refine x_icmp_ge F 25 dX0_debtOf_13 (by decide) (fun h13 => ?_) (fun h13 => ?_)
    · refine x_lconst F (v := 0) dX0_debtOf_25 (by decide) ?_
      rw [hQ]
      exact x_lret F hr hlk ⟨by simp [debtF, isP, *], by simp [debtF, isP, *]⟩ dX0_debtOf_26
    · refine x_aload_n F dX0_debtOf_16 rfl 1 rfl ?_
      refine g_X0_18 F (hR 3 (by decide)) sc_3 rfl dX0_debtOf_17 ?_
      refine x_iload_n F dX0_debtOf_20 rfl 0 rfl ?_
      refine y_lald F (hR 10 (by decide)) ss_10 (by first | exact vin_of (n := 25) (by decide) ‹_› ‹_› | exact vin_lt (n := 25) (by decide) ‹_› ‹_›) dX0_debtOf_21 ?_
      refine x_goto F 26 dX0_debtOf_22 (by decide) ?_
      rw [hQ]
      exact x_lret F hr hlk ⟨by simp [debtF, isP, *], by simp [debtF, isP, *]⟩ dX0_debtOf_26
set_option maxHeartbeats 4000000 in
set_option maxRecDepth 100000 in
/-- Network.addDebt -/
theorem c_X0_addDebt (l : Launch) (D : va_G) (cy : Nat → ClassId) (lo : Nat) (R : List Nat) (ad : Nat → Nat) (q : Nat → Nat → Nat) (ns nt : Nat) (I : Nat → Nat → Int32) (J : Nat → Nat → Int64) (hR : ∀ r, r < 19 → r ∈ R) (a : Int32) (b : Int32) (x : Int64) : k_Cv l yX0_addDebt cX0_addDebt 7 none 1 22 D cy lo R ad (k_c cy ad q ns nt I J) [.ref (ad 3), .int a, .int b, .long x] (k_c cy ad q ns nt I (addDebtJ J a b x)) := by
  refine k_metQ (by decide +kernel) (Nat.le_of_ble_eq_true rfl) ?_
  intro p e s m args below meth c Q F hr hlk hnm hQ
  refine x_iload_n F dX0_addDebt_0 rfl 1 rfl ?_
  refine x_iload_n F dX0_addDebt_1 rfl 2 rfl ?_
  refine z_callSNi F [.int a, .int b] (c_X4_pairOf l D cy lo R ad _ a b) mc_X4_pairOf ms_X4_pairOf lk_X0_31 rfl rfl dX0_addDebt_2 ⟨Nat.le_of_ble_eq_true rfl, Nat.le_of_ble_eq_true rfl⟩ ⟨Nat.le_of_ble_eq_true rfl, Nat.le_of_ble_eq_true rfl⟩ (Nat.le_of_ble_eq_true rfl) ?_
  refine x_istore F [(5, .int (pairI a b)), (0, .ref (ad 3)), (1, .int a), (2, .int b), (3, .long x)] dX0_addDebt_5 (by decide) rfl ?_
  refine x_iload_n F dX0_addDebt_7 rfl 3 rfl ?_
  refine x_iload_n F dX0_addDebt_8 rfl 2 rfl ?_
  refine z_callSNi F [.int b, .int a] (c_X4_pairOf l D cy lo R ad _ b a) mc_X4_pairOf ms_X4_pairOf lk_X0_31 rfl rfl dX0_addDebt_9 ⟨Nat.le_of_ble_eq_true rfl, Nat.le_of_ble_eq_true rfl⟩ ⟨Nat.le_of_ble_eq_true rfl, Nat.le_of_ble_eq_true rfl⟩ (Nat.le_of_ble_eq_true rfl) ?_
  refine x_istore F [(6, .int (pairI b a)), (5, .int (pairI a b)), (0, .ref (ad 3)), (1, .int a), (2, .int b), (3, .long x)] dX0_addDebt_12 (by decide) rfl ?_
  refine x_iload F dX0_addDebt_14 1 rfl ?_
  refine x_if_lt F 60 dX0_addDebt_16 (by decide) (fun h16 => ?_) (fun h16 => ?_)
  · rw [hQ]
    exact x_vret F hr hlk (by simp [addDebtJ, addJ, isP, *]) dX0_addDebt_60
  · refine x_iload F dX0_addDebt_19 1 rfl ?_
    refine x_bipush F (v := 25) dX0_addDebt_21 (by decide) ?_
    refine x_icmp_ge F 60 dX0_addDebt_23 (by decide) (fun h23 => ?_) (fun h23 => ?_)
    · rw [hQ]
      exact x_vret F hr hlk (by simp [addDebtJ, addJ, isP, *]) dX0_addDebt_60
    · refine x_iload F dX0_addDebt_26 0 rfl ?_
      refine x_if_lt F 60 dX0_addDebt_28 (by decide) (fun h28 => ?_) (fun h28 => ?_)
      · rw [hQ]
        exact x_vret F hr hlk (by simp [addDebtJ, addJ, isP, *]) dX0_addDebt_60
      · refine x_iload F dX0_addDebt_31 0 rfl ?_
        refine x_bipush F (v := 25) dX0_addDebt_33 (by decide) ?_
        refine x_icmp_ge F 60 dX0_addDebt_35 (by decide) (fun h35 => ?_) (fun h35 => ?_)
        · rw [hQ]
          exact x_vret F hr hlk (by simp [addDebtJ, addJ, isP, *]) dX0_addDebt_60
        · refine x_aload_n F dX0_addDebt_38 rfl 2 rfl ?_
          refine g_X0_18 F (hR 3 (by decide)) sc_3 rfl dX0_addDebt_39 ?_
          refine x_iload F dX0_addDebt_42 1 rfl ?_
          refine x_dup2 F dX0_addDebt_44 rfl rfl ?_
          refine y_lald F (hR 10 (by decide)) ss_10 (by first | exact vin_of (n := 25) (by decide) ‹_› ‹_› | exact vin_lt (n := 25) (by decide) ‹_› ‹_›) dX0_addDebt_45 ?_
          refine x_lload_n F dX0_addDebt_46 rfl 5 rfl ?_
          refine x_ladd F dX0_addDebt_47 ?_
          refine y_last F (hR 10 (by decide)) ss_10 (by first | exact vin_of (n := 25) (by decide) ‹_› ‹_› | exact vin_lt (n := 25) (by decide) ‹_› ‹_›) dX0_addDebt_48 ?_
          refine x_aload_n F dX0_addDebt_49 rfl 2 rfl ?_
          refine g_X0_18 F (hR 3 (by decide)) sc_3 rfl dX0_addDebt_50 ?_
          refine x_iload F dX0_addDebt_53 0 rfl ?_
          refine x_dup2 F dX0_addDebt_55 rfl rfl ?_
          refine y_lald F (hR 10 (by decide)) ss_10 (by first | exact vin_of (n := 25) (by decide) ‹_› ‹_› | exact vin_lt (n := 25) (by decide) ‹_› ‹_›) dX0_addDebt_56 ?_
          refine x_lload_n F dX0_addDebt_57 rfl 5 rfl ?_
          refine x_lsub F dX0_addDebt_58 ?_
          refine y_last F (hR 10 (by decide)) ss_10 (by first | exact vin_of (n := 25) (by decide) ‹_› ‹_› | exact vin_lt (n := 25) (by decide) ‹_› ‹_›) dX0_addDebt_59 ?_
          rw [hQ]
          exact x_vret F hr hlk (by simp [addDebtJ, addJ, isP, *]) dX0_addDebt_60
set_option maxHeartbeats 4000000 in
set_option maxRecDepth 100000 in
/-- Network.isOpen -/
theorem c_X0_isOpen (l : Launch) (D : va_G) (cy : Nat → ClassId) (lo : Nat) (R : List Nat) (ad : Nat → Nat) (q : Nat → Nat → Nat) (ns nt : Nat) (I : Nat → Nat → Int32) (J : Nat → Nat → Int64) (hR : ∀ r, r < 19 → r ∈ R) (a : Int32) (b : Int32) : k_Ci l yX0_isOpen cX0_isOpen 4 (some .boolean) 1 22 D cy lo R ad (k_c cy ad q ns nt I J) [.ref (ad 3), .int a, .int b] (k_b (openF I J a b)) (k_c cy ad q ns nt I J) := by
  refine k_metQ (by decide +kernel) (Nat.le_of_ble_eq_true rfl) ?_
  intro p e s m args below meth c Q F hr hlk hnm hQ
  refine x_iload_n F dX0_isOpen_0 rfl 1 rfl ?_
  refine x_iload_n F dX0_isOpen_1 rfl 2 rfl ?_
  refine z_callSNi F [.int a, .int b] (c_X4_pairOf l D cy lo R ad _ a b) mc_X4_pairOf ms_X4_pairOf lk_X0_31 rfl rfl dX0_isOpen_2 ⟨Nat.le_of_ble_eq_true rfl, Nat.le_of_ble_eq_true rfl⟩ ⟨Nat.le_of_ble_eq_true rfl, Nat.le_of_ble_eq_true rfl⟩ (Nat.le_of_ble_eq_true rfl) ?_
  refine x_istore_n F [(3, .int (pairI a b)), (0, .ref (ad 3)), (1, .int a), (2, .int b)] dX0_isOpen_5 rfl (by decide) rfl ?_
  refine x_iload_n F dX0_isOpen_6 rfl 0 rfl ?_
  refine x_if_lt F 55 dX0_isOpen_7 (by decide) (fun h7 => ?_) (fun h7 => ?_)
  · refine x_iconst F (v := 0) dX0_isOpen_55 (by decide) ?_
    rw [hQ]
    exact x_zret F hr hlk (by decide) ⟨by simp [openF, isP, k_b, *], by simp [openF, isP, k_b, *]⟩ dX0_isOpen_56
  · refine x_iload_n F dX0_isOpen_10 rfl 0 rfl ?_
    refine x_bipush F (v := 25) dX0_isOpen_11 (by decide) ?_
    refine x_icmp_ge F 55 dX0_isOpen_13 (by decide) (fun h13 => ?_) (fun h13 => ?_)
    · refine x_iconst F (v := 0) dX0_isOpen_55 (by decide) ?_
      rw [hQ]
      exact x_zret F hr hlk (by decide) ⟨by simp [openF, isP, k_b, *], by simp [openF, isP, k_b, *]⟩ dX0_isOpen_56
    · refine x_aload_n F dX0_isOpen_16 rfl 1 rfl ?_
      refine g_X0_9 F (hR 3 (by decide)) sc_3 rfl dX0_isOpen_17 ?_
      refine x_iload_n F dX0_isOpen_20 rfl 0 rfl ?_
      refine y_iald F (hR 8 (by decide)) ss_8 (by first | exact vin_of (n := 25) (by decide) ‹_› ‹_› | exact vin_lt (n := 25) (by decide) ‹_› ‹_›) dX0_isOpen_21 ?_
      refine x_iconst F (v := -1) dX0_isOpen_22 (by decide) ?_
      refine x_icmp_eq F 55 dX0_isOpen_23 (by decide) (fun h23 => ?_) (fun h23 => ?_)
      · refine x_iconst F (v := 0) dX0_isOpen_55 (by decide) ?_
        rw [hQ]
        exact x_zret F hr hlk (by decide) ⟨by simp [openF, isP, k_b, *], by simp [openF, isP, k_b, *]⟩ dX0_isOpen_56
      · refine x_aload_n F dX0_isOpen_26 rfl 1 rfl ?_
        refine g_X0_18 F (hR 3 (by decide)) sc_3 rfl dX0_isOpen_27 ?_
        refine x_iload_n F dX0_isOpen_30 rfl 0 rfl ?_
        refine y_lald F (hR 10 (by decide)) ss_10 (by first | exact vin_of (n := 25) (by decide) ‹_› ‹_› | exact vin_lt (n := 25) (by decide) ‹_› ‹_›) dX0_isOpen_31 ?_
        refine x_aload_n F dX0_isOpen_32 rfl 1 rfl ?_
        refine g_X0_9 F (hR 3 (by decide)) sc_3 rfl dX0_isOpen_33 ?_
        refine x_iload_n F dX0_isOpen_36 rfl 0 rfl ?_
        refine y_iald F (hR 8 (by decide)) ss_8 (by first | exact vin_of (n := 25) (by decide) ‹_› ‹_› | exact vin_lt (n := 25) (by decide) ‹_› ‹_›) dX0_isOpen_37 ?_
        refine x_i2l F dX0_isOpen_38 ?_
        refine x_ladd F dX0_isOpen_39 ?_
        refine x_aload_n F dX0_isOpen_40 rfl 1 rfl ?_
        refine g_X0_15 F (hR 3 (by decide)) sc_3 rfl dX0_isOpen_41 ?_
        refine x_iload_n F dX0_isOpen_44 rfl 0 rfl ?_
        refine y_iald F (hR 9 (by decide)) ss_9 (by first | exact vin_of (n := 25) (by decide) ‹_› ‹_› | exact vin_lt (n := 25) (by decide) ‹_› ‹_›) dX0_isOpen_45 ?_
        refine x_i2l F dX0_isOpen_46 ?_
        refine x_lcmp F dX0_isOpen_47 ?_
        refine x_if_gt F 55 dX0_isOpen_48 (by decide) (fun h48 => ?_) (fun h48 => ?_)
        · rw [lg_cmp_gt] at h48
          refine x_iconst F (v := 0) dX0_isOpen_55 (by decide) ?_
          rw [hQ]
          exact x_zret F hr hlk (by decide) ⟨by simp [openF, isP, k_b, *], by simp [openF, isP, k_b, *]⟩ dX0_isOpen_56
        · rw [lg_cmp_gt] at h48
          refine x_iconst F (v := 1) dX0_isOpen_51 (by decide) ?_
          refine x_goto F 56 dX0_isOpen_52 (by decide) ?_
          rw [hQ]
          exact x_zret F hr hlk (by decide) ⟨by simp [openF, isP, k_b, *], by simp [openF, isP, k_b, *]⟩ dX0_isOpen_56
