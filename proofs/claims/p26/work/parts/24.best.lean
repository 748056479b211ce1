def chargeJ (I : Nat → Nat → Int32) (J : Nat → Nat → Int64) (r : Nat) : Nat → Nat → Nat → Int64
  | 0 => J
  | k + 1 => if k = 0 then J else addChJ (addDebtJ (chargeJ I J r k) (carAt I (r + 1) (nI k - 1)) (carAt I (r + 1) (nI k)) (rateF I (carAt I (r + 1) (nI k - 1)) (carAt I (r + 1) (nI k))).toInt64) r (pairI (carAt I (r + 1) (nI k - 1)) (carAt I (r + 1) (nI k))) (rateF I (carAt I (r + 1) (nI k - 1)) (carAt I (r + 1) (nI k)))
def becomeI (I : Nat → Nat → Int32) (r o : Nat) : Nat → Nat → Nat → Int32
  | 0 => wI I r 1 0
  | k + 1 => addRI (becomeI I r o k) r (carAt (becomeI I r o k) o (nI k))
theorem become_len {I : Nat → Nat → Int32} {r o : Nat} (h : o ≠ r) (h2 : o ≠ r + 1) : ∀ k, becomeI I r o k o 1 = I o 1 := by
  intro k
  induction k with
  | zero => rw [becomeI, wI_eq, if_neg (by omega)]
  | succ k ih =>
    rw [becomeI, addRI]
    split
    · rw [wI_eq, if_neg (by omega), wI_eq, if_neg (by omega), ih]
    · exact ih
def condF (I : Nat → Nat → Int32) (J : Nat → Nat → Int64) (a : Int32) (k : Nat) : Bool := openF I J a (nI k) && isCar a && decide (overF I a (nI k) = I 11 a.toNatClampNeg)
def nextG (I : Nat → Nat → Int32) (J : Nat → Nat → Int64) (a : Int32) : Nat → Nat → Int32
  | 0, _ => -1
  | d + 1, k => if condF I J a k = true then nI k else nextG I J a d (k + 1)
def nextF (I : Nat → Nat → Int32) (J : Nat → Nat → Int64) (a : Int32) : Int32 := nextG I J a 5 0
theorem next_no {I : Nat → Nat → Int32} {J : Nat → Nat → Int64} {a : Int32} {k : Nat} (hk : k < 5) (h : condF I J a k = false) : nextG I J a (5 - k) k = nextG I J a (5 - (k + 1)) (k + 1) := by
  rw [show 5 - k = (5 - (k + 1)) + 1 by omega, nextG, h]; simp
theorem next_yes {I : Nat → Nat → Int32} {J : Nat → Nat → Int64} {a : Int32} {k : Nat} (hk : k < 5) (h : condF I J a k = true) : nextG I J a (5 - k) k = nI k := by
  rw [show 5 - k = (5 - (k + 1)) + 1 by omega, nextG, h]; simp
def fillI (I : Nat → Nat → Int32) (r n : Nat) (v : Int32) : Nat → Nat → Int32 := fun r' k' => if r' = r ∧ k' < n then v else I r' k'
theorem fill_0 (I : Nat → Nat → Int32) (r : Nat) (v : Int32) : fillI I r 0 v = I := by
  funext x y
  simp [fillI]
theorem fill_s (I : Nat → Nat → Int32) (r n : Nat) (v : Int32) : wI (fillI I r n v) r n v = fillI I r (n + 1) v := by
  funext x y
  rw [wI_eq, fillI, fillI]
  by_cases h1 : x = r
  · by_cases h2 : y = n
    · simp [h1, h2]
    · by_cases h3 : y < n
      · have : y < n + 1 := by omega
        simp [h1, h2, h3, this]
      · have : ¬ y < n + 1 := by omega
        simp [h1, h2, h3, this]
  · simp [h1]
def relaxI (I : Nat → Nat → Int32) (J : Nat → Nat → Int64) (f n : Nat) : Nat → Nat → Int32 :=
  if openF I J (nI f) (nI n) = true then wI I 11 (nI f).toNatClampNeg (if overF I (nI f) (nI n) < I 11 (nI f).toNatClampNeg then overF I (nI f) (nI n) else I 11 (nI f).toNatClampNeg) else I
def innerI (I : Nat → Nat → Int32) (J : Nat → Nat → Int64) (f : Nat) : Nat → Nat → Nat → Int32
  | 0 => I
  | n + 1 => relaxI (innerI I J f n) J f n
def midI (I : Nat → Nat → Int32) (J : Nat → Nat → Int64) : Nat → Nat → Nat → Int32
  | 0 => I
  | f + 1 => innerI (midI I J f) J f 5
def outI (I : Nat → Nat → Int32) (J : Nat → Nat → Int64) : Nat → Nat → Nat → Int32
  | 0 => I
  | d + 1 => midI (outI I J d) J 5
def weigh0 (I : Nat → Nat → Int32) (b : Int32) : Nat → Nat → Int32 := if isCar b = true then wI (fillI I 11 5 1000000) 11 b.toNatClampNeg 0 else fillI I 11 5 1000000
def weighI (I : Nat → Nat → Int32) (J : Nat → Nat → Int64) (b : Int32) : Nat → Nat → Int32 := outI (weigh0 I b) J 4
def goF (I : Nat → Nat → Int32) (J : Nat → Nat → Int64) (r : Nat) (a b : Int32) : Nat → Int32 × (Nat → Nat → Int32)
  | 0 => (a, addRI (wI I r 1 0) r a)
  | j + 1 => if (goF I J r a b j).1 = b then goF I J r a b j else (nextF (goF I J r a b j).2 J (goF I J r a b j).1, addRI (goF I J r a b j).2 r (nextF (goF I J r a b j).2 J (goF I J r a b j).1))
theorem go_0 {I : Nat → Nat → Int32} {J : Nat → Nat → Int64} {r : Nat} {a b : Int32} : goF I J r a b 0 = (a, addRI (wI I r 1 0) r a) := rfl
theorem go_stay {I : Nat → Nat → Int32} {J : Nat → Nat → Int64} {r : Nat} {a b : Int32} {j : Nat} (h : (goF I J r a b j).1 = b) : ∀ m, j ≤ m → goF I J r a b m = goF I J r a b j := by
  intro m
  induction m with
  | zero => intro hm; rw [show j = 0 by omega]
  | succ m ih =>
    intro hm
    rcases Nat.lt_or_ge m j with z | z
    · rw [show j = m + 1 by omega]
    · have e := ih z
      rw [goF, e, if_pos h]
def fbB (I : Nat → Nat → Int32) (J : Nat → Nat → Int64) (a b : Int32) : Bool := isCar a && isCar b && decide (weighI I J b 11 a.toNatClampNeg < 1000000)
def fbI (I : Nat → Nat → Int32) (J : Nat → Nat → Int64) (a b : Int32) (r : Nat) : Nat → Nat → Int32 :=
  if (isCar a && isCar b) = true then (if weighI I J b 11 a.toNatClampNeg < 1000000 then (goF (weighI I J b) J r a b 4).2 else weighI I J b) else I
set_option maxHeartbeats 4000000 in
set_option maxRecDepth 100000 in
/-- Network.charge -/
theorem c_X0_charge (l : Launch) (D : va_G) (cy : Nat → ClassId) (lo : Nat) (R : List Nat) (ad : Nat → Nat) (q : Nat → Nat → Nat) (ns nt : Nat) (I : Nat → Nat → Int32) (J : Nat → Nat → Int64) (hR : ∀ r, r < 19 → r ∈ R) (r : Nat) (hk : 80 ≤ r ∧ r % 4 = 0) (h0 : r ∈ R) (h1 : r + 1 ∈ R) (h2 : r + 1 + 1 ∈ R) (h3 : r + 3 ∈ R) (n : Nat) (hlen : I (r + 1) 1 = nI n) (hn5 : n ≤ 5) (hn1 : 1 ≤ n) : k_Cv l yX0_charge cX0_charge 6 none 2 48 D cy lo R ad (k_c cy ad q ns nt I J) [.ref (ad 3), .ref (ad r)] (k_c cy ad q ns nt I (chargeJ I J r n)) := by
  refine k_metQ (by decide +kernel) (Nat.le_of_ble_eq_true rfl) ?_
  intro p e s m args below meth c Q F hr hlk hnm hQ
  refine x_iconst F (v := 1) dX0_charge_0 (by decide) ?_
  refine x_istore_n F [(2, .int 1), (0, .ref (ad 3)), (1, .ref (ad r))] dX0_charge_1 rfl (by decide) rfl ?_
  have lp2 : ∀ (fu2 : Nat) (k : Nat), n - k < fu2 → (1 ≤ k) → (k ≤ n) → XW D lo p l e { frames := 2, cells := 0, slots := 0, locals := 48 } s m args below meth c 6 0 0 Q R ad (k_c cy ad q ns nt I (chargeJ I J r k)) 2 [(2, .int (nI k)), (0, .ref (ad 3)), (1, .ref (ad r))] [] := by
    intro fu2
    induction fu2 with
    | zero => intro k hf2; exact absurd hf2 (Nat.not_lt_zero _)
    | succ fu2 ih2 =>
      intro k hf2 hk1 hkn
      refine x_iload_n F dX0_charge_2 rfl 0 rfl ?_
      refine x_aload_n F dX0_charge_3 rfl 2 rfl ?_
      refine g_X0_52 F h0 (sc_tlk hk) rfl dX0_charge_4 ?_
      refine g_X0_35 F h1 (sc_rte (Or.inr ⟨by have := hk; omega, by have := hk; omega⟩)) rfl dX0_charge_7 ?_
      refine x_icmp_ge F 71 dX0_charge_10 (by decide) (fun h10 => ?_) (fun h10 => ?_)
      · rw [hlen] at h10
        have hk9 := lp_exit (by omega) hkn h10
        subst hk9
        rw [hQ]
        exact x_vret F hr hlk rfl dX0_charge_71
      · rw [hlen] at h10
        have hk9 := lp_go (by omega) hkn h10
        refine x_aload_n F dX0_charge_13 rfl 2 rfl ?_
        refine g_X0_52 F h0 (sc_tlk hk) rfl dX0_charge_14 ?_
        refine x_iload_n F dX0_charge_17 rfl 0 rfl ?_
        refine x_iconst F (v := 1) dX0_charge_18 (by decide) ?_
        refine x_isub F dX0_charge_19 ?_
        refine z_callVi F [.int ((nI k) - 1)] (c_X1_carrierAt l D cy lo R ad q ns nt I (chargeJ I J r k) hR (r + 1) ((nI k) - 1) (Or.inr ⟨by have := hk; omega, by have := hk; omega⟩) h1 h2) mc_X1_carrierAt mv_X1_carrierAt lk_X0_41 h1 (sc_rte (Or.inr ⟨by have := hk; omega, by have := hk; omega⟩)) rfl rfl rfl dX0_charge_20 ⟨Nat.le_of_ble_eq_true rfl, Nat.le_of_ble_eq_true rfl⟩ ⟨Nat.le_of_ble_eq_true rfl, Nat.le_of_ble_eq_true rfl⟩ (Nat.le_of_ble_eq_true rfl) ?_
        refine x_istore_n F [(3, .int (carAt I (r + 1) ((nI k) - 1))), (2, .int (nI k)), (0, .ref (ad 3)), (1, .ref (ad r))] dX0_charge_23 rfl (by decide) rfl ?_
        refine x_aload_n F dX0_charge_24 rfl 3 rfl ?_
        refine g_X0_52 F h0 (sc_tlk hk) rfl dX0_charge_25 ?_
        refine x_iload_n F dX0_charge_28 rfl 1 rfl ?_
        refine z_callVi F [.int (nI k)] (c_X1_carrierAt l D cy lo R ad q ns nt I (chargeJ I J r k) hR (r + 1) (nI k) (Or.inr ⟨by have := hk; omega, by have := hk; omega⟩) h1 h2) mc_X1_carrierAt mv_X1_carrierAt lk_X0_41 h1 (sc_rte (Or.inr ⟨by have := hk; omega, by have := hk; omega⟩)) rfl rfl rfl dX0_charge_29 ⟨Nat.le_of_ble_eq_true rfl, Nat.le_of_ble_eq_true rfl⟩ ⟨Nat.le_of_ble_eq_true rfl, Nat.le_of_ble_eq_true rfl⟩ (Nat.le_of_ble_eq_true rfl) ?_
        refine x_istore F [(4, .int (carAt I (r + 1) (nI k))), (3, .int (carAt I (r + 1) ((nI k) - 1))), (2, .int (nI k)), (0, .ref (ad 3)), (1, .ref (ad r))] dX0_charge_32 (by decide) rfl ?_
        refine x_aload_n F dX0_charge_34 rfl 3 rfl ?_
        refine x_iload_n F dX0_charge_35 rfl 1 rfl ?_
        refine x_iload F dX0_charge_36 0 rfl ?_
        refine z_callVi F [.int (carAt I (r + 1) ((nI k) - 1)), .int (carAt I (r + 1) (nI k))] (c_X0_rateOf l D cy lo R ad q ns nt I (chargeJ I J r k) hR (carAt I (r + 1) ((nI k) - 1)) (carAt I (r + 1) (nI k)) ) mc_X0_rateOf mv_X0_rateOf lk_X0_49 (hR 3 (by decide)) sc_3 rfl rfl rfl dX0_charge_38 ⟨Nat.le_of_ble_eq_true rfl, Nat.le_of_ble_eq_true rfl⟩ ⟨Nat.le_of_ble_eq_true rfl, Nat.le_of_ble_eq_true rfl⟩ (Nat.le_of_ble_eq_true rfl) ?_
        refine x_istore F [(5, .int (rateF I (carAt I (r + 1) ((nI k) - 1)) (carAt I (r + 1) (nI k)))), (4, .int (carAt I (r + 1) (nI k))), (3, .int (carAt I (r + 1) ((nI k) - 1))), (2, .int (nI k)), (0, .ref (ad 3)), (1, .ref (ad r))] dX0_charge_41 (by decide) rfl ?_
        refine x_aload_n F dX0_charge_43 rfl 4 rfl ?_
        refine x_iload_n F dX0_charge_44 rfl 2 rfl ?_
        refine x_iload F dX0_charge_45 1 rfl ?_
        refine x_iload F dX0_charge_47 0 rfl ?_
        refine x_i2l F dX0_charge_49 ?_
        refine z_callVv F [.int (carAt I (r + 1) ((nI k) - 1)), .int (carAt I (r + 1) (nI k)), .long ((rateF I (carAt I (r + 1) ((nI k) - 1)) (carAt I (r + 1) (nI k))).toInt64)] (c_X0_addDebt l D cy lo R ad q ns nt I (chargeJ I J r k) hR (carAt I (r + 1) ((nI k) - 1)) (carAt I (r + 1) (nI k)) ((rateF I (carAt I (r + 1) ((nI k) - 1)) (carAt I (r + 1) (nI k))).toInt64) ) mc_X0_addDebt mv_X0_addDebt lk_X0_58 (hR 3 (by decide)) sc_3 rfl rfl rfl dX0_charge_50 ⟨Nat.le_of_ble_eq_true rfl, Nat.le_of_ble_eq_true rfl⟩ ⟨Nat.le_of_ble_eq_true rfl, Nat.le_of_ble_eq_true rfl⟩ (Nat.le_of_ble_eq_true rfl) ?_
        refine x_aload_n F dX0_charge_53 rfl 5 rfl ?_
        refine x_iload_n F dX0_charge_54 rfl 2 rfl ?_
        refine x_iload F dX0_charge_55 1 rfl ?_
        refine z_callSNi F [.int (carAt I (r + 1) ((nI k) - 1)), .int (carAt I (r + 1) (nI k))] (c_X4_pairOf l D cy lo R ad _ (carAt I (r + 1) ((nI k) - 1)) (carAt I (r + 1) (nI k))) mc_X4_pairOf ms_X4_pairOf lk_X0_31 rfl rfl dX0_charge_57 ⟨Nat.le_of_ble_eq_true rfl, Nat.le_of_ble_eq_true rfl⟩ ⟨Nat.le_of_ble_eq_true rfl, Nat.le_of_ble_eq_true rfl⟩ (Nat.le_of_ble_eq_true rfl) ?_
        refine x_iload F dX0_charge_60 0 rfl ?_
        refine z_callVv F [.int (pairI (carAt I (r + 1) ((nI k) - 1)) (carAt I (r + 1) (nI k))), .int (rateF I (carAt I (r + 1) ((nI k) - 1)) (carAt I (r + 1) (nI k)))] (c_X3_addCharge l D cy lo R ad q ns nt I (addDebtJ (chargeJ I J r k) (carAt I (r + 1) ((nI k) - 1)) (carAt I (r + 1) (nI k)) ((rateF I (carAt I (r + 1) ((nI k) - 1)) (carAt I (r + 1) (nI k))).toInt64)) hR r (pairI (carAt I (r + 1) ((nI k) - 1)) (carAt I (r + 1) (nI k))) (rateF I (carAt I (r + 1) ((nI k) - 1)) (carAt I (r + 1) (nI k))) hk h0 h1 h2 h3) mc_X3_addCharge mv_X3_addCharge lk_X0_62 h0 (sc_tlk hk) rfl rfl rfl dX0_charge_62 ⟨Nat.le_of_ble_eq_true rfl, Nat.le_of_ble_eq_true rfl⟩ ⟨Nat.le_of_ble_eq_true rfl, Nat.le_of_ble_eq_true rfl⟩ (Nat.le_of_ble_eq_true rfl) ?_
        refine x_iinc F [(2, .int ((nI k) + 1)), (5, .int (rateF I (carAt I (r + 1) ((nI k) - 1)) (carAt I (r + 1) (nI k)))), (4, .int (carAt I (r + 1) (nI k))), (3, .int (carAt I (r + 1) ((nI k) - 1))), (0, .ref (ad 3)), (1, .ref (ad r))] dX0_charge_65 3 rfl (by decide) rfl ?_
        refine x_goto F 2 dX0_charge_68 (by decide) ?_
        refine x_world (congrArg (fun z => k_c cy ad q ns nt I z) (show addChJ (addDebtJ (chargeJ I J r k) (carAt I (r + 1) ((nI k) - 1)) (carAt I (r + 1) (nI k)) ((rateF I (carAt I (r + 1) ((nI k) - 1)) (carAt I (r + 1) (nI k))).toInt64)) r (pairI (carAt I (r + 1) ((nI k) - 1)) (carAt I (r + 1) (nI k))) (rateF I (carAt I (r + 1) ((nI k) - 1)) (carAt I (r + 1) (nI k))) = chargeJ I J r (k + 1) by rw [chargeJ, if_neg (by omega)])) ?_
        rw [nI_1]
        refine x_sub [0, 4, 5] rfl ?_
        exact ih2 (k + 1) (by omega) (by omega) (by omega)
  refine x_world (congrArg (fun z => k_c cy ad q ns nt I z) (show J = chargeJ I J r 1 by rw [chargeJ, if_pos rfl])) ?_
  exact lp2 (n + 1) 1 (by omega) (by omega) (by omega)
set_option maxHeartbeats 4000000 in
set_option maxRecDepth 100000 in
/-- Route.become -/
theorem c_X1_become (l : Launch) (D : va_G) (cy : Nat → ClassId) (lo : Nat) (R : List Nat) (ad : Nat → Nat) (q : Nat → Nat → Nat) (ns nt : Nat) (I : Nat → Nat → Int32) (J : Nat → Nat → Int64) (hR : ∀ r, r < 19 → r ∈ R) (r : Nat) (o : Nat) (hk : r = 6 ∨ (80 ≤ r ∧ r % 4 = 1)) (hm : r ∈ R) (hn : r + 1 ∈ R) (ok : o = 6 ∨ (80 ≤ o ∧ o % 4 = 1)) (om : o ∈ R) (on : o + 1 ∈ R) (n : Nat) (hlen : I o 1 = nI n) (hn5 : n ≤ 5) (hne : o ≠ r) (hne2 : o ≠ r + 1) : k_Cv l yX1_become cX1_become 3 none 1 21 D cy lo R ad (k_c cy ad q ns nt I J) [.ref (ad r), .ref (ad o)] (k_c cy ad q ns nt (becomeI I r o n) J) := by
  refine k_metQ (by decide +kernel) (Nat.le_of_ble_eq_true rfl) ?_
  intro p e s m args below meth c Q F hr hlk hnm hQ
  refine x_aload_n F dX1_become_0 rfl 0 rfl ?_
  refine z_callVv F [] (c_X1_clear l D cy lo R ad q ns nt I J hR r hk hm hn) mc_X1_clear mv_X1_clear lk_X1_19 hm (sc_rte hk) rfl rfl rfl dX1_become_1 ⟨Nat.le_of_ble_eq_true rfl, Nat.le_of_ble_eq_true rfl⟩ ⟨Nat.le_of_ble_eq_true rfl, Nat.le_of_ble_eq_true rfl⟩ (Nat.le_of_ble_eq_true rfl) ?_
  refine x_iconst F (v := 0) dX1_become_4 (by decide) ?_
  refine x_istore_n F [(2, .int 0), (0, .ref (ad r)), (1, .ref (ad o))] dX1_become_5 rfl (by decide) rfl ?_
  have lp6 : ∀ (fu6 : Nat) (k : Nat), n - k < fu6 → (k ≤ n) → XW D lo p l e { frames := 1, cells := 0, slots := 0, locals := 21 } s m args below meth c 3 0 0 Q R ad (k_c cy ad q ns nt (becomeI I r o k) J) 6 [(2, .int (nI k)), (0, .ref (ad r)), (1, .ref (ad o))] [] := by
    intro fu6
    induction fu6 with
    | zero => intro k hf6; exact absurd hf6 (Nat.not_lt_zero _)
    | succ fu6 ih6 =>
      intro k hf6 hkn
      refine x_iload_n F dX1_become_6 rfl 0 rfl ?_
      refine x_aload_n F dX1_become_7 rfl 2 rfl ?_
      refine g_X1_15 F om (sc_rte ok) rfl dX1_become_8 ?_
      refine x_icmp_ge F 29 dX1_become_11 (by decide) (fun h11 => ?_) (fun h11 => ?_)
      · rw [become_len hne hne2, hlen] at h11
        have hk9 := lp_exit (by omega) hkn h11
        subst hk9
        rw [hQ]
        exact x_vret F hr hlk rfl dX1_become_29
      · rw [become_len hne hne2, hlen] at h11
        have hk9 := lp_go (by omega) hkn h11
        refine x_aload_n F dX1_become_14 rfl 1 rfl ?_
        refine x_aload_n F dX1_become_15 rfl 2 rfl ?_
        refine x_iload_n F dX1_become_16 rfl 0 rfl ?_
        refine z_callVi F [.int (nI k)] (c_X1_carrierAt l D cy lo R ad q ns nt (becomeI I r o k) J hR o (nI k) ok om on) mc_X1_carrierAt mv_X1_carrierAt lk_X1_22 om (sc_rte ok) rfl rfl rfl dX1_become_17 ⟨Nat.le_of_ble_eq_true rfl, Nat.le_of_ble_eq_true rfl⟩ ⟨Nat.le_of_ble_eq_true rfl, Nat.le_of_ble_eq_true rfl⟩ (Nat.le_of_ble_eq_true rfl) ?_
        refine z_callVv F [.int (carAt (becomeI I r o k) o (nI k))] (c_X1_add l D cy lo R ad q ns nt (becomeI I r o k) J hR r (carAt (becomeI I r o k) o (nI k)) hk hm hn) mc_X1_add mv_X1_add lk_X1_26 hm (sc_rte hk) rfl rfl rfl dX1_become_20 ⟨Nat.le_of_ble_eq_true rfl, Nat.le_of_ble_eq_true rfl⟩ ⟨Nat.le_of_ble_eq_true rfl, Nat.le_of_ble_eq_true rfl⟩ (Nat.le_of_ble_eq_true rfl) ?_
        refine x_iinc F [(2, .int ((nI k) + 1)), (0, .ref (ad r)), (1, .ref (ad o))] dX1_become_23 0 rfl (by decide) rfl ?_
        refine x_goto F 6 dX1_become_26 (by decide) ?_
        refine x_world (congrArg (fun z => k_c cy ad q ns nt z J) (show addRI (becomeI I r o k) r (carAt (becomeI I r o k) o (nI k)) = becomeI I r o (k + 1) by rw [becomeI])) ?_
        rw [nI_1]
        exact ih6 (k + 1) (by omega) (by omega)
  refine x_world (congrArg (fun z => k_c cy ad q ns nt z J) (show wI I r 1 0 = becomeI I r o 0 by rw [becomeI])) ?_
  exact lp6 (n + 1) 0 (by omega) (by omega)
set_option maxHeartbeats 4000000 in
set_option maxRecDepth 100000 in
/-- Network.nextOnBest -/
theorem c_X0_nextOnBest (l : Launch) (D : va_G) (cy : Nat → ClassId) (lo : Nat) (R : List Nat) (ad : Nat → Nat) (q : Nat → Nat → Nat) (ns nt : Nat) (I : Nat → Nat → Int32) (J : Nat → Nat → Int64) (hR : ∀ r, r < 19 → r ∈ R) (a : Int32) : k_Ci l yX0_nextOnBest cX0_nextOnBest 3 (some .int) 3 68 D cy lo R ad (k_c cy ad q ns nt I J) [.ref (ad 3), .int a] (nextF I J a) (k_c cy ad q ns nt I J) := by
  refine k_metQ (by decide +kernel) (Nat.le_of_ble_eq_true rfl) ?_
  intro p e s m args below meth c Q F hr hlk hnm hQ
  refine x_iconst F (v := 0) dX0_nextOnBest_0 (by decide) ?_
  refine x_istore_n F [(2, .int 0), (0, .ref (ad 3)), (1, .int a)] dX0_nextOnBest_1 rfl (by decide) rfl ?_
  have lp2 : ∀ (fu2 : Nat) (k : Nat), 5 - k < fu2 → (k ≤ 5) → (nextF I J a = nextG I J a (5 - k) k) → XW D lo p l e { frames := 3, cells := 0, slots := 0, locals := 68 } s m args below meth c 3 0 0 Q R ad (k_c cy ad q ns nt I J) 2 [(2, .int (nI k)), (0, .ref (ad 3)), (1, .int a)] [] := by
    intro fu2
    induction fu2 with
    | zero => intro k hf2; exact absurd hf2 (Nat.not_lt_zero _)
    | succ fu2 ih2 =>
      intro k hf2 hkn hc
      refine x_iload_n F dX0_nextOnBest_2 rfl 0 rfl ?_
      refine x_iconst F (v := 5) dX0_nextOnBest_3 (by decide) ?_
      refine x_icmp_ge F 46 dX0_nextOnBest_4 (by decide) (fun h4 => ?_) (fun h4 => ?_)
      · have hk9 := lp_exit (N := 5) (by omega) hkn h4
        subst hk9
        refine x_iconst F (v := -1) dX0_nextOnBest_46 (by decide) ?_
        rw [hQ]
        exact x_iret F hr hlk ⟨by rw [hc]; rfl, rfl⟩ dX0_nextOnBest_47
      · have hk9 := lp_go (N := 5) (by omega) hkn h4
        refine x_aload_n F dX0_nextOnBest_7 rfl 1 rfl ?_
        refine x_iload_n F dX0_nextOnBest_8 rfl 2 rfl ?_
        refine x_iload_n F dX0_nextOnBest_9 rfl 0 rfl ?_
        refine z_callVi F [.int a, .int (nI k)] (c_X0_isOpen l D cy lo R ad q ns nt I J hR a (nI k) ) mc_X0_isOpen mv_X0_isOpen lk_X0_45 (hR 3 (by decide)) sc_3 rfl rfl rfl dX0_nextOnBest_10 ⟨Nat.le_of_ble_eq_true rfl, Nat.le_of_ble_eq_true rfl⟩ ⟨Nat.le_of_ble_eq_true rfl, Nat.le_of_ble_eq_true rfl⟩ (Nat.le_of_ble_eq_true rfl) ?_
        refine x_if_eq F 40 dX0_nextOnBest_13 (by decide) (fun h13 => ?_) (fun h13 => ?_)
        · rw [kb0] at h13
          refine x_iinc F [(2, .int ((nI k) + 1)), (0, .ref (ad 3)), (1, .int a)] dX0_nextOnBest_40 0 rfl (by decide) rfl ?_
          refine x_goto F 2 dX0_nextOnBest_43 (by decide) ?_
          rw [nI_1]
          exact ih2 (k + 1) (by omega) (by omega) (hc.trans (next_no hk9 (by simp [condF, *])))
        · rw [kb1] at h13
          refine x_iload_n F dX0_nextOnBest_16 rfl 2 rfl ?_
          refine z_callSNi F [.int a] (c_X4_isCarrier l D cy lo R ad _ a) mc_X4_isCarrier ms_X4_isCarrier lk_X0_66 rfl rfl dX0_nextOnBest_17 ⟨Nat.le_of_ble_eq_true rfl, Nat.le_of_ble_eq_true rfl⟩ ⟨Nat.le_of_ble_eq_true rfl, Nat.le_of_ble_eq_true rfl⟩ (Nat.le_of_ble_eq_true rfl) ?_
          refine x_if_eq F 40 dX0_nextOnBest_20 (by decide) (fun h20 => ?_) (fun h20 => ?_)
          · rw [kb0] at h20
            refine x_iinc F [(2, .int ((nI k) + 1)), (0, .ref (ad 3)), (1, .int a)] dX0_nextOnBest_40 0 rfl (by decide) rfl ?_
            refine x_goto F 2 dX0_nextOnBest_43 (by decide) ?_
            rw [nI_1]
            exact ih2 (k + 1) (by omega) (by omega) (hc.trans (next_no hk9 (by simp [condF, *])))
          · rw [kb1] at h20
            refine x_aload_n F dX0_nextOnBest_23 rfl 1 rfl ?_
            refine x_iload_n F dX0_nextOnBest_24 rfl 2 rfl ?_
            refine x_iload_n F dX0_nextOnBest_25 rfl 0 rfl ?_
            refine z_callVi F [.int a, .int (nI k)] (c_X0_weightOver l D cy lo R ad q ns nt I J hR a (nI k) ) mc_X0_weightOver mv_X0_weightOver lk_X0_84 (hR 3 (by decide)) sc_3 rfl rfl rfl dX0_nextOnBest_26 ⟨Nat.le_of_ble_eq_true rfl, Nat.le_of_ble_eq_true rfl⟩ ⟨Nat.le_of_ble_eq_true rfl, Nat.le_of_ble_eq_true rfl⟩ (Nat.le_of_ble_eq_true rfl) ?_
            refine x_aload_n F dX0_nextOnBest_29 rfl 1 rfl ?_
            refine g_X0_22 F (hR 3 (by decide)) sc_3 rfl dX0_nextOnBest_30 ?_
            refine x_iload_n F dX0_nextOnBest_33 rfl 2 rfl ?_
            refine y_iald F (hR 11 (by decide)) ss_11 (vin_car ‹_›) dX0_nextOnBest_34 ?_
            refine x_icmp_ne F 40 dX0_nextOnBest_35 (by decide) (fun h35 => ?_) (fun h35 => ?_)
            · refine x_iinc F [(2, .int ((nI k) + 1)), (0, .ref (ad 3)), (1, .int a)] dX0_nextOnBest_40 0 rfl (by decide) rfl ?_
              refine x_goto F 2 dX0_nextOnBest_43 (by decide) ?_
              rw [nI_1]
              exact ih2 (k + 1) (by omega) (by omega) (hc.trans (next_no hk9 (by simp [condF, *])))
            · refine x_iload_n F dX0_nextOnBest_38 rfl 0 rfl ?_
              rw [hQ]
              exact x_iret F hr hlk ⟨by rw [hc, next_yes hk9 (by simp [condF, *])], rfl⟩ dX0_nextOnBest_39
  exact lp2 6 0 (by omega) (by omega) rfl
set_option maxHeartbeats 4000000 in
set_option maxRecDepth 100000 in
/-- Arrays.fill -/
theorem c_J7_fill_53178 (l : Launch) (D : va_G) (cy : Nat → ClassId) (lo : Nat) (R : List Nat) (ad : Nat → Nat) (q : Nat → Nat → Nat) (ns nt : Nat) (I : Nat → Nat → Int32) (J : Nat → Nat → Int64) (hR : ∀ r, r < 19 → r ∈ R) (r : Nat) (v : Int32) (n : Nat) (hs : ∀ (f : Nat → Int32) (g : Nat → Int64), k_sh cy ad q ns nt r f g = Sum.inl (cy 0, n, Sum.inl f)) (hm : r ∈ R) (hnn : n < 2 ^ 31) : k_Cv l yJ7_fill_53178 cJ7_fill_53178 4 none 0 0 D cy lo R ad (k_c cy ad q ns nt I J) [.ref (ad r), .int v] (k_c cy ad q ns nt (fillI I r n v) J) := by
  refine k_metQ (by decide +kernel) (Nat.le_of_ble_eq_true rfl) ?_
  intro p e s m args below meth c Q F hr hlk hnm hQ
  refine x_iconst F (v := 0) dJ7_fill_53178_0 (by decide) ?_
  refine x_istore_n F [(2, .int 0), (0, .ref (ad r)), (1, .int v)] dJ7_fill_53178_1 rfl (by decide) rfl ?_
  refine x_aload_n F dJ7_fill_53178_2 rfl 1 rfl ?_
  refine x_alenI F hm (hs _ _) dJ7_fill_53178_3 ?_
  refine x_istore_n F [(3, .int (nI n)), (2, .int 0), (0, .ref (ad r)), (1, .int v)] dJ7_fill_53178_4 rfl (by decide) rfl ?_
  have lp5 : ∀ (fu5 : Nat) (k : Nat), n - k < fu5 → (k ≤ n) → XW D lo p l e { frames := 0, cells := 0, slots := 0, locals := 0 } s m args below meth c 4 0 0 Q R ad (k_c cy ad q ns nt (fillI I r k v) J) 5 [(3, .int (nI n)), (2, .int (nI k)), (0, .ref (ad r)), (1, .int v)] [] := by
    intro fu5
    induction fu5 with
    | zero => intro k hf5; exact absurd hf5 (Nat.not_lt_zero _)
    | succ fu5 ih5 =>
      intro k hf5 hkn
      refine x_iload_n F dJ7_fill_53178_5 rfl 1 rfl ?_
      refine x_iload_n F dJ7_fill_53178_6 rfl 0 rfl ?_
      refine x_icmp_ge F 20 dJ7_fill_53178_7 (by decide) (fun h7 => ?_) (fun h7 => ?_)
      · have hk9 := lp_exit (by omega) hkn h7
        subst hk9
        rw [hQ]
        exact x_vret F hr hlk rfl dJ7_fill_53178_20
      · have hk9 := lp_go (by omega) hkn h7
        refine x_aload_n F dJ7_fill_53178_10 rfl 2 rfl ?_
        refine x_iload_n F dJ7_fill_53178_11 rfl 1 rfl ?_
        refine x_iload_n F dJ7_fill_53178_12 rfl 3 rfl ?_
        refine y_iast F hm hs (vp_in_nI hk9 (by omega)) dJ7_fill_53178_13 ?_
        refine x_iinc F [(2, .int ((nI k) + 1)), (3, .int (nI n)), (0, .ref (ad r)), (1, .int v)] dJ7_fill_53178_14 1 rfl (by decide) rfl ?_
        refine x_goto F 5 dJ7_fill_53178_17 (by decide) ?_
        refine x_world (congrArg (fun z => k_c cy ad q ns nt z J) (show wI (fillI I r k v) r (nI k).toNatClampNeg v = fillI I r (k + 1) v by rw [nI_clamp (by omega), fill_s])) ?_
        rw [nI_1]
        refine x_sub [1, 0, 2, 3] rfl ?_
        exact ih5 (k + 1) (by omega) (by omega)
  refine x_world (congrArg (fun z => k_c cy ad q ns nt z J) (fill_0 I r v).symm) ?_
  exact lp5 (n + 1) 0 (by omega) (by omega)
set_option maxHeartbeats 4000000 in
set_option maxRecDepth 100000 in
/-- Network.weighWaysTo -/
theorem c_X0_weighWaysTo (l : Launch) (D : va_G) (cy : Nat → ClassId) (lo : Nat) (R : List Nat) (ad : Nat → Nat) (q : Nat → Nat → Nat) (ns nt : Nat) (I : Nat → Nat → Int32) (J : Nat → Nat → Int64) (hR : ∀ r, r < 19 → r ∈ R) (b : Int32) : k_Cv l yX0_weighWaysTo cX0_weighWaysTo 5 none 3 68 D cy lo R ad (k_c cy ad q ns nt I J) [.ref (ad 3), .int b] (k_c cy ad q ns nt (weighI I J b) J) := by
  refine k_metQ (by decide +kernel) (Nat.le_of_ble_eq_true rfl) ?_
  intro p e s m args below meth c Q F hr hlk hnm hQ
  refine x_aload_n F dX0_weighWaysTo_0 rfl 0 rfl ?_
  refine g_X0_22 F (hR 3 (by decide)) sc_3 rfl dX0_weighWaysTo_1 ?_
  refine x_ldc F (v := 1000000) dX0_weighWaysTo_4 309 (by decide +kernel) ?_
  refine z_callSv F [.ref (ad 11), .int 1000000] (c_J7_fill_53178 l D cy lo R ad q ns nt I J hR 11 1000000 5 ss_11 (hR 11 (by decide)) (by decide)) mc_J7_fill_53178 ms_J7_fill_53178 lk_X0_25 rfl rfl dX0_weighWaysTo_6 ⟨Nat.le_of_ble_eq_true rfl, Nat.le_of_ble_eq_true rfl⟩ ⟨Nat.le_of_ble_eq_true rfl, Nat.le_of_ble_eq_true rfl⟩ (Nat.le_of_ble_eq_true rfl) ?_
  refine x_iload_n F dX0_weighWaysTo_9 rfl 1 rfl ?_
  refine z_callSNi F [.int b] (c_X4_isCarrier l D cy lo R ad _ b) mc_X4_isCarrier ms_X4_isCarrier lk_X0_66 rfl rfl dX0_weighWaysTo_10 ⟨Nat.le_of_ble_eq_true rfl, Nat.le_of_ble_eq_true rfl⟩ ⟨Nat.le_of_ble_eq_true rfl, Nat.le_of_ble_eq_true rfl⟩ (Nat.le_of_ble_eq_true rfl) ?_
  refine x_if_eq F 23 dX0_weighWaysTo_13 (by decide) (fun h13 => ?_) (fun h13 => ?_)
  · rw [kb0] at h13
    refine x_iconst F (v := 1) dX0_weighWaysTo_23 (by decide) ?_
    refine x_istore_n F [(2, .int 1), (0, .ref (ad 3)), (1, .int b)] dX0_weighWaysTo_24 rfl (by decide) rfl ?_
    have lp25 : ∀ (fu25 : Nat) (d : Nat), 4 - d < fu25 → (d ≤ 4) → XW D lo p l e { frames := 3, cells := 0, slots := 0, locals := 68 } s m args below meth c 5 0 0 Q R ad (k_c cy ad q ns nt (outI (weigh0 I b) J d) J) 25 [(2, .int (nI (d + 1))), (0, .ref (ad 3)), (1, .int b)] [] := by
      intro fu25
      induction fu25 with
      | zero => intro d hf25; exact absurd hf25 (Nat.not_lt_zero _)
      | succ fu25 ih25 =>
        intro d hf25 hd4
        refine x_iload_n F dX0_weighWaysTo_25 rfl 0 rfl ?_
        refine x_iconst F (v := 5) dX0_weighWaysTo_26 (by decide) ?_
        refine x_icmp_ge F 96 dX0_weighWaysTo_27 (by decide) (fun h27 => ?_) (fun h27 => ?_)
        · have hk9 := lp_exit (N := 5) (k := d + 1) (by omega) (by omega) h27
          have hd9 : d = 4 := by omega
          rw [hQ]
          exact x_vret F hr hlk (by rw [hd9]; rfl) dX0_weighWaysTo_96
        · have hk9 := lp_go (N := 5) (k := d + 1) (by omega) (by omega) h27
          refine x_iconst F (v := 0) dX0_weighWaysTo_30 (by decide) ?_
          refine x_istore_n F [(3, .int 0), (2, .int (nI (d + 1))), (0, .ref (ad 3)), (1, .int b)] dX0_weighWaysTo_31 rfl (by decide) rfl ?_
          have lp32 : ∀ (fu32 : Nat) (f : Nat), 5 - f < fu32 → (f ≤ 5) → XW D lo p l e { frames := 3, cells := 0, slots := 0, locals := 68 } s m args below meth c 5 0 0 Q R ad (k_c cy ad q ns nt (midI (outI (weigh0 I b) J d) J f) J) 32 [(3, .int (nI f)), (2, .int (nI (d + 1))), (0, .ref (ad 3)), (1, .int b)] [] := by
            intro fu32
            induction fu32 with
            | zero => intro f hf32; exact absurd hf32 (Nat.not_lt_zero _)
            | succ fu32 ih32 =>
              intro f hf32 hf5
              refine x_iload_n F dX0_weighWaysTo_32 rfl 0 rfl ?_
              refine x_iconst F (v := 5) dX0_weighWaysTo_33 (by decide) ?_
              refine x_icmp_ge F 90 dX0_weighWaysTo_34 (by decide) (fun h34 => ?_) (fun h34 => ?_)
              · have hk8 := lp_exit (N := 5) (by omega) hf5 h34
                refine x_iinc F [(2, .int ((nI (d + 1)) + 1)), (3, .int (nI f)), (0, .ref (ad 3)), (1, .int b)] dX0_weighWaysTo_90 1 rfl (by decide) rfl ?_
                refine x_goto F 25 dX0_weighWaysTo_93 (by decide) ?_
                refine x_world (congrArg (fun z => k_c cy ad q ns nt z J) (show (midI (outI (weigh0 I b) J d) J f) = outI (weigh0 I b) J (d + 1) by rw [hk8, outI])) ?_
                rw [nI_1]
                refine x_sub [0, 2, 3] rfl ?_
                exact ih25 (d + 1) (by omega) (by omega)
              · have hk8 := lp_go (N := 5) (by omega) hf5 h34
                refine x_iconst F (v := 0) dX0_weighWaysTo_37 (by decide) ?_
                refine x_istore F [(4, .int 0), (3, .int (nI f)), (2, .int (nI (d + 1))), (0, .ref (ad 3)), (1, .int b)] dX0_weighWaysTo_38 (by decide) rfl ?_
                have lp40 : ∀ (fu40 : Nat) (g : Nat), 5 - g < fu40 → (g ≤ 5) → XW D lo p l e { frames := 3, cells := 0, slots := 0, locals := 68 } s m args below meth c 5 0 0 Q R ad (k_c cy ad q ns nt (innerI (midI (outI (weigh0 I b) J d) J f) J f g) J) 40 [(4, .int (nI g)), (3, .int (nI f)), (2, .int (nI (d + 1))), (0, .ref (ad 3)), (1, .int b)] [] := by
                  intro fu40
                  induction fu40 with
                  | zero => intro g hf40; exact absurd hf40 (Nat.not_lt_zero _)
                  | succ fu40 ih40 =>
                    intro g hf40 hg5
                    refine x_iload F dX0_weighWaysTo_40 0 rfl ?_
                    refine x_iconst F (v := 5) dX0_weighWaysTo_42 (by decide) ?_
                    refine x_icmp_ge F 84 dX0_weighWaysTo_43 (by decide) (fun h43 => ?_) (fun h43 => ?_)
                    · have hk7 := lp_exit (N := 5) (by omega) hg5 h43
                      refine x_iinc F [(3, .int ((nI f) + 1)), (4, .int (nI g)), (2, .int (nI (d + 1))), (0, .ref (ad 3)), (1, .int b)] dX0_weighWaysTo_84 1 rfl (by decide) rfl ?_
                      refine x_goto F 32 dX0_weighWaysTo_87 (by decide) ?_
                      refine x_world (congrArg (fun z => k_c cy ad q ns nt z J) (show (innerI (midI (outI (weigh0 I b) J d) J f) J f g) = midI (outI (weigh0 I b) J d) J (f + 1) by rw [hk7, midI])) ?_
                      rw [nI_1]
                      refine x_sub [0, 2, 3, 4] rfl ?_
                      exact ih32 (f + 1) (by omega) (by omega)
                    · have hk7 := lp_go (N := 5) (by omega) hg5 h43
                      refine x_aload_n F dX0_weighWaysTo_46 rfl 3 rfl ?_
                      refine x_iload_n F dX0_weighWaysTo_47 rfl 1 rfl ?_
                      refine x_iload F dX0_weighWaysTo_48 0 rfl ?_
                      refine z_callVi F [.int (nI f), .int (nI g)] (c_X0_isOpen l D cy lo R ad q ns nt (innerI (midI (outI (weigh0 I b) J d) J f) J f g) J hR (nI f) (nI g) ) mc_X0_isOpen mv_X0_isOpen lk_X0_45 (hR 3 (by decide)) sc_3 rfl rfl rfl dX0_weighWaysTo_50 ⟨Nat.le_of_ble_eq_true rfl, Nat.le_of_ble_eq_true rfl⟩ ⟨Nat.le_of_ble_eq_true rfl, Nat.le_of_ble_eq_true rfl⟩ (Nat.le_of_ble_eq_true rfl) ?_
                      refine x_if_eq F 78 dX0_weighWaysTo_53 (by decide) (fun h53 => ?_) (fun h53 => ?_)
                      · rw [kb0] at h53
                        refine x_iinc F [(4, .int ((nI g) + 1)), (3, .int (nI f)), (2, .int (nI (d + 1))), (0, .ref (ad 3)), (1, .int b)] dX0_weighWaysTo_78 0 rfl (by decide) rfl ?_
                        refine x_goto F 40 dX0_weighWaysTo_81 (by decide) ?_
                        refine x_world (congrArg (fun z => k_c cy ad q ns nt z J) (show (innerI (midI (outI (weigh0 I b) J d) J f) J f g) = innerI (midI (outI (weigh0 I b) J d) J f) J f (g + 1) by rw [innerI, relaxI, if_neg (by rw [h53]; decide)])) ?_
                        rw [nI_1]
                        exact ih40 (g + 1) (by omega) (by omega)
                      · rw [kb1] at h53
                        refine x_aload_n F dX0_weighWaysTo_56 rfl 3 rfl ?_
                        refine g_X0_22 F (hR 3 (by decide)) sc_3 rfl dX0_weighWaysTo_57 ?_
                        refine x_iload_n F dX0_weighWaysTo_60 rfl 1 rfl ?_
                        refine x_aload_n F dX0_weighWaysTo_61 rfl 3 rfl ?_
                        refine g_X0_22 F (hR 3 (by decide)) sc_3 rfl dX0_weighWaysTo_62 ?_
                        refine x_iload_n F dX0_weighWaysTo_65 rfl 1 rfl ?_
                        refine y_iald F (hR 11 (by decide)) ss_11 (vp_in_nI (by omega) (by decide)) dX0_weighWaysTo_66 ?_
                        refine x_aload_n F dX0_weighWaysTo_67 rfl 3 rfl ?_
                        refine x_iload_n F dX0_weighWaysTo_68 rfl 1 rfl ?_
                        refine x_iload F dX0_weighWaysTo_69 0 rfl ?_
                        refine z_callVi F [.int (nI f), .int (nI g)] (c_X0_weightOver l D cy lo R ad q ns nt (innerI (midI (outI (weigh0 I b) J d) J f) J f g) J hR (nI f) (nI g) ) mc_X0_weightOver mv_X0_weightOver lk_X0_84 (hR 3 (by decide)) sc_3 rfl rfl rfl dX0_weighWaysTo_71 ⟨Nat.le_of_ble_eq_true rfl, Nat.le_of_ble_eq_true rfl⟩ ⟨Nat.le_of_ble_eq_true rfl, Nat.le_of_ble_eq_true rfl⟩ (Nat.le_of_ble_eq_true rfl) ?_
                        refine z_min F lk_X0_87 ms_min ik_Math mc_min ⟨by decide, Nat.le_of_ble_eq_true rfl, Nat.le_of_ble_eq_true rfl, Nat.le_of_ble_eq_true rfl⟩ dX0_weighWaysTo_74 ?_
                        refine y_iast F (hR 11 (by decide)) ss_11 (vp_in_nI (by omega) (by decide)) dX0_weighWaysTo_77 ?_
                        refine x_iinc F [(4, .int ((nI g) + 1)), (3, .int (nI f)), (2, .int (nI (d + 1))), (0, .ref (ad 3)), (1, .int b)] dX0_weighWaysTo_78 0 rfl (by decide) rfl ?_
                        refine x_goto F 40 dX0_weighWaysTo_81 (by decide) ?_
                        refine x_world (congrArg (fun z => k_c cy ad q ns nt z J) (show wI (innerI (midI (outI (weigh0 I b) J d) J f) J f g) 11 (nI f).toNatClampNeg (if (overF (innerI (midI (outI (weigh0 I b) J d) J f) J f g) (nI f) (nI g)) < ((innerI (midI (outI (weigh0 I b) J d) J f) J f g) 11 (nI f).toNatClampNeg) then (overF (innerI (midI (outI (weigh0 I b) J d) J f) J f g) (nI f) (nI g)) else ((innerI (midI (outI (weigh0 I b) J d) J f) J f g) 11 (nI f).toNatClampNeg)) = innerI (midI (outI (weigh0 I b) J d) J f) J f (g + 1) by rw [innerI, relaxI, if_pos h53])) ?_
                        rw [nI_1]
                        exact ih40 (g + 1) (by omega) (by omega)
                refine x_world (congrArg (fun z => k_c cy ad q ns nt z J) (show (midI (outI (weigh0 I b) J d) J f) = innerI (midI (outI (weigh0 I b) J d) J f) J f 0 by rw [innerI])) ?_
                exact lp40 6 0 (by omega) (by omega)
          refine x_world (congrArg (fun z => k_c cy ad q ns nt z J) (show (outI (weigh0 I b) J d) = midI (outI (weigh0 I b) J d) J 0 by rw [midI])) ?_
          exact lp32 6 0 (by omega) (by omega)
    refine x_world (congrArg (fun z => k_c cy ad q ns nt z J) (show fillI I 11 5 1000000 = weigh0 I b by simp [weigh0, *])) ?_
    refine x_world (congrArg (fun z => k_c cy ad q ns nt z J) (show weigh0 I b = outI (weigh0 I b) J 0 by rw [outI])) ?_
    exact lp25 5 0 (by omega) (by omega)
  · rw [kb1] at h13
    refine x_aload_n F dX0_weighWaysTo_16 rfl 0 rfl ?_
    refine g_X0_22 F (hR 3 (by decide)) sc_3 rfl dX0_weighWaysTo_17 ?_
    refine x_iload_n F dX0_weighWaysTo_20 rfl 1 rfl ?_
    refine x_iconst F (v := 0) dX0_weighWaysTo_21 (by decide) ?_
    refine y_iast F (hR 11 (by decide)) ss_11 (vin_car ‹_›) dX0_weighWaysTo_22 ?_
    refine x_iconst F (v := 1) dX0_weighWaysTo_23 (by decide) ?_
    refine x_istore_n F [(2, .int 1), (0, .ref (ad 3)), (1, .int b)] dX0_weighWaysTo_24 rfl (by decide) rfl ?_
    have lp25 : ∀ (fu25 : Nat) (d : Nat), 4 - d < fu25 → (d ≤ 4) → XW D lo p l e { frames := 3, cells := 0, slots := 0, locals := 68 } s m args below meth c 5 0 0 Q R ad (k_c cy ad q ns nt (outI (weigh0 I b) J d) J) 25 [(2, .int (nI (d + 1))), (0, .ref (ad 3)), (1, .int b)] [] := by
      intro fu25
      induction fu25 with
      | zero => intro d hf25; exact absurd hf25 (Nat.not_lt_zero _)
      | succ fu25 ih25 =>
        intro d hf25 hd4
        refine x_iload_n F dX0_weighWaysTo_25 rfl 0 rfl ?_
        refine x_iconst F (v := 5) dX0_weighWaysTo_26 (by decide) ?_
        refine x_icmp_ge F 96 dX0_weighWaysTo_27 (by decide) (fun h27 => ?_) (fun h27 => ?_)
        · have hk9 := lp_exit (N := 5) (k := d + 1) (by omega) (by omega) h27
          have hd9 : d = 4 := by omega
          rw [hQ]
          exact x_vret F hr hlk (by rw [hd9]; rfl) dX0_weighWaysTo_96
        · have hk9 := lp_go (N := 5) (k := d + 1) (by omega) (by omega) h27
          refine x_iconst F (v := 0) dX0_weighWaysTo_30 (by decide) ?_
          refine x_istore_n F [(3, .int 0), (2, .int (nI (d + 1))), (0, .ref (ad 3)), (1, .int b)] dX0_weighWaysTo_31 rfl (by decide) rfl ?_
          have lp32 : ∀ (fu32 : Nat) (f : Nat), 5 - f < fu32 → (f ≤ 5) → XW D lo p l e { frames := 3, cells := 0, slots := 0, locals := 68 } s m args below meth c 5 0 0 Q R ad (k_c cy ad q ns nt (midI (outI (weigh0 I b) J d) J f) J) 32 [(3, .int (nI f)), (2, .int (nI (d + 1))), (0, .ref (ad 3)), (1, .int b)] [] := by
            intro fu32
            induction fu32 with
            | zero => intro f hf32; exact absurd hf32 (Nat.not_lt_zero _)
            | succ fu32 ih32 =>
              intro f hf32 hf5
              refine x_iload_n F dX0_weighWaysTo_32 rfl 0 rfl ?_
              refine x_iconst F (v := 5) dX0_weighWaysTo_33 (by decide) ?_
              refine x_icmp_ge F 90 dX0_weighWaysTo_34 (by decide) (fun h34 => ?_) (fun h34 => ?_)
              · have hk8 := lp_exit (N := 5) (by omega) hf5 h34
                refine x_iinc F [(2, .int ((nI (d + 1)) + 1)), (3, .int (nI f)), (0, .ref (ad 3)), (1, .int b)] dX0_weighWaysTo_90 1 rfl (by decide) rfl ?_
                refine x_goto F 25 dX0_weighWaysTo_93 (by decide) ?_
                refine x_world (congrArg (fun z => k_c cy ad q ns nt z J) (show (midI (outI (weigh0 I b) J d) J f) = outI (weigh0 I b) J (d + 1) by rw [hk8, outI])) ?_
                rw [nI_1]
                refine x_sub [0, 2, 3] rfl ?_
                exact ih25 (d + 1) (by omega) (by omega)
              · have hk8 := lp_go (N := 5) (by omega) hf5 h34
                refine x_iconst F (v := 0) dX0_weighWaysTo_37 (by decide) ?_
                refine x_istore F [(4, .int 0), (3, .int (nI f)), (2, .int (nI (d + 1))), (0, .ref (ad 3)), (1, .int b)] dX0_weighWaysTo_38 (by decide) rfl ?_
                have lp40 : ∀ (fu40 : Nat) (g : Nat), 5 - g < fu40 → (g ≤ 5) → XW D lo p l e { frames := 3, cells := 0, slots := 0, locals := 68 } s m args below meth c 5 0 0 Q R ad (k_c cy ad q ns nt (innerI (midI (outI (weigh0 I b) J d) J f) J f g) J) 40 [(4, .int (nI g)), (3, .int (nI f)), (2, .int (nI (d + 1))), (0, .ref (ad 3)), (1, .int b)] [] := by
                  intro fu40
                  induction fu40 with
                  | zero => intro g hf40; exact absurd hf40 (Nat.not_lt_zero _)
                  | succ fu40 ih40 =>
                    intro g hf40 hg5
                    refine x_iload F dX0_weighWaysTo_40 0 rfl ?_
                    refine x_iconst F (v := 5) dX0_weighWaysTo_42 (by decide) ?_
                    refine x_icmp_ge F 84 dX0_weighWaysTo_43 (by decide) (fun h43 => ?_) (fun h43 => ?_)
                    · have hk7 := lp_exit (N := 5) (by omega) hg5 h43
                      refine x_iinc F [(3, .int ((nI f) + 1)), (4, .int (nI g)), (2, .int (nI (d + 1))), (0, .ref (ad 3)), (1, .int b)] dX0_weighWaysTo_84 1 rfl (by decide) rfl ?_
                      refine x_goto F 32 dX0_weighWaysTo_87 (by decide) ?_
                      refine x_world (congrArg (fun z => k_c cy ad q ns nt z J) (show (innerI (midI (outI (weigh0 I b) J d) J f) J f g) = midI (outI (weigh0 I b) J d) J (f + 1) by rw [hk7, midI])) ?_
                      rw [nI_1]
                      refine x_sub [0, 2, 3, 4] rfl ?_
                      exact ih32 (f + 1) (by omega) (by omega)
                    · have hk7 := lp_go (N := 5) (by omega) hg5 h43
                      refine x_aload_n F dX0_weighWaysTo_46 rfl 3 rfl ?_
                      refine x_iload_n F dX0_weighWaysTo_47 rfl 1 rfl ?_
                      refine x_iload F dX0_weighWaysTo_48 0 rfl ?_
                      refine z_callVi F [.int (nI f), .int (nI g)] (c_X0_isOpen l D cy lo R ad q ns nt (innerI (midI (outI (weigh0 I b) J d) J f) J f g) J hR (nI f) (nI g) ) mc_X0_isOpen mv_X0_isOpen lk_X0_45 (hR 3 (by decide)) sc_3 rfl rfl rfl dX0_weighWaysTo_50 ⟨Nat.le_of_ble_eq_true rfl, Nat.le_of_ble_eq_true rfl⟩ ⟨Nat.le_of_ble_eq_true rfl, Nat.le_of_ble_eq_true rfl⟩ (Nat.le_of_ble_eq_true rfl) ?_
                      refine x_if_eq F 78 dX0_weighWaysTo_53 (by decide) (fun h53 => ?_) (fun h53 => ?_)
                      · rw [kb0] at h53
                        refine x_iinc F [(4, .int ((nI g) + 1)), (3, .int (nI f)), (2, .int (nI (d + 1))), (0, .ref (ad 3)), (1, .int b)] dX0_weighWaysTo_78 0 rfl (by decide) rfl ?_
                        refine x_goto F 40 dX0_weighWaysTo_81 (by decide) ?_
                        refine x_world (congrArg (fun z => k_c cy ad q ns nt z J) (show (innerI (midI (outI (weigh0 I b) J d) J f) J f g) = innerI (midI (outI (weigh0 I b) J d) J f) J f (g + 1) by rw [innerI, relaxI, if_neg (by rw [h53]; decide)])) ?_
                        rw [nI_1]
                        exact ih40 (g + 1) (by omega) (by omega)
                      · rw [kb1] at h53
                        refine x_aload_n F dX0_weighWaysTo_56 rfl 3 rfl ?_
                        refine g_X0_22 F (hR 3 (by decide)) sc_3 rfl dX0_weighWaysTo_57 ?_
                        refine x_iload_n F dX0_weighWaysTo_60 rfl 1 rfl ?_
                        refine x_aload_n F dX0_weighWaysTo_61 rfl 3 rfl ?_
                        refine g_X0_22 F (hR 3 (by decide)) sc_3 rfl dX0_weighWaysTo_62 ?_
                        refine x_iload_n F dX0_weighWaysTo_65 rfl 1 rfl ?_
                        refine y_iald F (hR 11 (by decide)) ss_11 (vp_in_nI (by omega) (by decide)) dX0_weighWaysTo_66 ?_
                        refine x_aload_n F dX0_weighWaysTo_67 rfl 3 rfl ?_
                        refine x_iload_n F dX0_weighWaysTo_68 rfl 1 rfl ?_
                        refine x_iload F dX0_weighWaysTo_69 0 rfl ?_
                        refine z_callVi F [.int (nI f), .int (nI g)] (c_X0_weightOver l D cy lo R ad q ns nt (innerI (midI (outI (weigh0 I b) J d) J f) J f g) J hR (nI f) (nI g) ) mc_X0_weightOver mv_X0_weightOver lk_X0_84 (hR 3 (by decide)) sc_3 rfl rfl rfl dX0_weighWaysTo_71 ⟨Nat.le_of_ble_eq_true rfl, Nat.le_of_ble_eq_true rfl⟩ ⟨Nat.le_of_ble_eq_true rfl, Nat.le_of_ble_eq_true rfl⟩ (Nat.le_of_ble_eq_true rfl) ?_
                        refine z_min F lk_X0_87 ms_min ik_Math mc_min ⟨by decide, Nat.le_of_ble_eq_true rfl, Nat.le_of_ble_eq_true rfl, Nat.le_of_ble_eq_true rfl⟩ dX0_weighWaysTo_74 ?_
                        refine y_iast F (hR 11 (by decide)) ss_11 (vp_in_nI (by omega) (by decide)) dX0_weighWaysTo_77 ?_
                        refine x_iinc F [(4, .int ((nI g) + 1)), (3, .int (nI f)), (2, .int (nI (d + 1))), (0, .ref (ad 3)), (1, .int b)] dX0_weighWaysTo_78 0 rfl (by decide) rfl ?_
                        refine x_goto F 40 dX0_weighWaysTo_81 (by decide) ?_
                        refine x_world (congrArg (fun z => k_c cy ad q ns nt z J) (show wI (innerI (midI (outI (weigh0 I b) J d) J f) J f g) 11 (nI f).toNatClampNeg (if (overF (innerI (midI (outI (weigh0 I b) J d) J f) J f g) (nI f) (nI g)) < ((innerI (midI (outI (weigh0 I b) J d) J f) J f g) 11 (nI f).toNatClampNeg) then (overF (innerI (midI (outI (weigh0 I b) J d) J f) J f g) (nI f) (nI g)) else ((innerI (midI (outI (weigh0 I b) J d) J f) J f g) 11 (nI f).toNatClampNeg)) = innerI (midI (outI (weigh0 I b) J d) J f) J f (g + 1) by rw [innerI, relaxI, if_pos h53])) ?_
                        rw [nI_1]
                        exact ih40 (g + 1) (by omega) (by omega)
                refine x_world (congrArg (fun z => k_c cy ad q ns nt z J) (show (midI (outI (weigh0 I b) J d) J f) = innerI (midI (outI (weigh0 I b) J d) J f) J f 0 by rw [innerI])) ?_
                exact lp40 6 0 (by omega) (by omega)
          refine x_world (congrArg (fun z => k_c cy ad q ns nt z J) (show (outI (weigh0 I b) J d) = midI (outI (weigh0 I b) J d) J 0 by rw [midI])) ?_
          exact lp32 6 0 (by omega) (by omega)
    refine x_world (congrArg (fun z => k_c cy ad q ns nt z J) (show wI (fillI I 11 5 1000000) 11 b.toNatClampNeg 0 = weigh0 I b by simp [weigh0, *])) ?_
    refine x_world (congrArg (fun z => k_c cy ad q ns nt z J) (show weigh0 I b = outI (weigh0 I b) J 0 by rw [outI])) ?_
    exact lp25 5 0 (by omega) (by omega)
set_option maxHeartbeats 4000000 in
set_option maxRecDepth 100000 in
/-- Network.findBest -/
theorem c_X0_findBest (l : Launch) (D : va_G) (cy : Nat → ClassId) (lo : Nat) (R : List Nat) (ad : Nat → Nat) (q : Nat → Nat → Nat) (ns nt : Nat) (I : Nat → Nat → Int32) (J : Nat → Nat → Int64) (hR : ∀ r, r < 19 → r ∈ R) (r : Nat) (a : Int32) (b : Int32) (hk : r = 6 ∨ (80 ≤ r ∧ r % 4 = 1)) (hm : r ∈ R) (hn : r + 1 ∈ R) : k_Ci l yX0_findBest cX0_findBest 6 (some .boolean) 4 92 D cy lo R ad (k_c cy ad q ns nt I J) [.ref (ad 3), .int a, .int b, .ref (ad r)] (k_b (fbB I J a b)) (k_c cy ad q ns nt (fbI I J a b r) J) := by
  refine k_metQ (by decide +kernel) (Nat.le_of_ble_eq_true rfl) ?_
  intro p e s m args below meth c Q F hr hlk hnm hQ
  refine x_iload_n F dX0_findBest_0 rfl 1 rfl ?_
  refine z_callSNi F [.int a] (c_X4_isCarrier l D cy lo R ad _ a) mc_X4_isCarrier ms_X4_isCarrier lk_X0_66 rfl rfl dX0_findBest_1 ⟨Nat.le_of_ble_eq_true rfl, Nat.le_of_ble_eq_true rfl⟩ ⟨Nat.le_of_ble_eq_true rfl, Nat.le_of_ble_eq_true rfl⟩ (Nat.le_of_ble_eq_true rfl) ?_
  refine x_if_eq F 14 dX0_findBest_4 (by decide) (fun h4 => ?_) (fun h4 => ?_)
  · rw [kb0] at h4
    refine x_iconst F (v := 0) dX0_findBest_14 (by decide) ?_
    rw [hQ]
    exact x_zret F hr hlk (by decide) ⟨by simp [fbB, k_b, *], by simp [fbI, *]⟩ dX0_findBest_15
  · rw [kb1] at h4
    refine x_iload_n F dX0_findBest_7 rfl 2 rfl ?_
    refine z_callSNi F [.int b] (c_X4_isCarrier l D cy lo R ad _ b) mc_X4_isCarrier ms_X4_isCarrier lk_X0_66 rfl rfl dX0_findBest_8 ⟨Nat.le_of_ble_eq_true rfl, Nat.le_of_ble_eq_true rfl⟩ ⟨Nat.le_of_ble_eq_true rfl, Nat.le_of_ble_eq_true rfl⟩ (Nat.le_of_ble_eq_true rfl) ?_
    refine x_if_ne F 16 dX0_findBest_11 (by decide) (fun h11 => ?_) (fun h11 => ?_)
    · rw [kb1] at h11
      refine x_aload_n F dX0_findBest_16 rfl 0 rfl ?_
      refine x_iload_n F dX0_findBest_17 rfl 2 rfl ?_
      refine z_callVv F [.int b] (c_X0_weighWaysTo l D cy lo R ad q ns nt I J hR b ) mc_X0_weighWaysTo mv_X0_weighWaysTo lk_X0_70 (hR 3 (by decide)) sc_3 rfl rfl rfl dX0_findBest_18 ⟨Nat.le_of_ble_eq_true rfl, Nat.le_of_ble_eq_true rfl⟩ ⟨Nat.le_of_ble_eq_true rfl, Nat.le_of_ble_eq_true rfl⟩ (Nat.le_of_ble_eq_true rfl) ?_
      refine x_aload_n F dX0_findBest_21 rfl 0 rfl ?_
      refine g_X0_22 F (hR 3 (by decide)) sc_3 rfl dX0_findBest_22 ?_
      refine x_iload_n F dX0_findBest_25 rfl 1 rfl ?_
      refine y_iald F (hR 11 (by decide)) ss_11 (vin_car ‹_›) dX0_findBest_26 ?_
      refine x_ldc F (v := 1000000) dX0_findBest_27 309 (by decide +kernel) ?_
      refine x_icmp_lt F 34 dX0_findBest_29 (by decide) (fun h29 => ?_) (fun h29 => ?_)
      · refine x_aload_n F dX0_findBest_34 rfl 3 rfl ?_
        refine z_callVv F [] (c_X1_clear l D cy lo R ad q ns nt (weighI I J b) J hR r hk hm hn) mc_X1_clear mv_X1_clear lk_X0_75 hm (sc_rte hk) rfl rfl rfl dX0_findBest_35 ⟨Nat.le_of_ble_eq_true rfl, Nat.le_of_ble_eq_true rfl⟩ ⟨Nat.le_of_ble_eq_true rfl, Nat.le_of_ble_eq_true rfl⟩ (Nat.le_of_ble_eq_true rfl) ?_
        refine x_aload_n F dX0_findBest_38 rfl 3 rfl ?_
        refine x_iload_n F dX0_findBest_39 rfl 1 rfl ?_
        refine z_callVv F [.int a] (c_X1_add l D cy lo R ad q ns nt (wI (weighI I J b) r 1 0) J hR r a hk hm hn) mc_X1_add mv_X1_add lk_X0_78 hm (sc_rte hk) rfl rfl rfl dX0_findBest_40 ⟨Nat.le_of_ble_eq_true rfl, Nat.le_of_ble_eq_true rfl⟩ ⟨Nat.le_of_ble_eq_true rfl, Nat.le_of_ble_eq_true rfl⟩ (Nat.le_of_ble_eq_true rfl) ?_
        refine x_iload_n F dX0_findBest_43 rfl 1 rfl ?_
        refine x_istore F [(4, .int a), (0, .ref (ad 3)), (1, .int a), (2, .int b), (3, .ref (ad r))] dX0_findBest_44 (by decide) rfl ?_
        refine x_iconst F (v := 1) dX0_findBest_46 (by decide) ?_
        refine x_istore F [(5, .int 1), (4, .int a), (0, .ref (ad 3)), (1, .int a), (2, .int b), (3, .ref (ad r))] dX0_findBest_47 (by decide) rfl ?_
        have lp49 : ∀ (fu49 : Nat) (j : Nat), 4 - j < fu49 → (j ≤ 4) → XW D lo p l e { frames := 4, cells := 0, slots := 0, locals := 92 } s m args below meth c 6 0 0 Q R ad (k_c cy ad q ns nt ((goF (weighI I J b) J r a b j).2) J) 49 [(5, .int (nI (j + 1))), (4, .int ((goF (weighI I J b) J r a b j).1)), (0, .ref (ad 3)), (1, .int a), (2, .int b), (3, .ref (ad r))] [] := by
          intro fu49
          induction fu49 with
          | zero => intro j hf49; exact absurd hf49 (Nat.not_lt_zero _)
          | succ fu49 ih49 =>
            intro j hf49 hj4
            refine x_iload F dX0_findBest_49 0 rfl ?_
            refine x_iconst F (v := 5) dX0_findBest_51 (by decide) ?_
            refine x_icmp_ge F 81 dX0_findBest_52 (by decide) (fun h52 => ?_) (fun h52 => ?_)
            · have hk9 := lp_exit (N := 5) (k := j + 1) (by omega) (by omega) h52
              have hj9 : j = 4 := by omega
              refine x_iconst F (v := 1) dX0_findBest_81 (by decide) ?_
              rw [hQ]
              exact x_zret F hr hlk (by decide) ⟨by simp [fbB, k_b, h4, h11, h29], by rw [fbI, if_pos (by simp [h4, h11]), if_pos h29, hj9]⟩ dX0_findBest_82
            · have hk9 := lp_go (N := 5) (k := j + 1) (by omega) (by omega) h52
              refine x_iload F dX0_findBest_55 1 rfl ?_
              refine x_iload_n F dX0_findBest_57 rfl 4 rfl ?_
              refine x_icmp_eq F 81 dX0_findBest_58 (by decide) (fun h58 => ?_) (fun h58 => ?_)
              · have hs9 := go_stay h58 4 (by omega)
                refine x_iconst F (v := 1) dX0_findBest_81 (by decide) ?_
                rw [hQ]
                exact x_zret F hr hlk (by decide) ⟨by simp [fbB, k_b, h4, h11, h29], by rw [fbI, if_pos (by simp [h4, h11]), if_pos h29, hs9]⟩ dX0_findBest_82
              · refine x_aload_n F dX0_findBest_61 rfl 2 rfl ?_
                refine x_iload F dX0_findBest_62 1 rfl ?_
                refine z_callVi F [.int ((goF (weighI I J b) J r a b j).1)] (c_X0_nextOnBest l D cy lo R ad q ns nt ((goF (weighI I J b) J r a b j).2) J hR ((goF (weighI I J b) J r a b j).1) ) mc_X0_nextOnBest mv_X0_nextOnBest lk_X0_81 (hR 3 (by decide)) sc_3 rfl rfl rfl dX0_findBest_64 ⟨Nat.le_of_ble_eq_true rfl, Nat.le_of_ble_eq_true rfl⟩ ⟨Nat.le_of_ble_eq_true rfl, Nat.le_of_ble_eq_true rfl⟩ (Nat.le_of_ble_eq_true rfl) ?_
                refine x_istore F [(4, .int (nextF ((goF (weighI I J b) J r a b j).2) J ((goF (weighI I J b) J r a b j).1))), (5, .int (nI (j + 1))), (0, .ref (ad 3)), (1, .int a), (2, .int b), (3, .ref (ad r))] dX0_findBest_67 (by decide) rfl ?_
                refine x_aload_n F dX0_findBest_69 rfl 5 rfl ?_
                refine x_iload F dX0_findBest_70 0 rfl ?_
                refine z_callVv F [.int (nextF ((goF (weighI I J b) J r a b j).2) J ((goF (weighI I J b) J r a b j).1))] (c_X1_add l D cy lo R ad q ns nt ((goF (weighI I J b) J r a b j).2) J hR r (nextF ((goF (weighI I J b) J r a b j).2) J ((goF (weighI I J b) J r a b j).1)) hk hm hn) mc_X1_add mv_X1_add lk_X0_78 hm (sc_rte hk) rfl rfl rfl dX0_findBest_72 ⟨Nat.le_of_ble_eq_true rfl, Nat.le_of_ble_eq_true rfl⟩ ⟨Nat.le_of_ble_eq_true rfl, Nat.le_of_ble_eq_true rfl⟩ (Nat.le_of_ble_eq_true rfl) ?_
                refine x_iinc F [(5, .int ((nI (j + 1)) + 1)), (4, .int (nextF ((goF (weighI I J b) J r a b j).2) J ((goF (weighI I J b) J r a b j).1))), (0, .ref (ad 3)), (1, .int a), (2, .int b), (3, .ref (ad r))] dX0_findBest_75 1 rfl (by decide) rfl ?_
                refine x_goto F 49 dX0_findBest_78 (by decide) ?_
                refine x_world (congrArg (fun z => k_c cy ad q ns nt z J) (show addRI ((goF (weighI I J b) J r a b j).2) r (nextF ((goF (weighI I J b) J r a b j).2) J ((goF (weighI I J b) J r a b j).1)) = (goF (weighI I J b) J r a b (j + 1)).2 by conv => rhs; rw [goF, if_neg h58])) ?_
                rw [nI_1, show nextF (goF (weighI I J b) J r a b j).2 J (goF (weighI I J b) J r a b j).1 = (goF (weighI I J b) J r a b (j + 1)).1 by rw [goF, if_neg h58]]
                exact ih49 (j + 1) (by omega) (by omega)
        refine x_sub (lv' := [(5, .int (nI (0 + 1))), (4, .int ((goF (weighI I J b) J r a b 0).1)), (0, .ref (ad 3)), (1, .int a), (2, .int b), (3, .ref (ad r))]) [0, 1, 2, 3, 4, 5] (by rw [go_0]; rfl) ?_
        refine x_world (congrArg (fun z => k_c cy ad q ns nt z J) (show addRI (wI (weighI I J b) r 1 0) r a = (goF (weighI I J b) J r a b 0).2 by rw [go_0])) ?_
        exact lp49 5 0 (by omega) (by omega)
      · refine x_iconst F (v := 0) dX0_findBest_32 (by decide) ?_
        rw [hQ]
        exact x_zret F hr hlk (by decide) ⟨by simp [fbB, k_b, *], by simp [fbI, *]⟩ dX0_findBest_33
    · rw [kb0] at h11
      refine x_iconst F (v := 0) dX0_findBest_14 (by decide) ?_
      rw [hQ]
      exact x_zret F hr hlk (by decide) ⟨by simp [fbB, k_b, *], by simp [fbI, *]⟩ dX0_findBest_15
