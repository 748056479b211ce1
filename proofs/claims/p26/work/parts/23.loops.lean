/-! loops: a way's links, its cost, its charges; a route copied; the next carrier on the best way; the weights; the best way -/
def linkF (I : Nat → Nat → Int32) (J : Nat → Nat → Int64) (r k : Nat) : Bool := openF I J (carAt I r (nI k - 1)) (carAt I r (nI k))
def alongF (I : Nat → Nat → Int32) (J : Nat → Nat → Int64) (r : Nat) : Nat → Bool
  | 0 => true
  | k + 1 => alongF I J r k && (k == 0 || linkF I J r k)
theorem along_no {I : Nat → Nat → Int32} {J : Nat → Nat → Int64} {r k : Nat} (h1 : 1 ≤ k) (h : linkF I J r k = false) : ∀ n, k < n → alongF I J r n = false := by
  intro n
  induction n with
  | zero => intro h; omega
  | succ n ih =>
    intro hn
    rw [alongF]
    rcases Nat.lt_or_ge k n with z | z
    · rw [ih z]; rfl
    · have e : n = k := by omega
      subst e
      have : (n == 0) = false := by simp; omega
      rw [this, h]; simp
def costF (I : Nat → Nat → Int32) (r : Nat) : Nat → Int32
  | 0 => 0
  | k + 1 => if k = 0 then 0 else costF I r k + rateF I (carAt I r (nI k - 1)) (carAt I r (nI k))
set_option maxHeartbeats 4000000 in
set_option maxRecDepth 100000 in
/-- Network.isOpenAlong -/
theorem c_X0_isOpenAlong (l : Launch) (D : va_G) (cy : Nat → ClassId) (lo : Nat) (R : List Nat) (ad : Nat → Nat) (q : Nat → Nat → Nat) (ns nt : Nat) (I : Nat → Nat → Int32) (J : Nat → Nat → Int64) (hR : ∀ r, r < 19 → r ∈ R) (r : Nat) (hk : r = 6 ∨ (80 ≤ r ∧ r % 4 = 1)) (hm : r ∈ R) (hn : r + 1 ∈ R) (n : Nat) (hlen : I r 1 = nI n) (hn5 : n ≤ 5) (hn1 : 1 ≤ n) : k_Ci l yX0_isOpenAlong cX0_isOpenAlong 3 (some .boolean) 2 45 D cy lo R ad (k_c cy ad q ns nt I J) [.ref (ad 3), .ref (ad r)] (k_b (alongF I J r n)) (k_c cy ad q ns nt I J) := by
  refine k_metQ (by decide +kernel) (Nat.le_of_ble_eq_true rfl) ?_
  intro p e s m args below meth c Q F hr hlk hnm hQ
  refine x_iconst F (v := 1) dX0_isOpenAlong_0 (by decide) ?_
  refine x_istore_n F [(2, .int 1), (0, .ref (ad 3)), (1, .ref (ad r))] dX0_isOpenAlong_1 rfl (by decide) rfl ?_
  have lp2 : ∀ (fu2 : Nat) (k : Nat), n - k < fu2 → (1 ≤ k) → (k ≤ n) → (alongF I J r k = true) → XW D lo p l e { frames := 2, cells := 0, slots := 0, locals := 45 } s m args below meth c 3 0 0 Q R ad (k_c cy ad q ns nt I J) 2 [(2, .int (nI k)), (0, .ref (ad 3)), (1, .ref (ad r))] [] := by
    intro fu2
    induction fu2 with
    | zero => intro k hf2; exact absurd hf2 (Nat.not_lt_zero _)
    | succ fu2 ih2 =>
      intro k hf2 hk1 hkn hc
      refine x_iload_n F dX0_isOpenAlong_2 rfl 0 rfl ?_
      refine x_aload_n F dX0_isOpenAlong_3 rfl 2 rfl ?_
      refine g_X0_35 F hm (sc_rte hk) rfl dX0_isOpenAlong_4 ?_
      refine x_icmp_ge F 37 dX0_isOpenAlong_7 (by decide) (fun h7 => ?_) (fun h7 => ?_)
      · rw [hlen] at h7
        have hk9 := lp_exit (by omega) hkn h7
        subst hk9
        refine x_iconst F (v := 1) dX0_isOpenAlong_37 (by decide) ?_
        rw [hQ]
        exact x_zret F hr hlk (by decide) ⟨by rw [hc]; rfl, rfl⟩ dX0_isOpenAlong_38
      · rw [hlen] at h7
        have hk9 := lp_go (by omega) hkn h7
        refine x_aload_n F dX0_isOpenAlong_10 rfl 1 rfl ?_
        refine x_aload_n F dX0_isOpenAlong_11 rfl 2 rfl ?_
        refine x_iload_n F dX0_isOpenAlong_12 rfl 0 rfl ?_
        refine x_iconst F (v := 1) dX0_isOpenAlong_13 (by decide) ?_
        refine x_isub F dX0_isOpenAlong_14 ?_
        refine z_callVi F [.int ((nI k) - 1)] (c_X1_carrierAt l D cy lo R ad q ns nt I J hR r ((nI k) - 1) hk hm hn) mc_X1_carrierAt mv_X1_carrierAt lk_X0_41 hm (sc_rte hk) rfl rfl rfl dX0_isOpenAlong_15 ⟨Nat.le_of_ble_eq_true rfl, Nat.le_of_ble_eq_true rfl⟩ ⟨Nat.le_of_ble_eq_true rfl, Nat.le_of_ble_eq_true rfl⟩ (Nat.le_of_ble_eq_true rfl) ?_
        refine x_aload_n F dX0_isOpenAlong_18 rfl 2 rfl ?_
        refine x_iload_n F dX0_isOpenAlong_19 rfl 0 rfl ?_
        refine z_callVi F [.int (nI k)] (c_X1_carrierAt l D cy lo R ad q ns nt I J hR r (nI k) hk hm hn) mc_X1_carrierAt mv_X1_carrierAt lk_X0_41 hm (sc_rte hk) rfl rfl rfl dX0_isOpenAlong_20 ⟨Nat.le_of_ble_eq_true rfl, Nat.le_of_ble_eq_true rfl⟩ ⟨Nat.le_of_ble_eq_true rfl, Nat.le_of_ble_eq_true rfl⟩ (Nat.le_of_ble_eq_true rfl) ?_
        refine z_callVi F [.int (carAt I r ((nI k) - 1)), .int (carAt I r (nI k))] (c_X0_isOpen l D cy lo R ad q ns nt I J hR (carAt I r ((nI k) - 1)) (carAt I r (nI k)) ) mc_X0_isOpen mv_X0_isOpen lk_X0_45 (hR 3 (by decide)) sc_3 rfl rfl rfl dX0_isOpenAlong_23 ⟨Nat.le_of_ble_eq_true rfl, Nat.le_of_ble_eq_true rfl⟩ ⟨Nat.le_of_ble_eq_true rfl, Nat.le_of_ble_eq_true rfl⟩ (Nat.le_of_ble_eq_true rfl) ?_
        refine x_if_ne F 31 dX0_isOpenAlong_26 (by decide) (fun h26 => ?_) (fun h26 => ?_)
        · rw [kb1] at h26
          refine x_iinc F [(2, .int ((nI k) + 1)), (0, .ref (ad 3)), (1, .ref (ad r))] dX0_isOpenAlong_31 0 rfl (by decide) rfl ?_
          refine x_goto F 2 dX0_isOpenAlong_34 (by decide) ?_
          rw [nI_1]
          exact ih2 (k + 1) (by omega) (by omega) (by omega) (by rw [alongF, hc]; simp [linkF, h26])
        · rw [kb0] at h26
          refine x_iconst F (v := 0) dX0_isOpenAlong_29 (by decide) ?_
          rw [hQ]
          exact x_zret F hr hlk (by decide) ⟨by rw [along_no hk1 h26 n hk9]; rfl, rfl⟩ dX0_isOpenAlong_30
  exact lp2 (n + 1) 1 (by omega) (by omega) (by omega) rfl
set_option maxHeartbeats 4000000 in
set_option maxRecDepth 100000 in
/-- Network.costOf -/
theorem c_X0_costOf (l : Launch) (D : va_G) (cy : Nat → ClassId) (lo : Nat) (R : List Nat) (ad : Nat → Nat) (q : Nat → Nat → Nat) (ns nt : Nat) (I : Nat → Nat → Int32) (J : Nat → Nat → Int64) (hR : ∀ r, r < 19 → r ∈ R) (r : Nat) (hk : r = 6 ∨ (80 ≤ r ∧ r % 4 = 1)) (hm : r ∈ R) (hn : r + 1 ∈ R) (n : Nat) (hlen : I r 1 = nI n) (hn5 : n ≤ 5) (hn1 : 1 ≤ n) : k_Ci l yX0_costOf cX0_costOf 4 (some .int) 2 45 D cy lo R ad (k_c cy ad q ns nt I J) [.ref (ad 3), .ref (ad r)] (costF I r n) (k_c cy ad q ns nt I J) := by
  refine k_metQ (by decide +kernel) (Nat.le_of_ble_eq_true rfl) ?_
  intro p e s m args below meth c Q F hr hlk hnm hQ
  refine x_iconst F (v := 0) dX0_costOf_0 (by decide) ?_
  refine x_istore_n F [(2, .int 0), (0, .ref (ad 3)), (1, .ref (ad r))] dX0_costOf_1 rfl (by decide) rfl ?_
  refine x_iconst F (v := 1) dX0_costOf_2 (by decide) ?_
  refine x_istore_n F [(3, .int 1), (2, .int 0), (0, .ref (ad 3)), (1, .ref (ad r))] dX0_costOf_3 rfl (by decide) rfl ?_
  have lp4 : ∀ (fu4 : Nat) (k : Nat), n - k < fu4 → (1 ≤ k) → (k ≤ n) → XW D lo p l e { frames := 2, cells := 0, slots := 0, locals := 45 } s m args below meth c 4 0 0 Q R ad (k_c cy ad q ns nt I J) 4 [(3, .int (nI k)), (2, .int (costF I r k)), (0, .ref (ad 3)), (1, .ref (ad r))] [] := by
    intro fu4
    induction fu4 with
    | zero => intro k hf4; exact absurd hf4 (Nat.not_lt_zero _)
    | succ fu4 ih4 =>
      intro k hf4 hk1 hkn
      refine x_iload_n F dX0_costOf_4 rfl 0 rfl ?_
      refine x_aload_n F dX0_costOf_5 rfl 3 rfl ?_
      refine g_X0_35 F hm (sc_rte hk) rfl dX0_costOf_6 ?_
      refine x_icmp_ge F 37 dX0_costOf_9 (by decide) (fun h9 => ?_) (fun h9 => ?_)
      · rw [hlen] at h9
        have hk9 := lp_exit (by omega) hkn h9
        subst hk9
        refine x_iload_n F dX0_costOf_37 rfl 1 rfl ?_
        rw [hQ]
        exact x_iret F hr hlk ⟨rfl, rfl⟩ dX0_costOf_38
      · rw [hlen] at h9
        have hk9 := lp_go (by omega) hkn h9
        refine x_iload_n F dX0_costOf_12 rfl 1 rfl ?_
        refine x_aload_n F dX0_costOf_13 rfl 2 rfl ?_
        refine x_aload_n F dX0_costOf_14 rfl 3 rfl ?_
        refine x_iload_n F dX0_costOf_15 rfl 0 rfl ?_
        refine x_iconst F (v := 1) dX0_costOf_16 (by decide) ?_
        refine x_isub F dX0_costOf_17 ?_
        refine z_callVi F [.int ((nI k) - 1)] (c_X1_carrierAt l D cy lo R ad q ns nt I J hR r ((nI k) - 1) hk hm hn) mc_X1_carrierAt mv_X1_carrierAt lk_X0_41 hm (sc_rte hk) rfl rfl rfl dX0_costOf_18 ⟨Nat.le_of_ble_eq_true rfl, Nat.le_of_ble_eq_true rfl⟩ ⟨Nat.le_of_ble_eq_true rfl, Nat.le_of_ble_eq_true rfl⟩ (Nat.le_of_ble_eq_true rfl) ?_
        refine x_aload_n F dX0_costOf_21 rfl 3 rfl ?_
        refine x_iload_n F dX0_costOf_22 rfl 0 rfl ?_
        refine z_callVi F [.int (nI k)] (c_X1_carrierAt l D cy lo R ad q ns nt I J hR r (nI k) hk hm hn) mc_X1_carrierAt mv_X1_carrierAt lk_X0_41 hm (sc_rte hk) rfl rfl rfl dX0_costOf_23 ⟨Nat.le_of_ble_eq_true rfl, Nat.le_of_ble_eq_true rfl⟩ ⟨Nat.le_of_ble_eq_true rfl, Nat.le_of_ble_eq_true rfl⟩ (Nat.le_of_ble_eq_true rfl) ?_
        refine z_callVi F [.int (carAt I r ((nI k) - 1)), .int (carAt I r (nI k))] (c_X0_rateOf l D cy lo R ad q ns nt I J hR (carAt I r ((nI k) - 1)) (carAt I r (nI k)) ) mc_X0_rateOf mv_X0_rateOf lk_X0_49 (hR 3 (by decide)) sc_3 rfl rfl rfl dX0_costOf_26 ⟨Nat.le_of_ble_eq_true rfl, Nat.le_of_ble_eq_true rfl⟩ ⟨Nat.le_of_ble_eq_true rfl, Nat.le_of_ble_eq_true rfl⟩ (Nat.le_of_ble_eq_true rfl) ?_
        refine x_iadd F dX0_costOf_29 ?_
        refine x_istore_n F [(2, .int ((costF I r k) + (rateF I (carAt I r ((nI k) - 1)) (carAt I r (nI k))))), (3, .int (nI k)), (0, .ref (ad 3)), (1, .ref (ad r))] dX0_costOf_30 rfl (by decide) rfl ?_
        refine x_iinc F [(3, .int ((nI k) + 1)), (2, .int ((costF I r k) + (rateF I (carAt I r ((nI k) - 1)) (carAt I r (nI k))))), (0, .ref (ad 3)), (1, .ref (ad r))] dX0_costOf_31 1 rfl (by decide) rfl ?_
        refine x_goto F 4 dX0_costOf_34 (by decide) ?_
        rw [nI_1, show costF I r k + rateF I (carAt I r (nI k - 1)) (carAt I r (nI k)) = costF I r (k + 1) by rw [costF, if_neg (by omega)]]
        exact ih4 (k + 1) (by omega) (by omega) (by omega)
  exact lp4 (n + 1) 1 (by omega) (by omega) (by omega)
