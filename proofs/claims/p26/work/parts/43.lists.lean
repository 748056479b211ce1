/-! what the loops over the list of calls find -/
def posF (J : Nat → Nat → Int64) (c : Int32) : Nat → Int64
  | 0 => 0
  | k + 1 => posF J c k + debtF J (nI k) c
def chSum (J : Nat → Nat → Int64) (nt : Nat) (x : Int32) : Nat → Int64
  | 0 => 0
  | k + 1 => if (nI k).toNatClampNeg < nt then chSum J nt x k + chF J (80 + 4 * (nI k).toNatClampNeg) x else chSum J nt x k
def busyC (I : Nat → Nat → Int32) (q : Nat → Nat → Nat) (nt r : Nat) : Nat → Bool
  | 0 => false
  | k + 1 => busyC I q nt r k || (decide ((nI k).toNatClampNeg < nt) && (decide (I (80 + 4 * (nI k).toNatClampNeg) 6 = 0) && (decide (40 + 2 * q (80 + 4 * (nI k).toNatClampNeg) 0 = r) || decide (40 + 2 * q (80 + 4 * (nI k).toNatClampNeg) 1 = r))))
theorem busyC_up {I : Nat → Nat → Int32} {q : Nat → Nat → Nat} {nt r k : Nat} (h : busyC I q nt r k = true) : ∀ n, k ≤ n → busyC I q nt r n = true := by
  intro n
  induction n with
  | zero => intro hk; rw [show k = 0 by omega] at h; exact h
  | succ n ih =>
    intro hk
    rcases Nat.lt_or_ge n k with z | z
    · rw [show n + 1 = k by omega]; exact h
    · rw [busyC, ih z]; rfl
def k_Q (q : Nat → Nat → Nat) (ns nt : Nat) : Prop := ∀ j, j < nt → q (80 + 4 * j) 0 < ns ∧ q (80 + 4 * j) 1 < ns
set_option maxHeartbeats 4000000 in
set_option maxRecDepth 100000 in
/-- position -/
theorem c_X4_position (l : Launch) (D : va_G) (cy : Nat → ClassId) (lo : Nat) (R : List Nat) (ad : Nat → Nat) (q : Nat → Nat → Nat) (ns nt : Nat) (I : Nat → Nat → Int32) (J : Nat → Nat → Int64) (hL : k_RL R ns nt) (hfl : l.stackTraces = false) (a : Int32) : k_Xl l yX4_position cX4_position 5 (some .long) 7 106 1 6 D cy lo R ad (k_c cy ad q ns nt I J) [.ref (ad 0), .int a] (isCar a = true) (fun E => E = e_IO ∧ isCar a = false) (posF J a 5) (k_c cy ad q ns nt I J) := by
  refine k_metXQ (by decide +kernel) (Nat.le_of_ble_eq_true rfl) ?_
  intro p e s m args below meth c Q F hr hlk ht hQ
  have hR := hL.1
  refine x_iload_n F dX4_position_0 rfl 1 rfl ?_
  refine z_callSvx F [.int a] (c_X4_demandCarrier l D cy lo R ad _ hfl a) mc_X4_demandCarrier ms_X4_demandCarrier lk_X4_48 rfl rfl dX4_position_1 ⟨Nat.le_of_ble_eq_true rfl, Nat.le_of_ble_eq_true rfl⟩ ⟨Nat.le_of_ble_eq_true rfl, Nat.le_of_ble_eq_true rfl⟩ (Nat.le_of_ble_eq_true rfl) (fun E hE1 => ?_) (fun ok1 => ?_)
  · rw [hQ]
    exact x_out F ht hlk ⟨hE1, rfl⟩ (by decide) (by decide)
  · refine x_lconst F (v := 0) dX4_position_4 (by decide) ?_
    refine x_lstore_n F [(2, .long 0), (0, .ref (ad 0)), (1, .int a)] dX4_position_5 rfl (by decide) rfl ?_
    refine x_iconst F (v := 0) dX4_position_6 (by decide) ?_
    refine x_istore F [(4, .int 0), (2, .long 0), (0, .ref (ad 0)), (1, .int a)] dX4_position_7 (by decide) rfl ?_
    have lp9 : ∀ (fu9 : Nat) (k : Nat), 5 - k < fu9 → (k ≤ 5) → XW D lo p l e { frames := 7, cells := 1, slots := 6, locals := 106 } s m args below meth c 5 1 6 Q R ad (k_c cy ad q ns nt I J) 9 [(4, .int (nI k)), (2, .long (posF J a k)), (0, .ref (ad 0)), (1, .int a)] [] := by
      intro fu9
      induction fu9 with
      | zero => intro k hf9; exact absurd hf9 (Nat.not_lt_zero _)
      | succ fu9 ih9 =>
        intro k hf9 hkn
        refine x_iload F dX4_position_9 0 rfl ?_
        refine x_iconst F (v := 5) dX4_position_11 (by decide) ?_
        refine x_icmp_ge F 34 dX4_position_12 (by decide) (fun h12 => ?_) (fun h12 => ?_)
        · have hk9 : k = 5 := lp_exit (N := 5) (by omega) hkn h12
          subst hk9
          refine x_lload_n F dX4_position_34 rfl 1 rfl ?_
          rw [hQ]
          refine x_widen (k := 1) (n := 6) (Nat.le_of_ble_eq_true rfl) (Nat.le_of_ble_eq_true rfl) ?_
          exact x_lretx F hr hlk ⟨by assumption, rfl, rfl⟩ dX4_position_35
        · have hk9 : k < 5 := lp_go (N := 5) (by omega) hkn h12
          refine x_lload_n F dX4_position_15 rfl 1 rfl ?_
          refine x_aload_n F dX4_position_16 rfl 2 rfl ?_
          refine g_X4_19 F (hL.1 0 (by decide)) sc_0 rfl dX4_position_17 ?_
          refine x_iload F dX4_position_20 0 rfl ?_
          refine x_iload_n F dX4_position_22 rfl 3 rfl ?_
          refine z_callVl F [.int (nI k), .int a] (c_X0_debtOf l D cy lo R ad q ns nt I J hR (nI k) a ) mc_X0_debtOf mv_X0_debtOf lk_X4_187 (hR 3 (by decide)) sc_3 rfl rfl rfl dX4_position_23 ⟨Nat.le_of_ble_eq_true rfl, Nat.le_of_ble_eq_true rfl⟩ ⟨Nat.le_of_ble_eq_true rfl, Nat.le_of_ble_eq_true rfl⟩ (Nat.le_of_ble_eq_true rfl) ?_
          refine x_ladd F dX4_position_26 ?_
          refine x_lstore_n F [(2, .long ((posF J a k) + (debtF J (nI k) a))), (4, .int (nI k)), (0, .ref (ad 0)), (1, .int a)] dX4_position_27 rfl (by decide) rfl ?_
          refine x_iinc F [(4, .int ((nI k) + 1)), (2, .long ((posF J a k) + (debtF J (nI k) a))), (0, .ref (ad 0)), (1, .int a)] dX4_position_28 1 rfl (by decide) rfl ?_
          refine x_goto F 9 dX4_position_31 (by decide) ?_
          rw [nI_1]
          refine x_sub [0, 1, 2, 3] rfl ?_
          exact ih9 (k + 1) (by omega) (by omega)
    exact lp9 6 0 (by omega) (by omega)
set_option maxHeartbeats 4000000 in
set_option maxRecDepth 100000 in
/-- charged -/
theorem c_X4_charged (l : Launch) (D : va_G) (cy : Nat → ClassId) (lo : Nat) (R : List Nat) (ad : Nat → Nat) (q : Nat → Nat → Nat) (ns nt : Nat) (I : Nat → Nat → Int32) (J : Nat → Nat → Int64) (hL : k_RL R ns nt) (hfl : l.stackTraces = false) (a : Int32) (b : Int32) : k_Xl l yX4_charged cX4_charged 10 (some .long) 7 106 2 12 D cy lo R ad (k_c cy ad q ns nt I J) [.ref (ad 0), .int a, .int b] ((isCar a && isCar b) = true) (fun E => E = e_IO ∧ (isCar a && isCar b) = false) (chSum J nt (pairI a b) 60) (k_c cy ad q ns nt I J) := by
  refine k_metXQ (by decide +kernel) (Nat.le_of_ble_eq_true rfl) ?_
  intro p e s m args below meth c Q F hr hlk ht hQ
  have hR := hL.1
  refine x_iload_n F dX4_charged_0 rfl 1 rfl ?_
  refine z_callSvx F [.int a] (c_X4_demandCarrier l D cy lo R ad _ hfl a) mc_X4_demandCarrier ms_X4_demandCarrier lk_X4_48 rfl rfl dX4_charged_1 ⟨Nat.le_of_ble_eq_true rfl, Nat.le_of_ble_eq_true rfl⟩ ⟨Nat.le_of_ble_eq_true rfl, Nat.le_of_ble_eq_true rfl⟩ (Nat.le_of_ble_eq_true rfl) (fun E hE1 => ?_) (fun ok1 => ?_)
  · rw [hQ]
    exact x_out F ht hlk ⟨⟨hE1.1, by simp [hE1.2]⟩, rfl⟩ (by decide) (by decide)
  · refine x_iload_n F dX4_charged_4 rfl 2 rfl ?_
    refine z_callSvx F [.int b] (c_X4_demandCarrier l D cy lo R ad _ hfl b) mc_X4_demandCarrier ms_X4_demandCarrier lk_X4_48 rfl rfl dX4_charged_5 ⟨Nat.le_of_ble_eq_true rfl, Nat.le_of_ble_eq_true rfl⟩ ⟨Nat.le_of_ble_eq_true rfl, Nat.le_of_ble_eq_true rfl⟩ (Nat.le_of_ble_eq_true rfl) (fun E hE5 => ?_) (fun ok5 => ?_)
    · rw [hQ]
      exact x_out F ht hlk ⟨⟨hE5.1, by simp [hE5.2]⟩, rfl⟩ (by decide) (by decide)
    · refine x_iload_n F dX4_charged_8 rfl 1 rfl ?_
      refine x_iload_n F dX4_charged_9 rfl 2 rfl ?_
      refine z_callSi F [.int a, .int b] (c_X4_pairOf l D cy lo R ad _ a b) mc_X4_pairOf ms_X4_pairOf lk_X4_191 rfl rfl dX4_charged_10 ⟨Nat.le_of_ble_eq_true rfl, Nat.le_of_ble_eq_true rfl⟩ ⟨Nat.le_of_ble_eq_true rfl, Nat.le_of_ble_eq_true rfl⟩ (Nat.le_of_ble_eq_true rfl) ?_
      refine x_istore_n F [(3, .int (pairI a b)), (0, .ref (ad 0)), (1, .int a), (2, .int b)] dX4_charged_13 rfl (by decide) rfl ?_
      refine x_lconst F (v := 0) dX4_charged_14 (by decide) ?_
      refine x_lstore F [(4, .long 0), (3, .int (pairI a b)), (0, .ref (ad 0)), (1, .int a), (2, .int b)] dX4_charged_15 (by decide) rfl ?_
      refine x_aload_n F dX4_charged_17 rfl 2 rfl ?_
      refine g_X4_31 F (hL.1 0 (by decide)) sc_0 rfl dX4_charged_18 ?_
      refine x_astore F [(6, .ref (ad 5)), (4, .long 0), (3, .int (pairI a b)), (0, .ref (ad 0)), (1, .int a), (2, .int b)] dX4_charged_21 (by decide) rfl ?_
      refine x_aload F dX4_charged_23 0 rfl ?_
      refine x_alenT F (hR 5 (by decide)) (ss_5 _ _) dX4_charged_25 ?_
      refine x_istore F [(7, .int (nI 60)), (6, .ref (ad 5)), (4, .long 0), (3, .int (pairI a b)), (0, .ref (ad 0)), (1, .int a), (2, .int b)] dX4_charged_26 (by decide) rfl ?_
      refine x_iconst F (v := 0) dX4_charged_28 (by decide) ?_
      refine x_istore F [(8, .int 0), (7, .int (nI 60)), (6, .ref (ad 5)), (4, .long 0), (3, .int (pairI a b)), (0, .ref (ad 0)), (1, .int a), (2, .int b)] dX4_charged_29 (by decide) rfl ?_
      have lp31 : ∀ (fu31 : Nat) (k : Nat), 60 - k < fu31 → (k ≤ 60) → XW D lo p l e { frames := 7, cells := 2, slots := 12, locals := 106 } s m args below meth c 10 2 12 Q R ad (k_c cy ad q ns nt I J) 31 [(8, .int (nI k)), (7, .int (nI 60)), (6, .ref (ad 5)), (4, .long (chSum J nt (pairI a b) k)), (3, .int (pairI a b)), (0, .ref (ad 0)), (1, .int a), (2, .int b)] [] := by
        intro fu31
        induction fu31 with
        | zero => intro k hf31; exact absurd hf31 (Nat.not_lt_zero _)
        | succ fu31 ih31 =>
          intro k hf31 hkn
          refine x_iload F dX4_charged_31 0 rfl ?_
          refine x_iload F dX4_charged_33 1 rfl ?_
          refine x_icmp_ge F 67 dX4_charged_35 (by decide) (fun h35 => ?_) (fun h35 => ?_)
          · have hk9 : k = 60 := lp_exit (N := 60) (by omega) hkn h35
            subst hk9
            refine x_lload F dX4_charged_67 3 rfl ?_
            rw [hQ]
            refine x_widen (k := 2) (n := 12) (Nat.le_of_ble_eq_true rfl) (Nat.le_of_ble_eq_true rfl) ?_
            exact x_lretx F hr hlk ⟨by simp [*], rfl, rfl⟩ dX4_charged_69
          · have hk9 : k < 60 := lp_go (N := 60) (by omega) hkn h35
            refine x_aload F dX4_charged_38 2 rfl ?_
            refine x_iload F dX4_charged_40 0 rfl ?_
            refine y_aldT F (hR 5 (by decide)) (ss_5 _ _) (vp_in_nI hk9 (by omega)) dX4_charged_42 ?_
            refine x_rf (fun h42n => ?_) (fun h42n => ?_)
            · refine x_astore F [(9, .ref (ad (80 + 4 * (nI k).toNatClampNeg))), (8, .int (nI k)), (7, .int (nI 60)), (6, .ref (ad 5)), (4, .long (chSum J nt (pairI a b) k)), (3, .int (pairI a b)), (0, .ref (ad 0)), (1, .int a), (2, .int b)] dX4_charged_43 (by decide) rfl ?_
              refine x_aload F dX4_charged_45 0 rfl ?_
              refine x_ifnull F dX4_charged_47 ?_
              refine x_lload F dX4_charged_50 4 rfl ?_
              refine x_aload F dX4_charged_52 0 rfl ?_
              refine x_iload_n F dX4_charged_54 rfl 5 rfl ?_
              refine z_callVl F [.int (pairI a b)] (c_X3_chargeOf l D cy lo R ad q ns nt I J hR (80 + 4 * (nI k).toNatClampNeg) (pairI a b) (tlk_rng ((nI k).toNatClampNeg)) ((hL.2.2.1 _ h42n).1) ((hL.2.2.1 _ h42n).2.1) ((hL.2.2.1 _ h42n).2.2.1) ((hL.2.2.1 _ h42n).2.2.2)) mc_X3_chargeOf mv_X3_chargeOf lk_X4_194 (hL.2.2.1 _ h42n).1 (sc_tlk (tlk_rng ((nI k).toNatClampNeg))) rfl rfl rfl dX4_charged_55 ⟨Nat.le_of_ble_eq_true rfl, Nat.le_of_ble_eq_true rfl⟩ ⟨Nat.le_of_ble_eq_true rfl, Nat.le_of_ble_eq_true rfl⟩ (Nat.le_of_ble_eq_true rfl) ?_
              refine x_ladd F dX4_charged_58 ?_
              refine x_lstore F [(4, .long ((chSum J nt (pairI a b) k) + (chF J (80 + 4 * (nI k).toNatClampNeg) (pairI a b)))), (9, .ref (ad (80 + 4 * (nI k).toNatClampNeg))), (8, .int (nI k)), (7, .int (nI 60)), (6, .ref (ad 5)), (3, .int (pairI a b)), (0, .ref (ad 0)), (1, .int a), (2, .int b)] dX4_charged_59 (by decide) rfl ?_
              refine x_iinc F [(8, .int ((nI k) + 1)), (4, .long ((chSum J nt (pairI a b) k) + (chF J (80 + 4 * (nI k).toNatClampNeg) (pairI a b)))), (9, .ref (ad (80 + 4 * (nI k).toNatClampNeg))), (7, .int (nI 60)), (6, .ref (ad 5)), (3, .int (pairI a b)), (0, .ref (ad 0)), (1, .int a), (2, .int b)] dX4_charged_61 2 rfl (by decide) rfl ?_
              refine x_goto F 31 dX4_charged_64 (by decide) ?_
              rw [nI_1]
              refine x_sub [0, 3, 4, 1, 5, 6, 7, 8] rfl ?_
              rw [show chSum J nt (pairI a b) k + chF J (80 + 4 * (nI k).toNatClampNeg) (pairI a b) = chSum J nt (pairI a b) (k + 1) by rw [chSum, if_pos h42n]]
              exact ih31 (k + 1) (by omega) (by omega)
            · refine x_astoreN F [(9, .null), (8, .int (nI k)), (7, .int (nI 60)), (6, .ref (ad 5)), (4, .long (chSum J nt (pairI a b) k)), (3, .int (pairI a b)), (0, .ref (ad 0)), (1, .int a), (2, .int b)] dX4_charged_43 (by decide) rfl ?_
              refine x_aloadN F dX4_charged_45 0 rfl ?_
              refine x_ifnullN F 61 dX4_charged_47 (by decide) ?_
              refine x_iinc F [(8, .int ((nI k) + 1)), (9, .null), (7, .int (nI 60)), (6, .ref (ad 5)), (4, .long (chSum J nt (pairI a b) k)), (3, .int (pairI a b)), (0, .ref (ad 0)), (1, .int a), (2, .int b)] dX4_charged_61 1 rfl (by decide) rfl ?_
              refine x_goto F 31 dX4_charged_64 (by decide) ?_
              rw [nI_1]
              refine x_sub [0, 2, 3, 4, 5, 6, 7, 8] rfl ?_
              rw [show chSum J nt (pairI a b) k = chSum J nt (pairI a b) (k + 1) by rw [chSum, if_neg h42n]]
              exact ih31 (k + 1) (by omega) (by omega)
      refine x_sub [0, 1, 2, 3, 4, 5, 6, 7] rfl ?_
      exact lp31 61 0 (by omega) (by omega)
set_option maxHeartbeats 4000000 in
set_option maxRecDepth 100000 in
/-- isTalking -/
theorem c_X4_isTalking (l : Launch) (D : va_G) (cy : Nat → ClassId) (lo : Nat) (R : List Nat) (ad : Nat → Nat) (q : Nat → Nat → Nat) (ns nt : Nat) (I : Nat → Nat → Int32) (J : Nat → Nat → Int64) (hR : ∀ r, r < 19 → r ∈ R) (r : Nat) (hk : 40 ≤ r ∧ r < 80 ∧ r % 2 = 0) (hm : r ∈ R) (hn : r + 1 ∈ R) (hL : k_RL R ns nt) (hq : k_Q q ns nt) : k_Ci l yX4_isTalking cX4_isTalking 6 (some .boolean) 0 0 D cy lo R ad (k_c cy ad q ns nt I J) [.ref (ad 0), .ref (ad r)] (k_b (busyC I q nt r 60)) (k_c cy ad q ns nt I J) := by
  refine k_metQ (by decide +kernel) (Nat.le_of_ble_eq_true rfl) ?_
  intro p e s m args below meth c Q F hr hlk hnm hQ
  refine x_aload_n F dX4_isTalking_0 rfl 0 rfl ?_
  refine g_X4_31 F (hL.1 0 (by decide)) sc_0 rfl dX4_isTalking_1 ?_
  refine x_astore_n F [(2, .ref (ad 5)), (0, .ref (ad 0)), (1, .ref (ad r))] dX4_isTalking_4 rfl (by decide) rfl ?_
  refine x_aload_n F dX4_isTalking_5 rfl 0 rfl ?_
  refine x_alenT F (hR 5 (by decide)) (ss_5 _ _) dX4_isTalking_6 ?_
  refine x_istore_n F [(3, .int (nI 60)), (2, .ref (ad 5)), (0, .ref (ad 0)), (1, .ref (ad r))] dX4_isTalking_7 rfl (by decide) rfl ?_
  refine x_iconst F (v := 0) dX4_isTalking_8 (by decide) ?_
  refine x_istore F [(4, .int 0), (3, .int (nI 60)), (2, .ref (ad 5)), (0, .ref (ad 0)), (1, .ref (ad r))] dX4_isTalking_9 (by decide) rfl ?_
  have lp11 : ∀ (fu11 : Nat) (k : Nat), 60 - k < fu11 → (k ≤ 60) → (busyC I q nt r k = false) → XW D lo p l e { frames := 0, cells := 0, slots := 0, locals := 0 } s m args below meth c 6 0 0 Q R ad (k_c cy ad q ns nt I J) 11 [(4, .int (nI k)), (3, .int (nI 60)), (2, .ref (ad 5)), (0, .ref (ad 0)), (1, .ref (ad r))] [] := by
    intro fu11
    induction fu11 with
    | zero => intro k hf11; exact absurd hf11 (Nat.not_lt_zero _)
    | succ fu11 ih11 =>
      intro k hf11 hkn hc
      refine x_iload F dX4_isTalking_11 0 rfl ?_
      refine x_iload_n F dX4_isTalking_13 rfl 1 rfl ?_
      refine x_icmp_ge F 62 dX4_isTalking_14 (by decide) (fun h14 => ?_) (fun h14 => ?_)
      · have hk9 : k = 60 := lp_exit (N := 60) (by omega) hkn h14
        subst hk9
        refine x_iconst F (v := 0) dX4_isTalking_62 (by decide) ?_
        rw [hQ]
        exact x_zret F hr hlk (by decide) ⟨by rw [hc]; rfl, rfl⟩ dX4_isTalking_63
      · have hk9 : k < 60 := lp_go (N := 60) (by omega) hkn h14
        refine x_aload_n F dX4_isTalking_17 rfl 2 rfl ?_
        refine x_iload F dX4_isTalking_18 0 rfl ?_
        refine y_aldT F (hR 5 (by decide)) (ss_5 _ _) (vp_in_nI hk9 (by omega)) dX4_isTalking_20 ?_
        refine x_rf (fun h20n => ?_) (fun h20n => ?_)
        · refine x_astore F [(5, .ref (ad (80 + 4 * (nI k).toNatClampNeg))), (4, .int (nI k)), (3, .int (nI 60)), (2, .ref (ad 5)), (0, .ref (ad 0)), (1, .ref (ad r))] dX4_isTalking_21 (by decide) rfl ?_
          refine x_aload F dX4_isTalking_23 0 rfl ?_
          refine x_ifnull F dX4_isTalking_25 ?_
          refine x_aload F dX4_isTalking_28 0 rfl ?_
          refine g_X4_152 F (hL.2.2.1 _ h20n).1 (sc_tlk (tlk_rng ((nI k).toNatClampNeg))) rfl dX4_isTalking_30 ?_
          refine x_if_ne F 56 dX4_isTalking_33 (by decide) (fun h33 => ?_) (fun h33 => ?_)
          · refine x_iinc F [(4, .int ((nI k) + 1)), (5, .ref (ad (80 + 4 * (nI k).toNatClampNeg))), (3, .int (nI 60)), (2, .ref (ad 5)), (0, .ref (ad 0)), (1, .ref (ad r))] dX4_isTalking_56 1 rfl (by decide) rfl ?_
            refine x_goto F 11 dX4_isTalking_59 (by decide) ?_
            rw [nI_1]
            refine x_sub [0, 2, 3, 4, 5] rfl ?_
            exact ih11 (k + 1) (by omega) (by omega) (by simp [busyC, *])
          · refine x_aload F dX4_isTalking_36 0 rfl ?_
            refine g_X4_215 F (hL.2.2.1 _ h20n).1 (sc_tlk (tlk_rng ((nI k).toNatClampNeg))) rfl dX4_isTalking_38 ?_
            refine x_aload_n F dX4_isTalking_41 rfl 5 rfl ?_
            refine x_inj (hL.2.1 _ (hq _ h20n).1).1 hm (fun hj42 => ?_)
            refine x_acmp_eq F (rx := some (ad (40 + 2 * q (80 + 4 * (nI k).toNatClampNeg) 0))) (ry := some (ad r)) 54 dX4_isTalking_42 (by decide) (fun h42 => ?_) (fun h42 => ?_)
            · have g42 := hj42 (by first | exact h42 | exact Option.some.inj h42 | exact Option.some.inj (Classical.not_not.mp h42) | exact Classical.not_not.mp h42)
              refine x_iconst F (v := 1) dX4_isTalking_54 (by decide) ?_
              rw [hQ]
              exact x_zret F hr hlk (by decide) ⟨by rw [busyC_up (k := k + 1) (by simp [busyC, *]) 60 (by omega)]; rfl, rfl⟩ dX4_isTalking_55
            · have g42 : ¬ 40 + 2 * q (80 + 4 * (nI k).toNatClampNeg) 0 = r := fun he => h42 (by rw [he])
              refine x_aload F dX4_isTalking_45 0 rfl ?_
              refine g_X4_219 F (hL.2.2.1 _ h20n).1 (sc_tlk (tlk_rng ((nI k).toNatClampNeg))) rfl dX4_isTalking_47 ?_
              refine x_aload_n F dX4_isTalking_50 rfl 5 rfl ?_
              refine x_inj (hL.2.1 _ (hq _ h20n).2).1 hm (fun hj51 => ?_)
              refine x_acmp_ne F (rx := some (ad (40 + 2 * q (80 + 4 * (nI k).toNatClampNeg) 1))) (ry := some (ad r)) 56 dX4_isTalking_51 (by decide) (fun h51 => ?_) (fun h51 => ?_)
              · have g51 : ¬ 40 + 2 * q (80 + 4 * (nI k).toNatClampNeg) 1 = r := fun he => h51 (by rw [he])
                refine x_iinc F [(4, .int ((nI k) + 1)), (5, .ref (ad (80 + 4 * (nI k).toNatClampNeg))), (3, .int (nI 60)), (2, .ref (ad 5)), (0, .ref (ad 0)), (1, .ref (ad r))] dX4_isTalking_56 1 rfl (by decide) rfl ?_
                refine x_goto F 11 dX4_isTalking_59 (by decide) ?_
                rw [nI_1]
                refine x_sub [0, 2, 3, 4, 5] rfl ?_
                exact ih11 (k + 1) (by omega) (by omega) (by simp [busyC, *])
              · have g51 := hj51 (by first | exact h51 | exact Option.some.inj h51 | exact Option.some.inj (Classical.not_not.mp h51) | exact Classical.not_not.mp h51)
                refine x_iconst F (v := 1) dX4_isTalking_54 (by decide) ?_
                rw [hQ]
                exact x_zret F hr hlk (by decide) ⟨by rw [busyC_up (k := k + 1) (by simp [busyC, *]) 60 (by omega)]; rfl, rfl⟩ dX4_isTalking_55
        · refine x_astoreN F [(5, .null), (4, .int (nI k)), (3, .int (nI 60)), (2, .ref (ad 5)), (0, .ref (ad 0)), (1, .ref (ad r))] dX4_isTalking_21 (by decide) rfl ?_
          refine x_aloadN F dX4_isTalking_23 0 rfl ?_
          refine x_ifnullN F 56 dX4_isTalking_25 (by decide) ?_
          refine x_iinc F [(4, .int ((nI k) + 1)), (5, .null), (3, .int (nI 60)), (2, .ref (ad 5)), (0, .ref (ad 0)), (1, .ref (ad r))] dX4_isTalking_56 1 rfl (by decide) rfl ?_
          refine x_goto F 11 dX4_isTalking_59 (by decide) ?_
          rw [nI_1]
          refine x_sub [0, 2, 3, 4, 5] rfl ?_
          exact ih11 (k + 1) (by omega) (by omega) (by simp [busyC, *])
  refine x_sub [0, 1, 2, 3, 4] rfl ?_
  exact lp11 61 0 (by omega) (by omega) rfl
