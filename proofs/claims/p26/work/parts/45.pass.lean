set_option maxHeartbeats 4000000 in
set_option maxRecDepth 100000 in
/-- pass -/
theorem c_X4_pass (l : Launch) (D : va_G) (cy : Nat → ClassId) (lo : Nat) (R : List Nat) (ad : Nat → Nat) (q : Nat → Nat → Nat) (ns nt : Nat) (I : Nat → Nat → Int32) (J : Nat → Nat → Int64) (hL : k_RL R ns nt) (hfl : l.stackTraces = false) (a : Int32) (hq : k_Q q ns nt) (hlen : LenA I nt) : k_Xi l yX4_pass cX4_pass 8 (some .int) 6 139 1 6 D cy lo R ad (k_c cy ad q ns nt I J) [.ref (ad 0), .int a] (isWi a 1 200 = true) (fun E => E = e_IA ∧ isWi a 1 200 = false) ((passS q nt (I, J, 0) a.toNatClampNeg).2.2) (k_c cy ad q ns nt ((passS q nt (I, J, 0) a.toNatClampNeg).1) ((passS q nt (I, J, 0) a.toNatClampNeg).2.1)) := by
  refine k_metXQ (by decide +kernel) (Nat.le_of_ble_eq_true rfl) ?_
  intro p e s m args below meth c Q F hr hlk ht hQ
  have hR := hL.1
  refine x_iload_n F dX4_pass_0 rfl 1 rfl ?_
  refine x_iconst F (v := 1) dX4_pass_1 (by decide) ?_
  refine x_sipush F (v := 200) dX4_pass_2 (by decide) ?_
  refine z_callSi F [.int a, .int 1, .int 200] (c_X4_isWithin l D cy lo R ad _ a 1 200) mc_X4_isWithin ms_X4_isWithin lk_X4_52 rfl rfl dX4_pass_5 ⟨Nat.le_of_ble_eq_true rfl, Nat.le_of_ble_eq_true rfl⟩ ⟨Nat.le_of_ble_eq_true rfl, Nat.le_of_ble_eq_true rfl⟩ (Nat.le_of_ble_eq_true rfl) ?_
  refine x_if_ne F 21 dX4_pass_8 (by decide) (fun h8 => ?_) (fun h8 => ?_)
  · rw [kb1] at h8
    have hw9 := wi_nat h8
    refine x_iconst F (v := 0) dX4_pass_21 (by decide) ?_
    refine x_istore_n F [(2, .int 0), (0, .ref (ad 0)), (1, .int a)] dX4_pass_22 rfl (by decide) rfl ?_
    refine x_iconst F (v := 0) dX4_pass_23 (by decide) ?_
    refine x_istore_n F [(3, .int 0), (2, .int 0), (0, .ref (ad 0)), (1, .int a)] dX4_pass_24 rfl (by decide) rfl ?_
    have lp25 : ∀ (fu25 : Nat) (dd : Nat), a.toNatClampNeg - dd < fu25 → (dd ≤ a.toNatClampNeg) → XW D lo p l e { frames := 6, cells := 1, slots := 6, locals := 139 } s m args below meth c 8 0 0 Q R ad (k_c cy ad q ns nt ((passS q nt (I, J, 0) dd).1) ((passS q nt (I, J, 0) dd).2.1)) 25 [(3, .int (nI dd)), (2, .int ((passS q nt (I, J, 0) dd).2.2)), (0, .ref (ad 0)), (1, .int a)] [] := by
      intro fu25
      induction fu25 with
      | zero => intro dd hf25; exact absurd hf25 (Nat.not_lt_zero _)
      | succ fu25 ih25 =>
        intro dd hf25 hmn
        refine x_iload_n F dX4_pass_25 rfl 0 rfl ?_
        refine x_iload_n F dX4_pass_26 rfl 3 rfl ?_
        refine x_icmp_ge F 101 dX4_pass_27 (by decide) (fun h27 => ?_) (fun h27 => ?_)
        · rw [hw9.1] at h27
          have hm7 := lp_exit (by omega) hmn h27
          refine x_iload_n F dX4_pass_101 rfl 1 rfl ?_
          rw [hQ]
          refine x_widen (k := 1) (n := 6) (Nat.le_of_ble_eq_true rfl) (Nat.le_of_ble_eq_true rfl) ?_
          exact x_iretx F hr hlk ⟨by assumption, by rw [hm7], by rw [hm7]⟩ dX4_pass_102
        · rw [hw9.1] at h27
          have hm7 := lp_go (by omega) hmn h27
          refine x_aload_n F dX4_pass_30 rfl 2 rfl ?_
          refine g_X4_31 F (hL.1 0 (by decide)) sc_0 rfl dX4_pass_31 ?_
          refine x_astore F [(4, .ref (ad 5)), (3, .int (nI dd)), (2, .int ((passS q nt (I, J, 0) dd).2.2)), (0, .ref (ad 0)), (1, .int a)] dX4_pass_34 (by decide) rfl ?_
          refine x_aload F dX4_pass_36 0 rfl ?_
          refine x_alenT F (hR 5 (by decide)) (ss_5 _ _) dX4_pass_38 ?_
          refine x_istore F [(5, .int (nI 60)), (4, .ref (ad 5)), (3, .int (nI dd)), (2, .int ((passS q nt (I, J, 0) dd).2.2)), (0, .ref (ad 0)), (1, .int a)] dX4_pass_39 (by decide) rfl ?_
          refine x_iconst F (v := 0) dX4_pass_41 (by decide) ?_
          refine x_istore F [(6, .int 0), (5, .int (nI 60)), (4, .ref (ad 5)), (3, .int (nI dd)), (2, .int ((passS q nt (I, J, 0) dd).2.2)), (0, .ref (ad 0)), (1, .int a)] dX4_pass_42 (by decide) rfl ?_
          have lp44 : ∀ (fu44 : Nat) (k : Nat), 60 - k < fu44 → (k ≤ 60) → XW D lo p l e { frames := 6, cells := 1, slots := 6, locals := 139 } s m args below meth c 8 0 0 Q R ad (k_c cy ad q ns nt ((minS q nt (passS q nt (I, J, 0) dd) k).1) ((minS q nt (passS q nt (I, J, 0) dd) k).2.1)) 44 [(6, .int (nI k)), (5, .int (nI 60)), (4, .ref (ad 5)), (3, .int (nI dd)), (2, .int ((minS q nt (passS q nt (I, J, 0) dd) k).2.2)), (0, .ref (ad 0)), (1, .int a)] [] := by
            intro fu44
            induction fu44 with
            | zero => intro k hf44; exact absurd hf44 (Nat.not_lt_zero _)
            | succ fu44 ih44 =>
              intro k hf44 hkn
              refine x_iload F dX4_pass_44 0 rfl ?_
              refine x_iload F dX4_pass_46 1 rfl ?_
              refine x_icmp_ge F 95 dX4_pass_48 (by decide) (fun h48 => ?_) (fun h48 => ?_)
              · have hk7 : k = 60 := lp_exit (N := 60) (by omega) hkn h48
                refine x_iinc F [(3, .int ((nI dd) + 1)), (6, .int (nI k)), (5, .int (nI 60)), (4, .ref (ad 5)), (2, .int ((minS q nt (passS q nt (I, J, 0) dd) k).2.2)), (0, .ref (ad 0)), (1, .int a)] dX4_pass_95 3 rfl (by decide) rfl ?_
                refine x_goto F 25 dX4_pass_98 (by decide) ?_
                rw [nI_1]
                subst hk7
                refine x_world (show (k_c cy ad q ns nt ((minS q nt (passS q nt (I, J, 0) dd) 60).1) ((minS q nt (passS q nt (I, J, 0) dd) 60).2.1)) = (k_c cy ad q ns nt ((passS q nt (I, J, 0) (dd + 1)).1) ((passS q nt (I, J, 0) (dd + 1)).2.1)) by rfl) ?_
                refine x_sub (lv' := [(3, .int (nI (dd + 1))), (2, .int ((passS q nt (I, J, 0) (dd + 1)).2.2)), (0, .ref (ad 0)), (1, .int a)]) [0, 4, 5, 6] rfl ?_
                exact ih25 (dd + 1) (by omega) (by omega)
              · have hk9 : k < 60 := lp_go (N := 60) (by omega) hkn h48
                refine x_aload F dX4_pass_51 2 rfl ?_
                refine x_iload F dX4_pass_53 0 rfl ?_
                refine y_aldT F (hR 5 (by decide)) (ss_5 _ _) (vp_in_nI hk9 (by omega)) dX4_pass_55 ?_
                refine x_rf (fun h55n => ?_) (fun h55n => ?_)
                · refine x_astore F [(7, .ref (ad (80 + 4 * (nI k).toNatClampNeg))), (6, .int (nI k)), (5, .int (nI 60)), (4, .ref (ad 5)), (3, .int (nI dd)), (2, .int ((minS q nt (passS q nt (I, J, 0) dd) k).2.2)), (0, .ref (ad 0)), (1, .int a)] dX4_pass_56 (by decide) rfl ?_
                  refine x_aload F dX4_pass_58 0 rfl ?_
                  refine x_ifnull F dX4_pass_60 ?_
                  refine x_aload F dX4_pass_63 0 rfl ?_
                  refine g_X4_152 F (hL.2.2.1 _ h55n).1 (sc_tlk (tlk_rng ((nI k).toNatClampNeg))) rfl dX4_pass_65 ?_
                  refine x_if_ne F 89 dX4_pass_68 (by decide) (fun h68 => ?_) (fun h68 => ?_)
                  · refine x_iinc F [(6, .int ((nI k) + 1)), (7, .ref (ad (80 + 4 * (nI k).toNatClampNeg))), (5, .int (nI 60)), (4, .ref (ad 5)), (3, .int (nI dd)), (2, .int ((minS q nt (passS q nt (I, J, 0) dd) k).2.2)), (0, .ref (ad 0)), (1, .int a)] dX4_pass_89 1 rfl (by decide) rfl ?_
                    refine x_goto F 44 dX4_pass_92 (by decide) ?_
                    rw [nI_1]
                    refine x_world (show (k_c cy ad q ns nt ((minS q nt (passS q nt (I, J, 0) dd) k).1) ((minS q nt (passS q nt (I, J, 0) dd) k).2.1)) = (k_c cy ad q ns nt ((minS q nt (passS q nt (I, J, 0) dd) (k + 1)).1) ((minS q nt (passS q nt (I, J, 0) dd) (k + 1)).2.1)) by simp [minS, tickS, *]) ?_
                    rw [show (minS q nt (passS q nt (I, J, 0) dd) k).2.2 = (minS q nt (passS q nt (I, J, 0) dd) (k + 1)).2.2 by simp [minS, tickS, *]]
                    refine x_sub (lv' := [(6, .int (nI (k + 1))), (5, .int (nI 60)), (4, .ref (ad 5)), (3, .int (nI dd)), (2, .int ((minS q nt (passS q nt (I, J, 0) dd) (k + 1)).2.2)), (0, .ref (ad 0)), (1, .int a)]) [0, 2, 3, 4, 5, 6, 7] rfl ?_
                    exact ih44 (k + 1) (by omega) (by omega)
                  · refine x_aload_n F dX4_pass_71 rfl 6 rfl ?_
                    refine x_aload F dX4_pass_72 0 rfl ?_
                    refine z_callVi F [.ref (ad (80 + 4 * (nI k).toNatClampNeg))] (c_X4_runOneMinute l D cy lo R ad q ns nt ((minS q nt (passS q nt (I, J, 0) dd) k).1) ((minS q nt (passS q nt (I, J, 0) dd) k).2.1) hR (80 + 4 * (nI k).toNatClampNeg) (tlk_rng ((nI k).toNatClampNeg)) ((hL.2.2.1 _ h55n).1) ((hL.2.2.1 _ h55n).2.1) ((hL.2.2.1 _ h55n).2.2.1) ((hL.2.2.1 _ h55n).2.2.2) hL ((hq _ h55n).1) (min_len hq hL.2.2.2.1 (pass_len hq hL.2.2.2.1 hlen dd) k _ h55n)) mc_X4_runOneMinute mv_X4_runOneMinute lk_X4_162 (hL.1 0 (by decide)) sc_0 rfl rfl rfl dX4_pass_74 ⟨Nat.le_of_ble_eq_true rfl, Nat.le_of_ble_eq_true rfl⟩ ⟨Nat.le_of_ble_eq_true rfl, Nat.le_of_ble_eq_true rfl⟩ (Nat.le_of_ble_eq_true rfl) ?_
                    refine x_if_ne F 89 dX4_pass_77 (by decide) (fun h77 => ?_) (fun h77 => ?_)
                    · rw [kb1] at h77
                      refine x_iinc F [(6, .int ((nI k) + 1)), (7, .ref (ad (80 + 4 * (nI k).toNatClampNeg))), (5, .int (nI 60)), (4, .ref (ad 5)), (3, .int (nI dd)), (2, .int ((minS q nt (passS q nt (I, J, 0) dd) k).2.2)), (0, .ref (ad 0)), (1, .int a)] dX4_pass_89 1 rfl (by decide) rfl ?_
                      refine x_goto F 44 dX4_pass_92 (by decide) ?_
                      rw [nI_1]
                      refine x_world (show (k_c cy ad q ns nt (roI ((minS q nt (passS q nt (I, J, 0) dd) k).1) ((minS q nt (passS q nt (I, J, 0) dd) k).2.1) (40 + 2 * q (80 + 4 * (nI k).toNatClampNeg) 0) (80 + 4 * (nI k).toNatClampNeg)) (roJ ((minS q nt (passS q nt (I, J, 0) dd) k).1) ((minS q nt (passS q nt (I, J, 0) dd) k).2.1) (40 + 2 * q (80 + 4 * (nI k).toNatClampNeg) 0) (80 + 4 * (nI k).toNatClampNeg))) = (k_c cy ad q ns nt ((minS q nt (passS q nt (I, J, 0) dd) (k + 1)).1) ((minS q nt (passS q nt (I, J, 0) dd) (k + 1)).2.1)) by simp [minS, tickS, *]) ?_
                      rw [show (minS q nt (passS q nt (I, J, 0) dd) k).2.2 = (minS q nt (passS q nt (I, J, 0) dd) (k + 1)).2.2 by simp [minS, tickS, *]]
                      refine x_sub (lv' := [(6, .int (nI (k + 1))), (5, .int (nI 60)), (4, .ref (ad 5)), (3, .int (nI dd)), (2, .int ((minS q nt (passS q nt (I, J, 0) dd) (k + 1)).2.2)), (0, .ref (ad 0)), (1, .int a)]) [0, 2, 3, 4, 5, 6, 7] rfl ?_
                      exact ih44 (k + 1) (by omega) (by omega)
                    · rw [kb0] at h77
                      refine x_aload F dX4_pass_80 0 rfl ?_
                      refine x_iconst F (v := 2) dX4_pass_82 (by decide) ?_
                      refine p_X4_152 F (hL.2.2.1 _ h55n).1 (ss_tlk (tlk_rng ((nI k).toNatClampNeg))) dX4_pass_83 ?_
                      refine x_iinc F [(2, .int (((minS q nt (passS q nt (I, J, 0) dd) k).2.2) + 1)), (7, .ref (ad (80 + 4 * (nI k).toNatClampNeg))), (6, .int (nI k)), (5, .int (nI 60)), (4, .ref (ad 5)), (3, .int (nI dd)), (0, .ref (ad 0)), (1, .int a)] dX4_pass_86 5 rfl (by decide) rfl ?_
                      refine x_iinc F [(6, .int ((nI k) + 1)), (2, .int (((minS q nt (passS q nt (I, J, 0) dd) k).2.2) + 1)), (7, .ref (ad (80 + 4 * (nI k).toNatClampNeg))), (5, .int (nI 60)), (4, .ref (ad 5)), (3, .int (nI dd)), (0, .ref (ad 0)), (1, .int a)] dX4_pass_89 2 rfl (by decide) rfl ?_
                      refine x_goto F 44 dX4_pass_92 (by decide) ?_
                      rw [nI_1]
                      refine x_world (show (k_c cy ad q ns nt (wI (roI ((minS q nt (passS q nt (I, J, 0) dd) k).1) ((minS q nt (passS q nt (I, J, 0) dd) k).2.1) (40 + 2 * q (80 + 4 * (nI k).toNatClampNeg) 0) (80 + 4 * (nI k).toNatClampNeg)) (80 + 4 * (nI k).toNatClampNeg) 6 2) (roJ ((minS q nt (passS q nt (I, J, 0) dd) k).1) ((minS q nt (passS q nt (I, J, 0) dd) k).2.1) (40 + 2 * q (80 + 4 * (nI k).toNatClampNeg) 0) (80 + 4 * (nI k).toNatClampNeg))) = (k_c cy ad q ns nt ((minS q nt (passS q nt (I, J, 0) dd) (k + 1)).1) ((minS q nt (passS q nt (I, J, 0) dd) (k + 1)).2.1)) by simp [minS, tickS, *]) ?_
                      rw [show ((minS q nt (passS q nt (I, J, 0) dd) k).2.2) + 1 = (minS q nt (passS q nt (I, J, 0) dd) (k + 1)).2.2 by simp [minS, tickS, *]]
                      refine x_sub (lv' := [(6, .int (nI (k + 1))), (5, .int (nI 60)), (4, .ref (ad 5)), (3, .int (nI dd)), (2, .int ((minS q nt (passS q nt (I, J, 0) dd) (k + 1)).2.2)), (0, .ref (ad 0)), (1, .int a)]) [0, 3, 4, 5, 1, 6, 7] rfl ?_
                      exact ih44 (k + 1) (by omega) (by omega)
                · refine x_astoreN F [(7, .null), (6, .int (nI k)), (5, .int (nI 60)), (4, .ref (ad 5)), (3, .int (nI dd)), (2, .int ((minS q nt (passS q nt (I, J, 0) dd) k).2.2)), (0, .ref (ad 0)), (1, .int a)] dX4_pass_56 (by decide) rfl ?_
                  refine x_aloadN F dX4_pass_58 0 rfl ?_
                  refine x_ifnullN F 89 dX4_pass_60 (by decide) ?_
                  refine x_iinc F [(6, .int ((nI k) + 1)), (7, .null), (5, .int (nI 60)), (4, .ref (ad 5)), (3, .int (nI dd)), (2, .int ((minS q nt (passS q nt (I, J, 0) dd) k).2.2)), (0, .ref (ad 0)), (1, .int a)] dX4_pass_89 1 rfl (by decide) rfl ?_
                  refine x_goto F 44 dX4_pass_92 (by decide) ?_
                  rw [nI_1]
                  refine x_world (show (k_c cy ad q ns nt ((minS q nt (passS q nt (I, J, 0) dd) k).1) ((minS q nt (passS q nt (I, J, 0) dd) k).2.1)) = (k_c cy ad q ns nt ((minS q nt (passS q nt (I, J, 0) dd) (k + 1)).1) ((minS q nt (passS q nt (I, J, 0) dd) (k + 1)).2.1)) by simp [minS, tickS, *]) ?_
                  rw [show (minS q nt (passS q nt (I, J, 0) dd) k).2.2 = (minS q nt (passS q nt (I, J, 0) dd) (k + 1)).2.2 by simp [minS, tickS, *]]
                  refine x_sub (lv' := [(6, .int (nI (k + 1))), (5, .int (nI 60)), (4, .ref (ad 5)), (3, .int (nI dd)), (2, .int ((minS q nt (passS q nt (I, J, 0) dd) (k + 1)).2.2)), (0, .ref (ad 0)), (1, .int a)]) [0, 2, 3, 4, 5, 6, 7] rfl ?_
                  exact ih44 (k + 1) (by omega) (by omega)
          refine x_world (show (k_c cy ad q ns nt ((passS q nt (I, J, 0) dd).1) ((passS q nt (I, J, 0) dd).2.1)) = (k_c cy ad q ns nt ((minS q nt (passS q nt (I, J, 0) dd) 0).1) ((minS q nt (passS q nt (I, J, 0) dd) 0).2.1)) by rfl) ?_
          refine x_sub (lv' := [(6, .int (nI 0)), (5, .int (nI 60)), (4, .ref (ad 5)), (3, .int (nI dd)), (2, .int ((minS q nt (passS q nt (I, J, 0) dd) 0).2.2)), (0, .ref (ad 0)), (1, .int a)]) [0, 1, 2, 3, 4, 5, 6] rfl ?_
          exact lp44 61 0 (by omega) (by omega)
    refine x_sub (lv' := [(3, .int (nI 0)), (2, .int ((passS q nt (I, J, 0) 0).2.2)), (0, .ref (ad 0)), (1, .int a)]) [0, 1, 2, 3] rfl ?_
    exact lp25 (a.toNatClampNeg + 1) 0 (by omega) (by omega)
  · rw [kb0] at h8
    rw [hQ]
    exact x_throw F hfl ht hlk (by decide +kernel) ck_X4_56 ik_IA sk_X4_160 k_at_IA dX4_pass_11 dX4_pass_14 dX4_pass_15 dX4_pass_17 dX4_pass_20 ⟨Nat.le_of_ble_eq_true rfl, Nat.le_of_ble_eq_true rfl, Nat.le_of_ble_eq_true rfl, Nat.le_of_ble_eq_true rfl⟩ ⟨⟨rfl, by assumption⟩, rfl⟩ (by decide) (by decide)
