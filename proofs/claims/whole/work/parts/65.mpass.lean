set_option maxHeartbeats 4000000 in
set_option maxRecDepth 100000 in
/-- pass -/
theorem c_X5_pass (l : Launch) (D : va_G) (cy : Nat → ClassId) (lo : Nat) (R : List Nat) (ad : Nat → Nat) (q : Nat → Nat → Nat) (ns nt : Nat) (I : Nat → Nat → Int32) (J : Nat → Nat → Int64) (hR : ∀ r, r < 36 → r ∈ R) (a : Int32) (P : Nat → Nat → (Nat → Nat → Int32) → (Nat → Nat → Int64) → Int32 → Prop) (hnt60 : nt ≤ 60) (h0 : isWi a 1 200 = true → P 0 0 (wI I 13 0 0) J 0) (hinv : ∀ m k I1 J1 f, P m k I1 J1 f → I1 13 13 = nI nt ∧ I1 13 0 = 0)
    (hstep : ∀ m k I1 J1 f, k < nt → P m k I1 J1 f → (I1 27 k = 0 → ∃ (i n x y : Nat) (op : Nat → Nat → Bool) (rt : Nat → Nat → Nat), i < 20 ∧ x < 5 ∧ y < 5 ∧ I1 32 k = nI n ∧ 1 ≤ n ∧ n ≤ 5 ∧ (∀ m2, m2 < n → isCar (I1 33 (5 * k + m2)) = true) ∧ I1 25 k = nI i ∧ ¬ I1 28 k = 0 ∧ I1 33 (5 * k) = nI x ∧ I1 33 (5 * k + n - 1) = nI y ∧ Grf I1 J1 op rt ∧ ∀ I2 J2, MinR I1 J1 op rt k i n x y I2 J2 → P m (k + 1) I2 J2 (f + if I2 27 k = 2 then 1 else 0)) ∧ (¬ I1 27 k = 0 → P m (k + 1) I1 J1 f))
    (hnext : ∀ m I1 J1 f, P m nt I1 J1 f → P (m + 1) 0 I1 J1 f) : k_Met l yX5_pass cX5_pass 5 (some .int) { frames := 5, cells := 0, slots := 0, locals := 121 } D cy lo R ad (k_c cy ad q ns nt I J) [.ref (ad 13), .int a] (k_Qi D lo (fun r u => (isWi a 1 200 = false ∧ r = 0 ∧ u = (R, ad, (k_c cy ad q ns nt (wI I 13 0 1) J))) ∨ (isWi a 1 200 = true ∧ ∃ (I' : Nat → Nat → Int32) (J' : Nat → Nat → Int64), u = (R, ad, (k_c cy ad q ns nt I' J')) ∧ P a.toNatClampNeg 0 I' J' r))) := by
  refine k_metQ (by decide +kernel) (Nat.le_of_ble_eq_true rfl) ?_
  intro p e s m args below meth c Q F hr hlk hnm hQ
  refine x_aload_n F dX5_pass_0 rfl 0 rfl ?_
  refine x_iload_n F dX5_pass_1 rfl 1 rfl ?_
  refine x_iconst F (v := 1) dX5_pass_2 (by decide) ?_
  refine x_sipush F (v := 200) dX5_pass_3 (by decide) ?_
  refine z_callSi F [.int a, .int 1, .int 200] (c_X5_isIn l D cy lo R ad _ a 1 200) mc_X5_isIn ms_X5_isIn lk_X5_82 rfl rfl dX5_pass_6 ⟨Nat.le_of_ble_eq_true rfl, Nat.le_of_ble_eq_true rfl⟩ ⟨Nat.le_of_ble_eq_true rfl, Nat.le_of_ble_eq_true rfl⟩ (Nat.le_of_ble_eq_true rfl) ?_
  refine x_if_eq F 16 dX5_pass_9 (by decide) (fun h9 => ?_) (fun h9 => ?_)
  · rw [kb0] at h9
    refine x_iconst F (v := 1) dX5_pass_16 (by decide) ?_
    refine p_X5_78 F (hR 13 (by decide)) ss_13 dX5_pass_17 ?_
    refine x_iconst F (v := 0) dX5_pass_20 (by decide) ?_
    refine x_istore_n F [(2, .int 0), (0, .ref (ad 13)), (1, .int a)] dX5_pass_21 rfl (by decide) rfl ?_
    refine x_iconst F (v := 0) dX5_pass_22 (by decide) ?_
    refine x_istore_n F [(3, .int 0), (2, .int 0), (0, .ref (ad 13)), (1, .int a)] dX5_pass_23 rfl (by decide) rfl ?_
    refine x_iload_n F dX5_pass_24 rfl 0 rfl ?_
    refine x_iload_n F dX5_pass_25 rfl 3 rfl ?_
    refine x_icmp_ge F 95 dX5_pass_26 (by decide) (fun h26 => ?_) (fun h26 => ?_)
    · refine x_iload_n F dX5_pass_95 rfl 1 rfl ?_
      rw [hQ]
      exact x_iret F hr hlk (by exact Or.inl ⟨by assumption, rfl, rfl⟩) dX5_pass_96
    · refine x_aload_n F dX5_pass_29 rfl 2 rfl ?_
      refine g_X5_78 F (hR 13 (by decide)) sc_13 rfl dX5_pass_30 ?_
      refine x_cast (y := 1) (by first | rfl | simp [wI_eq]) ?_
      refine x_if_ne F 95 dX5_pass_33 (by decide) (fun h33 => ?_) (fun h33 => ?_)
      · refine x_iload_n F dX5_pass_95 rfl 1 rfl ?_
        rw [hQ]
        exact x_iret F hr hlk (by exact Or.inl ⟨by assumption, rfl, rfl⟩) dX5_pass_96
      · exact False.elim (by revert h33; decide)
  · rw [kb1] at h9
    refine x_iconst F (v := 0) dX5_pass_12 (by decide) ?_
    refine x_goto F 17 dX5_pass_13 (by decide) ?_
    refine p_X5_78 F (hR 13 (by decide)) ss_13 dX5_pass_17 ?_
    refine x_iconst F (v := 0) dX5_pass_20 (by decide) ?_
    refine x_istore_n F [(2, .int 0), (0, .ref (ad 13)), (1, .int a)] dX5_pass_21 rfl (by decide) rfl ?_
    refine x_iconst F (v := 0) dX5_pass_22 (by decide) ?_
    refine x_istore_n F [(3, .int 0), (2, .int 0), (0, .ref (ad 13)), (1, .int a)] dX5_pass_23 rfl (by decide) rfl ?_
    have lp24 : ∀ (fu24 : Nat) (mm : Nat) (I1 : Nat → Nat → Int32) (J1 : Nat → Nat → Int64) (f1 : Int32), a.toNatClampNeg - mm < fu24 → (mm ≤ a.toNatClampNeg) → (P mm 0 I1 J1 f1) → XW D lo p l e { frames := 5, cells := 0, slots := 0, locals := 121 } s m args below meth c 5 0 0 Q R ad (k_c cy ad q ns nt I1 J1) 24 [(3, .int (nI mm)), (2, .int f1), (0, .ref (ad 13)), (1, .int a)] [] := by
      intro fu24
      induction fu24 with
      | zero => intro mm I1 J1 f1 hf24; exact absurd hf24 (Nat.not_lt_zero _)
      | succ fu24 ih24 =>
        intro mm I1 J1 f1 hf24 hmn hP1
        refine x_iload_n F dX5_pass_24 rfl 0 rfl ?_
        refine x_iload_n F dX5_pass_25 rfl 3 rfl ?_
        refine x_icmp_ge F 95 dX5_pass_26 (by decide) (fun h26 => ?_) (fun h26 => ?_)
        · rw [(wi_nat h9).1] at h26
          have hm7 := lp_exit (by have := (wi_nat h9).2; omega) hmn h26
          refine x_iload_n F dX5_pass_95 rfl 1 rfl ?_
          rw [hQ]
          exact x_iret F hr hlk (by exact Or.inr ⟨by assumption, I1, J1, rfl, hm7 ▸ hP1⟩) dX5_pass_96
        · rw [(wi_nat h9).1] at h26
          have hm7 := lp_go (by have := (wi_nat h9).2; omega) hmn h26
          refine x_aload_n F dX5_pass_29 rfl 2 rfl ?_
          refine g_X5_78 F (hR 13 (by decide)) sc_13 rfl dX5_pass_30 ?_
          refine x_if_ne F 95 dX5_pass_33 (by decide) (fun h33 => ?_) (fun h33 => ?_)
          · exact absurd (hinv _ _ _ _ _ hP1).2 h33
          · refine x_iconst F (v := 0) dX5_pass_36 (by decide) ?_
            refine x_istore F [(4, .int 0), (3, .int (nI mm)), (2, .int f1), (0, .ref (ad 13)), (1, .int a)] dX5_pass_37 (by decide) rfl ?_
            have lp39 : ∀ (fu39 : Nat) (k : Nat) (I3 : Nat → Nat → Int32) (J3 : Nat → Nat → Int64) (f3 : Int32), nt - k < fu39 → (k ≤ nt) → (P mm k I3 J3 f3) → XW D lo p l e { frames := 5, cells := 0, slots := 0, locals := 121 } s m args below meth c 5 0 0 Q R ad (k_c cy ad q ns nt I3 J3) 39 [(4, .int (nI k)), (3, .int (nI mm)), (2, .int f3), (0, .ref (ad 13)), (1, .int a)] [] := by
              intro fu39
              induction fu39 with
              | zero => intro k I3 J3 f3 hf39; exact absurd hf39 (Nat.not_lt_zero _)
              | succ fu39 ih39 =>
                intro k I3 J3 f3 hf39 hkn hP3
                refine x_iload F dX5_pass_39 0 rfl ?_
                refine x_aload_n F dX5_pass_41 rfl 3 rfl ?_
                refine g_X5_93 F (hR 13 (by decide)) sc_13 rfl dX5_pass_42 ?_
                refine x_icmp_ge F 89 dX5_pass_45 (by decide) (fun h45 => ?_) (fun h45 => ?_)
                · rw [(hinv _ _ _ _ _ hP3).1] at h45
                  have hk7 := lp_exit (by omega) hkn h45
                  refine x_iinc F [(3, .int ((nI mm) + 1)), (4, .int (nI k)), (2, .int f3), (0, .ref (ad 13)), (1, .int a)] dX5_pass_89 1 rfl (by decide) rfl ?_
                  refine x_goto F 24 dX5_pass_92 (by decide) ?_
                  rw [nI_1]
                  subst hk7
                  refine x_sub (lv' := [(3, .int (nI (mm + 1))), (2, .int f3), (0, .ref (ad 13)), (1, .int a)]) [0, 2, 3, 4] rfl ?_
                  exact ih24 (mm + 1) I3 J3 f3 (by omega) (by omega) (hnext _ _ _ _ hP3)
                · rw [(hinv _ _ _ _ _ hP3).1] at h45
                  have hk9 := lp_go (by omega) hkn h45
                  refine x_aload_n F dX5_pass_48 rfl 3 rfl ?_
                  refine g_X5_51 F (hR 13 (by decide)) sc_13 rfl dX5_pass_49 ?_
                  refine x_iload F dX5_pass_52 0 rfl ?_
                  refine y_iald F (hR 27 (by decide)) ss_27 (vp_in_nI (by omega) (by decide)) dX5_pass_54 ?_
                  refine x_cast (y := I3 27 k) (by rw [nI_clamp (by omega)]) ?_
                  refine x_if_ne F 83 dX5_pass_55 (by decide) (fun h55 => ?_) (fun h55 => ?_)
                  · refine x_iinc F [(4, .int ((nI k) + 1)), (3, .int (nI mm)), (2, .int f3), (0, .ref (ad 13)), (1, .int a)] dX5_pass_83 0 rfl (by decide) rfl ?_
                    refine x_goto F 39 dX5_pass_86 (by decide) ?_
                    rw [nI_1]
                    refine x_sub (lv' := [(4, .int (nI (k + 1))), (3, .int (nI mm)), (2, .int f3), (0, .ref (ad 13)), (1, .int a)]) [0, 1, 2, 3, 4] rfl ?_
                    exact ih39 (k + 1) I3 J3 f3 (by omega) (by omega) ((hstep _ _ _ _ _ hk9 hP3).2 h55)
                  · refine x_aload_n F dX5_pass_58 rfl 3 rfl ?_
                    refine x_iload F dX5_pass_59 0 rfl ?_
                    obtain ⟨i, n, x, y, op, rt, hi, hx, hy, hlen, hn1, hn5, hcar, hcal, hst, hx33, hy33, hg, hS⟩ := (hstep _ _ _ _ _ hk9 hP3).1 h55
                    refine x_callVv F [.int (nI k)] (c_X5_minute l D cy lo R ad q ns nt I3 J3 hR k i n x y op rt (by omega) hi hx hy hlen hn1 hn5 hcar hcal hst hx33 hy33 hg) mc_X5_minute mv_X5_minute lk_X5_147 (hR 13 (by decide)) sc_13 rfl rfl rfl dX5_pass_61 ⟨Nat.le_of_ble_eq_true rfl, Nat.le_of_ble_eq_true rfl⟩ ⟨Nat.le_of_ble_eq_true rfl, Nat.le_of_ble_eq_true rfl⟩ (Nat.le_of_ble_eq_true rfl) (fun u hu => ?_)
                    obtain ⟨I2, J2, rfl, hM⟩ := hu
                    dsimp only
                    refine x_iload_n F dX5_pass_64 rfl 2 rfl ?_
                    refine x_aload_n F dX5_pass_65 rfl 3 rfl ?_
                    refine g_X5_51 F (hR 13 (by decide)) sc_13 rfl dX5_pass_66 ?_
                    refine x_iload F dX5_pass_69 0 rfl ?_
                    refine y_iald F (hR 27 (by decide)) ss_27 (vp_in_nI (by omega) (by decide)) dX5_pass_71 ?_
                    refine x_cast (y := I2 27 k) (by rw [nI_clamp (by omega)]) ?_
                    refine x_iconst F (v := 2) dX5_pass_72 (by decide) ?_
                    refine x_icmp_ne F 80 dX5_pass_73 (by decide) (fun h73 => ?_) (fun h73 => ?_)
                    · refine x_iconst F (v := 0) dX5_pass_80 (by decide) ?_
                      refine x_iadd F dX5_pass_81 ?_
                      refine x_istore_n F [(2, .int (f3 + 0)), (4, .int (nI k)), (3, .int (nI mm)), (0, .ref (ad 13)), (1, .int a)] dX5_pass_82 rfl (by decide) rfl ?_
                      refine x_iinc F [(4, .int ((nI k) + 1)), (2, .int (f3 + 0)), (3, .int (nI mm)), (0, .ref (ad 13)), (1, .int a)] dX5_pass_83 1 rfl (by decide) rfl ?_
                      refine x_goto F 39 dX5_pass_86 (by decide) ?_
                      rw [nI_1]
                      refine x_sub (lv' := [(4, .int (nI (k + 1))), (3, .int (nI mm)), (2, .int (f3 + 0)), (0, .ref (ad 13)), (1, .int a)]) [0, 2, 1, 3, 4] rfl ?_
                      exact ih39 (k + 1) I2 J2 (f3 + 0) (by omega) (by omega) (by have h7 := hS I2 J2 hM; simpa [h73] using h7)
                    · refine x_iconst F (v := 1) dX5_pass_76 (by decide) ?_
                      refine x_goto F 81 dX5_pass_77 (by decide) ?_
                      refine x_iadd F dX5_pass_81 ?_
                      refine x_istore_n F [(2, .int (f3 + 1)), (4, .int (nI k)), (3, .int (nI mm)), (0, .ref (ad 13)), (1, .int a)] dX5_pass_82 rfl (by decide) rfl ?_
                      refine x_iinc F [(4, .int ((nI k) + 1)), (2, .int (f3 + 1)), (3, .int (nI mm)), (0, .ref (ad 13)), (1, .int a)] dX5_pass_83 1 rfl (by decide) rfl ?_
                      refine x_goto F 39 dX5_pass_86 (by decide) ?_
                      rw [nI_1]
                      refine x_sub (lv' := [(4, .int (nI (k + 1))), (3, .int (nI mm)), (2, .int (f3 + 1)), (0, .ref (ad 13)), (1, .int a)]) [0, 2, 1, 3, 4] rfl ?_
                      exact ih39 (k + 1) I2 J2 (f3 + 1) (by omega) (by omega) (by have h7 := hS I2 J2 hM; simpa [h73] using h7)
            refine x_sub (lv' := [(4, .int (nI 0)), (3, .int (nI mm)), (2, .int f1), (0, .ref (ad 13)), (1, .int a)]) [0, 1, 2, 3, 4] rfl ?_
            exact lp39 (nt + 1) 0 I1 J1 f1 (by omega) (by omega) hP1
    refine x_sub (lv' := [(3, .int (nI 0)), (2, .int 0), (0, .ref (ad 13)), (1, .int a)]) [0, 1, 2, 3] rfl ?_
    exact lp24 (a.toNatClampNeg + 1) 0 (wI I 13 0 0) J 0 (by omega) (by omega) (h0 h9)
