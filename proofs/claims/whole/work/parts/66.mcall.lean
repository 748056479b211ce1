def mc0 (I : Nat → Nat → Int32) (a b : Int32) : Int32 := if (isNum I a && isNum I b) = true then (if a = b then 2 else 0) else 1
def mMade (I : Nat → Nat → Int32) (nt x m : Nat) (a b : Int32) : Nat → Nat → Int32 := wI (wayI (wI (wI (wI (wI (wI (wI (wI I 13 0 0) 25 nt a) 26 nt b) 27 nt 0) 28 nt (I 14 x)) 29 nt (I 15 x)) 32 nt (I 13 23)) nt m) 13 13 (nI (nt + 1))
theorem busyM_th {I : Nat → Nat → Int32} {x a : Int32} : ∀ n, busyM (wI I 13 0 x) a n = busyM I a n := by
  intro n
  induction n with
  | zero => rfl
  | succ n ih =>
    rw [busyM, busyM, ih]
    simp [wI_eq]
theorem th13 {I : Nat → Nat → Int32} {x v : Int32} (h : I 13 13 = v) : wI I 13 0 x 13 13 = v := by rw [wI_eq, if_neg (by omega)]; exact h
theorem fr_home {I I2 : Nat → Nat → Int32} {a : Int32} (h : FR (wI I 13 0 0) I2) : homeM I2 a = homeM I a := by
  unfold homeM
  rw [h 21 _ (by decide) (by decide) (fun h => absurd h (by decide)), h 22 _ (by decide) (by decide) (fun h => absurd h (by decide)), wI_eq, if_neg (by omega), wI_eq, if_neg (by omega)]
set_option maxHeartbeats 4000000 in
set_option maxRecDepth 100000 in
/-- call -/
theorem c_X5_call (l : Launch) (D : va_G) (cy : Nat → ClassId) (lo : Nat) (R : List Nat) (ad : Nat → Nat) (q : Nat → Nat → Nat) (ns nt : Nat) (I : Nat → Nat → Int32) (J : Nat → Nat → Int64) (hR : ∀ r, r < 36 → r ∈ R) (op : Nat → Nat → Bool) (rt : Nat → Nat → Nat) (a b : Int32) (n8 n9 : Nat) (h8 : I 13 8 = nI n8) (hns : n8 ≤ 20) (hnt : I 13 13 = nI n9) (hnt60 : n9 ≤ 60) (hh : k_HH I n8) (hc : ∀ i, isNum I i = true → isCar (homeM I i) = true) (hg : Grf I J op rt) : k_Met l yX5_call cX5_call 4 (some .int) { frames := 4, cells := 0, slots := 0, locals := 97 } D cy lo R ad (k_c cy ad q ns nt I J) [.ref (ad 13), .int a, .int b] (k_Qi D lo (fun r u => (¬ mc0 I a b = 0 ∧ r = 0 ∧ u = (R, ad, (k_c cy ad q ns nt (wI I 13 0 (mc0 I a b)) J))) ∨ (mc0 I a b = 0 ∧ (busyM I a n9 || busyM I b n9 || !decide (n9 < 60)) = true ∧ r = 0 ∧ u = (R, ad, (k_c cy ad q ns nt (wI I 13 0 3) J))) ∨ (mc0 I a b = 0 ∧ (busyM I a n9 || busyM I b n9 || !decide (n9 < 60)) = false ∧ ∃ (x y : Nat) (I2 : Nat → Nat → Int32) (v : Option (List Nat)), x < 5 ∧ y < 5 ∧ homeM I a = nI x ∧ homeM I b = nI y ∧ FR (wI I 13 0 0) I2 ∧ Best op rt x y v ∧ Bst I2 rt v ∧ ((v = none ∧ r = 0 ∧ u = (R, ad, (k_c cy ad q ns nt (wI I2 13 0 3) J))) ∨ (∃ w, v = some w ∧ r = nI n9 ∧ u = (R, ad, (k_c cy ad q ns nt (mMade I2 n9 x w.length a b) J))))))) := by
  refine k_metQ (by decide +kernel) (Nat.le_of_ble_eq_true rfl) ?_
  intro p e s m args below meth c Q F hr hlk hnm hQ
  refine x_aload_n F dX5_call_0 rfl 0 rfl ?_
  refine x_aload_n F dX5_call_1 rfl 0 rfl ?_
  refine x_iload_n F dX5_call_2 rfl 1 rfl ?_
  refine z_callVi F [.int a] (c_X5_isNumber l D cy lo R ad q ns nt I J hR a ) mc_X5_isNumber mv_X5_isNumber lk_X5_101 (hR 13 (by decide)) sc_13 rfl rfl rfl dX5_call_3 ⟨Nat.le_of_ble_eq_true rfl, Nat.le_of_ble_eq_true rfl⟩ ⟨Nat.le_of_ble_eq_true rfl, Nat.le_of_ble_eq_true rfl⟩ (Nat.le_of_ble_eq_true rfl) ?_
  refine x_if_eq F 17 dX5_call_6 (by decide) (fun h6 => ?_) (fun h6 => ?_)
  · rw [kb0] at h6
    refine x_iconst F (v := 1) dX5_call_17 (by decide) ?_
    refine x_goto F 31 dX5_call_18 (by decide) ?_
    refine p_X5_78 F (hR 13 (by decide)) ss_13 dX5_call_31 ?_
    refine x_aload_n F dX5_call_34 rfl 0 rfl ?_
    refine g_X5_78 F (hR 13 (by decide)) sc_13 rfl dX5_call_35 ?_
    refine x_cast (y := 1) (by first | rfl | simp [wI_eq]) ?_
    refine x_if_le F 43 dX5_call_38 (by decide) (fun h38 => ?_) (fun h38 => ?_)
    · exact False.elim (by revert h38; decide)
    · refine x_iconst F (v := 0) dX5_call_41 (by decide) ?_
      rw [hQ]
      exact x_iret F hr hlk (by exact Or.inl ⟨by simp [mc0, *], rfl, by simp [mc0, *]⟩) dX5_call_42
  · rw [kb1] at h6
    refine x_aload_n F dX5_call_9 rfl 0 rfl ?_
    refine x_iload_n F dX5_call_10 rfl 2 rfl ?_
    refine z_callVi F [.int b] (c_X5_isNumber l D cy lo R ad q ns nt I J hR b ) mc_X5_isNumber mv_X5_isNumber lk_X5_101 (hR 13 (by decide)) sc_13 rfl rfl rfl dX5_call_11 ⟨Nat.le_of_ble_eq_true rfl, Nat.le_of_ble_eq_true rfl⟩ ⟨Nat.le_of_ble_eq_true rfl, Nat.le_of_ble_eq_true rfl⟩ (Nat.le_of_ble_eq_true rfl) ?_
    refine x_if_ne F 21 dX5_call_14 (by decide) (fun h14 => ?_) (fun h14 => ?_)
    · rw [kb1] at h14
      refine x_iload_n F dX5_call_21 rfl 1 rfl ?_
      refine x_iload_n F dX5_call_22 rfl 2 rfl ?_
      refine x_icmp_ne F 30 dX5_call_23 (by decide) (fun h23 => ?_) (fun h23 => ?_)
      · refine x_iconst F (v := 0) dX5_call_30 (by decide) ?_
        refine p_X5_78 F (hR 13 (by decide)) ss_13 dX5_call_31 ?_
        refine x_aload_n F dX5_call_34 rfl 0 rfl ?_
        refine g_X5_78 F (hR 13 (by decide)) sc_13 rfl dX5_call_35 ?_
        refine x_cast (y := 0) (by first | rfl | simp [wI_eq]) ?_
        refine x_if_le F 43 dX5_call_38 (by decide) (fun h38 => ?_) (fun h38 => ?_)
        · refine x_aload_n F dX5_call_43 rfl 0 rfl ?_
          refine x_iload_n F dX5_call_44 rfl 1 rfl ?_
          refine z_callVi F [.int a] (c_X5_isBusy l D cy lo R ad q ns nt (wI I 13 0 0) J hR a n9 (th13 hnt) hnt60) mc_X5_isBusy mv_X5_isBusy lk_X5_128 (hR 13 (by decide)) sc_13 rfl rfl rfl dX5_call_45 ⟨Nat.le_of_ble_eq_true rfl, Nat.le_of_ble_eq_true rfl⟩ ⟨Nat.le_of_ble_eq_true rfl, Nat.le_of_ble_eq_true rfl⟩ (Nat.le_of_ble_eq_true rfl) ?_
          refine x_if_ne F 89 dX5_call_48 (by decide) (fun h48 => ?_) (fun h48 => ?_)
          · rw [kb1] at h48
            refine x_iconst F (v := 0) dX5_call_89 (by decide) ?_
            refine x_istore_n F [(3, .int 0), (0, .ref (ad 13)), (1, .int a), (2, .int b)] dX5_call_90 rfl (by decide) rfl ?_
            refine x_aload_n F dX5_call_91 rfl 1 rfl ?_
            refine x_iload_n F dX5_call_92 rfl 0 rfl ?_
            refine x_if_eq F 100 dX5_call_93 (by decide) (fun h93 => ?_) (fun h93 => ?_)
            · refine x_iconst F (v := 3) dX5_call_100 (by decide) ?_
              refine p_X5_78 F (hR 13 (by decide)) ss_13 dX5_call_101 ?_
              refine x_aload_n F dX5_call_104 rfl 1 rfl ?_
              refine g_X5_78 F (hR 13 (by decide)) sc_13 rfl dX5_call_105 ?_
              refine x_cast (y := 3) (by first | rfl | simp [wI_eq]) ?_
              refine x_if_le F 113 dX5_call_108 (by decide) (fun h108 => ?_) (fun h108 => ?_)
              · exact False.elim (by revert h108; decide)
              · refine x_iconst F (v := 0) dX5_call_111 (by decide) ?_
                rw [hQ]
                exact x_iret F hr hlk (by exact Or.inr (Or.inl ⟨by simp [mc0, *], by simp [← busyM_th (x := 0) (I := I), *], rfl, by simp [wI_wI]⟩)) dX5_call_112
            · exact False.elim (by revert h93; decide)
          · rw [kb0] at h48
            refine x_aload_n F dX5_call_51 rfl 0 rfl ?_
            refine x_iload_n F dX5_call_52 rfl 2 rfl ?_
            refine z_callVi F [.int b] (c_X5_isBusy l D cy lo R ad q ns nt (wI I 13 0 0) J hR b n9 (th13 hnt) hnt60) mc_X5_isBusy mv_X5_isBusy lk_X5_128 (hR 13 (by decide)) sc_13 rfl rfl rfl dX5_call_53 ⟨Nat.le_of_ble_eq_true rfl, Nat.le_of_ble_eq_true rfl⟩ ⟨Nat.le_of_ble_eq_true rfl, Nat.le_of_ble_eq_true rfl⟩ (Nat.le_of_ble_eq_true rfl) ?_
            refine x_if_ne F 89 dX5_call_56 (by decide) (fun h56 => ?_) (fun h56 => ?_)
            · rw [kb1] at h56
              refine x_iconst F (v := 0) dX5_call_89 (by decide) ?_
              refine x_istore_n F [(3, .int 0), (0, .ref (ad 13)), (1, .int a), (2, .int b)] dX5_call_90 rfl (by decide) rfl ?_
              refine x_aload_n F dX5_call_91 rfl 1 rfl ?_
              refine x_iload_n F dX5_call_92 rfl 0 rfl ?_
              refine x_if_eq F 100 dX5_call_93 (by decide) (fun h93 => ?_) (fun h93 => ?_)
              · refine x_iconst F (v := 3) dX5_call_100 (by decide) ?_
                refine p_X5_78 F (hR 13 (by decide)) ss_13 dX5_call_101 ?_
                refine x_aload_n F dX5_call_104 rfl 1 rfl ?_
                refine g_X5_78 F (hR 13 (by decide)) sc_13 rfl dX5_call_105 ?_
                refine x_cast (y := 3) (by first | rfl | simp [wI_eq]) ?_
                refine x_if_le F 113 dX5_call_108 (by decide) (fun h108 => ?_) (fun h108 => ?_)
                · exact False.elim (by revert h108; decide)
                · refine x_iconst F (v := 0) dX5_call_111 (by decide) ?_
                  rw [hQ]
                  exact x_iret F hr hlk (by exact Or.inr (Or.inl ⟨by simp [mc0, *], by simp [← busyM_th (x := 0) (I := I), *], rfl, by simp [wI_wI]⟩)) dX5_call_112
              · exact False.elim (by revert h93; decide)
            · rw [kb0] at h56
              refine x_aload_n F dX5_call_59 rfl 0 rfl ?_
              refine g_X5_93 F (hR 13 (by decide)) sc_13 rfl dX5_call_60 ?_
              refine x_cast (y := (I 13 13)) (by first | rfl | simp [wI_eq]) ?_
              refine x_bipush F (v := 60) dX5_call_63 (by decide) ?_
              refine x_icmp_ge F 89 dX5_call_65 (by decide) (fun h65 => ?_) (fun h65 => ?_)
              · have hnt9 : ¬ n9 < 60 := no60 hnt hnt60 (Or.inr h65)
                refine x_iconst F (v := 0) dX5_call_89 (by decide) ?_
                refine x_istore_n F [(3, .int 0), (0, .ref (ad 13)), (1, .int a), (2, .int b)] dX5_call_90 rfl (by decide) rfl ?_
                refine x_aload_n F dX5_call_91 rfl 1 rfl ?_
                refine x_iload_n F dX5_call_92 rfl 0 rfl ?_
                refine x_if_eq F 100 dX5_call_93 (by decide) (fun h93 => ?_) (fun h93 => ?_)
                · refine x_iconst F (v := 3) dX5_call_100 (by decide) ?_
                  refine p_X5_78 F (hR 13 (by decide)) ss_13 dX5_call_101 ?_
                  refine x_aload_n F dX5_call_104 rfl 1 rfl ?_
                  refine g_X5_78 F (hR 13 (by decide)) sc_13 rfl dX5_call_105 ?_
                  refine x_cast (y := 3) (by first | rfl | simp [wI_eq]) ?_
                  refine x_if_le F 113 dX5_call_108 (by decide) (fun h108 => ?_) (fun h108 => ?_)
                  · exact False.elim (by revert h108; decide)
                  · refine x_iconst F (v := 0) dX5_call_111 (by decide) ?_
                    rw [hQ]
                    exact x_iret F hr hlk (by exact Or.inr (Or.inl ⟨by simp [mc0, *], by simp [← busyM_th (x := 0) (I := I), *], rfl, by simp [wI_wI]⟩)) dX5_call_112
                · exact False.elim (by revert h93; decide)
              · have hlt := lt60 hnt hnt60 (Int32.not_le.mp h65)
                refine x_aload_n F dX5_call_68 rfl 0 rfl ?_
                refine x_aload_n F dX5_call_69 rfl 0 rfl ?_
                refine x_iload_n F dX5_call_70 rfl 1 rfl ?_
                refine z_callVi F [.int a] (c_X5_homeOf l D cy lo R ad q ns nt (wI I 13 0 0) J hR a (num_in h8 hns h6) (chain_th h8 hns hh h6)) mc_X5_homeOf mv_X5_homeOf lk_X5_104 (hR 13 (by decide)) sc_13 rfl rfl rfl dX5_call_71 ⟨Nat.le_of_ble_eq_true rfl, Nat.le_of_ble_eq_true rfl⟩ ⟨Nat.le_of_ble_eq_true rfl, Nat.le_of_ble_eq_true rfl⟩ (Nat.le_of_ble_eq_true rfl) ?_
                refine x_aload_n F dX5_call_74 rfl 0 rfl ?_
                refine x_iload_n F dX5_call_75 rfl 2 rfl ?_
                refine z_callVi F [.int b] (c_X5_homeOf l D cy lo R ad q ns nt (wI I 13 0 0) J hR b (num_in h8 hns h14) (chain_th h8 hns hh h14)) mc_X5_homeOf mv_X5_homeOf lk_X5_104 (hR 13 (by decide)) sc_13 rfl rfl rfl dX5_call_76 ⟨Nat.le_of_ble_eq_true rfl, Nat.le_of_ble_eq_true rfl⟩ ⟨Nat.le_of_ble_eq_true rfl, Nat.le_of_ble_eq_true rfl⟩ (Nat.le_of_ble_eq_true rfl) ?_
                obtain ⟨x, hx, ex⟩ := car_nI (hc a h6)
                obtain ⟨y, hy, ey⟩ := car_nI (hc b h14)
                simp only [homeM_th]
                rw [ex, ey]
                refine x_callVi F [.int (nI x), .int (nI y)] (c_X5_finds l D cy lo R ad q ns nt (wI I 13 0 0) J hR op rt x y hx hy (grf_th hg)) mc_X5_finds mv_X5_finds lk_X5_131 (hR 13 (by decide)) sc_13 rfl rfl rfl dX5_call_79 ⟨Nat.le_of_ble_eq_true rfl, Nat.le_of_ble_eq_true rfl⟩ ⟨Nat.le_of_ble_eq_true rfl, Nat.le_of_ble_eq_true rfl⟩ (Nat.le_of_ble_eq_true rfl) (fun rv u hu => ?_)
                obtain ⟨I2, v, rfl, hF, hB, hv, rfl⟩ := hu
                dsimp only
                have f21 : ∀ k, I2 21 k = I 21 k := fun k => (hF 21 k (by decide) (by decide) (fun h => absurd h (by decide))).trans (by rw [wI_eq, if_neg (by omega)])
                have e13 : I2 13 13 = nI n9 := (hF 13 13 (by decide) (by decide) (fun _ => by decide)).trans (th13 hnt)
                refine x_if_eq F 89 dX5_call_82 (by decide) (fun h82 => ?_) (fun h82 => ?_)
                · rw [kb0] at h82
                  have hv0 : v = none := Option.not_isSome_iff_eq_none.mp (by simp [h82])
                  refine x_iconst F (v := 0) dX5_call_89 (by decide) ?_
                  refine x_istore_n F [(3, .int 0), (0, .ref (ad 13)), (1, .int a), (2, .int b)] dX5_call_90 rfl (by decide) rfl ?_
                  refine x_aload_n F dX5_call_91 rfl 1 rfl ?_
                  refine x_iload_n F dX5_call_92 rfl 0 rfl ?_
                  refine x_if_eq F 100 dX5_call_93 (by decide) (fun h93 => ?_) (fun h93 => ?_)
                  · refine x_iconst F (v := 3) dX5_call_100 (by decide) ?_
                    refine p_X5_78 F (hR 13 (by decide)) ss_13 dX5_call_101 ?_
                    refine x_aload_n F dX5_call_104 rfl 1 rfl ?_
                    refine g_X5_78 F (hR 13 (by decide)) sc_13 rfl dX5_call_105 ?_
                    refine x_cast (y := 3) (by first | rfl | simp [wI_eq]) ?_
                    refine x_if_le F 113 dX5_call_108 (by decide) (fun h108 => ?_) (fun h108 => ?_)
                    · exact False.elim (by revert h108; decide)
                    · refine x_iconst F (v := 0) dX5_call_111 (by decide) ?_
                      rw [hQ]
                      exact x_iret F hr hlk (by exact Or.inr (Or.inr ⟨by simp [mc0, *], by simp [← busyM_th (x := 0) (I := I), *], x, y, I2, v, hx, hy, ex, ey, hF, hB, hv, Or.inl ⟨hv0, rfl, by simp [wI_wI]⟩⟩)) dX5_call_112
                  · exact False.elim (by revert h93; decide)
                · rw [kb1] at h82
                  obtain ⟨w, rfl⟩ := Option.isSome_iff_exists.mp h82
                  refine x_iconst F (v := 1) dX5_call_85 (by decide) ?_
                  refine x_goto F 90 dX5_call_86 (by decide) ?_
                  refine x_istore_n F [(3, .int 1), (0, .ref (ad 13)), (1, .int a), (2, .int b)] dX5_call_90 rfl (by decide) rfl ?_
                  refine x_aload_n F dX5_call_91 rfl 1 rfl ?_
                  refine x_iload_n F dX5_call_92 rfl 0 rfl ?_
                  refine x_if_eq F 100 dX5_call_93 (by decide) (fun h93 => ?_) (fun h93 => ?_)
                  · exact False.elim (by revert h93; decide)
                  · refine x_iconst F (v := 0) dX5_call_96 (by decide) ?_
                    refine x_goto F 101 dX5_call_97 (by decide) ?_
                    refine p_X5_78 F (hR 13 (by decide)) ss_13 dX5_call_101 ?_
                    refine x_aload_n F dX5_call_104 rfl 1 rfl ?_
                    refine g_X5_78 F (hR 13 (by decide)) sc_13 rfl dX5_call_105 ?_
                    refine x_cast (y := 0) (by first | rfl | simp [wI_eq]) ?_
                    refine x_if_le F 113 dX5_call_108 (by decide) (fun h108 => ?_) (fun h108 => ?_)
                    · refine x_aload_n F dX5_call_113 rfl 1 rfl ?_
                      refine g_X5_45 F (hR 13 (by decide)) sc_13 rfl dX5_call_114 ?_
                      refine x_aload_n F dX5_call_117 rfl 1 rfl ?_
                      refine g_X5_93 F (hR 13 (by decide)) sc_13 rfl dX5_call_118 ?_
                      refine x_cast (y := (I2 13 13)) (by first | rfl | simp [wI_eq]) ?_
                      refine x_iload_n F dX5_call_121 rfl 2 rfl ?_
                      refine y_iast F (hR 25 (by decide)) ss_25 (by rw [e13]; exact vp_in_nI hlt (by decide)) dX5_call_122 ?_
                      refine x_world (congrArg (fun z => k_c cy ad q ns nt z J) (show wI (wI I2 13 0 0) 25 (I2 13 13).toNatClampNeg a = wI (wI I2 13 0 0) 25 n9 a by rw [e13, nI_clamp (by omega)])) ?_
                      refine x_aload_n F dX5_call_123 rfl 1 rfl ?_
                      refine g_X5_48 F (hR 13 (by decide)) sc_13 rfl dX5_call_124 ?_
                      refine x_aload_n F dX5_call_127 rfl 1 rfl ?_
                      refine g_X5_93 F (hR 13 (by decide)) sc_13 rfl dX5_call_128 ?_
                      refine x_cast (y := (I2 13 13)) (by first | rfl | simp [wI_eq]) ?_
                      refine x_iload_n F dX5_call_131 rfl 3 rfl ?_
                      refine y_iast F (hR 26 (by decide)) ss_26 (by rw [e13]; exact vp_in_nI hlt (by decide)) dX5_call_132 ?_
                      refine x_world (congrArg (fun z => k_c cy ad q ns nt z J) (show wI (wI (wI I2 13 0 0) 25 n9 a) 26 (I2 13 13).toNatClampNeg b = wI (wI (wI I2 13 0 0) 25 n9 a) 26 n9 b by rw [e13, nI_clamp (by omega)])) ?_
                      refine x_aload_n F dX5_call_133 rfl 1 rfl ?_
                      refine g_X5_51 F (hR 13 (by decide)) sc_13 rfl dX5_call_134 ?_
                      refine x_aload_n F dX5_call_137 rfl 1 rfl ?_
                      refine g_X5_93 F (hR 13 (by decide)) sc_13 rfl dX5_call_138 ?_
                      refine x_cast (y := (I2 13 13)) (by first | rfl | simp [wI_eq]) ?_
                      refine x_iconst F (v := 0) dX5_call_141 (by decide) ?_
                      refine y_iast F (hR 27 (by decide)) ss_27 (by rw [e13]; exact vp_in_nI hlt (by decide)) dX5_call_142 ?_
                      refine x_world (congrArg (fun z => k_c cy ad q ns nt z J) (show wI (wI (wI (wI I2 13 0 0) 25 n9 a) 26 n9 b) 27 (I2 13 13).toNatClampNeg 0 = wI (wI (wI (wI I2 13 0 0) 25 n9 a) 26 n9 b) 27 n9 0 by rw [e13, nI_clamp (by omega)])) ?_
                      refine x_aload_n F dX5_call_143 rfl 1 rfl ?_
                      refine g_X5_54 F (hR 13 (by decide)) sc_13 rfl dX5_call_144 ?_
                      refine x_aload_n F dX5_call_147 rfl 1 rfl ?_
                      refine g_X5_93 F (hR 13 (by decide)) sc_13 rfl dX5_call_148 ?_
                      refine x_cast (y := (I2 13 13)) (by first | rfl | simp [wI_eq]) ?_
                      refine x_aload_n F dX5_call_151 rfl 1 rfl ?_
                      refine g_X5_7 F (hR 13 (by decide)) sc_13 rfl dX5_call_152 ?_
                      refine x_aload_n F dX5_call_155 rfl 1 rfl ?_
                      refine x_iload_n F dX5_call_156 rfl 2 rfl ?_
                      refine z_callVi F [.int a] (c_X5_homeOf l D cy lo R ad q ns nt (wI (wI (wI (wI I2 13 0 0) 25 n9 a) 26 n9 b) 27 n9 0) J hR a (num_in h8 hns h6) (by rw [show (wI (wI (wI (wI I2 13 0 0) 25 n9 a) 26 n9 b) 27 n9 0) 21 a.toNatClampNeg = I 21 a.toNatClampNeg by simp [wI_eq, f21]]; exact chain_in h8 hns hh h6)) mc_X5_homeOf mv_X5_homeOf lk_X5_104 (hR 13 (by decide)) sc_13 rfl rfl rfl dX5_call_157 ⟨Nat.le_of_ble_eq_true rfl, Nat.le_of_ble_eq_true rfl⟩ ⟨Nat.le_of_ble_eq_true rfl, Nat.le_of_ble_eq_true rfl⟩ (Nat.le_of_ble_eq_true rfl) ?_
                      refine x_cast (y := nI x) (by rw [← ex, ← fr_home hF]; simp [homeM, wI_eq]) ?_
                      refine y_iald F (hR 14 (by decide)) ss_14 (vp_in_nI hx (by decide)) dX5_call_160 ?_
                      refine x_cast (y := (wI (wI (wI (wI I2 13 0 0) 25 n9 a) 26 n9 b) 27 n9 0) 14 x) (by rw [nI_clamp (by omega)]) ?_
                      refine x_cast (y := (I2 14 x)) (by first | rfl | simp [wI_eq]) ?_
                      refine y_iast F (hR 28 (by decide)) ss_28 (by rw [e13]; exact vp_in_nI hlt (by decide)) dX5_call_161 ?_
                      refine x_world (congrArg (fun z => k_c cy ad q ns nt z J) (show wI (wI (wI (wI (wI I2 13 0 0) 25 n9 a) 26 n9 b) 27 n9 0) 28 (I2 13 13).toNatClampNeg (I2 14 x) = wI (wI (wI (wI (wI I2 13 0 0) 25 n9 a) 26 n9 b) 27 n9 0) 28 n9 (I2 14 x) by rw [e13, nI_clamp (by omega)])) ?_
                      refine x_aload_n F dX5_call_162 rfl 1 rfl ?_
                      refine g_X5_57 F (hR 13 (by decide)) sc_13 rfl dX5_call_163 ?_
                      refine x_aload_n F dX5_call_166 rfl 1 rfl ?_
                      refine g_X5_93 F (hR 13 (by decide)) sc_13 rfl dX5_call_167 ?_
                      refine x_cast (y := (I2 13 13)) (by first | rfl | simp [wI_eq]) ?_
                      refine x_aload_n F dX5_call_170 rfl 1 rfl ?_
                      refine g_X5_13 F (hR 13 (by decide)) sc_13 rfl dX5_call_171 ?_
                      refine x_aload_n F dX5_call_174 rfl 1 rfl ?_
                      refine x_iload_n F dX5_call_175 rfl 2 rfl ?_
                      refine z_callVi F [.int a] (c_X5_homeOf l D cy lo R ad q ns nt (wI (wI (wI (wI (wI I2 13 0 0) 25 n9 a) 26 n9 b) 27 n9 0) 28 n9 (I2 14 x)) J hR a (num_in h8 hns h6) (by rw [show (wI (wI (wI (wI (wI I2 13 0 0) 25 n9 a) 26 n9 b) 27 n9 0) 28 n9 (I2 14 x)) 21 a.toNatClampNeg = I 21 a.toNatClampNeg by simp [wI_eq, f21]]; exact chain_in h8 hns hh h6)) mc_X5_homeOf mv_X5_homeOf lk_X5_104 (hR 13 (by decide)) sc_13 rfl rfl rfl dX5_call_176 ⟨Nat.le_of_ble_eq_true rfl, Nat.le_of_ble_eq_true rfl⟩ ⟨Nat.le_of_ble_eq_true rfl, Nat.le_of_ble_eq_true rfl⟩ (Nat.le_of_ble_eq_true rfl) ?_
                      refine x_cast (y := nI x) (by rw [← ex, ← fr_home hF]; simp [homeM, wI_eq]) ?_
                      refine y_iald F (hR 15 (by decide)) ss_15 (vp_in_nI hx (by decide)) dX5_call_179 ?_
                      refine x_cast (y := (wI (wI (wI (wI (wI I2 13 0 0) 25 n9 a) 26 n9 b) 27 n9 0) 28 n9 (I2 14 x)) 15 x) (by rw [nI_clamp (by omega)]) ?_
                      refine x_cast (y := (I2 15 x)) (by first | rfl | simp [wI_eq]) ?_
                      refine y_iast F (hR 29 (by decide)) ss_29 (by rw [e13]; exact vp_in_nI hlt (by decide)) dX5_call_180 ?_
                      refine x_world (congrArg (fun z => k_c cy ad q ns nt z J) (show wI (wI (wI (wI (wI (wI I2 13 0 0) 25 n9 a) 26 n9 b) 27 n9 0) 28 n9 (I2 14 x)) 29 (I2 13 13).toNatClampNeg (I2 15 x) = wI (wI (wI (wI (wI (wI I2 13 0 0) 25 n9 a) 26 n9 b) 27 n9 0) 28 n9 (I2 14 x)) 29 n9 (I2 15 x) by rw [e13, nI_clamp (by omega)])) ?_
                      refine x_aload_n F dX5_call_181 rfl 1 rfl ?_
                      refine x_aload_n F dX5_call_182 rfl 1 rfl ?_
                      refine g_X5_93 F (hR 13 (by decide)) sc_13 rfl dX5_call_183 ?_
                      refine x_cast (y := (I2 13 13)) (by first | rfl | simp [wI_eq]) ?_
                      refine x_cast (y := nI n9) e13 ?_
                      refine z_callVv F [.int (nI n9)] (c_X5_takesBest l D cy lo R ad q ns nt (wI (wI (wI (wI (wI (wI I2 13 0 0) 25 n9 a) 26 n9 b) 27 n9 0) 28 n9 (I2 14 x)) 29 n9 (I2 15 x)) J hR n9 w.length (by omega) (by simp [wI_eq]; exact hv.1) ((way_len hB.1).2)) mc_X5_takesBest mv_X5_takesBest lk_X5_134 (hR 13 (by decide)) sc_13 rfl rfl rfl dX5_call_186 ⟨Nat.le_of_ble_eq_true rfl, Nat.le_of_ble_eq_true rfl⟩ ⟨Nat.le_of_ble_eq_true rfl, Nat.le_of_ble_eq_true rfl⟩ (Nat.le_of_ble_eq_true rfl) ?_
                      refine x_world (w' := (k_c cy ad q ns nt (wayI (wI (wI (wI (wI (wI (wI (wI I2 13 0 0) 25 n9 a) 26 n9 b) 27 n9 0) 28 n9 (I2 14 x)) 29 n9 (I2 15 x)) 32 n9 (I2 13 23)) n9 w.length) J)) ?_ ?_
                      · congr 2
                      have g13 : (wayI (wI (wI (wI (wI (wI (wI (wI I2 13 0 0) 25 n9 a) 26 n9 b) 27 n9 0) 28 n9 (I2 14 x)) 29 n9 (I2 15 x)) 32 n9 (I2 13 23)) n9 w.length) 13 13 = nI n9 := by rw [wayI, if_neg (by omega)]; simp [wI_eq, e13]
                      refine x_aload_n F dX5_call_189 rfl 1 rfl ?_
                      refine x_dup F dX5_call_190 rfl ?_
                      refine g_X5_93 F (hR 13 (by decide)) sc_13 rfl dX5_call_191 ?_
                      refine x_iconst F (v := 1) dX5_call_194 (by decide) ?_
                      rw [g13]
                      refine x_iadd F dX5_call_195 ?_
                      rw [nI_1]
                      refine p_X5_93 F (hR 13 (by decide)) ss_13 dX5_call_196 ?_
                      refine x_aload_n F dX5_call_199 rfl 1 rfl ?_
                      refine g_X5_93 F (hR 13 (by decide)) sc_13 rfl dX5_call_200 ?_
                      refine x_cast (y := (nI (n9 + 1))) (by first | rfl | simp [wI_eq]) ?_
                      refine x_iconst F (v := 1) dX5_call_203 (by decide) ?_
                      refine x_isub F dX5_call_204 ?_
                      refine x_cast (y := nI n9) (nI_p1 n9) ?_
                      rw [hQ]
                      exact x_iret F hr hlk (by exact Or.inr (Or.inr ⟨by simp [mc0, *], by simp [← busyM_th (x := 0) (I := I), *], x, y, I2, some w, hx, hy, ex, ey, hF, hB, hv, Or.inr ⟨w, rfl, rfl, rfl⟩⟩)) dX5_call_205
                    · exact False.elim (by revert h108; decide)
        · exact False.elim (by revert h38; decide)
      · refine x_iconst F (v := 2) dX5_call_26 (by decide) ?_
        refine x_goto F 31 dX5_call_27 (by decide) ?_
        refine p_X5_78 F (hR 13 (by decide)) ss_13 dX5_call_31 ?_
        refine x_aload_n F dX5_call_34 rfl 0 rfl ?_
        refine g_X5_78 F (hR 13 (by decide)) sc_13 rfl dX5_call_35 ?_
        refine x_cast (y := 2) (by first | rfl | simp [wI_eq]) ?_
        refine x_if_le F 43 dX5_call_38 (by decide) (fun h38 => ?_) (fun h38 => ?_)
        · exact False.elim (by revert h38; decide)
        · refine x_iconst F (v := 0) dX5_call_41 (by decide) ?_
          rw [hQ]
          exact x_iret F hr hlk (by exact Or.inl ⟨by simp [mc0, *], rfl, by simp [mc0, *]⟩) dX5_call_42
    · rw [kb0] at h14
      refine x_iconst F (v := 1) dX5_call_17 (by decide) ?_
      refine x_goto F 31 dX5_call_18 (by decide) ?_
      refine p_X5_78 F (hR 13 (by decide)) ss_13 dX5_call_31 ?_
      refine x_aload_n F dX5_call_34 rfl 0 rfl ?_
      refine g_X5_78 F (hR 13 (by decide)) sc_13 rfl dX5_call_35 ?_
      refine x_cast (y := 1) (by first | rfl | simp [wI_eq]) ?_
      refine x_if_le F 43 dX5_call_38 (by decide) (fun h38 => ?_) (fun h38 => ?_)
      · exact False.elim (by revert h38; decide)
      · refine x_iconst F (v := 0) dX5_call_41 (by decide) ?_
        rw [hQ]
        exact x_iret F hr hlk (by exact Or.inl ⟨by simp [mc0, *], rfl, by simp [mc0, *]⟩) dX5_call_42
