set_option maxHeartbeats 4000000 in
set_option maxRecDepth 100000 in
/-- finds: the best way, if there is one -/
theorem c_X5_finds (l : Launch) (D : va_G) (cy : Nat → ClassId) (lo : Nat) (R : List Nat) (ad : Nat → Nat) (q : Nat → Nat → Nat) (ns nt : Nat) (I : Nat → Nat → Int32) (J : Nat → Nat → Int64) (hR : ∀ r, r < 36 → r ∈ R) (op : Nat → Nat → Bool) (rt : Nat → Nat → Nat) (a b : Nat) (ha : a < 5) (hb : b < 5) (hg : Grf I J op rt) : k_Met l yX5_finds cX5_finds 7 (some .boolean) { frames := 3, cells := 0, slots := 0, locals := 71 } D cy lo R ad (k_c cy ad q ns nt I J) [.ref (ad 13), .int (nI a), .int (nI b)] (k_Qi D lo (fun r u => ∃ (I' : Nat → Nat → Int32) (v : Option (List Nat)), u = (R, ad, k_c cy ad q ns nt I' J) ∧ FR I I' ∧ Best op rt a b v ∧ Bst I' rt v ∧ r = k_b v.isSome)) := by
  refine k_metQ (by decide +kernel) (Nat.le_of_ble_eq_true rfl) ?_
  intro pg e s m args below meth c Q F hr hlk hnm hQ
  have body17 : ∀ (I' : Nat → Nat → Int32) (p : List Nat) (u : Nat) (v : Option (List Nat)), DO op rt a b I I' p u v → (∀ (I2 : Nat → Nat → Int32) (p2 : List Nat) (s2 : Nat) (v2 : Option (List Nat)), DI op rt a b I I2 p2 s2 v2 → muO p u < muI p2 s2 → XW D lo pg l e { frames := 3, cells := 0, slots := 0, locals := 71 } s m args below meth c 7 0 0 Q R ad (k_c cy ad q ns nt I2 J) 144 [(4, .int 0), (3, .int (nI (p2.length + 1))), (0, .ref (ad 13)), (1, .int (nI a)), (2, .int (nI b))] []) → XW D lo pg l e { frames := 3, cells := 0, slots := 0, locals := 71 } s m args below meth c 7 0 0 Q R ad (k_c cy ad q ns nt I' J) 17 [(4, .int 1), (3, .int (nI (p.length + 1))), (0, .ref (ad 13)), (1, .int (nI a)), (2, .int (nI b))] [] := by
    intro I' p u v hd K
    have take78 : u = b → (v = none ∨ ∃ w, v = some w ∧ (cst rt (p ++ [u]) < cst rt w ∨ (cst rt (p ++ [u]) = cst rt w ∧ (p ++ [u]).length < w.length))) → XW D lo pg l e { frames := 3, cells := 0, slots := 0, locals := 71 } s m args below meth c 7 0 0 Q R ad (k_c cy ad q ns nt I' J) 78 [(5, .int (costM I' (p.length + 1))), (4, .int 1), (3, .int (nI (p.length + 1))), (0, .ref (ad 13)), (1, .int (nI a)), (2, .int (nI b))] [] := by
      intro hub hn
      refine x_aload_n F dX5_finds_78 rfl 3 rfl ?_
      refine x_iload_n F dX5_finds_79 rfl 2 rfl ?_
      refine p_X5_116 F (hR 13 (by decide)) ss_13 dX5_finds_80 ?_
      refine x_aload_n F dX5_finds_83 rfl 3 rfl ?_
      refine x_iload F dX5_finds_84 0 rfl ?_
      refine p_X5_122 F (hR 13 (by decide)) ss_13 dX5_finds_86 ?_
      refine x_iconst F (v := 0) dX5_finds_89 (by decide) ?_
      refine x_istore F [(6, .int 0), (5, .int (costM I' (p.length + 1))), (4, .int 1), (3, .int (nI (p.length + 1))), (0, .ref (ad 13)), (1, .int (nI a)), (2, .int (nI b))] dX5_finds_90 (by decide) rfl ?_
      have lp92 : ∀ (fu92 : Nat) (k : Nat), p.length + 1 - k < fu92 → (k ≤ p.length + 1) → XW D lo pg l e { frames := 3, cells := 0, slots := 0, locals := 71 } s m args below meth c 7 0 0 Q R ad (k_c cy ad q ns nt (copyB (wI (wI I' 13 23 (nI (p.length + 1))) 13 24 (costM I' (p.length + 1))) k) J) 92 [(6, .int (nI k)), (5, .int (costM I' (p.length + 1))), (4, .int 1), (3, .int (nI (p.length + 1))), (0, .ref (ad 13)), (1, .int (nI a)), (2, .int (nI b))] [] := by
        intro fu92
        induction fu92 with
        | zero => intro k hf92; exact absurd hf92 (Nat.not_lt_zero _)
        | succ fu92 ih92 =>
          intro k hf92 hkn
          refine x_iload F dX5_finds_92 0 rfl ?_
          refine x_iload_n F dX5_finds_94 rfl 3 rfl ?_
          refine x_icmp_ge F 118 dX5_finds_95 (by decide) (fun h95 => ?_) (fun h95 => ?_)
          · have hk9 := lp_exit (by have := hd.2.2.2.2.2; omega) hkn h95
            refine x_iconst F (v := 0) dX5_finds_118 (by decide) ?_
            refine x_istore F [(4, .int 0), (6, .int (nI k)), (5, .int (costM I' (p.length + 1))), (3, .int (nI (p.length + 1))), (0, .ref (ad 13)), (1, .int (nI a)), (2, .int (nI b))] dX5_finds_119 (by decide) rfl ?_
            refine x_iload F dX5_finds_121 0 rfl ?_
            refine x_if_eq F 141 dX5_finds_123 (by decide) (fun h123 => ?_) (fun h123 => ?_)
            · refine x_iconst F (v := 0) dX5_finds_141 (by decide) ?_
              refine x_istore F [(4, .int 0), (6, .int (nI k)), (5, .int (costM I' (p.length + 1))), (3, .int (nI (p.length + 1))), (0, .ref (ad 13)), (1, .int (nI a)), (2, .int (nI b))] dX5_finds_142 (by decide) rfl ?_
              refine x_sub [0, 3, 4, 5, 6] rfl ?_
              obtain ⟨h8, h9⟩ := do_copy hg hd hub hn
              rw [hk9]
              exact K _ _ _ _ h8 h9
            · exact False.elim (by revert h123; decide)
          · have hk9 := lp_go (by have := hd.2.2.2.2.2; omega) hkn h95
            refine x_aload_n F dX5_finds_98 rfl 4 rfl ?_
            refine g_X5_72 F (hR 13 (by decide)) sc_13 rfl dX5_finds_99 ?_
            refine x_iload F dX5_finds_102 0 rfl ?_
            refine x_aload_n F dX5_finds_104 rfl 4 rfl ?_
            refine g_X5_75 F (hR 13 (by decide)) sc_13 rfl dX5_finds_105 ?_
            refine x_iload F dX5_finds_108 0 rfl ?_
            refine y_iald F (hR 35 (by decide)) ss_35 (vp_in_nI (by have := hd.2.2.2.2.2; omega) (by decide)) dX5_finds_110 ?_
            refine y_iast F (hR 34 (by decide)) ss_34 (vp_in_nI (by have := hd.2.2.2.2.2; omega) (by decide)) dX5_finds_111 ?_
            refine x_iinc F [(6, .int ((nI k) + 1)), (5, .int (costM I' (p.length + 1))), (4, .int 1), (3, .int (nI (p.length + 1))), (0, .ref (ad 13)), (1, .int (nI a)), (2, .int (nI b))] dX5_finds_112 0 rfl (by decide) rfl ?_
            refine x_goto F 92 dX5_finds_115 (by decide) ?_
            refine x_world (congrArg (fun z => k_c cy ad q ns nt z J) (show wI (copyB (wI (wI I' 13 23 (nI (p.length + 1))) 13 24 (costM I' (p.length + 1))) k) 34 (nI k).toNatClampNeg ((copyB (wI (wI I' 13 23 (nI (p.length + 1))) 13 24 (costM I' (p.length + 1))) k) 35 (nI k).toNatClampNeg) = copyB (wI (wI I' 13 23 (nI (p.length + 1))) 13 24 (costM I' (p.length + 1))) (k + 1) by rw [nI_clamp (by have := hd.2.2.2.2.2; omega), copyB_s])) ?_
            rw [nI_1]
            exact ih92 (k + 1) (by omega) (by omega)
      refine x_world (congrArg (fun z => k_c cy ad q ns nt z J) (copyB_0 _).symm) ?_
      exact lp92 (p.length + 2) 0 (by omega) (by omega)
    refine x_iload_n F dX5_finds_17 rfl 1 rfl ?_
    refine x_if_le F 208 dX5_finds_18 (by decide) (fun h18 => ?_) (fun h18 => ?_)
    · exact absurd h18 (nI_nle (by omega) (by have := hd.2.2.2.2.2; omega))
    · refine x_iload F dX5_finds_21 0 rfl ?_
      refine x_if_eq F 121 dX5_finds_23 (by decide) (fun h23 => ?_) (fun h23 => ?_)
      · exact False.elim (by revert h23; decide)
      · refine x_aload_n F dX5_finds_26 rfl 2 rfl ?_
        refine g_X5_75 F (hR 13 (by decide)) sc_13 rfl dX5_finds_27 ?_
        refine x_iload_n F dX5_finds_30 rfl 1 rfl ?_
        refine x_iconst F (v := 1) dX5_finds_31 (by decide) ?_
        refine x_isub F dX5_finds_32 ?_
        refine y_iald F (hR 35 (by decide)) ss_35 (vin_m1 (by omega) (by first | (have := hd.2.2.2.2.2; omega) | (have := hd.2.2.2.2.2.2.1; omega))) dX5_finds_33 ?_
        refine x_iload_n F dX5_finds_34 rfl 4 rfl ?_
        refine x_icmp_ne F 121 dX5_finds_35 (by decide) (fun h35 => ?_) (fun h35 => ?_)
        · rw [do_last hd] at h35
          have hub : u ≠ b := fun e => h35 (by rw [e])
          refine x_iload F dX5_finds_121 0 rfl ?_
          refine x_if_eq F 141 dX5_finds_123 (by decide) (fun h123 => ?_) (fun h123 => ?_)
          · exact False.elim (by revert h123; decide)
          · refine x_iload_n F dX5_finds_126 rfl 1 rfl ?_
            refine x_iconst F (v := 5) dX5_finds_127 (by decide) ?_
            refine x_icmp_ge F 141 dX5_finds_128 (by decide) (fun h128 => ?_) (fun h128 => ?_)
            · have hl5 : ¬ p.length + 1 < 5 := by have := lp_exit (N := 5) (k := p.length + 1) (by omega) (by have := hd.2.2.2.2.2; omega) h128; omega
              refine x_iconst F (v := 0) dX5_finds_141 (by decide) ?_
              refine x_istore F [(4, .int 0), (3, .int (nI (p.length + 1))), (0, .ref (ad 13)), (1, .int (nI a)), (2, .int (nI b))] dX5_finds_142 (by decide) rfl ?_
              refine x_sub [0, 1, 2, 3, 4] rfl ?_
              obtain ⟨h8, h9⟩ := do_full hd hub hl5
              exact K _ _ _ _ h8 h9
            · have hl5 := lp_go (N := 5) (k := p.length + 1) (by omega) (by have := hd.2.2.2.2.2; omega) h128
              refine x_aload_n F dX5_finds_131 rfl 2 rfl ?_
              refine g_X5_75 F (hR 13 (by decide)) sc_13 rfl dX5_finds_132 ?_
              refine x_iload_n F dX5_finds_135 rfl 1 rfl ?_
              refine x_iconst F (v := -1) dX5_finds_136 (by decide) ?_
              refine y_iast F (hR 35 (by decide)) ss_35 (vp_in_nI hl5 (by decide)) dX5_finds_137 ?_
              refine x_iinc F [(3, .int ((nI (p.length + 1)) + 1)), (4, .int 1), (0, .ref (ad 13)), (1, .int (nI a)), (2, .int (nI b))] dX5_finds_138 1 rfl (by decide) rfl ?_
              refine x_iconst F (v := 0) dX5_finds_141 (by decide) ?_
              refine x_istore F [(4, .int 0), (3, .int ((nI (p.length + 1)) + 1)), (0, .ref (ad 13)), (1, .int (nI a)), (2, .int (nI b))] dX5_finds_142 (by decide) rfl ?_
              refine x_sub (lv' := [(4, .int 0), (3, .int (nI ((p ++ [u]).length + 1))), (0, .ref (ad 13)), (1, .int (nI a)), (2, .int (nI b))]) [0, 1, 2, 3, 4] (by rw [len_snoc, ← nI_1 (p.length + 1)]; rfl) ?_
              refine x_world (congrArg (fun z => k_c cy ad q ns nt z J) (show wI I' 35 ((nI (p.length + 1)).toNatClampNeg) (-1) = wI I' 35 (p.length + 1) (-1) by rw [nI_clamp (by omega)])) ?_
              obtain ⟨h8, h9⟩ := do_push hd hub hl5
              exact K _ _ _ _ h8 h9
        · rw [do_last hd] at h35
          have hub : u = b := (nI_eq (by have := (do_pre hd).2.2; omega) (by omega)).mp h35
          refine x_aload_n F dX5_finds_38 rfl 2 rfl ?_
          refine x_iload_n F dX5_finds_39 rfl 1 rfl ?_
          refine z_callVi F [.int (nI (p.length + 1))] (c_X5_costOf l D cy lo R ad q ns nt I' J hR (p.length + 1) (by omega) (by have := hd.2.2.2.2.2; omega) (do_car hd)) mc_X5_costOf mv_X5_costOf lk_X5_119 (hR 13 (by decide)) sc_13 rfl rfl rfl dX5_finds_40 ⟨Nat.le_of_ble_eq_true rfl, Nat.le_of_ble_eq_true rfl⟩ ⟨Nat.le_of_ble_eq_true rfl, Nat.le_of_ble_eq_true rfl⟩ (Nat.le_of_ble_eq_true rfl) ?_
          refine x_istore F [(5, .int (costM I' (p.length + 1))), (4, .int 1), (3, .int (nI (p.length + 1))), (0, .ref (ad 13)), (1, .int (nI a)), (2, .int (nI b))] dX5_finds_43 (by decide) rfl ?_
          refine x_aload_n F dX5_finds_45 rfl 3 rfl ?_
          refine g_X5_116 F (hR 13 (by decide)) sc_13 rfl dX5_finds_46 ?_
          refine x_if_eq F 78 dX5_finds_49 (by decide) (fun h49 => ?_) (fun h49 => ?_)
          · refine x_sub [0, 1, 2, 3, 4, 5] rfl ?_
            first | exact take78 hub (Or.inl (do_v0 hd h49)) | exact take78 hub (do_bet1 hg hd h49 h58) | exact take78 hub (do_bet2 hg hd h49 h67 h75)
          · refine x_iload F dX5_finds_52 0 rfl ?_
            refine x_aload_n F dX5_finds_54 rfl 3 rfl ?_
            refine g_X5_122 F (hR 13 (by decide)) sc_13 rfl dX5_finds_55 ?_
            refine x_icmp_lt F 78 dX5_finds_58 (by decide) (fun h58 => ?_) (fun h58 => ?_)
            · refine x_sub [0, 1, 2, 3, 4, 5] rfl ?_
              first | exact take78 hub (Or.inl (do_v0 hd h49)) | exact take78 hub (do_bet1 hg hd h49 h58) | exact take78 hub (do_bet2 hg hd h49 h67 h75)
            · refine x_iload F dX5_finds_61 0 rfl ?_
              refine x_aload_n F dX5_finds_63 rfl 3 rfl ?_
              refine g_X5_122 F (hR 13 (by decide)) sc_13 rfl dX5_finds_64 ?_
              refine x_icmp_ne F 118 dX5_finds_67 (by decide) (fun h67 => ?_) (fun h67 => ?_)
              · refine x_iconst F (v := 0) dX5_finds_118 (by decide) ?_
                refine x_istore F [(4, .int 0), (5, .int (costM I' (p.length + 1))), (3, .int (nI (p.length + 1))), (0, .ref (ad 13)), (1, .int (nI a)), (2, .int (nI b))] dX5_finds_119 (by decide) rfl ?_
                refine x_iload F dX5_finds_121 0 rfl ?_
                refine x_if_eq F 141 dX5_finds_123 (by decide) (fun h123 => ?_) (fun h123 => ?_)
                · refine x_iconst F (v := 0) dX5_finds_141 (by decide) ?_
                  refine x_istore F [(4, .int 0), (5, .int (costM I' (p.length + 1))), (3, .int (nI (p.length + 1))), (0, .ref (ad 13)), (1, .int (nI a)), (2, .int (nI b))] dX5_finds_142 (by decide) rfl ?_
                  refine x_sub [0, 2, 3, 4, 5] rfl ?_
                  obtain ⟨w, hv, hw⟩ : ∃ w, v = some w ∧ ¬ (cst rt (p ++ [u]) < cst rt w ∨ (cst rt (p ++ [u]) = cst rt w ∧ (p ++ [u]).length < w.length)) := by first | exact do_wor1 hg hd h49 h58 h67 | exact do_wor2 hg hd h49 h58 h75
                  obtain ⟨h8, h9⟩ := do_keep hd hub hv hw
                  exact K _ _ _ _ h8 h9
                · exact False.elim (by revert h123; decide)
              · refine x_iload_n F dX5_finds_70 rfl 2 rfl ?_
                refine x_aload_n F dX5_finds_71 rfl 3 rfl ?_
                refine g_X5_116 F (hR 13 (by decide)) sc_13 rfl dX5_finds_72 ?_
                refine x_icmp_ge F 118 dX5_finds_75 (by decide) (fun h75 => ?_) (fun h75 => ?_)
                · refine x_iconst F (v := 0) dX5_finds_118 (by decide) ?_
                  refine x_istore F [(4, .int 0), (5, .int (costM I' (p.length + 1))), (3, .int (nI (p.length + 1))), (0, .ref (ad 13)), (1, .int (nI a)), (2, .int (nI b))] dX5_finds_119 (by decide) rfl ?_
                  refine x_iload F dX5_finds_121 0 rfl ?_
                  refine x_if_eq F 141 dX5_finds_123 (by decide) (fun h123 => ?_) (fun h123 => ?_)
                  · refine x_iconst F (v := 0) dX5_finds_141 (by decide) ?_
                    refine x_istore F [(4, .int 0), (5, .int (costM I' (p.length + 1))), (3, .int (nI (p.length + 1))), (0, .ref (ad 13)), (1, .int (nI a)), (2, .int (nI b))] dX5_finds_142 (by decide) rfl ?_
                    refine x_sub [0, 2, 3, 4, 5] rfl ?_
                    obtain ⟨w, hv, hw⟩ : ∃ w, v = some w ∧ ¬ (cst rt (p ++ [u]) < cst rt w ∨ (cst rt (p ++ [u]) = cst rt w ∧ (p ++ [u]).length < w.length)) := by first | exact do_wor1 hg hd h49 h58 h67 | exact do_wor2 hg hd h49 h58 h75
                    obtain ⟨h8, h9⟩ := do_keep hd hub hv hw
                    exact K _ _ _ _ h8 h9
                  · exact False.elim (by revert h123; decide)
                · refine x_sub [0, 1, 2, 3, 4, 5] rfl ?_
                  first | exact take78 hub (Or.inl (do_v0 hd h49)) | exact take78 hub (do_bet1 hg hd h49 h58) | exact take78 hub (do_bet2 hg hd h49 h67 h75)
  have lp144 : ∀ (fu : Nat) (I2 : Nat → Nat → Int32) (p : List Nat) (s5 : Nat) (v : Option (List Nat)), DI op rt a b I I2 p s5 v → 124432 - muI p s5 < fu → XW D lo pg l e { frames := 3, cells := 0, slots := 0, locals := 71 } s m args below meth c 7 0 0 Q R ad (k_c cy ad q ns nt I2 J) 144 [(4, .int 0), (3, .int (nI (p.length + 1))), (0, .ref (ad 13)), (1, .int (nI a)), (2, .int (nI b))] [] := by
    intro fu
    induction fu with
    | zero => intro I2 p s5 v hd hf144; exact absurd hf144 (Nat.not_lt_zero _)
    | succ fu ih144 =>
      intro I2 p s5 v hd hf144
      refine x_iload_n F dX5_finds_144 rfl 1 rfl ?_
      refine x_iconst F (v := 1) dX5_finds_145 (by decide) ?_
      refine x_icmp_le F 194 dX5_finds_146 (by decide) (fun h146 => ?_) (fun h146 => ?_)
      · have hp0 : p = [] := by
          have := (nI_leI (a := p.length + 1) (b := 1) (by have := hd.2.2.2.2.2.2.1; omega) (by omega)).mp h146
          exact List.length_eq_zero_iff.mp (by omega)
        refine x_iload F dX5_finds_194 0 rfl ?_
        refine x_if_eq F 203 dX5_finds_196 (by decide) (fun h196 => ?_) (fun h196 => ?_)
        · refine x_iconst F (v := 0) dX5_finds_203 (by decide) ?_
          refine x_istore_n F [(3, .int 0), (4, .int 0), (0, .ref (ad 13)), (1, .int (nI a)), (2, .int (nI b))] dX5_finds_204 rfl (by decide) rfl ?_
          refine x_goto F 17 dX5_finds_205 (by decide) ?_
          refine x_iload_n F dX5_finds_17 rfl 0 rfl ?_
          refine x_if_le F 208 dX5_finds_18 (by decide) (fun h18 => ?_) (fun h18 => ?_)
          · refine x_aload_n F dX5_finds_208 rfl 2 rfl ?_
            refine g_X5_116 F (hR 13 (by decide)) sc_13 rfl dX5_finds_209 ?_
            refine x_if_le F 219 dX5_finds_212 (by decide) (fun h212 => ?_) (fun h212 => ?_)
            · refine x_iconst F (v := 0) dX5_finds_219 (by decide) ?_
              rw [hQ]
              exact x_zret F hr hlk (by decide) ⟨I2, v, rfl, hd.1, di_end (hp0 ▸ hd), hd.2.2.2.1, di_fin0 hd.2.2.2.1 (di_end (hp0 ▸ hd)) h212⟩ dX5_finds_220
            · refine x_iconst F (v := 1) dX5_finds_215 (by decide) ?_
              refine x_goto F 220 dX5_finds_216 (by decide) ?_
              rw [hQ]
              exact x_zret F hr hlk (by decide) ⟨I2, v, rfl, hd.1, di_end (hp0 ▸ hd), hd.2.2.2.1, di_fin1 hd.2.2.2.1 h212⟩ dX5_finds_220
          · exact False.elim (by revert h18; decide)
        · exact False.elim (by revert h196; decide)
      · have hm1 := h146
        have hp1 : p ≠ [] := by
          intro e
          subst e
          exact h146 (Int32.le_refl _)
        refine x_iload F dX5_finds_149 0 rfl ?_
        refine x_if_ne F 194 dX5_finds_151 (by decide) (fun h151 => ?_) (fun h151 => ?_)
        · exact False.elim (by revert h151; decide)
        · refine x_aload_n F dX5_finds_154 rfl 2 rfl ?_
          refine g_X5_75 F (hR 13 (by decide)) sc_13 rfl dX5_finds_155 ?_
          refine x_iload_n F dX5_finds_158 rfl 1 rfl ?_
          refine x_iconst F (v := 1) dX5_finds_159 (by decide) ?_
          refine x_isub F dX5_finds_160 ?_
          refine x_dup2 F dX5_finds_161 rfl rfl ?_
          refine y_iald F (hR 35 (by decide)) ss_35 (vin_m1 (by omega) (by first | (have := hd.2.2.2.2.2; omega) | (have := hd.2.2.2.2.2.2.1; omega))) dX5_finds_162 ?_
          refine x_iconst F (v := 1) dX5_finds_163 (by decide) ?_
          refine x_iadd F dX5_finds_164 ?_
          refine y_iast F (hR 35 (by decide)) ss_35 (vin_m1 (by omega) (by first | (have := hd.2.2.2.2.2; omega) | (have := hd.2.2.2.2.2.2.1; omega))) dX5_finds_165 ?_
          refine x_aload_n F dX5_finds_166 rfl 2 rfl ?_
          refine g_X5_75 F (hR 13 (by decide)) sc_13 rfl dX5_finds_167 ?_
          refine x_iload_n F dX5_finds_170 rfl 1 rfl ?_
          refine x_iconst F (v := 1) dX5_finds_171 (by decide) ?_
          refine x_isub F dX5_finds_172 ?_
          refine y_iald F (hR 35 (by decide)) ss_35 (vin_m1 (by omega) (by first | (have := hd.2.2.2.2.2; omega) | (have := hd.2.2.2.2.2.2.1; omega))) dX5_finds_173 ?_
          refine x_cast (y := ((I2 35 ((nI (p.length + 1)) - 1).toNatClampNeg) + 1)) (by first | rfl | simp [wI_eq]) ?_
          refine x_iconst F (v := 5) dX5_finds_174 (by decide) ?_
          refine x_icmp_ne F 184 dX5_finds_175 (by decide) (fun h175 => ?_) (fun h175 => ?_)
          · rw [di_val hd] at h175
            have hs5 : s5 < 5 := by
              rcases Nat.lt_or_ge s5 5 with z | z
              · exact z
              · exact absurd (show nI s5 = 5 by rw [show s5 = 5 by have := hd.2.2.2.2.2.1; omega]; rfl) h175
            refine x_world (congrArg (fun z => k_c cy ad q ns nt z J) (show wI I2 35 (((nI (p.length + 1)) - 1).toNatClampNeg) ((I2 35 ((nI (p.length + 1)) - 1).toNatClampNeg) + 1) = wI I2 35 p.length (nI s5) by rw [di_val hd, nI_p1, nI_clamp (by have := hd.2.2.2.2.2.2.1; omega)])) ?_
            refine x_aload_n F dX5_finds_184 rfl 2 rfl ?_
            refine x_iload_n F dX5_finds_185 rfl 1 rfl ?_
            refine z_callVi F [.int (nI (p.length + 1))] (c_X5_canGo l D cy lo R ad q ns nt (wI I2 35 p.length (nI s5)) J hR (p.length + 1) (by omega) (by have := hd.2.2.2.2.2.2.1; omega) ((di_car hd hp1 hs5).2)) mc_X5_canGo mv_X5_canGo lk_X5_125 (hR 13 (by decide)) sc_13 rfl rfl rfl dX5_finds_186 ⟨Nat.le_of_ble_eq_true rfl, Nat.le_of_ble_eq_true rfl⟩ ⟨Nat.le_of_ble_eq_true rfl, Nat.le_of_ble_eq_true rfl⟩ (Nat.le_of_ble_eq_true rfl) ?_
            refine x_istore F [(4, .int (k_b (goM (wI I2 35 p.length (nI s5)) J (p.length + 1) ((p.length + 1) - 1)))), (3, .int (nI (p.length + 1))), (0, .ref (ad 13)), (1, .int (nI a)), (2, .int (nI b))] dX5_finds_189 (by decide) rfl ?_
            refine x_goto F 144 dX5_finds_191 (by decide) ?_
            cases hgo : goM (wI I2 35 p.length (nI s5)) J (p.length + 1) (p.length + 1 - 1) with
            | false =>
              refine x_sub (lv' := [(4, .int 0), (3, .int (nI (p.length + 1))), (0, .ref (ad 13)), (1, .int (nI a)), (2, .int (nI b))]) [0, 1, 2, 3, 4] rfl ?_
              obtain ⟨h8, h9⟩ := di_no hp1 hs5 hd (fun hy => by rw [(go_iff ((hd.1.w35 _ _).grf hg) (di_car hd hp1 hs5).1 hp1 (hd.2.2.2.2.2.2.2.1 hp1) hs5 hd.2.2.2.2.2.2.1).mpr hy] at hgo; cases hgo)
              exact ih144 _ _ _ _ h8 (by have := di_lt h8; omega)
            | true =>
              obtain ⟨hdo, hmo⟩ := di_yes hd ((go_iff ((hd.1.w35 _ _).grf hg) (di_car hd hp1 hs5).1 hp1 (hd.2.2.2.2.2.2.2.1 hp1) hs5 hd.2.2.2.2.2.2.1).mp hgo)
              refine x_sub (lv' := [(4, .int 1), (3, .int (nI (p.length + 1))), (0, .ref (ad 13)), (1, .int (nI a)), (2, .int (nI b))]) [0, 1, 2, 3, 4] rfl ?_
              refine x_iload_n F dX5_finds_144 rfl 1 rfl ?_
              refine x_iconst F (v := 1) dX5_finds_145 (by decide) ?_
              refine x_icmp_le F 194 dX5_finds_146 (by decide) (fun h146 => ?_) (fun h146 => ?_)
              · exact absurd h146 hm1
              · have hm1 := h146
                have hp1 : p ≠ [] := by
                  intro e
                  subst e
                  exact h146 (Int32.le_refl _)
                refine x_iload F dX5_finds_149 0 rfl ?_
                refine x_if_ne F 194 dX5_finds_151 (by decide) (fun h151 => ?_) (fun h151 => ?_)
                · refine x_iload F dX5_finds_194 0 rfl ?_
                  refine x_if_eq F 203 dX5_finds_196 (by decide) (fun h196 => ?_) (fun h196 => ?_)
                  · exact False.elim (by revert h196; decide)
                  · refine x_iload_n F dX5_finds_199 rfl 1 rfl ?_
                    refine x_goto F 204 dX5_finds_200 (by decide) ?_
                    refine x_istore_n F [(3, .int (nI (p.length + 1))), (4, .int 1), (0, .ref (ad 13)), (1, .int (nI a)), (2, .int (nI b))] dX5_finds_204 rfl (by decide) rfl ?_
                    refine x_goto F 17 dX5_finds_205 (by decide) ?_
                    refine x_sub [1, 0, 2, 3, 4] rfl ?_
                    exact body17 _ _ _ _ hdo (fun I4 p4 s4 v4 h4 hm4 => ih144 _ _ _ _ h4 (by have := di_lt h4; omega))
                · exact False.elim (by revert h151; decide)
          · rw [di_val hd] at h175
            have hs5 : s5 = 5 := (nI_eq (b := 5) (by have := hd.2.2.2.2.2.1; omega) (by omega)).mp h175
            refine x_iinc F [(3, .int ((nI (p.length + 1)) + -1)), (4, .int 0), (0, .ref (ad 13)), (1, .int (nI a)), (2, .int (nI b))] dX5_finds_178 1 rfl (by decide) rfl ?_
            refine x_goto F 144 dX5_finds_181 (by decide) ?_
            obtain ⟨p', u, hp', h8, h9⟩ := di_pop hp1 (hs5 ▸ hd)
            refine x_world (congrArg (fun z => k_c cy ad q ns nt z J) (show wI I2 35 (((nI (p.length + 1)) - 1).toNatClampNeg) ((I2 35 ((nI (p.length + 1)) - 1).toNatClampNeg) + 1) = wI I2 35 p.length (nI 5) by rw [di_val hd, hs5, nI_p1, nI_clamp (by have := hd.2.2.2.2.2.2.1; omega)])) ?_
            refine x_sub (lv' := [(4, .int 0), (3, .int (nI (p'.length + 1))), (0, .ref (ad 13)), (1, .int (nI a)), (2, .int (nI b))]) [1, 0, 2, 3, 4] (by rw [hp', len_snoc, ← pk_m1 (p'.length + 1)]; rfl) ?_
            exact ih144 _ _ _ _ h8 (by have := di_lt h8; rw [hs5] at hf144; omega)
  refine x_aload_n F dX5_finds_0 rfl 0 rfl ?_
  refine x_iconst F (v := 0) dX5_finds_1 (by decide) ?_
  refine p_X5_116 F (hR 13 (by decide)) ss_13 dX5_finds_2 ?_
  refine x_aload_n F dX5_finds_5 rfl 0 rfl ?_
  refine g_X5_75 F (hR 13 (by decide)) sc_13 rfl dX5_finds_6 ?_
  refine x_iconst F (v := 0) dX5_finds_9 (by decide) ?_
  refine x_iload_n F dX5_finds_10 rfl 1 rfl ?_
  refine y_iast F (hR 35 (by decide)) ss_35 (vp_in_nI (n := 0) (by decide) (by decide)) dX5_finds_11 ?_
  refine x_iconst F (v := 1) dX5_finds_12 (by decide) ?_
  refine x_istore_n F [(3, .int 1), (0, .ref (ad 13)), (1, .int (nI a)), (2, .int (nI b))] dX5_finds_13 rfl (by decide) rfl ?_
  refine x_iconst F (v := 1) dX5_finds_14 (by decide) ?_
  refine x_istore F [(4, .int 1), (3, .int 1), (0, .ref (ad 13)), (1, .int (nI a)), (2, .int (nI b))] dX5_finds_15 (by decide) rfl ?_
  refine x_sub [0, 1, 2, 3, 4] rfl ?_
  refine x_world (congrArg (fun z => k_c cy ad q ns nt z J) (show wI (wI I 13 23 0) 35 (0 : Int32).toNatClampNeg (nI a) = wI (wI I 13 23 0) 35 0 (nI a) from rfl)) ?_
  exact body17 _ [] _ _ (do_start ha) (fun I4 p4 s4 v4 h4 hm4 => lp144 124433 _ _ _ _ h4 (by omega))
