theorem lt60 {n : Nat} {x : Int32} (hc : x = nI n) (h : n ≤ 60) (h2 : x < 60) : n < 60 := by
  rcases Nat.lt_or_ge n 60 with z | z
  · exact z
  · have : n = 60 := by omega
    subst this
    subst hc
    exact absurd h2 (by decide)
theorem no60 {n : Nat} {x : Int32} (hc : x = nI n) (h : n ≤ 60) (h2 : x < 0 ∨ 60 ≤ x) : ¬ n < 60 := by
  intro hn
  subst hc
  rcases h2 with h2 | h2
  · exact nI_pos (by omega) h2
  · have h3 : nI 60 ≤ nI n := h2
    rw [nI_leI (by omega) (by omega)] at h3
    omega
theorem kc_nt {cy : Nat → ClassId} {ad : Nat → Nat} {q : Nat → Nat → Nat} {ns nt nt' : Nat} {I : Nat → Nat → Int32} {J : Nat → Nat → Int64} {x : Nat} (h : x ≠ 5) : k_c cy ad q ns nt I J x = k_c cy ad q ns nt' I J x := by
  rw [k_c, k_c]
  unfold k_sh
  split
  · next h1 =>
    rcases (show x = 0 ∨ x = 1 ∨ x = 2 ∨ x = 3 ∨ x = 4 ∨ x = 6 ∨ x = 7 ∨ x = 8 ∨ x = 9 ∨ x = 10 ∨ x = 11 ∨ x = 12 ∨ x = 13 ∨ x = 14 ∨ x = 15 ∨ x = 16 ∨ x = 17 ∨ x = 18 ∨ x = 19 ∨ x = 20 ∨ x = 21 ∨ x = 22 ∨ x = 23 ∨ x = 24 ∨ x = 25 ∨ x = 26 ∨ x = 27 ∨ x = 28 ∨ x = 29 ∨ x = 30 ∨ x = 31 ∨ x = 32 ∨ x = 33 ∨ x = 34 ∨ x = 35 ∨ x = 36 ∨ x = 37 ∨ x = 38 ∨ x = 39 by omega) with rfl | rfl | rfl | rfl | rfl | rfl | rfl | rfl | rfl | rfl | rfl | rfl | rfl | rfl | rfl | rfl | rfl | rfl | rfl | rfl | rfl | rfl | rfl | rfl | rfl | rfl | rfl | rfl | rfl | rfl | rfl | rfl | rfl | rfl | rfl | rfl | rfl | rfl | rfl <;> rfl
  · rfl
theorem become_other {I : Nat → Nat → Int32} {r o r' k : Nat} (h : r' ≠ r) (h2 : r' ≠ r + 1) : ∀ n, becomeI I r o n r' k = I r' k := by
  intro n
  induction n with
  | zero => rw [becomeI, wI_eq, if_neg (by omega)]
  | succ n ih => rw [becomeI, add_other h h2, ih]
def callIf (I : Nat → Nat → Int32) (J : Nat → Nat → Int64) (i j : Nat) : Nat → Nat → Int32 := fbI I J (homeF I (40 + 2 * i) 0) (homeF I (40 + 2 * j) 0) 6
def callI0 (I : Nat → Nat → Int32) (J : Nat → Nat → Int64) (nt i j : Nat) : Nat → Nat → Int32 := becomeI (talkI (callIf I J i j) nt (stepF (callIf I J i j) (homeF (callIf I J i j) (40 + 2 * i) 0)) (priceF (callIf I J i j) (homeF (callIf I J i j) (40 + 2 * i) 0))) (80 + 4 * nt + 1) 6 (callIf I J i j 6 1).toNatClampNeg
def mkCI (I : Nat → Nat → Int32) (J : Nat → Nat → Int64) (nt i j : Nat) : Nat → Nat → Int32 := wI (callI0 I J nt i j) 0 7 (nI (nt + 1))
theorem call07 {I : Nat → Nat → Int32} {J : Nat → Nat → Int64} {nt i j : Nat} : callI0 I J nt i j 0 7 = I 0 7 := by
  have z0 : ¬ 0 = 80 + 4 * nt := by omega
  rw [callI0, become_other (by omega) (by omega)]
  simp only [talkI]
  rw [if_neg (by omega), if_neg (by omega), if_neg (by omega), callIf, fb_other (by decide) (by decide) (by decide)]
def callT (I : Nat → Nat → Int32) (J : Nat → Nat → Int64) (q : Nat → Nat → Nat) (ns nt : Nat) (a b : Int32) : Nat :=
  if (isN ns a && isN ns b) = false then 1 else if a = b then 2 else if (busyC I q nt (40 + 2 * a.toNatClampNeg) 60 || busyC I q nt (40 + 2 * b.toNatClampNeg) 60) = true then 3 else if ¬ nt < 60 then 3
  else if fbB I J (homeF I (40 + 2 * a.toNatClampNeg) 0) (homeF I (40 + 2 * b.toNatClampNeg) 0) = true then 0 else 4
set_option maxHeartbeats 4000000 in
set_option maxRecDepth 100000 in
/-- call -/
theorem c_X4_call (l : Launch) (D : va_G) (cy : Nat → ClassId) (lo : Nat) (R : List Nat) (ad : Nat → Nat) (q : Nat → Nat → Nat) (ns nt : Nat) (I : Nat → Nat → Int32) (J : Nat → Nat → Int64) (hX : k_RX R ns nt) (hfl : l.stackTraces = false) (a b : Int32) (hq : k_Q q ns nt) (hc : I 0 7 = nI nt) : k_MetX l yX4_call cX4_call 6 (some .int) { frames := 8, cells := 6, slots := 53, locals := 160 } D cy lo R ad (k_c cy ad q ns nt I J) [.ref (ad 0), .int a, .int b] (k_Qi D lo (fun r u => callT I J q ns nt a b = 0 ∧ r = nI nt ∧ ∃ ad' : Nat → Nat, (∀ y, y ≠ 80 + 4 * nt → y ≠ 80 + 4 * nt + 1 → y ≠ 80 + 4 * nt + 1 + 1 → y ≠ 80 + 4 * nt + 3 → ad' y = ad y) ∧ u = (k_Rt R nt, ad', k_c cy ad' (talkQ q nt a.toNatClampNeg b.toNatClampNeg) ns (nt + 1) (mkCI I J nt a.toNatClampNeg b.toNatClampNeg) (talkJ J nt)))) (fun E u => (callT I J q ns nt a b = 1 ∧ E = e_IO ∧ u = (R, ad, k_c cy ad q ns nt I J)) ∨ (callT I J q ns nt a b = 2 ∧ E = e_IA ∧ u = (R, ad, k_c cy ad q ns nt I J)) ∨ (callT I J q ns nt a b = 3 ∧ E = e_IS ∧ u = (R, ad, k_c cy ad q ns nt I J)) ∨ (callT I J q ns nt a b = 4 ∧ E = e_IS ∧ u = (R, ad, k_c cy ad q ns nt (callIf I J a.toNatClampNeg b.toNatClampNeg) J))) := by
  refine k_metXQ (by decide +kernel) (Nat.le_of_ble_eq_true rfl) ?_
  intro p e s m args below meth c Q F hr hlk ht hQ
  have hL := hX.1
  have hR := hL.1
  refine x_aload_n F dX4_call_0 rfl 0 rfl ?_
  refine x_iload_n F dX4_call_1 rfl 1 rfl ?_
  refine z_callVqx F [.int a] (c_X4_subscriberOf l D cy lo R ad q ns nt I J hL hfl a ) mc_X4_subscriberOf mv_X4_subscriberOf lk_X4_92 (hL.1 0 (by decide)) sc_0 rfl rfl rfl dX4_call_2 ⟨Nat.le_of_ble_eq_true rfl, Nat.le_of_ble_eq_true rfl⟩ ⟨Nat.le_of_ble_eq_true rfl, Nat.le_of_ble_eq_true rfl⟩ (Nat.le_of_ble_eq_true rfl) (fun E hE2 => ?_) (fun ok2 => ?_)
  · rw [hQ]
    exact x_out F ht hlk (Or.inl ⟨by simp [callT, hE2.2], hE2.1, rfl⟩) (by decide) (by decide)
  · refine x_astore_n F [(3, .ref (ad (40 + 2 * a.toNatClampNeg))), (0, .ref (ad 0)), (1, .int a), (2, .int b)] dX4_call_5 rfl (by decide) rfl ?_
    refine x_aload_n F dX4_call_6 rfl 1 rfl ?_
    refine x_iload_n F dX4_call_7 rfl 3 rfl ?_
    refine z_callVqx F [.int b] (c_X4_subscriberOf l D cy lo R ad q ns nt I J hL hfl b ) mc_X4_subscriberOf mv_X4_subscriberOf lk_X4_92 (hL.1 0 (by decide)) sc_0 rfl rfl rfl dX4_call_8 ⟨Nat.le_of_ble_eq_true rfl, Nat.le_of_ble_eq_true rfl⟩ ⟨Nat.le_of_ble_eq_true rfl, Nat.le_of_ble_eq_true rfl⟩ (Nat.le_of_ble_eq_true rfl) (fun E hE8 => ?_) (fun ok8 => ?_)
    · rw [hQ]
      exact x_out F ht hlk (Or.inl ⟨by simp [callT, hE8.2], hE8.1, rfl⟩) (by decide) (by decide)
    · refine x_astore F [(4, .ref (ad (40 + 2 * b.toNatClampNeg))), (3, .ref (ad (40 + 2 * a.toNatClampNeg))), (0, .ref (ad 0)), (1, .int a), (2, .int b)] dX4_call_11 (by decide) rfl ?_
      refine x_iload_n F dX4_call_13 rfl 3 rfl ?_
      refine x_iload_n F dX4_call_14 rfl 4 rfl ?_
      refine x_icmp_ne F 28 dX4_call_15 (by decide) (fun h15 => ?_) (fun h15 => ?_)
      · refine x_aload_n F dX4_call_28 rfl 2 rfl ?_
        refine x_aload_n F dX4_call_29 rfl 1 rfl ?_
        refine z_callVi F [.ref (ad (40 + 2 * a.toNatClampNeg))] (c_X4_isTalking l D cy lo R ad q ns nt I J hR (40 + 2 * a.toNatClampNeg) (sub_rng (isN_lt ok2) hL) ((hL.2.1 _ (isN_lt ok2)).1) ((hL.2.1 _ (isN_lt ok2)).2) hL hq) mc_X4_isTalking mv_X4_isTalking lk_X4_127 (hL.1 0 (by decide)) sc_0 rfl rfl rfl dX4_call_30 ⟨Nat.le_of_ble_eq_true rfl, Nat.le_of_ble_eq_true rfl⟩ ⟨Nat.le_of_ble_eq_true rfl, Nat.le_of_ble_eq_true rfl⟩ (Nat.le_of_ble_eq_true rfl) ?_
        refine x_if_ne F 45 dX4_call_33 (by decide) (fun h33 => ?_) (fun h33 => ?_)
        · rw [kb1] at h33
          rw [hQ]
          exact x_throw F hfl ht hlk (by decide +kernel) ck_X4_74 ik_IS sk_X4_131 k_at_IS dX4_call_45 dX4_call_48 dX4_call_49 dX4_call_51 dX4_call_54 ⟨Nat.le_of_ble_eq_true rfl, Nat.le_of_ble_eq_true rfl, Nat.le_of_ble_eq_true rfl, Nat.le_of_ble_eq_true rfl⟩ (Or.inr (Or.inr (Or.inl ⟨by simp [callT, *], rfl, rfl⟩))) (by decide) (by decide)
        · rw [kb0] at h33
          refine x_aload_n F dX4_call_36 rfl 2 rfl ?_
          refine x_aload F dX4_call_37 0 rfl ?_
          refine z_callVi F [.ref (ad (40 + 2 * b.toNatClampNeg))] (c_X4_isTalking l D cy lo R ad q ns nt I J hR (40 + 2 * b.toNatClampNeg) (sub_rng (isN_lt ok8) hL) ((hL.2.1 _ (isN_lt ok8)).1) ((hL.2.1 _ (isN_lt ok8)).2) hL hq) mc_X4_isTalking mv_X4_isTalking lk_X4_127 (hL.1 0 (by decide)) sc_0 rfl rfl rfl dX4_call_39 ⟨Nat.le_of_ble_eq_true rfl, Nat.le_of_ble_eq_true rfl⟩ ⟨Nat.le_of_ble_eq_true rfl, Nat.le_of_ble_eq_true rfl⟩ (Nat.le_of_ble_eq_true rfl) ?_
          refine x_if_eq F 55 dX4_call_42 (by decide) (fun h42 => ?_) (fun h42 => ?_)
          · rw [kb0] at h42
            refine x_aload_n F dX4_call_55 rfl 2 rfl ?_
            refine g_X4_133 F (hL.1 0 (by decide)) sc_0 rfl dX4_call_56 ?_
            refine x_istore F [(5, .int (I 0 7)), (4, .ref (ad (40 + 2 * b.toNatClampNeg))), (3, .ref (ad (40 + 2 * a.toNatClampNeg))), (0, .ref (ad 0)), (1, .int a), (2, .int b)] dX4_call_59 (by decide) rfl ?_
            refine x_iload F dX4_call_61 0 rfl ?_
            refine x_if_lt F 73 dX4_call_63 (by decide) (fun h63 => ?_) (fun h63 => ?_)
            · rw [hQ]
              exact x_throw F hfl ht hlk (by decide +kernel) ck_X4_74 ik_IS sk_X4_136 k_at_IS dX4_call_73 dX4_call_76 dX4_call_77 dX4_call_79 dX4_call_82 ⟨Nat.le_of_ble_eq_true rfl, Nat.le_of_ble_eq_true rfl, Nat.le_of_ble_eq_true rfl, Nat.le_of_ble_eq_true rfl⟩ (Or.inr (Or.inr (Or.inl ⟨by (have hnt9 : ¬ nt < 60 := by first | exact no60 hc hL.2.2.2.2 (Or.inl ‹_›) | exact no60 hc hL.2.2.2.2 (Or.inr (Int32.not_lt.mp ‹_›))); simp [callT, *], rfl, rfl⟩))) (by decide) (by decide)
            · refine x_iload F dX4_call_66 0 rfl ?_
              refine x_bipush F (v := 60) dX4_call_68 (by decide) ?_
              refine x_icmp_lt F 83 dX4_call_70 (by decide) (fun h70 => ?_) (fun h70 => ?_)
              · refine x_aload_n F dX4_call_83 rfl 3 rfl ?_
                refine g_X4_19 F (hL.1 0 (by decide)) sc_0 rfl dX4_call_84 ?_
                refine x_aload_n F dX4_call_87 rfl 2 rfl ?_
                refine x_iconst F (v := 0) dX4_call_88 (by decide) ?_
                refine z_callVi F [.int 0] (c_X2_homeAt l D cy lo R ad q ns nt I J hR (40 + 2 * a.toNatClampNeg) 0 (sub_rng (isN_lt ok2) hL) ((hL.2.1 _ (isN_lt ok2)).1) ((hL.2.1 _ (isN_lt ok2)).2)) mc_X2_homeAt mv_X2_homeAt lk_X4_96 (hL.2.1 _ (isN_lt ok2)).1 (sc_sub (sub_rng (isN_lt ok2) hL)) rfl rfl rfl dX4_call_89 ⟨Nat.le_of_ble_eq_true rfl, Nat.le_of_ble_eq_true rfl⟩ ⟨Nat.le_of_ble_eq_true rfl, Nat.le_of_ble_eq_true rfl⟩ (Nat.le_of_ble_eq_true rfl) ?_
                refine x_aload F dX4_call_92 1 rfl ?_
                refine x_iconst F (v := 0) dX4_call_94 (by decide) ?_
                refine z_callVi F [.int 0] (c_X2_homeAt l D cy lo R ad q ns nt I J hR (40 + 2 * b.toNatClampNeg) 0 (sub_rng (isN_lt ok8) hL) ((hL.2.1 _ (isN_lt ok8)).1) ((hL.2.1 _ (isN_lt ok8)).2)) mc_X2_homeAt mv_X2_homeAt lk_X4_96 (hL.2.1 _ (isN_lt ok8)).1 (sc_sub (sub_rng (isN_lt ok8) hL)) rfl rfl rfl dX4_call_95 ⟨Nat.le_of_ble_eq_true rfl, Nat.le_of_ble_eq_true rfl⟩ ⟨Nat.le_of_ble_eq_true rfl, Nat.le_of_ble_eq_true rfl⟩ (Nat.le_of_ble_eq_true rfl) ?_
                refine x_aload_n F dX4_call_98 rfl 3 rfl ?_
                refine g_X4_38 F (hL.1 0 (by decide)) sc_0 rfl dX4_call_99 ?_
                refine z_callVi F [.int (homeF I (40 + 2 * a.toNatClampNeg) 0), .int (homeF I (40 + 2 * b.toNatClampNeg) 0), .ref (ad 6)] (c_X0_findBest l D cy lo R ad q ns nt I J hR 6 (homeF I (40 + 2 * a.toNatClampNeg) 0) (homeF I (40 + 2 * b.toNatClampNeg) 0) (Or.inl rfl) (hL.1 6 (by decide)) (hL.1 7 (by decide))) mc_X0_findBest mv_X0_findBest lk_X4_138 (hR 3 (by decide)) sc_3 rfl rfl rfl dX4_call_102 ⟨Nat.le_of_ble_eq_true rfl, Nat.le_of_ble_eq_true rfl⟩ ⟨Nat.le_of_ble_eq_true rfl, Nat.le_of_ble_eq_true rfl⟩ (Nat.le_of_ble_eq_true rfl) ?_
                refine x_if_ne F 118 dX4_call_105 (by decide) (fun h105 => ?_) (fun h105 => ?_)
                · rw [kb1] at h105
                  refine x_aload_n F dX4_call_118 rfl 3 rfl ?_
                  refine g_X4_31 F (hL.1 0 (by decide)) sc_0 rfl dX4_call_119 ?_
                  refine x_iload F dX4_call_122 0 rfl ?_
                  refine x_aload_n F dX4_call_124 rfl 3 rfl ?_
                  refine x_aload_n F dX4_call_125 rfl 2 rfl ?_
                  refine x_aload F dX4_call_126 1 rfl ?_
                  refine x_aload_n F dX4_call_128 rfl 3 rfl ?_
                  refine g_X4_38 F (hL.1 0 (by decide)) sc_0 rfl dX4_call_129 ?_
                  have hnt : nt < 60 := lt60 hc hL.2.2.2.2 h70
                  rw [hc]
                  have hT : callT I J q ns nt a b = 0 := by simp [callT, *]
                  have hf9 : LenOK (callIf I J a.toNatClampNeg b.toNatClampNeg) 6 := fb_len h105
                  refine x_callVq F [.ref (ad (40 + 2 * a.toNatClampNeg)), .ref (ad (40 + 2 * b.toNatClampNeg)), .ref (ad 6)] (c_X4_newTalk l D cy lo R ad q ns nt (callIf I J a.toNatClampNeg b.toNatClampNeg) J hX hq a.toNatClampNeg b.toNatClampNeg ((callIf I J a.toNatClampNeg b.toNatClampNeg) 6 1).toNatClampNeg (isN_lt ok2) (isN_lt ok8) hf9.1 hf9.2.1) mc_X4_newTalk mv_X4_newTalk lk_X4_144 (hR 0 (by decide)) sc_0 rfl rfl rfl dX4_call_132 ⟨Nat.le_of_ble_eq_true rfl, Nat.le_of_ble_eq_true rfl⟩ ⟨Nat.le_of_ble_eq_true rfl, Nat.le_of_ble_eq_true rfl⟩ (Nat.le_of_ble_eq_true rfl) (fun rv u hu => ?_)
                  obtain ⟨ad2, hA, rfl, rfl⟩ := hu
                  dsimp only
                  have hns := hL.2.2.2.1
                  have hia := isN_lt ok2
                  have hib := isN_lt ok8
                  have hlo : ∀ y, y < 80 → ad2 y = ad y := fun y hy => hA y (by omega) (by omega) (by omega) (by omega)
                  rw [← hlo 0 (by decide), ← hlo 5 (by decide)]
                  have hX2 := RX_talk hX hnt
                  have hR2 := hX2.1.1
                  refine x_astT F (r := 5) (q := 80 + 4 * nt) (hR2 5 (by decide)) sc_5 (by simp [k_Rt]) (sc_tlk (tlk_rng nt)) (vp_in_nI hnt (by decide)) dX4_call_135 ?_
                  refine x_world (w' := k_c cy ad2 (talkQ q nt a.toNatClampNeg b.toNatClampNeg) ns (nt + 1) (callI0 I J nt a.toNatClampNeg b.toNatClampNeg) (talkJ J nt)) ?_ ?_
                  · funext x
                    by_cases h4 : x = 5
                    · subst h4
                      rw [up_at, sc_5, nI_clamp (by omega)]
                      simp only [Sum.inl.injEq, Prod.mk.injEq, true_and, Sum.inr.injEq]
                      funext i
                      by_cases h1 : i = nt
                      · subst h1; rw [up_at, if_pos (by omega)]
                      · rw [up_ne _ _ h1]
                        by_cases h2 : i < nt
                        · rw [if_pos h2, if_pos (by omega)]
                        · rw [if_neg h2, if_neg (by omega)]
                    · rw [up_ne _ _ h4]; exact kc_nt h4
                  refine x_aload_n F dX4_call_136 rfl 3 rfl ?_
                  refine x_dup F dX4_call_137 rfl ?_
                  refine g_X4_133 F (hR2 0 (by decide)) sc_0 rfl dX4_call_138 ?_
                  refine x_iconst F (v := 1) dX4_call_141 (by decide) ?_
                  refine x_iadd F dX4_call_142 ?_
                  refine p_X4_133 F (hR2 0 (by decide)) ss_0 dX4_call_143 ?_
                  refine x_iload F dX4_call_146 0 rfl ?_
                  refine x_world (w' := k_c cy ad2 (talkQ q nt a.toNatClampNeg b.toNatClampNeg) ns (nt + 1) (mkCI I J nt a.toNatClampNeg b.toNatClampNeg) (talkJ J nt)) ?_ ?_
                  · rw [mkCI, call07, hc, nI_1]
                  rw [hQ]
                  refine x_widen (k := 6) (n := 53) (Nat.le_of_ble_eq_true rfl) (Nat.le_of_ble_eq_true rfl) ?_
                  exact x_iretx F hr hlk ⟨hT, rfl, ad2, hA, rfl⟩ dX4_call_148
                · rw [kb0] at h105
                  rw [hQ]
                  exact x_throw F hfl ht hlk (by decide +kernel) ck_X4_74 ik_IS sk_X4_142 k_at_IS dX4_call_108 dX4_call_111 dX4_call_112 dX4_call_114 dX4_call_117 ⟨Nat.le_of_ble_eq_true rfl, Nat.le_of_ble_eq_true rfl, Nat.le_of_ble_eq_true rfl, Nat.le_of_ble_eq_true rfl⟩ (Or.inr (Or.inr (Or.inr ⟨by (have hnt9 : nt < 60 := lt60 hc hL.2.2.2.2 ‹_›); simp [callT, *], rfl, rfl⟩))) (by decide) (by decide)
              · rw [hQ]
                exact x_throw F hfl ht hlk (by decide +kernel) ck_X4_74 ik_IS sk_X4_136 k_at_IS dX4_call_73 dX4_call_76 dX4_call_77 dX4_call_79 dX4_call_82 ⟨Nat.le_of_ble_eq_true rfl, Nat.le_of_ble_eq_true rfl, Nat.le_of_ble_eq_true rfl, Nat.le_of_ble_eq_true rfl⟩ (Or.inr (Or.inr (Or.inl ⟨by (have hnt9 : ¬ nt < 60 := by first | exact no60 hc hL.2.2.2.2 (Or.inl ‹_›) | exact no60 hc hL.2.2.2.2 (Or.inr (Int32.not_lt.mp ‹_›))); simp [callT, *], rfl, rfl⟩))) (by decide) (by decide)
          · rw [kb1] at h42
            rw [hQ]
            exact x_throw F hfl ht hlk (by decide +kernel) ck_X4_74 ik_IS sk_X4_131 k_at_IS dX4_call_45 dX4_call_48 dX4_call_49 dX4_call_51 dX4_call_54 ⟨Nat.le_of_ble_eq_true rfl, Nat.le_of_ble_eq_true rfl, Nat.le_of_ble_eq_true rfl, Nat.le_of_ble_eq_true rfl⟩ (Or.inr (Or.inr (Or.inl ⟨by simp [callT, *], rfl, rfl⟩))) (by decide) (by decide)
      · rw [hQ]
        exact x_throw F hfl ht hlk (by decide +kernel) ck_X4_56 ik_IA sk_X4_125 k_at_IA dX4_call_18 dX4_call_21 dX4_call_22 dX4_call_24 dX4_call_27 ⟨Nat.le_of_ble_eq_true rfl, Nat.le_of_ble_eq_true rfl, Nat.le_of_ble_eq_true rfl, Nat.le_of_ble_eq_true rfl⟩ (Or.inr (Or.inl ⟨by simp [callT, *], rfl, rfl⟩)) (by decide) (by decide)
