def mchJ (I : Nat → Nat → Int32) (J : Nat → Nat → Int64) (j : Nat) : Nat → Nat → Nat → Int64
  | 0 => J
  | k + 1 => if k = 0 then J else wJ (mchJ I J j k) 19 (5 * I 33 (5 * j + k - 1) + I 33 (5 * j + k)).toNatClampNeg (mchJ I J j k 19 (5 * I 33 (5 * j + k - 1) + I 33 (5 * j + k)).toNatClampNeg + (I 17 (5 * I 33 (5 * j + k - 1) + I 33 (5 * j + k)).toNatClampNeg).toInt64)
def mPayI (I : Nat → Nat → Int32) (j i : Nat) : Nat → Nat → Int32 := if paidB I j i = true then wI (paidI I j i) 30 j (paidI I j i 30 j + 1) else wI (paidI I j i) 27 j 2
def mPayJ (I : Nat → Nat → Int32) (J : Nat → Nat → Int64) (j i n : Nat) : Nat → Nat → Int64 := if paidB I j i = true then mchJ (paidI I j i) J j n else J
def mMove (I : Nat → Nat → Int32) (j m : Nat) : Nat → Nat → Int32 := wI (wayI (wI I 32 j (I 13 23)) j m) 31 j (wayI (wI I 32 j (I 13 23)) j m 31 j + 1)
def MinR (I : Nat → Nat → Int32) (J : Nat → Nat → Int64) (op : Nat → Nat → Bool) (rt : Nat → Nat → Nat) (j i n x y : Nat) (I' : Nat → Nat → Int32) (J' : Nat → Nat → Int64) : Prop :=
  (stopM I J j n = false ∧ I' = mPayI I j i ∧ J' = mPayJ I J j i n) ∨ (stopM I J j n = true ∧ ∃ (I2 : Nat → Nat → Int32) (v : Option (List Nat)), FR I I2 ∧ Best op rt x y v ∧ Bst I2 rt v ∧ ((v = none ∧ I' = wI I2 27 j 2 ∧ J' = J) ∨ (∃ w, v = some w ∧ I' = mPayI (mMove I2 j w.length) j i ∧ J' = mPayJ (mMove I2 j w.length) J j i w.length)))
theorem paid_o {I : Nat → Nat → Int32} {j i r k : Nat} (h1 : r ≠ 23) (h2 : r ≠ 24) : paidI I j i r k = I r k := by
  unfold paidI
  split
  · split
    · rw [wI_eq, if_neg (by omega)]
    · rw [wI_eq, if_neg (by omega)]
  · rfl
theorem move_o {I : Nat → Nat → Int32} {j m r k : Nat} (h1 : r ≠ 31) (h2 : r ≠ 32) (h3 : r ≠ 33) : mMove I j m r k = I r k := by
  rw [mMove, wI_eq, if_neg (by omega), wayI, if_neg (by omega), wI_eq, if_neg (by omega)]
theorem move_32 {I : Nat → Nat → Int32} {j m : Nat} : mMove I j m 32 j = I 13 23 := by
  rw [mMove, wI_eq, if_neg (by omega), wayI, if_neg (by omega), wI_eq, if_pos ⟨rfl, rfl⟩]
theorem move_33 {I : Nat → Nat → Int32} {j m k : Nat} (h : k < m) : mMove I j m 33 (5 * j + k) = I 34 k := by
  rw [mMove, wI_eq, if_neg (by omega), wayI, if_pos ⟨rfl, by omega, by omega⟩, wI_eq, if_neg (by omega), show 5 * j + k - 5 * j = k by omega]
theorem way_car {op : Nat → Nat → Bool} {rt : Nat → Nat → Nat} {I : Nat → Nat → Int32} {x y k : Nat} {w : List Nat} (h : Way op x y w) (hv : Bst I rt (some w)) (hk : k < w.length) : isCar (I 34 k) = true := by
  rw [hv.2.2 k hk]
  apply car_of
  have : w.getD k 0 ∈ w := by
    rw [List.getD_eq_getElem?_getD, List.getElem?_eq_getElem hk]
    exact List.getElem_mem hk
  exact h.1.2.2.1 _ this
set_option maxHeartbeats 4000000 in
set_option maxRecDepth 100000 in
/-- minute -/
theorem c_X5_minute (l : Launch) (D : va_G) (cy : Nat → ClassId) (lo : Nat) (R : List Nat) (ad : Nat → Nat) (q : Nat → Nat → Nat) (ns nt : Nat) (I : Nat → Nat → Int32) (J : Nat → Nat → Int64) (hR : ∀ r, r < 36 → r ∈ R) (j : Nat) (i : Nat) (n : Nat) (x : Nat) (y : Nat) (op : Nat → Nat → Bool) (rt : Nat → Nat → Nat) (hj : j < 60) (hi : i < 20) (hx : x < 5) (hy : y < 5) (hlen : I 32 j = nI n) (hn1 : 1 ≤ n) (hn5 : n ≤ 5) (hcar : ∀ k, k < n → isCar (I 33 (5 * j + k)) = true) (hcal : I 25 j = nI i) (hst : ¬ I 28 j = 0) (hx33 : I 33 (5 * j) = nI x) (hy33 : I 33 (5 * j + n - 1) = nI y) (hg : Grf I J op rt) : k_Met l yX5_minute cX5_minute 5 none { frames := 4, cells := 0, slots := 0, locals := 97 } D cy lo R ad (k_c cy ad q ns nt I J) [.ref (ad 13), .int (nI j)] (k_Qv D lo (fun u => ∃ (I' : Nat → Nat → Int32) (J' : Nat → Nat → Int64), u = (R, ad, (k_c cy ad q ns nt I' J')) ∧ MinR I J op rt j i n x y I' J')) := by
  refine k_metQ (by decide +kernel) (Nat.le_of_ble_eq_true rfl) ?_
  intro p e s m args below meth c Q F hr hlk hnm hQ
  have t65 : ∀ (I1 : Nat → Nat → Int32) (n1 : Nat), I1 32 j = nI n1 → 1 ≤ n1 → n1 ≤ 5 → (∀ k, k < n1 → isCar (I1 33 (5 * j + k)) = true) → I1 25 j = nI i → ¬ I1 28 j = 0 → MinR I J op rt j i n x y (mPayI I1 j i) (mPayJ I1 J j i n1) → XW D lo p l e { frames := 4, cells := 0, slots := 0, locals := 97 } s m args below meth c 5 0 0 Q R ad (k_c cy ad q ns nt I1 J) 65 [(0, .ref (ad 13)), (1, .int (nI j))] [] := by
    intro I1 n1 hlen1 hn11 hn51 hcar1 hcal1 hst1 hK
    refine x_aload_n F dX5_minute_65 rfl 0 rfl ?_
    refine x_iload_n F dX5_minute_66 rfl 1 rfl ?_
    refine z_callVi F [.int (nI j)] (c_X5_isPaid l D cy lo R ad q ns nt I1 J hR j i hj hcal1 hi hst1) mc_X5_isPaid mv_X5_isPaid lk_X5_144 (hR 13 (by decide)) sc_13 rfl rfl rfl dX5_minute_67 ⟨Nat.le_of_ble_eq_true rfl, Nat.le_of_ble_eq_true rfl⟩ ⟨Nat.le_of_ble_eq_true rfl, Nat.le_of_ble_eq_true rfl⟩ (Nat.le_of_ble_eq_true rfl) ?_
    refine x_if_ne F 81 dX5_minute_70 (by decide) (fun h70 => ?_) (fun h70 => ?_)
    · rw [kb1] at h70
      refine x_iconst F (v := 1) dX5_minute_81 (by decide) ?_
      refine x_istore_n F [(3, .int 1), (0, .ref (ad 13)), (1, .int (nI j))] dX5_minute_82 rfl (by decide) rfl ?_
      have lp83 : ∀ (fu83 : Nat) (k : Nat), n1 - k < fu83 → (1 ≤ k) → (k ≤ n1) → XW D lo p l e { frames := 4, cells := 0, slots := 0, locals := 97 } s m args below meth c 5 0 0 Q R ad (k_c cy ad q ns nt (paidI I1 j i) (mchJ (paidI I1 j i) J j k)) 83 [(3, .int (nI k)), (0, .ref (ad 13)), (1, .int (nI j))] [] := by
        intro fu83
        induction fu83 with
        | zero => intro k hf83; exact absurd hf83 (Nat.not_lt_zero _)
        | succ fu83 ih83 =>
          intro k hf83 hk1 hkn
          refine x_iload_n F dX5_minute_83 rfl 0 rfl ?_
          refine x_aload_n F dX5_minute_84 rfl 1 rfl ?_
          refine g_X5_66 F (hR 13 (by decide)) sc_13 rfl dX5_minute_85 ?_
          refine x_iload_n F dX5_minute_88 rfl 2 rfl ?_
          refine y_iald F (hR 32 (by decide)) ss_32 (vp_in_nI hj (by decide)) dX5_minute_89 ?_
          refine x_cast (y := (paidI I1 j i) 32 j) (by rw [nI_clamp (by omega)]) ?_
          refine x_icmp_ge F 144 dX5_minute_90 (by decide) (fun h90 => ?_) (fun h90 => ?_)
          · rw [paid_o (by decide) (by decide), hlen1] at h90
            have hk9 := lp_exit (by omega) hkn h90
            subst hk9
            refine x_aload_n F dX5_minute_144 rfl 1 rfl ?_
            refine g_X5_60 F (hR 13 (by decide)) sc_13 rfl dX5_minute_145 ?_
            refine x_iload_n F dX5_minute_148 rfl 2 rfl ?_
            refine x_dup2 F dX5_minute_149 rfl rfl ?_
            refine y_iald F (hR 30 (by decide)) ss_30 (vp_in_nI hj (by decide)) dX5_minute_150 ?_
            refine x_cast (y := (paidI I1 j i) 30 j) (by rw [nI_clamp (by omega)]) ?_
            refine x_iconst F (v := 1) dX5_minute_151 (by decide) ?_
            refine x_iadd F dX5_minute_152 ?_
            refine y_iast F (hR 30 (by decide)) ss_30 (vp_in_nI hj (by decide)) dX5_minute_153 ?_
            refine x_world (congrArg (fun z => k_c cy ad q ns nt z (mchJ (paidI I1 j i) J j k)) (show wI (paidI I1 j i) 30 (nI j).toNatClampNeg (((paidI I1 j i) 30 j) + 1) = wI (paidI I1 j i) 30 j (((paidI I1 j i) 30 j) + 1) by rw [nI_clamp (by omega)])) ?_
            rw [hQ]
            exact x_vret F hr hlk ⟨_, _, rfl, by have h9 := hK; rw [mPayI, mPayJ, if_pos h70, if_pos h70] at h9; exact h9⟩ dX5_minute_154
          · rw [paid_o (by decide) (by decide), hlen1] at h90
            have hk9 := lp_go (by omega) hkn h90
            refine x_iconst F (v := 5) dX5_minute_93 (by decide) ?_
            refine x_aload_n F dX5_minute_94 rfl 1 rfl ?_
            refine g_X5_69 F (hR 13 (by decide)) sc_13 rfl dX5_minute_95 ?_
            refine x_iconst F (v := 5) dX5_minute_98 (by decide) ?_
            refine x_iload_n F dX5_minute_99 rfl 2 rfl ?_
            refine x_imul F dX5_minute_100 ?_
            refine x_iload_n F dX5_minute_101 rfl 0 rfl ?_
            refine x_iadd F dX5_minute_102 ?_
            refine x_iconst F (v := 1) dX5_minute_103 (by decide) ?_
            refine x_isub F dX5_minute_104 ?_
            refine y_iald F (hR 33 (by decide)) ss_33 (by rw [n5jk1 j k hk1]; exact vp_in_nI (by omega) (by decide)) dX5_minute_105 ?_
            refine x_cast (y := (paidI I1 j i) 33 (5 * j + k - 1)) (by rw [n5jk1 j k hk1, nI_clamp (by omega)]) ?_
            refine x_imul F dX5_minute_106 ?_
            refine x_aload_n F dX5_minute_107 rfl 1 rfl ?_
            refine g_X5_69 F (hR 13 (by decide)) sc_13 rfl dX5_minute_108 ?_
            refine x_iconst F (v := 5) dX5_minute_111 (by decide) ?_
            refine x_iload_n F dX5_minute_112 rfl 2 rfl ?_
            refine x_imul F dX5_minute_113 ?_
            refine x_iload_n F dX5_minute_114 rfl 0 rfl ?_
            refine x_iadd F dX5_minute_115 ?_
            refine y_iald F (hR 33 (by decide)) ss_33 (by rw [n5jk]; exact vp_in_nI (by omega) (by decide)) dX5_minute_116 ?_
            refine x_cast (y := (paidI I1 j i) 33 (5 * j + k)) (by rw [n5jk, nI_clamp (by omega)]) ?_
            refine x_iadd F dX5_minute_117 ?_
            refine x_istore F [(4, .int ((5 * ((paidI I1 j i) 33 (5 * j + k - 1))) + ((paidI I1 j i) 33 (5 * j + k)))), (3, .int (nI k)), (0, .ref (ad 13)), (1, .int (nI j))] dX5_minute_118 (by decide) rfl ?_
            refine x_aload_n F dX5_minute_120 rfl 2 rfl ?_
            refine g_X5_26 F (hR 13 (by decide)) sc_13 rfl dX5_minute_121 ?_
            refine x_iload F dX5_minute_124 0 rfl ?_
            refine x_dup2 F dX5_minute_126 rfl rfl ?_
            refine y_lald F (hR 19 (by decide)) ss_19 (vin_pair (by rw [paid_o (by decide) (by decide), show 5 * j + k - 1 = 5 * j + (k - 1) by omega]; exact hcar1 _ (by omega)) (by rw [paid_o (by decide) (by decide)]; exact hcar1 _ (by omega))) dX5_minute_127 ?_
            refine x_aload_n F dX5_minute_128 rfl 2 rfl ?_
            refine g_X5_20 F (hR 13 (by decide)) sc_13 rfl dX5_minute_129 ?_
            refine x_iload F dX5_minute_132 0 rfl ?_
            refine y_iald F (hR 17 (by decide)) ss_17 (vin_pair (by rw [paid_o (by decide) (by decide), show 5 * j + k - 1 = 5 * j + (k - 1) by omega]; exact hcar1 _ (by omega)) (by rw [paid_o (by decide) (by decide)]; exact hcar1 _ (by omega))) dX5_minute_134 ?_
            refine x_i2l F dX5_minute_135 ?_
            refine x_ladd F dX5_minute_136 ?_
            refine y_last F (hR 19 (by decide)) ss_19 (vin_pair (by rw [paid_o (by decide) (by decide), show 5 * j + k - 1 = 5 * j + (k - 1) by omega]; exact hcar1 _ (by omega)) (by rw [paid_o (by decide) (by decide)]; exact hcar1 _ (by omega))) dX5_minute_137 ?_
            refine x_iinc F [(3, .int ((nI k) + 1)), (4, .int ((5 * ((paidI I1 j i) 33 (5 * j + k - 1))) + ((paidI I1 j i) 33 (5 * j + k)))), (0, .ref (ad 13)), (1, .int (nI j))] dX5_minute_138 1 rfl (by decide) rfl ?_
            refine x_goto F 83 dX5_minute_141 (by decide) ?_
            refine x_world (congrArg (fun z => k_c cy ad q ns nt (paidI I1 j i) z) (show wJ (mchJ (paidI I1 j i) J j k) 19 ((5 * ((paidI I1 j i) 33 (5 * j + k - 1))) + ((paidI I1 j i) 33 (5 * j + k))).toNatClampNeg (((mchJ (paidI I1 j i) J j k) 19 ((5 * ((paidI I1 j i) 33 (5 * j + k - 1))) + ((paidI I1 j i) 33 (5 * j + k))).toNatClampNeg) + (((paidI I1 j i) 17 ((5 * ((paidI I1 j i) 33 (5 * j + k - 1))) + ((paidI I1 j i) 33 (5 * j + k))).toNatClampNeg).toInt64)) = mchJ (paidI I1 j i) J j (k + 1) by rw [mchJ, if_neg (by omega)])) ?_
            rw [nI_1]
            refine x_sub [0, 2, 3] rfl ?_
            exact ih83 (k + 1) (by omega) (by omega) (by omega)
      refine x_world (congrArg (fun z => k_c cy ad q ns nt (paidI I1 j i) z) (show J = mchJ (paidI I1 j i) J j 1 by rw [mchJ, if_pos rfl])) ?_
      refine x_sub [0, 1, 2] rfl ?_
      exact lp83 (n1 + 1) 1 (by omega) (by omega) (by omega)
    · rw [kb0] at h70
      refine x_aload_n F dX5_minute_73 rfl 0 rfl ?_
      refine g_X5_51 F (hR 13 (by decide)) sc_13 rfl dX5_minute_74 ?_
      refine x_iload_n F dX5_minute_77 rfl 1 rfl ?_
      refine x_iconst F (v := 2) dX5_minute_78 (by decide) ?_
      refine y_iast F (hR 27 (by decide)) ss_27 (vp_in_nI hj (by decide)) dX5_minute_79 ?_
      refine x_world (congrArg (fun z => k_c cy ad q ns nt z J) (show wI (paidI I1 j i) 27 (nI j).toNatClampNeg 2 = wI (paidI I1 j i) 27 j 2 by rw [nI_clamp (by omega)])) ?_
      rw [hQ]
      exact x_vret F hr hlk ⟨_, _, rfl, by have h9 := hK; rw [mPayI, mPayJ, if_neg (by simp [h70]), if_neg (by simp [h70])] at h9; exact h9⟩ dX5_minute_80
  refine x_iconst F (v := 5) dX5_minute_0 (by decide) ?_
  refine x_iload_n F dX5_minute_1 rfl 1 rfl ?_
  refine x_imul F dX5_minute_2 ?_
  refine x_aload_n F dX5_minute_3 rfl 0 rfl ?_
  refine g_X5_66 F (hR 13 (by decide)) sc_13 rfl dX5_minute_4 ?_
  refine x_iload_n F dX5_minute_7 rfl 1 rfl ?_
  refine y_iald F (hR 32 (by decide)) ss_32 (vp_in_nI hj (by decide)) dX5_minute_8 ?_
  refine x_cast (y := I 32 j) (by rw [nI_clamp (by omega)]) ?_
  refine x_iadd F dX5_minute_9 ?_
  refine x_iconst F (v := 1) dX5_minute_10 (by decide) ?_
  refine x_isub F dX5_minute_11 ?_
  refine x_cast (y := nI (5 * j + n - 1)) (by rw [hlen, n5jk1 j n hn1]) ?_
  refine x_istore_n F [(2, .int (nI (5 * j + n - 1))), (0, .ref (ad 13)), (1, .int (nI j))] dX5_minute_12 rfl (by decide) rfl ?_
  refine x_aload_n F dX5_minute_13 rfl 1 rfl ?_
  refine x_iload_n F dX5_minute_14 rfl 2 rfl ?_
  refine z_callVi F [.int (nI j)] (c_X5_isStopped l D cy lo R ad q ns nt I J hR j n hj hlen hn1 hn5 hcar) mc_X5_isStopped mv_X5_isStopped lk_X5_141 (hR 13 (by decide)) sc_13 rfl rfl rfl dX5_minute_15 ⟨Nat.le_of_ble_eq_true rfl, Nat.le_of_ble_eq_true rfl⟩ ⟨Nat.le_of_ble_eq_true rfl, Nat.le_of_ble_eq_true rfl⟩ (Nat.le_of_ble_eq_true rfl) ?_
  refine x_if_eq F 65 dX5_minute_18 (by decide) (fun h18 => ?_) (fun h18 => ?_)
  · rw [kb0] at h18
    refine x_sub [1, 2] rfl ?_
    exact t65 I n hlen hn1 hn5 hcar hcal hst (Or.inl ⟨h18, rfl, rfl⟩)
  · rw [kb1] at h18
    refine x_aload_n F dX5_minute_21 rfl 1 rfl ?_
    refine x_aload_n F dX5_minute_22 rfl 1 rfl ?_
    refine g_X5_69 F (hR 13 (by decide)) sc_13 rfl dX5_minute_23 ?_
    refine x_iconst F (v := 5) dX5_minute_26 (by decide) ?_
    refine x_iload_n F dX5_minute_27 rfl 2 rfl ?_
    refine x_imul F dX5_minute_28 ?_
    refine x_cast (y := nI (5 * j)) (by rw [show (5 : Int32) = nI 5 from rfl, pk_mul]) ?_
    refine y_iald F (hR 33 (by decide)) ss_33 (vp_in_nI (n := 5 * j) (by omega) (by decide)) dX5_minute_29 ?_
    refine x_cast (y := I 33 (5 * j)) (by rw [nI_clamp (by omega)]) ?_
    refine x_aload_n F dX5_minute_30 rfl 1 rfl ?_
    refine g_X5_69 F (hR 13 (by decide)) sc_13 rfl dX5_minute_31 ?_
    refine x_iload_n F dX5_minute_34 rfl 0 rfl ?_
    refine y_iald F (hR 33 (by decide)) ss_33 (vp_in_nI (n := 5 * j + n - 1) (by omega) (by decide)) dX5_minute_35 ?_
    refine x_cast (y := I 33 (5 * j + n - 1)) (by rw [nI_clamp (by omega)]) ?_
    rw [hx33, hy33]
    refine x_callVi F [.int (nI x), .int (nI y)] (c_X5_finds l D cy lo R ad q ns nt I J hR op rt x y hx hy hg) mc_X5_finds mv_X5_finds lk_X5_131 (hR 13 (by decide)) sc_13 rfl rfl rfl dX5_minute_36 ⟨Nat.le_of_ble_eq_true rfl, Nat.le_of_ble_eq_true rfl⟩ ⟨Nat.le_of_ble_eq_true rfl, Nat.le_of_ble_eq_true rfl⟩ (Nat.le_of_ble_eq_true rfl) (fun rv u hu => ?_)
    obtain ⟨I2, v, rfl, hF, hB, hv, rfl⟩ := hu
    dsimp only
    refine x_if_ne F 50 dX5_minute_39 (by decide) (fun h39 => ?_) (fun h39 => ?_)
    · rw [kb1] at h39
      obtain ⟨w, rfl⟩ := Option.isSome_iff_exists.mp h39
      refine x_aload_n F dX5_minute_50 rfl 1 rfl ?_
      refine x_iload_n F dX5_minute_51 rfl 2 rfl ?_
      refine z_callVv F [.int (nI j)] (c_X5_takesBest l D cy lo R ad q ns nt I2 J hR j w.length hj hv.1 ((way_len hB.1).2)) mc_X5_takesBest mv_X5_takesBest lk_X5_134 (hR 13 (by decide)) sc_13 rfl rfl rfl dX5_minute_52 ⟨Nat.le_of_ble_eq_true rfl, Nat.le_of_ble_eq_true rfl⟩ ⟨Nat.le_of_ble_eq_true rfl, Nat.le_of_ble_eq_true rfl⟩ (Nat.le_of_ble_eq_true rfl) ?_
      refine x_aload_n F dX5_minute_55 rfl 1 rfl ?_
      refine g_X5_63 F (hR 13 (by decide)) sc_13 rfl dX5_minute_56 ?_
      refine x_iload_n F dX5_minute_59 rfl 2 rfl ?_
      refine x_dup2 F dX5_minute_60 rfl rfl ?_
      refine y_iald F (hR 31 (by decide)) ss_31 (vp_in_nI hj (by decide)) dX5_minute_61 ?_
      refine x_cast (y := (wayI (wI I2 32 j (I2 13 23)) j w.length) 31 j) (by rw [nI_clamp (by omega)]) ?_
      refine x_iconst F (v := 1) dX5_minute_62 (by decide) ?_
      refine x_iadd F dX5_minute_63 ?_
      refine y_iast F (hR 31 (by decide)) ss_31 (vp_in_nI hj (by decide)) dX5_minute_64 ?_
      refine x_world (congrArg (fun z => k_c cy ad q ns nt z J) (show wI (wayI (wI I2 32 j (I2 13 23)) j w.length) 31 (nI j).toNatClampNeg (((wayI (wI I2 32 j (I2 13 23)) j w.length) 31 j) + 1) = wI (wayI (wI I2 32 j (I2 13 23)) j w.length) 31 j (((wayI (wI I2 32 j (I2 13 23)) j w.length) 31 j) + 1) by rw [nI_clamp (by omega)])) ?_
      refine x_world (congrArg (fun z => k_c cy ad q ns nt z J) (show wI (wayI (wI I2 32 j (I2 13 23)) j w.length) 31 j (((wayI (wI I2 32 j (I2 13 23)) j w.length) 31 j) + 1) = mMove I2 j w.length from rfl)) ?_
      refine x_sub [1, 2] rfl ?_
      exact t65 (mMove I2 j w.length) w.length (by rw [move_32]; exact hv.1) (way_len hB.1).1 (way_len hB.1).2 (fun k hk => by rw [move_33 hk]; exact way_car hB.1 hv hk) (by rw [move_o (by decide) (by decide) (by decide), hF 25 j (by decide) (by decide) (fun h => absurd h (by decide))]; exact hcal) (by rw [move_o (by decide) (by decide) (by decide), hF 28 j (by decide) (by decide) (fun h => absurd h (by decide))]; exact hst) (Or.inr ⟨h18, I2, some w, hF, hB, hv, Or.inr ⟨w, rfl, rfl, rfl⟩⟩)
    · rw [kb0] at h39
      have hv0 : v = none := Option.not_isSome_iff_eq_none.mp (by simp [h39])
      refine x_aload_n F dX5_minute_42 rfl 1 rfl ?_
      refine g_X5_51 F (hR 13 (by decide)) sc_13 rfl dX5_minute_43 ?_
      refine x_iload_n F dX5_minute_46 rfl 2 rfl ?_
      refine x_iconst F (v := 2) dX5_minute_47 (by decide) ?_
      refine y_iast F (hR 27 (by decide)) ss_27 (vp_in_nI hj (by decide)) dX5_minute_48 ?_
      refine x_world (congrArg (fun z => k_c cy ad q ns nt z J) (show wI I2 27 (nI j).toNatClampNeg 2 = wI I2 27 j 2 by rw [nI_clamp (by omega)])) ?_
      rw [hQ]
      exact x_vret F hr hlk ⟨_, _, rfl, Or.inr ⟨h18, I2, v, hF, hB, hv, Or.inl ⟨hv0, rfl, rfl⟩⟩⟩ dX5_minute_49
