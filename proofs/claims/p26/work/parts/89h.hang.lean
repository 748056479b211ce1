section LC
variable {D : va_G} {cy : Nat → ClassId} {lo : Nat} {p : Program} {l : Launch} {e : Env} {s : State} {m : MethodId} {args : Array Value} {below : List Frame} {meth : Method} {c : Code} {cells slots : Nat} {Q : State → Prop} {R : List Nat} {ad : Nat → Nat} {b : Nat} {q : Nat → Nat → Nat} {ns nt T : Nat} {I : Nat → Nat → Int32} {J : Nat → Nat → Int64}
set_option maxHeartbeats 4000000 in
set_option maxRecDepth 100000 in
/-- an act: hangUp -/
theorem law_hangUp (hfl : l.stackTraces = false) (F : k_F p m c cL_law 20 s RL D cy lo) (hRX : k_RX R ns nt) (h : SR q ns nt T I J I J) (hT : T ≤ 20000) (hT2 : 299 ≤ T) {turn f t : Nat} {xv yv kv : Int32} (hf : f < 5) (ht : t < 5) {x15 : Int32} (hc : cells + 400 ≤ 600104) (hs : slots + 2400 ≤ 7301314)
    (K : ∀ (R' : List Nat) (ad' : Nat → Nat) (q' : Nat → Nat → Nat) (ns' nt' : Nat) (I' : Nat → Nat → Int32) (J' : Nat → Nat → Int64), k_RX R' ns' nt' → (∀ y, y < 40 → ad' y = ad y) → ns ≤ ns' → SR q' ns' nt' (T + 200) I' J' I' J' → XW D lo p l e room_1 s m args below meth c 20 (cells + 400) (slots + 2400) Q R' ad' (k_c cy ad' q' ns' nt' I' J') 1344 (k_LV ad' b turn) []) :
    XW D lo p l e room_1 s m args below meth c 20 cells slots Q R ad (k_c cy ad q ns nt I J) 1023 ((15, .int x15) :: (14, .int (nI t)) :: (13, .int (nI f)) :: (12, .int kv) :: (11, .int yv) :: (10, .int xv) :: k_LV ad b turn) [] := by
  have hR := hRX.1.1
  have hL := hRX.1
  have hns := h.hns
  have hnt := h.hnt
  refine x_iload F dL_law_1023 4 rfl ?_
  refine x_bipush F (v := 7) dL_law_1025 (by decide) ?_
  refine z_callSi F [.int yv, .int 7] (c_L_low l D cy lo R ad _ yv 7 (by decide)) mc_L_low ms_L_low lk_L_103 rfl rfl dL_law_1027 ⟨Nat.le_of_ble_eq_true rfl, Nat.le_of_ble_eq_true rfl⟩ ⟨by (try dsimp only); show _ ≤ 600104; omega, by (try dsimp only); show _ ≤ 7301314; omega⟩ (Nat.le_of_ble_eq_true rfl) ?_
  obtain ⟨j1027, hj1027, ej1027⟩ := low_n yv (n := 7) (by omega) (by omega)
  rw [show lowI yv 7 = nI j1027 from ej1027]
  refine x_istore F [(16, .int (nI j1027)), (15, .int x15), (14, .int (nI t)), (13, .int (nI f)), (12, .int kv), (11, .int yv), (10, .int xv), (9, .int (nI turn)), (8, .ref (ad 18)), (7, .ref (ad 17)), (6, .ref (ad 16)), (5, .ref (ad 15)), (4, .ref (ad 14)), (3, .ref (ad 13)), (2, .ref (ad 12)), (1, .ref (ad 0)), (0, .ref b)] dL_law_1030 (by decide) rfl ?_
  refine x_iload F dL_law_1032 0 rfl ?_
  refine x_aload F dL_law_1034 8 rfl ?_
  refine x_iconst F (v := 1) dL_law_1036 (by decide) ?_
  refine y_iald F (hR 18 (by decide)) ss_18 (show vp_in (nI 1) 2 from vp_in_nI (by decide) (by decide)) dL_law_1037 ?_
  refine x_cast (y := I 18 1) (by rw [show (1 : Int32).toNatClampNeg = 1 from by decide]) ?_
  refine x_cast (y := nI nt) (h.g1) ?_
  refine x_icmp_ge F 1054 dL_law_1038 (by decide) (fun h1038 => ?_) (fun h1038 => ?_)
  · replace h1038 : nt ≤ j1027 := (nI_leI (a := nt) (b := j1027) (by omega) (by omega)).mp h1038
    refine x_aload_n F dL_law_1054 rfl 15 rfl ?_
    refine x_iconst F (v := 1) dL_law_1055 (by decide) ?_
    refine x_iload F dL_law_1056 0 rfl ?_
    refine x_iconst F (v := 0) dL_law_1058 (by decide) ?_
    refine x_callHi F [.ref (ad 0), .int 1, .int (nI j1027), .int 0] (c_rf_1 l D cy lo R ad q ns nt I J hR (nI j1027) 0 _ _ _ _ _ _ (c_X4_hangUp l D cy lo R ad q ns nt I J hL hfl (nI j1027)) (fun E u hx => by rcases hx with ⟨⟨e, -⟩ | ⟨e, -⟩, -⟩ <;> simp [e]) (fun v9 u hp => absurd hp.1.1 (by rw [isN_big2 (n := nt) (i := j1027) h1038 (by omega)]; decide))) mh_refused ms_L_refused lk_L_65 rfl rfl dL_law_1059 ⟨Nat.le_of_ble_eq_true rfl, Nat.le_of_ble_eq_true rfl⟩ ⟨by (try dsimp only); show _ ≤ 600104; omega, by (try dsimp only); show _ ≤ 7301314; omega⟩ (Nat.le_of_ble_eq_true rfl) (fun r9 u9 hp9 => ?_)
    obtain ⟨rfl, rfl⟩ : r9 = 1 ∧ u9 = (R, ad, k_c cy ad q ns nt I J) := by
      rcases hp9 with ⟨hx, rfl⟩ | ⟨hx, rfl⟩ | ⟨hx, rfl⟩
      · exact ⟨rfl, hx.2⟩
      · rcases hx.1 with ⟨g, -⟩ | ⟨g, -⟩ <;> exact absurd g (by decide)
      · rcases hx.1 with ⟨g, -⟩ | ⟨-, g, -⟩
        · exact absurd g (by decide)
        · exact absurd g (by rw [isN_big2 (n := nt) (i := j1027) h1038 (by omega)]; decide)
    dsimp only
    refine x_iload F dL_law_1062 0 rfl ?_
    refine x_aload F dL_law_1064 8 rfl ?_
    refine x_iconst F (v := 1) dL_law_1066 (by decide) ?_
    refine y_iald F (hR 18 (by decide)) ss_18 (show vp_in (nI 1) 2 from vp_in_nI (by decide) (by decide)) dL_law_1067 ?_
    refine x_cast (y := I 18 1) (by rw [show (1 : Int32).toNatClampNeg = 1 from by decide]) ?_
    refine x_cast (y := nI nt) (h.g1) ?_
    refine x_icmp_lt F 1075 dL_law_1068 (by decide) (fun h1068 => ?_) (fun h1068 => ?_)
    · exact absurd ((nI_ltI (a := j1027) (b := nt) (by omega) (by omega)).mp h1068) (by omega)
    · replace h1068 : ¬ j1027 < nt := fun z => h1068 ((nI_ltI (a := j1027) (b := nt) (by omega) (by omega)).mpr z)
      refine x_iconst F (v := 1) dL_law_1071 (by decide) ?_
      refine x_goto F 1076 dL_law_1072 (by decide) ?_
      refine x_icmp_eq F 1344 dL_law_1076 (by decide) (fun h1076 => ?_) (fun h1076 => ?_)
      · refine x_sub [7, 8, 9, 10, 11, 12, 13, 14, 15, 16] rfl ?_
        refine x_widen (k := cells + 400) (n := slots + 2400) (by (try dsimp only); omega) (by (try dsimp only); omega) ?_
        exact K R ad q ns nt _ _ hRX (fun _ _ => rfl) (Nat.le_refl _) ((h.up (by omega)))
      · exact False.elim (by revert h1076; decide)
  · replace h1038 : ¬ nt ≤ j1027 := fun z => h1038 ((nI_leI (a := nt) (b := j1027) (by omega) (by omega)).mpr z)
    refine x_aload F dL_law_1041 9 rfl ?_
    refine x_bipush F (v := 8) dL_law_1043 (by decide) ?_
    refine x_iload F dL_law_1045 0 rfl ?_
    refine x_imul F dL_law_1047 ?_
    refine x_cast (y := nI (8 * j1027)) (pk_mul 8 j1027) ?_
    refine x_iconst F (v := 2) dL_law_1048 (by decide) ?_
    refine x_iadd F dL_law_1049 ?_
    refine x_cast (y := nI (8 * j1027 + 2)) (nI_add (8 * j1027) 2) ?_
    refine y_iald F (hR 17 (by decide)) ss_17 (vp_in_nI (n := 8 * j1027 + 2) (N := 56) (by omega) (by decide)) dL_law_1050 ?_
    refine x_cast (y := I 17 (8 * j1027 + 2)) (by rw [nI_clamp (n := 8 * j1027 + 2) (by omega)]) ?_
    refine x_if_eq F 1081 dL_law_1051 (by decide) (fun h1051 => ?_) (fun h1051 => ?_)
    · refine x_aload F dL_law_1081 9 rfl ?_
      refine x_bipush F (v := 8) dL_law_1083 (by decide) ?_
      refine x_iload F dL_law_1085 0 rfl ?_
      refine x_imul F dL_law_1087 ?_
      refine x_cast (y := nI (8 * j1027)) (pk_mul 8 j1027) ?_
      refine x_iconst F (v := 2) dL_law_1088 (by decide) ?_
      refine x_iadd F dL_law_1089 ?_
      refine x_cast (y := nI (8 * j1027 + 2)) (nI_add (8 * j1027) 2) ?_
      refine x_iconst F (v := 1) dL_law_1090 (by decide) ?_
      refine y_iast F (hR 17 (by decide)) ss_17 (vp_in_nI (n := 8 * j1027 + 2) (N := 56) (by omega) (by decide)) dL_law_1091 ?_
      refine x_world (congrArg (fun z => k_c cy ad q ns nt z J) (show wI I 17 ((nI (8 * j1027 + 2)).toNatClampNeg) 1 = wI I 17 (8 * j1027 + 2) 1 by rw [nI_clamp (n := 8 * j1027 + 2) (by omega)])) ?_
      refine x_aload_n F dL_law_1092 rfl 15 rfl ?_
      refine x_iload F dL_law_1093 0 rfl ?_
      refine z_callVix F [.int (nI j1027)] (c_X4_hangUp l D cy lo R ad q ns nt (wI I 17 (8 * j1027 + 2) 1) J hL hfl (nI j1027)) mc_X4_hangUp mv_X4_hangUp lk_L_31 (hR 0 (by decide)) sc_0 rfl rfl rfl dL_law_1095 ⟨Nat.le_of_ble_eq_true rfl, Nat.le_of_ble_eq_true rfl⟩ ⟨by (try dsimp only); show _ ≤ 600104; omega, by (try dsimp only); show _ ≤ 7301314; omega⟩ (Nat.le_of_ble_eq_true rfl) (fun E hE => absurd hE (fun g => g.elim (fun g => absurd g.2 (by rw [isN_ok (n := nt) (i := j1027) (by omega) (by omega)]; decide)) (fun g => absurd (by rw [nI_clamp (by omega)]; simp (disch := omega) only [wI_row]; rw [← (h.cal j1027 (by omega)).2.2.2.1]; exact h1051) g.2.2))) (fun ok1095 => ?_)
      refine x_cast (y := I 17 (8 * j1027 + 5)) (by rw [nI_clamp (by omega)]; simp (disch := omega) only [wI_row]; exact (h.cal j1027 (by omega)).2.2.2.2.2.2.1.symm) ?_
      refine x_aload F dL_law_1098 9 rfl ?_
      refine x_bipush F (v := 8) dL_law_1100 (by decide) ?_
      refine x_iload F dL_law_1102 0 rfl ?_
      refine x_imul F dL_law_1104 ?_
      refine x_cast (y := nI (8 * j1027)) (pk_mul 8 j1027) ?_
      refine x_iconst F (v := 5) dL_law_1105 (by decide) ?_
      refine x_iadd F dL_law_1106 ?_
      refine x_cast (y := nI (8 * j1027 + 5)) (nI_add (8 * j1027) 5) ?_
      refine y_iald F (hR 17 (by decide)) ss_17 (vp_in_nI (n := 8 * j1027 + 5) (N := 56) (by omega) (by decide)) dL_law_1107 ?_
      refine x_cast (y := (wI (wI I 17 (8 * j1027 + 2) 1) (80 + 4 * (nI j1027).toNatClampNeg) 6 1) 17 (8 * j1027 + 5)) (by rw [nI_clamp (n := 8 * j1027 + 5) (by omega)]) ?_
      refine x_cast (y := I 17 (8 * j1027 + 5)) (by rw [nI_clamp (by omega)]; simp (disch := omega) only [wI_row, wI_off]) ?_
      refine x_icmp_eq F 1113 dL_law_1108 (by decide) (fun h1108 => ?_) (fun h1108 => ?_)
      · refine x_goto F 1323 dL_law_1113 (by decide) ?_
        refine x_sub [3, 7, 8, 9, 10, 11, 12, 13, 14, 15, 16] rfl ?_
        refine x_widen (k := cells + 106) (n := slots + 636) (by (try dsimp only); omega) (by (try dsimp only); omega) ?_
        refine law_tail hfl F hRX.1 (T := T + 200) (J := J) ((hang_sr h (i := j1027) (by omega)).up (by omega)) hf (by omega) (by omega) (fun I2 hS2 => ?_)
        exact K R ad q ns nt I2 _ hRX (fun _ _ => rfl) (Nat.le_refl _) hS2
      · exact (h1108 rfl).elim
    · refine x_aload_n F dL_law_1054 rfl 15 rfl ?_
      refine x_iconst F (v := 1) dL_law_1055 (by decide) ?_
      refine x_iload F dL_law_1056 0 rfl ?_
      refine x_iconst F (v := 0) dL_law_1058 (by decide) ?_
      refine x_callHi F [.ref (ad 0), .int 1, .int (nI j1027), .int 0] (c_rf_1 l D cy lo R ad q ns nt I J hR (nI j1027) 0 _ _ _ _ _ _ (c_X4_hangUp l D cy lo R ad q ns nt I J hL hfl (nI j1027)) (fun E u hx => by rcases hx with ⟨⟨e, -⟩ | ⟨e, -⟩, -⟩ <;> simp [e]) (fun v9 u hp => absurd (by rw [← hp.1.2, nI_clamp (by omega)]; exact (h.cal j1027 (by omega)).2.2.2.1) h1051)) mh_refused ms_L_refused lk_L_65 rfl rfl dL_law_1059 ⟨Nat.le_of_ble_eq_true rfl, Nat.le_of_ble_eq_true rfl⟩ ⟨by (try dsimp only); show _ ≤ 600104; omega, by (try dsimp only); show _ ≤ 7301314; omega⟩ (Nat.le_of_ble_eq_true rfl) (fun r9 u9 hp9 => ?_)
      obtain ⟨rfl, rfl⟩ : r9 = 3 ∧ u9 = (R, ad, k_c cy ad q ns nt I J) := by
        rcases hp9 with ⟨hx, rfl⟩ | ⟨hx, rfl⟩ | ⟨hx, rfl⟩
        · rcases hx.1 with ⟨-, g⟩ | ⟨g, -⟩
          · exact absurd g (by rw [isN_ok (n := nt) (i := j1027) (by omega) (by omega)]; decide)
          · exact absurd g (by decide)
        · rcases hx.1 with ⟨g, -⟩ | ⟨g, -⟩ <;> exact absurd g (by decide)
        · exact ⟨rfl, hx.2⟩
      dsimp only
      refine x_iload F dL_law_1062 0 rfl ?_
      refine x_aload F dL_law_1064 8 rfl ?_
      refine x_iconst F (v := 1) dL_law_1066 (by decide) ?_
      refine y_iald F (hR 18 (by decide)) ss_18 (show vp_in (nI 1) 2 from vp_in_nI (by decide) (by decide)) dL_law_1067 ?_
      refine x_cast (y := I 18 1) (by rw [show (1 : Int32).toNatClampNeg = 1 from by decide]) ?_
      refine x_cast (y := nI nt) (h.g1) ?_
      refine x_icmp_lt F 1075 dL_law_1068 (by decide) (fun h1068 => ?_) (fun h1068 => ?_)
      · replace h1068 : j1027 < nt := (nI_ltI (a := j1027) (b := nt) (by omega) (by omega)).mp h1068
        refine x_iconst F (v := 3) dL_law_1075 (by decide) ?_
        refine x_icmp_eq F 1344 dL_law_1076 (by decide) (fun h1076 => ?_) (fun h1076 => ?_)
        · refine x_sub [7, 8, 9, 10, 11, 12, 13, 14, 15, 16] rfl ?_
          refine x_widen (k := cells + 400) (n := slots + 2400) (by (try dsimp only); omega) (by (try dsimp only); omega) ?_
          exact K R ad q ns nt _ _ hRX (fun _ _ => rfl) (Nat.le_refl _) ((h.up (by omega)))
        · exact False.elim (by revert h1076; decide)
      · exact absurd ((nI_ltI (a := j1027) (b := nt) (by omega) (by omega)).mpr (by omega)) h1068
end LC
