section LC
variable {D : va_G} {cy : Nat → ClassId} {lo : Nat} {p : Program} {l : Launch} {e : Env} {s : State} {m : MethodId} {args : Array Value} {below : List Frame} {meth : Method} {c : Code} {cells slots : Nat} {Q : State → Prop} {R : List Nat} {ad : Nat → Nat} {b : Nat} {q : Nat → Nat → Nat} {ns nt T : Nat} {I : Nat → Nat → Int32} {J : Nat → Nat → Int64}
theorem was_0 (h : SR q ns nt T I J I J) {k : Nat} (hk : k < 25) (g : I 12 (2 * k) < 0) : I 8 k = -1 := by
  rcases h.lnk k hk with ⟨n, hn, h1, h2, h3⟩ | ⟨h1, h2⟩
  · rw [h1] at g
    exact absurd g (nI_pos (by omega))
  · exact h2
theorem was_1 (h : SR q ns nt T I J I J) {k : Nat} (hk : k < 25) (g : ¬ I 12 (2 * k) < 0) : I 8 k = I 12 (2 * k) ∧ ¬ I 12 (2 * k) = -1 := by
  rcases h.lnk k hk with ⟨n, hn, h1, h2, h3⟩ | ⟨h1, h2⟩
  · rw [h1, h2]
    exact ⟨rfl, nI_m1ne (by omega)⟩
  · rw [h1] at g
    exact absurd (by decide) g
theorem link_rg {f t a b : Nat} (hf : f < 5) (ht : t < 5) (hft : f ≠ t) (ha : a ≤ 100) (hb : b ≤ 100000) : (!decide (nI f = nI t) && isWi (nI a) 0 100 && isWi (nI b) 0 100000) = true := by
  have h1 : decide (nI f = nI t) = false := decide_eq_false_iff_not.mpr (fun hc => hft ((nI_eq (by omega) (by omega)).mp hc))
  have h2 : isWi (nI a) 0 100 = true := isWi_n (a := 0) (b := 100) (by omega) ha (by omega)
  have h3 : isWi (nI b) 0 100000 = true := isWi_n (a := 0) (b := 100000) (by omega) hb (by omega)
  rw [h1, h2, h3]
  rfl
set_option maxHeartbeats 4000000 in
set_option maxRecDepth 100000 in
/-- an act: link -/
theorem law_link (hfl : l.stackTraces = false) (F : k_F p m c cL_law 20 s RL D cy lo) (hRX : k_RX R ns nt) (h : SR q ns nt T I J I J) (hT : T ≤ 20000) (hT2 : 299 ≤ T) {turn f t : Nat} {xv yv kv : Int32} (hf : f < 5) (ht : t < 5) {x15 : Int32} (hc : cells + 400 ≤ 600104) (hs : slots + 2400 ≤ 7301314)
    (K : ∀ (R' : List Nat) (ad' : Nat → Nat) (q' : Nat → Nat → Nat) (ns' nt' : Nat) (I' : Nat → Nat → Int32) (J' : Nat → Nat → Int64), k_RX R' ns' nt' → (∀ y, y < 40 → ad' y = ad y) → ns ≤ ns' → SR q' ns' nt' (T + 200) I' J' I' J' → XW D lo p l e room_1 s m args below meth c 20 (cells + 400) (slots + 2400) Q R' ad' (k_c cy ad' q' ns' nt' I' J') 1344 (k_LV ad' b turn) []) :
    XW D lo p l e room_1 s m args below meth c 20 cells slots Q R ad (k_c cy ad q ns nt I J) 320 ((15, .int x15) :: (14, .int (nI t)) :: (13, .int (nI f)) :: (12, .int kv) :: (11, .int yv) :: (10, .int xv) :: k_LV ad b turn) [] := by
  have hR := hRX.1.1
  have hL := hRX.1
  have hns := h.hns
  have hnt := h.hnt
  refine x_iconst F (v := 2) dL_law_320 (by decide) ?_
  refine x_iconst F (v := 5) dL_law_321 (by decide) ?_
  refine x_iload F dL_law_322 2 rfl ?_
  refine x_imul F dL_law_324 ?_
  refine x_cast (y := nI (5 * f)) (pk_mul 5 f) ?_
  refine x_iload F dL_law_325 1 rfl ?_
  refine x_iadd F dL_law_327 ?_
  refine x_cast (y := nI (5 * f + t)) (nI_add (5 * f) t) ?_
  refine x_imul F dL_law_328 ?_
  refine x_cast (y := nI (2 * (5 * f + t))) (pk_mul 2 (5 * f + t)) ?_
  refine x_istore F [(16, .int (nI (2 * (5 * f + t)))), (15, .int x15), (14, .int (nI t)), (13, .int (nI f)), (12, .int kv), (11, .int yv), (10, .int xv), (9, .int (nI turn)), (8, .ref (ad 18)), (7, .ref (ad 17)), (6, .ref (ad 16)), (5, .ref (ad 15)), (4, .ref (ad 14)), (3, .ref (ad 13)), (2, .ref (ad 12)), (1, .ref (ad 0)), (0, .ref b)] dL_law_329 (by decide) rfl ?_
  refine x_iload F dL_law_331 3 rfl ?_
  refine x_iload F dL_law_333 2 rfl ?_
  refine x_icmp_ne F 341 dL_law_335 (by decide) (fun h335 => ?_) (fun h335 => ?_)
  · replace h335 : ¬ f = t := fun z => h335 ((nI_eq (a := f) (b := t) (by omega) (by omega)).mpr z)
    refine x_aload_n F dL_law_341 rfl 14 rfl ?_
    refine x_iload F dL_law_342 0 rfl ?_
    refine y_iald F (hR 12 (by decide)) ss_12 (vp_in_nI (n := 2 * (5 * f + t)) (N := 50) (by omega) (by decide)) dL_law_344 ?_
    refine x_cast (y := I 12 (2 * (5 * f + t))) (by rw [nI_clamp (by omega)]) ?_
    refine x_if_lt F 352 dL_law_345 (by decide) (fun h345 => ?_) (fun h345 => ?_)
    · refine x_iconst F (v := 0) dL_law_352 (by decide) ?_
      refine x_istore F [(17, .int 0), (16, .int (nI (2 * (5 * f + t)))), (15, .int x15), (14, .int (nI t)), (13, .int (nI f)), (12, .int kv), (11, .int yv), (10, .int xv), (9, .int (nI turn)), (8, .ref (ad 18)), (7, .ref (ad 17)), (6, .ref (ad 16)), (5, .ref (ad 15)), (4, .ref (ad 14)), (3, .ref (ad 13)), (2, .ref (ad 12)), (1, .ref (ad 0)), (0, .ref b)] dL_law_353 (by decide) rfl ?_
      refine x_aload_n F dL_law_355 rfl 15 rfl ?_
      refine x_iload F dL_law_356 1 rfl ?_
      refine x_iload F dL_law_358 6 rfl ?_
      refine x_bipush F (v := 12) dL_law_360 (by decide) ?_
      refine z_callSi F [.int yv, .int 12] (c_L_low l D cy lo R ad _ yv 12 (by decide)) mc_L_low ms_L_low lk_L_103 rfl rfl dL_law_362 ⟨Nat.le_of_ble_eq_true rfl, Nat.le_of_ble_eq_true rfl⟩ ⟨by (try dsimp only); show _ ≤ 600104; omega, by (try dsimp only); show _ ≤ 7301314; omega⟩ (Nat.le_of_ble_eq_true rfl) ?_
      obtain ⟨j362, hj362, ej362⟩ := low_n yv (n := 12) (by omega) (by omega)
      rw [show lowI yv 12 = nI j362 from ej362]
      refine y_iast F (hR 12 (by decide)) ss_12 (vp_in_nI (n := 2 * (5 * f + t)) (N := 50) (by omega) (by decide)) dL_law_365 ?_
      refine x_world (congrArg (fun z => k_c cy ad q ns nt z J) (show wI I 12 ((nI (2 * (5 * f + t))).toNatClampNeg) (nI j362) = wI I 12 (2 * (5 * f + t)) (nI j362) by rw [nI_clamp (by omega)])) ?_
      refine x_aload_n F dL_law_366 rfl 15 rfl ?_
      refine x_iload F dL_law_367 1 rfl ?_
      refine x_iconst F (v := 1) dL_law_369 (by decide) ?_
      refine x_iadd F dL_law_370 ?_
      refine x_cast (y := nI (2 * (5 * f + t) + 1)) (nI_add (2 * (5 * f + t)) 1) ?_
      refine x_iload F dL_law_371 6 rfl ?_
      refine x_iconst F (v := 4) dL_law_373 (by decide) ?_
      refine x_ishr F dL_law_374 ?_
      refine x_iload F dL_law_375 7 rfl ?_
      refine x_bipush F (v := 11) dL_law_377 (by decide) ?_
      refine x_ishr F dL_law_379 ?_
      refine x_iconst F (v := 3) dL_law_380 (by decide) ?_
      refine z_callSi F [.int (xv >>> (11 &&& 31)), .int 3] (c_L_low l D cy lo R ad _ (xv >>> (11 &&& 31)) 3 (by decide)) mc_L_low ms_L_low lk_L_103 rfl rfl dL_law_381 ⟨Nat.le_of_ble_eq_true rfl, Nat.le_of_ble_eq_true rfl⟩ ⟨by (try dsimp only); show _ ≤ 600104; omega, by (try dsimp only); show _ ≤ 7301314; omega⟩ (Nat.le_of_ble_eq_true rfl) ?_
      obtain ⟨j381, hj381, ej381⟩ := low_n (xv >>> (11 &&& 31)) (n := 3) (by omega) (by omega)
      rw [show lowI (xv >>> (11 &&& 31)) 3 = nI j381 from ej381]
      refine x_if_ne F 392 dL_law_384 (by decide) (fun h384 => ?_) (fun h384 => ?_)
      · replace h384 : ¬ j381 = 0 := fun z => h384 ((nI_eq (a := j381) (b := 0) (by omega) (by omega)).mpr z)
        refine x_sipush F (v := 150) dL_law_392 (by decide) ?_
        refine z_callSi F [.int (yv >>> (4 &&& 31)), .int 150] (c_L_low l D cy lo R ad _ (yv >>> (4 &&& 31)) 150 (by decide)) mc_L_low ms_L_low lk_L_103 rfl rfl dL_law_395 ⟨Nat.le_of_ble_eq_true rfl, Nat.le_of_ble_eq_true rfl⟩ ⟨by (try dsimp only); show _ ≤ 600104; omega, by (try dsimp only); show _ ≤ 7301314; omega⟩ (Nat.le_of_ble_eq_true rfl) ?_
        obtain ⟨j395, hj395, ej395⟩ := low_n (yv >>> (4 &&& 31)) (n := 150) (by omega) (by omega)
        rw [show lowI (yv >>> (4 &&& 31)) 150 = nI j395 from ej395]
        refine y_iast F (hR 12 (by decide)) ss_12 (vp_in_nI (n := 2 * (5 * f + t) + 1) (N := 50) (by omega) (by decide)) dL_law_398 ?_
        refine x_world (congrArg (fun z => k_c cy ad q ns nt z J) (show wI (wI I 12 (2 * (5 * f + t)) (nI j362)) 12 ((nI (2 * (5 * f + t) + 1)).toNatClampNeg) (nI j395) = wI (wI I 12 (2 * (5 * f + t)) (nI j362)) 12 (2 * (5 * f + t) + 1) (nI j395) by rw [nI_clamp (by omega)])) ?_
        refine x_aload_n F dL_law_399 rfl 16 rfl ?_
        refine x_iload F dL_law_400 4 rfl ?_
        refine x_iload F dL_law_402 3 rfl ?_
        refine x_aload_n F dL_law_404 rfl 15 rfl ?_
        refine x_iload F dL_law_405 1 rfl ?_
        refine y_iald F (hR 12 (by decide)) ss_12 (vp_in_nI (n := 2 * (5 * f + t)) (N := 50) (by omega) (by decide)) dL_law_407 ?_
        refine x_cast (y := (wI (wI I 12 (2 * (5 * f + t)) (nI j362)) 12 (2 * (5 * f + t) + 1) (nI j395)) 12 (2 * (5 * f + t))) (by rw [nI_clamp (by omega)]) ?_
        refine x_cast (y := nI j362) (by simp (disch := omega) only [wI_row, wI_off, wI_at]) ?_
        refine x_aload_n F dL_law_408 rfl 15 rfl ?_
        refine x_iload F dL_law_409 1 rfl ?_
        refine x_iconst F (v := 1) dL_law_411 (by decide) ?_
        refine x_iadd F dL_law_412 ?_
        refine x_cast (y := nI (2 * (5 * f + t) + 1)) (nI_add (2 * (5 * f + t)) 1) ?_
        refine y_iald F (hR 12 (by decide)) ss_12 (vp_in_nI (n := 2 * (5 * f + t) + 1) (N := 50) (by omega) (by decide)) dL_law_413 ?_
        refine x_cast (y := (wI (wI I 12 (2 * (5 * f + t)) (nI j362)) 12 (2 * (5 * f + t) + 1) (nI j395)) 12 (2 * (5 * f + t) + 1)) (by rw [nI_clamp (by omega)]) ?_
        refine x_cast (y := (nI j395)) (by first | rfl | simp [wI_eq]) ?_
        refine x_cast (y := nI j395) (by simp (disch := omega) only [wI_row, wI_off, wI_at]) ?_
        refine z_callVix F [.int (nI f), .int (nI t), .int (nI j362), .int (nI j395)] (c_X4_link l D cy lo R ad q ns nt (wI (wI I 12 (2 * (5 * f + t)) (nI j362)) 12 (2 * (5 * f + t) + 1) (nI j395)) J hL hfl (nI f) (nI t) (nI j362) (nI j395)) mc_X4_link mv_X4_link lk_L_110 (hR 0 (by decide)) sc_0 rfl rfl rfl dL_law_414 ⟨Nat.le_of_ble_eq_true rfl, Nat.le_of_ble_eq_true rfl⟩ ⟨by (try dsimp only); show _ ≤ 600104; omega, by (try dsimp only); show _ ≤ 7301314; omega⟩ (Nat.le_of_ble_eq_true rfl) (fun E hE => absurd hE (fun g => g.elim (fun g => absurd g.2 (by rw [car_2 hf ht]; decide)) (fun g => absurd g.2.2 (by rw [link_rg hf ht h335 (by omega) (by omega)]; decide)))) (fun ok414 => ?_)
        refine x_cast (y := 0) (by rw [rate_c hf ht]; simp (disch := omega) only [wI_row]; rw [was_0 h (by omega) h345]; decide) ?_
        refine x_iload F dL_law_417 0 rfl ?_
        refine x_icmp_eq F 424 dL_law_419 (by decide) (fun h419 => ?_) (fun h419 => ?_)
        · refine x_goto F 1323 dL_law_424 (by decide) ?_
          refine x_sub [4, 8, 9, 10, 11, 12, 13, 14, 15, 16, 17] rfl ?_
          refine x_widen (k := cells + 106) (n := slots + 636) (by (try dsimp only); omega) (by (try dsimp only); omega) ?_
          refine law_tail hfl F hRX.1 (T := T + 200) (J := J) ((link_sr h hf ht (by omega)).up (by omega)) hf (by omega) (by omega) (fun I2 hS2 => ?_)
          exact K R ad q ns nt I2 _ hRX (fun _ _ => rfl) (Nat.le_refl _) hS2
        · exact False.elim (by revert h419; decide)
      · replace h384 : j381 = 0 := (nI_eq (a := j381) (b := 0) (by omega) (by omega)).mp h384
        refine x_ldc F (v := 100001) dL_law_387 549 (by decide +kernel) ?_
        refine x_goto F 395 dL_law_389 (by decide) ?_
        refine z_callSi F [.int (yv >>> (4 &&& 31)), .int 100001] (c_L_low l D cy lo R ad _ (yv >>> (4 &&& 31)) 100001 (by decide)) mc_L_low ms_L_low lk_L_103 rfl rfl dL_law_395 ⟨Nat.le_of_ble_eq_true rfl, Nat.le_of_ble_eq_true rfl⟩ ⟨by (try dsimp only); show _ ≤ 600104; omega, by (try dsimp only); show _ ≤ 7301314; omega⟩ (Nat.le_of_ble_eq_true rfl) ?_
        obtain ⟨j395, hj395, ej395⟩ := low_n (yv >>> (4 &&& 31)) (n := 100001) (by omega) (by omega)
        rw [show lowI (yv >>> (4 &&& 31)) 100001 = nI j395 from ej395]
        refine y_iast F (hR 12 (by decide)) ss_12 (vp_in_nI (n := 2 * (5 * f + t) + 1) (N := 50) (by omega) (by decide)) dL_law_398 ?_
        refine x_world (congrArg (fun z => k_c cy ad q ns nt z J) (show wI (wI I 12 (2 * (5 * f + t)) (nI j362)) 12 ((nI (2 * (5 * f + t) + 1)).toNatClampNeg) (nI j395) = wI (wI I 12 (2 * (5 * f + t)) (nI j362)) 12 (2 * (5 * f + t) + 1) (nI j395) by rw [nI_clamp (by omega)])) ?_
        refine x_aload_n F dL_law_399 rfl 16 rfl ?_
        refine x_iload F dL_law_400 4 rfl ?_
        refine x_iload F dL_law_402 3 rfl ?_
        refine x_aload_n F dL_law_404 rfl 15 rfl ?_
        refine x_iload F dL_law_405 1 rfl ?_
        refine y_iald F (hR 12 (by decide)) ss_12 (vp_in_nI (n := 2 * (5 * f + t)) (N := 50) (by omega) (by decide)) dL_law_407 ?_
        refine x_cast (y := (wI (wI I 12 (2 * (5 * f + t)) (nI j362)) 12 (2 * (5 * f + t) + 1) (nI j395)) 12 (2 * (5 * f + t))) (by rw [nI_clamp (by omega)]) ?_
        refine x_cast (y := nI j362) (by simp (disch := omega) only [wI_row, wI_off, wI_at]) ?_
        refine x_aload_n F dL_law_408 rfl 15 rfl ?_
        refine x_iload F dL_law_409 1 rfl ?_
        refine x_iconst F (v := 1) dL_law_411 (by decide) ?_
        refine x_iadd F dL_law_412 ?_
        refine x_cast (y := nI (2 * (5 * f + t) + 1)) (nI_add (2 * (5 * f + t)) 1) ?_
        refine y_iald F (hR 12 (by decide)) ss_12 (vp_in_nI (n := 2 * (5 * f + t) + 1) (N := 50) (by omega) (by decide)) dL_law_413 ?_
        refine x_cast (y := (wI (wI I 12 (2 * (5 * f + t)) (nI j362)) 12 (2 * (5 * f + t) + 1) (nI j395)) 12 (2 * (5 * f + t) + 1)) (by rw [nI_clamp (by omega)]) ?_
        refine x_cast (y := (nI j395)) (by first | rfl | simp [wI_eq]) ?_
        refine x_cast (y := nI j395) (by simp (disch := omega) only [wI_row, wI_off, wI_at]) ?_
        refine z_callVix F [.int (nI f), .int (nI t), .int (nI j362), .int (nI j395)] (c_X4_link l D cy lo R ad q ns nt (wI (wI I 12 (2 * (5 * f + t)) (nI j362)) 12 (2 * (5 * f + t) + 1) (nI j395)) J hL hfl (nI f) (nI t) (nI j362) (nI j395)) mc_X4_link mv_X4_link lk_L_110 (hR 0 (by decide)) sc_0 rfl rfl rfl dL_law_414 ⟨Nat.le_of_ble_eq_true rfl, Nat.le_of_ble_eq_true rfl⟩ ⟨by (try dsimp only); show _ ≤ 600104; omega, by (try dsimp only); show _ ≤ 7301314; omega⟩ (Nat.le_of_ble_eq_true rfl) (fun E hE => absurd hE (fun g => g.elim (fun g => absurd g.2 (by rw [car_2 hf ht]; decide)) (fun g => absurd g.2.2 (by rw [link_rg hf ht h335 (by omega) (by omega)]; decide)))) (fun ok414 => ?_)
        refine x_cast (y := 0) (by rw [rate_c hf ht]; simp (disch := omega) only [wI_row]; rw [was_0 h (by omega) h345]; decide) ?_
        refine x_iload F dL_law_417 0 rfl ?_
        refine x_icmp_eq F 424 dL_law_419 (by decide) (fun h419 => ?_) (fun h419 => ?_)
        · refine x_goto F 1323 dL_law_424 (by decide) ?_
          refine x_sub [4, 8, 9, 10, 11, 12, 13, 14, 15, 16, 17] rfl ?_
          refine x_widen (k := cells + 106) (n := slots + 636) (by (try dsimp only); omega) (by (try dsimp only); omega) ?_
          refine law_tail hfl F hRX.1 (T := T + 200) (J := J) ((link_sr h hf ht (by omega)).up (by omega)) hf (by omega) (by omega) (fun I2 hS2 => ?_)
          exact K R ad q ns nt I2 _ hRX (fun _ _ => rfl) (Nat.le_refl _) hS2
        · exact False.elim (by revert h419; decide)
    · refine x_iconst F (v := 1) dL_law_348 (by decide) ?_
      refine x_goto F 353 dL_law_349 (by decide) ?_
      refine x_istore F [(17, .int 1), (16, .int (nI (2 * (5 * f + t)))), (15, .int x15), (14, .int (nI t)), (13, .int (nI f)), (12, .int kv), (11, .int yv), (10, .int xv), (9, .int (nI turn)), (8, .ref (ad 18)), (7, .ref (ad 17)), (6, .ref (ad 16)), (5, .ref (ad 15)), (4, .ref (ad 14)), (3, .ref (ad 13)), (2, .ref (ad 12)), (1, .ref (ad 0)), (0, .ref b)] dL_law_353 (by decide) rfl ?_
      refine x_aload_n F dL_law_355 rfl 15 rfl ?_
      refine x_iload F dL_law_356 1 rfl ?_
      refine x_iload F dL_law_358 6 rfl ?_
      refine x_bipush F (v := 12) dL_law_360 (by decide) ?_
      refine z_callSi F [.int yv, .int 12] (c_L_low l D cy lo R ad _ yv 12 (by decide)) mc_L_low ms_L_low lk_L_103 rfl rfl dL_law_362 ⟨Nat.le_of_ble_eq_true rfl, Nat.le_of_ble_eq_true rfl⟩ ⟨by (try dsimp only); show _ ≤ 600104; omega, by (try dsimp only); show _ ≤ 7301314; omega⟩ (Nat.le_of_ble_eq_true rfl) ?_
      obtain ⟨j362, hj362, ej362⟩ := low_n yv (n := 12) (by omega) (by omega)
      rw [show lowI yv 12 = nI j362 from ej362]
      refine y_iast F (hR 12 (by decide)) ss_12 (vp_in_nI (n := 2 * (5 * f + t)) (N := 50) (by omega) (by decide)) dL_law_365 ?_
      refine x_world (congrArg (fun z => k_c cy ad q ns nt z J) (show wI I 12 ((nI (2 * (5 * f + t))).toNatClampNeg) (nI j362) = wI I 12 (2 * (5 * f + t)) (nI j362) by rw [nI_clamp (by omega)])) ?_
      refine x_aload_n F dL_law_366 rfl 15 rfl ?_
      refine x_iload F dL_law_367 1 rfl ?_
      refine x_iconst F (v := 1) dL_law_369 (by decide) ?_
      refine x_iadd F dL_law_370 ?_
      refine x_cast (y := nI (2 * (5 * f + t) + 1)) (nI_add (2 * (5 * f + t)) 1) ?_
      refine x_iload F dL_law_371 6 rfl ?_
      refine x_iconst F (v := 4) dL_law_373 (by decide) ?_
      refine x_ishr F dL_law_374 ?_
      refine x_iload F dL_law_375 7 rfl ?_
      refine x_bipush F (v := 11) dL_law_377 (by decide) ?_
      refine x_ishr F dL_law_379 ?_
      refine x_iconst F (v := 3) dL_law_380 (by decide) ?_
      refine z_callSi F [.int (xv >>> (11 &&& 31)), .int 3] (c_L_low l D cy lo R ad _ (xv >>> (11 &&& 31)) 3 (by decide)) mc_L_low ms_L_low lk_L_103 rfl rfl dL_law_381 ⟨Nat.le_of_ble_eq_true rfl, Nat.le_of_ble_eq_true rfl⟩ ⟨by (try dsimp only); show _ ≤ 600104; omega, by (try dsimp only); show _ ≤ 7301314; omega⟩ (Nat.le_of_ble_eq_true rfl) ?_
      obtain ⟨j381, hj381, ej381⟩ := low_n (xv >>> (11 &&& 31)) (n := 3) (by omega) (by omega)
      rw [show lowI (xv >>> (11 &&& 31)) 3 = nI j381 from ej381]
      refine x_if_ne F 392 dL_law_384 (by decide) (fun h384 => ?_) (fun h384 => ?_)
      · replace h384 : ¬ j381 = 0 := fun z => h384 ((nI_eq (a := j381) (b := 0) (by omega) (by omega)).mpr z)
        refine x_sipush F (v := 150) dL_law_392 (by decide) ?_
        refine z_callSi F [.int (yv >>> (4 &&& 31)), .int 150] (c_L_low l D cy lo R ad _ (yv >>> (4 &&& 31)) 150 (by decide)) mc_L_low ms_L_low lk_L_103 rfl rfl dL_law_395 ⟨Nat.le_of_ble_eq_true rfl, Nat.le_of_ble_eq_true rfl⟩ ⟨by (try dsimp only); show _ ≤ 600104; omega, by (try dsimp only); show _ ≤ 7301314; omega⟩ (Nat.le_of_ble_eq_true rfl) ?_
        obtain ⟨j395, hj395, ej395⟩ := low_n (yv >>> (4 &&& 31)) (n := 150) (by omega) (by omega)
        rw [show lowI (yv >>> (4 &&& 31)) 150 = nI j395 from ej395]
        refine y_iast F (hR 12 (by decide)) ss_12 (vp_in_nI (n := 2 * (5 * f + t) + 1) (N := 50) (by omega) (by decide)) dL_law_398 ?_
        refine x_world (congrArg (fun z => k_c cy ad q ns nt z J) (show wI (wI I 12 (2 * (5 * f + t)) (nI j362)) 12 ((nI (2 * (5 * f + t) + 1)).toNatClampNeg) (nI j395) = wI (wI I 12 (2 * (5 * f + t)) (nI j362)) 12 (2 * (5 * f + t) + 1) (nI j395) by rw [nI_clamp (by omega)])) ?_
        refine x_aload_n F dL_law_399 rfl 16 rfl ?_
        refine x_iload F dL_law_400 4 rfl ?_
        refine x_iload F dL_law_402 3 rfl ?_
        refine x_aload_n F dL_law_404 rfl 15 rfl ?_
        refine x_iload F dL_law_405 1 rfl ?_
        refine y_iald F (hR 12 (by decide)) ss_12 (vp_in_nI (n := 2 * (5 * f + t)) (N := 50) (by omega) (by decide)) dL_law_407 ?_
        refine x_cast (y := (wI (wI I 12 (2 * (5 * f + t)) (nI j362)) 12 (2 * (5 * f + t) + 1) (nI j395)) 12 (2 * (5 * f + t))) (by rw [nI_clamp (by omega)]) ?_
        refine x_cast (y := nI j362) (by simp (disch := omega) only [wI_row, wI_off, wI_at]) ?_
        refine x_aload_n F dL_law_408 rfl 15 rfl ?_
        refine x_iload F dL_law_409 1 rfl ?_
        refine x_iconst F (v := 1) dL_law_411 (by decide) ?_
        refine x_iadd F dL_law_412 ?_
        refine x_cast (y := nI (2 * (5 * f + t) + 1)) (nI_add (2 * (5 * f + t)) 1) ?_
        refine y_iald F (hR 12 (by decide)) ss_12 (vp_in_nI (n := 2 * (5 * f + t) + 1) (N := 50) (by omega) (by decide)) dL_law_413 ?_
        refine x_cast (y := (wI (wI I 12 (2 * (5 * f + t)) (nI j362)) 12 (2 * (5 * f + t) + 1) (nI j395)) 12 (2 * (5 * f + t) + 1)) (by rw [nI_clamp (by omega)]) ?_
        refine x_cast (y := (nI j395)) (by first | rfl | simp [wI_eq]) ?_
        refine x_cast (y := nI j395) (by simp (disch := omega) only [wI_row, wI_off, wI_at]) ?_
        refine z_callVix F [.int (nI f), .int (nI t), .int (nI j362), .int (nI j395)] (c_X4_link l D cy lo R ad q ns nt (wI (wI I 12 (2 * (5 * f + t)) (nI j362)) 12 (2 * (5 * f + t) + 1) (nI j395)) J hL hfl (nI f) (nI t) (nI j362) (nI j395)) mc_X4_link mv_X4_link lk_L_110 (hR 0 (by decide)) sc_0 rfl rfl rfl dL_law_414 ⟨Nat.le_of_ble_eq_true rfl, Nat.le_of_ble_eq_true rfl⟩ ⟨by (try dsimp only); show _ ≤ 600104; omega, by (try dsimp only); show _ ≤ 7301314; omega⟩ (Nat.le_of_ble_eq_true rfl) (fun E hE => absurd hE (fun g => g.elim (fun g => absurd g.2 (by rw [car_2 hf ht]; decide)) (fun g => absurd g.2.2 (by rw [link_rg hf ht h335 (by omega) (by omega)]; decide)))) (fun ok414 => ?_)
        refine x_cast (y := 1) (by rw [rate_c hf ht]; simp (disch := omega) only [wI_row]; rw [(was_1 h (by omega) h345).1, decide_eq_false (was_1 h (by omega) h345).2]; rfl) ?_
        refine x_iload F dL_law_417 0 rfl ?_
        refine x_icmp_eq F 424 dL_law_419 (by decide) (fun h419 => ?_) (fun h419 => ?_)
        · refine x_goto F 1323 dL_law_424 (by decide) ?_
          refine x_sub [4, 8, 9, 10, 11, 12, 13, 14, 15, 16, 17] rfl ?_
          refine x_widen (k := cells + 106) (n := slots + 636) (by (try dsimp only); omega) (by (try dsimp only); omega) ?_
          refine law_tail hfl F hRX.1 (T := T + 200) (J := J) ((link_sr h hf ht (by omega)).up (by omega)) hf (by omega) (by omega) (fun I2 hS2 => ?_)
          exact K R ad q ns nt I2 _ hRX (fun _ _ => rfl) (Nat.le_refl _) hS2
        · exact False.elim (by revert h419; decide)
      · replace h384 : j381 = 0 := (nI_eq (a := j381) (b := 0) (by omega) (by omega)).mp h384
        refine x_ldc F (v := 100001) dL_law_387 549 (by decide +kernel) ?_
        refine x_goto F 395 dL_law_389 (by decide) ?_
        refine z_callSi F [.int (yv >>> (4 &&& 31)), .int 100001] (c_L_low l D cy lo R ad _ (yv >>> (4 &&& 31)) 100001 (by decide)) mc_L_low ms_L_low lk_L_103 rfl rfl dL_law_395 ⟨Nat.le_of_ble_eq_true rfl, Nat.le_of_ble_eq_true rfl⟩ ⟨by (try dsimp only); show _ ≤ 600104; omega, by (try dsimp only); show _ ≤ 7301314; omega⟩ (Nat.le_of_ble_eq_true rfl) ?_
        obtain ⟨j395, hj395, ej395⟩ := low_n (yv >>> (4 &&& 31)) (n := 100001) (by omega) (by omega)
        rw [show lowI (yv >>> (4 &&& 31)) 100001 = nI j395 from ej395]
        refine y_iast F (hR 12 (by decide)) ss_12 (vp_in_nI (n := 2 * (5 * f + t) + 1) (N := 50) (by omega) (by decide)) dL_law_398 ?_
        refine x_world (congrArg (fun z => k_c cy ad q ns nt z J) (show wI (wI I 12 (2 * (5 * f + t)) (nI j362)) 12 ((nI (2 * (5 * f + t) + 1)).toNatClampNeg) (nI j395) = wI (wI I 12 (2 * (5 * f + t)) (nI j362)) 12 (2 * (5 * f + t) + 1) (nI j395) by rw [nI_clamp (by omega)])) ?_
        refine x_aload_n F dL_law_399 rfl 16 rfl ?_
        refine x_iload F dL_law_400 4 rfl ?_
        refine x_iload F dL_law_402 3 rfl ?_
        refine x_aload_n F dL_law_404 rfl 15 rfl ?_
        refine x_iload F dL_law_405 1 rfl ?_
        refine y_iald F (hR 12 (by decide)) ss_12 (vp_in_nI (n := 2 * (5 * f + t)) (N := 50) (by omega) (by decide)) dL_law_407 ?_
        refine x_cast (y := (wI (wI I 12 (2 * (5 * f + t)) (nI j362)) 12 (2 * (5 * f + t) + 1) (nI j395)) 12 (2 * (5 * f + t))) (by rw [nI_clamp (by omega)]) ?_
        refine x_cast (y := nI j362) (by simp (disch := omega) only [wI_row, wI_off, wI_at]) ?_
        refine x_aload_n F dL_law_408 rfl 15 rfl ?_
        refine x_iload F dL_law_409 1 rfl ?_
        refine x_iconst F (v := 1) dL_law_411 (by decide) ?_
        refine x_iadd F dL_law_412 ?_
        refine x_cast (y := nI (2 * (5 * f + t) + 1)) (nI_add (2 * (5 * f + t)) 1) ?_
        refine y_iald F (hR 12 (by decide)) ss_12 (vp_in_nI (n := 2 * (5 * f + t) + 1) (N := 50) (by omega) (by decide)) dL_law_413 ?_
        refine x_cast (y := (wI (wI I 12 (2 * (5 * f + t)) (nI j362)) 12 (2 * (5 * f + t) + 1) (nI j395)) 12 (2 * (5 * f + t) + 1)) (by rw [nI_clamp (by omega)]) ?_
        refine x_cast (y := (nI j395)) (by first | rfl | simp [wI_eq]) ?_
        refine x_cast (y := nI j395) (by simp (disch := omega) only [wI_row, wI_off, wI_at]) ?_
        refine z_callVix F [.int (nI f), .int (nI t), .int (nI j362), .int (nI j395)] (c_X4_link l D cy lo R ad q ns nt (wI (wI I 12 (2 * (5 * f + t)) (nI j362)) 12 (2 * (5 * f + t) + 1) (nI j395)) J hL hfl (nI f) (nI t) (nI j362) (nI j395)) mc_X4_link mv_X4_link lk_L_110 (hR 0 (by decide)) sc_0 rfl rfl rfl dL_law_414 ⟨Nat.le_of_ble_eq_true rfl, Nat.le_of_ble_eq_true rfl⟩ ⟨by (try dsimp only); show _ ≤ 600104; omega, by (try dsimp only); show _ ≤ 7301314; omega⟩ (Nat.le_of_ble_eq_true rfl) (fun E hE => absurd hE (fun g => g.elim (fun g => absurd g.2 (by rw [car_2 hf ht]; decide)) (fun g => absurd g.2.2 (by rw [link_rg hf ht h335 (by omega) (by omega)]; decide)))) (fun ok414 => ?_)
        refine x_cast (y := 1) (by rw [rate_c hf ht]; simp (disch := omega) only [wI_row]; rw [(was_1 h (by omega) h345).1, decide_eq_false (was_1 h (by omega) h345).2]; rfl) ?_
        refine x_iload F dL_law_417 0 rfl ?_
        refine x_icmp_eq F 424 dL_law_419 (by decide) (fun h419 => ?_) (fun h419 => ?_)
        · refine x_goto F 1323 dL_law_424 (by decide) ?_
          refine x_sub [4, 8, 9, 10, 11, 12, 13, 14, 15, 16, 17] rfl ?_
          refine x_widen (k := cells + 106) (n := slots + 636) (by (try dsimp only); omega) (by (try dsimp only); omega) ?_
          refine law_tail hfl F hRX.1 (T := T + 200) (J := J) ((link_sr h hf ht (by omega)).up (by omega)) hf (by omega) (by omega) (fun I2 hS2 => ?_)
          exact K R ad q ns nt I2 _ hRX (fun _ _ => rfl) (Nat.le_refl _) hS2
        · exact False.elim (by revert h419; decide)
  · replace h335 : f = t := (nI_eq (a := f) (b := t) (by omega) (by omega)).mp h335
    refine x_goto F 1344 dL_law_338 (by decide) ?_
    refine x_sub [7, 8, 9, 10, 11, 12, 13, 14, 15, 16] rfl ?_
    refine x_widen (k := cells + 400) (n := slots + 2400) (by (try dsimp only); omega) (by (try dsimp only); omega) ?_
    exact K R ad q ns nt _ _ hRX (fun _ _ => rfl) (Nat.le_refl _) ((h.up (by omega)))
end LC
