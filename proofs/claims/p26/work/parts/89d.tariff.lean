section LC
variable {D : va_G} {cy : Nat → ClassId} {lo : Nat} {p : Program} {l : Launch} {e : Env} {s : State} {m : MethodId} {args : Array Value} {below : List Frame} {meth : Method} {c : Code} {cells slots : Nat} {Q : State → Prop} {R : List Nat} {ad : Nat → Nat} {b : Nat} {q : Nat → Nat → Nat} {ns nt T : Nat} {I : Nat → Nat → Int32} {J : Nat → Nat → Int64}
set_option maxHeartbeats 4000000 in
set_option maxRecDepth 100000 in
/-- an act: tariff -/
theorem law_tariff (hfl : l.stackTraces = false) (F : k_F p m c cL_law 20 s RL D cy lo) (hRX : k_RX R ns nt) (h : SR q ns nt T I J I J) (hT : T ≤ 20000) (hT2 : 299 ≤ T) {turn f t : Nat} {xv yv kv : Int32} (hf : f < 5) (ht : t < 5) {x15 : Int32} (hc : cells + 400 ≤ 600104) (hs : slots + 2400 ≤ 7301314)
    (K : ∀ (R' : List Nat) (ad' : Nat → Nat) (q' : Nat → Nat → Nat) (ns' nt' : Nat) (I' : Nat → Nat → Int32) (J' : Nat → Nat → Int64), k_RX R' ns' nt' → (∀ y, y < 40 → ad' y = ad y) → ns ≤ ns' → SR q' ns' nt' (T + 200) I' J' I' J' → XW D lo p l e room_1 s m args below meth c 20 (cells + 400) (slots + 2400) Q R' ad' (k_c cy ad' q' ns' nt' I' J') 1344 (k_LV ad' b turn) []) :
    XW D lo p l e room_1 s m args below meth c 20 cells slots Q R ad (k_c cy ad q ns nt I J) 515 ((15, .int x15) :: (14, .int (nI t)) :: (13, .int (nI f)) :: (12, .int kv) :: (11, .int yv) :: (10, .int xv) :: k_LV ad b turn) [] := by
  have hR := hRX.1.1
  have hL := hRX.1
  have hns := h.hns
  have hnt := h.hnt
  refine x_aload F dL_law_515 10 rfl ?_
  refine x_iconst F (v := 2) dL_law_517 (by decide) ?_
  refine x_iload F dL_law_518 2 rfl ?_
  refine x_imul F dL_law_520 ?_
  refine x_cast (y := nI (2 * f)) (pk_mul 2 f) ?_
  refine x_iconst F (v := 1) dL_law_521 (by decide) ?_
  refine x_iadd F dL_law_522 ?_
  refine x_cast (y := nI (2 * f + 1)) (nI_add (2 * f) 1) ?_
  refine y_iald F (hR 15 (by decide)) ss_15 (vp_in_nI (n := 2 * f + 1) (N := 10) (by omega) (by decide)) dL_law_523 ?_
  refine x_cast (y := I 15 (2 * f + 1)) (by rw [nI_clamp (by omega)]) ?_
  refine x_istore F [(16, .int (I 15 (2 * f + 1))), (15, .int x15), (14, .int (nI t)), (13, .int (nI f)), (12, .int kv), (11, .int yv), (10, .int xv), (9, .int (nI turn)), (8, .ref (ad 18)), (7, .ref (ad 17)), (6, .ref (ad 16)), (5, .ref (ad 15)), (4, .ref (ad 14)), (3, .ref (ad 13)), (2, .ref (ad 12)), (1, .ref (ad 0)), (0, .ref b)] dL_law_524 (by decide) rfl ?_
  refine x_aload F dL_law_526 11 rfl ?_
  refine x_iconst F (v := 2) dL_law_528 (by decide) ?_
  refine x_iload F dL_law_529 3 rfl ?_
  refine x_imul F dL_law_531 ?_
  refine x_cast (y := nI (2 * f)) (pk_mul 2 f) ?_
  refine x_iconst F (v := 1) dL_law_532 (by decide) ?_
  refine x_iload F dL_law_533 5 rfl ?_
  refine x_bipush F (v := 10) dL_law_535 (by decide) ?_
  refine z_callSi F [.int yv, .int 10] (c_L_low l D cy lo R ad _ yv 10 (by decide)) mc_L_low ms_L_low lk_L_103 rfl rfl dL_law_537 ⟨Nat.le_of_ble_eq_true rfl, Nat.le_of_ble_eq_true rfl⟩ ⟨by (try dsimp only); show _ ≤ 600104; omega, by (try dsimp only); show _ ≤ 7301314; omega⟩ (Nat.le_of_ble_eq_true rfl) ?_
  obtain ⟨j537, hj537, ej537⟩ := low_n yv (n := 10) (by omega) (by omega)
  rw [show lowI yv 10 = nI j537 from ej537]
  refine x_iadd F dL_law_540 ?_
  refine x_cast (y := nI (1 + j537)) (nI_add 1 j537) ?_
  refine y_iast F (hR 15 (by decide)) ss_15 (vp_in_nI (n := 2 * f) (N := 10) (by omega) (by decide)) dL_law_541 ?_
  refine x_world (congrArg (fun z => k_c cy ad q ns nt z J) (show wI I 15 ((nI (2 * f)).toNatClampNeg) (nI (1 + j537)) = wI I 15 (2 * f) (nI (1 + j537)) by rw [nI_clamp (by omega)])) ?_
  refine x_aload F dL_law_542 11 rfl ?_
  refine x_iconst F (v := 2) dL_law_544 (by decide) ?_
  refine x_iload F dL_law_545 3 rfl ?_
  refine x_imul F dL_law_547 ?_
  refine x_cast (y := nI (2 * f)) (pk_mul 2 f) ?_
  refine x_iconst F (v := 1) dL_law_548 (by decide) ?_
  refine x_iadd F dL_law_549 ?_
  refine x_cast (y := nI (2 * f + 1)) (nI_add (2 * f) 1) ?_
  refine x_iload F dL_law_550 5 rfl ?_
  refine x_iconst F (v := 4) dL_law_552 (by decide) ?_
  refine x_ishr F dL_law_553 ?_
  refine x_bipush F (v := 60) dL_law_554 (by decide) ?_
  refine z_callSi F [.int (yv >>> (4 &&& 31)), .int 60] (c_L_low l D cy lo R ad _ (yv >>> (4 &&& 31)) 60 (by decide)) mc_L_low ms_L_low lk_L_103 rfl rfl dL_law_556 ⟨Nat.le_of_ble_eq_true rfl, Nat.le_of_ble_eq_true rfl⟩ ⟨by (try dsimp only); show _ ≤ 600104; omega, by (try dsimp only); show _ ≤ 7301314; omega⟩ (Nat.le_of_ble_eq_true rfl) ?_
  obtain ⟨j556, hj556, ej556⟩ := low_n (yv >>> (4 &&& 31)) (n := 60) (by omega) (by omega)
  rw [show lowI (yv >>> (4 &&& 31)) 60 = nI j556 from ej556]
  refine y_iast F (hR 15 (by decide)) ss_15 (vp_in_nI (n := 2 * f + 1) (N := 10) (by omega) (by decide)) dL_law_559 ?_
  refine x_world (congrArg (fun z => k_c cy ad q ns nt z J) (show wI (wI I 15 (2 * f) (nI (1 + j537))) 15 ((nI (2 * f + 1)).toNatClampNeg) (nI j556) = wI (wI I 15 (2 * f) (nI (1 + j537))) 15 (2 * f + 1) (nI j556) by rw [nI_clamp (by omega)])) ?_
  refine x_aload_n F dL_law_560 rfl 15 rfl ?_
  refine x_iload F dL_law_561 3 rfl ?_
  refine x_aload F dL_law_563 11 rfl ?_
  refine x_iconst F (v := 2) dL_law_565 (by decide) ?_
  refine x_iload F dL_law_566 3 rfl ?_
  refine x_imul F dL_law_568 ?_
  refine x_cast (y := nI (2 * f)) (pk_mul 2 f) ?_
  refine y_iald F (hR 15 (by decide)) ss_15 (vp_in_nI (n := 2 * f) (N := 10) (by omega) (by decide)) dL_law_569 ?_
  refine x_cast (y := (wI (wI I 15 (2 * f) (nI (1 + j537))) 15 (2 * f + 1) (nI j556)) 15 (2 * f)) (by rw [nI_clamp (by omega)]) ?_
  refine x_cast (y := nI (1 + j537)) (by simp (disch := omega) only [wI_row, wI_off, wI_at]) ?_
  refine x_aload F dL_law_570 11 rfl ?_
  refine x_iconst F (v := 2) dL_law_572 (by decide) ?_
  refine x_iload F dL_law_573 3 rfl ?_
  refine x_imul F dL_law_575 ?_
  refine x_cast (y := nI (2 * f)) (pk_mul 2 f) ?_
  refine x_iconst F (v := 1) dL_law_576 (by decide) ?_
  refine x_iadd F dL_law_577 ?_
  refine x_cast (y := nI (2 * f + 1)) (nI_add (2 * f) 1) ?_
  refine y_iald F (hR 15 (by decide)) ss_15 (vp_in_nI (n := 2 * f + 1) (N := 10) (by omega) (by decide)) dL_law_578 ?_
  refine x_cast (y := (wI (wI I 15 (2 * f) (nI (1 + j537))) 15 (2 * f + 1) (nI j556)) 15 (2 * f + 1)) (by rw [nI_clamp (by omega)]) ?_
  refine x_cast (y := (nI j556)) (by first | rfl | simp [wI_eq]) ?_
  refine x_cast (y := nI j556) (by simp (disch := omega) only [wI_row, wI_off, wI_at]) ?_
  refine z_callVix F [.int (nI f), .int (nI (1 + j537)), .int (nI j556)] (c_X4_tariff l D cy lo R ad q ns nt (wI (wI I 15 (2 * f) (nI (1 + j537))) 15 (2 * f + 1) (nI j556)) J hL hfl (nI f) (nI (1 + j537)) (nI j556)) mc_X4_tariff mv_X4_tariff lk_L_114 (hR 0 (by decide)) sc_0 rfl rfl rfl dL_law_579 ⟨Nat.le_of_ble_eq_true rfl, Nat.le_of_ble_eq_true rfl⟩ ⟨by (try dsimp only); show _ ≤ 600104; omega, by (try dsimp only); show _ ≤ 7301314; omega⟩ (Nat.le_of_ble_eq_true rfl) (fun E hE => absurd hE (fun g => g.elim (fun g => absurd g.2 (by rw [car_of hf]; decide)) (fun g => absurd g.2.2 (by rw [show isWi (nI (1 + j537)) 1 10 = true from isWi_n (a := 1) (b := 10) (by omega) (by omega) (by omega), show isWi (nI j556) 0 1000 = true from isWi_n (a := 0) (b := 1000) (by omega) (by omega) (by omega)]; decide)))) (fun ok579 => ?_)
  refine x_cast (y := I 15 (2 * f + 1)) (by rw [nI_clamp (by omega)]; simp (disch := omega) only [wI_row]; exact (h.tar f hf).2.1.symm) ?_
  refine x_iload F dL_law_582 0 rfl ?_
  refine x_icmp_eq F 589 dL_law_584 (by decide) (fun h584 => ?_) (fun h584 => ?_)
  · refine x_goto F 1323 dL_law_589 (by decide) ?_
    refine x_sub [3, 7, 8, 9, 10, 11, 12, 13, 14, 15, 16] rfl ?_
    refine x_widen (k := cells + 106) (n := slots + 636) (by (try dsimp only); omega) (by (try dsimp only); omega) ?_
    refine law_tail hfl F hRX.1 (T := T + 200) (J := J) ((tar_sr h hf (a := 1 + j537) (b := j556) (by omega) (by omega)).up (by omega)) hf (by omega) (by omega) (fun I2 hS2 => ?_)
    exact K R ad q ns nt I2 _ hRX (fun _ _ => rfl) (Nat.le_refl _) hS2
  · exact (h584 rfl).elim
end LC
