section LC
variable {D : va_G} {cy : Nat → ClassId} {lo : Nat} {p : Program} {l : Launch} {e : Env} {s : State} {m : MethodId} {args : Array Value} {below : List Frame} {meth : Method} {c : Code} {cells slots : Nat} {Q : State → Prop} {R : List Nat} {ad : Nat → Nat} {b : Nat} {q : Nat → Nat → Nat} {ns nt T : Nat} {I : Nat → Nat → Int32} {J : Nat → Nat → Int64}
set_option maxHeartbeats 4000000 in
set_option maxRecDepth 100000 in
/-- an act: unlink -/
theorem law_unlink (hfl : l.stackTraces = false) (F : k_F p m c cL_law 20 s RL D cy lo) (hRX : k_RX R ns nt) (h : SR q ns nt T I J I J) (hT : T ≤ 20000) (hT2 : 299 ≤ T) {turn f t : Nat} {xv yv kv : Int32} (hf : f < 5) (ht : t < 5) {x15 : Int32} (hc : cells + 400 ≤ 600104) (hs : slots + 2400 ≤ 7301314)
    (K : ∀ (R' : List Nat) (ad' : Nat → Nat) (q' : Nat → Nat → Nat) (ns' nt' : Nat) (I' : Nat → Nat → Int32) (J' : Nat → Nat → Int64), k_RX R' ns' nt' → (∀ y, y < 40 → ad' y = ad y) → ns ≤ ns' → SR q' ns' nt' (T + 200) I' J' I' J' → XW D lo p l e room_1 s m args below meth c 20 (cells + 400) (slots + 2400) Q R' ad' (k_c cy ad' q' ns' nt' I' J') 1344 (k_LV ad' b turn) []) :
    XW D lo p l e room_1 s m args below meth c 20 cells slots Q R ad (k_c cy ad q ns nt I J) 434 ((15, .int x15) :: (14, .int (nI t)) :: (13, .int (nI f)) :: (12, .int kv) :: (11, .int yv) :: (10, .int xv) :: k_LV ad b turn) [] := by
  have hR := hRX.1.1
  have hL := hRX.1
  have hns := h.hns
  have hnt := h.hnt
  refine x_iconst F (v := 2) dL_law_434 (by decide) ?_
  refine x_iconst F (v := 5) dL_law_435 (by decide) ?_
  refine x_iload F dL_law_436 2 rfl ?_
  refine x_imul F dL_law_438 ?_
  refine x_cast (y := nI (5 * f)) (pk_mul 5 f) ?_
  refine x_iload F dL_law_439 1 rfl ?_
  refine x_iadd F dL_law_441 ?_
  refine x_cast (y := nI (5 * f + t)) (nI_add (5 * f) t) ?_
  refine x_imul F dL_law_442 ?_
  refine x_cast (y := nI (2 * (5 * f + t))) (pk_mul 2 (5 * f + t)) ?_
  refine x_istore F [(16, .int (nI (2 * (5 * f + t)))), (15, .int x15), (14, .int (nI t)), (13, .int (nI f)), (12, .int kv), (11, .int yv), (10, .int xv), (9, .int (nI turn)), (8, .ref (ad 18)), (7, .ref (ad 17)), (6, .ref (ad 16)), (5, .ref (ad 15)), (4, .ref (ad 14)), (3, .ref (ad 13)), (2, .ref (ad 12)), (1, .ref (ad 0)), (0, .ref b)] dL_law_443 (by decide) rfl ?_
  refine x_aload_n F dL_law_445 rfl 14 rfl ?_
  refine x_iload F dL_law_446 0 rfl ?_
  refine y_iald F (hR 12 (by decide)) ss_12 (vp_in_nI (n := 2 * (5 * f + t)) (N := 50) (by omega) (by decide)) dL_law_448 ?_
  refine x_cast (y := I 12 (2 * (5 * f + t))) (by rw [nI_clamp (by omega)]) ?_
  refine x_if_ge F 467 dL_law_449 (by decide) (fun h449 => ?_) (fun h449 => ?_)
  · have hw1 := was_1 h (show 5 * f + t < 25 by omega) (Int32.not_lt.mpr h449)
    refine x_iload F dL_law_467 5 rfl ?_
    refine x_iconst F (v := 2) dL_law_469 (by decide) ?_
    refine z_callSi F [.int yv, .int 2] (c_L_low l D cy lo R ad _ yv 2 (by decide)) mc_L_low ms_L_low lk_L_103 rfl rfl dL_law_470 ⟨Nat.le_of_ble_eq_true rfl, Nat.le_of_ble_eq_true rfl⟩ ⟨by (try dsimp only); show _ ≤ 600104; omega, by (try dsimp only); show _ ≤ 7301314; omega⟩ (Nat.le_of_ble_eq_true rfl) ?_
    obtain ⟨j470, hj470, ej470⟩ := low_n yv (n := 2) (by omega) (by omega)
    rw [show lowI yv 2 = nI j470 from ej470]
    refine x_if_ne F 479 dL_law_473 (by decide) (fun h473 => ?_) (fun h473 => ?_)
    · replace h473 : ¬ j470 = 0 := fun z => h473 ((nI_eq (a := j470) (b := 0) (by omega) (by omega)).mpr z)
      refine x_aload_n F dL_law_479 rfl 14 rfl ?_
      refine x_iload F dL_law_480 0 rfl ?_
      refine y_iald F (hR 12 (by decide)) ss_12 (vp_in_nI (n := 2 * (5 * f + t)) (N := 50) (by omega) (by decide)) dL_law_482 ?_
      refine x_cast (y := I 12 (2 * (5 * f + t))) (by rw [nI_clamp (by omega)]) ?_
      refine x_istore F [(17, .int (I 12 (2 * (5 * f + t)))), (16, .int (nI (2 * (5 * f + t)))), (15, .int x15), (14, .int (nI t)), (13, .int (nI f)), (12, .int kv), (11, .int yv), (10, .int xv), (9, .int (nI turn)), (8, .ref (ad 18)), (7, .ref (ad 17)), (6, .ref (ad 16)), (5, .ref (ad 15)), (4, .ref (ad 14)), (3, .ref (ad 13)), (2, .ref (ad 12)), (1, .ref (ad 0)), (0, .ref b)] dL_law_483 (by decide) rfl ?_
      refine x_aload_n F dL_law_485 rfl 15 rfl ?_
      refine x_iload F dL_law_486 1 rfl ?_
      refine x_iconst F (v := -1) dL_law_488 (by decide) ?_
      refine y_iast F (hR 12 (by decide)) ss_12 (vp_in_nI (n := 2 * (5 * f + t)) (N := 50) (by omega) (by decide)) dL_law_489 ?_
      refine x_world (congrArg (fun z => k_c cy ad q ns nt z J) (show wI I 12 ((nI (2 * (5 * f + t))).toNatClampNeg) (-1) = wI I 12 (2 * (5 * f + t)) (-1) by rw [nI_clamp (by omega)])) ?_
      refine x_aload_n F dL_law_490 rfl 16 rfl ?_
      refine x_iload F dL_law_491 4 rfl ?_
      refine x_iload F dL_law_493 3 rfl ?_
      refine z_callVix F [.int (nI f), .int (nI t)] (c_X4_unlink l D cy lo R ad q ns nt (wI I 12 (2 * (5 * f + t)) (-1)) J hL hfl (nI f) (nI t)) mc_X4_unlink mv_X4_unlink lk_L_38 (hR 0 (by decide)) sc_0 rfl rfl rfl dL_law_495 ⟨Nat.le_of_ble_eq_true rfl, Nat.le_of_ble_eq_true rfl⟩ ⟨by (try dsimp only); show _ ≤ 600104; omega, by (try dsimp only); show _ ≤ 7301314; omega⟩ (Nat.le_of_ble_eq_true rfl) (fun E hE => absurd hE (fun g => g.elim (fun g => absurd g.2 (by rw [car_2 hf ht]; decide)) (fun g => absurd g.2.2 (by rw [rate_c hf ht]; simp (disch := omega) only [wI_row]; rw [hw1.1]; exact hw1.2)))) (fun ok495 => ?_)
      refine x_cast (y := I 12 (2 * (5 * f + t))) (by rw [rate_c hf ht]; simp (disch := omega) only [wI_row]; exact hw1.1) ?_
      refine x_iload F dL_law_498 0 rfl ?_
      refine x_icmp_eq F 505 dL_law_500 (by decide) (fun h500 => ?_) (fun h500 => ?_)
      · refine x_goto F 1323 dL_law_505 (by decide) ?_
        refine x_sub [4, 8, 9, 10, 11, 12, 13, 14, 15, 16, 17] rfl ?_
        refine x_widen (k := cells + 106) (n := slots + 636) (by (try dsimp only); omega) (by (try dsimp only); omega) ?_
        refine law_tail hfl F hRX.1 (T := T + 200) (J := J) ((unlink_sr h hf ht).up (by omega)) hf (by omega) (by omega) (fun I2 hS2 => ?_)
        exact K R ad q ns nt I2 _ hRX (fun _ _ => rfl) (Nat.le_refl _) hS2
      · exact (h500 rfl).elim
    · replace h473 : j470 = 0 := (nI_eq (a := j470) (b := 0) (by omega) (by omega)).mp h473
      refine x_goto F 1344 dL_law_476 (by decide) ?_
      refine x_sub [7, 8, 9, 10, 11, 12, 13, 14, 15, 16] rfl ?_
      refine x_widen (k := cells + 400) (n := slots + 2400) (by (try dsimp only); omega) (by (try dsimp only); omega) ?_
      exact K R ad q ns nt _ _ hRX (fun _ _ => rfl) (Nat.le_refl _) ((h.up (by omega)))
  · have hrn : rateF I (nI f) (nI t) = -1 := by rw [rate_c hf ht]; exact was_0 h (by omega) (Int32.not_le.mp h449)
    refine x_aload_n F dL_law_452 rfl 15 rfl ?_
    refine x_iconst F (v := 3) dL_law_453 (by decide) ?_
    refine x_iload F dL_law_454 3 rfl ?_
    refine x_iload F dL_law_456 2 rfl ?_
    refine x_callHi F [.ref (ad 0), .int 3, .int (nI f), .int (nI t)] (c_rf_3 l D cy lo R ad q ns nt I J hR (nI f) (nI t) _ _ _ _ _ _ (c_X4_unlink l D cy lo R ad q ns nt I J hL hfl (nI f) (nI t)) (fun E u hx => by rcases hx with ⟨⟨e, -⟩ | ⟨e, -⟩, -⟩ <;> simp [e]) (fun v9 u hp => absurd hrn hp.1.2)) mh_refused ms_L_refused lk_L_65 rfl rfl dL_law_458 ⟨Nat.le_of_ble_eq_true rfl, Nat.le_of_ble_eq_true rfl⟩ ⟨by (try dsimp only); show _ ≤ 600104; omega, by (try dsimp only); show _ ≤ 7301314; omega⟩ (Nat.le_of_ble_eq_true rfl) (fun r9 u9 hp9 => ?_)
    obtain ⟨rfl, rfl⟩ : r9 = 3 ∧ u9 = (R, ad, k_c cy ad q ns nt I J) := by
      rcases hp9 with ⟨hx, rfl⟩ | ⟨hx, rfl⟩ | ⟨hx, rfl⟩
      · rcases hx.1 with ⟨-, g⟩ | ⟨g, -⟩
        · exact absurd g (by rw [car_2 hf ht]; decide)
        · exact absurd g (by decide)
      · rcases hx.1 with ⟨g, -⟩ | ⟨g, -⟩ <;> exact absurd g (by decide)
      · exact ⟨rfl, hx.2⟩
    dsimp only
    refine x_iconst F (v := 3) dL_law_461 (by decide) ?_
    refine x_icmp_eq F 1344 dL_law_462 (by decide) (fun h462 => ?_) (fun h462 => ?_)
    · refine x_sub [7, 8, 9, 10, 11, 12, 13, 14, 15, 16] rfl ?_
      refine x_widen (k := cells + 400) (n := slots + 2400) (by (try dsimp only); omega) (by (try dsimp only); omega) ?_
      exact K R ad q ns nt _ _ hRX (fun _ _ => rfl) (Nat.le_refl _) ((h.up (by omega)))
    · exact False.elim (by revert h462; decide)
end LC
