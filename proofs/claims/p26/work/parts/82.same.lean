set_option maxHeartbeats 4000000 in
set_option maxRecDepth 100000 in
/-- same -/
theorem c_L_same (l : Launch) (D : va_G) (cy : Nat → ClassId) (lo : Nat) (R : List Nat) (ad : Nat → Nat) (q : Nat → Nat → Nat) (ns nt T : Nat) (I : Nat → Nat → Int32) (J : Nat → Nat → Int64) (hL : k_RL R ns nt) (hfl : l.stackTraces = false) (f : Nat) (hf : f < 5) (hS : SR q ns nt T I J I J) : k_Met l yL_same cL_same 14 (some .boolean) { frames := 9, cells := 294, slots := 1764, locals := 170 } D cy lo R ad (k_c cy ad q ns nt I J) [.ref (ad 0), .ref (ad 12), .ref (ad 13), .ref (ad 14), .ref (ad 16), .ref (ad 17), .ref (ad 18), .int (nI f)] (k_Qi D lo (fun r u => r = 1 ∧ ∃ I' : Nat → Nat → Int32, scrE I' I ∧ u = (R, ad, k_c cy ad q ns nt I' J))) := by
  refine k_metQ (by decide +kernel) (Nat.le_of_ble_eq_true rfl) ?_
  intro p e s m args below meth c Q F hr hlk hnm hQ
  have hR := hL.1
  have hns := hS.hns
  have hnt := hS.hnt
  refine x_iconst F (v := 0) dL_same_0 (by decide) ?_
  refine x_istore F [(8, .int 0), (0, .ref (ad 0)), (1, .ref (ad 12)), (2, .ref (ad 13)), (3, .ref (ad 14)), (4, .ref (ad 16)), (5, .ref (ad 17)), (6, .ref (ad 18)), (7, .int (nI f))] dL_same_1 (by decide) rfl ?_
  have lp3 : ∀ (fu3 : Nat) (i : Nat), ns - i < fu3 → (i ≤ ns) → XW D lo p l e { frames := 9, cells := 294, slots := 1764, locals := 170 } s m args below meth c 14 (6 * i) (6 * (6 * i)) Q R ad (k_c cy ad q ns nt I J) 3 [(8, .int (nI i)), (0, .ref (ad 0)), (1, .ref (ad 12)), (2, .ref (ad 13)), (3, .ref (ad 14)), (4, .ref (ad 16)), (5, .ref (ad 17)), (6, .ref (ad 18)), (7, .int (nI f))] [] := by
    intro fu3
    induction fu3 with
    | zero => intro i hf3; exact absurd hf3 (Nat.not_lt_zero _)
    | succ fu3 ih3 =>
      intro i hf3 hi
      refine x_iload F dL_same_3 0 rfl ?_
      refine x_aload F dL_same_5 7 rfl ?_
      refine x_iconst F (v := 0) dL_same_7 (by decide) ?_
      refine y_iald F (hR 18 (by decide)) ss_18 (show vp_in (nI 0) 2 from vp_in_nI (by decide) (by decide)) dL_same_8 ?_
      refine x_cast (y := I 18 0) (by rw [show (0 : Int32).toNatClampNeg = 0 from by decide]) ?_
      refine x_cast (y := nI ns) (hS.g0) ?_
      refine x_icmp_ge F 94 dL_same_9 (by decide) (fun h9 => ?_) (fun h9 => ?_)
      · replace h9 : ns ≤ i := (nI_leI (a := ns) (b := i) (by omega) (by omega)).mp h9
        have hi9 : i = ns := by omega
        refine x_iconst F (v := 0) dL_same_94 (by decide) ?_
        refine x_istore F [(8, .int 0), (0, .ref (ad 0)), (1, .ref (ad 12)), (2, .ref (ad 13)), (3, .ref (ad 14)), (4, .ref (ad 16)), (5, .ref (ad 17)), (6, .ref (ad 18)), (7, .int (nI f))] dL_same_95 (by decide) rfl ?_
        have lp97 : ∀ (fu97 : Nat) (j : Nat), nt - j < fu97 → (j ≤ nt) → XW D lo p l e { frames := 9, cells := 294, slots := 1764, locals := 170 } s m args below meth c 14 (48 + 15 * j) (6 * (48 + 15 * j)) Q R ad (k_c cy ad q ns nt I J) 97 [(8, .int (nI j)), (0, .ref (ad 0)), (1, .ref (ad 12)), (2, .ref (ad 13)), (3, .ref (ad 14)), (4, .ref (ad 16)), (5, .ref (ad 17)), (6, .ref (ad 18)), (7, .int (nI f))] [] := by
          intro fu97
          induction fu97 with
          | zero => intro j hf97; exact absurd hf97 (Nat.not_lt_zero _)
          | succ fu97 ih97 =>
            intro j hf97 hj
            refine x_iload F dL_same_97 0 rfl ?_
            refine x_aload F dL_same_99 7 rfl ?_
            refine x_iconst F (v := 1) dL_same_101 (by decide) ?_
            refine y_iald F (hR 18 (by decide)) ss_18 (show vp_in (nI 1) 2 from vp_in_nI (by decide) (by decide)) dL_same_102 ?_
            refine x_cast (y := I 18 1) (by rw [show (1 : Int32).toNatClampNeg = 1 from by decide]) ?_
            refine x_cast (y := nI nt) (hS.g1) ?_
            refine x_icmp_ge F 242 dL_same_103 (by decide) (fun h103 => ?_) (fun h103 => ?_)
            · replace h103 : nt ≤ j := (nI_leI (a := nt) (b := j) (by omega) (by omega)).mp h103
              refine x_lconst F (v := 0) dL_same_242 (by decide) ?_
              refine x_lstore F [(8, .long 0), (0, .ref (ad 0)), (1, .ref (ad 12)), (2, .ref (ad 13)), (3, .ref (ad 14)), (4, .ref (ad 16)), (5, .ref (ad 17)), (6, .ref (ad 18)), (7, .int (nI f))] dL_same_243 (by decide) rfl ?_
              refine x_iconst F (v := 0) dL_same_245 (by decide) ?_
              refine x_istore F [(10, .int 0), (8, .long 0), (0, .ref (ad 0)), (1, .ref (ad 12)), (2, .ref (ad 13)), (3, .ref (ad 14)), (4, .ref (ad 16)), (5, .ref (ad 17)), (6, .ref (ad 18)), (7, .int (nI f))] dL_same_246 (by decide) rfl ?_
              have lp248 : ∀ (fu248 : Nat) (t : Nat) (I1 : Nat → Nat → Int32), 5 - t < fu248 → (t ≤ 5) → (scrE I1 I) → XW D lo p l e { frames := 9, cells := 294, slots := 1764, locals := 170 } s m args below meth c 14 (153 + 28 * t) (6 * (153 + 28 * t)) Q R ad (k_c cy ad q ns nt I1 J) 248 [(10, .int (nI t)), (8, .long (posL J f t)), (0, .ref (ad 0)), (1, .ref (ad 12)), (2, .ref (ad 13)), (3, .ref (ad 14)), (4, .ref (ad 16)), (5, .ref (ad 17)), (6, .ref (ad 18)), (7, .int (nI f))] [] := by
                intro fu248
                induction fu248 with
                | zero => intro t I1 hf248; exact absurd hf248 (Nat.not_lt_zero _)
                | succ fu248 ih248 =>
                  intro t I1 hf248 ht hI1
                  have hS1 := hS.scr hI1
                  have hc1 := hS.gc.scr hI1
                  have hg1 := hS.gl.scr hI1
                  refine x_iload F dL_same_248 0 rfl ?_
                  refine x_iconst F (v := 5) dL_same_250 (by decide) ?_
                  refine x_icmp_ge F 470 dL_same_251 (by decide) (fun h251 => ?_) (fun h251 => ?_)
                  · replace h251 : 5 ≤ t := (nI_leI (a := 5) (b := t) (by omega) (by omega)).mp h251
                    refine x_aload_n F dL_same_470 rfl 2 rfl ?_
                    refine x_iload F dL_same_471 9 rfl ?_
                    refine z_callVlx F [.int (nI f)] (c_X4_position l D cy lo R ad q ns nt I1 J hL hfl (nI f)) mc_X4_position mv_X4_position lk_L_94 (hR 0 (by decide)) sc_0 rfl rfl rfl dL_same_473 ⟨Nat.le_of_ble_eq_true rfl, Nat.le_of_ble_eq_true rfl⟩ ⟨by (try dsimp only); omega, by (try dsimp only); omega⟩ (Nat.le_of_ble_eq_true rfl) (fun E hE => absurd hE (fun h => absurd h.2 (by rw [car_of hf]; decide))) (fun ok473 => ?_)
                    refine x_castl (y := posL J f 5) (rd_pos hS1 hf 5 (by omega)) ?_
                    refine x_lload F dL_same_476 1 rfl ?_
                    refine x_lcmp F dL_same_478 ?_
                    refine x_if_ne F 486 dL_same_479 (by decide) (fun h479 => ?_) (fun h479 => ?_)
                    · exact (h479 (cmp_self (by rw [show t = 5 by omega]))).elim
                    · rw [lg_cmp_eq] at h479
                      refine x_iconst F (v := 1) dL_same_482 (by decide) ?_
                      refine x_goto F 487 dL_same_483 (by decide) ?_
                      rw [hQ]
                      refine x_widen (k := 294) (n := 1764) (by (try dsimp only); omega) (by (try dsimp only); omega) ?_
                      exact x_zret F hr hlk (by decide) ⟨rfl, I1, hI1, rfl⟩ dL_same_487
                  · replace h251 : ¬ 5 ≤ t := fun z => h251 ((nI_leI (a := 5) (b := t) (by omega) (by omega)).mpr z)
                    obtain ⟨v, hB, -, -⟩ := fb_rep (r := 6) (Or.inl rfl) hS.gc hf (show t < 5 by omega)
                    have hev := encO_lt hB
                    refine x_iconst F (v := 5) dL_same_254 (by decide) ?_
                    refine x_iload F dL_same_255 9 rfl ?_
                    refine x_imul F dL_same_257 ?_
                    refine x_cast (y := nI (5 * f)) (pk_mul 5 f) ?_
                    refine x_iload F dL_same_258 0 rfl ?_
                    refine x_iadd F dL_same_260 ?_
                    refine x_cast (y := nI (5 * f + t)) (nI_add (5 * f) t) ?_
                    refine x_istore F [(11, .int (nI (5 * f + t))), (10, .int (nI t)), (8, .long (posL J f t)), (0, .ref (ad 0)), (1, .ref (ad 12)), (2, .ref (ad 13)), (3, .ref (ad 14)), (4, .ref (ad 16)), (5, .ref (ad 17)), (6, .ref (ad 18)), (7, .int (nI f))] dL_same_261 (by decide) rfl ?_
                    refine x_iload F dL_same_263 10 rfl ?_
                    refine x_iload F dL_same_265 1 rfl ?_
                    refine x_aload_n F dL_same_267 rfl 4 rfl ?_
                    refine x_aload_n F dL_same_268 rfl 6 rfl ?_
                    refine z_callSi F [.int (nI f), .int (nI t), .ref (ad 12), .ref (ad 14)] (c_L_best l D cy lo R ad q ns nt I1 J hR f t (sOp I J) (sRt I) v hf (by omega) hg1 hB) mc_L_best ms_L_best lk_L_21 rfl rfl dL_same_269 ⟨Nat.le_of_ble_eq_true rfl, Nat.le_of_ble_eq_true rfl⟩ ⟨by (try dsimp only); omega, by (try dsimp only); omega⟩ (Nat.le_of_ble_eq_true rfl) ?_
                    refine x_istore F [(12, .int (nI (encO v))), (11, .int (nI (5 * f + t))), (10, .int (nI t)), (8, .long (posL J f t)), (0, .ref (ad 0)), (1, .ref (ad 12)), (2, .ref (ad 13)), (3, .ref (ad 14)), (4, .ref (ad 16)), (5, .ref (ad 17)), (6, .ref (ad 18)), (7, .int (nI f))] dL_same_272 (by decide) rfl ?_
                    refine x_lload F dL_same_274 3 rfl ?_
                    refine x_aload_n F dL_same_276 rfl 7 rfl ?_
                    refine x_iload F dL_same_277 1 rfl ?_
                    refine y_lald F (hR 14 (by decide)) ss_14 (vp_in_nI (n := 5 * f + t) (N := 25) (by omega) (by decide)) dL_same_279 ?_
                    refine x_castl (y := J 14 (5 * f + t)) (by rw [nI_clamp (by omega)]) ?_
                    refine x_lsub F dL_same_280 ?_
                    refine x_lstore F [(8, .long ((posL J f t) - (J 14 (5 * f + t)))), (12, .int (nI (encO v))), (11, .int (nI (5 * f + t))), (10, .int (nI t)), (0, .ref (ad 0)), (1, .ref (ad 12)), (2, .ref (ad 13)), (3, .ref (ad 14)), (4, .ref (ad 16)), (5, .ref (ad 17)), (6, .ref (ad 18)), (7, .int (nI f))] dL_same_281 (by decide) rfl ?_
                    refine x_aload_n F dL_same_283 rfl 4 rfl ?_
                    refine x_iload F dL_same_284 11 rfl ?_
                    refine x_iload F dL_same_286 3 rfl ?_
                    refine z_callVlx F [.int (nI f), .int (nI t)] (c_X4_debt l D cy lo R ad q ns nt I1 J hL hfl (nI f) (nI t)) mc_X4_debt mv_X4_debt lk_L_78 (hR 0 (by decide)) sc_0 rfl rfl rfl dL_same_288 ⟨Nat.le_of_ble_eq_true rfl, Nat.le_of_ble_eq_true rfl⟩ ⟨by (try dsimp only); omega, by (try dsimp only); omega⟩ (Nat.le_of_ble_eq_true rfl) (fun E hE => absurd hE (fun h => absurd h.2 (by rw [car_2 (x := f) (y := t) (by omega) (by omega)]; decide))) (fun ok288 => ?_)
                    refine x_castl (y := J 14 (5 * f + t)) (rd_debt hS1 hf (by omega)) ?_
                    refine x_aload_n F dL_same_291 rfl 7 rfl ?_
                    refine x_iload F dL_same_292 2 rfl ?_
                    refine y_lald F (hR 14 (by decide)) ss_14 (vp_in_nI (n := 5 * f + t) (N := 25) (by omega) (by decide)) dL_same_294 ?_
                    refine x_castl (y := J 14 (5 * f + t)) (by rw [nI_clamp (by omega)]) ?_
                    refine x_lcmp F dL_same_295 ?_
                    refine x_if_ne F 378 dL_same_296 (by decide) (fun h296 => ?_) (fun h296 => ?_)
                    · exact (h296 (cmp_self rfl)).elim
                    · rw [lg_cmp_eq] at h296
                      refine x_aload_n F dL_same_299 rfl 4 rfl ?_
                      refine x_iload F dL_same_300 3 rfl ?_
                      refine x_iload F dL_same_302 11 rfl ?_
                      refine z_callVlx F [.int (nI t), .int (nI f)] (c_X4_debt l D cy lo R ad q ns nt I1 J hL hfl (nI t) (nI f)) mc_X4_debt mv_X4_debt lk_L_78 (hR 0 (by decide)) sc_0 rfl rfl rfl dL_same_304 ⟨Nat.le_of_ble_eq_true rfl, Nat.le_of_ble_eq_true rfl⟩ ⟨by (try dsimp only); omega, by (try dsimp only); omega⟩ (Nat.le_of_ble_eq_true rfl) (fun E hE => absurd hE (fun h => absurd h.2 (by rw [car_2 (x := t) (y := f) (by omega) (by omega)]; decide))) (fun ok304 => ?_)
                      refine x_castl (y := -(J 14 (5 * f + t))) (rd_debt2 hS1 hf (by omega)) ?_
                      refine x_aload_n F dL_same_307 rfl 7 rfl ?_
                      refine x_iload F dL_same_308 2 rfl ?_
                      refine y_lald F (hR 14 (by decide)) ss_14 (vp_in_nI (n := 5 * f + t) (N := 25) (by omega) (by decide)) dL_same_310 ?_
                      refine x_castl (y := J 14 (5 * f + t)) (by rw [nI_clamp (by omega)]) ?_
                      refine x_lneg F dL_same_311 ?_
                      refine x_lcmp F dL_same_312 ?_
                      refine x_if_ne F 378 dL_same_313 (by decide) (fun h313 => ?_) (fun h313 => ?_)
                      · exact (h313 (cmp_self rfl)).elim
                      · rw [lg_cmp_eq] at h313
                        refine x_aload_n F dL_same_316 rfl 4 rfl ?_
                        refine x_iload F dL_same_317 11 rfl ?_
                        refine x_iload F dL_same_319 3 rfl ?_
                        refine z_callVlx F [.int (nI f), .int (nI t)] (c_X4_charged l D cy lo R ad q ns nt I1 J hL hfl (nI f) (nI t)) mc_X4_charged mv_X4_charged lk_L_81 (hR 0 (by decide)) sc_0 rfl rfl rfl dL_same_321 ⟨Nat.le_of_ble_eq_true rfl, Nat.le_of_ble_eq_true rfl⟩ ⟨by (try dsimp only); omega, by (try dsimp only); omega⟩ (Nat.le_of_ble_eq_true rfl) (fun E hE => absurd hE (fun h => absurd h.2 (by rw [car_2 (x := f) (y := t) (by omega) (by omega)]; decide))) (fun ok321 => ?_)
                        refine x_castl (y := J 13 (5 * f + t)) (rd_chg hS1 hf (by omega)) ?_
                        refine x_aload_n F dL_same_324 rfl 6 rfl ?_
                        refine x_iload F dL_same_325 2 rfl ?_
                        refine y_lald F (hR 13 (by decide)) ss_13 (vp_in_nI (n := 5 * f + t) (N := 25) (by omega) (by decide)) dL_same_327 ?_
                        refine x_castl (y := J 13 (5 * f + t)) (by rw [nI_clamp (by omega)]) ?_
                        refine x_lcmp F dL_same_328 ?_
                        refine x_if_ne F 378 dL_same_329 (by decide) (fun h329 => ?_) (fun h329 => ?_)
                        · exact (h329 (cmp_self rfl)).elim
                        · rw [lg_cmp_eq] at h329
                          refine x_aload_n F dL_same_332 rfl 4 rfl ?_
                          refine x_iload F dL_same_333 11 rfl ?_
                          refine x_iload F dL_same_335 3 rfl ?_
                          refine z_callVix F [.int (nI f), .int (nI t)] (c_X4_isBarred l D cy lo R ad q ns nt I1 J hL hfl (nI f) (nI t)) mc_X4_isBarred mv_X4_isBarred lk_L_84 (hR 0 (by decide)) sc_0 rfl rfl rfl dL_same_337 ⟨Nat.le_of_ble_eq_true rfl, Nat.le_of_ble_eq_true rfl⟩ ⟨by (try dsimp only); omega, by (try dsimp only); omega⟩ (Nat.le_of_ble_eq_true rfl) (fun E hE => absurd hE (fun h => absurd h.2 (by rw [car_2 (x := f) (y := t) (by omega) (by omega)]; decide))) (fun ok337 => ?_)
                          refine x_cast (y := k_b (shutL I1 J f t)) (rd_bar hc1 hg1 hf (by omega)) ?_
                          refine x_iload F dL_same_340 11 rfl ?_
                          refine x_iload F dL_same_342 3 rfl ?_
                          refine x_aload_n F dL_same_344 rfl 5 rfl ?_
                          refine x_aload_n F dL_same_345 rfl 7 rfl ?_
                          refine z_callSi F [.int (nI f), .int (nI t), .ref (ad 12), .ref (ad 14)] (c_L_shut l D cy lo R ad q ns nt I1 J hR f t (by omega) (by omega)) mc_L_shut ms_L_shut lk_L_11 rfl rfl dL_same_346 ⟨Nat.le_of_ble_eq_true rfl, Nat.le_of_ble_eq_true rfl⟩ ⟨by (try dsimp only); omega, by (try dsimp only); omega⟩ (Nat.le_of_ble_eq_true rfl) ?_
                          refine x_icmp_ne F 378 dL_same_349 (by decide) (fun h349 => ?_) (fun h349 => ?_)
                          · exact (h349 rfl).elim
                          · refine x_aload_n F dL_same_352 rfl 4 rfl ?_
                            refine x_iload F dL_same_353 11 rfl ?_
                            refine x_iload F dL_same_355 3 rfl ?_
                            refine z_callVix F [.int (nI f), .int (nI t)] (c_X4_cost l D cy lo R ad q ns nt I1 J hL hfl (nI f) (nI t)) mc_X4_cost mv_X4_cost lk_L_88 (hR 0 (by decide)) sc_0 rfl rfl rfl dL_same_357 ⟨Nat.le_of_ble_eq_true rfl, Nat.le_of_ble_eq_true rfl⟩ ⟨by (try dsimp only); omega, by (try dsimp only); omega⟩ (Nat.le_of_ble_eq_true rfl) (fun E hE => absurd hE (fun h => absurd h.2 (by rw [car_2 (x := f) (y := t) (by omega) (by omega)]; decide))) (fun ok357 => ?_)
                            refine x_iload F dL_same_360 1 rfl ?_
                            refine x_if_ne F 369 dL_same_362 (by decide) (fun h362 => ?_) (fun h362 => ?_)
                            · replace h362 : ¬ (encO v) = 0 := fun z => h362 ((nI_eq (a := encO v) (b := 0) (by omega) (by omega)).mpr z)
                              obtain ⟨ww, hww, k5, kl, k1⟩ := encO_some hB (by omega)
                              rw [show encO v = enc ww by rw [hww]; rfl]
                              have hw0 := enc_0 k1
                              have hw1 := enc_lt5 k5 kl
                              rw [hww] at hB
                              refine x_iload F dL_same_369 1 rfl ?_
                              refine x_aload_n F dL_same_371 rfl 5 rfl ?_
                              refine z_callSi F [.int (nI (enc ww)), .ref (ad 12)] (c_L_cost l D cy lo R ad q ns nt (fbI I1 J (nI f) (nI t) 6) J hR ww k5 kl k1) mc_L_cost ms_L_cost lk_L_91 rfl rfl dL_same_372 ⟨Nat.le_of_ble_eq_true rfl, Nat.le_of_ble_eq_true rfl⟩ ⟨by (try dsimp only); omega, by (try dsimp only); omega⟩ (Nat.le_of_ble_eq_true rfl) ?_
                              refine x_cast (y := costC I1 J (nI f) (nI t)) (rd_cost1 hc1 (hS.gl.scr (scrE.fb hI1 J (nI f) (nI t))) hf (by omega) hB) ?_
                              refine x_icmp_eq F 380 dL_same_375 (by decide) (fun h375 => ?_) (fun h375 => ?_)
                              · refine x_iload F dL_same_380 1 rfl ?_
                                refine x_if_ne F 402 dL_same_382 (by decide) (fun h382 => ?_) (fun h382 => ?_)
                                · replace h382 : ¬ (enc ww) = 0 := fun z => h382 ((nI_eq (a := enc ww) (b := 0) (by omega) (by omega)).mpr z)
                                  refine x_aload_n F dL_same_402 rfl 4 rfl ?_
                                  refine x_iload F dL_same_403 11 rfl ?_
                                  refine x_iload F dL_same_405 3 rfl ?_
                                  refine x_iconst F (v := 0) dL_same_407 (by decide) ?_
                                  refine z_callViY F [.int (nI f), .int (nI t), .int 0] (c_X4_best l D cy lo R ad q ns nt (fbI I1 J (nI f) (nI t) 6) J hL hfl (nI f) (nI t) 0) mc_X4_best mv_X4_best lk_L_47 (hR 0 (by decide)) sc_0 rfl rfl rfl dL_same_408 ⟨Nat.le_of_ble_eq_true rfl, Nat.le_of_ble_eq_true rfl⟩ ⟨by (try dsimp only); omega, by (try dsimp only); omega⟩ (Nat.le_of_ble_eq_true rfl) (fun E hE => absurd hE (fun h => h.2.elim (fun h => absurd h (by rw [car_2 (x := f) (y := t) (by omega) (by omega)]; decide)) (fun h => (rd_best1 (hS.gc.scr (scrE.fb hI1 J (nI f) (nI t))) hf (by omega) hB (k := 0) (by omega)).2 h))) (fun ok408 => ?_)
                                  refine x_cast (y := nI f) (by have g9 := (rd_best1 (hS.gc.scr (scrE.fb hI1 J (nI f) (nI t))) hf (by omega) hB (k := 0) (by omega)).1; rw [way_hd hB.1] at g9; exact g9) ?_
                                  refine x_iload F dL_same_411 11 rfl ?_
                                  refine x_icmp_eq F 418 dL_same_413 (by decide) (fun h413 => ?_) (fun h413 => ?_)
                                  · replace h413 : f = f := (nI_eq (a := f) (b := f) (by omega) (by omega)).mp h413
                                    refine x_iconst F (v := 0) dL_same_418 (by decide) ?_
                                    refine x_istore F [(13, .int 0), (8, .long ((posL J f t) - (J 14 (5 * f + t)))), (12, .int (nI (enc ww))), (11, .int (nI (5 * f + t))), (10, .int (nI t)), (0, .ref (ad 0)), (1, .ref (ad 12)), (2, .ref (ad 13)), (3, .ref (ad 14)), (4, .ref (ad 16)), (5, .ref (ad 17)), (6, .ref (ad 18)), (7, .int (nI f))] dL_same_419 (by decide) rfl ?_
                                    have lp421 : ∀ (fu421 : Nat) (k : Nat) (I4 : Nat → Nat → Int32), ww.length - k < fu421 → (k ≤ ww.length) → (scrE I4 I) → XW D lo p l e { frames := 9, cells := 294, slots := 1764, locals := 170 } s m args below meth c 14 (153 + 28 * t + 13 + 3 * k) (6 * (153 + 28 * t + 13 + 3 * k)) Q R ad (k_c cy ad q ns nt I4 J) 421 [(13, .int (nI k)), (8, .long ((posL J f t) - (J 14 (5 * f + t)))), (12, .int (nI (enc ww))), (11, .int (nI (5 * f + t))), (10, .int (nI t)), (0, .ref (ad 0)), (1, .ref (ad 12)), (2, .ref (ad 13)), (3, .ref (ad 14)), (4, .ref (ad 16)), (5, .ref (ad 17)), (6, .ref (ad 18)), (7, .int (nI f))] [] := by
                                      intro fu421
                                      induction fu421 with
                                      | zero => intro k I4 hf421; exact absurd hf421 (Nat.not_lt_zero _)
                                      | succ fu421 ih421 =>
                                        intro k I4 hf421 hk hI4
                                        refine x_iload F dL_same_421 2 rfl ?_
                                        refine x_iconst F (v := 3) dL_same_423 (by decide) ?_
                                        refine x_iload F dL_same_424 0 rfl ?_
                                        refine x_imul F dL_same_426 ?_
                                        refine x_cast (y := nI (3 * k)) (pk_mul 3 k) ?_
                                        refine x_ishr F dL_same_427 ?_
                                        refine x_cast (y := nI (enc (List.drop k ww))) (row_sh (p := ww) (s := 3 * k) (k := k) k5 kl (by omega) (by omega)) ?_
                                        refine x_if_le F 464 dL_same_428 (by decide) (fun h428 => ?_) (fun h428 => ?_)
                                        · rw [row_le k5 kl] at h428
                                          refine x_iinc F [(10, .int ((nI t) + 1)), (13, .int (nI k)), (8, .long ((posL J f t) - (J 14 (5 * f + t)))), (12, .int (nI (enc ww))), (11, .int (nI (5 * f + t))), (0, .ref (ad 0)), (1, .ref (ad 12)), (2, .ref (ad 13)), (3, .ref (ad 14)), (4, .ref (ad 16)), (5, .ref (ad 17)), (6, .ref (ad 18)), (7, .int (nI f))] dL_same_464 4 rfl (by decide) rfl ?_
                                          refine x_goto F 248 dL_same_467 (by decide) ?_
                                          rw [nI_1]
                                          refine x_sub (lv' := [(10, .int (nI (t + 1))), (8, .long (posL J f (t + 1))), (0, .ref (ad 0)), (1, .ref (ad 12)), (2, .ref (ad 13)), (3, .ref (ad 14)), (4, .ref (ad 16)), (5, .ref (ad 17)), (6, .ref (ad 18)), (7, .int (nI f))]) [0, 2, 5, 6, 7, 8, 9, 10, 11, 12] (by rfl) ?_
                                          refine x_widen (k := 153 + 28 * (t + 1)) (n := 6 * (153 + 28 * (t + 1))) (by (try dsimp only); omega) (by (try dsimp only); omega) ?_
                                          exact ih248 (t + 1) I4 (by omega) (by omega) hI4
                                        · rw [row_le k5 kl] at h428
                                          have g1 := pD_lt (p := ww) (k := k) k5
                                          refine x_aload_n F dL_same_431 rfl 5 rfl ?_
                                          refine x_iload F dL_same_432 12 rfl ?_
                                          refine x_iload F dL_same_434 4 rfl ?_
                                          refine x_iload F dL_same_436 0 rfl ?_
                                          refine z_callViY F [.int (nI f), .int (nI t), .int (nI k)] (c_X4_best l D cy lo R ad q ns nt I4 J hL hfl (nI f) (nI t) (nI k)) mc_X4_best mv_X4_best lk_L_47 (hR 0 (by decide)) sc_0 rfl rfl rfl dL_same_438 ⟨Nat.le_of_ble_eq_true rfl, Nat.le_of_ble_eq_true rfl⟩ ⟨by (try dsimp only); omega, by (try dsimp only); omega⟩ (Nat.le_of_ble_eq_true rfl) (fun E hE => absurd hE (fun h => h.2.elim (fun h => absurd h (by rw [car_2 (x := f) (y := t) (by omega) (by omega)]; decide)) (fun h => (rd_best1 (hS.gc.scr hI4) hf (by omega) hB (k := k) (by omega)).2 h))) (fun ok438 => ?_)
                                          refine x_cast (y := nI (List.getD ww k 0)) ((rd_best1 (hS.gc.scr hI4) hf (by omega) hB (k := k) (by omega)).1) ?_
                                          refine x_iload F dL_same_441 2 rfl ?_
                                          refine x_iconst F (v := 3) dL_same_443 (by decide) ?_
                                          refine x_iload F dL_same_444 0 rfl ?_
                                          refine x_imul F dL_same_446 ?_
                                          refine x_cast (y := nI (3 * k)) (pk_mul 3 k) ?_
                                          refine x_ishr F dL_same_447 ?_
                                          refine x_cast (y := nI (enc (List.drop k ww))) (row_sh (p := ww) (s := 3 * k) (k := k) k5 kl (by omega) (by omega)) ?_
                                          refine x_bipush F (v := 7) dL_same_448 (by decide) ?_
                                          refine x_iand F dL_same_450 ?_
                                          refine x_cast (y := nI (List.getD ww k 0 + 1)) (row_an (p := ww) (k := k) k5 kl (by omega)) ?_
                                          refine x_iconst F (v := 1) dL_same_451 (by decide) ?_
                                          refine x_isub F dL_same_452 ?_
                                          refine x_cast (y := nI (List.getD ww k 0)) (nI_pred (List.getD ww k 0)) ?_
                                          refine x_icmp_eq F 458 dL_same_453 (by decide) (fun h453 => ?_) (fun h453 => ?_)
                                          · replace h453 : (List.getD ww k 0) = (List.getD ww k 0) := (nI_eq (a := List.getD ww k 0) (b := List.getD ww k 0) (by omega) (by omega)).mp h453
                                            refine x_iinc F [(13, .int ((nI k) + 1)), (8, .long ((posL J f t) - (J 14 (5 * f + t)))), (12, .int (nI (enc ww))), (11, .int (nI (5 * f + t))), (10, .int (nI t)), (0, .ref (ad 0)), (1, .ref (ad 12)), (2, .ref (ad 13)), (3, .ref (ad 14)), (4, .ref (ad 16)), (5, .ref (ad 17)), (6, .ref (ad 18)), (7, .int (nI f))] dL_same_458 0 rfl (by decide) rfl ?_
                                            refine x_goto F 421 dL_same_461 (by decide) ?_
                                            rw [nI_1]
                                            refine x_widen (k := 153 + 28 * t + 13 + 3 * (k + 1)) (n := 6 * (153 + 28 * t + 13 + 3 * (k + 1))) (by (try dsimp only); omega) (by (try dsimp only); omega) ?_
                                            exact ih421 (k + 1) (fbI I4 J (nI f) (nI t) 6) (by omega) (by omega) (scrE.fb hI4 J (nI f) (nI t))
                                          · exact (h453 rfl).elim
                                    refine x_widen (k := 153 + 28 * t + 13 + 3 * 0) (n := 6 * (153 + 28 * t + 13 + 3 * 0)) (by (try dsimp only); omega) (by (try dsimp only); omega) ?_
                                    exact lp421 (ww.length + 1) 0 (fbI (fbI I1 J (nI f) (nI t) 6) J (nI f) (nI t) 6) (by omega) (by omega) (scrE.fb (scrE.fb hI1 J (nI f) (nI t)) J (nI f) (nI t))
                                  · exact (h413 rfl).elim
                                · exact absurd ((nI_eq (a := enc ww) (b := 0) (by omega) (by omega)).mp h382) (by omega)
                              · exact (h375 rfl).elim
                            · replace h362 : (encO v) = 0 := (nI_eq (a := encO v) (b := 0) (by omega) (by omega)).mp h362
                              have hvn := encO_none hB (by omega)
                              have hcn : costC I1 J (nI f) (nI t) = -1 := cost_one hc1 hf (show t < 5 by omega) (v := none) (hvn ▸ hB)
                              refine x_iconst F (v := -1) dL_same_365 (by decide) ?_
                              refine x_goto F 375 dL_same_366 (by decide) ?_
                              refine x_icmp_eq F 380 dL_same_375 (by decide) (fun h375 => ?_) (fun h375 => ?_)
                              · refine x_iload F dL_same_380 1 rfl ?_
                                refine x_if_ne F 402 dL_same_382 (by decide) (fun h382 => ?_) (fun h382 => ?_)
                                · exact (h382 (by rw [show encO v = 0 by omega]; rfl)).elim
                                · replace h382 : (encO v) = 0 := (nI_eq (a := encO v) (b := 0) (by omega) (by omega)).mp h382
                                  refine x_aload_n F dL_same_385 rfl 4 rfl ?_
                                  refine x_bipush F (v := 6) dL_same_386 (by decide) ?_
                                  refine x_iload F dL_same_388 11 rfl ?_
                                  refine x_iload F dL_same_390 3 rfl ?_
                                  refine x_callHi F [.ref (ad 0), .int 6, .int (nI f), .int (nI t)] (c_rf_6 l D cy lo R ad q ns nt (fbI I1 J (nI f) (nI t) 6) J hR (nI f) (nI t) _ _ _ _ _ _ (c_X4_best l D cy lo R ad q ns nt (fbI I1 J (nI f) (nI t) 6) J hL hfl (nI f) (nI t) 0) (fun E u hx => Or.inl hx.1.1) (fun v9 u hp => absurd (rd_best0 (hS.gc.scr (scrE.fb hI1 J (nI f) (nI t))) hf (by omega) (hvn ▸ hB) 0) hp.1.2)) mh_refused ms_L_refused lk_L_65 rfl rfl dL_same_392 ⟨Nat.le_of_ble_eq_true rfl, Nat.le_of_ble_eq_true rfl⟩ ⟨by (try dsimp only); omega, by (try dsimp only); omega⟩ (Nat.le_of_ble_eq_true rfl) (fun r9 u9 hp9 => ?_)
                                  obtain ⟨rfl, rfl⟩ : r9 = 1 ∧ u9 = (R, ad, k_c cy ad q ns nt (fbI (fbI I1 J (nI f) (nI t) 6) J (nI f) (nI t) 6) J) := by
                                    rcases hp9 with ⟨hx, rfl⟩ | ⟨hx, rfl⟩ | ⟨hx, rfl⟩
                                    · exact ⟨rfl, hx.2⟩
                                    · exact absurd hx.1.1 (by decide)
                                    · exact absurd hx.1.1 (by decide)
                                  dsimp only
                                  refine x_iconst F (v := 1) dL_same_395 (by decide) ?_
                                  refine x_icmp_eq F 418 dL_same_396 (by decide) (fun h396 => ?_) (fun h396 => ?_)
                                  · refine x_iconst F (v := 0) dL_same_418 (by decide) ?_
                                    refine x_istore F [(13, .int 0), (8, .long ((posL J f t) - (J 14 (5 * f + t)))), (12, .int (nI (encO v))), (11, .int (nI (5 * f + t))), (10, .int (nI t)), (0, .ref (ad 0)), (1, .ref (ad 12)), (2, .ref (ad 13)), (3, .ref (ad 14)), (4, .ref (ad 16)), (5, .ref (ad 17)), (6, .ref (ad 18)), (7, .int (nI f))] dL_same_419 (by decide) rfl ?_
                                    rw [show encO v = 0 by omega]
                                    refine x_iload F dL_same_421 2 rfl ?_
                                    refine x_iconst F (v := 3) dL_same_423 (by decide) ?_
                                    refine x_iload F dL_same_424 0 rfl ?_
                                    refine x_imul F dL_same_426 ?_
                                    refine x_cast (y := nI (3 * 0)) (pk_mul 3 0) ?_
                                    refine x_ishr F dL_same_427 ?_
                                    refine x_cast (y := nI (0 / 2 ^ (3 * 0))) (sh_r (n := 0) (k := 3 * 0) (by omega) (by omega)) ?_
                                    refine x_if_le F 464 dL_same_428 (by decide) (fun h428 => ?_) (fun h428 => ?_)
                                    · refine x_iinc F [(10, .int ((nI t) + 1)), (13, .int 0), (8, .long ((posL J f t) - (J 14 (5 * f + t)))), (12, .int 0), (11, .int (nI (5 * f + t))), (0, .ref (ad 0)), (1, .ref (ad 12)), (2, .ref (ad 13)), (3, .ref (ad 14)), (4, .ref (ad 16)), (5, .ref (ad 17)), (6, .ref (ad 18)), (7, .int (nI f))] dL_same_464 4 rfl (by decide) rfl ?_
                                      refine x_goto F 248 dL_same_467 (by decide) ?_
                                      rw [nI_1]
                                      refine x_sub (lv' := [(10, .int (nI (t + 1))), (8, .long (posL J f (t + 1))), (0, .ref (ad 0)), (1, .ref (ad 12)), (2, .ref (ad 13)), (3, .ref (ad 14)), (4, .ref (ad 16)), (5, .ref (ad 17)), (6, .ref (ad 18)), (7, .int (nI f))]) [0, 2, 5, 6, 7, 8, 9, 10, 11, 12] (by rfl) ?_
                                      refine x_widen (k := 153 + 28 * (t + 1)) (n := 6 * (153 + 28 * (t + 1))) (by (try dsimp only); omega) (by (try dsimp only); omega) ?_
                                      exact ih248 (t + 1) (fbI (fbI I1 J (nI f) (nI t) 6) J (nI f) (nI t) 6) (by omega) (by omega) (scrE.fb (scrE.fb hI1 J (nI f) (nI t)) J (nI f) (nI t))
                                    · exact (h428 (by decide)).elim
                                  · exact False.elim (by revert h396; decide)
                              · exact (h375 hcn).elim
              refine x_sub (lv' := [(10, .int (nI 0)), (8, .long (posL J f 0)), (0, .ref (ad 0)), (1, .ref (ad 12)), (2, .ref (ad 13)), (3, .ref (ad 14)), (4, .ref (ad 16)), (5, .ref (ad 17)), (6, .ref (ad 18)), (7, .int (nI f))]) [0, 1, 2, 3, 4, 5, 6, 7, 8, 9] (by rfl) ?_
              refine x_widen (k := 153 + 28 * 0) (n := 6 * (153 + 28 * 0)) (by (try dsimp only); omega) (by (try dsimp only); omega) ?_
              exact lp248 6 0 I (by omega) (by omega) (scrE.rf I)
            · replace h103 : ¬ nt ≤ j := fun z => h103 ((nI_leI (a := nt) (b := j) (by omega) (by omega)).mpr z)
              obtain ⟨⟨⟨q1, q2⟩, k0, k1⟩, kst, kpr, k2, k3, k4, k5, k6, pp, ⟨p1, p2, p3, p4⟩, pR, p7⟩ := hS.cal j (by omega)
              refine x_aload F dL_same_106 6 rfl ?_
              refine x_bipush F (v := 8) dL_same_108 (by decide) ?_
              refine x_iload F dL_same_110 0 rfl ?_
              refine x_imul F dL_same_112 ?_
              refine x_cast (y := nI (8 * j)) (pk_mul 8 j) ?_
              refine x_bipush F (v := 7) dL_same_113 (by decide) ?_
              refine x_iadd F dL_same_115 ?_
              refine x_cast (y := nI (8 * j + 7)) (nI_add (8 * j) 7) ?_
              refine y_iald F (hR 17 (by decide)) ss_17 (vp_in_nI (n := 8 * j + 7) (N := 56) (by omega) (by decide)) dL_same_116 ?_
              refine x_cast (y := I 17 (8 * j + 7)) (by rw [nI_clamp (by omega)]) ?_
              refine x_cast (y := nI (enc pp)) (p7) ?_
              refine x_istore F [(9, .int (nI (enc pp))), (8, .int (nI j)), (0, .ref (ad 0)), (1, .ref (ad 12)), (2, .ref (ad 13)), (3, .ref (ad 14)), (4, .ref (ad 16)), (5, .ref (ad 17)), (6, .ref (ad 18)), (7, .int (nI f))] dL_same_117 (by decide) rfl ?_
              refine x_iconst F (v := 0) dL_same_119 (by decide) ?_
              refine x_istore F [(10, .int 0), (9, .int (nI (enc pp))), (8, .int (nI j)), (0, .ref (ad 0)), (1, .ref (ad 12)), (2, .ref (ad 13)), (3, .ref (ad 14)), (4, .ref (ad 16)), (5, .ref (ad 17)), (6, .ref (ad 18)), (7, .int (nI f))] dL_same_120 (by decide) rfl ?_
              have lp122 : ∀ (fu122 : Nat) (k : Nat), pp.length - k < fu122 → (k ≤ pp.length) → XW D lo p l e { frames := 9, cells := 294, slots := 1764, locals := 170 } s m args below meth c 14 (48 + 15 * j + 2 * k) (6 * (48 + 15 * j + 2 * k)) Q R ad (k_c cy ad q ns nt I J) 122 [(10, .int (nI k)), (9, .int (nI (enc pp))), (8, .int (nI j)), (0, .ref (ad 0)), (1, .ref (ad 12)), (2, .ref (ad 13)), (3, .ref (ad 14)), (4, .ref (ad 16)), (5, .ref (ad 17)), (6, .ref (ad 18)), (7, .int (nI f))] [] := by
                intro fu122
                induction fu122 with
                | zero => intro k hf122; exact absurd hf122 (Nat.not_lt_zero _)
                | succ fu122 ih122 =>
                  intro k hf122 hk
                  refine x_iload F dL_same_122 1 rfl ?_
                  refine x_iconst F (v := 3) dL_same_124 (by decide) ?_
                  refine x_iload F dL_same_125 0 rfl ?_
                  refine x_imul F dL_same_127 ?_
                  refine x_cast (y := nI (3 * k)) (pk_mul 3 k) ?_
                  refine x_ishr F dL_same_128 ?_
                  refine x_cast (y := nI (enc (List.drop k pp))) (row_sh (p := pp) (s := 3 * k) (k := k) p3 p2 (by omega) (by omega)) ?_
                  refine x_if_le F 163 dL_same_129 (by decide) (fun h129 => ?_) (fun h129 => ?_)
                  · rw [row_le p3 p2] at h129
                    refine x_aload_n F dL_same_163 rfl 3 rfl ?_
                    refine x_iload F dL_same_164 2 rfl ?_
                    refine z_callVix F [.int (nI j)] (c_X4_state l D cy lo R ad q ns nt I J hL hfl (nI j)) mc_X4_state mv_X4_state lk_L_69 (hR 0 (by decide)) sc_0 rfl rfl rfl dL_same_166 ⟨Nat.le_of_ble_eq_true rfl, Nat.le_of_ble_eq_true rfl⟩ ⟨by (try dsimp only); omega, by (try dsimp only); omega⟩ (Nat.le_of_ble_eq_true rfl) (fun E hE => absurd hE (fun h => absurd h.2 (by rw [isN_ok (n := nt) (i := j) (by omega) (by omega)]; decide))) (fun ok166 => ?_)
                    refine x_cast (y := I 17 (8 * j + 2)) (by rw [nI_clamp (by omega)]; exact k2.symm) ?_
                    refine x_aload F dL_same_169 8 rfl ?_
                    refine x_bipush F (v := 8) dL_same_171 (by decide) ?_
                    refine x_iload F dL_same_173 2 rfl ?_
                    refine x_imul F dL_same_175 ?_
                    refine x_cast (y := nI (8 * j)) (pk_mul 8 j) ?_
                    refine x_iconst F (v := 2) dL_same_176 (by decide) ?_
                    refine x_iadd F dL_same_177 ?_
                    refine x_cast (y := nI (8 * j + 2)) (nI_add (8 * j) 2) ?_
                    refine y_iald F (hR 17 (by decide)) ss_17 (vp_in_nI (n := 8 * j + 2) (N := 56) (by omega) (by decide)) dL_same_178 ?_
                    refine x_cast (y := I 17 (8 * j + 2)) (by rw [nI_clamp (by omega)]) ?_
                    refine x_icmp_ne F 234 dL_same_179 (by decide) (fun h179 => ?_) (fun h179 => ?_)
                    · exact (h179 rfl).elim
                    · refine x_aload_n F dL_same_182 rfl 3 rfl ?_
                      refine x_iload F dL_same_183 2 rfl ?_
                      refine z_callVix F [.int (nI j)] (c_X4_minutes l D cy lo R ad q ns nt I J hL hfl (nI j)) mc_X4_minutes mv_X4_minutes lk_L_72 (hR 0 (by decide)) sc_0 rfl rfl rfl dL_same_185 ⟨Nat.le_of_ble_eq_true rfl, Nat.le_of_ble_eq_true rfl⟩ ⟨by (try dsimp only); omega, by (try dsimp only); omega⟩ (Nat.le_of_ble_eq_true rfl) (fun E hE => absurd hE (fun h => absurd h.2 (by rw [isN_ok (n := nt) (i := j) (by omega) (by omega)]; decide))) (fun ok185 => ?_)
                      refine x_cast (y := I 17 (8 * j + 5)) (by rw [nI_clamp (by omega)]; exact k5.symm) ?_
                      refine x_aload F dL_same_188 8 rfl ?_
                      refine x_bipush F (v := 8) dL_same_190 (by decide) ?_
                      refine x_iload F dL_same_192 2 rfl ?_
                      refine x_imul F dL_same_194 ?_
                      refine x_cast (y := nI (8 * j)) (pk_mul 8 j) ?_
                      refine x_iconst F (v := 5) dL_same_195 (by decide) ?_
                      refine x_iadd F dL_same_196 ?_
                      refine x_cast (y := nI (8 * j + 5)) (nI_add (8 * j) 5) ?_
                      refine y_iald F (hR 17 (by decide)) ss_17 (vp_in_nI (n := 8 * j + 5) (N := 56) (by omega) (by decide)) dL_same_197 ?_
                      refine x_cast (y := I 17 (8 * j + 5)) (by rw [nI_clamp (by omega)]) ?_
                      refine x_icmp_ne F 234 dL_same_198 (by decide) (fun h198 => ?_) (fun h198 => ?_)
                      · exact (h198 rfl).elim
                      · refine x_aload_n F dL_same_201 rfl 3 rfl ?_
                        refine x_iload F dL_same_202 2 rfl ?_
                        refine z_callVix F [.int (nI j)] (c_X4_moved l D cy lo R ad q ns nt I J hL hfl (nI j)) mc_X4_moved mv_X4_moved lk_L_75 (hR 0 (by decide)) sc_0 rfl rfl rfl dL_same_204 ⟨Nat.le_of_ble_eq_true rfl, Nat.le_of_ble_eq_true rfl⟩ ⟨by (try dsimp only); omega, by (try dsimp only); omega⟩ (Nat.le_of_ble_eq_true rfl) (fun E hE => absurd hE (fun h => absurd h.2 (by rw [isN_ok (n := nt) (i := j) (by omega) (by omega)]; decide))) (fun ok204 => ?_)
                        refine x_cast (y := I 17 (8 * j + 6)) (by rw [nI_clamp (by omega)]; exact k6.symm) ?_
                        refine x_aload F dL_same_207 8 rfl ?_
                        refine x_bipush F (v := 8) dL_same_209 (by decide) ?_
                        refine x_iload F dL_same_211 2 rfl ?_
                        refine x_imul F dL_same_213 ?_
                        refine x_cast (y := nI (8 * j)) (pk_mul 8 j) ?_
                        refine x_bipush F (v := 6) dL_same_214 (by decide) ?_
                        refine x_iadd F dL_same_216 ?_
                        refine x_cast (y := nI (8 * j + 6)) (nI_add (8 * j) 6) ?_
                        refine y_iald F (hR 17 (by decide)) ss_17 (vp_in_nI (n := 8 * j + 6) (N := 56) (by omega) (by decide)) dL_same_217 ?_
                        refine x_cast (y := I 17 (8 * j + 6)) (by rw [nI_clamp (by omega)]) ?_
                        refine x_icmp_ne F 234 dL_same_218 (by decide) (fun h218 => ?_) (fun h218 => ?_)
                        · exact (h218 rfl).elim
                        · refine x_aload_n F dL_same_221 rfl 3 rfl ?_
                          refine x_iconst F (v := 5) dL_same_222 (by decide) ?_
                          refine x_iload F dL_same_223 2 rfl ?_
                          refine x_iload F dL_same_225 0 rfl ?_
                          refine x_callHi F [.ref (ad 0), .int 5, .int (nI j), .int (nI k)] (c_rf_5 l D cy lo R ad q ns nt I J hR (nI j) (nI k) _ _ _ _ _ _ (c_X4_way l D cy lo R ad q ns nt I J hL hfl (nI j) (nI k)) (fun E u hx => Or.inl hx.1.1) (fun v9 u hp => absurd (by rw [nI_clamp (by omega), show k = pp.length by omega]; exact rou_no pR p2) hp.1.2)) mh_refused ms_L_refused lk_L_65 rfl rfl dL_same_227 ⟨Nat.le_of_ble_eq_true rfl, Nat.le_of_ble_eq_true rfl⟩ ⟨by (try dsimp only); omega, by (try dsimp only); omega⟩ (Nat.le_of_ble_eq_true rfl) (fun r9 u9 hp9 => ?_)
                          obtain ⟨rfl, rfl⟩ : r9 = 1 ∧ u9 = (R, ad, k_c cy ad q ns nt I J) := by
                            rcases hp9 with ⟨hx, rfl⟩ | ⟨hx, rfl⟩ | ⟨hx, rfl⟩
                            · exact ⟨rfl, hx.2⟩
                            · exact absurd hx.1.1 (by decide)
                            · exact absurd hx.1.1 (by decide)
                          dsimp only
                          refine x_iconst F (v := 1) dL_same_230 (by decide) ?_
                          refine x_icmp_eq F 236 dL_same_231 (by decide) (fun h231 => ?_) (fun h231 => ?_)
                          · refine x_iinc F [(8, .int ((nI j) + 1)), (10, .int (nI k)), (9, .int (nI (enc pp))), (0, .ref (ad 0)), (1, .ref (ad 12)), (2, .ref (ad 13)), (3, .ref (ad 14)), (4, .ref (ad 16)), (5, .ref (ad 17)), (6, .ref (ad 18)), (7, .int (nI f))] dL_same_236 2 rfl (by decide) rfl ?_
                            refine x_goto F 97 dL_same_239 (by decide) ?_
                            rw [nI_1]
                            refine x_sub [0, 3, 4, 5, 6, 7, 8, 9, 10] rfl ?_
                            refine x_widen (k := 48 + 15 * (j + 1)) (n := 6 * (48 + 15 * (j + 1))) (by (try dsimp only); omega) (by (try dsimp only); omega) ?_
                            exact ih97 (j + 1) (by omega) (by omega)
                          · exact False.elim (by revert h231; decide)
                  · rw [row_le p3 p2] at h129
                    have g1 := pD_lt (p := pp) (k := k) p3
                    refine x_aload_n F dL_same_132 rfl 3 rfl ?_
                    refine x_iload F dL_same_133 2 rfl ?_
                    refine x_iload F dL_same_135 0 rfl ?_
                    refine z_callVix F [.int (nI j), .int (nI k)] (c_X4_way l D cy lo R ad q ns nt I J hL hfl (nI j) (nI k)) mc_X4_way mv_X4_way lk_L_44 (hR 0 (by decide)) sc_0 rfl rfl rfl dL_same_137 ⟨Nat.le_of_ble_eq_true rfl, Nat.le_of_ble_eq_true rfl⟩ ⟨by (try dsimp only); omega, by (try dsimp only); omega⟩ (Nat.le_of_ble_eq_true rfl) (fun E hE => absurd hE (fun h => h.2.elim (fun h => absurd h (by rw [isN_ok (n := nt) (i := j) (by omega) (by omega)]; decide)) (fun h => absurd h (by rw [nI_clamp (by omega), rou_at pR p2 (by omega)]; exact nI_m1ne (by omega))))) (fun ok137 => ?_)
                    refine x_cast (y := nI (List.getD pp k 0)) (by rw [nI_clamp (by omega)]; exact rou_at pR p2 (by omega)) ?_
                    refine x_iload F dL_same_140 1 rfl ?_
                    refine x_iconst F (v := 3) dL_same_142 (by decide) ?_
                    refine x_iload F dL_same_143 0 rfl ?_
                    refine x_imul F dL_same_145 ?_
                    refine x_cast (y := nI (3 * k)) (pk_mul 3 k) ?_
                    refine x_ishr F dL_same_146 ?_
                    refine x_cast (y := nI (enc (List.drop k pp))) (row_sh (p := pp) (s := 3 * k) (k := k) p3 p2 (by omega) (by omega)) ?_
                    refine x_bipush F (v := 7) dL_same_147 (by decide) ?_
                    refine x_iand F dL_same_149 ?_
                    refine x_cast (y := nI (List.getD pp k 0 + 1)) (row_an (p := pp) (k := k) p3 p2 (by omega)) ?_
                    refine x_iconst F (v := 1) dL_same_150 (by decide) ?_
                    refine x_isub F dL_same_151 ?_
                    refine x_cast (y := nI (List.getD pp k 0)) (nI_pred (List.getD pp k 0)) ?_
                    refine x_icmp_eq F 157 dL_same_152 (by decide) (fun h152 => ?_) (fun h152 => ?_)
                    · replace h152 : (List.getD pp k 0) = (List.getD pp k 0) := (nI_eq (a := List.getD pp k 0) (b := List.getD pp k 0) (by omega) (by omega)).mp h152
                      refine x_iinc F [(10, .int ((nI k) + 1)), (9, .int (nI (enc pp))), (8, .int (nI j)), (0, .ref (ad 0)), (1, .ref (ad 12)), (2, .ref (ad 13)), (3, .ref (ad 14)), (4, .ref (ad 16)), (5, .ref (ad 17)), (6, .ref (ad 18)), (7, .int (nI f))] dL_same_157 0 rfl (by decide) rfl ?_
                      refine x_goto F 122 dL_same_160 (by decide) ?_
                      rw [nI_1]
                      refine x_widen (k := 48 + 15 * j + 2 * (k + 1)) (n := 6 * (48 + 15 * j + 2 * (k + 1))) (by (try dsimp only); omega) (by (try dsimp only); omega) ?_
                      exact ih122 (k + 1) (by omega) (by omega)
                    · exact (h152 rfl).elim
              refine x_widen (k := 48 + 15 * j + 2 * 0) (n := 6 * (48 + 15 * j + 2 * 0)) (by (try dsimp only); omega) (by (try dsimp only); omega) ?_
              exact lp122 (pp.length + 1) 0 (by omega) (by omega)
        refine x_widen (k := 48 + 15 * 0) (n := 6 * (48 + 15 * 0)) (by (try dsimp only); omega) (by (try dsimp only); omega) ?_
        exact lp97 (nt + 1) 0 (by omega) (by omega)
      · replace h9 : ¬ ns ≤ i := fun z => h9 ((nI_leI (a := ns) (b := i) (by omega) (by omega)).mpr z)
        have hsb := hS.sub i (by omega)
        refine x_aload_n F dL_same_12 rfl 1 rfl ?_
        refine x_iload F dL_same_13 0 rfl ?_
        refine z_callVix F [.int (nI i)] (c_X4_balance l D cy lo R ad q ns nt I J hL hfl (nI i)) mc_X4_balance mv_X4_balance lk_L_59 (hR 0 (by decide)) sc_0 rfl rfl rfl dL_same_15 ⟨Nat.le_of_ble_eq_true rfl, Nat.le_of_ble_eq_true rfl⟩ ⟨by (try dsimp only); omega, by (try dsimp only); omega⟩ (Nat.le_of_ble_eq_true rfl) (fun E hE => absurd hE (fun h => absurd h.2 (by rw [isN_ok (n := ns) (i := i) (by omega) (by omega)]; decide))) (fun ok15 => ?_)
        refine x_cast (y := I 16 (4 * i + 1)) (by rw [nI_clamp (by omega)]; exact hsb.2.1.symm) ?_
        refine x_aload F dL_same_18 5 rfl ?_
        refine x_iconst F (v := 4) dL_same_20 (by decide) ?_
        refine x_iload F dL_same_21 0 rfl ?_
        refine x_imul F dL_same_23 ?_
        refine x_cast (y := nI (4 * i)) (pk_mul 4 i) ?_
        refine x_iconst F (v := 1) dL_same_24 (by decide) ?_
        refine x_iadd F dL_same_25 ?_
        refine x_cast (y := nI (4 * i + 1)) (nI_add (4 * i) 1) ?_
        refine y_iald F (hR 16 (by decide)) ss_16 (vp_in_nI (n := 4 * i + 1) (N := 32) (by omega) (by decide)) dL_same_26 ?_
        refine x_cast (y := I 16 (4 * i + 1)) (by rw [nI_clamp (by omega)]) ?_
        refine x_icmp_ne F 86 dL_same_27 (by decide) (fun h27 => ?_) (fun h27 => ?_)
        · exact (h27 rfl).elim
        · refine x_aload_n F dL_same_30 rfl 1 rfl ?_
          refine x_iload F dL_same_31 0 rfl ?_
          refine z_callVix F [.int (nI i)] (c_X4_bundle l D cy lo R ad q ns nt I J hL hfl (nI i)) mc_X4_bundle mv_X4_bundle lk_L_62 (hR 0 (by decide)) sc_0 rfl rfl rfl dL_same_33 ⟨Nat.le_of_ble_eq_true rfl, Nat.le_of_ble_eq_true rfl⟩ ⟨by (try dsimp only); omega, by (try dsimp only); omega⟩ (Nat.le_of_ble_eq_true rfl) (fun E hE => absurd hE (fun h => absurd h.2 (by rw [isN_ok (n := ns) (i := i) (by omega) (by omega)]; decide))) (fun ok33 => ?_)
          refine x_cast (y := I 16 (4 * i + 2)) (by rw [nI_clamp (by omega)]; exact hsb.2.2.1.symm) ?_
          refine x_aload F dL_same_36 5 rfl ?_
          refine x_iconst F (v := 4) dL_same_38 (by decide) ?_
          refine x_iload F dL_same_39 0 rfl ?_
          refine x_imul F dL_same_41 ?_
          refine x_cast (y := nI (4 * i)) (pk_mul 4 i) ?_
          refine x_iconst F (v := 2) dL_same_42 (by decide) ?_
          refine x_iadd F dL_same_43 ?_
          refine x_cast (y := nI (4 * i + 2)) (nI_add (4 * i) 2) ?_
          refine y_iald F (hR 16 (by decide)) ss_16 (vp_in_nI (n := 4 * i + 2) (N := 32) (by omega) (by decide)) dL_same_44 ?_
          refine x_cast (y := I 16 (4 * i + 2)) (by rw [nI_clamp (by omega)]) ?_
          refine x_icmp_ne F 86 dL_same_45 (by decide) (fun h45 => ?_) (fun h45 => ?_)
          · exact (h45 rfl).elim
          · refine x_aload_n F dL_same_48 rfl 1 rfl ?_
            refine x_iload F dL_same_49 0 rfl ?_
            refine x_iconst F (v := 0) dL_same_51 (by decide) ?_
            refine z_callVix F [.int (nI i), .int 0] (c_X4_home l D cy lo R ad q ns nt I J hL hfl (nI i) 0) mc_X4_home mv_X4_home lk_L_50 (hR 0 (by decide)) sc_0 rfl rfl rfl dL_same_52 ⟨Nat.le_of_ble_eq_true rfl, Nat.le_of_ble_eq_true rfl⟩ ⟨by (try dsimp only); omega, by (try dsimp only); omega⟩ (Nat.le_of_ble_eq_true rfl) (fun E hE => absurd hE (fun h => h.2.elim (fun h => absurd h (by rw [isN_ok (n := ns) (i := i) (by omega) (by omega)]; decide)) (fun h => (rd_home0 hsb).2 (by rw [nI_clamp (by omega)] at h; exact h)))) (fun ok52 => ?_)
            refine x_cast (y := I 16 (4 * i)) (by rw [nI_clamp (by omega)]; exact (rd_home0 hsb).1) ?_
            refine x_aload F dL_same_55 5 rfl ?_
            refine x_iconst F (v := 4) dL_same_57 (by decide) ?_
            refine x_iload F dL_same_58 0 rfl ?_
            refine x_imul F dL_same_60 ?_
            refine x_cast (y := nI (4 * i)) (pk_mul 4 i) ?_
            refine y_iald F (hR 16 (by decide)) ss_16 (vp_in_nI (n := 4 * i) (N := 32) (by omega) (by decide)) dL_same_61 ?_
            refine x_cast (y := I 16 (4 * i)) (by rw [nI_clamp (by omega)]) ?_
            refine x_icmp_ne F 86 dL_same_62 (by decide) (fun h62 => ?_) (fun h62 => ?_)
            · exact (h62 rfl).elim
            · refine x_aload_n F dL_same_65 rfl 1 rfl ?_
              refine x_bipush F (v := 7) dL_same_66 (by decide) ?_
              refine x_iload F dL_same_68 0 rfl ?_
              refine x_aload F dL_same_70 5 rfl ?_
              refine x_iconst F (v := 4) dL_same_72 (by decide) ?_
              refine x_iload F dL_same_73 0 rfl ?_
              refine x_imul F dL_same_75 ?_
              refine x_cast (y := nI (4 * i)) (pk_mul 4 i) ?_
              refine x_iconst F (v := 3) dL_same_76 (by decide) ?_
              refine x_iadd F dL_same_77 ?_
              refine x_cast (y := nI (4 * i + 3)) (nI_add (4 * i) 3) ?_
              refine y_iald F (hR 16 (by decide)) ss_16 (vp_in_nI (n := 4 * i + 3) (N := 32) (by omega) (by decide)) dL_same_78 ?_
              refine x_cast (y := I 16 (4 * i + 3)) (by rw [nI_clamp (by omega)]) ?_
              refine x_callHi F [.ref (ad 0), .int 7, .int (nI i), .int (I 16 (4 * i + 3))] (c_rf_7 l D cy lo R ad q ns nt I J hR (nI i) (I 16 (4 * i + 3)) _ _ _ _ _ _ (c_X4_home l D cy lo R ad q ns nt I J hL hfl (nI i) (I 16 (4 * i + 3))) (fun E u hx => Or.inl hx.1.1) (fun v9 u hp => absurd (by rw [nI_clamp (by omega)]; exact rd_homeN hsb) hp.1.2)) mh_refused ms_L_refused lk_L_65 rfl rfl dL_same_79 ⟨Nat.le_of_ble_eq_true rfl, Nat.le_of_ble_eq_true rfl⟩ ⟨by (try dsimp only); omega, by (try dsimp only); omega⟩ (Nat.le_of_ble_eq_true rfl) (fun r9 u9 hp9 => ?_)
              obtain ⟨rfl, rfl⟩ : r9 = 1 ∧ u9 = (R, ad, k_c cy ad q ns nt I J) := by
                rcases hp9 with ⟨hx, rfl⟩ | ⟨hx, rfl⟩ | ⟨hx, rfl⟩
                · exact ⟨rfl, hx.2⟩
                · exact absurd hx.1.1 (by decide)
                · exact absurd hx.1.1 (by decide)
              dsimp only
              refine x_iconst F (v := 1) dL_same_82 (by decide) ?_
              refine x_icmp_eq F 88 dL_same_83 (by decide) (fun h83 => ?_) (fun h83 => ?_)
              · refine x_iinc F [(8, .int ((nI i) + 1)), (0, .ref (ad 0)), (1, .ref (ad 12)), (2, .ref (ad 13)), (3, .ref (ad 14)), (4, .ref (ad 16)), (5, .ref (ad 17)), (6, .ref (ad 18)), (7, .int (nI f))] dL_same_88 0 rfl (by decide) rfl ?_
                refine x_goto F 3 dL_same_91 (by decide) ?_
                rw [nI_1]
                refine x_widen (k := 6 * (i + 1)) (n := 6 * (6 * (i + 1))) (by (try dsimp only); omega) (by (try dsimp only); omega) ?_
                exact ih3 (i + 1) (by omega) (by omega)
              · exact False.elim (by revert h83; decide)
  exact lp3 (ns + 1) 0 (by omega) (by omega)
