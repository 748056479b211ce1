section LC
variable {D : va_G} {cy : Nat → ClassId} {lo : Nat} {p : Program} {l : Launch} {e : Env} {s : State} {m : MethodId} {args : Array Value} {below : List Frame} {meth : Method} {c : Code} {cells slots : Nat} {Q : State → Prop} {R : List Nat} {ad : Nat → Nat} {b : Nat} {q : Nat → Nat → Nat} {ns nt T : Nat} {I : Nat → Nat → Int32} {J : Nat → Nat → Int64}
set_option maxHeartbeats 4000000 in
set_option maxRecDepth 100000 in
/-- an act: number -/
theorem law_number (hfl : l.stackTraces = false) (F : k_F p m c cL_law 20 s RL D cy lo) (hRX : k_RX R ns nt) (h : SR q ns nt T I J I J) (hT : T ≤ 20000) (hT2 : 299 ≤ T) {turn f t : Nat} {xv yv kv : Int32} (hf : f < 5) (ht : t < 5) {x15 : Int32} (hc : cells + 400 ≤ 600104) (hs : slots + 2400 ≤ 7301314)
    (K : ∀ (R' : List Nat) (ad' : Nat → Nat) (q' : Nat → Nat → Nat) (ns' nt' : Nat) (I' : Nat → Nat → Int32) (J' : Nat → Nat → Int64), k_RX R' ns' nt' → (∀ y, y < 40 → ad' y = ad y) → 1 ≤ ns' → SR q' ns' nt' (T + 200) I' J' I' J' → XW D lo p l e room_1 s m args below meth c 20 (cells + 400) (slots + 2400) Q R' ad' (k_c cy ad' q' ns' nt' I' J') 1344 (k_LV ad' b turn) []) :
    XW D lo p l e room_1 s m args below meth c 20 cells slots Q R ad (k_c cy ad q ns nt I J) 204 ((15, .int x15) :: (14, .int (nI t)) :: (13, .int (nI f)) :: (12, .int kv) :: (11, .int yv) :: (10, .int xv) :: k_LV ad b turn) [] := by
  have hR := hRX.1.1
  have hL := hRX.1
  have hns := h.hns
  have hnt := h.hnt
  refine x_aload F dL_law_204 7 rfl ?_
  refine x_iconst F (v := 0) dL_law_206 (by decide) ?_
  refine y_iald F (hR 18 (by decide)) ss_18 (show vp_in (nI 0) 2 from vp_in_nI (by decide) (by decide)) dL_law_207 ?_
  refine x_cast (y := I 18 0) (by rw [show (0 : Int32).toNatClampNeg = 0 from by decide]) ?_
  refine x_cast (y := nI ns) (h.g0) ?_
  refine x_bipush F (v := 8) dL_law_208 (by decide) ?_
  refine x_icmp_ne F 216 dL_law_210 (by decide) (fun h210 => ?_) (fun h210 => ?_)
  · replace h210 : ¬ ns = 8 := fun z => h210 ((nI_eq (a := ns) (b := 8) (by omega) (by omega)).mpr z)
    refine x_iconst F (v := 4) dL_law_216 (by decide) ?_
    refine x_aload F dL_law_217 7 rfl ?_
    refine x_iconst F (v := 0) dL_law_219 (by decide) ?_
    refine y_iald F (hR 18 (by decide)) ss_18 (show vp_in (nI 0) 2 from vp_in_nI (by decide) (by decide)) dL_law_220 ?_
    refine x_cast (y := I 18 0) (by rw [show (0 : Int32).toNatClampNeg = 0 from by decide]) ?_
    refine x_cast (y := nI ns) (h.g0) ?_
    refine x_imul F dL_law_221 ?_
    refine x_cast (y := nI (4 * ns)) (pk_mul 4 ns) ?_
    refine x_istore F [(16, .int (nI (4 * ns))), (15, .int x15), (14, .int (nI t)), (13, .int (nI f)), (12, .int kv), (11, .int yv), (10, .int xv), (9, .int (nI turn)), (8, .ref (ad 18)), (7, .ref (ad 17)), (6, .ref (ad 16)), (5, .ref (ad 15)), (4, .ref (ad 14)), (3, .ref (ad 13)), (2, .ref (ad 12)), (1, .ref (ad 0)), (0, .ref b)] dL_law_222 (by decide) rfl ?_
    refine x_aload F dL_law_224 10 rfl ?_
    refine x_iload F dL_law_226 0 rfl ?_
    refine x_iload F dL_law_228 3 rfl ?_
    refine y_iast F (hR 16 (by decide)) ss_16 (vp_in_nI (n := 4 * ns) (N := 32) (by omega) (by decide)) dL_law_230 ?_
    refine x_world (congrArg (fun z => k_c cy ad q ns nt z J) (show wI I 16 ((nI (4 * ns)).toNatClampNeg) (nI f) = wI I 16 (4 * ns) (nI f) by rw [nI_clamp (n := 4 * ns) (by omega)])) ?_
    refine x_aload F dL_law_231 10 rfl ?_
    refine x_iload F dL_law_233 0 rfl ?_
    refine x_iconst F (v := 1) dL_law_235 (by decide) ?_
    refine x_iadd F dL_law_236 ?_
    refine x_cast (y := nI (4 * ns + 1)) (nI_add (4 * ns) 1) ?_
    refine x_iload F dL_law_237 5 rfl ?_
    refine x_sipush F (v := 300) dL_law_239 (by decide) ?_
    refine z_callSi F [.int yv, .int 300] (c_L_low l D cy lo R ad _ yv 300 (by decide)) mc_L_low ms_L_low lk_L_103 rfl rfl dL_law_242 ⟨Nat.le_of_ble_eq_true rfl, Nat.le_of_ble_eq_true rfl⟩ ⟨by (try dsimp only); show _ ≤ 600104; omega, by (try dsimp only); show _ ≤ 7301314; omega⟩ (Nat.le_of_ble_eq_true rfl) ?_
    obtain ⟨j242, hj242, ej242⟩ := low_n yv (n := 300) (by omega) (by omega)
    rw [show lowI yv 300 = nI j242 from ej242]
    refine y_iast F (hR 16 (by decide)) ss_16 (vp_in_nI (n := 4 * ns + 1) (N := 32) (by omega) (by decide)) dL_law_245 ?_
    refine x_world (congrArg (fun z => k_c cy ad q ns nt z J) (show wI (wI I 16 (4 * ns) (nI f)) 16 ((nI (4 * ns + 1)).toNatClampNeg) (nI j242) = wI (wI I 16 (4 * ns) (nI f)) 16 (4 * ns + 1) (nI j242) by rw [nI_clamp (n := 4 * ns + 1) (by omega)])) ?_
    refine x_aload F dL_law_246 10 rfl ?_
    refine x_iload F dL_law_248 0 rfl ?_
    refine x_iconst F (v := 2) dL_law_250 (by decide) ?_
    refine x_iadd F dL_law_251 ?_
    refine x_cast (y := nI (4 * ns + 2)) (nI_add (4 * ns) 2) ?_
    refine x_iload F dL_law_252 5 rfl ?_
    refine x_bipush F (v := 9) dL_law_254 (by decide) ?_
    refine x_ishr F dL_law_256 ?_
    refine x_bipush F (v := 20) dL_law_257 (by decide) ?_
    refine z_callSi F [.int (yv >>> (9 &&& 31)), .int 20] (c_L_low l D cy lo R ad _ (yv >>> (9 &&& 31)) 20 (by decide)) mc_L_low ms_L_low lk_L_103 rfl rfl dL_law_259 ⟨Nat.le_of_ble_eq_true rfl, Nat.le_of_ble_eq_true rfl⟩ ⟨by (try dsimp only); show _ ≤ 600104; omega, by (try dsimp only); show _ ≤ 7301314; omega⟩ (Nat.le_of_ble_eq_true rfl) ?_
    obtain ⟨j259, hj259, ej259⟩ := low_n (yv >>> (9 &&& 31)) (n := 20) (by omega) (by omega)
    rw [show lowI (yv >>> (9 &&& 31)) 20 = nI j259 from ej259]
    refine y_iast F (hR 16 (by decide)) ss_16 (vp_in_nI (n := 4 * ns + 2) (N := 32) (by omega) (by decide)) dL_law_262 ?_
    refine x_world (congrArg (fun z => k_c cy ad q ns nt z J) (show wI (wI (wI I 16 (4 * ns) (nI f)) 16 (4 * ns + 1) (nI j242)) 16 ((nI (4 * ns + 2)).toNatClampNeg) (nI j259) = wI (wI (wI I 16 (4 * ns) (nI f)) 16 (4 * ns + 1) (nI j242)) 16 (4 * ns + 2) (nI j259) by rw [nI_clamp (n := 4 * ns + 2) (by omega)])) ?_
    refine x_aload F dL_law_263 10 rfl ?_
    refine x_iload F dL_law_265 0 rfl ?_
    refine x_iconst F (v := 3) dL_law_267 (by decide) ?_
    refine x_iadd F dL_law_268 ?_
    refine x_cast (y := nI (4 * ns + 3)) (nI_add (4 * ns) 3) ?_
    refine x_iconst F (v := 1) dL_law_269 (by decide) ?_
    refine y_iast F (hR 16 (by decide)) ss_16 (vp_in_nI (n := 4 * ns + 3) (N := 32) (by omega) (by decide)) dL_law_270 ?_
    refine x_world (congrArg (fun z => k_c cy ad q ns nt z J) (show wI (wI (wI (wI I 16 (4 * ns) (nI f)) 16 (4 * ns + 1) (nI j242)) 16 (4 * ns + 2) (nI j259)) 16 ((nI (4 * ns + 3)).toNatClampNeg) 1 = wI (wI (wI (wI I 16 (4 * ns) (nI f)) 16 (4 * ns + 1) (nI j242)) 16 (4 * ns + 2) (nI j259)) 16 (4 * ns + 3) 1 by rw [nI_clamp (n := 4 * ns + 3) (by omega)])) ?_
    refine x_aload F dL_law_271 8 rfl ?_
    refine x_iconst F (v := 0) dL_law_273 (by decide) ?_
    refine x_dup2 F dL_law_274 rfl rfl ?_
    refine y_iald F (hR 18 (by decide)) ss_18 (show vp_in (nI 0) 2 from vp_in_nI (by decide) (by decide)) dL_law_275 ?_
    refine x_cast (y := (wI (wI (wI (wI I 16 (4 * ns) (nI f)) 16 (4 * ns + 1) (nI j242)) 16 (4 * ns + 2) (nI j259)) 16 (4 * ns + 3) 1) 18 0) (by rw [show (0 : Int32).toNatClampNeg = 0 from by decide]) ?_
    refine x_cast (y := (I 18 0)) (by first | rfl | simp [wI_eq]) ?_
    refine x_cast (y := nI ns) (h.g0) ?_
    refine x_iconst F (v := 1) dL_law_276 (by decide) ?_
    refine x_iadd F dL_law_277 ?_
    refine x_cast (y := nI (ns + 1)) (nI_add ns 1) ?_
    refine y_iast F (hR 18 (by decide)) ss_18 (show vp_in (nI 0) 2 from vp_in_nI (by decide) (by decide)) dL_law_278 ?_
    refine x_world (congrArg (fun z => k_c cy ad q ns nt z J) (show wI (wI (wI (wI (wI I 16 (4 * ns) (nI f)) 16 (4 * ns + 1) (nI j242)) 16 (4 * ns + 2) (nI j259)) 16 (4 * ns + 3) 1) 18 (0 : Int32).toNatClampNeg (nI (ns + 1)) = wI (wI (wI (wI (wI I 16 (4 * ns) (nI f)) 16 (4 * ns + 1) (nI j242)) 16 (4 * ns + 2) (nI j259)) 16 (4 * ns + 3) 1) 18 0 (nI (ns + 1)) by rw [show (0 : Int32).toNatClampNeg = 0 from by decide])) ?_
    refine x_aload_n F dL_law_279 rfl 15 rfl ?_
    refine x_iload F dL_law_280 3 rfl ?_
    refine x_aload F dL_law_282 10 rfl ?_
    refine x_iload F dL_law_284 0 rfl ?_
    refine x_iconst F (v := 1) dL_law_286 (by decide) ?_
    refine x_iadd F dL_law_287 ?_
    refine x_cast (y := nI (4 * ns + 1)) (nI_add (4 * ns) 1) ?_
    refine y_iald F (hR 16 (by decide)) ss_16 (vp_in_nI (n := 4 * ns + 1) (N := 32) (by omega) (by decide)) dL_law_288 ?_
    refine x_cast (y := (wI (wI (wI (wI (wI I 16 (4 * ns) (nI f)) 16 (4 * ns + 1) (nI j242)) 16 (4 * ns + 2) (nI j259)) 16 (4 * ns + 3) 1) 18 0 (nI (ns + 1))) 16 (4 * ns + 1)) (by rw [nI_clamp (n := 4 * ns + 1) (by omega)]) ?_
    refine x_cast (y := ((wI (wI (wI (wI I 16 (4 * ns) (nI f)) 16 (4 * ns + 1) (nI j242)) 16 (4 * ns + 2) (nI j259)) 16 (4 * ns + 3) 1) 16 (4 * ns + 1))) (by first | rfl | simp [wI_eq]) ?_
    refine x_cast (y := nI j242) (by simp (disch := omega) only [wI_row, wI_off, wI_at]) ?_
    refine x_aload F dL_law_289 10 rfl ?_
    refine x_iload F dL_law_291 0 rfl ?_
    refine x_iconst F (v := 2) dL_law_293 (by decide) ?_
    refine x_iadd F dL_law_294 ?_
    refine x_cast (y := nI (4 * ns + 2)) (nI_add (4 * ns) 2) ?_
    refine y_iald F (hR 16 (by decide)) ss_16 (vp_in_nI (n := 4 * ns + 2) (N := 32) (by omega) (by decide)) dL_law_295 ?_
    refine x_cast (y := (wI (wI (wI (wI (wI I 16 (4 * ns) (nI f)) 16 (4 * ns + 1) (nI j242)) 16 (4 * ns + 2) (nI j259)) 16 (4 * ns + 3) 1) 18 0 (nI (ns + 1))) 16 (4 * ns + 2)) (by rw [nI_clamp (n := 4 * ns + 2) (by omega)]) ?_
    refine x_cast (y := ((wI (wI (wI (wI I 16 (4 * ns) (nI f)) 16 (4 * ns + 1) (nI j242)) 16 (4 * ns + 2) (nI j259)) 16 (4 * ns + 3) 1) 16 (4 * ns + 2))) (by first | rfl | simp [wI_eq]) ?_
    refine x_cast (y := nI j259) (by simp (disch := omega) only [wI_row, wI_off, wI_at]) ?_
    refine x_callVix F (r0 := 0) [.int (nI f), .int (nI j242), .int (nI j259)] (c_X4_number l D cy lo R ad q ns nt (wI (wI (wI (wI (wI I 16 (4 * ns) (nI f)) 16 (4 * ns + 1) (nI j242)) 16 (4 * ns + 2) (nI j259)) 16 (4 * ns + 3) 1) 18 0 (nI (ns + 1))) J hRX hfl (nI f) (nI j242) (nI j259) h.kq (by simp (disch := omega) only [wI_row]; exact h.c6)) mc_X4_number mv_X4_number lk_L_106 (hR 0 (by decide)) sc_0 rfl rfl rfl dL_law_296 ⟨Nat.le_of_ble_eq_true rfl, Nat.le_of_ble_eq_true rfl⟩ ⟨by (try dsimp only); show _ ≤ 600104; omega, by (try dsimp only); show _ ≤ 7301314; omega⟩ (Nat.le_of_ble_eq_true rfl) (fun E u hx => ?_) (fun r9 u9 hp => ?_)
    · exfalso
      rcases hx.1 with ⟨-, g⟩ | ⟨-, -, g⟩ | ⟨-, -, -, g⟩
      · rw [car_of hf] at g; cases g
      · rw [show isWi (nI j242) 0 10000 = true from isWi_n (a := 0) (b := 10000) (by omega) (by omega) (by omega), show isWi (nI j259) 0 1000 = true from isWi_n (a := 0) (b := 1000) (by omega) (by omega) (by omega)] at g; cases g
      · exact g (by omega)
    · obtain ⟨-, rfl, ad', had, rfl⟩ := hp
      dsimp only
      rw [← had 0 (by omega) (by omega), ← had 12 (by omega) (by omega), ← had 13 (by omega) (by omega), ← had 14 (by omega) (by omega), ← had 15 (by omega) (by omega), ← had 16 (by omega) (by omega), ← had 17 (by omega) (by omega), ← had 18 (by omega) (by omega)]
      have hX2 := RX_num hRX (show ns < 20 by omega)
      have hR2 := hX2.1.1
      refine x_aload F dL_law_299 8 rfl ?_
      refine x_iconst F (v := 0) dL_law_301 (by decide) ?_
      refine y_iald F (hR2 18 (by decide)) ss_18 (show vp_in (nI 0) 2 from vp_in_nI (by decide) (by decide)) dL_law_302 ?_
      refine x_cast (y := (numI (wI (wI (wI (wI (wI I 16 (4 * ns) (nI f)) 16 (4 * ns + 1) (nI j242)) 16 (4 * ns + 2) (nI j259)) 16 (4 * ns + 3) 1) 18 0 (nI (ns + 1))) ns (nI f) (nI j242) (nI j259)) 18 0) (by rw [show (0 : Int32).toNatClampNeg = 0 from by decide]) ?_
      refine x_cast (y := nI (ns + 1)) (by rw [num_row (by omega) (by omega) (by omega), wI_at]) ?_
      refine x_iconst F (v := 1) dL_law_303 (by decide) ?_
      refine x_isub F dL_law_304 ?_
      refine x_cast (y := nI ns) (nI_pred ns) ?_
      refine x_icmp_eq F 310 dL_law_305 (by decide) (fun h305 => ?_) (fun h305 => ?_)
      · replace h305 : ns = ns := (nI_eq (a := ns) (b := ns) (by omega) (by omega)).mp h305
        refine x_goto F 1323 dL_law_310 (by decide) ?_
        refine x_sub [3, 7, 8, 9, 10, 11, 12, 13, 14, 15, 16] rfl ?_
        refine x_widen (k := cells + 106) (n := slots + 636) (by (try dsimp only); omega) (by (try dsimp only); omega) ?_
        refine law_tail hfl F hX2.1 (T := T + 200) (J := J) ((num_sr h (by omega) hf (a := j242) (b := j259) (by omega) (by omega) hT2).up (by omega)) hf (by omega) (by omega) (fun I2 hS2 => ?_)
        exact K _ ad' q (ns + 1) nt I2 _ hX2 (fun y hy => had y (by omega) (by omega)) (by omega) hS2
      · exact (h305 rfl).elim
  · replace h210 : ns = 8 := (nI_eq (a := ns) (b := 8) (by omega) (by omega)).mp h210
    refine x_goto F 1344 dL_law_213 (by decide) ?_
    refine x_sub [6, 7, 8, 9, 10, 11, 12, 13, 14, 15] rfl ?_
    refine x_widen (k := cells + 400) (n := slots + 2400) (by (try dsimp only); omega) (by (try dsimp only); omega) ?_
    exact K R ad q ns nt _ _ hRX (fun _ _ => rfl) (by omega) ((h.up (by omega)))
end LC
