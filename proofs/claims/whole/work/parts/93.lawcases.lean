theorem call_lt {I : Nat → Nat → Int32} {J : Nat → Nat → Int64} {q : Nat → Nat → Nat} {ns nt : Nat} {a b : Int32} (h : callT I J q ns nt a b = 0) : nt < 60 := by
  rcases callT_cases I J q ns nt a b with ⟨g, -⟩ | ⟨g, -⟩ | ⟨g, -⟩ | ⟨-, -, -, h4, -⟩
  · omega
  · omega
  · omega
  · exact h4
set_option maxHeartbeats 4000000 in
set_option maxRecDepth 100000 in
theorem law_0 {D : va_G} {cy : Nat → ClassId} {lo : Nat} {p : Program} {l : Launch} {e : Env} {s : State} {m : MethodId} {args : Array Value} {below : List Frame} {meth : Method} {c : Code} {Q : State → Prop} (hfl : l.stackTraces = false) (F : k_F p m c cL_law 8 s RL D cy lo) {b L : Nat} {xs : Nat → Int32} (hX : va_X b L xs s s.heap) (hb : b < s.heap.size) (hlo : lo = s.heap.size) {R : List Nat} {ad : Nat → Nat} {q : Nat → Nat → Nat} {ns nt : Nat} {I : Nat → Nat → Int32} {J : Nat → Nat → Int64} (hRX : k_RX R ns nt) (h : SR q ns nt I J I J) {i : Nat} (hi : i + 5 ≤ L) (hL : L ≤ 2560) {cells slots : Nat} (hc : cells + 6 ≤ 601024) (hs : slots + 53 ≤ 7293033)
    (K : ∀ (R' : List Nat) (ad' : Nat → Nat) (q' : Nat → Nat → Nat) (ns' nt' : Nat) (I' : Nat → Nat → Int32) (J' : Nat → Nat → Int64), k_RX R' ns' nt' → (∀ y, y < 40 → ad' y = ad y) → SR q' ns' nt' I' J' I' J' → XW D lo p l e room_1 s m args below meth c 8 (cells + 6) (slots + 53) Q R' ad' (k_c cy ad' q' ns' nt' I' J') 1694 (k_LV ad b i) []) :
    XW D lo p l e room_1 s m args below meth c 8 cells slots Q R ad (k_c cy ad q ns nt I J) 144 (k_LV ad b i) [] := by
  refine x_aload_n F dL_law_144 rfl 3 rfl ?_
  refine x_aload_n F dL_law_145 rfl 4 rfl ?_
  refine x_iload F dL_law_146 0 rfl ?_
  refine x_iconst F (v := 1) dL_law_148 (by decide) ?_
  refine x_iadd F dL_law_149 ?_
  refine x_sld F hX hb hlo (nI_add i 1) (by omega) hL dL_law_150 ?_
  refine x_aload_n F dL_law_151 rfl 4 rfl ?_
  refine x_iload F dL_law_152 0 rfl ?_
  refine x_iconst F (v := 2) dL_law_154 (by decide) ?_
  refine x_iadd F dL_law_155 ?_
  refine x_sld F hX hb hlo (nI_add i 2) (by omega) hL dL_law_156 ?_
  refine x_aload_n F dL_law_157 rfl 4 rfl ?_
  refine x_iload F dL_law_158 0 rfl ?_
  refine x_iconst F (v := 3) dL_law_160 (by decide) ?_
  refine x_iadd F dL_law_161 ?_
  refine x_sld F hX hb hlo (nI_add i 3) (by omega) hL dL_law_162 ?_
  refine x_aload_n F dL_law_163 rfl 1 rfl ?_
  refine x_callHi F [.ref (ad 0), .int (xs (i + 1)), .int (xs (i + 2)), .int (xs (i + 3)), .ref (ad 12)] (c_L_tariff l D cy lo R ad q ns nt I J hRX.1.1 (xs (i + 1)) (xs (i + 2)) (xs (i + 3)) 7 106 2 12 _ _ (c_X4_tariff l D cy lo R ad q ns nt I J hRX.1 hfl (xs (i + 1)) (xs (i + 2)) (xs (i + 3))) (fun E u hx => by rcases hx with ⟨⟨e, -⟩ | ⟨e, -⟩, -⟩ <;> simp [e]) (fun v u hp => ⟨R, ad, q, ns, nt, _, _, hp.2.2, hRX.1.1 12 (by decide), rfl⟩)) mh_L_tariff ms_L_tariff lk_L_95 rfl rfl dL_law_164 ⟨(Nat.le_of_ble_eq_true rfl), (Nat.le_of_ble_eq_true rfl)⟩ ⟨(by show cells + 2 ≤ 601024; omega), (by show slots + 12 ≤ 7293033; omega)⟩ (Nat.le_of_ble_eq_true rfl) (fun r u hp => ?_)
  obtain ⟨I1, J1, rfl, h1, hf⟩ := mid_tariff h hp
  show XW D lo p l e room_1 s m args below meth c 8 (cells + 2) (slots + 12) Q R ad (k_c cy ad q ns nt I1 J1) 167 (k_LV ad b i) (.int r :: [])
  refine x_istore F ((5, .int r) :: k_LV ad b i) dL_law_167 (by decide) rfl ?_
  refine x_aload_n F dL_law_169 rfl 3 rfl ?_
  refine x_aload_n F dL_law_170 rfl 5 rfl ?_
  refine x_iload F dL_law_171 1 rfl ?_
  refine x_iconst F (v := 1) dL_law_173 (by decide) ?_
  refine x_iadd F dL_law_174 ?_
  refine x_sld F hX hb hlo (nI_add i 1) (by omega) hL dL_law_175 ?_
  refine x_aload_n F dL_law_176 rfl 5 rfl ?_
  refine x_iload F dL_law_177 1 rfl ?_
  refine x_iconst F (v := 2) dL_law_179 (by decide) ?_
  refine x_iadd F dL_law_180 ?_
  refine x_sld F hX hb hlo (nI_add i 2) (by omega) hL dL_law_181 ?_
  refine x_aload_n F dL_law_182 rfl 5 rfl ?_
  refine x_iload F dL_law_183 1 rfl ?_
  refine x_iconst F (v := 3) dL_law_185 (by decide) ?_
  refine x_iadd F dL_law_186 ?_
  refine x_sld F hX hb hlo (nI_add i 3) (by omega) hL dL_law_187 ?_
  obtain ⟨hS, hth, hout⟩ := hf
  refine z_callVi F [.int (xs (i + 1)), .int (xs (i + 2)), .int (xs (i + 3))] (c_X5_tariff l D cy lo R ad q ns nt I1 J1 hRX.1.1 (xs (i + 1)) (xs (i + 2)) (xs (i + 3)) ) mc_X5_tariff mv_X5_tariff lk_L_100 (hRX.1.1 13 (by decide)) sc_13 rfl rfl rfl dL_law_188 ⟨(Nat.le_of_ble_eq_true rfl), (Nat.le_of_ble_eq_true rfl)⟩ ⟨(by show cells + 2 ≤ 601024; omega), (by show slots + 12 ≤ 7293033; omega)⟩ (Nat.le_of_ble_eq_true rfl) ?_
  generalize (if mTar (xs (i + 1)) (xs (i + 2)) (xs (i + 3)) = 0 then wI (wI (wI I1 13 0 0) 14 (xs (i + 1)).toNatClampNeg (xs (i + 2))) 15 (xs (i + 1)).toNatClampNeg (xs (i + 3)) else wI I1 13 0 (mTar (xs (i + 1)) (xs (i + 2)) (xs (i + 3)))) = I2 at hS hth hout ⊢
  generalize (if mTar (xs (i + 1)) (xs (i + 2)) (xs (i + 3)) = 0 then I1 15 (xs (i + 1)).toNatClampNeg else 0) = b9 at hout ⊢
  refine x_istore F ((6, .int b9) :: ((5, .int r) :: k_LV ad b i)) dL_law_191 (by decide) rfl ?_
  have KT : XW D lo p l e room_1 s m args below meth c 8 (cells + 2) (slots + 12) Q R ad (k_c cy ad q ns nt I2 J1) 221 ((6, .int b9) :: ((5, .int r) :: k_LV ad b i)) [] := by
    refine x_goto F 1694 dL_law_221 (by decide) ?_
    refine x_sub (lv' := k_LV ad b i) [2, 3, 4, 5, 6] rfl ?_
    refine x_widen (k := cells + 6) (n := slots + 53) (by omega) (by omega) ?_
    exact K R ad q ns nt _ _ hRX (fun _ _ => rfl) hS
  refine x_aload_n F dL_law_193 rfl 4 rfl ?_
  refine z_callVi F [] (c_X5_thrown l D cy lo R ad q ns nt I2 J1 hRX.1.1) mc_X5_thrown mv_X5_thrown lk_L_101 (hRX.1.1 13 (by decide)) sc_13 rfl rfl rfl dL_law_194 ⟨(Nat.le_of_ble_eq_true rfl), (Nat.le_of_ble_eq_true rfl)⟩ ⟨(by show cells + 2 ≤ 601024; omega), (by show slots + 12 ≤ 7293033; omega)⟩ (Nat.le_of_ble_eq_true rfl) ?_
  refine x_iload F dL_law_197 1 rfl ?_
  refine x_icmp_eq F 204 dL_law_199 (by decide) (fun _ => ?_) (fun hne => absurd hth hne)
  refine x_iload F dL_law_204 1 rfl ?_
  refine x_if_ne F 221 dL_law_206 (by decide) (fun _ => KT) (fun h0 => ?_)
  refine x_aload_n F dL_law_209 rfl 3 rfl ?_
  refine x_iconst F (v := 0) dL_law_210 (by decide) ?_
  refine y_lald F (hRX.1.1 12 (by decide)) ss_12 (vp_in_nI (show 0 < 1 by decide) (by decide)) dL_law_211 ?_
  refine x_iload F dL_law_212 0 rfl ?_
  refine x_i2l F dL_law_214 ?_
  refine x_lcmp F dL_law_215 ?_
  exact x_if_eq F 221 dL_law_216 (by decide) (fun _ => KT) (fun hne => absurd (cmp_self (hout h0)) hne)
set_option maxHeartbeats 4000000 in
set_option maxRecDepth 100000 in
theorem law_1 {D : va_G} {cy : Nat → ClassId} {lo : Nat} {p : Program} {l : Launch} {e : Env} {s : State} {m : MethodId} {args : Array Value} {below : List Frame} {meth : Method} {c : Code} {Q : State → Prop} (hfl : l.stackTraces = false) (F : k_F p m c cL_law 8 s RL D cy lo) {b L : Nat} {xs : Nat → Int32} (hX : va_X b L xs s s.heap) (hb : b < s.heap.size) (hlo : lo = s.heap.size) {R : List Nat} {ad : Nat → Nat} {q : Nat → Nat → Nat} {ns nt : Nat} {I : Nat → Nat → Int32} {J : Nat → Nat → Int64} (hRX : k_RX R ns nt) (h : SR q ns nt I J I J) {i : Nat} (hi : i + 5 ≤ L) (hL : L ≤ 2560) {cells slots : Nat} (hc : cells + 6 ≤ 601024) (hs : slots + 53 ≤ 7293033)
    (K : ∀ (R' : List Nat) (ad' : Nat → Nat) (q' : Nat → Nat → Nat) (ns' nt' : Nat) (I' : Nat → Nat → Int32) (J' : Nat → Nat → Int64), k_RX R' ns' nt' → (∀ y, y < 40 → ad' y = ad y) → SR q' ns' nt' I' J' I' J' → XW D lo p l e room_1 s m args below meth c 8 (cells + 6) (slots + 53) Q R' ad' (k_c cy ad' q' ns' nt' I' J') 1694 (k_LV ad b i) []) :
    XW D lo p l e room_1 s m args below meth c 8 cells slots Q R ad (k_c cy ad q ns nt I J) 224 (k_LV ad b i) [] := by
  refine x_aload_n F dL_law_224 rfl 3 rfl ?_
  refine x_aload_n F dL_law_225 rfl 4 rfl ?_
  refine x_iload F dL_law_226 0 rfl ?_
  refine x_iconst F (v := 1) dL_law_228 (by decide) ?_
  refine x_iadd F dL_law_229 ?_
  refine x_sld F hX hb hlo (nI_add i 1) (by omega) hL dL_law_230 ?_
  refine x_aload_n F dL_law_231 rfl 4 rfl ?_
  refine x_iload F dL_law_232 0 rfl ?_
  refine x_iconst F (v := 2) dL_law_234 (by decide) ?_
  refine x_iadd F dL_law_235 ?_
  refine x_sld F hX hb hlo (nI_add i 2) (by omega) hL dL_law_236 ?_
  refine x_aload_n F dL_law_237 rfl 4 rfl ?_
  refine x_iload F dL_law_238 0 rfl ?_
  refine x_iconst F (v := 3) dL_law_240 (by decide) ?_
  refine x_iadd F dL_law_241 ?_
  refine x_sld F hX hb hlo (nI_add i 3) (by omega) hL dL_law_242 ?_
  refine x_aload_n F dL_law_243 rfl 4 rfl ?_
  refine x_iload F dL_law_244 0 rfl ?_
  refine x_iconst F (v := 4) dL_law_246 (by decide) ?_
  refine x_iadd F dL_law_247 ?_
  refine x_sld F hX hb hlo (nI_add i 4) (by omega) hL dL_law_248 ?_
  refine x_aload_n F dL_law_249 rfl 1 rfl ?_
  refine x_callHi F [.ref (ad 0), .int (xs (i + 1)), .int (xs (i + 2)), .int (xs (i + 3)), .int (xs (i + 4)), .ref (ad 12)] (c_L_link l D cy lo R ad q ns nt I J hRX.1.1 (xs (i + 1)) (xs (i + 2)) (xs (i + 3)) (xs (i + 4)) 7 106 3 18 _ _ (c_X4_link l D cy lo R ad q ns nt I J hRX.1 hfl (xs (i + 1)) (xs (i + 2)) (xs (i + 3)) (xs (i + 4))) (fun E u hx => by rcases hx with ⟨⟨e, -⟩ | ⟨e, -⟩, -⟩ <;> simp [e]) (fun v u hp => ⟨R, ad, q, ns, nt, _, _, hp.2.2, hRX.1.1 12 (by decide), rfl⟩)) mh_L_link ms_L_link lk_L_105 rfl rfl dL_law_250 ⟨(Nat.le_of_ble_eq_true rfl), (Nat.le_of_ble_eq_true rfl)⟩ ⟨(by show cells + 3 ≤ 601024; omega), (by show slots + 18 ≤ 7293033; omega)⟩ (Nat.le_of_ble_eq_true rfl) (fun r u hp => ?_)
  obtain ⟨I1, J1, rfl, h1, hf⟩ := mid_link h hp
  show XW D lo p l e room_1 s m args below meth c 8 (cells + 3) (slots + 18) Q R ad (k_c cy ad q ns nt I1 J1) 253 (k_LV ad b i) (.int r :: [])
  refine x_istore F ((5, .int r) :: k_LV ad b i) dL_law_253 (by decide) rfl ?_
  refine x_aload_n F dL_law_255 rfl 3 rfl ?_
  refine x_aload_n F dL_law_256 rfl 5 rfl ?_
  refine x_iload F dL_law_257 1 rfl ?_
  refine x_iconst F (v := 1) dL_law_259 (by decide) ?_
  refine x_iadd F dL_law_260 ?_
  refine x_sld F hX hb hlo (nI_add i 1) (by omega) hL dL_law_261 ?_
  refine x_aload_n F dL_law_262 rfl 5 rfl ?_
  refine x_iload F dL_law_263 1 rfl ?_
  refine x_iconst F (v := 2) dL_law_265 (by decide) ?_
  refine x_iadd F dL_law_266 ?_
  refine x_sld F hX hb hlo (nI_add i 2) (by omega) hL dL_law_267 ?_
  refine x_aload_n F dL_law_268 rfl 5 rfl ?_
  refine x_iload F dL_law_269 1 rfl ?_
  refine x_iconst F (v := 3) dL_law_271 (by decide) ?_
  refine x_iadd F dL_law_272 ?_
  refine x_sld F hX hb hlo (nI_add i 3) (by omega) hL dL_law_273 ?_
  refine x_aload_n F dL_law_274 rfl 5 rfl ?_
  refine x_iload F dL_law_275 1 rfl ?_
  refine x_iconst F (v := 4) dL_law_277 (by decide) ?_
  refine x_iadd F dL_law_278 ?_
  refine x_sld F hX hb hlo (nI_add i 4) (by omega) hL dL_law_279 ?_
  obtain ⟨hS, hth, hout⟩ := hf
  refine z_callVi F [.int (xs (i + 1)), .int (xs (i + 2)), .int (xs (i + 3)), .int (xs (i + 4))] (c_X5_link l D cy lo R ad q ns nt I1 J1 hRX.1.1 (xs (i + 1)) (xs (i + 2)) (xs (i + 3)) (xs (i + 4)) h1.nar) mc_X5_link mv_X5_link lk_L_108 (hRX.1.1 13 (by decide)) sc_13 rfl rfl rfl dL_law_280 ⟨(Nat.le_of_ble_eq_true rfl), (Nat.le_of_ble_eq_true rfl)⟩ ⟨(by show cells + 3 ≤ 601024; omega), (by show slots + 18 ≤ 7293033; omega)⟩ (Nat.le_of_ble_eq_true rfl) ?_
  generalize (if mLnk (xs (i + 1)) (xs (i + 2)) (xs (i + 3)) (xs (i + 4)) = 0 then wI (wI (wI (wI I1 13 0 0) 16 (5 * (xs (i + 1)) + (xs (i + 2))).toNatClampNeg 1) 17 (5 * (xs (i + 1)) + (xs (i + 2))).toNatClampNeg (xs (i + 3))) 18 (5 * (xs (i + 1)) + (xs (i + 2))).toNatClampNeg (xs (i + 4)) else wI I1 13 0 (mLnk (xs (i + 1)) (xs (i + 2)) (xs (i + 3)) (xs (i + 4)))) = I2 at hS hth hout ⊢
  generalize (if mLnk (xs (i + 1)) (xs (i + 2)) (xs (i + 3)) (xs (i + 4)) = 0 then I1 16 (5 * (xs (i + 1)) + (xs (i + 2))).toNatClampNeg else 0) = b9 at hout ⊢
  refine x_istore F ((6, .int b9) :: ((5, .int r) :: k_LV ad b i)) dL_law_283 (by decide) rfl ?_
  have KT : XW D lo p l e room_1 s m args below meth c 8 (cells + 3) (slots + 18) Q R ad (k_c cy ad q ns nt I2 J1) 320 ((6, .int b9) :: ((5, .int r) :: k_LV ad b i)) [] := by
    refine x_goto F 1694 dL_law_320 (by decide) ?_
    refine x_sub (lv' := k_LV ad b i) [2, 3, 4, 5, 6] rfl ?_
    refine x_widen (k := cells + 6) (n := slots + 53) (by omega) (by omega) ?_
    exact K R ad q ns nt _ _ hRX (fun _ _ => rfl) hS
  refine x_aload_n F dL_law_285 rfl 4 rfl ?_
  refine z_callVi F [] (c_X5_thrown l D cy lo R ad q ns nt I2 J1 hRX.1.1) mc_X5_thrown mv_X5_thrown lk_L_101 (hRX.1.1 13 (by decide)) sc_13 rfl rfl rfl dL_law_286 ⟨(Nat.le_of_ble_eq_true rfl), (Nat.le_of_ble_eq_true rfl)⟩ ⟨(by show cells + 3 ≤ 601024; omega), (by show slots + 18 ≤ 7293033; omega)⟩ (Nat.le_of_ble_eq_true rfl) ?_
  refine x_iload F dL_law_289 1 rfl ?_
  refine x_icmp_eq F 296 dL_law_291 (by decide) (fun _ => ?_) (fun hne => absurd hth hne)
  refine x_iload F dL_law_296 1 rfl ?_
  refine x_if_ne F 320 dL_law_298 (by decide) (fun _ => KT) (fun h0 => ?_)
  refine x_aload_n F dL_law_301 rfl 3 rfl ?_
  refine x_iconst F (v := 0) dL_law_302 (by decide) ?_
  refine y_lald F (hRX.1.1 12 (by decide)) ss_12 (vp_in_nI (show 0 < 1 by decide) (by decide)) dL_law_303 ?_
  refine x_iload F dL_law_304 0 rfl ?_
  refine x_if_eq F 313 dL_law_306 (by decide) (fun hz => ?_) (fun hz => ?_)
  · refine x_lconst F (v := 0) dL_law_313 rfl ?_
    refine x_lcmp F dL_law_314 ?_
    exact x_if_eq F 320 dL_law_315 (by decide) (fun _ => KT) (fun hne => absurd (cmp_self (by rw [show (0 : Int32).toNatClampNeg = 0 from rfl, hout h0, if_pos hz])) hne)
  · refine x_lconst F (v := 1) dL_law_309 rfl ?_
    refine x_goto F 314 dL_law_310 (by decide) ?_
    refine x_lcmp F dL_law_314 ?_
    exact x_if_eq F 320 dL_law_315 (by decide) (fun _ => KT) (fun hne => absurd (cmp_self (by rw [show (0 : Int32).toNatClampNeg = 0 from rfl, hout h0, if_neg hz])) hne)
set_option maxHeartbeats 4000000 in
set_option maxRecDepth 100000 in
theorem law_2 {D : va_G} {cy : Nat → ClassId} {lo : Nat} {p : Program} {l : Launch} {e : Env} {s : State} {m : MethodId} {args : Array Value} {below : List Frame} {meth : Method} {c : Code} {Q : State → Prop} (hfl : l.stackTraces = false) (F : k_F p m c cL_law 8 s RL D cy lo) {b L : Nat} {xs : Nat → Int32} (hX : va_X b L xs s s.heap) (hb : b < s.heap.size) (hlo : lo = s.heap.size) {R : List Nat} {ad : Nat → Nat} {q : Nat → Nat → Nat} {ns nt : Nat} {I : Nat → Nat → Int32} {J : Nat → Nat → Int64} (hRX : k_RX R ns nt) (h : SR q ns nt I J I J) {i : Nat} (hi : i + 5 ≤ L) (hL : L ≤ 2560) {cells slots : Nat} (hc : cells + 6 ≤ 601024) (hs : slots + 53 ≤ 7293033)
    (K : ∀ (R' : List Nat) (ad' : Nat → Nat) (q' : Nat → Nat → Nat) (ns' nt' : Nat) (I' : Nat → Nat → Int32) (J' : Nat → Nat → Int64), k_RX R' ns' nt' → (∀ y, y < 40 → ad' y = ad y) → SR q' ns' nt' I' J' I' J' → XW D lo p l e room_1 s m args below meth c 8 (cells + 6) (slots + 53) Q R' ad' (k_c cy ad' q' ns' nt' I' J') 1694 (k_LV ad b i) []) :
    XW D lo p l e room_1 s m args below meth c 8 cells slots Q R ad (k_c cy ad q ns nt I J) 323 (k_LV ad b i) [] := by
  refine x_aload_n F dL_law_323 rfl 3 rfl ?_
  refine x_aload_n F dL_law_324 rfl 4 rfl ?_
  refine x_iload F dL_law_325 0 rfl ?_
  refine x_iconst F (v := 1) dL_law_327 (by decide) ?_
  refine x_iadd F dL_law_328 ?_
  refine x_sld F hX hb hlo (nI_add i 1) (by omega) hL dL_law_329 ?_
  refine x_aload_n F dL_law_330 rfl 4 rfl ?_
  refine x_iload F dL_law_331 0 rfl ?_
  refine x_iconst F (v := 2) dL_law_333 (by decide) ?_
  refine x_iadd F dL_law_334 ?_
  refine x_sld F hX hb hlo (nI_add i 2) (by omega) hL dL_law_335 ?_
  refine x_aload_n F dL_law_336 rfl 1 rfl ?_
  refine x_callHi F [.ref (ad 0), .int (xs (i + 1)), .int (xs (i + 2)), .ref (ad 12)] (c_L_unlink l D cy lo R ad q ns nt I J hRX.1.1 (xs (i + 1)) (xs (i + 2)) 7 106 3 18 _ _ (c_X4_unlink l D cy lo R ad q ns nt I J hRX.1 hfl (xs (i + 1)) (xs (i + 2))) (fun E u hx => by rcases hx with ⟨⟨e, -⟩ | ⟨e, -⟩, -⟩ <;> simp [e]) (fun v u hp => ⟨R, ad, q, ns, nt, _, _, hp.2.2, hRX.1.1 12 (by decide), rfl⟩)) mh_L_unlink ms_L_unlink lk_L_109 rfl rfl dL_law_337 ⟨(Nat.le_of_ble_eq_true rfl), (Nat.le_of_ble_eq_true rfl)⟩ ⟨(by show cells + 3 ≤ 601024; omega), (by show slots + 18 ≤ 7293033; omega)⟩ (Nat.le_of_ble_eq_true rfl) (fun r u hp => ?_)
  obtain ⟨I1, J1, rfl, h1, hf⟩ := mid_unlink h hp
  show XW D lo p l e room_1 s m args below meth c 8 (cells + 3) (slots + 18) Q R ad (k_c cy ad q ns nt I1 J1) 340 (k_LV ad b i) (.int r :: [])
  refine x_istore F ((5, .int r) :: k_LV ad b i) dL_law_340 (by decide) rfl ?_
  refine x_aload_n F dL_law_342 rfl 3 rfl ?_
  refine x_aload_n F dL_law_343 rfl 5 rfl ?_
  refine x_iload F dL_law_344 1 rfl ?_
  refine x_iconst F (v := 1) dL_law_346 (by decide) ?_
  refine x_iadd F dL_law_347 ?_
  refine x_sld F hX hb hlo (nI_add i 1) (by omega) hL dL_law_348 ?_
  refine x_aload_n F dL_law_349 rfl 5 rfl ?_
  refine x_iload F dL_law_350 1 rfl ?_
  refine x_iconst F (v := 2) dL_law_352 (by decide) ?_
  refine x_iadd F dL_law_353 ?_
  refine x_sld F hX hb hlo (nI_add i 2) (by omega) hL dL_law_354 ?_
  obtain ⟨hS, hth, hout⟩ := hf
  refine z_callVi F [.int (xs (i + 1)), .int (xs (i + 2))] (c_X5_unlink l D cy lo R ad q ns nt I1 J1 hRX.1.1 (xs (i + 1)) (xs (i + 2)) ) mc_X5_unlink mv_X5_unlink lk_L_112 (hRX.1.1 13 (by decide)) sc_13 rfl rfl rfl dL_law_355 ⟨(Nat.le_of_ble_eq_true rfl), (Nat.le_of_ble_eq_true rfl)⟩ ⟨(by show cells + 3 ≤ 601024; omega), (by show slots + 18 ≤ 7293033; omega)⟩ (Nat.le_of_ble_eq_true rfl) ?_
  generalize (if (isCar (xs (i + 1)) && isCar (xs (i + 2))) = true then wI (wI I1 13 0 (if I1 16 (5 * (xs (i + 1)) + (xs (i + 2))).toNatClampNeg = 0 then 2 else 0)) 16 (5 * (xs (i + 1)) + (xs (i + 2))).toNatClampNeg 0 else wI I1 13 0 1) = I2 at hS hth hout ⊢
  generalize (if (isCar (xs (i + 1)) && isCar (xs (i + 2))) = true ∧ ¬ I1 16 (5 * (xs (i + 1)) + (xs (i + 2))).toNatClampNeg = 0 then I1 17 (5 * (xs (i + 1)) + (xs (i + 2))).toNatClampNeg else 0) = b9 at hout ⊢
  refine x_istore F ((6, .int b9) :: ((5, .int r) :: k_LV ad b i)) dL_law_358 (by decide) rfl ?_
  have KT : XW D lo p l e room_1 s m args below meth c 8 (cells + 3) (slots + 18) Q R ad (k_c cy ad q ns nt I2 J1) 388 ((6, .int b9) :: ((5, .int r) :: k_LV ad b i)) [] := by
    refine x_goto F 1694 dL_law_388 (by decide) ?_
    refine x_sub (lv' := k_LV ad b i) [2, 3, 4, 5, 6] rfl ?_
    refine x_widen (k := cells + 6) (n := slots + 53) (by omega) (by omega) ?_
    exact K R ad q ns nt _ _ hRX (fun _ _ => rfl) hS
  refine x_aload_n F dL_law_360 rfl 4 rfl ?_
  refine z_callVi F [] (c_X5_thrown l D cy lo R ad q ns nt I2 J1 hRX.1.1) mc_X5_thrown mv_X5_thrown lk_L_101 (hRX.1.1 13 (by decide)) sc_13 rfl rfl rfl dL_law_361 ⟨(Nat.le_of_ble_eq_true rfl), (Nat.le_of_ble_eq_true rfl)⟩ ⟨(by show cells + 3 ≤ 601024; omega), (by show slots + 18 ≤ 7293033; omega)⟩ (Nat.le_of_ble_eq_true rfl) ?_
  refine x_iload F dL_law_364 1 rfl ?_
  refine x_icmp_eq F 371 dL_law_366 (by decide) (fun _ => ?_) (fun hne => absurd hth hne)
  refine x_iload F dL_law_371 1 rfl ?_
  refine x_if_ne F 388 dL_law_373 (by decide) (fun _ => KT) (fun h0 => ?_)
  refine x_aload_n F dL_law_376 rfl 3 rfl ?_
  refine x_iconst F (v := 0) dL_law_377 (by decide) ?_
  refine y_lald F (hRX.1.1 12 (by decide)) ss_12 (vp_in_nI (show 0 < 1 by decide) (by decide)) dL_law_378 ?_
  refine x_iload F dL_law_379 0 rfl ?_
  refine x_i2l F dL_law_381 ?_
  refine x_lcmp F dL_law_382 ?_
  exact x_if_eq F 388 dL_law_383 (by decide) (fun _ => KT) (fun hne => absurd (cmp_self (hout h0)) hne)
set_option maxHeartbeats 4000000 in
set_option maxRecDepth 100000 in
theorem law_3 {D : va_G} {cy : Nat → ClassId} {lo : Nat} {p : Program} {l : Launch} {e : Env} {s : State} {m : MethodId} {args : Array Value} {below : List Frame} {meth : Method} {c : Code} {Q : State → Prop} (hfl : l.stackTraces = false) (F : k_F p m c cL_law 8 s RL D cy lo) {b L : Nat} {xs : Nat → Int32} (hX : va_X b L xs s s.heap) (hb : b < s.heap.size) (hlo : lo = s.heap.size) {R : List Nat} {ad : Nat → Nat} {q : Nat → Nat → Nat} {ns nt : Nat} {I : Nat → Nat → Int32} {J : Nat → Nat → Int64} (hRX : k_RX R ns nt) (h : SR q ns nt I J I J) {i : Nat} (hi : i + 5 ≤ L) (hL : L ≤ 2560) {cells slots : Nat} (hc : cells + 6 ≤ 601024) (hs : slots + 53 ≤ 7293033)
    (K : ∀ (R' : List Nat) (ad' : Nat → Nat) (q' : Nat → Nat → Nat) (ns' nt' : Nat) (I' : Nat → Nat → Int32) (J' : Nat → Nat → Int64), k_RX R' ns' nt' → (∀ y, y < 40 → ad' y = ad y) → SR q' ns' nt' I' J' I' J' → XW D lo p l e room_1 s m args below meth c 8 (cells + 6) (slots + 53) Q R' ad' (k_c cy ad' q' ns' nt' I' J') 1694 (k_LV ad b i) []) :
    XW D lo p l e room_1 s m args below meth c 8 cells slots Q R ad (k_c cy ad q ns nt I J) 391 (k_LV ad b i) [] := by
  refine x_aload_n F dL_law_391 rfl 3 rfl ?_
  refine x_aload_n F dL_law_392 rfl 4 rfl ?_
  refine x_iload F dL_law_393 0 rfl ?_
  refine x_iconst F (v := 1) dL_law_395 (by decide) ?_
  refine x_iadd F dL_law_396 ?_
  refine x_sld F hX hb hlo (nI_add i 1) (by omega) hL dL_law_397 ?_
  refine x_aload_n F dL_law_398 rfl 4 rfl ?_
  refine x_iload F dL_law_399 0 rfl ?_
  refine x_iconst F (v := 2) dL_law_401 (by decide) ?_
  refine x_iadd F dL_law_402 ?_
  refine x_sld F hX hb hlo (nI_add i 2) (by omega) hL dL_law_403 ?_
  refine x_aload_n F dL_law_404 rfl 4 rfl ?_
  refine x_iload F dL_law_405 0 rfl ?_
  refine x_iconst F (v := 3) dL_law_407 (by decide) ?_
  refine x_iadd F dL_law_408 ?_
  refine x_sld F hX hb hlo (nI_add i 3) (by omega) hL dL_law_409 ?_
  refine x_aload_n F dL_law_410 rfl 1 rfl ?_
  refine x_callHi F [.ref (ad 0), .int (xs (i + 1)), .int (xs (i + 2)), .int (xs (i + 3)), .ref (ad 12)] (c_L_number l D cy lo R ad q ns nt I J hRX.1.1 (xs (i + 1)) (xs (i + 2)) (xs (i + 3)) 7 130 4 26 _ _ (c_X4_number l D cy lo R ad q ns nt I J hRX hfl (xs (i + 1)) (xs (i + 2)) (xs (i + 3)) h.kq h.c6) (fun E u hx => by rcases hx with ⟨⟨e, -⟩ | ⟨e, -⟩ | ⟨e, -⟩, -⟩ <;> simp [e]) (fun v u hp => by obtain ⟨⟨-, -, hlt⟩, -, ad', had, rfl⟩ := hp; exact ⟨_, ad', q, ns + 1, nt, _, _, rfl, (RX_num hRX hlt).1.1 12 (by decide), had 12 (by omega) (by omega)⟩)) mh_L_number ms_L_number lk_L_113 rfl rfl dL_law_411 ⟨(Nat.le_of_ble_eq_true rfl), (Nat.le_of_ble_eq_true rfl)⟩ ⟨(by show cells + 4 ≤ 601024; omega), (by show slots + 26 ≤ 7293033; omega)⟩ (Nat.le_of_ble_eq_true rfl) (fun r u hp => ?_)
  obtain ⟨R', ad', ns', I1, J1, rfl, hRX', had, h1, hf⟩ := mid_number h hRX hp
  show XW D lo p l e room_1 s m args below meth c 8 (cells + 4) (slots + 26) Q R' ad' (k_c cy ad' q ns' nt I1 J1) 414 (k_LV ad b i) (.int r :: [])
  refine x_istore F ((5, .int r) :: k_LV ad b i) dL_law_414 (by decide) rfl ?_
  refine x_aload_n F dL_law_416 rfl 3 rfl ?_
  refine x_aload_n F dL_law_417 rfl 5 rfl ?_
  refine x_iload F dL_law_418 1 rfl ?_
  refine x_iconst F (v := 1) dL_law_420 (by decide) ?_
  refine x_iadd F dL_law_421 ?_
  refine x_sld F hX hb hlo (nI_add i 1) (by omega) hL dL_law_422 ?_
  refine x_aload_n F dL_law_423 rfl 5 rfl ?_
  refine x_iload F dL_law_424 1 rfl ?_
  refine x_iconst F (v := 2) dL_law_426 (by decide) ?_
  refine x_iadd F dL_law_427 ?_
  refine x_sld F hX hb hlo (nI_add i 2) (by omega) hL dL_law_428 ?_
  refine x_aload_n F dL_law_429 rfl 5 rfl ?_
  refine x_iload F dL_law_430 1 rfl ?_
  refine x_iconst F (v := 3) dL_law_432 (by decide) ?_
  refine x_iadd F dL_law_433 ?_
  refine x_sld F hX hb hlo (nI_add i 3) (by omega) hL dL_law_434 ?_
  refine x_stk (st' := .int (xs (i + 3)) :: .int (xs (i + 2)) :: .int (xs (i + 1)) :: .ref (ad' 13) :: []) (by rw [had 13 (by omega)]) ?_
  obtain ⟨hS, hth, hout⟩ := hf
  refine z_callVi F [.int (xs (i + 1)), .int (xs (i + 2)), .int (xs (i + 3))] (c_X5_number l D cy lo R' ad' q ns' nt I1 J1 hRX'.1.1 (xs (i + 1)) (xs (i + 2)) (xs (i + 3)) ns h1.m8 h1.hns) mc_X5_number mv_X5_number lk_L_115 (hRX'.1.1 13 (by decide)) sc_13 rfl rfl rfl dL_law_435 ⟨(Nat.le_of_ble_eq_true rfl), (Nat.le_of_ble_eq_true rfl)⟩ ⟨(by show cells + 4 ≤ 601024; omega), (by show slots + 26 ≤ 7293033; omega)⟩ (Nat.le_of_ble_eq_true rfl) ?_
  generalize (if mNum I1 (xs (i + 1)) (xs (i + 2)) (xs (i + 3)) = 0 then wI (wI (wI (wI (wI (wI I1 13 0 0) 21 (I1 13 8).toNatClampNeg 1) 22 (10 * I1 13 8).toNatClampNeg (xs (i + 1))) 23 (I1 13 8).toNatClampNeg (xs (i + 2))) 24 (I1 13 8).toNatClampNeg (xs (i + 3))) 13 8 (I1 13 8 + 1) else wI I1 13 0 (mNum I1 (xs (i + 1)) (xs (i + 2)) (xs (i + 3)))) = I2 at hS hth hout ⊢
  generalize (if mNum I1 (xs (i + 1)) (xs (i + 2)) (xs (i + 3)) = 0 then I1 13 8 + 1 - 1 else 0) = b9 at hout ⊢
  refine x_istore F ((6, .int b9) :: ((5, .int r) :: k_LV ad b i)) dL_law_438 (by decide) rfl ?_
  have KT : XW D lo p l e room_1 s m args below meth c 8 (cells + 4) (slots + 26) Q R' ad' (k_c cy ad' q ns' nt I2 J1) 468 ((6, .int b9) :: ((5, .int r) :: k_LV ad b i)) [] := by
    refine x_goto F 1694 dL_law_468 (by decide) ?_
    refine x_sub (lv' := k_LV ad b i) [2, 3, 4, 5, 6] rfl ?_
    refine x_widen (k := cells + 6) (n := slots + 53) (by omega) (by omega) ?_
    exact K R' ad' q ns' nt _ _ hRX' had hS
  refine x_aload_n F dL_law_440 rfl 4 rfl ?_
  refine x_stk (st' := .ref (ad' 13) :: []) (by rw [had 13 (by omega)]) ?_
  refine z_callVi F [] (c_X5_thrown l D cy lo R' ad' q ns' nt I2 J1 hRX'.1.1) mc_X5_thrown mv_X5_thrown lk_L_101 (hRX'.1.1 13 (by decide)) sc_13 rfl rfl rfl dL_law_441 ⟨(Nat.le_of_ble_eq_true rfl), (Nat.le_of_ble_eq_true rfl)⟩ ⟨(by show cells + 4 ≤ 601024; omega), (by show slots + 26 ≤ 7293033; omega)⟩ (Nat.le_of_ble_eq_true rfl) ?_
  refine x_iload F dL_law_444 1 rfl ?_
  refine x_icmp_eq F 451 dL_law_446 (by decide) (fun _ => ?_) (fun hne => absurd hth hne)
  refine x_iload F dL_law_451 1 rfl ?_
  refine x_if_ne F 468 dL_law_453 (by decide) (fun _ => KT) (fun h0 => ?_)
  refine x_aload_n F dL_law_456 rfl 3 rfl ?_
  refine x_iconst F (v := 0) dL_law_457 (by decide) ?_
  refine x_stk (st' := .int 0 :: .ref (ad' 12) :: []) (by rw [had 12 (by omega)]) ?_
  refine y_lald F (hRX'.1.1 12 (by decide)) ss_12 (vp_in_nI (show 0 < 1 by decide) (by decide)) dL_law_458 ?_
  refine x_iload F dL_law_459 0 rfl ?_
  refine x_i2l F dL_law_461 ?_
  refine x_lcmp F dL_law_462 ?_
  exact x_if_eq F 468 dL_law_463 (by decide) (fun _ => KT) (fun hne => absurd (cmp_self (hout h0)) hne)
set_option maxHeartbeats 4000000 in
set_option maxRecDepth 100000 in
theorem law_4 {D : va_G} {cy : Nat → ClassId} {lo : Nat} {p : Program} {l : Launch} {e : Env} {s : State} {m : MethodId} {args : Array Value} {below : List Frame} {meth : Method} {c : Code} {Q : State → Prop} (hfl : l.stackTraces = false) (F : k_F p m c cL_law 8 s RL D cy lo) {b L : Nat} {xs : Nat → Int32} (hX : va_X b L xs s s.heap) (hb : b < s.heap.size) (hlo : lo = s.heap.size) {R : List Nat} {ad : Nat → Nat} {q : Nat → Nat → Nat} {ns nt : Nat} {I : Nat → Nat → Int32} {J : Nat → Nat → Int64} (hRX : k_RX R ns nt) (h : SR q ns nt I J I J) {i : Nat} (hi : i + 5 ≤ L) (hL : L ≤ 2560) {cells slots : Nat} (hc : cells + 6 ≤ 601024) (hs : slots + 53 ≤ 7293033)
    (K : ∀ (R' : List Nat) (ad' : Nat → Nat) (q' : Nat → Nat → Nat) (ns' nt' : Nat) (I' : Nat → Nat → Int32) (J' : Nat → Nat → Int64), k_RX R' ns' nt' → (∀ y, y < 40 → ad' y = ad y) → SR q' ns' nt' I' J' I' J' → XW D lo p l e room_1 s m args below meth c 8 (cells + 6) (slots + 53) Q R' ad' (k_c cy ad' q' ns' nt' I' J') 1694 (k_LV ad b i) []) :
    XW D lo p l e room_1 s m args below meth c 8 cells slots Q R ad (k_c cy ad q ns nt I J) 471 (k_LV ad b i) [] := by
  refine x_aload_n F dL_law_471 rfl 3 rfl ?_
  refine x_aload_n F dL_law_472 rfl 4 rfl ?_
  refine x_iload F dL_law_473 0 rfl ?_
  refine x_iconst F (v := 1) dL_law_475 (by decide) ?_
  refine x_iadd F dL_law_476 ?_
  refine x_sld F hX hb hlo (nI_add i 1) (by omega) hL dL_law_477 ?_
  refine x_aload_n F dL_law_478 rfl 4 rfl ?_
  refine x_iload F dL_law_479 0 rfl ?_
  refine x_iconst F (v := 2) dL_law_481 (by decide) ?_
  refine x_iadd F dL_law_482 ?_
  refine x_sld F hX hb hlo (nI_add i 2) (by omega) hL dL_law_483 ?_
  refine x_aload_n F dL_law_484 rfl 1 rfl ?_
  refine x_callHi F [.ref (ad 0), .int (xs (i + 1)), .int (xs (i + 2)), .ref (ad 12)] (c_L_carryOver l D cy lo R ad q ns nt I J hRX.1.1 (xs (i + 1)) (xs (i + 2)) 7 108 3 18 _ _ (c_X4_carryOver l D cy lo R ad q ns nt I J hRX.1 hfl (xs (i + 1)) (xs (i + 2))) (fun E u hx => by rcases hx with ⟨⟨e, -⟩ | ⟨e, -⟩ | ⟨e, -⟩, -⟩ <;> simp [e]) (fun v u hp => ⟨R, ad, q, ns, nt, _, _, hp.2.2, hRX.1.1 12 (by decide), rfl⟩)) mh_L_carryOver ms_L_carryOver lk_L_116 rfl rfl dL_law_485 ⟨(Nat.le_of_ble_eq_true rfl), (Nat.le_of_ble_eq_true rfl)⟩ ⟨(by show cells + 3 ≤ 601024; omega), (by show slots + 18 ≤ 7293033; omega)⟩ (Nat.le_of_ble_eq_true rfl) (fun r u hp => ?_)
  obtain ⟨I1, J1, rfl, h1, hf⟩ := mid_carryOver h hp
  show XW D lo p l e room_1 s m args below meth c 8 (cells + 3) (slots + 18) Q R ad (k_c cy ad q ns nt I1 J1) 488 (k_LV ad b i) (.int r :: [])
  refine x_istore F ((5, .int r) :: k_LV ad b i) dL_law_488 (by decide) rfl ?_
  refine x_aload_n F dL_law_490 rfl 3 rfl ?_
  refine x_aload_n F dL_law_491 rfl 5 rfl ?_
  refine x_iload F dL_law_492 1 rfl ?_
  refine x_iconst F (v := 1) dL_law_494 (by decide) ?_
  refine x_iadd F dL_law_495 ?_
  refine x_sld F hX hb hlo (nI_add i 1) (by omega) hL dL_law_496 ?_
  refine x_aload_n F dL_law_497 rfl 5 rfl ?_
  refine x_iload F dL_law_498 1 rfl ?_
  refine x_iconst F (v := 2) dL_law_500 (by decide) ?_
  refine x_iadd F dL_law_501 ?_
  refine x_sld F hX hb hlo (nI_add i 2) (by omega) hL dL_law_502 ?_
  obtain ⟨hS, hth, hout⟩ := hf
  refine z_callVi F [.int (xs (i + 1)), .int (xs (i + 2))] (c_X5_carryOver l D cy lo R ad q ns nt I1 J1 hRX.1.1 (xs (i + 1)) (xs (i + 2)) h1.m8 h1.hns h1.hh) mc_X5_carryOver mv_X5_carryOver lk_L_118 (hRX.1.1 13 (by decide)) sc_13 rfl rfl rfl dL_law_503 ⟨(Nat.le_of_ble_eq_true rfl), (Nat.le_of_ble_eq_true rfl)⟩ ⟨(by show cells + 3 ≤ 601024; omega), (by show slots + 18 ≤ 7293033; omega)⟩ (Nat.le_of_ble_eq_true rfl) ?_
  generalize (if mCar I1 (xs (i + 1)) (xs (i + 2)) = 0 then wI (wI (wI I1 13 0 0) 22 (10 * (xs (i + 1)) + I1 21 (xs (i + 1)).toNatClampNeg).toNatClampNeg (xs (i + 2))) 21 (xs (i + 1)).toNatClampNeg (I1 21 (xs (i + 1)).toNatClampNeg + 1) else wI I1 13 0 (mCar I1 (xs (i + 1)) (xs (i + 2)))) = I2 at hS hth hout ⊢
  generalize (if mCar I1 (xs (i + 1)) (xs (i + 2)) = 0 then I1 21 (xs (i + 1)).toNatClampNeg + 1 else 0) = b9 at hout ⊢
  refine x_istore F ((6, .int b9) :: ((5, .int r) :: k_LV ad b i)) dL_law_506 (by decide) rfl ?_
  have KT : XW D lo p l e room_1 s m args below meth c 8 (cells + 3) (slots + 18) Q R ad (k_c cy ad q ns nt I2 J1) 536 ((6, .int b9) :: ((5, .int r) :: k_LV ad b i)) [] := by
    refine x_goto F 1694 dL_law_536 (by decide) ?_
    refine x_sub (lv' := k_LV ad b i) [2, 3, 4, 5, 6] rfl ?_
    refine x_widen (k := cells + 6) (n := slots + 53) (by omega) (by omega) ?_
    exact K R ad q ns nt _ _ hRX (fun _ _ => rfl) hS
  refine x_aload_n F dL_law_508 rfl 4 rfl ?_
  refine z_callVi F [] (c_X5_thrown l D cy lo R ad q ns nt I2 J1 hRX.1.1) mc_X5_thrown mv_X5_thrown lk_L_101 (hRX.1.1 13 (by decide)) sc_13 rfl rfl rfl dL_law_509 ⟨(Nat.le_of_ble_eq_true rfl), (Nat.le_of_ble_eq_true rfl)⟩ ⟨(by show cells + 3 ≤ 601024; omega), (by show slots + 18 ≤ 7293033; omega)⟩ (Nat.le_of_ble_eq_true rfl) ?_
  refine x_iload F dL_law_512 1 rfl ?_
  refine x_icmp_eq F 519 dL_law_514 (by decide) (fun _ => ?_) (fun hne => absurd hth hne)
  refine x_iload F dL_law_519 1 rfl ?_
  refine x_if_ne F 536 dL_law_521 (by decide) (fun _ => KT) (fun h0 => ?_)
  refine x_aload_n F dL_law_524 rfl 3 rfl ?_
  refine x_iconst F (v := 0) dL_law_525 (by decide) ?_
  refine y_lald F (hRX.1.1 12 (by decide)) ss_12 (vp_in_nI (show 0 < 1 by decide) (by decide)) dL_law_526 ?_
  refine x_iload F dL_law_527 0 rfl ?_
  refine x_i2l F dL_law_529 ?_
  refine x_lcmp F dL_law_530 ?_
  exact x_if_eq F 536 dL_law_531 (by decide) (fun _ => KT) (fun hne => absurd (cmp_self (hout h0)) hne)
set_option maxHeartbeats 4000000 in
set_option maxRecDepth 100000 in
theorem law_5 {D : va_G} {cy : Nat → ClassId} {lo : Nat} {p : Program} {l : Launch} {e : Env} {s : State} {m : MethodId} {args : Array Value} {below : List Frame} {meth : Method} {c : Code} {Q : State → Prop} (hfl : l.stackTraces = false) (F : k_F p m c cL_law 8 s RL D cy lo) {b L : Nat} {xs : Nat → Int32} (hX : va_X b L xs s s.heap) (hb : b < s.heap.size) (hlo : lo = s.heap.size) {R : List Nat} {ad : Nat → Nat} {q : Nat → Nat → Nat} {ns nt : Nat} {I : Nat → Nat → Int32} {J : Nat → Nat → Int64} (hRX : k_RX R ns nt) (h : SR q ns nt I J I J) {i : Nat} (hi : i + 5 ≤ L) (hL : L ≤ 2560) {cells slots : Nat} (hc : cells + 6 ≤ 601024) (hs : slots + 53 ≤ 7293033)
    (K : ∀ (R' : List Nat) (ad' : Nat → Nat) (q' : Nat → Nat → Nat) (ns' nt' : Nat) (I' : Nat → Nat → Int32) (J' : Nat → Nat → Int64), k_RX R' ns' nt' → (∀ y, y < 40 → ad' y = ad y) → SR q' ns' nt' I' J' I' J' → XW D lo p l e room_1 s m args below meth c 8 (cells + 6) (slots + 53) Q R' ad' (k_c cy ad' q' ns' nt' I' J') 1694 (k_LV ad b i) []) :
    XW D lo p l e room_1 s m args below meth c 8 cells slots Q R ad (k_c cy ad q ns nt I J) 539 (k_LV ad b i) [] := by
  refine x_aload_n F dL_law_539 rfl 3 rfl ?_
  refine x_aload_n F dL_law_540 rfl 4 rfl ?_
  refine x_iload F dL_law_541 0 rfl ?_
  refine x_iconst F (v := 1) dL_law_543 (by decide) ?_
  refine x_iadd F dL_law_544 ?_
  refine x_sld F hX hb hlo (nI_add i 1) (by omega) hL dL_law_545 ?_
  refine x_aload_n F dL_law_546 rfl 4 rfl ?_
  refine x_iload F dL_law_547 0 rfl ?_
  refine x_iconst F (v := 2) dL_law_549 (by decide) ?_
  refine x_iadd F dL_law_550 ?_
  refine x_sld F hX hb hlo (nI_add i 2) (by omega) hL dL_law_551 ?_
  refine x_aload_n F dL_law_552 rfl 1 rfl ?_
  refine x_callHi F [.ref (ad 0), .int (xs (i + 1)), .int (xs (i + 2)), .ref (ad 12)] (c_L_home l D cy lo R ad q ns nt I J hRX.1.1 (xs (i + 1)) (xs (i + 2)) 7 108 2 12 _ _ (c_X4_home l D cy lo R ad q ns nt I J hRX.1 hfl (xs (i + 1)) (xs (i + 2))) (fun E u hx => hx.1.1) (fun v u hp => ⟨R, ad, q, ns, nt, _, _, hp.2.2, hRX.1.1 12 (by decide), rfl⟩)) mh_L_home ms_L_home lk_L_119 rfl rfl dL_law_553 ⟨(Nat.le_of_ble_eq_true rfl), (Nat.le_of_ble_eq_true rfl)⟩ ⟨(by show cells + 2 ≤ 601024; omega), (by show slots + 12 ≤ 7293033; omega)⟩ (Nat.le_of_ble_eq_true rfl) (fun r u hp => ?_)
  obtain ⟨I1, J1, rfl, h1, hf⟩ := mid_home h hp
  show XW D lo p l e room_1 s m args below meth c 8 (cells + 2) (slots + 12) Q R ad (k_c cy ad q ns nt I1 J1) 556 (k_LV ad b i) (.int r :: [])
  refine x_istore F ((5, .int r) :: k_LV ad b i) dL_law_556 (by decide) rfl ?_
  refine x_aload_n F dL_law_558 rfl 3 rfl ?_
  refine x_aload_n F dL_law_559 rfl 5 rfl ?_
  refine x_iload F dL_law_560 1 rfl ?_
  refine x_iconst F (v := 1) dL_law_562 (by decide) ?_
  refine x_iadd F dL_law_563 ?_
  refine x_sld F hX hb hlo (nI_add i 1) (by omega) hL dL_law_564 ?_
  refine x_aload_n F dL_law_565 rfl 5 rfl ?_
  refine x_iload F dL_law_566 1 rfl ?_
  refine x_iconst F (v := 2) dL_law_568 (by decide) ?_
  refine x_iadd F dL_law_569 ?_
  refine x_sld F hX hb hlo (nI_add i 2) (by omega) hL dL_law_570 ?_
  obtain ⟨hS, hth, hout⟩ := hf
  refine z_callVi F [.int (xs (i + 1)), .int (xs (i + 2))] (c_X5_home l D cy lo R ad q ns nt I1 J1 hRX.1.1 (xs (i + 1)) (xs (i + 2)) h1.m8 h1.hns h1.hh) mc_X5_home mv_X5_home lk_L_121 (hRX.1.1 13 (by decide)) sc_13 rfl rfl rfl dL_law_571 ⟨(Nat.le_of_ble_eq_true rfl), (Nat.le_of_ble_eq_true rfl)⟩ ⟨(by show cells + 2 ≤ 601024; omega), (by show slots + 12 ≤ 7293033; omega)⟩ (Nat.le_of_ble_eq_true rfl) ?_
  generalize (wI I1 13 0 (if mHom I1 (xs (i + 1)) (xs (i + 2)) = true then 0 else 1)) = I2 at hS hth hout ⊢
  generalize (if mHom I1 (xs (i + 1)) (xs (i + 2)) = true then I1 22 (10 * (xs (i + 1)) + I1 21 (xs (i + 1)).toNatClampNeg - 1 - (xs (i + 2))).toNatClampNeg else 0) = b9 at hout ⊢
  refine x_istore F ((6, .int b9) :: ((5, .int r) :: k_LV ad b i)) dL_law_574 (by decide) rfl ?_
  have KT : XW D lo p l e room_1 s m args below meth c 8 (cells + 2) (slots + 12) Q R ad (k_c cy ad q ns nt I2 J1) 604 ((6, .int b9) :: ((5, .int r) :: k_LV ad b i)) [] := by
    refine x_goto F 1694 dL_law_604 (by decide) ?_
    refine x_sub (lv' := k_LV ad b i) [2, 3, 4, 5, 6] rfl ?_
    refine x_widen (k := cells + 6) (n := slots + 53) (by omega) (by omega) ?_
    exact K R ad q ns nt _ _ hRX (fun _ _ => rfl) hS
  refine x_aload_n F dL_law_576 rfl 4 rfl ?_
  refine z_callVi F [] (c_X5_thrown l D cy lo R ad q ns nt I2 J1 hRX.1.1) mc_X5_thrown mv_X5_thrown lk_L_101 (hRX.1.1 13 (by decide)) sc_13 rfl rfl rfl dL_law_577 ⟨(Nat.le_of_ble_eq_true rfl), (Nat.le_of_ble_eq_true rfl)⟩ ⟨(by show cells + 2 ≤ 601024; omega), (by show slots + 12 ≤ 7293033; omega)⟩ (Nat.le_of_ble_eq_true rfl) ?_
  refine x_iload F dL_law_580 1 rfl ?_
  refine x_icmp_eq F 587 dL_law_582 (by decide) (fun _ => ?_) (fun hne => absurd hth hne)
  refine x_iload F dL_law_587 1 rfl ?_
  refine x_if_ne F 604 dL_law_589 (by decide) (fun _ => KT) (fun h0 => ?_)
  refine x_aload_n F dL_law_592 rfl 3 rfl ?_
  refine x_iconst F (v := 0) dL_law_593 (by decide) ?_
  refine y_lald F (hRX.1.1 12 (by decide)) ss_12 (vp_in_nI (show 0 < 1 by decide) (by decide)) dL_law_594 ?_
  refine x_iload F dL_law_595 0 rfl ?_
  refine x_i2l F dL_law_597 ?_
  refine x_lcmp F dL_law_598 ?_
  exact x_if_eq F 604 dL_law_599 (by decide) (fun _ => KT) (fun hne => absurd (cmp_self (hout h0)) hne)
set_option maxHeartbeats 4000000 in
set_option maxRecDepth 100000 in
theorem law_6 {D : va_G} {cy : Nat → ClassId} {lo : Nat} {p : Program} {l : Launch} {e : Env} {s : State} {m : MethodId} {args : Array Value} {below : List Frame} {meth : Method} {c : Code} {Q : State → Prop} (hfl : l.stackTraces = false) (F : k_F p m c cL_law 8 s RL D cy lo) {b L : Nat} {xs : Nat → Int32} (hX : va_X b L xs s s.heap) (hb : b < s.heap.size) (hlo : lo = s.heap.size) {R : List Nat} {ad : Nat → Nat} {q : Nat → Nat → Nat} {ns nt : Nat} {I : Nat → Nat → Int32} {J : Nat → Nat → Int64} (hRX : k_RX R ns nt) (h : SR q ns nt I J I J) {i : Nat} (hi : i + 5 ≤ L) (hL : L ≤ 2560) {cells slots : Nat} (hc : cells + 6 ≤ 601024) (hs : slots + 53 ≤ 7293033)
    (K : ∀ (R' : List Nat) (ad' : Nat → Nat) (q' : Nat → Nat → Nat) (ns' nt' : Nat) (I' : Nat → Nat → Int32) (J' : Nat → Nat → Int64), k_RX R' ns' nt' → (∀ y, y < 40 → ad' y = ad y) → SR q' ns' nt' I' J' I' J' → XW D lo p l e room_1 s m args below meth c 8 (cells + 6) (slots + 53) Q R' ad' (k_c cy ad' q' ns' nt' I' J') 1694 (k_LV ad b i) []) :
    XW D lo p l e room_1 s m args below meth c 8 cells slots Q R ad (k_c cy ad q ns nt I J) 607 (k_LV ad b i) [] := by
  refine x_aload_n F dL_law_607 rfl 3 rfl ?_
  refine x_aload_n F dL_law_608 rfl 4 rfl ?_
  refine x_iload F dL_law_609 0 rfl ?_
  refine x_iconst F (v := 1) dL_law_611 (by decide) ?_
  refine x_iadd F dL_law_612 ?_
  refine x_sld F hX hb hlo (nI_add i 1) (by omega) hL dL_law_613 ?_
  refine x_aload_n F dL_law_614 rfl 4 rfl ?_
  refine x_iload F dL_law_615 0 rfl ?_
  refine x_iconst F (v := 2) dL_law_617 (by decide) ?_
  refine x_iadd F dL_law_618 ?_
  refine x_sld F hX hb hlo (nI_add i 2) (by omega) hL dL_law_619 ?_
  refine x_aload_n F dL_law_620 rfl 4 rfl ?_
  refine x_iload F dL_law_621 0 rfl ?_
  refine x_iconst F (v := 3) dL_law_623 (by decide) ?_
  refine x_iadd F dL_law_624 ?_
  refine x_sld F hX hb hlo (nI_add i 3) (by omega) hL dL_law_625 ?_
  refine x_aload_n F dL_law_626 rfl 1 rfl ?_
  refine x_callHi F [.ref (ad 0), .int (xs (i + 1)), .int (xs (i + 2)), .int (xs (i + 3)), .ref (ad 12)] (c_L_topUp l D cy lo R ad q ns nt I J hRX.1.1 (xs (i + 1)) (xs (i + 2)) (xs (i + 3)) 7 108 3 18 _ _ (c_X4_topUp l D cy lo R ad q ns nt I J hRX.1 hfl (xs (i + 1)) (xs (i + 2)) (xs (i + 3))) (fun E u hx => by rcases hx with ⟨⟨e, -⟩ | ⟨e, -⟩ | ⟨e, -⟩, -⟩ <;> simp [e]) (fun v u hp => ⟨R, ad, q, ns, nt, _, _, hp.2.2, hRX.1.1 12 (by decide), rfl⟩)) mh_L_topUp ms_L_topUp lk_L_122 rfl rfl dL_law_627 ⟨(Nat.le_of_ble_eq_true rfl), (Nat.le_of_ble_eq_true rfl)⟩ ⟨(by show cells + 3 ≤ 601024; omega), (by show slots + 18 ≤ 7293033; omega)⟩ (Nat.le_of_ble_eq_true rfl) (fun r u hp => ?_)
  obtain ⟨I1, J1, rfl, h1, hf⟩ := mid_topUp h hp
  show XW D lo p l e room_1 s m args below meth c 8 (cells + 3) (slots + 18) Q R ad (k_c cy ad q ns nt I1 J1) 630 (k_LV ad b i) (.int r :: [])
  refine x_istore F ((5, .int r) :: k_LV ad b i) dL_law_630 (by decide) rfl ?_
  refine x_aload_n F dL_law_632 rfl 3 rfl ?_
  refine x_aload_n F dL_law_633 rfl 5 rfl ?_
  refine x_iload F dL_law_634 1 rfl ?_
  refine x_iconst F (v := 1) dL_law_636 (by decide) ?_
  refine x_iadd F dL_law_637 ?_
  refine x_sld F hX hb hlo (nI_add i 1) (by omega) hL dL_law_638 ?_
  refine x_aload_n F dL_law_639 rfl 5 rfl ?_
  refine x_iload F dL_law_640 1 rfl ?_
  refine x_iconst F (v := 2) dL_law_642 (by decide) ?_
  refine x_iadd F dL_law_643 ?_
  refine x_sld F hX hb hlo (nI_add i 2) (by omega) hL dL_law_644 ?_
  refine x_aload_n F dL_law_645 rfl 5 rfl ?_
  refine x_iload F dL_law_646 1 rfl ?_
  refine x_iconst F (v := 3) dL_law_648 (by decide) ?_
  refine x_iadd F dL_law_649 ?_
  refine x_sld F hX hb hlo (nI_add i 3) (by omega) hL dL_law_650 ?_
  obtain ⟨hS, hth, hout⟩ := hf
  refine z_callVi F [.int (xs (i + 1)), .int (xs (i + 2)), .int (xs (i + 3))] (c_X5_topUp l D cy lo R ad q ns nt I1 J1 hRX.1.1 (xs (i + 1)) (xs (i + 2)) (xs (i + 3)) h1.m8 h1.hns) mc_X5_topUp mv_X5_topUp lk_L_124 (hRX.1.1 13 (by decide)) sc_13 rfl rfl rfl dL_law_651 ⟨(Nat.le_of_ble_eq_true rfl), (Nat.le_of_ble_eq_true rfl)⟩ ⟨(by show cells + 3 ≤ 601024; omega), (by show slots + 18 ≤ 7293033; omega)⟩ (Nat.le_of_ble_eq_true rfl) ?_
  generalize (if mTop I1 (xs (i + 1)) (xs (i + 2)) (xs (i + 3)) = 0 then wI (wI (wI I1 13 0 0) 23 (xs (i + 1)).toNatClampNeg (I1 23 (xs (i + 1)).toNatClampNeg + (xs (i + 2)))) 24 (xs (i + 1)).toNatClampNeg (I1 24 (xs (i + 1)).toNatClampNeg + (xs (i + 3))) else wI I1 13 0 (mTop I1 (xs (i + 1)) (xs (i + 2)) (xs (i + 3)))) = I2 at hS hth hout ⊢
  generalize (if mTop I1 (xs (i + 1)) (xs (i + 2)) (xs (i + 3)) = 0 then I1 23 (xs (i + 1)).toNatClampNeg + (xs (i + 2)) else 0) = b9 at hout ⊢
  refine x_istore F ((6, .int b9) :: ((5, .int r) :: k_LV ad b i)) dL_law_654 (by decide) rfl ?_
  have KT : XW D lo p l e room_1 s m args below meth c 8 (cells + 3) (slots + 18) Q R ad (k_c cy ad q ns nt I2 J1) 684 ((6, .int b9) :: ((5, .int r) :: k_LV ad b i)) [] := by
    refine x_goto F 1694 dL_law_684 (by decide) ?_
    refine x_sub (lv' := k_LV ad b i) [2, 3, 4, 5, 6] rfl ?_
    refine x_widen (k := cells + 6) (n := slots + 53) (by omega) (by omega) ?_
    exact K R ad q ns nt _ _ hRX (fun _ _ => rfl) hS
  refine x_aload_n F dL_law_656 rfl 4 rfl ?_
  refine z_callVi F [] (c_X5_thrown l D cy lo R ad q ns nt I2 J1 hRX.1.1) mc_X5_thrown mv_X5_thrown lk_L_101 (hRX.1.1 13 (by decide)) sc_13 rfl rfl rfl dL_law_657 ⟨(Nat.le_of_ble_eq_true rfl), (Nat.le_of_ble_eq_true rfl)⟩ ⟨(by show cells + 3 ≤ 601024; omega), (by show slots + 18 ≤ 7293033; omega)⟩ (Nat.le_of_ble_eq_true rfl) ?_
  refine x_iload F dL_law_660 1 rfl ?_
  refine x_icmp_eq F 667 dL_law_662 (by decide) (fun _ => ?_) (fun hne => absurd hth hne)
  refine x_iload F dL_law_667 1 rfl ?_
  refine x_if_ne F 684 dL_law_669 (by decide) (fun _ => KT) (fun h0 => ?_)
  refine x_aload_n F dL_law_672 rfl 3 rfl ?_
  refine x_iconst F (v := 0) dL_law_673 (by decide) ?_
  refine y_lald F (hRX.1.1 12 (by decide)) ss_12 (vp_in_nI (show 0 < 1 by decide) (by decide)) dL_law_674 ?_
  refine x_iload F dL_law_675 0 rfl ?_
  refine x_i2l F dL_law_677 ?_
  refine x_lcmp F dL_law_678 ?_
  exact x_if_eq F 684 dL_law_679 (by decide) (fun _ => KT) (fun hne => absurd (cmp_self (hout h0)) hne)
set_option maxHeartbeats 4000000 in
set_option maxRecDepth 100000 in
theorem law_7 {D : va_G} {cy : Nat → ClassId} {lo : Nat} {p : Program} {l : Launch} {e : Env} {s : State} {m : MethodId} {args : Array Value} {below : List Frame} {meth : Method} {c : Code} {Q : State → Prop} (hfl : l.stackTraces = false) (F : k_F p m c cL_law 8 s RL D cy lo) {b L : Nat} {xs : Nat → Int32} (hX : va_X b L xs s s.heap) (hb : b < s.heap.size) (hlo : lo = s.heap.size) {R : List Nat} {ad : Nat → Nat} {q : Nat → Nat → Nat} {ns nt : Nat} {I : Nat → Nat → Int32} {J : Nat → Nat → Int64} (hRX : k_RX R ns nt) (h : SR q ns nt I J I J) {i : Nat} (hi : i + 5 ≤ L) (hL : L ≤ 2560) {cells slots : Nat} (hc : cells + 6 ≤ 601024) (hs : slots + 53 ≤ 7293033)
    (K : ∀ (R' : List Nat) (ad' : Nat → Nat) (q' : Nat → Nat → Nat) (ns' nt' : Nat) (I' : Nat → Nat → Int32) (J' : Nat → Nat → Int64), k_RX R' ns' nt' → (∀ y, y < 40 → ad' y = ad y) → SR q' ns' nt' I' J' I' J' → XW D lo p l e room_1 s m args below meth c 8 (cells + 6) (slots + 53) Q R' ad' (k_c cy ad' q' ns' nt' I' J') 1694 (k_LV ad b i) []) :
    XW D lo p l e room_1 s m args below meth c 8 cells slots Q R ad (k_c cy ad q ns nt I J) 687 (k_LV ad b i) [] := by
  refine x_aload_n F dL_law_687 rfl 3 rfl ?_
  refine x_aload_n F dL_law_688 rfl 4 rfl ?_
  refine x_iload F dL_law_689 0 rfl ?_
  refine x_iconst F (v := 1) dL_law_691 (by decide) ?_
  refine x_iadd F dL_law_692 ?_
  refine x_sld F hX hb hlo (nI_add i 1) (by omega) hL dL_law_693 ?_
  refine x_aload_n F dL_law_694 rfl 1 rfl ?_
  refine x_callHi F [.ref (ad 0), .int (xs (i + 1)), .ref (ad 12)] (c_L_balance l D cy lo R ad q ns nt I J hRX.1.1 (xs (i + 1)) 7 108 1 6 _ _ (c_X4_balance l D cy lo R ad q ns nt I J hRX.1 hfl (xs (i + 1))) (fun E u hx => hx.1.1) (fun v u hp => ⟨R, ad, q, ns, nt, _, _, hp.2.2, hRX.1.1 12 (by decide), rfl⟩)) mh_L_balance ms_L_balance lk_L_125 rfl rfl dL_law_695 ⟨(Nat.le_of_ble_eq_true rfl), (Nat.le_of_ble_eq_true rfl)⟩ ⟨(by show cells + 1 ≤ 601024; omega), (by show slots + 6 ≤ 7293033; omega)⟩ (Nat.le_of_ble_eq_true rfl) (fun r u hp => ?_)
  obtain ⟨I1, J1, rfl, h1, hf⟩ := mid_balance h hp
  show XW D lo p l e room_1 s m args below meth c 8 (cells + 1) (slots + 6) Q R ad (k_c cy ad q ns nt I1 J1) 698 (k_LV ad b i) (.int r :: [])
  refine x_istore F ((5, .int r) :: k_LV ad b i) dL_law_698 (by decide) rfl ?_
  refine x_aload_n F dL_law_700 rfl 3 rfl ?_
  refine x_aload_n F dL_law_701 rfl 5 rfl ?_
  refine x_iload F dL_law_702 1 rfl ?_
  refine x_iconst F (v := 1) dL_law_704 (by decide) ?_
  refine x_iadd F dL_law_705 ?_
  refine x_sld F hX hb hlo (nI_add i 1) (by omega) hL dL_law_706 ?_
  obtain ⟨hS, hth, hout⟩ := hf
  refine z_callVi F [.int (xs (i + 1))] (c_X5_balance l D cy lo R ad q ns nt I1 J1 hRX.1.1 (xs (i + 1)) h1.m8 h1.hns) mc_X5_balance mv_X5_balance lk_L_128 (hRX.1.1 13 (by decide)) sc_13 rfl rfl rfl dL_law_707 ⟨(Nat.le_of_ble_eq_true rfl), (Nat.le_of_ble_eq_true rfl)⟩ ⟨(by show cells + 1 ≤ 601024; omega), (by show slots + 6 ≤ 7293033; omega)⟩ (Nat.le_of_ble_eq_true rfl) ?_
  generalize (wI I1 13 0 (if isNum I1 (xs (i + 1)) = true then 0 else 1)) = I2 at hS hth hout ⊢
  generalize (if isNum I1 (xs (i + 1)) = true then I1 23 (xs (i + 1)).toNatClampNeg else 0) = b9 at hout ⊢
  refine x_istore F ((6, .int b9) :: ((5, .int r) :: k_LV ad b i)) dL_law_710 (by decide) rfl ?_
  have KT : XW D lo p l e room_1 s m args below meth c 8 (cells + 1) (slots + 6) Q R ad (k_c cy ad q ns nt I2 J1) 740 ((6, .int b9) :: ((5, .int r) :: k_LV ad b i)) [] := by
    refine x_goto F 1694 dL_law_740 (by decide) ?_
    refine x_sub (lv' := k_LV ad b i) [2, 3, 4, 5, 6] rfl ?_
    refine x_widen (k := cells + 6) (n := slots + 53) (by omega) (by omega) ?_
    exact K R ad q ns nt _ _ hRX (fun _ _ => rfl) hS
  refine x_aload_n F dL_law_712 rfl 4 rfl ?_
  refine z_callVi F [] (c_X5_thrown l D cy lo R ad q ns nt I2 J1 hRX.1.1) mc_X5_thrown mv_X5_thrown lk_L_101 (hRX.1.1 13 (by decide)) sc_13 rfl rfl rfl dL_law_713 ⟨(Nat.le_of_ble_eq_true rfl), (Nat.le_of_ble_eq_true rfl)⟩ ⟨(by show cells + 1 ≤ 601024; omega), (by show slots + 6 ≤ 7293033; omega)⟩ (Nat.le_of_ble_eq_true rfl) ?_
  refine x_iload F dL_law_716 1 rfl ?_
  refine x_icmp_eq F 723 dL_law_718 (by decide) (fun _ => ?_) (fun hne => absurd hth hne)
  refine x_iload F dL_law_723 1 rfl ?_
  refine x_if_ne F 740 dL_law_725 (by decide) (fun _ => KT) (fun h0 => ?_)
  refine x_aload_n F dL_law_728 rfl 3 rfl ?_
  refine x_iconst F (v := 0) dL_law_729 (by decide) ?_
  refine y_lald F (hRX.1.1 12 (by decide)) ss_12 (vp_in_nI (show 0 < 1 by decide) (by decide)) dL_law_730 ?_
  refine x_iload F dL_law_731 0 rfl ?_
  refine x_i2l F dL_law_733 ?_
  refine x_lcmp F dL_law_734 ?_
  exact x_if_eq F 740 dL_law_735 (by decide) (fun _ => KT) (fun hne => absurd (cmp_self (hout h0)) hne)
set_option maxHeartbeats 4000000 in
set_option maxRecDepth 100000 in
theorem law_8 {D : va_G} {cy : Nat → ClassId} {lo : Nat} {p : Program} {l : Launch} {e : Env} {s : State} {m : MethodId} {args : Array Value} {below : List Frame} {meth : Method} {c : Code} {Q : State → Prop} (hfl : l.stackTraces = false) (F : k_F p m c cL_law 8 s RL D cy lo) {b L : Nat} {xs : Nat → Int32} (hX : va_X b L xs s s.heap) (hb : b < s.heap.size) (hlo : lo = s.heap.size) {R : List Nat} {ad : Nat → Nat} {q : Nat → Nat → Nat} {ns nt : Nat} {I : Nat → Nat → Int32} {J : Nat → Nat → Int64} (hRX : k_RX R ns nt) (h : SR q ns nt I J I J) {i : Nat} (hi : i + 5 ≤ L) (hL : L ≤ 2560) {cells slots : Nat} (hc : cells + 6 ≤ 601024) (hs : slots + 53 ≤ 7293033)
    (K : ∀ (R' : List Nat) (ad' : Nat → Nat) (q' : Nat → Nat → Nat) (ns' nt' : Nat) (I' : Nat → Nat → Int32) (J' : Nat → Nat → Int64), k_RX R' ns' nt' → (∀ y, y < 40 → ad' y = ad y) → SR q' ns' nt' I' J' I' J' → XW D lo p l e room_1 s m args below meth c 8 (cells + 6) (slots + 53) Q R' ad' (k_c cy ad' q' ns' nt' I' J') 1694 (k_LV ad b i) []) :
    XW D lo p l e room_1 s m args below meth c 8 cells slots Q R ad (k_c cy ad q ns nt I J) 743 (k_LV ad b i) [] := by
  refine x_aload_n F dL_law_743 rfl 3 rfl ?_
  refine x_aload_n F dL_law_744 rfl 4 rfl ?_
  refine x_iload F dL_law_745 0 rfl ?_
  refine x_iconst F (v := 1) dL_law_747 (by decide) ?_
  refine x_iadd F dL_law_748 ?_
  refine x_sld F hX hb hlo (nI_add i 1) (by omega) hL dL_law_749 ?_
  refine x_aload_n F dL_law_750 rfl 1 rfl ?_
  refine x_callHi F [.ref (ad 0), .int (xs (i + 1)), .ref (ad 12)] (c_L_bundle l D cy lo R ad q ns nt I J hRX.1.1 (xs (i + 1)) 7 108 1 6 _ _ (c_X4_bundle l D cy lo R ad q ns nt I J hRX.1 hfl (xs (i + 1))) (fun E u hx => hx.1.1) (fun v u hp => ⟨R, ad, q, ns, nt, _, _, hp.2.2, hRX.1.1 12 (by decide), rfl⟩)) mh_L_bundle ms_L_bundle lk_L_129 rfl rfl dL_law_751 ⟨(Nat.le_of_ble_eq_true rfl), (Nat.le_of_ble_eq_true rfl)⟩ ⟨(by show cells + 1 ≤ 601024; omega), (by show slots + 6 ≤ 7293033; omega)⟩ (Nat.le_of_ble_eq_true rfl) (fun r u hp => ?_)
  obtain ⟨I1, J1, rfl, h1, hf⟩ := mid_bundle h hp
  show XW D lo p l e room_1 s m args below meth c 8 (cells + 1) (slots + 6) Q R ad (k_c cy ad q ns nt I1 J1) 754 (k_LV ad b i) (.int r :: [])
  refine x_istore F ((5, .int r) :: k_LV ad b i) dL_law_754 (by decide) rfl ?_
  refine x_aload_n F dL_law_756 rfl 3 rfl ?_
  refine x_aload_n F dL_law_757 rfl 5 rfl ?_
  refine x_iload F dL_law_758 1 rfl ?_
  refine x_iconst F (v := 1) dL_law_760 (by decide) ?_
  refine x_iadd F dL_law_761 ?_
  refine x_sld F hX hb hlo (nI_add i 1) (by omega) hL dL_law_762 ?_
  obtain ⟨hS, hth, hout⟩ := hf
  refine z_callVi F [.int (xs (i + 1))] (c_X5_bundle l D cy lo R ad q ns nt I1 J1 hRX.1.1 (xs (i + 1)) h1.m8 h1.hns) mc_X5_bundle mv_X5_bundle lk_L_131 (hRX.1.1 13 (by decide)) sc_13 rfl rfl rfl dL_law_763 ⟨(Nat.le_of_ble_eq_true rfl), (Nat.le_of_ble_eq_true rfl)⟩ ⟨(by show cells + 1 ≤ 601024; omega), (by show slots + 6 ≤ 7293033; omega)⟩ (Nat.le_of_ble_eq_true rfl) ?_
  generalize (wI I1 13 0 (if isNum I1 (xs (i + 1)) = true then 0 else 1)) = I2 at hS hth hout ⊢
  generalize (if isNum I1 (xs (i + 1)) = true then I1 24 (xs (i + 1)).toNatClampNeg else 0) = b9 at hout ⊢
  refine x_istore F ((6, .int b9) :: ((5, .int r) :: k_LV ad b i)) dL_law_766 (by decide) rfl ?_
  have KT : XW D lo p l e room_1 s m args below meth c 8 (cells + 1) (slots + 6) Q R ad (k_c cy ad q ns nt I2 J1) 796 ((6, .int b9) :: ((5, .int r) :: k_LV ad b i)) [] := by
    refine x_goto F 1694 dL_law_796 (by decide) ?_
    refine x_sub (lv' := k_LV ad b i) [2, 3, 4, 5, 6] rfl ?_
    refine x_widen (k := cells + 6) (n := slots + 53) (by omega) (by omega) ?_
    exact K R ad q ns nt _ _ hRX (fun _ _ => rfl) hS
  refine x_aload_n F dL_law_768 rfl 4 rfl ?_
  refine z_callVi F [] (c_X5_thrown l D cy lo R ad q ns nt I2 J1 hRX.1.1) mc_X5_thrown mv_X5_thrown lk_L_101 (hRX.1.1 13 (by decide)) sc_13 rfl rfl rfl dL_law_769 ⟨(Nat.le_of_ble_eq_true rfl), (Nat.le_of_ble_eq_true rfl)⟩ ⟨(by show cells + 1 ≤ 601024; omega), (by show slots + 6 ≤ 7293033; omega)⟩ (Nat.le_of_ble_eq_true rfl) ?_
  refine x_iload F dL_law_772 1 rfl ?_
  refine x_icmp_eq F 779 dL_law_774 (by decide) (fun _ => ?_) (fun hne => absurd hth hne)
  refine x_iload F dL_law_779 1 rfl ?_
  refine x_if_ne F 796 dL_law_781 (by decide) (fun _ => KT) (fun h0 => ?_)
  refine x_aload_n F dL_law_784 rfl 3 rfl ?_
  refine x_iconst F (v := 0) dL_law_785 (by decide) ?_
  refine y_lald F (hRX.1.1 12 (by decide)) ss_12 (vp_in_nI (show 0 < 1 by decide) (by decide)) dL_law_786 ?_
  refine x_iload F dL_law_787 0 rfl ?_
  refine x_i2l F dL_law_789 ?_
  refine x_lcmp F dL_law_790 ?_
  exact x_if_eq F 796 dL_law_791 (by decide) (fun _ => KT) (fun hne => absurd (cmp_self (hout h0)) hne)
set_option maxHeartbeats 4000000 in
set_option maxRecDepth 100000 in
theorem law_9 {D : va_G} {cy : Nat → ClassId} {lo : Nat} {p : Program} {l : Launch} {e : Env} {s : State} {m : MethodId} {args : Array Value} {below : List Frame} {meth : Method} {c : Code} {Q : State → Prop} (hfl : l.stackTraces = false) (F : k_F p m c cL_law 8 s RL D cy lo) {b L : Nat} {xs : Nat → Int32} (hX : va_X b L xs s s.heap) (hb : b < s.heap.size) (hlo : lo = s.heap.size) {R : List Nat} {ad : Nat → Nat} {q : Nat → Nat → Nat} {ns nt : Nat} {I : Nat → Nat → Int32} {J : Nat → Nat → Int64} (hRX : k_RX R ns nt) (h : SR q ns nt I J I J) {i : Nat} (hi : i + 5 ≤ L) (hL : L ≤ 2560) {cells slots : Nat} (hc : cells + 6 ≤ 601024) (hs : slots + 53 ≤ 7293033)
    (K : ∀ (R' : List Nat) (ad' : Nat → Nat) (q' : Nat → Nat → Nat) (ns' nt' : Nat) (I' : Nat → Nat → Int32) (J' : Nat → Nat → Int64), k_RX R' ns' nt' → (∀ y, y < 40 → ad' y = ad y) → SR q' ns' nt' I' J' I' J' → XW D lo p l e room_1 s m args below meth c 8 (cells + 6) (slots + 53) Q R' ad' (k_c cy ad' q' ns' nt' I' J') 1694 (k_LV ad b i) []) :
    XW D lo p l e room_1 s m args below meth c 8 cells slots Q R ad (k_c cy ad q ns nt I J) 799 (k_LV ad b i) [] := by
  refine x_aload_n F dL_law_799 rfl 3 rfl ?_
  refine x_aload_n F dL_law_800 rfl 4 rfl ?_
  refine x_iload F dL_law_801 0 rfl ?_
  refine x_iconst F (v := 1) dL_law_803 (by decide) ?_
  refine x_iadd F dL_law_804 ?_
  refine x_sld F hX hb hlo (nI_add i 1) (by omega) hL dL_law_805 ?_
  refine x_aload_n F dL_law_806 rfl 4 rfl ?_
  refine x_iload F dL_law_807 0 rfl ?_
  refine x_iconst F (v := 2) dL_law_809 (by decide) ?_
  refine x_iadd F dL_law_810 ?_
  refine x_sld F hX hb hlo (nI_add i 2) (by omega) hL dL_law_811 ?_
  refine x_aload_n F dL_law_812 rfl 1 rfl ?_
  refine x_callHi F [.ref (ad 0), .int (xs (i + 1)), .int (xs (i + 2)), .ref (ad 12)] (c_L_call l D cy lo R ad q ns nt I J hRX.1.1 (xs (i + 1)) (xs (i + 2)) 8 160 6 53 _ _ (c_X4_call l D cy lo R ad q ns nt I J hRX hfl (xs (i + 1)) (xs (i + 2)) h.kq h.c7) (fun E u hx => by rcases hx with ⟨-, e, -⟩ | ⟨-, e, -⟩ | ⟨-, e, -⟩ | ⟨-, e, -⟩ <;> simp [e]) (fun v u hp => by obtain ⟨ht, -, ad', had, rfl⟩ := hp; exact ⟨_, ad', _, ns, nt + 1, _, _, rfl, (RX_talk hRX (call_lt ht)).1.1 12 (by decide), had 12 (by omega) (by omega) (by omega) (by omega)⟩)) mh_L_call ms_L_call lk_L_132 rfl rfl dL_law_813 ⟨(Nat.le_of_ble_eq_true rfl), (Nat.le_of_ble_eq_true rfl)⟩ ⟨(by show cells + 6 ≤ 601024; omega), (by show slots + 53 ≤ 7293033; omega)⟩ (Nat.le_of_ble_eq_true rfl) (fun r u hp => ?_)
  obtain ⟨R', ad', q', nt', I1, J1, rfl, hRX', had, h1, hf⟩ := mid_call h hRX hp
  show XW D lo p l e room_1 s m args below meth c 8 (cells + 6) (slots + 53) Q R' ad' (k_c cy ad' q' ns nt' I1 J1) 816 (k_LV ad b i) (.int r :: [])
  refine x_istore F ((5, .int r) :: k_LV ad b i) dL_law_816 (by decide) rfl ?_
  refine x_aload_n F dL_law_818 rfl 3 rfl ?_
  refine x_aload_n F dL_law_819 rfl 5 rfl ?_
  refine x_iload F dL_law_820 1 rfl ?_
  refine x_iconst F (v := 1) dL_law_822 (by decide) ?_
  refine x_iadd F dL_law_823 ?_
  refine x_sld F hX hb hlo (nI_add i 1) (by omega) hL dL_law_824 ?_
  refine x_aload_n F dL_law_825 rfl 5 rfl ?_
  refine x_iload F dL_law_826 1 rfl ?_
  refine x_iconst F (v := 2) dL_law_828 (by decide) ?_
  refine x_iadd F dL_law_829 ?_
  refine x_sld F hX hb hlo (nI_add i 2) (by omega) hL dL_law_830 ?_
  refine x_stk (st' := .int (xs (i + 2)) :: .int (xs (i + 1)) :: .ref (ad' 13) :: []) (by rw [had 13 (by omega)]) ?_
  refine x_callVi F [.int (xs (i + 1)), .int (xs (i + 2))] (c_X5_call l D cy lo R' ad' q' ns nt' I1 J1 hRX'.1.1 (sOp I J) (sRt I) (xs (i + 1)) (xs (i + 2)) ns nt h1.m8 h1.hns h1.m13 h1.hnt h1.hh h1.homes h1.grf) mc_X5_call mv_X5_call lk_L_134 (hRX'.1.1 13 (by decide)) sc_13 rfl rfl rfl dL_law_831 ⟨(Nat.le_of_ble_eq_true rfl), (Nat.le_of_ble_eq_true rfl)⟩ ⟨(by show cells + 6 + 0 ≤ 601024; omega), (by show slots + 53 + 0 ≤ 7293033; omega)⟩ (Nat.le_of_ble_eq_true rfl) (fun b9 u9 hm => ?_)
  obtain ⟨I2, J2, rfl, hS, hth, hout⟩ := hf b9 u9 hm
  show XW D lo p l e room_1 s m args below meth c 8 (cells + 6) (slots + 53) Q R' ad' (k_c cy ad' q' ns nt' I2 J2) 834 ((5, .int r) :: k_LV ad b i) (.int b9 :: [])
  refine x_istore F ((6, .int b9) :: ((5, .int r) :: k_LV ad b i)) dL_law_834 (by decide) rfl ?_
  have KT : XW D lo p l e room_1 s m args below meth c 8 (cells + 6) (slots + 53) Q R' ad' (k_c cy ad' q' ns nt' I2 J2) 864 ((6, .int b9) :: ((5, .int r) :: k_LV ad b i)) [] := by
    refine x_goto F 1694 dL_law_864 (by decide) ?_
    refine x_sub (lv' := k_LV ad b i) [2, 3, 4, 5, 6] rfl ?_
    refine x_widen (k := cells + 6) (n := slots + 53) (by omega) (by omega) ?_
    exact K R' ad' q' ns nt' _ _ hRX' had hS
  refine x_aload_n F dL_law_836 rfl 4 rfl ?_
  refine x_stk (st' := .ref (ad' 13) :: []) (by rw [had 13 (by omega)]) ?_
  refine z_callVi F [] (c_X5_thrown l D cy lo R' ad' q' ns nt' I2 J2 hRX'.1.1) mc_X5_thrown mv_X5_thrown lk_L_101 (hRX'.1.1 13 (by decide)) sc_13 rfl rfl rfl dL_law_837 ⟨(Nat.le_of_ble_eq_true rfl), (Nat.le_of_ble_eq_true rfl)⟩ ⟨(by show cells + 6 ≤ 601024; omega), (by show slots + 53 ≤ 7293033; omega)⟩ (Nat.le_of_ble_eq_true rfl) ?_
  refine x_iload F dL_law_840 1 rfl ?_
  refine x_icmp_eq F 847 dL_law_842 (by decide) (fun _ => ?_) (fun hne => absurd hth hne)
  refine x_iload F dL_law_847 1 rfl ?_
  refine x_if_ne F 864 dL_law_849 (by decide) (fun _ => KT) (fun h0 => ?_)
  refine x_aload_n F dL_law_852 rfl 3 rfl ?_
  refine x_iconst F (v := 0) dL_law_853 (by decide) ?_
  refine x_stk (st' := .int 0 :: .ref (ad' 12) :: []) (by rw [had 12 (by omega)]) ?_
  refine y_lald F (hRX'.1.1 12 (by decide)) ss_12 (vp_in_nI (show 0 < 1 by decide) (by decide)) dL_law_854 ?_
  refine x_iload F dL_law_855 0 rfl ?_
  refine x_i2l F dL_law_857 ?_
  refine x_lcmp F dL_law_858 ?_
  exact x_if_eq F 864 dL_law_859 (by decide) (fun _ => KT) (fun hne => absurd (cmp_self (hout h0)) hne)
set_option maxHeartbeats 4000000 in
set_option maxRecDepth 100000 in
theorem law_10 {D : va_G} {cy : Nat → ClassId} {lo : Nat} {p : Program} {l : Launch} {e : Env} {s : State} {m : MethodId} {args : Array Value} {below : List Frame} {meth : Method} {c : Code} {Q : State → Prop} (hfl : l.stackTraces = false) (F : k_F p m c cL_law 8 s RL D cy lo) {b L : Nat} {xs : Nat → Int32} (hX : va_X b L xs s s.heap) (hb : b < s.heap.size) (hlo : lo = s.heap.size) {R : List Nat} {ad : Nat → Nat} {q : Nat → Nat → Nat} {ns nt : Nat} {I : Nat → Nat → Int32} {J : Nat → Nat → Int64} (hRX : k_RX R ns nt) (h : SR q ns nt I J I J) {i : Nat} (hi : i + 5 ≤ L) (hL : L ≤ 2560) {cells slots : Nat} (hc : cells + 6 ≤ 601024) (hs : slots + 53 ≤ 7293033)
    (K : ∀ (R' : List Nat) (ad' : Nat → Nat) (q' : Nat → Nat → Nat) (ns' nt' : Nat) (I' : Nat → Nat → Int32) (J' : Nat → Nat → Int64), k_RX R' ns' nt' → (∀ y, y < 40 → ad' y = ad y) → SR q' ns' nt' I' J' I' J' → XW D lo p l e room_1 s m args below meth c 8 (cells + 6) (slots + 53) Q R' ad' (k_c cy ad' q' ns' nt' I' J') 1694 (k_LV ad b i) []) :
    XW D lo p l e room_1 s m args below meth c 8 cells slots Q R ad (k_c cy ad q ns nt I J) 867 (k_LV ad b i) [] := by
  refine x_aload_n F dL_law_867 rfl 3 rfl ?_
  refine x_aload_n F dL_law_868 rfl 4 rfl ?_
  refine x_iload F dL_law_869 0 rfl ?_
  refine x_iconst F (v := 1) dL_law_871 (by decide) ?_
  refine x_iadd F dL_law_872 ?_
  refine x_sld F hX hb hlo (nI_add i 1) (by omega) hL dL_law_873 ?_
  refine x_aload_n F dL_law_874 rfl 1 rfl ?_
  refine x_callHi F [.ref (ad 0), .int (xs (i + 1)), .ref (ad 12)] (c_L_hangUp l D cy lo R ad q ns nt I J hRX.1.1 (xs (i + 1)) 7 108 2 12 _ _ (c_X4_hangUp l D cy lo R ad q ns nt I J hRX.1 hfl (xs (i + 1))) (fun E u hx => by rcases hx with ⟨⟨e, -⟩ | ⟨e, -⟩, -⟩ <;> simp [e]) (fun v u hp => ⟨R, ad, q, ns, nt, _, _, hp.2.2, hRX.1.1 12 (by decide), rfl⟩)) mh_L_hangUp ms_L_hangUp lk_L_135 rfl rfl dL_law_875 ⟨(Nat.le_of_ble_eq_true rfl), (Nat.le_of_ble_eq_true rfl)⟩ ⟨(by show cells + 2 ≤ 601024; omega), (by show slots + 12 ≤ 7293033; omega)⟩ (Nat.le_of_ble_eq_true rfl) (fun r u hp => ?_)
  obtain ⟨I1, J1, rfl, h1, hf⟩ := mid_hangUp h hp
  show XW D lo p l e room_1 s m args below meth c 8 (cells + 2) (slots + 12) Q R ad (k_c cy ad q ns nt I1 J1) 878 (k_LV ad b i) (.int r :: [])
  refine x_istore F ((5, .int r) :: k_LV ad b i) dL_law_878 (by decide) rfl ?_
  refine x_aload_n F dL_law_880 rfl 3 rfl ?_
  refine x_aload_n F dL_law_881 rfl 5 rfl ?_
  refine x_iload F dL_law_882 1 rfl ?_
  refine x_iconst F (v := 1) dL_law_884 (by decide) ?_
  refine x_iadd F dL_law_885 ?_
  refine x_sld F hX hb hlo (nI_add i 1) (by omega) hL dL_law_886 ?_
  obtain ⟨hS, hth, hout⟩ := hf
  refine z_callVi F [.int (xs (i + 1))] (c_X5_hangUp l D cy lo R ad q ns nt I1 J1 hRX.1.1 (xs (i + 1)) h1.m13 h1.hnt) mc_X5_hangUp mv_X5_hangUp lk_L_137 (hRX.1.1 13 (by decide)) sc_13 rfl rfl rfl dL_law_887 ⟨(Nat.le_of_ble_eq_true rfl), (Nat.le_of_ble_eq_true rfl)⟩ ⟨(by show cells + 2 ≤ 601024; omega), (by show slots + 12 ≤ 7293033; omega)⟩ (Nat.le_of_ble_eq_true rfl) ?_
  generalize (if isCal I1 (xs (i + 1)) = true then (if I1 27 (xs (i + 1)).toNatClampNeg = 0 then wI (wI I1 13 0 0) 27 (xs (i + 1)).toNatClampNeg 1 else wI I1 13 0 2) else wI I1 13 0 1) = I2 at hS hth hout ⊢
  generalize (if isCal I1 (xs (i + 1)) = true ∧ I1 27 (xs (i + 1)).toNatClampNeg = 0 then I1 30 (xs (i + 1)).toNatClampNeg else 0) = b9 at hout ⊢
  refine x_istore F ((6, .int b9) :: ((5, .int r) :: k_LV ad b i)) dL_law_890 (by decide) rfl ?_
  have KT : XW D lo p l e room_1 s m args below meth c 8 (cells + 2) (slots + 12) Q R ad (k_c cy ad q ns nt I2 J1) 920 ((6, .int b9) :: ((5, .int r) :: k_LV ad b i)) [] := by
    refine x_goto F 1694 dL_law_920 (by decide) ?_
    refine x_sub (lv' := k_LV ad b i) [2, 3, 4, 5, 6] rfl ?_
    refine x_widen (k := cells + 6) (n := slots + 53) (by omega) (by omega) ?_
    exact K R ad q ns nt _ _ hRX (fun _ _ => rfl) hS
  refine x_aload_n F dL_law_892 rfl 4 rfl ?_
  refine z_callVi F [] (c_X5_thrown l D cy lo R ad q ns nt I2 J1 hRX.1.1) mc_X5_thrown mv_X5_thrown lk_L_101 (hRX.1.1 13 (by decide)) sc_13 rfl rfl rfl dL_law_893 ⟨(Nat.le_of_ble_eq_true rfl), (Nat.le_of_ble_eq_true rfl)⟩ ⟨(by show cells + 2 ≤ 601024; omega), (by show slots + 12 ≤ 7293033; omega)⟩ (Nat.le_of_ble_eq_true rfl) ?_
  refine x_iload F dL_law_896 1 rfl ?_
  refine x_icmp_eq F 903 dL_law_898 (by decide) (fun _ => ?_) (fun hne => absurd hth hne)
  refine x_iload F dL_law_903 1 rfl ?_
  refine x_if_ne F 920 dL_law_905 (by decide) (fun _ => KT) (fun h0 => ?_)
  refine x_aload_n F dL_law_908 rfl 3 rfl ?_
  refine x_iconst F (v := 0) dL_law_909 (by decide) ?_
  refine y_lald F (hRX.1.1 12 (by decide)) ss_12 (vp_in_nI (show 0 < 1 by decide) (by decide)) dL_law_910 ?_
  refine x_iload F dL_law_911 0 rfl ?_
  refine x_i2l F dL_law_913 ?_
  refine x_lcmp F dL_law_914 ?_
  exact x_if_eq F 920 dL_law_915 (by decide) (fun _ => KT) (fun hne => absurd (cmp_self (hout h0)) hne)
set_option maxHeartbeats 4000000 in
set_option maxRecDepth 100000 in
theorem law_11 {D : va_G} {cy : Nat → ClassId} {lo : Nat} {p : Program} {l : Launch} {e : Env} {s : State} {m : MethodId} {args : Array Value} {below : List Frame} {meth : Method} {c : Code} {Q : State → Prop} (hfl : l.stackTraces = false) (F : k_F p m c cL_law 8 s RL D cy lo) {b L : Nat} {xs : Nat → Int32} (hX : va_X b L xs s s.heap) (hb : b < s.heap.size) (hlo : lo = s.heap.size) {R : List Nat} {ad : Nat → Nat} {q : Nat → Nat → Nat} {ns nt : Nat} {I : Nat → Nat → Int32} {J : Nat → Nat → Int64} (hRX : k_RX R ns nt) (h : SR q ns nt I J I J) {i : Nat} (hi : i + 5 ≤ L) (hL : L ≤ 2560) {cells slots : Nat} (hc : cells + 6 ≤ 601024) (hs : slots + 53 ≤ 7293033)
    (K : ∀ (R' : List Nat) (ad' : Nat → Nat) (q' : Nat → Nat → Nat) (ns' nt' : Nat) (I' : Nat → Nat → Int32) (J' : Nat → Nat → Int64), k_RX R' ns' nt' → (∀ y, y < 40 → ad' y = ad y) → SR q' ns' nt' I' J' I' J' → XW D lo p l e room_1 s m args below meth c 8 (cells + 6) (slots + 53) Q R' ad' (k_c cy ad' q' ns' nt' I' J') 1694 (k_LV ad b i) []) :
    XW D lo p l e room_1 s m args below meth c 8 cells slots Q R ad (k_c cy ad q ns nt I J) 923 (k_LV ad b i) [] := by
  refine x_aload_n F dL_law_923 rfl 3 rfl ?_
  refine x_aload_n F dL_law_924 rfl 4 rfl ?_
  refine x_iload F dL_law_925 0 rfl ?_
  refine x_iconst F (v := 1) dL_law_927 (by decide) ?_
  refine x_iadd F dL_law_928 ?_
  refine x_sld F hX hb hlo (nI_add i 1) (by omega) hL dL_law_929 ?_
  refine x_aload_n F dL_law_930 rfl 1 rfl ?_
  refine x_callHi F [.ref (ad 0), .int (xs (i + 1)), .ref (ad 12)] (c_L_pass l D cy lo R ad q ns nt I J hRX.1.1 (xs (i + 1)) 6 139 1 6 _ _ (c_X4_pass l D cy lo R ad q ns nt I J hRX.1 hfl (xs (i + 1)) h.kq h.len) (fun E u hx => hx.1.1) (fun v u hp => ⟨R, ad, q, ns, nt, _, _, hp.2.2, hRX.1.1 12 (by decide), rfl⟩)) mh_L_pass ms_L_pass lk_L_138 rfl rfl dL_law_931 ⟨(Nat.le_of_ble_eq_true rfl), (Nat.le_of_ble_eq_true rfl)⟩ ⟨(by show cells + 1 ≤ 601024; omega), (by show slots + 6 ≤ 7293033; omega)⟩ (Nat.le_of_ble_eq_true rfl) (fun r u hp => ?_)
  obtain ⟨I1, J1, P, rfl, p0, p1, p2, p3, hf⟩ := mid_pass h hp
  show XW D lo p l e room_1 s m args below meth c 8 (cells + 1) (slots + 6) Q R ad (k_c cy ad q ns nt I1 J1) 934 (k_LV ad b i) (.int r :: [])
  refine x_istore F ((5, .int r) :: k_LV ad b i) dL_law_934 (by decide) rfl ?_
  refine x_aload_n F dL_law_936 rfl 3 rfl ?_
  refine x_aload_n F dL_law_937 rfl 5 rfl ?_
  refine x_iload F dL_law_938 1 rfl ?_
  refine x_iconst F (v := 1) dL_law_940 (by decide) ?_
  refine x_iadd F dL_law_941 ?_
  refine x_sld F hX hb hlo (nI_add i 1) (by omega) hL dL_law_942 ?_
  refine x_callVi F [.int (xs (i + 1))] (c_X5_pass l D cy lo R ad q ns nt I1 J1 hRX.1.1 (xs (i + 1)) P h.hnt p0 p1 p2 p3) mc_X5_pass mv_X5_pass lk_L_140 (hRX.1.1 13 (by decide)) sc_13 rfl rfl rfl dL_law_943 ⟨(Nat.le_of_ble_eq_true rfl), (Nat.le_of_ble_eq_true rfl)⟩ ⟨(by show cells + 1 + 0 ≤ 601024; omega), (by show slots + 6 + 0 ≤ 7293033; omega)⟩ (Nat.le_of_ble_eq_true rfl) (fun b9 u9 hm => ?_)
  obtain ⟨I2, J2, rfl, hS, hth, hout⟩ := hf b9 u9 hm
  show XW D lo p l e room_1 s m args below meth c 8 (cells + 1) (slots + 6) Q R ad (k_c cy ad q ns nt I2 J2) 946 ((5, .int r) :: k_LV ad b i) (.int b9 :: [])
  refine x_istore F ((6, .int b9) :: ((5, .int r) :: k_LV ad b i)) dL_law_946 (by decide) rfl ?_
  have KT : XW D lo p l e room_1 s m args below meth c 8 (cells + 1) (slots + 6) Q R ad (k_c cy ad q ns nt I2 J2) 976 ((6, .int b9) :: ((5, .int r) :: k_LV ad b i)) [] := by
    refine x_goto F 1694 dL_law_976 (by decide) ?_
    refine x_sub (lv' := k_LV ad b i) [2, 3, 4, 5, 6] rfl ?_
    refine x_widen (k := cells + 6) (n := slots + 53) (by omega) (by omega) ?_
    exact K R ad q ns nt _ _ hRX (fun _ _ => rfl) hS
  refine x_aload_n F dL_law_948 rfl 4 rfl ?_
  refine z_callVi F [] (c_X5_thrown l D cy lo R ad q ns nt I2 J2 hRX.1.1) mc_X5_thrown mv_X5_thrown lk_L_101 (hRX.1.1 13 (by decide)) sc_13 rfl rfl rfl dL_law_949 ⟨(Nat.le_of_ble_eq_true rfl), (Nat.le_of_ble_eq_true rfl)⟩ ⟨(by show cells + 1 ≤ 601024; omega), (by show slots + 6 ≤ 7293033; omega)⟩ (Nat.le_of_ble_eq_true rfl) ?_
  refine x_iload F dL_law_952 1 rfl ?_
  refine x_icmp_eq F 959 dL_law_954 (by decide) (fun _ => ?_) (fun hne => absurd hth hne)
  refine x_iload F dL_law_959 1 rfl ?_
  refine x_if_ne F 976 dL_law_961 (by decide) (fun _ => KT) (fun h0 => ?_)
  refine x_aload_n F dL_law_964 rfl 3 rfl ?_
  refine x_iconst F (v := 0) dL_law_965 (by decide) ?_
  refine y_lald F (hRX.1.1 12 (by decide)) ss_12 (vp_in_nI (show 0 < 1 by decide) (by decide)) dL_law_966 ?_
  refine x_iload F dL_law_967 0 rfl ?_
  refine x_i2l F dL_law_969 ?_
  refine x_lcmp F dL_law_970 ?_
  exact x_if_eq F 976 dL_law_971 (by decide) (fun _ => KT) (fun hne => absurd (cmp_self (hout h0)) hne)
set_option maxHeartbeats 4000000 in
set_option maxRecDepth 100000 in
theorem law_12 {D : va_G} {cy : Nat → ClassId} {lo : Nat} {p : Program} {l : Launch} {e : Env} {s : State} {m : MethodId} {args : Array Value} {below : List Frame} {meth : Method} {c : Code} {Q : State → Prop} (hfl : l.stackTraces = false) (F : k_F p m c cL_law 8 s RL D cy lo) {b L : Nat} {xs : Nat → Int32} (hX : va_X b L xs s s.heap) (hb : b < s.heap.size) (hlo : lo = s.heap.size) {R : List Nat} {ad : Nat → Nat} {q : Nat → Nat → Nat} {ns nt : Nat} {I : Nat → Nat → Int32} {J : Nat → Nat → Int64} (hRX : k_RX R ns nt) (h : SR q ns nt I J I J) {i : Nat} (hi : i + 5 ≤ L) (hL : L ≤ 2560) {cells slots : Nat} (hc : cells + 6 ≤ 601024) (hs : slots + 53 ≤ 7293033)
    (K : ∀ (R' : List Nat) (ad' : Nat → Nat) (q' : Nat → Nat → Nat) (ns' nt' : Nat) (I' : Nat → Nat → Int32) (J' : Nat → Nat → Int64), k_RX R' ns' nt' → (∀ y, y < 40 → ad' y = ad y) → SR q' ns' nt' I' J' I' J' → XW D lo p l e room_1 s m args below meth c 8 (cells + 6) (slots + 53) Q R' ad' (k_c cy ad' q' ns' nt' I' J') 1694 (k_LV ad b i) []) :
    XW D lo p l e room_1 s m args below meth c 8 cells slots Q R ad (k_c cy ad q ns nt I J) 979 (k_LV ad b i) [] := by
  refine x_aload_n F dL_law_979 rfl 3 rfl ?_
  refine x_aload_n F dL_law_980 rfl 4 rfl ?_
  refine x_iload F dL_law_981 0 rfl ?_
  refine x_iconst F (v := 1) dL_law_983 (by decide) ?_
  refine x_iadd F dL_law_984 ?_
  refine x_sld F hX hb hlo (nI_add i 1) (by omega) hL dL_law_985 ?_
  refine x_aload_n F dL_law_986 rfl 1 rfl ?_
  refine x_callHi F [.ref (ad 0), .int (xs (i + 1)), .ref (ad 12)] (c_L_state l D cy lo R ad q ns nt I J hRX.1.1 (xs (i + 1)) 7 108 1 6 _ _ (c_X4_state l D cy lo R ad q ns nt I J hRX.1 hfl (xs (i + 1))) (fun E u hx => hx.1.1) (fun v u hp => ⟨R, ad, q, ns, nt, _, _, hp.2.2, hRX.1.1 12 (by decide), rfl⟩)) mh_L_state ms_L_state lk_L_141 rfl rfl dL_law_987 ⟨(Nat.le_of_ble_eq_true rfl), (Nat.le_of_ble_eq_true rfl)⟩ ⟨(by show cells + 1 ≤ 601024; omega), (by show slots + 6 ≤ 7293033; omega)⟩ (Nat.le_of_ble_eq_true rfl) (fun r u hp => ?_)
  obtain ⟨I1, J1, rfl, h1, hf⟩ := mid_state h hp
  show XW D lo p l e room_1 s m args below meth c 8 (cells + 1) (slots + 6) Q R ad (k_c cy ad q ns nt I1 J1) 990 (k_LV ad b i) (.int r :: [])
  refine x_istore F ((5, .int r) :: k_LV ad b i) dL_law_990 (by decide) rfl ?_
  refine x_aload_n F dL_law_992 rfl 3 rfl ?_
  refine x_aload_n F dL_law_993 rfl 5 rfl ?_
  refine x_iload F dL_law_994 1 rfl ?_
  refine x_iconst F (v := 1) dL_law_996 (by decide) ?_
  refine x_iadd F dL_law_997 ?_
  refine x_sld F hX hb hlo (nI_add i 1) (by omega) hL dL_law_998 ?_
  obtain ⟨hS, hth, hout⟩ := hf
  refine z_callVi F [.int (xs (i + 1))] (c_X5_state l D cy lo R ad q ns nt I1 J1 hRX.1.1 (xs (i + 1)) h1.m13 h1.hnt) mc_X5_state mv_X5_state lk_L_143 (hRX.1.1 13 (by decide)) sc_13 rfl rfl rfl dL_law_999 ⟨(Nat.le_of_ble_eq_true rfl), (Nat.le_of_ble_eq_true rfl)⟩ ⟨(by show cells + 1 ≤ 601024; omega), (by show slots + 6 ≤ 7293033; omega)⟩ (Nat.le_of_ble_eq_true rfl) ?_
  generalize (wI I1 13 0 (if isCal I1 (xs (i + 1)) = true then 0 else 1)) = I2 at hS hth hout ⊢
  generalize (if isCal I1 (xs (i + 1)) = true then I1 27 (xs (i + 1)).toNatClampNeg else 0) = b9 at hout ⊢
  refine x_istore F ((6, .int b9) :: ((5, .int r) :: k_LV ad b i)) dL_law_1002 (by decide) rfl ?_
  have KT : XW D lo p l e room_1 s m args below meth c 8 (cells + 1) (slots + 6) Q R ad (k_c cy ad q ns nt I2 J1) 1032 ((6, .int b9) :: ((5, .int r) :: k_LV ad b i)) [] := by
    refine x_goto F 1694 dL_law_1032 (by decide) ?_
    refine x_sub (lv' := k_LV ad b i) [2, 3, 4, 5, 6] rfl ?_
    refine x_widen (k := cells + 6) (n := slots + 53) (by omega) (by omega) ?_
    exact K R ad q ns nt _ _ hRX (fun _ _ => rfl) hS
  refine x_aload_n F dL_law_1004 rfl 4 rfl ?_
  refine z_callVi F [] (c_X5_thrown l D cy lo R ad q ns nt I2 J1 hRX.1.1) mc_X5_thrown mv_X5_thrown lk_L_101 (hRX.1.1 13 (by decide)) sc_13 rfl rfl rfl dL_law_1005 ⟨(Nat.le_of_ble_eq_true rfl), (Nat.le_of_ble_eq_true rfl)⟩ ⟨(by show cells + 1 ≤ 601024; omega), (by show slots + 6 ≤ 7293033; omega)⟩ (Nat.le_of_ble_eq_true rfl) ?_
  refine x_iload F dL_law_1008 1 rfl ?_
  refine x_icmp_eq F 1015 dL_law_1010 (by decide) (fun _ => ?_) (fun hne => absurd hth hne)
  refine x_iload F dL_law_1015 1 rfl ?_
  refine x_if_ne F 1032 dL_law_1017 (by decide) (fun _ => KT) (fun h0 => ?_)
  refine x_aload_n F dL_law_1020 rfl 3 rfl ?_
  refine x_iconst F (v := 0) dL_law_1021 (by decide) ?_
  refine y_lald F (hRX.1.1 12 (by decide)) ss_12 (vp_in_nI (show 0 < 1 by decide) (by decide)) dL_law_1022 ?_
  refine x_iload F dL_law_1023 0 rfl ?_
  refine x_i2l F dL_law_1025 ?_
  refine x_lcmp F dL_law_1026 ?_
  exact x_if_eq F 1032 dL_law_1027 (by decide) (fun _ => KT) (fun hne => absurd (cmp_self (hout h0)) hne)
set_option maxHeartbeats 4000000 in
set_option maxRecDepth 100000 in
theorem law_13 {D : va_G} {cy : Nat → ClassId} {lo : Nat} {p : Program} {l : Launch} {e : Env} {s : State} {m : MethodId} {args : Array Value} {below : List Frame} {meth : Method} {c : Code} {Q : State → Prop} (hfl : l.stackTraces = false) (F : k_F p m c cL_law 8 s RL D cy lo) {b L : Nat} {xs : Nat → Int32} (hX : va_X b L xs s s.heap) (hb : b < s.heap.size) (hlo : lo = s.heap.size) {R : List Nat} {ad : Nat → Nat} {q : Nat → Nat → Nat} {ns nt : Nat} {I : Nat → Nat → Int32} {J : Nat → Nat → Int64} (hRX : k_RX R ns nt) (h : SR q ns nt I J I J) {i : Nat} (hi : i + 5 ≤ L) (hL : L ≤ 2560) {cells slots : Nat} (hc : cells + 6 ≤ 601024) (hs : slots + 53 ≤ 7293033)
    (K : ∀ (R' : List Nat) (ad' : Nat → Nat) (q' : Nat → Nat → Nat) (ns' nt' : Nat) (I' : Nat → Nat → Int32) (J' : Nat → Nat → Int64), k_RX R' ns' nt' → (∀ y, y < 40 → ad' y = ad y) → SR q' ns' nt' I' J' I' J' → XW D lo p l e room_1 s m args below meth c 8 (cells + 6) (slots + 53) Q R' ad' (k_c cy ad' q' ns' nt' I' J') 1694 (k_LV ad b i) []) :
    XW D lo p l e room_1 s m args below meth c 8 cells slots Q R ad (k_c cy ad q ns nt I J) 1035 (k_LV ad b i) [] := by
  refine x_aload_n F dL_law_1035 rfl 3 rfl ?_
  refine x_aload_n F dL_law_1036 rfl 4 rfl ?_
  refine x_iload F dL_law_1037 0 rfl ?_
  refine x_iconst F (v := 1) dL_law_1039 (by decide) ?_
  refine x_iadd F dL_law_1040 ?_
  refine x_sld F hX hb hlo (nI_add i 1) (by omega) hL dL_law_1041 ?_
  refine x_aload_n F dL_law_1042 rfl 1 rfl ?_
  refine x_callHi F [.ref (ad 0), .int (xs (i + 1)), .ref (ad 12)] (c_L_minutes l D cy lo R ad q ns nt I J hRX.1.1 (xs (i + 1)) 7 108 1 6 _ _ (c_X4_minutes l D cy lo R ad q ns nt I J hRX.1 hfl (xs (i + 1))) (fun E u hx => hx.1.1) (fun v u hp => ⟨R, ad, q, ns, nt, _, _, hp.2.2, hRX.1.1 12 (by decide), rfl⟩)) mh_L_minutes ms_L_minutes lk_L_144 rfl rfl dL_law_1043 ⟨(Nat.le_of_ble_eq_true rfl), (Nat.le_of_ble_eq_true rfl)⟩ ⟨(by show cells + 1 ≤ 601024; omega), (by show slots + 6 ≤ 7293033; omega)⟩ (Nat.le_of_ble_eq_true rfl) (fun r u hp => ?_)
  obtain ⟨I1, J1, rfl, h1, hf⟩ := mid_minutes h hp
  show XW D lo p l e room_1 s m args below meth c 8 (cells + 1) (slots + 6) Q R ad (k_c cy ad q ns nt I1 J1) 1046 (k_LV ad b i) (.int r :: [])
  refine x_istore F ((5, .int r) :: k_LV ad b i) dL_law_1046 (by decide) rfl ?_
  refine x_aload_n F dL_law_1048 rfl 3 rfl ?_
  refine x_aload_n F dL_law_1049 rfl 5 rfl ?_
  refine x_iload F dL_law_1050 1 rfl ?_
  refine x_iconst F (v := 1) dL_law_1052 (by decide) ?_
  refine x_iadd F dL_law_1053 ?_
  refine x_sld F hX hb hlo (nI_add i 1) (by omega) hL dL_law_1054 ?_
  obtain ⟨hS, hth, hout⟩ := hf
  refine z_callVi F [.int (xs (i + 1))] (c_X5_minutes l D cy lo R ad q ns nt I1 J1 hRX.1.1 (xs (i + 1)) h1.m13 h1.hnt) mc_X5_minutes mv_X5_minutes lk_L_146 (hRX.1.1 13 (by decide)) sc_13 rfl rfl rfl dL_law_1055 ⟨(Nat.le_of_ble_eq_true rfl), (Nat.le_of_ble_eq_true rfl)⟩ ⟨(by show cells + 1 ≤ 601024; omega), (by show slots + 6 ≤ 7293033; omega)⟩ (Nat.le_of_ble_eq_true rfl) ?_
  generalize (wI I1 13 0 (if isCal I1 (xs (i + 1)) = true then 0 else 1)) = I2 at hS hth hout ⊢
  generalize (if isCal I1 (xs (i + 1)) = true then I1 30 (xs (i + 1)).toNatClampNeg else 0) = b9 at hout ⊢
  refine x_istore F ((6, .int b9) :: ((5, .int r) :: k_LV ad b i)) dL_law_1058 (by decide) rfl ?_
  have KT : XW D lo p l e room_1 s m args below meth c 8 (cells + 1) (slots + 6) Q R ad (k_c cy ad q ns nt I2 J1) 1088 ((6, .int b9) :: ((5, .int r) :: k_LV ad b i)) [] := by
    refine x_goto F 1694 dL_law_1088 (by decide) ?_
    refine x_sub (lv' := k_LV ad b i) [2, 3, 4, 5, 6] rfl ?_
    refine x_widen (k := cells + 6) (n := slots + 53) (by omega) (by omega) ?_
    exact K R ad q ns nt _ _ hRX (fun _ _ => rfl) hS
  refine x_aload_n F dL_law_1060 rfl 4 rfl ?_
  refine z_callVi F [] (c_X5_thrown l D cy lo R ad q ns nt I2 J1 hRX.1.1) mc_X5_thrown mv_X5_thrown lk_L_101 (hRX.1.1 13 (by decide)) sc_13 rfl rfl rfl dL_law_1061 ⟨(Nat.le_of_ble_eq_true rfl), (Nat.le_of_ble_eq_true rfl)⟩ ⟨(by show cells + 1 ≤ 601024; omega), (by show slots + 6 ≤ 7293033; omega)⟩ (Nat.le_of_ble_eq_true rfl) ?_
  refine x_iload F dL_law_1064 1 rfl ?_
  refine x_icmp_eq F 1071 dL_law_1066 (by decide) (fun _ => ?_) (fun hne => absurd hth hne)
  refine x_iload F dL_law_1071 1 rfl ?_
  refine x_if_ne F 1088 dL_law_1073 (by decide) (fun _ => KT) (fun h0 => ?_)
  refine x_aload_n F dL_law_1076 rfl 3 rfl ?_
  refine x_iconst F (v := 0) dL_law_1077 (by decide) ?_
  refine y_lald F (hRX.1.1 12 (by decide)) ss_12 (vp_in_nI (show 0 < 1 by decide) (by decide)) dL_law_1078 ?_
  refine x_iload F dL_law_1079 0 rfl ?_
  refine x_i2l F dL_law_1081 ?_
  refine x_lcmp F dL_law_1082 ?_
  exact x_if_eq F 1088 dL_law_1083 (by decide) (fun _ => KT) (fun hne => absurd (cmp_self (hout h0)) hne)
set_option maxHeartbeats 4000000 in
set_option maxRecDepth 100000 in
theorem law_14 {D : va_G} {cy : Nat → ClassId} {lo : Nat} {p : Program} {l : Launch} {e : Env} {s : State} {m : MethodId} {args : Array Value} {below : List Frame} {meth : Method} {c : Code} {Q : State → Prop} (hfl : l.stackTraces = false) (F : k_F p m c cL_law 8 s RL D cy lo) {b L : Nat} {xs : Nat → Int32} (hX : va_X b L xs s s.heap) (hb : b < s.heap.size) (hlo : lo = s.heap.size) {R : List Nat} {ad : Nat → Nat} {q : Nat → Nat → Nat} {ns nt : Nat} {I : Nat → Nat → Int32} {J : Nat → Nat → Int64} (hRX : k_RX R ns nt) (h : SR q ns nt I J I J) {i : Nat} (hi : i + 5 ≤ L) (hL : L ≤ 2560) {cells slots : Nat} (hc : cells + 6 ≤ 601024) (hs : slots + 53 ≤ 7293033)
    (K : ∀ (R' : List Nat) (ad' : Nat → Nat) (q' : Nat → Nat → Nat) (ns' nt' : Nat) (I' : Nat → Nat → Int32) (J' : Nat → Nat → Int64), k_RX R' ns' nt' → (∀ y, y < 40 → ad' y = ad y) → SR q' ns' nt' I' J' I' J' → XW D lo p l e room_1 s m args below meth c 8 (cells + 6) (slots + 53) Q R' ad' (k_c cy ad' q' ns' nt' I' J') 1694 (k_LV ad b i) []) :
    XW D lo p l e room_1 s m args below meth c 8 cells slots Q R ad (k_c cy ad q ns nt I J) 1091 (k_LV ad b i) [] := by
  refine x_aload_n F dL_law_1091 rfl 3 rfl ?_
  refine x_aload_n F dL_law_1092 rfl 4 rfl ?_
  refine x_iload F dL_law_1093 0 rfl ?_
  refine x_iconst F (v := 1) dL_law_1095 (by decide) ?_
  refine x_iadd F dL_law_1096 ?_
  refine x_sld F hX hb hlo (nI_add i 1) (by omega) hL dL_law_1097 ?_
  refine x_aload_n F dL_law_1098 rfl 1 rfl ?_
  refine x_callHi F [.ref (ad 0), .int (xs (i + 1)), .ref (ad 12)] (c_L_moved l D cy lo R ad q ns nt I J hRX.1.1 (xs (i + 1)) 7 108 1 6 _ _ (c_X4_moved l D cy lo R ad q ns nt I J hRX.1 hfl (xs (i + 1))) (fun E u hx => hx.1.1) (fun v u hp => ⟨R, ad, q, ns, nt, _, _, hp.2.2, hRX.1.1 12 (by decide), rfl⟩)) mh_L_moved ms_L_moved lk_L_147 rfl rfl dL_law_1099 ⟨(Nat.le_of_ble_eq_true rfl), (Nat.le_of_ble_eq_true rfl)⟩ ⟨(by show cells + 1 ≤ 601024; omega), (by show slots + 6 ≤ 7293033; omega)⟩ (Nat.le_of_ble_eq_true rfl) (fun r u hp => ?_)
  obtain ⟨I1, J1, rfl, h1, hf⟩ := mid_moved h hp
  show XW D lo p l e room_1 s m args below meth c 8 (cells + 1) (slots + 6) Q R ad (k_c cy ad q ns nt I1 J1) 1102 (k_LV ad b i) (.int r :: [])
  refine x_istore F ((5, .int r) :: k_LV ad b i) dL_law_1102 (by decide) rfl ?_
  refine x_aload_n F dL_law_1104 rfl 3 rfl ?_
  refine x_aload_n F dL_law_1105 rfl 5 rfl ?_
  refine x_iload F dL_law_1106 1 rfl ?_
  refine x_iconst F (v := 1) dL_law_1108 (by decide) ?_
  refine x_iadd F dL_law_1109 ?_
  refine x_sld F hX hb hlo (nI_add i 1) (by omega) hL dL_law_1110 ?_
  obtain ⟨hS, hth, hout⟩ := hf
  refine z_callVi F [.int (xs (i + 1))] (c_X5_moved l D cy lo R ad q ns nt I1 J1 hRX.1.1 (xs (i + 1)) h1.m13 h1.hnt) mc_X5_moved mv_X5_moved lk_L_149 (hRX.1.1 13 (by decide)) sc_13 rfl rfl rfl dL_law_1111 ⟨(Nat.le_of_ble_eq_true rfl), (Nat.le_of_ble_eq_true rfl)⟩ ⟨(by show cells + 1 ≤ 601024; omega), (by show slots + 6 ≤ 7293033; omega)⟩ (Nat.le_of_ble_eq_true rfl) ?_
  generalize (wI I1 13 0 (if isCal I1 (xs (i + 1)) = true then 0 else 1)) = I2 at hS hth hout ⊢
  generalize (if isCal I1 (xs (i + 1)) = true then I1 31 (xs (i + 1)).toNatClampNeg else 0) = b9 at hout ⊢
  refine x_istore F ((6, .int b9) :: ((5, .int r) :: k_LV ad b i)) dL_law_1114 (by decide) rfl ?_
  have KT : XW D lo p l e room_1 s m args below meth c 8 (cells + 1) (slots + 6) Q R ad (k_c cy ad q ns nt I2 J1) 1144 ((6, .int b9) :: ((5, .int r) :: k_LV ad b i)) [] := by
    refine x_goto F 1694 dL_law_1144 (by decide) ?_
    refine x_sub (lv' := k_LV ad b i) [2, 3, 4, 5, 6] rfl ?_
    refine x_widen (k := cells + 6) (n := slots + 53) (by omega) (by omega) ?_
    exact K R ad q ns nt _ _ hRX (fun _ _ => rfl) hS
  refine x_aload_n F dL_law_1116 rfl 4 rfl ?_
  refine z_callVi F [] (c_X5_thrown l D cy lo R ad q ns nt I2 J1 hRX.1.1) mc_X5_thrown mv_X5_thrown lk_L_101 (hRX.1.1 13 (by decide)) sc_13 rfl rfl rfl dL_law_1117 ⟨(Nat.le_of_ble_eq_true rfl), (Nat.le_of_ble_eq_true rfl)⟩ ⟨(by show cells + 1 ≤ 601024; omega), (by show slots + 6 ≤ 7293033; omega)⟩ (Nat.le_of_ble_eq_true rfl) ?_
  refine x_iload F dL_law_1120 1 rfl ?_
  refine x_icmp_eq F 1127 dL_law_1122 (by decide) (fun _ => ?_) (fun hne => absurd hth hne)
  refine x_iload F dL_law_1127 1 rfl ?_
  refine x_if_ne F 1144 dL_law_1129 (by decide) (fun _ => KT) (fun h0 => ?_)
  refine x_aload_n F dL_law_1132 rfl 3 rfl ?_
  refine x_iconst F (v := 0) dL_law_1133 (by decide) ?_
  refine y_lald F (hRX.1.1 12 (by decide)) ss_12 (vp_in_nI (show 0 < 1 by decide) (by decide)) dL_law_1134 ?_
  refine x_iload F dL_law_1135 0 rfl ?_
  refine x_i2l F dL_law_1137 ?_
  refine x_lcmp F dL_law_1138 ?_
  exact x_if_eq F 1144 dL_law_1139 (by decide) (fun _ => KT) (fun hne => absurd (cmp_self (hout h0)) hne)
set_option maxHeartbeats 4000000 in
set_option maxRecDepth 100000 in
theorem law_15 {D : va_G} {cy : Nat → ClassId} {lo : Nat} {p : Program} {l : Launch} {e : Env} {s : State} {m : MethodId} {args : Array Value} {below : List Frame} {meth : Method} {c : Code} {Q : State → Prop} (hfl : l.stackTraces = false) (F : k_F p m c cL_law 8 s RL D cy lo) {b L : Nat} {xs : Nat → Int32} (hX : va_X b L xs s s.heap) (hb : b < s.heap.size) (hlo : lo = s.heap.size) {R : List Nat} {ad : Nat → Nat} {q : Nat → Nat → Nat} {ns nt : Nat} {I : Nat → Nat → Int32} {J : Nat → Nat → Int64} (hRX : k_RX R ns nt) (h : SR q ns nt I J I J) {i : Nat} (hi : i + 5 ≤ L) (hL : L ≤ 2560) {cells slots : Nat} (hc : cells + 6 ≤ 601024) (hs : slots + 53 ≤ 7293033)
    (K : ∀ (R' : List Nat) (ad' : Nat → Nat) (q' : Nat → Nat → Nat) (ns' nt' : Nat) (I' : Nat → Nat → Int32) (J' : Nat → Nat → Int64), k_RX R' ns' nt' → (∀ y, y < 40 → ad' y = ad y) → SR q' ns' nt' I' J' I' J' → XW D lo p l e room_1 s m args below meth c 8 (cells + 6) (slots + 53) Q R' ad' (k_c cy ad' q' ns' nt' I' J') 1694 (k_LV ad b i) []) :
    XW D lo p l e room_1 s m args below meth c 8 cells slots Q R ad (k_c cy ad q ns nt I J) 1147 (k_LV ad b i) [] := by
  refine x_aload_n F dL_law_1147 rfl 3 rfl ?_
  refine x_aload_n F dL_law_1148 rfl 4 rfl ?_
  refine x_iload F dL_law_1149 0 rfl ?_
  refine x_iconst F (v := 1) dL_law_1151 (by decide) ?_
  refine x_iadd F dL_law_1152 ?_
  refine x_sld F hX hb hlo (nI_add i 1) (by omega) hL dL_law_1153 ?_
  refine x_aload_n F dL_law_1154 rfl 4 rfl ?_
  refine x_iload F dL_law_1155 0 rfl ?_
  refine x_iconst F (v := 2) dL_law_1157 (by decide) ?_
  refine x_iadd F dL_law_1158 ?_
  refine x_sld F hX hb hlo (nI_add i 2) (by omega) hL dL_law_1159 ?_
  refine x_aload_n F dL_law_1160 rfl 1 rfl ?_
  refine x_callHi F [.ref (ad 0), .int (xs (i + 1)), .int (xs (i + 2)), .ref (ad 12)] (c_L_way l D cy lo R ad q ns nt I J hRX.1.1 (xs (i + 1)) (xs (i + 2)) 7 108 2 12 _ _ (c_X4_way l D cy lo R ad q ns nt I J hRX.1 hfl (xs (i + 1)) (xs (i + 2))) (fun E u hx => hx.1.1) (fun v u hp => ⟨R, ad, q, ns, nt, _, _, hp.2.2, hRX.1.1 12 (by decide), rfl⟩)) mh_L_way ms_L_way lk_L_150 rfl rfl dL_law_1161 ⟨(Nat.le_of_ble_eq_true rfl), (Nat.le_of_ble_eq_true rfl)⟩ ⟨(by show cells + 2 ≤ 601024; omega), (by show slots + 12 ≤ 7293033; omega)⟩ (Nat.le_of_ble_eq_true rfl) (fun r u hp => ?_)
  obtain ⟨I1, J1, rfl, h1, hf⟩ := mid_way h hp
  show XW D lo p l e room_1 s m args below meth c 8 (cells + 2) (slots + 12) Q R ad (k_c cy ad q ns nt I1 J1) 1164 (k_LV ad b i) (.int r :: [])
  refine x_istore F ((5, .int r) :: k_LV ad b i) dL_law_1164 (by decide) rfl ?_
  refine x_aload_n F dL_law_1166 rfl 3 rfl ?_
  refine x_aload_n F dL_law_1167 rfl 5 rfl ?_
  refine x_iload F dL_law_1168 1 rfl ?_
  refine x_iconst F (v := 1) dL_law_1170 (by decide) ?_
  refine x_iadd F dL_law_1171 ?_
  refine x_sld F hX hb hlo (nI_add i 1) (by omega) hL dL_law_1172 ?_
  refine x_aload_n F dL_law_1173 rfl 5 rfl ?_
  refine x_iload F dL_law_1174 1 rfl ?_
  refine x_iconst F (v := 2) dL_law_1176 (by decide) ?_
  refine x_iadd F dL_law_1177 ?_
  refine x_sld F hX hb hlo (nI_add i 2) (by omega) hL dL_law_1178 ?_
  obtain ⟨hS, hth, hout⟩ := hf
  refine z_callVi F [.int (xs (i + 1)), .int (xs (i + 2))] (c_X5_way l D cy lo R ad q ns nt I1 J1 hRX.1.1 (xs (i + 1)) (xs (i + 2)) h1.m13 h1.hnt h1.ll) mc_X5_way mv_X5_way lk_L_152 (hRX.1.1 13 (by decide)) sc_13 rfl rfl rfl dL_law_1179 ⟨(Nat.le_of_ble_eq_true rfl), (Nat.le_of_ble_eq_true rfl)⟩ ⟨(by show cells + 2 ≤ 601024; omega), (by show slots + 12 ≤ 7293033; omega)⟩ (Nat.le_of_ble_eq_true rfl) ?_
  generalize (wI I1 13 0 (if mWay I1 (xs (i + 1)) (xs (i + 2)) = true then 0 else 1)) = I2 at hS hth hout ⊢
  generalize (if mWay I1 (xs (i + 1)) (xs (i + 2)) = true then I1 33 (5 * (xs (i + 1)) + (xs (i + 2))).toNatClampNeg else 0) = b9 at hout ⊢
  refine x_istore F ((6, .int b9) :: ((5, .int r) :: k_LV ad b i)) dL_law_1182 (by decide) rfl ?_
  have KT : XW D lo p l e room_1 s m args below meth c 8 (cells + 2) (slots + 12) Q R ad (k_c cy ad q ns nt I2 J1) 1212 ((6, .int b9) :: ((5, .int r) :: k_LV ad b i)) [] := by
    refine x_goto F 1694 dL_law_1212 (by decide) ?_
    refine x_sub (lv' := k_LV ad b i) [2, 3, 4, 5, 6] rfl ?_
    refine x_widen (k := cells + 6) (n := slots + 53) (by omega) (by omega) ?_
    exact K R ad q ns nt _ _ hRX (fun _ _ => rfl) hS
  refine x_aload_n F dL_law_1184 rfl 4 rfl ?_
  refine z_callVi F [] (c_X5_thrown l D cy lo R ad q ns nt I2 J1 hRX.1.1) mc_X5_thrown mv_X5_thrown lk_L_101 (hRX.1.1 13 (by decide)) sc_13 rfl rfl rfl dL_law_1185 ⟨(Nat.le_of_ble_eq_true rfl), (Nat.le_of_ble_eq_true rfl)⟩ ⟨(by show cells + 2 ≤ 601024; omega), (by show slots + 12 ≤ 7293033; omega)⟩ (Nat.le_of_ble_eq_true rfl) ?_
  refine x_iload F dL_law_1188 1 rfl ?_
  refine x_icmp_eq F 1195 dL_law_1190 (by decide) (fun _ => ?_) (fun hne => absurd hth hne)
  refine x_iload F dL_law_1195 1 rfl ?_
  refine x_if_ne F 1212 dL_law_1197 (by decide) (fun _ => KT) (fun h0 => ?_)
  refine x_aload_n F dL_law_1200 rfl 3 rfl ?_
  refine x_iconst F (v := 0) dL_law_1201 (by decide) ?_
  refine y_lald F (hRX.1.1 12 (by decide)) ss_12 (vp_in_nI (show 0 < 1 by decide) (by decide)) dL_law_1202 ?_
  refine x_iload F dL_law_1203 0 rfl ?_
  refine x_i2l F dL_law_1205 ?_
  refine x_lcmp F dL_law_1206 ?_
  exact x_if_eq F 1212 dL_law_1207 (by decide) (fun _ => KT) (fun hne => absurd (cmp_self (hout h0)) hne)
set_option maxHeartbeats 4000000 in
set_option maxRecDepth 100000 in
theorem law_16 {D : va_G} {cy : Nat → ClassId} {lo : Nat} {p : Program} {l : Launch} {e : Env} {s : State} {m : MethodId} {args : Array Value} {below : List Frame} {meth : Method} {c : Code} {Q : State → Prop} (hfl : l.stackTraces = false) (F : k_F p m c cL_law 8 s RL D cy lo) {b L : Nat} {xs : Nat → Int32} (hX : va_X b L xs s s.heap) (hb : b < s.heap.size) (hlo : lo = s.heap.size) {R : List Nat} {ad : Nat → Nat} {q : Nat → Nat → Nat} {ns nt : Nat} {I : Nat → Nat → Int32} {J : Nat → Nat → Int64} (hRX : k_RX R ns nt) (h : SR q ns nt I J I J) {i : Nat} (hi : i + 5 ≤ L) (hL : L ≤ 2560) {cells slots : Nat} (hc : cells + 6 ≤ 601024) (hs : slots + 53 ≤ 7293033)
    (K : ∀ (R' : List Nat) (ad' : Nat → Nat) (q' : Nat → Nat → Nat) (ns' nt' : Nat) (I' : Nat → Nat → Int32) (J' : Nat → Nat → Int64), k_RX R' ns' nt' → (∀ y, y < 40 → ad' y = ad y) → SR q' ns' nt' I' J' I' J' → XW D lo p l e room_1 s m args below meth c 8 (cells + 6) (slots + 53) Q R' ad' (k_c cy ad' q' ns' nt' I' J') 1694 (k_LV ad b i) []) :
    XW D lo p l e room_1 s m args below meth c 8 cells slots Q R ad (k_c cy ad q ns nt I J) 1215 (k_LV ad b i) [] := by
  refine x_aload_n F dL_law_1215 rfl 3 rfl ?_
  refine x_aload_n F dL_law_1216 rfl 4 rfl ?_
  refine x_iload F dL_law_1217 0 rfl ?_
  refine x_iconst F (v := 1) dL_law_1219 (by decide) ?_
  refine x_iadd F dL_law_1220 ?_
  refine x_sld F hX hb hlo (nI_add i 1) (by omega) hL dL_law_1221 ?_
  refine x_aload_n F dL_law_1222 rfl 4 rfl ?_
  refine x_iload F dL_law_1223 0 rfl ?_
  refine x_iconst F (v := 2) dL_law_1225 (by decide) ?_
  refine x_iadd F dL_law_1226 ?_
  refine x_sld F hX hb hlo (nI_add i 2) (by omega) hL dL_law_1227 ?_
  refine x_aload_n F dL_law_1228 rfl 1 rfl ?_
  refine x_callHi F [.ref (ad 0), .int (xs (i + 1)), .int (xs (i + 2)), .ref (ad 12)] (c_L_cost l D cy lo R ad q ns nt I J hRX.1.1 (xs (i + 1)) (xs (i + 2)) 7 117 2 12 _ _ (c_X4_cost l D cy lo R ad q ns nt I J hRX.1 hfl (xs (i + 1)) (xs (i + 2))) (fun E u hx => hx.1.1) (fun v u hp => ⟨R, ad, q, ns, nt, _, _, hp.2.2, hRX.1.1 12 (by decide), rfl⟩)) mh_L_cost ms_L_cost lk_L_153 rfl rfl dL_law_1229 ⟨(Nat.le_of_ble_eq_true rfl), (Nat.le_of_ble_eq_true rfl)⟩ ⟨(by show cells + 2 ≤ 601024; omega), (by show slots + 12 ≤ 7293033; omega)⟩ (Nat.le_of_ble_eq_true rfl) (fun r u hp => ?_)
  obtain ⟨I1, J1, rfl, h1, hf⟩ := mid_cost h hp
  show XW D lo p l e room_1 s m args below meth c 8 (cells + 2) (slots + 12) Q R ad (k_c cy ad q ns nt I1 J1) 1232 (k_LV ad b i) (.int r :: [])
  refine x_istore F ((5, .int r) :: k_LV ad b i) dL_law_1232 (by decide) rfl ?_
  refine x_aload_n F dL_law_1234 rfl 3 rfl ?_
  refine x_aload_n F dL_law_1235 rfl 5 rfl ?_
  refine x_iload F dL_law_1236 1 rfl ?_
  refine x_iconst F (v := 1) dL_law_1238 (by decide) ?_
  refine x_iadd F dL_law_1239 ?_
  refine x_sld F hX hb hlo (nI_add i 1) (by omega) hL dL_law_1240 ?_
  refine x_aload_n F dL_law_1241 rfl 5 rfl ?_
  refine x_iload F dL_law_1242 1 rfl ?_
  refine x_iconst F (v := 2) dL_law_1244 (by decide) ?_
  refine x_iadd F dL_law_1245 ?_
  refine x_sld F hX hb hlo (nI_add i 2) (by omega) hL dL_law_1246 ?_
  refine x_callVi F [.int (xs (i + 1)), .int (xs (i + 2))] (c_X5_cost l D cy lo R ad q ns nt I1 J1 hRX.1.1 (sOp I J) (sRt I) (xs (i + 1)) (xs (i + 2)) h1.grf) mc_X5_cost mv_X5_cost lk_L_155 (hRX.1.1 13 (by decide)) sc_13 rfl rfl rfl dL_law_1247 ⟨(Nat.le_of_ble_eq_true rfl), (Nat.le_of_ble_eq_true rfl)⟩ ⟨(by show cells + 2 + 0 ≤ 601024; omega), (by show slots + 12 + 0 ≤ 7293033; omega)⟩ (Nat.le_of_ble_eq_true rfl) (fun b9 u9 hm => ?_)
  obtain ⟨I2, J2, rfl, hS, hth, hout⟩ := hf b9 u9 hm
  show XW D lo p l e room_1 s m args below meth c 8 (cells + 2) (slots + 12) Q R ad (k_c cy ad q ns nt I2 J2) 1250 ((5, .int r) :: k_LV ad b i) (.int b9 :: [])
  refine x_istore F ((6, .int b9) :: ((5, .int r) :: k_LV ad b i)) dL_law_1250 (by decide) rfl ?_
  have KT : XW D lo p l e room_1 s m args below meth c 8 (cells + 2) (slots + 12) Q R ad (k_c cy ad q ns nt I2 J2) 1280 ((6, .int b9) :: ((5, .int r) :: k_LV ad b i)) [] := by
    refine x_goto F 1694 dL_law_1280 (by decide) ?_
    refine x_sub (lv' := k_LV ad b i) [2, 3, 4, 5, 6] rfl ?_
    refine x_widen (k := cells + 6) (n := slots + 53) (by omega) (by omega) ?_
    exact K R ad q ns nt _ _ hRX (fun _ _ => rfl) hS
  refine x_aload_n F dL_law_1252 rfl 4 rfl ?_
  refine z_callVi F [] (c_X5_thrown l D cy lo R ad q ns nt I2 J2 hRX.1.1) mc_X5_thrown mv_X5_thrown lk_L_101 (hRX.1.1 13 (by decide)) sc_13 rfl rfl rfl dL_law_1253 ⟨(Nat.le_of_ble_eq_true rfl), (Nat.le_of_ble_eq_true rfl)⟩ ⟨(by show cells + 2 ≤ 601024; omega), (by show slots + 12 ≤ 7293033; omega)⟩ (Nat.le_of_ble_eq_true rfl) ?_
  refine x_iload F dL_law_1256 1 rfl ?_
  refine x_icmp_eq F 1263 dL_law_1258 (by decide) (fun _ => ?_) (fun hne => absurd hth hne)
  refine x_iload F dL_law_1263 1 rfl ?_
  refine x_if_ne F 1280 dL_law_1265 (by decide) (fun _ => KT) (fun h0 => ?_)
  refine x_aload_n F dL_law_1268 rfl 3 rfl ?_
  refine x_iconst F (v := 0) dL_law_1269 (by decide) ?_
  refine y_lald F (hRX.1.1 12 (by decide)) ss_12 (vp_in_nI (show 0 < 1 by decide) (by decide)) dL_law_1270 ?_
  refine x_iload F dL_law_1271 0 rfl ?_
  refine x_i2l F dL_law_1273 ?_
  refine x_lcmp F dL_law_1274 ?_
  exact x_if_eq F 1280 dL_law_1275 (by decide) (fun _ => KT) (fun hne => absurd (cmp_self (hout h0)) hne)
set_option maxHeartbeats 4000000 in
set_option maxRecDepth 100000 in
theorem law_17 {D : va_G} {cy : Nat → ClassId} {lo : Nat} {p : Program} {l : Launch} {e : Env} {s : State} {m : MethodId} {args : Array Value} {below : List Frame} {meth : Method} {c : Code} {Q : State → Prop} (hfl : l.stackTraces = false) (F : k_F p m c cL_law 8 s RL D cy lo) {b L : Nat} {xs : Nat → Int32} (hX : va_X b L xs s s.heap) (hb : b < s.heap.size) (hlo : lo = s.heap.size) {R : List Nat} {ad : Nat → Nat} {q : Nat → Nat → Nat} {ns nt : Nat} {I : Nat → Nat → Int32} {J : Nat → Nat → Int64} (hRX : k_RX R ns nt) (h : SR q ns nt I J I J) {i : Nat} (hi : i + 5 ≤ L) (hL : L ≤ 2560) {cells slots : Nat} (hc : cells + 6 ≤ 601024) (hs : slots + 53 ≤ 7293033)
    (K : ∀ (R' : List Nat) (ad' : Nat → Nat) (q' : Nat → Nat → Nat) (ns' nt' : Nat) (I' : Nat → Nat → Int32) (J' : Nat → Nat → Int64), k_RX R' ns' nt' → (∀ y, y < 40 → ad' y = ad y) → SR q' ns' nt' I' J' I' J' → XW D lo p l e room_1 s m args below meth c 8 (cells + 6) (slots + 53) Q R' ad' (k_c cy ad' q' ns' nt' I' J') 1694 (k_LV ad b i) []) :
    XW D lo p l e room_1 s m args below meth c 8 cells slots Q R ad (k_c cy ad q ns nt I J) 1283 (k_LV ad b i) [] := by
  refine x_aload_n F dL_law_1283 rfl 3 rfl ?_
  refine x_aload_n F dL_law_1284 rfl 4 rfl ?_
  refine x_iload F dL_law_1285 0 rfl ?_
  refine x_iconst F (v := 1) dL_law_1287 (by decide) ?_
  refine x_iadd F dL_law_1288 ?_
  refine x_sld F hX hb hlo (nI_add i 1) (by omega) hL dL_law_1289 ?_
  refine x_aload_n F dL_law_1290 rfl 4 rfl ?_
  refine x_iload F dL_law_1291 0 rfl ?_
  refine x_iconst F (v := 2) dL_law_1293 (by decide) ?_
  refine x_iadd F dL_law_1294 ?_
  refine x_sld F hX hb hlo (nI_add i 2) (by omega) hL dL_law_1295 ?_
  refine x_aload_n F dL_law_1296 rfl 4 rfl ?_
  refine x_iload F dL_law_1297 0 rfl ?_
  refine x_iconst F (v := 3) dL_law_1299 (by decide) ?_
  refine x_iadd F dL_law_1300 ?_
  refine x_sld F hX hb hlo (nI_add i 3) (by omega) hL dL_law_1301 ?_
  refine x_aload_n F dL_law_1302 rfl 1 rfl ?_
  refine x_callHi F [.ref (ad 0), .int (xs (i + 1)), .int (xs (i + 2)), .int (xs (i + 3)), .ref (ad 12)] (c_L_best l D cy lo R ad q ns nt I J hRX.1.1 (xs (i + 1)) (xs (i + 2)) (xs (i + 3)) 7 117 3 18 _ _ (c_X4_best l D cy lo R ad q ns nt I J hRX.1 hfl (xs (i + 1)) (xs (i + 2)) (xs (i + 3))) (fun E u hx => hx.1.1) (fun v u hp => ⟨R, ad, q, ns, nt, _, _, hp.2.2, hRX.1.1 12 (by decide), rfl⟩)) mh_L_best ms_L_best lk_L_156 rfl rfl dL_law_1303 ⟨(Nat.le_of_ble_eq_true rfl), (Nat.le_of_ble_eq_true rfl)⟩ ⟨(by show cells + 3 ≤ 601024; omega), (by show slots + 18 ≤ 7293033; omega)⟩ (Nat.le_of_ble_eq_true rfl) (fun r u hp => ?_)
  obtain ⟨I1, J1, rfl, h1, hf⟩ := mid_best h hp
  show XW D lo p l e room_1 s m args below meth c 8 (cells + 3) (slots + 18) Q R ad (k_c cy ad q ns nt I1 J1) 1306 (k_LV ad b i) (.int r :: [])
  refine x_istore F ((5, .int r) :: k_LV ad b i) dL_law_1306 (by decide) rfl ?_
  refine x_aload_n F dL_law_1308 rfl 3 rfl ?_
  refine x_aload_n F dL_law_1309 rfl 5 rfl ?_
  refine x_iload F dL_law_1310 1 rfl ?_
  refine x_iconst F (v := 1) dL_law_1312 (by decide) ?_
  refine x_iadd F dL_law_1313 ?_
  refine x_sld F hX hb hlo (nI_add i 1) (by omega) hL dL_law_1314 ?_
  refine x_aload_n F dL_law_1315 rfl 5 rfl ?_
  refine x_iload F dL_law_1316 1 rfl ?_
  refine x_iconst F (v := 2) dL_law_1318 (by decide) ?_
  refine x_iadd F dL_law_1319 ?_
  refine x_sld F hX hb hlo (nI_add i 2) (by omega) hL dL_law_1320 ?_
  refine x_aload_n F dL_law_1321 rfl 5 rfl ?_
  refine x_iload F dL_law_1322 1 rfl ?_
  refine x_iconst F (v := 3) dL_law_1324 (by decide) ?_
  refine x_iadd F dL_law_1325 ?_
  refine x_sld F hX hb hlo (nI_add i 3) (by omega) hL dL_law_1326 ?_
  refine x_callVi F [.int (xs (i + 1)), .int (xs (i + 2)), .int (xs (i + 3))] (c_X5_best l D cy lo R ad q ns nt I1 J1 hRX.1.1 (sOp I J) (sRt I) (xs (i + 1)) (xs (i + 2)) (xs (i + 3)) h1.grf) mc_X5_best mv_X5_best lk_L_158 (hRX.1.1 13 (by decide)) sc_13 rfl rfl rfl dL_law_1327 ⟨(Nat.le_of_ble_eq_true rfl), (Nat.le_of_ble_eq_true rfl)⟩ ⟨(by show cells + 3 + 0 ≤ 601024; omega), (by show slots + 18 + 0 ≤ 7293033; omega)⟩ (Nat.le_of_ble_eq_true rfl) (fun b9 u9 hm => ?_)
  obtain ⟨I2, J2, rfl, hS, hth, hout⟩ := hf b9 u9 hm
  show XW D lo p l e room_1 s m args below meth c 8 (cells + 3) (slots + 18) Q R ad (k_c cy ad q ns nt I2 J2) 1330 ((5, .int r) :: k_LV ad b i) (.int b9 :: [])
  refine x_istore F ((6, .int b9) :: ((5, .int r) :: k_LV ad b i)) dL_law_1330 (by decide) rfl ?_
  have KT : XW D lo p l e room_1 s m args below meth c 8 (cells + 3) (slots + 18) Q R ad (k_c cy ad q ns nt I2 J2) 1360 ((6, .int b9) :: ((5, .int r) :: k_LV ad b i)) [] := by
    refine x_goto F 1694 dL_law_1360 (by decide) ?_
    refine x_sub (lv' := k_LV ad b i) [2, 3, 4, 5, 6] rfl ?_
    refine x_widen (k := cells + 6) (n := slots + 53) (by omega) (by omega) ?_
    exact K R ad q ns nt _ _ hRX (fun _ _ => rfl) hS
  refine x_aload_n F dL_law_1332 rfl 4 rfl ?_
  refine z_callVi F [] (c_X5_thrown l D cy lo R ad q ns nt I2 J2 hRX.1.1) mc_X5_thrown mv_X5_thrown lk_L_101 (hRX.1.1 13 (by decide)) sc_13 rfl rfl rfl dL_law_1333 ⟨(Nat.le_of_ble_eq_true rfl), (Nat.le_of_ble_eq_true rfl)⟩ ⟨(by show cells + 3 ≤ 601024; omega), (by show slots + 18 ≤ 7293033; omega)⟩ (Nat.le_of_ble_eq_true rfl) ?_
  refine x_iload F dL_law_1336 1 rfl ?_
  refine x_icmp_eq F 1343 dL_law_1338 (by decide) (fun _ => ?_) (fun hne => absurd hth hne)
  refine x_iload F dL_law_1343 1 rfl ?_
  refine x_if_ne F 1360 dL_law_1345 (by decide) (fun _ => KT) (fun h0 => ?_)
  refine x_aload_n F dL_law_1348 rfl 3 rfl ?_
  refine x_iconst F (v := 0) dL_law_1349 (by decide) ?_
  refine y_lald F (hRX.1.1 12 (by decide)) ss_12 (vp_in_nI (show 0 < 1 by decide) (by decide)) dL_law_1350 ?_
  refine x_iload F dL_law_1351 0 rfl ?_
  refine x_i2l F dL_law_1353 ?_
  refine x_lcmp F dL_law_1354 ?_
  exact x_if_eq F 1360 dL_law_1355 (by decide) (fun _ => KT) (fun hne => absurd (cmp_self (hout h0)) hne)
set_option maxHeartbeats 4000000 in
set_option maxRecDepth 100000 in
theorem law_18 {D : va_G} {cy : Nat → ClassId} {lo : Nat} {p : Program} {l : Launch} {e : Env} {s : State} {m : MethodId} {args : Array Value} {below : List Frame} {meth : Method} {c : Code} {Q : State → Prop} (hfl : l.stackTraces = false) (F : k_F p m c cL_law 8 s RL D cy lo) {b L : Nat} {xs : Nat → Int32} (hX : va_X b L xs s s.heap) (hb : b < s.heap.size) (hlo : lo = s.heap.size) {R : List Nat} {ad : Nat → Nat} {q : Nat → Nat → Nat} {ns nt : Nat} {I : Nat → Nat → Int32} {J : Nat → Nat → Int64} (hRX : k_RX R ns nt) (h : SR q ns nt I J I J) {i : Nat} (hi : i + 5 ≤ L) (hL : L ≤ 2560) {cells slots : Nat} (hc : cells + 6 ≤ 601024) (hs : slots + 53 ≤ 7293033)
    (K : ∀ (R' : List Nat) (ad' : Nat → Nat) (q' : Nat → Nat → Nat) (ns' nt' : Nat) (I' : Nat → Nat → Int32) (J' : Nat → Nat → Int64), k_RX R' ns' nt' → (∀ y, y < 40 → ad' y = ad y) → SR q' ns' nt' I' J' I' J' → XW D lo p l e room_1 s m args below meth c 8 (cells + 6) (slots + 53) Q R' ad' (k_c cy ad' q' ns' nt' I' J') 1694 (k_LV ad b i) []) :
    XW D lo p l e room_1 s m args below meth c 8 cells slots Q R ad (k_c cy ad q ns nt I J) 1363 (k_LV ad b i) [] := by
  refine x_aload_n F dL_law_1363 rfl 3 rfl ?_
  refine x_aload_n F dL_law_1364 rfl 4 rfl ?_
  refine x_iload F dL_law_1365 0 rfl ?_
  refine x_iconst F (v := 1) dL_law_1367 (by decide) ?_
  refine x_iadd F dL_law_1368 ?_
  refine x_sld F hX hb hlo (nI_add i 1) (by omega) hL dL_law_1369 ?_
  refine x_aload_n F dL_law_1370 rfl 4 rfl ?_
  refine x_iload F dL_law_1371 0 rfl ?_
  refine x_iconst F (v := 2) dL_law_1373 (by decide) ?_
  refine x_iadd F dL_law_1374 ?_
  refine x_sld F hX hb hlo (nI_add i 2) (by omega) hL dL_law_1375 ?_
  refine x_aload_n F dL_law_1376 rfl 1 rfl ?_
  refine x_callHi F [.ref (ad 0), .int (xs (i + 1)), .int (xs (i + 2)), .ref (ad 12)] (c_L_isBarred l D cy lo R ad q ns nt I J hRX.1.1 (xs (i + 1)) (xs (i + 2)) 7 106 2 12 _ _ (c_X4_isBarred l D cy lo R ad q ns nt I J hRX.1 hfl (xs (i + 1)) (xs (i + 2))) (fun E u hx => hx.1.1) (fun v u hp => ⟨R, ad, q, ns, nt, _, _, hp.2.2, hRX.1.1 12 (by decide), rfl⟩)) mh_L_isBarred ms_L_isBarred lk_L_159 rfl rfl dL_law_1377 ⟨(Nat.le_of_ble_eq_true rfl), (Nat.le_of_ble_eq_true rfl)⟩ ⟨(by show cells + 2 ≤ 601024; omega), (by show slots + 12 ≤ 7293033; omega)⟩ (Nat.le_of_ble_eq_true rfl) (fun r u hp => ?_)
  obtain ⟨I1, J1, rfl, h1, hf⟩ := mid_isBarred h hp
  show XW D lo p l e room_1 s m args below meth c 8 (cells + 2) (slots + 12) Q R ad (k_c cy ad q ns nt I1 J1) 1380 (k_LV ad b i) (.int r :: [])
  refine x_istore F ((5, .int r) :: k_LV ad b i) dL_law_1380 (by decide) rfl ?_
  refine x_aload_n F dL_law_1382 rfl 3 rfl ?_
  refine x_aload_n F dL_law_1383 rfl 5 rfl ?_
  refine x_iload F dL_law_1384 1 rfl ?_
  refine x_iconst F (v := 1) dL_law_1386 (by decide) ?_
  refine x_iadd F dL_law_1387 ?_
  refine x_sld F hX hb hlo (nI_add i 1) (by omega) hL dL_law_1388 ?_
  refine x_aload_n F dL_law_1389 rfl 5 rfl ?_
  refine x_iload F dL_law_1390 1 rfl ?_
  refine x_iconst F (v := 2) dL_law_1392 (by decide) ?_
  refine x_iadd F dL_law_1393 ?_
  refine x_sld F hX hb hlo (nI_add i 2) (by omega) hL dL_law_1394 ?_
  obtain ⟨hS, hth, hout⟩ := hf
  refine z_callVi F [.int (xs (i + 1)), .int (xs (i + 2))] (c_X5_isBarred l D cy lo R ad q ns nt I1 J1 hRX.1.1 (xs (i + 1)) (xs (i + 2)) ) mc_X5_isBarred mv_X5_isBarred lk_L_161 (hRX.1.1 13 (by decide)) sc_13 rfl rfl rfl dL_law_1395 ⟨(Nat.le_of_ble_eq_true rfl), (Nat.le_of_ble_eq_true rfl)⟩ ⟨(by show cells + 2 ≤ 601024; omega), (by show slots + 12 ≤ 7293033; omega)⟩ (Nat.le_of_ble_eq_true rfl) ?_
  generalize (wI I1 13 0 (if (isCar (xs (i + 1)) && isCar (xs (i + 2))) = true then 0 else 1)) = I2 at hS hth hout ⊢
  generalize (k_b ((isCar (xs (i + 1)) && isCar (xs (i + 2))) && shutM I1 J1 (xs (i + 1)) (xs (i + 2)))) = b9 at hout ⊢
  refine x_istore F ((6, .int b9) :: ((5, .int r) :: k_LV ad b i)) dL_law_1398 (by decide) rfl ?_
  have KT : XW D lo p l e room_1 s m args below meth c 8 (cells + 2) (slots + 12) Q R ad (k_c cy ad q ns nt I2 J1) 1435 ((6, .int b9) :: ((5, .int r) :: k_LV ad b i)) [] := by
    refine x_goto F 1694 dL_law_1435 (by decide) ?_
    refine x_sub (lv' := k_LV ad b i) [2, 3, 4, 5, 6] rfl ?_
    refine x_widen (k := cells + 6) (n := slots + 53) (by omega) (by omega) ?_
    exact K R ad q ns nt _ _ hRX (fun _ _ => rfl) hS
  refine x_aload_n F dL_law_1400 rfl 4 rfl ?_
  refine z_callVi F [] (c_X5_thrown l D cy lo R ad q ns nt I2 J1 hRX.1.1) mc_X5_thrown mv_X5_thrown lk_L_101 (hRX.1.1 13 (by decide)) sc_13 rfl rfl rfl dL_law_1401 ⟨(Nat.le_of_ble_eq_true rfl), (Nat.le_of_ble_eq_true rfl)⟩ ⟨(by show cells + 2 ≤ 601024; omega), (by show slots + 12 ≤ 7293033; omega)⟩ (Nat.le_of_ble_eq_true rfl) ?_
  refine x_iload F dL_law_1404 1 rfl ?_
  refine x_icmp_eq F 1411 dL_law_1406 (by decide) (fun _ => ?_) (fun hne => absurd hth hne)
  refine x_iload F dL_law_1411 1 rfl ?_
  refine x_if_ne F 1435 dL_law_1413 (by decide) (fun _ => KT) (fun h0 => ?_)
  refine x_aload_n F dL_law_1416 rfl 3 rfl ?_
  refine x_iconst F (v := 0) dL_law_1417 (by decide) ?_
  refine y_lald F (hRX.1.1 12 (by decide)) ss_12 (vp_in_nI (show 0 < 1 by decide) (by decide)) dL_law_1418 ?_
  refine x_iload F dL_law_1419 0 rfl ?_
  refine x_if_eq F 1428 dL_law_1421 (by decide) (fun hz => ?_) (fun hz => ?_)
  · refine x_lconst F (v := 0) dL_law_1428 rfl ?_
    refine x_lcmp F dL_law_1429 ?_
    exact x_if_eq F 1435 dL_law_1430 (by decide) (fun _ => KT) (fun hne => absurd (cmp_self (by rw [show (0 : Int32).toNatClampNeg = 0 from rfl, hout h0, if_pos hz])) hne)
  · refine x_lconst F (v := 1) dL_law_1424 rfl ?_
    refine x_goto F 1429 dL_law_1425 (by decide) ?_
    refine x_lcmp F dL_law_1429 ?_
    exact x_if_eq F 1435 dL_law_1430 (by decide) (fun _ => KT) (fun hne => absurd (cmp_self (by rw [show (0 : Int32).toNatClampNeg = 0 from rfl, hout h0, if_neg hz])) hne)
set_option maxHeartbeats 4000000 in
set_option maxRecDepth 100000 in
theorem law_19 {D : va_G} {cy : Nat → ClassId} {lo : Nat} {p : Program} {l : Launch} {e : Env} {s : State} {m : MethodId} {args : Array Value} {below : List Frame} {meth : Method} {c : Code} {Q : State → Prop} (hfl : l.stackTraces = false) (F : k_F p m c cL_law 8 s RL D cy lo) {b L : Nat} {xs : Nat → Int32} (hX : va_X b L xs s s.heap) (hb : b < s.heap.size) (hlo : lo = s.heap.size) {R : List Nat} {ad : Nat → Nat} {q : Nat → Nat → Nat} {ns nt : Nat} {I : Nat → Nat → Int32} {J : Nat → Nat → Int64} (hRX : k_RX R ns nt) (h : SR q ns nt I J I J) {i : Nat} (hi : i + 5 ≤ L) (hL : L ≤ 2560) {cells slots : Nat} (hc : cells + 6 ≤ 601024) (hs : slots + 53 ≤ 7293033)
    (K : ∀ (R' : List Nat) (ad' : Nat → Nat) (q' : Nat → Nat → Nat) (ns' nt' : Nat) (I' : Nat → Nat → Int32) (J' : Nat → Nat → Int64), k_RX R' ns' nt' → (∀ y, y < 40 → ad' y = ad y) → SR q' ns' nt' I' J' I' J' → XW D lo p l e room_1 s m args below meth c 8 (cells + 6) (slots + 53) Q R' ad' (k_c cy ad' q' ns' nt' I' J') 1694 (k_LV ad b i) []) :
    XW D lo p l e room_1 s m args below meth c 8 cells slots Q R ad (k_c cy ad q ns nt I J) 1438 (k_LV ad b i) [] := by
  refine x_aload_n F dL_law_1438 rfl 3 rfl ?_
  refine x_aload_n F dL_law_1439 rfl 4 rfl ?_
  refine x_iload F dL_law_1440 0 rfl ?_
  refine x_iconst F (v := 1) dL_law_1442 (by decide) ?_
  refine x_iadd F dL_law_1443 ?_
  refine x_sld F hX hb hlo (nI_add i 1) (by omega) hL dL_law_1444 ?_
  refine x_aload_n F dL_law_1445 rfl 4 rfl ?_
  refine x_iload F dL_law_1446 0 rfl ?_
  refine x_iconst F (v := 2) dL_law_1448 (by decide) ?_
  refine x_iadd F dL_law_1449 ?_
  refine x_sld F hX hb hlo (nI_add i 2) (by omega) hL dL_law_1450 ?_
  refine x_aload_n F dL_law_1451 rfl 1 rfl ?_
  refine x_callHi F [.ref (ad 0), .int (xs (i + 1)), .int (xs (i + 2)), .ref (ad 12)] (c_L_debt l D cy lo R ad q ns nt I J hRX.1.1 (xs (i + 1)) (xs (i + 2)) 7 106 2 12 _ _ (c_X4_debt l D cy lo R ad q ns nt I J hRX.1 hfl (xs (i + 1)) (xs (i + 2))) (fun E u hx => hx.1.1) (fun v u hp => ⟨R, ad, q, ns, nt, _, _, hp.2.2, hRX.1.1 12 (by decide), rfl⟩)) mh_L_debt ms_L_debt lk_L_162 rfl rfl dL_law_1452 ⟨(Nat.le_of_ble_eq_true rfl), (Nat.le_of_ble_eq_true rfl)⟩ ⟨(by show cells + 2 ≤ 601024; omega), (by show slots + 12 ≤ 7293033; omega)⟩ (Nat.le_of_ble_eq_true rfl) (fun r u hp => ?_)
  obtain ⟨I1, J1, rfl, h1, hf⟩ := mid_debt h hp
  show XW D lo p l e room_1 s m args below meth c 8 (cells + 2) (slots + 12) Q R ad (k_c cy ad q ns nt I1 J1) 1455 (k_LV ad b i) (.int r :: [])
  refine x_istore F ((5, .int r) :: k_LV ad b i) dL_law_1455 (by decide) rfl ?_
  refine x_aload_n F dL_law_1457 rfl 3 rfl ?_
  refine x_aload_n F dL_law_1458 rfl 5 rfl ?_
  refine x_iload F dL_law_1459 1 rfl ?_
  refine x_iconst F (v := 1) dL_law_1461 (by decide) ?_
  refine x_iadd F dL_law_1462 ?_
  refine x_sld F hX hb hlo (nI_add i 1) (by omega) hL dL_law_1463 ?_
  refine x_aload_n F dL_law_1464 rfl 5 rfl ?_
  refine x_iload F dL_law_1465 1 rfl ?_
  refine x_iconst F (v := 2) dL_law_1467 (by decide) ?_
  refine x_iadd F dL_law_1468 ?_
  refine x_sld F hX hb hlo (nI_add i 2) (by omega) hL dL_law_1469 ?_
  obtain ⟨hS, hth, hout⟩ := hf
  refine z_callVl F [.int (xs (i + 1)), .int (xs (i + 2))] (c_X5_debt l D cy lo R ad q ns nt I1 J1 hRX.1.1 (xs (i + 1)) (xs (i + 2)) ) mc_X5_debt mv_X5_debt lk_L_164 (hRX.1.1 13 (by decide)) sc_13 rfl rfl rfl dL_law_1470 ⟨(Nat.le_of_ble_eq_true rfl), (Nat.le_of_ble_eq_true rfl)⟩ ⟨(by show cells + 2 ≤ 601024; omega), (by show slots + 12 ≤ 7293033; omega)⟩ (Nat.le_of_ble_eq_true rfl) ?_
  generalize (wI I1 13 0 (if (isCar (xs (i + 1)) && isCar (xs (i + 2))) = true then 0 else 1)) = I2 at hS hth hout ⊢
  generalize (if (isCar (xs (i + 1)) && isCar (xs (i + 2))) = true then debtM J1 (xs (i + 1)) (xs (i + 2)) else 0) = b9 at hout ⊢
  refine x_lstore F ((6, .long b9) :: ((5, .int r) :: k_LV ad b i)) dL_law_1473 (by decide) rfl ?_
  have KT : XW D lo p l e room_1 s m args below meth c 8 (cells + 2) (slots + 12) Q R ad (k_c cy ad q ns nt I2 J1) 1502 ((6, .long b9) :: ((5, .int r) :: k_LV ad b i)) [] := by
    refine x_goto F 1694 dL_law_1502 (by decide) ?_
    refine x_sub (lv' := k_LV ad b i) [2, 3, 4, 5, 6] rfl ?_
    refine x_widen (k := cells + 6) (n := slots + 53) (by omega) (by omega) ?_
    exact K R ad q ns nt _ _ hRX (fun _ _ => rfl) hS
  refine x_aload_n F dL_law_1475 rfl 4 rfl ?_
  refine z_callVi F [] (c_X5_thrown l D cy lo R ad q ns nt I2 J1 hRX.1.1) mc_X5_thrown mv_X5_thrown lk_L_101 (hRX.1.1 13 (by decide)) sc_13 rfl rfl rfl dL_law_1476 ⟨(Nat.le_of_ble_eq_true rfl), (Nat.le_of_ble_eq_true rfl)⟩ ⟨(by show cells + 2 ≤ 601024; omega), (by show slots + 12 ≤ 7293033; omega)⟩ (Nat.le_of_ble_eq_true rfl) ?_
  refine x_iload F dL_law_1479 1 rfl ?_
  refine x_icmp_eq F 1486 dL_law_1481 (by decide) (fun _ => ?_) (fun hne => absurd hth hne)
  refine x_iload F dL_law_1486 1 rfl ?_
  refine x_if_ne F 1502 dL_law_1488 (by decide) (fun _ => KT) (fun h0 => ?_)
  refine x_aload_n F dL_law_1491 rfl 3 rfl ?_
  refine x_iconst F (v := 0) dL_law_1492 (by decide) ?_
  refine y_lald F (hRX.1.1 12 (by decide)) ss_12 (vp_in_nI (show 0 < 1 by decide) (by decide)) dL_law_1493 ?_
  refine x_lload F dL_law_1494 0 rfl ?_
  refine x_lcmp F dL_law_1496 ?_
  exact x_if_eq F 1502 dL_law_1497 (by decide) (fun _ => KT) (fun hne => absurd (cmp_self (hout h0)) hne)
set_option maxHeartbeats 4000000 in
set_option maxRecDepth 100000 in
theorem law_20 {D : va_G} {cy : Nat → ClassId} {lo : Nat} {p : Program} {l : Launch} {e : Env} {s : State} {m : MethodId} {args : Array Value} {below : List Frame} {meth : Method} {c : Code} {Q : State → Prop} (hfl : l.stackTraces = false) (F : k_F p m c cL_law 8 s RL D cy lo) {b L : Nat} {xs : Nat → Int32} (hX : va_X b L xs s s.heap) (hb : b < s.heap.size) (hlo : lo = s.heap.size) {R : List Nat} {ad : Nat → Nat} {q : Nat → Nat → Nat} {ns nt : Nat} {I : Nat → Nat → Int32} {J : Nat → Nat → Int64} (hRX : k_RX R ns nt) (h : SR q ns nt I J I J) {i : Nat} (hi : i + 5 ≤ L) (hL : L ≤ 2560) {cells slots : Nat} (hc : cells + 6 ≤ 601024) (hs : slots + 53 ≤ 7293033)
    (K : ∀ (R' : List Nat) (ad' : Nat → Nat) (q' : Nat → Nat → Nat) (ns' nt' : Nat) (I' : Nat → Nat → Int32) (J' : Nat → Nat → Int64), k_RX R' ns' nt' → (∀ y, y < 40 → ad' y = ad y) → SR q' ns' nt' I' J' I' J' → XW D lo p l e room_1 s m args below meth c 8 (cells + 6) (slots + 53) Q R' ad' (k_c cy ad' q' ns' nt' I' J') 1694 (k_LV ad b i) []) :
    XW D lo p l e room_1 s m args below meth c 8 cells slots Q R ad (k_c cy ad q ns nt I J) 1505 (k_LV ad b i) [] := by
  refine x_aload_n F dL_law_1505 rfl 3 rfl ?_
  refine x_aload_n F dL_law_1506 rfl 4 rfl ?_
  refine x_iload F dL_law_1507 0 rfl ?_
  refine x_iconst F (v := 1) dL_law_1509 (by decide) ?_
  refine x_iadd F dL_law_1510 ?_
  refine x_sld F hX hb hlo (nI_add i 1) (by omega) hL dL_law_1511 ?_
  refine x_aload_n F dL_law_1512 rfl 4 rfl ?_
  refine x_iload F dL_law_1513 0 rfl ?_
  refine x_iconst F (v := 2) dL_law_1515 (by decide) ?_
  refine x_iadd F dL_law_1516 ?_
  refine x_sld F hX hb hlo (nI_add i 2) (by omega) hL dL_law_1517 ?_
  refine x_aload_n F dL_law_1518 rfl 1 rfl ?_
  refine x_callHi F [.ref (ad 0), .int (xs (i + 1)), .int (xs (i + 2)), .ref (ad 12)] (c_L_charged l D cy lo R ad q ns nt I J hRX.1.1 (xs (i + 1)) (xs (i + 2)) 7 106 2 12 _ _ (c_X4_charged l D cy lo R ad q ns nt I J hRX.1 hfl (xs (i + 1)) (xs (i + 2))) (fun E u hx => hx.1.1) (fun v u hp => ⟨R, ad, q, ns, nt, _, _, hp.2.2, hRX.1.1 12 (by decide), rfl⟩)) mh_L_charged ms_L_charged lk_L_165 rfl rfl dL_law_1519 ⟨(Nat.le_of_ble_eq_true rfl), (Nat.le_of_ble_eq_true rfl)⟩ ⟨(by show cells + 2 ≤ 601024; omega), (by show slots + 12 ≤ 7293033; omega)⟩ (Nat.le_of_ble_eq_true rfl) (fun r u hp => ?_)
  obtain ⟨I1, J1, rfl, h1, hf⟩ := mid_charged h hp
  show XW D lo p l e room_1 s m args below meth c 8 (cells + 2) (slots + 12) Q R ad (k_c cy ad q ns nt I1 J1) 1522 (k_LV ad b i) (.int r :: [])
  refine x_istore F ((5, .int r) :: k_LV ad b i) dL_law_1522 (by decide) rfl ?_
  refine x_aload_n F dL_law_1524 rfl 3 rfl ?_
  refine x_aload_n F dL_law_1525 rfl 5 rfl ?_
  refine x_iload F dL_law_1526 1 rfl ?_
  refine x_iconst F (v := 1) dL_law_1528 (by decide) ?_
  refine x_iadd F dL_law_1529 ?_
  refine x_sld F hX hb hlo (nI_add i 1) (by omega) hL dL_law_1530 ?_
  refine x_aload_n F dL_law_1531 rfl 5 rfl ?_
  refine x_iload F dL_law_1532 1 rfl ?_
  refine x_iconst F (v := 2) dL_law_1534 (by decide) ?_
  refine x_iadd F dL_law_1535 ?_
  refine x_sld F hX hb hlo (nI_add i 2) (by omega) hL dL_law_1536 ?_
  obtain ⟨hS, hth, hout⟩ := hf
  refine z_callVl F [.int (xs (i + 1)), .int (xs (i + 2))] (c_X5_charged l D cy lo R ad q ns nt I1 J1 hRX.1.1 (xs (i + 1)) (xs (i + 2)) ) mc_X5_charged mv_X5_charged lk_L_167 (hRX.1.1 13 (by decide)) sc_13 rfl rfl rfl dL_law_1537 ⟨(Nat.le_of_ble_eq_true rfl), (Nat.le_of_ble_eq_true rfl)⟩ ⟨(by show cells + 2 ≤ 601024; omega), (by show slots + 12 ≤ 7293033; omega)⟩ (Nat.le_of_ble_eq_true rfl) ?_
  generalize (wI I1 13 0 (if (isCar (xs (i + 1)) && isCar (xs (i + 2))) = true then 0 else 1)) = I2 at hS hth hout ⊢
  generalize (if (isCar (xs (i + 1)) && isCar (xs (i + 2))) = true then J1 19 (5 * (xs (i + 1)) + (xs (i + 2))).toNatClampNeg else 0) = b9 at hout ⊢
  refine x_lstore F ((6, .long b9) :: ((5, .int r) :: k_LV ad b i)) dL_law_1540 (by decide) rfl ?_
  have KT : XW D lo p l e room_1 s m args below meth c 8 (cells + 2) (slots + 12) Q R ad (k_c cy ad q ns nt I2 J1) 1569 ((6, .long b9) :: ((5, .int r) :: k_LV ad b i)) [] := by
    refine x_goto F 1694 dL_law_1569 (by decide) ?_
    refine x_sub (lv' := k_LV ad b i) [2, 3, 4, 5, 6] rfl ?_
    refine x_widen (k := cells + 6) (n := slots + 53) (by omega) (by omega) ?_
    exact K R ad q ns nt _ _ hRX (fun _ _ => rfl) hS
  refine x_aload_n F dL_law_1542 rfl 4 rfl ?_
  refine z_callVi F [] (c_X5_thrown l D cy lo R ad q ns nt I2 J1 hRX.1.1) mc_X5_thrown mv_X5_thrown lk_L_101 (hRX.1.1 13 (by decide)) sc_13 rfl rfl rfl dL_law_1543 ⟨(Nat.le_of_ble_eq_true rfl), (Nat.le_of_ble_eq_true rfl)⟩ ⟨(by show cells + 2 ≤ 601024; omega), (by show slots + 12 ≤ 7293033; omega)⟩ (Nat.le_of_ble_eq_true rfl) ?_
  refine x_iload F dL_law_1546 1 rfl ?_
  refine x_icmp_eq F 1553 dL_law_1548 (by decide) (fun _ => ?_) (fun hne => absurd hth hne)
  refine x_iload F dL_law_1553 1 rfl ?_
  refine x_if_ne F 1569 dL_law_1555 (by decide) (fun _ => KT) (fun h0 => ?_)
  refine x_aload_n F dL_law_1558 rfl 3 rfl ?_
  refine x_iconst F (v := 0) dL_law_1559 (by decide) ?_
  refine y_lald F (hRX.1.1 12 (by decide)) ss_12 (vp_in_nI (show 0 < 1 by decide) (by decide)) dL_law_1560 ?_
  refine x_lload F dL_law_1561 0 rfl ?_
  refine x_lcmp F dL_law_1563 ?_
  exact x_if_eq F 1569 dL_law_1564 (by decide) (fun _ => KT) (fun hne => absurd (cmp_self (hout h0)) hne)
set_option maxHeartbeats 4000000 in
set_option maxRecDepth 100000 in
theorem law_21 {D : va_G} {cy : Nat → ClassId} {lo : Nat} {p : Program} {l : Launch} {e : Env} {s : State} {m : MethodId} {args : Array Value} {below : List Frame} {meth : Method} {c : Code} {Q : State → Prop} (hfl : l.stackTraces = false) (F : k_F p m c cL_law 8 s RL D cy lo) {b L : Nat} {xs : Nat → Int32} (hX : va_X b L xs s s.heap) (hb : b < s.heap.size) (hlo : lo = s.heap.size) {R : List Nat} {ad : Nat → Nat} {q : Nat → Nat → Nat} {ns nt : Nat} {I : Nat → Nat → Int32} {J : Nat → Nat → Int64} (hRX : k_RX R ns nt) (h : SR q ns nt I J I J) {i : Nat} (hi : i + 5 ≤ L) (hL : L ≤ 2560) {cells slots : Nat} (hc : cells + 6 ≤ 601024) (hs : slots + 53 ≤ 7293033)
    (K : ∀ (R' : List Nat) (ad' : Nat → Nat) (q' : Nat → Nat → Nat) (ns' nt' : Nat) (I' : Nat → Nat → Int32) (J' : Nat → Nat → Int64), k_RX R' ns' nt' → (∀ y, y < 40 → ad' y = ad y) → SR q' ns' nt' I' J' I' J' → XW D lo p l e room_1 s m args below meth c 8 (cells + 6) (slots + 53) Q R' ad' (k_c cy ad' q' ns' nt' I' J') 1694 (k_LV ad b i) []) :
    XW D lo p l e room_1 s m args below meth c 8 cells slots Q R ad (k_c cy ad q ns nt I J) 1572 (k_LV ad b i) [] := by
  refine x_aload_n F dL_law_1572 rfl 3 rfl ?_
  refine x_aload_n F dL_law_1573 rfl 4 rfl ?_
  refine x_iload F dL_law_1574 0 rfl ?_
  refine x_iconst F (v := 1) dL_law_1576 (by decide) ?_
  refine x_iadd F dL_law_1577 ?_
  refine x_sld F hX hb hlo (nI_add i 1) (by omega) hL dL_law_1578 ?_
  refine x_aload_n F dL_law_1579 rfl 1 rfl ?_
  refine x_callHi F [.ref (ad 0), .int (xs (i + 1)), .ref (ad 12)] (c_L_position l D cy lo R ad q ns nt I J hRX.1.1 (xs (i + 1)) 7 106 1 6 _ _ (c_X4_position l D cy lo R ad q ns nt I J hRX.1 hfl (xs (i + 1))) (fun E u hx => hx.1.1) (fun v u hp => ⟨R, ad, q, ns, nt, _, _, hp.2.2, hRX.1.1 12 (by decide), rfl⟩)) mh_L_position ms_L_position lk_L_168 rfl rfl dL_law_1580 ⟨(Nat.le_of_ble_eq_true rfl), (Nat.le_of_ble_eq_true rfl)⟩ ⟨(by show cells + 1 ≤ 601024; omega), (by show slots + 6 ≤ 7293033; omega)⟩ (Nat.le_of_ble_eq_true rfl) (fun r u hp => ?_)
  obtain ⟨I1, J1, rfl, h1, hf⟩ := mid_position h hp
  show XW D lo p l e room_1 s m args below meth c 8 (cells + 1) (slots + 6) Q R ad (k_c cy ad q ns nt I1 J1) 1583 (k_LV ad b i) (.int r :: [])
  refine x_istore F ((5, .int r) :: k_LV ad b i) dL_law_1583 (by decide) rfl ?_
  refine x_aload_n F dL_law_1585 rfl 3 rfl ?_
  refine x_aload_n F dL_law_1586 rfl 5 rfl ?_
  refine x_iload F dL_law_1587 1 rfl ?_
  refine x_iconst F (v := 1) dL_law_1589 (by decide) ?_
  refine x_iadd F dL_law_1590 ?_
  refine x_sld F hX hb hlo (nI_add i 1) (by omega) hL dL_law_1591 ?_
  obtain ⟨hS, hth, hout⟩ := hf
  refine z_callVl F [.int (xs (i + 1))] (c_X5_position l D cy lo R ad q ns nt I1 J1 hRX.1.1 (xs (i + 1)) ) mc_X5_position mv_X5_position lk_L_170 (hRX.1.1 13 (by decide)) sc_13 rfl rfl rfl dL_law_1592 ⟨(Nat.le_of_ble_eq_true rfl), (Nat.le_of_ble_eq_true rfl)⟩ ⟨(by show cells + 1 ≤ 601024; omega), (by show slots + 6 ≤ 7293033; omega)⟩ (Nat.le_of_ble_eq_true rfl) ?_
  generalize (wI I1 13 0 (if isCar (xs (i + 1)) = true then 0 else 1)) = I2 at hS hth hout ⊢
  generalize (if isCar (xs (i + 1)) = true then posM J1 (xs (i + 1)) 5 else 0) = b9 at hout ⊢
  refine x_lstore F ((6, .long b9) :: ((5, .int r) :: k_LV ad b i)) dL_law_1595 (by decide) rfl ?_
  have KT : XW D lo p l e room_1 s m args below meth c 8 (cells + 1) (slots + 6) Q R ad (k_c cy ad q ns nt I2 J1) 1624 ((6, .long b9) :: ((5, .int r) :: k_LV ad b i)) [] := by
    refine x_goto F 1694 dL_law_1624 (by decide) ?_
    refine x_sub (lv' := k_LV ad b i) [2, 3, 4, 5, 6] rfl ?_
    refine x_widen (k := cells + 6) (n := slots + 53) (by omega) (by omega) ?_
    exact K R ad q ns nt _ _ hRX (fun _ _ => rfl) hS
  refine x_aload_n F dL_law_1597 rfl 4 rfl ?_
  refine z_callVi F [] (c_X5_thrown l D cy lo R ad q ns nt I2 J1 hRX.1.1) mc_X5_thrown mv_X5_thrown lk_L_101 (hRX.1.1 13 (by decide)) sc_13 rfl rfl rfl dL_law_1598 ⟨(Nat.le_of_ble_eq_true rfl), (Nat.le_of_ble_eq_true rfl)⟩ ⟨(by show cells + 1 ≤ 601024; omega), (by show slots + 6 ≤ 7293033; omega)⟩ (Nat.le_of_ble_eq_true rfl) ?_
  refine x_iload F dL_law_1601 1 rfl ?_
  refine x_icmp_eq F 1608 dL_law_1603 (by decide) (fun _ => ?_) (fun hne => absurd hth hne)
  refine x_iload F dL_law_1608 1 rfl ?_
  refine x_if_ne F 1624 dL_law_1610 (by decide) (fun _ => KT) (fun h0 => ?_)
  refine x_aload_n F dL_law_1613 rfl 3 rfl ?_
  refine x_iconst F (v := 0) dL_law_1614 (by decide) ?_
  refine y_lald F (hRX.1.1 12 (by decide)) ss_12 (vp_in_nI (show 0 < 1 by decide) (by decide)) dL_law_1615 ?_
  refine x_lload F dL_law_1616 0 rfl ?_
  refine x_lcmp F dL_law_1618 ?_
  exact x_if_eq F 1624 dL_law_1619 (by decide) (fun _ => KT) (fun hne => absurd (cmp_self (hout h0)) hne)
set_option maxHeartbeats 4000000 in
set_option maxRecDepth 100000 in
theorem law_22 {D : va_G} {cy : Nat → ClassId} {lo : Nat} {p : Program} {l : Launch} {e : Env} {s : State} {m : MethodId} {args : Array Value} {below : List Frame} {meth : Method} {c : Code} {Q : State → Prop} (hfl : l.stackTraces = false) (F : k_F p m c cL_law 8 s RL D cy lo) {b L : Nat} {xs : Nat → Int32} (hX : va_X b L xs s s.heap) (hb : b < s.heap.size) (hlo : lo = s.heap.size) {R : List Nat} {ad : Nat → Nat} {q : Nat → Nat → Nat} {ns nt : Nat} {I : Nat → Nat → Int32} {J : Nat → Nat → Int64} (hRX : k_RX R ns nt) (h : SR q ns nt I J I J) {i : Nat} (hi : i + 5 ≤ L) (hL : L ≤ 2560) {cells slots : Nat} (hc : cells + 6 ≤ 601024) (hs : slots + 53 ≤ 7293033)
    (K : ∀ (R' : List Nat) (ad' : Nat → Nat) (q' : Nat → Nat → Nat) (ns' nt' : Nat) (I' : Nat → Nat → Int32) (J' : Nat → Nat → Int64), k_RX R' ns' nt' → (∀ y, y < 40 → ad' y = ad y) → SR q' ns' nt' I' J' I' J' → XW D lo p l e room_1 s m args below meth c 8 (cells + 6) (slots + 53) Q R' ad' (k_c cy ad' q' ns' nt' I' J') 1694 (k_LV ad b i) []) :
    XW D lo p l e room_1 s m args below meth c 8 cells slots Q R ad (k_c cy ad q ns nt I J) 1627 (k_LV ad b i) [] := by
  refine x_aload_n F dL_law_1627 rfl 3 rfl ?_
  refine x_aload_n F dL_law_1628 rfl 4 rfl ?_
  refine x_iload F dL_law_1629 0 rfl ?_
  refine x_iconst F (v := 1) dL_law_1631 (by decide) ?_
  refine x_iadd F dL_law_1632 ?_
  refine x_sld F hX hb hlo (nI_add i 1) (by omega) hL dL_law_1633 ?_
  refine x_aload_n F dL_law_1634 rfl 4 rfl ?_
  refine x_iload F dL_law_1635 0 rfl ?_
  refine x_iconst F (v := 2) dL_law_1637 (by decide) ?_
  refine x_iadd F dL_law_1638 ?_
  refine x_sld F hX hb hlo (nI_add i 2) (by omega) hL dL_law_1639 ?_
  refine x_aload_n F dL_law_1640 rfl 1 rfl ?_
  refine x_callHi F [.ref (ad 0), .int (xs (i + 1)), .int (xs (i + 2)), .ref (ad 12)] (c_L_settle l D cy lo R ad q ns nt I J hRX.1.1 (xs (i + 1)) (xs (i + 2)) 7 106 3 18 _ _ (c_X4_settle l D cy lo R ad q ns nt I J hRX.1 hfl (xs (i + 1)) (xs (i + 2))) (fun E u hx => by rcases hx with ⟨⟨e, -⟩ | ⟨e, -⟩, -⟩ <;> simp [e]) (fun v u hp => ⟨R, ad, q, ns, nt, _, _, hp.2.2, hRX.1.1 12 (by decide), rfl⟩)) mh_L_settle ms_L_settle lk_L_171 rfl rfl dL_law_1641 ⟨(Nat.le_of_ble_eq_true rfl), (Nat.le_of_ble_eq_true rfl)⟩ ⟨(by show cells + 3 ≤ 601024; omega), (by show slots + 18 ≤ 7293033; omega)⟩ (Nat.le_of_ble_eq_true rfl) (fun r u hp => ?_)
  obtain ⟨I1, J1, rfl, h1, hf⟩ := mid_settle h hp
  show XW D lo p l e room_1 s m args below meth c 8 (cells + 3) (slots + 18) Q R ad (k_c cy ad q ns nt I1 J1) 1644 (k_LV ad b i) (.int r :: [])
  refine x_istore F ((5, .int r) :: k_LV ad b i) dL_law_1644 (by decide) rfl ?_
  refine x_aload_n F dL_law_1646 rfl 3 rfl ?_
  refine x_aload_n F dL_law_1647 rfl 5 rfl ?_
  refine x_iload F dL_law_1648 1 rfl ?_
  refine x_iconst F (v := 1) dL_law_1650 (by decide) ?_
  refine x_iadd F dL_law_1651 ?_
  refine x_sld F hX hb hlo (nI_add i 1) (by omega) hL dL_law_1652 ?_
  refine x_aload_n F dL_law_1653 rfl 5 rfl ?_
  refine x_iload F dL_law_1654 1 rfl ?_
  refine x_iconst F (v := 2) dL_law_1656 (by decide) ?_
  refine x_iadd F dL_law_1657 ?_
  refine x_sld F hX hb hlo (nI_add i 2) (by omega) hL dL_law_1658 ?_
  obtain ⟨hS, hth, hout⟩ := hf
  refine z_callVl F [.int (xs (i + 1)), .int (xs (i + 2))] (c_X5_settle l D cy lo R ad q ns nt I1 J1 hRX.1.1 (xs (i + 1)) (xs (i + 2)) ) mc_X5_settle mv_X5_settle lk_L_173 (hRX.1.1 13 (by decide)) sc_13 rfl rfl rfl dL_law_1659 ⟨(Nat.le_of_ble_eq_true rfl), (Nat.le_of_ble_eq_true rfl)⟩ ⟨(by show cells + 3 ≤ 601024; omega), (by show slots + 18 ≤ 7293033; omega)⟩ (Nat.le_of_ble_eq_true rfl) ?_
  generalize (wI I1 13 0 (if (isCar (xs (i + 1)) && isCar (xs (i + 2))) = true then (if 0 < debtM J1 (xs (i + 1)) (xs (i + 2)) then 0 else 2) else 1)) = I2 at hS hth hout ⊢
  generalize (if (isCar (xs (i + 1)) && isCar (xs (i + 2))) = true ∧ 0 < debtM J1 (xs (i + 1)) (xs (i + 2)) then wJ J1 20 (5 * (xs (i + 1)) + (xs (i + 2))).toNatClampNeg (J1 20 (5 * (xs (i + 1)) + (xs (i + 2))).toNatClampNeg + debtM J1 (xs (i + 1)) (xs (i + 2))) else J1) = J2 at hS hth hout ⊢
  generalize (if (isCar (xs (i + 1)) && isCar (xs (i + 2))) = true ∧ 0 < debtM J1 (xs (i + 1)) (xs (i + 2)) then debtM J1 (xs (i + 1)) (xs (i + 2)) else 0) = b9 at hout ⊢
  refine x_lstore F ((6, .long b9) :: ((5, .int r) :: k_LV ad b i)) dL_law_1662 (by decide) rfl ?_
  have KT : XW D lo p l e room_1 s m args below meth c 8 (cells + 3) (slots + 18) Q R ad (k_c cy ad q ns nt I2 J2) 1691 ((6, .long b9) :: ((5, .int r) :: k_LV ad b i)) [] := by
    refine x_goto F 1694 dL_law_1691 (by decide) ?_
    refine x_sub (lv' := k_LV ad b i) [2, 3, 4, 5, 6] rfl ?_
    refine x_widen (k := cells + 6) (n := slots + 53) (by omega) (by omega) ?_
    exact K R ad q ns nt _ _ hRX (fun _ _ => rfl) hS
  refine x_aload_n F dL_law_1664 rfl 4 rfl ?_
  refine z_callVi F [] (c_X5_thrown l D cy lo R ad q ns nt I2 J2 hRX.1.1) mc_X5_thrown mv_X5_thrown lk_L_101 (hRX.1.1 13 (by decide)) sc_13 rfl rfl rfl dL_law_1665 ⟨(Nat.le_of_ble_eq_true rfl), (Nat.le_of_ble_eq_true rfl)⟩ ⟨(by show cells + 3 ≤ 601024; omega), (by show slots + 18 ≤ 7293033; omega)⟩ (Nat.le_of_ble_eq_true rfl) ?_
  refine x_iload F dL_law_1668 1 rfl ?_
  refine x_icmp_eq F 1675 dL_law_1670 (by decide) (fun _ => ?_) (fun hne => absurd hth hne)
  refine x_iload F dL_law_1675 1 rfl ?_
  refine x_if_ne F 1691 dL_law_1677 (by decide) (fun _ => KT) (fun h0 => ?_)
  refine x_aload_n F dL_law_1680 rfl 3 rfl ?_
  refine x_iconst F (v := 0) dL_law_1681 (by decide) ?_
  refine y_lald F (hRX.1.1 12 (by decide)) ss_12 (vp_in_nI (show 0 < 1 by decide) (by decide)) dL_law_1682 ?_
  refine x_lload F dL_law_1683 0 rfl ?_
  refine x_lcmp F dL_law_1685 ?_
  exact x_if_eq F 1691 dL_law_1686 (by decide) (fun _ => KT) (fun hne => absurd (cmp_self (hout h0)) hne)
