section LC
variable {D : va_G} {cy : Nat → ClassId} {lo : Nat} {p : Program} {l : Launch} {e : Env} {s : State} {m : MethodId} {args : Array Value} {below : List Frame} {meth : Method} {c : Code} {cells slots : Nat} {Q : State → Prop} {R : List Nat} {ad : Nat → Nat} {b : Nat} {q : Nat → Nat → Nat} {ns nt T : Nat} {I : Nat → Nat → Int32} {J : Nat → Nat → Int64}
set_option maxHeartbeats 4000000 in
set_option maxRecDepth 100000 in
/-- an act: pass -/
theorem law_pass (hfl : l.stackTraces = false) (F : k_F p m c cL_law 20 s RL D cy lo) (hRX : k_RX R ns nt) (h : SR q ns nt T I J I J) (hT : T ≤ 20000) (hT2 : 299 ≤ T) {turn f t : Nat} {xv yv kv : Int32} (hf : f < 5) (ht : t < 5) {x15 : Int32} (hc : cells + 400 ≤ 600104) (hs : slots + 2400 ≤ 7301314)
    (K : ∀ (R' : List Nat) (ad' : Nat → Nat) (q' : Nat → Nat → Nat) (ns' nt' : Nat) (I' : Nat → Nat → Int32) (J' : Nat → Nat → Int64), k_RX R' ns' nt' → (∀ y, y < 40 → ad' y = ad y) → ns ≤ ns' → SR q' ns' nt' (T + 200) I' J' I' J' → XW D lo p l e room_1 s m args below meth c 20 (cells + 400) (slots + 2400) Q R' ad' (k_c cy ad' q' ns' nt' I' J') 1344 (k_LV ad' b turn) []) :
    XW D lo p l e room_1 s m args below meth c 20 cells slots Q R ad (k_c cy ad q ns nt I J) 1206 ((15, .int x15) :: (14, .int (nI t)) :: (13, .int (nI f)) :: (12, .int kv) :: (11, .int yv) :: (10, .int xv) :: k_LV ad b turn) [] := by
  have hR := hRX.1.1
  have hL := hRX.1
  have hns := h.hns
  have hnt := h.hnt
  refine x_iconst F (v := 1) dL_law_1206 (by decide) ?_
  refine x_iload F dL_law_1207 4 rfl ?_
  refine x_bipush F (v := 8) dL_law_1209 (by decide) ?_
  refine z_callSi F [.int yv, .int 8] (c_L_low l D cy lo R ad _ yv 8 (by decide)) mc_L_low ms_L_low lk_L_103 rfl rfl dL_law_1211 ⟨Nat.le_of_ble_eq_true rfl, Nat.le_of_ble_eq_true rfl⟩ ⟨by (try dsimp only); show _ ≤ 600104; omega, by (try dsimp only); show _ ≤ 7301314; omega⟩ (Nat.le_of_ble_eq_true rfl) ?_
  obtain ⟨j1211, hj1211, ej1211⟩ := low_n yv (n := 8) (by omega) (by omega)
  rw [show lowI yv 8 = nI j1211 from ej1211]
  refine x_iadd F dL_law_1214 ?_
  refine x_cast (y := nI (1 + j1211)) (nI_add 1 j1211) ?_
  refine x_istore F [(16, .int (nI (1 + j1211))), (15, .int x15), (14, .int (nI t)), (13, .int (nI f)), (12, .int kv), (11, .int yv), (10, .int xv), (9, .int (nI turn)), (8, .ref (ad 18)), (7, .ref (ad 17)), (6, .ref (ad 16)), (5, .ref (ad 15)), (4, .ref (ad 14)), (3, .ref (ad 13)), (2, .ref (ad 12)), (1, .ref (ad 0)), (0, .ref b)] dL_law_1215 (by decide) rfl ?_
  refine x_iconst F (v := 0) dL_law_1217 (by decide) ?_
  refine x_istore F [(17, .int 0), (16, .int (nI (1 + j1211))), (15, .int x15), (14, .int (nI t)), (13, .int (nI f)), (12, .int kv), (11, .int yv), (10, .int xv), (9, .int (nI turn)), (8, .ref (ad 18)), (7, .ref (ad 17)), (6, .ref (ad 16)), (5, .ref (ad 15)), (4, .ref (ad 14)), (3, .ref (ad 13)), (2, .ref (ad 12)), (1, .ref (ad 0)), (0, .ref b)] dL_law_1218 (by decide) rfl ?_
  refine x_iconst F (v := 0) dL_law_1220 (by decide) ?_
  refine x_istore F [(18, .int 0), (17, .int 0), (16, .int (nI (1 + j1211))), (15, .int x15), (14, .int (nI t)), (13, .int (nI f)), (12, .int kv), (11, .int yv), (10, .int xv), (9, .int (nI turn)), (8, .ref (ad 18)), (7, .ref (ad 17)), (6, .ref (ad 16)), (5, .ref (ad 15)), (4, .ref (ad 14)), (3, .ref (ad 13)), (2, .ref (ad 12)), (1, .ref (ad 0)), (0, .ref b)] dL_law_1221 (by decide) rfl ?_
  have lp1223 : ∀ (fu1223 mm : Nat) (I1 : Nat → Nat → Int32) (J1 : Nat → Nat → Int64) (cc : Int32), 1 + j1211 - mm < fu1223 → mm ≤ 1 + j1211 → InvP q ns nt T I J mm 0 I1 J1 cc → XW D lo p l e room_1 s m args below meth c 20 cells slots Q R ad (k_c cy ad q ns nt I1 J1) 1223 [(18, .int (nI mm)), (17, .int cc), (16, .int (nI (1 + j1211))), (15, .int x15), (14, .int (nI t)), (13, .int (nI f)), (12, .int kv), (11, .int yv), (10, .int xv), (9, .int (nI turn)), (8, .ref (ad 18)), (7, .ref (ad 17)), (6, .ref (ad 16)), (5, .ref (ad 15)), (4, .ref (ad 14)), (3, .ref (ad 13)), (2, .ref (ad 12)), (1, .ref (ad 0)), (0, .ref b)] [] := by
    intro fu1223
    induction fu1223 with
    | zero => intro mm I1 J1 cc hf1223; exact absurd hf1223 (Nat.not_lt_zero _)
    | succ fu1223 ih1223 =>
      intro mm I1 J1 cc hf1223 hmm hP
      refine x_iload F dL_law_1223 0 rfl ?_
      refine x_iload F dL_law_1225 2 rfl ?_
      refine x_icmp_ge F 1310 dL_law_1227 (by decide) (fun h1227 => ?_) (fun h1227 => ?_)
      · replace h1227 : (1 + j1211) ≤ mm := (nI_leI (a := 1 + j1211) (b := mm) (by omega) (by omega)).mp h1227
        have hmm9 : mm = 1 + j1211 := by omega
        refine x_aload_n F dL_law_1310 rfl 17 rfl ?_
        refine x_iload F dL_law_1311 2 rfl ?_
        refine z_callVix F [.int (nI (1 + j1211))] (c_X4_pass l D cy lo R ad q ns nt I1 J1 hL hfl (nI (1 + j1211)) h.kq (inv_end (k := 0) hP h).2.2.len) mc_X4_pass mv_X4_pass lk_L_128 (hR 0 (by decide)) sc_0 rfl rfl rfl dL_law_1313 ⟨Nat.le_of_ble_eq_true rfl, Nat.le_of_ble_eq_true rfl⟩ ⟨by (try dsimp only); show _ ≤ 600104; omega, by (try dsimp only); show _ ≤ 7301314; omega⟩ (Nat.le_of_ble_eq_true rfl) (fun E hE => absurd hE (fun g => absurd g.2 (by rw [show isWi (nI (1 + j1211)) 1 200 = true from isWi_n (a := 1) (b := 200) (by omega) (by omega) (by omega)]; decide))) (fun ok1313 => ?_)
        refine x_cast (y := cc) (by rw [nI_clamp (by omega), ← hmm9]; exact (inv_end (k := 0) hP h).1.symm) ?_
        refine x_iload F dL_law_1316 1 rfl ?_
        refine x_icmp_eq F 1323 dL_law_1318 (by decide) (fun h1318 => ?_) (fun h1318 => ?_)
        · refine x_sub [5, 9, 10, 11, 12, 13, 14, 15, 16, 17, 18] rfl ?_
          refine x_widen (k := cells + 106) (n := slots + 636) (by (try dsimp only); omega) (by (try dsimp only); omega) ?_
          refine law_tail hfl F hRX.1 (T := T + 200) (J := ((passS q nt (I1, J1, 0) (nI (1 + j1211)).toNatClampNeg).2.1)) (by rw [nI_clamp (by omega), ← hmm9]; exact (inv_end (k := 0) hP h).2.1.up (by omega)) hf (by omega) (by omega) (fun I2 hS2 => ?_)
          exact K R ad q ns nt I2 _ hRX (fun _ _ => rfl) (Nat.le_refl _) hS2
        · exact (h1318 rfl).elim
      · replace h1227 : ¬ (1 + j1211) ≤ mm := fun z => h1227 ((nI_leI (a := 1 + j1211) (b := mm) (by omega) (by omega)).mpr z)
        refine x_iconst F (v := 0) dL_law_1230 (by decide) ?_
        refine x_istore F [(19, .int 0), (18, .int (nI mm)), (17, .int cc), (16, .int (nI (1 + j1211))), (15, .int x15), (14, .int (nI t)), (13, .int (nI f)), (12, .int kv), (11, .int yv), (10, .int xv), (9, .int (nI turn)), (8, .ref (ad 18)), (7, .ref (ad 17)), (6, .ref (ad 16)), (5, .ref (ad 15)), (4, .ref (ad 14)), (3, .ref (ad 13)), (2, .ref (ad 12)), (1, .ref (ad 0)), (0, .ref b)] dL_law_1231 (by decide) rfl ?_
        have lp1233 : ∀ (fu1233 k : Nat) (I1 : Nat → Nat → Int32) (J1 : Nat → Nat → Int64) (cc : Int32), nt - k < fu1233 → InvP q ns nt T I J mm k I1 J1 cc → XW D lo p l e room_1 s m args below meth c 20 cells slots Q R ad (k_c cy ad q ns nt I1 J1) 1233 [(19, .int (nI k)), (18, .int (nI mm)), (17, .int cc), (16, .int (nI (1 + j1211))), (15, .int x15), (14, .int (nI t)), (13, .int (nI f)), (12, .int kv), (11, .int yv), (10, .int xv), (9, .int (nI turn)), (8, .ref (ad 18)), (7, .ref (ad 17)), (6, .ref (ad 16)), (5, .ref (ad 15)), (4, .ref (ad 14)), (3, .ref (ad 13)), (2, .ref (ad 12)), (1, .ref (ad 0)), (0, .ref b)] [] := by
          intro fu1233
          induction fu1233 with
          | zero => intro k I1 J1 cc hf1233; exact absurd hf1233 (Nat.not_lt_zero _)
          | succ fu1233 ih1233 =>
            intro k I1 J1 cc hf1233 hP
            have hkn := hP.1
            refine x_iload F dL_law_1233 0 rfl ?_
            refine x_aload F dL_law_1235 11 rfl ?_
            refine x_iconst F (v := 1) dL_law_1237 (by decide) ?_
            refine y_iald F (hR 18 (by decide)) ss_18 (show vp_in (nI 1) 2 from vp_in_nI (by decide) (by decide)) dL_law_1238 ?_
            refine x_cast (y := I1 18 1) (by rw [show (1 : Int32).toNatClampNeg = 1 from by decide]) ?_
            refine x_cast (y := nI nt) (by rw [hP.2.1 18 (by omega) (by omega)]; exact h.g1) ?_
            refine x_icmp_ge F 1304 dL_law_1239 (by decide) (fun h1239 => ?_) (fun h1239 => ?_)
            · replace h1239 : nt ≤ k := (nI_leI (a := nt) (b := k) (by omega) (by omega)).mp h1239
              refine x_iinc F [(18, .int ((nI mm) + 1)), (19, .int (nI k)), (17, .int cc), (16, .int (nI (1 + j1211))), (15, .int x15), (14, .int (nI t)), (13, .int (nI f)), (12, .int kv), (11, .int yv), (10, .int xv), (9, .int (nI turn)), (8, .ref (ad 18)), (7, .ref (ad 17)), (6, .ref (ad 16)), (5, .ref (ad 15)), (4, .ref (ad 14)), (3, .ref (ad 13)), (2, .ref (ad 12)), (1, .ref (ad 0)), (0, .ref b)] dL_law_1304 1 rfl (by decide) rfl ?_
              refine x_goto F 1223 dL_law_1307 (by decide) ?_
              rw [nI_1]
              refine x_sub [0, 2, 3, 4, 5, 6, 7, 8, 9, 10, 11, 12, 13, 14, 15, 16, 17, 18, 19] rfl ?_
              exact ih1223 (mm + 1) I1 J1 cc (by omega) (by omega) (inv_round (k := 0) hnt (by rw [show k = nt by omega] at hP; exact hP))
            · replace h1239 : ¬ nt ≤ k := fun z => h1239 ((nI_leI (a := nt) (b := k) (by omega) (by omega)).mpr z)
              refine x_aload F dL_law_1242 12 rfl ?_
              refine x_bipush F (v := 8) dL_law_1244 (by decide) ?_
              refine x_iload F dL_law_1246 0 rfl ?_
              refine x_imul F dL_law_1248 ?_
              refine x_cast (y := nI (8 * k)) (pk_mul 8 k) ?_
              refine x_iconst F (v := 2) dL_law_1249 (by decide) ?_
              refine x_iadd F dL_law_1250 ?_
              refine x_cast (y := nI (8 * k + 2)) (nI_add (8 * k) 2) ?_
              refine y_iald F (hR 17 (by decide)) ss_17 (vp_in_nI (n := 8 * k + 2) (N := 56) (by omega) (by decide)) dL_law_1251 ?_
              refine x_cast (y := I1 17 (8 * k + 2)) (by rw [nI_clamp (n := 8 * k + 2) (by omega)]) ?_
              refine x_if_eq F 1258 dL_law_1252 (by decide) (fun h1252 => ?_) (fun h1252 => ?_)
              · obtain ⟨sn, pp, v, w1, w2, w3, w4, w5, w6, w7, w8, w9, w10⟩ := inv_facts hP h (show k < nt by omega)
                refine x_bipush F (v := 8) dL_law_1258 (by decide) ?_
                refine x_iload F dL_law_1260 0 rfl ?_
                refine x_imul F dL_law_1262 ?_
                refine x_cast (y := nI (8 * k)) (pk_mul 8 k) ?_
                refine x_aload_n F dL_law_1263 rfl 17 rfl ?_
                refine x_aload_n F dL_law_1264 rfl 16 rfl ?_
                refine x_aload F dL_law_1265 15 rfl ?_
                refine x_aload F dL_law_1267 13 rfl ?_
                refine x_aload F dL_law_1269 12 rfl ?_
                refine z_callSv F [.int (nI (8 * k)), .ref (ad 12), .ref (ad 13), .ref (ad 14), .ref (ad 16), .ref (ad 17)] (c_L_minute l D cy lo R ad q ns nt I1 J1 hR k (q (80 + 4 * k) 0) sn pp (opL I1 J1) (rtL I1) v (by omega) w1 w2 w3 w4 w5 w6 w7 w8 w9 w10) mc_L_minute ms_L_minute lk_L_124 rfl rfl dL_law_1271 ⟨Nat.le_of_ble_eq_true rfl, Nat.le_of_ble_eq_true rfl⟩ ⟨by (try dsimp only); show _ ≤ 600104; omega, by (try dsimp only); show _ ≤ 7301314; omega⟩ (Nat.le_of_ble_eq_true rfl) ?_
                refine x_iload F dL_law_1274 2 rfl ?_
                refine x_aload F dL_law_1276 12 rfl ?_
                refine x_bipush F (v := 8) dL_law_1278 (by decide) ?_
                refine x_iload F dL_law_1280 0 rfl ?_
                refine x_imul F dL_law_1282 ?_
                refine x_cast (y := nI (8 * k)) (pk_mul 8 k) ?_
                refine x_iconst F (v := 2) dL_law_1283 (by decide) ?_
                refine x_iadd F dL_law_1284 ?_
                refine x_cast (y := nI (8 * k + 2)) (nI_add (8 * k) 2) ?_
                refine y_iald F (hR 17 (by decide)) ss_17 (vp_in_nI (n := 8 * k + 2) (N := 56) (by omega) (by decide)) dL_law_1285 ?_
                refine x_cast (y := (minI I1 J1 k (q (80 + 4 * k) 0) pp v) 17 (8 * k + 2)) (by rw [nI_clamp (n := 8 * k + 2) (by omega)]) ?_
                refine x_iconst F (v := 2) dL_law_1286 (by decide) ?_
                refine x_icmp_ne F 1294 dL_law_1287 (by decide) (fun h1287 => ?_) (fun h1287 => ?_)
                · refine x_iconst F (v := 0) dL_law_1294 (by decide) ?_
                  refine x_iadd F dL_law_1295 ?_
                  refine x_istore F [(17, .int (cc + 0)), (19, .int (nI k)), (18, .int (nI mm)), (16, .int (nI (1 + j1211))), (15, .int x15), (14, .int (nI t)), (13, .int (nI f)), (12, .int kv), (11, .int yv), (10, .int xv), (9, .int (nI turn)), (8, .ref (ad 18)), (7, .ref (ad 17)), (6, .ref (ad 16)), (5, .ref (ad 15)), (4, .ref (ad 14)), (3, .ref (ad 13)), (2, .ref (ad 12)), (1, .ref (ad 0)), (0, .ref b)] dL_law_1296 (by decide) rfl ?_
                  refine x_iinc F [(19, .int ((nI k) + 1)), (17, .int (cc + 0)), (18, .int (nI mm)), (16, .int (nI (1 + j1211))), (15, .int x15), (14, .int (nI t)), (13, .int (nI f)), (12, .int kv), (11, .int yv), (10, .int xv), (9, .int (nI turn)), (8, .ref (ad 18)), (7, .ref (ad 17)), (6, .ref (ad 16)), (5, .ref (ad 15)), (4, .ref (ad 14)), (3, .ref (ad 13)), (2, .ref (ad 12)), (1, .ref (ad 0)), (0, .ref b)] dL_law_1298 1 rfl (by decide) rfl ?_
                  refine x_goto F 1233 dL_law_1301 (by decide) ?_
                  rw [nI_1]
                  refine x_sub [0, 2, 1, 3, 4, 5, 6, 7, 8, 9, 10, 11, 12, 13, 14, 15, 16, 17, 18, 19] rfl ?_
                  exact ih1233 (k + 1) _ _ (cc + 0) (by omega) (by have g := inv_tick (by omega) hP (by omega) h1252 w3 w4 w2 w10; rw [if_neg h1287] at g; exact g)
                · refine x_iconst F (v := 1) dL_law_1290 (by decide) ?_
                  refine x_goto F 1295 dL_law_1291 (by decide) ?_
                  refine x_iadd F dL_law_1295 ?_
                  refine x_istore F [(17, .int (cc + 1)), (19, .int (nI k)), (18, .int (nI mm)), (16, .int (nI (1 + j1211))), (15, .int x15), (14, .int (nI t)), (13, .int (nI f)), (12, .int kv), (11, .int yv), (10, .int xv), (9, .int (nI turn)), (8, .ref (ad 18)), (7, .ref (ad 17)), (6, .ref (ad 16)), (5, .ref (ad 15)), (4, .ref (ad 14)), (3, .ref (ad 13)), (2, .ref (ad 12)), (1, .ref (ad 0)), (0, .ref b)] dL_law_1296 (by decide) rfl ?_
                  refine x_iinc F [(19, .int ((nI k) + 1)), (17, .int (cc + 1)), (18, .int (nI mm)), (16, .int (nI (1 + j1211))), (15, .int x15), (14, .int (nI t)), (13, .int (nI f)), (12, .int kv), (11, .int yv), (10, .int xv), (9, .int (nI turn)), (8, .ref (ad 18)), (7, .ref (ad 17)), (6, .ref (ad 16)), (5, .ref (ad 15)), (4, .ref (ad 14)), (3, .ref (ad 13)), (2, .ref (ad 12)), (1, .ref (ad 0)), (0, .ref b)] dL_law_1298 1 rfl (by decide) rfl ?_
                  refine x_goto F 1233 dL_law_1301 (by decide) ?_
                  rw [nI_1]
                  refine x_sub [0, 2, 1, 3, 4, 5, 6, 7, 8, 9, 10, 11, 12, 13, 14, 15, 16, 17, 18, 19] rfl ?_
                  exact ih1233 (k + 1) _ _ (cc + 1) (by omega) (by have g := inv_tick (by omega) hP (by omega) h1252 w3 w4 w2 w10; rw [if_pos h1287] at g; exact g)
              · refine x_goto F 1298 dL_law_1255 (by decide) ?_
                refine x_iinc F [(19, .int ((nI k) + 1)), (18, .int (nI mm)), (17, .int cc), (16, .int (nI (1 + j1211))), (15, .int x15), (14, .int (nI t)), (13, .int (nI f)), (12, .int kv), (11, .int yv), (10, .int xv), (9, .int (nI turn)), (8, .ref (ad 18)), (7, .ref (ad 17)), (6, .ref (ad 16)), (5, .ref (ad 15)), (4, .ref (ad 14)), (3, .ref (ad 13)), (2, .ref (ad 12)), (1, .ref (ad 0)), (0, .ref b)] dL_law_1298 0 rfl (by decide) rfl ?_
                refine x_goto F 1233 dL_law_1301 (by decide) ?_
                rw [nI_1]
                refine x_sub [0, 1, 2, 3, 4, 5, 6, 7, 8, 9, 10, 11, 12, 13, 14, 15, 16, 17, 18, 19] rfl ?_
                exact ih1233 (k + 1) I1 J1 cc (by omega) (inv_skip hP (by omega) h1252)
        refine x_sub [0, 1, 2, 3, 4, 5, 6, 7, 8, 9, 10, 11, 12, 13, 14, 15, 16, 17, 18, 19] rfl ?_
        exact lp1233 (nt + 1) 0 I1 J1 cc (by omega) hP
  refine x_sub [0, 1, 2, 3, 4, 5, 6, 7, 8, 9, 10, 11, 12, 13, 14, 15, 16, 17, 18] rfl ?_
  exact lp1223 (2 + j1211) 0 I J 0 (by omega) (by omega) inv_0
end LC
