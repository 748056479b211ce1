section LC
variable {D : va_G} {cy : Nat → ClassId} {lo : Nat} {p : Program} {l : Launch} {e : Env} {s : State} {m : MethodId} {args : Array Value} {below : List Frame} {meth : Method} {c : Code} {cells slots : Nat} {Q : State → Prop} {R : List Nat} {ad : Nat → Nat} {b : Nat} {q : Nat → Nat → Nat} {ns nt T : Nat} {I : Nat → Nat → Int32} {J : Nat → Nat → Int64}
set_option maxHeartbeats 4000000 in
set_option maxRecDepth 100000 in
/-- an act: settle -/
theorem law_settle (hfl : l.stackTraces = false) (F : k_F p m c cL_law 20 s RL D cy lo) (hRX : k_RX R ns nt) (h : SR q ns nt T I J I J) (hT : T ≤ 20000) (hT2 : 299 ≤ T) {turn f t : Nat} {xv yv kv : Int32} (hf : f < 5) (ht : t < 5) {x15 : Int32} (hc : cells + 400 ≤ 600104) (hs : slots + 2400 ≤ 7301314)
    (K : ∀ (R' : List Nat) (ad' : Nat → Nat) (q' : Nat → Nat → Nat) (ns' nt' : Nat) (I' : Nat → Nat → Int32) (J' : Nat → Nat → Int64), k_RX R' ns' nt' → (∀ y, y < 40 → ad' y = ad y) → ns ≤ ns' → SR q' ns' nt' (T + 200) I' J' I' J' → XW D lo p l e room_1 s m args below meth c 20 (cells + 400) (slots + 2400) Q R' ad' (k_c cy ad' q' ns' nt' I' J') 1344 (k_LV ad' b turn) []) :
    XW D lo p l e room_1 s m args below meth c 20 cells slots Q R ad (k_c cy ad q ns nt I J) 1123 ((15, .int x15) :: (14, .int (nI t)) :: (13, .int (nI f)) :: (12, .int kv) :: (11, .int yv) :: (10, .int xv) :: k_LV ad b turn) [] := by
  have hR := hRX.1.1
  have hL := hRX.1
  have hns := h.hns
  have hnt := h.hnt
  refine x_aload F dL_law_1123 11 rfl ?_
  refine x_iconst F (v := 5) dL_law_1125 (by decide) ?_
  refine x_iload F dL_law_1126 2 rfl ?_
  refine x_imul F dL_law_1128 ?_
  refine x_cast (y := nI (5 * f)) (pk_mul 5 f) ?_
  refine x_iload F dL_law_1129 1 rfl ?_
  refine x_iadd F dL_law_1131 ?_
  refine x_cast (y := nI (5 * f + t)) (nI_add (5 * f) t) ?_
  refine y_lald F (hR 14 (by decide)) ss_14 (vp_in_nI (n := 5 * f + t) (N := 25) (by omega) (by decide)) dL_law_1132 ?_
  refine x_castl (y := J 14 (5 * f + t)) (by rw [nI_clamp (n := 5 * f + t) (by omega)]) ?_
  refine x_lconst F (v := 0) dL_law_1133 (by decide) ?_
  refine x_lcmp F dL_law_1134 ?_
  refine x_if_gt F 1153 dL_law_1135 (by decide) (fun h1135 => ?_) (fun h1135 => ?_)
  · rw [lg_cmp_gt] at h1135
    have hft : f ≠ t := fun e => by
      rw [e, h.dbt.1 _ (by omega), h.dbt.2.2 t ht] at h1135
      exact absurd h1135 (by decide)
    refine x_aload F dL_law_1153 11 rfl ?_
    refine x_iconst F (v := 5) dL_law_1155 (by decide) ?_
    refine x_iload F dL_law_1156 2 rfl ?_
    refine x_imul F dL_law_1158 ?_
    refine x_cast (y := nI (5 * f)) (pk_mul 5 f) ?_
    refine x_iload F dL_law_1159 1 rfl ?_
    refine x_iadd F dL_law_1161 ?_
    refine x_cast (y := nI (5 * f + t)) (nI_add (5 * f) t) ?_
    refine y_lald F (hR 14 (by decide)) ss_14 (vp_in_nI (n := 5 * f + t) (N := 25) (by omega) (by decide)) dL_law_1162 ?_
    refine x_castl (y := J 14 (5 * f + t)) (by rw [nI_clamp (n := 5 * f + t) (by omega)]) ?_
    refine x_lstore F [(16, .long (J 14 (5 * f + t))), (15, .int x15), (14, .int (nI t)), (13, .int (nI f)), (12, .int kv), (11, .int yv), (10, .int xv), (9, .int (nI turn)), (8, .ref (ad 18)), (7, .ref (ad 17)), (6, .ref (ad 16)), (5, .ref (ad 15)), (4, .ref (ad 14)), (3, .ref (ad 13)), (2, .ref (ad 12)), (1, .ref (ad 0)), (0, .ref b)] dL_law_1163 (by decide) rfl ?_
    refine x_aload F dL_law_1165 12 rfl ?_
    refine x_iconst F (v := 5) dL_law_1167 (by decide) ?_
    refine x_iload F dL_law_1168 3 rfl ?_
    refine x_imul F dL_law_1170 ?_
    refine x_cast (y := nI (5 * f)) (pk_mul 5 f) ?_
    refine x_iload F dL_law_1171 2 rfl ?_
    refine x_iadd F dL_law_1173 ?_
    refine x_cast (y := nI (5 * f + t)) (nI_add (5 * f) t) ?_
    refine x_lconst F (v := 0) dL_law_1174 (by decide) ?_
    refine y_last F (hR 14 (by decide)) ss_14 (vp_in_nI (n := 5 * f + t) (N := 25) (by omega) (by decide)) dL_law_1175 ?_
    refine x_world (congrArg (fun z => k_c cy ad q ns nt I z) (show wJ J 14 (nI (5 * f + t)).toNatClampNeg 0 = wJ J 14 (5 * f + t) 0 by rw [nI_clamp (n := 5 * f + t) (by omega)])) ?_
    refine x_aload F dL_law_1176 12 rfl ?_
    refine x_iconst F (v := 5) dL_law_1178 (by decide) ?_
    refine x_iload F dL_law_1179 2 rfl ?_
    refine x_imul F dL_law_1181 ?_
    refine x_cast (y := nI (5 * t)) (pk_mul 5 t) ?_
    refine x_iload F dL_law_1182 3 rfl ?_
    refine x_iadd F dL_law_1184 ?_
    refine x_cast (y := nI (5 * t + f)) (nI_add (5 * t) f) ?_
    refine x_lconst F (v := 0) dL_law_1185 (by decide) ?_
    refine y_last F (hR 14 (by decide)) ss_14 (vp_in_nI (n := 5 * t + f) (N := 25) (by omega) (by decide)) dL_law_1186 ?_
    refine x_world (congrArg (fun z => k_c cy ad q ns nt I z) (show wJ (wJ J 14 (5 * f + t) 0) 14 (nI (5 * t + f)).toNatClampNeg 0 = wJ (wJ J 14 (5 * f + t) 0) 14 (5 * t + f) 0 by rw [nI_clamp (n := 5 * t + f) (by omega)])) ?_
    refine x_aload_n F dL_law_1187 rfl 15 rfl ?_
    refine x_iload F dL_law_1188 3 rfl ?_
    refine x_iload F dL_law_1190 2 rfl ?_
    refine z_callVlx F [.int (nI f), .int (nI t)] (c_X4_settle l D cy lo R ad q ns nt I (wJ (wJ J 14 (5 * f + t) 0) 14 (5 * t + f) 0) hL hfl (nI f) (nI t)) mc_X4_settle mv_X4_settle lk_L_34 (hR 0 (by decide)) sc_0 rfl rfl rfl dL_law_1192 ⟨Nat.le_of_ble_eq_true rfl, Nat.le_of_ble_eq_true rfl⟩ ⟨by (try dsimp only); show _ ≤ 600104; omega, by (try dsimp only); show _ ≤ 7301314; omega⟩ (Nat.le_of_ble_eq_true rfl) (fun E hE => absurd hE (fun g => g.elim (fun g => absurd g.2 (by rw [car_2 hf ht]; decide)) (fun g => absurd (by rw [(settle_sr h hf ht hft).1]; exact h1135) g.2.2))) (fun ok1192 => ?_)
    refine x_castl (y := J 14 (5 * f + t)) ((settle_sr h hf ht hft).1) ?_
    refine x_lload F dL_law_1195 0 rfl ?_
    refine x_lcmp F dL_law_1197 ?_
    refine x_if_eq F 1203 dL_law_1198 (by decide) (fun h1198 => ?_) (fun h1198 => ?_)
    · rw [lg_cmp_eq] at h1198
      refine x_goto F 1323 dL_law_1203 (by decide) ?_
      refine x_sub [3, 7, 8, 9, 10, 11, 12, 13, 14, 15, 16] rfl ?_
      refine x_widen (k := cells + 106) (n := slots + 636) (by (try dsimp only); omega) (by (try dsimp only); omega) ?_
      refine law_tail hfl F hRX.1 (T := T + 200) (J := (addDebtJ (wJ (wJ J 14 (5 * f + t) 0) 14 (5 * t + f) 0) (nI f) (nI t) (-debtF (wJ (wJ J 14 (5 * f + t) 0) 14 (5 * t + f) 0) (nI f) (nI t)))) ((settle_sr h hf ht hft).2.up (by omega)) hf (by omega) (by omega) (fun I2 hS2 => ?_)
      exact K R ad q ns nt I2 _ hRX (fun _ _ => rfl) (Nat.le_refl _) hS2
    · exact (h1198 (cmp_self rfl)).elim
  · rw [lg_cmp_gt] at h1135
    refine x_aload_n F dL_law_1138 rfl 14 rfl ?_
    refine x_iconst F (v := 2) dL_law_1139 (by decide) ?_
    refine x_iload F dL_law_1140 2 rfl ?_
    refine x_iload F dL_law_1142 1 rfl ?_
    refine x_callHi F [.ref (ad 0), .int 2, .int (nI f), .int (nI t)] (c_rf_2 l D cy lo R ad q ns nt I J hR (nI f) (nI t) _ _ _ _ _ _ (c_X4_settle l D cy lo R ad q ns nt I J hL hfl (nI f) (nI t)) (fun E u hx => by rcases hx with ⟨⟨e, -⟩ | ⟨e, -⟩, -⟩ <;> simp [e]) (fun v9 u hp => absurd hp.1.2 (by rw [rd_debt h hf ht]; exact h1135))) mh_refused ms_L_refused lk_L_65 rfl rfl dL_law_1144 ⟨Nat.le_of_ble_eq_true rfl, Nat.le_of_ble_eq_true rfl⟩ ⟨by (try dsimp only); show _ ≤ 600104; omega, by (try dsimp only); show _ ≤ 7301314; omega⟩ (Nat.le_of_ble_eq_true rfl) (fun r9 u9 hp9 => ?_)
    obtain ⟨rfl, rfl⟩ : r9 = 3 ∧ u9 = (R, ad, k_c cy ad q ns nt I J) := by
      rcases hp9 with ⟨hx, rfl⟩ | ⟨hx, rfl⟩ | ⟨hx, rfl⟩
      · rcases hx.1 with ⟨-, g⟩ | ⟨g, -⟩
        · exact absurd g (by rw [car_2 hf ht]; decide)
        · exact absurd g (by decide)
      · rcases hx.1 with ⟨g, -⟩ | ⟨g, -⟩ <;> exact absurd g (by decide)
      · exact ⟨rfl, hx.2⟩
    dsimp only
    refine x_iconst F (v := 3) dL_law_1147 (by decide) ?_
    refine x_icmp_eq F 1344 dL_law_1148 (by decide) (fun h1148 => ?_) (fun h1148 => ?_)
    · refine x_sub [6, 7, 8, 9, 10, 11, 12, 13, 14, 15] rfl ?_
      refine x_widen (k := cells + 400) (n := slots + 2400) (by (try dsimp only); omega) (by (try dsimp only); omega) ?_
      exact K R ad q ns nt _ _ hRX (fun _ _ => rfl) (Nat.le_refl _) ((h.up (by omega)))
    · exact False.elim (by revert h1148; decide)
end LC
