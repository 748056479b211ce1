section LOOP
variable {D : va_G} {cy : Nat → ClassId} {lo : Nat} {p : Program} {l : Launch} {e : Env} {s : State} {m : MethodId} {args : Array Value} {below : List Frame} {meth : Method} {c : Code} {cells slots : Nat} {Q : State → Prop} {R : List Nat} {ad : Nat → Nat} {b : Nat} {q : Nat → Nat → Nat} {ns nt T : Nat} {I : Nat → Nat → Int32} {J : Nat → Nat → Int64}
set_option maxHeartbeats 4000000 in
set_option maxRecDepth 100000 in
theorem law_loop (hfl : l.stackTraces = false) (F : k_F p m c cL_law 20 s RL D cy lo) {L : Nat} {xs : Nat → Int32} (hX : va_X b L xs s s.heap) (hb : b < lo) (hLn : L ≤ 260) (hlo : lo = s.heap.size) (hr : meth.sig.returnType = ret) (hlk : meth.locks = false) : ∀ (fu k : Nat), 60 - k < fu → k ≤ 60 → ∀ (R : List Nat) (ad : Nat → Nat) (q : Nat → Nat → Nat) (ns nt : Nat) (I : Nat → Nat → Int32) (J : Nat → Nat → Int64), k_RX R ns nt → SR q ns nt (299 + 200 * k) I J I J → (1 ≤ k → 1 ≤ ns) →
    XW D lo p l e room_1 s m #[Value.ref b] below meth c 20 (40 + 400 * k) (600 + 2400 * k) (lw_Z below #[Value.ref b] s) R ad (k_c cy ad q ns nt I J) 107 (k_LV ad b k) [] := by
  intro fu
  induction fu with
  | zero => intro k hf; exact absurd hf (Nat.not_lt_zero _)
  | succ fu ih =>
    intro k hf hk R ad q ns nt I J hRX h hns0
    refine x_iload F dL_law_107 0 rfl ?_
    refine x_bipush F (v := 60) dL_law_109 (by decide) ?_
    refine x_icmp_ge F 1350 dL_law_111 (by decide) (fun h111 => ?_) (fun h111 => ?_)
    · refine x_iconst F (v := 1) dL_law_1350 (by decide) ?_
      intro H locs ls hP hD hS hl
      refine va_forget (fun z hz => by have := hS.2.2 z hz; rw [hlo] at this; exact this) ?_
      refine W.widen (k := 600104) (n := 7301314) (by omega) (by omega) ?_
      exact lw_ret F.1 F.2.1 hr hlk dL_law_1351
    · replace h111 : ¬ 60 ≤ k := fun z => h111 ((nI_leI (a := 60) (b := k) (by omega) (by omega)).mpr z)
      refine law_turn hfl F hX hb hLn hRX h (by omega) (by omega) (by omega) hns0 (by omega) (by omega) (fun R' ad' q' ns' nt' I' J' hRX' had h1 h' => ?_)
      refine x_iinc F (k_LV ad' b (k + 1)) dL_law_1344 0 rfl (by decide) (by show ((9 : Nat), Value.int (nI k + 1)) :: _ = _; rw [nI_1]; rfl) ?_
      refine x_goto F 107 dL_law_1347 (by decide) ?_
      have e1 : 299 + 200 * k + 200 = 299 + 200 * (k + 1) := by omega
      rw [e1] at h'
      exact ih (k + 1) (by omega) (by omega) R' ad' q' ns' nt' I' J' hRX' h' (fun _ => h1)
end LOOP
section START
def IA (k : Nat) : Nat → Nat → Int32 := fun r c => if r = 12 ∧ c % 2 = 0 ∧ c < 2 * k then -1 else I0 r c
theorem IA_0 : IA 0 = I0 := by
  funext r c
  rw [IA, if_neg (by omega)]
theorem IA_s (k : Nat) : wI (IA k) 12 (2 * k) (-1) = IA (k + 1) := by
  funext r c
  rw [wI_eq, IA, IA]
  by_cases h : r = 12 ∧ c = 2 * k
  · rw [if_pos h, if_pos (by omega)]
  · rw [if_neg h]
    by_cases h2 : r = 12 ∧ c % 2 = 0 ∧ c < 2 * k
    · rw [if_pos h2, if_pos (by omega)]
    · rw [if_neg h2, if_neg (by omega)]
def IB (k : Nat) : Nat → Nat → Int32 := fun r c => if r = 15 ∧ c < 2 * k then (if c % 2 = 0 then 1 else 10) else IA 25 r c
theorem IB_0 : IB 0 = IA 25 := by
  funext r c
  rw [IB, if_neg (by omega)]
theorem IB_s (k : Nat) : wI (wI (IB k) 15 (2 * k) 1) 15 (2 * k + 1) 10 = IB (k + 1) := by
  funext r c
  rw [wI_eq, wI_eq, IB, IB]
  by_cases h : r = 15 ∧ c = 2 * k + 1
  · rw [if_pos h, if_pos (by omega), if_neg (by omega)]
  · rw [if_neg h]
    by_cases h2 : r = 15 ∧ c = 2 * k
    · rw [if_pos h2, if_pos (by omega), if_pos (by omega)]
    · rw [if_neg h2]
      by_cases h3 : r = 15 ∧ c < 2 * k
      · have h4 : r = 15 ∧ c < 2 * (k + 1) := ⟨h3.1, by omega⟩
        rw [if_pos h3, if_pos h4]
      · rw [if_neg h3, if_neg (by omega)]
theorem IB_o {r c : Nat} (h : r ≠ 12) (h2 : r ≠ 15) : IB 5 r c = I0 r c := by rw [IB, if_neg (by omega), IA, if_neg (by omega)]
theorem sr_0 (q : Nat → Nat → Nat) : SR q 0 0 299 (IB 5) J0 (IB 5) J0 := by
  have e1 : ∀ c, c < 5 → IB 5 1 c = 1 := fun c h => by rw [IB_o (by omega) (by omega)]; simp [I0, h]
  have e2 : ∀ c, c < 5 → IB 5 2 c = 10 := fun c h => by rw [IB_o (by omega) (by omega)]; simp [I0, h]
  have e8 : ∀ c, c < 25 → IB 5 8 c = -1 := fun c h => by rw [IB_o (by omega) (by omega)]; simp [I0, h]
  have e12 : ∀ c, c < 25 → IB 5 12 (2 * c) = -1 := fun c h => by rw [IB, if_neg (by omega), IA, if_pos (by omega)]
  have e15 : ∀ c, c < 5 → IB 5 15 (2 * c) = 1 := fun c h => by rw [IB, if_pos (by omega), if_pos (by omega)]
  have e16 : ∀ c, c < 5 → IB 5 15 (2 * c + 1) = 10 := fun c h => by rw [IB, if_pos (by omega), if_neg (by omega)]
  have ez : ∀ r c, r ≠ 12 → r ≠ 15 → r ≠ 1 → r ≠ 2 → r ≠ 8 → IB 5 r c = 0 := fun r c h1 h2 h3 h4 h5 => by rw [IB_o h1 h2, I0_o h3 h4 h5]
  have H : ∀ k n, chSum J0 0 (nI k) n = 0 := by
    intro k n
    induction n with
    | zero => rfl
    | succ n ih => rw [chSum, if_neg (Nat.not_lt_zero _), ih]
  refine ⟨by omega, by omega, ez 0 6 (by omega) (by omega) (by omega) (by omega) (by omega), ez 0 7 (by omega) (by omega) (by omega) (by omega) (by omega), ez 18 0 (by omega) (by omega) (by omega) (by omega) (by omega), ez 18 1 (by omega) (by omega) (by omega) (by omega) (by omega), fun c hc => ⟨by rw [e15 c hc, e1 c hc], by rw [e16 c hc, e2 c hc], ⟨1, by omega, by omega, by rw [e1 c hc]; rfl⟩, 10, by omega, by rw [e2 c hc]; rfl⟩, fun k hk => Or.inr ⟨e12 k hk, e8 k hk⟩, ⟨fun k _ => rfl, fun x y _ _ => by show (0 : Int64) = -0; decide, fun x _ => rfl⟩, fun k hk => by rw [H]; rfl, fun i hi => absurd hi (Nat.not_lt_zero _), fun j hj => absurd hj (Nat.not_lt_zero _), fun j h1 h2 => ⟨ez 17 _ (by omega) (by omega) (by omega) (by omega) (by omega), ez 17 _ (by omega) (by omega) (by omega) (by omega) (by omega), ez 17 _ (by omega) (by omega) (by omega) (by omega) (by omega)⟩⟩
theorem kc_adL {cy : Nat → ClassId} {ad ad' : Nat → Nat} {q : Nat → Nat → Nat} {I : Nat → Nat → Int32} {J : Nat → Nat → Int64} (hh : ∀ y, y < 12 → ad' y = ad y) {x : Nat} (hx : x < 19) : k_c cy ad q 0 0 I J x = k_c cy ad' q 0 0 I J x := by
  show k_sh cy ad q 0 0 x (I x) (J x) = k_sh cy ad' q 0 0 x (I x) (J x)
  by_cases h4 : x = 4
  · subst h4
    rw [ss_4, ss_4]
    simp
  · by_cases h5 : x = 5
    · subst h5
      rw [ss_5, ss_5]
      simp
    · by_cases h0 : x = 0
      · subst h0; rw [ss_0, ss_0, hh 1 (by omega), hh 2 (by omega), hh 3 (by omega), hh 4 (by omega), hh 5 (by omega), hh 6 (by omega)]
      · by_cases h3 : x = 3
        · subst h3; rw [ss_3, ss_3, hh 8 (by omega), hh 9 (by omega), hh 10 (by omega), hh 11 (by omega)]
        · by_cases h6 : x = 6
          · subst h6; rw [ss_6, ss_6, hh 7 (by omega)]
          · rcases (show x = 1 ∨ x = 2 ∨ x = 7 ∨ x = 8 ∨ x = 9 ∨ x = 10 ∨ x = 11 ∨ x = 12 ∨ x = 13 ∨ x = 14 ∨ x = 15 ∨ x = 16 ∨ x = 17 ∨ x = 18 by omega) with rfl | rfl | rfl | rfl | rfl | rfl | rfl | rfl | rfl | rfl | rfl | rfl | rfl | rfl <;> rfl
theorem rx_0 : k_RX (k_Rc ++ [12] ++ [13] ++ [14] ++ [15] ++ [16] ++ [17] ++ [18]) 0 0 := by
  have h1 : ∀ r, r < 19 → r ∈ k_Rc ++ [12] ++ [13] ++ [14] ++ [15] ++ [16] ++ [17] ++ [18] := by decide +kernel
  have h2 : ∀ x ∈ k_Rc ++ [12] ++ [13] ++ [14] ++ [15] ++ [16] ++ [17] ++ [18], x < 19 := by decide +kernel
  exact ⟨⟨h1, fun i hi => absurd hi (Nat.not_lt_zero _), fun j hj => absurd hj (Nat.not_lt_zero _), by omega, by omega⟩, fun x hx => Or.inl (h2 x hx)⟩
set_option maxHeartbeats 4000000 in
set_option maxRecDepth 100000 in
/-- THE LAW, from its entry -/
theorem whole_start {p : Program} {e : Env} {s : State} {m : MethodId} {below : List Frame} {meth : Method} {c : Code} (l : Launch) (hflags : l.flags = flags0) {b L : Nat} {xs : Nat → Int32} (hL : L ≤ 260) (C0 : lw_At p s m meth c b L xs) : W p l e room_1 s m #[Value.ref b] below meth c s.heap [] 0 0 (lw_Z below #[Value.ref b] s) (entryFrame m ([Value.ref b] : List Value).toArray 20) := by
  obtain ⟨hx, hbc, hr, hml, hown, hts, hX, hbl, hlocks, hgv⟩ := id C0
  have hfl : l.stackTraces = false := by
    unfold Launch.stackTraces
    rw [hflags]
    decide +kernel
  obtain ⟨D, cy, hE⟩ := env_0 hts hgv
  have F : k_F p m c cL_law 20 s RL D cy s.heap.size := ⟨hx, hbc, hml, hown, hE⟩
  have q : Nat → Nat → Nat := fun _ _ => 0
  have G : XW D s.heap.size p l e room_1 s m #[Value.ref b] below meth c 20 0 0 (lw_Z below #[Value.ref b] s) [] (fun _ => 0) (fun _ => Sum.inr (6, [])) 0 (lv_args 0 [.ref b]) [] := by
    refine x_sub (lv' := [(0, .ref b)]) [0] rfl ?_
    refine x_newO4 F 0 ck_L_26 List.not_mem_nil ⟨Nat.le_of_ble_eq_true rfl, Nat.le_of_ble_eq_true rfl⟩ dL_law_0 (fun ad1 had1 => ?_)
    refine x_dup F dL_law_3 rfl ?_
    refine x_callI F (r0 := 0) [] (c_X4_init l D cy s.heap.size ad1 _ q (up_at _ _ _)) mc_X4_init rfl mi_X4_init lk_L_98 rfl rfl dL_law_4 ⟨Nat.le_of_ble_eq_true rfl, Nat.le_of_ble_eq_true rfl⟩ ⟨Nat.le_of_ble_eq_true rfl, Nat.le_of_ble_eq_true rfl⟩ (Nat.le_of_ble_eq_true rfl) (fun u hu => ?_)
    obtain ⟨ad2, h20, rfl⟩ := hu
    dsimp only
    rw [← h20]
    refine x_astore_n F [(1, .ref (ad2 0)), (0, .ref b)] dL_law_7 rfl (by decide) rfl ?_
    refine x_bipush F (v := 50) dL_law_8 (by decide) ?_
    refine x_newI F 12 (N := 50) (show ¬ 12 ∈ k_Rc from by decide +kernel) (by decide) (by decide) (by decide) ⟨Nat.le_of_ble_eq_true rfl, Nat.le_of_ble_eq_true rfl⟩ dL_law_10 (fun ad3 had3 => ?_)
    refine x_wc (w' := k_c cy ad3 q 0 0 I0 J0) (fun x hx => ?_) ?_
    · by_cases e : x = 12
      · subst e; rw [up_at, sc_12, I0_o (by decide) (by decide) (by decide)]
      · rw [up_ne _ _ e]
        exact kc_adL (fun y hy => had3 y (by omega)) ((show ∀ x ∈ k_Rc ++ [12], x < 19 by decide +kernel) x hx)
    rw [← had3 0 (by decide)]
    refine x_astore_n F [(2, .ref (ad3 12)), (1, .ref (ad3 0)), (0, .ref b)] dL_law_12 rfl (by decide) rfl ?_
    refine x_bipush F (v := 25) dL_law_13 (by decide) ?_
    refine x_newJ F 13 (N := 25) (show ¬ 13 ∈ k_Rc ++ [12] from by decide +kernel) (by decide) (by decide) (by decide) ⟨Nat.le_of_ble_eq_true rfl, Nat.le_of_ble_eq_true rfl⟩ dL_law_15 (fun ad4 had4 => ?_)
    refine x_wc (w' := k_c cy ad4 q 0 0 I0 J0) (fun x hx => ?_) ?_
    · by_cases e : x = 13
      · subst e; rw [up_at, sc_13, J0_]
      · rw [up_ne _ _ e]
        exact kc_adL (fun y hy => had4 y (by omega)) ((show ∀ x ∈ k_Rc ++ [12] ++ [13], x < 19 by decide +kernel) x hx)
    rw [← had4 12 (by decide), ← had4 0 (by decide)]
    refine x_astore_n F [(3, .ref (ad4 13)), (2, .ref (ad4 12)), (1, .ref (ad4 0)), (0, .ref b)] dL_law_17 rfl (by decide) rfl ?_
    refine x_bipush F (v := 25) dL_law_18 (by decide) ?_
    refine x_newJ F 14 (N := 25) (show ¬ 14 ∈ k_Rc ++ [12] ++ [13] from by decide +kernel) (by decide) (by decide) (by decide) ⟨Nat.le_of_ble_eq_true rfl, Nat.le_of_ble_eq_true rfl⟩ dL_law_20 (fun ad5 had5 => ?_)
    refine x_wc (w' := k_c cy ad5 q 0 0 I0 J0) (fun x hx => ?_) ?_
    · by_cases e : x = 14
      · subst e; rw [up_at, sc_14, J0_]
      · rw [up_ne _ _ e]
        exact kc_adL (fun y hy => had5 y (by omega)) ((show ∀ x ∈ k_Rc ++ [12] ++ [13] ++ [14], x < 19 by decide +kernel) x hx)
    rw [← had5 13 (by decide), ← had5 12 (by decide), ← had5 0 (by decide)]
    refine x_astore F [(4, .ref (ad5 14)), (3, .ref (ad5 13)), (2, .ref (ad5 12)), (1, .ref (ad5 0)), (0, .ref b)] dL_law_22 (by decide) rfl ?_
    refine x_bipush F (v := 10) dL_law_24 (by decide) ?_
    refine x_newI F 15 (N := 10) (show ¬ 15 ∈ k_Rc ++ [12] ++ [13] ++ [14] from by decide +kernel) (by decide) (by decide) (by decide) ⟨Nat.le_of_ble_eq_true rfl, Nat.le_of_ble_eq_true rfl⟩ dL_law_26 (fun ad6 had6 => ?_)
    refine x_wc (w' := k_c cy ad6 q 0 0 I0 J0) (fun x hx => ?_) ?_
    · by_cases e : x = 15
      · subst e; rw [up_at, sc_15, I0_o (by decide) (by decide) (by decide)]
      · rw [up_ne _ _ e]
        exact kc_adL (fun y hy => had6 y (by omega)) ((show ∀ x ∈ k_Rc ++ [12] ++ [13] ++ [14] ++ [15], x < 19 by decide +kernel) x hx)
    rw [← had6 14 (by decide), ← had6 13 (by decide), ← had6 12 (by decide), ← had6 0 (by decide)]
    refine x_astore F [(5, .ref (ad6 15)), (4, .ref (ad6 14)), (3, .ref (ad6 13)), (2, .ref (ad6 12)), (1, .ref (ad6 0)), (0, .ref b)] dL_law_28 (by decide) rfl ?_
    refine x_bipush F (v := 32) dL_law_30 (by decide) ?_
    refine x_newI F 16 (N := 32) (show ¬ 16 ∈ k_Rc ++ [12] ++ [13] ++ [14] ++ [15] from by decide +kernel) (by decide) (by decide) (by decide) ⟨Nat.le_of_ble_eq_true rfl, Nat.le_of_ble_eq_true rfl⟩ dL_law_32 (fun ad7 had7 => ?_)
    refine x_wc (w' := k_c cy ad7 q 0 0 I0 J0) (fun x hx => ?_) ?_
    · by_cases e : x = 16
      · subst e; rw [up_at, sc_16, I0_o (by decide) (by decide) (by decide)]
      · rw [up_ne _ _ e]
        exact kc_adL (fun y hy => had7 y (by omega)) ((show ∀ x ∈ k_Rc ++ [12] ++ [13] ++ [14] ++ [15] ++ [16], x < 19 by decide +kernel) x hx)
    rw [← had7 15 (by decide), ← had7 14 (by decide), ← had7 13 (by decide), ← had7 12 (by decide), ← had7 0 (by decide)]
    refine x_astore F [(6, .ref (ad7 16)), (5, .ref (ad7 15)), (4, .ref (ad7 14)), (3, .ref (ad7 13)), (2, .ref (ad7 12)), (1, .ref (ad7 0)), (0, .ref b)] dL_law_34 (by decide) rfl ?_
    refine x_bipush F (v := 56) dL_law_36 (by decide) ?_
    refine x_newI F 17 (N := 56) (show ¬ 17 ∈ k_Rc ++ [12] ++ [13] ++ [14] ++ [15] ++ [16] from by decide +kernel) (by decide) (by decide) (by decide) ⟨Nat.le_of_ble_eq_true rfl, Nat.le_of_ble_eq_true rfl⟩ dL_law_38 (fun ad8 had8 => ?_)
    refine x_wc (w' := k_c cy ad8 q 0 0 I0 J0) (fun x hx => ?_) ?_
    · by_cases e : x = 17
      · subst e; rw [up_at, sc_17, I0_o (by decide) (by decide) (by decide)]
      · rw [up_ne _ _ e]
        exact kc_adL (fun y hy => had8 y (by omega)) ((show ∀ x ∈ k_Rc ++ [12] ++ [13] ++ [14] ++ [15] ++ [16] ++ [17], x < 19 by decide +kernel) x hx)
    rw [← had8 16 (by decide), ← had8 15 (by decide), ← had8 14 (by decide), ← had8 13 (by decide), ← had8 12 (by decide), ← had8 0 (by decide)]
    refine x_astore F [(7, .ref (ad8 17)), (6, .ref (ad8 16)), (5, .ref (ad8 15)), (4, .ref (ad8 14)), (3, .ref (ad8 13)), (2, .ref (ad8 12)), (1, .ref (ad8 0)), (0, .ref b)] dL_law_40 (by decide) rfl ?_
    refine x_iconst F (v := 2) dL_law_42 (by decide) ?_
    refine x_newI F 18 (N := 2) (show ¬ 18 ∈ k_Rc ++ [12] ++ [13] ++ [14] ++ [15] ++ [16] ++ [17] from by decide +kernel) (by decide) (by decide) (by decide) ⟨Nat.le_of_ble_eq_true rfl, Nat.le_of_ble_eq_true rfl⟩ dL_law_43 (fun ad9 had9 => ?_)
    refine x_wc (w' := k_c cy ad9 q 0 0 I0 J0) (fun x hx => ?_) ?_
    · by_cases e : x = 18
      · subst e; rw [up_at, sc_18, I0_o (by decide) (by decide) (by decide)]
      · rw [up_ne _ _ e]
        exact kc_adL (fun y hy => had9 y (by omega)) ((show ∀ x ∈ k_Rc ++ [12] ++ [13] ++ [14] ++ [15] ++ [16] ++ [17] ++ [18], x < 19 by decide +kernel) x hx)
    rw [← had9 17 (by decide), ← had9 16 (by decide), ← had9 15 (by decide), ← had9 14 (by decide), ← had9 13 (by decide), ← had9 12 (by decide), ← had9 0 (by decide)]
    refine x_astore F [(8, .ref (ad9 18)), (7, .ref (ad9 17)), (6, .ref (ad9 16)), (5, .ref (ad9 15)), (4, .ref (ad9 14)), (3, .ref (ad9 13)), (2, .ref (ad9 12)), (1, .ref (ad9 0)), (0, .ref b)] dL_law_45 (by decide) rfl ?_
    have hRX := rx_0
    have hR := hRX.1.1
    generalize k_Rc ++ [12] ++ [13] ++ [14] ++ [15] ++ [16] ++ [17] ++ [18] = R at hRX hR ⊢
    generalize ad9 = ad at ⊢
    refine x_iconst F (v := 0) dL_law_47 (by decide) ?_
    refine x_istore F [(9, .int 0), (8, .ref (ad 18)), (7, .ref (ad 17)), (6, .ref (ad 16)), (5, .ref (ad 15)), (4, .ref (ad 14)), (3, .ref (ad 13)), (2, .ref (ad 12)), (1, .ref (ad 0)), (0, .ref b)] dL_law_48 (by decide) rfl ?_
    have lp50 : ∀ (fu50 k : Nat), 25 - k < fu50 → k ≤ 25 → XW D s.heap.size p l e room_1 s m #[Value.ref b] below meth c 20 40 600 (lw_Z below #[Value.ref b] s) R ad (k_c cy ad q 0 0 (IA k) J0) 50 [(9, .int (nI k)), (8, .ref (ad 18)), (7, .ref (ad 17)), (6, .ref (ad 16)), (5, .ref (ad 15)), (4, .ref (ad 14)), (3, .ref (ad 13)), (2, .ref (ad 12)), (1, .ref (ad 0)), (0, .ref b)] [] := by
      intro fu50
      induction fu50 with
      | zero => intro k hf; exact absurd hf (Nat.not_lt_zero _)
      | succ fu50 ih50 =>
        intro k hf hk
        refine x_iload F dL_law_50 0 rfl ?_
        refine x_bipush F (v := 25) dL_law_52 (by decide) ?_
        refine x_icmp_ge F 70 dL_law_54 (by decide) (fun h54 => ?_) (fun h54 => ?_)
        · replace h54 : 25 ≤ k := (nI_leI (a := 25) (b := k) (by omega) (by omega)).mp h54
          refine x_iconst F (v := 0) dL_law_70 (by decide) ?_
          refine x_istore F [(9, .int 0), (8, .ref (ad 18)), (7, .ref (ad 17)), (6, .ref (ad 16)), (5, .ref (ad 15)), (4, .ref (ad 14)), (3, .ref (ad 13)), (2, .ref (ad 12)), (1, .ref (ad 0)), (0, .ref b)] dL_law_71 (by decide) rfl ?_
          have lp73 : ∀ (fu73 k : Nat), 5 - k < fu73 → k ≤ 5 → XW D s.heap.size p l e room_1 s m #[Value.ref b] below meth c 20 40 600 (lw_Z below #[Value.ref b] s) R ad (k_c cy ad q 0 0 (IB k) J0) 73 [(9, .int (nI k)), (8, .ref (ad 18)), (7, .ref (ad 17)), (6, .ref (ad 16)), (5, .ref (ad 15)), (4, .ref (ad 14)), (3, .ref (ad 13)), (2, .ref (ad 12)), (1, .ref (ad 0)), (0, .ref b)] [] := by
            intro fu73
            induction fu73 with
            | zero => intro k hf; exact absurd hf (Nat.not_lt_zero _)
            | succ fu73 ih73 =>
              intro k hf hk
              refine x_iload F dL_law_73 0 rfl ?_
              refine x_iconst F (v := 5) dL_law_75 (by decide) ?_
              refine x_icmp_ge F 104 dL_law_76 (by decide) (fun h76 => ?_) (fun h76 => ?_)
              · replace h76 : 5 ≤ k := (nI_leI (a := 5) (b := k) (by omega) (by omega)).mp h76
                refine x_iconst F (v := 0) dL_law_104 (by decide) ?_
                refine x_istore F [(9, .int 0), (8, .ref (ad 18)), (7, .ref (ad 17)), (6, .ref (ad 16)), (5, .ref (ad 15)), (4, .ref (ad 14)), (3, .ref (ad 13)), (2, .ref (ad 12)), (1, .ref (ad 0)), (0, .ref b)] dL_law_105 (by decide) rfl ?_
                rw [show k = 5 by omega]
                exact law_loop (L := L) hfl F hX hbl hL rfl hr hlocks 61 0 (by omega) (by omega) R ad q 0 0 (IB 5) J0 hRX (sr_0 q) (fun h9 => by omega)
              · replace h76 : ¬ 5 ≤ k := fun z => h76 ((nI_leI (a := 5) (b := k) (by omega) (by omega)).mpr z)
                refine x_aload F dL_law_79 4 rfl ?_
                refine x_iconst F (v := 2) dL_law_81 (by decide) ?_
                refine x_iload F dL_law_82 0 rfl ?_
                refine x_imul F dL_law_84 ?_
                refine x_cast (y := nI (2 * k)) (pk_mul 2 k) ?_
                refine x_iconst F (v := 1) dL_law_85 (by decide) ?_
                refine y_iast F (hR 15 (by decide)) ss_15 (vp_in_nI (n := 2 * k) (N := 10) (by omega) (by decide)) dL_law_86 ?_
                refine x_world (congrArg (fun z => k_c cy ad q 0 0 z J0) (show wI (IB k) 15 ((nI (2 * k)).toNatClampNeg) 1 = wI (IB k) 15 (2 * k) 1 by rw [nI_clamp (n := 2 * k) (by omega)])) ?_
                refine x_aload F dL_law_87 4 rfl ?_
                refine x_iconst F (v := 2) dL_law_89 (by decide) ?_
                refine x_iload F dL_law_90 0 rfl ?_
                refine x_imul F dL_law_92 ?_
                refine x_cast (y := nI (2 * k)) (pk_mul 2 k) ?_
                refine x_iconst F (v := 1) dL_law_93 (by decide) ?_
                refine x_iadd F dL_law_94 ?_
                refine x_cast (y := nI (2 * k + 1)) (nI_add (2 * k) 1) ?_
                refine x_bipush F (v := 10) dL_law_95 (by decide) ?_
                refine y_iast F (hR 15 (by decide)) ss_15 (vp_in_nI (n := 2 * k + 1) (N := 10) (by omega) (by decide)) dL_law_97 ?_
                refine x_world (congrArg (fun z => k_c cy ad q 0 0 z J0) (show wI (wI (IB k) 15 (2 * k) 1) 15 ((nI (2 * k + 1)).toNatClampNeg) 10 = wI (wI (IB k) 15 (2 * k) 1) 15 (2 * k + 1) 10 by rw [nI_clamp (n := 2 * k + 1) (by omega)])) ?_
                refine x_iinc F [(9, .int ((nI k) + 1)), (8, .ref (ad 18)), (7, .ref (ad 17)), (6, .ref (ad 16)), (5, .ref (ad 15)), (4, .ref (ad 14)), (3, .ref (ad 13)), (2, .ref (ad 12)), (1, .ref (ad 0)), (0, .ref b)] dL_law_98 0 rfl (by decide) rfl ?_
                refine x_goto F 73 dL_law_101 (by decide) ?_
                refine x_world (congrArg (fun z => k_c cy ad q 0 0 z J0) (show wI (wI (IB k) 15 (2 * k) 1) 15 (2 * k + 1) 10 = IB (k + 1) from IB_s k)) ?_
                rw [nI_1]
                exact ih73 (k + 1) (by omega) (by omega)
          refine x_world (congrArg (fun z => k_c cy ad q 0 0 z J0) ((show IA k = IB 0 by rw [IB_0, show k = 25 by omega]))) ?_
          refine x_sub [0, 1, 2, 3, 4, 5, 6, 7, 8, 9] rfl ?_
          exact lp73 6 0 (by omega) (by omega)
        · replace h54 : ¬ 25 ≤ k := fun z => h54 ((nI_leI (a := 25) (b := k) (by omega) (by omega)).mpr z)
          refine x_aload_n F dL_law_57 rfl 7 rfl ?_
          refine x_iconst F (v := 2) dL_law_58 (by decide) ?_
          refine x_iload F dL_law_59 0 rfl ?_
          refine x_imul F dL_law_61 ?_
          refine x_cast (y := nI (2 * k)) (pk_mul 2 k) ?_
          refine x_iconst F (v := -1) dL_law_62 (by decide) ?_
          refine y_iast F (hR 12 (by decide)) ss_12 (vp_in_nI (n := 2 * k) (N := 50) (by omega) (by decide)) dL_law_63 ?_
          refine x_world (congrArg (fun z => k_c cy ad q 0 0 z J0) (show wI (IA k) 12 ((nI (2 * k)).toNatClampNeg) (-1) = wI (IA k) 12 (2 * k) (-1) by rw [nI_clamp (n := 2 * k) (by omega)])) ?_
          refine x_iinc F [(9, .int ((nI k) + 1)), (8, .ref (ad 18)), (7, .ref (ad 17)), (6, .ref (ad 16)), (5, .ref (ad 15)), (4, .ref (ad 14)), (3, .ref (ad 13)), (2, .ref (ad 12)), (1, .ref (ad 0)), (0, .ref b)] dL_law_64 0 rfl (by decide) rfl ?_
          refine x_goto F 50 dL_law_67 (by decide) ?_
          refine x_world (congrArg (fun z => k_c cy ad q 0 0 z J0) (show wI (IA k) 12 (2 * k) (-1) = IA (k + 1) from IA_s k)) ?_
          rw [nI_1]
          exact ih50 (k + 1) (by omega) (by omega)
    refine x_world (congrArg (fun z => k_c cy ad q 0 0 z J0) (IA_0.symm)) ?_
    refine x_sub [0, 1, 2, 3, 4, 5, 6, 7, 8, 9] rfl ?_
    refine x_widen (k := 40) (n := 600) (by (try dsimp only); omega) (by (try dsimp only); omega) ?_
    exact lp50 26 0 (by omega) (by omega)
  have hl := lv_entry ([.ref b]) (n := 20) (Nat.le_of_ble_eq_true rfl)
  rw [lg_entry_eq]
  exact G s.heap [] _ (fun k q h => by simp [wl] at h) ⟨fun i j p q h => by simp [wl] at h, fun k q h => by simp [wl] at h⟩ va_S.rf hl
end START
