section LOOP
variable {D : va_G} {cy : Nat → ClassId} {lo : Nat} {p : Program} {l : Launch} {e : Env} {s : State} {m : MethodId} {below : List Frame} {meth : Method} {c : Code} {b : Nat}
theorem sub5_lt {L k : Nat} (hL : L ≤ 2560) (hk : k ≤ 2560) : nI L - 5 < nI k ↔ L < k + 5 := by
  rw [Int32.lt_iff_toInt_lt, show (5 : Int32) = nI 5 from rfl, pk_sub_toInt (by omega) (by omega), nI_toInt (by omega)]
  omega
set_option maxHeartbeats 4000000 in
set_option maxRecDepth 100000 in
/-- a round of the law's loop, from its switch -/
theorem law_round {Q : State → Prop} {args : Array Value} (hfl : l.stackTraces = false) (F : k_F p m c cL_law 8 s RL D cy lo) {L : Nat} {xs : Nat → Int32} (hX : va_X b L xs s s.heap) (hb : b < s.heap.size) (hlo : lo = s.heap.size) (hL : L ≤ 2560) {R : List Nat} {ad : Nat → Nat} {q : Nat → Nat → Nat} {ns nt : Nat} {I : Nat → Nat → Int32} {J : Nat → Nat → Int64} (hRX : k_RX R ns nt) (h : SR q ns nt I J I J) {i : Nat} (hi : i + 5 ≤ L) {cells slots : Nat} (hc : cells + 6 ≤ 601024) (hs : slots + 53 ≤ 7293033)
    (K : ∀ (R' : List Nat) (ad' : Nat → Nat) (q' : Nat → Nat → Nat) (ns' nt' : Nat) (I' : Nat → Nat → Int32) (J' : Nat → Nat → Int64), k_RX R' ns' nt' → (∀ y, y < 40 → ad' y = ad y) → SR q' ns' nt' I' J' I' J' → XW D lo p l e room_1 s m args below meth c 8 (cells + 6) (slots + 53) Q R' ad' (k_c cy ad' q' ns' nt' I' J') 1694 (k_LV ad b i) []) :
    XW D lo p l e room_1 s m args below meth c 8 cells slots Q R ad (k_c cy ad q ns nt I J) 32 (k_LV ad b i) [] := by
  refine x_aload_n F dL_law_32 rfl 4 rfl ?_
  refine x_iload F dL_law_33 0 rfl ?_
  refine x_sld F hX hb hlo rfl (by omega) hL dL_law_35 ?_
  refine x_bipush F (v := 31) dL_law_36 (by decide) ?_
  refine x_iand F dL_law_38 ?_
  generalize xs i &&& 31 = v
  by_cases hv : v.toInt < 0 ∨ 22 < v.toInt
  · refine x_tabOut F 1694 dL_law_39 hv (by decide) ?_
    exact x_widen (k := cells + 6) (n := slots + 53) (by omega) (by omega) (K R ad q ns nt I J hRX (fun _ _ => rfl) h)
  · have hv2 : v.toInt = 0 ∨ v.toInt = 1 ∨ v.toInt = 2 ∨ v.toInt = 3 ∨ v.toInt = 4 ∨ v.toInt = 5 ∨ v.toInt = 6 ∨ v.toInt = 7 ∨ v.toInt = 8 ∨ v.toInt = 9 ∨ v.toInt = 10 ∨ v.toInt = 11 ∨ v.toInt = 12 ∨ v.toInt = 13 ∨ v.toInt = 14 ∨ v.toInt = 15 ∨ v.toInt = 16 ∨ v.toInt = 17 ∨ v.toInt = 18 ∨ v.toInt = 19 ∨ v.toInt = 20 ∨ v.toInt = 21 ∨ v.toInt = 22 := by omega
    rcases hv2 with hj | hj | hj | hj | hj | hj | hj | hj | hj | hj | hj | hj | hj | hj | hj | hj | hj | hj | hj | hj | hj | hj | hj
    · exact x_tabIn F 144 dL_law_39 (by omega) (by omega) (off := 105) (by rw [hj]; rfl) (by decide) (law_0 hfl F hX hb hlo hRX h hi hL hc hs K)
    · exact x_tabIn F 224 dL_law_39 (by omega) (by omega) (off := 185) (by rw [hj]; rfl) (by decide) (law_1 hfl F hX hb hlo hRX h hi hL hc hs K)
    · exact x_tabIn F 323 dL_law_39 (by omega) (by omega) (off := 284) (by rw [hj]; rfl) (by decide) (law_2 hfl F hX hb hlo hRX h hi hL hc hs K)
    · exact x_tabIn F 391 dL_law_39 (by omega) (by omega) (off := 352) (by rw [hj]; rfl) (by decide) (law_3 hfl F hX hb hlo hRX h hi hL hc hs K)
    · exact x_tabIn F 471 dL_law_39 (by omega) (by omega) (off := 432) (by rw [hj]; rfl) (by decide) (law_4 hfl F hX hb hlo hRX h hi hL hc hs K)
    · exact x_tabIn F 539 dL_law_39 (by omega) (by omega) (off := 500) (by rw [hj]; rfl) (by decide) (law_5 hfl F hX hb hlo hRX h hi hL hc hs K)
    · exact x_tabIn F 607 dL_law_39 (by omega) (by omega) (off := 568) (by rw [hj]; rfl) (by decide) (law_6 hfl F hX hb hlo hRX h hi hL hc hs K)
    · exact x_tabIn F 687 dL_law_39 (by omega) (by omega) (off := 648) (by rw [hj]; rfl) (by decide) (law_7 hfl F hX hb hlo hRX h hi hL hc hs K)
    · exact x_tabIn F 743 dL_law_39 (by omega) (by omega) (off := 704) (by rw [hj]; rfl) (by decide) (law_8 hfl F hX hb hlo hRX h hi hL hc hs K)
    · exact x_tabIn F 799 dL_law_39 (by omega) (by omega) (off := 760) (by rw [hj]; rfl) (by decide) (law_9 hfl F hX hb hlo hRX h hi hL hc hs K)
    · exact x_tabIn F 867 dL_law_39 (by omega) (by omega) (off := 828) (by rw [hj]; rfl) (by decide) (law_10 hfl F hX hb hlo hRX h hi hL hc hs K)
    · exact x_tabIn F 923 dL_law_39 (by omega) (by omega) (off := 884) (by rw [hj]; rfl) (by decide) (law_11 hfl F hX hb hlo hRX h hi hL hc hs K)
    · exact x_tabIn F 979 dL_law_39 (by omega) (by omega) (off := 940) (by rw [hj]; rfl) (by decide) (law_12 hfl F hX hb hlo hRX h hi hL hc hs K)
    · exact x_tabIn F 1035 dL_law_39 (by omega) (by omega) (off := 996) (by rw [hj]; rfl) (by decide) (law_13 hfl F hX hb hlo hRX h hi hL hc hs K)
    · exact x_tabIn F 1091 dL_law_39 (by omega) (by omega) (off := 1052) (by rw [hj]; rfl) (by decide) (law_14 hfl F hX hb hlo hRX h hi hL hc hs K)
    · exact x_tabIn F 1147 dL_law_39 (by omega) (by omega) (off := 1108) (by rw [hj]; rfl) (by decide) (law_15 hfl F hX hb hlo hRX h hi hL hc hs K)
    · exact x_tabIn F 1215 dL_law_39 (by omega) (by omega) (off := 1176) (by rw [hj]; rfl) (by decide) (law_16 hfl F hX hb hlo hRX h hi hL hc hs K)
    · exact x_tabIn F 1283 dL_law_39 (by omega) (by omega) (off := 1244) (by rw [hj]; rfl) (by decide) (law_17 hfl F hX hb hlo hRX h hi hL hc hs K)
    · exact x_tabIn F 1363 dL_law_39 (by omega) (by omega) (off := 1324) (by rw [hj]; rfl) (by decide) (law_18 hfl F hX hb hlo hRX h hi hL hc hs K)
    · exact x_tabIn F 1438 dL_law_39 (by omega) (by omega) (off := 1399) (by rw [hj]; rfl) (by decide) (law_19 hfl F hX hb hlo hRX h hi hL hc hs K)
    · exact x_tabIn F 1505 dL_law_39 (by omega) (by omega) (off := 1466) (by rw [hj]; rfl) (by decide) (law_20 hfl F hX hb hlo hRX h hi hL hc hs K)
    · exact x_tabIn F 1572 dL_law_39 (by omega) (by omega) (off := 1533) (by rw [hj]; rfl) (by decide) (law_21 hfl F hX hb hlo hRX h hi hL hc hs K)
    · exact x_tabIn F 1627 dL_law_39 (by omega) (by omega) (off := 1588) (by rw [hj]; rfl) (by decide) (law_22 hfl F hX hb hlo hRX h hi hL hc hs K)
set_option maxHeartbeats 4000000 in
set_option maxRecDepth 100000 in
theorem law_loop (hfl : l.stackTraces = false) (F : k_F p m c cL_law 8 s RL D cy lo) {L : Nat} {xs : Nat → Int32} (hX : va_X b L xs s s.heap) (hb : b < s.heap.size) (hlo : lo = s.heap.size) (hL : L ≤ 2560) (hr : meth.sig.returnType = ret) (hlk : meth.locks = false) : ∀ (fu k : Nat), L - 5 * k < fu → 5 * k ≤ L → ∀ (R : List Nat) (ad : Nat → Nat) (q : Nat → Nat → Nat) (ns nt : Nat) (I : Nat → Nat → Int32) (J : Nat → Nat → Int64), k_RX R ns nt → SR q ns nt I J I J →
    XW D lo p l e room_1 s m #[Value.ref b] below meth c 8 (36 + 6 * k) (1402 + 53 * k) (lw_Z below #[Value.ref b] s) R ad (k_c cy ad q ns nt I J) 23 (k_LV ad b (5 * k)) [] := by
  intro fu
  induction fu with
  | zero => intro k hf; exact absurd hf (Nat.not_lt_zero _)
  | succ fu ih =>
    intro k hf hk R ad q ns nt I J hRX h
    refine x_iload F dL_law_23 0 rfl ?_
    refine x_aload_n F dL_law_25 rfl 4 rfl ?_
    refine x_slen F hX hb hlo dL_law_26 ?_
    refine x_iconst F (v := 5) dL_law_27 (by decide) ?_
    refine x_isub F dL_law_28 ?_
    refine x_icmp_gt F 1700 dL_law_29 (by decide) (fun h29 => ?_) (fun h29 => ?_)
    · refine x_iconst F (v := 1) dL_law_1700 (by decide) ?_
      intro H locs ls hP hD hS hl
      refine va_forget (fun z hz => by have := hS.2.2 z hz; rw [hlo] at this; exact this) ?_
      refine W.widen (k := 601024) (n := 7293033) (by omega) (by omega) ?_
      exact lw_ret F.1 F.2.1 hr hlk dL_law_1701
    · rw [sub5_lt hL (by omega)] at h29
      refine law_round hfl F hX hb hlo hL hRX h (by omega) (by omega) (by omega) (fun R' ad' q' ns' nt' I' J' hRX' had h' => ?_)
      refine x_iinc F (k_LV ad b (5 * (k + 1))) dL_law_1694 0 rfl (by decide) (by show ((4 : Nat), Value.int (nI (5 * k) + 5)) :: _ = _; rw [show nI (5 * k) + 5 = nI (5 * (k + 1)) from nI_add (5 * k) 5]; rfl) ?_
      refine x_goto F 23 dL_law_1697 (by decide) ?_
      have e9 : k_LV ad b (5 * (k + 1)) = k_LV ad' b (5 * (k + 1)) := by
        unfold k_LV
        rw [had 12 (by omega), had 13 (by omega), had 0 (by omega)]
      rw [e9]
      exact ih (k + 1) (by omega) (by omega) R' ad' q' ns' nt' I' J' hRX' h'
end LOOP
section START
theorem sr_0 (q : Nat → Nat → Nat) : SR q 0 0 (I1 I0) J0 (I1 I0) J0 := by
  have e1 : ∀ c, c < 5 → I1 I0 1 c = 1 := fun c h => by unfold I1 I0; simp [h]
  have e2 : ∀ c, c < 5 → I1 I0 2 c = 10 := fun c h => by unfold I1 I0; simp [h]
  have e14 : ∀ c, c < 5 → I1 I0 14 c = 1 := fun c h => by unfold I1; simp [h]
  have e15 : ∀ c, c < 5 → I1 I0 15 c = 10 := fun c h => by unfold I1; simp [h]
  have e8 : ∀ c, c < 25 → I1 I0 8 c = -1 := fun c h => by unfold I1 I0; simp [h]
  have e16 : ∀ c, I1 I0 16 c = 0 := fun c => by unfold I1 I0; simp
  refine ⟨by omega, by omega, by unfold I1 I0; simp; rfl, by unfold I1 I0; simp; rfl, by unfold I1 I0; simp; rfl, by unfold I1 I0; simp; rfl, fun c hc => ⟨by rw [e1 c hc, e14 c hc], by rw [e2 c hc, e15 c hc], 1, by omega, by omega, by rw [e1 c hc]; rfl⟩, fun k hk => Or.inr ⟨e16 k, e8 k hk⟩, fun k => Or.inl (e16 k), fun x y hx hy => by unfold J0; decide, fun k hk => ?_, fun i hi => absurd hi (Nat.not_lt_zero _), fun j hj => absurd hj (Nat.not_lt_zero _), fun j h1 h2 => ⟨by unfold I1 I0; simp, by unfold I1 I0; simp⟩⟩
  have H : ∀ n, chSum J0 0 (nI k) n = 0 := by
    intro n
    induction n with
    | zero => rfl
    | succ n ih => rw [chSum, if_neg (Nat.not_lt_zero _), ih]
  rw [H]
  rfl
theorem kc_ad0 {cy : Nat → ClassId} {ad ad' : Nat → Nat} {q : Nat → Nat → Nat} {I : Nat → Nat → Int32} {J : Nat → Nat → Int64} (h : ∀ y, y ≠ 12 → y ≠ 13 → ad' y = ad y) {x : Nat} (hx : x < 36) : k_c cy ad q 0 0 I J x = k_c cy ad' q 0 0 I J x := by
  have hh : ∀ y, y ≠ 12 → y ≠ 13 → ad y = ad' y := fun y h1 h2 => (h y h1 h2).symm
  show k_sh cy ad q 0 0 x (I x) (J x) = k_sh cy ad' q 0 0 x (I x) (J x)
  by_cases h4 : x = 4
  · subst h4
    rw [ss_4, ss_4]
    simp
  · by_cases h5 : x = 5
    · subst h5
      rw [ss_5, ss_5]
      simp
    · by_cases h0 : x = 0
      · subst h0; rw [ss_0, ss_0, hh 1 (by omega) (by omega), hh 2 (by omega) (by omega), hh 3 (by omega) (by omega), hh 4 (by omega) (by omega), hh 5 (by omega) (by omega), hh 6 (by omega) (by omega)]
      · by_cases h3 : x = 3
        · subst h3; rw [ss_3, ss_3, hh 8 (by omega) (by omega), hh 9 (by omega) (by omega), hh 10 (by omega) (by omega), hh 11 (by omega) (by omega)]
        · by_cases h6 : x = 6
          · subst h6; rw [ss_6, ss_6, hh 7 (by omega) (by omega)]
          · by_cases h13 : x = 13
            · subst h13; rw [ss_13, ss_13]; simp only [hh 14 (by omega) (by omega), hh 15 (by omega) (by omega), hh 16 (by omega) (by omega), hh 17 (by omega) (by omega), hh 18 (by omega) (by omega), hh 19 (by omega) (by omega), hh 20 (by omega) (by omega), hh 21 (by omega) (by omega), hh 22 (by omega) (by omega), hh 23 (by omega) (by omega), hh 24 (by omega) (by omega), hh 25 (by omega) (by omega), hh 26 (by omega) (by omega), hh 27 (by omega) (by omega), hh 28 (by omega) (by omega), hh 29 (by omega) (by omega), hh 30 (by omega) (by omega), hh 31 (by omega) (by omega), hh 32 (by omega) (by omega), hh 33 (by omega) (by omega), hh 34 (by omega) (by omega), hh 35 (by omega) (by omega)]
            · rcases (show x = 1 ∨ x = 2 ∨ x = 7 ∨ x = 8 ∨ x = 9 ∨ x = 10 ∨ x = 11 ∨ x = 12 ∨ x = 14 ∨ x = 15 ∨ x = 16 ∨ x = 17 ∨ x = 18 ∨ x = 19 ∨ x = 20 ∨ x = 21 ∨ x = 22 ∨ x = 23 ∨ x = 24 ∨ x = 25 ∨ x = 26 ∨ x = 27 ∨ x = 28 ∨ x = 29 ∨ x = 30 ∨ x = 31 ∨ x = 32 ∨ x = 33 ∨ x = 34 ∨ x = 35 by omega) with rfl | rfl | rfl | rfl | rfl | rfl | rfl | rfl | rfl | rfl | rfl | rfl | rfl | rfl | rfl | rfl | rfl | rfl | rfl | rfl | rfl | rfl | rfl | rfl | rfl | rfl | rfl | rfl | rfl | rfl <;> rfl
theorem rx_0 : k_RX (k_Rm ++ [12]) 0 0 := by
  have h1 : ∀ r, r < 36 → r ∈ k_Rm ++ [12] := by decide +kernel
  have h2 : ∀ x ∈ k_Rm ++ [12], x < 36 := by decide +kernel
  exact ⟨⟨h1, fun i hi => absurd hi (Nat.not_lt_zero _), fun j hj => absurd hj (Nat.not_lt_zero _), by omega, by omega⟩, fun x hx => Or.inl (h2 x hx)⟩
set_option maxHeartbeats 4000000 in
set_option maxRecDepth 100000 in
/-- THE LAW, from its entry -/
theorem whole_start {p : Program} {e : Env} {s : State} {m : MethodId} {below : List Frame} {meth : Method} {c : Code} (l : Launch) (hflags : l.flags = flags0) {b L : Nat} {xs : Nat → Int32} (hL : L ≤ 2560) (C0 : lw_At p s m meth c b L xs) : W p l e room_1 s m #[Value.ref b] below meth c s.heap [] 0 0 (lw_Z below #[Value.ref b] s) (entryFrame m ([Value.ref b] : List Value).toArray 8) := by
  obtain ⟨hx, hbc, hr, hml, hown, hts, hX, hbl, hlocks, hgv⟩ := id C0
  have hfl : l.stackTraces = false := by
    unfold Launch.stackTraces
    rw [hflags]
    decide +kernel
  obtain ⟨D, cy, hE⟩ := env_0 hts hgv
  have F : k_F p m c cL_law 8 s RL D cy s.heap.size := ⟨hx, hbc, hml, hown, hE⟩
  have q : Nat → Nat → Nat := fun _ _ => 0
  have G : XW D s.heap.size p l e room_1 s m #[Value.ref b] below meth c 8 0 0 (lw_Z below #[Value.ref b] s) [] (fun _ => 0) (fun _ => Sum.inr (6, [])) 0 (lv_args 0 [.ref b]) [] := by
    refine x_sub (lv' := [(0, .ref b)]) [0] rfl ?_
    refine x_newO4 F 0 ck_L_8 List.not_mem_nil ⟨Nat.le_of_ble_eq_true rfl, Nat.le_of_ble_eq_true rfl⟩ dL_law_0 (fun ad1 had1 => ?_)
    refine x_dup F dL_law_3 rfl ?_
    refine x_callI F (r0 := 0) [] (c_X4_init l D cy s.heap.size ad1 _ q (up_at _ _ _)) mc_X4_init rfl mi_X4_init lk_L_91 rfl rfl dL_law_4 ⟨Nat.le_of_ble_eq_true rfl, Nat.le_of_ble_eq_true rfl⟩ ⟨Nat.le_of_ble_eq_true rfl, Nat.le_of_ble_eq_true rfl⟩ (Nat.le_of_ble_eq_true rfl) (fun u hu => ?_)
    obtain ⟨ad2, h20, rfl⟩ := hu
    refine x_astore_n F [(1, .ref (ad1 0)), (0, .ref b)] dL_law_7 rfl (by decide) rfl ?_
    refine x_newO5 F 13 ck_L_92 (show ¬ 13 ∈ k_Rc from by decide +kernel) ⟨Nat.le_of_ble_eq_true rfl, Nat.le_of_ble_eq_true rfl⟩ dL_law_8 (fun ad3 had3 => ?_)
    refine x_dup F dL_law_11 rfl ?_
    refine x_wc (w' := va_up (k_c cy ad3 q 0 0 I0 J0) 13 (Sum.inr (5, [.int 0, .null, .null, .null, .null, .null, .null, .null, .int 0, .null, .null, .null, .null, .int 0, .null, .null, .null, .null, .null, .null, .null, .null, .null, .int 0, .int 0, .null, .null]))) (fun x hx => ?_) ?_
    · by_cases e : x = 13
      · subst e; rw [up_at, up_at]
      · rw [up_ne _ _ e, up_ne _ _ e]
        exact kc_ad0 (fun y _ h2 => had3 y h2) ((show ∀ x ∈ k_Rc ++ [13], x < 36 by decide +kernel) x hx)
    refine x_callI F (r0 := 13) [] (c_X5_init l D cy s.heap.size ad3 (k_c cy ad3 q 0 0 I0 J0) q I0 J0 (fun r k hr => by unfold I0; rw [if_neg (by omega), if_neg (by omega), if_neg (by omega)]) (fun _ _ _ => rfl)) mc_X5_init rfl mi_X5_init lk_L_94 rfl rfl dL_law_12 ⟨Nat.le_of_ble_eq_true rfl, Nat.le_of_ble_eq_true rfl⟩ ⟨Nat.le_of_ble_eq_true rfl, Nat.le_of_ble_eq_true rfl⟩ (Nat.le_of_ble_eq_true rfl) (fun u hu => ?_)
    obtain ⟨ad4, h4, rfl⟩ := hu
    refine x_astore_n F [(2, .ref (ad3 13)), (1, .ref (ad1 0)), (0, .ref b)] dL_law_15 rfl (by decide) rfl ?_
    refine x_iconst F (v := 1) dL_law_16 (by decide) ?_
    refine x_newJ F 12 (N := 1) (show ¬ 12 ∈ k_Rm from by decide +kernel) (by decide) (by decide) (by decide) ⟨Nat.le_of_ble_eq_true rfl, Nat.le_of_ble_eq_true rfl⟩ dL_law_17 (fun ad5 had5 => ?_)
    refine x_wc (w' := k_c cy ad5 q 0 0 (I1 I0) J0) (fun x hx => ?_) ?_
    · by_cases e : x = 12
      · subst e; rw [up_at]; rfl
      · rw [up_ne _ _ e]
        exact kc_ad0 (fun y h1 _ => had5 y h1) ((show ∀ x ∈ k_Rm ++ [12], x < 36 by decide +kernel) x hx)
    refine x_astore_n F [(3, .ref (ad5 12)), (2, .ref (ad3 13)), (1, .ref (ad1 0)), (0, .ref b)] dL_law_19 rfl (by decide) rfl ?_
    refine x_iconst F (v := 0) dL_law_20 (by decide) ?_
    refine x_istore F [(4, .int 0), (3, .ref (ad5 12)), (2, .ref (ad3 13)), (1, .ref (ad1 0)), (0, .ref b)] dL_law_21 (by decide) rfl ?_
    have e13 : ad3 13 = ad5 13 := ((had5 13 (by decide)).trans (h4 13 (by decide))).symm
    have e0 : ad1 0 = ad5 0 := ((had5 0 (by decide)).trans ((h4 0 (by decide)).trans ((had3 0 (by decide)).trans h20))).symm
    rw [e13, e0]
    exact law_loop hfl F hX hbl rfl hL hr hlocks (L + 1) 0 (by omega) (by omega) _ ad5 q 0 0 (I1 I0) J0 rx_0 (sr_0 q)
  have hl := lv_entry ([.ref b]) (n := 8) (Nat.le_of_ble_eq_true rfl)
  rw [lg_entry_eq]
  exact G s.heap [] _ (fun k q h => by simp [wl] at h) ⟨fun i j p q h => by simp [wl] at h, fun k q h => by simp [wl] at h⟩ va_S.rf hl
end START
