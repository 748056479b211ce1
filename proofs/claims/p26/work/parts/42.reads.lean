/-! what findBest leaves: the weights, and the route; the route's length -/
abbrev k_Yi (l : Launch) (y : MethodName) (cc : ByteArray) (mL : Nat) (ret : Option FieldType) (fr lc mc ms : Nat) (D : va_G) (cy : Nat → ClassId) (lo : Nat) (R : List Nat) (ad : Nat → Nat) (w : Nat → va_E) (av : List Value) (ok : Prop) (xp : String → Prop) (rv : Int32) (w' w'' : Nat → va_E) : Prop := k_MetX l y cc mL ret { frames := fr, cells := mc, slots := ms, locals := lc } D cy lo R ad w av (k_Qi D lo (fun r u => ok ∧ r = rv ∧ u = (R, ad, w'))) (fun E u => xp E ∧ u = (R, ad, w''))
def LenOK (I : Nat → Nat → Int32) (r : Nat) : Prop := I r 1 = nI (I r 1).toNatClampNeg ∧ (I r 1).toNatClampNeg ≤ 5 ∧ 1 ≤ (I r 1).toNatClampNeg
theorem LenOK.of {I : Nat → Nat → Int32} {r n : Nat} (h : I r 1 = nI n) (h5 : n ≤ 5) (h1 : 1 ≤ n) : LenOK I r := by
  have e : (I r 1).toNatClampNeg = n := by rw [h, nI_clamp (by omega)]
  exact ⟨by rw [e]; exact h, by omega, by omega⟩
theorem LenOK.eq {I I' : Nat → Nat → Int32} {r : Nat} (h : LenOK I r) (e : I' r 1 = I r 1) : LenOK I' r := by
  unfold LenOK
  rw [e]
  exact h
theorem LenOK.w {I : Nat → Nat → Int32} {r r' k : Nat} {x : Int32} (h : LenOK I r) (hr : r' ≠ r) : LenOK (wI I r' k x) r := h.eq (by rw [wI_eq, if_neg (by omega)])
theorem add_other {I : Nat → Nat → Int32} {r r' k : Nat} {x : Int32} (h1 : r' ≠ r) (h2 : r' ≠ r + 1) : addRI I r x r' k = I r' k := by
  unfold addRI
  split
  · rw [wI_eq, if_neg (by omega), wI_eq, if_neg (by omega)]
  · rfl
theorem relax_other {I : Nat → Nat → Int32} {J : Nat → Nat → Int64} {f n r' k : Nat} (h : r' ≠ 11) : relaxI I J f n r' k = I r' k := by
  unfold relaxI
  split
  · rw [wI_eq, if_neg (by omega)]
  · rfl
theorem inner_other {I : Nat → Nat → Int32} {J : Nat → Nat → Int64} {f r' k : Nat} (h : r' ≠ 11) : ∀ n, innerI I J f n r' k = I r' k := by
  intro n
  induction n with
  | zero => rfl
  | succ n ih => rw [innerI, relax_other h, ih]
theorem mid_other {I : Nat → Nat → Int32} {J : Nat → Nat → Int64} {r' k : Nat} (h : r' ≠ 11) : ∀ n, midI I J n r' k = I r' k := by
  intro n
  induction n with
  | zero => rfl
  | succ n ih => rw [midI, inner_other h, ih]
theorem out_other {I : Nat → Nat → Int32} {J : Nat → Nat → Int64} {r' k : Nat} (h : r' ≠ 11) : ∀ n, outI I J n r' k = I r' k := by
  intro n
  induction n with
  | zero => rfl
  | succ n ih => rw [outI, mid_other h, ih]
theorem weigh_other {I : Nat → Nat → Int32} {J : Nat → Nat → Int64} {b : Int32} {r' k : Nat} (h : r' ≠ 11) : weighI I J b r' k = I r' k := by
  rw [weighI, out_other h, weigh0]
  split
  · rw [wI_eq, if_neg (by omega), fillI, if_neg (by omega)]
  · rw [fillI, if_neg (by omega)]
theorem go_other {I : Nat → Nat → Int32} {J : Nat → Nat → Int64} {r : Nat} {a b : Int32} {r' k : Nat} (h1 : r' ≠ r) (h2 : r' ≠ r + 1) : ∀ j, (goF I J r a b j).2 r' k = I r' k := by
  intro j
  induction j with
  | zero =>
    show addRI (wI I r 1 0) r a r' k = _
    rw [add_other h1 h2, wI_eq, if_neg (by omega)]
  | succ j ih =>
    rw [goF]
    split
    · exact ih
    · show addRI (goF I J r a b j).2 r _ r' k = _
      rw [add_other h1 h2, ih]
theorem fb_other {I : Nat → Nat → Int32} {J : Nat → Nat → Int64} {r : Nat} {a b : Int32} {r' k : Nat} (h : r' ≠ 11) (h1 : r' ≠ r) (h2 : r' ≠ r + 1) : fbI I J a b r r' k = I r' k := by
  unfold fbI
  split
  · split
    · rw [go_other h1 h2, weigh_other h]
    · rw [weigh_other h]
  · rfl
theorem add_len {I : Nat → Nat → Int32} {r n : Nat} {x : Int32} (h : I r 1 = nI n) (hn : n < 5) : addRI I r x r 1 = nI (n + 1) := by
  have h1 : (!decide (I r 1 < 0) && !decide (5 ≤ I r 1)) = true := by
    rw [h]
    simp only [Bool.and_eq_true, Bool.not_eq_true', decide_eq_false_iff_not]
    refine ⟨nI_pos (by omega), fun hc => ?_⟩
    have hc2 : nI 5 ≤ nI n := hc
    rw [nI_leI (by omega) (by omega)] at hc2
    omega
  rw [addRI, if_pos h1, wI_eq, if_pos ⟨rfl, rfl⟩, wI_eq, if_neg (by omega), h, nI_1]
theorem go_len {I : Nat → Nat → Int32} {J : Nat → Nat → Int64} {r : Nat} {a b : Int32} : ∀ j, j ≤ 4 → ∃ n, 1 ≤ n ∧ n ≤ j + 1 ∧ (goF I J r a b j).2 r 1 = nI n := by
  intro j
  induction j with
  | zero => exact fun _ => ⟨1, by omega, by omega, by rw [go_0]; exact add_len (n := 0) (by rw [wI_eq, if_pos ⟨rfl, rfl⟩]; rfl) (by omega)⟩
  | succ j ih =>
    intro hj
    obtain ⟨n, h1, h2, h3⟩ := ih (by omega)
    rw [goF]
    split
    · exact ⟨n, h1, by omega, h3⟩
    · exact ⟨n + 1, by omega, by omega, add_len h3 (by omega)⟩
theorem fb_no {I : Nat → Nat → Int32} {J : Nat → Nat → Int64} {a b : Int32} {r : Nat} (h : (isCar a && isCar b) = false) : fbI I J a b r = I := by
  rw [fbI, if_neg (by simp [h])]
theorem fb_len {I : Nat → Nat → Int32} {J : Nat → Nat → Int64} {r : Nat} {a b : Int32} (h : fbB I J a b = true) : LenOK (fbI I J a b r) r := by
  simp only [fbB, Bool.and_eq_true, decide_eq_true_eq] at h
  rw [fbI, if_pos (by simp [h.1]), if_pos h.2]
  obtain ⟨n, h1, h2, h3⟩ := go_len (I := weighI I J b) (J := J) (r := r) (a := a) (b := b) 4 (by omega)
  exact LenOK.of h3 (by omega) h1
theorem pay_other {I : Nat → Nat → Int32} {r : Nat} {x t : Int32} {r' k : Nat} (h : r' ≠ r) : payI I r x t r' k = I r' k := by
  unfold payI
  split
  · split
    · rfl
    · rw [wI_eq, if_neg (by omega)]
  · rw [wI_eq, if_neg (by omega)]
def costC (I : Nat → Nat → Int32) (J : Nat → Nat → Int64) (a b : Int32) : Int32 := if fbB I J a b = true then costF (fbI I J a b 6) 6 (fbI I J a b 6 6 1).toNatClampNeg else -1
def bestC (I : Nat → Nat → Int32) (J : Nat → Nat → Int64) (a b x : Int32) : Int32 := if fbB I J a b = true then carAt (fbI I J a b 6) 6 x else -1
set_option maxHeartbeats 4000000 in
set_option maxRecDepth 100000 in
/-- cost -/
theorem c_X4_cost (l : Launch) (D : va_G) (cy : Nat → ClassId) (lo : Nat) (R : List Nat) (ad : Nat → Nat) (q : Nat → Nat → Nat) (ns nt : Nat) (I : Nat → Nat → Int32) (J : Nat → Nat → Int64) (hL : k_RL R ns nt) (hfl : l.stackTraces = false) (a : Int32) (b : Int32) : k_Xi l yX4_cost cX4_cost 3 (some .int) 7 117 2 12 D cy lo R ad (k_c cy ad q ns nt I J) [.ref (ad 0), .int a, .int b] ((isCar a && isCar b) = true) (fun E => E = e_IO ∧ (isCar a && isCar b) = false) (costC I J a b) (k_c cy ad q ns nt (fbI I J a b 6) J) := by
  refine k_metXQ (by decide +kernel) (Nat.le_of_ble_eq_true rfl) ?_
  intro p e s m args below meth c Q F hr hlk ht hQ
  have hR := hL.1
  refine x_iload_n F dX4_cost_0 rfl 1 rfl ?_
  refine z_callSvx F [.int a] (c_X4_demandCarrier l D cy lo R ad _ hfl a) mc_X4_demandCarrier ms_X4_demandCarrier lk_X4_48 rfl rfl dX4_cost_1 ⟨Nat.le_of_ble_eq_true rfl, Nat.le_of_ble_eq_true rfl⟩ ⟨Nat.le_of_ble_eq_true rfl, Nat.le_of_ble_eq_true rfl⟩ (Nat.le_of_ble_eq_true rfl) (fun E hE1 => ?_) (fun ok1 => ?_)
  · rw [hQ]
    exact x_out F ht hlk ⟨⟨hE1.1, by simp [hE1.2]⟩, rfl⟩ (by decide) (by decide)
  · refine x_iload_n F dX4_cost_4 rfl 2 rfl ?_
    refine z_callSvx F [.int b] (c_X4_demandCarrier l D cy lo R ad _ hfl b) mc_X4_demandCarrier ms_X4_demandCarrier lk_X4_48 rfl rfl dX4_cost_5 ⟨Nat.le_of_ble_eq_true rfl, Nat.le_of_ble_eq_true rfl⟩ ⟨Nat.le_of_ble_eq_true rfl, Nat.le_of_ble_eq_true rfl⟩ (Nat.le_of_ble_eq_true rfl) (fun E hE5 => ?_) (fun ok5 => ?_)
    · rw [hQ]
      exact x_out F ht hlk ⟨⟨hE5.1, by simp [hE5.2]⟩, rfl⟩ (by decide) (by decide)
    · refine x_aload_n F dX4_cost_8 rfl 0 rfl ?_
      refine g_X4_19 F (hL.1 0 (by decide)) sc_0 rfl dX4_cost_9 ?_
      refine x_iload_n F dX4_cost_12 rfl 1 rfl ?_
      refine x_iload_n F dX4_cost_13 rfl 2 rfl ?_
      refine x_aload_n F dX4_cost_14 rfl 0 rfl ?_
      refine g_X4_38 F (hL.1 0 (by decide)) sc_0 rfl dX4_cost_15 ?_
      refine z_callVi F [.int a, .int b, .ref (ad 6)] (c_X0_findBest l D cy lo R ad q ns nt I J hR 6 a b (Or.inl rfl) (hL.1 6 (by decide)) (hL.1 7 (by decide))) mc_X0_findBest mv_X0_findBest lk_X4_138 (hR 3 (by decide)) sc_3 rfl rfl rfl dX4_cost_18 ⟨Nat.le_of_ble_eq_true rfl, Nat.le_of_ble_eq_true rfl⟩ ⟨Nat.le_of_ble_eq_true rfl, Nat.le_of_ble_eq_true rfl⟩ (Nat.le_of_ble_eq_true rfl) ?_
      refine x_if_eq F 38 dX4_cost_21 (by decide) (fun h21 => ?_) (fun h21 => ?_)
      · rw [kb0] at h21
        refine x_iconst F (v := -1) dX4_cost_38 (by decide) ?_
        rw [hQ]
        refine x_widen (k := 2) (n := 12) (Nat.le_of_ble_eq_true rfl) (Nat.le_of_ble_eq_true rfl) ?_
        exact x_iretx F hr hlk ⟨by simp [*], by simp [costC, *], rfl⟩ dX4_cost_39
      · rw [kb1] at h21
        refine x_aload_n F dX4_cost_24 rfl 0 rfl ?_
        refine g_X4_19 F (hL.1 0 (by decide)) sc_0 rfl dX4_cost_25 ?_
        refine x_aload_n F dX4_cost_28 rfl 0 rfl ?_
        refine g_X4_38 F (hL.1 0 (by decide)) sc_0 rfl dX4_cost_29 ?_
        refine z_callVi F [.ref (ad 6)] (c_X0_costOf l D cy lo R ad q ns nt (fbI I J a b 6) J hR 6 (Or.inl rfl) (hL.1 6 (by decide)) (hL.1 7 (by decide)) (fbI I J a b 6 6 1).toNatClampNeg ((fb_len h21).1) ((fb_len h21).2.1) ((fb_len h21).2.2)) mc_X0_costOf mv_X0_costOf lk_X4_177 (hR 3 (by decide)) sc_3 rfl rfl rfl dX4_cost_32 ⟨Nat.le_of_ble_eq_true rfl, Nat.le_of_ble_eq_true rfl⟩ ⟨Nat.le_of_ble_eq_true rfl, Nat.le_of_ble_eq_true rfl⟩ (Nat.le_of_ble_eq_true rfl) ?_
        refine x_goto F 39 dX4_cost_35 (by decide) ?_
        rw [hQ]
        refine x_widen (k := 2) (n := 12) (Nat.le_of_ble_eq_true rfl) (Nat.le_of_ble_eq_true rfl) ?_
        exact x_iretx F hr hlk ⟨by simp [*], by simp [costC, *], rfl⟩ dX4_cost_39
set_option maxHeartbeats 4000000 in
set_option maxRecDepth 100000 in
/-- best -/
theorem c_X4_best (l : Launch) (D : va_G) (cy : Nat → ClassId) (lo : Nat) (R : List Nat) (ad : Nat → Nat) (q : Nat → Nat → Nat) (ns nt : Nat) (I : Nat → Nat → Int32) (J : Nat → Nat → Int64) (hL : k_RL R ns nt) (hfl : l.stackTraces = false) (a : Int32) (b : Int32) (x : Int32) : k_Yi l yX4_best cX4_best 5 (some .int) 7 117 3 18 D cy lo R ad (k_c cy ad q ns nt I J) [.ref (ad 0), .int a, .int b, .int x] ((isCar a && isCar b) = true ∧ ¬ bestC I J a b x = -1) (fun E => E = e_IO ∧ ((isCar a && isCar b) = false ∨ bestC I J a b x = -1)) (bestC I J a b x) (k_c cy ad q ns nt (fbI I J a b 6) J) (k_c cy ad q ns nt (fbI I J a b 6) J) := by
  refine k_metXQ (by decide +kernel) (Nat.le_of_ble_eq_true rfl) ?_
  intro p e s m args below meth c Q F hr hlk ht hQ
  have hR := hL.1
  refine x_iload_n F dX4_best_0 rfl 1 rfl ?_
  refine z_callSvx F [.int a] (c_X4_demandCarrier l D cy lo R ad _ hfl a) mc_X4_demandCarrier ms_X4_demandCarrier lk_X4_48 rfl rfl dX4_best_1 ⟨Nat.le_of_ble_eq_true rfl, Nat.le_of_ble_eq_true rfl⟩ ⟨Nat.le_of_ble_eq_true rfl, Nat.le_of_ble_eq_true rfl⟩ (Nat.le_of_ble_eq_true rfl) (fun E hE1 => ?_) (fun ok1 => ?_)
  · rw [hQ]
    exact x_out F ht hlk ⟨⟨hE1.1, Or.inl (by simp [hE1.2])⟩, by rw [fb_no (by simp [*])]⟩ (by decide) (by decide)
  · refine x_iload_n F dX4_best_4 rfl 2 rfl ?_
    refine z_callSvx F [.int b] (c_X4_demandCarrier l D cy lo R ad _ hfl b) mc_X4_demandCarrier ms_X4_demandCarrier lk_X4_48 rfl rfl dX4_best_5 ⟨Nat.le_of_ble_eq_true rfl, Nat.le_of_ble_eq_true rfl⟩ ⟨Nat.le_of_ble_eq_true rfl, Nat.le_of_ble_eq_true rfl⟩ (Nat.le_of_ble_eq_true rfl) (fun E hE5 => ?_) (fun ok5 => ?_)
    · rw [hQ]
      exact x_out F ht hlk ⟨⟨hE5.1, Or.inl (by simp [hE5.2])⟩, by rw [fb_no (by simp [*])]⟩ (by decide) (by decide)
    · refine x_aload_n F dX4_best_8 rfl 0 rfl ?_
      refine g_X4_19 F (hL.1 0 (by decide)) sc_0 rfl dX4_best_9 ?_
      refine x_iload_n F dX4_best_12 rfl 1 rfl ?_
      refine x_iload_n F dX4_best_13 rfl 2 rfl ?_
      refine x_aload_n F dX4_best_14 rfl 0 rfl ?_
      refine g_X4_38 F (hL.1 0 (by decide)) sc_0 rfl dX4_best_15 ?_
      refine z_callVi F [.int a, .int b, .ref (ad 6)] (c_X0_findBest l D cy lo R ad q ns nt I J hR 6 a b (Or.inl rfl) (hL.1 6 (by decide)) (hL.1 7 (by decide))) mc_X0_findBest mv_X0_findBest lk_X4_138 (hR 3 (by decide)) sc_3 rfl rfl rfl dX4_best_18 ⟨Nat.le_of_ble_eq_true rfl, Nat.le_of_ble_eq_true rfl⟩ ⟨Nat.le_of_ble_eq_true rfl, Nat.le_of_ble_eq_true rfl⟩ (Nat.le_of_ble_eq_true rfl) ?_
      refine x_if_eq F 35 dX4_best_21 (by decide) (fun h21 => ?_) (fun h21 => ?_)
      · rw [kb0] at h21
        refine x_iconst F (v := -1) dX4_best_35 (by decide) ?_
        refine x_istore F [(4, .int (-1)), (0, .ref (ad 0)), (1, .int a), (2, .int b), (3, .int x)] dX4_best_36 (by decide) rfl ?_
        refine x_iload F dX4_best_38 0 rfl ?_
        refine x_iconst F (v := -1) dX4_best_40 (by decide) ?_
        refine x_icmp_ne F 54 dX4_best_41 (by decide) (fun h41 => ?_) (fun h41 => ?_)
        · exact False.elim (by revert h41; decide)
        · rw [hQ]
          exact x_throw F hfl ht hlk (by decide +kernel) ck_X4_111 ik_IO sk_X4_181 k_at_IO dX4_best_44 dX4_best_47 dX4_best_48 dX4_best_50 dX4_best_53 ⟨Nat.le_of_ble_eq_true rfl, Nat.le_of_ble_eq_true rfl, Nat.le_of_ble_eq_true rfl, Nat.le_of_ble_eq_true rfl⟩ ⟨⟨rfl, Or.inr (by simp [bestC, *])⟩, rfl⟩ (by decide) (by decide)
      · rw [kb1] at h21
        refine x_aload_n F dX4_best_24 rfl 0 rfl ?_
        refine g_X4_38 F (hL.1 0 (by decide)) sc_0 rfl dX4_best_25 ?_
        refine x_iload_n F dX4_best_28 rfl 3 rfl ?_
        refine z_callVi F [.int x] (c_X1_carrierAt l D cy lo R ad q ns nt (fbI I J a b 6) J hR 6 x (Or.inl rfl) (hL.1 6 (by decide)) (hL.1 7 (by decide))) mc_X1_carrierAt mv_X1_carrierAt lk_X4_172 (hR 6 (by decide)) sc_6 rfl rfl rfl dX4_best_29 ⟨Nat.le_of_ble_eq_true rfl, Nat.le_of_ble_eq_true rfl⟩ ⟨Nat.le_of_ble_eq_true rfl, Nat.le_of_ble_eq_true rfl⟩ (Nat.le_of_ble_eq_true rfl) ?_
        refine x_goto F 36 dX4_best_32 (by decide) ?_
        refine x_istore F [(4, .int (carAt (fbI I J a b 6) 6 x)), (0, .ref (ad 0)), (1, .int a), (2, .int b), (3, .int x)] dX4_best_36 (by decide) rfl ?_
        refine x_iload F dX4_best_38 0 rfl ?_
        refine x_iconst F (v := -1) dX4_best_40 (by decide) ?_
        refine x_icmp_ne F 54 dX4_best_41 (by decide) (fun h41 => ?_) (fun h41 => ?_)
        · refine x_iload F dX4_best_54 0 rfl ?_
          rw [hQ]
          refine x_widen (k := 3) (n := 18) (Nat.le_of_ble_eq_true rfl) (Nat.le_of_ble_eq_true rfl) ?_
          exact x_iretx F hr hlk ⟨⟨by simp [*], by simp [bestC, *]⟩, by simp [bestC, *], rfl⟩ dX4_best_56
        · rw [hQ]
          exact x_throw F hfl ht hlk (by decide +kernel) ck_X4_111 ik_IO sk_X4_181 k_at_IO dX4_best_44 dX4_best_47 dX4_best_48 dX4_best_50 dX4_best_53 ⟨Nat.le_of_ble_eq_true rfl, Nat.le_of_ble_eq_true rfl, Nat.le_of_ble_eq_true rfl, Nat.le_of_ble_eq_true rfl⟩ ⟨⟨rfl, Or.inr (by simp [bestC, *])⟩, rfl⟩ (by decide) (by decide)
