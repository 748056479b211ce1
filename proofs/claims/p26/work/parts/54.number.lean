def k_RX (R : List Nat) (ns nt : Nat) : Prop := k_RL R ns nt ∧ ∀ x ∈ R, x < 19 ∨ (∃ i, i < ns ∧ (x = 40 + 2 * i ∨ x = 40 + 2 * i + 1)) ∨ (∃ j, j < nt ∧ (x = 80 + 4 * j ∨ x = 80 + 4 * j + 1 ∨ x = 80 + 4 * j + 1 + 1 ∨ x = 80 + 4 * j + 3))
set_option maxHeartbeats 4000000 in
/-- what a role holds names no address of a role that is not made yet -/
theorem kc_keep {R : List Nat} {cy : Nat → ClassId} {ad ad' : Nat → Nat} {q q' : Nat → Nat → Nat} {ns nt ns' nt' : Nat} {I I' : Nat → Nat → Int32} {J J' : Nat → Nat → Int64} {x : Nat} (hX : k_RX R ns nt) (hq : k_Q q ns nt) (hq2 : ∀ j k, j < nt → q' (80 + 4 * j) k = q (80 + 4 * j) k) (hx : x ∈ R) (h4 : x ≠ 4) (h5 : x ≠ 5) (hI : I' x = I x) (hJ : J' x = J x) (h : ∀ y, y < 40 + 2 * ns ∨ (80 ≤ y ∧ y < 80 + 4 * nt) → ad' y = ad y) : k_c cy ad q ns nt I J x = k_c cy ad' q' ns' nt' I' J' x := by
  have hl : ∀ y, y < 40 → ad' y = ad y := fun y hy => h y (Or.inl (by omega))
  rcases hX.2 x hx with h1 | ⟨i, hi, h1 | h1⟩ | ⟨j, hj, h1 | h1 | h1 | h1⟩
  · rcases (show x = 0 ∨ x = 1 ∨ x = 2 ∨ x = 3 ∨ x = 6 ∨ x = 7 ∨ x = 8 ∨ x = 9 ∨ x = 10 ∨ x = 11 ∨ x = 12 ∨ x = 13 ∨ x = 14 ∨ x = 15 ∨ x = 16 ∨ x = 17 ∨ x = 18 by omega) with rfl | rfl | rfl | rfl | rfl | rfl | rfl | rfl | rfl | rfl | rfl | rfl | rfl | rfl | rfl | rfl | rfl
    · rw [sc_0, sc_0]; simp [hI, hJ, hl]
    · rw [sc_1, sc_1]; simp [hI, hJ, hl]
    · rw [sc_2, sc_2]; simp [hI, hJ, hl]
    · rw [sc_3, sc_3]; simp [hI, hJ, hl]
    · rw [sc_6, sc_6]; simp [hI, hJ, hl]
    · rw [sc_7, sc_7]; simp [hI, hJ, hl]
    · rw [sc_8, sc_8]; simp [hI, hJ, hl]
    · rw [sc_9, sc_9]; simp [hI, hJ, hl]
    · rw [sc_10, sc_10]; simp [hI, hJ, hl]
    · rw [sc_11, sc_11]; simp [hI, hJ, hl]
    · rw [sc_12, sc_12]; simp [hI, hJ, hl]
    · rw [sc_13, sc_13]; simp [hI, hJ, hl]
    · rw [sc_14, sc_14]; simp [hI, hJ, hl]
    · rw [sc_15, sc_15]; simp [hI, hJ, hl]
    · rw [sc_16, sc_16]; simp [hI, hJ, hl]
    · rw [sc_17, sc_17]; simp [hI, hJ, hl]
    · rw [sc_18, sc_18]; simp [hI, hJ, hl]
  · subst h1
    have r1 := sub_rng hi hX.1
    rw [sc_sub r1, sc_sub r1, hI, h (40 + 2 * i + 1) (Or.inl (by omega))]
  · subst h1
    have r1 := sub_rng hi hX.1
    rw [sc_chn r1, sc_chn r1, hI]
  · subst h1
    have r1 := tlk_rng j
    have g := hq j hj
    have hns := hX.1.2.2.2.1
    rw [sc_tlk r1, sc_tlk r1, hI, hq2 j 0 hj, hq2 j 1 hj, h (40 + 2 * q (80 + 4 * j) 0) (Or.inl (by omega)), h (40 + 2 * q (80 + 4 * j) 1) (Or.inl (by omega)), h (80 + 4 * j + 1) (Or.inr (by omega)), h (80 + 4 * j + 3) (Or.inr (by omega))]
  · subst h1
    have r1 : 80 + 4 * j + 1 = 6 ∨ (80 ≤ 80 + 4 * j + 1 ∧ (80 + 4 * j + 1) % 4 = 1) := Or.inr (by omega)
    rw [sc_rte r1, sc_rte r1, hI, h (80 + 4 * j + 1 + 1) (Or.inr (by omega))]
  · subst h1
    have r1 : 80 + 4 * j + 1 = 6 ∨ (80 ≤ 80 + 4 * j + 1 ∧ (80 + 4 * j + 1) % 4 = 1) := Or.inr (by omega)
    rw [sc_rtc r1, sc_rtc r1, hI]
  · subst h1
    have r1 := tlk_rng j
    rw [sc_chg r1, sc_chg r1, hJ]
def numI0 (I : Nat → Nat → Int32) (ns : Nat) (a b b2 : Int32) : Nat → Nat → Int32 := fun r k => if r = 40 + 2 * ns then (if k = 1 then 1 else if k = 2 then b else if k = 3 then b2 else 0) else if r = 40 + 2 * ns + 1 then (if k = 0 then a else 0) else I r k
def numI (I : Nat → Nat → Int32) (ns : Nat) (a b b2 : Int32) : Nat → Nat → Int32 := wI (numI0 I ns a b b2) 0 6 (nI (ns + 1))
theorem RX_s {R : List Nat} {ns nt : Nat} (h : k_RX R ns nt) (hn : ns < 20) : 40 + 2 * ns ∉ R ∧ 40 + 2 * ns + 1 ∉ R := by
  constructor <;> intro hx <;> rcases h.2 _ hx with h1 | ⟨i, hi, h1 | h1⟩ | ⟨j, hj, h1 | h1 | h1 | h1⟩ <;> omega
theorem RX_num {R : List Nat} {ns nt : Nat} (h : k_RX R ns nt) (hn : ns < 20) : k_RX (R ++ [40 + 2 * ns] ++ [40 + 2 * ns + 1]) (ns + 1) nt := by
  obtain ⟨⟨h1, h2, h3, h4, h5⟩, h6⟩ := h
  refine ⟨⟨fun r hr => ?_, fun i hi => ?_, fun j hj => ?_, by omega, h5⟩, fun x hx => ?_⟩
  · have := h1 r hr
    simp [this]
  · by_cases e : i = ns
    · subst e; simp
    · have := h2 i (by omega)
      simp [this.1, this.2]
  · have := h3 j hj
    simp [this.1, this.2.1, this.2.2.1, this.2.2.2]
  · have hx2 : x ∈ R ∨ x = 40 + 2 * ns ∨ x = 40 + 2 * ns + 1 := by simpa [or_assoc] using hx
    rcases hx2 with hx | hx | hx
    · rcases h6 x hx with g | ⟨i, hi, g⟩ | ⟨j, hj, g⟩
      · exact Or.inl g
      · exact Or.inr (Or.inl ⟨i, by omega, g⟩)
      · exact Or.inr (Or.inr ⟨j, hj, g⟩)
    · exact Or.inr (Or.inl ⟨ns, by omega, Or.inl hx⟩)
    · exact Or.inr (Or.inl ⟨ns, by omega, Or.inr hx⟩)
theorem lt20 {n : Nat} (h : n ≤ 20) (h2 : nI n < 20) : n < 20 := by
  rcases Nat.lt_or_ge n 20 with z | z
  · exact z
  · have : n = 20 := by omega
    subst this
    exact absurd h2 (by decide)
theorem no20 {n : Nat} {x : Int32} (hc : x = nI n) (h : n ≤ 20) (h2 : x < 0 ∨ 20 ≤ x) : ¬ n < 20 := by
  intro hn
  subst hc
  rcases h2 with h2 | h2
  · exact nI_pos (by omega) h2
  · have h3 : nI 20 ≤ nI n := h2
    rw [nI_leI (by omega) (by omega)] at h3
    omega
theorem kc_ns {cy : Nat → ClassId} {ad : Nat → Nat} {q : Nat → Nat → Nat} {ns ns' nt : Nat} {I : Nat → Nat → Int32} {J : Nat → Nat → Int64} {x : Nat} (h : x ≠ 4) : k_c cy ad q ns nt I J x = k_c cy ad q ns' nt I J x := by
  rw [k_c, k_c]
  unfold k_sh
  split
  · next h1 =>
    rcases (show x = 0 ∨ x = 1 ∨ x = 2 ∨ x = 3 ∨ x = 5 ∨ x = 6 ∨ x = 7 ∨ x = 8 ∨ x = 9 ∨ x = 10 ∨ x = 11 ∨ x = 12 ∨ x = 13 ∨ x = 14 ∨ x = 15 ∨ x = 16 ∨ x = 17 ∨ x = 18 ∨ x = 19 ∨ x = 20 ∨ x = 21 ∨ x = 22 ∨ x = 23 ∨ x = 24 ∨ x = 25 ∨ x = 26 ∨ x = 27 ∨ x = 28 ∨ x = 29 ∨ x = 30 ∨ x = 31 ∨ x = 32 ∨ x = 33 ∨ x = 34 ∨ x = 35 ∨ x = 36 ∨ x = 37 ∨ x = 38 ∨ x = 39 by omega) with rfl | rfl | rfl | rfl | rfl | rfl | rfl | rfl | rfl | rfl | rfl | rfl | rfl | rfl | rfl | rfl | rfl | rfl | rfl | rfl | rfl | rfl | rfl | rfl | rfl | rfl | rfl | rfl | rfl | rfl | rfl | rfl | rfl | rfl | rfl | rfl | rfl | rfl | rfl <;> rfl
  · rfl
set_option maxHeartbeats 4000000 in
set_option maxRecDepth 100000 in
/-- number -/
theorem c_X4_number (l : Launch) (D : va_G) (cy : Nat → ClassId) (lo : Nat) (R : List Nat) (ad : Nat → Nat) (q : Nat → Nat → Nat) (ns nt : Nat) (I : Nat → Nat → Int32) (J : Nat → Nat → Int64) (hX : k_RX R ns nt) (hfl : l.stackTraces = false) (a b b2 : Int32) (hq : k_Q q ns nt) (hc : I 0 6 = nI ns) : k_MetX l yX4_number cX4_number 5 (some .int) { frames := 7, cells := 4, slots := 26, locals := 130 } D cy lo R ad (k_c cy ad q ns nt I J) [.ref (ad 0), .int a, .int b, .int b2] (k_Qi D lo (fun r u => (isCar a = true ∧ (isWi b 0 10000 && isWi b2 0 1000) = true ∧ ns < 20) ∧ r = nI ns ∧ ∃ ad' : Nat → Nat, (∀ y, y ≠ 40 + 2 * ns → y ≠ 40 + 2 * ns + 1 → ad' y = ad y) ∧ u = (R ++ [40 + 2 * ns] ++ [40 + 2 * ns + 1], ad', k_c cy ad' q (ns + 1) nt (numI I ns a b b2) J))) (fun E u => ((E = e_IO ∧ isCar a = false) ∨ (E = e_IA ∧ isCar a = true ∧ (isWi b 0 10000 && isWi b2 0 1000) = false) ∨ (E = e_IS ∧ isCar a = true ∧ (isWi b 0 10000 && isWi b2 0 1000) = true ∧ ¬ ns < 20)) ∧ u = (R, ad, k_c cy ad q ns nt I J)) := by
  refine k_metXQ (by decide +kernel) (Nat.le_of_ble_eq_true rfl) ?_
  intro p e s m args below meth c Q F hr hlk ht hQ
  have hL := hX.1
  have hR := hL.1
  refine x_iload_n F dX4_number_0 rfl 1 rfl ?_
  refine z_callSvx F [.int a] (c_X4_demandCarrier l D cy lo R ad _ hfl a) mc_X4_demandCarrier ms_X4_demandCarrier lk_X4_48 rfl rfl dX4_number_1 ⟨Nat.le_of_ble_eq_true rfl, Nat.le_of_ble_eq_true rfl⟩ ⟨Nat.le_of_ble_eq_true rfl, Nat.le_of_ble_eq_true rfl⟩ (Nat.le_of_ble_eq_true rfl) (fun E hE1 => ?_) (fun ok1 => ?_)
  · rw [hQ]
    exact x_out F ht hlk ⟨Or.inl hE1, rfl⟩ (by decide) (by decide)
  · refine x_iload_n F dX4_number_4 rfl 2 rfl ?_
    refine x_iload_n F dX4_number_5 rfl 3 rfl ?_
    refine z_callSvx F [.int b, .int b2] (c_X4_demandCredit l D cy lo R ad _ hfl b b2) mc_X4_demandCredit ms_X4_demandCredit lk_X4_79 rfl rfl dX4_number_6 ⟨Nat.le_of_ble_eq_true rfl, Nat.le_of_ble_eq_true rfl⟩ ⟨Nat.le_of_ble_eq_true rfl, Nat.le_of_ble_eq_true rfl⟩ (Nat.le_of_ble_eq_true rfl) (fun E hE6 => ?_) (fun ok6 => ?_)
    · rw [hQ]
      exact x_out F ht hlk ⟨Or.inr (Or.inl ⟨hE6.1, by assumption, hE6.2⟩), rfl⟩ (by decide) (by decide)
    · refine x_aload_n F dX4_number_9 rfl 0 rfl ?_
      refine g_X4_83 F (hL.1 0 (by decide)) sc_0 rfl dX4_number_10 ?_
      refine x_istore F [(4, .int (I 0 6)), (0, .ref (ad 0)), (1, .int a), (2, .int b), (3, .int b2)] dX4_number_13 (by decide) rfl ?_
      refine x_iload F dX4_number_15 0 rfl ?_
      refine x_if_lt F 27 dX4_number_17 (by decide) (fun h17 => ?_) (fun h17 => ?_)
      · rw [hQ]
        exact x_throw F hfl ht hlk (by decide +kernel) ck_X4_74 ik_IS sk_X4_87 k_at_IS dX4_number_27 dX4_number_30 dX4_number_31 dX4_number_33 dX4_number_36 ⟨Nat.le_of_ble_eq_true rfl, Nat.le_of_ble_eq_true rfl, Nat.le_of_ble_eq_true rfl, Nat.le_of_ble_eq_true rfl⟩ ⟨Or.inr (Or.inr ⟨rfl, by assumption, by assumption, by first | exact no20 hc hL.2.2.2.1 (Or.inl ‹_›) | exact no20 hc hL.2.2.2.1 (Or.inr (Int32.not_lt.mp ‹_›))⟩), rfl⟩ (by decide) (by decide)
      · refine x_iload F dX4_number_20 0 rfl ?_
        refine x_bipush F (v := 20) dX4_number_22 (by decide) ?_
        refine x_icmp_lt F 37 dX4_number_24 (by decide) (fun h24 => ?_) (fun h24 => ?_)
        · refine x_aload_n F dX4_number_37 rfl 1 rfl ?_
          refine g_X4_25 F (hL.1 0 (by decide)) sc_0 rfl dX4_number_38 ?_
          refine x_iload F dX4_number_41 0 rfl ?_
          rw [hc] at h24 ⊢
          have hns : ns < 20 := lt20 hL.2.2.2.1 h24
          obtain ⟨n1, n2⟩ := RX_s hX hns
          refine x_newO2 F (40 + 2 * ns) (List.mem_of_getElem? (i := 55) (by decide +kernel)) n1 ⟨Nat.le_of_ble_eq_true rfl, Nat.le_of_ble_eq_true rfl⟩ dX4_number_43 (fun ad1 had1 => ?_)
          rw [← had1 0 (by omega), ← had1 4 (by omega)]
          refine x_dup F dX4_number_46 rfl ?_
          refine x_iload_n F dX4_number_47 rfl 2 rfl ?_
          refine x_iload_n F dX4_number_48 rfl 3 rfl ?_
          refine x_iload_n F dX4_number_49 rfl 4 rfl ?_
          refine x_callI F (r0 := 40 + 2 * ns) [.int a, .int b, .int b2] (c_X2_init l D cy lo _ ad1 _ (40 + 2 * ns) a b b2 (by simp) (by simp [n2]) (up_at _ _ _)) mc_X2_init rfl mi_X2_init lk_X4_89 rfl rfl dX4_number_50 ⟨Nat.le_of_ble_eq_true rfl, Nat.le_of_ble_eq_true rfl⟩ ⟨Nat.le_of_ble_eq_true rfl, Nat.le_of_ble_eq_true rfl⟩ (Nat.le_of_ble_eq_true rfl) (fun u hu => ?_)
          obtain ⟨ad2, had2, rfl⟩ := hu
          dsimp only
          rw [← had2 0 (by omega), ← had2 4 (by omega), ← had2 (40 + 2 * ns) (by omega)]
          have hA : ∀ y, y ≠ 40 + 2 * ns → y ≠ 40 + 2 * ns + 1 → ad2 y = ad y := fun y h1 h2 => by rw [had2 y h2, had1 y h1]
          have rs := sub_rng (i := ns) (R := R ++ [40 + 2 * ns] ++ [40 + 2 * ns + 1]) (ns := ns + 1) (by omega) (RX_num hX hns).1
          have hA4 : ∀ i, i < ns → ad2 (40 + 2 * i) = ad (40 + 2 * i) := fun i hi => hA _ (by omega) (by omega)
          refine x_wc (w' := k_c cy ad2 q ns nt (numI0 I ns a b b2) J) (fun x hx => ?_) ?_
          · have hx2 : x ∈ R ∨ x = 40 + 2 * ns ∨ x = 40 + 2 * ns + 1 := by simpa [or_assoc] using hx
            rcases hx2 with hx | hx | hx
            · have e1 : x ≠ 40 + 2 * ns := fun he => n1 (he ▸ hx)
              have e2 : x ≠ 40 + 2 * ns + 1 := fun he => n2 (he ▸ hx)
              rw [up_ne _ _ e1, up_ne _ _ e2, up_ne _ _ e1]
              have eI : numI0 I ns a b b2 x = I x := by funext k; simp [numI0, e1, e2]
              have hl2 : ∀ y, y < 40 → ad2 y = ad y := fun y hy => hA y (by omega) (by omega)
              by_cases h4 : x = 4
              · subst h4; rw [sc_4, sc_4]; simp only [Sum.inl.injEq, Prod.mk.injEq, true_and, Sum.inr.injEq]; funext i; by_cases hi : i < ns
                · rw [if_pos hi, if_pos hi, hA4 i hi]
                · rw [if_neg hi, if_neg hi]
              · by_cases h5 : x = 5
                · subst h5; rw [sc_5, sc_5]; simp only [Sum.inl.injEq, Prod.mk.injEq, true_and, Sum.inr.injEq]; funext i; rw [hA (80 + 4 * i) (by omega) (by omega)]
                · exact kc_keep hX hq (fun _ _ _ => rfl) hx h4 h5 eI rfl (fun y hy => hA y (by omega) (by omega))
            · subst hx; rw [up_at, sc_sub rs]; simp [numI0]
            · subst hx; rw [up_ne _ _ (by omega), up_at, sc_chn rs, show numI0 I ns a b b2 (40 + 2 * ns + 1) = fun k => if k = 0 then a else 0 from funext fun k => by simp [numI0]]
          have hR2 := (RX_num hX hns).1.1
          refine x_astS F (hR2 4 (by decide)) sc_4 (by simp) (sc_sub rs) (vp_in_nI hns (by decide)) dX4_number_53 ?_
          refine x_world (w' := k_c cy ad2 q (ns + 1) nt (numI0 I ns a b b2) J) ?_ ?_
          · funext x
            by_cases h4 : x = 4
            · subst h4
              rw [up_at, sc_4, nI_clamp (by omega)]
              simp only [Sum.inl.injEq, Prod.mk.injEq, true_and, Sum.inr.injEq]
              funext i
              by_cases h1 : i = ns
              · subst h1; rw [up_at, if_pos (by omega)]
              · rw [up_ne _ _ h1]
                by_cases h2 : i < ns
                · rw [if_pos h2, if_pos (by omega)]
                · rw [if_neg h2, if_neg (by omega)]
            · rw [up_ne _ _ h4, kc_ns h4]
          refine x_aload_n F dX4_number_54 rfl 1 rfl ?_
          refine x_dup F dX4_number_55 rfl ?_
          refine g_X4_83 F (hR2 0 (by decide)) sc_0 rfl dX4_number_56 ?_
          refine x_iconst F (v := 1) dX4_number_59 (by decide) ?_
          refine x_iadd F dX4_number_60 ?_
          refine p_X4_83 F (hR2 0 (by decide)) ss_0 dX4_number_61 ?_
          refine x_iload F dX4_number_64 0 rfl ?_
          refine x_world (w' := k_c cy ad2 q (ns + 1) nt (numI I ns a b b2) J) ?_ ?_
          · rw [numI, show numI0 I ns a b b2 0 6 = nI ns by (have z : ¬ 0 = 40 + 2 * ns := by omega); simp [numI0, hc, z], nI_1]
          rw [hQ]
          refine x_widen (k := 4) (n := 26) (Nat.le_of_ble_eq_true rfl) (Nat.le_of_ble_eq_true rfl) ?_
          exact x_iretx F hr hlk ⟨⟨by assumption, by assumption, hns⟩, rfl, ad2, hA, rfl⟩ dX4_number_66
        · rw [hQ]
          exact x_throw F hfl ht hlk (by decide +kernel) ck_X4_74 ik_IS sk_X4_87 k_at_IS dX4_number_27 dX4_number_30 dX4_number_31 dX4_number_33 dX4_number_36 ⟨Nat.le_of_ble_eq_true rfl, Nat.le_of_ble_eq_true rfl, Nat.le_of_ble_eq_true rfl, Nat.le_of_ble_eq_true rfl⟩ ⟨Or.inr (Or.inr ⟨rfl, by assumption, by assumption, by first | exact no20 hc hL.2.2.2.1 (Or.inl ‹_›) | exact no20 hc hL.2.2.2.1 (Or.inr (Int32.not_lt.mp ‹_›))⟩), rfl⟩ (by decide) (by decide)
