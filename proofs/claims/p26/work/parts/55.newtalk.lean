theorem RX_t {R : List Nat} {ns nt : Nat} (h : k_RX R ns nt) : 80 + 4 * nt ∉ R ∧ 80 + 4 * nt + 1 ∉ R ∧ 80 + 4 * nt + 1 + 1 ∉ R ∧ 80 + 4 * nt + 3 ∉ R := by
  have hn := h.1.2.2.2.1
  refine ⟨?_, ?_, ?_, ?_⟩ <;> intro hx <;> rcases h.2 _ hx with h1 | ⟨i, hi, h1 | h1⟩ | ⟨j, hj, h1 | h1 | h1 | h1⟩ <;> omega
abbrev k_Rt (R : List Nat) (nt : Nat) : List Nat := R ++ [80 + 4 * nt] ++ [80 + 4 * nt + 1] ++ [80 + 4 * nt + 1 + 1] ++ [80 + 4 * nt + 3]
theorem RX_talk {R : List Nat} {ns nt : Nat} (h : k_RX R ns nt) (hn : nt < 60) : k_RX (k_Rt R nt) ns (nt + 1) := by
  obtain ⟨⟨h1, h2, h3, h4, h5⟩, h6⟩ := h
  refine ⟨⟨fun r hr => ?_, fun i hi => ?_, fun j hj => ?_, h4, by omega⟩, fun x hx => ?_⟩
  · have := h1 r hr
    simp [k_Rt, this]
  · have := h2 i hi
    simp [k_Rt, this.1, this.2]
  · by_cases e : j = nt
    · subst e; simp [k_Rt]
    · have := h3 j (by omega)
      simp [k_Rt, this.1, this.2.1, this.2.2.1, this.2.2.2]
  · have hx2 : x ∈ R ∨ x = 80 + 4 * nt ∨ x = 80 + 4 * nt + 1 ∨ x = 80 + 4 * nt + 1 + 1 ∨ x = 80 + 4 * nt + 3 := by simpa [k_Rt, or_assoc] using hx
    rcases hx2 with hx | hx | hx | hx | hx
    · rcases h6 x hx with g | ⟨i, hi, g⟩ | ⟨j, hj, g⟩
      · exact Or.inl g
      · exact Or.inr (Or.inl ⟨i, hi, g⟩)
      · exact Or.inr (Or.inr ⟨j, by omega, g⟩)
    · exact Or.inr (Or.inr ⟨nt, by omega, Or.inl hx⟩)
    · exact Or.inr (Or.inr ⟨nt, by omega, Or.inr (Or.inl hx)⟩)
    · exact Or.inr (Or.inr ⟨nt, by omega, Or.inr (Or.inr (Or.inl hx))⟩)
    · exact Or.inr (Or.inr ⟨nt, by omega, Or.inr (Or.inr (Or.inr hx))⟩)
def stepF (I : Nat → Nat → Int32) (h : Int32) : Int32 := if isCar h = true then I 1 h.toNatClampNeg else 1
def priceF (I : Nat → Nat → Int32) (h : Int32) : Int32 := if isCar h = true then I 2 h.toNatClampNeg else 10
def talkI (I : Nat → Nat → Int32) (nt : Nat) (a b : Int32) : Nat → Nat → Int32 := fun r k => if r = 80 + 4 * nt then (if k = 2 then a else if k = 3 then b else 0) else if r = 80 + 4 * nt + 1 then 0 else if r = 80 + 4 * nt + 1 + 1 then 0 else I r k
def talkJ (J : Nat → Nat → Int64) (nt : Nat) : Nat → Nat → Int64 := fun r k => if r = 80 + 4 * nt + 3 then 0 else J r k
def talkQ (q : Nat → Nat → Nat) (nt i j : Nat) : Nat → Nat → Nat := fun r k => if r = 80 + 4 * nt then (if k = 0 then i else j) else q r k
/-- the call made: the world of the one before, with the new call's roles -/
theorem kc_talk {R : List Nat} {cy : Nat → ClassId} {ad ad' : Nat → Nat} {q : Nat → Nat → Nat} {ns nt : Nat} {I : Nat → Nat → Int32} {J : Nat → Nat → Int64} {i j : Nat} {a b : Int32} {w : Nat → va_E} (hX : k_RX R ns nt) (hq : k_Q q ns nt)
    (h : ∀ y, y ≠ 80 + 4 * nt → y ≠ 80 + 4 * nt + 1 → y ≠ 80 + 4 * nt + 1 + 1 → y ≠ 80 + 4 * nt + 3 → ad' y = ad y)
    (hw : ∀ x, x ≠ 80 + 4 * nt → x ≠ 80 + 4 * nt + 1 → x ≠ 80 + 4 * nt + 1 + 1 → x ≠ 80 + 4 * nt + 3 → w x = k_c cy ad q ns nt I J x)
    (w0 : w (80 + 4 * nt) = .inr (3, [.ref (ad' (40 + 2 * i)), .ref (ad' (40 + 2 * j)), .int a, .int b, .ref (ad' (80 + 4 * nt + 1)), .ref (ad' (80 + 4 * nt + 3)), .int 0, .int 0, .int 0]))
    (w1 : w (80 + 4 * nt + 1) = .inr (1, [.ref (ad' (80 + 4 * nt + 1 + 1)), .int 0])) (w2 : w (80 + 4 * nt + 1 + 1) = .inl (cy 0, 5, .inl fun _ => 0)) (w3 : w (80 + 4 * nt + 3) = .inl (cy 1, 25, .inr (.inl fun _ => 0))) :
    ∀ x ∈ k_Rt R nt, w x = k_c cy ad' (talkQ q nt i j) ns nt (talkI I nt a b) (talkJ J nt) x := by
  intro x hx
  obtain ⟨n0, n1, n2, n3⟩ := RX_t hX
  have hns := hX.1.2.2.2.1
  have r0 := tlk_rng nt
  have r1 : 80 + 4 * nt + 1 = 6 ∨ (80 ≤ 80 + 4 * nt + 1 ∧ (80 + 4 * nt + 1) % 4 = 1) := Or.inr (by omega)
  have hx2 : x ∈ R ∨ x = 80 + 4 * nt ∨ x = 80 + 4 * nt + 1 ∨ x = 80 + 4 * nt + 1 + 1 ∨ x = 80 + 4 * nt + 3 := by simpa [k_Rt, or_assoc] using hx
  rcases hx2 with hx | hx | hx | hx | hx
  · have e0 : x ≠ 80 + 4 * nt := fun he => n0 (he ▸ hx)
    have e1 : x ≠ 80 + 4 * nt + 1 := fun he => n1 (he ▸ hx)
    have e2 : x ≠ 80 + 4 * nt + 1 + 1 := fun he => n2 (he ▸ hx)
    have e3 : x ≠ 80 + 4 * nt + 3 := fun he => n3 (he ▸ hx)
    rw [hw x e0 e1 e2 e3]
    have eI : talkI I nt a b x = I x := by funext k; simp [talkI, e0, e1, e2]
    have eJ : talkJ J nt x = J x := by funext k; simp [talkJ, e3]
    have hlo : ∀ y, y < 80 + 4 * nt → ad' y = ad y := fun y hy => h y (by omega) (by omega) (by omega) (by omega)
    by_cases h4 : x = 4
    · subst h4; rw [sc_4, sc_4]; simp only [Sum.inl.injEq, Prod.mk.injEq, true_and, Sum.inr.injEq]; funext i'; by_cases hi : i' < ns
      · rw [if_pos hi, if_pos hi, hlo (40 + 2 * i') (by omega)]
      · rw [if_neg hi, if_neg hi]
    · by_cases h5 : x = 5
      · subst h5; rw [sc_5, sc_5]; simp only [Sum.inl.injEq, Prod.mk.injEq, true_and, Sum.inr.injEq]; funext i'; by_cases hi : i' < nt
        · rw [if_pos hi, if_pos hi, hlo (80 + 4 * i') (by omega)]
        · rw [if_neg hi, if_neg hi]
      · exact kc_keep hX hq (fun j' k hj => by rw [talkQ, if_neg (by omega)]) hx h4 h5 eI eJ (fun y hy => hlo y (by omega))
  · subst hx
    rw [w0, sc_tlk r0]
    simp [talkI, talkQ]
  · subst hx
    rw [w1, sc_rte r1]
    simp [talkI]
  · subst hx
    rw [w2, sc_rtc r1, show talkI I nt a b (80 + 4 * nt + 1 + 1) = fun _ => 0 from funext fun k => by (have z : ¬ 80 + 4 * nt + 1 + 1 = 80 + 4 * nt := by omega); simp [talkI, z]]
  · subst hx
    rw [w3, sc_chg r0, show talkJ J nt (80 + 4 * nt + 3) = fun _ => 0 from funext fun k => by simp [talkJ]]
set_option maxHeartbeats 4000000 in
set_option maxRecDepth 100000 in
/-- newTalk -/
theorem c_X4_newTalk (l : Launch) (D : va_G) (cy : Nat → ClassId) (lo : Nat) (R : List Nat) (ad : Nat → Nat) (q : Nat → Nat → Nat) (ns nt : Nat) (I : Nat → Nat → Int32) (J : Nat → Nat → Int64) (hX : k_RX R ns nt) (hq : k_Q q ns nt) (i j n : Nat) (hi : i < ns) (hj : j < ns) (hlen : I 6 1 = nI n) (hn5 : n ≤ 5) : k_Met l yX4_newTalk cX4_newTalk 8 (some (.object "RoamLedger$Talk")) { frames := 3, cells := 4, slots := 41, locals := 90 } D cy lo R ad (k_c cy ad q ns nt I J) [.ref (ad 0), .ref (ad (40 + 2 * i)), .ref (ad (40 + 2 * j)), .ref (ad 6)] (k_Qq D lo (fun r u => ∃ ad' : Nat → Nat, (∀ y, y ≠ 80 + 4 * nt → y ≠ 80 + 4 * nt + 1 → y ≠ 80 + 4 * nt + 1 + 1 → y ≠ 80 + 4 * nt + 3 → ad' y = ad y) ∧ r = some (ad' (80 + 4 * nt)) ∧ u = (k_Rt R nt, ad', k_c cy ad' (talkQ q nt i j) ns nt (becomeI (talkI I nt (stepF I (homeF I (40 + 2 * i) 0)) (priceF I (homeF I (40 + 2 * i) 0))) (80 + 4 * nt + 1) 6 n) (talkJ J nt)))) := by
  refine k_metQ (by decide +kernel) (Nat.le_of_ble_eq_true rfl) ?_
  intro p e s m args below meth c Q F hr hlk hnm hQ
  have hL := hX.1
  have hR := hL.1
  have hns := hL.2.2.2.1
  have k50 : XW D lo p l e { frames := 3, cells := 4, slots := 41, locals := 90 } s m args below meth c 8 0 0 Q R ad (k_c cy ad q ns nt I J) 50 [(6, .int (priceF I (homeF I (40 + 2 * i) 0))), (5, .int (stepF I (homeF I (40 + 2 * i) 0))), (4, .int (homeF I (40 + 2 * i) 0)), (0, .ref (ad 0)), (1, .ref (ad (40 + 2 * i))), (2, .ref (ad (40 + 2 * j))), (3, .ref (ad 6))] [] := by
    obtain ⟨n0, n1, n2, n3⟩ := RX_t hX
    refine x_newO3 F (80 + 4 * nt) (List.mem_of_getElem? (i := 57) (by decide +kernel)) n0 ⟨Nat.le_of_ble_eq_true rfl, Nat.le_of_ble_eq_true rfl⟩ dX4_newTalk_50 (fun ad1 had1 => ?_)
    rw [← had1 0 (by omega), ← had1 (40 + 2 * i) (by omega), ← had1 (40 + 2 * j) (by omega), ← had1 6 (by omega)]
    refine x_dup F dX4_newTalk_53 rfl ?_
    refine x_aload_n F dX4_newTalk_54 rfl 4 rfl ?_
    refine x_aload_n F dX4_newTalk_55 rfl 5 rfl ?_
    refine x_iload F dX4_newTalk_56 1 rfl ?_
    refine x_iload F dX4_newTalk_58 0 rfl ?_
    refine x_callI F (r0 := 80 + 4 * nt) [.ref (ad1 (40 + 2 * i)), .ref (ad1 (40 + 2 * j)), .int (stepF I (homeF I (40 + 2 * i) 0)), .int (priceF I (homeF I (40 + 2 * i) 0))] (c_X3_init l D cy lo _ ad1 _ (80 + 4 * nt) (40 + 2 * i) (40 + 2 * j) (stepF I (homeF I (40 + 2 * i) 0)) (priceF I (homeF I (40 + 2 * i) 0)) (by simp) (by simp [n1]) (by simp only [List.mem_append, List.mem_singleton, not_or]; exact ⟨n2, by omega⟩) (by simp [n3]) (by omega) (by omega) (up_at _ _ _)) mc_X3_init rfl mi_X3_init lk_X4_222 rfl rfl dX4_newTalk_60 ⟨Nat.le_of_ble_eq_true rfl, Nat.le_of_ble_eq_true rfl⟩ ⟨Nat.le_of_ble_eq_true rfl, Nat.le_of_ble_eq_true rfl⟩ (Nat.le_of_ble_eq_true rfl) (fun u hu => ?_)
    obtain ⟨R9, ad2, w9⟩ := u
    obtain ⟨ad9, had2, g1, g2, gt, gr, gc, gg, hw9⟩ := hu
    dsimp only at g1 g2 gt gr gc gg hw9 ⊢
    subst g1
    subst g2
    rw [← had2 0 (by omega) (by omega) (by omega), ← had2 (40 + 2 * i) (by omega) (by omega) (by omega), ← had2 (40 + 2 * j) (by omega) (by omega) (by omega), ← had2 6 (by omega) (by omega) (by omega), ← had2 (80 + 4 * nt) (by omega) (by omega) (by omega)]
    have hA : ∀ y, y ≠ 80 + 4 * nt → y ≠ 80 + 4 * nt + 1 → y ≠ 80 + 4 * nt + 1 + 1 → y ≠ 80 + 4 * nt + 3 → ad2 y = ad y := fun y h0 h1 h2 h3 => by rw [had2 y h1 h2 h3, had1 y h0]
    refine x_wc (w' := k_c cy ad2 (talkQ q nt i j) ns nt (talkI I nt (stepF I (homeF I (40 + 2 * i) 0)) (priceF I (homeF I (40 + 2 * i) 0))) (talkJ J nt)) (kc_talk hX hq hA (fun x h0 h1 h2 h3 => by rw [hw9 x h0 h1 h2 h3, up_ne _ _ h0]) gt gr gc gg) ?_
    have hR2 : ∀ r, r < 19 → r ∈ k_Rt R nt := fun r hr => by have := hL.1 r hr; simp [k_Rt, this]
    refine x_astore F [(7, .ref (ad2 (80 + 4 * nt))), (6, .int (priceF I (homeF I (40 + 2 * i) 0))), (5, .int (stepF I (homeF I (40 + 2 * i) 0))), (4, .int (homeF I (40 + 2 * i) 0)), (0, .ref (ad2 0)), (1, .ref (ad2 (40 + 2 * i))), (2, .ref (ad2 (40 + 2 * j))), (3, .ref (ad2 6))] dX4_newTalk_63 (by decide) rfl ?_
    refine x_aload F dX4_newTalk_65 0 rfl ?_
    refine g_X4_169 F (by simp) (sc_tlk (tlk_rng nt)) rfl dX4_newTalk_67 ?_
    refine x_aload_n F dX4_newTalk_70 rfl 7 rfl ?_
    refine z_callVv F [.ref (ad2 6)] (c_X1_become l D cy lo (k_Rt R nt) ad2 (talkQ q nt i j) ns nt (talkI I nt (stepF I (homeF I (40 + 2 * i) 0)) (priceF I (homeF I (40 + 2 * i) 0))) (talkJ J nt) hR2 (80 + 4 * nt + 1) 6 (Or.inr (by omega)) (by simp) (by simp) (Or.inl rfl) (hR2 6 (by decide)) (hR2 7 (by decide)) n (by rw [show talkI I nt (stepF I (homeF I (40 + 2 * i) 0)) (priceF I (homeF I (40 + 2 * i) 0)) 6 1 = I 6 1 by (have z0 : ¬ 6 = 80 + 4 * nt := by omega); (have z1 : ¬ 6 = 80 + 4 * nt + 1 := by omega); (have z2 : ¬ 6 = 80 + 4 * nt + 1 + 1 := by omega); simp [talkI, z0, z1, z2]]; exact hlen) hn5 (by omega) (by omega)) mc_X1_become mv_X1_become lk_X4_225 (by simp) (sc_rte (Or.inr (by omega))) rfl rfl rfl dX4_newTalk_71 ⟨Nat.le_of_ble_eq_true rfl, Nat.le_of_ble_eq_true rfl⟩ ⟨Nat.le_of_ble_eq_true rfl, Nat.le_of_ble_eq_true rfl⟩ (Nat.le_of_ble_eq_true rfl) ?_
    refine x_aload F dX4_newTalk_74 0 rfl ?_
    rw [hQ]
    exact x_aret F (v := some (ad2 (80 + 4 * nt))) hr hlk ⟨ad2, hA, rfl, rfl⟩ dX4_newTalk_76
  refine x_aload_n F dX4_newTalk_0 rfl 1 rfl ?_
  refine x_iconst F (v := 0) dX4_newTalk_1 (by decide) ?_
  refine z_callVi F [.int 0] (c_X2_homeAt l D cy lo R ad q ns nt I J hR (40 + 2 * i) 0 (sub_rng hi hL) ((hL.2.1 _ hi).1) ((hL.2.1 _ hi).2)) mc_X2_homeAt mv_X2_homeAt lk_X4_96 (hL.2.1 _ hi).1 (sc_sub (sub_rng hi hL)) rfl rfl rfl dX4_newTalk_2 ⟨Nat.le_of_ble_eq_true rfl, Nat.le_of_ble_eq_true rfl⟩ ⟨Nat.le_of_ble_eq_true rfl, Nat.le_of_ble_eq_true rfl⟩ (Nat.le_of_ble_eq_true rfl) ?_
  refine x_istore F [(4, .int (homeF I (40 + 2 * i) 0)), (0, .ref (ad 0)), (1, .ref (ad (40 + 2 * i))), (2, .ref (ad (40 + 2 * j))), (3, .ref (ad 6))] dX4_newTalk_5 (by decide) rfl ?_
  refine x_iload F dX4_newTalk_7 0 rfl ?_
  refine z_callSi F [.int (homeF I (40 + 2 * i) 0)] (c_X4_isCarrier l D cy lo R ad _ (homeF I (40 + 2 * i) 0)) mc_X4_isCarrier ms_X4_isCarrier lk_X4_204 rfl rfl dX4_newTalk_9 ⟨Nat.le_of_ble_eq_true rfl, Nat.le_of_ble_eq_true rfl⟩ ⟨Nat.le_of_ble_eq_true rfl, Nat.le_of_ble_eq_true rfl⟩ (Nat.le_of_ble_eq_true rfl) ?_
  refine x_if_eq F 25 dX4_newTalk_12 (by decide) (fun h12 => ?_) (fun h12 => ?_)
  · rw [kb0] at h12
    refine x_iconst F (v := 1) dX4_newTalk_25 (by decide) ?_
    refine x_cast (y := stepF I (homeF I (40 + 2 * i) 0)) (by simp [stepF, *]) ?_
    refine x_istore F [(5, .int (stepF I (homeF I (40 + 2 * i) 0))), (4, .int (homeF I (40 + 2 * i) 0)), (0, .ref (ad 0)), (1, .ref (ad (40 + 2 * i))), (2, .ref (ad (40 + 2 * j))), (3, .ref (ad 6))] dX4_newTalk_26 (by decide) rfl ?_
    refine x_iload F dX4_newTalk_28 1 rfl ?_
    refine z_callSi F [.int (homeF I (40 + 2 * i) 0)] (c_X4_isCarrier l D cy lo R ad _ (homeF I (40 + 2 * i) 0)) mc_X4_isCarrier ms_X4_isCarrier lk_X4_204 rfl rfl dX4_newTalk_30 ⟨Nat.le_of_ble_eq_true rfl, Nat.le_of_ble_eq_true rfl⟩ ⟨Nat.le_of_ble_eq_true rfl, Nat.le_of_ble_eq_true rfl⟩ (Nat.le_of_ble_eq_true rfl) ?_
    refine x_if_eq F 46 dX4_newTalk_33 (by decide) (fun h33 => ?_) (fun h33 => ?_)
    · rw [kb0] at h33
      refine x_bipush F (v := 10) dX4_newTalk_46 (by decide) ?_
      refine x_cast (y := priceF I (homeF I (40 + 2 * i) 0)) (by first | (simp [priceF, *]; done) | (simp_all [priceF]; done)) ?_
      refine x_istore F [(6, .int (priceF I (homeF I (40 + 2 * i) 0))), (5, .int (stepF I (homeF I (40 + 2 * i) 0))), (4, .int (homeF I (40 + 2 * i) 0)), (0, .ref (ad 0)), (1, .ref (ad (40 + 2 * i))), (2, .ref (ad (40 + 2 * j))), (3, .ref (ad 6))] dX4_newTalk_48 (by decide) rfl ?_
      exact k50
    · rw [kb1] at h33
      refine x_aload_n F dX4_newTalk_36 rfl 2 rfl ?_
      refine g_X4_13 F (hL.1 0 (by decide)) sc_0 rfl dX4_newTalk_37 ?_
      refine x_iload F dX4_newTalk_40 1 rfl ?_
      refine y_iald F (hR 2 (by decide)) ss_2 (vin_car ‹_›) dX4_newTalk_42 ?_
      refine x_goto F 48 dX4_newTalk_43 (by decide) ?_
      refine x_cast (y := priceF I (homeF I (40 + 2 * i) 0)) (by first | (simp [priceF, *]; done) | (simp_all [priceF]; done)) ?_
      refine x_istore F [(6, .int (priceF I (homeF I (40 + 2 * i) 0))), (5, .int (stepF I (homeF I (40 + 2 * i) 0))), (4, .int (homeF I (40 + 2 * i) 0)), (0, .ref (ad 0)), (1, .ref (ad (40 + 2 * i))), (2, .ref (ad (40 + 2 * j))), (3, .ref (ad 6))] dX4_newTalk_48 (by decide) rfl ?_
      exact k50
  · rw [kb1] at h12
    refine x_aload_n F dX4_newTalk_15 rfl 1 rfl ?_
    refine g_X4_9 F (hL.1 0 (by decide)) sc_0 rfl dX4_newTalk_16 ?_
    refine x_iload F dX4_newTalk_19 0 rfl ?_
    refine y_iald F (hR 1 (by decide)) ss_1 (vin_car ‹_›) dX4_newTalk_21 ?_
    refine x_goto F 26 dX4_newTalk_22 (by decide) ?_
    refine x_cast (y := stepF I (homeF I (40 + 2 * i) 0)) (by simp [stepF, *]) ?_
    refine x_istore F [(5, .int (stepF I (homeF I (40 + 2 * i) 0))), (4, .int (homeF I (40 + 2 * i) 0)), (0, .ref (ad 0)), (1, .ref (ad (40 + 2 * i))), (2, .ref (ad (40 + 2 * j))), (3, .ref (ad 6))] dX4_newTalk_26 (by decide) rfl ?_
    refine x_iload F dX4_newTalk_28 1 rfl ?_
    refine z_callSi F [.int (homeF I (40 + 2 * i) 0)] (c_X4_isCarrier l D cy lo R ad _ (homeF I (40 + 2 * i) 0)) mc_X4_isCarrier ms_X4_isCarrier lk_X4_204 rfl rfl dX4_newTalk_30 ⟨Nat.le_of_ble_eq_true rfl, Nat.le_of_ble_eq_true rfl⟩ ⟨Nat.le_of_ble_eq_true rfl, Nat.le_of_ble_eq_true rfl⟩ (Nat.le_of_ble_eq_true rfl) ?_
    refine x_if_eq F 46 dX4_newTalk_33 (by decide) (fun h33 => ?_) (fun h33 => ?_)
    · rw [kb0] at h33
      refine x_bipush F (v := 10) dX4_newTalk_46 (by decide) ?_
      refine x_cast (y := priceF I (homeF I (40 + 2 * i) 0)) (by first | (simp [priceF, *]; done) | (simp_all [priceF]; done)) ?_
      refine x_istore F [(6, .int (priceF I (homeF I (40 + 2 * i) 0))), (5, .int (stepF I (homeF I (40 + 2 * i) 0))), (4, .int (homeF I (40 + 2 * i) 0)), (0, .ref (ad 0)), (1, .ref (ad (40 + 2 * i))), (2, .ref (ad (40 + 2 * j))), (3, .ref (ad 6))] dX4_newTalk_48 (by decide) rfl ?_
      exact k50
    · rw [kb1] at h33
      refine x_aload_n F dX4_newTalk_36 rfl 2 rfl ?_
      refine g_X4_13 F (hL.1 0 (by decide)) sc_0 rfl dX4_newTalk_37 ?_
      refine x_iload F dX4_newTalk_40 1 rfl ?_
      refine y_iald F (hR 2 (by decide)) ss_2 (vin_car ‹_›) dX4_newTalk_42 ?_
      refine x_goto F 48 dX4_newTalk_43 (by decide) ?_
      refine x_cast (y := priceF I (homeF I (40 + 2 * i) 0)) (by first | (simp [priceF, *]; done) | (simp_all [priceF]; done)) ?_
      refine x_istore F [(6, .int (priceF I (homeF I (40 + 2 * i) 0))), (5, .int (stepF I (homeF I (40 + 2 * i) 0))), (4, .int (homeF I (40 + 2 * i) 0)), (0, .ref (ad 0)), (1, .ref (ad (40 + 2 * i))), (2, .ref (ad (40 + 2 * j))), (3, .ref (ad 6))] dX4_newTalk_48 (by decide) rfl ?_
      exact k50
