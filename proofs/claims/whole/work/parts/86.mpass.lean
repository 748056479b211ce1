section MIDS6
theorem chg_row {I : Nat → Nat → Int32} {J : Nat → Nat → Int64} {t r : Nat} (h : r ≠ 10) (h2 : r ≠ t + 3) : ∀ n, chargeJ I J t n r = J r := by
  have hA : ∀ (J : Nat → Nat → Int64) (a b : Int32) (x : Int64), addDebtJ J a b x r = J r := fun J a b x => by
    unfold addDebtJ addJ
    split
    · rw [wJ_row h, wJ_row h]
    · rfl
  have hC : ∀ (J : Nat → Nat → Int64) (k x : Int32), addChJ J t k x r = J r := fun J k x => by
    unfold addChJ addJ
    split
    · rw [wJ_row h2]
    · rfl
  intro n
  induction n with
  | zero => rfl
  | succ n ih =>
    rw [chargeJ]
    split
    · rfl
    · rw [hC, hA, ih]
theorem tick_row {q : Nat → Nat → Nat} {nt : Nat} {S : k_T3} {k : Nat} : (∀ r, r < 40 → r ≠ 11 → (tickS q nt S k).1 r = S.1 r) ∧ (∀ r, r < 80 → r ≠ 10 → (tickS q nt S k).2.1 r = S.2.1 r) := by
  have a1 : ∀ (s t r : Nat), r < 40 → r ≠ 11 → 40 ≤ s → 80 ≤ t → roI S.1 S.2.1 s t r = S.1 r := fun s t r g1 g2 g3 g4 => funext fun k => ro_other g2 (by omega) (by omega) (by omega) (by omega)
  have a2 : ∀ (s t r : Nat), r < 80 → r ≠ 10 → 80 ≤ t → roJ S.1 S.2.1 s t r = S.2.1 r := fun s t r g1 g2 g4 => by
    unfold roJ
    split
    · exact chg_row g2 (by omega) _
    · rfl
  unfold tickS
  split
  · split
    · exact ⟨fun r g1 g2 => a1 _ _ r g1 g2 (by omega) (by omega), fun r g1 g2 => a2 _ _ r g1 g2 (by omega)⟩
    · refine ⟨fun r g1 g2 => ?_, fun r g1 g2 => a2 _ _ r g1 g2 (by omega)⟩
      show wI _ _ 6 2 r = S.1 r
      rw [wI_row (by omega), a1 _ _ r g1 g2 (by omega) (by omega)]
  · exact ⟨fun _ _ _ => rfl, fun _ _ _ => rfl⟩
theorem min_row {q : Nat → Nat → Nat} {nt : Nat} {S : k_T3} : ∀ k, (∀ r, r < 40 → r ≠ 11 → (minS q nt S k).1 r = S.1 r) ∧ (∀ r, r < 80 → r ≠ 10 → (minS q nt S k).2.1 r = S.2.1 r) := by
  intro k
  induction k with
  | zero => exact ⟨fun _ _ _ => rfl, fun _ _ _ => rfl⟩
  | succ k ih =>
    have h := tick_row (q := q) (nt := nt) (S := minS q nt S k) (k := k)
    exact ⟨fun r g1 g2 => (h.1 r g1 g2).trans (ih.1 r g1 g2), fun r g1 g2 => (h.2 r g1 g2).trans (ih.2 r g1 g2)⟩
theorem pass_row {q : Nat → Nat → Nat} {nt : Nat} {S : k_T3} : ∀ k, (∀ r, r < 40 → r ≠ 11 → (passS q nt S k).1 r = S.1 r) ∧ (∀ r, r < 80 → r ≠ 10 → (passS q nt S k).2.1 r = S.2.1 r) := by
  intro k
  induction k with
  | zero => exact ⟨fun _ _ _ => rfl, fun _ _ _ => rfl⟩
  | succ k ih =>
    have h := min_row (q := q) (nt := nt) (S := passS q nt S k) 60
    exact ⟨fun r g1 g2 => (h.1 r g1 g2).trans (ih.1 r g1 g2), fun r g1 g2 => (h.2 r g1 g2).trans (ih.2 r g1 g2)⟩
theorem min_stay {q : Nat → Nat → Nat} {nt : Nat} {S : k_T3} : ∀ n, nt ≤ n → n < 1000 → minS q nt S n = minS q nt S nt := by
  intro n
  induction n with
  | zero => intro h _; rw [show nt = 0 by omega]
  | succ n ih =>
    intro h h2
    by_cases e : nt = n + 1
    · rw [e]
    · rw [minS, tickS, if_neg (fun g => by have := g.1; rw [clamp_c (by omega)] at this; omega), ih (by omega) (by omega)]
theorem minR_row {I I2 : Nat → Nat → Int32} {J J2 : Nat → Nat → Int64} {op : Nat → Nat → Bool} {rt : Nat → Nat → Nat} {j i n x y : Nat} (h : MinR I J op rt j i n x y I2 J2) : (∀ r, r < 13 ∨ 36 ≤ r → I2 r = I r) ∧ I2 13 0 = I 13 0 ∧ (∀ r, r ≠ 19 → J2 r = J r) := by
  have p1 : ∀ (I : Nat → Nat → Int32) r, r ≠ 23 → r ≠ 24 → r ≠ 27 → r ≠ 30 → mPayI I j i r = I r := fun I r g1 g2 g3 g4 => by
    unfold mPayI
    split
    · rw [wI_row g4, paid_row g1 g2]
    · rw [wI_row g3, paid_row g1 g2]
  have p2 : ∀ (I : Nat → Nat → Int32) n r, r ≠ 19 → mPayJ I J j i n r = J r := fun I n r g => by
    unfold mPayJ
    split
    · exact mch_row g n
    · rfl
  rcases h with ⟨-, rfl, rfl⟩ | ⟨-, I3, v, hF, -, -, ⟨-, rfl, rfl⟩ | ⟨w, -, rfl, rfl⟩⟩
  · exact ⟨fun r g => p1 I r (by omega) (by omega) (by omega) (by omega), by rw [p1 I 13 (by decide) (by decide) (by decide) (by decide)], fun r g => p2 I n r g⟩
  · exact ⟨fun r g => by rw [wI_row (by omega)]; exact funext fun k => hF r k (by omega) (by omega) (fun e => by omega), by rw [wI_row (by decide)]; exact hF 13 0 (by decide) (by decide) (fun _ => by decide), fun _ _ => rfl⟩
  · have m1 : ∀ r, r ≠ 31 → r ≠ 32 → r ≠ 33 → mMove I3 j w.length r = I3 r := fun r g1 g2 g3 => funext fun k => move_o g1 g2 g3
    exact ⟨fun r g => by rw [p1 _ r (by omega) (by omega) (by omega) (by omega), m1 r (by omega) (by omega) (by omega)]; exact funext fun k => hF r k (by omega) (by omega) (fun e => by omega), by rw [p1 _ 13 (by decide) (by decide) (by decide) (by decide), m1 13 (by decide) (by decide) (by decide)]; exact hF 13 0 (by decide) (by decide) (fun _ => by decide), fun r g => p2 _ _ r g⟩
/-- the reference's minutes against the class's -/
def pasP (q : Nat → Nat → Nat) (ns nt : Nat) (S : k_T3) (If : Nat → Nat → Int32) (Jf : Nat → Nat → Int64) (m k : Nat) (I1 : Nat → Nat → Int32) (J1 : Nat → Nat → Int64) (f : Int32) : Prop :=
  k ≤ nt ∧ SR q ns nt (minS q nt (passS q nt S m) k).1 (minS q nt (passS q nt S m) k).2.1 I1 J1 ∧ f = (minS q nt (passS q nt S m) k).2.2 ∧ I1 13 0 = 0 ∧ (∀ r, r < 13 ∨ 36 ≤ r → I1 r = If r) ∧ (∀ r, r ≠ 19 → J1 r = Jf r)
set_option maxHeartbeats 1000000 in
theorem mid_pass {cy : Nat → ClassId} {R : List Nat} {ad : Nat → Nat} {q : Nat → Nat → Nat} {ns nt : Nat} {I : Nat → Nat → Int32} {J : Nat → Nat → Int64} (h : SR q ns nt I J I J) {a : Int32} {r : Int32} {u' : k_S} (hp : (∃ (v : Int32) (u : k_S), ((isWi a 1 200 = true) ∧ v = ((passS q nt (I, J, 0) a.toNatClampNeg).2.2) ∧ u = (R, ad, k_c cy ad q ns nt ((passS q nt (I, J, 0) a.toNatClampNeg).1) ((passS q nt (I, J, 0) a.toNatClampNeg).2.1))) ∧ r = 0 ∧ k_O u v.toInt64 u') ∨ (∃ u : k_S, ((e_IA = e_IA ∧ isWi a 1 200 = false) ∧ u = (R, ad, k_c cy ad q ns nt I J)) ∧ r = 1 ∧ u' = u)) : ∃ (I1 : Nat → Nat → Int32) (J1 : Nat → Nat → Int64) (P : Nat → Nat → (Nat → Nat → Int32) → (Nat → Nat → Int64) → Int32 → Prop), u' = (R, ad, k_c cy ad q ns nt I1 J1) ∧ (isWi a 1 200 = true → P 0 0 (wI I1 13 0 0) J1 0) ∧ (∀ m k I9 J9 f, P m k I9 J9 f → I9 13 13 = nI nt ∧ I9 13 0 = 0) ∧ (∀ m k I9 J9 f, k < nt → P m k I9 J9 f → (I9 27 k = 0 → ∃ (i n x y : Nat) (op : Nat → Nat → Bool) (rt : Nat → Nat → Nat), i < 20 ∧ x < 5 ∧ y < 5 ∧ I9 32 k = nI n ∧ 1 ≤ n ∧ n ≤ 5 ∧ (∀ m2, m2 < n → isCar (I9 33 (5 * k + m2)) = true) ∧ I9 25 k = nI i ∧ ¬ I9 28 k = 0 ∧ I9 33 (5 * k) = nI x ∧ I9 33 (5 * k + n - 1) = nI y ∧ Grf I9 J9 op rt ∧ ∀ I2 J2, MinR I9 J9 op rt k i n x y I2 J2 → P m (k + 1) I2 J2 (f + if I2 27 k = 2 then 1 else 0)) ∧ (¬ I9 27 k = 0 → P m (k + 1) I9 J9 f)) ∧ (∀ m I9 J9 f, P m nt I9 J9 f → P (m + 1) 0 I9 J9 f) ∧ ∀ (b9 : Int32) (u9 : k_S), ((isWi a 1 200 = false ∧ b9 = 0 ∧ u9 = (R, ad, (k_c cy ad q ns nt (wI I1 13 0 1) J1))) ∨ (isWi a 1 200 = true ∧ ∃ (I' : Nat → Nat → Int32) (J' : Nat → Nat → Int64), u9 = (R, ad, (k_c cy ad q ns nt I' J')) ∧ P a.toNatClampNeg 0 I' J' b9)) → ∃ (I2 : Nat → Nat → Int32) (J2 : Nat → Nat → Int64), u9 = (R, ad, k_c cy ad q ns nt I2 J2) ∧ kFin q ns nt I2 J2 r b9.toInt64 := by
  have hns := h.hns
  have hnt := h.hnt
  rcases hp with ⟨v, u, ⟨hok, rfl, rfl⟩, rfl, hO⟩ | ⟨u, ⟨⟨-, hx⟩, rfl⟩, rfl, rfl⟩
  · have hpr := pass_row (q := q) (nt := nt) (S := (I, J, 0)) a.toNatClampNeg
    refine ⟨_, _, pasP q ns nt (I, J, 0) (passS q nt (I, J, 0) a.toNatClampNeg).1 (wJ (passS q nt (I, J, 0) a.toNatClampNeg).2.1 12 0 (passS q nt (I, J, 0) a.toNatClampNeg).2.2.toInt64), kO_c hO, fun _ => ⟨Nat.zero_le _, ?_, rfl, wI_at, fun r g => wI_row (by omega), fun _ _ => rfl⟩, fun m k I9 J9 f hP => ⟨hP.2.1.m13, hP.2.2.2.1⟩, fun m k I9 J9 f hk hP => ?_, fun m I9 J9 f hP => ?_, fun b9 u9 hm => ?_⟩
    · refine h.mod (fun r k g1 g2 g3 => ?_) (fun r g1 g2 => ?_)
      · rw [wI_eq, if_neg (by omega), hpr.1 r (by omega) (by omega)]
      · rw [wJ_row (by omega), hpr.2 r (by omega) (by omega)]
    · obtain ⟨hkn, hS, hf, h13, hI, hJ⟩ := hP
      obtain ⟨⟨⟨q1, q2⟩, g25, g26⟩, ⟨n, n1, n2, n3⟩, g27, g28, g29, g30, g31, p, ⟨p1, p2, p3⟩, pR, p32, p33⟩ := hS.cal k hk
      refine ⟨fun hact => ?_, fun hact => ?_⟩
      · refine ⟨q (80 + 4 * k) 0, p.length, p.getD 0 0, p.getD (p.length - 1) 0, _, _, by omega, p3 _ (getD_mem (by omega)), p3 _ (getD_mem (by omega)), p32, p1, p2, fun m2 hm2 => by rw [p33 m2 hm2]; exact car_of (p3 _ (getD_mem hm2)), g25, ?_, p33 0 (by omega), ?_, hS.grf, fun I2 J2 hm => ?_⟩
        · rw [n3]
          exact fun hc => absurd ((nI_eq (b := 0) (by omega) (by omega)).mp hc) (by omega)
        · rw [show 5 * k + p.length - 1 = 5 * k + (p.length - 1) by omega]
          exact p33 _ (by omega)
        · obtain ⟨r1, r2⟩ := tick_step hS hk hact ⟨p1, p2⟩ p3 pR p33 rfl rfl (f := f) hm
          obtain ⟨m1, m2, m3⟩ := minR_row hm
          have eS : ((minS q nt (passS q nt (I, J, 0) m) k).1, (minS q nt (passS q nt (I, J, 0) m) k).2.1, f) = minS q nt (passS q nt (I, J, 0) m) k := by rw [hf]
          rw [eS] at r1 r2
          exact ⟨by omega, r1, r2, by rw [m2, h13], fun r g => by rw [m1 r g, hI r g], fun r g => by rw [m3 r g, hJ r g]⟩
      · have e : minS q nt (passS q nt (I, J, 0) m) (k + 1) = minS q nt (passS q nt (I, J, 0) m) k := by
          rw [minS, tickS, if_neg]
          intro hc
          rw [clamp_c (by omega)] at hc
          exact hact (g27.trans hc.2)
        refine ⟨by omega, ?_, ?_, h13, hI, hJ⟩
        · rw [e]; exact hS
        · rw [e]; exact hf
    · obtain ⟨hkn, hS, hf, h13, hI, hJ⟩ := hP
      have e : minS q nt (passS q nt (I, J, 0) (m + 1)) 0 = minS q nt (passS q nt (I, J, 0) m) nt := min_stay 60 hnt (by omega)
      refine ⟨Nat.zero_le _, ?_, ?_, h13, hI, hJ⟩
      · rw [e]; exact hS
      · rw [e]; exact hf
    · rcases hm with ⟨hc, -⟩ | ⟨-, I2, J2, rfl, hkn, hS, hf, h13, hI, hJ⟩
      · exact absurd (hok.symm.trans hc) (by decide)
      · have hS2 : SR q ns nt (passS q nt (I, J, 0) a.toNatClampNeg).1 (passS q nt (I, J, 0) a.toNatClampNeg).2.1 I2 J2 := hS
        have hf2 : b9 = (passS q nt (I, J, 0) a.toNatClampNeg).2.2 := hf
        refine ⟨I2, J2, rfl, hS2.cls (fun r g1 g2 g3 => hI r (by omega)) (fun r g => ?_), h13, fun _ => ?_⟩
        · rw [hJ r (by omega), wJ_row (by omega)]
        · rw [hJ 12 (by decide), wJ_at, hf2]
  · refine ⟨I, J, fun _ _ _ _ _ => False, rfl, fun hc => absurd (hx.symm.trans hc) (by decide), fun _ _ _ _ _ hP => hP.elim, fun _ _ _ _ _ _ hP => hP.elim, fun _ _ _ _ hP => hP.elim, fun b9 u9 hm => ?_⟩
    rcases hm with ⟨-, rfl, rfl⟩ | ⟨hc, -⟩
    · exact ⟨_, _, rfl, fin_th h (by decide)⟩
    · exact absurd (hx.symm.trans hc) (by decide)
end MIDS6
