section INV
theorem mPI_row {I : Nat → Nat → Int32} {j ci r : Nat} (h : r ≠ 16) (h2 : r ≠ 17) : mPI I j ci r = I r := by
  unfold mPI
  split
  · rw [wI_row h2, payL_row h]
  · exact wI_row h2
theorem hopL_row {J : Nat → Nat → Int64} {x y r : Nat} {z : Int64} (h : r ≠ 13) (h2 : r ≠ 14) : hopL J x y z r = J r := by rw [hopL, wJ_row h2, wJ_row h2, wJ_row h]
theorem chL_row {I : Nat → Nat → Int32} {J : Nat → Nat → Int64} {pp : List Nat} {r : Nat} (h : r ≠ 13) (h2 : r ≠ 14) : ∀ n, chargeL I J pp n r = J r := by
  intro n
  induction n with
  | zero => rfl
  | succ n ih =>
    rw [chargeL]
    split
    · rfl
    · rw [hopL_row h h2, ih]
theorem mPJ_row {I : Nat → Nat → Int32} {J : Nat → Nat → Int64} {j ci r : Nat} {pp : List Nat} (h : r ≠ 13) (h2 : r ≠ 14) : mPJ I J j ci pp r = J r := by
  unfold mPJ
  split
  · exact chL_row h h2 _
  · rfl
theorem minI_row {I : Nat → Nat → Int32} {J : Nat → Nat → Int64} {j ci r : Nat} {pp : List Nat} {v : Option (List Nat)} (h : r ≠ 16) (h2 : r ≠ 17) : minI I J j ci pp v r = I r := by
  cases hs : stopL I J pp pp.length with
  | false => rw [(min_no hs).1, mPI_row h h2]
  | true =>
    cases v with
    | none => rw [(min_none hs).1, wI_row h2]
    | some w => rw [(min_some hs).1, mPI_row h h2, moveL_row h2]
theorem minJ_row {I : Nat → Nat → Int32} {J : Nat → Nat → Int64} {j ci r : Nat} {pp : List Nat} {v : Option (List Nat)} (h : r ≠ 13) (h2 : r ≠ 14) : minJ I J j ci pp v r = J r := by
  cases hs : stopL I J pp pp.length with
  | false => rw [(min_no hs).2, mPJ_row h h2]
  | true =>
    cases v with
    | none => rw [(min_none hs).2]
    | some w => rw [(min_some hs).2, mPJ_row h h2]
/-- after m minutes and k calls of the next one: (I1, J1), c calls cut -/
def InvP (q : Nat → Nat → Nat) (ns nt T : Nat) (I0 : Nat → Nat → Int32) (J0 : Nat → Nat → Int64) (m k : Nat) (I1 : Nat → Nat → Int32) (J1 : Nat → Nat → Int64) (c : Int32) : Prop :=
  k ≤ nt ∧ (∀ r, r ≠ 16 → r ≠ 17 → I1 r = I0 r) ∧ (∀ r, r ≠ 13 → r ≠ 14 → J1 r = J0 r) ∧
  ∀ (Ic : Nat → Nat → Int32) (Jc : Nat → Nat → Int64), SR q ns nt T Ic Jc I0 J0 → SR q ns nt T (minS q nt (passS q nt (Ic, Jc, 0) m) k).1 (minS q nt (passS q nt (Ic, Jc, 0) m) k).2.1 I1 J1 ∧ c = (minS q nt (passS q nt (Ic, Jc, 0) m) k).2.2
theorem inv_0 {q : Nat → Nat → Nat} {ns nt T : Nat} {I0 : Nat → Nat → Int32} {J0 : Nat → Nat → Int64} : InvP q ns nt T I0 J0 0 0 I0 J0 0 :=
  ⟨Nat.zero_le _, fun _ _ _ => rfl, fun _ _ _ => rfl, fun Ic Jc h => ⟨h, rfl⟩⟩
theorem inv_skip {q : Nat → Nat → Nat} {ns nt T : Nat} {I0 I1 : Nat → Nat → Int32} {J0 J1 : Nat → Nat → Int64} {m k : Nat} {c : Int32} (h : InvP q ns nt T I0 J0 m k I1 J1 c) (hk : k < nt) (ha : ¬ I1 17 (8 * k + 2) = 0) : InvP q ns nt T I0 J0 m (k + 1) I1 J1 c := by
  refine ⟨hk, h.2.1, h.2.2.1, fun Ic Jc hS => ?_⟩
  obtain ⟨g1, g2⟩ := h.2.2.2 Ic Jc hS
  have hnt := g1.hnt
  have e : minS q nt (passS q nt (Ic, Jc, 0) m) (k + 1) = minS q nt (passS q nt (Ic, Jc, 0) m) k := by
    rw [minS, tickS, if_neg]
    intro hc
    rw [clamp_c (by omega)] at hc
    exact ha ((g1.cal k hk).2.2.2.1.trans hc.2)
  rw [e]
  exact ⟨g1, g2⟩
/-- what a minute of the call k asks -/
theorem inv_facts {q : Nat → Nat → Nat} {ns nt T : Nat} {I0 I1 : Nat → Nat → Int32} {J0 J1 : Nat → Nat → Int64} {m k : Nat} {c : Int32} (h : InvP q ns nt T I0 J0 m k I1 J1 c) (hS : SR q ns nt T I0 J0 I0 J0) (hk : k < nt) : ∃ (sn : Nat) (pp : List Nat) (v : Option (List Nat)), q (80 + 4 * k) 0 < 8 ∧ I1 17 (8 * k + 7) = nI (enc pp) ∧ (∀ y ∈ pp, y < 5) ∧ pp.length ≤ 5 ∧ 1 ≤ pp.length ∧ I1 17 (8 * k + 3) = nI sn ∧ (1 ≤ sn ∧ sn ≤ 10) ∧ I1 17 (8 * k) = nI (q (80 + 4 * k) 0) ∧ GL I1 J1 (opL I1 J1) (rtL I1) ∧ Best (opL I1 J1) (rtL I1) (List.getD pp 0 0) (List.getD pp (pp.length - 1) 0) v := by
  obtain ⟨g1, -⟩ := h.2.2.2 I0 J0 hS
  have hns := g1.hns
  obtain ⟨⟨⟨x1, x2⟩, x3, x4⟩, ⟨sn, s1, s2, s3⟩, -, -, k3, -, -, -, pp, ⟨p1, p2, p3, p4⟩, pR, p7⟩ := g1.cal k hk
  obtain ⟨v, hv, -, -⟩ := fb_rep (r := 6) (Or.inl rfl) g1.gc2 (p3 _ (getD_mem (p := pp) (j := 0) (by omega))) (p3 _ (getD_mem (p := pp) (j := pp.length - 1) (by omega)))
  exact ⟨sn, pp, v, by omega, p7, p3, p2, p1, k3.trans s3, ⟨s1, s2⟩, x3, g1.gl2, hv⟩
theorem inv_tick {q : Nat → Nat → Nat} {ns nt T : Nat} {I0 I1 : Nat → Nat → Int32} {J0 J1 : Nat → Nat → Int64} {m k : Nat} {c : Int32} (hT : T < 2 ^ 30) (h : InvP q ns nt T I0 J0 m k I1 J1 c) (hk : k < nt) (ha : I1 17 (8 * k + 2) = 0) {pp : List Nat} {v : Option (List Nat)} (h5 : ∀ y ∈ pp, y < 5) (hl : pp.length ≤ 5) (hp : I1 17 (8 * k + 7) = nI (enc pp)) (hv : Best (opL I1 J1) (rtL I1) (List.getD pp 0 0) (List.getD pp (pp.length - 1) 0) v) :
    InvP q ns nt T I0 J0 m (k + 1) (minI I1 J1 k (q (80 + 4 * k) 0) pp v) (minJ I1 J1 k (q (80 + 4 * k) 0) pp v) (c + (if minI I1 J1 k (q (80 + 4 * k) 0) pp v 17 (8 * k + 2) = 2 then 1 else 0)) := by
  refine ⟨hk, fun r r1 r2 => by rw [minI_row r1 r2, h.2.1 r r1 r2], fun r r1 r2 => by rw [minJ_row r1 r2, h.2.2.1 r r1 r2], fun Ic Jc hS => ?_⟩
  obtain ⟨g1, g2⟩ := h.2.2.2 Ic Jc hS
  obtain ⟨-, -, -, -, -, -, -, -, p', ⟨p1, p2, p3, p4⟩, pR, p7⟩ := g1.cal k hk
  have a1 := enc_lt5 h5 hl
  have a2 := enc_lt5 p3 p2
  have e : p' = pp := enc_inj _ _ p3 h5 ((nI_eq (by omega) (by omega)).mp (p7.symm.trans hp))
  subst e
  have r := tick_step g1 hT hk ha ⟨p1, p2⟩ p3 p4 pR hv (f := c)
  have e2 : ((minS q nt (passS q nt (Ic, Jc, 0) m) k).1, (minS q nt (passS q nt (Ic, Jc, 0) m) k).2.1, c) = minS q nt (passS q nt (Ic, Jc, 0) m) k := by rw [g2]
  rw [e2] at r
  exact r
theorem inv_round {q : Nat → Nat → Nat} {ns nt T : Nat} {I0 I1 : Nat → Nat → Int32} {J0 J1 : Nat → Nat → Int64} {m k : Nat} {c : Int32} (hn : nt ≤ 7) (h : InvP q ns nt T I0 J0 m nt I1 J1 c) : InvP q ns nt T I0 J0 (m + 1) 0 I1 J1 c := by
  refine ⟨Nat.zero_le _, h.2.1, h.2.2.1, fun Ic Jc hS => ?_⟩
  have e : minS q nt (passS q nt (Ic, Jc, 0) (m + 1)) 0 = minS q nt (passS q nt (Ic, Jc, 0) m) nt := min_stay 60 (by omega) (by omega)
  rw [e]
  exact h.2.2.2 Ic Jc hS
/-- the class's minutes behind the law's -/
theorem inv_end {q : Nat → Nat → Nat} {ns nt T : Nat} {I0 I1 : Nat → Nat → Int32} {J0 J1 : Nat → Nat → Int64} {m k : Nat} {c : Int32} (h : InvP q ns nt T I0 J0 m 0 I1 J1 c) (hS : SR q ns nt T I0 J0 I0 J0) : c = (passS q nt (I1, J1, 0) m).2.2 ∧ SR q ns nt T (passS q nt (I1, J1, 0) m).1 (passS q nt (I1, J1, 0) m).2.1 (passS q nt (I1, J1, 0) m).1 (passS q nt (I1, J1, 0) m).2.1 ∧ SR q ns nt T I1 J1 I0 J0 := by
  have h1 : SR q ns nt T I1 J1 I0 J0 := hS.same (fun r h1 h2 h3 h4 => h.2.1 r (by omega) (by omega)) (fun _ _ _ => rfl) (fun r h1 => h.2.2.1 r (by omega) (by omega)) (fun _ _ _ => rfl)
  obtain ⟨g1, g2⟩ := h.2.2.2 I1 J1 h1
  have g3 : SR q ns nt T (passS q nt (I1, J1, 0) m).1 (passS q nt (I1, J1, 0) m).2.1 I1 J1 := g1
  have hr := pass_row (q := q) (nt := nt) (S := (I1, J1, 0)) m
  exact ⟨g2, g3.same (fun _ _ _ _ _ => rfl) (fun r r1 r2 => hr.1 r (by omega) (by omega)) (fun _ _ => rfl) (fun r r1 r2 => hr.2 r (by omega) (by omega)), h1⟩
end INV
