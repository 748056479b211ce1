section TICK
theorem Rou.row {I I' : Nat → Nat → Int32} {r : Nat} {pp : List Nat} (h : Rou I r pp) (h1 : I' r = I r) (h2 : I' (r + 1) = I (r + 1)) : Rou I' r pp := by
  unfold Rou
  rw [h1, h2]
  exact h
theorem due_eq {a b : Int32} {n : Nat} (h : b = nI n) (h1 : 1 ≤ n) (h2 : n ≤ 10) : (!decide (b ≤ 0) && decide (a - a / b * b = 0)) = decide (a - a / b * b = 0) := by
  have e : decide (b ≤ 0) = false := by
    rw [decide_eq_false_iff_not, h]
    exact nI_nle (by omega) (by omega)
  rw [e, Bool.not_false, Bool.true_and]
theorem pay_row {I : Nat → Nat → Int32} {r : Nat} {x t : Int32} {r' : Nat} (h : r' ≠ r) : payI I r x t r' = I r' := funext fun _ => pay_other h
theorem payL_row {I : Nat → Nat → Int32} {j i r : Nat} (h : r ≠ 16) : payLI I j i r = I r := by
  unfold payLI
  split
  · split
    · split
      · rfl
      · exact wI_row h
    · exact wI_row h
  · rfl
set_option maxHeartbeats 1000000 in
theorem pay_sub {q : Nat → Nat → Nat} {ns nt T : Nat} {Ic : Nat → Nat → Int32} {Jc : Nat → Nat → Int64} {Il : Nat → Nat → Int32} {Jl : Nat → Nat → Int64} (h : SR q ns nt T Ic Jc Il Jl) (hT : T < 2 ^ 30) {k ci : Nat} (hk : k < nt) (hi : ci = q (80 + 4 * k) 0) :
    dueF Ic (80 + 4 * k) = dueL Il k ∧ (!dueF Ic (80 + 4 * k) || payB Ic (40 + 2 * ci) (Ic (80 + 4 * k) 2) (Ic (80 + 4 * k) 3)) = payLB Il k ci ∧ SR q ns nt T (if dueF Ic (80 + 4 * k) = true then payI Ic (40 + 2 * ci) (Ic (80 + 4 * k) 2) (Ic (80 + 4 * k) 3) else Ic) Jc (payLI Il k ci) Jl := by
  have hns := h.hns
  have hnt := h.hnt
  obtain ⟨⟨⟨g1, g2⟩, g3, g4⟩, ⟨n, n1, n2, n3⟩, ⟨np, p1, p3⟩, k2, k3, k4, k5, k6, -⟩ := h.cal k hk
  have hil : ci < ns := by omega
  obtain ⟨-, s1, s2, -⟩ := h.sub ci hil
  have hd : dueF Ic (80 + 4 * k) = dueL Il k := by rw [dueF, dueL, k3, k5, due_eq n3 n1 n2]
  refine ⟨hd, ?_, ?_⟩
  · rw [payLB, payB, hd, s1, s2, k3, k4, Bool.or_assoc]
  · unfold payLI
    rw [← hd]
    by_cases d : dueF Ic (80 + 4 * k) = true
    · rw [if_pos d, if_pos d, payI, s1, s2, k3, k4]
      by_cases c1 : Ic (40 + 2 * ci) 3 < Ic (80 + 4 * k) 2
      · rw [if_pos c1, if_pos c1]
        by_cases c2 : Ic (40 + 2 * ci) 2 < Ic (80 + 4 * k) 3
        · rw [if_pos c2, if_pos c2]
          exact h
        · rw [if_neg c2, if_neg c2]
          exact ⟨h.hns, h.hnt, (by have := h.c6; (try simp (disch := omega) only [wI_row, wI_off]); exact this), (by have := h.c7; (try simp (disch := omega) only [wI_row, wI_off]); exact this), (by have := h.g0; (try simp (disch := omega) only [wI_row, wI_off]); exact this), (by have := h.g1; (try simp (disch := omega) only [wI_row, wI_off]); exact this), (by have := h.tar; unfold sTar at this ⊢; (try simp (disch := omega) only [wI_row]); exact this), (by have := h.lnk; unfold sLnk at this ⊢; (try simp (disch := omega) only [wI_row]); exact this), h.dbt, h.chg, (fun i9 hi9 => by
        by_cases e9 : i9 = ci
        · subst e9
          obtain ⟨x1, x2, x3, ⟨nb, b1, b2⟩, nu, u1, u2⟩ := h.sub i9 hi9
          obtain ⟨nh, y1, y2, y3, y4, y5, y6⟩ := x1
          rw [b2, p3] at c2
          have hle : np ≤ nb := by
            rcases Nat.lt_or_ge nb np with z | z
            · exact absurd (nI_lt z (by omega)) c2
            · exact z
          unfold sSub1
          simp (disch := omega) only [wI_row, wI_at, wI_off]
          refine ⟨⟨nh, y1, y2, y3, y4, y5, y6⟩, trivial, x3, ⟨nb - np, by omega, by rw [b2, p3, pk_sub hle]⟩, nu, u1, u2⟩
        · exact (h.sub i9 hi9).eq (fun r hr => by simp (disch := omega) only [wI_row]) (fun k9 hk9 => by simp (disch := omega) only [wI_off])), (fun j9 hj9 => (h.cal j9 hj9).eq (fun r hr => by first | rfl | simp (disch := omega) only [wI_row, wI_off]) (fun k9 hk9 => by first | rfl | simp (disch := omega) only [wI_row, wI_off])), (fun j9 g1 g2 => by have := h.new j9 g1 g2; (try simp (disch := omega) only [wI_row, wI_off]); exact this)⟩
      · rw [if_neg c1, if_neg c1]
        exact ⟨h.hns, h.hnt, (by have := h.c6; (try simp (disch := omega) only [wI_row, wI_off]); exact this), (by have := h.c7; (try simp (disch := omega) only [wI_row, wI_off]); exact this), (by have := h.g0; (try simp (disch := omega) only [wI_row, wI_off]); exact this), (by have := h.g1; (try simp (disch := omega) only [wI_row, wI_off]); exact this), (by have := h.tar; unfold sTar at this ⊢; (try simp (disch := omega) only [wI_row]); exact this), (by have := h.lnk; unfold sLnk at this ⊢; (try simp (disch := omega) only [wI_row]); exact this), h.dbt, h.chg, (fun i9 hi9 => by
        by_cases e9 : i9 = ci
        · subst e9
          obtain ⟨x1, x2, x3, ⟨nb, b1, b2⟩, nu, u1, u2⟩ := h.sub i9 hi9
          obtain ⟨nh, y1, y2, y3, y4, y5, y6⟩ := x1
          rw [u2, n3] at c1
          have hle : n ≤ nu := by
            rcases Nat.lt_or_ge nu n with z | z
            · exact absurd (nI_lt z (by omega)) c1
            · exact z
          unfold sSub1
          simp (disch := omega) only [wI_row, wI_at, wI_off]
          refine ⟨⟨nh, y1, y2, y3, y4, y5, y6⟩, x2, trivial, ⟨nb, b1, b2⟩, nu - n, by omega, by rw [u2, n3, pk_sub hle]⟩
        · exact (h.sub i9 hi9).eq (fun r hr => by simp (disch := omega) only [wI_row]) (fun k9 hk9 => by simp (disch := omega) only [wI_off])), (fun j9 hj9 => (h.cal j9 hj9).eq (fun r hr => by first | rfl | simp (disch := omega) only [wI_row, wI_off]) (fun k9 hk9 => by first | rfl | simp (disch := omega) only [wI_row, wI_off])), (fun j9 g1 g2 => by have := h.new j9 g1 g2; (try simp (disch := omega) only [wI_row, wI_off]); exact this)⟩
    · rw [if_neg d, if_neg d]
      exact h
theorem chF_c {J : Nat → Nat → Int64} {t k : Nat} (hk : k < 25) : chF J t (nI k) = J (t + 3) k := by rw [chF, if_pos (isP_c hk), clamp_c (by omega)]
theorem addch_c {J : Nat → Nat → Int64} {t k : Nat} {x : Int32} (hk : k < 25) : addChJ J t (nI k) x = wJ J (t + 3) k (J (t + 3) k + x.toInt64) := by
  rw [addChJ, if_pos (isP_c hk), clamp_c (by omega)]
  rfl
theorem chSum_add {J : Nat → Nat → Int64} {nt j k k' : Nat} {x : Int64} (hj : j < nt) (hk : k < 25) (hk' : k' < 25) : ∀ n, n < 1000 → chSum (wJ J (80 + 4 * j + 3) k (J (80 + 4 * j + 3) k + x)) nt (nI k') n = chSum J nt (nI k') n + (if j < n ∧ k' = k then x else 0) := by
  intro n
  induction n with
  | zero => intro _; rw [if_neg (by omega)]; exact (Int64.add_zero _).symm
  | succ n ih =>
    intro hn
    rw [chSum, chSum, ih (by omega), clamp_c (by omega)]
    by_cases h1 : n < nt
    · rw [if_pos h1, if_pos h1, chF_c hk', chF_c hk']
      by_cases e : n = j
      · subst e
        rw [if_neg (by omega)]
        by_cases e2 : k' = k
        · subst e2
          rw [if_pos ⟨by omega, rfl⟩, wJ_at]
          grind
        · rw [if_neg (by omega), wJ_off e2]
          grind
      · rw [wJ_row (by omega)]
        by_cases h2 : j < n ∧ k' = k
        · rw [if_pos h2, if_pos ⟨by omega, h2.2⟩]; grind
        · rw [if_neg h2, if_neg (by omega)]; grind
    · rw [if_neg h1, if_neg h1]
      by_cases h2 : j < n ∧ k' = k
      · rw [if_pos h2, if_pos ⟨by omega, h2.2⟩]
      · rw [if_neg h2, if_neg (by omega)]
/-- one hop is charged on both sides -/
theorem hop_step {Jc Jl : Nat → Nat → Int64} {nt j u v : Nat} {x : Int32} (hj : j < nt) (hn : nt ≤ 7) (hu : u < 5) (hv : v < 5) (huv : u ≠ v) (hD : sDbt Jc Jl) (hC : sChg Jc Jl nt) :
    sDbt (addChJ (addDebtJ Jc (nI u) (nI v) x.toInt64) (80 + 4 * j) (pairI (nI u) (nI v)) x) (hopL Jl u v x.toInt64) ∧ sChg (addChJ (addDebtJ Jc (nI u) (nI v) x.toInt64) (80 + 4 * j) (pairI (nI u) (nI v)) x) (hopL Jl u v x.toInt64) nt := by
  obtain ⟨d1, d2, d3⟩ := hD
  rw [pair_c hu hv, addch_c (by omega), addd_c hu hv, hopL]
  refine ⟨⟨fun k hk => ?_, fun a b ha hb => ?_, fun a ha => ?_⟩, fun k hk => ?_⟩
  · have h1 := d1 k hk
    have h2 := d1 (5 * u + v) (by omega)
    have h3 := d1 (5 * v + u) (by omega)
    by_cases e1 : k = 5 * v + u
    · subst e1
      simp (disch := omega) only [wJ_row, wJ_at, wJ_off]
      rw [h3]
    · by_cases e2 : k = 5 * u + v
      · subst e2
        simp (disch := omega) only [wJ_row, wJ_at, wJ_off]
        rw [h2]
      · simp (disch := omega) only [wJ_row, wJ_off]
        exact h1
  · have h1 := d2 a b ha hb
    have h2 := d2 u v hu hv
    by_cases e1 : a = u ∧ b = v
    · obtain ⟨rfl, rfl⟩ := e1
      simp (disch := omega) only [wJ_row, wJ_at, wJ_off]
      grind
    · by_cases e2 : a = v ∧ b = u
      · obtain ⟨rfl, rfl⟩ := e2
        simp (disch := omega) only [wJ_row, wJ_at, wJ_off]
        grind
      · simp (disch := omega) only [wJ_row, wJ_off]
        exact h1
  · have h1 := d3 a ha
    simp (disch := omega) only [wJ_row, wJ_off]
    exact h1
  · have h1 := hC k hk
    rw [chSum_add hj (by omega) hk 60 (by omega), chSum_eq (J := Jc) (fun j _ => by simp (disch := omega) only [wJ_row]), ← h1]
    by_cases e : k = 5 * u + v
    · subst e
      rw [if_pos ⟨by omega, rfl⟩]
      simp (disch := omega) only [wJ_row, wJ_at]
    · rw [if_neg (by omega), Int64.add_zero]
      simp (disch := omega) only [wJ_row, wJ_off]
theorem nd_ne {pp : List Nat} (h : pp.Nodup) {m : Nat} (hm : m + 1 < pp.length) : List.getD pp m 0 ≠ List.getD pp (m + 1) 0 := by
  intro e
  rw [List.getD_eq_getElem?_getD, List.getD_eq_getElem?_getD, List.getElem?_eq_getElem (by omega), List.getElem?_eq_getElem hm, Option.getD_some, Option.getD_some] at e
  exact List.pairwise_iff_getElem.mp h m (m + 1) (by omega) hm (by omega) e
/-- a minute's charges over a way -/
theorem charge_sr {Ic Il : Nat → Nat → Int32} {Jc Jl : Nat → Nat → Int64} {nt j : Nat} {pp : List Nat} (hj : j < nt) (hn : nt ≤ 7) (hD : sDbt Jc Jl) (hC : sChg Jc Jl nt) (hL : sLnk Ic Il) (hl : pp.length ≤ 5) (h5 : ∀ y ∈ pp, y < 5) (hnd : pp.Nodup) (hR : Rou Ic (80 + 4 * j + 1) pp) (hop : ∀ m, m + 1 < pp.length → ¬ Ic 8 (5 * pp.getD m 0 + pp.getD (m + 1) 0) = -1) :
    ∀ m, m ≤ pp.length → sDbt (chargeJ Ic Jc (80 + 4 * j) m) (chargeL Il Jl pp m) ∧ sChg (chargeJ Ic Jc (80 + 4 * j) m) (chargeL Il Jl pp m) nt := by
  intro m
  induction m with
  | zero => intro _; exact ⟨hD, hC⟩
  | succ m ih =>
    intro hm
    obtain ⟨h1, h2⟩ := ih (by omega)
    rw [chargeJ, chargeL]
    by_cases e : m = 0
    · rw [if_pos e, if_pos e]
      exact ⟨hD, hC⟩
    · obtain ⟨z, rfl⟩ : ∃ z, m = z + 1 := ⟨m - 1, by omega⟩
      have hu := h5 _ (getD_mem (p := pp) (j := z) (by omega))
      have hv := h5 _ (getD_mem (p := pp) (j := z + 1) (by omega))
      have e12 : Il 12 (2 * (5 * pp.getD z 0 + pp.getD (z + 1) 0)) = Ic 8 (5 * pp.getD z 0 + pp.getD (z + 1) 0) := by
        rcases hL (5 * pp.getD z 0 + pp.getD (z + 1) 0) (by omega) with ⟨n, -, a1, a2, -⟩ | ⟨-, g⟩
        · rw [a1, a2]
        · exact absurd g (hop z (by omega))
      rw [if_neg e, if_neg e, nI_p1, rou_at hR hl (by omega), rou_at hR hl (by omega), Nat.add_sub_cancel, rate_c hu hv, e12]
      exact hop_step hj hn hu hv (nd_ne hnd (by omega)) h1 h2
set_option maxHeartbeats 1000000 in
/-- a minute of a call whose way stands -/
theorem min_pay {q : Nat → Nat → Nat} {ns nt T : Nat} {Ic : Nat → Nat → Int32} {Jc : Nat → Nat → Int64} {Il : Nat → Nat → Int32} {Jl : Nat → Nat → Int64} (h0 : SR q ns nt T Ic Jc Il Jl) (hT : T < 2 ^ 30) {j ci : Nat} (hk : j < nt) (hi : ci = q (80 + 4 * j) 0) (hact : Il 17 (8 * j + 2) = 0) {pp : List Nat} (hp1 : 1 ≤ pp.length) (hl : pp.length ≤ 5) (h5 : ∀ y ∈ pp, y < 5) (hnd : pp.Nodup) (hR : Rou Ic (80 + 4 * j + 1) pp) (hop : ∀ m, m + 1 < pp.length → ¬ Ic 8 (5 * pp.getD m 0 + pp.getD (m + 1) 0) = -1)
    {cI : Nat → Nat → Int32} {cP : Bool} (ecI : cI = if dueF Ic (80 + 4 * j) = true then payI Ic (40 + 2 * ci) (Ic (80 + 4 * j) 2) (Ic (80 + 4 * j) 3) else Ic) (ecP : cP = (!dueF Ic (80 + 4 * j) || payB Ic (40 + 2 * ci) (Ic (80 + 4 * j) 2) (Ic (80 + 4 * j) 3))) :
    SR q ns nt T (if cP = true then wI cI (80 + 4 * j) 7 (cI (80 + 4 * j) 7 + 1) else wI cI (80 + 4 * j) 6 2) (if cP = true then chargeJ cI Jc (80 + 4 * j) (cI (80 + 4 * j + 1) 1).toNatClampNeg else Jc) (mPI Il j ci) (mPJ Il Jl j ci pp) ∧ (if mPI Il j ci 17 (8 * j + 2) = 2 then (1 : Int32) else 0) = if cP = true then 0 else 1 := by
  have hns := h0.hns
  have hnt := h0.hnt
  have hq := (h0.cal j hk).1.1.1
  obtain ⟨hd, hb, h⟩ := pay_sub h0 hT hk hi
  rw [← ecI] at h
  rw [← ecP] at hb
  have hrow : ∀ r, r ≠ 40 + 2 * ci → cI r = Ic r := fun r g => by
    rw [ecI]
    split
    · exact pay_row g
    · rfl
  have hR2 : Rou cI (80 + 4 * j + 1) pp := hR.row (hrow _ (by omega)) (hrow _ (by omega))
  have elen : (cI (80 + 4 * j + 1) 1).toNatClampNeg = pp.length := by rw [hR2.1, clamp_c (by omega)]
  rw [elen, mPI, mPJ, ← hb]
  cases cP with
  | true =>
    rw [if_pos rfl, if_pos rfl, if_pos rfl, if_pos rfl, if_pos rfl]
    have hch := charge_sr (Ic := cI) (Il := payLI Il j ci) hk hnt h.dbt h.chg h.lnk hl h5 hnd hR2 (fun m hm => by rw [hrow 8 (by omega)]; exact hop m hm) pp.length (Nat.le_refl _)
    have hcl : ∀ n, chargeL (payLI Il j ci) Jl pp n = chargeL Il Jl pp n := by
      intro n
      induction n with
      | zero => rfl
      | succ n ih => rw [chargeL, chargeL, ih, payL_row (by omega)]
    rw [hcl] at hch
    have e17 : payLI Il j ci 17 = Il 17 := payL_row (by omega)
    refine ⟨⟨h.hns, h.hnt, (by have := h.c6; (try simp (disch := omega) only [wI_row, wI_off]); exact this), (by have := h.c7; (try simp (disch := omega) only [wI_row, wI_off]); exact this), (by have := h.g0; (try simp (disch := omega) only [wI_row, wI_off]); exact this), (by have := h.g1; (try simp (disch := omega) only [wI_row, wI_off]); exact this), (by have := h.tar; unfold sTar at this ⊢; (try simp (disch := omega) only [wI_row]); exact this), (by have := h.lnk; unfold sLnk at this ⊢; (try simp (disch := omega) only [wI_row]); exact this), hch.1, hch.2, (fun i9 hi9 => (h.sub i9 hi9).eq (fun r hr => by first | rfl | simp (disch := omega) only [wI_row, wI_off]) (fun k9 hk9 => by first | rfl | simp (disch := omega) only [wI_row, wI_off])), (fun j9 hj9 => by
      by_cases e8 : j9 = j
      · subst e8
        obtain ⟨x1, x2, x3, x4, x5, x6, x7, x8, pp', x⟩ := h.cal j9 hj9
        rw [e17] at x1 x4 x5 x6 x7 x8 x
        simp (disch := omega) only [sCal1, Rou, wI_row, wI_at, wI_off, e17]
        exact ⟨x1, x2, x3, x4, x5, x6, by rw [← x7], x8, pp', x⟩
      · exact (h.cal j9 hj9).eq (fun r hr => by simp (disch := omega) only [wI_row]) (fun k9 hk9 => by simp (disch := omega) only [wI_off])), (fun j9 g1 g2 => by have := h.new j9 g1 g2; (try simp (disch := omega) only [wI_row, wI_off]); exact this)⟩, ?_⟩
    rw [wI_off (by omega), e17, hact]
    decide
  | false =>
    rw [if_neg Bool.false_ne_true, if_neg Bool.false_ne_true, if_neg Bool.false_ne_true, if_neg Bool.false_ne_true, if_neg Bool.false_ne_true]
    have hnop : payLI Il j ci = Il := by
      have hb2 := hb.symm
      rw [payLB, Bool.or_eq_false_iff, Bool.or_eq_false_iff, Bool.not_eq_false', Bool.not_eq_false', Bool.not_eq_false', decide_eq_true_eq, decide_eq_true_eq] at hb2
      rw [payLI, if_pos hb2.1.1, if_pos hb2.1.2, if_pos hb2.2]
    rw [hnop] at h
    refine ⟨⟨h.hns, h.hnt, (by have := h.c6; (try simp (disch := omega) only [wI_row, wI_off]); exact this), (by have := h.c7; (try simp (disch := omega) only [wI_row, wI_off]); exact this), (by have := h.g0; (try simp (disch := omega) only [wI_row, wI_off]); exact this), (by have := h.g1; (try simp (disch := omega) only [wI_row, wI_off]); exact this), (by have := h.tar; unfold sTar at this ⊢; (try simp (disch := omega) only [wI_row]); exact this), (by have := h.lnk; unfold sLnk at this ⊢; (try simp (disch := omega) only [wI_row]); exact this), h.dbt, h.chg, (fun i9 hi9 => (h.sub i9 hi9).eq (fun r hr => by first | rfl | simp (disch := omega) only [wI_row, wI_off]) (fun k9 hk9 => by first | rfl | simp (disch := omega) only [wI_row, wI_off])), (fun j9 hj9 => by
      by_cases e8 : j9 = j
      · subst e8
        obtain ⟨x1, x2, x3, x4, x5, x6, x7, x8, pp', x⟩ := h.cal j9 hj9
        simp (disch := omega) only [sCal1, Rou, wI_row, wI_at, wI_off]
        exact ⟨x1, x2, x3, trivial, x5, x6, x7, x8, pp', x⟩
      · exact (h.cal j9 hj9).eq (fun r hr => by simp (disch := omega) only [wI_row]) (fun k9 hk9 => by simp (disch := omega) only [wI_off])), (fun j9 g1 g2 => by have := h.new j9 g1 g2; (try simp (disch := omega) only [wI_row, wI_off]); exact this)⟩, ?_⟩
    rw [wI_at]
    rfl
end TICK
