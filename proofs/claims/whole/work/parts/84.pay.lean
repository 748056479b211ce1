section MIDS4
theorem SR.cls {q : Nat → Nat → Nat} {ns nt : Nat} {Ic Ic' Im : Nat → Nat → Int32} {Jc Jc' Jm : Nat → Nat → Int64} (h : SR q ns nt Ic Jc Im Jm) (ec : ∀ r, r < 10 ∨ 40 ≤ r → r ≠ 6 → r ≠ 7 → Ic' r = Ic r) (jc : ∀ r, r = 10 ∨ 83 ≤ r → Jc' r = Jc r) : SR q ns nt Ic' Jc' Im Jm := by
  refine ⟨h.hns, h.hnt, ?_, ?_, h.m8, h.m13, ?_, ?_, h.zz, ?_, ?_, ?_, ?_, h.new⟩
  · rw [ec 0 (by omega) (by omega) (by omega)]; exact h.c6
  · rw [ec 0 (by omega) (by omega) (by omega)]; exact h.c7
  · unfold sTar
    rw [ec 1 (by omega) (by omega) (by omega), ec 2 (by omega) (by omega) (by omega)]
    exact h.tar
  · unfold sLnk
    rw [ec 8 (by omega) (by omega) (by omega), ec 9 (by omega) (by omega) (by omega)]
    exact h.lnk
  · unfold sDbt
    rw [jc 10 (by omega)]
    exact h.dbt
  · intro k hk
    rw [chSum_eq (J := Jc) (fun j _ => jc _ (by omega))]
    exact h.chg k hk
  · intro i hi
    rw [ec (40 + 2 * i) (by omega) (by omega) (by omega), ec (40 + 2 * i + 1) (by omega) (by omega) (by omega)]
    exact h.sub i hi
  · intro j hj
    exact (h.cal j hj).eq (fun r hr => ec r (by omega) (by omega) (by omega)) (fun _ _ _ => rfl) (fun _ _ => rfl)
theorem due_eq {a b : Int32} {n : Nat} (h : b = nI n) (h1 : 1 ≤ n) (h2 : n ≤ 10) : (!decide (b ≤ 0) && decide (a - a / b * b = 0)) = decide (a - a / b * b = 0) := by
  have e : decide (b ≤ 0) = false := by
    rw [decide_eq_false_iff_not, h]
    intro hc
    have hc2 : nI n ≤ nI 0 := hc
    rw [nI_leI (by omega) (by omega)] at hc2
    omega
  rw [e, Bool.not_false, Bool.true_and]
theorem pay_sub {q : Nat → Nat → Nat} {ns nt : Nat} {Ic Im : Nat → Nat → Int32} {Jc Jm : Nat → Nat → Int64} (h : SR q ns nt Ic Jc Im Jm) {k i : Nat} (hk : k < nt) (hi : i = q (80 + 4 * k) 0) :
    dueF Ic (80 + 4 * k) = dueM Im k ∧ (!dueF Ic (80 + 4 * k) || payB Ic (40 + 2 * i) (Ic (80 + 4 * k) 2) (Ic (80 + 4 * k) 3)) = paidB Im k i ∧ SR q ns nt (if dueF Ic (80 + 4 * k) = true then payI Ic (40 + 2 * i) (Ic (80 + 4 * k) 2) (Ic (80 + 4 * k) 3) else Ic) Jc (paidI Im k i) Jm := by
  have hns := h.hns
  have hnt := h.hnt
  obtain ⟨⟨⟨g1, g2⟩, g25, g26⟩, ⟨n, n1, n2, n3⟩, g27, g28, g29, g30, g31, -⟩ := h.cal k hk
  have hil : i < ns := by omega
  obtain ⟨-, s23, s24⟩ := h.sub i hil
  have hd : dueF Ic (80 + 4 * k) = dueM Im k := by rw [dueF, dueM, ← g28, ← g30, due_eq n3 n1 n2]
  refine ⟨hd, ?_, ?_⟩
  · rw [paidB, payB, hd, s23, s24, g28, g29, Bool.or_assoc]
  · unfold paidI
    rw [← hd]
    by_cases d : dueF Ic (80 + 4 * k) = true
    · rw [if_pos d, if_pos d, payI, s23, s24, g28, g29]
      by_cases c1 : Ic (40 + 2 * i) 3 < Ic (80 + 4 * k) 2
      · rw [if_pos c1, if_pos c1]
        by_cases c2 : Ic (40 + 2 * i) 2 < Ic (80 + 4 * k) 3
        · rw [if_pos c2, if_pos c2, Int32.sub_zero]
          exact ⟨h.hns, h.hnt, (by have := h.c6; (try simp (disch := omega) only [wI_row, wI_off]); exact this), (by have := h.c7; (try simp (disch := omega) only [wI_row, wI_off]); exact this), (by have := h.m8; (try simp (disch := omega) only [wI_row, wI_off]); exact this), (by have := h.m13; (try simp (disch := omega) only [wI_row, wI_off]); exact this), (by have := h.tar; unfold sTar at this ⊢; (try simp (disch := omega) only [wI_row]); exact this), (by have := h.lnk; unfold sLnk at this ⊢; (try simp (disch := omega) only [wI_row]); exact this), (by have := h.zz; unfold sZ at this ⊢; (try simp (disch := omega) only [wI_row]); exact this), h.dbt, h.chg, (fun k9 hk9 => by
      by_cases e8 : k9 = i
      · subst e8
        simp (disch := omega) only [wI_row, wI_at, wI_off]
        exact ⟨(h.sub k9 hk9).1, trivial, s24⟩
      · have := h.sub k9 hk9
        simp (disch := omega) only [wI_row, wI_off]
        exact this), (fun j hj => (h.cal j hj).eq (fun r hr => by try simp (disch := omega) only [wI_row]) (fun r h1 h2 => by try simp (disch := omega) only [wI_row]) (fun i _ => by try simp (disch := omega) only [wI_row])), (by have := h.new; unfold sNew at this ⊢; (try simp (disch := omega) only [wI_row]); exact this)⟩
        · rw [if_neg c2, if_neg c2]
          exact ⟨h.hns, h.hnt, (by have := h.c6; (try simp (disch := omega) only [wI_row, wI_off]); exact this), (by have := h.c7; (try simp (disch := omega) only [wI_row, wI_off]); exact this), (by have := h.m8; (try simp (disch := omega) only [wI_row, wI_off]); exact this), (by have := h.m13; (try simp (disch := omega) only [wI_row, wI_off]); exact this), (by have := h.tar; unfold sTar at this ⊢; (try simp (disch := omega) only [wI_row]); exact this), (by have := h.lnk; unfold sLnk at this ⊢; (try simp (disch := omega) only [wI_row]); exact this), (by have := h.zz; unfold sZ at this ⊢; (try simp (disch := omega) only [wI_row]); exact this), h.dbt, h.chg, (fun k9 hk9 => by
      by_cases e8 : k9 = i
      · subst e8
        simp (disch := omega) only [wI_row, wI_at, wI_off]
        exact ⟨(h.sub k9 hk9).1, trivial, s24⟩
      · have := h.sub k9 hk9
        simp (disch := omega) only [wI_row, wI_off]
        exact this), (fun j hj => (h.cal j hj).eq (fun r hr => by try simp (disch := omega) only [wI_row]) (fun r h1 h2 => by try simp (disch := omega) only [wI_row]) (fun i _ => by try simp (disch := omega) only [wI_row])), (by have := h.new; unfold sNew at this ⊢; (try simp (disch := omega) only [wI_row]); exact this)⟩
      · rw [if_neg c1, if_neg c1]
        exact ⟨h.hns, h.hnt, (by have := h.c6; (try simp (disch := omega) only [wI_row, wI_off]); exact this), (by have := h.c7; (try simp (disch := omega) only [wI_row, wI_off]); exact this), (by have := h.m8; (try simp (disch := omega) only [wI_row, wI_off]); exact this), (by have := h.m13; (try simp (disch := omega) only [wI_row, wI_off]); exact this), (by have := h.tar; unfold sTar at this ⊢; (try simp (disch := omega) only [wI_row]); exact this), (by have := h.lnk; unfold sLnk at this ⊢; (try simp (disch := omega) only [wI_row]); exact this), (by have := h.zz; unfold sZ at this ⊢; (try simp (disch := omega) only [wI_row]); exact this), h.dbt, h.chg, (fun k9 hk9 => by
      by_cases e8 : k9 = i
      · subst e8
        simp (disch := omega) only [wI_row, wI_at, wI_off]
        exact ⟨(h.sub k9 hk9).1, s23, trivial⟩
      · have := h.sub k9 hk9
        simp (disch := omega) only [wI_row, wI_off]
        exact this), (fun j hj => (h.cal j hj).eq (fun r hr => by try simp (disch := omega) only [wI_row]) (fun r h1 h2 => by try simp (disch := omega) only [wI_row]) (fun i _ => by try simp (disch := omega) only [wI_row])), (by have := h.new; unfold sNew at this ⊢; (try simp (disch := omega) only [wI_row]); exact this)⟩
    · rw [if_neg d, if_neg d]
      exact h
theorem chF_c {J : Nat → Nat → Int64} {t k : Nat} (hk : k < 25) : chF J t (nI k) = J (t + 3) k := by rw [chF, if_pos (isP_c hk), clamp_c (by omega)]
theorem addch_c {J : Nat → Nat → Int64} {t k : Nat} {x : Int32} (hk : k < 25) : addChJ J t (nI k) x = wJ J (t + 3) k (J (t + 3) k + x.toInt64) := by
  rw [addChJ, if_pos (isP_c hk), clamp_c (by omega)]
  rfl
theorem chSum_add {J : Nat → Nat → Int64} {nt j k k' : Nat} {x : Int64} (hj : j < nt) (hk : k < 25) (hk' : k' < 25) : ∀ n, n < 1000 → chSum (wJ J (80 + 4 * j + 3) k (J (80 + 4 * j + 3) k + x)) nt (nI k') n = chSum J nt (nI k') n + (if j < n ∧ k' = k then x else 0) := by
  intro n
  induction n with
  | zero => intro _; rw [if_neg (by omega)]; exact (Int64.add_zero _).symm
  | succ n ih =>
    intro hn
    rw [chSum, chSum, ih (by omega), clamp_c (by omega)]
    by_cases h1 : n < nt
    · rw [if_pos h1, if_pos h1, chF_c hk', chF_c hk']
      by_cases e : n = j
      · subst e
        rw [if_neg (by omega)]
        by_cases e2 : k' = k
        · subst e2
          rw [if_pos ⟨by omega, rfl⟩, wJ_at]
          grind
        · rw [if_neg (by omega), wJ_off e2]
          grind
      · rw [wJ_row (by omega)]
        by_cases h2 : j < n ∧ k' = k
        · rw [if_pos h2, if_pos ⟨by omega, h2.2⟩]; grind
        · rw [if_neg h2, if_neg (by omega)]; grind
    · rw [if_neg h1, if_neg h1]
      by_cases h2 : j < n ∧ k' = k
      · rw [if_pos h2, if_pos ⟨by omega, h2.2⟩]
      · rw [if_neg h2, if_neg (by omega)]
/-- one hop is charged on both sides -/
theorem hop_step {Jc Jm : Nat → Nat → Int64} {nt j u v : Nat} {x : Int32} (hj : j < nt) (hn : nt ≤ 60) (hu : u < 5) (hv : v < 5) (hD : sDbt Jc Jm) (hC : sChg Jc Jm nt) :
    sDbt (addChJ (addDebtJ Jc (nI u) (nI v) x.toInt64) (80 + 4 * j) (pairI (nI u) (nI v)) x) (wJ Jm 19 (5 * u + v) (Jm 19 (5 * u + v) + x.toInt64)) ∧ sChg (addChJ (addDebtJ Jc (nI u) (nI v) x.toInt64) (80 + 4 * j) (pairI (nI u) (nI v)) x) (wJ Jm 19 (5 * u + v) (Jm 19 (5 * u + v) + x.toInt64)) nt := by
  rw [pair_c hu hv, addch_c (by omega), addd_c hu hv]
  constructor
  · intro a b ha hb
    have h1 := hD a b ha hb
    have g1 := hD u v hu hv
    by_cases e1 : a = u ∧ b = v
    · obtain ⟨rfl, rfl⟩ := e1
      by_cases e3 : a = b
      · subst e3
        simp (disch := omega) only [wJ_row, wJ_at]
        grind
      · simp (disch := omega) only [wJ_row, wJ_off, wJ_at]
        grind
    · by_cases e2 : a = v ∧ b = u
      · obtain ⟨rfl, rfl⟩ := e2
        have e3 : a ≠ b := fun e => e1 ⟨e, e.symm⟩
        simp (disch := omega) only [wJ_row, wJ_off, wJ_at]
        grind
      · simp (disch := omega) only [wJ_row, wJ_off]
        exact h1
  · intro k hk
    have h1 := hC k hk
    rw [chSum_add hj (by omega) hk 60 (by omega), chSum_eq (J := Jc) (fun j _ => by simp (disch := omega) only [wJ_row]), ← h1]
    by_cases e : k = 5 * u + v
    · subst e
      rw [wJ_at, if_pos ⟨by omega, rfl⟩]
    · rw [wJ_off e, if_neg (by omega), Int64.add_zero]
/-- a minute's charges over a way -/
theorem charge_sr {Ic Im : Nat → Nat → Int32} {Jc Jm : Nat → Nat → Int64} {nt j : Nat} {p : List Nat} (hj : j < nt) (hn : nt ≤ 60) (hD : sDbt Jc Jm) (hC : sChg Jc Jm nt) (hL : sLnk Ic Im) (hl : p.length ≤ 5) (h5 : ∀ y ∈ p, y < 5) (hR : Rou Ic (80 + 4 * j + 1) p) (h33 : ∀ i, i < p.length → Im 33 (5 * j + i) = nI (p.getD i 0)) (hop : ∀ m, m + 1 < p.length → ¬ Ic 8 (5 * p.getD m 0 + p.getD (m + 1) 0) = -1) :
    ∀ m, m ≤ p.length → sDbt (chargeJ Ic Jc (80 + 4 * j) m) (mchJ Im Jm j m) ∧ sChg (chargeJ Ic Jc (80 + 4 * j) m) (mchJ Im Jm j m) nt := by
  intro m
  induction m with
  | zero => intro _; exact ⟨hD, hC⟩
  | succ m ih =>
    intro hm
    obtain ⟨h1, h2⟩ := ih (by omega)
    rw [chargeJ, mchJ]
    by_cases e : m = 0
    · rw [if_pos e, if_pos e]
      exact ⟨hD, hC⟩
    · obtain ⟨z, rfl⟩ : ∃ z, m = z + 1 := ⟨m - 1, by omega⟩
      have hu := h5 _ (getD_mem (p := p) (j := z) (by omega))
      have hv := h5 _ (getD_mem (p := p) (j := z + 1) (by omega))
      have e17 : Ic 8 (5 * p.getD z 0 + p.getD (z + 1) 0) = Im 17 (5 * p.getD z 0 + p.getD (z + 1) 0) := by
        rcases hL (5 * p.getD z 0 + p.getD (z + 1) 0) (by omega) with ⟨-, g, -⟩ | ⟨-, g⟩
        · exact g
        · exact absurd g (hop z (by omega))
      rw [if_neg e, if_neg e, nI_p1, rou_at hR hl (by omega), rou_at hR hl (by omega), show 5 * j + (z + 1) - 1 = 5 * j + z by omega, h33 z (by omega), h33 (z + 1) (by omega), p5_c hu hv, rate_c hu hv, e17]
      exact hop_step hj hn hu hv h1 h2
theorem mch_row {I : Nat → Nat → Int32} {J : Nat → Nat → Int64} {j r : Nat} (h : r ≠ 19) : ∀ n, mchJ I J j n r = J r := by
  intro n
  induction n with
  | zero => rfl
  | succ n ih =>
    rw [mchJ]
    split
    · rfl
    · rw [wJ_row h, ih]
theorem pay_row {I : Nat → Nat → Int32} {r : Nat} {x t : Int32} {r' : Nat} (h : r' ≠ r) : payI I r x t r' = I r' := funext fun _ => pay_other h
theorem paid_row {I : Nat → Nat → Int32} {j i r : Nat} (h1 : r ≠ 23) (h2 : r ≠ 24) : paidI I j i r = I r := funext fun _ => paid_o h1 h2
set_option maxHeartbeats 1000000 in
/-- a minute of a call whose way stands -/
theorem min_pay {q : Nat → Nat → Nat} {ns nt : Nat} {Ic Im : Nat → Nat → Int32} {Jc Jm : Nat → Nat → Int64} (h0 : SR q ns nt Ic Jc Im Jm) {j i : Nat} (hk : j < nt) (hi : i = q (80 + 4 * j) 0) (hact : Im 27 j = 0) {p : List Nat} (hp1 : 1 ≤ p.length) (hl : p.length ≤ 5) (h5 : ∀ y ∈ p, y < 5) (hR : Rou Ic (80 + 4 * j + 1) p) (h33 : ∀ i, i < p.length → Im 33 (5 * j + i) = nI (p.getD i 0)) (hop : ∀ m, m + 1 < p.length → ¬ Ic 8 (5 * p.getD m 0 + p.getD (m + 1) 0) = -1)
    {cI : Nat → Nat → Int32} {cP : Bool} (ecI : cI = if dueF Ic (80 + 4 * j) = true then payI Ic (40 + 2 * i) (Ic (80 + 4 * j) 2) (Ic (80 + 4 * j) 3) else Ic) (ecP : cP = (!dueF Ic (80 + 4 * j) || payB Ic (40 + 2 * i) (Ic (80 + 4 * j) 2) (Ic (80 + 4 * j) 3))) :
    SR q ns nt (if cP = true then wI cI (80 + 4 * j) 7 (cI (80 + 4 * j) 7 + 1) else wI cI (80 + 4 * j) 6 2) (if cP = true then chargeJ cI Jc (80 + 4 * j) (cI (80 + 4 * j + 1) 1).toNatClampNeg else Jc) (mPayI Im j i) (mPayJ Im Jm j i p.length) ∧ (if mPayI Im j i 27 j = 2 then (1 : Int32) else 0) = if cP = true then 0 else 1 := by
  have hns := h0.hns
  have hnt := h0.hnt
  have hq := (h0.cal j hk).1.1.1
  obtain ⟨hd, hb, h⟩ := pay_sub h0 hk hi
  rw [← ecI] at h
  rw [← ecP] at hb
  have hrow : ∀ r, r ≠ 40 + 2 * i → cI r = Ic r := fun r g => by
    rw [ecI]
    split
    · exact pay_row g
    · rfl
  have hR2 : Rou cI (80 + 4 * j + 1) p := hR.row (hrow _ (by omega)) (hrow _ (by omega))
  have elen : (cI (80 + 4 * j + 1) 1).toNatClampNeg = p.length := by rw [hR2.1, clamp_c (by omega)]
  have e27 : paidI Im j i 27 j = 0 := by rw [paid_row (by decide) (by decide)]; exact hact
  rw [elen, mPayI, mPayJ, ← hb]
  cases cP with
  | true =>
    rw [if_pos rfl, if_pos rfl, if_pos rfl, if_pos rfl, if_pos rfl]
    have hch := charge_sr (Ic := cI) (Im := paidI Im j i) hk hnt h.dbt h.chg h.lnk hl h5 hR2 (fun m hm => by rw [paid_row (by decide) (by decide)]; exact h33 m hm) (fun m hm => by rw [hrow 8 (by omega)]; exact hop m hm) p.length (Nat.le_refl _)
    refine ⟨⟨h.hns, h.hnt, (by have := h.c6; (try simp (disch := omega) only [wI_row, wI_off]); exact this), (by have := h.c7; (try simp (disch := omega) only [wI_row, wI_off]); exact this), (by have := h.m8; (try simp (disch := omega) only [wI_row, wI_off]); exact this), (by have := h.m13; (try simp (disch := omega) only [wI_row, wI_off]); exact this), (by have := h.tar; unfold sTar at this ⊢; (try simp (disch := omega) only [wI_row]); exact this), (by have := h.lnk; unfold sLnk at this ⊢; (try simp (disch := omega) only [wI_row]); exact this), (by have := h.zz; unfold sZ at this ⊢; (try simp (disch := omega) only [wI_row]); exact this), hch.1, hch.2, (fun i hi => by have := h.sub i hi; (try simp (disch := omega) only [wI_row]); exact this), (fun k9 hk9 => by
      by_cases e8 : k9 = j
      · subst e8
        obtain ⟨g1, g2, g27, g28, g29, g30, g31, p', g⟩ := h.cal k9 hk9
        simp (disch := omega) only [sCal1, Rou, wI_row, wI_at, wI_off]
        exact ⟨g1, g2, g27, g28, g29, by rw [g30], g31, p', g⟩
      · exact (h.cal k9 hk9).eq (fun r hr => by simp (disch := omega) only [wI_row]) (fun r h1 h2 => by
          by_cases e7 : r = 30
          · subst e7
            rw [wI_off e8]
          · simp (disch := omega) only [wI_row]) (fun i _ => by simp (disch := omega) only [wI_row])), (fun k9 g1 g2 => by
      have := h.new k9 g1 g2
      simp (disch := omega) only [wI_row, wI_off]
      exact this)⟩, ?_⟩
    rw [wI_row (by decide), e27, if_neg (by decide)]
  | false =>
    rw [if_neg Bool.false_ne_true, if_neg Bool.false_ne_true, if_neg Bool.false_ne_true, if_neg Bool.false_ne_true, if_neg Bool.false_ne_true]
    refine ⟨⟨h.hns, h.hnt, (by have := h.c6; (try simp (disch := omega) only [wI_row, wI_off]); exact this), (by have := h.c7; (try simp (disch := omega) only [wI_row, wI_off]); exact this), (by have := h.m8; (try simp (disch := omega) only [wI_row, wI_off]); exact this), (by have := h.m13; (try simp (disch := omega) only [wI_row, wI_off]); exact this), (by have := h.tar; unfold sTar at this ⊢; (try simp (disch := omega) only [wI_row]); exact this), (by have := h.lnk; unfold sLnk at this ⊢; (try simp (disch := omega) only [wI_row]); exact this), (by have := h.zz; unfold sZ at this ⊢; (try simp (disch := omega) only [wI_row]); exact this), h.dbt, h.chg, (fun i hi => by have := h.sub i hi; (try simp (disch := omega) only [wI_row]); exact this), (fun k9 hk9 => by
      by_cases e8 : k9 = j
      · subst e8
        obtain ⟨g1, g2, g27, g28, g29, g30, g31, p', g⟩ := h.cal k9 hk9
        simp (disch := omega) only [sCal1, Rou, wI_row, wI_at, wI_off]
        exact ⟨g1, g2, trivial, g28, g29, g30, g31, p', g⟩
      · exact (h.cal k9 hk9).eq (fun r hr => by simp (disch := omega) only [wI_row]) (fun r h1 h2 => by
          by_cases e7 : r = 27
          · subst e7
            rw [wI_off e8]
          · simp (disch := omega) only [wI_row]) (fun i _ => by simp (disch := omega) only [wI_row])), (by have := h.new; unfold sNew at this ⊢; (try simp (disch := omega) only [wI_row]); exact this)⟩, ?_⟩
    rw [wI_at, if_pos rfl]
end MIDS4
