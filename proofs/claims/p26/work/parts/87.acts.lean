section ACTS
theorem mv_eq {I : Nat → Nat → Int32} {r n : Nat} {x : Int32} (h : I r 1 = nI n) (hn : n < 10) : moveB I r = true ∧ moveI I r x = wI (wI I (r + 1) n x) r 1 (nI (n + 1)) := by
  have h1 : moveB I r = true := by
    rw [moveB, h, Bool.and_eq_true, Bool.not_eq_true', decide_eq_false_iff_not, decide_eq_true_eq]
    exact ⟨nI_pos (by omega), nI_lt (b := 10) hn (by omega)⟩
  refine ⟨h1, ?_⟩
  rw [moveI, if_pos h1, h, nI_clamp (by omega), wI_row (by omega), h, nI_1]
theorem sCal1.up {q : Nat → Nat → Nat} {ns ns' j : Nat} {Ic Il : Nat → Nat → Int32} (h : sCal1 q ns Ic Il j) (hn : ns ≤ ns') : sCal1 q ns' Ic Il j := by
  obtain ⟨⟨⟨h1, h2⟩, h3⟩, h4⟩ := h
  exact ⟨⟨⟨by omega, by omega⟩, h3⟩, h4⟩
theorem tar_sr {q : Nat → Nat → Nat} {ns nt T : Nat} {I : Nat → Nat → Int32} {J : Nat → Nat → Int64} (h : SR q ns nt T I J I J) {f a b : Nat} (hf : f < 5) (ha : 1 ≤ a ∧ a ≤ 10) (hb : b ≤ 1000) : SR q ns nt T (wI (wI (wI (wI I 15 (2 * f) (nI a)) 15 (2 * f + 1) (nI b)) 1 (nI f).toNatClampNeg (nI a)) 2 (nI f).toNatClampNeg (nI b)) J (wI (wI (wI (wI I 15 (2 * f) (nI a)) 15 (2 * f + 1) (nI b)) 1 (nI f).toNatClampNeg (nI a)) 2 (nI f).toNatClampNeg (nI b)) J := by
  have hns := h.hns
  have hnt := h.hnt
  rw [nI_clamp (by omega)]
  exact ⟨h.hns, h.hnt, (by have := h.c6; (try simp (disch := omega) only [wI_row, wI_off]); exact this), (by have := h.c7; (try simp (disch := omega) only [wI_row, wI_off]); exact this), (by have := h.g0; (try simp (disch := omega) only [wI_row, wI_off]); exact this), (by have := h.g1; (try simp (disch := omega) only [wI_row, wI_off]); exact this), (fun c9 hc9 => by
    by_cases e9 : c9 = f
    · subst e9
      simp (disch := omega) only [wI_row, wI_at, wI_off]
      exact ⟨trivial, trivial, ⟨a, ha.1, ha.2, rfl⟩, b, hb, rfl⟩
    · have := h.tar c9 hc9
      simp (disch := omega) only [wI_row, wI_off]
      exact this), (by have := h.lnk; unfold sLnk at this ⊢; (try simp (disch := omega) only [wI_row]); exact this), h.dbt, h.chg, (fun i9 hi9 => (h.sub i9 hi9).eq (fun r hr => by first | rfl | simp (disch := omega) only [wI_row, wI_off]) (fun k9 hk9 => by first | rfl | simp (disch := omega) only [wI_row, wI_off])), (fun j9 hj9 => (h.cal j9 hj9).eq (fun r hr => by first | rfl | simp (disch := omega) only [wI_row, wI_off]) (fun k9 hk9 => by first | rfl | simp (disch := omega) only [wI_row, wI_off])), (fun j9 g1 g2 => by have := h.new j9 g1 g2; (try simp (disch := omega) only [wI_row, wI_off]); exact this)⟩
theorem link_sr {q : Nat → Nat → Nat} {ns nt T : Nat} {I : Nat → Nat → Int32} {J : Nat → Nat → Int64} (h : SR q ns nt T I J I J) {f t a b : Nat} (hf : f < 5) (ht : t < 5) (ha : a ≤ 100) : SR q ns nt T (setLinkI (wI (wI I 12 (2 * (5 * f + t)) (nI a)) 12 (2 * (5 * f + t) + 1) (nI b)) (nI f) (nI t) (nI a) (nI b)) J (setLinkI (wI (wI I 12 (2 * (5 * f + t)) (nI a)) 12 (2 * (5 * f + t) + 1) (nI b)) (nI f) (nI t) (nI a) (nI b)) J := by
  have hns := h.hns
  have hnt := h.hnt
  rw [link_c hf ht]
  exact ⟨h.hns, h.hnt, (by have := h.c6; (try simp (disch := omega) only [wI_row, wI_off]); exact this), (by have := h.c7; (try simp (disch := omega) only [wI_row, wI_off]); exact this), (by have := h.g0; (try simp (disch := omega) only [wI_row, wI_off]); exact this), (by have := h.g1; (try simp (disch := omega) only [wI_row, wI_off]); exact this), (by have := h.tar; unfold sTar at this ⊢; (try simp (disch := omega) only [wI_row]); exact this), (fun k9 hk9 => by
    by_cases e9 : k9 = 5 * f + t
    · subst e9
      simp (disch := omega) only [wI_row, wI_at, wI_off]
      exact Or.inl ⟨a, ha, rfl, rfl, trivial⟩
    · have := h.lnk k9 hk9
      simp (disch := omega) only [wI_row, wI_off]
      exact this), h.dbt, h.chg, (fun i9 hi9 => (h.sub i9 hi9).eq (fun r hr => by first | rfl | simp (disch := omega) only [wI_row, wI_off]) (fun k9 hk9 => by first | rfl | simp (disch := omega) only [wI_row, wI_off])), (fun j9 hj9 => (h.cal j9 hj9).eq (fun r hr => by first | rfl | simp (disch := omega) only [wI_row, wI_off]) (fun k9 hk9 => by first | rfl | simp (disch := omega) only [wI_row, wI_off])), (fun j9 g1 g2 => by have := h.new j9 g1 g2; (try simp (disch := omega) only [wI_row, wI_off]); exact this)⟩
theorem unlink_sr {q : Nat → Nat → Nat} {ns nt T : Nat} {I : Nat → Nat → Int32} {J : Nat → Nat → Int64} (h : SR q ns nt T I J I J) {f t : Nat} (hf : f < 5) (ht : t < 5) : SR q ns nt T (setLinkI (wI I 12 (2 * (5 * f + t)) (-1)) (nI f) (nI t) (-1) 0) J (setLinkI (wI I 12 (2 * (5 * f + t)) (-1)) (nI f) (nI t) (-1) 0) J := by
  have hns := h.hns
  have hnt := h.hnt
  rw [link_c hf ht]
  exact ⟨h.hns, h.hnt, (by have := h.c6; (try simp (disch := omega) only [wI_row, wI_off]); exact this), (by have := h.c7; (try simp (disch := omega) only [wI_row, wI_off]); exact this), (by have := h.g0; (try simp (disch := omega) only [wI_row, wI_off]); exact this), (by have := h.g1; (try simp (disch := omega) only [wI_row, wI_off]); exact this), (by have := h.tar; unfold sTar at this ⊢; (try simp (disch := omega) only [wI_row]); exact this), (fun k9 hk9 => by
    by_cases e9 : k9 = 5 * f + t
    · subst e9
      simp (disch := omega) only [wI_row, wI_at, wI_off]
      exact Or.inr ⟨trivial, trivial⟩
    · have := h.lnk k9 hk9
      simp (disch := omega) only [wI_row, wI_off]
      exact this), h.dbt, h.chg, (fun i9 hi9 => (h.sub i9 hi9).eq (fun r hr => by first | rfl | simp (disch := omega) only [wI_row, wI_off]) (fun k9 hk9 => by first | rfl | simp (disch := omega) only [wI_row, wI_off])), (fun j9 hj9 => (h.cal j9 hj9).eq (fun r hr => by first | rfl | simp (disch := omega) only [wI_row, wI_off]) (fun k9 hk9 => by first | rfl | simp (disch := omega) only [wI_row, wI_off])), (fun j9 g1 g2 => by have := h.new j9 g1 g2; (try simp (disch := omega) only [wI_row, wI_off]); exact this)⟩
theorem carry_sr {q : Nat → Nat → Nat} {ns nt T : Nat} {I : Nat → Nat → Int32} {J : Nat → Nat → Int64} (h : SR q ns nt T I J I J) {i t hh : Nat} (hi : i < ns) (ht : t < 5) (h1 : 1 ≤ hh) (h2 : hh < 10) (e : I (40 + 2 * i) 1 = nI hh) : moveB (wI (wI I 16 (4 * i) (nI t)) 16 (4 * i + 3) (nI (hh + 1))) (40 + 2 * (nI i).toNatClampNeg) = true ∧ (moveI (wI (wI I 16 (4 * i) (nI t)) 16 (4 * i + 3) (nI (hh + 1))) (40 + 2 * (nI i).toNatClampNeg) (nI t)) (40 + 2 * (nI i).toNatClampNeg) 1 = nI (hh + 1) ∧ (moveI (wI (wI I 16 (4 * i) (nI t)) 16 (4 * i + 3) (nI (hh + 1))) (40 + 2 * (nI i).toNatClampNeg) (nI t)) 16 (4 * i + 3) = nI (hh + 1) ∧ SR q ns nt T (moveI (wI (wI I 16 (4 * i) (nI t)) 16 (4 * i + 3) (nI (hh + 1))) (40 + 2 * (nI i).toNatClampNeg) (nI t)) J (moveI (wI (wI I 16 (4 * i) (nI t)) 16 (4 * i + 3) (nI (hh + 1))) (40 + 2 * (nI i).toNatClampNeg) (nI t)) J := by
  have hns := h.hns
  have hnt := h.hnt
  rw [nI_clamp (by omega)]
  obtain ⟨m1, m2⟩ := mv_eq (I := wI (wI I 16 (4 * i) (nI t)) 16 (4 * i + 3) (nI (hh + 1))) (r := 40 + 2 * i) (n := hh) (x := nI t) (by simp (disch := omega) only [wI_row]; exact e) h2
  rw [m2]
  refine ⟨m1, wI_at, by simp (disch := omega) only [wI_row, wI_at, wI_off], ⟨h.hns, h.hnt, (by have := h.c6; (try simp (disch := omega) only [wI_row, wI_off]); exact this), (by have := h.c7; (try simp (disch := omega) only [wI_row, wI_off]); exact this), (by have := h.g0; (try simp (disch := omega) only [wI_row, wI_off]); exact this), (by have := h.g1; (try simp (disch := omega) only [wI_row, wI_off]); exact this), (by have := h.tar; unfold sTar at this ⊢; (try simp (disch := omega) only [wI_row]); exact this), (by have := h.lnk; unfold sLnk at this ⊢; (try simp (disch := omega) only [wI_row]); exact this), h.dbt, h.chg, (fun i9 hi9 => by
    by_cases e9 : i9 = i
    · subst e9
      obtain ⟨⟨n, y1, y2, y3, y4, y5, y6⟩, x2, x3, x4, x5⟩ := h.sub i9 hi9
      have en : n = hh := (nI_eq (by omega) (by omega)).mp (y3.symm.trans e)
      subst en
      unfold sSub1
      refine ⟨⟨n + 1, by omega, by omega, by simp (disch := omega) only [wI_row, wI_at, wI_off], by simp (disch := omega) only [wI_row, wI_at, wI_off], fun t9 ht9 => ?_, ?_⟩, ?_, ?_, ?_, ?_⟩
      · by_cases e8 : t9 = n
        · subst e8
          exact ⟨t, ht, by simp (disch := omega) only [wI_row, wI_at, wI_off]⟩
        · obtain ⟨c9, z1, z2⟩ := y5 t9 (by omega)
          refine ⟨c9, z1, ?_⟩
          simp (disch := omega) only [wI_row, wI_off]
          exact z2
      · rw [Nat.add_sub_cancel]
        simp (disch := omega) only [wI_row, wI_at, wI_off]
      · simp (disch := omega) only [wI_row, wI_off]; exact x2
      · simp (disch := omega) only [wI_row, wI_off]; exact x3
      · simp (disch := omega) only [wI_row, wI_off]; exact x4
      · simp (disch := omega) only [wI_row, wI_off]; exact x5
    · exact (h.sub i9 hi9).eq (fun r hr => by simp (disch := omega) only [wI_row]) (fun k9 hk9 => by simp (disch := omega) only [wI_row, wI_off])), (fun j9 hj9 => (h.cal j9 hj9).eq (fun r hr => by first | rfl | simp (disch := omega) only [wI_row, wI_off]) (fun k9 hk9 => by first | rfl | simp (disch := omega) only [wI_row, wI_off])), (fun j9 g1 g2 => by have := h.new j9 g1 g2; (try simp (disch := omega) only [wI_row, wI_off]); exact this)⟩⟩
theorem top_sr {q : Nat → Nat → Nat} {ns nt T : Nat} {I : Nat → Nat → Int32} {J : Nat → Nat → Int64} (h : SR q ns nt T I J I J) {i a b nb nu : Nat} (hi : i < ns) (ha : a ≤ 200) (hb : b ≤ 200) (hT : T ≤ 100000) (e2 : I (40 + 2 * i) 2 = nI nb) (e3 : I (40 + 2 * i) 3 = nI nu) (hnb : nb ≤ T) (hnu : nu ≤ T) : (wI (wI I 16 (4 * i + 1) (nI (nb + a))) 16 (4 * i + 2) (nI (nu + b))) (40 + 2 * (nI i).toNatClampNeg) 2 = nI nb ∧ (wI (wI I 16 (4 * i + 1) (nI (nb + a))) 16 (4 * i + 2) (nI (nu + b))) (40 + 2 * (nI i).toNatClampNeg) 3 = nI nu ∧ SR q ns nt (T + 200) (wI (wI (wI (wI I 16 (4 * i + 1) (nI (nb + a))) 16 (4 * i + 2) (nI (nu + b))) (40 + 2 * (nI i).toNatClampNeg) 2 ((wI (wI I 16 (4 * i + 1) (nI (nb + a))) 16 (4 * i + 2) (nI (nu + b))) (40 + 2 * (nI i).toNatClampNeg) 2 + nI a)) (40 + 2 * (nI i).toNatClampNeg) 3 ((wI (wI I 16 (4 * i + 1) (nI (nb + a))) 16 (4 * i + 2) (nI (nu + b))) (40 + 2 * (nI i).toNatClampNeg) 3 + nI b)) J (wI (wI (wI (wI I 16 (4 * i + 1) (nI (nb + a))) 16 (4 * i + 2) (nI (nu + b))) (40 + 2 * (nI i).toNatClampNeg) 2 ((wI (wI I 16 (4 * i + 1) (nI (nb + a))) 16 (4 * i + 2) (nI (nu + b))) (40 + 2 * (nI i).toNatClampNeg) 2 + nI a)) (40 + 2 * (nI i).toNatClampNeg) 3 ((wI (wI I 16 (4 * i + 1) (nI (nb + a))) 16 (4 * i + 2) (nI (nu + b))) (40 + 2 * (nI i).toNatClampNeg) 3 + nI b)) J := by
  have hns := h.hns
  have hnt := h.hnt
  rw [nI_clamp (by omega)]
  have f2 : (wI (wI I 16 (4 * i + 1) (nI (nb + a))) 16 (4 * i + 2) (nI (nu + b))) (40 + 2 * i) 2 = nI nb := by simp (disch := omega) only [wI_row]; exact e2
  have f3 : (wI (wI I 16 (4 * i + 1) (nI (nb + a))) 16 (4 * i + 2) (nI (nu + b))) (40 + 2 * i) 3 = nI nu := by simp (disch := omega) only [wI_row]; exact e3
  rw [f2, f3, nI_add, nI_add]
  refine ⟨rfl, rfl, ⟨h.hns, h.hnt, (by have := h.c6; (try simp (disch := omega) only [wI_row, wI_off]); exact this), (by have := h.c7; (try simp (disch := omega) only [wI_row, wI_off]); exact this), (by have := h.g0; (try simp (disch := omega) only [wI_row, wI_off]); exact this), (by have := h.g1; (try simp (disch := omega) only [wI_row, wI_off]); exact this), (by have := h.tar; unfold sTar at this ⊢; (try simp (disch := omega) only [wI_row]); exact this), (by have := h.lnk; unfold sLnk at this ⊢; (try simp (disch := omega) only [wI_row]); exact this), h.dbt, h.chg, (fun i9 hi9 => by
    by_cases e9 : i9 = i
    · subst e9
      obtain ⟨⟨n, y1, y2, y3, y4, y5, y6⟩, -, -, -, -⟩ := h.sub i9 hi9
      unfold sSub1
      simp (disch := omega) only [wI_row, wI_at, wI_off]
      exact ⟨⟨n, y1, y2, y3, y4, y5, y6⟩, trivial, trivial, ⟨nb + a, by omega, rfl⟩, nu + b, by omega, rfl⟩
    · exact ((h.sub i9 hi9).up (T' := T + 200) (by omega)).eq (fun r hr => by simp (disch := omega) only [wI_row]) (fun k9 hk9 => by simp (disch := omega) only [wI_row, wI_off])), (fun j9 hj9 => (h.cal j9 hj9).eq (fun r hr => by first | rfl | simp (disch := omega) only [wI_row, wI_off]) (fun k9 hk9 => by first | rfl | simp (disch := omega) only [wI_row, wI_off])), (fun j9 g1 g2 => by have := h.new j9 g1 g2; (try simp (disch := omega) only [wI_row, wI_off]); exact this)⟩⟩
theorem hang_sr {q : Nat → Nat → Nat} {ns nt T : Nat} {I : Nat → Nat → Int32} {J : Nat → Nat → Int64} (h : SR q ns nt T I J I J) {i : Nat} (hi : i < nt) : SR q ns nt T (wI (wI I 17 (8 * i + 2) 1) (80 + 4 * (nI i).toNatClampNeg) 6 1) J (wI (wI I 17 (8 * i + 2) 1) (80 + 4 * (nI i).toNatClampNeg) 6 1) J := by
  have hns := h.hns
  have hnt := h.hnt
  rw [nI_clamp (by omega)]
  exact ⟨h.hns, h.hnt, (by have := h.c6; (try simp (disch := omega) only [wI_row, wI_off]); exact this), (by have := h.c7; (try simp (disch := omega) only [wI_row, wI_off]); exact this), (by have := h.g0; (try simp (disch := omega) only [wI_row, wI_off]); exact this), (by have := h.g1; (try simp (disch := omega) only [wI_row, wI_off]); exact this), (by have := h.tar; unfold sTar at this ⊢; (try simp (disch := omega) only [wI_row]); exact this), (by have := h.lnk; unfold sLnk at this ⊢; (try simp (disch := omega) only [wI_row]); exact this), h.dbt, h.chg, (fun i9 hi9 => (h.sub i9 hi9).eq (fun r hr => by first | rfl | simp (disch := omega) only [wI_row, wI_off]) (fun k9 hk9 => by first | rfl | simp (disch := omega) only [wI_row, wI_off])), (fun j9 hj9 => by
    by_cases e9 : j9 = i
    · subst e9
      obtain ⟨x1, x2, x3, x4, x5, x6, x7, x8, pp, x9, ⟨x10, x11⟩, x12⟩ := h.cal j9 hj9
      simp (disch := omega) only [sCal1, Rou, wI_row, wI_at, wI_off]
      exact ⟨x1, x2, x3, trivial, x5, x6, x7, x8, pp, x9, ⟨x10, x11⟩, x12⟩
    · exact (h.cal j9 hj9).eq (fun r hr => by simp (disch := omega) only [wI_row]) (fun k9 hk9 => by simp (disch := omega) only [wI_row, wI_off])), (fun j9 g1 g2 => by have := h.new j9 g1 g2; (try simp (disch := omega) only [wI_row, wI_off]); exact this)⟩
theorem settle_sr {q : Nat → Nat → Nat} {ns nt T : Nat} {I : Nat → Nat → Int32} {J : Nat → Nat → Int64} (h : SR q ns nt T I J I J) {f t : Nat} (hf : f < 5) (ht : t < 5) (hft : f ≠ t) : debtF (wJ (wJ J 14 (5 * f + t) 0) 14 (5 * t + f) 0) (nI f) (nI t) = J 14 (5 * f + t) ∧ SR q ns nt T I (addDebtJ (wJ (wJ J 14 (5 * f + t) 0) 14 (5 * t + f) 0) (nI f) (nI t) (-(debtF (wJ (wJ J 14 (5 * f + t) 0) 14 (5 * t + f) 0) (nI f) (nI t)))) I (addDebtJ (wJ (wJ J 14 (5 * f + t) 0) 14 (5 * t + f) 0) (nI f) (nI t) (-(debtF (wJ (wJ J 14 (5 * f + t) 0) 14 (5 * t + f) 0) (nI f) (nI t)))) := by
  have hns := h.hns
  have hnt := h.hnt
  obtain ⟨d1, d2, d3⟩ := h.dbt
  have e1 : debtF (wJ (wJ J 14 (5 * f + t) 0) 14 (5 * t + f) 0) (nI f) (nI t) = J 14 (5 * f + t) := by
    rw [debt_c hf ht, wJ_row (by omega), wJ_row (by omega), d1 _ (by omega)]
  refine ⟨e1, ?_⟩
  rw [e1, addd_c hf ht, d1 _ (by omega)]
  have h1 := d2 f t hf ht
  exact ⟨h.hns, h.hnt, (by have := h.c6; (try simp (disch := omega) only [wI_row, wI_off]); exact this), (by have := h.c7; (try simp (disch := omega) only [wI_row, wI_off]); exact this), (by have := h.g0; (try simp (disch := omega) only [wI_row, wI_off]); exact this), (by have := h.g1; (try simp (disch := omega) only [wI_row, wI_off]); exact this), (by have := h.tar; unfold sTar at this ⊢; (try simp (disch := omega) only [wI_row]); exact this), (by have := h.lnk; unfold sLnk at this ⊢; (try simp (disch := omega) only [wI_row]); exact this), ⟨fun k9 hk9 => by
      have g := d1 k9 hk9
      by_cases e9 : k9 = 5 * t + f
      · subst e9
        simp (disch := omega) only [wJ_row, wJ_at, wJ_off]
        grind
      · by_cases e8 : k9 = 5 * f + t
        · subst e8
          simp (disch := omega) only [wJ_row, wJ_at, wJ_off]
          grind
        · simp (disch := omega) only [wJ_row, wJ_off]
          exact g, fun x9 y9 hx hy => by
      have g := d2 x9 y9 hx hy
      by_cases e9 : x9 = f ∧ y9 = t
      · obtain ⟨rfl, rfl⟩ := e9
        simp (disch := omega) only [wJ_row, wJ_at, wJ_off]
        grind
      · by_cases e8 : x9 = t ∧ y9 = f
        · obtain ⟨rfl, rfl⟩ := e8
          simp (disch := omega) only [wJ_row, wJ_at, wJ_off]
          grind
        · simp (disch := omega) only [wJ_row, wJ_off]
          exact g, fun x9 hx => by
      have g := d3 x9 hx
      simp (disch := omega) only [wJ_row, wJ_off]
      exact g⟩, (fun k9 hk9 => by
      rw [chSum_eq (J := J) (fun j _ => by simp (disch := omega) only [wJ_row])]
      simp (disch := omega) only [wJ_row]
      exact h.chg k9 hk9), (fun i9 hi9 => (h.sub i9 hi9).eq (fun r hr => by first | rfl | simp (disch := omega) only [wI_row, wI_off]) (fun k9 hk9 => by first | rfl | simp (disch := omega) only [wI_row, wI_off])), (fun j9 hj9 => (h.cal j9 hj9).eq (fun r hr => by first | rfl | simp (disch := omega) only [wI_row, wI_off]) (fun k9 hk9 => by first | rfl | simp (disch := omega) only [wI_row, wI_off])), (fun j9 g1 g2 => by have := h.new j9 g1 g2; (try simp (disch := omega) only [wI_row, wI_off]); exact this)⟩
theorem num_row {I : Nat → Nat → Int32} {ns r : Nat} {x y z : Int32} (h0 : r ≠ 0) (h1 : r ≠ 40 + 2 * ns) (h2 : r ≠ 40 + 2 * ns + 1) : numI I ns x y z r = I r := by
  rw [numI, wI_row h0]
  funext k
  simp [numI0, h1, h2]
theorem num_0 {I : Nat → Nat → Int32} {ns k : Nat} {x y z : Int32} (h : k ≠ 6) : numI I ns x y z 0 k = I 0 k := by
  rw [numI, wI_off h]
  have h1 : ¬ 0 = 40 + 2 * ns := by omega
  simp [numI0, h1]
theorem num_6 {I : Nat → Nat → Int32} {ns : Nat} {x y z : Int32} : numI I ns x y z 0 6 = nI (ns + 1) := by rw [numI, wI_at]
theorem num_s {I : Nat → Nat → Int32} {ns k : Nat} {x y z : Int32} : numI I ns x y z (40 + 2 * ns) k = if k = 1 then 1 else if k = 2 then y else if k = 3 then z else 0 := by
  rw [numI, wI_row (by omega), numI0, if_pos rfl]
theorem num_c {I : Nat → Nat → Int32} {ns k : Nat} {x y z : Int32} : numI I ns x y z (40 + 2 * ns + 1) k = if k = 0 then x else 0 := by
  rw [numI, wI_row (by omega), numI0, if_neg (by omega), if_pos rfl]
theorem num_sr {q : Nat → Nat → Nat} {ns nt T : Nat} {I : Nat → Nat → Int32} {J : Nat → Nat → Int64} (h : SR q ns nt T I J I J) {f a b : Nat} (hns8 : ns < 8) (hf : f < 5) (ha : a ≤ 299) (hb : b ≤ 299) (hT : 299 ≤ T) : SR q (ns + 1) nt T (numI (wI (wI (wI (wI (wI I 16 (4 * ns) (nI f)) 16 (4 * ns + 1) (nI a)) 16 (4 * ns + 2) (nI b)) 16 (4 * ns + 3) 1) 18 0 (nI (ns + 1))) ns (nI f) (nI a) (nI b)) J (numI (wI (wI (wI (wI (wI I 16 (4 * ns) (nI f)) 16 (4 * ns + 1) (nI a)) 16 (4 * ns + 2) (nI b)) 16 (4 * ns + 3) 1) 18 0 (nI (ns + 1))) ns (nI f) (nI a) (nI b)) J := by
  have hnt := h.hnt
  have hrow : ∀ r, r ≠ 0 → r ≠ 16 → r ≠ 18 → r ≠ 40 + 2 * ns → r ≠ 40 + 2 * ns + 1 → (numI (wI (wI (wI (wI (wI I 16 (4 * ns) (nI f)) 16 (4 * ns + 1) (nI a)) 16 (4 * ns + 2) (nI b)) 16 (4 * ns + 3) 1) 18 0 (nI (ns + 1))) ns (nI f) (nI a) (nI b)) r = I r := fun r g1 g2 g3 g4 g5 => by
    rw [num_row g1 g4 g5]
    simp (disch := omega) only [wI_row]
  have hn : ∀ k, (numI (wI (wI (wI (wI (wI I 16 (4 * ns) (nI f)) 16 (4 * ns + 1) (nI a)) 16 (4 * ns + 2) (nI b)) 16 (4 * ns + 3) 1) 18 0 (nI (ns + 1))) ns (nI f) (nI a) (nI b)) 16 k = (wI (wI (wI (wI (wI I 16 (4 * ns) (nI f)) 16 (4 * ns + 1) (nI a)) 16 (4 * ns + 2) (nI b)) 16 (4 * ns + 3) 1) 18 0 (nI (ns + 1))) 16 k := fun k => by rw [num_row (by omega) (by omega) (by omega)]
  refine ⟨by omega, h.hnt, num_6, (by rw [num_0 (by omega)]; simp (disch := omega) only [wI_row]; exact h.c7), (by rw [num_row (by omega) (by omega) (by omega), wI_at]), (by rw [num_row (by omega) (by omega) (by omega)]; simp (disch := omega) only [wI_row, wI_off]; exact h.g1), (by have := h.tar; unfold sTar at this ⊢; simp (disch := omega) only [hrow]; exact this), (by have := h.lnk; unfold sLnk at this ⊢; simp (disch := omega) only [hrow]; exact this), h.dbt, h.chg, (fun i9 hi9 => ?_), (fun j9 hj9 => ((h.cal j9 hj9).up (ns' := ns + 1) (by omega)).eq (fun r hr => hrow r (by omega) (by omega) (by omega) (by omega) (by omega)) (fun k9 hk9 => by rw [hrow 17 (by omega) (by omega) (by omega) (by omega) (by omega)])), (fun j9 g1 g2 => by have := h.new j9 g1 g2; rw [hrow 17 (by omega) (by omega) (by omega) (by omega) (by omega)]; exact this)⟩
  by_cases e9 : i9 = ns
  · subst e9
    unfold sSub1
    refine ⟨⟨1, by omega, by omega, by rw [num_s]; rfl, by rw [hn]; simp (disch := omega) only [wI_row, wI_at, wI_off]; rfl, fun t9 ht9 => ⟨f, hf, by rw [num_c, if_pos (by omega)]⟩, by rw [hn, num_c, if_pos (by omega)]; simp (disch := omega) only [wI_row, wI_at, wI_off]⟩, by rw [hn, num_s]; simp (disch := omega) only [wI_row, wI_at, wI_off]; rfl, by rw [hn, num_s]; simp (disch := omega) only [wI_row, wI_at, wI_off]; rfl, ⟨a, by omega, by rw [num_s]; rfl⟩, b, by omega, by rw [num_s]; rfl⟩
  · exact (h.sub i9 (by omega)).eq (fun r hr => hrow r (by omega) (by omega) (by omega) (by omega) (by omega)) (fun k9 hk9 => by rw [hn]; simp (disch := omega) only [wI_row, wI_off])
end ACTS
