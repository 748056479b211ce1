section MIDS
theorem e_IOIA : e_IO ≠ e_IA := by decide
theorem e_IOIS : e_IO ≠ e_IS := by decide
theorem e_IAIS : e_IA ≠ e_IS := by decide
theorem kO_c {cy : Nat → ClassId} {R : List Nat} {ad : Nat → Nat} {q : Nat → Nat → Nat} {ns nt : Nat} {I : Nat → Nat → Int32} {J : Nat → Nat → Int64} {x : Int64} {u' : k_S} (h : k_O (R, ad, k_c cy ad q ns nt I J) x u') : u' = (R, ad, k_c cy ad q ns nt I (wJ J 12 0 x)) := by
  obtain ⟨R', cy', ad', q', ns', nt', I', J', h1, rfl⟩ := h
  injection h1 with e1 h2
  injection h2 with e2 e3
  subst e1
  subst e2
  have e4 : ∀ r, k_sh cy ad q ns nt r (I r) (J r) = k_sh cy' ad q' ns' nt' r (I' r) (J' r) := fun r => congrFun e3 r
  refine congrArg (fun z => (R, ad, z)) (funext fun r => ?_)
  show k_sh cy' ad q' ns' nt' r (I' r) (wJ J' 12 0 x r) = k_sh cy ad q ns nt r (I r) (wJ J 12 0 x r)
  by_cases hr : r = 12
  · subst hr
    have h12 := e4 12
    rw [ss_12, ss_12] at h12
    rw [ss_12, ss_12]
    injection h12 with h13
    injection h13 with h14 h15
    injection h15 with h16 h17
    injection h17 with h18
    injection h18 with h19
    have : wJ J' 12 0 x 12 = wJ J 12 0 x 12 := funext fun k => by rw [wJ_eq, wJ_eq, h19]
    rw [h14, this]
  · rw [wJ_row hr, wJ_row hr]
    exact (e4 r).symm
/-- after both calls: the relation, the code, and what out holds -/
def kFin (q : Nat → Nat → Nat) (ns nt : Nat) (I : Nat → Nat → Int32) (J : Nat → Nat → Int64) (r : Int32) (ans : Int64) : Prop := SR q ns nt I J I J ∧ I 13 0 = r ∧ (r = 0 → J 12 0 = ans)
theorem SR.out {q : Nat → Nat → Nat} {ns nt : Nat} {I : Nat → Nat → Int32} {J : Nat → Nat → Int64} (h : SR q ns nt I J I J) (v : Int64) : SR q ns nt I J I (wJ J 12 0 v) := h.same (fun _ _ _ => rfl) (fun _ _ _ => rfl) (fun _ _ => rfl) (fun r hr => wJ_row hr)
theorem fin_th {q : Nat → Nat → Nat} {ns nt : Nat} {I : Nat → Nat → Int32} {J : Nat → Nat → Int64} (h : SR q ns nt I J I J) {r : Int32} {ans : Int64} (hr : ¬ r = 0) : kFin q ns nt (wI I 13 0 r) J r ans := by
  have e : ∀ x k, ¬ scr x k → wI I 13 0 r x k = I x k := fun x k hx => by rw [wI_eq, if_neg (by unfold scr at hx; omega)]
  exact ⟨h.same e e (fun _ _ => rfl) (fun _ _ => rfl), wI_at, fun h9 => absurd h9 hr⟩
theorem fin_rd {q : Nat → Nat → Nat} {ns nt : Nat} {I : Nat → Nat → Int32} {J : Nat → Nat → Int64} (h : SR q ns nt I J I J) {ans v : Int64} (hv : v = ans) : kFin q ns nt (wI I 13 0 0) (wJ J 12 0 v) 0 ans := by
  have e : ∀ x k, ¬ scr x k → wI I 13 0 0 x k = I x k := fun x k hx => by rw [wI_eq, if_neg (by unfold scr at hx; omega)]
  exact ⟨h.same e e (fun r hr => wJ_row hr) (fun r hr => wJ_row hr), wI_at, fun _ => by rw [wJ_at, hv]⟩
theorem wi_r {v : Int32} {lo hi : Nat} (hh : hi < 2 ^ 31) (hl : lo < 2 ^ 31) (h : isWi v (nI lo) (nI hi) = true) : ∃ n : Nat, lo ≤ n ∧ n ≤ hi ∧ v = nI n := by
  simp only [isWi, Bool.and_eq_true, Bool.not_eq_true', decide_eq_false_iff_not] at h
  obtain ⟨h1, h2⟩ := h
  have h0 : ¬ v < 0 := by
    rw [Int32.lt_iff_toInt_lt, nI_toInt hl] at h1
    rw [Int32.lt_iff_toInt_lt]
    have : (0 : Int32).toInt = 0 := rfl
    omega
  obtain ⟨n, hn, rfl⟩ := nI_of h0
  rw [nI_ltI hn hl] at h1
  rw [nI_ltI hh hn] at h2
  exact ⟨n, by omega, by omega, rfl⟩
theorem isN_of {n : Nat} {a : Int32} (h : isN n a = true) : ∃ i, i < n ∧ a = nI i ∧ a.toNatClampNeg = i := isN_nI h
theorem pos_eq {q : Nat → Nat → Nat} {ns nt : Nat} {Ic Im : Nat → Nat → Int32} {Jc Jm : Nat → Nat → Int64} (h : SR q ns nt Ic Jc Im Jm) {c : Nat} (hc : c < 5) : ∀ n, n ≤ 5 → posM Jm (nI c) n = posF Jc (nI c) n := by
  intro n
  induction n with
  | zero => intro _; rfl
  | succ n ih => intro hn; rw [posM, posF, ih (by omega), h.debt (by omega) hc]
/-- a home asked for: where both find it -/
theorem home_eq {q : Nat → Nat → Nat} {ns nt : Nat} {Ic Im : Nat → Nat → Int32} {Jc Jm : Nat → Nat → Int64} (h : SR q ns nt Ic Jc Im Jm) {i : Nat} (hi : i < ns) (b : Int32) :
    if (!decide (b < 0) && decide (b < Im 21 i)) = true then (homeF Ic (40 + 2 * i) b = Im 22 (10 * nI i + Im 21 i - 1 - b).toNatClampNeg ∧ ∃ c : Nat, c < 5 ∧ homeF Ic (40 + 2 * i) b = nI c) else homeF Ic (40 + 2 * i) b = -1 := by
  have hns := h.hns
  obtain ⟨⟨m, h1, h2, h3, h4, h5⟩, -⟩ := h.sub i hi
  have e10 : decide ((10 : Int32) < nI m) = false := by
    rw [decide_eq_false_iff_not]
    intro hc
    have hc2 : nI 10 < nI m := hc
    rw [nI_ltI (by omega) (by omega)] at hc2
    omega
  unfold homeF
  rw [h3, h4, e10]
  by_cases h0 : b < 0
  · simp [h0]
  · obtain ⟨t, ht, rfl⟩ := nI_of h0
    have e1 : decide (nI m ≤ nI t) = !decide (nI t < nI m) := by
      rw [Bool.eq_iff_iff]
      simp only [decide_eq_true_eq, Bool.not_eq_true', decide_eq_false_iff_not]
      rw [nI_leI (by omega) ht, nI_ltI ht (by omega)]
      omega
    rw [e1]
    by_cases h9 : nI t < nI m
    · rw [nI_ltI ht (by omega)] at h9
      have e2 : decide (nI t < nI m) = true := by rw [decide_eq_true_eq, nI_ltI ht (by omega)]; exact h9
      have e3 : decide (nI t < 0) = false := by rw [decide_eq_false_iff_not]; exact h0
      rw [e2, e3]
      simp only [Bool.not_false, Bool.not_true, Bool.and_true, if_true]
      obtain ⟨g1, c, g2, g3⟩ := h5 (m - 1 - t) (by omega)
      have e4 : (nI m - 1 - nI t).toNatClampNeg = m - 1 - t := by rw [nI_m1 h1, pk_sub (by omega), nI_clamp (by omega)]
      have e5 : (10 * nI i + nI m - 1 - nI t).toNatClampNeg = 10 * i + (m - 1 - t) := by
        rw [n10, nI_m1 (by omega), pk_sub (by omega), nI_clamp (by omega)]
        omega
      rw [e4, e5, g1, g3]
      exact ⟨rfl, c, g2, rfl⟩
    · have e2 : decide (nI t < nI m) = false := by rw [decide_eq_false_iff_not]; exact h9
      rw [e2]
      simp
theorem nI_nm1 {n : Nat} (h : n < 2 ^ 31) : ¬ nI n = -1 := fun hc => nI_pos h (by rw [hc]; decide)
/-- a call's way asked for: where both find it -/
theorem way_eq {q : Nat → Nat → Nat} {ns nt : Nat} {Ic Im : Nat → Nat → Int32} {Jc Jm : Nat → Nat → Int64} (h : SR q ns nt Ic Jc Im Jm) {j : Nat} (hj : j < nt) (b : Int32) :
    if isWi b 0 (Im 32 j - 1) = true then (carAt Ic (80 + 4 * j + 1) b = Im 33 (5 * nI j + b).toNatClampNeg ∧ ∃ c : Nat, c < 5 ∧ carAt Ic (80 + 4 * j + 1) b = nI c) else carAt Ic (80 + 4 * j + 1) b = -1 := by
  have hnt := h.hnt
  obtain ⟨-, -, -, -, -, -, -, p, ⟨h1, h2, h2c⟩, h3, h4, h5⟩ := h.cal j hj
  rw [h4, ← carAt_no h3 ⟨h1, h2⟩]
  by_cases g : isPl (Ic (80 + 4 * j + 1) 1) b = true
  · rw [if_pos g]
    rw [carAt_no h3 ⟨h1, h2⟩] at g
    have h0 : ¬ b < 0 := by
      simp only [isWi, Bool.and_eq_true, Bool.not_eq_true', decide_eq_false_iff_not] at g
      exact g.1
    obtain ⟨t, ht, rfl⟩ := nI_of h0
    have htl : t < p.length := by
      rw [nI_m1 h1] at g
      simp only [isWi, Bool.and_eq_true, Bool.not_eq_true', decide_eq_false_iff_not] at g
      have g2 := g.2
      rw [nI_ltI (by omega) ht] at g2
      omega
    rw [rou_at h3 h2 htl, n5jk, nI_clamp (by omega), h5 t htl]
    exact ⟨rfl, p.getD t 0, h2c _ (getD_mem htl), rfl⟩
  · rw [if_neg g, carAt, if_neg g]
theorem mid_balance {cy : Nat → ClassId} {R : List Nat} {ad : Nat → Nat} {q : Nat → Nat → Nat} {ns nt : Nat} {I : Nat → Nat → Int32} {J : Nat → Nat → Int64} (h : SR q ns nt I J I J) {a : Int32} {r : Int32} {u' : k_S} (hp : (∃ (v : Int32) (u : k_S), ((isN ns a = true) ∧ v = (I (40 + 2 * a.toNatClampNeg) 2) ∧ u = (R, ad, k_c cy ad q ns nt I J)) ∧ r = 0 ∧ k_O u v.toInt64 u') ∨ (∃ u : k_S, ((e_IO = e_IO ∧ isN ns a = false) ∧ u = (R, ad, k_c cy ad q ns nt I J)) ∧ r = 1 ∧ u' = u)) : ∃ (I1 : Nat → Nat → Int32) (J1 : Nat → Nat → Int64), u' = (R, ad, k_c cy ad q ns nt I1 J1) ∧ SR q ns nt I J I1 J1 ∧ kFin q ns nt (wI I1 13 0 (if isNum I1 a = true then 0 else 1)) J1 r (if isNum I1 a = true then I1 23 a.toNatClampNeg else 0).toInt64 := by
  rcases hp with ⟨v, u, ⟨hok, rfl, rfl⟩, rfl, hO⟩ | ⟨u, ⟨⟨-, hx⟩, rfl⟩, rfl, rfl⟩
  · refine ⟨I, _, kO_c hO, h.out _, ?_⟩
    have e : isNum I a = true := by rw [h.num]; exact hok
    rw [if_pos e, if_pos e]
    exact fin_rd h (by rw [(h.sub _ (isN_lt hok)).2.1])
  · refine ⟨I, J, rfl, h, ?_⟩
    have e : ¬ isNum I a = true := by rw [h.num, hx]; exact Bool.false_ne_true
    rw [if_neg e]
    exact fin_th h (by decide)
theorem mid_bundle {cy : Nat → ClassId} {R : List Nat} {ad : Nat → Nat} {q : Nat → Nat → Nat} {ns nt : Nat} {I : Nat → Nat → Int32} {J : Nat → Nat → Int64} (h : SR q ns nt I J I J) {a : Int32} {r : Int32} {u' : k_S} (hp : (∃ (v : Int32) (u : k_S), ((isN ns a = true) ∧ v = (I (40 + 2 * a.toNatClampNeg) 3) ∧ u = (R, ad, k_c cy ad q ns nt I J)) ∧ r = 0 ∧ k_O u v.toInt64 u') ∨ (∃ u : k_S, ((e_IO = e_IO ∧ isN ns a = false) ∧ u = (R, ad, k_c cy ad q ns nt I J)) ∧ r = 1 ∧ u' = u)) : ∃ (I1 : Nat → Nat → Int32) (J1 : Nat → Nat → Int64), u' = (R, ad, k_c cy ad q ns nt I1 J1) ∧ SR q ns nt I J I1 J1 ∧ kFin q ns nt (wI I1 13 0 (if isNum I1 a = true then 0 else 1)) J1 r (if isNum I1 a = true then I1 24 a.toNatClampNeg else 0).toInt64 := by
  rcases hp with ⟨v, u, ⟨hok, rfl, rfl⟩, rfl, hO⟩ | ⟨u, ⟨⟨-, hx⟩, rfl⟩, rfl, rfl⟩
  · refine ⟨I, _, kO_c hO, h.out _, ?_⟩
    have e : isNum I a = true := by rw [h.num]; exact hok
    rw [if_pos e, if_pos e]
    exact fin_rd h (by rw [(h.sub _ (isN_lt hok)).2.2])
  · refine ⟨I, J, rfl, h, ?_⟩
    have e : ¬ isNum I a = true := by rw [h.num, hx]; exact Bool.false_ne_true
    rw [if_neg e]
    exact fin_th h (by decide)
theorem mid_state {cy : Nat → ClassId} {R : List Nat} {ad : Nat → Nat} {q : Nat → Nat → Nat} {ns nt : Nat} {I : Nat → Nat → Int32} {J : Nat → Nat → Int64} (h : SR q ns nt I J I J) {a : Int32} {r : Int32} {u' : k_S} (hp : (∃ (v : Int32) (u : k_S), ((isN nt a = true) ∧ v = (I (80 + 4 * a.toNatClampNeg) 6) ∧ u = (R, ad, k_c cy ad q ns nt I J)) ∧ r = 0 ∧ k_O u v.toInt64 u') ∨ (∃ u : k_S, ((e_IO = e_IO ∧ isN nt a = false) ∧ u = (R, ad, k_c cy ad q ns nt I J)) ∧ r = 1 ∧ u' = u)) : ∃ (I1 : Nat → Nat → Int32) (J1 : Nat → Nat → Int64), u' = (R, ad, k_c cy ad q ns nt I1 J1) ∧ SR q ns nt I J I1 J1 ∧ kFin q ns nt (wI I1 13 0 (if isCal I1 a = true then 0 else 1)) J1 r (if isCal I1 a = true then I1 27 a.toNatClampNeg else 0).toInt64 := by
  rcases hp with ⟨v, u, ⟨hok, rfl, rfl⟩, rfl, hO⟩ | ⟨u, ⟨⟨-, hx⟩, rfl⟩, rfl, rfl⟩
  · refine ⟨I, _, kO_c hO, h.out _, ?_⟩
    have e : isCal I a = true := by rw [h.iscal]; exact hok
    rw [if_pos e, if_pos e]
    exact fin_rd h (by rw [(h.cal _ (isN_lt hok)).2.2.1])
  · refine ⟨I, J, rfl, h, ?_⟩
    have e : ¬ isCal I a = true := by rw [h.iscal, hx]; exact Bool.false_ne_true
    rw [if_neg e]
    exact fin_th h (by decide)
theorem mid_minutes {cy : Nat → ClassId} {R : List Nat} {ad : Nat → Nat} {q : Nat → Nat → Nat} {ns nt : Nat} {I : Nat → Nat → Int32} {J : Nat → Nat → Int64} (h : SR q ns nt I J I J) {a : Int32} {r : Int32} {u' : k_S} (hp : (∃ (v : Int32) (u : k_S), ((isN nt a = true) ∧ v = (I (80 + 4 * a.toNatClampNeg) 7) ∧ u = (R, ad, k_c cy ad q ns nt I J)) ∧ r = 0 ∧ k_O u v.toInt64 u') ∨ (∃ u : k_S, ((e_IO = e_IO ∧ isN nt a = false) ∧ u = (R, ad, k_c cy ad q ns nt I J)) ∧ r = 1 ∧ u' = u)) : ∃ (I1 : Nat → Nat → Int32) (J1 : Nat → Nat → Int64), u' = (R, ad, k_c cy ad q ns nt I1 J1) ∧ SR q ns nt I J I1 J1 ∧ kFin q ns nt (wI I1 13 0 (if isCal I1 a = true then 0 else 1)) J1 r (if isCal I1 a = true then I1 30 a.toNatClampNeg else 0).toInt64 := by
  rcases hp with ⟨v, u, ⟨hok, rfl, rfl⟩, rfl, hO⟩ | ⟨u, ⟨⟨-, hx⟩, rfl⟩, rfl, rfl⟩
  · refine ⟨I, _, kO_c hO, h.out _, ?_⟩
    have e : isCal I a = true := by rw [h.iscal]; exact hok
    rw [if_pos e, if_pos e]
    exact fin_rd h (by rw [(h.cal _ (isN_lt hok)).2.2.2.2.2.1])
  · refine ⟨I, J, rfl, h, ?_⟩
    have e : ¬ isCal I a = true := by rw [h.iscal, hx]; exact Bool.false_ne_true
    rw [if_neg e]
    exact fin_th h (by decide)
theorem mid_moved {cy : Nat → ClassId} {R : List Nat} {ad : Nat → Nat} {q : Nat → Nat → Nat} {ns nt : Nat} {I : Nat → Nat → Int32} {J : Nat → Nat → Int64} (h : SR q ns nt I J I J) {a : Int32} {r : Int32} {u' : k_S} (hp : (∃ (v : Int32) (u : k_S), ((isN nt a = true) ∧ v = (I (80 + 4 * a.toNatClampNeg) 8) ∧ u = (R, ad, k_c cy ad q ns nt I J)) ∧ r = 0 ∧ k_O u v.toInt64 u') ∨ (∃ u : k_S, ((e_IO = e_IO ∧ isN nt a = false) ∧ u = (R, ad, k_c cy ad q ns nt I J)) ∧ r = 1 ∧ u' = u)) : ∃ (I1 : Nat → Nat → Int32) (J1 : Nat → Nat → Int64), u' = (R, ad, k_c cy ad q ns nt I1 J1) ∧ SR q ns nt I J I1 J1 ∧ kFin q ns nt (wI I1 13 0 (if isCal I1 a = true then 0 else 1)) J1 r (if isCal I1 a = true then I1 31 a.toNatClampNeg else 0).toInt64 := by
  rcases hp with ⟨v, u, ⟨hok, rfl, rfl⟩, rfl, hO⟩ | ⟨u, ⟨⟨-, hx⟩, rfl⟩, rfl, rfl⟩
  · refine ⟨I, _, kO_c hO, h.out _, ?_⟩
    have e : isCal I a = true := by rw [h.iscal]; exact hok
    rw [if_pos e, if_pos e]
    exact fin_rd h (by rw [(h.cal _ (isN_lt hok)).2.2.2.2.2.2.1])
  · refine ⟨I, J, rfl, h, ?_⟩
    have e : ¬ isCal I a = true := by rw [h.iscal, hx]; exact Bool.false_ne_true
    rw [if_neg e]
    exact fin_th h (by decide)
theorem mid_debt {cy : Nat → ClassId} {R : List Nat} {ad : Nat → Nat} {q : Nat → Nat → Nat} {ns nt : Nat} {I : Nat → Nat → Int32} {J : Nat → Nat → Int64} (h : SR q ns nt I J I J) {a b : Int32} {r : Int32} {u' : k_S} (hp : (∃ (v : Int64) (u : k_S), (((isCar a && isCar b) = true) ∧ v = (debtF J a b) ∧ u = (R, ad, k_c cy ad q ns nt I J)) ∧ r = 0 ∧ k_O u v u') ∨ (∃ u : k_S, ((e_IO = e_IO ∧ (isCar a && isCar b) = false) ∧ u = (R, ad, k_c cy ad q ns nt I J)) ∧ r = 1 ∧ u' = u)) : ∃ (I1 : Nat → Nat → Int32) (J1 : Nat → Nat → Int64), u' = (R, ad, k_c cy ad q ns nt I1 J1) ∧ SR q ns nt I J I1 J1 ∧ kFin q ns nt (wI I1 13 0 (if (isCar a && isCar b) = true then 0 else 1)) J1 r (if (isCar a && isCar b) = true then debtM J1 a b else 0) := by
  rcases hp with ⟨v, u, ⟨hok, rfl, rfl⟩, rfl, hO⟩ | ⟨u, ⟨⟨-, hx⟩, rfl⟩, rfl, rfl⟩
  · refine ⟨I, _, kO_c hO, h.out _, ?_⟩
    have e := hok
    obtain ⟨ha, hb⟩ := Bool.and_eq_true_iff.mp hok
    obtain ⟨x, hx, rfl⟩ := car_nI ha
    obtain ⟨y, hy, rfl⟩ := car_nI hb
    rw [if_pos e, if_pos e]
    exact fin_rd h ((h.out _).debt hx hy).symm
  · refine ⟨I, J, rfl, h, ?_⟩
    have e : ¬ (isCar a && isCar b) = true := by rw [hx]; exact Bool.false_ne_true
    rw [if_neg e]
    exact fin_th h (by decide)
theorem mid_charged {cy : Nat → ClassId} {R : List Nat} {ad : Nat → Nat} {q : Nat → Nat → Nat} {ns nt : Nat} {I : Nat → Nat → Int32} {J : Nat → Nat → Int64} (h : SR q ns nt I J I J) {a b : Int32} {r : Int32} {u' : k_S} (hp : (∃ (v : Int64) (u : k_S), (((isCar a && isCar b) = true) ∧ v = (chSum J nt (pairI a b) 60) ∧ u = (R, ad, k_c cy ad q ns nt I J)) ∧ r = 0 ∧ k_O u v u') ∨ (∃ u : k_S, ((e_IO = e_IO ∧ (isCar a && isCar b) = false) ∧ u = (R, ad, k_c cy ad q ns nt I J)) ∧ r = 1 ∧ u' = u)) : ∃ (I1 : Nat → Nat → Int32) (J1 : Nat → Nat → Int64), u' = (R, ad, k_c cy ad q ns nt I1 J1) ∧ SR q ns nt I J I1 J1 ∧ kFin q ns nt (wI I1 13 0 (if (isCar a && isCar b) = true then 0 else 1)) J1 r (if (isCar a && isCar b) = true then J1 19 (5 * a + b).toNatClampNeg else 0) := by
  rcases hp with ⟨v, u, ⟨hok, rfl, rfl⟩, rfl, hO⟩ | ⟨u, ⟨⟨-, hx⟩, rfl⟩, rfl, rfl⟩
  · refine ⟨I, _, kO_c hO, h.out _, ?_⟩
    have e := hok
    obtain ⟨ha, hb⟩ := Bool.and_eq_true_iff.mp hok
    obtain ⟨x, hx, rfl⟩ := car_nI ha
    obtain ⟨y, hy, rfl⟩ := car_nI hb
    rw [pair_c hx hy, p5_c hx hy]
    rw [if_pos e, if_pos e]
    exact fin_rd h ((h.out _).chg _ (by omega)).symm
  · refine ⟨I, J, rfl, h, ?_⟩
    have e : ¬ (isCar a && isCar b) = true := by rw [hx]; exact Bool.false_ne_true
    rw [if_neg e]
    exact fin_th h (by decide)
theorem mid_isBarred {cy : Nat → ClassId} {R : List Nat} {ad : Nat → Nat} {q : Nat → Nat → Nat} {ns nt : Nat} {I : Nat → Nat → Int32} {J : Nat → Nat → Int64} (h : SR q ns nt I J I J) {a b : Int32} {r : Int32} {u' : k_S} (hp : (∃ (v : Int32) (u : k_S), (((isCar a && isCar b) = true) ∧ v = (k_b (!openF I J a b)) ∧ u = (R, ad, k_c cy ad q ns nt I J)) ∧ r = 0 ∧ k_O u (if v = 0 then 0 else 1) u') ∨ (∃ u : k_S, ((e_IO = e_IO ∧ (isCar a && isCar b) = false) ∧ u = (R, ad, k_c cy ad q ns nt I J)) ∧ r = 1 ∧ u' = u)) : ∃ (I1 : Nat → Nat → Int32) (J1 : Nat → Nat → Int64), u' = (R, ad, k_c cy ad q ns nt I1 J1) ∧ SR q ns nt I J I1 J1 ∧ kFin q ns nt (wI I1 13 0 (if (isCar a && isCar b) = true then 0 else 1)) J1 r (if (k_b ((isCar a && isCar b) && shutM I1 J1 a b)) = 0 then 0 else 1) := by
  rcases hp with ⟨v, u, ⟨hok, rfl, rfl⟩, rfl, hO⟩ | ⟨u, ⟨⟨-, hx⟩, rfl⟩, rfl, rfl⟩
  · refine ⟨I, _, kO_c hO, h.out _, ?_⟩
    have e := hok
    obtain ⟨ha, hb⟩ := Bool.and_eq_true_iff.mp hok
    obtain ⟨x, hx, rfl⟩ := car_nI ha
    obtain ⟨y, hy, rfl⟩ := car_nI hb
    rw [if_pos e]
    refine fin_rd h ?_
    rw [e, Bool.true_and, (h.out _).shut hx hy]
  · refine ⟨I, J, rfl, h, ?_⟩
    have e : ¬ (isCar a && isCar b) = true := by rw [hx]; exact Bool.false_ne_true
    rw [if_neg e]
    exact fin_th h (by decide)
theorem mid_position {cy : Nat → ClassId} {R : List Nat} {ad : Nat → Nat} {q : Nat → Nat → Nat} {ns nt : Nat} {I : Nat → Nat → Int32} {J : Nat → Nat → Int64} (h : SR q ns nt I J I J) {a : Int32} {r : Int32} {u' : k_S} (hp : (∃ (v : Int64) (u : k_S), ((isCar a = true) ∧ v = (posF J a 5) ∧ u = (R, ad, k_c cy ad q ns nt I J)) ∧ r = 0 ∧ k_O u v u') ∨ (∃ u : k_S, ((e_IO = e_IO ∧ isCar a = false) ∧ u = (R, ad, k_c cy ad q ns nt I J)) ∧ r = 1 ∧ u' = u)) : ∃ (I1 : Nat → Nat → Int32) (J1 : Nat → Nat → Int64), u' = (R, ad, k_c cy ad q ns nt I1 J1) ∧ SR q ns nt I J I1 J1 ∧ kFin q ns nt (wI I1 13 0 (if isCar a = true then 0 else 1)) J1 r (if isCar a = true then posM J1 a 5 else 0) := by
  rcases hp with ⟨v, u, ⟨hok, rfl, rfl⟩, rfl, hO⟩ | ⟨u, ⟨⟨-, hx⟩, rfl⟩, rfl, rfl⟩
  · refine ⟨I, _, kO_c hO, h.out _, ?_⟩
    have e := hok
    obtain ⟨x, hx, rfl⟩ := car_nI hok
    rw [if_pos e, if_pos e]
    exact fin_rd h (pos_eq (h.out _) hx 5 (Nat.le_refl 5)).symm
  · refine ⟨I, J, rfl, h, ?_⟩
    have e : ¬ isCar a = true := by rw [hx]; exact Bool.false_ne_true
    rw [if_neg e]
    exact fin_th h (by decide)
theorem mid_home {cy : Nat → ClassId} {R : List Nat} {ad : Nat → Nat} {q : Nat → Nat → Nat} {ns nt : Nat} {I : Nat → Nat → Int32} {J : Nat → Nat → Int64} (h : SR q ns nt I J I J) {a b : Int32} {r : Int32} {u' : k_S} (hp : (∃ (v : Int32) (u : k_S), ((isN ns a = true ∧ ¬ homeF I (40 + 2 * a.toNatClampNeg) b = -1) ∧ v = (homeF I (40 + 2 * a.toNatClampNeg) b) ∧ u = (R, ad, k_c cy ad q ns nt I J)) ∧ r = 0 ∧ k_O u v.toInt64 u') ∨ (∃ u : k_S, ((e_IO = e_IO ∧ (isN ns a = false ∨ homeF I (40 + 2 * a.toNatClampNeg) b = -1)) ∧ u = (R, ad, k_c cy ad q ns nt I J)) ∧ r = 1 ∧ u' = u)) : ∃ (I1 : Nat → Nat → Int32) (J1 : Nat → Nat → Int64), u' = (R, ad, k_c cy ad q ns nt I1 J1) ∧ SR q ns nt I J I1 J1 ∧ kFin q ns nt (wI I1 13 0 (if mHom I1 a b = true then 0 else 1)) J1 r (if mHom I1 a b = true then I1 22 (10 * a + I1 21 a.toNatClampNeg - 1 - b).toNatClampNeg else 0).toInt64 := by
  rcases hp with ⟨v, u, ⟨hok, rfl, rfl⟩, rfl, hO⟩ | ⟨u, ⟨⟨-, hx⟩, rfl⟩, rfl, rfl⟩
  · refine ⟨I, _, kO_c hO, h.out _, ?_⟩
    obtain ⟨hn, hm⟩ := hok
    obtain ⟨i, hi, rfl, e2⟩ := isN_of hn
    rw [e2] at hm ⊢
    have H := home_eq h hi b
    by_cases g : (!decide (b < 0) && decide (b < I 21 i)) = true
    case neg => rw [if_neg g] at H; exact absurd H hm
    rw [if_pos g] at H
    have e : mHom I (nI i) b = true := by rw [mHom, h.num, hn, e2, Bool.true_and]; exact g
    rw [if_pos e, if_pos e]
    exact fin_rd h (by rw [H.1])
  · refine ⟨I, J, rfl, h, ?_⟩
    have e : ¬ mHom I a b = true := by
      rw [mHom, h.num]
      rcases hx with hx | hx
      · rw [hx]; exact Bool.false_ne_true
      · intro g
        obtain ⟨g1, g2⟩ := Bool.and_eq_true_iff.mp g
        obtain ⟨i, hi, rfl, e2⟩ := isN_of g1
        rw [e2] at hx g2
        have H := home_eq h hi b
        rw [if_pos g2] at H
        obtain ⟨-, c, hc, e3⟩ := H
        rw [hx] at e3
        exact nI_nm1 (by omega) e3.symm
    rw [if_neg e]
    exact fin_th h (by decide)
theorem mid_way {cy : Nat → ClassId} {R : List Nat} {ad : Nat → Nat} {q : Nat → Nat → Nat} {ns nt : Nat} {I : Nat → Nat → Int32} {J : Nat → Nat → Int64} (h : SR q ns nt I J I J) {a b : Int32} {r : Int32} {u' : k_S} (hp : (∃ (v : Int32) (u : k_S), ((isN nt a = true ∧ ¬ carAt I ((80 + 4 * a.toNatClampNeg) + 1) b = -1) ∧ v = (carAt I ((80 + 4 * a.toNatClampNeg) + 1) b) ∧ u = (R, ad, k_c cy ad q ns nt I J)) ∧ r = 0 ∧ k_O u v.toInt64 u') ∨ (∃ u : k_S, ((e_IO = e_IO ∧ (isN nt a = false ∨ carAt I ((80 + 4 * a.toNatClampNeg) + 1) b = -1)) ∧ u = (R, ad, k_c cy ad q ns nt I J)) ∧ r = 1 ∧ u' = u)) : ∃ (I1 : Nat → Nat → Int32) (J1 : Nat → Nat → Int64), u' = (R, ad, k_c cy ad q ns nt I1 J1) ∧ SR q ns nt I J I1 J1 ∧ kFin q ns nt (wI I1 13 0 (if mWay I1 a b = true then 0 else 1)) J1 r (if mWay I1 a b = true then I1 33 (5 * a + b).toNatClampNeg else 0).toInt64 := by
  rcases hp with ⟨v, u, ⟨hok, rfl, rfl⟩, rfl, hO⟩ | ⟨u, ⟨⟨-, hx⟩, rfl⟩, rfl, rfl⟩
  · refine ⟨I, _, kO_c hO, h.out _, ?_⟩
    obtain ⟨hn, hm⟩ := hok
    obtain ⟨i, hi, rfl, e2⟩ := isN_of hn
    rw [e2] at hm ⊢
    have H := way_eq h hi b
    by_cases g : isWi b 0 (I 32 i - 1) = true
    case neg => rw [if_neg g] at H; exact absurd H hm
    rw [if_pos g] at H
    have e : mWay I (nI i) b = true := by rw [mWay, h.iscal, hn, e2, Bool.true_and]; exact g
    rw [if_pos e, if_pos e]
    exact fin_rd h (by rw [H.1])
  · refine ⟨I, J, rfl, h, ?_⟩
    have e : ¬ mWay I a b = true := by
      rw [mWay, h.iscal]
      rcases hx with hx | hx
      · rw [hx]; exact Bool.false_ne_true
      · intro g
        obtain ⟨g1, g2⟩ := Bool.and_eq_true_iff.mp g
        obtain ⟨i, hi, rfl, e2⟩ := isN_of g1
        rw [e2] at hx g2
        have H := way_eq h hi b
        rw [if_pos g2] at H
        obtain ⟨-, c, hc, e3⟩ := H
        rw [hx] at e3
        exact nI_nm1 (by omega) e3.symm
    rw [if_neg e]
    exact fin_th h (by decide)
end MIDS
