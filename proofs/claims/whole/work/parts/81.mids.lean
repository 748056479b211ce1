section MIDS
theorem e_IOIA : e_IO ≠ e_IA := by decide
theorem e_IOIS : e_IO ≠ e_IS := by decide
theorem e_IAIS : e_IA ≠ e_IS := by decide
theorem kO_c {cy : Nat → ClassId} {R : List Nat} {ad : Nat → Nat} {q : Nat → Nat → Nat} {ns nt : Nat} {I : Nat → Nat → Int32} {J : Nat → Nat → Int64} {x : Int64} {u' : k_S} (h : k_O (R, ad, k_c cy ad q ns nt I J) x u') : u' = (R, ad, k_c cy ad q ns nt I (wJ J 12 0 x)) := by
  obtain ⟨R', cy', ad', q', ns', nt', I', J', h1, rfl⟩ := h
  injection h1 with e1 h2
  injection h2 with e2 e3
  subst e1
  subst e2
  have e4 : ∀ r, k_sh cy ad q ns nt r (I r) (J r) = k_sh cy' ad q' ns' nt' r (I' r) (J' r) := fun r => congrFun e3 r
  refine congrArg (fun z => (R, ad, z)) (funext fun r => ?_)
  show k_sh cy' ad q' ns' nt' r (I' r) (wJ J' 12 0 x r) = k_sh cy ad q ns nt r (I r) (wJ J 12 0 x r)
  by_cases hr : r = 12
  · subst hr
    have h12 := e4 12
    rw [ss_12, ss_12] at h12
    rw [ss_12, ss_12]
    injection h12 with h13
    injection h13 with h14 h15
    injection h15 with h16 h17
    injection h17 with h18
    injection h18 with h19
    have : wJ J' 12 0 x 12 = wJ J 12 0 x 12 := funext fun k => by rw [wJ_eq, wJ_eq, h19]
    rw [h14, this]
  · rw [wJ_row hr, wJ_row hr]
    exact (e4 r).symm
/-- after both calls: the relation, the code, and what out holds -/
def kFin (q : Nat → Nat → Nat) (ns nt : Nat) (I : Nat → Nat → Int32) (J : Nat → Nat → Int64) (r : Int32) (ans : Int64) : Prop := SR q ns nt I J I J ∧ I 13 0 = r ∧ (r = 0 → J 12 0 = ans)
theorem SR.out {q : Nat → Nat → Nat} {ns nt : Nat} {I : Nat → Nat → Int32} {J : Nat → Nat → Int64} (h : SR q ns nt I J I J) (v : Int64) : SR q ns nt I J I (wJ J 12 0 v) := h.same (fun _ _ _ => rfl) (fun _ _ _ => rfl) (fun _ _ => rfl) (fun r hr => wJ_row hr)
theorem fin_th {q : Nat → Nat → Nat} {ns nt : Nat} {I : Nat → Nat → Int32} {J : Nat → Nat → Int64} (h : SR q ns nt I J I J) {r : Int32} {ans : Int64} (hr : ¬ r = 0) : kFin q ns nt (wI I 13 0 r) J r ans := by
  have e : ∀ x k, ¬ scr x k → wI I 13 0 r x k = I x k := fun x k hx => by rw [wI_eq, if_neg (by unfold scr at hx; omega)]
  exact ⟨h.same e e (fun _ _ => rfl) (fun _ _ => rfl), wI_at, fun h9 => absurd h9 hr⟩
theorem fin_rd {q : Nat → Nat → Nat} {ns nt : Nat} {I : Nat → Nat → Int32} {J : Nat → Nat → Int64} (h : SR q ns nt I J I J) {ans v : Int64} (hv : v = ans) : kFin q ns nt (wI I 13 0 0) (wJ J 12 0 v) 0 ans := by
  have e : ∀ x k, ¬ scr x k → wI I 13 0 0 x k = I x k := fun x k hx => by rw [wI_eq, if_neg (by unfold scr at hx; omega)]
  exact ⟨h.same e e (fun r hr => wJ_row hr) (fun r hr => wJ_row hr), wI_at, fun _ => by rw [wJ_at, hv]⟩
theorem wi_r {v : Int32} {lo hi : Nat} (hh : hi < 2 ^ 31) (hl : lo < 2 ^ 31) (h : isWi v (nI lo) (nI hi) = true) : ∃ n : Nat, lo ≤ n ∧ n ≤ hi ∧ v = nI n := by
  simp only [isWi, Bool.and_eq_true, Bool.not_eq_true', decide_eq_false_iff_not] at h
  obtain ⟨h1, h2⟩ := h
  have h0 : ¬ v < 0 := by
    rw [Int32.lt_iff_toInt_lt, nI_toInt hl] at h1
    rw [Int32.lt_iff_toInt_lt]
    have : (0 : Int32).toInt = 0 := rfl
    omega
  obtain ⟨n, hn, rfl⟩ := nI_of h0
  rw [nI_ltI hn hl] at h1
  rw [nI_ltI hh hn] at h2
  exact ⟨n, by omega, by omega, rfl⟩
theorem isN_of {n : Nat} {a : Int32} (h : isN n a = true) : ∃ i, i < n ∧ a = nI i ∧ a.toNatClampNeg = i := isN_nI h
theorem pos_eq {q : Nat → Nat → Nat} {ns nt : Nat} {Ic Im : Nat → Nat → Int32} {Jc Jm : Nat → Nat → Int64} (h : SR q ns nt Ic Jc Im Jm) {c : Nat} (hc : c < 5) : ∀ n, n ≤ 5 → posM Jm (nI c) n = posF Jc (nI c) n := by
  intro n
  induction n with
  | zero => intro _; rfl
  | succ n ih => intro hn; rw [posM, posF, ih (by omega), h.debt (by omega) hc]
/-- a home asked for: where both find it -/
theorem home_eq {q : Nat → Nat → Nat} {ns nt : Nat} {Ic Im : Nat → Nat → Int32} {Jc Jm : Nat → Nat → Int64} (h : SR q ns nt Ic Jc Im Jm) {i : Nat} (hi : i < ns) (b : Int32) :
    if (!decide (b < 0) && decide (b < Im 21 i)) = true then (homeF Ic (40 + 2 * i) b = Im 22 (10 * nI i + Im 21 i - 1 - b).toNatClampNeg ∧ ∃ c : Nat, c < 5 ∧ homeF Ic (40 + 2 * i) b = nI c) else homeF Ic (40 + 2 * i) b = -1 := by
  have hns := h.hns
  obtain ⟨⟨m, h1, h2, h3, h4, h5⟩, -⟩ := h.sub i hi
  have e10 : decide ((10 : Int32) < nI m) = false := by
    rw [decide_eq_false_iff_not]
    intro hc
    have hc2 : nI 10 < nI m := hc
    rw [nI_ltI (by omega) (by omega)] at hc2
    omega
  unfold homeF
  rw [h3, h4, e10]
  by_cases h0 : b < 0
  · simp [h0]
  · obtain ⟨t, ht, rfl⟩ := nI_of h0
    have e1 : decide (nI m ≤ nI t) = !decide (nI t < nI m) := by
      rw [Bool.eq_iff_iff]
      simp only [decide_eq_true_eq, Bool.not_eq_true', decide_eq_false_iff_not]
      rw [nI_leI (by omega) ht, nI_ltI ht (by omega)]
      omega
    rw [e1]
    by_cases h9 : nI t < nI m
    · rw [nI_ltI ht (by omega)] at h9
      have e2 : decide (nI t < nI m) = true := by rw [decide_eq_true_eq, nI_ltI ht (by omega)]; exact h9
      have e3 : decide (nI t < 0) = false := by rw [decide_eq_false_iff_not]; exact h0
      rw [e2, e3]
      simp only [Bool.not_false, Bool.not_true, Bool.and_true, if_true]
      obtain ⟨g1, c, g2, g3⟩ := h5 (m - 1 - t) (by omega)
      have e4 : (nI m - 1 - nI t).toNatClampNeg = m - 1 - t := by rw [nI_m1 h1, pk_sub (by omega), nI_clamp (by omega)]
      have e5 : (10 * nI i + nI m - 1 - nI t).toNatClampNeg = 10 * i + (m - 1 - t) := by
        rw [n10, nI_m1 (by omega), pk_sub (by omega), nI_clamp (by omega)]
        omega
      rw [e4, e5, g1, g3]
      exact ⟨rfl, c, g2, rfl⟩
    · have e2 : decide (nI t < nI m) = false := by rw [decide_eq_false_iff_not]; exact h9
      rw [e2]
      simp
theorem nI_nm1 {n : Nat} (h : n < 2 ^ 31) : ¬ nI n = -1 := fun hc => nI_pos h (by rw [hc]; decide)
/-- a call's way asked for: where both find it -/
theorem way_eq {q : Nat → Nat → Nat} {ns nt : Nat} {Ic Im : Nat → Nat → Int32} {Jc Jm : Nat → Nat → Int64} (h : SR q ns nt Ic Jc Im Jm) {j : Nat} (hj : j < nt) (b : Int32) :
    if isWi b 0 (Im 32 j - 1) = true then (carAt Ic (80 + 4 * j + 1) b = Im 33 (5 * nI j + b).toNatClampNeg ∧ ∃ c : Nat, c < 5 ∧ carAt Ic (80 + 4 * j + 1) b = nI c) else carAt Ic (80 + 4 * j + 1) b = -1 := by
  have hnt := h.hnt
  obtain ⟨-, -, -, -, -, -, -, p, ⟨h1, h2, h2c⟩, h3, h4, h5⟩ := h.cal j hj
  rw [h4, ← carAt_no h3 ⟨h1, h2⟩]
  by_cases g : isPl (Ic (80 + 4 * j + 1) 1) b = true
  · rw [if_pos g]
    rw [carAt_no h3 ⟨h1, h2⟩] at g
    have h0 : ¬ b < 0 := by
      simp only [isWi, Bool.and_eq_true, Bool.not_eq_true', decide_eq_false_iff_not] at g
      exact g.1
    obtain ⟨t, ht, rfl⟩ := nI_of h0
    have htl : t < p.length := by
      rw [nI_m1 h1] at g
      simp only [isWi, Bool.and_eq_true, Bool.not_eq_true', decide_eq_false_iff_not] at g
      have g2 := g.2
      rw [nI_ltI (by omega) ht] at g2
      omega
    rw [rou_at h3 h2 htl, n5jk, nI_clamp (by omega), h5 t htl]
    exact ⟨rfl, p.getD t 0, h2c _ (getD_mem htl), rfl⟩
  · rw [if_neg g, carAt, if_neg g]
theorem mid_balance {cy : Nat → ClassId} {R : List Nat} {ad : Nat → Nat} {q : Nat → Nat → Nat} {ns nt : Nat} {I : Nat → Nat → Int32} {J : Nat → Nat → Int64} (h : SR q ns nt I J I J) {a : Int32} {r : Int32} {u' : k_S} (hp : (∃ (v : Int32) (u : k_S), ((isN ns a = true) ∧ v = (I (40 + 2 * a.toNatClampNeg) 2) ∧ u = (R, ad, k_c cy ad q ns nt I J)) ∧ r = 0 ∧ k_O u v.toInt64 u') ∨ (∃ u : k_S, ((e_IO = e_IO ∧ isN ns a = false) ∧ u = (R, ad, k_c cy ad q ns nt I J)) ∧ r = 1 ∧ u' = u)) : ∃ (I1 : Nat → Nat → Int32) (J1 : Nat → Nat → Int64), u' = (R, ad, k_c cy ad q ns nt I1 J1) ∧ SR q ns nt I J I1 J1 ∧ kFin q ns nt (wI I1 13 0 (if isNum I1 a = true then 0 else 1)) J1 r (if isNum I1 a = true then I1 23 a.toNatClampNeg else 0).toInt64 := by
  rcases hp with ⟨v, u, ⟨hok, rfl, rfl⟩, rfl, hO⟩ | ⟨u, ⟨⟨-, hx⟩, rfl⟩, rfl, rfl⟩
  · refine ⟨I, _, kO_c hO, h.out _, ?_⟩
    have e : isNum I a = true := by rw [h.num]; exact hok
    rw [if_pos e, if_pos e]
    exact fin_rd h (by rw [(h.sub _ (isN_lt hok)).2.1])
  · refine ⟨I, J, rfl, h, ?_⟩
    have e : ¬ isNum I a = true := by rw [h.num, hx]; exact Bool.false_ne_true
    rw [if_neg e]
    exact fin_th h (by decide)
theorem mid_bundle {cy : Nat → ClassId} {R : List Nat} {ad : Nat → Nat} {q : Nat → Nat → Nat} {ns nt : Nat} {I : Nat → Nat → Int32} {J : Nat → Nat → Int64} (h : SR q ns nt I J I J) {a : Int32} {r : Int32} {u' : k_S} (hp : (∃ (v : Int32) (u : k_S), ((isN ns a = true) ∧ v = (I (40 + 2 * a.toNatClampNeg) 3) ∧ u = (R, ad, k_c cy ad q ns nt I J)) ∧ r = 0 ∧ k_O u v.toInt64 u') ∨ (∃ u : k_S, ((e_IO = e_IO ∧ isN ns a = false) ∧ u = (R, ad, k_c cy ad q ns nt I J)) ∧ r = 1 ∧ u' = u)) : ∃ (I1 : Nat → Nat → Int32) (J1 : Nat → Nat → Int64), u' = (R, ad, k_c cy ad q ns nt I1 J1) ∧ SR q ns nt I J I1 J1 ∧ kFin q ns nt (wI I1 13 0 (if isNum I1 a = true then 0 else 1)) J1 r (if isNum I1 a = true then I1 24 a.toNatClampNeg else 0).toInt64 := by
  rcases hp with ⟨v, u, ⟨hok, rfl, rfl⟩, rfl, hO⟩ | ⟨u, ⟨⟨-, hx⟩, rfl⟩, rfl, rfl⟩
  · refine ⟨I, _, kO_c hO, h.out _, ?_⟩
    have e : isNum I a = true := by rw [h.num]; exact hok
    rw [if_pos e, if_pos e]
    exact fin_rd h (by rw [(h.sub _ (isN_lt hok)).2.2])
  · refine ⟨I, J, rfl, h, ?_⟩
    have e : ¬ isNum I a = true := by rw [h.num, hx]; exact Bool.false_ne_true
    rw [if_neg e]
    exact fin_th h (by decide)
theorem mid_state {cy : Nat → ClassId} {R : List Nat} {ad : Nat → Nat} {q : Nat → Nat → Nat} {ns nt : Nat} {I : Nat → Nat → Int32} {J : Nat → Nat → Int64} (h : SR q ns nt I J I J) {a : Int32} {r : Int32} {u' : k_S} (hp : (∃ (v : Int32) (u : k_S), ((isN nt a = true) ∧ v = (I (80 + 4 * a.toNatClampNeg) 6) ∧ u = (R, ad, k_c cy ad q ns nt I J)) ∧ r = 0 ∧ k_O u v.toInt64 u') ∨ (∃ u : k_S, ((e_IO = e_IO ∧ isN nt a = false) ∧ u = (R, ad, k_c cy ad q ns nt I J)) ∧ r = 1 ∧ u' = u)) : ∃ (I1 : Nat → Nat → Int32) (J1 : Nat → Nat → Int64), u' = (R, ad, k_c cy ad q ns nt I1 J1) ∧ SR q ns nt I J I1 J1 ∧ kFin q ns nt (wI I1 13 0 (if isCal I1 a = true then 0 else 1)) J1 r (if isCal I1 a = true then I1 27 a.toNatClampNeg else 0).toInt64 := by
  rcases hp with ⟨v, u, ⟨hok, rfl, rfl⟩, rfl, hO⟩ | ⟨u, ⟨⟨-, hx⟩, rfl⟩, rfl, rfl⟩
  · refine ⟨I, _, kO_c hO, h.out _, ?_⟩
    have e : isCal I a = true := by rw [h.iscal]; exact hok
    rw [if_pos e, if_pos e]
    exact fin_rd h (by rw [(h.cal _ (isN_lt hok)).2.2.1])
  · refine ⟨I, J, rfl, h, ?_⟩
    have e : ¬ isCal I a = true := by rw [h.iscal, hx]; exact Bool.false_ne_true
    rw [if_neg e]
    exact fin_th h (by decide)
theorem mid_minutes {cy : Nat → ClassId} {R : List Nat} {ad : Nat → Nat} {q : Nat → Nat → Nat} {ns nt : Nat} {I : Nat → Nat → Int32} {J : Nat → Nat → Int64} (h : SR q ns nt I J I J) {a : Int32} {r : Int32} {u' : k_S} (hp : (∃ (v : Int32) (u : k_S), ((isN nt a = true) ∧ v = (I (80 + 4 * a.toNatClampNeg) 7) ∧ u = (R, ad, k_c cy ad q ns nt I J)) ∧ r = 0 ∧ k_O u v.toInt64 u') ∨ (∃ u : k_S, ((e_IO = e_IO ∧ isN nt a = false) ∧ u = (R, ad, k_c cy ad q ns nt I J)) ∧ r = 1 ∧ u' = u)) : ∃ (I1 : Nat → Nat → Int32) (J1 : Nat → Nat → Int64), u' = (R, ad, k_c cy ad q ns nt I1 J1) ∧ SR q ns nt I J I1 J1 ∧ kFin q ns nt (wI I1 13 0 (if isCal I1 a = true then 0 else 1)) J1 r (if isCal I1 a = true then I1 30 a.toNatClampNeg else 0).toInt64 := by
  rcases hp with ⟨v, u, ⟨hok, rfl, rfl⟩, rfl, hO⟩ | ⟨u, ⟨⟨-, hx⟩, rfl⟩, rfl, rfl⟩
  · refine ⟨I, _, kO_c hO, h.out _, ?_⟩
    have e : isCal I a = true := by rw [h.iscal]; exact hok
    rw [if_pos e, if_pos e]
    exact fin_rd h (by rw [(h.cal _ (isN_lt hok)).2.2.2.2.2.1])
  · refine ⟨I, J, rfl, h, ?_⟩
    have e : ¬ isCal I a = true := by rw [h.iscal, hx]; exact Bool.false_ne_true
    rw [if_neg e]
    exact fin_th h (by decide)
theorem mid_moved {cy : Nat → ClassId} {R : List Nat} {ad : Nat → Nat} {q : Nat → Nat → Nat} {ns nt : Nat} {I : Nat → Nat → Int32} {J : Nat → Nat → Int64} (h : SR q ns nt I J I J) {a : Int32} {r : Int32} {u' : k_S} (hp : (∃ (v : Int32) (u : k_S), ((isN nt a = true) ∧ v = (I (80 + 4 * a.toNatClampNeg) 8) ∧ u = (R, ad, k_c cy ad q ns nt I J)) ∧ r = 0 ∧ k_O u v.toInt64 u') ∨ (∃ u : k_S, ((e_IO = e_IO ∧ isN nt a = false) ∧ u = (R, ad, k_c cy ad q ns nt I J)) ∧ r = 1 ∧ u' = u)) : ∃ (I1 : Nat → Nat → Int32) (J1 : Nat → Nat → Int64), u' = (R, ad, k_c cy ad q ns nt I1 J1) ∧ SR q ns nt I J I1 J1 ∧ kFin q ns nt (wI I1 13 0 (if isCal I1 a = true then 0 else 1)) J1 r (if isCal I1 a = true then I1 31 a.toNatClampNeg else 0).toInt64 := by
  rcases hp with ⟨v, u, ⟨hok, rfl, rfl⟩, rfl, hO⟩ | ⟨u, ⟨⟨-, hx⟩, rfl⟩, rfl, rfl⟩
  · refine ⟨I, _, kO_c hO, h.out _, ?_⟩
    have e : isCal I a = true := by rw [h.iscal]; exact hok
    rw [if_pos e, if_pos e]
    exact fin_rd h (by rw [(h.cal _ (isN_lt hok)).2.2.2.2.2.2.1])
  · refine ⟨I, J, rfl, h, ?_⟩
    have e : ¬ isCal I a = true := by rw [h.iscal, hx]; exact Bool.false_ne_true
    rw [if_neg e]
    exact fin_th h (by decide)
theorem mid_debt {cy : Nat → ClassId} {R : List Nat} {ad : Nat → Nat} {q : Nat → Nat → Nat} {ns nt : Nat} {I : Nat → Nat → Int32} {J : Nat → Nat → Int64} (h : SR q ns nt I J I J) {a b : Int32} {r : Int32} {u' : k_S} (hp : (∃ (v : Int64) (u : k_S), (((isCar a && isCar b) = true) ∧ v = (debtF J a b) ∧ u = (R, ad, k_c cy ad q ns nt I J)) ∧ r = 0 ∧ k_O u v u') ∨ (∃ u : k_S, ((e_IO = e_IO ∧ (isCar a && isCar b) = false) ∧ u = (R, ad, k_c cy ad q ns nt I J)) ∧ r = 1 ∧ u' = u)) : ∃ (I1 : Nat → Nat → Int32) (J1 : Nat → Nat → Int64), u' = (R, ad, k_c cy ad q ns nt I1 J1) ∧ SR q ns nt I J I1 J1 ∧ kFin q ns nt (wI I1 13 0 (if (isCar a && isCar b) = true then 0 else 1)) J1 r (if (isCar a && isCar b) = true then debtM J1 a b else 0) := by
  rcases hp with ⟨v, u, ⟨hok, rfl, rfl⟩, rfl, hO⟩ | ⟨u, ⟨⟨-, hx⟩, rfl⟩, rfl, rfl⟩
  · refine ⟨I, _, kO_c hO, h.out _, ?_⟩
    have e := hok
    obtain ⟨ha, hb⟩ := Bool.and_eq_true_iff.mp hok
    obtain ⟨x, hx, rfl⟩ := car_nI ha
    obtain ⟨y, hy, rfl⟩ := car_nI hb
    rw [if_pos e, if_pos e]
    exact fin_rd h ((h.out _).debt hx hy).symm
  · refine ⟨I, J, rfl, h, ?_⟩
    have e : ¬ (isCar a && isCar b) = true := by rw [hx]; exact Bool.false_ne_true
    rw [if_neg e]
    exact fin_th h (by decide)
theorem mid_charged {cy : Nat → ClassId} {R : List Nat} {ad : Nat → Nat} {q : Nat → Nat → Nat} {ns nt : Nat} {I : Nat → Nat → Int32} {J : Nat → Nat → Int64} (h : SR q ns nt I J I J) {a b : Int32} {r : Int32} {u' : k_S} (hp : (∃ (v : Int64) (u : k_S), (((isCar a && isCar b) = true) ∧ v = (chSum J nt (pairI a b) 60) ∧ u = (R, ad, k_c cy ad q ns nt I J)) ∧ r = 0 ∧ k_O u v u') ∨ (∃ u : k_S, ((e_IO = e_IO ∧ (isCar a && isCar b) = false) ∧ u = (R, ad, k_c cy ad q ns nt I J)) ∧ r = 1 ∧ u' = u)) : ∃ (I1 : Nat → Nat → Int32) (J1 : Nat → Nat → Int64), u' = (R, ad, k_c cy ad q ns nt I1 J1) ∧ SR q ns nt I J I1 J1 ∧ kFin q ns nt (wI I1 13 0 (if (isCar a && isCar b) = true then 0 else 1)) J1 r (if (isCar a && isCar b) = true then J1 19 (5 * a + b).toNatClampNeg else 0) := by
  rcases hp with ⟨v, u, ⟨hok, rfl, rfl⟩, rfl, hO⟩ | ⟨u, ⟨⟨-, hx⟩, rfl⟩, rfl, rfl⟩
  · refine ⟨I, _, kO_c hO, h.out _, ?_⟩
    have e := hok
    obtain ⟨ha, hb⟩ := Bool.and_eq_true_iff.mp hok
    obtain ⟨x, hx, rfl⟩ := car_nI ha
    obtain ⟨y, hy, rfl⟩ := car_nI hb
    rw [pair_c hx hy, p5_c hx hy]
    rw [if_pos e, if_pos e]
    exact fin_rd h ((h.out _).chg _ (by omega)).symm
  · refine ⟨I, J, rfl, h, ?_⟩
    have e : ¬ (isCar a && isCar b) = true := by rw [hx]; exact Bool.false_ne_true
    rw [if_neg e]
    exact fin_th h (by decide)
theorem mid_isBarred {cy : Nat → ClassId} {R : List Nat} {ad : Nat → Nat} {q : Nat → Nat → Nat} {ns nt : Nat} {I : Nat → Nat → Int32} {J : Nat → Nat → Int64} (h : SR q ns nt I J I J) {a b : Int32} {r : Int32} {u' : k_S} (hp : (∃ (v : Int32) (u : k_S), (((isCar a && isCar b) = true) ∧ v = (k_b (!openF I J a b)) ∧ u = (R, ad, k_c cy ad q ns nt I J)) ∧ r = 0 ∧ k_O u (if v = 0 then 0 else 1) u') ∨ (∃ u : k_S, ((e_IO = e_IO ∧ (isCar a && isCar b) = false) ∧ u = (R, ad, k_c cy ad q ns nt I J)) ∧ r = 1 ∧ u' = u)) : ∃ (I1 : Nat → Nat → Int32) (J1 : Nat → Nat → Int64), u' = (R, ad, k_c cy ad q ns nt I1 J1) ∧ SR q ns nt I J I1 J1 ∧ kFin q ns nt (wI I1 13 0 (if (isCar a && isCar b) = true then 0 else 1)) J1 r (if (k_b ((isCar a && isCar b) && shutM I1 J1 a b)) = 0 then 0 else 1) := by
  rcases hp with ⟨v, u, ⟨hok, rfl, rfl⟩, rfl, hO⟩ | ⟨u, ⟨⟨-, hx⟩, rfl⟩, rfl, rfl⟩
  · refine ⟨I, _, kO_c hO, h.out _, ?_⟩
    have e := hok
    obtain ⟨ha, hb⟩ := Bool.and_eq_true_iff.mp hok
    obtain ⟨x, hx, rfl⟩ := car_nI ha
    obtain ⟨y, hy, rfl⟩ := car_nI hb
    rw [if_pos e]
    refine fin_rd h ?_
    rw [e, Bool.true_and, (h.out _).shut hx hy]
  · refine ⟨I, J, rfl, h, ?_⟩
    have e : ¬ (isCar a && isCar b) = true := by rw [hx]; exact Bool.false_ne_true
    rw [if_neg e]
    exact fin_th h (by decide)
theorem mid_position {cy : Nat → ClassId} {R : List Nat} {ad : Nat → Nat} {q : Nat → Nat → Nat} {ns nt : Nat} {I : Nat → Nat → Int32} {J : Nat → Nat → Int64} (h : SR q ns nt I J I J) {a : Int32} {r : Int32} {u' : k_S} (hp : (∃ (v : Int64) (u : k_S), ((isCar a = true) ∧ v = (posF J a 5) ∧ u = (R, ad, k_c cy ad q ns nt I J)) ∧ r = 0 ∧ k_O u v u') ∨ (∃ u : k_S, ((e_IO = e_IO ∧ isCar a = false) ∧ u = (R, ad, k_c cy ad q ns nt I J)) ∧ r = 1 ∧ u' = u)) : ∃ (I1 : Nat → Nat → Int32) (J1 : Nat → Nat → Int64), u' = (R, ad, k_c cy ad q ns nt I1 J1) ∧ SR q ns nt I J I1 J1 ∧ kFin q ns nt (wI I1 13 0 (if isCar a = true then 0 else 1)) J1 r (if isCar a = true then posM J1 a 5 else 0) := by
  rcases hp with ⟨v, u, ⟨hok, rfl, rfl⟩, rfl, hO⟩ | ⟨u, ⟨⟨-, hx⟩, rfl⟩, rfl, rfl⟩
  · refine ⟨I, _, kO_c hO, h.out _, ?_⟩
    have e := hok
    obtain ⟨x, hx, rfl⟩ := car_nI hok
    rw [if_pos e, if_pos e]
    exact fin_rd h (pos_eq (h.out _) hx 5 (Nat.le_refl 5)).symm
  · refine ⟨I, J, rfl, h, ?_⟩
    have e : ¬ isCar a = true := by rw [hx]; exact Bool.false_ne_true
    rw [if_neg e]
    exact fin_th h (by decide)
theorem mid_home {cy : Nat → ClassId} {R : List Nat} {ad : Nat → Nat} {q : Nat → Nat → Nat} {ns nt : Nat} {I : Nat → Nat → Int32} {J : Nat → Nat → Int64} (h : SR q ns nt I J I J) {a b : Int32} {r : Int32} {u' : k_S} (hp : (∃ (v : Int32) (u : k_S), ((isN ns a = true ∧ ¬ homeF I (40 + 2 * a.toNatClampNeg) b = -1) ∧ v = (homeF I (40 + 2 * a.toNatClampNeg) b) ∧ u = (R, ad, k_c cy ad q ns nt I J)) ∧ r = 0 ∧ k_O u v.toInt64 u') ∨ (∃ u : k_S, ((e_IO = e_IO ∧ (isN ns a = false ∨ homeF I (40 + 2 * a.toNatClampNeg) b = -1)) ∧ u = (R, ad, k_c cy ad q ns nt I J)) ∧ r = 1 ∧ u' = u)) : ∃ (I1 : Nat → Nat → Int32) (J1 : Nat → Nat → Int64), u' = (R, ad, k_c cy ad q ns nt I1 J1) ∧ SR q ns nt I J I1 J1 ∧ kFin q ns nt (wI I1 13 0 (if mHom I1 a b = true then 0 else 1)) J1 r (if mHom I1 a b = true then I1 22 (10 * a + I1 21 a.toNatClampNeg - 1 - b).toNatClampNeg else 0).toInt64 := by
  rcases hp with ⟨v, u, ⟨hok, rfl, rfl⟩, rfl, hO⟩ | ⟨u, ⟨⟨-, hx⟩, rfl⟩, rfl, rfl⟩
  · refine ⟨I, _, kO_c hO, h.out _, ?_⟩
    obtain ⟨hn, hm⟩ := hok
    obtain ⟨i, hi, rfl, e2⟩ := isN_of hn
    rw [e2] at hm ⊢
    have H := home_eq h hi b
    by_cases g : (!decide (b < 0) && decide (b < I 21 i)) = true
    case neg => rw [if_neg g] at H; exact absurd H hm
    rw [if_pos g] at H
    have e : mHom I (nI i) b = true := by rw [mHom, h.num, hn, e2, Bool.true_and]; exact g
    rw [if_pos e, if_pos e]
    exact fin_rd h (by rw [H.1])
  · refine ⟨I, J, rfl, h, ?_⟩
    have e : ¬ mHom I a b = true := by
      rw [mHom, h.num]
      rcases hx with hx | hx
      · rw [hx]; exact Bool.false_ne_true
      · intro g
        obtain ⟨g1, g2⟩ := Bool.and_eq_true_iff.mp g
        obtain ⟨i, hi, rfl, e2⟩ := isN_of g1
        rw [e2] at hx g2
        have H := home_eq h hi b
        rw [if_pos g2] at H
        obtain ⟨-, c, hc, e3⟩ := H
        rw [hx] at e3
        exact nI_nm1 (by omega) e3.symm
    rw [if_neg e]
    exact fin_th h (by decide)
theorem mid_way {cy : Nat → ClassId} {R : List Nat} {ad : Nat → Nat} {q : Nat → Nat → Nat} {ns nt : Nat} {I : Nat → Nat → Int32} {J : Nat → Nat → Int64} (h : SR q ns nt I J I J) {a b : Int32} {r : Int32} {u' : k_S} (hp : (∃ (v : Int32) (u : k_S), ((isN nt a = true ∧ ¬ carAt I ((80 + 4 * a.toNatClampNeg) + 1) b = -1) ∧ v = (carAt I ((80 + 4 * a.toNatClampNeg) + 1) b) ∧ u = (R, ad, k_c cy ad q ns nt I J)) ∧ r = 0 ∧ k_O u v.toInt64 u') ∨ (∃ u : k_S, ((e_IO = e_IO ∧ (isN nt a = false ∨ carAt I ((80 + 4 * a.toNatClampNeg) + 1) b = -1)) ∧ u = (R, ad, k_c cy ad q ns nt I J)) ∧ r = 1 ∧ u' = u)) : ∃ (I1 : Nat → Nat → Int32) (J1 : Nat → Nat → Int64), u' = (R, ad, k_c cy ad q ns nt I1 J1) ∧ SR q ns nt I J I1 J1 ∧ kFin q ns nt (wI I1 13 0 (if mWay I1 a b = true then 0 else 1)) J1 r (if mWay I1 a b = true then I1 33 (5 * a + b).toNatClampNeg else 0).toInt64 := by
  rcases hp with ⟨v, u, ⟨hok, rfl, rfl⟩, rfl, hO⟩ | ⟨u, ⟨⟨-, hx⟩, rfl⟩, rfl, rfl⟩
  · refine ⟨I, _, kO_c hO, h.out _, ?_⟩
    obtain ⟨hn, hm⟩ := hok
    obtain ⟨i, hi, rfl, e2⟩ := isN_of hn
    rw [e2] at hm ⊢
    have H := way_eq h hi b
    by_cases g : isWi b 0 (I 32 i - 1) = true
    case neg => rw [if_neg g] at H; exact absurd H hm
    rw [if_pos g] at H
    have e : mWay I (nI i) b = true := by rw [mWay, h.iscal, hn, e2, Bool.true_and]; exact g
    rw [if_pos e, if_pos e]
    exact fin_rd h (by rw [H.1])
  · refine ⟨I, J, rfl, h, ?_⟩
    have e : ¬ mWay I a b = true := by
      rw [mWay, h.iscal]
      rcases hx with hx | hx
      · rw [hx]; exact Bool.false_ne_true
      · intro g
        obtain ⟨g1, g2⟩ := Bool.and_eq_true_iff.mp g
        obtain ⟨i, hi, rfl, e2⟩ := isN_of g1
        rw [e2] at hx g2
        have H := way_eq h hi b
        rw [if_pos g2] at H
        obtain ⟨-, c, hc, e3⟩ := H
        rw [hx] at e3
        exact nI_nm1 (by omega) e3.symm
    rw [if_neg e]
    exact fin_th h (by decide)
theorem mid_tariff {cy : Nat → ClassId} {R : List Nat} {ad : Nat → Nat} {q : Nat → Nat → Nat} {ns nt : Nat} {I : Nat → Nat → Int32} {J : Nat → Nat → Int64} (h : SR q ns nt I J I J) {a b c2 : Int32} {r : Int32} {u' : k_S} (hp : (∃ (v : Int32) (u : k_S), ((isCar a = true ∧ (isWi b 1 10 && isWi c2 0 1000) = true) ∧ v = (I 2 a.toNatClampNeg) ∧ u = (R, ad, k_c cy ad q ns nt (wI (wI I 1 a.toNatClampNeg b) 2 a.toNatClampNeg c2) J)) ∧ r = 0 ∧ k_O u v.toInt64 u') ∨ (∃ u : k_S, (((e_IO = e_IO ∧ isCar a = false) ∨ (e_IO = e_IA ∧ isCar a = true ∧ (isWi b 1 10 && isWi c2 0 1000) = false)) ∧ u = (R, ad, k_c cy ad q ns nt I J)) ∧ r = 1 ∧ u' = u) ∨ (∃ u : k_S, (((e_IA = e_IO ∧ isCar a = false) ∨ (e_IA = e_IA ∧ isCar a = true ∧ (isWi b 1 10 && isWi c2 0 1000) = false)) ∧ u = (R, ad, k_c cy ad q ns nt I J)) ∧ r = 2 ∧ u' = u)) : ∃ (I1 : Nat → Nat → Int32) (J1 : Nat → Nat → Int64), u' = (R, ad, k_c cy ad q ns nt I1 J1) ∧ SR q ns nt I J I1 J1 ∧ kFin q ns nt (if mTar a b c2 = 0 then wI (wI (wI I1 13 0 0) 14 a.toNatClampNeg b) 15 a.toNatClampNeg c2 else wI I1 13 0 (mTar a b c2)) J1 r (if mTar a b c2 = 0 then I1 15 a.toNatClampNeg else 0).toInt64 := by
  rcases hp with ⟨v, u, ⟨hok, rfl, rfl⟩, rfl, hO⟩ | ⟨u, ⟨hx, rfl⟩, rfl, rfl⟩ | ⟨u, ⟨hx, rfl⟩, rfl, rfl⟩
  · obtain ⟨hok, hok2⟩ := hok
    refine ⟨_, _, kO_c hO, ⟨h.hns, h.hnt, (by have := h.c6; (try simp (disch := omega) only [wI_row, wI_off]); exact this), (by have := h.c7; (try simp (disch := omega) only [wI_row, wI_off]); exact this), (by have := h.m8; (try simp (disch := omega) only [wI_row, wI_off]); exact this), (by have := h.m13; (try simp (disch := omega) only [wI_row, wI_off]); exact this), (by have := h.tar; unfold sTar at this ⊢; (try simp (disch := omega) only [wI_row]); exact this), (by have := h.lnk; unfold sLnk at this ⊢; (try simp (disch := omega) only [wI_row]); exact this), (by have := h.zz; unfold sZ at this ⊢; (try simp (disch := omega) only [wI_row]); exact this), (by have := h.dbt; unfold sDbt at this ⊢; (try simp (disch := omega) only [wJ_row]); exact this), (fun k hk => by rw [chSum_eq (J := J) (fun j _ => by try simp (disch := omega) only [wJ_row])]; (try simp (disch := omega) only [wJ_row]); exact h.chg k hk), (fun i hi => by have := h.sub i hi; (try simp (disch := omega) only [wI_row]); exact this), (fun j hj => (h.cal j hj).eq (fun r hr => by try simp (disch := omega) only [wI_row]) (fun r h1 h2 => by try simp (disch := omega) only [wI_row]) (fun i _ => by try simp (disch := omega) only [wI_row])), (by have := h.new; unfold sNew at this ⊢; (try simp (disch := omega) only [wI_row]); exact this)⟩, ?_⟩
    have e : mTar a b c2 = 0 := by rw [mTar, if_pos hok, if_pos hok2]
    obtain ⟨x, hx, rfl⟩ := car_nI hok
    have e9 : (nI x).toNatClampNeg = x := clamp_c (by omega)
    obtain ⟨n, hn1, hn2, hb⟩ := wi_r (lo := 1) (hi := 10) (by omega) (by omega) (Bool.and_eq_true_iff.mp hok2).1
    rw [if_pos e, if_pos e, e9]
    refine ⟨⟨h.hns, h.hnt, (by have := h.c6; (try simp (disch := omega) only [wI_row, wI_off]); exact this), (by have := h.c7; (try simp (disch := omega) only [wI_row, wI_off]); exact this), (by have := h.m8; (try simp (disch := omega) only [wI_row, wI_off]); exact this), (by have := h.m13; (try simp (disch := omega) only [wI_row, wI_off]); exact this), (fun k hk => by
        simp (disch := omega) only [wI_row]
        by_cases e8 : k = x
        · subst e8
          simp only [wI_at]
          exact ⟨trivial, trivial, n, hn1, hn2, hb⟩
        · simp (disch := omega) only [wI_off, wI_row]
          exact h.tar k hk), (by have := h.lnk; unfold sLnk at this ⊢; (try simp (disch := omega) only [wI_row]); exact this), (by have := h.zz; unfold sZ at this ⊢; (try simp (disch := omega) only [wI_row]); exact this), (by have := h.dbt; unfold sDbt at this ⊢; (try simp (disch := omega) only [wJ_row]); exact this), (fun k hk => by rw [chSum_eq (J := J) (fun j _ => by try simp (disch := omega) only [wJ_row])]; (try simp (disch := omega) only [wJ_row]); exact h.chg k hk), (fun i hi => by have := h.sub i hi; (try simp (disch := omega) only [wI_row]); exact this), (fun j hj => (h.cal j hj).eq (fun r hr => by try simp (disch := omega) only [wI_row]) (fun r h1 h2 => by try simp (disch := omega) only [wI_row]) (fun i _ => by try simp (disch := omega) only [wI_row])), (by have := h.new; unfold sNew at this ⊢; (try simp (disch := omega) only [wI_row]); exact this)⟩, ?_, fun _ => ?_⟩
    · simp (disch := omega) only [wI_row]
      exact wI_at
    · rw [wJ_at, (h.tar x hx).2.1.symm]
      simp (disch := omega) only [wI_row]
  · rcases hx with ⟨-, hx⟩ | ⟨hx, -⟩
    · refine ⟨I, J, rfl, h, ?_⟩
      have e : mTar a b c2 = 1 := by rw [mTar, if_neg (by rw [hx]; exact Bool.false_ne_true)]
      rw [if_neg (by rw [e]; decide), e]
      exact fin_th h (by decide)
    · exact absurd hx e_IOIA
  · rcases hx with ⟨hx, -⟩ | ⟨-, hx⟩
    · exact absurd hx.symm e_IOIA
    · obtain ⟨hx1, hx⟩ := hx
      refine ⟨I, J, rfl, h, ?_⟩
      have e : mTar a b c2 = 2 := by rw [mTar, if_pos hx1, if_neg (by rw [hx]; exact Bool.false_ne_true)]
      rw [if_neg (by rw [e]; decide), e]
      exact fin_th h (by decide)
theorem mid_link {cy : Nat → ClassId} {R : List Nat} {ad : Nat → Nat} {q : Nat → Nat → Nat} {ns nt : Nat} {I : Nat → Nat → Int32} {J : Nat → Nat → Int64} (h : SR q ns nt I J I J) {a b c2 d2 : Int32} {r : Int32} {u' : k_S} (hp : (∃ (v : Int32) (u : k_S), (((isCar a && isCar b) = true ∧ (!decide (a = b) && isWi c2 0 100 && isWi d2 0 100000) = true) ∧ v = (k_b (!decide (rateF I a b = -1))) ∧ u = (R, ad, k_c cy ad q ns nt (setLinkI I a b c2 d2) J)) ∧ r = 0 ∧ k_O u (if v = 0 then 0 else 1) u') ∨ (∃ u : k_S, (((e_IO = e_IO ∧ (isCar a && isCar b) = false) ∨ (e_IO = e_IA ∧ (isCar a && isCar b) = true ∧ (!decide (a = b) && isWi c2 0 100 && isWi d2 0 100000) = false)) ∧ u = (R, ad, k_c cy ad q ns nt I J)) ∧ r = 1 ∧ u' = u) ∨ (∃ u : k_S, (((e_IA = e_IO ∧ (isCar a && isCar b) = false) ∨ (e_IA = e_IA ∧ (isCar a && isCar b) = true ∧ (!decide (a = b) && isWi c2 0 100 && isWi d2 0 100000) = false)) ∧ u = (R, ad, k_c cy ad q ns nt I J)) ∧ r = 2 ∧ u' = u)) : ∃ (I1 : Nat → Nat → Int32) (J1 : Nat → Nat → Int64), u' = (R, ad, k_c cy ad q ns nt I1 J1) ∧ SR q ns nt I J I1 J1 ∧ kFin q ns nt (if mLnk a b c2 d2 = 0 then wI (wI (wI (wI I1 13 0 0) 16 (5 * a + b).toNatClampNeg 1) 17 (5 * a + b).toNatClampNeg c2) 18 (5 * a + b).toNatClampNeg d2 else wI I1 13 0 (mLnk a b c2 d2)) J1 r (if (if mLnk a b c2 d2 = 0 then I1 16 (5 * a + b).toNatClampNeg else 0) = 0 then 0 else 1) := by
  rcases hp with ⟨v, u, ⟨hok, rfl, rfl⟩, rfl, hO⟩ | ⟨u, ⟨hx, rfl⟩, rfl, rfl⟩ | ⟨u, ⟨hx, rfl⟩, rfl, rfl⟩
  · obtain ⟨hc, hok2⟩ := hok
    have e : mLnk a b c2 d2 = 0 := by rw [mLnk, if_pos hc, if_pos hok2]
    obtain ⟨ha, hb⟩ := Bool.and_eq_true_iff.mp hc
    obtain ⟨x, hx, rfl⟩ := car_nI ha
    obtain ⟨y, hy, rfl⟩ := car_nI hb
    rw [link_c hx hy] at hO
    have e9 : (5 * nI x + nI y).toNatClampNeg = 5 * x + y := p5_c hx hy
    refine ⟨_, _, kO_c hO, ⟨h.hns, h.hnt, (by have := h.c6; (try simp (disch := omega) only [wI_row, wI_off]); exact this), (by have := h.c7; (try simp (disch := omega) only [wI_row, wI_off]); exact this), (by have := h.m8; (try simp (disch := omega) only [wI_row, wI_off]); exact this), (by have := h.m13; (try simp (disch := omega) only [wI_row, wI_off]); exact this), (by have := h.tar; unfold sTar at this ⊢; (try simp (disch := omega) only [wI_row]); exact this), (by have := h.lnk; unfold sLnk at this ⊢; (try simp (disch := omega) only [wI_row]); exact this), (by have := h.zz; unfold sZ at this ⊢; (try simp (disch := omega) only [wI_row]); exact this), (by have := h.dbt; unfold sDbt at this ⊢; (try simp (disch := omega) only [wJ_row]); exact this), (fun k hk => by rw [chSum_eq (J := J) (fun j _ => by try simp (disch := omega) only [wJ_row])]; (try simp (disch := omega) only [wJ_row]); exact h.chg k hk), (fun i hi => by have := h.sub i hi; (try simp (disch := omega) only [wI_row]); exact this), (fun j hj => (h.cal j hj).eq (fun r hr => by try simp (disch := omega) only [wI_row]) (fun r h1 h2 => by try simp (disch := omega) only [wI_row]) (fun i _ => by try simp (disch := omega) only [wI_row])), (by have := h.new; unfold sNew at this ⊢; (try simp (disch := omega) only [wI_row]); exact this)⟩, ?_⟩
    obtain ⟨n, -, hn2, hn⟩ := wi_r (lo := 0) (hi := 100) (by omega) (by omega) (Bool.and_eq_true_iff.mp (Bool.and_eq_true_iff.mp hok2).1).2
    rw [if_pos e, if_pos e, e9]
    refine ⟨⟨h.hns, h.hnt, (by have := h.c6; (try simp (disch := omega) only [wI_row, wI_off]); exact this), (by have := h.c7; (try simp (disch := omega) only [wI_row, wI_off]); exact this), (by have := h.m8; (try simp (disch := omega) only [wI_row, wI_off]); exact this), (by have := h.m13; (try simp (disch := omega) only [wI_row, wI_off]); exact this), (by have := h.tar; unfold sTar at this ⊢; (try simp (disch := omega) only [wI_row]); exact this), (fun k hk => by
          simp (disch := omega) only [wI_row]
          by_cases e8 : k = 5 * x + y
          · subst e8
            simp only [wI_at]
            exact Or.inl ⟨trivial, trivial, trivial, n, hn2, hn⟩
          · simp (disch := omega) only [wI_off, wI_row]
            exact h.lnk k hk), (fun k => by
          simp (disch := omega) only [wI_row]
          by_cases e8 : k = 5 * x + y
          · subst e8
            exact Or.inr wI_at
          · simp (disch := omega) only [wI_off, wI_row]
            exact h.zz k), (by have := h.dbt; unfold sDbt at this ⊢; (try simp (disch := omega) only [wJ_row]); exact this), (fun k hk => by rw [chSum_eq (J := J) (fun j _ => by try simp (disch := omega) only [wJ_row])]; (try simp (disch := omega) only [wJ_row]); exact h.chg k hk), (fun i hi => by have := h.sub i hi; (try simp (disch := omega) only [wI_row]); exact this), (fun j hj => (h.cal j hj).eq (fun r hr => by try simp (disch := omega) only [wI_row]) (fun r h1 h2 => by try simp (disch := omega) only [wI_row]) (fun i _ => by try simp (disch := omega) only [wI_row])), (by have := h.new; unfold sNew at this ⊢; (try simp (disch := omega) only [wI_row]); exact this)⟩, ?_, fun _ => ?_⟩
    · simp (disch := omega) only [wI_row]
      exact wI_at
    · rw [wJ_at, rate_c hx hy]
      simp (disch := omega) only [wI_row]
      rcases h.lnk (5 * x + y) (by omega) with ⟨h1, h2, h3, m, hm, h4⟩ | ⟨h1, h2⟩
      · have e5 : decide (nI m = -1) = false := by rw [decide_eq_false_iff_not]; exact nI_nm1 (by omega)
        rw [h1, h2, h4, e5]
        rfl
      · rw [h1, h2]
        rfl
  · rcases hx with ⟨-, hx⟩ | ⟨hx, -⟩
    · refine ⟨I, J, rfl, h, ?_⟩
      have e : mLnk a b c2 d2 = 1 := by rw [mLnk, if_neg (by rw [hx]; exact Bool.false_ne_true)]
      rw [if_neg (by rw [e]; decide), e]
      exact fin_th h (by decide)
    · exact absurd hx e_IOIA
  · rcases hx with ⟨hx, -⟩ | ⟨-, hx⟩
    · exact absurd hx.symm e_IOIA
    · obtain ⟨hx1, hx⟩ := hx
      refine ⟨I, J, rfl, h, ?_⟩
      have e : mLnk a b c2 d2 = 2 := by rw [mLnk, if_pos hx1, if_neg (by rw [hx]; exact Bool.false_ne_true)]
      rw [if_neg (by rw [e]; decide), e]
      exact fin_th h (by decide)
theorem mid_unlink {cy : Nat → ClassId} {R : List Nat} {ad : Nat → Nat} {q : Nat → Nat → Nat} {ns nt : Nat} {I : Nat → Nat → Int32} {J : Nat → Nat → Int64} (h : SR q ns nt I J I J) {a b : Int32} {r : Int32} {u' : k_S} (hp : (∃ (v : Int32) (u : k_S), (((isCar a && isCar b) = true ∧ ¬ rateF I a b = -1) ∧ v = (rateF I a b) ∧ u = (R, ad, k_c cy ad q ns nt (setLinkI I a b (-1) 0) J)) ∧ r = 0 ∧ k_O u v.toInt64 u') ∨ (∃ u : k_S, (((e_IO = e_IO ∧ (isCar a && isCar b) = false) ∨ (e_IO = e_IS ∧ (isCar a && isCar b) = true ∧ rateF I a b = -1)) ∧ u = (R, ad, k_c cy ad q ns nt I J)) ∧ r = 1 ∧ u' = u) ∨ (∃ u : k_S, (((e_IS = e_IO ∧ (isCar a && isCar b) = false) ∨ (e_IS = e_IS ∧ (isCar a && isCar b) = true ∧ rateF I a b = -1)) ∧ u = (R, ad, k_c cy ad q ns nt I J)) ∧ r = 2 ∧ u' = u)) : ∃ (I1 : Nat → Nat → Int32) (J1 : Nat → Nat → Int64), u' = (R, ad, k_c cy ad q ns nt I1 J1) ∧ SR q ns nt I J I1 J1 ∧ kFin q ns nt (if (isCar a && isCar b) = true then wI (wI I1 13 0 (if I1 16 (5 * a + b).toNatClampNeg = 0 then 2 else 0)) 16 (5 * a + b).toNatClampNeg 0 else wI I1 13 0 1) J1 r (if (isCar a && isCar b) = true ∧ ¬ I1 16 (5 * a + b).toNatClampNeg = 0 then I1 17 (5 * a + b).toNatClampNeg else 0).toInt64 := by
  rcases hp with ⟨v, u, ⟨hok, rfl, rfl⟩, rfl, hO⟩ | ⟨u, ⟨hx, rfl⟩, rfl, rfl⟩ | ⟨u, ⟨hx, rfl⟩, rfl, rfl⟩
  · obtain ⟨hc, hok2⟩ := hok
    have hc2 := hc
    obtain ⟨ha, hb⟩ := Bool.and_eq_true_iff.mp hc
    obtain ⟨x, hx, rfl⟩ := car_nI ha
    obtain ⟨y, hy, rfl⟩ := car_nI hb
    rw [rate_c hx hy] at hok2
    rw [link_c hx hy, rate_c hx hy] at hO
    have e9 : (5 * nI x + nI y).toNatClampNeg = 5 * x + y := p5_c hx hy
    have e8 : I 16 (5 * x + y) = 1 ∧ I 8 (5 * x + y) = I 17 (5 * x + y) := by
      rcases h.lnk (5 * x + y) (by omega) with ⟨h1, h2, -⟩ | ⟨h1, h2⟩
      · exact ⟨h1, h2⟩
      · exact absurd h2 hok2
    have e7 : wI (wI I 8 (5 * x + y) (-1)) 9 (5 * x + y) 0 16 (5 * x + y) = I 16 (5 * x + y) := by simp (disch := omega) only [wI_row]
    have e6 : ¬ I 16 (5 * x + y) = 0 := by rw [e8.1]; decide
    refine ⟨_, _, kO_c hO, ⟨h.hns, h.hnt, (by have := h.c6; (try simp (disch := omega) only [wI_row, wI_off]); exact this), (by have := h.c7; (try simp (disch := omega) only [wI_row, wI_off]); exact this), (by have := h.m8; (try simp (disch := omega) only [wI_row, wI_off]); exact this), (by have := h.m13; (try simp (disch := omega) only [wI_row, wI_off]); exact this), (by have := h.tar; unfold sTar at this ⊢; (try simp (disch := omega) only [wI_row]); exact this), (by have := h.lnk; unfold sLnk at this ⊢; (try simp (disch := omega) only [wI_row]); exact this), (by have := h.zz; unfold sZ at this ⊢; (try simp (disch := omega) only [wI_row]); exact this), (by have := h.dbt; unfold sDbt at this ⊢; (try simp (disch := omega) only [wJ_row]); exact this), (fun k hk => by rw [chSum_eq (J := J) (fun j _ => by try simp (disch := omega) only [wJ_row])]; (try simp (disch := omega) only [wJ_row]); exact h.chg k hk), (fun i hi => by have := h.sub i hi; (try simp (disch := omega) only [wI_row]); exact this), (fun j hj => (h.cal j hj).eq (fun r hr => by try simp (disch := omega) only [wI_row]) (fun r h1 h2 => by try simp (disch := omega) only [wI_row]) (fun i _ => by try simp (disch := omega) only [wI_row])), (by have := h.new; unfold sNew at this ⊢; (try simp (disch := omega) only [wI_row]); exact this)⟩, ?_⟩
    rw [e9, e7, if_pos hc2, if_neg e6, if_pos ⟨hc2, e6⟩]
    refine ⟨⟨h.hns, h.hnt, (by have := h.c6; (try simp (disch := omega) only [wI_row, wI_off]); exact this), (by have := h.c7; (try simp (disch := omega) only [wI_row, wI_off]); exact this), (by have := h.m8; (try simp (disch := omega) only [wI_row, wI_off]); exact this), (by have := h.m13; (try simp (disch := omega) only [wI_row, wI_off]); exact this), (by have := h.tar; unfold sTar at this ⊢; (try simp (disch := omega) only [wI_row]); exact this), (fun k hk => by
          simp (disch := omega) only [wI_row]
          by_cases e8 : k = 5 * x + y
          · subst e8
            simp only [wI_at]
            exact Or.inr ⟨trivial, trivial⟩
          · simp (disch := omega) only [wI_off, wI_row]
            exact h.lnk k hk), (fun k => by
          by_cases e8 : k = 5 * x + y
          · subst e8
            exact Or.inl wI_at
          · simp (disch := omega) only [wI_off, wI_row]
            exact h.zz k), (by have := h.dbt; unfold sDbt at this ⊢; (try simp (disch := omega) only [wJ_row]); exact this), (fun k hk => by rw [chSum_eq (J := J) (fun j _ => by try simp (disch := omega) only [wJ_row])]; (try simp (disch := omega) only [wJ_row]); exact h.chg k hk), (fun i hi => by have := h.sub i hi; (try simp (disch := omega) only [wI_row]); exact this), (fun j hj => (h.cal j hj).eq (fun r hr => by try simp (disch := omega) only [wI_row]) (fun r h1 h2 => by try simp (disch := omega) only [wI_row]) (fun i _ => by try simp (disch := omega) only [wI_row])), (by have := h.new; unfold sNew at this ⊢; (try simp (disch := omega) only [wI_row]); exact this)⟩, ?_, fun _ => ?_⟩
    · simp (disch := omega) only [wI_row]
      exact wI_at
    · rw [wJ_at, e8.2]
      simp (disch := omega) only [wI_row]
  · rcases hx with ⟨-, hx⟩ | ⟨hx, -⟩
    · refine ⟨I, J, rfl, h, ?_⟩
      rw [if_neg (by rw [hx]; exact Bool.false_ne_true)]
      exact fin_th h (by decide)
    · exact absurd hx e_IOIS
  · rcases hx with ⟨hx, -⟩ | ⟨-, hx⟩
    · exact absurd hx.symm e_IOIS
    · obtain ⟨hc, hx1⟩ := hx
      have hc2 := hc
      obtain ⟨ha, hb⟩ := Bool.and_eq_true_iff.mp hc
      obtain ⟨x, hx, rfl⟩ := car_nI ha
      obtain ⟨y, hy, rfl⟩ := car_nI hb
      rw [rate_c hx hy] at hx1
      have e9 : (5 * nI x + nI y).toNatClampNeg = 5 * x + y := p5_c hx hy
      have e8 : I 16 (5 * x + y) = 0 := by
        rcases h.lnk (5 * x + y) (by omega) with ⟨h1, h2, -, n, hn, h4⟩ | ⟨h1, h2⟩
        · exact absurd (hx1.symm.trans (h2.trans h4)).symm (nI_nm1 (by omega))
        · exact h1
      refine ⟨I, J, rfl, h, ?_⟩
      rw [if_pos hc2, e9, if_pos e8]
      refine ⟨⟨h.hns, h.hnt, (by have := h.c6; (try simp (disch := omega) only [wI_row, wI_off]); exact this), (by have := h.c7; (try simp (disch := omega) only [wI_row, wI_off]); exact this), (by have := h.m8; (try simp (disch := omega) only [wI_row, wI_off]); exact this), (by have := h.m13; (try simp (disch := omega) only [wI_row, wI_off]); exact this), (by have := h.tar; unfold sTar at this ⊢; (try simp (disch := omega) only [wI_row]); exact this), (fun k hk => by
            simp (disch := omega) only [wI_row]
            by_cases e8 : k = 5 * x + y
            · subst e8
              simp only [wI_at]
              exact Or.inr ⟨trivial, hx1⟩
            · simp (disch := omega) only [wI_off, wI_row]
              exact h.lnk k hk), (fun k => by
            by_cases e8 : k = 5 * x + y
            · subst e8
              exact Or.inl wI_at
            · simp (disch := omega) only [wI_off, wI_row]
              exact h.zz k), (by have := h.dbt; unfold sDbt at this ⊢; (try simp (disch := omega) only [wJ_row]); exact this), (fun k hk => by rw [chSum_eq (J := J) (fun j _ => by try simp (disch := omega) only [wJ_row])]; (try simp (disch := omega) only [wJ_row]); exact h.chg k hk), (fun i hi => by have := h.sub i hi; (try simp (disch := omega) only [wI_row]); exact this), (fun j hj => (h.cal j hj).eq (fun r hr => by try simp (disch := omega) only [wI_row]) (fun r h1 h2 => by try simp (disch := omega) only [wI_row]) (fun i _ => by try simp (disch := omega) only [wI_row])), (by have := h.new; unfold sNew at this ⊢; (try simp (disch := omega) only [wI_row]); exact this)⟩, ?_, fun h9 => absurd h9 (by decide)⟩
      simp (disch := omega) only [wI_row]
      exact wI_at
theorem set_J {J : Nat → Nat → Int64} {q : Nat → Nat → Nat} {ns nt : Nat} {Ic Im : Nat → Nat → Int32} {d : Int64} {x y : Nat} {v : Int64} (h : SR q ns nt Ic J Im J) (hx : x < 5) (hy : y < 5) (hxy : x ≠ y) (hd : d = J 10 (5 * x + y)) :
    sDbt (wJ (wJ (wJ (wJ J 10 (5 * x + y) (J 10 (5 * x + y) + -d)) 10 (5 * y + x) (wJ J 10 (5 * x + y) (J 10 (5 * x + y) + -d) 10 (5 * y + x) - -d)) 12 0 v) 20 (5 * x + y) (J 20 (5 * x + y) + d)) (wJ (wJ (wJ (wJ J 10 (5 * x + y) (J 10 (5 * x + y) + -d)) 10 (5 * y + x) (wJ J 10 (5 * x + y) (J 10 (5 * x + y) + -d) 10 (5 * y + x) - -d)) 12 0 v) 20 (5 * x + y) (J 20 (5 * x + y) + d)) := by
  intro a b ha hb
  have h1 := h.dbt a b ha hb
  have g1 := h.dbt x y hx hy
  by_cases e1 : a = x ∧ b = y
  · obtain ⟨rfl, rfl⟩ := e1
    simp (disch := omega) only [wJ_row, wJ_off, wJ_at]
    grind
  · by_cases e2 : a = y ∧ b = x
    · obtain ⟨rfl, rfl⟩ := e2
      simp (disch := omega) only [wJ_row, wJ_off, wJ_at]
      grind
    · simp (disch := omega) only [wJ_row, wJ_off]
      exact h1
theorem mid_settle {cy : Nat → ClassId} {R : List Nat} {ad : Nat → Nat} {q : Nat → Nat → Nat} {ns nt : Nat} {I : Nat → Nat → Int32} {J : Nat → Nat → Int64} (h : SR q ns nt I J I J) {a b : Int32} {r : Int32} {u' : k_S} (hp : (∃ (v : Int64) (u : k_S), (((isCar a && isCar b) = true ∧ 0 < debtF J a b) ∧ v = (debtF J a b) ∧ u = (R, ad, k_c cy ad q ns nt I (addDebtJ J a b (-debtF J a b)))) ∧ r = 0 ∧ k_O u v u') ∨ (∃ u : k_S, (((e_IO = e_IO ∧ (isCar a && isCar b) = false) ∨ (e_IO = e_IS ∧ (isCar a && isCar b) = true ∧ ¬ 0 < debtF J a b)) ∧ u = (R, ad, k_c cy ad q ns nt I J)) ∧ r = 1 ∧ u' = u) ∨ (∃ u : k_S, (((e_IS = e_IO ∧ (isCar a && isCar b) = false) ∨ (e_IS = e_IS ∧ (isCar a && isCar b) = true ∧ ¬ 0 < debtF J a b)) ∧ u = (R, ad, k_c cy ad q ns nt I J)) ∧ r = 2 ∧ u' = u)) : ∃ (I1 : Nat → Nat → Int32) (J1 : Nat → Nat → Int64), u' = (R, ad, k_c cy ad q ns nt I1 J1) ∧ SR q ns nt I J I1 J1 ∧ kFin q ns nt (wI I1 13 0 (if (isCar a && isCar b) = true then (if 0 < debtM J1 a b then 0 else 2) else 1)) (if (isCar a && isCar b) = true ∧ 0 < debtM J1 a b then wJ J1 20 (5 * a + b).toNatClampNeg (J1 20 (5 * a + b).toNatClampNeg + debtM J1 a b) else J1) r (if (isCar a && isCar b) = true ∧ 0 < debtM J1 a b then debtM J1 a b else 0) := by
  rcases hp with ⟨v, u, ⟨hok, rfl, rfl⟩, rfl, hO⟩ | ⟨u, ⟨hx, rfl⟩, rfl, rfl⟩ | ⟨u, ⟨hx, rfl⟩, rfl, rfl⟩
  · obtain ⟨hc, hok2⟩ := hok
    have hc2 := hc
    obtain ⟨ha, hb⟩ := Bool.and_eq_true_iff.mp hc
    obtain ⟨x, hx, rfl⟩ := car_nI ha
    obtain ⟨y, hy, rfl⟩ := car_nI hb
    rw [debt_c hx hy] at hok2
    rw [debt_c hx hy, addd_c hx hy] at hO
    have e9 : (5 * nI x + nI y).toNatClampNeg = 5 * x + y := p5_c hx hy
    have hxy : x ≠ y := by
      intro e
      subst e
      have := h.dbt x x hx hx
      have h0 : J 10 (5 * x + x) = 0 := by grind
      rw [h0] at hok2
      exact absurd hok2 (by decide)
    have h1 : SR q ns nt I J I (wJ (wJ (wJ J 10 (5 * x + y) (J 10 (5 * x + y) + -J 10 (5 * x + y))) 10 (5 * y + x) (wJ J 10 (5 * x + y) (J 10 (5 * x + y) + -J 10 (5 * x + y)) 10 (5 * y + x) - -J 10 (5 * x + y))) 12 0 (J 10 (5 * x + y))) := ⟨h.hns, h.hnt, (by have := h.c6; (try simp (disch := omega) only [wI_row, wI_off]); exact this), (by have := h.c7; (try simp (disch := omega) only [wI_row, wI_off]); exact this), (by have := h.m8; (try simp (disch := omega) only [wI_row, wI_off]); exact this), (by have := h.m13; (try simp (disch := omega) only [wI_row, wI_off]); exact this), (by have := h.tar; unfold sTar at this ⊢; (try simp (disch := omega) only [wI_row]); exact this), (by have := h.lnk; unfold sLnk at this ⊢; (try simp (disch := omega) only [wI_row]); exact this), (by have := h.zz; unfold sZ at this ⊢; (try simp (disch := omega) only [wI_row]); exact this), (by have := h.dbt; unfold sDbt at this ⊢; (try simp (disch := omega) only [wJ_row]); exact this), (fun k hk => by rw [chSum_eq (J := J) (fun j _ => by try simp (disch := omega) only [wJ_row])]; (try simp (disch := omega) only [wJ_row]); exact h.chg k hk), (fun i hi => by have := h.sub i hi; (try simp (disch := omega) only [wI_row]); exact this), (fun j hj => (h.cal j hj).eq (fun r hr => by try simp (disch := omega) only [wI_row]) (fun r h1 h2 => by try simp (disch := omega) only [wI_row]) (fun i _ => by try simp (disch := omega) only [wI_row])), (by have := h.new; unfold sNew at this ⊢; (try simp (disch := omega) only [wI_row]); exact this)⟩
    refine ⟨_, _, kO_c hO, h1, ?_⟩
    have e1 := h1.debt hx hy
    rw [debt_c hx hy] at e1
    have e20 : wJ (wJ (wJ J 10 (5 * x + y) (J 10 (5 * x + y) + -J 10 (5 * x + y))) 10 (5 * y + x) (wJ J 10 (5 * x + y) (J 10 (5 * x + y) + -J 10 (5 * x + y)) 10 (5 * y + x) - -J 10 (5 * x + y))) 12 0 (J 10 (5 * x + y)) 20 (5 * x + y) = J 20 (5 * x + y) := by simp (disch := omega) only [wJ_row]
    rw [e1, if_pos hc2, if_pos hok2, if_pos ⟨hc2, hok2⟩, if_pos ⟨hc2, hok2⟩, e9, e20]
    refine ⟨⟨h.hns, h.hnt, (by have := h.c6; (try simp (disch := omega) only [wI_row, wI_off]); exact this), (by have := h.c7; (try simp (disch := omega) only [wI_row, wI_off]); exact this), (by have := h.m8; (try simp (disch := omega) only [wI_row, wI_off]); exact this), (by have := h.m13; (try simp (disch := omega) only [wI_row, wI_off]); exact this), (by have := h.tar; unfold sTar at this ⊢; (try simp (disch := omega) only [wI_row]); exact this), (by have := h.lnk; unfold sLnk at this ⊢; (try simp (disch := omega) only [wI_row]); exact this), (by have := h.zz; unfold sZ at this ⊢; (try simp (disch := omega) only [wI_row]); exact this), set_J h hx hy hxy rfl, (fun k hk => by rw [chSum_eq (J := J) (fun j _ => by try simp (disch := omega) only [wJ_row])]; (try simp (disch := omega) only [wJ_row]); exact h.chg k hk), (fun i hi => by have := h.sub i hi; (try simp (disch := omega) only [wI_row]); exact this), (fun j hj => (h.cal j hj).eq (fun r hr => by try simp (disch := omega) only [wI_row]) (fun r h1 h2 => by try simp (disch := omega) only [wI_row]) (fun i _ => by try simp (disch := omega) only [wI_row])), (by have := h.new; unfold sNew at this ⊢; (try simp (disch := omega) only [wI_row]); exact this)⟩, ?_, fun _ => ?_⟩
    · exact wI_at
    · simp (disch := omega) only [wJ_row]
      exact wJ_at
  · rcases hx with ⟨-, hx⟩ | ⟨hx, -⟩
    · refine ⟨I, J, rfl, h, ?_⟩
      rw [if_neg (by rw [hx]; exact Bool.false_ne_true), if_neg (fun hc => absurd hc.1 (by rw [hx]; exact Bool.false_ne_true))]
      exact fin_th h (by decide)
    · exact absurd hx e_IOIS
  · rcases hx with ⟨hx, -⟩ | ⟨-, hx⟩
    · exact absurd hx.symm e_IOIS
    · obtain ⟨hc, hx1⟩ := hx
      have hc2 := hc
      obtain ⟨ha, hb⟩ := Bool.and_eq_true_iff.mp hc
      obtain ⟨x, hx, rfl⟩ := car_nI ha
      obtain ⟨y, hy, rfl⟩ := car_nI hb
      refine ⟨I, J, rfl, h, ?_⟩
      rw [← h.debt hx hy] at hx1
      rw [if_pos hc2, if_neg hx1, if_neg (fun hc => absurd hc.2 hx1)]
      exact fin_th h (by decide)
theorem mid_hangUp {cy : Nat → ClassId} {R : List Nat} {ad : Nat → Nat} {q : Nat → Nat → Nat} {ns nt : Nat} {I : Nat → Nat → Int32} {J : Nat → Nat → Int64} (h : SR q ns nt I J I J) {a : Int32} {r : Int32} {u' : k_S} (hp : (∃ (v : Int32) (u : k_S), ((isN nt a = true ∧ I (80 + 4 * a.toNatClampNeg) 6 = 0) ∧ v = (I (80 + 4 * a.toNatClampNeg) 7) ∧ u = (R, ad, k_c cy ad q ns nt (wI I (80 + 4 * a.toNatClampNeg) 6 1) J)) ∧ r = 0 ∧ k_O u v.toInt64 u') ∨ (∃ u : k_S, (((e_IO = e_IO ∧ isN nt a = false) ∨ (e_IO = e_IS ∧ isN nt a = true ∧ ¬ I (80 + 4 * a.toNatClampNeg) 6 = 0)) ∧ u = (R, ad, k_c cy ad q ns nt I J)) ∧ r = 1 ∧ u' = u) ∨ (∃ u : k_S, (((e_IS = e_IO ∧ isN nt a = false) ∨ (e_IS = e_IS ∧ isN nt a = true ∧ ¬ I (80 + 4 * a.toNatClampNeg) 6 = 0)) ∧ u = (R, ad, k_c cy ad q ns nt I J)) ∧ r = 2 ∧ u' = u)) : ∃ (I1 : Nat → Nat → Int32) (J1 : Nat → Nat → Int64), u' = (R, ad, k_c cy ad q ns nt I1 J1) ∧ SR q ns nt I J I1 J1 ∧ kFin q ns nt (if isCal I1 a = true then (if I1 27 a.toNatClampNeg = 0 then wI (wI I1 13 0 0) 27 a.toNatClampNeg 1 else wI I1 13 0 2) else wI I1 13 0 1) J1 r (if isCal I1 a = true ∧ I1 27 a.toNatClampNeg = 0 then I1 30 a.toNatClampNeg else 0).toInt64 := by
  rcases hp with ⟨v, u, ⟨hok, rfl, rfl⟩, rfl, hO⟩ | ⟨u, ⟨hx, rfl⟩, rfl, rfl⟩ | ⟨u, ⟨hx, rfl⟩, rfl, rfl⟩
  · obtain ⟨hc, hok2⟩ := hok
    obtain ⟨j, hj, rfl, e2⟩ := isN_of hc
    have hnt := h.hnt
    rw [e2] at hO hok2
    have h1 : SR q ns nt I J (wI I (80 + 4 * j) 6 1) (wJ J 12 0 (I (80 + 4 * j) 7).toInt64) := ⟨h.hns, h.hnt, (by have := h.c6; (try simp (disch := omega) only [wI_row, wI_off]); exact this), (by have := h.c7; (try simp (disch := omega) only [wI_row, wI_off]); exact this), (by have := h.m8; (try simp (disch := omega) only [wI_row, wI_off]); exact this), (by have := h.m13; (try simp (disch := omega) only [wI_row, wI_off]); exact this), (by have := h.tar; unfold sTar at this ⊢; (try simp (disch := omega) only [wI_row]); exact this), (by have := h.lnk; unfold sLnk at this ⊢; (try simp (disch := omega) only [wI_row]); exact this), (by have := h.zz; unfold sZ at this ⊢; (try simp (disch := omega) only [wI_row]); exact this), (by have := h.dbt; unfold sDbt at this ⊢; (try simp (disch := omega) only [wJ_row]); exact this), (fun k hk => by rw [chSum_eq (J := J) (fun j _ => by try simp (disch := omega) only [wJ_row])]; (try simp (disch := omega) only [wJ_row]); exact h.chg k hk), (fun i hi => by have := h.sub i hi; (try simp (disch := omega) only [wI_row]); exact this), (fun j hj => (h.cal j hj).eq (fun r hr => by try simp (disch := omega) only [wI_row]) (fun r h1 h2 => by try simp (disch := omega) only [wI_row]) (fun i _ => by try simp (disch := omega) only [wI_row])), (by have := h.new; unfold sNew at this ⊢; (try simp (disch := omega) only [wI_row]); exact this)⟩
    refine ⟨_, _, kO_c hO, h1, ?_⟩
    have e : isCal (wI I (80 + 4 * j) 6 1) (nI j) = true := by rw [h1.iscal]; exact hc
    have e27 : wI I (80 + 4 * j) 6 1 27 (nI j).toNatClampNeg = 0 := by
      rw [e2]
      simp (disch := omega) only [wI_row]
      rw [(h.cal j hj).2.2.1, hok2]
    rw [if_pos e, if_pos e27, if_pos ⟨e, e27⟩, e2]
    refine ⟨⟨h.hns, h.hnt, (by have := h.c6; (try simp (disch := omega) only [wI_row, wI_off]); exact this), (by have := h.c7; (try simp (disch := omega) only [wI_row, wI_off]); exact this), (by have := h.m8; (try simp (disch := omega) only [wI_row, wI_off]); exact this), (by have := h.m13; (try simp (disch := omega) only [wI_row, wI_off]); exact this), (by have := h.tar; unfold sTar at this ⊢; (try simp (disch := omega) only [wI_row]); exact this), (by have := h.lnk; unfold sLnk at this ⊢; (try simp (disch := omega) only [wI_row]); exact this), (by have := h.zz; unfold sZ at this ⊢; (try simp (disch := omega) only [wI_row]); exact this), (by have := h.dbt; unfold sDbt at this ⊢; (try simp (disch := omega) only [wJ_row]); exact this), (fun k hk => by rw [chSum_eq (J := J) (fun j _ => by try simp (disch := omega) only [wJ_row])]; (try simp (disch := omega) only [wJ_row]); exact h.chg k hk), (fun i hi => by have := h.sub i hi; (try simp (disch := omega) only [wI_row]); exact this), (fun k hk => by
          by_cases e8 : k = j
          · subst e8
            obtain ⟨g1, g2, g27, g28, g29, g30, g31, p, g⟩ := h.cal k hk
            simp (disch := omega) only [sCal1, Rou, wI_row, wI_at, wI_off]
            exact ⟨g1, g2, trivial, g28, g29, g30, g31, p, g⟩
          · exact (h.cal k hk).eq (fun r hr => by try simp (disch := omega) only [wI_row]) (fun r h1 h2 => by
              by_cases e7 : r = 27
              · subst e7
                rw [wI_off e8]
                simp (disch := omega) only [wI_row]
              · simp (disch := omega) only [wI_row]) (fun i _ => by try simp (disch := omega) only [wI_row])), (by have := h.new; unfold sNew at this ⊢; (try simp (disch := omega) only [wI_row]); exact this)⟩, ?_, fun _ => ?_⟩
    · simp (disch := omega) only [wI_row]
      exact wI_at
    · rw [wJ_at]
      simp (disch := omega) only [wI_row]
      rw [(h.cal j hj).2.2.2.2.2.1]
  · rcases hx with ⟨-, hx⟩ | ⟨hx, -⟩
    · refine ⟨I, J, rfl, h, ?_⟩
      rw [if_neg (by rw [h.iscal, hx]; exact Bool.false_ne_true)]
      exact fin_th h (by decide)
    · exact absurd hx e_IOIS
  · rcases hx with ⟨hx, -⟩ | ⟨-, hx⟩
    · exact absurd hx.symm e_IOIS
    · obtain ⟨hc, hx1⟩ := hx
      refine ⟨I, J, rfl, h, ?_⟩
      obtain ⟨j, hj, rfl, e2⟩ := isN_of hc
      rw [e2] at hx1
      have e27 : ¬ I 27 (nI j).toNatClampNeg = 0 := by rw [e2, (h.cal j hj).2.2.1]; exact hx1
      rw [if_pos (by rw [h.iscal, hc]), if_neg e27]
      exact fin_th h (by decide)
theorem mid_topUp {cy : Nat → ClassId} {R : List Nat} {ad : Nat → Nat} {q : Nat → Nat → Nat} {ns nt : Nat} {I : Nat → Nat → Int32} {J : Nat → Nat → Int64} (h : SR q ns nt I J I J) {a b c2 : Int32} {r : Int32} {u' : k_S} (hp : (∃ (v : Int32) (u : k_S), ((isN ns a = true ∧ (isWi b 0 10000 && isWi c2 0 1000) = true ∧ (decide (1000000 < I (40 + 2 * a.toNatClampNeg) 2 + b) || decide (100000 < I (40 + 2 * a.toNatClampNeg) 3 + c2)) = false) ∧ v = (I (40 + 2 * a.toNatClampNeg) 2 + b) ∧ u = (R, ad, k_c cy ad q ns nt (wI (wI I (40 + 2 * a.toNatClampNeg) 2 (I (40 + 2 * a.toNatClampNeg) 2 + b)) (40 + 2 * a.toNatClampNeg) 3 (I (40 + 2 * a.toNatClampNeg) 3 + c2)) J)) ∧ r = 0 ∧ k_O u v.toInt64 u') ∨ (∃ u : k_S, (((e_IO = e_IO ∧ isN ns a = false) ∨ (e_IO = e_IA ∧ isN ns a = true ∧ (isWi b 0 10000 && isWi c2 0 1000) = false) ∨ (e_IO = e_IS ∧ isN ns a = true ∧ (isWi b 0 10000 && isWi c2 0 1000) = true ∧ (decide (1000000 < I (40 + 2 * a.toNatClampNeg) 2 + b) || decide (100000 < I (40 + 2 * a.toNatClampNeg) 3 + c2)) = true)) ∧ u = (R, ad, k_c cy ad q ns nt I J)) ∧ r = 1 ∧ u' = u) ∨ (∃ u : k_S, (((e_IA = e_IO ∧ isN ns a = false) ∨ (e_IA = e_IA ∧ isN ns a = true ∧ (isWi b 0 10000 && isWi c2 0 1000) = false) ∨ (e_IA = e_IS ∧ isN ns a = true ∧ (isWi b 0 10000 && isWi c2 0 1000) = true ∧ (decide (1000000 < I (40 + 2 * a.toNatClampNeg) 2 + b) || decide (100000 < I (40 + 2 * a.toNatClampNeg) 3 + c2)) = true)) ∧ u = (R, ad, k_c cy ad q ns nt I J)) ∧ r = 2 ∧ u' = u) ∨ (∃ u : k_S, (((e_IS = e_IO ∧ isN ns a = false) ∨ (e_IS = e_IA ∧ isN ns a = true ∧ (isWi b 0 10000 && isWi c2 0 1000) = false) ∨ (e_IS = e_IS ∧ isN ns a = true ∧ (isWi b 0 10000 && isWi c2 0 1000) = true ∧ (decide (1000000 < I (40 + 2 * a.toNatClampNeg) 2 + b) || decide (100000 < I (40 + 2 * a.toNatClampNeg) 3 + c2)) = true)) ∧ u = (R, ad, k_c cy ad q ns nt I J)) ∧ r = 3 ∧ u' = u)) : ∃ (I1 : Nat → Nat → Int32) (J1 : Nat → Nat → Int64), u' = (R, ad, k_c cy ad q ns nt I1 J1) ∧ SR q ns nt I J I1 J1 ∧ kFin q ns nt (if mTop I1 a b c2 = 0 then wI (wI (wI I1 13 0 0) 23 a.toNatClampNeg (I1 23 a.toNatClampNeg + b)) 24 a.toNatClampNeg (I1 24 a.toNatClampNeg + c2) else wI I1 13 0 (mTop I1 a b c2)) J1 r (if mTop I1 a b c2 = 0 then I1 23 a.toNatClampNeg + b else 0).toInt64 := by
  rcases hp with ⟨v, u, ⟨hok, rfl, rfl⟩, rfl, hO⟩ | ⟨u, ⟨hx, rfl⟩, rfl, rfl⟩ | ⟨u, ⟨hx, rfl⟩, rfl, rfl⟩ | ⟨u, ⟨hx, rfl⟩, rfl, rfl⟩
  · obtain ⟨hc, hok2, hok3⟩ := hok
    obtain ⟨i, hi, rfl, e2⟩ := isN_of hc
    have hns := h.hns
    have h23 := (h.sub i hi).2.1
    have h24 := (h.sub i hi).2.2
    rw [e2] at hO hok3
    have h1 : SR q ns nt I J (wI (wI I (40 + 2 * i) 2 (I (40 + 2 * i) 2 + b)) (40 + 2 * i) 3 (I (40 + 2 * i) 3 + c2)) (wJ J 12 0 (I (40 + 2 * i) 2 + b).toInt64) := ⟨h.hns, h.hnt, (by have := h.c6; (try simp (disch := omega) only [wI_row, wI_off]); exact this), (by have := h.c7; (try simp (disch := omega) only [wI_row, wI_off]); exact this), (by have := h.m8; (try simp (disch := omega) only [wI_row, wI_off]); exact this), (by have := h.m13; (try simp (disch := omega) only [wI_row, wI_off]); exact this), (by have := h.tar; unfold sTar at this ⊢; (try simp (disch := omega) only [wI_row]); exact this), (by have := h.lnk; unfold sLnk at this ⊢; (try simp (disch := omega) only [wI_row]); exact this), (by have := h.zz; unfold sZ at this ⊢; (try simp (disch := omega) only [wI_row]); exact this), (by have := h.dbt; unfold sDbt at this ⊢; (try simp (disch := omega) only [wJ_row]); exact this), (fun k hk => by rw [chSum_eq (J := J) (fun j _ => by try simp (disch := omega) only [wJ_row])]; (try simp (disch := omega) only [wJ_row]); exact h.chg k hk), (fun i hi => by have := h.sub i hi; (try simp (disch := omega) only [wI_row]); exact this), (fun j hj => (h.cal j hj).eq (fun r hr => by try simp (disch := omega) only [wI_row]) (fun r h1 h2 => by try simp (disch := omega) only [wI_row]) (fun i _ => by try simp (disch := omega) only [wI_row])), (by have := h.new; unfold sNew at this ⊢; (try simp (disch := omega) only [wI_row]); exact this)⟩
    refine ⟨_, _, kO_c hO, h1, ?_⟩
    have e23 : wI (wI I (40 + 2 * i) 2 (I (40 + 2 * i) 2 + b)) (40 + 2 * i) 3 (I (40 + 2 * i) 3 + c2) 23 i = I (40 + 2 * i) 2 := by
      rw [← h23]
      simp (disch := omega) only [wI_row]
    have e24 : wI (wI I (40 + 2 * i) 2 (I (40 + 2 * i) 2 + b)) (40 + 2 * i) 3 (I (40 + 2 * i) 3 + c2) 24 i = I (40 + 2 * i) 3 := by
      rw [← h24]
      simp (disch := omega) only [wI_row]
    have e : mTop (wI (wI I (40 + 2 * i) 2 (I (40 + 2 * i) 2 + b)) (40 + 2 * i) 3 (I (40 + 2 * i) 3 + c2)) (nI i) b c2 = 0 := by
      rw [mTop, h1.num, if_pos hc, if_pos hok2, e2, e23, e24, if_neg (by rw [hok3]; exact Bool.false_ne_true)]
    rw [if_pos e, if_pos e, e2, e23, e24]
    refine ⟨⟨h.hns, h.hnt, (by have := h.c6; (try simp (disch := omega) only [wI_row, wI_off]); exact this), (by have := h.c7; (try simp (disch := omega) only [wI_row, wI_off]); exact this), (by have := h.m8; (try simp (disch := omega) only [wI_row, wI_off]); exact this), (by have := h.m13; (try simp (disch := omega) only [wI_row, wI_off]); exact this), (by have := h.tar; unfold sTar at this ⊢; (try simp (disch := omega) only [wI_row]); exact this), (by have := h.lnk; unfold sLnk at this ⊢; (try simp (disch := omega) only [wI_row]); exact this), (by have := h.zz; unfold sZ at this ⊢; (try simp (disch := omega) only [wI_row]); exact this), (by have := h.dbt; unfold sDbt at this ⊢; (try simp (disch := omega) only [wJ_row]); exact this), (fun k hk => by rw [chSum_eq (J := J) (fun j _ => by try simp (disch := omega) only [wJ_row])]; (try simp (disch := omega) only [wJ_row]); exact h.chg k hk), (fun k hk => by
          by_cases e8 : k = i
          · subst e8
            simp (disch := omega) only [wI_row, wI_at, wI_off]
            exact ⟨(h.sub k hk).1, trivial, trivial⟩
          · have := h.sub k hk
            simp (disch := omega) only [wI_row, wI_off]
            exact this), (fun j hj => (h.cal j hj).eq (fun r hr => by try simp (disch := omega) only [wI_row]) (fun r h1 h2 => by try simp (disch := omega) only [wI_row]) (fun i _ => by try simp (disch := omega) only [wI_row])), (by have := h.new; unfold sNew at this ⊢; (try simp (disch := omega) only [wI_row]); exact this)⟩, ?_, fun _ => wJ_at⟩
    simp (disch := omega) only [wI_row]
    exact wI_at
  · rcases hx with ⟨-, hx⟩ | ⟨hx, -⟩ | ⟨hx, -⟩
    · refine ⟨I, J, rfl, h, ?_⟩
      have e : mTop I a b c2 = 1 := by rw [mTop, if_neg (by rw [h.num, hx]; exact Bool.false_ne_true)]
      rw [if_neg (by rw [e]; decide), e]
      exact fin_th h (by decide)
    · exact absurd hx e_IOIA
    · exact absurd hx e_IOIS
  · rcases hx with ⟨hx, -⟩ | ⟨-, hx⟩ | ⟨hx, -⟩
    · exact absurd hx.symm e_IOIA
    · obtain ⟨hc, hx⟩ := hx
      refine ⟨I, J, rfl, h, ?_⟩
      have e : mTop I a b c2 = 2 := by rw [mTop, if_pos (by rw [h.num, hc]), if_neg (by rw [hx]; exact Bool.false_ne_true)]
      rw [if_neg (by rw [e]; decide), e]
      exact fin_th h (by decide)
    · exact absurd hx e_IAIS
  · rcases hx with ⟨hx, -⟩ | ⟨hx, -⟩ | ⟨-, hx⟩
    · exact absurd hx.symm e_IOIS
    · exact absurd hx.symm e_IAIS
    · obtain ⟨hc, hx1, hx⟩ := hx
      refine ⟨I, J, rfl, h, ?_⟩
      have hi := isN_lt hc
      have e : mTop I a b c2 = 3 := by rw [mTop, if_pos (by rw [h.num, hc]), if_pos hx1, (h.sub _ hi).2.1, (h.sub _ hi).2.2, if_pos hx]
      rw [if_neg (by rw [e]; decide), e]
      exact fin_th h (by decide)
theorem homeM_c {q : Nat → Nat → Nat} {ns nt : Nat} {Ic Im : Nat → Nat → Int32} {Jc Jm : Nat → Nat → Int64} (h : SR q ns nt Ic Jc Im Jm) {i : Nat} (hi : i < ns) : homeM Im (nI i) = homeF Ic (40 + 2 * i) 0 ∧ ∃ c : Nat, c < 5 ∧ homeF Ic (40 + 2 * i) 0 = nI c := by
  have hns := h.hns
  have H := home_eq h hi 0
  obtain ⟨⟨m, h1, h2, h3, h4, h5⟩, -⟩ := h.sub i hi
  have g : (!decide ((0 : Int32) < 0) && decide ((0 : Int32) < Im 21 i)) = true := by
    rw [h4]
    have : (0 : Int32) < nI m := by
      show nI 0 < nI m
      rw [nI_ltI (by omega) (by omega)]
      omega
    simp [this]
  rw [if_pos g] at H
  refine ⟨?_, H.2⟩
  rw [H.1, homeM, clamp_c (by omega), h4, n10, nI_m1 (by omega)]
  rw [show (0 : Int32) = nI 0 from rfl, pk_sub (by omega)]
  rfl
theorem move_c {q : Nat → Nat → Nat} {ns nt : Nat} {Ic Im : Nat → Nat → Int32} {Jc Jm : Nat → Nat → Int64} (h : SR q ns nt Ic Jc Im Jm) {i : Nat} (hi : i < ns) : ∃ m : Nat, 1 ≤ m ∧ m ≤ 10 ∧ Ic (40 + 2 * i) 1 = nI m ∧ Im 21 i = nI m ∧ moveB Ic (40 + 2 * i) = decide (m < 10) := by
  obtain ⟨⟨m, h1, h2, h3, h4, h5⟩, -⟩ := h.sub i hi
  refine ⟨m, h1, h2, h3, h4, ?_⟩
  have e0 : decide (nI m < 0) = false := by rw [decide_eq_false_iff_not]; exact nI_pos (by omega)
  rw [moveB, h3, e0, Bool.not_false, Bool.true_and, decide_eq_decide]
  show nI m < nI 10 ↔ m < 10
  exact nI_ltI (by omega) (by omega)
theorem mid_carryOver {cy : Nat → ClassId} {R : List Nat} {ad : Nat → Nat} {q : Nat → Nat → Nat} {ns nt : Nat} {I : Nat → Nat → Int32} {J : Nat → Nat → Int64} (h : SR q ns nt I J I J) {a b : Int32} {r : Int32} {u' : k_S} (hp : (∃ (v : Int32) (u : k_S), ((isN ns a = true ∧ isCar b = true ∧ ¬ homeF I (40 + 2 * a.toNatClampNeg) 0 = b ∧ moveB I (40 + 2 * a.toNatClampNeg) = true) ∧ v = ((moveI I (40 + 2 * a.toNatClampNeg) b) (40 + 2 * a.toNatClampNeg) 1) ∧ u = (R, ad, k_c cy ad q ns nt (moveI I (40 + 2 * a.toNatClampNeg) b) J)) ∧ r = 0 ∧ k_O u v.toInt64 u') ∨ (∃ u : k_S, (((e_IO = e_IO ∧ (isN ns a && isCar b) = false) ∨ (e_IO = e_IA ∧ isN ns a = true ∧ isCar b = true ∧ homeF I (40 + 2 * a.toNatClampNeg) 0 = b) ∨ (e_IO = e_IS ∧ isN ns a = true ∧ isCar b = true ∧ ¬ homeF I (40 + 2 * a.toNatClampNeg) 0 = b ∧ moveB I (40 + 2 * a.toNatClampNeg) = false)) ∧ u = (R, ad, k_c cy ad q ns nt I J)) ∧ r = 1 ∧ u' = u) ∨ (∃ u : k_S, (((e_IA = e_IO ∧ (isN ns a && isCar b) = false) ∨ (e_IA = e_IA ∧ isN ns a = true ∧ isCar b = true ∧ homeF I (40 + 2 * a.toNatClampNeg) 0 = b) ∨ (e_IA = e_IS ∧ isN ns a = true ∧ isCar b = true ∧ ¬ homeF I (40 + 2 * a.toNatClampNeg) 0 = b ∧ moveB I (40 + 2 * a.toNatClampNeg) = false)) ∧ u = (R, ad, k_c cy ad q ns nt I J)) ∧ r = 2 ∧ u' = u) ∨ (∃ u : k_S, (((e_IS = e_IO ∧ (isN ns a && isCar b) = false) ∨ (e_IS = e_IA ∧ isN ns a = true ∧ isCar b = true ∧ homeF I (40 + 2 * a.toNatClampNeg) 0 = b) ∨ (e_IS = e_IS ∧ isN ns a = true ∧ isCar b = true ∧ ¬ homeF I (40 + 2 * a.toNatClampNeg) 0 = b ∧ moveB I (40 + 2 * a.toNatClampNeg) = false)) ∧ u = (R, ad, k_c cy ad q ns nt I J)) ∧ r = 3 ∧ u' = u)) : ∃ (I1 : Nat → Nat → Int32) (J1 : Nat → Nat → Int64), u' = (R, ad, k_c cy ad q ns nt I1 J1) ∧ SR q ns nt I J I1 J1 ∧ kFin q ns nt (if mCar I1 a b = 0 then wI (wI (wI I1 13 0 0) 22 (10 * a + I1 21 a.toNatClampNeg).toNatClampNeg b) 21 a.toNatClampNeg (I1 21 a.toNatClampNeg + 1) else wI I1 13 0 (mCar I1 a b)) J1 r (if mCar I1 a b = 0 then I1 21 a.toNatClampNeg + 1 else 0).toInt64 := by
  rcases hp with ⟨v, u, ⟨hok, rfl, rfl⟩, rfl, hO⟩ | ⟨u, ⟨hx, rfl⟩, rfl, rfl⟩ | ⟨u, ⟨hx, rfl⟩, rfl, rfl⟩ | ⟨u, ⟨hx, rfl⟩, rfl, rfl⟩
  · obtain ⟨hc, hcb, hok2, hok3⟩ := hok
    obtain ⟨i, hi, rfl, e2⟩ := isN_of hc
    have hns := h.hns
    rw [e2] at hO hok2 hok3
    obtain ⟨m, m1, m2, m3, m4, m5⟩ := move_c h hi
    have hm : m < 10 := by rw [m5, decide_eq_true_eq] at hok3; exact hok3
    have eI : moveI I (40 + 2 * i) b = wI (wI I (40 + 2 * i + 1) m b) (40 + 2 * i) 1 (nI (m + 1)) := by
      rw [moveI, if_pos hok3, m3, clamp_c (by omega)]
      have e7 : wI I (40 + 2 * i + 1) m b (40 + 2 * i) 1 = nI m := by
        rw [← m3]
        simp (disch := omega) only [wI_row]
      rw [e7, nI_1]
    rw [eI, wI_at] at hO
    have h1 : SR q ns nt I J (wI (wI I (40 + 2 * i + 1) m b) (40 + 2 * i) 1 (nI (m + 1))) (wJ J 12 0 (nI (m + 1)).toInt64) := ⟨h.hns, h.hnt, (by have := h.c6; (try simp (disch := omega) only [wI_row, wI_off]); exact this), (by have := h.c7; (try simp (disch := omega) only [wI_row, wI_off]); exact this), (by have := h.m8; (try simp (disch := omega) only [wI_row, wI_off]); exact this), (by have := h.m13; (try simp (disch := omega) only [wI_row, wI_off]); exact this), (by have := h.tar; unfold sTar at this ⊢; (try simp (disch := omega) only [wI_row]); exact this), (by have := h.lnk; unfold sLnk at this ⊢; (try simp (disch := omega) only [wI_row]); exact this), (by have := h.zz; unfold sZ at this ⊢; (try simp (disch := omega) only [wI_row]); exact this), (by have := h.dbt; unfold sDbt at this ⊢; (try simp (disch := omega) only [wJ_row]); exact this), (fun k hk => by rw [chSum_eq (J := J) (fun j _ => by try simp (disch := omega) only [wJ_row])]; (try simp (disch := omega) only [wJ_row]); exact h.chg k hk), (fun i hi => by have := h.sub i hi; (try simp (disch := omega) only [wI_row]); exact this), (fun j hj => (h.cal j hj).eq (fun r hr => by try simp (disch := omega) only [wI_row]) (fun r h1 h2 => by try simp (disch := omega) only [wI_row]) (fun i _ => by try simp (disch := omega) only [wI_row])), (by have := h.new; unfold sNew at this ⊢; (try simp (disch := omega) only [wI_row]); exact this)⟩
    refine ⟨_, _, kO_c hO, h1, ?_⟩
    have e21 : wI (wI I (40 + 2 * i + 1) m b) (40 + 2 * i) 1 (nI (m + 1)) 21 i = nI m := by
      rw [← m4]
      simp (disch := omega) only [wI_row]
    have hb1 := homeM_c h1 hi
    have e : mCar (wI (wI I (40 + 2 * i + 1) m b) (40 + 2 * i) 1 (nI (m + 1))) (nI i) b = 0 := by
      rw [mCar, h1.num, if_pos (by rw [hc, hcb]; rfl), hb1.1, if_neg hok2, e2, e21, if_neg ?_]
      show ¬ nI m = nI 10
      rw [nI_eq (by omega) (by omega)]
      omega
    rw [if_pos e, if_pos e, e2, e21, n10, clamp_c (by omega), nI_1]
    obtain ⟨c, hc5, rfl⟩ := car_nI hcb
    refine ⟨⟨h.hns, h.hnt, (by have := h.c6; (try simp (disch := omega) only [wI_row, wI_off]); exact this), (by have := h.c7; (try simp (disch := omega) only [wI_row, wI_off]); exact this), (by have := h.m8; (try simp (disch := omega) only [wI_row, wI_off]); exact this), (by have := h.m13; (try simp (disch := omega) only [wI_row, wI_off]); exact this), (by have := h.tar; unfold sTar at this ⊢; (try simp (disch := omega) only [wI_row]); exact this), (by have := h.lnk; unfold sLnk at this ⊢; (try simp (disch := omega) only [wI_row]); exact this), (by have := h.zz; unfold sZ at this ⊢; (try simp (disch := omega) only [wI_row]); exact this), (by have := h.dbt; unfold sDbt at this ⊢; (try simp (disch := omega) only [wJ_row]); exact this), (fun k hk => by rw [chSum_eq (J := J) (fun j _ => by try simp (disch := omega) only [wJ_row])]; (try simp (disch := omega) only [wJ_row]); exact h.chg k hk), (fun k hk => by
          by_cases e8 : k = i
          · subst e8
            obtain ⟨⟨m', g1, g2, g3, g4, g5⟩, g6⟩ := h.sub k hk
            have em : m' = m := by
              rw [g4, nI_eq (by omega) (by omega)] at m4
              exact m4
            subst em
            simp (disch := omega) only [wI_row, wI_at, wI_off]
            refine ⟨⟨m' + 1, by omega, by omega, rfl, rfl, fun t ht => ?_⟩, g6⟩
            by_cases e7 : t = m'
            · subst e7
              simp only [wI_at]
              exact ⟨trivial, c, hc5, rfl⟩
            · simp (disch := omega) only [wI_row, wI_off]
              exact g5 t (by omega)
          · obtain ⟨⟨m', g1, g2, g3, g4, g5⟩, g6⟩ := h.sub k hk
            simp (disch := omega) only [wI_row, wI_off]
            refine ⟨⟨m', g1, g2, g3, g4, fun t ht => ?_⟩, g6⟩
            simp (disch := omega) only [wI_row, wI_off]
            exact g5 t ht), (fun j hj => (h.cal j hj).eq (fun r hr => by try simp (disch := omega) only [wI_row]) (fun r h1 h2 => by try simp (disch := omega) only [wI_row]) (fun i _ => by try simp (disch := omega) only [wI_row])), (by have := h.new; unfold sNew at this ⊢; (try simp (disch := omega) only [wI_row]); exact this)⟩, ?_, fun _ => wJ_at⟩
    simp (disch := omega) only [wI_row]
    exact wI_at
  · have hx : (isN ns a && isCar b) = false := by
      rcases hx with ⟨-, hx⟩ | ⟨hx, -⟩ | ⟨hx, -⟩
      · exact hx
      · exact absurd hx e_IOIA
      · exact absurd hx e_IOIS
    refine ⟨I, J, rfl, h, ?_⟩
    have e : mCar I a b = 1 := by rw [mCar, h.num, if_neg (by rw [hx]; exact Bool.false_ne_true)]
    rw [if_neg (by rw [e]; decide), e]
    exact fin_th h (by decide)
  · rcases hx with ⟨hx, -⟩ | ⟨-, hx⟩ | ⟨hx, -⟩
    · exact absurd hx.symm e_IOIA
    · obtain ⟨hc, hcb, hx⟩ := hx
      refine ⟨I, J, rfl, h, ?_⟩
      obtain ⟨i, hi, rfl, e2⟩ := isN_of hc
      rw [e2] at hx
      have e : mCar I (nI i) b = 2 := by rw [mCar, h.num, if_pos (by rw [hc, hcb]; rfl), (homeM_c h hi).1, if_pos hx]
      rw [if_neg (by rw [e]; decide), e]
      exact fin_th h (by decide)
    · exact absurd hx e_IAIS
  · rcases hx with ⟨hx, -⟩ | ⟨hx, -⟩ | ⟨-, hx⟩
    · exact absurd hx.symm e_IOIS
    · exact absurd hx.symm e_IAIS
    · obtain ⟨hc, hcb, hx, hm⟩ := hx
      refine ⟨I, J, rfl, h, ?_⟩
      obtain ⟨i, hi, rfl, e2⟩ := isN_of hc
      rw [e2] at hx hm
      obtain ⟨m, m1, m2, m3, m4, m5⟩ := move_c h hi
      have hm10 : m = 10 := by
        rw [m5, decide_eq_false_iff_not] at hm
        omega
      have e : mCar I (nI i) b = 3 := by rw [mCar, h.num, if_pos (by rw [hc, hcb]; rfl), (homeM_c h hi).1, if_neg hx, e2, m4, hm10, if_pos (show nI 10 = 10 from rfl)]
      rw [if_neg (by rw [e]; decide), e]
      exact fin_th h (by decide)
end MIDS
