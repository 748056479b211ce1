section CALLSR
theorem busy_lo {q : Nat → Nat → Nat} {ns nt T : Nat} {I : Nat → Nat → Int32} {J : Nat → Nat → Int64} (h : SR q ns nt T I J I J) {i : Nat} (hi : i < ns) : ∀ n, n ≤ nt → busyC I q nt (40 + 2 * i) n = busyL I i n := by
  have hns := h.hns
  have hnt := h.hnt
  intro n
  induction n with
  | zero => intro _; rfl
  | succ n ih =>
    intro hn
    obtain ⟨⟨⟨g1, g2⟩, g3, g4⟩, -, -, g5, -⟩ := h.cal n (by omega)
    have e1 : decide (40 + 2 * q (80 + 4 * n) 0 = 40 + 2 * i) = decide (nI (q (80 + 4 * n) 0) = nI i) := by
      rw [decide_eq_decide, nI_eq (by omega) (by omega)]
      omega
    have e2 : decide (40 + 2 * q (80 + 4 * n) 1 = 40 + 2 * i) = decide (nI (q (80 + 4 * n) 1) = nI i) := by
      rw [decide_eq_decide, nI_eq (by omega) (by omega)]
      omega
    rw [busyC, busyL, ih (by omega), clamp_c (by omega), e1, e2, g3, g4, g5]
    have e3 : decide (n < nt) = true := by rw [decide_eq_true_eq]; omega
    rw [e3, Bool.true_and]
theorem busy_hi {Ic : Nat → Nat → Int32} {q : Nat → Nat → Nat} {nt r : Nat} : ∀ n, nt ≤ n → n < 1000 → busyC Ic q nt r n = busyC Ic q nt r nt := by
  intro n
  induction n with
  | zero => intro h _; rw [show nt = 0 by omega]
  | succ n ih =>
    intro h h2
    by_cases e : nt = n + 1
    · rw [e]
    · have e3 : decide (n < nt) = false := by rw [decide_eq_false_iff_not]; omega
      rw [busyC, clamp_c (by omega), e3, Bool.false_and, Bool.or_false, ih (by omega) (by omega)]
theorem SR.busy {q : Nat → Nat → Nat} {ns nt T : Nat} {I : Nat → Nat → Int32} {J : Nat → Nat → Int64} (h : SR q ns nt T I J I J) {i : Nat} (hi : i < ns) : busyC I q nt (40 + 2 * i) 60 = busyL I i nt := by
  have := h.hnt
  rw [busy_hi 60 (by omega) (by omega), busy_lo h hi nt (Nat.le_refl _)]
theorem become_rep {I : Nat → Nat → Int32} {r o : Nat} {p : List Nat} (h : Rou I o p) (hl : p.length ≤ 5) (h1 : r ≠ o) (h2 : r ≠ o + 1) (h3 : o ≠ r + 1) : ∀ k, k ≤ p.length → becomeI I r o k r 1 = nI k ∧ ∀ i, i < k → becomeI I r o k (r + 1) i = nI (p.getD i 0) := by
  intro k
  induction k with
  | zero => intro _; exact ⟨by rw [becomeI]; exact wI_at, fun i hi => absurd hi (Nat.not_lt_zero _)⟩
  | succ k ih =>
    intro hk
    obtain ⟨g1, g2⟩ := ih (by omega)
    have hR : Rou (becomeI I r o k) o p := h.row (funext fun x => become_other (by omega) (by omega) k) (funext fun x => become_other (by omega) (by omega) k)
    rw [becomeI, add_eq g1 (by omega), rou_at hR hl (by omega)]
    refine ⟨wI_at, fun i hi => ?_⟩
    rw [wI_row (by omega)]
    by_cases e : i = k
    · rw [e, wI_at]
    · rw [wI_off e]; exact g2 i (by omega)
theorem callT_cases (I : Nat → Nat → Int32) (J : Nat → Nat → Int64) (q : Nat → Nat → Nat) (ns nt : Nat) (a b : Int32) :
    (callT I J q ns nt a b = 1 ∧ (isN ns a && isN ns b) = false) ∨ (callT I J q ns nt a b = 2 ∧ (isN ns a && isN ns b) = true ∧ a = b) ∨ (callT I J q ns nt a b = 3 ∧ (isN ns a && isN ns b) = true ∧ ¬ a = b ∧ ((busyC I q nt (40 + 2 * a.toNatClampNeg) 60 || busyC I q nt (40 + 2 * b.toNatClampNeg) 60) = true ∨ ¬ nt < 60))
    ∨ ((isN ns a && isN ns b) = true ∧ ¬ a = b ∧ (busyC I q nt (40 + 2 * a.toNatClampNeg) 60 || busyC I q nt (40 + 2 * b.toNatClampNeg) 60) = false ∧ nt < 60 ∧ ((callT I J q ns nt a b = 0 ∧ fbB I J (homeF I (40 + 2 * a.toNatClampNeg) 0) (homeF I (40 + 2 * b.toNatClampNeg) 0) = true) ∨ (callT I J q ns nt a b = 4 ∧ fbB I J (homeF I (40 + 2 * a.toNatClampNeg) 0) (homeF I (40 + 2 * b.toNatClampNeg) 0) = false))) := by
  unfold callT
  by_cases h1 : (isN ns a && isN ns b) = false
  · rw [if_pos h1]; exact Or.inl ⟨rfl, h1⟩
  · rw [if_neg h1]
    have h1 : (isN ns a && isN ns b) = true := by simpa using h1
    by_cases h2 : a = b
    · rw [if_pos h2]; exact Or.inr (Or.inl ⟨rfl, h1, h2⟩)
    · rw [if_neg h2]
      by_cases h3 : (busyC I q nt (40 + 2 * a.toNatClampNeg) 60 || busyC I q nt (40 + 2 * b.toNatClampNeg) 60) = true
      · rw [if_pos h3]; exact Or.inr (Or.inr (Or.inl ⟨rfl, h1, h2, Or.inl h3⟩))
      · rw [if_neg h3]
        have h3 : (busyC I q nt (40 + 2 * a.toNatClampNeg) 60 || busyC I q nt (40 + 2 * b.toNatClampNeg) 60) = false := by simpa using h3
        by_cases h4 : nt < 60
        · rw [if_neg (fun g => g h4)]
          by_cases h5 : fbB I J (homeF I (40 + 2 * a.toNatClampNeg) 0) (homeF I (40 + 2 * b.toNatClampNeg) 0) = true
          · rw [if_pos h5]; exact Or.inr (Or.inr (Or.inr ⟨h1, h2, h3, h4, Or.inl ⟨rfl, h5⟩⟩))
          · rw [if_neg h5]; exact Or.inr (Or.inr (Or.inr ⟨h1, h2, h3, h4, Or.inr ⟨rfl, by simpa using h5⟩⟩))
        · rw [if_pos h4]; exact Or.inr (Or.inr (Or.inl ⟨rfl, h1, h2, Or.inr h4⟩))
theorem homeF_row {I I' : Nat → Nat → Int32} {r : Nat} {b : Int32} (e1 : I' r = I r) (e2 : I' (r + 1) = I (r + 1)) : homeF I' r b = homeF I r b := by
  unfold homeF
  rw [e1, e2]
/-- the new call's rows, the class's side -/
theorem mk_rows {op : Nat → Nat → Bool} {rt : Nat → Nat → Nat} {I : Nat → Nat → Int32} {J : Nat → Nat → Int64} {ns nt i j x y : Nat} {w : List Nat} (hnt : nt < 60) (hi : i < 20) (hx : x < 5) (hy : y < 5) (e1 : homeF I (40 + 2 * i) 0 = nI x) (e2 : homeF I (40 + 2 * j) 0 = nI y) (hg : GC I J op rt) (hB : Best op rt x y (some w)) :
    (∀ r, r ≠ 0 → r ≠ 6 → r ≠ 7 → r ≠ 11 → r ≠ 80 + 4 * nt → r ≠ 80 + 4 * nt + 1 → r ≠ 80 + 4 * nt + 1 + 1 → mkCI I J nt i j r = I r) ∧ (∀ k, k ≠ 7 → mkCI I J nt i j 0 k = I 0 k) ∧ mkCI I J nt i j 0 7 = nI (nt + 1) ∧ mkCI I J nt i j (80 + 4 * nt) = (fun k => if k = 2 then I 1 x else if k = 3 then I 2 x else 0) ∧ Rou (mkCI I J nt i j) (80 + 4 * nt + 1) w := by
  obtain ⟨v, h1, h2, h3⟩ := fb_rep (r := 6) (Or.inl rfl) hg hx hy
  have e := best_one h1 hB
  subst e
  have hR := h3 w rfl
  have hl := way_len hB.1
  have ec : callIf I J i j = fbI I J (nI x) (nI y) 6 := by rw [callIf, e1, e2]
  have hrow : ∀ r, r ≠ 6 → r ≠ 7 → r ≠ 11 → callIf I J i j r = I r := fun r g1 g2 g3 => by rw [ec]; exact funext fun k => fb_other g3 g1 g2
  have eh : homeF (callIf I J i j) (40 + 2 * i) 0 = nI x := by rw [homeF_row (hrow _ (by omega) (by omega) (by omega)) (hrow _ (by omega) (by omega) (by omega)), e1]
  have es : stepF (callIf I J i j) (nI x) = I 1 x := by rw [stepF, if_pos (car_of hx), clamp_c (by omega), hrow 1 (by omega) (by omega) (by omega)]
  have ep : priceF (callIf I J i j) (nI x) = I 2 x := by rw [priceF, if_pos (car_of hx), clamp_c (by omega), hrow 2 (by omega) (by omega) (by omega)]
  have ht : ∀ r, r ≠ 80 + 4 * nt → r ≠ 80 + 4 * nt + 1 → r ≠ 80 + 4 * nt + 1 + 1 → talkI (callIf I J i j) nt (I 1 x) (I 2 x) r = callIf I J i j r := fun r g1 g2 g3 => funext fun k => by rw [talkI, if_neg g1, if_neg g2, if_neg g3]
  have hR6 : Rou (talkI (callIf I J i j) nt (I 1 x) (I 2 x)) 6 w := by
    rw [← ec] at hR
    exact hR.row (ht 6 (by omega) (by omega) (by omega)) (ht 7 (by omega) (by omega) (by omega))
  have elen : (callIf I J i j 6 1).toNatClampNeg = w.length := by rw [ec, hR.1, clamp_c (by omega)]
  have e0 : callI0 I J nt i j = becomeI (talkI (callIf I J i j) nt (I 1 x) (I 2 x)) (80 + 4 * nt + 1) 6 w.length := by rw [callI0, eh, es, ep, elen]
  have hb := become_rep (r := 80 + 4 * nt + 1) hR6 hl.2 (by omega) (by omega) (by omega) w.length (Nat.le_refl _)
  have ho : ∀ r, r ≠ 80 + 4 * nt + 1 → r ≠ 80 + 4 * nt + 1 + 1 → callI0 I J nt i j r = talkI (callIf I J i j) nt (I 1 x) (I 2 x) r := fun r g1 g2 => by rw [e0]; exact funext fun k => become_other g1 g2 _
  refine ⟨fun r g1 g2 g3 g4 g5 g6 g7 => ?_, fun k hk => ?_, wI_at, ?_, ?_⟩
  · rw [mkCI, wI_row g1, ho r g6 g7, ht r g5 g6 g7, hrow r g2 g3 g4]
  · rw [mkCI, wI_off hk, ho 0 (by omega) (by omega), ht 0 (by omega) (by omega) (by omega), hrow 0 (by omega) (by omega) (by omega)]
  · rw [mkCI, wI_row (by omega), ho _ (by omega) (by omega)]
    exact funext fun k => by rw [talkI, if_pos rfl]
  · rw [← e0] at hb
    have hb2 : Rou (callI0 I J nt i j) (80 + 4 * nt + 1) w := hb
    exact hb2.row (by rw [mkCI, wI_row (by omega)]) (by rw [mkCI, wI_row (by omega)])
theorem chSum_new {J : Nat → Nat → Int64} {nt : Nat} {x : Int32} : ∀ n, n < 1000 → chSum (talkJ J nt) (nt + 1) x n = chSum J nt x n := by
  intro n
  induction n with
  | zero => intro _; rfl
  | succ n ih =>
    intro hn
    rw [chSum, chSum, ih (by omega), clamp_c (by omega)]
    rcases Nat.lt_trichotomy n nt with z | z | z
    · rw [if_pos (by omega), if_pos z, chF_eq (J := J) (funext fun k => by rw [talkJ, if_neg (by omega)])]
    · rw [if_pos (by omega), if_neg (by omega)]
      have : chF (talkJ J nt) (80 + 4 * n) x = 0 := by
        unfold chF
        split
        · rw [talkJ, if_pos (by omega)]
        · rfl
      rw [this, Int64.add_zero]
    · rw [if_neg (by omega), if_neg (by omega)]
theorem talkJ_row {J : Nat → Nat → Int64} {nt r : Nat} (h : r ≠ 80 + 4 * nt + 3) : talkJ J nt r = J r := funext fun k => by rw [talkJ, if_neg h]
theorem sCal1.qq {q q' : Nat → Nat → Nat} {ns j : Nat} {Ic Il : Nat → Nat → Int32} (h : sCal1 q ns Ic Il j) (e : q' (80 + 4 * j) = q (80 + 4 * j)) : sCal1 q' ns Ic Il j := by
  unfold sCal1 at h ⊢
  rw [e]
  exact h
/-- the law's cells with the new call -/
def newL (I : Nat → Nat → Int32) (nt i j x : Nat) (w : List Nat) : Nat → Nat → Int32 := (wI (wI (wI (wI (wI (wI I 17 (8 * nt) (nI i)) 17 (8 * nt + 1) (nI j)) 17 (8 * nt + 3) (I 15 (2 * x))) 17 (8 * nt + 4) (I 15 (2 * x + 1))) 17 (8 * nt + 7) (nI (enc w))) 18 1 (nI (nt + 1)))
theorem newL_row {I : Nat → Nat → Int32} {nt i j x r : Nat} {w : List Nat} (h : r ≠ 17) (h2 : r ≠ 18) : newL I nt i j x w r = I r := by rw [newL, wI_row h2, wI_row h, wI_row h, wI_row h, wI_row h, wI_row h]
theorem GC.new {I : Nat → Nat → Int32} {J : Nat → Nat → Int64} {op : Nat → Nat → Bool} {rt : Nat → Nat → Nat} {nt i j x : Nat} {w : List Nat} (h : GC I J op rt) : GC (newL I nt i j x w) J op rt := h.eq (newL_row (by omega) (by omega)) (newL_row (by omega) (by omega))
theorem home_new {I : Nat → Nat → Int32} {nt i j x r : Nat} {w : List Nat} {b : Int32} (h : 40 ≤ r) : homeF (newL I nt i j x w) r b = homeF I r b := homeF_row (newL_row (by omega) (by omega)) (newL_row (by omega) (by omega))
set_option maxHeartbeats 1000000 in
theorem call_sr {q : Nat → Nat → Nat} {ns nt T : Nat} {I : Nat → Nat → Int32} {J : Nat → Nat → Int64} (h : SR q ns nt T I J I J) (hnt7 : nt < 7) {i j x y : Nat} {w : List Nat} (hi : i < ns) (hj : j < ns) (hx : x < 5) (hy : y < 5) (e1 : homeF I (40 + 2 * i) 0 = nI x) (e2 : homeF I (40 + 2 * j) 0 = nI y) (hB : Best (sOp I J) (sRt I) x y (some w)) : SR (talkQ q nt i j) ns (nt + 1) T (mkCI (newL I nt i j x w) J nt i j) (talkJ J nt) (mkCI (newL I nt i j x w) J nt i j) (talkJ J nt) := by
  have hns := h.hns
  have hl := way_len hB.1
  obtain ⟨k1, k2, k3, k4, k5⟩ := mk_rows (I := newL I nt i j x w) (J := J) (ns := ns) (nt := nt) (i := i) (j := j) (by omega) (by omega) hx hy ((home_new (by omega)).trans e1) ((home_new (by omega)).trans e2) h.gc.new hB
  have all : ∀ r, r ≠ 0 → r ≠ 6 → r ≠ 7 → r ≠ 11 → r ≠ 17 → r ≠ 18 → r ≠ 80 + 4 * nt → r ≠ 80 + 4 * nt + 1 → r ≠ 80 + 4 * nt + 1 + 1 → mkCI (newL I nt i j x w) J nt i j r = I r := fun r g1 g2 g3 g4 g5 g6 g7 g8 g9 => by rw [k1 r g1 g2 g3 g4 g7 g8 g9, newL_row g5 g6]
  have r17 : mkCI (newL I nt i j x w) J nt i j 17 = newL I nt i j x w 17 := k1 17 (by omega) (by omega) (by omega) (by omega) (by omega) (by omega) (by omega)
  have r18 : mkCI (newL I nt i j x w) J nt i j 18 = newL I nt i j x w 18 := k1 18 (by omega) (by omega) (by omega) (by omega) (by omega) (by omega) (by omega)
  refine ⟨hns, by omega, by rw [k2 6 (by omega), newL_row (by omega) (by omega)]; exact h.c6, k3, by rw [r18, newL, wI_off (by omega), wI_row (by omega), wI_row (by omega), wI_row (by omega), wI_row (by omega), wI_row (by omega)]; exact h.g0, by rw [r18, newL, wI_at],
    by have := h.tar; unfold sTar at this ⊢; simp (disch := omega) only [all]; exact this,
    by have := h.lnk; unfold sLnk at this ⊢; simp (disch := omega) only [all]; exact this,
    by have := h.dbt; unfold sDbt at this ⊢; simp (disch := omega) only [talkJ_row]; exact this,
    fun k hk => by
      rw [chSum_new 60 (by omega), talkJ_row (by omega)]
      exact h.chg k hk,
    fun k hk => (h.sub k hk).eq (fun r hr => all r (by omega) (by omega) (by omega) (by omega) (by omega) (by omega) (by omega) (by omega) (by omega)) (fun k9 hk9 => by rw [all 16 (by omega) (by omega) (by omega) (by omega) (by omega) (by omega) (by omega) (by omega) (by omega)]),
    fun k hk => ?_, fun k g1 g2 => by
      have := h.new k (by omega) g2
      rw [r17, newL]
      simp (disch := omega) only [wI_row, wI_off]
      exact this⟩
  by_cases e8 : k = nt
  · subst e8
    obtain ⟨t1, t2, ⟨n, t3, t4, t5⟩, n2, t6, t7⟩ := h.tar x hx
    have hnew := h.new k (Nat.le_refl _) hnt7
    have q0 : talkQ q k i j (80 + 4 * k) 0 = i := by rw [talkQ, if_pos rfl, if_pos rfl]
    have q1 : talkQ q k i j (80 + 4 * k) 1 = j := by rw [talkQ, if_pos rfl, if_neg (by omega)]
    have a1 : newL I k i j x w 1 = I 1 := newL_row (by omega) (by omega)
    have a2 : newL I k i j x w 2 = I 2 := newL_row (by omega) (by omega)
    have c2 : mkCI (newL I k i j x w) J k i j (80 + 4 * k) 2 = I 1 x := by rw [k4]; show newL I k i j x w 1 x = _; rw [a1]
    have c3 : mkCI (newL I k i j x w) J k i j (80 + 4 * k) 3 = I 2 x := by rw [k4]; show newL I k i j x w 2 x = _; rw [a2]
    have c6 : mkCI (newL I k i j x w) J k i j (80 + 4 * k) 6 = 0 := by rw [k4]; rfl
    have c7 : mkCI (newL I k i j x w) J k i j (80 + 4 * k) 7 = 0 := by rw [k4]; rfl
    have c8 : mkCI (newL I k i j x w) J k i j (80 + 4 * k) 8 = 0 := by rw [k4]; rfl
    have l0 : newL I k i j x w 17 (8 * k) = nI i := by rw [newL]; simp (disch := omega) only [wI_row, wI_at, wI_off]
    have l1 : newL I k i j x w 17 (8 * k + 1) = nI j := by rw [newL]; simp (disch := omega) only [wI_row, wI_at, wI_off]
    have l2 : newL I k i j x w 17 (8 * k + 2) = 0 := by rw [newL]; simp (disch := omega) only [wI_row, wI_at, wI_off]; exact hnew.1
    have l3 : newL I k i j x w 17 (8 * k + 3) = I 1 x := by rw [newL]; simp (disch := omega) only [wI_row, wI_at, wI_off]; exact t1
    have l4 : newL I k i j x w 17 (8 * k + 4) = I 2 x := by rw [newL]; simp (disch := omega) only [wI_row, wI_at, wI_off]; exact t2
    have l5 : newL I k i j x w 17 (8 * k + 5) = 0 := by rw [newL]; simp (disch := omega) only [wI_row, wI_at, wI_off]; exact hnew.2.1
    have l6 : newL I k i j x w 17 (8 * k + 6) = 0 := by rw [newL]; simp (disch := omega) only [wI_row, wI_at, wI_off]; exact hnew.2.2
    have l7 : newL I k i j x w 17 (8 * k + 7) = nI (enc w) := by rw [newL]; simp (disch := omega) only [wI_row, wI_at, wI_off]
    unfold sCal1
    rw [q0, q1, r17, c2, c3, c6, c7, c8, l0, l1, l2, l3, l4, l5, l6, l7]
    exact ⟨⟨⟨hi, hj⟩, rfl, rfl⟩, ⟨n, t3, t4, t5⟩, ⟨n2, t6, t7⟩, rfl, rfl, rfl, rfl, rfl, w, ⟨hl.1, hl.2, hB.1.1.2.2.1, hB.1.1.2.1⟩, k5, rfl⟩
  · refine ((h.cal k (by omega)).qq (q' := talkQ q nt i j) (funext fun z => by rw [talkQ, if_neg (by omega)])).eq (fun r hr => all r (by omega) (by omega) (by omega) (by omega) (by omega) (by omega) (by omega) (by omega) (by omega)) (fun k9 hk9 => ?_)
    rw [r17, newL]
    simp (disch := omega) only [wI_row, wI_off]
/-- how a call of the class ends -/
theorem callT_2 {q : Nat → Nat → Nat} {ns nt T : Nat} {I : Nat → Nat → Int32} {J : Nat → Nat → Int64} (h : SR q ns nt T I J I J) {i : Nat} (hi : i < ns) : callT I J q ns nt (nI i) (nI i) = 2 := by
  have hns := h.hns
  have h1 := isN_ok (n := ns) hi (by omega)
  rw [callT, h1, if_neg (by simp), if_pos rfl]
theorem callT_34 {q : Nat → Nat → Nat} {ns nt T : Nat} {I : Nat → Nat → Int32} {J : Nat → Nat → Int64} (h : SR q ns nt T I J I J) {i j : Nat} (hi : i < ns) (hj : j < ns) (hij : i ≠ j) (hn : busyL I i nt = true ∨ busyL I j nt = true ∨ fbB I J (homeF I (40 + 2 * i) 0) (homeF I (40 + 2 * j) 0) = false) : callT I J q ns nt (nI i) (nI j) = 3 ∨ callT I J q ns nt (nI i) (nI j) = 4 := by
  have hns := h.hns
  have h1 := isN_ok (n := ns) hi (by omega)
  have h2 := isN_ok (n := ns) hj (by omega)
  have hne : ¬ nI i = nI j := fun hc => hij ((nI_eq (by omega) (by omega)).mp hc)
  rcases callT_cases I J q ns nt (nI i) (nI j) with ⟨g, g1⟩ | ⟨g, -, g1⟩ | ⟨g, -⟩ | ⟨-, -, g3, -, ⟨g, g1⟩ | ⟨g, -⟩⟩
  · rw [h1, h2] at g1; cases g1
  · exact absurd g1 hne
  · exact Or.inl g
  · rw [nI_clamp (by omega), nI_clamp (by omega)] at g1 g3
    rw [h.busy hi, h.busy hj, Bool.or_eq_false_iff] at g3
    rcases hn with e | e | e
    · rw [e] at g3; cases g3.1
    · rw [e] at g3; cases g3.2
    · rw [e] at g1; cases g1
  · exact Or.inr g
theorem busyC_row {I I' : Nat → Nat → Int32} {q : Nat → Nat → Nat} {nt r : Nat} (h : ∀ x, 80 ≤ x → I' x = I x) : ∀ n, busyC I' q nt r n = busyC I q nt r n := by
  intro n
  induction n with
  | zero => rfl
  | succ n ih => rw [busyC, busyC, ih, h _ (by omega)]
theorem callT_0 {q : Nat → Nat → Nat} {ns nt : Nat} {I : Nat → Nat → Int32} {J : Nat → Nat → Int64} (hns : ns ≤ 8) (hnt : nt < 60) {i j : Nat} (hi : i < ns) (hj : j < ns) (hij : i ≠ j) (b1 : busyC I q nt (40 + 2 * i) 60 = false) (b2 : busyC I q nt (40 + 2 * j) 60 = false) (hf : fbB I J (homeF I (40 + 2 * i) 0) (homeF I (40 + 2 * j) 0) = true) : callT I J q ns nt (nI i) (nI j) = 0 := by
  have h1 := isN_ok (n := ns) hi (by omega)
  have h2 := isN_ok (n := ns) hj (by omega)
  have hne : ¬ nI i = nI j := fun hc => hij ((nI_eq (by omega) (by omega)).mp hc)
  rw [callT, h1, h2, if_neg (by simp), if_neg hne, nI_clamp (by omega), nI_clamp (by omega), b1, b2, if_neg (by simp), if_neg (by omega), if_pos hf]
theorem fb_some {op : Nat → Nat → Bool} {rt : Nat → Nat → Nat} {I : Nat → Nat → Int32} {J : Nat → Nat → Int64} {x y : Nat} {w : List Nat} (hg : GC I J op rt) (hx : x < 5) (hy : y < 5) (hB : Best op rt x y (some w)) : fbB I J (nI x) (nI y) = true := by
  obtain ⟨v, h1, h2, -⟩ := fb_rep (r := 6) (Or.inl rfl) hg hx hy
  have e := best_one h1 hB
  subst e
  exact h2
theorem sub_home {q : Nat → Nat → Nat} {ns nt T : Nat} {I : Nat → Nat → Int32} {J : Nat → Nat → Int64} (h : SR q ns nt T I J I J) {i : Nat} (hi : i < ns) : ∃ x : Nat, x < 5 ∧ homeF I (40 + 2 * i) 0 = nI x ∧ I 16 (4 * i) = nI x := by
  have h1 := rd_home0 (h.sub i hi)
  obtain ⟨⟨n, a1, a2, a3, a4, a5, a6⟩, -⟩ := h.sub i hi
  obtain ⟨c, hc, ec⟩ := a5 (n - 1) (by omega)
  exact ⟨c, hc, by rw [h1.1, a6, ec], by rw [a6, ec]⟩
end CALLSR
