section MIDS3
theorem busy_lo {q : Nat → Nat → Nat} {ns nt : Nat} {Ic Im : Nat → Nat → Int32} {Jc Jm : Nat → Nat → Int64} (h : SR q ns nt Ic Jc Im Jm) {i : Nat} (hi : i < ns) : ∀ n, n ≤ nt → busyC Ic q nt (40 + 2 * i) n = busyM Im (nI i) n := by
  have hns := h.hns
  have hnt := h.hnt
  intro n
  induction n with
  | zero => intro _; rfl
  | succ n ih =>
    intro hn
    obtain ⟨⟨⟨g1, g2⟩, g3, g4⟩, -, g5, -⟩ := h.cal n (by omega)
    have e1 : decide (40 + 2 * q (80 + 4 * n) 0 = 40 + 2 * i) = decide (nI (q (80 + 4 * n) 0) = nI i) := by
      rw [decide_eq_decide, nI_eq (by omega) (by omega)]
      omega
    have e2 : decide (40 + 2 * q (80 + 4 * n) 1 = 40 + 2 * i) = decide (nI (q (80 + 4 * n) 1) = nI i) := by
      rw [decide_eq_decide, nI_eq (by omega) (by omega)]
      omega
    rw [busyC, busyM, ih (by omega), clamp_c (by omega), e1, e2, g3, g4, g5]
    have e3 : decide (n < nt) = true := by rw [decide_eq_true_eq]; omega
    rw [e3, Bool.true_and]
theorem busy_hi {Ic : Nat → Nat → Int32} {q : Nat → Nat → Nat} {nt r : Nat} : ∀ n, nt ≤ n → n < 1000 → busyC Ic q nt r n = busyC Ic q nt r nt := by
  intro n
  induction n with
  | zero => intro h _; rw [show nt = 0 by omega]
  | succ n ih =>
    intro h h2
    by_cases e : nt = n + 1
    · rw [e]
    · have e3 : decide (n < nt) = false := by rw [decide_eq_false_iff_not]; omega
      rw [busyC, clamp_c (by omega), e3, Bool.false_and, Bool.or_false, ih (by omega) (by omega)]
theorem SR.busy {q : Nat → Nat → Nat} {ns nt : Nat} {Ic Im : Nat → Nat → Int32} {Jc Jm : Nat → Nat → Int64} (h : SR q ns nt Ic Jc Im Jm) {i : Nat} (hi : i < ns) : busyC Ic q nt (40 + 2 * i) 60 = busyM Im (nI i) nt := by
  have := h.hnt
  rw [busy_hi 60 this (by omega), busy_lo h hi nt (Nat.le_refl _)]
theorem Rou.row {I I' : Nat → Nat → Int32} {r : Nat} {p : List Nat} (h : Rou I r p) (e1 : I' r = I r) (e2 : I' (r + 1) = I (r + 1)) : Rou I' r p := by
  unfold Rou
  rw [e1, e2]
  exact h
theorem become_rep {I : Nat → Nat → Int32} {r o : Nat} {p : List Nat} (h : Rou I o p) (hl : p.length ≤ 5) (h1 : r ≠ o) (h2 : r ≠ o + 1) (h3 : o ≠ r + 1) : ∀ k, k ≤ p.length → becomeI I r o k r 1 = nI k ∧ ∀ i, i < k → becomeI I r o k (r + 1) i = nI (p.getD i 0) := by
  intro k
  induction k with
  | zero => intro _; exact ⟨by rw [becomeI]; exact wI_at, fun i hi => absurd hi (Nat.not_lt_zero _)⟩
  | succ k ih =>
    intro hk
    obtain ⟨g1, g2⟩ := ih (by omega)
    have hR : Rou (becomeI I r o k) o p := h.row (funext fun x => become_other (by omega) (by omega) k) (funext fun x => become_other (by omega) (by omega) k)
    rw [becomeI, add_eq g1 (by omega), rou_at hR hl (by omega)]
    refine ⟨wI_at, fun i hi => ?_⟩
    rw [wI_row (by omega)]
    by_cases e : i = k
    · rw [e, wI_at]
    · rw [wI_off e]; exact g2 i (by omega)
theorem callT_cases (I : Nat → Nat → Int32) (J : Nat → Nat → Int64) (q : Nat → Nat → Nat) (ns nt : Nat) (a b : Int32) :
    (callT I J q ns nt a b = 1 ∧ (isN ns a && isN ns b) = false) ∨ (callT I J q ns nt a b = 2 ∧ (isN ns a && isN ns b) = true ∧ a = b) ∨ (callT I J q ns nt a b = 3 ∧ (isN ns a && isN ns b) = true ∧ ¬ a = b ∧ ((busyC I q nt (40 + 2 * a.toNatClampNeg) 60 || busyC I q nt (40 + 2 * b.toNatClampNeg) 60) = true ∨ ¬ nt < 60))
    ∨ ((isN ns a && isN ns b) = true ∧ ¬ a = b ∧ (busyC I q nt (40 + 2 * a.toNatClampNeg) 60 || busyC I q nt (40 + 2 * b.toNatClampNeg) 60) = false ∧ nt < 60 ∧ ((callT I J q ns nt a b = 0 ∧ fbB I J (homeF I (40 + 2 * a.toNatClampNeg) 0) (homeF I (40 + 2 * b.toNatClampNeg) 0) = true) ∨ (callT I J q ns nt a b = 4 ∧ fbB I J (homeF I (40 + 2 * a.toNatClampNeg) 0) (homeF I (40 + 2 * b.toNatClampNeg) 0) = false))) := by
  unfold callT
  by_cases h1 : (isN ns a && isN ns b) = false
  · rw [if_pos h1]; exact Or.inl ⟨rfl, h1⟩
  · rw [if_neg h1]
    have h1 : (isN ns a && isN ns b) = true := by simpa using h1
    by_cases h2 : a = b
    · rw [if_pos h2]; exact Or.inr (Or.inl ⟨rfl, h1, h2⟩)
    · rw [if_neg h2]
      by_cases h3 : (busyC I q nt (40 + 2 * a.toNatClampNeg) 60 || busyC I q nt (40 + 2 * b.toNatClampNeg) 60) = true
      · rw [if_pos h3]; exact Or.inr (Or.inr (Or.inl ⟨rfl, h1, h2, Or.inl h3⟩))
      · rw [if_neg h3]
        have h3 : (busyC I q nt (40 + 2 * a.toNatClampNeg) 60 || busyC I q nt (40 + 2 * b.toNatClampNeg) 60) = false := by simpa using h3
        by_cases h4 : nt < 60
        · rw [if_neg (fun g => g h4)]
          by_cases h5 : fbB I J (homeF I (40 + 2 * a.toNatClampNeg) 0) (homeF I (40 + 2 * b.toNatClampNeg) 0) = true
          · rw [if_pos h5]; exact Or.inr (Or.inr (Or.inr ⟨h1, h2, h3, h4, Or.inl ⟨rfl, h5⟩⟩))
          · rw [if_neg h5]; exact Or.inr (Or.inr (Or.inr ⟨h1, h2, h3, h4, Or.inr ⟨rfl, by simpa using h5⟩⟩))
        · rw [if_pos h4]; exact Or.inr (Or.inr (Or.inl ⟨rfl, h1, h2, Or.inr h4⟩))
theorem homeF_row {I I' : Nat → Nat → Int32} {r : Nat} {b : Int32} (e1 : I' r = I r) (e2 : I' (r + 1) = I (r + 1)) : homeF I' r b = homeF I r b := by
  unfold homeF
  rw [e1, e2]
/-- the new call's rows, the class's side -/
theorem mk_rows {op : Nat → Nat → Bool} {rt : Nat → Nat → Nat} {I : Nat → Nat → Int32} {J : Nat → Nat → Int64} {ns nt i j x y : Nat} {w : List Nat} (hnt : nt < 60) (hi : i < 20) (hx : x < 5) (hy : y < 5) (e1 : homeF I (40 + 2 * i) 0 = nI x) (e2 : homeF I (40 + 2 * j) 0 = nI y) (hg : GC I J op rt) (hB : Best op rt x y (some w)) :
    (∀ r, r ≠ 0 → r ≠ 6 → r ≠ 7 → r ≠ 11 → r ≠ 80 + 4 * nt → r ≠ 80 + 4 * nt + 1 → r ≠ 80 + 4 * nt + 1 + 1 → mkCI I J nt i j r = I r) ∧ (∀ k, k ≠ 7 → mkCI I J nt i j 0 k = I 0 k) ∧ mkCI I J nt i j 0 7 = nI (nt + 1) ∧ mkCI I J nt i j (80 + 4 * nt) = (fun k => if k = 2 then I 1 x else if k = 3 then I 2 x else 0) ∧ Rou (mkCI I J nt i j) (80 + 4 * nt + 1) w := by
  obtain ⟨v, h1, h2, h3⟩ := fb_rep (r := 6) (Or.inl rfl) hg hx hy
  have e := best_one h1 hB
  subst e
  have hR := h3 w rfl
  have hl := way_len hB.1
  have ec : callIf I J i j = fbI I J (nI x) (nI y) 6 := by rw [callIf, e1, e2]
  have hrow : ∀ r, r ≠ 6 → r ≠ 7 → r ≠ 11 → callIf I J i j r = I r := fun r g1 g2 g3 => by rw [ec]; exact funext fun k => fb_other g3 g1 g2
  have eh : homeF (callIf I J i j) (40 + 2 * i) 0 = nI x := by rw [homeF_row (hrow _ (by omega) (by omega) (by omega)) (hrow _ (by omega) (by omega) (by omega)), e1]
  have es : stepF (callIf I J i j) (nI x) = I 1 x := by rw [stepF, if_pos (car_of hx), clamp_c (by omega), hrow 1 (by omega) (by omega) (by omega)]
  have ep : priceF (callIf I J i j) (nI x) = I 2 x := by rw [priceF, if_pos (car_of hx), clamp_c (by omega), hrow 2 (by omega) (by omega) (by omega)]
  have ht : ∀ r, r ≠ 80 + 4 * nt → r ≠ 80 + 4 * nt + 1 → r ≠ 80 + 4 * nt + 1 + 1 → talkI (callIf I J i j) nt (I 1 x) (I 2 x) r = callIf I J i j r := fun r g1 g2 g3 => funext fun k => by rw [talkI, if_neg g1, if_neg g2, if_neg g3]
  have hR6 : Rou (talkI (callIf I J i j) nt (I 1 x) (I 2 x)) 6 w := by
    rw [← ec] at hR
    exact hR.row (ht 6 (by omega) (by omega) (by omega)) (ht 7 (by omega) (by omega) (by omega))
  have elen : (callIf I J i j 6 1).toNatClampNeg = w.length := by rw [ec, hR.1, clamp_c (by omega)]
  have e0 : callI0 I J nt i j = becomeI (talkI (callIf I J i j) nt (I 1 x) (I 2 x)) (80 + 4 * nt + 1) 6 w.length := by rw [callI0, eh, es, ep, elen]
  have hb := become_rep (r := 80 + 4 * nt + 1) hR6 hl.2 (by omega) (by omega) (by omega) w.length (Nat.le_refl _)
  have ho : ∀ r, r ≠ 80 + 4 * nt + 1 → r ≠ 80 + 4 * nt + 1 + 1 → callI0 I J nt i j r = talkI (callIf I J i j) nt (I 1 x) (I 2 x) r := fun r g1 g2 => by rw [e0]; exact funext fun k => become_other g1 g2 _
  refine ⟨fun r g1 g2 g3 g4 g5 g6 g7 => ?_, fun k hk => ?_, wI_at, ?_, ?_⟩
  · rw [mkCI, wI_row g1, ho r g6 g7, ht r g5 g6 g7, hrow r g2 g3 g4]
  · rw [mkCI, wI_off hk, ho 0 (by omega) (by omega), ht 0 (by omega) (by omega) (by omega), hrow 0 (by omega) (by omega) (by omega)]
  · rw [mkCI, wI_row (by omega), ho _ (by omega) (by omega)]
    exact funext fun k => by rw [talkI, if_pos rfl]
  · rw [← e0] at hb
    have hb2 : Rou (callI0 I J nt i j) (80 + 4 * nt + 1) w := hb
    exact hb2.row (by rw [mkCI, wI_row (by omega)]) (by rw [mkCI, wI_row (by omega)])
/-- .. and the reference's -/
theorem made_rows {I : Nat → Nat → Int32} {nt x m : Nat} {a b : Int32} :
    (∀ r, r ≠ 13 → r ≠ 25 → r ≠ 26 → r ≠ 27 → r ≠ 28 → r ≠ 29 → r ≠ 32 → r ≠ 33 → mMade I nt x m a b r = I r) ∧ (∀ r k, 25 ≤ r → r ≤ 32 → k ≠ nt → mMade I nt x m a b r k = I r k) ∧ mMade I nt x m a b 13 13 = nI (nt + 1) ∧ mMade I nt x m a b 13 8 = I 13 8 ∧ mMade I nt x m a b 13 0 = 0 ∧ mMade I nt x m a b 25 nt = a ∧ mMade I nt x m a b 26 nt = b ∧ mMade I nt x m a b 27 nt = 0 ∧ mMade I nt x m a b 28 nt = I 14 x ∧ mMade I nt x m a b 29 nt = I 15 x ∧ mMade I nt x m a b 32 nt = I 13 23 ∧ (∀ k, k < m → mMade I nt x m a b 33 (5 * nt + k) = I 34 k) ∧ (∀ k, ¬ (5 * nt ≤ k ∧ k < 5 * nt + m) → mMade I nt x m a b 33 k = I 33 k) := by
  have hw : ∀ (I : Nat → Nat → Int32) (r : Nat), r ≠ 33 → wayI I nt m r = I r := fun I r g => funext fun k => by rw [wayI, if_neg (by omega)]
  refine ⟨fun r g1 g2 g3 g4 g5 g6 g7 g8 => ?_, fun r k g1 g2 g3 => ?_, ?_, ?_, ?_, ?_, ?_, ?_, ?_, ?_, ?_, fun k hk => ?_, fun k hk => ?_⟩
  · rw [mMade, wI_row g1, hw _ _ g8, wI_row g7, wI_row g6, wI_row g5, wI_row g4, wI_row g3, wI_row g2, wI_row g1]
  · rw [mMade, wI_row (by omega), hw _ _ (by omega), wI_eq, if_neg (by omega), wI_eq, if_neg (by omega), wI_eq, if_neg (by omega), wI_eq, if_neg (by omega), wI_eq, if_neg (by omega), wI_eq, if_neg (by omega), wI_row (by omega)]
  · exact wI_at
  · rw [mMade, wI_off (by omega), hw _ _ (by omega), wI_row (by omega), wI_row (by omega), wI_row (by omega), wI_row (by omega), wI_row (by omega), wI_row (by omega), wI_off (by omega)]
  · rw [mMade, wI_off (by omega), hw _ _ (by omega), wI_row (by omega), wI_row (by omega), wI_row (by omega), wI_row (by omega), wI_row (by omega), wI_row (by omega), wI_at]
  · rw [mMade, wI_row (by omega), hw _ _ (by omega), wI_row (by omega), wI_row (by omega), wI_row (by omega), wI_row (by omega), wI_row (by omega), wI_at]
  · rw [mMade, wI_row (by omega), hw _ _ (by omega), wI_row (by omega), wI_row (by omega), wI_row (by omega), wI_row (by omega), wI_at]
  · rw [mMade, wI_row (by omega), hw _ _ (by omega), wI_row (by omega), wI_row (by omega), wI_row (by omega), wI_at]
  · rw [mMade, wI_row (by omega), hw _ _ (by omega), wI_row (by omega), wI_row (by omega), wI_at]
  · rw [mMade, wI_row (by omega), hw _ _ (by omega), wI_row (by omega), wI_at]
  · rw [mMade, wI_row (by omega), hw _ _ (by omega), wI_at]
  · rw [mMade, wI_row (by omega), wayI, if_pos ⟨rfl, by omega, by omega⟩, show 5 * nt + k - 5 * nt = k by omega, wI_row (by omega), wI_row (by omega), wI_row (by omega), wI_row (by omega), wI_row (by omega), wI_row (by omega), wI_row (by omega)]
  · rw [mMade, wI_row (by omega), wayI, if_neg (by omega), wI_row (by omega), wI_row (by omega), wI_row (by omega), wI_row (by omega), wI_row (by omega), wI_row (by omega), wI_row (by omega)]
theorem chSum_new {J : Nat → Nat → Int64} {nt : Nat} {x : Int32} : ∀ n, n < 1000 → chSum (talkJ J nt) (nt + 1) x n = chSum J nt x n := by
  intro n
  induction n with
  | zero => intro _; rfl
  | succ n ih =>
    intro hn
    rw [chSum, chSum, ih (by omega), clamp_c (by omega)]
    rcases Nat.lt_trichotomy n nt with z | z | z
    · rw [if_pos (by omega), if_pos z, chF_eq (J := J) (funext fun k => by rw [talkJ, if_neg (by omega)])]
    · rw [if_pos (by omega), if_neg (by omega)]
      have : chF (talkJ J nt) (80 + 4 * n) x = 0 := by
        unfold chF
        split
        · rw [talkJ, if_pos (by omega)]
        · rfl
      rw [this, Int64.add_zero]
    · rw [if_neg (by omega), if_neg (by omega)]
theorem talkJ_row {J : Nat → Nat → Int64} {nt r : Nat} (h : r ≠ 80 + 4 * nt + 3) : talkJ J nt r = J r := funext fun k => by rw [talkJ, if_neg h]
theorem sCal1.qq {q q' : Nat → Nat → Nat} {ns j : Nat} {Ic Im : Nat → Nat → Int32} (h : sCal1 q ns Ic Im j) (e : q' (80 + 4 * j) = q (80 + 4 * j)) : sCal1 q' ns Ic Im j := by
  unfold sCal1 at h ⊢
  rw [e]
  exact h
set_option maxHeartbeats 1000000 in
theorem mid_call {cy : Nat → ClassId} {R : List Nat} {ad : Nat → Nat} {q : Nat → Nat → Nat} {ns nt : Nat} {I : Nat → Nat → Int32} {J : Nat → Nat → Int64} (h : SR q ns nt I J I J) (hX : k_RX R ns nt) {a b : Int32} {r : Int32} {u' : k_S} (hp : (∃ (v : Int32) (u : k_S), (callT I J q ns nt a b = 0 ∧ v = nI nt ∧ ∃ ad' : Nat → Nat, (∀ y, y ≠ 80 + 4 * nt → y ≠ 80 + 4 * nt + 1 → y ≠ 80 + 4 * nt + 1 + 1 → y ≠ 80 + 4 * nt + 3 → ad' y = ad y) ∧ u = (k_Rt R nt, ad', k_c cy ad' (talkQ q nt a.toNatClampNeg b.toNatClampNeg) ns (nt + 1) (mkCI I J nt a.toNatClampNeg b.toNatClampNeg) (talkJ J nt))) ∧ r = 0 ∧ k_O u v.toInt64 u') ∨ (∃ u : k_S, ((callT I J q ns nt a b = 1 ∧ e_IO = e_IO ∧ u = (R, ad, k_c cy ad q ns nt I J)) ∨ (callT I J q ns nt a b = 2 ∧ e_IO = e_IA ∧ u = (R, ad, k_c cy ad q ns nt I J)) ∨ (callT I J q ns nt a b = 3 ∧ e_IO = e_IS ∧ u = (R, ad, k_c cy ad q ns nt I J)) ∨ (callT I J q ns nt a b = 4 ∧ e_IO = e_IS ∧ u = (R, ad, k_c cy ad q ns nt (callIf I J a.toNatClampNeg b.toNatClampNeg) J))) ∧ r = 1 ∧ u' = u) ∨ (∃ u : k_S, ((callT I J q ns nt a b = 1 ∧ e_IA = e_IO ∧ u = (R, ad, k_c cy ad q ns nt I J)) ∨ (callT I J q ns nt a b = 2 ∧ e_IA = e_IA ∧ u = (R, ad, k_c cy ad q ns nt I J)) ∨ (callT I J q ns nt a b = 3 ∧ e_IA = e_IS ∧ u = (R, ad, k_c cy ad q ns nt I J)) ∨ (callT I J q ns nt a b = 4 ∧ e_IA = e_IS ∧ u = (R, ad, k_c cy ad q ns nt (callIf I J a.toNatClampNeg b.toNatClampNeg) J))) ∧ r = 2 ∧ u' = u) ∨ (∃ u : k_S, ((callT I J q ns nt a b = 1 ∧ e_IS = e_IO ∧ u = (R, ad, k_c cy ad q ns nt I J)) ∨ (callT I J q ns nt a b = 2 ∧ e_IS = e_IA ∧ u = (R, ad, k_c cy ad q ns nt I J)) ∨ (callT I J q ns nt a b = 3 ∧ e_IS = e_IS ∧ u = (R, ad, k_c cy ad q ns nt I J)) ∨ (callT I J q ns nt a b = 4 ∧ e_IS = e_IS ∧ u = (R, ad, k_c cy ad q ns nt (callIf I J a.toNatClampNeg b.toNatClampNeg) J))) ∧ r = 3 ∧ u' = u)) : ∃ (R' : List Nat) (ad' : Nat → Nat) (q' : Nat → Nat → Nat) (nt' : Nat) (I1 : Nat → Nat → Int32) (J1 : Nat → Nat → Int64), u' = (R', ad', k_c cy ad' q' ns nt' I1 J1) ∧ k_RX R' ns nt' ∧ (∀ y, y < 40 → ad' y = ad y) ∧ SR q ns nt I J I1 J1 ∧ ∀ (b9 : Int32) (u9 : k_S), ((¬ mc0 I1 a b = 0 ∧ b9 = 0 ∧ u9 = (R', ad', (k_c cy ad' q' ns nt' (wI I1 13 0 (mc0 I1 a b)) J1))) ∨ (mc0 I1 a b = 0 ∧ (busyM I1 a nt || busyM I1 b nt || !decide (nt < 60)) = true ∧ b9 = 0 ∧ u9 = (R', ad', (k_c cy ad' q' ns nt' (wI I1 13 0 3) J1))) ∨ (mc0 I1 a b = 0 ∧ (busyM I1 a nt || busyM I1 b nt || !decide (nt < 60)) = false ∧ ∃ (x y : Nat) (I2 : Nat → Nat → Int32) (v : Option (List Nat)), x < 5 ∧ y < 5 ∧ homeM I1 a = nI x ∧ homeM I1 b = nI y ∧ FR (wI I1 13 0 0) I2 ∧ Best (sOp I J) (sRt I) x y v ∧ Bst I2 (sRt I) v ∧ ((v = none ∧ b9 = 0 ∧ u9 = (R', ad', (k_c cy ad' q' ns nt' (wI I2 13 0 3) J1))) ∨ (∃ w, v = some w ∧ b9 = nI nt ∧ u9 = (R', ad', (k_c cy ad' q' ns nt' (mMade I2 nt x w.length a b) J1)))))) → ∃ (I2 : Nat → Nat → Int32) (J2 : Nat → Nat → Int64), u9 = (R', ad', k_c cy ad' q' ns nt' I2 J2) ∧ kFin q' ns nt' I2 J2 r b9.toInt64 := by
  have hns := h.hns
  have hT := callT_cases I J q ns nt a b
  rcases hp with ⟨v, u, ⟨ht, rfl, ad', had, rfl⟩, rfl, hO⟩ | ⟨u, hx, rfl, rfl⟩ | ⟨u, hx, rfl, rfl⟩ | ⟨u, hx, rfl, rfl⟩
  · obtain ⟨c1, c2, c3, c4, c5⟩ : (isN ns a && isN ns b) = true ∧ ¬ a = b ∧ (busyC I q nt (40 + 2 * a.toNatClampNeg) 60 || busyC I q nt (40 + 2 * b.toNatClampNeg) 60) = false ∧ nt < 60 ∧ fbB I J (homeF I (40 + 2 * a.toNatClampNeg) 0) (homeF I (40 + 2 * b.toNatClampNeg) 0) = true := by
      rcases hT with ⟨g, -⟩ | ⟨g, -⟩ | ⟨g, -⟩ | ⟨c1, c2, c3, c4, ⟨g, c5⟩ | ⟨g, -⟩⟩
      · omega
      · omega
      · omega
      · exact ⟨c1, c2, c3, c4, c5⟩
      · omega
    obtain ⟨ha, hb⟩ := Bool.and_eq_true_iff.mp c1
    obtain ⟨i, hi, rfl, ei⟩ := isN_of ha
    obtain ⟨j, hj, rfl, ej⟩ := isN_of hb
    rw [ei, ej] at hO c3 c5
    obtain ⟨hmi, x, hx, hfx⟩ := homeM_c h hi
    obtain ⟨hmj, y, hy, hfy⟩ := homeM_c h hj
    rw [hfx, hfy] at c5
    obtain ⟨v', b1, b2, b3⟩ := fb_rep (r := 6) (Or.inl rfl) h.gc hx hy
    rw [c5] at b2
    obtain ⟨w, rfl⟩ := Option.isSome_iff_exists.mp b2.symm
    obtain ⟨k1, k2, k3, k4, k5⟩ := mk_rows (ns := ns) c4 (by omega) hx hy hfx hfy h.gc b1
    have hl := way_len b1.1
    have h1 : SR q ns nt I J (mkCI I J nt i j) (wJ (talkJ J nt) 12 0 (nI nt).toInt64) := h.mod (fun r k g1 g2 _ => by rw [k1 r (by omega) (by omega) (by omega) (by omega) (by omega) (by omega) (by omega)]) (fun r g1 g2 => by rw [wJ_row (by omega)]; exact funext fun k => by rw [talkJ, if_neg (by omega)])
    rw [ei, ej] at *
    refine ⟨_, ad', _, nt + 1, _, _, kO_c hO, RX_talk hX c4, fun y hy => had y (by omega) (by omega) (by omega) (by omega), h1, fun b9 u9 hm => ?_⟩
    have m0 : mc0 (mkCI I J nt i j) (nI i) (nI j) = 0 := by rw [mc0, h1.num, h1.num, if_pos (by rw [ha, hb]; rfl), if_neg c2]
    have mb : (busyM (mkCI I J nt i j) (nI i) nt || busyM (mkCI I J nt i j) (nI j) nt || !decide (nt < 60)) = false := by
      rw [← h1.busy hi, ← h1.busy hj, c3, decide_eq_true c4]
      rfl
    rcases hm with ⟨g, -⟩ | ⟨-, g, -⟩ | ⟨-, -, x', y', I2, v', hx', hy', e1, e2, hF, hB, hv, hm⟩
    · exact absurd m0 g
    · exact absurd (mb.symm.trans g) (by decide)
    rw [(homeM_c h1 hi).1, hfx, nI_eq (by omega) (by omega)] at e1
    rw [(homeM_c h1 hj).1, hfy, nI_eq (by omega) (by omega)] at e2
    subst e1
    subst e2
    have e := best_one hB b1
    subst e
    rcases hm with ⟨e, -⟩ | ⟨w', e, rfl, rfl⟩
    · cases e
    have e' := Option.some.inj e
    subst e'
    obtain ⟨r1, r2, r3, r4, r5, r6, r7, r8, r9, r10, r11, r12, r13⟩ := made_rows (I := I2) (nt := nt) (x := x) (m := w.length) (a := nI i) (b := nI j)
    have fI : ∀ r, r ≠ 13 → r ≠ 34 → r ≠ 35 → I2 r = mkCI I J nt i j r := fun r g1 g2 g3 => funext fun k => by rw [hF r k g2 g3 (fun e => absurd e g1), wI_row g1]
    have all : ∀ r, r ≠ 0 → r ≠ 6 → r ≠ 7 → r ≠ 11 → r ≠ 13 → ¬ (25 ≤ r ∧ r ≤ 29) → ¬ (32 ≤ r ∧ r ≤ 35) → r ≠ 80 + 4 * nt → r ≠ 80 + 4 * nt + 1 → r ≠ 80 + 4 * nt + 1 + 1 → mMade I2 nt x w.length (nI i) (nI j) r = I r := fun r g1 g2 g3 g4 g5 g6 g7 g8 g9 g10 => by rw [r1 r g5 (by omega) (by omega) (by omega) (by omega) (by omega) (by omega) (by omega), fI r g5 (by omega) (by omega), k1 r g1 g2 g3 g4 g8 g9 g10]
    have hmid : ∀ r k, 25 ≤ r → r ≤ 32 → k ≠ nt → mMade I2 nt x w.length (nI i) (nI j) r k = I r k := fun r k g1 g2 g3 => by rw [r2 r k g1 g2 g3, fI r (by omega) (by omega) (by omega), k1 r (by omega) (by omega) (by omega) (by omega) (by omega) (by omega) (by omega)]
    have row0 : mMade I2 nt x w.length (nI i) (nI j) 0 = mkCI I J nt i j 0 := by rw [r1 0 (by omega) (by omega) (by omega) (by omega) (by omega) (by omega) (by omega) (by omega), fI 0 (by omega) (by omega) (by omega)]
    have rowt : ∀ r, 80 ≤ r → mMade I2 nt x w.length (nI i) (nI j) r = mkCI I J nt i j r := fun r g => by rw [r1 r (by omega) (by omega) (by omega) (by omega) (by omega) (by omega) (by omega) (by omega), fI r (by omega) (by omega) (by omega)]
    refine ⟨_, _, rfl, ⟨hns, by omega, by rw [row0, k2 6 (by omega)]; exact h.c6, by rw [row0, k3], by rw [r4, hF 13 8 (by decide) (by decide) (fun _ => by decide), wI_off (by decide)]; exact h1.m8, r3,
      by have := h.tar; unfold sTar at this ⊢; simp (disch := omega) only [all]; exact this,
      by have := h.lnk; unfold sLnk at this ⊢; simp (disch := omega) only [all]; exact this,
      by have := h.zz; unfold sZ at this ⊢; simp (disch := omega) only [all]; exact this,
      fun u v hu hv => by
        have := h.dbt u v hu hv
        simp (disch := omega) only [wJ_row, talkJ_row]
        exact this,
      fun k hk => by
        rw [chSum_eq (J := talkJ J nt) (fun j _ => wJ_row (by omega)), chSum_new 60 (by omega), wJ_row (by omega), talkJ_row (by omega)]
        exact h.chg k hk,
      fun k hk => by have := h.sub k hk; simp (disch := omega) only [all]; exact this,
      fun k hk => ?_, fun k g1 g2 => by
        have := h.new k (by omega) g2
        simp (disch := omega) only [hmid]
        exact this⟩, r5, fun _ => wJ_at⟩
    by_cases e8 : k = nt
    · subst e8
      obtain ⟨t1, t2, n, t3, t4, t5⟩ := h.tar x hx
      have hnew := h.new k (Nat.le_refl _) c4
      have a14 : I2 14 x = I 1 x := by rw [fI 14 (by omega) (by omega) (by omega), k1 14 (by omega) (by omega) (by omega) (by omega) (by omega) (by omega) (by omega), t1]
      have a15 : I2 15 x = I 2 x := by rw [fI 15 (by omega) (by omega) (by omega), k1 15 (by omega) (by omega) (by omega) (by omega) (by omega) (by omega) (by omega), t2]
      have a30 : ∀ r, r = 30 ∨ r = 31 → mMade I2 k x w.length (nI i) (nI j) r k = I r k := fun r hr => by rw [r1 r (by omega) (by omega) (by omega) (by omega) (by omega) (by omega) (by omega) (by omega), fI r (by omega) (by omega) (by omega), k1 r (by omega) (by omega) (by omega) (by omega) (by omega) (by omega) (by omega)]
      have q0 : talkQ q k i j (80 + 4 * k) 0 = i := by rw [talkQ, if_pos rfl, if_pos rfl]
      have q1 : talkQ q k i j (80 + 4 * k) 1 = j := by rw [talkQ, if_pos rfl, if_neg (by omega)]
      unfold sCal1
      rw [q0, q1, rowt (80 + 4 * k) (by omega), k4, r6, r7, r8, r9, r10, r11, a14, a15, a30 30 (Or.inl rfl), a30 31 (Or.inr rfl), hnew.1, hnew.2]
      refine ⟨⟨⟨hi, hj⟩, rfl, rfl⟩, ⟨n, t3, t4, t5⟩, rfl, rfl, rfl, rfl, rfl, w, ⟨hl.1, hl.2, b1.1.1.2.2.1⟩, k5.row (rowt _ (by omega)) (rowt _ (by omega)), hv.1, fun m hm => ?_⟩
      rw [r12 m hm]
      exact hv.2.2 m hm
    · refine ((h.cal k (by omega)).qq (q' := talkQ q nt i j) (funext fun z => by rw [talkQ, if_neg (by omega)])).eq (fun r hr => all r (by omega) (by omega) (by omega) (by omega) (by omega) (by omega) (by omega) (by omega) (by omega) (by omega)) (fun r g1 g2 => hmid r k g1 g2 e8) (fun m hm => ?_)
      rw [r13 _ (by omega), fI 33 (by omega) (by omega) (by omega), k1 33 (by omega) (by omega) (by omega) (by omega) (by omega) (by omega) (by omega)]
  · have hx : callT I J q ns nt a b = 1 ∧ u' = (R, ad, k_c cy ad q ns nt I J) := by
      rcases hx with ⟨g, -, e⟩ | ⟨-, e, -⟩ | ⟨-, e, -⟩ | ⟨-, e, -⟩
      · exact ⟨g, e⟩
      · exact absurd e e_IOIA
      · exact absurd e e_IOIS
      · exact absurd e e_IOIS
    obtain ⟨ht, rfl⟩ := hx
    have c1 : (isN ns a && isN ns b) = false := by
      rcases hT with ⟨g, c1⟩ | ⟨g, -⟩ | ⟨g, -⟩ | ⟨-, -, -, -, ⟨g, -⟩ | ⟨g, -⟩⟩
      · exact c1
      all_goals omega
    refine ⟨R, ad, q, nt, I, J, rfl, hX, fun _ _ => rfl, h, fun b9 u9 hm => ?_⟩
    have m0 : mc0 I a b = 1 := by rw [mc0, h.num, h.num, if_neg (by rw [c1]; exact Bool.false_ne_true)]
    have m1 : ¬ mc0 I a b = 0 := by rw [m0]; decide
    rcases hm with ⟨-, rfl, rfl⟩ | ⟨g, -⟩ | ⟨g, -⟩
    · exact ⟨_, _, rfl, by rw [m0]; exact fin_th h (by decide)⟩
    · exact absurd g m1
    · exact absurd g m1
  · have hx : callT I J q ns nt a b = 2 ∧ u' = (R, ad, k_c cy ad q ns nt I J) := by
      rcases hx with ⟨-, e, -⟩ | ⟨g, -, e⟩ | ⟨-, e, -⟩ | ⟨-, e, -⟩
      · exact absurd e.symm e_IOIA
      · exact ⟨g, e⟩
      · exact absurd e e_IAIS
      · exact absurd e e_IAIS
    obtain ⟨ht, rfl⟩ := hx
    obtain ⟨c1, c2⟩ : (isN ns a && isN ns b) = true ∧ a = b := by
      rcases hT with ⟨g, -⟩ | ⟨g, c⟩ | ⟨g, -⟩ | ⟨-, -, -, -, ⟨g, -⟩ | ⟨g, -⟩⟩
      · omega
      · exact c
      all_goals omega
    refine ⟨R, ad, q, nt, I, J, rfl, hX, fun _ _ => rfl, h, fun b9 u9 hm => ?_⟩
    have m0 : mc0 I a b = 2 := by rw [mc0, h.num, h.num, if_pos c1, if_pos c2]
    have m1 : ¬ mc0 I a b = 0 := by rw [m0]; decide
    rcases hm with ⟨-, rfl, rfl⟩ | ⟨g, -⟩ | ⟨g, -⟩
    · exact ⟨_, _, rfl, by rw [m0]; exact fin_th h (by decide)⟩
    · exact absurd g m1
    · exact absurd g m1
  · have hx : (callT I J q ns nt a b = 3 ∧ u' = (R, ad, k_c cy ad q ns nt I J)) ∨ (callT I J q ns nt a b = 4 ∧ u' = (R, ad, k_c cy ad q ns nt (callIf I J a.toNatClampNeg b.toNatClampNeg) J)) := by
      rcases hx with ⟨-, e, -⟩ | ⟨-, e, -⟩ | ⟨g, -, e⟩ | ⟨g, -, e⟩
      · exact absurd e.symm e_IOIS
      · exact absurd e.symm e_IAIS
      · exact Or.inl ⟨g, e⟩
      · exact Or.inr ⟨g, e⟩
    rcases hx with ⟨ht, rfl⟩ | ⟨ht, rfl⟩
    · obtain ⟨c1, c2, c3⟩ : (isN ns a && isN ns b) = true ∧ ¬ a = b ∧ ((busyC I q nt (40 + 2 * a.toNatClampNeg) 60 || busyC I q nt (40 + 2 * b.toNatClampNeg) 60) = true ∨ ¬ nt < 60) := by
        rcases hT with ⟨g, -⟩ | ⟨g, -⟩ | ⟨g, c⟩ | ⟨-, -, -, -, ⟨g, -⟩ | ⟨g, -⟩⟩
        · omega
        · omega
        · exact c
        all_goals omega
      refine ⟨R, ad, q, nt, I, J, rfl, hX, fun _ _ => rfl, h, fun b9 u9 hm => ?_⟩
      obtain ⟨ha, hb⟩ := Bool.and_eq_true_iff.mp c1
      obtain ⟨i, hi, rfl, ei⟩ := isN_of ha
      obtain ⟨j, hj, rfl, ej⟩ := isN_of hb
      rw [ei, ej, h.busy hi, h.busy hj] at c3
      have m0 : mc0 I (nI i) (nI j) = 0 := by rw [mc0, h.num, h.num, if_pos c1, if_neg c2]
      have mb : (busyM I (nI i) nt || busyM I (nI j) nt || !decide (nt < 60)) = true := by
        rcases c3 with c3 | c3
        · rw [c3]; rfl
        · rw [decide_eq_false c3, Bool.not_false, Bool.or_true]
      rcases hm with ⟨g, -⟩ | ⟨-, -, rfl, rfl⟩ | ⟨-, g, -⟩
      · exact absurd m0 g
      · exact ⟨_, _, rfl, fin_th h (by decide)⟩
      · exact absurd (mb.symm.trans g) (by decide)
    · obtain ⟨c1, c2, c3, c4, c5⟩ : (isN ns a && isN ns b) = true ∧ ¬ a = b ∧ (busyC I q nt (40 + 2 * a.toNatClampNeg) 60 || busyC I q nt (40 + 2 * b.toNatClampNeg) 60) = false ∧ nt < 60 ∧ fbB I J (homeF I (40 + 2 * a.toNatClampNeg) 0) (homeF I (40 + 2 * b.toNatClampNeg) 0) = false := by
        rcases hT with ⟨g, -⟩ | ⟨g, -⟩ | ⟨g, -⟩ | ⟨c1, c2, c3, c4, ⟨g, -⟩ | ⟨g, c5⟩⟩
        · omega
        · omega
        · omega
        · omega
        · exact ⟨c1, c2, c3, c4, c5⟩
      obtain ⟨ha, hb⟩ := Bool.and_eq_true_iff.mp c1
      obtain ⟨i, hi, rfl, ei⟩ := isN_of ha
      obtain ⟨j, hj, rfl, ej⟩ := isN_of hb
      rw [ei, ej] at c3 c5 ⊢
      obtain ⟨hmi, x, hx, hfx⟩ := homeM_c h hi
      obtain ⟨hmj, y, hy, hfy⟩ := homeM_c h hj
      rw [hfx, hfy] at c5
      have h1 : SR q ns nt I J (callIf I J i j) J := h.fb _ _ (fun _ _ => rfl)
      refine ⟨R, ad, q, nt, _, J, rfl, hX, fun _ _ => rfl, h1, fun b9 u9 hm => ?_⟩
      have m0 : mc0 (callIf I J i j) (nI i) (nI j) = 0 := by rw [mc0, h1.num, h1.num, if_pos (by rw [ha, hb]; rfl), if_neg c2]
      have mb : (busyM (callIf I J i j) (nI i) nt || busyM (callIf I J i j) (nI j) nt || !decide (nt < 60)) = false := by
        rw [← h1.busy hi, ← h1.busy hj, c3, decide_eq_true c4]
        rfl
      rcases hm with ⟨g, -⟩ | ⟨-, g, -⟩ | ⟨-, -, x', y', I2, v', hx', hy', e1, e2, hF, hB, hv, hm⟩
      · exact absurd m0 g
      · exact absurd (mb.symm.trans g) (by decide)
      rw [(homeM_c h1 hi).1, hfx, nI_eq (by omega) (by omega)] at e1
      rw [(homeM_c h1 hj).1, hfy, nI_eq (by omega) (by omega)] at e2
      subst e1
      subst e2
      obtain ⟨v2, b1, b2, b3⟩ := fb_rep (r := 6) (Or.inl rfl) h.gc hx hy
      have e := best_one hB b1
      subst e
      rcases hm with ⟨-, rfl, rfl⟩ | ⟨w, rfl, -, -⟩
      · have hS := h.fin (Or.inr rfl) hF (J' := J) (fun _ _ => rfl)
        exact ⟨_, _, rfl, fin_th hS (by decide)⟩
      · rw [c5] at b2
        cases b2
end MIDS3
