/-! What the class answers, as the law's cells have it. -/
section READS
theorem cmp_self {x y : Int64} (h : x = y) : lg_cmp x y = 0 := by
  subst h
  unfold lg_cmp
  rw [if_neg (fun h => absurd h (Int64.lt_irrefl)), if_pos rfl]
def scrE (I1 I : Nat → Nat → Int32) : Prop := ∀ r, r ≠ 6 → r ≠ 7 → r ≠ 11 → I1 r = I r
theorem scrE.rf (I : Nat → Nat → Int32) : scrE I I := fun _ _ _ _ => rfl
theorem scrE.fb {I1 I : Nat → Nat → Int32} (h : scrE I1 I) (J : Nat → Nat → Int64) (a b : Int32) : scrE (fbI I1 J a b 6) I := fun r h1 h2 h3 => by
  rw [← h r h1 h2 h3]
  exact funext fun k => fb_other h3 h1 h2
variable {q : Nat → Nat → Nat} {ns nt T : Nat} {I I1 : Nat → Nat → Int32} {J : Nat → Nat → Int64} {op : Nat → Nat → Bool} {rt : Nat → Nat → Nat}
theorem SR.scr (h : SR q ns nt T I J I J) (e : scrE I1 I) : SR q ns nt T I1 J I1 J :=
  h.same (fun r _ h1 h2 h3 => e r h1 h2 h3) (fun r h1 h2 => e r (by omega) (by omega) (by omega)) (fun _ _ => rfl) (fun _ _ _ => rfl)
theorem GC.scr (h : GC I J op rt) (e : scrE I1 I) : GC I1 J op rt := h.eq (e 8 (by omega) (by omega) (by omega)) (e 9 (by omega) (by omega) (by omega))
theorem GL.scr (h : GL I J op rt) (e : scrE I1 I) : GL I1 J op rt := by
  intro x y hx hy
  have := h x y hx hy
  unfold shutL at this ⊢
  rw [e 12 (by omega) (by omega) (by omega)]
  exact this
theorem home_n {I : Nat → Nat → Int32} {r h : Nat} (h1 : 1 ≤ h) (h2 : h ≤ 10) (e : I r 1 = nI h) : homeF I r 0 = I (r + 1) (h - 1) := by
  have a1 : decide ((0 : Int32) < 0) = false := by decide
  have a2 : decide (nI h ≤ 0) = false := decide_eq_false_iff_not.mpr (nI_nle (by omega) (by omega))
  have a3 : decide (10 < nI h) = false := decide_eq_false_iff_not.mpr (fun hc => by
    have hc2 : nI 10 < nI h := hc
    rw [nI_ltI (by omega) (by omega)] at hc2
    omega)
  rw [homeF, e, a1, a2, a3, if_pos (by decide), Int32.sub_zero, nI_m1 h1, nI_clamp (by omega)]
theorem home_no {I : Nat → Nat → Int32} {r h : Nat} (e : I r 1 = nI h) : homeF I r (nI h) = -1 := by
  have a2 : decide (nI h ≤ nI h) = true := decide_eq_true (Int32.le_refl _)
  rw [homeF, e, a2, if_neg (by simp)]
theorem rd_home0 {i : Nat} (h : sSub1 I I T i) : homeF I (40 + 2 * i) 0 = I 16 (4 * i) ∧ ¬ homeF I (40 + 2 * i) 0 = -1 := by
  obtain ⟨⟨n, h1, h2, h3, h4, h5, h6⟩, -⟩ := h
  obtain ⟨c, hc, ec⟩ := h5 (n - 1) (by omega)
  rw [home_n h1 h2 h3, h6, ec]
  exact ⟨rfl, nI_m1ne (by omega)⟩
theorem rd_homeN {i : Nat} (h : sSub1 I I T i) : homeF I (40 + 2 * i) (I 16 (4 * i + 3)) = -1 := by
  obtain ⟨⟨n, h1, h2, h3, h4, h5, h6⟩, -⟩ := h
  rw [h4]
  exact home_no h3
theorem rou_no {r : Nat} {pp : List Nat} (h : Rou I r pp) (hl : pp.length ≤ 5) : carAt I r (nI pp.length) = -1 := by
  have a2 : decide (nI pp.length ≤ nI pp.length) = true := decide_eq_true (Int32.le_refl _)
  rw [carAt, isPl, h.1, a2, if_neg (by simp)]
theorem car_2 {x y : Nat} (hx : x < 5) (hy : y < 5) : (isCar (nI x) && isCar (nI y)) = true := by rw [car_of hx, car_of hy]; rfl
theorem rd_debt (h : SR q ns nt T I J I J) {x y : Nat} (hx : x < 5) (hy : y < 5) : debtF J (nI x) (nI y) = J 14 (5 * x + y) := by rw [debt_c hx hy, h.dbt.1 _ (by omega)]
theorem rd_debt2 (h : SR q ns nt T I J I J) {x y : Nat} (hx : x < 5) (hy : y < 5) : debtF J (nI y) (nI x) = -(J 14 (5 * x + y)) := by rw [debt_c hy hx, h.dbt.1 _ (by omega), h.dbt.2.1 x y hx hy]
theorem rd_chg (h : SR q ns nt T I J I J) {x y : Nat} (hx : x < 5) (hy : y < 5) : chSum J nt (pairI (nI x) (nI y)) 60 = J 13 (5 * x + y) := by rw [pair_c hx hy, h.chg _ (by omega)]
theorem rd_bar (hc : GC I J op rt) (hg : GL I J op rt) {x y : Nat} (hx : x < 5) (hy : y < 5) : k_b (!openF I J (nI x) (nI y)) = k_b (shutL I J x y) := by rw [(hc x y hx hy).1, (hg x y hx hy).1]
theorem costL_cst (hg : GL I J op rt) {pp : List Nat} (h5 : ∀ y ∈ pp, y < 5) (hc : chn op pp) : ∀ k, k ≤ pp.length → costL I pp k = nI (cst rt (pp.take k)) := by
  intro k
  induction k with
  | zero => intro _; rfl
  | succ k ih =>
    intro hk
    rw [costL]
    by_cases e : k = 0
    · subst e
      rw [if_pos rfl, take_snoc (by omega)]
      rfl
    · obtain ⟨m, rfl⟩ : ∃ m, k = m + 1 := ⟨k - 1, by omega⟩
      rw [if_neg e, ih (by omega), Nat.add_sub_cancel, take_snoc (k := m + 1) (by omega), take_snoc (k := m) (by omega), cst_snoc, ((hg _ _ (h5 _ (getD_mem (by omega))) (h5 _ (getD_mem (by omega)))).2 (chn_at pp m hc (by omega))).1, nI_add]
theorem rd_cost1 {a b : Nat} (hc : GC I J op rt) (hg : GL I1 J op rt) (ha : a < 5) (hb : b < 5) {w : List Nat} (hv : Best op rt a b (some w)) : costL I1 w w.length = costC I J (nI a) (nI b) := by
  rw [cost_one hc ha hb hv, costL_cst hg hv.1.1.2.2.1 hv.1.1.2.2.2 _ (Nat.le_refl _), List.take_length]
theorem rd_best0 {a b : Nat} (hc : GC I J op rt) (ha : a < 5) (hb : b < 5) (hv : Best op rt a b none) (x : Int32) : bestC I J (nI a) (nI b) x = -1 := by
  obtain ⟨v', h1, h2, h3⟩ := fb_rep (r := 6) (Or.inl rfl) hc ha hb
  have e := best_one h1 hv
  subst e
  rw [bestC, h2]
  rfl
theorem rd_best1 {a b : Nat} (hc : GC I J op rt) (ha : a < 5) (hb : b < 5) {w : List Nat} (hv : Best op rt a b (some w)) {k : Nat} (hk : k < w.length) : bestC I J (nI a) (nI b) (nI k) = nI (List.getD w k 0) ∧ ¬ bestC I J (nI a) (nI b) (nI k) = -1 := by
  obtain ⟨v', h1, h2, h3⟩ := fb_rep (r := 6) (Or.inl rfl) hc ha hb
  have e := best_one h1 hv
  subst e
  have hR := h3 w rfl
  have e2 : bestC I J (nI a) (nI b) (nI k) = nI (List.getD w k 0) := by
    rw [bestC, h2, Option.isSome_some, if_pos rfl]
    exact rou_at hR (way_len hv.1).2 hk
  rw [e2]
  exact ⟨rfl, nI_m1ne (by have := pD_lt (p := w) (k := k) hv.1.1.2.2.1; omega)⟩
theorem way_hd {a b : Nat} {w : List Nat} (h : Way op a b w) : List.getD w 0 0 = a := by
  have h1 := h.1.1
  cases w with
  | nil => simp at h1
  | cons x xs => simpa using h1
/-- the law's position -/
def posL (J : Nat → Nat → Int64) (f : Nat) : Nat → Int64
  | 0 => 0
  | k + 1 => posL J f k - J 14 (5 * f + k)
theorem rd_pos (h : SR q ns nt T I J I J) {f : Nat} (hf : f < 5) : ∀ k, k ≤ 5 → posF J (nI f) k = posL J f k := by
  intro k
  induction k with
  | zero => intro _; rfl
  | succ k ih =>
    intro hk
    rw [posF, posL, ih (by omega), rd_debt2 h hf (by omega)]
    grind
end READS
