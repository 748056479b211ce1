section GO
variable {op : Nat → Nat → Bool} {rt : Nat → Nat → Nat} {b : Nat} {I : Nat → Nat → Int32} {J : Nat → Nat → Int64}
/-- a route's cells are the row p -/
def Rou (I : Nat → Nat → Int32) (r : Nat) (p : List Nat) : Prop := I r 1 = nI p.length ∧ ∀ i, i < p.length → I (r + 1) i = nI (p.getD i 0)
theorem add_eq {r n : Nat} {x : Int32} (h : I r 1 = nI n) (hn : n < 5) : addRI I r x = wI (wI I (r + 1) n x) r 1 (nI (n + 1)) := by
  have h1 : (!decide (I r 1 < 0) && !decide (5 ≤ I r 1)) = true := by
    rw [h]
    simp only [Bool.and_eq_true, Bool.not_eq_true', decide_eq_false_iff_not]
    refine ⟨nI_pos (by omega), fun hc => ?_⟩
    have hc2 : nI 5 ≤ nI n := hc
    rw [nI_leI (by omega) (by omega)] at hc2
    omega
  have h2 : wI I (r + 1) (I r 1).toNatClampNeg x r 1 = nI n := by rw [wI_eq, if_neg (by omega), h]
  rw [addRI, if_pos h1, h2, h, nI_clamp (by omega), nI_1]
/-- there is a greedy row from a carrier that has a way -/
theorem grd_ex (hg : GC I J op rt) (hW : RepW I (Wf op rt b)) (hb : b < 5) : ∀ (m x : Nat), Wf op rt b x ≤ m → x < 5 → Wf op rt b x < 1000000 → ∃ z, Grd op rt b (x :: z) ∧ ∀ y ∈ z, y < 5 := by
  intro m
  induction m with
  | zero =>
    intro x h hx _
    exact ⟨[], Wf_zero (op := op) (rt := rt) hb hx (by omega), by simp⟩
  | succ m ih =>
    intro x h hx hw
    by_cases e : x = b
    · exact ⟨[], e, by simp⟩
    · obtain ⟨n, h1, -, h2, h3, h4⟩ := next_rep hg hW hb hx e hw
      obtain ⟨z, g1, g2⟩ := ih n (by omega) h1 (by omega)
      refine ⟨n :: z, ⟨e, ⟨h2, h3, h4⟩, g1⟩, ?_⟩
      intro y hy
      rcases List.mem_cons.mp hy with rfl | hy
      · exact h1
      · exact g2 y hy
theorem grd_at : ∀ (p : List Nat) (j : Nat), Grd op rt b p → j + 1 < p.length → p.getD j 0 ≠ b ∧ (op (p.getD j 0) (p.getD (j + 1) 0) = true ∧ Wf op rt b (p.getD (j + 1) 0) + rt (p.getD j 0) (p.getD (j + 1) 0) * 8 + 1 = Wf op rt b (p.getD j 0) ∧ ∀ m, m < p.getD (j + 1) 0 → ¬ (op (p.getD j 0) m = true ∧ Wf op rt b m + rt (p.getD j 0) m * 8 + 1 = Wf op rt b (p.getD j 0)))
  | [], j, _, h => by simp at h
  | [x], j, _, h => by simp at h
  | x :: y :: zs, 0, g, _ => ⟨g.1, g.2.1⟩
  | x :: y :: zs, j + 1, g, h => by
    have := grd_at (y :: zs) j g.2.2 (by simpa using h)
    simpa using this
theorem grd_end : ∀ (p : List Nat), Grd op rt b p → p.getD (p.length - 1) 0 = b
  | [], g => absurd g (fun h => h)
  | [x], g => g
  | x :: y :: zs, g => by
    have := grd_end (y :: zs) g.2.2
    simpa using this
theorem RepW.eq {W : Nat → Nat} {I' : Nat → Nat → Int32} (h : RepW I W) (e : I' 11 = I 11) : RepW I' W := by
  intro x hx
  rw [e]
  exact h x hx
/-- step by step the route's cells are the greedy row -/
theorem go_rep {r a : Nat} (hr : r = 6 ∨ 80 ≤ r) (hg : GC I J op rt) (hW : RepW I (Wf op rt b)) (hb : b < 5) {p : List Nat} (hp : p.getD 0 0 = a) (h5 : ∀ y ∈ p, y < 5) (hl : p.length ≤ 5) (hn : p ≠ []) (g : Grd op rt b p) (hfin : ∀ y ∈ p, Wf op rt b y < 1000000) :
    ∀ j, j < p.length → (goF I J r (nI a) (nI b) j).1 = nI (p.getD j 0) ∧ (goF I J r (nI a) (nI b) j).2 r 1 = nI (j + 1) ∧ ∀ i, i ≤ j → (goF I J r (nI a) (nI b) j).2 (r + 1) i = nI (p.getD i 0) := by
  have hin : ∀ j, j < p.length → p.getD j 0 ∈ p := fun j hj => by
    rw [List.getD_eq_getElem?_getD, List.getElem?_eq_getElem hj]
    exact List.getElem_mem hj
  intro j
  induction j with
  | zero =>
    intro _
    rw [go_0, add_eq (n := 0) (by rw [wI_eq, if_pos ⟨rfl, rfl⟩]; rfl) (by omega)]
    show nI a = _ ∧ wI (wI (wI I r 1 0) (r + 1) 0 (nI a)) r 1 (nI (0 + 1)) r 1 = _ ∧ ∀ i, i ≤ 0 → wI (wI (wI I r 1 0) (r + 1) 0 (nI a)) r 1 (nI (0 + 1)) (r + 1) i = _
    refine ⟨by rw [hp], by rw [wI_eq, if_pos ⟨rfl, rfl⟩], fun i hi => ?_⟩
    have e : i = 0 := by omega
    subst e
    rw [wI_eq, if_neg (by omega), wI_eq, if_pos ⟨rfl, rfl⟩, hp]
  | succ j ih =>
    intro hj
    obtain ⟨h1, h2, h3⟩ := ih (by omega)
    obtain ⟨k0, k1, k2, k3⟩ := grd_at p j g hj
    have hx := h5 _ (hin j (by omega))
    have hy := h5 _ (hin (j + 1) hj)
    have hstep : ¬ (goF I J r (nI a) (nI b) j).1 = nI b := by
      rw [h1, nI_eq (by omega) (by omega)]
      exact k0
    have hrow : ∀ r', r' ≠ r → r' ≠ r + 1 → (goF I J r (nI a) (nI b) j).2 r' = I r' := fun r' e1 e2 => funext fun k => go_other e1 e2 j
    have hg2 : GC (goF I J r (nI a) (nI b) j).2 J op rt := hg.eq (hrow 8 (by omega) (by omega)) (hrow 9 (by omega) (by omega))
    have hW2 : RepW (goF I J r (nI a) (nI b) j).2 (Wf op rt b) := hW.eq (hrow 11 (by omega) (by omega))
    obtain ⟨n, n1, n2, n3, n4, n5⟩ := next_rep hg2 hW2 hb hx k0 (hfin _ (hin j (by omega)))
    have en : n = p.getD (j + 1) 0 := by
      rcases Nat.lt_trichotomy n (p.getD (j + 1) 0) with z | z | z
      · exact absurd ⟨n3, n4⟩ (k3 n z)
      · exact z
      · exact absurd ⟨k1, k2⟩ (n5 _ z)
    rw [goF, if_neg hstep]
    show nextF _ J _ = _ ∧ addRI _ r _ r 1 = _ ∧ ∀ i, i ≤ j + 1 → addRI _ r _ (r + 1) i = _
    rw [h1, n2, en, add_eq h2 (by omega)]
    refine ⟨rfl, by rw [wI_eq, if_pos ⟨rfl, rfl⟩], fun i hi => ?_⟩
    rw [wI_eq, if_neg (by omega), wI_eq]
    by_cases e : i = j + 1
    · rw [if_pos ⟨rfl, e⟩, e]
    · rw [if_neg (by omega)]
      exact h3 i (by omega)
theorem fb_rep {r a : Nat} (hr : r = 6 ∨ 80 ≤ r) (hg : GC I J op rt) (ha : a < 5) (hb : b < 5) :
    ∃ v, Best op rt a b v ∧ fbB I J (nI a) (nI b) = v.isSome ∧ ∀ w, v = some w → Rou (fbI I J (nI a) (nI b) r) r w := by
  obtain ⟨hW, hg2⟩ := weigh_rep hg hb
  have hwa := hW a ha
  have hc : (isCar (nI a) && isCar (nI b)) = true := by rw [car_of ha, car_of hb]; rfl
  have hca : (nI a).toNatClampNeg = a := nI_clamp (by omega)
  have hlt : (weighI I J (nI b) 11 a < 1000000) ↔ Wf op rt b a < 1000000 := by
    rw [hwa.1]
    show nI _ < nI 1000000 ↔ _
    exact nI_ltI (by omega) (by omega)
  by_cases h : Wf op rt b a < 1000000
  · obtain ⟨z, g1, g2⟩ := grd_ex hg2 hW hb (Wf op rt b a) a (Nat.le_refl _) ha h
    have h5 : ∀ y ∈ a :: z, y < 5 := fun y hy => by
      rcases List.mem_cons.mp hy with rfl | hy
      · exact ha
      · exact g2 y hy
    have hB := grd_best (rt := rt) hb ha rfl h5 g1
    have hl := way_len hB.1
    have hd := grd_dec _ a z rfl g1
    have hfin : ∀ y ∈ a :: z, Wf op rt b y < 1000000 := fun y hy => by
      rcases List.mem_cons.mp hy with rfl | hy
      · exact h
      · have := hd y hy; omega
    have H := go_rep (r := r) hr hg2 hW hb (a := a) rfl h5 hl.2 (by simp) g1 hfin ((a :: z).length - 1) (by omega)
    have hend := grd_end _ g1
    have hst : goF (weighI I J (nI b)) J r (nI a) (nI b) 4 = goF (weighI I J (nI b)) J r (nI a) (nI b) ((a :: z).length - 1) := go_stay (by rw [H.1, hend]) 4 (by omega)
    refine ⟨some (a :: z), hB, ?_, fun w hw => ?_⟩
    · rw [fbB, hc, hca, Bool.true_and, Option.isSome_some, decide_eq_true_eq]
      exact hlt.mpr h
    · have ew : a :: z = w := Option.some.inj hw
      have e5 := hlt.mpr h
      have e6 : fbI I J (nI a) (nI b) r = (goF (weighI I J (nI b)) J r (nI a) (nI b) ((a :: z).length - 1)).2 := by rw [fbI, if_pos hc, hca, if_pos e5, hst]
      rw [← ew, e6]
      exact ⟨H.2.1, fun i hi => H.2.2 i (by omega)⟩
  · refine ⟨none, none_best (rt := rt) hb ha (fun x y hx hy ho => ((hg x y hx hy).2 ho).2) h, ?_, fun w hw => by cases hw⟩
    rw [fbB, hc, hca, Bool.true_and, Option.isSome_none, decide_eq_false_iff_not]
    exact fun h9 => h (hlt.mp h9)
theorem rou_at {r k : Nat} {p : List Nat} (h : Rou I r p) (hl : p.length ≤ 5) (hk : k < p.length) : carAt I r (nI k) = nI (p.getD k 0) := by
  have h1 : isPl (I r 1) (nI k) = true := by
    rw [h.1]
    simp only [isPl, Bool.and_eq_true, Bool.not_eq_true', decide_eq_false_iff_not]
    refine ⟨⟨nI_pos (by omega), fun hc => ?_⟩, fun hc => ?_⟩
    · rw [nI_leI (by omega) (by omega)] at hc; omega
    · have hc2 : nI 5 ≤ nI k := hc
      rw [nI_leI (by omega) (by omega)] at hc2; omega
  rw [carAt, if_pos h1, nI_clamp (by omega)]
  exact h.2 k hk
theorem take_snoc {p : List Nat} {k : Nat} (hk : k < p.length) : p.take (k + 1) = p.take k ++ [p.getD k 0] := by
  rw [List.take_add_one, List.getD_eq_getElem?_getD, List.getElem?_eq_getElem hk]
  rfl
theorem chn_at : ∀ (p : List Nat) (k : Nat), chn op p → k + 1 < p.length → op (p.getD k 0) (p.getD (k + 1) 0) = true
  | [], k, _, h => by simp at h
  | [x], k, _, h => by simp at h
  | x :: y :: zs, 0, g, _ => g.1
  | x :: y :: zs, k + 1, g, h => by
    have := chn_at (y :: zs) k g.2 (by simpa using h)
    simpa using this
theorem getD_mem {p : List Nat} {j : Nat} (hj : j < p.length) : p.getD j 0 ∈ p := by
  rw [List.getD_eq_getElem?_getD, List.getElem?_eq_getElem hj]
  exact List.getElem_mem hj
theorem rou_cost {r : Nat} {p : List Nat} (hg : GC I J op rt) (h : Rou I r p) (hl : p.length ≤ 5) (h5 : ∀ y ∈ p, y < 5) (hc : chn op p) : ∀ k, k ≤ p.length → costF I r k = nI (cst rt (p.take k)) := by
  intro k
  induction k with
  | zero => intro _; rfl
  | succ k ih =>
    intro hk
    rw [costF]
    by_cases e : k = 0
    · subst e
      rw [if_pos rfl, take_snoc (by omega)]
      rfl
    · obtain ⟨m, rfl⟩ : ∃ m, k = m + 1 := ⟨k - 1, by omega⟩
      rw [if_neg e, ih (by omega), nI_p1, rou_at h hl (by omega), rou_at h hl (by omega), take_snoc (k := m + 1) (by omega), take_snoc (k := m) (by omega), cst_snoc, ((hg _ _ (h5 _ (getD_mem (by omega))) (h5 _ (getD_mem (by omega)))).2 (chn_at p m hc (by omega))).1, nI_add]
theorem cost_one {a : Nat} (hg : GC I J op rt) (ha : a < 5) (hb : b < 5) {v : Option (List Nat)} (hv : Best op rt a b v) : costC I J (nI a) (nI b) = (match v with | none => -1 | some w => nI (cst rt w)) := by
  obtain ⟨v', h1, h2, h3⟩ := fb_rep (r := 6) (Or.inl rfl) hg ha hb
  have e := best_one h1 hv
  subst e
  rw [costC, h2]
  cases v' with
  | none => rfl
  | some w =>
    have hR := h3 w rfl
    have hl := way_len h1.1
    have hg2 : GC (fbI I J (nI a) (nI b) 6) J op rt := hg.eq (funext fun k => fb_other (by decide) (by decide) (by decide)) (funext fun k => fb_other (by decide) (by decide) (by decide))
    rw [Option.isSome_some, if_pos rfl, hR.1, nI_clamp (by omega), rou_cost hg2 hR hl.2 h1.1.1.2.2.1 h1.1.1.2.2.2 _ (Nat.le_refl _), List.take_length]
theorem carAt_no {r : Nat} {p : List Nat} {x : Int32} (h : Rou I r p) (hl : 1 ≤ p.length ∧ p.length ≤ 5) : isPl (I r 1) x = isWi x 0 (nI p.length - 1) := by
  rw [h.1, nI_m1 hl.1]
  simp only [isPl, isWi]
  by_cases h0 : x < 0
  · simp [h0]
  · obtain ⟨k, hk, rfl⟩ := nI_of h0
    have e1 : decide (nI p.length ≤ nI k) = decide (nI (p.length - 1) < nI k) := by
      rw [decide_eq_decide, nI_leI (by omega) (by omega), nI_ltI (by omega) (by omega)]
      omega
    have e2 : decide (nI p.length ≤ nI k) = false → decide ((5 : Int32) ≤ nI k) = false := by
      intro h9
      rw [decide_eq_false_iff_not] at h9 ⊢
      intro hc
      have hc2 : nI 5 ≤ nI k := hc
      rw [nI_leI (by omega) (by omega)] at h9 hc2
      omega
    cases e3 : decide (nI p.length ≤ nI k) with
    | true => rw [← e1, e3]; simp
    | false => rw [← e1, e3, e2 e3]; simp
end GO
