section SEARCH2
variable {op : Nat → Nat → Bool} {rt : Nat → Nat → Nat} {a b : Nat} {I I' : Nat → Nat → Int32} {J : Nat → Nat → Int64} {p : List Nat} {s u : Nat} {v : Option (List Nat)}
theorem do_last (h : DO op rt a b I I' p u v) : I' 35 (nI (p.length + 1) - 1).toNatClampNeg = nI u := by
  rw [nI_p1, nI_clamp (by have := h.2.2.2.2.2; omega)]
  exact h.2.1.init.2
theorem do_car (h : DO op rt a b I I' p u v) : ∀ i, i < p.length + 1 → isCar (I' 35 i) = true := by
  have := h.2.1.car h.2.2.2.2.1.2.2.1
  rwa [len_snoc] at this
theorem cst_le (hg : Grf I J op rt) : ∀ (w : List Nat), (∀ x ∈ w, x < 5) → chn op w → cst rt w ≤ 100 * w.length
  | [], _, _ => Nat.zero_le _
  | [_], _, _ => Nat.zero_le _
  | x :: y :: zs, h, hc => by
    have ih := cst_le hg (y :: zs) (fun z hz => h z (List.mem_cons_of_mem _ hz)) hc.2
    have h1 := ((hg x y (h x (by simp)) (h y (by simp))).2 hc.1).2
    rw [cst]
    simp only [List.length_cons] at ih ⊢
    omega
theorem way_len {w : List Nat} (h : Way op a b w) : 1 ≤ w.length ∧ w.length ≤ 5 := by
  refine ⟨?_, nodup5 5 w h.1.2.1 h.1.2.2.1⟩
  cases w with
  | nil => exact absurd h.1.1 (by simp)
  | cons x xs => simp
theorem do_v0 (h : DO op rt a b I I' p u v) (h0 : I' 13 23 = 0) : v = none := by
  obtain ⟨h1, h2, h4, h5, h8, h7⟩ := h
  cases v with
  | none => rfl
  | some w =>
    exfalso
    have hw := way_len h5.1
    have e := h4.1.symm.trans h0
    rw [show (0 : Int32) = nI 0 from rfl, nI_eq (by omega) (by omega)] at e
    omega
theorem do_v1 (hg : Grf I J op rt) (h : DO op rt a b I I' p u v) (h0 : ¬ I' 13 23 = 0) : ∃ w, v = some w ∧ I' 13 23 = nI w.length ∧ I' 13 24 = nI (cst rt w) ∧ w.length ≤ 5 ∧ cst rt w ≤ 500 := by
  obtain ⟨h1, h2, h4, h5, h8, h7⟩ := h
  cases v with
  | none => exact absurd h4 h0
  | some w =>
    have hw := way_len h5.1
    have hc := cst_le hg w h5.1.1.2.2.1 h5.1.1.2.2.2
    exact ⟨w, rfl, h4.1, h4.2.1, hw.2, by omega⟩
theorem do_cost (hg : Grf I J op rt) (h : DO op rt a b I I' p u v) : costM I' (p.length + 1) = nI (cst rt (p ++ [u])) ∧ cst rt (p ++ [u]) ≤ 400 := by
  have h7 := h.2.2.2.2.2
  obtain ⟨e1, e2⟩ := costM_cst (h.1.grf hg) p u h.2.1 h.2.2.2.2.1 h7
  exact ⟨e1, by omega⟩
theorem do_bet1 (hg : Grf I J op rt) (h : DO op rt a b I I' p u v) (h0 : ¬ I' 13 23 = 0) (h1 : costM I' (p.length + 1) < I' 13 24) : v = none ∨ ∃ w, v = some w ∧ (cst rt (p ++ [u]) < cst rt w ∨ (cst rt (p ++ [u]) = cst rt w ∧ (p ++ [u]).length < w.length)) := by
  obtain ⟨w, e, e1, e2, e3, e4⟩ := do_v1 hg h h0
  obtain ⟨c1, c2⟩ := do_cost hg h
  rw [c1, e2, nI_ltI (by omega) (by omega)] at h1
  exact Or.inr ⟨w, e, Or.inl h1⟩
theorem do_bet2 (hg : Grf I J op rt) (h : DO op rt a b I I' p u v) (h0 : ¬ I' 13 23 = 0) (h1 : costM I' (p.length + 1) = I' 13 24) (h2 : ¬ I' 13 23 ≤ nI (p.length + 1)) : v = none ∨ ∃ w, v = some w ∧ (cst rt (p ++ [u]) < cst rt w ∨ (cst rt (p ++ [u]) = cst rt w ∧ (p ++ [u]).length < w.length)) := by
  obtain ⟨w, e, e1, e2, e3, e4⟩ := do_v1 hg h h0
  obtain ⟨c1, c2⟩ := do_cost hg h
  have h7 := h.2.2.2.2.2
  rw [c1, e2, nI_eq (by omega) (by omega)] at h1
  rw [e1, nI_leI (by omega) (by omega)] at h2
  exact Or.inr ⟨w, e, Or.inr ⟨h1, by rw [len_snoc]; omega⟩⟩
theorem do_wor1 (hg : Grf I J op rt) (h : DO op rt a b I I' p u v) (h0 : ¬ I' 13 23 = 0) (h1 : ¬ costM I' (p.length + 1) < I' 13 24) (h2 : ¬ costM I' (p.length + 1) = I' 13 24) : ∃ w, v = some w ∧ ¬ (cst rt (p ++ [u]) < cst rt w ∨ (cst rt (p ++ [u]) = cst rt w ∧ (p ++ [u]).length < w.length)) := by
  obtain ⟨w, e, e1, e2, e3, e4⟩ := do_v1 hg h h0
  obtain ⟨c1, c2⟩ := do_cost hg h
  rw [c1, e2, nI_ltI (by omega) (by omega)] at h1
  rw [c1, e2, nI_eq (by omega) (by omega)] at h2
  exact ⟨w, e, by omega⟩
theorem do_wor2 (hg : Grf I J op rt) (h : DO op rt a b I I' p u v) (h0 : ¬ I' 13 23 = 0) (h1 : ¬ costM I' (p.length + 1) < I' 13 24) (h2 : I' 13 23 ≤ nI (p.length + 1)) : ∃ w, v = some w ∧ ¬ (cst rt (p ++ [u]) < cst rt w ∨ (cst rt (p ++ [u]) = cst rt w ∧ (p ++ [u]).length < w.length)) := by
  obtain ⟨w, e, e1, e2, e3, e4⟩ := do_v1 hg h h0
  obtain ⟨c1, c2⟩ := do_cost hg h
  have h7 := h.2.2.2.2.2
  rw [c1, e2, nI_ltI (by omega) (by omega)] at h1
  rw [e1, nI_leI (by omega) (by omega)] at h2
  exact ⟨w, e, by rw [len_snoc]; omega⟩
theorem di_fin1 (hb : Bst I' rt v) (h : ¬ I' 13 23 ≤ 0) : (1 : Int32) = k_b v.isSome := by
  cases v with
  | none =>
    have e : I' 13 23 = 0 := hb
    exact absurd (by rw [e]; exact Int32.le_refl 0) h
  | some w => rfl
theorem di_fin0 (hb : Bst I' rt v) (hv : Best op rt a b v) (h : I' 13 23 ≤ 0) : (0 : Int32) = k_b v.isSome := by
  cases v with
  | none => rfl
  | some w =>
    exfalso
    have hw := way_len hv.1
    rw [hb.1] at h
    exact nI_nle (by omega) (by omega) h
theorem di_val (h : DI op rt a b I I' p s v) : I' 35 (nI (p.length + 1) - 1).toNatClampNeg + 1 = nI s := by
  rw [nI_p1, nI_clamp (by have := h.2.2.2.2.2.2.1; omega), h.2.2.1]
  rw [Int32.sub_add_cancel]
theorem di_car (h : DI op rt a b I I' p s v) (hp : p ≠ []) (hs : s < 5) : Trd (wI I' 35 p.length (nI s)) (p ++ [s]) ∧ ∀ i, i < p.length + 1 → isCar (wI I' 35 p.length (nI s) 35 i) = true := by
  obtain ⟨h1, h2, h3, h4, h5, h6, h7, h8, h9⟩ := h
  have ht : Trd (wI I' 35 p.length (nI s)) (p ++ [s]) := (h2.w (Nat.le_refl _) _).snoc (by rw [wI_eq, if_pos ⟨rfl, rfl⟩])
  refine ⟨ht, ?_⟩
  have := ht.car (fun x hx => by
    rcases List.mem_append.mp hx with g | g
    · exact (h8 hp).2.2.1 x g
    · rw [List.mem_singleton.mp g]; exact hs)
  rwa [len_snoc] at this
def copyB (I : Nat → Nat → Int32) (k : Nat) : Nat → Nat → Int32 := fun r j => if r = 34 ∧ j < k then I 35 j else I r j
theorem copyB_0 (I : Nat → Nat → Int32) : copyB I 0 = I := by
  funext r j
  simp [copyB]
theorem copyB_s (I : Nat → Nat → Int32) (k : Nat) : wI (copyB I k) 34 k (copyB I k 35 k) = copyB I (k + 1) := by
  funext r j
  rw [wI_eq]
  unfold copyB
  by_cases h1 : r = 34
  · by_cases h2 : j = k
    · simp [h1, h2]
    · by_cases h3 : j < k
      · have : j < k + 1 := by omega
        simp [h1, h2, h3, this]
      · have : ¬ j < k + 1 := by omega
        simp [h1, h2, h3, this]
  · simp [h1]
theorem do_copy (hg : Grf I J op rt) (h : DO op rt a b I I' p u v) (hb : u = b) (hn : v = none ∨ ∃ w, v = some w ∧ (cst rt (p ++ [u]) < cst rt w ∨ (cst rt (p ++ [u]) = cst rt w ∧ (p ++ [u]).length < w.length))) :
    DI op rt a b I (copyB (wI (wI I' 13 23 (nI (p.length + 1))) 13 24 (costM I' (p.length + 1))) (p.length + 1)) p (u + 1) (some (p ++ [u])) ∧ muO p u < muI p (u + 1) := by
  refine do_take h hb hn (fun r k z1 z2 z3 => ?_) (fun k => ?_) ?_ ?_ (fun i hi => ?_)
  · have hc : ¬ (r = 34 ∧ k < p.length + 1) := by omega
    rw [copyB, if_neg hc, wI_eq, if_neg (by rintro ⟨rfl, rfl⟩; exact (z3 rfl).2 rfl), wI_eq, if_neg (by rintro ⟨rfl, rfl⟩; exact (z3 rfl).1 rfl)]
  · rw [copyB, if_neg (by omega), wI_eq, if_neg (by omega), wI_eq, if_neg (by omega)]
  · rw [copyB, if_neg (by omega), wI_eq, if_neg (by omega), wI_eq, if_pos ⟨rfl, rfl⟩]
  · rw [copyB, if_neg (by omega), wI_eq, if_pos ⟨rfl, rfl⟩]
    exact (do_cost hg h).1
  · rw [copyB, if_pos ⟨rfl, hi⟩, wI_eq, if_neg (by omega), wI_eq, if_neg (by omega)]
end SEARCH2
