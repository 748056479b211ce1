section STEP
/-- the links out of the law's cells alone -/
def opL (I : Nat → Nat → Int32) (J : Nat → Nat → Int64) : Nat → Nat → Bool := fun x y => !shutL I J x y
def rtL (I : Nat → Nat → Int32) : Nat → Nat → Nat := fun x y => (I 12 (2 * (5 * x + y))).toNatClampNeg
theorem SR.gl2 {q : Nat → Nat → Nat} {ns nt T : Nat} {Ic : Nat → Nat → Int32} {Jc : Nat → Nat → Int64} {Il : Nat → Nat → Int32} {Jl : Nat → Nat → Int64} (h : SR q ns nt T Ic Jc Il Jl) : GL Il Jl (opL Il Jl) (rtL Il) := by
  intro x y hx hy
  unfold opL rtL
  refine ⟨by simp, fun ho => ?_⟩
  rw [Bool.not_eq_true', shutL, Bool.or_eq_false_iff, decide_eq_false_iff_not] at ho
  rcases h.lnk (5 * x + y) (by omega) with ⟨n, hn, h1, h2, h3⟩ | ⟨h1, h2⟩
  · rw [h1, clamp_c (by omega)]
    exact ⟨rfl, hn⟩
  · rw [h1] at ho
    exact absurd (by decide) ho.1
theorem SR.gc2 {q : Nat → Nat → Nat} {ns nt T : Nat} {Ic : Nat → Nat → Int32} {Jc : Nat → Nat → Int64} {Il : Nat → Nat → Int32} {Jl : Nat → Nat → Int64} (h : SR q ns nt T Ic Jc Il Jl) : GC Ic Jc (opL Il Jl) (rtL Il) := by
  intro x y hx hy
  have h1 := h.gl x y hx hy
  have e : openF Ic Jc (nI x) (nI y) = opL Il Jl x y := by
    unfold opL
    rw [h1.1, Bool.not_not]
    rfl
  refine ⟨e, fun ho => ?_⟩
  have h2 := (h.gl2 x y hx hy).2 ho
  have h3 := (h.gc x y hx hy).2 (e.trans ho)
  have h4 := h1.2 (e.trans ho)
  rw [h3.1, ← h4.1, h2.1]
  exact ⟨rfl, h2.2⟩
theorem open_ne {I : Nat → Nat → Int32} {J : Nat → Nat → Int64} {x y : Nat} (hx : x < 5) (hy : y < 5) (h : openF I J (nI x) (nI y) = true) : ¬ I 8 (5 * x + y) = -1 := by
  rw [open_c hx hy, Bool.and_eq_true, Bool.not_eq_true', decide_eq_false_iff_not] at h
  exact h.1
theorem along_hop {Ic : Nat → Nat → Int32} {Jc : Nat → Nat → Int64} {r : Nat} {p : List Nat} (hl : p.length ≤ 5) (hR : Rou Ic r p) : ∀ n, n ≤ p.length → alongF Ic Jc r n = true → ∀ m, m + 1 < n → openF Ic Jc (nI (p.getD m 0)) (nI (p.getD (m + 1) 0)) = true := by
  intro n
  induction n with
  | zero => intro _ _ m hm; omega
  | succ n ih =>
    intro hn ha m hm
    rw [alongF, Bool.and_eq_true] at ha
    by_cases e : m + 1 = n
    · subst e
      have h2 := ha.2
      rw [linkF, nI_p1, rou_at hR hl (by omega), rou_at hR hl (by omega)] at h2
      simpa using h2
    · exact ih (by omega) ha.1 m (by omega)
theorem roG_row {I : Nat → Nat → Int32} {J : Nat → Nat → Int64} {t r : Nat} (h : r ≠ 11) (h1 : r ≠ t + 1) (h2 : r ≠ t + 1 + 1) : roG I J t r = I r := funext fun _ => roG_other h h1 h2
theorem fb_none {I : Nat → Nat → Int32} {J : Nat → Nat → Int64} {a b : Int32} {r r' : Nat} (h : fbB I J a b = false) (h1 : r' ≠ 11) : fbI I J a b r r' = I r' := by
  funext k
  unfold fbB at h
  unfold fbI
  by_cases h2 : (isCar a && isCar b) = true
  · rw [h2, Bool.true_and, decide_eq_false_iff_not] at h
    rw [if_pos h2, if_neg h, weigh_other h1]
  · rw [if_neg h2]
theorem along_stop {q : Nat → Nat → Nat} {ns nt T : Nat} {Ic : Nat → Nat → Int32} {Jc : Nat → Nat → Int64} {Il : Nat → Nat → Int32} {Jl : Nat → Nat → Int64} (h : SR q ns nt T Ic Jc Il Jl) {j : Nat} {pp : List Nat} (hl : pp.length ≤ 5) (h5 : ∀ y ∈ pp, y < 5) (hR : Rou Ic (80 + 4 * j + 1) pp) : ∀ n, n ≤ pp.length → stopL Il Jl pp n = !alongF Ic Jc (80 + 4 * j + 1) n := by
  intro n
  induction n with
  | zero => intro _; rfl
  | succ n ih =>
    intro hn
    rw [stopL, alongF, ih (by omega)]
    by_cases e : n = 0
    · subst e
      rfl
    · obtain ⟨z, rfl⟩ : ∃ z, n = z + 1 := ⟨n - 1, by omega⟩
      have hu := h5 _ (getD_mem (p := pp) (j := z) (by omega))
      have hv := h5 _ (getD_mem (p := pp) (j := z + 1) (by omega))
      rw [if_neg e, linkF, nI_p1, rou_at hR hl (by omega), rou_at hR hl (by omega), Nat.add_sub_cancel, (h.gl _ _ hu hv).1, (h.gc _ _ hu hv).1]
      simp
theorem moveL_row {I : Nat → Nat → Int32} {j r : Nat} {w : List Nat} (h : r ≠ 17) : moveL I j w r = I r := by rw [moveL, wI_row h, wI_row h]
theorem moveL_off {I : Nat → Nat → Int32} {j k : Nat} {w : List Nat} (h : k ≠ 8 * j + 6) (h2 : k ≠ 8 * j + 7) : moveL I j w 17 k = I 17 k := by rw [moveL, wI_off h, wI_off h2]
theorem moveL_6 {I : Nat → Nat → Int32} {j : Nat} {w : List Nat} : moveL I j w 17 (8 * j + 6) = I 17 (8 * j + 6) + 1 := by rw [moveL, wI_at]
theorem moveL_7 {I : Nat → Nat → Int32} {j : Nat} {w : List Nat} : moveL I j w 17 (8 * j + 7) = nI (enc w) := by rw [moveL, wI_off (by omega), wI_at]
set_option maxHeartbeats 1000000 in
/-- a call is moved on both sides -/
theorem move_sr {q : Nat → Nat → Nat} {ns nt T : Nat} {Ic : Nat → Nat → Int32} {Jc : Nat → Nat → Int64} {Il : Nat → Nat → Int32} {Jl : Nat → Nat → Int64} {G : Nat → Nat → Int32} (h : SR q ns nt T Ic Jc Il Jl) {j : Nat} (hj : j < nt) {w : List Nat} (hw : 1 ≤ w.length ∧ w.length ≤ 5) (w5 : ∀ y ∈ w, y < 5) (wn : w.Nodup) (hG : ∀ r, r ≠ 11 → r ≠ 80 + 4 * j + 1 → r ≠ 80 + 4 * j + 1 + 1 → G r = Ic r) (hR : Rou G (80 + 4 * j + 1) w) :
    SR q ns nt T (wI G (80 + 4 * j) 8 (G (80 + 4 * j) 8 + 1)) Jc (moveL Il j w) Jl := by
  have hnt := h.hnt
  have hns := h.hns
  have g : ∀ r, r ≠ 11 → r ≠ 80 + 4 * j → r ≠ 80 + 4 * j + 1 → r ≠ 80 + 4 * j + 1 + 1 → wI G (80 + 4 * j) 8 (G (80 + 4 * j) 8 + 1) r = Ic r := fun r g1 g2 g3 g4 => by rw [wI_row g2, hG r g1 g3 g4]
  have gt : G (80 + 4 * j) = Ic (80 + 4 * j) := hG _ (by omega) (by omega) (by omega)
  refine ⟨hns, hnt, by rw [g 0 (by omega) (by omega) (by omega) (by omega)]; exact h.c6, by rw [g 0 (by omega) (by omega) (by omega) (by omega)]; exact h.c7, by rw [moveL_row (by omega)]; exact h.g0, by rw [moveL_row (by omega)]; exact h.g1, by have := h.tar; unfold sTar at this ⊢; simp (disch := omega) only [g, moveL_row]; exact this, by have := h.lnk; unfold sLnk at this ⊢; simp (disch := omega) only [g, moveL_row]; exact this, h.dbt, h.chg, fun i hi => (h.sub i hi).eq (fun r hr => g r (by omega) (by omega) (by omega) (by omega)) (fun k9 hk9 => by rw [moveL_row (by omega)]), fun k9 hk9 => ?_, fun k9 g1 g2 => by
    have := h.new k9 g1 g2
    rw [moveL_off (by omega) (by omega), moveL_off (by omega) (by omega), moveL_off (by omega) (by omega)]
    exact this⟩
  by_cases e8 : k9 = j
  · subst e8
    obtain ⟨x1, x2, x3, x4, x5, x6, x7, x8, -⟩ := h.cal k9 hk9
    unfold sCal1
    rw [moveL_6, moveL_7]
    simp (disch := omega) only [moveL_off, wI_at, wI_off, gt]
    exact ⟨x1, x2, x3, x4, x5, x6, x7, by rw [x8], w, ⟨hw.1, hw.2, w5, wn⟩, hR.row (wI_row (by omega)) (wI_row (by omega)), rfl⟩
  · exact (h.cal k9 hk9).eq (fun r hr => g r (by omega) (by omega) (by omega) (by omega)) (fun m hm => moveL_off (by omega) (by omega))
set_option maxHeartbeats 1000000 in
/-- a minute of a call, on both sides -/
theorem tick_step {q : Nat → Nat → Nat} {ns nt T : Nat} {Ic : Nat → Nat → Int32} {Jc : Nat → Nat → Int64} {Il : Nat → Nat → Int32} {Jl : Nat → Nat → Int64} (h : SR q ns nt T Ic Jc Il Jl) (hT : T < 2 ^ 30) {k : Nat} (hk : k < nt) (hact : Il 17 (8 * k + 2) = 0) {pp : List Nat} (hp : 1 ≤ pp.length ∧ pp.length ≤ 5) (h5 : ∀ y ∈ pp, y < 5) (hnd : pp.Nodup) (hR : Rou Ic (80 + 4 * k + 1) pp) {v : Option (List Nat)} (hv : Best (opL Il Jl) (rtL Il) (List.getD pp 0 0) (List.getD pp (pp.length - 1) 0) v) {f : Int32} :
    SR q ns nt T (tickS q nt (Ic, Jc, f) k).1 (tickS q nt (Ic, Jc, f) k).2.1 (minI Il Jl k (q (80 + 4 * k) 0) pp v) (minJ Il Jl k (q (80 + 4 * k) 0) pp v) ∧ f + (if minI Il Jl k (q (80 + 4 * k) 0) pp v 17 (8 * k + 2) = 2 then 1 else 0) = (tickS q nt (Ic, Jc, f) k).2.2 := by
  have hnt := h.hnt
  have hns := h.hns
  have hq := (h.cal k hk).1.1.1
  have g2 := (h.cal k hk).2.2.2.1
  have hc : (nI k).toNatClampNeg < nt ∧ (Ic, Jc, f).1 (80 + 4 * (nI k).toNatClampNeg) 6 = 0 := by
    rw [clamp_c (by omega)]
    exact ⟨hk, g2.symm.trans hact⟩
  rw [tickS, if_pos hc, clamp_c (by omega)]
  show SR q ns nt T (if roB Ic Jc (40 + 2 * q (80 + 4 * k) 0) (80 + 4 * k) = true then (roI Ic Jc (40 + 2 * q (80 + 4 * k) 0) (80 + 4 * k), roJ Ic Jc (40 + 2 * q (80 + 4 * k) 0) (80 + 4 * k), f) else (wI (roI Ic Jc (40 + 2 * q (80 + 4 * k) 0) (80 + 4 * k)) (80 + 4 * k) 6 2, roJ Ic Jc (40 + 2 * q (80 + 4 * k) 0) (80 + 4 * k), f + 1)).1 (if roB Ic Jc (40 + 2 * q (80 + 4 * k) 0) (80 + 4 * k) = true then (roI Ic Jc (40 + 2 * q (80 + 4 * k) 0) (80 + 4 * k), roJ Ic Jc (40 + 2 * q (80 + 4 * k) 0) (80 + 4 * k), f) else (wI (roI Ic Jc (40 + 2 * q (80 + 4 * k) 0) (80 + 4 * k)) (80 + 4 * k) 6 2, roJ Ic Jc (40 + 2 * q (80 + 4 * k) 0) (80 + 4 * k), f + 1)).2.1 _ _ ∧ f + _ = (if roB Ic Jc (40 + 2 * q (80 + 4 * k) 0) (80 + 4 * k) = true then (roI Ic Jc (40 + 2 * q (80 + 4 * k) 0) (80 + 4 * k), roJ Ic Jc (40 + 2 * q (80 + 4 * k) 0) (80 + 4 * k), f) else (wI (roI Ic Jc (40 + 2 * q (80 + 4 * k) 0) (80 + 4 * k)) (80 + 4 * k) 6 2, roJ Ic Jc (40 + 2 * q (80 + 4 * k) 0) (80 + 4 * k), f + 1)).2.2
  have elen : (Ic (80 + 4 * k + 1) 1).toNatClampNeg = pp.length := by rw [hR.1, clamp_c (by omega)]
  have hst := along_stop h hp.2 h5 hR pp.length (Nat.le_refl _)
  have hA : roA Ic Jc (80 + 4 * k) = alongF Ic Jc (80 + 4 * k + 1) pp.length := by rw [roA, elen]
  have fin : ∀ (I' : Nat → Nat → Int32) (Il' : Nat → Nat → Int32) (p' : List Nat), SR q ns nt T I' Jc Il' Jl → Il' 17 (8 * k + 2) = 0 → 1 ≤ p'.length → p'.length ≤ 5 → (∀ y ∈ p', y < 5) → p'.Nodup → Rou I' (80 + 4 * k + 1) p' → (∀ m, m + 1 < p'.length → ¬ I' 8 (5 * p'.getD m 0 + p'.getD (m + 1) 0) = -1) → roI1 Ic Jc (80 + 4 * k) = I' → roO Ic Jc (80 + 4 * k) = true → minI Il Jl k (q (80 + 4 * k) 0) pp v = mPI Il' k (q (80 + 4 * k) 0) → minJ Il Jl k (q (80 + 4 * k) 0) pp v = mPJ Il' Jl k (q (80 + 4 * k) 0) p' →
      SR q ns nt T (if roB Ic Jc (40 + 2 * q (80 + 4 * k) 0) (80 + 4 * k) = true then (roI Ic Jc (40 + 2 * q (80 + 4 * k) 0) (80 + 4 * k), roJ Ic Jc (40 + 2 * q (80 + 4 * k) 0) (80 + 4 * k), f) else (wI (roI Ic Jc (40 + 2 * q (80 + 4 * k) 0) (80 + 4 * k)) (80 + 4 * k) 6 2, roJ Ic Jc (40 + 2 * q (80 + 4 * k) 0) (80 + 4 * k), f + 1)).1 (if roB Ic Jc (40 + 2 * q (80 + 4 * k) 0) (80 + 4 * k) = true then (roI Ic Jc (40 + 2 * q (80 + 4 * k) 0) (80 + 4 * k), roJ Ic Jc (40 + 2 * q (80 + 4 * k) 0) (80 + 4 * k), f) else (wI (roI Ic Jc (40 + 2 * q (80 + 4 * k) 0) (80 + 4 * k)) (80 + 4 * k) 6 2, roJ Ic Jc (40 + 2 * q (80 + 4 * k) 0) (80 + 4 * k), f + 1)).2.1 (minI Il Jl k (q (80 + 4 * k) 0) pp v) (minJ Il Jl k (q (80 + 4 * k) 0) pp v) ∧ f + (if minI Il Jl k (q (80 + 4 * k) 0) pp v 17 (8 * k + 2) = 2 then 1 else 0) = (if roB Ic Jc (40 + 2 * q (80 + 4 * k) 0) (80 + 4 * k) = true then (roI Ic Jc (40 + 2 * q (80 + 4 * k) 0) (80 + 4 * k), roJ Ic Jc (40 + 2 * q (80 + 4 * k) 0) (80 + 4 * k), f) else (wI (roI Ic Jc (40 + 2 * q (80 + 4 * k) 0) (80 + 4 * k)) (80 + 4 * k) 6 2, roJ Ic Jc (40 + 2 * q (80 + 4 * k) 0) (80 + 4 * k), f + 1)).2.2 := by
    intro I' Il' p' hS a0 a1 a2 a3 a4 a5 a6 e1 eO eI2 eJ2
    subst e1
    rw [eI2, eJ2]
    obtain ⟨r1, r2⟩ := min_pay hS hT hk rfl a0 a1 a2 a3 a4 a5 a6 (cI := roI2 Ic Jc (40 + 2 * q (80 + 4 * k) 0) (80 + 4 * k)) (cP := roP Ic Jc (40 + 2 * q (80 + 4 * k) 0) (80 + 4 * k)) rfl rfl
    rw [r2]
    have eB : roB Ic Jc (40 + 2 * q (80 + 4 * k) 0) (80 + 4 * k) = roP Ic Jc (40 + 2 * q (80 + 4 * k) 0) (80 + 4 * k) := by rw [roB, eO, Bool.true_and]
    rw [roJ, eB, roI, if_pos eO]
    cases eP : roP Ic Jc (40 + 2 * q (80 + 4 * k) 0) (80 + 4 * k) with
    | true =>
      rw [eP] at r1
      exact ⟨r1, Int32.add_zero f⟩
    | false =>
      rw [eP] at r1
      exact ⟨r1, rfl⟩
  cases hs : stopL Il Jl pp pp.length with
  | false =>
    have hs2 := hst.symm.trans hs
    rw [Bool.not_eq_false'] at hs2
    refine fin Ic Il pp h hact hp.1 hp.2 h5 hnd hR (fun m hm => open_ne (h5 _ (getD_mem (by omega))) (h5 _ (getD_mem (by omega))) (along_hop hp.2 hR pp.length (Nat.le_refl _) hs2 m hm)) ?_ ?_ (min_no hs).1 (min_no hs).2
    · rw [roI1, hA, if_pos hs2]
    · rw [roO, hA, hs2, Bool.true_or]
  | true =>
    have hs2 := hst.symm.trans hs
    rw [Bool.not_eq_true'] at hs2
    have hx5 : List.getD pp 0 0 < 5 := h5 _ (getD_mem (by omega))
    have hy5 : List.getD pp (pp.length - 1) 0 < 5 := h5 _ (getD_mem (by omega))
    have ea : carAt Ic (80 + 4 * k + 1) 0 = nI (List.getD pp 0 0) := rou_at (k := 0) hR hp.2 (by omega)
    have eb : carAt Ic (80 + 4 * k + 1) (Ic (80 + 4 * k + 1) 1 - 1) = nI (List.getD pp (pp.length - 1) 0) := by rw [hR.1, nI_m1 hp.1]; exact rou_at hR hp.2 (by omega)
    obtain ⟨v', b1, b2, b3⟩ := fb_rep (r := 80 + 4 * k + 1) (Or.inr (by omega)) h.gc2 hx5 hy5
    have e := best_one hv b1
    subst e
    have eF : roF Ic Jc (80 + 4 * k) = v.isSome := by rw [roF, ea, eb, b2]
    have eG : roG Ic Jc (80 + 4 * k) = fbI Ic Jc (nI (List.getD pp 0 0)) (nI (List.getD pp (pp.length - 1) 0)) (80 + 4 * k + 1) := by rw [roG, ea, eb]
    have eO : roO Ic Jc (80 + 4 * k) = v.isSome := by rw [roO, hA, hs2, eF, Bool.false_or]
    cases v with
    | none =>
      have hrow : ∀ r, r ≠ 11 → roI Ic Jc (40 + 2 * q (80 + 4 * k) 0) (80 + 4 * k) r = Ic r := fun r g => by
        rw [roI, eO, if_neg (by decide), eG]
        exact fb_none (by rw [b2]; rfl) g
      have eB : roB Ic Jc (40 + 2 * q (80 + 4 * k) 0) (80 + 4 * k) = false := by rw [roB, eO]; rfl
      have eJ : roJ Ic Jc (40 + 2 * q (80 + 4 * k) 0) (80 + 4 * k) = Jc := by rw [roJ, eB, if_neg Bool.false_ne_true]
      rw [eB, eJ, if_neg Bool.false_ne_true, (min_none hs).1, (min_none hs).2, wI_at, if_pos rfl]
      refine ⟨?_, rfl⟩
      have h2 : SR q ns nt T (roI Ic Jc (40 + 2 * q (80 + 4 * k) 0) (80 + 4 * k)) Jc Il Jl := h.same (fun r _ _ _ g => hrow r g) (fun _ _ _ => rfl) (fun _ _ => rfl) (fun _ _ _ => rfl)
      clear h
      have h := h2
      exact ⟨h.hns, h.hnt, (by have := h.c6; (try simp (disch := omega) only [wI_row, wI_off]); exact this), (by have := h.c7; (try simp (disch := omega) only [wI_row, wI_off]); exact this), (by have := h.g0; (try simp (disch := omega) only [wI_row, wI_off]); exact this), (by have := h.g1; (try simp (disch := omega) only [wI_row, wI_off]); exact this), (by have := h.tar; unfold sTar at this ⊢; (try simp (disch := omega) only [wI_row]); exact this), (by have := h.lnk; unfold sLnk at this ⊢; (try simp (disch := omega) only [wI_row]); exact this), h.dbt, h.chg, (fun i9 hi9 => (h.sub i9 hi9).eq (fun r hr => by first | rfl | simp (disch := omega) only [wI_row, wI_off]) (fun k9 hk9 => by first | rfl | simp (disch := omega) only [wI_row, wI_off])), (fun j9 hj9 => by
        by_cases e8 : j9 = k
        · subst e8
          obtain ⟨x1, x2, x3, x4, x5, x6, x7, x8, pp', x⟩ := h.cal j9 hj9
          simp (disch := omega) only [sCal1, Rou, wI_row, wI_at, wI_off]
          exact ⟨x1, x2, x3, trivial, x5, x6, x7, x8, pp', x⟩
        · exact (h.cal j9 hj9).eq (fun r hr => by simp (disch := omega) only [wI_row]) (fun k9 hk9 => by simp (disch := omega) only [wI_off])), (fun j9 g1 g2 => by have := h.new j9 g1 g2; (try simp (disch := omega) only [wI_row, wI_off]); exact this)⟩
    | some w =>
      have hl := way_len hv.1
      have hR2 := b3 w rfl
      rw [← eG] at hR2
      have hI1 : roI1 Ic Jc (80 + 4 * k) = wI (roG Ic Jc (80 + 4 * k)) (80 + 4 * k) 8 (roG Ic Jc (80 + 4 * k) (80 + 4 * k) 8 + 1) := by rw [roI1, hA, hs2, if_neg Bool.false_ne_true]
      have hM := move_sr h hk hl hv.1.1.2.2.1 hv.1.1.2.1 (G := roG Ic Jc (80 + 4 * k)) (fun r g1 g2 g3 => roG_row g1 g2 g3) hR2
      refine fin _ (moveL Il k w) w hM ?_ hl.1 hl.2 hv.1.1.2.2.1 hv.1.1.2.1 (hR2.row (wI_row (by omega)) (wI_row (by omega))) (fun m hm => ?_) hI1 eO (min_some hs).1 (min_some hs).2
      · rw [moveL_off (by omega) (by omega)]
        exact hact
      · rw [wI_row (by omega), roG_row (by omega) (by omega) (by omega)]
        exact open_ne (hv.1.1.2.2.1 _ (getD_mem (by omega))) (hv.1.1.2.2.1 _ (getD_mem (by omega))) ((h.gc2 _ _ (hv.1.1.2.2.1 _ (getD_mem (by omega))) (hv.1.1.2.2.1 _ (getD_mem (by omega)))).1.trans (chn_at w m hv.1.1.2.2.2 hm))
theorem chg_row {I : Nat → Nat → Int32} {J : Nat → Nat → Int64} {t r : Nat} (h : r ≠ 10) (h2 : r ≠ t + 3) : ∀ n, chargeJ I J t n r = J r := by
  have hA : ∀ (J : Nat → Nat → Int64) (a b : Int32) (x : Int64), addDebtJ J a b x r = J r := fun J a b x => by
    unfold addDebtJ addJ
    split
    · rw [wJ_row h, wJ_row h]
    · rfl
  have hC : ∀ (J : Nat → Nat → Int64) (k x : Int32), addChJ J t k x r = J r := fun J k x => by
    unfold addChJ addJ
    split
    · rw [wJ_row h2]
    · rfl
  intro n
  induction n with
  | zero => rfl
  | succ n ih =>
    rw [chargeJ]
    split
    · rfl
    · rw [hC, hA, ih]
theorem tick_row {q : Nat → Nat → Nat} {nt : Nat} {S : k_T3} {k : Nat} : (∀ r, r < 40 → r ≠ 11 → (tickS q nt S k).1 r = S.1 r) ∧ (∀ r, r < 80 → r ≠ 10 → (tickS q nt S k).2.1 r = S.2.1 r) := by
  have a1 : ∀ (s t r : Nat), r < 40 → r ≠ 11 → 40 ≤ s → 80 ≤ t → roI S.1 S.2.1 s t r = S.1 r := fun s t r g1 g2 g3 g4 => funext fun k => ro_other g2 (by omega) (by omega) (by omega) (by omega)
  have a2 : ∀ (s t r : Nat), r < 80 → r ≠ 10 → 80 ≤ t → roJ S.1 S.2.1 s t r = S.2.1 r := fun s t r g1 g2 g4 => by
    unfold roJ
    split
    · exact chg_row g2 (by omega) _
    · rfl
  unfold tickS
  split
  · split
    · exact ⟨fun r g1 g2 => a1 _ _ r g1 g2 (by omega) (by omega), fun r g1 g2 => a2 _ _ r g1 g2 (by omega)⟩
    · refine ⟨fun r g1 g2 => ?_, fun r g1 g2 => a2 _ _ r g1 g2 (by omega)⟩
      show wI _ _ 6 2 r = S.1 r
      rw [wI_row (by omega), a1 _ _ r g1 g2 (by omega) (by omega)]
  · exact ⟨fun _ _ _ => rfl, fun _ _ _ => rfl⟩
theorem min_row {q : Nat → Nat → Nat} {nt : Nat} {S : k_T3} : ∀ k, (∀ r, r < 40 → r ≠ 11 → (minS q nt S k).1 r = S.1 r) ∧ (∀ r, r < 80 → r ≠ 10 → (minS q nt S k).2.1 r = S.2.1 r) := by
  intro k
  induction k with
  | zero => exact ⟨fun _ _ _ => rfl, fun _ _ _ => rfl⟩
  | succ k ih =>
    have h := tick_row (q := q) (nt := nt) (S := minS q nt S k) (k := k)
    exact ⟨fun r g1 g2 => (h.1 r g1 g2).trans (ih.1 r g1 g2), fun r g1 g2 => (h.2 r g1 g2).trans (ih.2 r g1 g2)⟩
theorem pass_row {q : Nat → Nat → Nat} {nt : Nat} {S : k_T3} : ∀ k, (∀ r, r < 40 → r ≠ 11 → (passS q nt S k).1 r = S.1 r) ∧ (∀ r, r < 80 → r ≠ 10 → (passS q nt S k).2.1 r = S.2.1 r) := by
  intro k
  induction k with
  | zero => exact ⟨fun _ _ _ => rfl, fun _ _ _ => rfl⟩
  | succ k ih =>
    have h := min_row (q := q) (nt := nt) (S := passS q nt S k) 60
    exact ⟨fun r g1 g2 => (h.1 r g1 g2).trans (ih.1 r g1 g2), fun r g1 g2 => (h.2 r g1 g2).trans (ih.2 r g1 g2)⟩
theorem min_stay {q : Nat → Nat → Nat} {nt : Nat} {S : k_T3} : ∀ n, nt ≤ n → n < 1000 → minS q nt S n = minS q nt S nt := by
  intro n
  induction n with
  | zero => intro h _; rw [show nt = 0 by omega]
  | succ n ih =>
    intro h h2
    by_cases e : nt = n + 1
    · rw [e]
    · rw [minS, tickS, if_neg (fun g => by have := g.1; rw [clamp_c (by omega)] at this; omega), ih (by omega) (by omega)]
end STEP
