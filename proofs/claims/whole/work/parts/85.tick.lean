section MIDS5
theorem open_ne {I : Nat → Nat → Int32} {J : Nat → Nat → Int64} {x y : Nat} (hx : x < 5) (hy : y < 5) (h : openF I J (nI x) (nI y) = true) : ¬ I 8 (5 * x + y) = -1 := by
  rw [open_c hx hy, Bool.and_eq_true, Bool.not_eq_true', decide_eq_false_iff_not] at h
  exact h.1
theorem along_stop {q : Nat → Nat → Nat} {ns nt : Nat} {Ic Im : Nat → Nat → Int32} {Jc Jm : Nat → Nat → Int64} (h : SR q ns nt Ic Jc Im Jm) {j : Nat} {p : List Nat} (hl : p.length ≤ 5) (h5 : ∀ y ∈ p, y < 5) (hR : Rou Ic (80 + 4 * j + 1) p) (h33 : ∀ i, i < p.length → Im 33 (5 * j + i) = nI (p.getD i 0)) : ∀ n, n ≤ p.length → stopM Im Jm j n = !alongF Ic Jc (80 + 4 * j + 1) n := by
  intro n
  induction n with
  | zero => intro _; rfl
  | succ n ih =>
    intro hn
    rw [stopM, alongF, ih (by omega)]
    by_cases e : n = 0
    · subst e
      simp
    · obtain ⟨z, rfl⟩ : ∃ z, n = z + 1 := ⟨n - 1, by omega⟩
      have hu := h5 _ (getD_mem (p := p) (j := z) (by omega))
      have hv := h5 _ (getD_mem (p := p) (j := z + 1) (by omega))
      rw [linkF, nI_p1, rou_at hR hl (by omega), rou_at hR hl (by omega), show 5 * j + (z + 1) - 1 = 5 * j + z by omega, h33 z (by omega), h33 (z + 1) (by omega), h.shut hu hv]
      simp
theorem along_hop {Ic : Nat → Nat → Int32} {Jc : Nat → Nat → Int64} {r : Nat} {p : List Nat} (hl : p.length ≤ 5) (hR : Rou Ic r p) : ∀ n, n ≤ p.length → alongF Ic Jc r n = true → ∀ m, m + 1 < n → openF Ic Jc (nI (p.getD m 0)) (nI (p.getD (m + 1) 0)) = true := by
  intro n
  induction n with
  | zero => intro _ _ m hm; omega
  | succ n ih =>
    intro hn ha m hm
    rw [alongF, Bool.and_eq_true] at ha
    by_cases e : m + 1 = n
    · subst e
      have h2 := ha.2
      rw [linkF, nI_p1, rou_at hR hl (by omega), rou_at hR hl (by omega)] at h2
      simpa using h2
    · exact ih (by omega) ha.1 m (by omega)
theorem way_row {I : Nat → Nat → Int32} {j m r : Nat} (h : r ≠ 33) : wayI I j m r = I r := funext fun k => by rw [wayI, if_neg (by omega)]
theorem way_at {I : Nat → Nat → Int32} {j m k : Nat} (h : k < m) : wayI I j m 33 (5 * j + k) = I 34 k := by rw [wayI, if_pos ⟨rfl, by omega, by omega⟩, show 5 * j + k - 5 * j = k by omega]
theorem way_off {I : Nat → Nat → Int32} {j m k : Nat} (h : ¬ (5 * j ≤ k ∧ k < 5 * j + m)) : wayI I j m 33 k = I 33 k := by rw [wayI, if_neg (by omega)]
set_option maxHeartbeats 1000000 in
/-- a call is moved on both sides -/
theorem move_sr {q : Nat → Nat → Nat} {ns nt : Nat} {Ic Im I2 G : Nat → Nat → Int32} {Jc Jm : Nat → Nat → Int64} {rt : Nat → Nat → Nat} (h : SR q ns nt Ic Jc Im Jm) {j : Nat} (hj : j < nt) {w : List Nat} (hw : 1 ≤ w.length ∧ w.length ≤ 5) (w5 : ∀ y ∈ w, y < 5) (hF : FR Im I2) (hv : Bst I2 rt (some w)) (hG : ∀ r, r ≠ 11 → r ≠ 80 + 4 * j + 1 → r ≠ 80 + 4 * j + 1 + 1 → G r = Ic r) (hR : Rou G (80 + 4 * j + 1) w) :
    SR q ns nt (wI G (80 + 4 * j) 8 (G (80 + 4 * j) 8 + 1)) Jc (mMove I2 j w.length) Jm := by
  have hnt := h.hnt
  have hns := h.hns
  have f : ∀ r, r ≠ 13 → r ≠ 34 → r ≠ 35 → I2 r = Im r := fun r g1 g2 g3 => funext fun k => hF r k g2 g3 (fun e => absurd e g1)
  have m1 : ∀ r, r ≠ 31 → r ≠ 32 → r ≠ 33 → mMove I2 j w.length r = I2 r := fun r g1 g2 g3 => funext fun k => move_o g1 g2 g3
  have mm : ∀ r, r ≠ 13 → r ≠ 31 → r ≠ 32 → r ≠ 33 → r ≠ 34 → r ≠ 35 → mMove I2 j w.length r = Im r := fun r g1 g2 g3 g4 g5 g6 => by rw [m1 r g2 g3 g4, f r g1 g5 g6]
  have m31 : mMove I2 j w.length 31 j = Im 31 j + 1 := by rw [mMove, wI_at, way_row (by decide), wI_row (by decide), f 31 (by decide) (by decide) (by decide)]
  have m31o : ∀ k, k ≠ j → mMove I2 j w.length 31 k = Im 31 k := fun k g => by rw [mMove, wI_off g, way_row (by decide), wI_row (by decide), f 31 (by decide) (by decide) (by decide)]
  have m32o : ∀ k, k ≠ j → mMove I2 j w.length 32 k = Im 32 k := fun k g => by rw [mMove, wI_row (by decide), way_row (by decide), wI_off g, f 32 (by decide) (by decide) (by decide)]
  have m33o : ∀ k, ¬ (5 * j ≤ k ∧ k < 5 * j + w.length) → mMove I2 j w.length 33 k = Im 33 k := fun k g => by rw [mMove, wI_row (by decide), way_off g, wI_row (by decide), f 33 (by decide) (by decide) (by decide)]
  have g : ∀ r, r ≠ 11 → r ≠ 80 + 4 * j → r ≠ 80 + 4 * j + 1 → r ≠ 80 + 4 * j + 1 + 1 → wI G (80 + 4 * j) 8 (G (80 + 4 * j) 8 + 1) r = Ic r := fun r g1 g2 g3 g4 => by rw [wI_row g2, hG r g1 g3 g4]
  have gt : G (80 + 4 * j) = Ic (80 + 4 * j) := hG _ (by omega) (by omega) (by omega)
  refine ⟨hns, hnt, by rw [g 0 (by omega) (by omega) (by omega) (by omega)]; exact h.c6, by rw [g 0 (by omega) (by omega) (by omega) (by omega)]; exact h.c7, by rw [m1 13 (by decide) (by decide) (by decide), hF 13 8 (by decide) (by decide) (fun _ => by decide)]; exact h.m8, by rw [m1 13 (by decide) (by decide) (by decide), hF 13 13 (by decide) (by decide) (fun _ => by decide)]; exact h.m13, by have := h.tar; unfold sTar at this ⊢; simp (disch := omega) only [g, mm]; exact this, by have := h.lnk; unfold sLnk at this ⊢; simp (disch := omega) only [g, mm]; exact this, by have := h.zz; unfold sZ at this ⊢; simp (disch := omega) only [mm]; exact this, h.dbt, h.chg, fun k hk => by have := h.sub k hk; simp (disch := omega) only [g, mm]; exact this, fun k hk => ?_, fun k g1 g2 => by
    have := h.new k g1 g2
    rw [m31o k (by omega), mm 30 (by decide) (by decide) (by decide) (by decide) (by decide) (by decide)]
    exact this⟩
  by_cases e8 : k = j
  · subst e8
    obtain ⟨g1, g2, g27, g28, g29, g30, g31, -⟩ := h.cal k hk
    unfold sCal1
    rw [m31, move_32]
    simp (disch := omega) only [mm, wI_at, wI_off, gt]
    refine ⟨g1, g2, g27, g28, g29, g30, by rw [g31], w, ⟨hw.1, hw.2, w5⟩, hR.row (wI_row (by omega)) (wI_row (by omega)), hv.1, fun m hm => ?_⟩
    rw [move_33 hm]
    exact hv.2.2 m hm
  · exact (h.cal k hk).eq (fun r hr => g r (by omega) (by omega) (by omega) (by omega)) (fun r h1 h2 => by
      by_cases e7 : r = 31
      · subst e7; exact m31o k e8
      · by_cases e6 : r = 32
        · subst e6; exact m32o k e8
        · rw [mm r (by omega) e7 e6 (by omega) (by omega) (by omega)]) (fun m hm => m33o _ (by omega))
theorem roG_row {I : Nat → Nat → Int32} {J : Nat → Nat → Int64} {t r : Nat} (h : r ≠ 11) (h1 : r ≠ t + 1) (h2 : r ≠ t + 1 + 1) : roG I J t r = I r := funext fun _ => roG_other h h1 h2
theorem fb_none {I : Nat → Nat → Int32} {J : Nat → Nat → Int64} {a b : Int32} {r r' : Nat} (h : fbB I J a b = false) (h1 : r' ≠ 11) : fbI I J a b r r' = I r' := by
  funext k
  unfold fbB at h
  unfold fbI
  by_cases h2 : (isCar a && isCar b) = true
  · rw [h2, Bool.true_and, decide_eq_false_iff_not] at h
    rw [if_pos h2, if_neg h, weigh_other h1]
  · rw [if_neg h2]
set_option maxHeartbeats 1000000 in
/-- a minute of a call, on both sides -/
theorem tick_step {q : Nat → Nat → Nat} {ns nt : Nat} {Ic Im I2 : Nat → Nat → Int32} {Jc Jm J2 : Nat → Nat → Int64} (h : SR q ns nt Ic Jc Im Jm) {k x y : Nat} (hk : k < nt) (hact : Im 27 k = 0) {p : List Nat} (hp : 1 ≤ p.length ∧ p.length ≤ 5) (h5 : ∀ y ∈ p, y < 5) (hR : Rou Ic (80 + 4 * k + 1) p) (h33 : ∀ i, i < p.length → Im 33 (5 * k + i) = nI (p.getD i 0)) (hx : x = p.getD 0 0) (hy : y = p.getD (p.length - 1) 0) {f : Int32}
    (hm : MinR Im Jm (sOp Ic Jc) (sRt Ic) k (q (80 + 4 * k) 0) p.length x y I2 J2) :
    SR q ns nt (tickS q nt (Ic, Jc, f) k).1 (tickS q nt (Ic, Jc, f) k).2.1 I2 J2 ∧ f + (if I2 27 k = 2 then 1 else 0) = (tickS q nt (Ic, Jc, f) k).2.2 := by
  have hnt := h.hnt
  have hns := h.hns
  have hq := (h.cal k hk).1.1.1
  have g27 := (h.cal k hk).2.2.1
  have hc : (nI k).toNatClampNeg < nt ∧ (Ic, Jc, f).1 (80 + 4 * (nI k).toNatClampNeg) 6 = 0 := by
    rw [clamp_c (by omega)]
    exact ⟨hk, g27.symm.trans hact⟩
  rw [tickS, if_pos hc, clamp_c (by omega)]
  show SR q ns nt (if roB Ic Jc (40 + 2 * q (80 + 4 * k) 0) (80 + 4 * k) = true then (roI Ic Jc (40 + 2 * q (80 + 4 * k) 0) (80 + 4 * k), roJ Ic Jc (40 + 2 * q (80 + 4 * k) 0) (80 + 4 * k), f) else (wI (roI Ic Jc (40 + 2 * q (80 + 4 * k) 0) (80 + 4 * k)) (80 + 4 * k) 6 2, roJ Ic Jc (40 + 2 * q (80 + 4 * k) 0) (80 + 4 * k), f + 1)).1 (if roB Ic Jc (40 + 2 * q (80 + 4 * k) 0) (80 + 4 * k) = true then (roI Ic Jc (40 + 2 * q (80 + 4 * k) 0) (80 + 4 * k), roJ Ic Jc (40 + 2 * q (80 + 4 * k) 0) (80 + 4 * k), f) else (wI (roI Ic Jc (40 + 2 * q (80 + 4 * k) 0) (80 + 4 * k)) (80 + 4 * k) 6 2, roJ Ic Jc (40 + 2 * q (80 + 4 * k) 0) (80 + 4 * k), f + 1)).2.1 I2 J2 ∧ f + (if I2 27 k = 2 then 1 else 0) = (if roB Ic Jc (40 + 2 * q (80 + 4 * k) 0) (80 + 4 * k) = true then (roI Ic Jc (40 + 2 * q (80 + 4 * k) 0) (80 + 4 * k), roJ Ic Jc (40 + 2 * q (80 + 4 * k) 0) (80 + 4 * k), f) else (wI (roI Ic Jc (40 + 2 * q (80 + 4 * k) 0) (80 + 4 * k)) (80 + 4 * k) 6 2, roJ Ic Jc (40 + 2 * q (80 + 4 * k) 0) (80 + 4 * k), f + 1)).2.2
  have elen : (Ic (80 + 4 * k + 1) 1).toNatClampNeg = p.length := by rw [hR.1, clamp_c (by omega)]
  have hst := along_stop h hp.2 h5 hR h33 p.length (Nat.le_refl _)
  have hA : roA Ic Jc (80 + 4 * k) = alongF Ic Jc (80 + 4 * k + 1) p.length := by rw [roA, elen]
  have fin : ∀ (I' : Nat → Nat → Int32) (Im' : Nat → Nat → Int32) (p' : List Nat), SR q ns nt I' Jc Im' Jm → Im' 27 k = 0 → 1 ≤ p'.length → p'.length ≤ 5 → (∀ y ∈ p', y < 5) → Rou I' (80 + 4 * k + 1) p' → (∀ i, i < p'.length → Im' 33 (5 * k + i) = nI (p'.getD i 0)) → (∀ m, m + 1 < p'.length → ¬ I' 8 (5 * p'.getD m 0 + p'.getD (m + 1) 0) = -1) → roI1 Ic Jc (80 + 4 * k) = I' → roO Ic Jc (80 + 4 * k) = true → I2 = mPayI Im' k (q (80 + 4 * k) 0) → J2 = mPayJ Im' Jm k (q (80 + 4 * k) 0) p'.length →
      SR q ns nt (if roB Ic Jc (40 + 2 * q (80 + 4 * k) 0) (80 + 4 * k) = true then (roI Ic Jc (40 + 2 * q (80 + 4 * k) 0) (80 + 4 * k), roJ Ic Jc (40 + 2 * q (80 + 4 * k) 0) (80 + 4 * k), f) else (wI (roI Ic Jc (40 + 2 * q (80 + 4 * k) 0) (80 + 4 * k)) (80 + 4 * k) 6 2, roJ Ic Jc (40 + 2 * q (80 + 4 * k) 0) (80 + 4 * k), f + 1)).1 (if roB Ic Jc (40 + 2 * q (80 + 4 * k) 0) (80 + 4 * k) = true then (roI Ic Jc (40 + 2 * q (80 + 4 * k) 0) (80 + 4 * k), roJ Ic Jc (40 + 2 * q (80 + 4 * k) 0) (80 + 4 * k), f) else (wI (roI Ic Jc (40 + 2 * q (80 + 4 * k) 0) (80 + 4 * k)) (80 + 4 * k) 6 2, roJ Ic Jc (40 + 2 * q (80 + 4 * k) 0) (80 + 4 * k), f + 1)).2.1 I2 J2 ∧ f + (if I2 27 k = 2 then 1 else 0) = (if roB Ic Jc (40 + 2 * q (80 + 4 * k) 0) (80 + 4 * k) = true then (roI Ic Jc (40 + 2 * q (80 + 4 * k) 0) (80 + 4 * k), roJ Ic Jc (40 + 2 * q (80 + 4 * k) 0) (80 + 4 * k), f) else (wI (roI Ic Jc (40 + 2 * q (80 + 4 * k) 0) (80 + 4 * k)) (80 + 4 * k) 6 2, roJ Ic Jc (40 + 2 * q (80 + 4 * k) 0) (80 + 4 * k), f + 1)).2.2 := by
    intro I' Im' p' hS a0 a1 a2 a3 a4 a5 a6 e1 eO eI2 eJ2
    subst e1
    subst eI2
    subst eJ2
    obtain ⟨r1, r2⟩ := min_pay hS hk rfl a0 a1 a2 a3 a4 a5 a6 (cI := roI2 Ic Jc (40 + 2 * q (80 + 4 * k) 0) (80 + 4 * k)) (cP := roP Ic Jc (40 + 2 * q (80 + 4 * k) 0) (80 + 4 * k)) rfl rfl
    rw [r2]
    have eB : roB Ic Jc (40 + 2 * q (80 + 4 * k) 0) (80 + 4 * k) = roP Ic Jc (40 + 2 * q (80 + 4 * k) 0) (80 + 4 * k) := by rw [roB, eO, Bool.true_and]
    rw [roJ, eB, roI, if_pos eO]
    cases eP : roP Ic Jc (40 + 2 * q (80 + 4 * k) 0) (80 + 4 * k) with
    | true =>
      rw [eP] at r1
      exact ⟨r1, Int32.add_zero f⟩
    | false =>
      rw [eP] at r1
      exact ⟨r1, rfl⟩
  rcases hm with ⟨hs, e1, e2⟩ | ⟨hs, I3, v, hF, hB, hv, hm⟩
  · rw [hst, Bool.not_eq_false'] at hs
    refine fin Ic Im p h hact hp.1 hp.2 h5 hR h33 (fun m hm => open_ne (h5 _ (getD_mem (by omega))) (h5 _ (getD_mem (by omega))) (along_hop hp.2 hR p.length (Nat.le_refl _) hs m hm)) ?_ ?_ e1 e2
    · rw [roI1, hA, if_pos hs]
    · rw [roO, hA, hs, Bool.true_or]
  · rw [hst, Bool.not_eq_true'] at hs
    have hx5 : x < 5 := by rw [hx]; exact h5 _ (getD_mem (by omega))
    have hy5 : y < 5 := by rw [hy]; exact h5 _ (getD_mem (by omega))
    have ea : carAt Ic (80 + 4 * k + 1) 0 = nI x := by rw [hx]; exact rou_at (k := 0) hR hp.2 (by omega)
    have eb : carAt Ic (80 + 4 * k + 1) (Ic (80 + 4 * k + 1) 1 - 1) = nI y := by rw [hR.1, nI_m1 hp.1, hy]; exact rou_at hR hp.2 (by omega)
    obtain ⟨v', b1, b2, b3⟩ := fb_rep (r := 80 + 4 * k + 1) (Or.inr (by omega)) h.gc hx5 hy5
    have e := best_one hB b1
    subst e
    have eF : roF Ic Jc (80 + 4 * k) = v.isSome := by rw [roF, ea, eb, b2]
    have eG : roG Ic Jc (80 + 4 * k) = fbI Ic Jc (nI x) (nI y) (80 + 4 * k + 1) := by rw [roG, ea, eb]
    have eO : roO Ic Jc (80 + 4 * k) = v.isSome := by rw [roO, hA, hs, eF, Bool.false_or]
    rcases hm with ⟨rfl, rfl, rfl⟩ | ⟨w, rfl, e1, e2⟩
    · have hrow : ∀ r, r ≠ 11 → roI Ic Jc (40 + 2 * q (80 + 4 * k) 0) (80 + 4 * k) r = Ic r := fun r g => by
        rw [roI, eO, if_neg (by decide), eG]
        exact fb_none (by rw [b2]; rfl) g
      have eB : roB Ic Jc (40 + 2 * q (80 + 4 * k) 0) (80 + 4 * k) = false := by rw [roB, eO]; rfl
      have eJ : roJ Ic Jc (40 + 2 * q (80 + 4 * k) 0) (80 + 4 * k) = Jc := by rw [roJ, eB, if_neg Bool.false_ne_true]
      rw [eB, eJ, if_neg Bool.false_ne_true, wI_at, if_pos rfl]
      refine ⟨?_, rfl⟩
      have h2 : SR q ns nt (roI Ic Jc (40 + 2 * q (80 + 4 * k) 0) (80 + 4 * k)) Jc I3 _ := (h.cls (fun r g1 g2 g3 => hrow r (by omega)) (fun _ _ => rfl)).mod (fun r k g1 g2 g3 => hF r k (by omega) (by omega) (by omega)) (fun _ _ _ => rfl)
      clear h
      have h := h2
      exact ⟨h.hns, h.hnt, (by have := h.c6; (try simp (disch := omega) only [wI_row, wI_off]); exact this), (by have := h.c7; (try simp (disch := omega) only [wI_row, wI_off]); exact this), (by have := h.m8; (try simp (disch := omega) only [wI_row, wI_off]); exact this), (by have := h.m13; (try simp (disch := omega) only [wI_row, wI_off]); exact this), (by have := h.tar; unfold sTar at this ⊢; (try simp (disch := omega) only [wI_row]); exact this), (by have := h.lnk; unfold sLnk at this ⊢; (try simp (disch := omega) only [wI_row]); exact this), (by have := h.zz; unfold sZ at this ⊢; (try simp (disch := omega) only [wI_row]); exact this), h.dbt, h.chg, (fun i hi => by have := h.sub i hi; (try simp (disch := omega) only [wI_row]); exact this), (fun k9 hk9 => by
      by_cases e8 : k9 = k
      · subst e8
        obtain ⟨g1, g2, g27, g28, g29, g30, g31, p', g⟩ := h.cal k9 hk9
        simp (disch := omega) only [sCal1, Rou, wI_row, wI_at, wI_off]
        exact ⟨g1, g2, trivial, g28, g29, g30, g31, p', g⟩
      · exact (h.cal k9 hk9).eq (fun r hr => by simp (disch := omega) only [wI_row]) (fun r h1 h2 => by
          by_cases e7 : r = 27
          · subst e7
            rw [wI_off e8]
          · simp (disch := omega) only [wI_row]) (fun i _ => by simp (disch := omega) only [wI_row])), (by have := h.new; unfold sNew at this ⊢; (try simp (disch := omega) only [wI_row]); exact this)⟩
    · have hl := way_len hB.1
      have hR2 := b3 w rfl
      rw [← eG] at hR2
      have hI1 : roI1 Ic Jc (80 + 4 * k) = wI (roG Ic Jc (80 + 4 * k)) (80 + 4 * k) 8 (roG Ic Jc (80 + 4 * k) (80 + 4 * k) 8 + 1) := by rw [roI1, hA, hs, if_neg Bool.false_ne_true]
      have hM := move_sr h hk hl hB.1.1.2.2.1 hF hv (G := roG Ic Jc (80 + 4 * k)) (fun r g1 g2 g3 => roG_row g1 g2 g3) hR2
      refine fin _ (mMove I3 k w.length) w hM ?_ hl.1 hl.2 hB.1.1.2.2.1 (hR2.row (wI_row (by omega)) (wI_row (by omega))) (fun m hm => by rw [move_33 hm]; exact hv.2.2 m hm) (fun m hm => ?_) hI1 eO e1 e2
      · rw [move_o (by decide) (by decide) (by decide), hF 27 k (by decide) (by decide) (fun e => absurd e (by decide))]
        exact hact
      · rw [wI_row (by omega), roG_row (by omega) (by omega) (by omega)]
        exact open_ne (hB.1.1.2.2.1 _ (getD_mem (by omega))) (hB.1.1.2.2.1 _ (getD_mem (by omega))) (chn_at w m hB.1.1.2.2.2 hm)
end MIDS5
