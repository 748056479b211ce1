section SRDEF
/-! pairs of carriers -/
theorem pair_c {x y : Nat} (hx : x < 5) (hy : y < 5) : pairI (nI x) (nI y) = nI (5 * x + y) := by
  rw [pairI, if_pos (by rw [car_of hx, car_of hy]; rfl), show (5 : Int32) = nI 5 from rfl, pk_mul, nI_add, Nat.mul_comm]
theorem isP_c {k : Nat} (hk : k < 25) : isP (nI k) = true := by
  simp only [isP, Bool.and_eq_true, Bool.not_eq_true', decide_eq_false_iff_not]
  refine ⟨nI_pos (by omega), fun hc => ?_⟩
  have hc2 : nI 25 ≤ nI k := hc
  rw [nI_leI (by omega) (by omega)] at hc2
  omega
theorem clamp_c {k : Nat} (hk : k < 1000) : (nI k).toNatClampNeg = k := nI_clamp (by omega)
theorem p5_c {x y : Nat} (hx : x < 5) (hy : y < 5) : (5 * nI x + nI y).toNatClampNeg = 5 * x + y := by rw [n5jk, clamp_c (by omega)]
theorem rate_c {I : Nat → Nat → Int32} {x y : Nat} (hx : x < 5) (hy : y < 5) : rateF I (nI x) (nI y) = I 8 (5 * x + y) := by rw [rateF, pair_c hx hy, if_pos (isP_c (by omega)), clamp_c (by omega)]
theorem debt_c {J : Nat → Nat → Int64} {x y : Nat} (hx : x < 5) (hy : y < 5) : debtF J (nI x) (nI y) = J 10 (5 * x + y) := by rw [debtF, pair_c hx hy, if_pos (isP_c (by omega)), clamp_c (by omega)]
theorem link_c {I : Nat → Nat → Int32} {x y : Nat} {u t : Int32} (hx : x < 5) (hy : y < 5) : setLinkI I (nI x) (nI y) u t = wI (wI I 8 (5 * x + y) u) 9 (5 * x + y) t := by rw [setLinkI, pair_c hx hy, if_pos (isP_c (by omega)), clamp_c (by omega)]
theorem addd_c {J : Nat → Nat → Int64} {x y : Nat} {u : Int64} (hx : x < 5) (hy : y < 5) : addDebtJ J (nI x) (nI y) u = wJ (wJ J 10 (5 * x + y) (J 10 (5 * x + y) + u)) 10 (5 * y + x) (wJ J 10 (5 * x + y) (J 10 (5 * x + y) + u) 10 (5 * y + x) - u) := by
  rw [addDebtJ, pair_c hx hy, pair_c hy hx, if_pos ⟨isP_c (by omega), isP_c (by omega)⟩, clamp_c (by omega), clamp_c (by omega)]
  rfl
theorem open_c {I : Nat → Nat → Int32} {J : Nat → Nat → Int64} {x y : Nat} (hx : x < 5) (hy : y < 5) : openF I J (nI x) (nI y) = (!decide (I 8 (5 * x + y) = -1) && !decide ((I 9 (5 * x + y)).toInt64 < J 10 (5 * x + y) + (I 8 (5 * x + y)).toInt64)) := by
  rw [openF, pair_c hx hy, isP_c (by omega), clamp_c (by omega), Bool.true_and]
/-! what holds between the class's cells (Ic, Jc) and the law's (Il, Jl): 12 l, 13 c, 14 d, 15 t, 16 n, 17 k, 18 g; no balance and no bundle above T -/
def sTar (Ic Il : Nat → Nat → Int32) : Prop := ∀ c, c < 5 → Il 15 (2 * c) = Ic 1 c ∧ Il 15 (2 * c + 1) = Ic 2 c ∧ (∃ n : Nat, 1 ≤ n ∧ n ≤ 10 ∧ Ic 1 c = nI n) ∧ ∃ n : Nat, n ≤ 1000 ∧ Ic 2 c = nI n
def sLnk (Ic Il : Nat → Nat → Int32) : Prop := ∀ k, k < 25 → (∃ n : Nat, n ≤ 100 ∧ Il 12 (2 * k) = nI n ∧ Ic 8 k = nI n ∧ Ic 9 k = Il 12 (2 * k + 1)) ∨ (Il 12 (2 * k) = -1 ∧ Ic 8 k = -1)
def sDbt (Jc Jl : Nat → Nat → Int64) : Prop := (∀ k, k < 25 → Jl 14 k = Jc 10 k) ∧ (∀ x y, x < 5 → y < 5 → Jc 10 (5 * y + x) = -Jc 10 (5 * x + y)) ∧ ∀ x, x < 5 → Jc 10 (5 * x + x) = 0
def sChg (Jc Jl : Nat → Nat → Int64) (nt : Nat) : Prop := ∀ k, k < 25 → Jl 13 k = chSum Jc nt (nI k) 60
def sSub1 (Ic Il : Nat → Nat → Int32) (T i : Nat) : Prop := (∃ h : Nat, 1 ≤ h ∧ h ≤ 10 ∧ Ic (40 + 2 * i) 1 = nI h ∧ Il 16 (4 * i + 3) = nI h ∧ (∀ t, t < h → ∃ c : Nat, c < 5 ∧ Ic (40 + 2 * i + 1) t = nI c) ∧ Il 16 (4 * i) = Ic (40 + 2 * i + 1) (h - 1)) ∧ Il 16 (4 * i + 1) = Ic (40 + 2 * i) 2 ∧ Il 16 (4 * i + 2) = Ic (40 + 2 * i) 3 ∧ (∃ n : Nat, n ≤ T ∧ Ic (40 + 2 * i) 2 = nI n) ∧ ∃ n : Nat, n ≤ T ∧ Ic (40 + 2 * i) 3 = nI n
def sCal1 (q : Nat → Nat → Nat) (ns : Nat) (Ic Il : Nat → Nat → Int32) (j : Nat) : Prop := ((q (80 + 4 * j) 0 < ns ∧ q (80 + 4 * j) 1 < ns) ∧ Il 17 (8 * j) = nI (q (80 + 4 * j) 0) ∧ Il 17 (8 * j + 1) = nI (q (80 + 4 * j) 1)) ∧ (∃ n : Nat, 1 ≤ n ∧ n ≤ 10 ∧ Ic (80 + 4 * j) 2 = nI n) ∧ (∃ n : Nat, n ≤ 1000 ∧ Ic (80 + 4 * j) 3 = nI n) ∧ Il 17 (8 * j + 2) = Ic (80 + 4 * j) 6 ∧ Il 17 (8 * j + 3) = Ic (80 + 4 * j) 2 ∧ Il 17 (8 * j + 4) = Ic (80 + 4 * j) 3 ∧ Il 17 (8 * j + 5) = Ic (80 + 4 * j) 7 ∧ Il 17 (8 * j + 6) = Ic (80 + 4 * j) 8 ∧ ∃ pp : List Nat, (1 ≤ pp.length ∧ pp.length ≤ 5 ∧ (∀ y ∈ pp, y < 5) ∧ pp.Nodup) ∧ Rou Ic (80 + 4 * j + 1) pp ∧ Il 17 (8 * j + 7) = nI (enc pp)
def sNew (Il : Nat → Nat → Int32) (nt : Nat) : Prop := ∀ j, nt ≤ j → j < 7 → Il 17 (8 * j + 2) = 0 ∧ Il 17 (8 * j + 5) = 0 ∧ Il 17 (8 * j + 6) = 0
abbrev SR (q : Nat → Nat → Nat) (ns nt T : Nat) (Ic : Nat → Nat → Int32) (Jc : Nat → Nat → Int64) (Il : Nat → Nat → Int32) (Jl : Nat → Nat → Int64) : Prop := (ns ≤ 8) ∧ (nt ≤ 7) ∧ (Ic 0 6 = nI ns) ∧ (Ic 0 7 = nI nt) ∧ (Il 18 0 = nI ns) ∧ (Il 18 1 = nI nt) ∧ (sTar Ic Il) ∧ (sLnk Ic Il) ∧ (sDbt Jc Jl) ∧ (sChg Jc Jl nt) ∧ (∀ i, i < ns → sSub1 Ic Il T i) ∧ (∀ j, j < nt → sCal1 q ns Ic Il j) ∧ (sNew Il nt)
theorem SR.hns {q : Nat → Nat → Nat} {ns nt T : Nat} {Ic : Nat → Nat → Int32} {Jc : Nat → Nat → Int64} {Il : Nat → Nat → Int32} {Jl : Nat → Nat → Int64} (h : SR q ns nt T Ic Jc Il Jl) : ns ≤ 8 := h.1
theorem SR.hnt {q : Nat → Nat → Nat} {ns nt T : Nat} {Ic : Nat → Nat → Int32} {Jc : Nat → Nat → Int64} {Il : Nat → Nat → Int32} {Jl : Nat → Nat → Int64} (h : SR q ns nt T Ic Jc Il Jl) : nt ≤ 7 := h.2.1
theorem SR.c6 {q : Nat → Nat → Nat} {ns nt T : Nat} {Ic : Nat → Nat → Int32} {Jc : Nat → Nat → Int64} {Il : Nat → Nat → Int32} {Jl : Nat → Nat → Int64} (h : SR q ns nt T Ic Jc Il Jl) : Ic 0 6 = nI ns := h.2.2.1
theorem SR.c7 {q : Nat → Nat → Nat} {ns nt T : Nat} {Ic : Nat → Nat → Int32} {Jc : Nat → Nat → Int64} {Il : Nat → Nat → Int32} {Jl : Nat → Nat → Int64} (h : SR q ns nt T Ic Jc Il Jl) : Ic 0 7 = nI nt := h.2.2.2.1
theorem SR.g0 {q : Nat → Nat → Nat} {ns nt T : Nat} {Ic : Nat → Nat → Int32} {Jc : Nat → Nat → Int64} {Il : Nat → Nat → Int32} {Jl : Nat → Nat → Int64} (h : SR q ns nt T Ic Jc Il Jl) : Il 18 0 = nI ns := h.2.2.2.2.1
theorem SR.g1 {q : Nat → Nat → Nat} {ns nt T : Nat} {Ic : Nat → Nat → Int32} {Jc : Nat → Nat → Int64} {Il : Nat → Nat → Int32} {Jl : Nat → Nat → Int64} (h : SR q ns nt T Ic Jc Il Jl) : Il 18 1 = nI nt := h.2.2.2.2.2.1
theorem SR.tar {q : Nat → Nat → Nat} {ns nt T : Nat} {Ic : Nat → Nat → Int32} {Jc : Nat → Nat → Int64} {Il : Nat → Nat → Int32} {Jl : Nat → Nat → Int64} (h : SR q ns nt T Ic Jc Il Jl) : sTar Ic Il := h.2.2.2.2.2.2.1
theorem SR.lnk {q : Nat → Nat → Nat} {ns nt T : Nat} {Ic : Nat → Nat → Int32} {Jc : Nat → Nat → Int64} {Il : Nat → Nat → Int32} {Jl : Nat → Nat → Int64} (h : SR q ns nt T Ic Jc Il Jl) : sLnk Ic Il := h.2.2.2.2.2.2.2.1
theorem SR.dbt {q : Nat → Nat → Nat} {ns nt T : Nat} {Ic : Nat → Nat → Int32} {Jc : Nat → Nat → Int64} {Il : Nat → Nat → Int32} {Jl : Nat → Nat → Int64} (h : SR q ns nt T Ic Jc Il Jl) : sDbt Jc Jl := h.2.2.2.2.2.2.2.2.1
theorem SR.chg {q : Nat → Nat → Nat} {ns nt T : Nat} {Ic : Nat → Nat → Int32} {Jc : Nat → Nat → Int64} {Il : Nat → Nat → Int32} {Jl : Nat → Nat → Int64} (h : SR q ns nt T Ic Jc Il Jl) : sChg Jc Jl nt := h.2.2.2.2.2.2.2.2.2.1
theorem SR.sub {q : Nat → Nat → Nat} {ns nt T : Nat} {Ic : Nat → Nat → Int32} {Jc : Nat → Nat → Int64} {Il : Nat → Nat → Int32} {Jl : Nat → Nat → Int64} (h : SR q ns nt T Ic Jc Il Jl) : ∀ i, i < ns → sSub1 Ic Il T i := h.2.2.2.2.2.2.2.2.2.2.1
theorem SR.cal {q : Nat → Nat → Nat} {ns nt T : Nat} {Ic : Nat → Nat → Int32} {Jc : Nat → Nat → Int64} {Il : Nat → Nat → Int32} {Jl : Nat → Nat → Int64} (h : SR q ns nt T Ic Jc Il Jl) : ∀ j, j < nt → sCal1 q ns Ic Il j := h.2.2.2.2.2.2.2.2.2.2.2.1
theorem SR.new {q : Nat → Nat → Nat} {ns nt T : Nat} {Ic : Nat → Nat → Int32} {Jc : Nat → Nat → Int64} {Il : Nat → Nat → Int32} {Jl : Nat → Nat → Int64} (h : SR q ns nt T Ic Jc Il Jl) : sNew Il nt := h.2.2.2.2.2.2.2.2.2.2.2.2
/-- a call's relation reads these rows alone -/
theorem sCal1.eq {q : Nat → Nat → Nat} {ns j : Nat} {Ic Il Ic' Il' : Nat → Nat → Int32} (h : sCal1 q ns Ic Il j) (ec : ∀ r, r = 80 + 4 * j ∨ r = 80 + 4 * j + 1 ∨ r = 80 + 4 * j + 1 + 1 → Ic' r = Ic r) (el : ∀ i, i < 8 → Il' 17 (8 * j + i) = Il 17 (8 * j + i)) : sCal1 q ns Ic' Il' j := by
  obtain ⟨⟨h1, h2, h3⟩, h4, h4b, h5, h6, h7, h8, h9, pp, h10, ⟨h11, h12⟩, h13⟩ := h
  unfold sCal1 Rou
  have e0 := el 0 (by omega)
  rw [Nat.add_zero] at e0
  rw [ec _ (Or.inl rfl), ec _ (Or.inr (Or.inl rfl)), ec _ (Or.inr (Or.inr rfl)), e0, el 1 (by omega), el 2 (by omega), el 3 (by omega), el 4 (by omega), el 5 (by omega), el 6 (by omega), el 7 (by omega)]
  exact ⟨⟨h1, h2, h3⟩, h4, h4b, h5, h6, h7, h8, h9, pp, h10, ⟨h11, h12⟩, h13⟩
theorem sSub1.eq {T i : Nat} {Ic Il Ic' Il' : Nat → Nat → Int32} (h : sSub1 Ic Il T i) (ec : ∀ r, r = 40 + 2 * i ∨ r = 40 + 2 * i + 1 → Ic' r = Ic r) (el : ∀ k, k < 4 → Il' 16 (4 * i + k) = Il 16 (4 * i + k)) : sSub1 Ic' Il' T i := by
  have e0 := el 0 (by omega)
  rw [Nat.add_zero] at e0
  unfold sSub1
  rw [ec _ (Or.inl rfl), ec _ (Or.inr rfl), e0, el 1 (by omega), el 2 (by omega), el 3 (by omega)]
  exact h
theorem sSub1.up {T T' i : Nat} {Ic Il : Nat → Nat → Int32} (h : sSub1 Ic Il T i) (hT : T ≤ T') : sSub1 Ic Il T' i := by
  obtain ⟨h1, h2, h3, ⟨n, h4, h5⟩, m, h6, h7⟩ := h
  exact ⟨h1, h2, h3, ⟨n, by omega, h5⟩, m, by omega, h7⟩
theorem chF_eq {J J' : Nat → Nat → Int64} {t : Nat} {x : Int32} (h : J' (t + 3) = J (t + 3)) : chF J' t x = chF J t x := by
  unfold chF
  rw [h]
theorem chSum_eq {J J' : Nat → Nat → Int64} {nt : Nat} {x : Int32} (h : ∀ j, j < nt → J' (80 + 4 * j + 3) = J (80 + 4 * j + 3)) : ∀ n, chSum J' nt x n = chSum J nt x n := by
  intro n
  induction n with
  | zero => rfl
  | succ n ih =>
    rw [chSum, chSum, ih]
    split
    · next g => rw [chF_eq (h _ g)]
    · rfl
theorem SR.up {q : Nat → Nat → Nat} {ns nt T : Nat} {Ic : Nat → Nat → Int32} {Jc : Nat → Nat → Int64} {Il : Nat → Nat → Int32} {Jl : Nat → Nat → Int64} {T' : Nat} (h : SR q ns nt T Ic Jc Il Jl) (hT : T ≤ T') : SR q ns nt T' Ic Jc Il Jl :=
  ⟨h.hns, h.hnt, h.c6, h.c7, h.g0, h.g1, h.tar, h.lnk, h.dbt, h.chg, fun i hi => (h.sub i hi).up hT, h.cal, h.new⟩
/-- the class's rows but the answered route 6 and 7, the weights; the law's rows -/
theorem SR.same {q : Nat → Nat → Nat} {ns nt T : Nat} {Ic : Nat → Nat → Int32} {Jc : Nat → Nat → Int64} {Il : Nat → Nat → Int32} {Jl : Nat → Nat → Int64} {Ic' Il' : Nat → Nat → Int32} {Jc' Jl' : Nat → Nat → Int64} (h : SR q ns nt T Ic Jc Il Jl) (ec : ∀ r, r < 12 ∨ 40 ≤ r → r ≠ 6 → r ≠ 7 → r ≠ 11 → Ic' r = Ic r) (el : ∀ r, 12 ≤ r → r < 19 → Il' r = Il r) (jc : ∀ r, r = 10 ∨ 80 ≤ r → Jc' r = Jc r) (jl : ∀ r, 12 ≤ r → r < 19 → Jl' r = Jl r) : SR q ns nt T Ic' Jc' Il' Jl' := by
  refine ⟨h.hns, h.hnt, ?_, ?_, ?_, ?_, ?_, ?_, ?_, ?_, fun i hi => ?_, fun j hj => ?_, ?_⟩
  · rw [ec 0 (by omega) (by omega) (by omega) (by omega)]; exact h.c6
  · rw [ec 0 (by omega) (by omega) (by omega) (by omega)]; exact h.c7
  · rw [el 18 (by omega) (by omega)]; exact h.g0
  · rw [el 18 (by omega) (by omega)]; exact h.g1
  · unfold sTar
    rw [el 15 (by omega) (by omega), ec 1 (by omega) (by omega) (by omega) (by omega), ec 2 (by omega) (by omega) (by omega) (by omega)]
    exact h.tar
  · unfold sLnk
    rw [el 12 (by omega) (by omega), ec 8 (by omega) (by omega) (by omega) (by omega), ec 9 (by omega) (by omega) (by omega) (by omega)]
    exact h.lnk
  · unfold sDbt
    rw [jl 14 (by omega) (by omega), jc 10 (by omega)]
    exact h.dbt
  · intro k hk
    rw [jl 13 (by omega) (by omega), chSum_eq (J := Jc) (fun j _ => jc _ (by omega))]
    exact h.chg k hk
  · exact (h.sub i hi).eq (fun r hr => ec r (by omega) (by omega) (by omega) (by omega)) (fun k _ => by rw [el 16 (by omega) (by omega)])
  · exact (h.cal j hj).eq (fun r hr => ec r (by omega) (by omega) (by omega) (by omega)) (fun k _ => by rw [el 17 (by omega) (by omega)])
  · unfold sNew
    rw [el 17 (by omega) (by omega)]
    exact h.new
/-- the links as both sides read them -/
def sOp (Ic : Nat → Nat → Int32) (Jc : Nat → Nat → Int64) : Nat → Nat → Bool := fun x y => openF Ic Jc (nI x) (nI y)
def sRt (Ic : Nat → Nat → Int32) : Nat → Nat → Nat := fun x y => (Ic 8 (5 * x + y)).toNatClampNeg
theorem isN_ok {n i : Nat} (h : i < n) (hn : n < 2 ^ 31) : isN n (nI i) = true := isN_yes (nI_pos (by omega)) (by rw [nI_clamp (by omega)]; exact h)
theorem isN_big2 {n i : Nat} (h : n ≤ i) (hi : i < 2 ^ 31) : isN n (nI i) = false := isN_no (nI_pos hi) (by rw [nI_clamp hi]; omega)
theorem nI_m1ne {n : Nat} (h : n < 2 ^ 31) : ¬ nI n = -1 := fun hc => nI_pos h (by rw [hc]; decide)
section
variable {q : Nat → Nat → Nat} {ns nt T : Nat} {Ic : Nat → Nat → Int32} {Jc : Nat → Nat → Int64} {Il : Nat → Nat → Int32} {Jl : Nat → Nat → Int64}
theorem SR.gc (h : SR q ns nt T Ic Jc Il Jl) : GC Ic Jc (sOp Ic Jc) (sRt Ic) := by
  intro x y hx hy
  refine ⟨rfl, fun ho => ?_⟩
  unfold sOp at ho
  unfold sRt
  rw [open_c hx hy, Bool.and_eq_true, Bool.not_eq_true', decide_eq_false_iff_not] at ho
  rcases h.lnk (5 * x + y) (by omega) with ⟨n, hn, h1, h2, h3⟩ | ⟨h1, h2⟩
  · rw [rate_c hx hy, h2, clamp_c (by omega)]
    exact ⟨rfl, hn⟩
  · exact absurd h2 ho.1
theorem SR.gl (h : SR q ns nt T Ic Jc Il Jl) : GL Il Jl (sOp Ic Jc) (sRt Ic) := by
  intro x y hx hy
  have hd := h.dbt.1 (5 * x + y) (by omega)
  refine ⟨?_, fun ho => ?_⟩
  · unfold sOp
    rw [open_c hx hy, shutL, hd]
    rcases h.lnk (5 * x + y) (by omega) with ⟨n, hn, h1, h2, h3⟩ | ⟨h1, h2⟩
    · have e1 : decide (nI n < 0) = false := decide_eq_false_iff_not.mpr (nI_pos (by omega))
      have e2 : decide (nI n = -1) = false := decide_eq_false_iff_not.mpr (nI_m1ne (by omega))
      rw [h1, h2, h3, e1, e2]
      simp
    · rw [h1, h2]
      simp
  · unfold sOp at ho
    unfold sRt
    rw [open_c hx hy, Bool.and_eq_true, Bool.not_eq_true', decide_eq_false_iff_not] at ho
    rcases h.lnk (5 * x + y) (by omega) with ⟨n, hn, h1, h2, h3⟩ | ⟨h1, h2⟩
    · rw [h1, h2, clamp_c (by omega)]
      exact ⟨rfl, hn⟩
    · exact absurd h2 ho.1
theorem SR.kq (h : SR q ns nt T Ic Jc Il Jl) : k_Q q ns nt := fun j hj => (h.cal j hj).1.1
theorem SR.len (h : SR q ns nt T Ic Jc Il Jl) : LenA Ic nt := fun j hj => by
  obtain ⟨-, -, -, -, -, -, -, -, pp, h1, h2, -⟩ := h.cal j hj
  exact LenOK.of h2.1 h1.2.1 h1.1
end
end SRDEF
