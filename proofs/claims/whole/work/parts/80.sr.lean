section SRDEF
theorem wI_row {I : Nat → Nat → Int32} {r k r' : Nat} {x : Int32} (h : r' ≠ r) : wI I r k x r' = I r' := funext fun k' => by rw [wI_eq, if_neg (by omega)]
theorem wJ_row {J : Nat → Nat → Int64} {r k r' : Nat} {x : Int64} (h : r' ≠ r) : wJ J r k x r' = J r' := funext fun k' => by rw [wJ_eq, if_neg (by omega)]
theorem wI_at {I : Nat → Nat → Int32} {r k : Nat} {x : Int32} : wI I r k x r k = x := by rw [wI_eq, if_pos ⟨rfl, rfl⟩]
theorem wI_off {I : Nat → Nat → Int32} {r k k' : Nat} {x : Int32} (h : k' ≠ k) : wI I r k x r k' = I r k' := by rw [wI_eq, if_neg (by omega)]
theorem wJ_at {J : Nat → Nat → Int64} {r k : Nat} {x : Int64} : wJ J r k x r k = x := by rw [wJ_eq, if_pos ⟨rfl, rfl⟩]
theorem wJ_off {J : Nat → Nat → Int64} {r k k' : Nat} {x : Int64} (h : k' ≠ k) : wJ J r k x r k' = J r k' := by rw [wJ_eq, if_neg (by omega)]
/-! pairs of carriers -/
theorem pair_c {x y : Nat} (hx : x < 5) (hy : y < 5) : pairI (nI x) (nI y) = nI (5 * x + y) := by
  rw [pairI, if_pos (by rw [car_of hx, car_of hy]; rfl), show (5 : Int32) = nI 5 from rfl, pk_mul, nI_add, Nat.mul_comm]
theorem isP_c {k : Nat} (hk : k < 25) : isP (nI k) = true := by
  simp only [isP, Bool.and_eq_true, Bool.not_eq_true', decide_eq_false_iff_not]
  refine ⟨nI_pos (by omega), fun hc => ?_⟩
  have hc2 : nI 25 ≤ nI k := hc
  rw [nI_leI (by omega) (by omega)] at hc2
  omega
theorem clamp_c {k : Nat} (hk : k < 1000) : (nI k).toNatClampNeg = k := nI_clamp (by omega)
theorem p5_c {x y : Nat} (hx : x < 5) (hy : y < 5) : (5 * nI x + nI y).toNatClampNeg = 5 * x + y := by rw [n5jk, clamp_c (by omega)]
theorem rate_c {I : Nat → Nat → Int32} {x y : Nat} (hx : x < 5) (hy : y < 5) : rateF I (nI x) (nI y) = I 8 (5 * x + y) := by rw [rateF, pair_c hx hy, if_pos (isP_c (by omega)), clamp_c (by omega)]
theorem debt_c {J : Nat → Nat → Int64} {x y : Nat} (hx : x < 5) (hy : y < 5) : debtF J (nI x) (nI y) = J 10 (5 * x + y) := by rw [debtF, pair_c hx hy, if_pos (isP_c (by omega)), clamp_c (by omega)]
theorem link_c {I : Nat → Nat → Int32} {x y : Nat} {u t : Int32} (hx : x < 5) (hy : y < 5) : setLinkI I (nI x) (nI y) u t = wI (wI I 8 (5 * x + y) u) 9 (5 * x + y) t := by rw [setLinkI, pair_c hx hy, if_pos (isP_c (by omega)), clamp_c (by omega)]
theorem addd_c {J : Nat → Nat → Int64} {x y : Nat} {u : Int64} (hx : x < 5) (hy : y < 5) : addDebtJ J (nI x) (nI y) u = wJ (wJ J 10 (5 * x + y) (J 10 (5 * x + y) + u)) 10 (5 * y + x) (wJ J 10 (5 * x + y) (J 10 (5 * x + y) + u) 10 (5 * y + x) - u) := by
  rw [addDebtJ, pair_c hx hy, pair_c hy hx, if_pos ⟨isP_c (by omega), isP_c (by omega)⟩, clamp_c (by omega), clamp_c (by omega)]
  rfl
theorem open_c {I : Nat → Nat → Int32} {J : Nat → Nat → Int64} {x y : Nat} (hx : x < 5) (hy : y < 5) : openF I J (nI x) (nI y) = (!decide (I 8 (5 * x + y) = -1) && !decide ((I 9 (5 * x + y)).toInt64 < J 10 (5 * x + y) + (I 8 (5 * x + y)).toInt64)) := by
  rw [openF, pair_c hx hy, isP_c (by omega), clamp_c (by omega), Bool.true_and]
theorem debtm_c {J : Nat → Nat → Int64} {x y : Nat} (hx : x < 5) (hy : y < 5) : debtM J (nI x) (nI y) = J 19 (5 * x + y) - J 20 (5 * x + y) - J 19 (5 * y + x) + J 20 (5 * y + x) := by rw [debtM, p5_c hx hy, p5_c hy hx]
theorem shut_c {I : Nat → Nat → Int32} {J : Nat → Nat → Int64} {x y : Nat} (hx : x < 5) (hy : y < 5) : shutM I J (nI x) (nI y) = (decide (I 16 (5 * x + y) = 0) || decide ((I 18 (5 * x + y)).toInt64 < debtM J (nI x) (nI y) + (I 17 (5 * x + y)).toInt64)) := by
  rw [shutM, p5_c hx hy]
/-! what holds between the class's cells (Ic, Jc) and the reference's (Im, Jm) -/
def sTar (Ic Im : Nat → Nat → Int32) : Prop := ∀ c, c < 5 → Im 14 c = Ic 1 c ∧ Im 15 c = Ic 2 c ∧ ∃ n : Nat, 1 ≤ n ∧ n ≤ 10 ∧ Ic 1 c = nI n
def sLnk (Ic Im : Nat → Nat → Int32) : Prop := ∀ k, k < 25 → (Im 16 k = 1 ∧ Ic 8 k = Im 17 k ∧ Ic 9 k = Im 18 k ∧ ∃ n : Nat, n ≤ 100 ∧ Im 17 k = nI n) ∨ (Im 16 k = 0 ∧ Ic 8 k = -1)
def sZ (Im : Nat → Nat → Int32) : Prop := ∀ k, Im 16 k = 0 ∨ Im 16 k = 1
def sDbt (Jc Jm : Nat → Nat → Int64) : Prop := ∀ x y, x < 5 → y < 5 → Jc 10 (5 * x + y) = Jm 19 (5 * x + y) - Jm 20 (5 * x + y) - Jm 19 (5 * y + x) + Jm 20 (5 * y + x)
def sChg (Jc Jm : Nat → Nat → Int64) (nt : Nat) : Prop := ∀ k, k < 25 → Jm 19 k = chSum Jc nt (nI k) 60
def sSub (Ic Im : Nat → Nat → Int32) (ns : Nat) : Prop := ∀ i, i < ns → (∃ h : Nat, 1 ≤ h ∧ h ≤ 10 ∧ Ic (40 + 2 * i) 1 = nI h ∧ Im 21 i = nI h ∧ ∀ t, t < h → Ic (40 + 2 * i + 1) t = Im 22 (10 * i + t) ∧ ∃ c : Nat, c < 5 ∧ Im 22 (10 * i + t) = nI c) ∧ Im 23 i = Ic (40 + 2 * i) 2 ∧ Im 24 i = Ic (40 + 2 * i) 3
def sCal1 (q : Nat → Nat → Nat) (ns : Nat) (Ic Im : Nat → Nat → Int32) (j : Nat) : Prop := ((q (80 + 4 * j) 0 < ns ∧ q (80 + 4 * j) 1 < ns) ∧ Im 25 j = nI (q (80 + 4 * j) 0) ∧ Im 26 j = nI (q (80 + 4 * j) 1)) ∧ (∃ n : Nat, 1 ≤ n ∧ n ≤ 10 ∧ Im 28 j = nI n) ∧ Im 27 j = Ic (80 + 4 * j) 6 ∧ Im 28 j = Ic (80 + 4 * j) 2 ∧ Im 29 j = Ic (80 + 4 * j) 3 ∧ Im 30 j = Ic (80 + 4 * j) 7 ∧ Im 31 j = Ic (80 + 4 * j) 8 ∧ ∃ p : List Nat, (1 ≤ p.length ∧ p.length ≤ 5 ∧ ∀ y ∈ p, y < 5) ∧ Rou Ic (80 + 4 * j + 1) p ∧ Im 32 j = nI p.length ∧ ∀ i, i < p.length → Im 33 (5 * j + i) = nI (p.getD i 0)
def sNew (Im : Nat → Nat → Int32) (nt : Nat) : Prop := ∀ j, nt ≤ j → j < 60 → Im 30 j = 0 ∧ Im 31 j = 0
abbrev SR (q : Nat → Nat → Nat) (ns nt : Nat) (Ic : Nat → Nat → Int32) (Jc : Nat → Nat → Int64) (Im : Nat → Nat → Int32) (Jm : Nat → Nat → Int64) : Prop := (ns ≤ 20) ∧ (nt ≤ 60) ∧ (Ic 0 6 = nI ns) ∧ (Ic 0 7 = nI nt) ∧ (Im 13 8 = nI ns) ∧ (Im 13 13 = nI nt) ∧ (sTar Ic Im) ∧ (sLnk Ic Im) ∧ (sZ Im) ∧ (sDbt Jc Jm) ∧ (sChg Jc Jm nt) ∧ (sSub Ic Im ns) ∧ (∀ j, j < nt → sCal1 q ns Ic Im j) ∧ (sNew Im nt)
theorem SR.hns {q : Nat → Nat → Nat} {ns nt : Nat} {Ic : Nat → Nat → Int32} {Jc : Nat → Nat → Int64} {Im : Nat → Nat → Int32} {Jm : Nat → Nat → Int64} (h : SR q ns nt Ic Jc Im Jm) : ns ≤ 20 := h.1
theorem SR.hnt {q : Nat → Nat → Nat} {ns nt : Nat} {Ic : Nat → Nat → Int32} {Jc : Nat → Nat → Int64} {Im : Nat → Nat → Int32} {Jm : Nat → Nat → Int64} (h : SR q ns nt Ic Jc Im Jm) : nt ≤ 60 := h.2.1
theorem SR.c6 {q : Nat → Nat → Nat} {ns nt : Nat} {Ic : Nat → Nat → Int32} {Jc : Nat → Nat → Int64} {Im : Nat → Nat → Int32} {Jm : Nat → Nat → Int64} (h : SR q ns nt Ic Jc Im Jm) : Ic 0 6 = nI ns := h.2.2.1
theorem SR.c7 {q : Nat → Nat → Nat} {ns nt : Nat} {Ic : Nat → Nat → Int32} {Jc : Nat → Nat → Int64} {Im : Nat → Nat → Int32} {Jm : Nat → Nat → Int64} (h : SR q ns nt Ic Jc Im Jm) : Ic 0 7 = nI nt := h.2.2.2.1
theorem SR.m8 {q : Nat → Nat → Nat} {ns nt : Nat} {Ic : Nat → Nat → Int32} {Jc : Nat → Nat → Int64} {Im : Nat → Nat → Int32} {Jm : Nat → Nat → Int64} (h : SR q ns nt Ic Jc Im Jm) : Im 13 8 = nI ns := h.2.2.2.2.1
theorem SR.m13 {q : Nat → Nat → Nat} {ns nt : Nat} {Ic : Nat → Nat → Int32} {Jc : Nat → Nat → Int64} {Im : Nat → Nat → Int32} {Jm : Nat → Nat → Int64} (h : SR q ns nt Ic Jc Im Jm) : Im 13 13 = nI nt := h.2.2.2.2.2.1
theorem SR.tar {q : Nat → Nat → Nat} {ns nt : Nat} {Ic : Nat → Nat → Int32} {Jc : Nat → Nat → Int64} {Im : Nat → Nat → Int32} {Jm : Nat → Nat → Int64} (h : SR q ns nt Ic Jc Im Jm) : sTar Ic Im := h.2.2.2.2.2.2.1
theorem SR.lnk {q : Nat → Nat → Nat} {ns nt : Nat} {Ic : Nat → Nat → Int32} {Jc : Nat → Nat → Int64} {Im : Nat → Nat → Int32} {Jm : Nat → Nat → Int64} (h : SR q ns nt Ic Jc Im Jm) : sLnk Ic Im := h.2.2.2.2.2.2.2.1
theorem SR.zz {q : Nat → Nat → Nat} {ns nt : Nat} {Ic : Nat → Nat → Int32} {Jc : Nat → Nat → Int64} {Im : Nat → Nat → Int32} {Jm : Nat → Nat → Int64} (h : SR q ns nt Ic Jc Im Jm) : sZ Im := h.2.2.2.2.2.2.2.2.1
theorem SR.dbt {q : Nat → Nat → Nat} {ns nt : Nat} {Ic : Nat → Nat → Int32} {Jc : Nat → Nat → Int64} {Im : Nat → Nat → Int32} {Jm : Nat → Nat → Int64} (h : SR q ns nt Ic Jc Im Jm) : sDbt Jc Jm := h.2.2.2.2.2.2.2.2.2.1
theorem SR.chg {q : Nat → Nat → Nat} {ns nt : Nat} {Ic : Nat → Nat → Int32} {Jc : Nat → Nat → Int64} {Im : Nat → Nat → Int32} {Jm : Nat → Nat → Int64} (h : SR q ns nt Ic Jc Im Jm) : sChg Jc Jm nt := h.2.2.2.2.2.2.2.2.2.2.1
theorem SR.sub {q : Nat → Nat → Nat} {ns nt : Nat} {Ic : Nat → Nat → Int32} {Jc : Nat → Nat → Int64} {Im : Nat → Nat → Int32} {Jm : Nat → Nat → Int64} (h : SR q ns nt Ic Jc Im Jm) : sSub Ic Im ns := h.2.2.2.2.2.2.2.2.2.2.2.1
theorem SR.cal {q : Nat → Nat → Nat} {ns nt : Nat} {Ic : Nat → Nat → Int32} {Jc : Nat → Nat → Int64} {Im : Nat → Nat → Int32} {Jm : Nat → Nat → Int64} (h : SR q ns nt Ic Jc Im Jm) : ∀ j, j < nt → sCal1 q ns Ic Im j := h.2.2.2.2.2.2.2.2.2.2.2.2.1
theorem SR.new {q : Nat → Nat → Nat} {ns nt : Nat} {Ic : Nat → Nat → Int32} {Jc : Nat → Nat → Int64} {Im : Nat → Nat → Int32} {Jm : Nat → Nat → Int64} (h : SR q ns nt Ic Jc Im Jm) : sNew Im nt := h.2.2.2.2.2.2.2.2.2.2.2.2.2
/-- a call's relation reads these rows alone -/
theorem sCal1.eq {q : Nat → Nat → Nat} {ns j : Nat} {Ic Im Ic' Im' : Nat → Nat → Int32} (h : sCal1 q ns Ic Im j) (ec : ∀ r, r = 80 + 4 * j ∨ r = 80 + 4 * j + 1 ∨ r = 80 + 4 * j + 1 + 1 → Ic' r = Ic r) (em : ∀ r, 25 ≤ r → r ≤ 32 → Im' r j = Im r j) (e33 : ∀ i, i < 5 → Im' 33 (5 * j + i) = Im 33 (5 * j + i)) : sCal1 q ns Ic' Im' j := by
  obtain ⟨⟨h1, h2, h3⟩, h4, h5, h6, h7, h8, h9, p, h10, ⟨h11, h12⟩, h13, h14⟩ := h
  unfold sCal1 Rou
  rw [ec _ (Or.inl rfl), ec _ (Or.inr (Or.inl rfl)), ec _ (Or.inr (Or.inr rfl)), em 25 (by omega) (by omega), em 26 (by omega) (by omega), em 27 (by omega) (by omega), em 28 (by omega) (by omega), em 29 (by omega) (by omega), em 30 (by omega) (by omega), em 31 (by omega) (by omega), em 32 (by omega) (by omega)]
  exact ⟨⟨h1, h2, h3⟩, h4, h5, h6, h7, h8, h9, p, h10, ⟨h11, h12⟩, h13, fun i hi => by rw [e33 i (by omega)]; exact h14 i hi⟩
theorem chF_eq {J J' : Nat → Nat → Int64} {t : Nat} {x : Int32} (h : J' (t + 3) = J (t + 3)) : chF J' t x = chF J t x := by
  unfold chF
  rw [h]
theorem chSum_eq {J J' : Nat → Nat → Int64} {nt : Nat} {x : Int32} (h : ∀ j, j < nt → J' (80 + 4 * j + 3) = J (80 + 4 * j + 3)) : ∀ n, chSum J' nt x n = chSum J nt x n := by
  intro n
  induction n with
  | zero => rfl
  | succ n ih =>
    rw [chSum, chSum, ih]
    split
    · next g => rw [chF_eq (h _ g)]
    · rfl
/-- rows that no relation reads: the answered route 6 and 7, the weights, thrown, the search's rows -/
def scr (r k : Nat) : Prop := r = 6 ∨ r = 7 ∨ r = 11 ∨ (r = 13 ∧ k ≠ 8 ∧ k ≠ 13) ∨ r = 34 ∨ r = 35
theorem SR.same {q : Nat → Nat → Nat} {ns nt : Nat} {Ic Im Ic' Im' : Nat → Nat → Int32} {Jc Jm Jc' Jm' : Nat → Nat → Int64} (h : SR q ns nt Ic Jc Im Jm) (ec : ∀ r k, ¬ scr r k → Ic' r k = Ic r k) (em : ∀ r k, ¬ scr r k → Im' r k = Im r k) (jc : ∀ r, r ≠ 12 → Jc' r = Jc r) (jm : ∀ r, r ≠ 12 → Jm' r = Jm r) : SR q ns nt Ic' Jc' Im' Jm' := by
  have rc : ∀ r, r ≠ 6 → r ≠ 7 → r ≠ 11 → r ≠ 13 → r ≠ 34 → r ≠ 35 → Ic' r = Ic r := fun r h1 h2 h3 h4 h5 h6 => funext fun k => ec r k (by unfold scr; omega)
  have rm : ∀ r, r ≠ 6 → r ≠ 7 → r ≠ 11 → r ≠ 13 → r ≠ 34 → r ≠ 35 → Im' r = Im r := fun r h1 h2 h3 h4 h5 h6 => funext fun k => em r k (by unfold scr; omega)
  refine ⟨h.hns, h.hnt, ?_, ?_, ?_, ?_, ?_, ?_, ?_, ?_, ?_, ?_, ?_, ?_⟩
  · rw [rc 0 (by decide) (by decide) (by decide) (by decide) (by decide) (by decide)]; exact h.c6
  · rw [rc 0 (by decide) (by decide) (by decide) (by decide) (by decide) (by decide)]; exact h.c7
  · rw [em 13 8 (by unfold scr; omega)]; exact h.m8
  · rw [em 13 13 (by unfold scr; omega)]; exact h.m13
  · unfold sTar
    rw [rm 14 (by decide) (by decide) (by decide) (by decide) (by decide) (by decide), rm 15 (by decide) (by decide) (by decide) (by decide) (by decide) (by decide), rc 1 (by decide) (by decide) (by decide) (by decide) (by decide) (by decide), rc 2 (by decide) (by decide) (by decide) (by decide) (by decide) (by decide)]
    exact h.tar
  · unfold sLnk
    rw [rm 16 (by decide) (by decide) (by decide) (by decide) (by decide) (by decide), rm 17 (by decide) (by decide) (by decide) (by decide) (by decide) (by decide), rm 18 (by decide) (by decide) (by decide) (by decide) (by decide) (by decide), rc 8 (by decide) (by decide) (by decide) (by decide) (by decide) (by decide), rc 9 (by decide) (by decide) (by decide) (by decide) (by decide) (by decide)]
    exact h.lnk
  · unfold sZ
    rw [rm 16 (by decide) (by decide) (by decide) (by decide) (by decide) (by decide)]
    exact h.zz
  · unfold sDbt
    rw [jc 10 (by decide), jm 19 (by decide), jm 20 (by decide)]
    exact h.dbt
  · intro k hk
    rw [jm 19 (by decide), chSum_eq (J := Jc) (fun j _ => jc _ (by omega))]
    exact h.chg k hk
  · intro i hi
    rw [rm 21 (by decide) (by decide) (by decide) (by decide) (by decide) (by decide), rm 22 (by decide) (by decide) (by decide) (by decide) (by decide) (by decide), rm 23 (by decide) (by decide) (by decide) (by decide) (by decide) (by decide), rm 24 (by decide) (by decide) (by decide) (by decide) (by decide) (by decide), rc (40 + 2 * i) (by omega) (by omega) (by omega) (by omega) (by omega) (by omega), rc (40 + 2 * i + 1) (by omega) (by omega) (by omega) (by omega) (by omega) (by omega)]
    exact h.sub i hi
  · intro j hj
    exact (h.cal j hj).eq (fun r hr => rc r (by omega) (by omega) (by omega) (by omega) (by omega) (by omega)) (fun r h1 h2 => by rw [rm r (by omega) (by omega) (by omega) (by omega) (by omega) (by omega)]) (fun i _ => by rw [rm 33 (by decide) (by decide) (by decide) (by decide) (by decide) (by decide)])
  · unfold sNew
    rw [rm 30 (by decide) (by decide) (by decide) (by decide) (by decide) (by decide), rm 31 (by decide) (by decide) (by decide) (by decide) (by decide) (by decide)]
    exact h.new
/-- the links as both sides read them -/
def sOp (Ic : Nat → Nat → Int32) (Jc : Nat → Nat → Int64) : Nat → Nat → Bool := fun x y => openF Ic Jc (nI x) (nI y)
def sRt (Ic : Nat → Nat → Int32) : Nat → Nat → Nat := fun x y => (Ic 8 (5 * x + y)).toNatClampNeg
section
variable {q : Nat → Nat → Nat} {ns nt : Nat} {Ic Im : Nat → Nat → Int32} {Jc Jm : Nat → Nat → Int64}
theorem SR.debt (h : SR q ns nt Ic Jc Im Jm) {x y : Nat} (hx : x < 5) (hy : y < 5) : debtM Jm (nI x) (nI y) = debtF Jc (nI x) (nI y) := by
  rw [debtm_c hx hy, debt_c hx hy, h.dbt x y hx hy]
theorem SR.shut (h : SR q ns nt Ic Jc Im Jm) {x y : Nat} (hx : x < 5) (hy : y < 5) : shutM Im Jm (nI x) (nI y) = !openF Ic Jc (nI x) (nI y) := by
  rw [shut_c hx hy, open_c hx hy, h.debt hx hy, debt_c hx hy]
  rcases h.lnk (5 * x + y) (by omega) with ⟨h1, h2, h3, n, hn, h4⟩ | ⟨h1, h2⟩
  · have e1 : decide (Im 16 (5 * x + y) = 0) = false := by rw [h1]; decide
    have e2 : decide (Ic 8 (5 * x + y) = -1) = false := by
      rw [decide_eq_false_iff_not, h2, h4]
      intro hc
      exact nI_pos (n := n) (by omega) (by rw [hc]; decide)
    rw [e1, e2, h2, h3]
    simp
  · rw [h1, h2]
    simp
theorem SR.gc (h : SR q ns nt Ic Jc Im Jm) : GC Ic Jc (sOp Ic Jc) (sRt Ic) := by
  intro x y hx hy
  refine ⟨rfl, fun ho => ?_⟩
  unfold sOp at ho
  unfold sRt
  rw [open_c hx hy, Bool.and_eq_true, Bool.not_eq_true', decide_eq_false_iff_not] at ho
  rcases h.lnk (5 * x + y) (by omega) with ⟨h1, h2, h3, n, hn, h4⟩ | ⟨h1, h2⟩
  · rw [rate_c hx hy, h2, h4, clamp_c (by omega)]
    exact ⟨rfl, hn⟩
  · exact absurd h2 ho.1
theorem SR.grf (h : SR q ns nt Ic Jc Im Jm) : Grf Im Jm (sOp Ic Jc) (sRt Ic) := by
  intro x y hx hy
  refine ⟨h.shut hx hy, fun ho => ?_⟩
  obtain ⟨h5, h6⟩ := (h.gc x y hx hy).2 ho
  refine ⟨?_, h6⟩
  unfold sOp at ho
  rw [open_c hx hy, Bool.and_eq_true, Bool.not_eq_true', decide_eq_false_iff_not] at ho
  rw [rate_c hx hy] at h5
  rcases h.lnk (5 * x + y) (by omega) with ⟨h1, h2, h3, n, hn, h4⟩ | ⟨h1, h2⟩
  · rw [← h2, h5]
  · exact absurd h2 ho.1
theorem SR.num (h : SR q ns nt Ic Jc Im Jm) (a : Int32) : isNum Im a = isN ns a := num_eq h.m8 h.hns
theorem SR.iscal (h : SR q ns nt Ic Jc Im Jm) (a : Int32) : isCal Im a = isN nt a := cal_eq h.m13 h.hnt
theorem SR.kq (h : SR q ns nt Ic Jc Im Jm) : k_Q q ns nt := fun j hj => (h.cal j hj).1.1
theorem SR.hh (h : SR q ns nt Ic Jc Im Jm) : k_HH Im ns := fun i hi => by
  obtain ⟨⟨n, h1, h2, -, h3, -⟩, -⟩ := h.sub i hi
  exact ⟨n, h1, h2, h3⟩
theorem SR.ll (h : SR q ns nt Ic Jc Im Jm) : k_LL Im nt := fun j hj => by
  obtain ⟨-, -, -, -, -, -, -, p, h1, -, h2, -⟩ := h.cal j hj
  exact ⟨p.length, h1.1, h1.2.1, h2⟩
theorem SR.len (h : SR q ns nt Ic Jc Im Jm) : LenA Ic nt := fun j hj => by
  obtain ⟨-, -, -, -, -, -, -, p, h1, h2, -⟩ := h.cal j hj
  exact LenOK.of h2.1 h1.2.1 h1.1
theorem SR.nar (h : SR q ns nt Ic Jc Im Jm) : ∀ k, narrow .boolean (.int (Im 16 k)) = .int (Im 16 k) := fun k => by
  rcases h.zz k with e | e <;> rw [e] <;> decide
end
end SRDEF
