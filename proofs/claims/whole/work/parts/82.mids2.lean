section MIDS2
theorem SR.mod {q : Nat → Nat → Nat} {ns nt : Nat} {Ic Im Im' : Nat → Nat → Int32} {Jc Jm Jm' : Nat → Nat → Int64} (h : SR q ns nt Ic Jc Im Jm) (em : ∀ r k, 13 ≤ r → r < 34 → (r = 13 → k = 8 ∨ k = 13) → Im' r k = Im r k) (jm : ∀ r, 19 ≤ r → r ≤ 20 → Jm' r = Jm r) : SR q ns nt Ic Jc Im' Jm' := by
  have rm : ∀ r, 14 ≤ r → r < 34 → Im' r = Im r := fun r h1 h2 => funext fun k => em r k (by omega) h2 (by omega)
  refine ⟨h.hns, h.hnt, h.c6, h.c7, ?_, ?_, ?_, ?_, ?_, ?_, ?_, ?_, ?_, ?_⟩
  · rw [em 13 8 (by omega) (by omega) (by omega)]; exact h.m8
  · rw [em 13 13 (by omega) (by omega) (by omega)]; exact h.m13
  · unfold sTar
    rw [rm 14 (by omega) (by omega), rm 15 (by omega) (by omega)]
    exact h.tar
  · unfold sLnk
    rw [rm 16 (by omega) (by omega), rm 17 (by omega) (by omega), rm 18 (by omega) (by omega)]
    exact h.lnk
  · unfold sZ
    rw [rm 16 (by omega) (by omega)]
    exact h.zz
  · unfold sDbt
    rw [jm 19 (by omega) (by omega), jm 20 (by omega) (by omega)]
    exact h.dbt
  · unfold sChg
    rw [jm 19 (by omega) (by omega)]
    exact h.chg
  · unfold sSub
    rw [rm 21 (by omega) (by omega), rm 22 (by omega) (by omega), rm 23 (by omega) (by omega), rm 24 (by omega) (by omega)]
    exact h.sub
  · intro j hj
    exact (h.cal j hj).eq (fun r hr => rfl) (fun r h1 h2 => by rw [rm r (by omega) (by omega)]) (fun i _ => by rw [rm 33 (by omega) (by omega)])
  · unfold sNew
    rw [rm 30 (by omega) (by omega), rm 31 (by omega) (by omega)]
    exact h.new
theorem sCal1.mono {q : Nat → Nat → Nat} {ns ns' j : Nat} {Ic Im : Nat → Nat → Int32} (h : sCal1 q ns Ic Im j) (hn : ns ≤ ns') : sCal1 q ns' Ic Im j := by
  obtain ⟨⟨⟨h1, h2⟩, h3⟩, h4⟩ := h
  exact ⟨⟨⟨by omega, by omega⟩, h3⟩, h4⟩
theorem num_row {I : Nat → Nat → Int32} {ns r : Nat} {a b c : Int32} (h1 : r ≠ 40 + 2 * ns) (h2 : r ≠ 40 + 2 * ns + 1) : numI0 I ns a b c r = I r := funext fun k => by rw [numI0, if_neg h1, if_neg h2]
theorem num_0 {I : Nat → Nat → Int32} {ns k : Nat} {a b c : Int32} : numI0 I ns a b c (40 + 2 * ns) k = if k = 1 then 1 else if k = 2 then b else if k = 3 then c else 0 := by rw [numI0, if_pos rfl]
theorem num_1 {I : Nat → Nat → Int32} {ns : Nat} {a b c : Int32} : numI0 I ns a b c (40 + 2 * ns + 1) 0 = a := by rw [numI0, if_neg (by omega), if_pos rfl, if_pos rfl]
theorem mid_number {cy : Nat → ClassId} {R : List Nat} {ad : Nat → Nat} {q : Nat → Nat → Nat} {ns nt : Nat} {I : Nat → Nat → Int32} {J : Nat → Nat → Int64} (h : SR q ns nt I J I J) (hX : k_RX R ns nt) {a b c2 : Int32} {r : Int32} {u' : k_S} (hp : (∃ (v : Int32) (u : k_S), ((isCar a = true ∧ (isWi b 0 10000 && isWi c2 0 1000) = true ∧ ns < 20) ∧ v = nI ns ∧ ∃ ad' : Nat → Nat, (∀ y, y ≠ 40 + 2 * ns → y ≠ 40 + 2 * ns + 1 → ad' y = ad y) ∧ u = (R ++ [40 + 2 * ns] ++ [40 + 2 * ns + 1], ad', k_c cy ad' q (ns + 1) nt (numI I ns a b c2) J)) ∧ r = 0 ∧ k_O u v.toInt64 u') ∨ (∃ u : k_S, (((e_IO = e_IO ∧ isCar a = false) ∨ (e_IO = e_IA ∧ isCar a = true ∧ (isWi b 0 10000 && isWi c2 0 1000) = false) ∨ (e_IO = e_IS ∧ isCar a = true ∧ (isWi b 0 10000 && isWi c2 0 1000) = true ∧ ¬ ns < 20)) ∧ u = (R, ad, k_c cy ad q ns nt I J)) ∧ r = 1 ∧ u' = u) ∨ (∃ u : k_S, (((e_IA = e_IO ∧ isCar a = false) ∨ (e_IA = e_IA ∧ isCar a = true ∧ (isWi b 0 10000 && isWi c2 0 1000) = false) ∨ (e_IA = e_IS ∧ isCar a = true ∧ (isWi b 0 10000 && isWi c2 0 1000) = true ∧ ¬ ns < 20)) ∧ u = (R, ad, k_c cy ad q ns nt I J)) ∧ r = 2 ∧ u' = u) ∨ (∃ u : k_S, (((e_IS = e_IO ∧ isCar a = false) ∨ (e_IS = e_IA ∧ isCar a = true ∧ (isWi b 0 10000 && isWi c2 0 1000) = false) ∨ (e_IS = e_IS ∧ isCar a = true ∧ (isWi b 0 10000 && isWi c2 0 1000) = true ∧ ¬ ns < 20)) ∧ u = (R, ad, k_c cy ad q ns nt I J)) ∧ r = 3 ∧ u' = u)) : ∃ (R' : List Nat) (ad' : Nat → Nat) (ns' : Nat) (I1 : Nat → Nat → Int32) (J1 : Nat → Nat → Int64), u' = (R', ad', k_c cy ad' q ns' nt I1 J1) ∧ k_RX R' ns' nt ∧ (∀ y, y < 40 → ad' y = ad y) ∧ SR q ns nt I J I1 J1 ∧ kFin q ns' nt (if mNum I1 a b c2 = 0 then wI (wI (wI (wI (wI (wI I1 13 0 0) 21 (I1 13 8).toNatClampNeg 1) 22 (10 * I1 13 8).toNatClampNeg a) 23 (I1 13 8).toNatClampNeg b) 24 (I1 13 8).toNatClampNeg c2) 13 8 (I1 13 8 + 1) else wI I1 13 0 (mNum I1 a b c2)) J1 r (if mNum I1 a b c2 = 0 then I1 13 8 + 1 - 1 else 0).toInt64 := by
  have hns := h.hns
  rcases hp with ⟨v, u, ⟨⟨hc, hok2, hlt⟩, rfl, ad', had, rfl⟩, rfl, hO⟩ | ⟨u, ⟨hx, rfl⟩, rfl, rfl⟩ | ⟨u, ⟨hx, rfl⟩, rfl, rfl⟩ | ⟨u, ⟨hx, rfl⟩, rfl, rfl⟩
  · have h1 : SR q ns nt I J (numI I ns a b c2) (wJ J 12 0 (nI ns).toInt64) := h.mod (fun r k g1 g2 _ => by rw [numI, wI_row (by omega), num_row (by omega) (by omega)]) (fun r g1 g2 => wJ_row (by omega))
    refine ⟨_, ad', ns + 1, _, _, kO_c hO, RX_num hX hlt, fun y hy => had y (by omega) (by omega), h1, ?_⟩
    have e8 := h1.m8
    have e : mNum (numI I ns a b c2) a b c2 = 0 := by
      rw [mNum, if_pos hc, if_pos hok2, e8, if_neg ?_]
      show ¬ nI ns = nI 20
      rw [nI_eq (by omega) (by omega)]
      omega
    rw [if_pos e, if_pos e, e8, clamp_c (by omega), show (10 : Int32) * nI ns = nI (10 * ns) by rw [show (10 : Int32) = nI 10 from rfl, pk_mul], clamp_c (by omega), nI_1, nI_p1]
    obtain ⟨c, hc5, rfl⟩ := car_nI hc
    refine ⟨⟨(by omega), h.hnt, (by simp (disch := omega) only [wI_row, numI]; exact wI_at), (by simp (disch := omega) only [wI_row, wI_off, numI, num_row]; exact h.c7), wI_at, (by simp (disch := omega) only [wI_row, wI_off, numI, num_row]; exact h.m13), (by have := h.tar; unfold sTar at this ⊢; simp (disch := omega) only [wI_row, numI, num_row]; exact this), (by have := h.lnk; unfold sLnk at this ⊢; simp (disch := omega) only [wI_row, numI, num_row]; exact this), (by have := h.zz; unfold sZ at this ⊢; simp (disch := omega) only [wI_row, numI, num_row]; exact this), (by have := h.dbt; unfold sDbt at this ⊢; (try simp (disch := omega) only [wJ_row]); exact this), (fun k hk => by rw [chSum_eq (J := J) (fun j _ => by try simp (disch := omega) only [wJ_row])]; (try simp (disch := omega) only [wJ_row]); exact h.chg k hk), (fun k hk => by
          by_cases e8 : k = ns
          · subst e8
            simp (disch := omega) only [wI_row, wI_at, wI_off, numI, num_row, num_0]
            refine ⟨⟨1, by omega, by omega, rfl, rfl, fun t ht => ?_⟩, rfl, rfl⟩
            have e7 : t = 0 := by omega
            subst e7
            simp (disch := omega) only [Nat.add_zero, wI_row, wI_at, wI_off, num_1]
            exact ⟨trivial, c, hc5, rfl⟩
          · obtain ⟨⟨m', g1, g2, g3, g4, g5⟩, g6⟩ := h.sub k (by omega)
            simp (disch := omega) only [wI_row, wI_off, numI, num_row]
            refine ⟨⟨m', g1, g2, g3, g4, fun t ht => ?_⟩, g6⟩
            simp (disch := omega) only [wI_row, wI_off, numI, num_row]
            exact g5 t ht), (fun j hj => ((h.cal j hj).mono (Nat.le_succ ns)).eq (fun r hr => by simp (disch := omega) only [wI_row, numI, num_row]) (fun r h1 h2 => by simp (disch := omega) only [wI_row, numI, num_row]) (fun i _ => by simp (disch := omega) only [wI_row, numI, num_row])), (by have := h.new; unfold sNew at this ⊢; simp (disch := omega) only [wI_row, numI, num_row]; exact this)⟩, ?_, fun _ => wJ_at⟩
    simp (disch := omega) only [wI_row, wI_off]
    exact wI_at
  · rcases hx with ⟨-, hx⟩ | ⟨hx, -⟩ | ⟨hx, -⟩
    · refine ⟨R, ad, ns, I, J, rfl, hX, fun _ _ => rfl, h, ?_⟩
      have e : mNum I a b c2 = 1 := by rw [mNum, if_neg (by rw [hx]; exact Bool.false_ne_true)]
      rw [if_neg (by rw [e]; decide), e]
      exact fin_th h (by decide)
    · exact absurd hx e_IOIA
    · exact absurd hx e_IOIS
  · rcases hx with ⟨hx, -⟩ | ⟨-, hx⟩ | ⟨hx, -⟩
    · exact absurd hx.symm e_IOIA
    · obtain ⟨hc, hx⟩ := hx
      refine ⟨R, ad, ns, I, J, rfl, hX, fun _ _ => rfl, h, ?_⟩
      have e : mNum I a b c2 = 2 := by rw [mNum, if_pos hc, if_neg (by rw [hx]; exact Bool.false_ne_true)]
      rw [if_neg (by rw [e]; decide), e]
      exact fin_th h (by decide)
    · exact absurd hx e_IAIS
  · rcases hx with ⟨hx, -⟩ | ⟨hx, -⟩ | ⟨-, hx⟩
    · exact absurd hx.symm e_IOIS
    · exact absurd hx.symm e_IAIS
    · obtain ⟨hc, hx, hn⟩ := hx
      refine ⟨R, ad, ns, I, J, rfl, hX, fun _ _ => rfl, h, ?_⟩
      have e : mNum I a b c2 = 3 := by
        rw [mNum, if_pos hc, if_pos hx, h.m8, if_pos ?_]
        have : ns = 20 := by omega
        rw [this]
        rfl
      rw [if_neg (by rw [e]; decide), e]
      exact fin_th h (by decide)
theorem fr_scr {I I' : Nat → Nat → Int32} {y : Int32} (h : FR (wI I 13 0 y) I') {r k : Nat} (hs : ¬ scr r k) : I' r k = I r k := by
  unfold scr at hs
  rw [h r k (by omega) (by omega) (by omega), wI_eq, if_neg (by omega)]
theorem fb_scr {I : Nat → Nat → Int32} {J : Nat → Nat → Int64} {a b : Int32} {r k : Nat} (hs : ¬ scr r k) : fbI I J a b 6 r k = I r k := by
  unfold scr at hs
  exact fb_other (by omega) (by omega) (by omega)
theorem SR.fb {q : Nat → Nat → Nat} {ns nt : Nat} {I : Nat → Nat → Int32} {J J' : Nat → Nat → Int64} (h : SR q ns nt I J I J) (a b : Int32) (hJ : ∀ r, r ≠ 12 → J' r = J r) : SR q ns nt I J (fbI I J a b 6) J' := h.same (fun _ _ _ => rfl) (fun _ _ hs => fb_scr hs) (fun _ _ => rfl) hJ
theorem SR.fin {q : Nat → Nat → Nat} {ns nt : Nat} {I I1 I2 : Nat → Nat → Int32} {J J' : Nat → Nat → Int64} {a b y : Int32} (h : SR q ns nt I J I J) (hI : I1 = I ∨ I1 = fbI I J a b 6) (hF : FR (wI I1 13 0 y) I2) (hJ : ∀ r, r ≠ 12 → J' r = J r) : SR q ns nt I2 J' I2 J' := by
  have e : ∀ r k, ¬ scr r k → I2 r k = I r k := fun r k hs => by
    rw [fr_scr hF hs]
    rcases hI with rfl | rfl
    · rfl
    · exact fb_scr hs
  exact h.same e e hJ hJ
theorem fr_th {I I' : Nat → Nat → Int32} {y : Int32} (h : FR (wI I 13 0 y) I') : I' 13 0 = y := by rw [h 13 0 (by decide) (by decide) (fun _ => by decide), wI_at]
theorem mid_cost {cy : Nat → ClassId} {R : List Nat} {ad : Nat → Nat} {q : Nat → Nat → Nat} {ns nt : Nat} {I : Nat → Nat → Int32} {J : Nat → Nat → Int64} (h : SR q ns nt I J I J) {a b : Int32} {r : Int32} {u' : k_S} (hp : (∃ (v : Int32) (u : k_S), (((isCar a && isCar b) = true) ∧ v = (costC I J a b) ∧ u = (R, ad, k_c cy ad q ns nt (fbI I J a b 6) J)) ∧ r = 0 ∧ k_O u v.toInt64 u') ∨ (∃ u : k_S, ((e_IO = e_IO ∧ (isCar a && isCar b) = false) ∧ u = (R, ad, k_c cy ad q ns nt I J)) ∧ r = 1 ∧ u' = u)) : ∃ (I1 : Nat → Nat → Int32) (J1 : Nat → Nat → Int64), u' = (R, ad, k_c cy ad q ns nt I1 J1) ∧ SR q ns nt I J I1 J1 ∧ ∀ (b9 : Int32) (u9 : k_S), (((isCar a && isCar b) = false ∧ b9 = 0 ∧ u9 = (R, ad, (k_c cy ad q ns nt (wI I1 13 0 1) J1))) ∨ ((isCar a && isCar b) = true ∧ ∃ (I' : Nat → Nat → Int32) (v : Option (List Nat)), u9 = (R, ad, (k_c cy ad q ns nt I' J1)) ∧ FR (wI I1 13 0 0) I' ∧ Best (sOp I J) (sRt I) a.toNatClampNeg b.toNatClampNeg v ∧ Bst I' (sRt I) v ∧ b9 = (match v with | none => -1 | some w => nI (cst (sRt I) w)))) → ∃ (I2 : Nat → Nat → Int32) (J2 : Nat → Nat → Int64), u9 = (R, ad, k_c cy ad q ns nt I2 J2) ∧ kFin q ns nt I2 J2 r b9.toInt64 := by
  rcases hp with ⟨v, u, ⟨hok, rfl, rfl⟩, rfl, hO⟩ | ⟨u, ⟨⟨-, hx⟩, rfl⟩, rfl, rfl⟩
  · have h1 : SR q ns nt I J (fbI I J a b 6) (wJ J 12 0 (costC I J a b).toInt64) := h.fb a b (fun r hr => wJ_row hr)
    refine ⟨_, _, kO_c hO, h1, fun b9 u9 hm => ?_⟩
    rcases hm with ⟨hc, -, -⟩ | ⟨-, I', v, rfl, hF, hB, hv, rfl⟩
    · exact absurd (hok.symm.trans hc) (by decide)
    · refine ⟨I', _, rfl, h.fin (Or.inr rfl) hF (fun r hr => wJ_row hr), fr_th hF, fun _ => ?_⟩
      obtain ⟨ha, hb⟩ := Bool.and_eq_true_iff.mp hok
      obtain ⟨x, hx, rfl⟩ := car_nI ha
      obtain ⟨y, hy, rfl⟩ := car_nI hb
      rw [clamp_c (by omega), clamp_c (by omega)] at hB
      rw [wJ_at, cost_one h.gc hx hy hB]
      cases v <;> rfl
  · refine ⟨I, J, rfl, h, fun b9 u9 hm => ?_⟩
    rcases hm with ⟨hc, rfl, rfl⟩ | ⟨hc, -⟩
    · exact ⟨_, _, rfl, fin_th h (by decide)⟩
    · exact absurd (hx.symm.trans hc) (by decide)
theorem bestC_one {op : Nat → Nat → Bool} {rt : Nat → Nat → Nat} {I : Nat → Nat → Int32} {J : Nat → Nat → Int64} {x y : Nat} {c : Int32} (hg : GC I J op rt) (hx : x < 5) (hy : y < 5) {v : Option (List Nat)} (hv : Best op rt x y v) {I' : Nat → Nat → Int32} (hb : Bst I' rt v) :
    if (v.isSome && isWi c 0 (I' 13 23 - 1)) = true then (bestC I J (nI x) (nI y) c = I' 34 c.toNatClampNeg ∧ ¬ bestC I J (nI x) (nI y) c = -1) else bestC I J (nI x) (nI y) c = -1 := by
  obtain ⟨v', h1, h2, h3⟩ := fb_rep (r := 6) (Or.inl rfl) hg hx hy
  have e := best_one h1 hv
  subst e
  unfold bestC
  rw [h2]
  cases v' with
  | none => rw [Option.isSome_none, Bool.false_and, if_neg Bool.false_ne_true, if_neg Bool.false_ne_true]
  | some p =>
    have hR := h3 p rfl
    have hl := way_len h1.1
    rw [Option.isSome_some, Bool.true_and, if_pos rfl, hb.1, ← carAt_no hR hl]
    by_cases g : isPl (fbI I J (nI x) (nI y) 6 6 1) c = true
    · rw [if_pos g]
      rw [carAt_no hR hl] at g
      have h0 : ¬ c < 0 := by
        simp only [isWi, Bool.and_eq_true, Bool.not_eq_true', decide_eq_false_iff_not] at g
        exact g.1
      obtain ⟨t, ht, rfl⟩ := nI_of h0
      have htl : t < p.length := by
        rw [nI_m1 hl.1] at g
        simp only [isWi, Bool.and_eq_true, Bool.not_eq_true', decide_eq_false_iff_not] at g
        have g2 := g.2
        rw [nI_ltI (by omega) ht] at g2
        omega
      have h5 := h1.1.1.2.2.1 _ (getD_mem htl)
      rw [rou_at hR hl.2 htl, nI_clamp (by omega), hb.2.2 t htl]
      exact ⟨rfl, nI_nm1 (by omega)⟩
    · rw [if_neg g, carAt, if_neg g]
theorem mid_best {cy : Nat → ClassId} {R : List Nat} {ad : Nat → Nat} {q : Nat → Nat → Nat} {ns nt : Nat} {I : Nat → Nat → Int32} {J : Nat → Nat → Int64} (h : SR q ns nt I J I J) {a b c2 : Int32} {r : Int32} {u' : k_S} (hp : (∃ (v : Int32) (u : k_S), (((isCar a && isCar b) = true ∧ ¬ bestC I J a b c2 = -1) ∧ v = (bestC I J a b c2) ∧ u = (R, ad, (k_c cy ad q ns nt (fbI I J a b 6) J))) ∧ r = 0 ∧ k_O u v.toInt64 u') ∨ (∃ u : k_S, ((e_IO = e_IO ∧ ((isCar a && isCar b) = false ∨ bestC I J a b c2 = -1)) ∧ u = (R, ad, (k_c cy ad q ns nt (fbI I J a b 6) J))) ∧ r = 1 ∧ u' = u)) : ∃ (I1 : Nat → Nat → Int32) (J1 : Nat → Nat → Int64), u' = (R, ad, k_c cy ad q ns nt I1 J1) ∧ SR q ns nt I J I1 J1 ∧ ∀ (b9 : Int32) (u9 : k_S), (((isCar a && isCar b) = false ∧ b9 = 0 ∧ u9 = (R, ad, (k_c cy ad q ns nt (wI I1 13 0 1) J1))) ∨ ((isCar a && isCar b) = true ∧ ∃ (I' : Nat → Nat → Int32) (v : Option (List Nat)), u9 = (R, ad, (k_c cy ad q ns nt (wI I' 13 0 (if (v.isSome && isWi c2 0 (I' 13 23 - 1)) = true then 0 else 1)) J1)) ∧ FR (wI I1 13 0 0) I' ∧ Best (sOp I J) (sRt I) a.toNatClampNeg b.toNatClampNeg v ∧ Bst I' (sRt I) v ∧ b9 = (if (v.isSome && isWi c2 0 (I' 13 23 - 1)) = true then I' 34 c2.toNatClampNeg else 0))) → ∃ (I2 : Nat → Nat → Int32) (J2 : Nat → Nat → Int64), u9 = (R, ad, k_c cy ad q ns nt I2 J2) ∧ kFin q ns nt I2 J2 r b9.toInt64 := by
  rcases hp with ⟨v, u, ⟨⟨hok, hok2⟩, rfl, rfl⟩, rfl, hO⟩ | ⟨u, ⟨⟨-, hx⟩, rfl⟩, rfl, rfl⟩
  · have h1 : SR q ns nt I J (fbI I J a b 6) (wJ J 12 0 (bestC I J a b c2).toInt64) := h.fb a b (fun r hr => wJ_row hr)
    refine ⟨_, _, kO_c hO, h1, fun b9 u9 hm => ?_⟩
    rcases hm with ⟨hc, -, -⟩ | ⟨-, I', v, rfl, hF, hB, hv, rfl⟩
    · exact absurd (hok.symm.trans hc) (by decide)
    · obtain ⟨ha, hb⟩ := Bool.and_eq_true_iff.mp hok
      obtain ⟨x, hx, rfl⟩ := car_nI ha
      obtain ⟨y, hy, rfl⟩ := car_nI hb
      rw [clamp_c (by omega), clamp_c (by omega)] at hB
      have H := bestC_one (c := c2) h.gc hx hy hB hv
      by_cases g : (v.isSome && isWi c2 0 (I' 13 23 - 1)) = true
      · rw [if_pos g] at H
        rw [if_pos g, if_pos g]
        have hS := h.fin (Or.inr rfl) hF (J' := wJ J 12 0 (bestC I J (nI x) (nI y) c2).toInt64) (fun r hr => wJ_row hr)
        have e : ∀ x k, ¬ scr x k → wI I' 13 0 0 x k = I' x k := fun x k hx => by rw [wI_eq, if_neg (by unfold scr at hx; omega)]
        exact ⟨_, _, rfl, hS.same e e (fun _ _ => rfl) (fun _ _ => rfl), wI_at, fun _ => by rw [wJ_at, H.1]⟩
      · rw [if_neg g] at H
        exact absurd H hok2
  · by_cases hc : (isCar a && isCar b) = true
    · refine ⟨_, _, rfl, h.fb a b (fun _ _ => rfl), fun b9 u9 hm => ?_⟩
      rcases hm with ⟨hc2, -, -⟩ | ⟨-, I', v, rfl, hF, hB, hv, rfl⟩
      · exact absurd (hc.symm.trans hc2) (by decide)
      · have hx2 : bestC I J a b c2 = -1 := by
          rcases hx with hx | hx
          · exact absurd (hc.symm.trans hx) (by decide)
          · exact hx
        clear hx
        obtain ⟨ha, hb⟩ := Bool.and_eq_true_iff.mp hc
        obtain ⟨x, hx, rfl⟩ := car_nI ha
        obtain ⟨y, hy, rfl⟩ := car_nI hb
        rw [clamp_c (by omega), clamp_c (by omega)] at hB
        have H := bestC_one (c := c2) h.gc hx hy hB hv
        by_cases g : (v.isSome && isWi c2 0 (I' 13 23 - 1)) = true
        · rw [if_pos g] at H
          exact absurd hx2 H.2
        · rw [if_neg g, if_neg g]
          have hS := h.fin (Or.inr rfl) hF (J' := J) (fun _ _ => rfl)
          exact ⟨_, _, rfl, fin_th hS (by decide)⟩
    · have hc2 : (isCar a && isCar b) = false := by simpa using hc
      rw [fb_no hc2]
      refine ⟨I, J, rfl, h, fun b9 u9 hm => ?_⟩
      rcases hm with ⟨-, rfl, rfl⟩ | ⟨hc3, -⟩
      · exact ⟨_, _, rfl, fin_th h (by decide)⟩
      · exact absurd hc3 hc
end MIDS2
