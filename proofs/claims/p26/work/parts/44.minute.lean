/-! one minute of one call; one minute of all; some minutes -/
def roA (I : Nat → Nat → Int32) (J : Nat → Nat → Int64) (t : Nat) : Bool := alongF I J (t + 1) (I (t + 1) 1).toNatClampNeg
def roF (I : Nat → Nat → Int32) (J : Nat → Nat → Int64) (t : Nat) : Bool := fbB I J (carAt I (t + 1) 0) (carAt I (t + 1) (I (t + 1) 1 - 1))
def roG (I : Nat → Nat → Int32) (J : Nat → Nat → Int64) (t : Nat) : Nat → Nat → Int32 := fbI I J (carAt I (t + 1) 0) (carAt I (t + 1) (I (t + 1) 1 - 1)) (t + 1)
def roI1 (I : Nat → Nat → Int32) (J : Nat → Nat → Int64) (t : Nat) : Nat → Nat → Int32 := if roA I J t = true then I else wI (roG I J t) t 8 (roG I J t t 8 + 1)
def roI2 (I : Nat → Nat → Int32) (J : Nat → Nat → Int64) (s t : Nat) : Nat → Nat → Int32 := if dueF (roI1 I J t) t = true then payI (roI1 I J t) s (roI1 I J t t 2) (roI1 I J t t 3) else roI1 I J t
def roO (I : Nat → Nat → Int32) (J : Nat → Nat → Int64) (t : Nat) : Bool := roA I J t || roF I J t
def roP (I : Nat → Nat → Int32) (J : Nat → Nat → Int64) (s t : Nat) : Bool := !dueF (roI1 I J t) t || payB (roI1 I J t) s (roI1 I J t t 2) (roI1 I J t t 3)
def roB (I : Nat → Nat → Int32) (J : Nat → Nat → Int64) (s t : Nat) : Bool := roO I J t && roP I J s t
def roI (I : Nat → Nat → Int32) (J : Nat → Nat → Int64) (s t : Nat) : Nat → Nat → Int32 := if roO I J t = true then (if roP I J s t = true then wI (roI2 I J s t) t 7 (roI2 I J s t t 7 + 1) else roI2 I J s t) else roG I J t
def roJ (I : Nat → Nat → Int32) (J : Nat → Nat → Int64) (s t : Nat) : Nat → Nat → Int64 := if roB I J s t = true then chargeJ (roI2 I J s t) J t (roI2 I J s t (t + 1) 1).toNatClampNeg else J
theorem roG_other {I : Nat → Nat → Int32} {J : Nat → Nat → Int64} {t r' k : Nat} (h : r' ≠ 11) (h1 : r' ≠ t + 1) (h2 : r' ≠ t + 2) : roG I J t r' k = I r' k := fb_other h h1 h2
theorem roI1_other {I : Nat → Nat → Int32} {J : Nat → Nat → Int64} {t r' k : Nat} (h : r' ≠ 11) (h0 : r' ≠ t) (h1 : r' ≠ t + 1) (h2 : r' ≠ t + 2) : roI1 I J t r' k = I r' k := by
  unfold roI1
  split
  · rfl
  · rw [wI_eq, if_neg (by omega), roG_other h h1 h2]
theorem roI2_other {I : Nat → Nat → Int32} {J : Nat → Nat → Int64} {s t r' k : Nat} (h : r' ≠ 11) (h0 : r' ≠ t) (h1 : r' ≠ t + 1) (h2 : r' ≠ t + 2) (h3 : r' ≠ s) : roI2 I J s t r' k = I r' k := by
  unfold roI2
  split
  · rw [pay_other h3, roI1_other h h0 h1 h2]
  · exact roI1_other h h0 h1 h2
theorem ro_other {I : Nat → Nat → Int32} {J : Nat → Nat → Int64} {s t r' k : Nat} (h : r' ≠ 11) (h0 : r' ≠ t) (h1 : r' ≠ t + 1) (h2 : r' ≠ t + 2) (h3 : r' ≠ s) : roI I J s t r' k = I r' k := by
  unfold roI
  split
  · split
    · rw [wI_eq, if_neg (by omega), roI2_other h h0 h1 h2 h3]
    · exact roI2_other h h0 h1 h2 h3
  · exact roG_other h h1 h2
theorem roG_len {I : Nat → Nat → Int32} {J : Nat → Nat → Int64} {t : Nat} (h : LenOK I (t + 1)) (ht : 80 ≤ t) : LenOK (roG I J t) (t + 1) := by
  by_cases hf : roF I J t = true
  · exact fb_len hf
  · unfold roF fbB at hf
    unfold roG fbI
    split
    · next h1 =>
      rw [if_neg (fun h2 => hf (by rw [h1, decide_eq_true h2]; rfl))]
      exact h.eq (weigh_other (by omega))
    · exact h
theorem roI1_len {I : Nat → Nat → Int32} {J : Nat → Nat → Int64} {t : Nat} (h : LenOK I (t + 1)) (ht : 80 ≤ t) : LenOK (roI1 I J t) (t + 1) := by
  unfold roI1
  split
  · exact h
  · exact (roG_len h ht).w (by omega)
theorem roI2_len {I : Nat → Nat → Int32} {J : Nat → Nat → Int64} {s t : Nat} (h : LenOK I (t + 1)) (ht : 80 ≤ t) (hs : s < 80) : LenOK (roI2 I J s t) (t + 1) := by
  unfold roI2
  split
  · exact (roI1_len h ht).eq (pay_other (by omega))
  · exact roI1_len h ht
theorem ro_len {I : Nat → Nat → Int32} {J : Nat → Nat → Int64} {s t : Nat} (h : LenOK I (t + 1)) (ht : 80 ≤ t) (hs : s < 80) : LenOK (roI I J s t) (t + 1) := by
  unfold roI
  split
  · split
    · exact (roI2_len h ht hs).w (by omega)
    · exact roI2_len h ht hs
  · exact roG_len h ht
abbrev k_T3 : Type := (Nat → Nat → Int32) × (Nat → Nat → Int64) × Int32
def tickS (q : Nat → Nat → Nat) (nt : Nat) (S : k_T3) (k : Nat) : k_T3 :=
  if (nI k).toNatClampNeg < nt ∧ S.1 (80 + 4 * (nI k).toNatClampNeg) 6 = 0 then
    (if roB S.1 S.2.1 (40 + 2 * q (80 + 4 * (nI k).toNatClampNeg) 0) (80 + 4 * (nI k).toNatClampNeg) = true
      then (roI S.1 S.2.1 (40 + 2 * q (80 + 4 * (nI k).toNatClampNeg) 0) (80 + 4 * (nI k).toNatClampNeg), roJ S.1 S.2.1 (40 + 2 * q (80 + 4 * (nI k).toNatClampNeg) 0) (80 + 4 * (nI k).toNatClampNeg), S.2.2)
      else (wI (roI S.1 S.2.1 (40 + 2 * q (80 + 4 * (nI k).toNatClampNeg) 0) (80 + 4 * (nI k).toNatClampNeg)) (80 + 4 * (nI k).toNatClampNeg) 6 2, roJ S.1 S.2.1 (40 + 2 * q (80 + 4 * (nI k).toNatClampNeg) 0) (80 + 4 * (nI k).toNatClampNeg), S.2.2 + 1))
  else S
def minS (q : Nat → Nat → Nat) (nt : Nat) (S : k_T3) : Nat → k_T3
  | 0 => S
  | k + 1 => tickS q nt (minS q nt S k) k
def passS (q : Nat → Nat → Nat) (nt : Nat) (S : k_T3) : Nat → k_T3
  | 0 => S
  | d + 1 => minS q nt (passS q nt S d) 60
def LenA (I : Nat → Nat → Int32) (nt : Nat) : Prop := ∀ j, j < nt → LenOK I (80 + 4 * j + 1)
theorem tick_len {q : Nat → Nat → Nat} {ns nt : Nat} {S : k_T3} {k : Nat} (hq : k_Q q ns nt) (hns : ns ≤ 20) (h : LenA S.1 nt) : LenA (tickS q nt S k).1 nt := by
  have H : ∀ i, i < nt → LenA (roI S.1 S.2.1 (40 + 2 * q (80 + 4 * i) 0) (80 + 4 * i)) nt := by
    intro i hi j hj
    have h1 := (hq i hi).1
    by_cases e : j = i
    · subst e; exact ro_len (h j hj) (by omega) (by omega)
    · exact (h j hj).eq (ro_other (by omega) (by omega) (by omega) (by omega) (by omega))
  unfold tickS
  split
  · next h1 =>
    split
    · exact H _ h1.1
    · intro j hj
      exact ((H _ h1.1) j hj).w (by omega)
  · exact h
theorem min_len {q : Nat → Nat → Nat} {ns nt : Nat} {S : k_T3} (hq : k_Q q ns nt) (hns : ns ≤ 20) (h : LenA S.1 nt) : ∀ k, LenA (minS q nt S k).1 nt := by
  intro k
  induction k with
  | zero => exact h
  | succ k ih => exact tick_len hq hns ih
theorem pass_len {q : Nat → Nat → Nat} {ns nt : Nat} {S : k_T3} (hq : k_Q q ns nt) (hns : ns ≤ 20) (h : LenA S.1 nt) : ∀ k, LenA (passS q nt S k).1 nt := by
  intro k
  induction k with
  | zero => exact h
  | succ k ih => exact min_len hq hns ih 60
theorem wi_nat {a : Int32} (h : isWi a 1 200 = true) : a = nI a.toNatClampNeg ∧ a.toNatClampNeg ≤ 200 := by
  simp only [isWi, Bool.and_eq_true, Bool.not_eq_true', decide_eq_false_iff_not] at h
  obtain ⟨h1, h2⟩ := h
  rw [Int32.lt_iff_toInt_lt] at h1 h2
  have e1 : (1 : Int32).toInt = 1 := rfl
  have e2 : (200 : Int32).toInt = 200 := rfl
  rw [e1] at h1
  rw [e2] at h2
  have hn : ¬ a < 0 := by
    rw [Int32.lt_iff_toInt_lt]
    have e0 : (0 : Int32).toInt = 0 := rfl
    omega
  obtain ⟨j, hj, rfl⟩ := nI_of hn
  rw [nI_clamp hj]
  rw [nI_toInt hj] at h2
  exact ⟨rfl, by omega⟩
set_option maxHeartbeats 4000000 in
set_option maxRecDepth 100000 in
/-- runOneMinute -/
theorem c_X4_runOneMinute (l : Launch) (D : va_G) (cy : Nat → ClassId) (lo : Nat) (R : List Nat) (ad : Nat → Nat) (q : Nat → Nat → Nat) (ns nt : Nat) (I : Nat → Nat → Int32) (J : Nat → Nat → Int64) (hR : ∀ r, r < 19 → r ∈ R) (t : Nat) (hk : 80 ≤ t ∧ t % 4 = 0) (h0 : t ∈ R) (h1 : t + 1 ∈ R) (h2 : t + 1 + 1 ∈ R) (h3 : t + 3 ∈ R) (hL : k_RL R ns nt) (hq0 : q t 0 < ns) (hlen : LenOK I (t + 1)) : k_Ci l yX4_runOneMinute cX4_runOneMinute 3 (some .boolean) 5 117 D cy lo R ad (k_c cy ad q ns nt I J) [.ref (ad 0), .ref (ad t)] (k_b (roB I J (40 + 2 * q t 0) t)) (k_c cy ad q ns nt (roI I J (40 + 2 * q t 0) t) (roJ I J (40 + 2 * q t 0) t)) := by
  refine k_metQ (by decide +kernel) (Nat.le_of_ble_eq_true rfl) ?_
  intro p e s m args below meth c Q F hr hlk hnm hQ
  have hs9 : (40 + 2 * q t 0) < 80 := by have := hL.2.2.2.1; omega
  refine x_aload_n F dX4_runOneMinute_0 rfl 1 rfl ?_
  refine g_X4_169 F h0 (sc_tlk hk) rfl dX4_runOneMinute_1 ?_
  refine x_astore_n F [(2, .ref (ad (t + 1))), (0, .ref (ad 0)), (1, .ref (ad t))] dX4_runOneMinute_4 rfl (by decide) rfl ?_
  refine x_aload_n F dX4_runOneMinute_5 rfl 1 rfl ?_
  refine g_X4_19 F (hL.1 0 (by decide)) sc_0 rfl dX4_runOneMinute_6 ?_
  refine x_aload_n F dX4_runOneMinute_9 rfl 0 rfl ?_
  refine z_callVi F [.ref (ad (t + 1))] (c_X0_isOpenAlong l D cy lo R ad q ns nt I J hR (t + 1) (Or.inr ⟨by have := hk; omega, by have := hk; omega⟩) h1 h2 ((I (t + 1) 1).toNatClampNeg) hlen.1 hlen.2.1 hlen.2.2) mc_X0_isOpenAlong mv_X0_isOpenAlong lk_X4_229 (hR 3 (by decide)) sc_3 rfl rfl rfl dX4_runOneMinute_10 ⟨Nat.le_of_ble_eq_true rfl, Nat.le_of_ble_eq_true rfl⟩ ⟨Nat.le_of_ble_eq_true rfl, Nat.le_of_ble_eq_true rfl⟩ (Nat.le_of_ble_eq_true rfl) ?_
  refine x_if_ne F 54 dX4_runOneMinute_13 (by decide) (fun h13 => ?_) (fun h13 => ?_)
  · rw [kb1] at h13
    refine x_world (congrArg (fun z => k_c cy ad q ns nt z J) (show I = roI1 I J t by simp [roI1, roA, roG, *])) ?_
    have hO9 : roO I J t = true := by simp [roO, roA, roF, *]
    refine x_aload_n F dX4_runOneMinute_54 rfl 2 rfl ?_
    refine z_callVi F [] (c_X3_isStepDue l D cy lo R ad q ns nt (roI1 I J t) J hR t hk h0 h1 h2 h3) mc_X3_isStepDue mv_X3_isStepDue lk_X4_236 h0 (sc_tlk hk) rfl rfl rfl dX4_runOneMinute_55 ⟨Nat.le_of_ble_eq_true rfl, Nat.le_of_ble_eq_true rfl⟩ ⟨Nat.le_of_ble_eq_true rfl, Nat.le_of_ble_eq_true rfl⟩ (Nat.le_of_ble_eq_true rfl) ?_
    refine x_if_eq F 81 dX4_runOneMinute_58 (by decide) (fun h58 => ?_) (fun h58 => ?_)
    · rw [kb0] at h58
      refine x_world (congrArg (fun z => k_c cy ad q ns nt z J) (show (roI1 I J t) = roI2 I J (40 + 2 * q t 0) t by simp [roI2, *])) ?_
      refine x_aload_n F dX4_runOneMinute_81 rfl 1 rfl ?_
      refine g_X4_19 F (hL.1 0 (by decide)) sc_0 rfl dX4_runOneMinute_82 ?_
      refine x_aload_n F dX4_runOneMinute_85 rfl 2 rfl ?_
      refine z_callVv F [.ref (ad t)] (c_X0_charge l D cy lo R ad q ns nt (roI2 I J (40 + 2 * q t 0) t) J hR t hk h0 h1 h2 h3 ((roI2 I J (40 + 2 * q t 0) t (t + 1) 1).toNatClampNeg) ((roI2_len (s := (40 + 2 * q t 0)) hlen hk.1 hs9).1) ((roI2_len (s := (40 + 2 * q t 0)) hlen hk.1 hs9).2.1) ((roI2_len (s := (40 + 2 * q t 0)) hlen hk.1 hs9).2.2)) mc_X0_charge mv_X0_charge lk_X4_249 (hR 3 (by decide)) sc_3 rfl rfl rfl dX4_runOneMinute_86 ⟨Nat.le_of_ble_eq_true rfl, Nat.le_of_ble_eq_true rfl⟩ ⟨Nat.le_of_ble_eq_true rfl, Nat.le_of_ble_eq_true rfl⟩ (Nat.le_of_ble_eq_true rfl) ?_
      refine x_aload_n F dX4_runOneMinute_89 rfl 2 rfl ?_
      refine x_dup F dX4_runOneMinute_90 rfl ?_
      refine g_X4_157 F h0 (sc_tlk hk) rfl dX4_runOneMinute_91 ?_
      refine x_iconst F (v := 1) dX4_runOneMinute_94 (by decide) ?_
      refine x_iadd F dX4_runOneMinute_95 ?_
      refine p_X4_157 F h0 (ss_tlk hk) dX4_runOneMinute_96 ?_
      refine x_iconst F (v := 1) dX4_runOneMinute_99 (by decide) ?_
      rw [hQ]
      exact x_zret F hr hlk (by decide) ⟨by simp [roB, hO9, roP, *]; rfl, by simp [roB, hO9, roP, roI, roJ, roI2, *]⟩ dX4_runOneMinute_100
    · rw [kb1] at h58
      refine x_aload_n F dX4_runOneMinute_61 rfl 2 rfl ?_
      refine g_X4_215 F h0 (sc_tlk hk) rfl dX4_runOneMinute_62 ?_
      refine x_aload_n F dX4_runOneMinute_65 rfl 2 rfl ?_
      refine g_X4_240 F h0 (sc_tlk hk) rfl dX4_runOneMinute_66 ?_
      refine x_aload_n F dX4_runOneMinute_69 rfl 2 rfl ?_
      refine g_X4_243 F h0 (sc_tlk hk) rfl dX4_runOneMinute_70 ?_
      refine z_callVi F [.int ((roI1 I J t) t 2), .int ((roI1 I J t) t 3)] (c_X2_pay l D cy lo R ad q ns nt (roI1 I J t) J hR (40 + 2 * q t 0) ((roI1 I J t) t 2) ((roI1 I J t) t 3) (sub_rng hq0 hL) ((hL.2.1 _ hq0).1) ((hL.2.1 _ hq0).2)) mc_X2_pay mv_X2_pay lk_X4_246 (hL.2.1 _ hq0).1 (sc_sub (sub_rng hq0 hL)) rfl rfl rfl dX4_runOneMinute_73 ⟨Nat.le_of_ble_eq_true rfl, Nat.le_of_ble_eq_true rfl⟩ ⟨Nat.le_of_ble_eq_true rfl, Nat.le_of_ble_eq_true rfl⟩ (Nat.le_of_ble_eq_true rfl) ?_
      refine x_if_ne F 81 dX4_runOneMinute_76 (by decide) (fun h76 => ?_) (fun h76 => ?_)
      · rw [kb1] at h76
        refine x_world (congrArg (fun z => k_c cy ad q ns nt z J) (show payI (roI1 I J t) (40 + 2 * q t 0) ((roI1 I J t) t 2) ((roI1 I J t) t 3) = roI2 I J (40 + 2 * q t 0) t by simp [roI2, *])) ?_
        refine x_aload_n F dX4_runOneMinute_81 rfl 1 rfl ?_
        refine g_X4_19 F (hL.1 0 (by decide)) sc_0 rfl dX4_runOneMinute_82 ?_
        refine x_aload_n F dX4_runOneMinute_85 rfl 2 rfl ?_
        refine z_callVv F [.ref (ad t)] (c_X0_charge l D cy lo R ad q ns nt (roI2 I J (40 + 2 * q t 0) t) J hR t hk h0 h1 h2 h3 ((roI2 I J (40 + 2 * q t 0) t (t + 1) 1).toNatClampNeg) ((roI2_len (s := (40 + 2 * q t 0)) hlen hk.1 hs9).1) ((roI2_len (s := (40 + 2 * q t 0)) hlen hk.1 hs9).2.1) ((roI2_len (s := (40 + 2 * q t 0)) hlen hk.1 hs9).2.2)) mc_X0_charge mv_X0_charge lk_X4_249 (hR 3 (by decide)) sc_3 rfl rfl rfl dX4_runOneMinute_86 ⟨Nat.le_of_ble_eq_true rfl, Nat.le_of_ble_eq_true rfl⟩ ⟨Nat.le_of_ble_eq_true rfl, Nat.le_of_ble_eq_true rfl⟩ (Nat.le_of_ble_eq_true rfl) ?_
        refine x_aload_n F dX4_runOneMinute_89 rfl 2 rfl ?_
        refine x_dup F dX4_runOneMinute_90 rfl ?_
        refine g_X4_157 F h0 (sc_tlk hk) rfl dX4_runOneMinute_91 ?_
        refine x_iconst F (v := 1) dX4_runOneMinute_94 (by decide) ?_
        refine x_iadd F dX4_runOneMinute_95 ?_
        refine p_X4_157 F h0 (ss_tlk hk) dX4_runOneMinute_96 ?_
        refine x_iconst F (v := 1) dX4_runOneMinute_99 (by decide) ?_
        rw [hQ]
        exact x_zret F hr hlk (by decide) ⟨by simp [roB, hO9, roP, *]; rfl, by simp [roB, hO9, roP, roI, roJ, roI2, *]⟩ dX4_runOneMinute_100
      · rw [kb0] at h76
        refine x_iconst F (v := 0) dX4_runOneMinute_79 (by decide) ?_
        rw [hQ]
        exact x_zret F hr hlk (by decide) ⟨by simp [roB, hO9, roP, *]; rfl, by simp [roB, hO9, roP, roI, roJ, roI2, *]⟩ dX4_runOneMinute_80
  · rw [kb0] at h13
    refine x_aload_n F dX4_runOneMinute_16 rfl 1 rfl ?_
    refine g_X4_19 F (hL.1 0 (by decide)) sc_0 rfl dX4_runOneMinute_17 ?_
    refine x_aload_n F dX4_runOneMinute_20 rfl 0 rfl ?_
    refine x_iconst F (v := 0) dX4_runOneMinute_21 (by decide) ?_
    refine z_callVi F [.int 0] (c_X1_carrierAt l D cy lo R ad q ns nt I J hR (t + 1) 0 (Or.inr ⟨by have := hk; omega, by have := hk; omega⟩) h1 h2) mc_X1_carrierAt mv_X1_carrierAt lk_X4_172 h1 (sc_rte (Or.inr ⟨by have := hk; omega, by have := hk; omega⟩)) rfl rfl rfl dX4_runOneMinute_22 ⟨Nat.le_of_ble_eq_true rfl, Nat.le_of_ble_eq_true rfl⟩ ⟨Nat.le_of_ble_eq_true rfl, Nat.le_of_ble_eq_true rfl⟩ (Nat.le_of_ble_eq_true rfl) ?_
    refine x_aload_n F dX4_runOneMinute_25 rfl 0 rfl ?_
    refine x_aload_n F dX4_runOneMinute_26 rfl 0 rfl ?_
    refine g_X4_233 F h1 (sc_rte (Or.inr ⟨by have := hk; omega, by have := hk; omega⟩)) rfl dX4_runOneMinute_27 ?_
    refine x_iconst F (v := 1) dX4_runOneMinute_30 (by decide) ?_
    refine x_isub F dX4_runOneMinute_31 ?_
    refine z_callVi F [.int ((I (t + 1) 1) - 1)] (c_X1_carrierAt l D cy lo R ad q ns nt I J hR (t + 1) ((I (t + 1) 1) - 1) (Or.inr ⟨by have := hk; omega, by have := hk; omega⟩) h1 h2) mc_X1_carrierAt mv_X1_carrierAt lk_X4_172 h1 (sc_rte (Or.inr ⟨by have := hk; omega, by have := hk; omega⟩)) rfl rfl rfl dX4_runOneMinute_32 ⟨Nat.le_of_ble_eq_true rfl, Nat.le_of_ble_eq_true rfl⟩ ⟨Nat.le_of_ble_eq_true rfl, Nat.le_of_ble_eq_true rfl⟩ (Nat.le_of_ble_eq_true rfl) ?_
    refine x_aload_n F dX4_runOneMinute_35 rfl 0 rfl ?_
    refine z_callVi F [.int (carAt I (t + 1) 0), .int (carAt I (t + 1) ((I (t + 1) 1) - 1)), .ref (ad (t + 1))] (c_X0_findBest l D cy lo R ad q ns nt I J hR (t + 1) (carAt I (t + 1) 0) (carAt I (t + 1) ((I (t + 1) 1) - 1)) (Or.inr ⟨by have := hk; omega, by have := hk; omega⟩) h1 h2) mc_X0_findBest mv_X0_findBest lk_X4_138 (hR 3 (by decide)) sc_3 rfl rfl rfl dX4_runOneMinute_36 ⟨Nat.le_of_ble_eq_true rfl, Nat.le_of_ble_eq_true rfl⟩ ⟨Nat.le_of_ble_eq_true rfl, Nat.le_of_ble_eq_true rfl⟩ (Nat.le_of_ble_eq_true rfl) ?_
    refine x_if_ne F 44 dX4_runOneMinute_39 (by decide) (fun h39 => ?_) (fun h39 => ?_)
    · rw [kb1] at h39
      refine x_aload_n F dX4_runOneMinute_44 rfl 2 rfl ?_
      refine x_dup F dX4_runOneMinute_45 rfl ?_
      refine g_X4_166 F h0 (sc_tlk hk) rfl dX4_runOneMinute_46 ?_
      refine x_iconst F (v := 1) dX4_runOneMinute_49 (by decide) ?_
      refine x_iadd F dX4_runOneMinute_50 ?_
      refine p_X4_166 F h0 (ss_tlk hk) dX4_runOneMinute_51 ?_
      refine x_world (congrArg (fun z => k_c cy ad q ns nt z J) (show wI (fbI I J (carAt I (t + 1) 0) (carAt I (t + 1) ((I (t + 1) 1) - 1)) (t + 1)) t 8 (((fbI I J (carAt I (t + 1) 0) (carAt I (t + 1) ((I (t + 1) 1) - 1)) (t + 1)) t 8) + 1) = roI1 I J t by simp [roI1, roA, roG, *])) ?_
      have hO9 : roO I J t = true := by simp [roO, roA, roF, *]
      refine x_aload_n F dX4_runOneMinute_54 rfl 2 rfl ?_
      refine z_callVi F [] (c_X3_isStepDue l D cy lo R ad q ns nt (roI1 I J t) J hR t hk h0 h1 h2 h3) mc_X3_isStepDue mv_X3_isStepDue lk_X4_236 h0 (sc_tlk hk) rfl rfl rfl dX4_runOneMinute_55 ⟨Nat.le_of_ble_eq_true rfl, Nat.le_of_ble_eq_true rfl⟩ ⟨Nat.le_of_ble_eq_true rfl, Nat.le_of_ble_eq_true rfl⟩ (Nat.le_of_ble_eq_true rfl) ?_
      refine x_if_eq F 81 dX4_runOneMinute_58 (by decide) (fun h58 => ?_) (fun h58 => ?_)
      · rw [kb0] at h58
        refine x_world (congrArg (fun z => k_c cy ad q ns nt z J) (show (roI1 I J t) = roI2 I J (40 + 2 * q t 0) t by simp [roI2, *])) ?_
        refine x_aload_n F dX4_runOneMinute_81 rfl 1 rfl ?_
        refine g_X4_19 F (hL.1 0 (by decide)) sc_0 rfl dX4_runOneMinute_82 ?_
        refine x_aload_n F dX4_runOneMinute_85 rfl 2 rfl ?_
        refine z_callVv F [.ref (ad t)] (c_X0_charge l D cy lo R ad q ns nt (roI2 I J (40 + 2 * q t 0) t) J hR t hk h0 h1 h2 h3 ((roI2 I J (40 + 2 * q t 0) t (t + 1) 1).toNatClampNeg) ((roI2_len (s := (40 + 2 * q t 0)) hlen hk.1 hs9).1) ((roI2_len (s := (40 + 2 * q t 0)) hlen hk.1 hs9).2.1) ((roI2_len (s := (40 + 2 * q t 0)) hlen hk.1 hs9).2.2)) mc_X0_charge mv_X0_charge lk_X4_249 (hR 3 (by decide)) sc_3 rfl rfl rfl dX4_runOneMinute_86 ⟨Nat.le_of_ble_eq_true rfl, Nat.le_of_ble_eq_true rfl⟩ ⟨Nat.le_of_ble_eq_true rfl, Nat.le_of_ble_eq_true rfl⟩ (Nat.le_of_ble_eq_true rfl) ?_
        refine x_aload_n F dX4_runOneMinute_89 rfl 2 rfl ?_
        refine x_dup F dX4_runOneMinute_90 rfl ?_
        refine g_X4_157 F h0 (sc_tlk hk) rfl dX4_runOneMinute_91 ?_
        refine x_iconst F (v := 1) dX4_runOneMinute_94 (by decide) ?_
        refine x_iadd F dX4_runOneMinute_95 ?_
        refine p_X4_157 F h0 (ss_tlk hk) dX4_runOneMinute_96 ?_
        refine x_iconst F (v := 1) dX4_runOneMinute_99 (by decide) ?_
        rw [hQ]
        exact x_zret F hr hlk (by decide) ⟨by simp [roB, hO9, roP, *]; rfl, by simp [roB, hO9, roP, roI, roJ, roI2, *]⟩ dX4_runOneMinute_100
      · rw [kb1] at h58
        refine x_aload_n F dX4_runOneMinute_61 rfl 2 rfl ?_
        refine g_X4_215 F h0 (sc_tlk hk) rfl dX4_runOneMinute_62 ?_
        refine x_aload_n F dX4_runOneMinute_65 rfl 2 rfl ?_
        refine g_X4_240 F h0 (sc_tlk hk) rfl dX4_runOneMinute_66 ?_
        refine x_aload_n F dX4_runOneMinute_69 rfl 2 rfl ?_
        refine g_X4_243 F h0 (sc_tlk hk) rfl dX4_runOneMinute_70 ?_
        refine z_callVi F [.int ((roI1 I J t) t 2), .int ((roI1 I J t) t 3)] (c_X2_pay l D cy lo R ad q ns nt (roI1 I J t) J hR (40 + 2 * q t 0) ((roI1 I J t) t 2) ((roI1 I J t) t 3) (sub_rng hq0 hL) ((hL.2.1 _ hq0).1) ((hL.2.1 _ hq0).2)) mc_X2_pay mv_X2_pay lk_X4_246 (hL.2.1 _ hq0).1 (sc_sub (sub_rng hq0 hL)) rfl rfl rfl dX4_runOneMinute_73 ⟨Nat.le_of_ble_eq_true rfl, Nat.le_of_ble_eq_true rfl⟩ ⟨Nat.le_of_ble_eq_true rfl, Nat.le_of_ble_eq_true rfl⟩ (Nat.le_of_ble_eq_true rfl) ?_
        refine x_if_ne F 81 dX4_runOneMinute_76 (by decide) (fun h76 => ?_) (fun h76 => ?_)
        · rw [kb1] at h76
          refine x_world (congrArg (fun z => k_c cy ad q ns nt z J) (show payI (roI1 I J t) (40 + 2 * q t 0) ((roI1 I J t) t 2) ((roI1 I J t) t 3) = roI2 I J (40 + 2 * q t 0) t by simp [roI2, *])) ?_
          refine x_aload_n F dX4_runOneMinute_81 rfl 1 rfl ?_
          refine g_X4_19 F (hL.1 0 (by decide)) sc_0 rfl dX4_runOneMinute_82 ?_
          refine x_aload_n F dX4_runOneMinute_85 rfl 2 rfl ?_
          refine z_callVv F [.ref (ad t)] (c_X0_charge l D cy lo R ad q ns nt (roI2 I J (40 + 2 * q t 0) t) J hR t hk h0 h1 h2 h3 ((roI2 I J (40 + 2 * q t 0) t (t + 1) 1).toNatClampNeg) ((roI2_len (s := (40 + 2 * q t 0)) hlen hk.1 hs9).1) ((roI2_len (s := (40 + 2 * q t 0)) hlen hk.1 hs9).2.1) ((roI2_len (s := (40 + 2 * q t 0)) hlen hk.1 hs9).2.2)) mc_X0_charge mv_X0_charge lk_X4_249 (hR 3 (by decide)) sc_3 rfl rfl rfl dX4_runOneMinute_86 ⟨Nat.le_of_ble_eq_true rfl, Nat.le_of_ble_eq_true rfl⟩ ⟨Nat.le_of_ble_eq_true rfl, Nat.le_of_ble_eq_true rfl⟩ (Nat.le_of_ble_eq_true rfl) ?_
          refine x_aload_n F dX4_runOneMinute_89 rfl 2 rfl ?_
          refine x_dup F dX4_runOneMinute_90 rfl ?_
          refine g_X4_157 F h0 (sc_tlk hk) rfl dX4_runOneMinute_91 ?_
          refine x_iconst F (v := 1) dX4_runOneMinute_94 (by decide) ?_
          refine x_iadd F dX4_runOneMinute_95 ?_
          refine p_X4_157 F h0 (ss_tlk hk) dX4_runOneMinute_96 ?_
          refine x_iconst F (v := 1) dX4_runOneMinute_99 (by decide) ?_
          rw [hQ]
          exact x_zret F hr hlk (by decide) ⟨by simp [roB, hO9, roP, *]; rfl, by simp [roB, hO9, roP, roI, roJ, roI2, *]⟩ dX4_runOneMinute_100
        · rw [kb0] at h76
          refine x_iconst F (v := 0) dX4_runOneMinute_79 (by decide) ?_
          rw [hQ]
          exact x_zret F hr hlk (by decide) ⟨by simp [roB, hO9, roP, *]; rfl, by simp [roB, hO9, roP, roI, roJ, roI2, *]⟩ dX4_runOneMinute_80
    · rw [kb0] at h39
      refine x_iconst F (v := 0) dX4_runOneMinute_42 (by decide) ?_
      rw [hQ]
      exact x_zret F hr hlk (by decide) ⟨by simp [roB, roO, roA, roF, *]; rfl, by simp [roB, roO, roI, roJ, roG, roA, roF, *]⟩ dX4_runOneMinute_43
