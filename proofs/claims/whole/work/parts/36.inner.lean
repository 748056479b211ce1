def busyM (I : Nat → Nat → Int32) (x : Int32) : Nat → Bool
  | 0 => false
  | k + 1 => busyM I x k || (decide (I 27 k = 0) && (decide (I 25 k = x) || decide (I 26 k = x)))
def wayI (I : Nat → Nat → Int32) (j k : Nat) : Nat → Nat → Int32 := fun r i => if r = 33 ∧ 5 * j ≤ i ∧ i < 5 * j + k then I 34 (i - 5 * j) else I r i
theorem wayI_0 (I : Nat → Nat → Int32) (j : Nat) : wayI I j 0 = I := by
  funext r i
  rw [wayI, if_neg (by omega)]
theorem wayI_s (I : Nat → Nat → Int32) (j k : Nat) : wI (wayI I j k) 33 (5 * j + k) (wayI I j k 34 k) = wayI I j (k + 1) := by
  funext r i
  rw [wI_eq]
  unfold wayI
  by_cases h1 : r = 33
  · by_cases h2 : i = 5 * j + k
    · have e : i - 5 * j = k := by omega
      rw [if_pos ⟨h1, h2⟩, if_neg (by omega), if_pos ⟨h1, by omega, by omega⟩, e]
    · by_cases h3 : 5 * j ≤ i ∧ i < 5 * j + k
      · rw [if_neg (by omega), if_pos ⟨h1, h3⟩, if_pos ⟨h1, by omega, by omega⟩]
      · rw [if_neg (by omega), if_neg (by omega), if_neg (by omega)]
  · rw [if_neg (by omega), if_neg (by omega), if_neg (by omega)]
theorem n5jk (j k : Nat) : 5 * nI j + nI k = nI (5 * j + k) := by rw [show (5 : Int32) = nI 5 from rfl, pk_mul, nI_add]
theorem n5jk1 (j k : Nat) (h : 1 ≤ k) : 5 * nI j + nI k - 1 = nI (5 * j + k - 1) := by rw [n5jk, nI_m1 (by omega)]
def stopM (I : Nat → Nat → Int32) (J : Nat → Nat → Int64) (j : Nat) : Nat → Bool
  | 0 => false
  | k + 1 => stopM I J j k || (!decide (k = 0) && shutM I J (I 33 (5 * j + k - 1)) (I 33 (5 * j + k)))
def dueM (I : Nat → Nat → Int32) (j : Nat) : Bool := decide (I 30 j - I 30 j / I 28 j * I 28 j = 0)
def paidB (I : Nat → Nat → Int32) (j i : Nat) : Bool := !dueM I j || !decide (I 24 i < I 28 j) || !decide (I 23 i < I 29 j)
def paidI (I : Nat → Nat → Int32) (j i : Nat) : Nat → Nat → Int32 :=
  if dueM I j = true then (if I 24 i < I 28 j then wI I 23 i (I 23 i - if I 23 i < I 29 j then 0 else I 29 j) else wI I 24 i (I 24 i - I 28 j)) else I
set_option maxHeartbeats 4000000 in
set_option maxRecDepth 100000 in
/-- isBusy -/
theorem c_X5_isBusy (l : Launch) (D : va_G) (cy : Nat → ClassId) (lo : Nat) (R : List Nat) (ad : Nat → Nat) (q : Nat → Nat → Nat) (ns nt : Nat) (I : Nat → Nat → Int32) (J : Nat → Nat → Int64) (hR : ∀ r, r < 36 → r ∈ R) (x : Int32) (n9 : Nat) (hnt : I 13 13 = nI n9) (hnt60 : n9 ≤ 60) : k_Ci l yX5_isBusy cX5_isBusy 4 (some .boolean) 0 0 D cy lo R ad (k_c cy ad q ns nt I J) [.ref (ad 13), .int x] (k_b (busyM I x n9)) (k_c cy ad q ns nt I J) := by
  refine k_metQ (by decide +kernel) (Nat.le_of_ble_eq_true rfl) ?_
  intro p e s m args below meth c Q F hr hlk hnm hQ
  refine x_iconst F (v := 0) dX5_isBusy_0 (by decide) ?_
  refine x_istore_n F [(2, .int 0), (0, .ref (ad 13)), (1, .int x)] dX5_isBusy_1 rfl (by decide) rfl ?_
  refine x_iconst F (v := 0) dX5_isBusy_2 (by decide) ?_
  refine x_istore_n F [(3, .int 0), (2, .int 0), (0, .ref (ad 13)), (1, .int x)] dX5_isBusy_3 rfl (by decide) rfl ?_
  have lp4 : ∀ (fu4 : Nat) (k : Nat), n9 - k < fu4 → (k ≤ n9) → XW D lo p l e { frames := 0, cells := 0, slots := 0, locals := 0 } s m args below meth c 4 0 0 Q R ad (k_c cy ad q ns nt I J) 4 [(3, .int (nI k)), (2, .int (k_b (busyM I x k))), (0, .ref (ad 13)), (1, .int x)] [] := by
    intro fu4
    induction fu4 with
    | zero => intro k hf4; exact absurd hf4 (Nat.not_lt_zero _)
    | succ fu4 ih4 =>
      intro k hf4 hkn
      refine x_iload_n F dX5_isBusy_4 rfl 0 rfl ?_
      refine x_aload_n F dX5_isBusy_5 rfl 2 rfl ?_
      refine g_X5_93 F (hR 13 (by decide)) sc_13 rfl dX5_isBusy_6 ?_
      refine x_icmp_ge F 57 dX5_isBusy_9 (by decide) (fun h9 => ?_) (fun h9 => ?_)
      · rw [hnt] at h9
        have hk9 := lp_exit (by omega) hkn h9
        refine x_iload_n F dX5_isBusy_57 rfl 1 rfl ?_
        rw [hQ]
        exact x_zret F hr hlk (kb_n _) ⟨by rw [hk9], rfl⟩ dX5_isBusy_58
      · rw [hnt] at h9
        have hk9 := lp_go (by omega) hkn h9
        refine x_iload_n F dX5_isBusy_12 rfl 1 rfl ?_
        refine x_if_ne F 45 dX5_isBusy_13 (by decide) (fun h13 => ?_) (fun h13 => ?_)
        · rw [kb1] at h13
          refine x_iconst F (v := 1) dX5_isBusy_45 (by decide) ?_
          refine x_goto F 50 dX5_isBusy_46 (by decide) ?_
          refine x_istore_n F [(2, .int 1), (3, .int (nI k)), (0, .ref (ad 13)), (1, .int x)] dX5_isBusy_50 rfl (by decide) rfl ?_
          refine x_iinc F [(3, .int ((nI k) + 1)), (2, .int 1), (0, .ref (ad 13)), (1, .int x)] dX5_isBusy_51 1 rfl (by decide) rfl ?_
          refine x_goto F 4 dX5_isBusy_54 (by decide) ?_
          rw [nI_1]
          refine x_sub (lv' := [(3, .int (nI (k + 1))), (2, .int (k_b (busyM I x (k + 1)))), (0, .ref (ad 13)), (1, .int x)]) [0, 1, 2, 3] (by rw [show busyM I x (k + 1) = true by simp only [busyM]; first | simp [h13, h22, h32, h42] | simp [h13, h22, h32] | simp [h13, h22] | simp [h13]]; rfl) ?_
          exact ih4 (k + 1) (by omega) (by omega)
        · rw [kb0] at h13
          refine x_aload_n F dX5_isBusy_16 rfl 2 rfl ?_
          refine g_X5_51 F (hR 13 (by decide)) sc_13 rfl dX5_isBusy_17 ?_
          refine x_iload_n F dX5_isBusy_20 rfl 0 rfl ?_
          refine y_iald F (hR 27 (by decide)) ss_27 (vp_in_nI (by omega) (by decide)) dX5_isBusy_21 ?_
          refine x_cast (y := I 27 k) (by rw [nI_clamp (by omega)]) ?_
          refine x_if_ne F 49 dX5_isBusy_22 (by decide) (fun h22 => ?_) (fun h22 => ?_)
          · refine x_iconst F (v := 0) dX5_isBusy_49 (by decide) ?_
            refine x_istore_n F [(2, .int 0), (3, .int (nI k)), (0, .ref (ad 13)), (1, .int x)] dX5_isBusy_50 rfl (by decide) rfl ?_
            refine x_iinc F [(3, .int ((nI k) + 1)), (2, .int 0), (0, .ref (ad 13)), (1, .int x)] dX5_isBusy_51 1 rfl (by decide) rfl ?_
            refine x_goto F 4 dX5_isBusy_54 (by decide) ?_
            rw [nI_1]
            refine x_sub (lv' := [(3, .int (nI (k + 1))), (2, .int (k_b (busyM I x (k + 1)))), (0, .ref (ad 13)), (1, .int x)]) [0, 1, 2, 3] (by rw [show busyM I x (k + 1) = false by simp only [busyM]; first | simp [h13, h22, h32, h42] | simp [h13, h22, h32] | simp [h13, h22] | simp [h13]]; rfl) ?_
            exact ih4 (k + 1) (by omega) (by omega)
          · refine x_aload_n F dX5_isBusy_25 rfl 2 rfl ?_
            refine g_X5_45 F (hR 13 (by decide)) sc_13 rfl dX5_isBusy_26 ?_
            refine x_iload_n F dX5_isBusy_29 rfl 0 rfl ?_
            refine y_iald F (hR 25 (by decide)) ss_25 (vp_in_nI (by omega) (by decide)) dX5_isBusy_30 ?_
            refine x_cast (y := I 25 k) (by rw [nI_clamp (by omega)]) ?_
            refine x_iload_n F dX5_isBusy_31 rfl 3 rfl ?_
            refine x_icmp_eq F 45 dX5_isBusy_32 (by decide) (fun h32 => ?_) (fun h32 => ?_)
            · refine x_iconst F (v := 1) dX5_isBusy_45 (by decide) ?_
              refine x_goto F 50 dX5_isBusy_46 (by decide) ?_
              refine x_istore_n F [(2, .int 1), (3, .int (nI k)), (0, .ref (ad 13)), (1, .int x)] dX5_isBusy_50 rfl (by decide) rfl ?_
              refine x_iinc F [(3, .int ((nI k) + 1)), (2, .int 1), (0, .ref (ad 13)), (1, .int x)] dX5_isBusy_51 1 rfl (by decide) rfl ?_
              refine x_goto F 4 dX5_isBusy_54 (by decide) ?_
              rw [nI_1]
              refine x_sub (lv' := [(3, .int (nI (k + 1))), (2, .int (k_b (busyM I x (k + 1)))), (0, .ref (ad 13)), (1, .int x)]) [0, 1, 2, 3] (by rw [show busyM I x (k + 1) = true by simp only [busyM]; first | simp [h13, h22, h32, h42] | simp [h13, h22, h32] | simp [h13, h22] | simp [h13]]; rfl) ?_
              exact ih4 (k + 1) (by omega) (by omega)
            · refine x_aload_n F dX5_isBusy_35 rfl 2 rfl ?_
              refine g_X5_48 F (hR 13 (by decide)) sc_13 rfl dX5_isBusy_36 ?_
              refine x_iload_n F dX5_isBusy_39 rfl 0 rfl ?_
              refine y_iald F (hR 26 (by decide)) ss_26 (vp_in_nI (by omega) (by decide)) dX5_isBusy_40 ?_
              refine x_cast (y := I 26 k) (by rw [nI_clamp (by omega)]) ?_
              refine x_iload_n F dX5_isBusy_41 rfl 3 rfl ?_
              refine x_icmp_ne F 49 dX5_isBusy_42 (by decide) (fun h42 => ?_) (fun h42 => ?_)
              · refine x_iconst F (v := 0) dX5_isBusy_49 (by decide) ?_
                refine x_istore_n F [(2, .int 0), (3, .int (nI k)), (0, .ref (ad 13)), (1, .int x)] dX5_isBusy_50 rfl (by decide) rfl ?_
                refine x_iinc F [(3, .int ((nI k) + 1)), (2, .int 0), (0, .ref (ad 13)), (1, .int x)] dX5_isBusy_51 1 rfl (by decide) rfl ?_
                refine x_goto F 4 dX5_isBusy_54 (by decide) ?_
                rw [nI_1]
                refine x_sub (lv' := [(3, .int (nI (k + 1))), (2, .int (k_b (busyM I x (k + 1)))), (0, .ref (ad 13)), (1, .int x)]) [0, 1, 2, 3] (by rw [show busyM I x (k + 1) = false by simp only [busyM]; first | simp [h13, h22, h32, h42] | simp [h13, h22, h32] | simp [h13, h22] | simp [h13]]; rfl) ?_
                exact ih4 (k + 1) (by omega) (by omega)
              · refine x_iconst F (v := 1) dX5_isBusy_45 (by decide) ?_
                refine x_goto F 50 dX5_isBusy_46 (by decide) ?_
                refine x_istore_n F [(2, .int 1), (3, .int (nI k)), (0, .ref (ad 13)), (1, .int x)] dX5_isBusy_50 rfl (by decide) rfl ?_
                refine x_iinc F [(3, .int ((nI k) + 1)), (2, .int 1), (0, .ref (ad 13)), (1, .int x)] dX5_isBusy_51 1 rfl (by decide) rfl ?_
                refine x_goto F 4 dX5_isBusy_54 (by decide) ?_
                rw [nI_1]
                refine x_sub (lv' := [(3, .int (nI (k + 1))), (2, .int (k_b (busyM I x (k + 1)))), (0, .ref (ad 13)), (1, .int x)]) [0, 1, 2, 3] (by rw [show busyM I x (k + 1) = true by simp only [busyM]; first | simp [h13, h22, h32, h42] | simp [h13, h22, h32] | simp [h13, h22] | simp [h13]]; rfl) ?_
                exact ih4 (k + 1) (by omega) (by omega)
  exact lp4 (n9 + 1) 0 (by omega) (by omega)
set_option maxHeartbeats 4000000 in
set_option maxRecDepth 100000 in
/-- takesBest -/
theorem c_X5_takesBest (l : Launch) (D : va_G) (cy : Nat → ClassId) (lo : Nat) (R : List Nat) (ad : Nat → Nat) (q : Nat → Nat → Nat) (ns nt : Nat) (I : Nat → Nat → Int32) (J : Nat → Nat → Int64) (hR : ∀ r, r < 36 → r ∈ R) (j : Nat) (n : Nat) (hj : j < 60) (hbl : I 13 23 = nI n) (hn5 : n ≤ 5) : k_Cv l yX5_takesBest cX5_takesBest 3 none 0 0 D cy lo R ad (k_c cy ad q ns nt I J) [.ref (ad 13), .int (nI j)] (k_c cy ad q ns nt (wayI (wI I 32 j (I 13 23)) j n) J) := by
  refine k_metQ (by decide +kernel) (Nat.le_of_ble_eq_true rfl) ?_
  intro p e s m args below meth c Q F hr hlk hnm hQ
  refine x_aload_n F dX5_takesBest_0 rfl 0 rfl ?_
  refine g_X5_66 F (hR 13 (by decide)) sc_13 rfl dX5_takesBest_1 ?_
  refine x_iload_n F dX5_takesBest_4 rfl 1 rfl ?_
  refine x_aload_n F dX5_takesBest_5 rfl 0 rfl ?_
  refine g_X5_116 F (hR 13 (by decide)) sc_13 rfl dX5_takesBest_6 ?_
  refine y_iast F (hR 32 (by decide)) ss_32 (vp_in_nI (by omega) (by decide)) dX5_takesBest_9 ?_
  refine x_world (congrArg (fun z => k_c cy ad q ns nt z J) (show wI I 32 (nI j).toNatClampNeg (I 13 23) = wI I 32 j (I 13 23) by rw [nI_clamp (by omega)])) ?_
  refine x_iconst F (v := 0) dX5_takesBest_10 (by decide) ?_
  refine x_istore_n F [(2, .int 0), (0, .ref (ad 13)), (1, .int (nI j))] dX5_takesBest_11 rfl (by decide) rfl ?_
  have lp12 : ∀ (fu12 : Nat) (k : Nat), n - k < fu12 → (k ≤ n) → XW D lo p l e { frames := 0, cells := 0, slots := 0, locals := 0 } s m args below meth c 3 0 0 Q R ad (k_c cy ad q ns nt (wayI (wI I 32 j (I 13 23)) j k) J) 12 [(2, .int (nI k)), (0, .ref (ad 13)), (1, .int (nI j))] [] := by
    intro fu12
    induction fu12 with
    | zero => intro k hf12; exact absurd hf12 (Nat.not_lt_zero _)
    | succ fu12 ih12 =>
      intro k hf12 hkn
      refine x_iload_n F dX5_takesBest_12 rfl 0 rfl ?_
      refine x_aload_n F dX5_takesBest_13 rfl 1 rfl ?_
      refine g_X5_116 F (hR 13 (by decide)) sc_13 rfl dX5_takesBest_14 ?_
      refine x_icmp_ge F 42 dX5_takesBest_17 (by decide) (fun h17 => ?_) (fun h17 => ?_)
      · rw [show wayI (wI I 32 j (I 13 23)) j k 13 23 = nI n by rw [wayI, if_neg (by omega), wI_eq, if_neg (by omega), hbl]] at h17
        have hk9 := lp_exit (by omega) hkn h17
        rw [hQ]
        exact x_vret F hr hlk (by rw [hk9]) dX5_takesBest_42
      · rw [show wayI (wI I 32 j (I 13 23)) j k 13 23 = nI n by rw [wayI, if_neg (by omega), wI_eq, if_neg (by omega), hbl]] at h17
        have hk9 := lp_go (by omega) hkn h17
        refine x_aload_n F dX5_takesBest_20 rfl 1 rfl ?_
        refine g_X5_69 F (hR 13 (by decide)) sc_13 rfl dX5_takesBest_21 ?_
        refine x_iconst F (v := 5) dX5_takesBest_24 (by decide) ?_
        refine x_iload_n F dX5_takesBest_25 rfl 2 rfl ?_
        refine x_imul F dX5_takesBest_26 ?_
        refine x_iload_n F dX5_takesBest_27 rfl 0 rfl ?_
        refine x_iadd F dX5_takesBest_28 ?_
        refine x_aload_n F dX5_takesBest_29 rfl 1 rfl ?_
        refine g_X5_72 F (hR 13 (by decide)) sc_13 rfl dX5_takesBest_30 ?_
        refine x_iload_n F dX5_takesBest_33 rfl 0 rfl ?_
        refine y_iald F (hR 34 (by decide)) ss_34 (vp_in_nI (by omega) (by decide)) dX5_takesBest_34 ?_
        refine x_cast (y := (wayI (wI I 32 j (I 13 23)) j k) 34 k) (by rw [nI_clamp (by omega)]) ?_
        refine y_iast F (hR 33 (by decide)) ss_33 (by rw [n5jk]; exact vp_in_nI (by omega) (by decide)) dX5_takesBest_35 ?_
        refine x_world (congrArg (fun z => k_c cy ad q ns nt z J) (show wI (wayI (wI I 32 j (I 13 23)) j k) 33 (((5 * (nI j)) + (nI k)).toNatClampNeg) ((wayI (wI I 32 j (I 13 23)) j k) 34 k) = wI (wayI (wI I 32 j (I 13 23)) j k) 33 (5 * j + k) ((wayI (wI I 32 j (I 13 23)) j k) 34 k) by rw [n5jk, nI_clamp (by omega)])) ?_
        refine x_iinc F [(2, .int ((nI k) + 1)), (0, .ref (ad 13)), (1, .int (nI j))] dX5_takesBest_36 0 rfl (by decide) rfl ?_
        refine x_goto F 12 dX5_takesBest_39 (by decide) ?_
        refine x_world (congrArg (fun z => k_c cy ad q ns nt z J) (show wI (wayI (wI I 32 j (I 13 23)) j k) 33 (5 * j + k) ((wayI (wI I 32 j (I 13 23)) j k) 34 k) = wayI (wI I 32 j (I 13 23)) j (k + 1) by rw [wayI_s])) ?_
        rw [nI_1]
        exact ih12 (k + 1) (by omega) (by omega)
  refine x_world (congrArg (fun z => k_c cy ad q ns nt z J) (show wI I 32 j (I 13 23) = wayI (wI I 32 j (I 13 23)) j 0 by rw [wayI_0])) ?_
  exact lp12 (n + 1) 0 (by omega) (by omega)
set_option maxHeartbeats 4000000 in
set_option maxRecDepth 100000 in
/-- isStopped -/
theorem c_X5_isStopped (l : Launch) (D : va_G) (cy : Nat → ClassId) (lo : Nat) (R : List Nat) (ad : Nat → Nat) (q : Nat → Nat → Nat) (ns nt : Nat) (I : Nat → Nat → Int32) (J : Nat → Nat → Int64) (hR : ∀ r, r < 36 → r ∈ R) (j : Nat) (n : Nat) (hj : j < 60) (hlen : I 32 j = nI n) (hn1 : 1 ≤ n) (hn5 : n ≤ 5) (hcar : ∀ i, i < n → isCar (I 33 (5 * j + i)) = true) : k_Ci l yX5_isStopped cX5_isStopped 4 (some .boolean) 2 47 D cy lo R ad (k_c cy ad q ns nt I J) [.ref (ad 13), .int (nI j)] (k_b (stopM I J j n)) (k_c cy ad q ns nt I J) := by
  refine k_metQ (by decide +kernel) (Nat.le_of_ble_eq_true rfl) ?_
  intro p e s m args below meth c Q F hr hlk hnm hQ
  refine x_iconst F (v := 0) dX5_isStopped_0 (by decide) ?_
  refine x_istore_n F [(2, .int 0), (0, .ref (ad 13)), (1, .int (nI j))] dX5_isStopped_1 rfl (by decide) rfl ?_
  refine x_iconst F (v := 1) dX5_isStopped_2 (by decide) ?_
  refine x_istore_n F [(3, .int 1), (2, .int 0), (0, .ref (ad 13)), (1, .int (nI j))] dX5_isStopped_3 rfl (by decide) rfl ?_
  have lp4 : ∀ (fu4 : Nat) (k : Nat), n - k < fu4 → (1 ≤ k) → (k ≤ n) → XW D lo p l e { frames := 2, cells := 0, slots := 0, locals := 47 } s m args below meth c 4 0 0 Q R ad (k_c cy ad q ns nt I J) 4 [(3, .int (nI k)), (2, .int (k_b (stopM I J j k))), (0, .ref (ad 13)), (1, .int (nI j))] [] := by
    intro fu4
    induction fu4 with
    | zero => intro k hf4; exact absurd hf4 (Nat.not_lt_zero _)
    | succ fu4 ih4 =>
      intro k hf4 hk1 hkn
      refine x_iload_n F dX5_isStopped_4 rfl 0 rfl ?_
      refine x_aload_n F dX5_isStopped_5 rfl 2 rfl ?_
      refine g_X5_66 F (hR 13 (by decide)) sc_13 rfl dX5_isStopped_6 ?_
      refine x_iload_n F dX5_isStopped_9 rfl 3 rfl ?_
      refine y_iald F (hR 32 (by decide)) ss_32 (vp_in_nI (by omega) (by decide)) dX5_isStopped_10 ?_
      refine x_cast (y := I 32 j) (by rw [nI_clamp (by omega)]) ?_
      refine x_icmp_ge F 59 dX5_isStopped_11 (by decide) (fun h11 => ?_) (fun h11 => ?_)
      · rw [hlen] at h11
        have hk9 := lp_exit (by omega) hkn h11
        refine x_iload_n F dX5_isStopped_59 rfl 1 rfl ?_
        rw [hQ]
        exact x_zret F hr hlk (kb_n _) ⟨by rw [hk9], rfl⟩ dX5_isStopped_60
      · rw [hlen] at h11
        have hk9 := lp_go (by omega) hkn h11
        refine x_iload_n F dX5_isStopped_14 rfl 1 rfl ?_
        refine x_if_ne F 47 dX5_isStopped_15 (by decide) (fun h15 => ?_) (fun h15 => ?_)
        · rw [kb1] at h15
          refine x_iconst F (v := 1) dX5_isStopped_47 (by decide) ?_
          refine x_goto F 52 dX5_isStopped_48 (by decide) ?_
          refine x_istore_n F [(2, .int 1), (3, .int (nI k)), (0, .ref (ad 13)), (1, .int (nI j))] dX5_isStopped_52 rfl (by decide) rfl ?_
          refine x_iinc F [(3, .int ((nI k) + 1)), (2, .int 1), (0, .ref (ad 13)), (1, .int (nI j))] dX5_isStopped_53 1 rfl (by decide) rfl ?_
          refine x_goto F 4 dX5_isStopped_56 (by decide) ?_
          rw [nI_1]
          refine x_sub (lv' := [(3, .int (nI (k + 1))), (2, .int (k_b (stopM I J j (k + 1)))), (0, .ref (ad 13)), (1, .int (nI j))]) [0, 1, 2, 3] (by rw [show stopM I J j (k + 1) = true by first | (rw [stopM, h15]; rfl) | (rw [stopM, h15, h44]; simp; try omega)]; rfl) ?_
          exact ih4 (k + 1) (by omega) (by omega) (by omega)
        · rw [kb0] at h15
          refine x_aload_n F dX5_isStopped_18 rfl 2 rfl ?_
          refine x_aload_n F dX5_isStopped_19 rfl 2 rfl ?_
          refine g_X5_69 F (hR 13 (by decide)) sc_13 rfl dX5_isStopped_20 ?_
          refine x_iconst F (v := 5) dX5_isStopped_23 (by decide) ?_
          refine x_iload_n F dX5_isStopped_24 rfl 3 rfl ?_
          refine x_imul F dX5_isStopped_25 ?_
          refine x_iload_n F dX5_isStopped_26 rfl 0 rfl ?_
          refine x_iadd F dX5_isStopped_27 ?_
          refine x_iconst F (v := 1) dX5_isStopped_28 (by decide) ?_
          refine x_isub F dX5_isStopped_29 ?_
          refine y_iald F (hR 33 (by decide)) ss_33 (by rw [n5jk1 j k hk1]; exact vp_in_nI (by omega) (by decide)) dX5_isStopped_30 ?_
          refine x_cast (y := I 33 (5 * j + k - 1)) (by rw [n5jk1 j k hk1, nI_clamp (by omega)]) ?_
          refine x_aload_n F dX5_isStopped_31 rfl 2 rfl ?_
          refine g_X5_69 F (hR 13 (by decide)) sc_13 rfl dX5_isStopped_32 ?_
          refine x_iconst F (v := 5) dX5_isStopped_35 (by decide) ?_
          refine x_iload_n F dX5_isStopped_36 rfl 3 rfl ?_
          refine x_imul F dX5_isStopped_37 ?_
          refine x_iload_n F dX5_isStopped_38 rfl 0 rfl ?_
          refine x_iadd F dX5_isStopped_39 ?_
          refine y_iald F (hR 33 (by decide)) ss_33 (by rw [n5jk]; exact vp_in_nI (by omega) (by decide)) dX5_isStopped_40 ?_
          refine x_cast (y := I 33 (5 * j + k)) (by rw [n5jk, nI_clamp (by omega)]) ?_
          refine z_callVi F [.int (I 33 (5 * j + k - 1)), .int (I 33 (5 * j + k))] (c_X5_isShut l D cy lo R ad q ns nt I J hR (I 33 (5 * j + k - 1)) (I 33 (5 * j + k)) (by rw [show 5 * j + k - 1 = 5 * j + (k - 1) by omega]; exact hcar _ (by omega)) (hcar _ (by omega))) mc_X5_isShut mv_X5_isShut lk_X5_113 (hR 13 (by decide)) sc_13 rfl rfl rfl dX5_isStopped_41 ⟨Nat.le_of_ble_eq_true rfl, Nat.le_of_ble_eq_true rfl⟩ ⟨Nat.le_of_ble_eq_true rfl, Nat.le_of_ble_eq_true rfl⟩ (Nat.le_of_ble_eq_true rfl) ?_
          refine x_if_eq F 51 dX5_isStopped_44 (by decide) (fun h44 => ?_) (fun h44 => ?_)
          · rw [kb0] at h44
            refine x_iconst F (v := 0) dX5_isStopped_51 (by decide) ?_
            refine x_istore_n F [(2, .int 0), (3, .int (nI k)), (0, .ref (ad 13)), (1, .int (nI j))] dX5_isStopped_52 rfl (by decide) rfl ?_
            refine x_iinc F [(3, .int ((nI k) + 1)), (2, .int 0), (0, .ref (ad 13)), (1, .int (nI j))] dX5_isStopped_53 1 rfl (by decide) rfl ?_
            refine x_goto F 4 dX5_isStopped_56 (by decide) ?_
            rw [nI_1]
            refine x_sub (lv' := [(3, .int (nI (k + 1))), (2, .int (k_b (stopM I J j (k + 1)))), (0, .ref (ad 13)), (1, .int (nI j))]) [0, 1, 2, 3] (by rw [show stopM I J j (k + 1) = false by first | (rw [stopM, h15]; rfl) | (rw [stopM, h15, h44]; simp; try omega)]; rfl) ?_
            exact ih4 (k + 1) (by omega) (by omega) (by omega)
          · rw [kb1] at h44
            refine x_iconst F (v := 1) dX5_isStopped_47 (by decide) ?_
            refine x_goto F 52 dX5_isStopped_48 (by decide) ?_
            refine x_istore_n F [(2, .int 1), (3, .int (nI k)), (0, .ref (ad 13)), (1, .int (nI j))] dX5_isStopped_52 rfl (by decide) rfl ?_
            refine x_iinc F [(3, .int ((nI k) + 1)), (2, .int 1), (0, .ref (ad 13)), (1, .int (nI j))] dX5_isStopped_53 1 rfl (by decide) rfl ?_
            refine x_goto F 4 dX5_isStopped_56 (by decide) ?_
            rw [nI_1]
            refine x_sub (lv' := [(3, .int (nI (k + 1))), (2, .int (k_b (stopM I J j (k + 1)))), (0, .ref (ad 13)), (1, .int (nI j))]) [0, 1, 2, 3] (by rw [show stopM I J j (k + 1) = true by first | (rw [stopM, h15]; rfl) | (rw [stopM, h15, h44]; simp; try omega)]; rfl) ?_
            exact ih4 (k + 1) (by omega) (by omega) (by omega)
  exact lp4 (n + 1) 1 (by omega) (by omega) (by omega)
set_option maxHeartbeats 4000000 in
set_option maxRecDepth 100000 in
/-- isPaid -/
theorem c_X5_isPaid (l : Launch) (D : va_G) (cy : Nat → ClassId) (lo : Nat) (R : List Nat) (ad : Nat → Nat) (q : Nat → Nat → Nat) (ns nt : Nat) (I : Nat → Nat → Int32) (J : Nat → Nat → Int64) (hR : ∀ r, r < 36 → r ∈ R) (j : Nat) (i : Nat) (hj : j < 60) (hcal : I 25 j = nI i) (hi : i < 20) (hst : ¬ I 28 j = 0) : k_Ci l yX5_isPaid cX5_isPaid 4 (some .boolean) 0 0 D cy lo R ad (k_c cy ad q ns nt I J) [.ref (ad 13), .int (nI j)] (k_b (paidB I j i)) (k_c cy ad q ns nt (paidI I j i) J) := by
  refine k_metQ (by decide +kernel) (Nat.le_of_ble_eq_true rfl) ?_
  intro p e s m args below meth c Q F hr hlk hnm hQ
  refine x_aload_n F dX5_isPaid_0 rfl 0 rfl ?_
  refine g_X5_45 F (hR 13 (by decide)) sc_13 rfl dX5_isPaid_1 ?_
  refine x_iload_n F dX5_isPaid_4 rfl 1 rfl ?_
  refine y_iald F (hR 25 (by decide)) ss_25 (vp_in_nI (by omega) (by decide)) dX5_isPaid_5 ?_
  refine x_cast (y := I 25 j) (by rw [nI_clamp (by omega)]) ?_
  refine x_istore_n F [(2, .int (I 25 j)), (0, .ref (ad 13)), (1, .int (nI j))] dX5_isPaid_6 rfl (by decide) rfl ?_
  refine x_aload_n F dX5_isPaid_7 rfl 1 rfl ?_
  refine g_X5_60 F (hR 13 (by decide)) sc_13 rfl dX5_isPaid_8 ?_
  refine x_iload_n F dX5_isPaid_11 rfl 2 rfl ?_
  refine y_iald F (hR 30 (by decide)) ss_30 (vp_in_nI (by omega) (by decide)) dX5_isPaid_12 ?_
  refine x_cast (y := I 30 j) (by rw [nI_clamp (by omega)]) ?_
  refine x_aload_n F dX5_isPaid_13 rfl 1 rfl ?_
  refine g_X5_54 F (hR 13 (by decide)) sc_13 rfl dX5_isPaid_14 ?_
  refine x_iload_n F dX5_isPaid_17 rfl 2 rfl ?_
  refine y_iald F (hR 28 (by decide)) ss_28 (vp_in_nI (by omega) (by decide)) dX5_isPaid_18 ?_
  refine x_cast (y := I 28 j) (by rw [nI_clamp (by omega)]) ?_
  refine x_irem F dX5_isPaid_19 hst ?_
  refine x_if_eq F 25 dX5_isPaid_20 (by decide) (fun h20 => ?_) (fun h20 => ?_)
  · refine x_aload_n F dX5_isPaid_25 rfl 1 rfl ?_
    refine g_X5_42 F (hR 13 (by decide)) sc_13 rfl dX5_isPaid_26 ?_
    refine x_iload_n F dX5_isPaid_29 rfl 0 rfl ?_
    refine y_iald F (hR 24 (by decide)) ss_24 (by rw [hcal]; exact vp_in_nI (by omega) (by decide)) dX5_isPaid_30 ?_
    refine x_cast (y := I 24 i) (by rw [hcal, nI_clamp (by omega)]) ?_
    refine x_aload_n F dX5_isPaid_31 rfl 1 rfl ?_
    refine g_X5_54 F (hR 13 (by decide)) sc_13 rfl dX5_isPaid_32 ?_
    refine x_iload_n F dX5_isPaid_35 rfl 2 rfl ?_
    refine y_iald F (hR 28 (by decide)) ss_28 (vp_in_nI (by omega) (by decide)) dX5_isPaid_36 ?_
    refine x_cast (y := I 28 j) (by rw [nI_clamp (by omega)]) ?_
    refine x_icmp_lt F 57 dX5_isPaid_37 (by decide) (fun h37 => ?_) (fun h37 => ?_)
    · refine x_aload_n F dX5_isPaid_57 rfl 1 rfl ?_
      refine g_X5_39 F (hR 13 (by decide)) sc_13 rfl dX5_isPaid_58 ?_
      refine x_iload_n F dX5_isPaid_61 rfl 0 rfl ?_
      refine y_iald F (hR 23 (by decide)) ss_23 (by rw [hcal]; exact vp_in_nI (by omega) (by decide)) dX5_isPaid_62 ?_
      refine x_cast (y := I 23 i) (by rw [hcal, nI_clamp (by omega)]) ?_
      refine x_aload_n F dX5_isPaid_63 rfl 1 rfl ?_
      refine g_X5_57 F (hR 13 (by decide)) sc_13 rfl dX5_isPaid_64 ?_
      refine x_iload_n F dX5_isPaid_67 rfl 2 rfl ?_
      refine y_iald F (hR 29 (by decide)) ss_29 (vp_in_nI (by omega) (by decide)) dX5_isPaid_68 ?_
      refine x_cast (y := I 29 j) (by rw [nI_clamp (by omega)]) ?_
      refine x_icmp_lt F 76 dX5_isPaid_69 (by decide) (fun h69 => ?_) (fun h69 => ?_)
      · refine x_iconst F (v := 0) dX5_isPaid_76 (by decide) ?_
        refine x_istore_n F [(3, .int 0), (2, .int (I 25 j)), (0, .ref (ad 13)), (1, .int (nI j))] dX5_isPaid_77 rfl (by decide) rfl ?_
        refine x_aload_n F dX5_isPaid_78 rfl 2 rfl ?_
        refine g_X5_39 F (hR 13 (by decide)) sc_13 rfl dX5_isPaid_79 ?_
        refine x_iload_n F dX5_isPaid_82 rfl 1 rfl ?_
        refine x_dup2 F dX5_isPaid_83 rfl rfl ?_
        refine y_iald F (hR 23 (by decide)) ss_23 (by rw [hcal]; exact vp_in_nI (by omega) (by decide)) dX5_isPaid_84 ?_
        refine x_cast (y := I 23 i) (by rw [hcal, nI_clamp (by omega)]) ?_
        refine x_iload_n F dX5_isPaid_85 rfl 0 rfl ?_
        refine x_if_eq F 98 dX5_isPaid_86 (by decide) (fun h86 => ?_) (fun h86 => ?_)
        · refine x_iconst F (v := 0) dX5_isPaid_98 (by decide) ?_
          refine x_isub F dX5_isPaid_99 ?_
          refine y_iast F (hR 23 (by decide)) ss_23 (by rw [hcal]; exact vp_in_nI (by omega) (by decide)) dX5_isPaid_100 ?_
          refine x_world (congrArg (fun z => k_c cy ad q ns nt z J) (show wI I 23 (I 25 j).toNatClampNeg ((I 23 i) - 0) = wI I 23 i ((I 23 i) - 0) by rw [hcal, nI_clamp (by omega)])) ?_
          refine x_iload_n F dX5_isPaid_101 rfl 0 rfl ?_
          rw [hQ]
          exact x_zret F hr hlk (by decide) ⟨by simp [paidB, dueM, k_b, *], by simp [paidI, dueM, *]⟩ dX5_isPaid_102
        · exact False.elim (by revert h86; decide)
      · refine x_iconst F (v := 1) dX5_isPaid_72 (by decide) ?_
        refine x_goto F 77 dX5_isPaid_73 (by decide) ?_
        refine x_istore_n F [(3, .int 1), (2, .int (I 25 j)), (0, .ref (ad 13)), (1, .int (nI j))] dX5_isPaid_77 rfl (by decide) rfl ?_
        refine x_aload_n F dX5_isPaid_78 rfl 2 rfl ?_
        refine g_X5_39 F (hR 13 (by decide)) sc_13 rfl dX5_isPaid_79 ?_
        refine x_iload_n F dX5_isPaid_82 rfl 1 rfl ?_
        refine x_dup2 F dX5_isPaid_83 rfl rfl ?_
        refine y_iald F (hR 23 (by decide)) ss_23 (by rw [hcal]; exact vp_in_nI (by omega) (by decide)) dX5_isPaid_84 ?_
        refine x_cast (y := I 23 i) (by rw [hcal, nI_clamp (by omega)]) ?_
        refine x_iload_n F dX5_isPaid_85 rfl 0 rfl ?_
        refine x_if_eq F 98 dX5_isPaid_86 (by decide) (fun h86 => ?_) (fun h86 => ?_)
        · exact False.elim (by revert h86; decide)
        · refine x_aload_n F dX5_isPaid_89 rfl 2 rfl ?_
          refine g_X5_57 F (hR 13 (by decide)) sc_13 rfl dX5_isPaid_90 ?_
          refine x_iload_n F dX5_isPaid_93 rfl 3 rfl ?_
          refine y_iald F (hR 29 (by decide)) ss_29 (vp_in_nI (by omega) (by decide)) dX5_isPaid_94 ?_
          refine x_cast (y := I 29 j) (by rw [nI_clamp (by omega)]) ?_
          refine x_goto F 99 dX5_isPaid_95 (by decide) ?_
          refine x_isub F dX5_isPaid_99 ?_
          refine y_iast F (hR 23 (by decide)) ss_23 (by rw [hcal]; exact vp_in_nI (by omega) (by decide)) dX5_isPaid_100 ?_
          refine x_world (congrArg (fun z => k_c cy ad q ns nt z J) (show wI I 23 (I 25 j).toNatClampNeg ((I 23 i) - (I 29 j)) = wI I 23 i ((I 23 i) - (I 29 j)) by rw [hcal, nI_clamp (by omega)])) ?_
          refine x_iload_n F dX5_isPaid_101 rfl 0 rfl ?_
          rw [hQ]
          exact x_zret F hr hlk (by decide) ⟨by simp [paidB, dueM, k_b, *], by simp [paidI, dueM, *]⟩ dX5_isPaid_102
    · refine x_aload_n F dX5_isPaid_40 rfl 1 rfl ?_
      refine g_X5_42 F (hR 13 (by decide)) sc_13 rfl dX5_isPaid_41 ?_
      refine x_iload_n F dX5_isPaid_44 rfl 0 rfl ?_
      refine x_dup2 F dX5_isPaid_45 rfl rfl ?_
      refine y_iald F (hR 24 (by decide)) ss_24 (by rw [hcal]; exact vp_in_nI (by omega) (by decide)) dX5_isPaid_46 ?_
      refine x_cast (y := I 24 i) (by rw [hcal, nI_clamp (by omega)]) ?_
      refine x_aload_n F dX5_isPaid_47 rfl 1 rfl ?_
      refine g_X5_54 F (hR 13 (by decide)) sc_13 rfl dX5_isPaid_48 ?_
      refine x_iload_n F dX5_isPaid_51 rfl 2 rfl ?_
      refine y_iald F (hR 28 (by decide)) ss_28 (vp_in_nI (by omega) (by decide)) dX5_isPaid_52 ?_
      refine x_cast (y := I 28 j) (by rw [nI_clamp (by omega)]) ?_
      refine x_isub F dX5_isPaid_53 ?_
      refine y_iast F (hR 24 (by decide)) ss_24 (by rw [hcal]; exact vp_in_nI (by omega) (by decide)) dX5_isPaid_54 ?_
      refine x_world (congrArg (fun z => k_c cy ad q ns nt z J) (show wI I 24 (I 25 j).toNatClampNeg ((I 24 i) - (I 28 j)) = wI I 24 i ((I 24 i) - (I 28 j)) by rw [hcal, nI_clamp (by omega)])) ?_
      refine x_iconst F (v := 1) dX5_isPaid_55 (by decide) ?_
      rw [hQ]
      exact x_zret F hr hlk (by decide) ⟨by simp [paidB, dueM, k_b, *], by simp [paidI, dueM, *]⟩ dX5_isPaid_56
  · refine x_iconst F (v := 1) dX5_isPaid_23 (by decide) ?_
    rw [hQ]
    exact x_zret F hr hlk (by decide) ⟨by simp [paidB, dueM, k_b, *], by simp [paidI, dueM, *]⟩ dX5_isPaid_24
