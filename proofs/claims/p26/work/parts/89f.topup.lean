section LC
variable {D : va_G} {cy : Nat → ClassId} {lo : Nat} {p : Program} {l : Launch} {e : Env} {s : State} {m : MethodId} {args : Array Value} {below : List Frame} {meth : Method} {c : Code} {cells slots : Nat} {Q : State → Prop} {R : List Nat} {ad : Nat → Nat} {b : Nat} {q : Nat → Nat → Nat} {ns nt T : Nat} {I : Nat → Nat → Int32} {J : Nat → Nat → Int64}
set_option maxHeartbeats 4000000 in
set_option maxRecDepth 100000 in
/-- an act: topUp -/
theorem law_topUp (hfl : l.stackTraces = false) (F : k_F p m c cL_law 20 s RL D cy lo) (hRX : k_RX R ns nt) (h : SR q ns nt T I J I J) (hT : T ≤ 20000) (hT2 : 299 ≤ T) {turn f t : Nat} {xv yv kv : Int32} (hf : f < 5) (ht : t < 5) {nm : Nat} (hnm : nm < ns) (hc : cells + 400 ≤ 600104) (hs : slots + 2400 ≤ 7301314)
    (K : ∀ (R' : List Nat) (ad' : Nat → Nat) (q' : Nat → Nat → Nat) (ns' nt' : Nat) (I' : Nat → Nat → Int32) (J' : Nat → Nat → Int64), k_RX R' ns' nt' → (∀ y, y < 40 → ad' y = ad y) → ns ≤ ns' → SR q' ns' nt' (T + 200) I' J' I' J' → XW D lo p l e room_1 s m args below meth c 20 (cells + 400) (slots + 2400) Q R' ad' (k_c cy ad' q' ns' nt' I' J') 1344 (k_LV ad' b turn) []) :
    XW D lo p l e room_1 s m args below meth c 20 cells slots Q R ad (k_c cy ad q ns nt I J) 707 ((15, .int (nI nm)) :: (14, .int (nI t)) :: (13, .int (nI f)) :: (12, .int kv) :: (11, .int yv) :: (10, .int xv) :: k_LV ad b turn) [] := by
  have hR := hRX.1.1
  have hL := hRX.1
  have hns := h.hns
  have hnt := h.hnt
  obtain ⟨-, a7, a8, ⟨nb, b1, e2⟩, nu, u1, e3⟩ := h.sub nm hnm
  refine x_aload F dL_law_707 9 rfl ?_
  refine x_iconst F (v := 4) dL_law_709 (by decide) ?_
  refine x_iload F dL_law_710 0 rfl ?_
  refine x_imul F dL_law_712 ?_
  refine x_cast (y := nI (4 * nm)) (pk_mul 4 nm) ?_
  refine x_iconst F (v := 1) dL_law_713 (by decide) ?_
  refine x_iadd F dL_law_714 ?_
  refine x_cast (y := nI (4 * nm + 1)) (nI_add (4 * nm) 1) ?_
  refine x_dup2 F dL_law_715 rfl rfl ?_
  refine y_iald F (hR 16 (by decide)) ss_16 (vp_in_nI (n := 4 * nm + 1) (N := 32) (by omega) (by decide)) dL_law_716 ?_
  refine x_cast (y := I 16 (4 * nm + 1)) (by rw [nI_clamp (n := 4 * nm + 1) (by omega)]) ?_
  refine x_cast (y := nI nb) (a7.trans e2) ?_
  refine x_iload F dL_law_717 4 rfl ?_
  refine x_iconst F (v := 4) dL_law_719 (by decide) ?_
  refine x_ishr F dL_law_720 ?_
  refine x_sipush F (v := 200) dL_law_721 (by decide) ?_
  refine z_callSi F [.int (yv >>> (4 &&& 31)), .int 200] (c_L_low l D cy lo R ad _ (yv >>> (4 &&& 31)) 200 (by decide)) mc_L_low ms_L_low lk_L_103 rfl rfl dL_law_724 ⟨Nat.le_of_ble_eq_true rfl, Nat.le_of_ble_eq_true rfl⟩ ⟨by (try dsimp only); show _ ≤ 600104; omega, by (try dsimp only); show _ ≤ 7301314; omega⟩ (Nat.le_of_ble_eq_true rfl) ?_
  obtain ⟨j724, hj724, ej724⟩ := low_n (yv >>> (4 &&& 31)) (n := 200) (by omega) (by omega)
  rw [show lowI (yv >>> (4 &&& 31)) 200 = nI j724 from ej724]
  refine x_iadd F dL_law_727 ?_
  refine x_cast (y := nI (nb + j724)) (nI_add nb j724) ?_
  refine y_iast F (hR 16 (by decide)) ss_16 (vp_in_nI (n := 4 * nm + 1) (N := 32) (by omega) (by decide)) dL_law_728 ?_
  refine x_world (congrArg (fun z => k_c cy ad q ns nt z J) (show wI I 16 ((nI (4 * nm + 1)).toNatClampNeg) (nI (nb + j724)) = wI I 16 (4 * nm + 1) (nI (nb + j724)) by rw [nI_clamp (n := 4 * nm + 1) (by omega)])) ?_
  refine x_aload F dL_law_729 9 rfl ?_
  refine x_iconst F (v := 4) dL_law_731 (by decide) ?_
  refine x_iload F dL_law_732 0 rfl ?_
  refine x_imul F dL_law_734 ?_
  refine x_cast (y := nI (4 * nm)) (pk_mul 4 nm) ?_
  refine x_iconst F (v := 2) dL_law_735 (by decide) ?_
  refine x_iadd F dL_law_736 ?_
  refine x_cast (y := nI (4 * nm + 2)) (nI_add (4 * nm) 2) ?_
  refine x_dup2 F dL_law_737 rfl rfl ?_
  refine y_iald F (hR 16 (by decide)) ss_16 (vp_in_nI (n := 4 * nm + 2) (N := 32) (by omega) (by decide)) dL_law_738 ?_
  refine x_cast (y := (wI I 16 (4 * nm + 1) (nI (nb + j724))) 16 (4 * nm + 2)) (by rw [nI_clamp (n := 4 * nm + 2) (by omega)]) ?_
  refine x_cast (y := nI nu) (by simp (disch := omega) only [wI_off]; exact a8.trans e3) ?_
  refine x_iload F dL_law_739 4 rfl ?_
  refine x_bipush F (v := 12) dL_law_741 (by decide) ?_
  refine x_ishr F dL_law_743 ?_
  refine x_bipush F (v := 12) dL_law_744 (by decide) ?_
  refine z_callSi F [.int (yv >>> (12 &&& 31)), .int 12] (c_L_low l D cy lo R ad _ (yv >>> (12 &&& 31)) 12 (by decide)) mc_L_low ms_L_low lk_L_103 rfl rfl dL_law_746 ⟨Nat.le_of_ble_eq_true rfl, Nat.le_of_ble_eq_true rfl⟩ ⟨by (try dsimp only); show _ ≤ 600104; omega, by (try dsimp only); show _ ≤ 7301314; omega⟩ (Nat.le_of_ble_eq_true rfl) ?_
  obtain ⟨j746, hj746, ej746⟩ := low_n (yv >>> (12 &&& 31)) (n := 12) (by omega) (by omega)
  rw [show lowI (yv >>> (12 &&& 31)) 12 = nI j746 from ej746]
  refine x_iadd F dL_law_749 ?_
  refine x_cast (y := nI (nu + j746)) (nI_add nu j746) ?_
  refine y_iast F (hR 16 (by decide)) ss_16 (vp_in_nI (n := 4 * nm + 2) (N := 32) (by omega) (by decide)) dL_law_750 ?_
  refine x_world (congrArg (fun z => k_c cy ad q ns nt z J) (show wI (wI I 16 (4 * nm + 1) (nI (nb + j724))) 16 ((nI (4 * nm + 2)).toNatClampNeg) (nI (nu + j746)) = wI (wI I 16 (4 * nm + 1) (nI (nb + j724))) 16 (4 * nm + 2) (nI (nu + j746)) by rw [nI_clamp (n := 4 * nm + 2) (by omega)])) ?_
  refine x_aload_n F dL_law_751 rfl 14 rfl ?_
  refine x_iload F dL_law_752 0 rfl ?_
  refine x_iload F dL_law_754 4 rfl ?_
  refine x_iconst F (v := 4) dL_law_756 (by decide) ?_
  refine x_ishr F dL_law_757 ?_
  refine x_sipush F (v := 200) dL_law_758 (by decide) ?_
  refine z_callSi F [.int (yv >>> (4 &&& 31)), .int 200] (c_L_low l D cy lo R ad _ (yv >>> (4 &&& 31)) 200 (by decide)) mc_L_low ms_L_low lk_L_103 rfl rfl dL_law_761 ⟨Nat.le_of_ble_eq_true rfl, Nat.le_of_ble_eq_true rfl⟩ ⟨by (try dsimp only); show _ ≤ 600104; omega, by (try dsimp only); show _ ≤ 7301314; omega⟩ (Nat.le_of_ble_eq_true rfl) ?_
  rw [show lowI (yv >>> (4 &&& 31)) 200 = nI j724 from ej724]
  refine x_iload F dL_law_764 4 rfl ?_
  refine x_bipush F (v := 12) dL_law_766 (by decide) ?_
  refine x_ishr F dL_law_768 ?_
  refine x_bipush F (v := 12) dL_law_769 (by decide) ?_
  refine z_callSi F [.int (yv >>> (12 &&& 31)), .int 12] (c_L_low l D cy lo R ad _ (yv >>> (12 &&& 31)) 12 (by decide)) mc_L_low ms_L_low lk_L_103 rfl rfl dL_law_771 ⟨Nat.le_of_ble_eq_true rfl, Nat.le_of_ble_eq_true rfl⟩ ⟨by (try dsimp only); show _ ≤ 600104; omega, by (try dsimp only); show _ ≤ 7301314; omega⟩ (Nat.le_of_ble_eq_true rfl) ?_
  rw [show lowI (yv >>> (12 &&& 31)) 12 = nI j746 from ej746]
  refine z_callVix F [.int (nI nm), .int (nI j724), .int (nI j746)] (c_X4_topUp l D cy lo R ad q ns nt (wI (wI I 16 (4 * nm + 1) (nI (nb + j724))) 16 (4 * nm + 2) (nI (nu + j746))) J hL hfl (nI nm) (nI j724) (nI j746)) mc_X4_topUp mv_X4_topUp lk_L_117 (hR 0 (by decide)) sc_0 rfl rfl rfl dL_law_774 ⟨Nat.le_of_ble_eq_true rfl, Nat.le_of_ble_eq_true rfl⟩ ⟨by (try dsimp only); show _ ≤ 600104; omega, by (try dsimp only); show _ ≤ 7301314; omega⟩ (Nat.le_of_ble_eq_true rfl) (fun E hE => absurd hE (fun g => g.elim (fun g => absurd g.2 (by rw [isN_ok hnm (by omega)]; decide)) (fun g => g.elim (fun g => absurd g.2.2 (by rw [show isWi (nI j724) 0 10000 = true from isWi_n (a := 0) (b := 10000) (by omega) (by omega) (by omega), show isWi (nI j746) 0 1000 = true from isWi_n (a := 0) (b := 1000) (by omega) (by omega) (by omega)]; decide)) (fun g => absurd g.2.2.2 (by rw [(top_sr h hnm (a := j724) (b := j746) (by omega) (by omega) (by omega) e2 e3 b1 u1).1, (top_sr h hnm (a := j724) (b := j746) (by omega) (by omega) (by omega) e2 e3 b1 u1).2.1, nI_add, nI_add, decide_eq_false (show ¬ (1000000 : Int32) < nI (nb + j724) from nI_nlt (a := 1000000) (b := nb + j724) (by omega) (by omega)), decide_eq_false (show ¬ (100000 : Int32) < nI (nu + j746) from nI_nlt (a := 100000) (b := nu + j746) (by omega) (by omega))]; decide))))) (fun ok774 => ?_)
  refine x_cast (y := nI (nb + j724)) (by rw [(top_sr h hnm (a := j724) (b := j746) (by omega) (by omega) (by omega) e2 e3 b1 u1).1, nI_add]) ?_
  refine x_aload F dL_law_777 9 rfl ?_
  refine x_iconst F (v := 4) dL_law_779 (by decide) ?_
  refine x_iload F dL_law_780 0 rfl ?_
  refine x_imul F dL_law_782 ?_
  refine x_cast (y := nI (4 * nm)) (pk_mul 4 nm) ?_
  refine x_iconst F (v := 1) dL_law_783 (by decide) ?_
  refine x_iadd F dL_law_784 ?_
  refine x_cast (y := nI (4 * nm + 1)) (nI_add (4 * nm) 1) ?_
  refine y_iald F (hR 16 (by decide)) ss_16 (vp_in_nI (n := 4 * nm + 1) (N := 32) (by omega) (by decide)) dL_law_785 ?_
  refine x_cast (y := (wI (wI (wI (wI I 16 (4 * nm + 1) (nI (nb + j724))) 16 (4 * nm + 2) (nI (nu + j746))) (40 + 2 * (nI nm).toNatClampNeg) 2 ((wI (wI I 16 (4 * nm + 1) (nI (nb + j724))) 16 (4 * nm + 2) (nI (nu + j746))) (40 + 2 * (nI nm).toNatClampNeg) 2 + (nI j724))) (40 + 2 * (nI nm).toNatClampNeg) 3 ((wI (wI I 16 (4 * nm + 1) (nI (nb + j724))) 16 (4 * nm + 2) (nI (nu + j746))) (40 + 2 * (nI nm).toNatClampNeg) 3 + (nI j746))) 16 (4 * nm + 1)) (by rw [nI_clamp (n := 4 * nm + 1) (by omega)]) ?_
  refine x_cast (y := nI (nb + j724)) (by rw [nI_clamp (by omega)]; simp (disch := omega) only [wI_row, wI_off, wI_at]) ?_
  refine x_icmp_eq F 1323 dL_law_786 (by decide) (fun h786 => ?_) (fun h786 => ?_)
  · replace h786 : (nb + j724) = (nb + j724) := (nI_eq (a := nb + j724) (b := nb + j724) (by omega) (by omega)).mp h786
    refine x_sub [2, 6, 7, 8, 9, 10, 11, 12, 13, 14, 15] rfl ?_
    refine x_widen (k := cells + 106) (n := slots + 636) (by (try dsimp only); omega) (by (try dsimp only); omega) ?_
    refine law_tail hfl F hRX.1 (T := T + 200) (J := J) ((top_sr h hnm (a := j724) (b := j746) (by omega) (by omega) (by omega) e2 e3 b1 u1).2.2) hf (by omega) (by omega) (fun I2 hS2 => ?_)
    exact K R ad q ns nt I2 _ hRX (fun _ _ => rfl) (Nat.le_refl _) hS2
  · exact (h786 rfl).elim
end LC
