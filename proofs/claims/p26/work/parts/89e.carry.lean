section LC
variable {D : va_G} {cy : Nat → ClassId} {lo : Nat} {p : Program} {l : Launch} {e : Env} {s : State} {m : MethodId} {args : Array Value} {below : List Frame} {meth : Method} {c : Code} {cells slots : Nat} {Q : State → Prop} {R : List Nat} {ad : Nat → Nat} {b : Nat} {q : Nat → Nat → Nat} {ns nt T : Nat} {I : Nat → Nat → Int32} {J : Nat → Nat → Int64}
set_option maxHeartbeats 4000000 in
set_option maxRecDepth 100000 in
/-- an act: carryOver -/
theorem law_carryOver (hfl : l.stackTraces = false) (F : k_F p m c cL_law 20 s RL D cy lo) (hRX : k_RX R ns nt) (h : SR q ns nt T I J I J) (hT : T ≤ 20000) (hT2 : 299 ≤ T) {turn f t : Nat} {xv yv kv : Int32} (hf : f < 5) (ht : t < 5) {nm : Nat} (hnm : nm < ns) (hc : cells + 400 ≤ 600104) (hs : slots + 2400 ≤ 7301314)
    (K : ∀ (R' : List Nat) (ad' : Nat → Nat) (q' : Nat → Nat → Nat) (ns' nt' : Nat) (I' : Nat → Nat → Int32) (J' : Nat → Nat → Int64), k_RX R' ns' nt' → (∀ y, y < 40 → ad' y = ad y) → ns ≤ ns' → SR q' ns' nt' (T + 200) I' J' I' J' → XW D lo p l e room_1 s m args below meth c 20 (cells + 400) (slots + 2400) Q R' ad' (k_c cy ad' q' ns' nt' I' J') 1344 (k_LV ad' b turn) []) :
    XW D lo p l e room_1 s m args below meth c 20 cells slots Q R ad (k_c cy ad q ns nt I J) 599 ((15, .int (nI nm)) :: (14, .int (nI t)) :: (13, .int (nI f)) :: (12, .int kv) :: (11, .int yv) :: (10, .int xv) :: k_LV ad b turn) [] := by
  have hR := hRX.1.1
  have hL := hRX.1
  have hns := h.hns
  have hnt := h.hnt
  obtain ⟨hc, hc5, e1, e1n⟩ := sub_home h hnm
  obtain ⟨⟨hh, a1, a2, a3, a4, a5, a6⟩, -⟩ := h.sub nm hnm
  refine x_iconst F (v := 4) dL_law_599 (by decide) ?_
  refine x_iload F dL_law_600 0 rfl ?_
  refine x_imul F dL_law_602 ?_
  refine x_cast (y := nI (4 * nm)) (pk_mul 4 nm) ?_
  refine x_istore F [(16, .int (nI (4 * nm))), (15, .int (nI nm)), (14, .int (nI t)), (13, .int (nI f)), (12, .int kv), (11, .int yv), (10, .int xv), (9, .int (nI turn)), (8, .ref (ad 18)), (7, .ref (ad 17)), (6, .ref (ad 16)), (5, .ref (ad 15)), (4, .ref (ad 14)), (3, .ref (ad 13)), (2, .ref (ad 12)), (1, .ref (ad 0)), (0, .ref b)] dL_law_603 (by decide) rfl ?_
  refine x_aload F dL_law_605 10 rfl ?_
  refine x_iload F dL_law_607 0 rfl ?_
  refine y_iald F (hR 16 (by decide)) ss_16 (vp_in_nI (n := 4 * nm) (N := 32) (by omega) (by decide)) dL_law_609 ?_
  refine x_cast (y := I 16 (4 * nm)) (by rw [nI_clamp (n := 4 * nm) (by omega)]) ?_
  refine x_cast (y := nI hc) (e1n) ?_
  refine x_iload F dL_law_610 2 rfl ?_
  refine x_icmp_ne F 619 dL_law_612 (by decide) (fun h612 => ?_) (fun h612 => ?_)
  · replace h612 : ¬ hc = t := fun z => h612 ((nI_eq (a := hc) (b := t) (by omega) (by omega)).mpr z)
    refine x_aload F dL_law_619 10 rfl ?_
    refine x_iload F dL_law_621 0 rfl ?_
    refine x_iconst F (v := 3) dL_law_623 (by decide) ?_
    refine x_iadd F dL_law_624 ?_
    refine x_cast (y := nI (4 * nm + 3)) (nI_add (4 * nm) 3) ?_
    refine y_iald F (hR 16 (by decide)) ss_16 (vp_in_nI (n := 4 * nm + 3) (N := 32) (by omega) (by decide)) dL_law_625 ?_
    refine x_cast (y := I 16 (4 * nm + 3)) (by rw [nI_clamp (n := 4 * nm + 3) (by omega)]) ?_
    refine x_cast (y := nI hh) (a4) ?_
    refine x_bipush F (v := 10) dL_law_626 (by decide) ?_
    refine x_icmp_ne F 635 dL_law_628 (by decide) (fun h628 => ?_) (fun h628 => ?_)
    · replace h628 : ¬ hh = 10 := fun z => h628 ((nI_eq (a := hh) (b := 10) (by omega) (by omega)).mpr z)
      refine x_iconst F (v := 0) dL_law_635 (by decide) ?_
      refine x_istore F [(17, .int 0), (16, .int (nI (4 * nm))), (15, .int (nI nm)), (14, .int (nI t)), (13, .int (nI f)), (12, .int kv), (11, .int yv), (10, .int xv), (9, .int (nI turn)), (8, .ref (ad 18)), (7, .ref (ad 17)), (6, .ref (ad 16)), (5, .ref (ad 15)), (4, .ref (ad 14)), (3, .ref (ad 13)), (2, .ref (ad 12)), (1, .ref (ad 0)), (0, .ref b)] dL_law_636 (by decide) rfl ?_
      refine x_iload F dL_law_638 0 rfl ?_
      refine x_if_le F 659 dL_law_640 (by decide) (fun h640 => ?_) (fun h640 => ?_)
      · refine x_aload F dL_law_659 11 rfl ?_
        refine x_iload F dL_law_661 1 rfl ?_
        refine x_iload F dL_law_663 3 rfl ?_
        refine y_iast F (hR 16 (by decide)) ss_16 (vp_in_nI (n := 4 * nm) (N := 32) (by omega) (by decide)) dL_law_665 ?_
        refine x_world (congrArg (fun z => k_c cy ad q ns nt z J) (show wI I 16 ((nI (4 * nm)).toNatClampNeg) (nI t) = wI I 16 (4 * nm) (nI t) by rw [nI_clamp (n := 4 * nm) (by omega)])) ?_
        refine x_aload F dL_law_666 11 rfl ?_
        refine x_iload F dL_law_668 1 rfl ?_
        refine x_iconst F (v := 3) dL_law_670 (by decide) ?_
        refine x_iadd F dL_law_671 ?_
        refine x_cast (y := nI (4 * nm + 3)) (nI_add (4 * nm) 3) ?_
        refine x_dup2 F dL_law_672 rfl rfl ?_
        refine y_iald F (hR 16 (by decide)) ss_16 (vp_in_nI (n := 4 * nm + 3) (N := 32) (by omega) (by decide)) dL_law_673 ?_
        refine x_cast (y := (wI I 16 (4 * nm) (nI t)) 16 (4 * nm + 3)) (by rw [nI_clamp (n := 4 * nm + 3) (by omega)]) ?_
        refine x_cast (y := nI hh) (by simp (disch := omega) only [wI_off]; exact a4) ?_
        refine x_iconst F (v := 1) dL_law_674 (by decide) ?_
        refine x_iadd F dL_law_675 ?_
        refine x_cast (y := nI (hh + 1)) (nI_add hh 1) ?_
        refine y_iast F (hR 16 (by decide)) ss_16 (vp_in_nI (n := 4 * nm + 3) (N := 32) (by omega) (by decide)) dL_law_676 ?_
        refine x_world (congrArg (fun z => k_c cy ad q ns nt z J) (show wI (wI I 16 (4 * nm) (nI t)) 16 ((nI (4 * nm + 3)).toNatClampNeg) (nI (hh + 1)) = wI (wI I 16 (4 * nm) (nI t)) 16 (4 * nm + 3) (nI (hh + 1)) by rw [nI_clamp (n := 4 * nm + 3) (by omega)])) ?_
        refine x_aload_n F dL_law_677 rfl 16 rfl ?_
        refine x_iload F dL_law_678 2 rfl ?_
        refine x_iload F dL_law_680 3 rfl ?_
        refine z_callVix F [.int (nI nm), .int (nI t)] (c_X4_carryOver l D cy lo R ad q ns nt (wI (wI I 16 (4 * nm) (nI t)) 16 (4 * nm + 3) (nI (hh + 1))) J hL hfl (nI nm) (nI t)) mc_X4_carryOver mv_X4_carryOver lk_L_41 (hR 0 (by decide)) sc_0 rfl rfl rfl dL_law_682 ⟨Nat.le_of_ble_eq_true rfl, Nat.le_of_ble_eq_true rfl⟩ ⟨by (try dsimp only); show _ ≤ 600104; omega, by (try dsimp only); show _ ≤ 7301314; omega⟩ (Nat.le_of_ble_eq_true rfl) (fun E hE => absurd hE (fun g => g.elim (fun g => absurd g.2 (by rw [isN_ok hnm (by omega), car_of ht]; decide)) (fun g => g.elim (fun g => by have g9 := g.2.2.2; rw [nI_clamp (by omega), homeF_row (I := I) (by simp (disch := omega) only [wI_row]) (by simp (disch := omega) only [wI_row]), e1, nI_eq (by omega) (by omega)] at g9; exact h612 g9) (fun g => absurd g.2.2.2.2 (by rw [(carry_sr h hnm ht a1 (show hh < 10 by omega) a3).1]; decide))))) (fun ok682 => ?_)
        refine x_cast (y := nI (hh + 1)) ((carry_sr h hnm ht a1 (show hh < 10 by omega) a3).2.1) ?_
        refine x_aload F dL_law_685 11 rfl ?_
        refine x_iload F dL_law_687 1 rfl ?_
        refine x_iconst F (v := 3) dL_law_689 (by decide) ?_
        refine x_iadd F dL_law_690 ?_
        refine x_cast (y := nI (4 * nm + 3)) (nI_add (4 * nm) 3) ?_
        refine y_iald F (hR 16 (by decide)) ss_16 (vp_in_nI (n := 4 * nm + 3) (N := 32) (by omega) (by decide)) dL_law_691 ?_
        refine x_cast (y := (moveI (wI (wI I 16 (4 * nm) (nI t)) 16 (4 * nm + 3) (nI (hh + 1))) (40 + 2 * (nI nm).toNatClampNeg) (nI t)) 16 (4 * nm + 3)) (by rw [nI_clamp (n := 4 * nm + 3) (by omega)]) ?_
        refine x_cast (y := nI (hh + 1)) ((carry_sr h hnm ht a1 (show hh < 10 by omega) a3).2.2.1) ?_
        refine x_icmp_eq F 697 dL_law_692 (by decide) (fun h692 => ?_) (fun h692 => ?_)
        · replace h692 : (hh + 1) = (hh + 1) := (nI_eq (a := hh + 1) (b := hh + 1) (by omega) (by omega)).mp h692
          refine x_goto F 1323 dL_law_697 (by decide) ?_
          refine x_sub [4, 8, 9, 10, 11, 12, 13, 14, 15, 16, 17] rfl ?_
          refine x_widen (k := cells + 106) (n := slots + 636) (by (try dsimp only); omega) (by (try dsimp only); omega) ?_
          refine law_tail hfl F hRX.1 (T := T + 200) (J := J) ((carry_sr h hnm ht a1 (show hh < 10 by omega) a3).2.2.2.up (by omega)) hf (by omega) (by omega) (fun I2 hS2 => ?_)
          exact K R ad q ns nt I2 _ hRX (fun _ _ => rfl) (Nat.le_refl _) hS2
        · exact (h692 rfl).elim
      · exact False.elim (by revert h640; decide)
    · replace h628 : hh = 10 := (nI_eq (a := hh) (b := 10) (by omega) (by omega)).mp h628
      refine x_iconst F (v := 3) dL_law_631 (by decide) ?_
      refine x_goto F 636 dL_law_632 (by decide) ?_
      refine x_istore F [(17, .int 3), (16, .int (nI (4 * nm))), (15, .int (nI nm)), (14, .int (nI t)), (13, .int (nI f)), (12, .int kv), (11, .int yv), (10, .int xv), (9, .int (nI turn)), (8, .ref (ad 18)), (7, .ref (ad 17)), (6, .ref (ad 16)), (5, .ref (ad 15)), (4, .ref (ad 14)), (3, .ref (ad 13)), (2, .ref (ad 12)), (1, .ref (ad 0)), (0, .ref b)] dL_law_636 (by decide) rfl ?_
      refine x_iload F dL_law_638 0 rfl ?_
      refine x_if_le F 659 dL_law_640 (by decide) (fun h640 => ?_) (fun h640 => ?_)
      · exact False.elim (by revert h640; decide)
      · refine x_aload_n F dL_law_643 rfl 16 rfl ?_
        refine x_iconst F (v := 4) dL_law_644 (by decide) ?_
        refine x_iload F dL_law_645 2 rfl ?_
        refine x_iload F dL_law_647 3 rfl ?_
        refine x_callHi F [.ref (ad 0), .int 4, .int (nI nm), .int (nI t)] (c_rf_4 l D cy lo R ad q ns nt I J hR (nI nm) (nI t) _ _ _ _ _ _ (c_X4_carryOver l D cy lo R ad q ns nt I J hL hfl (nI nm) (nI t)) (fun E u hx => by rcases hx with ⟨⟨e, -⟩ | ⟨e, -⟩ | ⟨e, -⟩, -⟩ <;> simp [e]) (fun v9 u hp => absurd hp.1.2.2.2 (by rw [nI_clamp (by omega), moveB, a3, h628]; decide))) mh_refused ms_L_refused lk_L_65 rfl rfl dL_law_649 ⟨Nat.le_of_ble_eq_true rfl, Nat.le_of_ble_eq_true rfl⟩ ⟨by (try dsimp only); show _ ≤ 600104; omega, by (try dsimp only); show _ ≤ 7301314; omega⟩ (Nat.le_of_ble_eq_true rfl) (fun r9 u9 hp9 => ?_)
        obtain ⟨rfl, rfl⟩ : r9 = 3 ∧ u9 = (R, ad, k_c cy ad q ns nt I J) := by
          rcases hp9 with ⟨hx, rfl⟩ | ⟨hx, rfl⟩ | ⟨hx, rfl⟩
          · rcases hx.1 with ⟨-, g⟩ | ⟨g, -⟩ | ⟨g, -⟩
            · exact absurd g (by rw [isN_ok hnm (by omega), car_of ht]; decide)
            · exact absurd g (by decide)
            · exact absurd g (by decide)
          · rcases hx.1 with ⟨g, -⟩ | ⟨-, -, -, g⟩ | ⟨g, -⟩
            · exact absurd g (by decide)
            · rw [nI_clamp (by omega), e1, nI_eq (by omega) (by omega)] at g; exact absurd g h612
            · exact absurd g (by decide)
          · exact ⟨rfl, hx.2⟩
        dsimp only
        refine x_iload F dL_law_652 0 rfl ?_
        refine x_icmp_eq F 1344 dL_law_654 (by decide) (fun h654 => ?_) (fun h654 => ?_)
        · refine x_sub [8, 9, 10, 11, 12, 13, 14, 15, 16, 17] rfl ?_
          refine x_widen (k := cells + 400) (n := slots + 2400) (by (try dsimp only); omega) (by (try dsimp only); omega) ?_
          exact K R ad q ns nt _ _ hRX (fun _ _ => rfl) (Nat.le_refl _) ((h.up (by omega)))
        · exact False.elim (by revert h654; decide)
  · replace h612 : hc = t := (nI_eq (a := hc) (b := t) (by omega) (by omega)).mp h612
    refine x_iconst F (v := 2) dL_law_615 (by decide) ?_
    refine x_goto F 636 dL_law_616 (by decide) ?_
    refine x_istore F [(17, .int 2), (16, .int (nI (4 * nm))), (15, .int (nI nm)), (14, .int (nI t)), (13, .int (nI f)), (12, .int kv), (11, .int yv), (10, .int xv), (9, .int (nI turn)), (8, .ref (ad 18)), (7, .ref (ad 17)), (6, .ref (ad 16)), (5, .ref (ad 15)), (4, .ref (ad 14)), (3, .ref (ad 13)), (2, .ref (ad 12)), (1, .ref (ad 0)), (0, .ref b)] dL_law_636 (by decide) rfl ?_
    refine x_iload F dL_law_638 0 rfl ?_
    refine x_if_le F 659 dL_law_640 (by decide) (fun h640 => ?_) (fun h640 => ?_)
    · exact False.elim (by revert h640; decide)
    · refine x_aload_n F dL_law_643 rfl 16 rfl ?_
      refine x_iconst F (v := 4) dL_law_644 (by decide) ?_
      refine x_iload F dL_law_645 2 rfl ?_
      refine x_iload F dL_law_647 3 rfl ?_
      refine x_callHi F [.ref (ad 0), .int 4, .int (nI nm), .int (nI t)] (c_rf_4 l D cy lo R ad q ns nt I J hR (nI nm) (nI t) _ _ _ _ _ _ (c_X4_carryOver l D cy lo R ad q ns nt I J hL hfl (nI nm) (nI t)) (fun E u hx => by rcases hx with ⟨⟨e, -⟩ | ⟨e, -⟩ | ⟨e, -⟩, -⟩ <;> simp [e]) (fun v9 u hp => absurd (by rw [nI_clamp (by omega), e1, h612]) hp.1.2.2.1)) mh_refused ms_L_refused lk_L_65 rfl rfl dL_law_649 ⟨Nat.le_of_ble_eq_true rfl, Nat.le_of_ble_eq_true rfl⟩ ⟨by (try dsimp only); show _ ≤ 600104; omega, by (try dsimp only); show _ ≤ 7301314; omega⟩ (Nat.le_of_ble_eq_true rfl) (fun r9 u9 hp9 => ?_)
      obtain ⟨rfl, rfl⟩ : r9 = 2 ∧ u9 = (R, ad, k_c cy ad q ns nt I J) := by
        rcases hp9 with ⟨hx, rfl⟩ | ⟨hx, rfl⟩ | ⟨hx, rfl⟩
        · rcases hx.1 with ⟨-, g⟩ | ⟨g, -⟩ | ⟨g, -⟩
          · exact absurd g (by rw [isN_ok hnm (by omega), car_of ht]; decide)
          · exact absurd g (by decide)
          · exact absurd g (by decide)
        · exact ⟨rfl, hx.2⟩
        · rcases hx.1 with ⟨g, -⟩ | ⟨g, -⟩ | ⟨-, -, -, g, -⟩
          · exact absurd g (by decide)
          · exact absurd g (by decide)
          · exact absurd (by rw [nI_clamp (by omega), e1, h612]) g
      dsimp only
      refine x_iload F dL_law_652 0 rfl ?_
      refine x_icmp_eq F 1344 dL_law_654 (by decide) (fun h654 => ?_) (fun h654 => ?_)
      · refine x_sub [8, 9, 10, 11, 12, 13, 14, 15, 16, 17] rfl ?_
        refine x_widen (k := cells + 400) (n := slots + 2400) (by (try dsimp only); omega) (by (try dsimp only); omega) ?_
        exact K R ad q ns nt _ _ hRX (fun _ _ => rfl) (Nat.le_refl _) ((h.up (by omega)))
      · exact False.elim (by revert h654; decide)
end LC
