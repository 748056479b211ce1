section LC
variable {D : va_G} {cy : Nat → ClassId} {lo : Nat} {p : Program} {l : Launch} {e : Env} {s : State} {m : MethodId} {args : Array Value} {below : List Frame} {meth : Method} {c : Code} {cells slots : Nat} {Q : State → Prop} {R : List Nat} {ad : Nat → Nat} {b : Nat} {q : Nat → Nat → Nat} {ns nt T : Nat} {I : Nat → Nat → Int32} {J : Nat → Nat → Int64}
set_option maxHeartbeats 4000000 in
set_option maxRecDepth 100000 in
/-- an act: call -/
theorem law_call (hfl : l.stackTraces = false) (F : k_F p m c cL_law 20 s RL D cy lo) (hRX : k_RX R ns nt) (h : SR q ns nt T I J I J) (hT : T ≤ 20000) (hT2 : 299 ≤ T) {turn f t : Nat} {xv yv kv : Int32} (hf : f < 5) (ht : t < 5) {nm : Nat} (hnm : nm < ns) (hc : cells + 400 ≤ 600104) (hs : slots + 2400 ≤ 7301314)
    (K : ∀ (R' : List Nat) (ad' : Nat → Nat) (q' : Nat → Nat → Nat) (ns' nt' : Nat) (I' : Nat → Nat → Int32) (J' : Nat → Nat → Int64), k_RX R' ns' nt' → (∀ y, y < 40 → ad' y = ad y) → ns ≤ ns' → SR q' ns' nt' (T + 200) I' J' I' J' → XW D lo p l e room_1 s m args below meth c 20 (cells + 400) (slots + 2400) Q R' ad' (k_c cy ad' q' ns' nt' I' J') 1344 (k_LV ad' b turn) []) :
    XW D lo p l e room_1 s m args below meth c 20 cells slots Q R ad (k_c cy ad q ns nt I J) 798 ((15, .int (nI nm)) :: (14, .int (nI t)) :: (13, .int (nI f)) :: (12, .int kv) :: (11, .int yv) :: (10, .int xv) :: k_LV ad b turn) [] := by
  have hR := hRX.1.1
  have hL := hRX.1
  have hns := h.hns
  have hnt := h.hnt
  refine x_iload F dL_law_798 4 rfl ?_
  refine x_iconst F (v := 4) dL_law_800 (by decide) ?_
  refine x_ishr F dL_law_801 ?_
  refine x_aload F dL_law_802 7 rfl ?_
  refine x_iconst F (v := 0) dL_law_804 (by decide) ?_
  refine y_iald F (hR 18 (by decide)) ss_18 (show vp_in (nI 0) 2 from vp_in_nI (by decide) (by decide)) dL_law_805 ?_
  refine x_cast (y := I 18 0) (by rw [show (0 : Int32).toNatClampNeg = 0 from by decide]) ?_
  refine x_cast (y := nI ns) (h.g0) ?_
  refine z_callSi F [.int (yv >>> (4 &&& 31)), .int (nI ns)] (c_L_low l D cy lo R ad _ (yv >>> (4 &&& 31)) (nI ns) (nI_ne0 (by omega) (by omega))) mc_L_low ms_L_low lk_L_103 rfl rfl dL_law_806 ⟨Nat.le_of_ble_eq_true rfl, Nat.le_of_ble_eq_true rfl⟩ ⟨by (try dsimp only); show _ ≤ 600104; omega, by (try dsimp only); show _ ≤ 7301314; omega⟩ (Nat.le_of_ble_eq_true rfl) ?_
  obtain ⟨j806, hj806, ej806⟩ := low_n (yv >>> (4 &&& 31)) (n := ns) (by omega) (by omega)
  rw [show lowI (yv >>> (4 &&& 31)) (nI ns) = nI j806 from ej806]
  refine x_istore F [(16, .int (nI j806)), (15, .int (nI nm)), (14, .int (nI t)), (13, .int (nI f)), (12, .int kv), (11, .int yv), (10, .int xv), (9, .int (nI turn)), (8, .ref (ad 18)), (7, .ref (ad 17)), (6, .ref (ad 16)), (5, .ref (ad 15)), (4, .ref (ad 14)), (3, .ref (ad 13)), (2, .ref (ad 12)), (1, .ref (ad 0)), (0, .ref b)] dL_law_809 (by decide) rfl ?_
  refine x_iload F dL_law_811 1 rfl ?_
  refine x_iload F dL_law_813 0 rfl ?_
  refine x_icmp_ne F 833 dL_law_815 (by decide) (fun h815 => ?_) (fun h815 => ?_)
  · replace h815 : ¬ nm = j806 := fun z => h815 ((nI_eq (a := nm) (b := j806) (by omega) (by omega)).mpr z)
    obtain ⟨xa, hxa, e1, e1n⟩ := sub_home h hnm
    obtain ⟨xb, hxb, e2, e2n⟩ := sub_home h hj806
    obtain ⟨v, hB, hfv, -⟩ := fb_rep (r := 6) (Or.inl rfl) h.gc hxa hxb
    have hev := encO_lt hB
    refine x_aload F dL_law_833 10 rfl ?_
    refine x_iconst F (v := 4) dL_law_835 (by decide) ?_
    refine x_iload F dL_law_836 1 rfl ?_
    refine x_imul F dL_law_838 ?_
    refine x_cast (y := nI (4 * nm)) (pk_mul 4 nm) ?_
    refine y_iald F (hR 16 (by decide)) ss_16 (vp_in_nI (n := 4 * nm) (N := 32) (by omega) (by decide)) dL_law_839 ?_
    refine x_cast (y := I 16 (4 * nm)) (by rw [nI_clamp (n := 4 * nm) (by omega)]) ?_
    refine x_cast (y := nI xa) (e1n) ?_
    refine x_aload F dL_law_840 10 rfl ?_
    refine x_iconst F (v := 4) dL_law_842 (by decide) ?_
    refine x_iload F dL_law_843 0 rfl ?_
    refine x_imul F dL_law_845 ?_
    refine x_cast (y := nI (4 * j806)) (pk_mul 4 j806) ?_
    refine y_iald F (hR 16 (by decide)) ss_16 (vp_in_nI (n := 4 * j806) (N := 32) (by omega) (by decide)) dL_law_846 ?_
    refine x_cast (y := I 16 (4 * j806)) (by rw [nI_clamp (n := 4 * j806) (by omega)]) ?_
    refine x_cast (y := nI xb) (e2n) ?_
    refine x_aload_n F dL_law_847 rfl 14 rfl ?_
    refine x_aload F dL_law_848 12 rfl ?_
    refine z_callSi F [.int (nI xa), .int (nI xb), .ref (ad 12), .ref (ad 14)] (c_L_best l D cy lo R ad q ns nt I J hR xa xb (sOp I J) (sRt I) v hxa hxb h.gl hB) mc_L_best ms_L_best lk_L_21 rfl rfl dL_law_850 ⟨Nat.le_of_ble_eq_true rfl, Nat.le_of_ble_eq_true rfl⟩ ⟨by (try dsimp only); show _ ≤ 600104; omega, by (try dsimp only); show _ ≤ 7301314; omega⟩ (Nat.le_of_ble_eq_true rfl) ?_
    refine x_istore F [(17, .int (nI (encO v))), (16, .int (nI j806)), (15, .int (nI nm)), (14, .int (nI t)), (13, .int (nI f)), (12, .int kv), (11, .int yv), (10, .int xv), (9, .int (nI turn)), (8, .ref (ad 18)), (7, .ref (ad 17)), (6, .ref (ad 16)), (5, .ref (ad 15)), (4, .ref (ad 14)), (3, .ref (ad 13)), (2, .ref (ad 12)), (1, .ref (ad 0)), (0, .ref b)] dL_law_853 (by decide) rfl ?_
    refine x_iload F dL_law_855 0 rfl ?_
    refine x_if_eq F 884 dL_law_857 (by decide) (fun h857 => ?_) (fun h857 => ?_)
    · replace h857 : (encO v) = 0 := (nI_eq (a := encO v) (b := 0) (by omega) (by omega)).mp h857
      have hno3 : busyL I nm nt = true ∨ busyL I j806 nt = true ∨ fbB I J (homeF I (40 + 2 * nm) 0) (homeF I (40 + 2 * j806) 0) = false := Or.inr (Or.inr (by rw [e1, e2, hfv, encO_none hB (by omega)]; rfl))
      have hct := callT_34 h hnm hj806 h815 hno3
      have hct0 : ¬ callT I J q ns nt (nI nm) (nI j806) = 0 := by omega
      refine x_aload_n F dL_law_884 rfl 16 rfl ?_
      refine x_iconst F (v := 0) dL_law_885 (by decide) ?_
      refine x_iload F dL_law_886 2 rfl ?_
      refine x_iload F dL_law_888 1 rfl ?_
      refine x_callHi F [.ref (ad 0), .int 0, .int (nI nm), .int (nI j806)] (c_rf_0 l D cy lo R ad q ns nt I J hR (nI nm) (nI j806) _ _ _ _ _ _ (c_X4_call l D cy lo R ad q ns nt I J hRX hfl (nI nm) (nI j806) h.kq h.c7) (fun E u hx => by rcases hx with ⟨-, e, -⟩ | ⟨-, e, -⟩ | ⟨-, e, -⟩ | ⟨-, e, -⟩ <;> simp [e]) (fun v9 u hp => absurd hp.1 hct0)) mh_refused ms_L_refused lk_L_65 rfl rfl dL_law_890 ⟨Nat.le_of_ble_eq_true rfl, Nat.le_of_ble_eq_true rfl⟩ ⟨by (try dsimp only); show _ ≤ 600104; omega, by (try dsimp only); show _ ≤ 7301314; omega⟩ (Nat.le_of_ble_eq_true rfl) (fun r9 u9 hp9 => ?_)
      obtain ⟨I2, hI2, rfl, rfl⟩ : ∃ I2, scrE I2 I ∧ r9 = 3 ∧ u9 = (R, ad, k_c cy ad q ns nt I2 J) := by
        rcases hp9 with ⟨hx, rfl⟩ | ⟨hx, rfl⟩ | ⟨hx, rfl⟩
        · rcases hx with ⟨g, -⟩ | ⟨-, g, -⟩ | ⟨-, g, -⟩ | ⟨-, g, -⟩ <;> first | exact absurd g (by decide) | omega
        · rcases hx with ⟨g, -⟩ | ⟨g, -⟩ | ⟨-, g, -⟩ | ⟨-, g, -⟩ <;> first | exact absurd g (by decide) | omega
        · rcases hx with ⟨g, -⟩ | ⟨g, -⟩ | ⟨-, -, g⟩ | ⟨-, -, g⟩
          · omega
          · omega
          · exact ⟨I, scrE.rf I, rfl, g⟩
          · exact ⟨_, (scrE.rf I).fb J _ _, rfl, g⟩
      dsimp only
      refine x_iconst F (v := 3) dL_law_893 (by decide) ?_
      refine x_icmp_eq F 1344 dL_law_894 (by decide) (fun h894 => ?_) (fun h894 => ?_)
      · refine x_sub [8, 9, 10, 11, 12, 13, 14, 15, 16, 17] rfl ?_
        refine x_widen (k := cells + 400) (n := slots + 2400) (by (try dsimp only); omega) (by (try dsimp only); omega) ?_
        exact K R ad q ns nt _ _ hRX (fun _ _ => rfl) (Nat.le_refl _) ((h.scr hI2).up (by omega))
      · exact False.elim (by revert h894; decide)
    · replace h857 : ¬ (encO v) = 0 := fun z => h857 ((nI_eq (a := encO v) (b := 0) (by omega) (by omega)).mpr z)
      refine x_iload F dL_law_860 2 rfl ?_
      refine x_aload F dL_law_862 10 rfl ?_
      refine x_aload F dL_law_864 9 rfl ?_
      refine z_callSi F [.int (nI nm), .ref (ad 17), .ref (ad 18)] (c_L_busy l D cy lo R ad q ns nt I J hR nm (by omega) (by omega) h.g1) mc_L_busy ms_L_busy lk_L_120 rfl rfl dL_law_866 ⟨Nat.le_of_ble_eq_true rfl, Nat.le_of_ble_eq_true rfl⟩ ⟨by (try dsimp only); show _ ≤ 600104; omega, by (try dsimp only); show _ ≤ 7301314; omega⟩ (Nat.le_of_ble_eq_true rfl) ?_
      refine x_if_ne F 884 dL_law_869 (by decide) (fun h869 => ?_) (fun h869 => ?_)
      · rw [kb1] at h869
        have hno3 : busyL I nm nt = true ∨ busyL I j806 nt = true ∨ fbB I J (homeF I (40 + 2 * nm) 0) (homeF I (40 + 2 * j806) 0) = false := Or.inl h869
        have hct := callT_34 h hnm hj806 h815 hno3
        have hct0 : ¬ callT I J q ns nt (nI nm) (nI j806) = 0 := by omega
        refine x_aload_n F dL_law_884 rfl 16 rfl ?_
        refine x_iconst F (v := 0) dL_law_885 (by decide) ?_
        refine x_iload F dL_law_886 2 rfl ?_
        refine x_iload F dL_law_888 1 rfl ?_
        refine x_callHi F [.ref (ad 0), .int 0, .int (nI nm), .int (nI j806)] (c_rf_0 l D cy lo R ad q ns nt I J hR (nI nm) (nI j806) _ _ _ _ _ _ (c_X4_call l D cy lo R ad q ns nt I J hRX hfl (nI nm) (nI j806) h.kq h.c7) (fun E u hx => by rcases hx with ⟨-, e, -⟩ | ⟨-, e, -⟩ | ⟨-, e, -⟩ | ⟨-, e, -⟩ <;> simp [e]) (fun v9 u hp => absurd hp.1 hct0)) mh_refused ms_L_refused lk_L_65 rfl rfl dL_law_890 ⟨Nat.le_of_ble_eq_true rfl, Nat.le_of_ble_eq_true rfl⟩ ⟨by (try dsimp only); show _ ≤ 600104; omega, by (try dsimp only); show _ ≤ 7301314; omega⟩ (Nat.le_of_ble_eq_true rfl) (fun r9 u9 hp9 => ?_)
        obtain ⟨I2, hI2, rfl, rfl⟩ : ∃ I2, scrE I2 I ∧ r9 = 3 ∧ u9 = (R, ad, k_c cy ad q ns nt I2 J) := by
          rcases hp9 with ⟨hx, rfl⟩ | ⟨hx, rfl⟩ | ⟨hx, rfl⟩
          · rcases hx with ⟨g, -⟩ | ⟨-, g, -⟩ | ⟨-, g, -⟩ | ⟨-, g, -⟩ <;> first | exact absurd g (by decide) | omega
          · rcases hx with ⟨g, -⟩ | ⟨g, -⟩ | ⟨-, g, -⟩ | ⟨-, g, -⟩ <;> first | exact absurd g (by decide) | omega
          · rcases hx with ⟨g, -⟩ | ⟨g, -⟩ | ⟨-, -, g⟩ | ⟨-, -, g⟩
            · omega
            · omega
            · exact ⟨I, scrE.rf I, rfl, g⟩
            · exact ⟨_, (scrE.rf I).fb J _ _, rfl, g⟩
        dsimp only
        refine x_iconst F (v := 3) dL_law_893 (by decide) ?_
        refine x_icmp_eq F 1344 dL_law_894 (by decide) (fun h894 => ?_) (fun h894 => ?_)
        · refine x_sub [8, 9, 10, 11, 12, 13, 14, 15, 16, 17] rfl ?_
          refine x_widen (k := cells + 400) (n := slots + 2400) (by (try dsimp only); omega) (by (try dsimp only); omega) ?_
          exact K R ad q ns nt _ _ hRX (fun _ _ => rfl) (Nat.le_refl _) ((h.scr hI2).up (by omega))
        · exact False.elim (by revert h894; decide)
      · rw [kb0] at h869
        refine x_iload F dL_law_872 1 rfl ?_
        refine x_aload F dL_law_874 10 rfl ?_
        refine x_aload F dL_law_876 9 rfl ?_
        refine z_callSi F [.int (nI j806), .ref (ad 17), .ref (ad 18)] (c_L_busy l D cy lo R ad q ns nt I J hR j806 (by omega) (by omega) h.g1) mc_L_busy ms_L_busy lk_L_120 rfl rfl dL_law_878 ⟨Nat.le_of_ble_eq_true rfl, Nat.le_of_ble_eq_true rfl⟩ ⟨by (try dsimp only); show _ ≤ 600104; omega, by (try dsimp only); show _ ≤ 7301314; omega⟩ (Nat.le_of_ble_eq_true rfl) ?_
        refine x_if_eq F 899 dL_law_881 (by decide) (fun h881 => ?_) (fun h881 => ?_)
        · rw [kb0] at h881
          refine x_aload F dL_law_899 9 rfl ?_
          refine x_iconst F (v := 1) dL_law_901 (by decide) ?_
          refine y_iald F (hR 18 (by decide)) ss_18 (show vp_in (nI 1) 2 from vp_in_nI (by decide) (by decide)) dL_law_902 ?_
          refine x_cast (y := I 18 1) (by rw [show (1 : Int32).toNatClampNeg = 1 from by decide]) ?_
          refine x_cast (y := nI nt) (h.g1) ?_
          refine x_bipush F (v := 7) dL_law_903 (by decide) ?_
          refine x_icmp_ne F 911 dL_law_905 (by decide) (fun h905 => ?_) (fun h905 => ?_)
          · replace h905 : ¬ nt = 7 := fun z => h905 ((nI_eq (a := nt) (b := 7) (by omega) (by omega)).mpr z)
            obtain ⟨ww, hww, k5, kl, k1⟩ := encO_some hB (by omega)
            rw [show encO v = enc ww by rw [hww]; rfl]
            rw [hww] at hB
            refine x_bipush F (v := 8) dL_law_911 (by decide) ?_
            refine x_aload F dL_law_913 9 rfl ?_
            refine x_iconst F (v := 1) dL_law_915 (by decide) ?_
            refine y_iald F (hR 18 (by decide)) ss_18 (show vp_in (nI 1) 2 from vp_in_nI (by decide) (by decide)) dL_law_916 ?_
            refine x_cast (y := I 18 1) (by rw [show (1 : Int32).toNatClampNeg = 1 from by decide]) ?_
            refine x_cast (y := nI nt) (h.g1) ?_
            refine x_imul F dL_law_917 ?_
            refine x_cast (y := nI (8 * nt)) (pk_mul 8 nt) ?_
            refine x_istore F [(18, .int (nI (8 * nt))), (17, .int (nI (enc ww))), (16, .int (nI j806)), (15, .int (nI nm)), (14, .int (nI t)), (13, .int (nI f)), (12, .int kv), (11, .int yv), (10, .int xv), (9, .int (nI turn)), (8, .ref (ad 18)), (7, .ref (ad 17)), (6, .ref (ad 16)), (5, .ref (ad 15)), (4, .ref (ad 14)), (3, .ref (ad 13)), (2, .ref (ad 12)), (1, .ref (ad 0)), (0, .ref b)] dL_law_918 (by decide) rfl ?_
            refine x_aload F dL_law_920 11 rfl ?_
            refine x_iload F dL_law_922 0 rfl ?_
            refine x_iload F dL_law_924 3 rfl ?_
            refine y_iast F (hR 17 (by decide)) ss_17 (vp_in_nI (n := 8 * nt) (N := 56) (by omega) (by decide)) dL_law_926 ?_
            refine x_world (congrArg (fun z => k_c cy ad q ns nt z J) (show wI I 17 ((nI (8 * nt)).toNatClampNeg) (nI nm) = wI I 17 (8 * nt) (nI nm) by rw [nI_clamp (n := 8 * nt) (by omega)])) ?_
            refine x_aload F dL_law_927 11 rfl ?_
            refine x_iload F dL_law_929 0 rfl ?_
            refine x_iconst F (v := 1) dL_law_931 (by decide) ?_
            refine x_iadd F dL_law_932 ?_
            refine x_cast (y := nI (8 * nt + 1)) (nI_add (8 * nt) 1) ?_
            refine x_iload F dL_law_933 2 rfl ?_
            refine y_iast F (hR 17 (by decide)) ss_17 (vp_in_nI (n := 8 * nt + 1) (N := 56) (by omega) (by decide)) dL_law_935 ?_
            refine x_world (congrArg (fun z => k_c cy ad q ns nt z J) (show wI (wI I 17 (8 * nt) (nI nm)) 17 ((nI (8 * nt + 1)).toNatClampNeg) (nI j806) = wI (wI I 17 (8 * nt) (nI nm)) 17 (8 * nt + 1) (nI j806) by rw [nI_clamp (n := 8 * nt + 1) (by omega)])) ?_
            refine x_aload F dL_law_936 11 rfl ?_
            refine x_iload F dL_law_938 0 rfl ?_
            refine x_iconst F (v := 3) dL_law_940 (by decide) ?_
            refine x_iadd F dL_law_941 ?_
            refine x_cast (y := nI (8 * nt + 3)) (nI_add (8 * nt) 3) ?_
            refine x_aload F dL_law_942 13 rfl ?_
            refine x_iconst F (v := 2) dL_law_944 (by decide) ?_
            refine x_aload F dL_law_945 12 rfl ?_
            refine x_iconst F (v := 4) dL_law_947 (by decide) ?_
            refine x_iload F dL_law_948 3 rfl ?_
            refine x_imul F dL_law_950 ?_
            refine x_cast (y := nI (4 * nm)) (pk_mul 4 nm) ?_
            refine y_iald F (hR 16 (by decide)) ss_16 (vp_in_nI (n := 4 * nm) (N := 32) (by omega) (by decide)) dL_law_951 ?_
            refine x_cast (y := (wI (wI I 17 (8 * nt) (nI nm)) 17 (8 * nt + 1) (nI j806)) 16 (4 * nm)) (by rw [nI_clamp (n := 4 * nm) (by omega)]) ?_
            refine x_cast (y := (I 16 (4 * nm))) (by first | rfl | simp [wI_eq]) ?_
            refine x_cast (y := nI xa) (e1n) ?_
            refine x_imul F dL_law_952 ?_
            refine x_cast (y := nI (2 * xa)) (pk_mul 2 xa) ?_
            refine y_iald F (hR 15 (by decide)) ss_15 (vp_in_nI (n := 2 * xa) (N := 10) (by omega) (by decide)) dL_law_953 ?_
            refine x_cast (y := (wI (wI I 17 (8 * nt) (nI nm)) 17 (8 * nt + 1) (nI j806)) 15 (2 * xa)) (by rw [nI_clamp (n := 2 * xa) (by omega)]) ?_
            refine x_cast (y := (I 15 (2 * xa))) (by first | rfl | simp [wI_eq]) ?_
            refine y_iast F (hR 17 (by decide)) ss_17 (vp_in_nI (n := 8 * nt + 3) (N := 56) (by omega) (by decide)) dL_law_954 ?_
            refine x_world (congrArg (fun z => k_c cy ad q ns nt z J) (show wI (wI (wI I 17 (8 * nt) (nI nm)) 17 (8 * nt + 1) (nI j806)) 17 ((nI (8 * nt + 3)).toNatClampNeg) (I 15 (2 * xa)) = wI (wI (wI I 17 (8 * nt) (nI nm)) 17 (8 * nt + 1) (nI j806)) 17 (8 * nt + 3) (I 15 (2 * xa)) by rw [nI_clamp (n := 8 * nt + 3) (by omega)])) ?_
            refine x_aload F dL_law_955 11 rfl ?_
            refine x_iload F dL_law_957 0 rfl ?_
            refine x_iconst F (v := 4) dL_law_959 (by decide) ?_
            refine x_iadd F dL_law_960 ?_
            refine x_cast (y := nI (8 * nt + 4)) (nI_add (8 * nt) 4) ?_
            refine x_aload F dL_law_961 13 rfl ?_
            refine x_iconst F (v := 2) dL_law_963 (by decide) ?_
            refine x_aload F dL_law_964 12 rfl ?_
            refine x_iconst F (v := 4) dL_law_966 (by decide) ?_
            refine x_iload F dL_law_967 3 rfl ?_
            refine x_imul F dL_law_969 ?_
            refine x_cast (y := nI (4 * nm)) (pk_mul 4 nm) ?_
            refine y_iald F (hR 16 (by decide)) ss_16 (vp_in_nI (n := 4 * nm) (N := 32) (by omega) (by decide)) dL_law_970 ?_
            refine x_cast (y := (wI (wI (wI I 17 (8 * nt) (nI nm)) 17 (8 * nt + 1) (nI j806)) 17 (8 * nt + 3) (I 15 (2 * xa))) 16 (4 * nm)) (by rw [nI_clamp (n := 4 * nm) (by omega)]) ?_
            refine x_cast (y := (I 16 (4 * nm))) (by first | rfl | simp [wI_eq]) ?_
            refine x_cast (y := nI xa) (e1n) ?_
            refine x_imul F dL_law_971 ?_
            refine x_cast (y := nI (2 * xa)) (pk_mul 2 xa) ?_
            refine x_iconst F (v := 1) dL_law_972 (by decide) ?_
            refine x_iadd F dL_law_973 ?_
            refine x_cast (y := nI (2 * xa + 1)) (nI_add (2 * xa) 1) ?_
            refine y_iald F (hR 15 (by decide)) ss_15 (vp_in_nI (n := 2 * xa + 1) (N := 10) (by omega) (by decide)) dL_law_974 ?_
            refine x_cast (y := (wI (wI (wI I 17 (8 * nt) (nI nm)) 17 (8 * nt + 1) (nI j806)) 17 (8 * nt + 3) (I 15 (2 * xa))) 15 (2 * xa + 1)) (by rw [nI_clamp (n := 2 * xa + 1) (by omega)]) ?_
            refine x_cast (y := (I 15 (2 * xa + 1))) (by first | rfl | simp [wI_eq]) ?_
            refine y_iast F (hR 17 (by decide)) ss_17 (vp_in_nI (n := 8 * nt + 4) (N := 56) (by omega) (by decide)) dL_law_975 ?_
            refine x_world (congrArg (fun z => k_c cy ad q ns nt z J) (show wI (wI (wI (wI I 17 (8 * nt) (nI nm)) 17 (8 * nt + 1) (nI j806)) 17 (8 * nt + 3) (I 15 (2 * xa))) 17 ((nI (8 * nt + 4)).toNatClampNeg) (I 15 (2 * xa + 1)) = wI (wI (wI (wI I 17 (8 * nt) (nI nm)) 17 (8 * nt + 1) (nI j806)) 17 (8 * nt + 3) (I 15 (2 * xa))) 17 (8 * nt + 4) (I 15 (2 * xa + 1)) by rw [nI_clamp (n := 8 * nt + 4) (by omega)])) ?_
            refine x_aload F dL_law_976 11 rfl ?_
            refine x_iload F dL_law_978 0 rfl ?_
            refine x_bipush F (v := 7) dL_law_980 (by decide) ?_
            refine x_iadd F dL_law_982 ?_
            refine x_cast (y := nI (8 * nt + 7)) (nI_add (8 * nt) 7) ?_
            refine x_iload F dL_law_983 1 rfl ?_
            refine y_iast F (hR 17 (by decide)) ss_17 (vp_in_nI (n := 8 * nt + 7) (N := 56) (by omega) (by decide)) dL_law_985 ?_
            refine x_world (congrArg (fun z => k_c cy ad q ns nt z J) (show wI (wI (wI (wI (wI I 17 (8 * nt) (nI nm)) 17 (8 * nt + 1) (nI j806)) 17 (8 * nt + 3) (I 15 (2 * xa))) 17 (8 * nt + 4) (I 15 (2 * xa + 1))) 17 ((nI (8 * nt + 7)).toNatClampNeg) (nI (enc ww)) = wI (wI (wI (wI (wI I 17 (8 * nt) (nI nm)) 17 (8 * nt + 1) (nI j806)) 17 (8 * nt + 3) (I 15 (2 * xa))) 17 (8 * nt + 4) (I 15 (2 * xa + 1))) 17 (8 * nt + 7) (nI (enc ww)) by rw [nI_clamp (n := 8 * nt + 7) (by omega)])) ?_
            refine x_aload F dL_law_986 10 rfl ?_
            refine x_iconst F (v := 1) dL_law_988 (by decide) ?_
            refine x_dup2 F dL_law_989 rfl rfl ?_
            refine y_iald F (hR 18 (by decide)) ss_18 (show vp_in (nI 1) 2 from vp_in_nI (by decide) (by decide)) dL_law_990 ?_
            refine x_cast (y := (wI (wI (wI (wI (wI I 17 (8 * nt) (nI nm)) 17 (8 * nt + 1) (nI j806)) 17 (8 * nt + 3) (I 15 (2 * xa))) 17 (8 * nt + 4) (I 15 (2 * xa + 1))) 17 (8 * nt + 7) (nI (enc ww))) 18 1) (by rw [show (1 : Int32).toNatClampNeg = 1 from by decide]) ?_
            refine x_cast (y := (I 18 1)) (by first | rfl | simp [wI_eq]) ?_
            refine x_cast (y := nI nt) (h.g1) ?_
            refine x_iconst F (v := 1) dL_law_991 (by decide) ?_
            refine x_iadd F dL_law_992 ?_
            refine x_cast (y := nI (nt + 1)) (nI_add nt 1) ?_
            refine y_iast F (hR 18 (by decide)) ss_18 (show vp_in (nI 1) 2 from vp_in_nI (by decide) (by decide)) dL_law_993 ?_
            refine x_world (congrArg (fun z => k_c cy ad q ns nt z J) (show wI (wI (wI (wI (wI (wI I 17 (8 * nt) (nI nm)) 17 (8 * nt + 1) (nI j806)) 17 (8 * nt + 3) (I 15 (2 * xa))) 17 (8 * nt + 4) (I 15 (2 * xa + 1))) 17 (8 * nt + 7) (nI (enc ww))) 18 (1 : Int32).toNatClampNeg (nI (nt + 1)) = wI (wI (wI (wI (wI (wI I 17 (8 * nt) (nI nm)) 17 (8 * nt + 1) (nI j806)) 17 (8 * nt + 3) (I 15 (2 * xa))) 17 (8 * nt + 4) (I 15 (2 * xa + 1))) 17 (8 * nt + 7) (nI (enc ww))) 18 1 (nI (nt + 1)) by rw [show (1 : Int32).toNatClampNeg = 1 from by decide])) ?_
            refine x_aload_n F dL_law_994 rfl 17 rfl ?_
            refine x_iload F dL_law_995 3 rfl ?_
            refine x_iload F dL_law_997 2 rfl ?_
            refine x_world (w' := k_c cy ad q ns nt (newL I nt nm j806 xa ww) J) rfl ?_
            have ct0 := callT_0 (q := q) (ns := ns) (nt := nt) (I := (newL I nt nm j806 xa ww)) (J := J) hns (by omega) hnm hj806 h815 (by rw [busyC_row (fun z hz => newL_row (by omega) (by omega)), h.busy hnm]; exact h869) (by rw [busyC_row (fun z hz => newL_row (by omega) (by omega)), h.busy hj806]; exact h881) (by rw [home_new (by omega), home_new (by omega), e1, e2]; exact fb_some h.gc.new hxa hxb hB)
            refine x_callVix F (r0 := 0) [.int (nI nm), .int (nI j806)] (c_X4_call l D cy lo R ad q ns nt (newL I nt nm j806 xa ww) J hRX hfl (nI nm) (nI j806) h.kq (by rw [newL_row (by omega) (by omega)]; exact h.c7)) mc_X4_call mv_X4_call lk_L_25 (hR 0 (by decide)) sc_0 rfl rfl rfl dL_law_999 ⟨Nat.le_of_ble_eq_true rfl, Nat.le_of_ble_eq_true rfl⟩ ⟨by (try dsimp only); show _ ≤ 600104; omega, by (try dsimp only); show _ ≤ 7301314; omega⟩ (Nat.le_of_ble_eq_true rfl) (fun E u hx => ?_) (fun r9 u9 hp => ?_)
            · exfalso; rcases hx with ⟨g, -⟩ | ⟨g, -⟩ | ⟨g, -⟩ | ⟨g, -⟩ <;> omega
            · obtain ⟨-, rfl, ad', had, rfl⟩ := hp
              dsimp only
              rw [← had 0 (by omega) (by omega) (by omega) (by omega), ← had 12 (by omega) (by omega) (by omega) (by omega), ← had 13 (by omega) (by omega) (by omega) (by omega), ← had 14 (by omega) (by omega) (by omega) (by omega), ← had 15 (by omega) (by omega) (by omega) (by omega), ← had 16 (by omega) (by omega) (by omega) (by omega), ← had 17 (by omega) (by omega) (by omega) (by omega), ← had 18 (by omega) (by omega) (by omega) (by omega)]
              have hX2 := RX_talk hRX (show nt < 60 by omega)
              have hR2 := hX2.1.1
              rw [nI_clamp (n := nm) (by omega), nI_clamp (n := j806) (by omega)]
              have hSc := call_sr h (by omega) hnm hj806 hxa hxb e1 e2 hB
              refine x_aload F dL_law_1002 10 rfl ?_
              refine x_iconst F (v := 1) dL_law_1004 (by decide) ?_
              refine y_iald F (hR2 18 (by decide)) ss_18 (show vp_in (nI 1) 2 from vp_in_nI (by decide) (by decide)) dL_law_1005 ?_
              refine x_cast (y := (mkCI (newL I nt nm j806 xa ww) J nt nm j806) 18 1) (by rw [show (1 : Int32).toNatClampNeg = 1 from by decide]) ?_
              refine x_cast (y := nI (nt + 1)) (hSc.g1) ?_
              refine x_iconst F (v := 1) dL_law_1006 (by decide) ?_
              refine x_isub F dL_law_1007 ?_
              refine x_cast (y := nI nt) (nI_pred nt) ?_
              refine x_icmp_eq F 1013 dL_law_1008 (by decide) (fun h1008 => ?_) (fun h1008 => ?_)
              · replace h1008 : nt = nt := (nI_eq (a := nt) (b := nt) (by omega) (by omega)).mp h1008
                refine x_goto F 1323 dL_law_1013 (by decide) ?_
                refine x_sub [5, 9, 10, 11, 12, 13, 14, 15, 16, 17, 18] rfl ?_
                refine x_widen (k := cells + 106) (n := slots + 636) (by (try dsimp only); omega) (by (try dsimp only); omega) ?_
                refine law_tail hfl F hX2.1 (T := T + 200) (J := (talkJ J nt)) (hSc.up (by omega)) hf (by omega) (by omega) (fun I2 hS2 => ?_)
                exact K _ ad' _ ns (nt + 1) I2 _ hX2 (fun y hy => had y (by omega) (by omega) (by omega) (by omega)) (Nat.le_refl _) hS2
              · exact (h1008 rfl).elim
          · replace h905 : nt = 7 := (nI_eq (a := nt) (b := 7) (by omega) (by omega)).mp h905
            refine x_goto F 1344 dL_law_908 (by decide) ?_
            refine x_sub [8, 9, 10, 11, 12, 13, 14, 15, 16, 17] rfl ?_
            refine x_widen (k := cells + 400) (n := slots + 2400) (by (try dsimp only); omega) (by (try dsimp only); omega) ?_
            exact K R ad q ns nt _ _ hRX (fun _ _ => rfl) (Nat.le_refl _) (h.up (by omega))
        · rw [kb1] at h881
          have hno3 : busyL I nm nt = true ∨ busyL I j806 nt = true ∨ fbB I J (homeF I (40 + 2 * nm) 0) (homeF I (40 + 2 * j806) 0) = false := Or.inr (Or.inl h881)
          have hct := callT_34 h hnm hj806 h815 hno3
          have hct0 : ¬ callT I J q ns nt (nI nm) (nI j806) = 0 := by omega
          refine x_aload_n F dL_law_884 rfl 16 rfl ?_
          refine x_iconst F (v := 0) dL_law_885 (by decide) ?_
          refine x_iload F dL_law_886 2 rfl ?_
          refine x_iload F dL_law_888 1 rfl ?_
          refine x_callHi F [.ref (ad 0), .int 0, .int (nI nm), .int (nI j806)] (c_rf_0 l D cy lo R ad q ns nt I J hR (nI nm) (nI j806) _ _ _ _ _ _ (c_X4_call l D cy lo R ad q ns nt I J hRX hfl (nI nm) (nI j806) h.kq h.c7) (fun E u hx => by rcases hx with ⟨-, e, -⟩ | ⟨-, e, -⟩ | ⟨-, e, -⟩ | ⟨-, e, -⟩ <;> simp [e]) (fun v9 u hp => absurd hp.1 hct0)) mh_refused ms_L_refused lk_L_65 rfl rfl dL_law_890 ⟨Nat.le_of_ble_eq_true rfl, Nat.le_of_ble_eq_true rfl⟩ ⟨by (try dsimp only); show _ ≤ 600104; omega, by (try dsimp only); show _ ≤ 7301314; omega⟩ (Nat.le_of_ble_eq_true rfl) (fun r9 u9 hp9 => ?_)
          obtain ⟨I2, hI2, rfl, rfl⟩ : ∃ I2, scrE I2 I ∧ r9 = 3 ∧ u9 = (R, ad, k_c cy ad q ns nt I2 J) := by
            rcases hp9 with ⟨hx, rfl⟩ | ⟨hx, rfl⟩ | ⟨hx, rfl⟩
            · rcases hx with ⟨g, -⟩ | ⟨-, g, -⟩ | ⟨-, g, -⟩ | ⟨-, g, -⟩ <;> first | exact absurd g (by decide) | omega
            · rcases hx with ⟨g, -⟩ | ⟨g, -⟩ | ⟨-, g, -⟩ | ⟨-, g, -⟩ <;> first | exact absurd g (by decide) | omega
            · rcases hx with ⟨g, -⟩ | ⟨g, -⟩ | ⟨-, -, g⟩ | ⟨-, -, g⟩
              · omega
              · omega
              · exact ⟨I, scrE.rf I, rfl, g⟩
              · exact ⟨_, (scrE.rf I).fb J _ _, rfl, g⟩
          dsimp only
          refine x_iconst F (v := 3) dL_law_893 (by decide) ?_
          refine x_icmp_eq F 1344 dL_law_894 (by decide) (fun h894 => ?_) (fun h894 => ?_)
          · refine x_sub [8, 9, 10, 11, 12, 13, 14, 15, 16, 17] rfl ?_
            refine x_widen (k := cells + 400) (n := slots + 2400) (by (try dsimp only); omega) (by (try dsimp only); omega) ?_
            exact K R ad q ns nt _ _ hRX (fun _ _ => rfl) (Nat.le_refl _) ((h.scr hI2).up (by omega))
          · exact False.elim (by revert h894; decide)
  · replace h815 : nm = j806 := (nI_eq (a := nm) (b := j806) (by omega) (by omega)).mp h815
    have hct : callT I J q ns nt (nI nm) (nI j806) = 2 := by rw [← h815]; exact callT_2 h hnm
    have hct0 : ¬ callT I J q ns nt (nI nm) (nI j806) = 0 := by omega
    refine x_aload_n F dL_law_818 rfl 15 rfl ?_
    refine x_iconst F (v := 0) dL_law_819 (by decide) ?_
    refine x_iload F dL_law_820 1 rfl ?_
    refine x_iload F dL_law_822 0 rfl ?_
    refine x_callHi F [.ref (ad 0), .int 0, .int (nI nm), .int (nI j806)] (c_rf_0 l D cy lo R ad q ns nt I J hR (nI nm) (nI j806) _ _ _ _ _ _ (c_X4_call l D cy lo R ad q ns nt I J hRX hfl (nI nm) (nI j806) h.kq h.c7) (fun E u hx => by rcases hx with ⟨-, e, -⟩ | ⟨-, e, -⟩ | ⟨-, e, -⟩ | ⟨-, e, -⟩ <;> simp [e]) (fun v9 u hp => absurd hp.1 hct0)) mh_refused ms_L_refused lk_L_65 rfl rfl dL_law_824 ⟨Nat.le_of_ble_eq_true rfl, Nat.le_of_ble_eq_true rfl⟩ ⟨by (try dsimp only); show _ ≤ 600104; omega, by (try dsimp only); show _ ≤ 7301314; omega⟩ (Nat.le_of_ble_eq_true rfl) (fun r9 u9 hp9 => ?_)
    obtain ⟨rfl, rfl⟩ : r9 = 2 ∧ u9 = (R, ad, k_c cy ad q ns nt I J) := by
      rcases hp9 with ⟨hx, rfl⟩ | ⟨hx, rfl⟩ | ⟨hx, rfl⟩
      · rcases hx with ⟨g, -⟩ | ⟨-, g, -⟩ | ⟨g, -⟩ | ⟨g, -⟩ <;> first | exact absurd g (by decide) | omega
      · rcases hx with ⟨g, -⟩ | ⟨-, -, g⟩ | ⟨g, -⟩ | ⟨g, -⟩
        · omega
        · exact ⟨rfl, g⟩
        · omega
        · omega
      · rcases hx with ⟨g, -⟩ | ⟨-, g, -⟩ | ⟨g, -⟩ | ⟨g, -⟩ <;> first | exact absurd g (by decide) | omega
    dsimp only
    refine x_iconst F (v := 2) dL_law_827 (by decide) ?_
    refine x_icmp_eq F 1344 dL_law_828 (by decide) (fun h828 => ?_) (fun h828 => ?_)
    · refine x_sub [7, 8, 9, 10, 11, 12, 13, 14, 15, 16] rfl ?_
      refine x_widen (k := cells + 400) (n := slots + 2400) (by (try dsimp only); omega) (by (try dsimp only); omega) ?_
      exact K R ad q ns nt _ _ hRX (fun _ _ => rfl) (Nat.le_refl _) (h.up (by omega))
    · exact False.elim (by revert h828; decide)
end LC
