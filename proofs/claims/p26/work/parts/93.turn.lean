section TURN
variable {D : va_G} {cy : Nat → ClassId} {lo : Nat} {p : Program} {l : Launch} {e : Env} {s : State} {m : MethodId} {args : Array Value} {below : List Frame} {meth : Method} {c : Code} {cells slots : Nat} {Q : State → Prop} {R : List Nat} {ad : Nat → Nat} {b : Nat} {q : Nat → Nat → Nat} {ns nt T : Nat} {I : Nat → Nat → Int32} {J : Nat → Nat → Int64}
set_option maxHeartbeats 4000000 in
set_option maxRecDepth 100000 in
/-- a turn of the law -/
theorem law_turn (hfl : l.stackTraces = false) (F : k_F p m c cL_law 20 s RL D cy lo) {L : Nat} {xs : Nat → Int32} (hX : va_X b L xs s s.heap) (hb : b < lo) (hLn : L ≤ 260) (hRX : k_RX R ns nt) (h : SR q ns nt T I J I J) (hT : T ≤ 20000) (hT2 : 299 ≤ T) {turn : Nat} (ht60 : turn < 60) (hns0 : 1 ≤ turn → 1 ≤ ns) (hc : cells + 400 ≤ 600104) (hs : slots + 2400 ≤ 7301314)
    (K : ∀ (R' : List Nat) (ad' : Nat → Nat) (q' : Nat → Nat → Nat) (ns' nt' : Nat) (I' : Nat → Nat → Int32) (J' : Nat → Nat → Int64), k_RX R' ns' nt' → (∀ y, y < 40 → ad' y = ad y) → 1 ≤ ns' → SR q' ns' nt' (T + 200) I' J' I' J' → XW D lo p l e room_1 s m args below meth c 20 (cells + 400) (slots + 2400) Q R' ad' (k_c cy ad' q' ns' nt' I' J') 1344 (k_LV ad' b turn) []) :
    XW D lo p l e room_1 s m args below meth c 20 cells slots Q R ad (k_c cy ad q ns nt I J) 114 (k_LV ad b turn) [] := by
  have hR := hRX.1.1
  have hns := h.hns
  refine x_aload_n F dL_law_114 rfl 9 rfl ?_
  refine x_iconst F (v := 2) dL_law_115 (by decide) ?_
  refine x_iload F dL_law_116 0 rfl ?_
  refine x_imul F dL_law_118 ?_
  refine x_cast (y := nI (2 * turn)) (pk_mul 2 turn) ?_
  refine x_callC F hX hb [.ref b, .int (nI (2 * turn))] (c_L_cell l D cy lo R ad _ hb hLn (2 * turn) (by omega)) mc_L_cell ms_L_cell lk_L_99 rfl rfl dL_law_119 ⟨Nat.le_of_ble_eq_true rfl, Nat.le_of_ble_eq_true rfl⟩ ⟨by (try dsimp only); show _ ≤ 600104; omega, by (try dsimp only); show _ ≤ 7301314; omega⟩ (Nat.le_of_ble_eq_true rfl) (fun xv u9 hu => ?_)
  subst hu
  dsimp only
  refine x_istore F [(10, .int xv), (9, .int (nI turn)), (8, .ref (ad 18)), (7, .ref (ad 17)), (6, .ref (ad 16)), (5, .ref (ad 15)), (4, .ref (ad 14)), (3, .ref (ad 13)), (2, .ref (ad 12)), (1, .ref (ad 0)), (0, .ref b)] dL_law_122 (by decide) rfl ?_
  refine x_aload_n F dL_law_124 rfl 10 rfl ?_
  refine x_iconst F (v := 2) dL_law_125 (by decide) ?_
  refine x_iload F dL_law_126 1 rfl ?_
  refine x_imul F dL_law_128 ?_
  refine x_cast (y := nI (2 * turn)) (pk_mul 2 turn) ?_
  refine x_iconst F (v := 1) dL_law_129 (by decide) ?_
  refine x_iadd F dL_law_130 ?_
  refine x_cast (y := nI (2 * turn + 1)) (nI_add (2 * turn) 1) ?_
  refine x_callC F hX hb [.ref b, .int (nI (2 * turn + 1))] (c_L_cell l D cy lo R ad _ hb hLn (2 * turn + 1) (by omega)) mc_L_cell ms_L_cell lk_L_99 rfl rfl dL_law_131 ⟨Nat.le_of_ble_eq_true rfl, Nat.le_of_ble_eq_true rfl⟩ ⟨by (try dsimp only); show _ ≤ 600104; omega, by (try dsimp only); show _ ≤ 7301314; omega⟩ (Nat.le_of_ble_eq_true rfl) (fun yv u9 hu => ?_)
  subst hu
  dsimp only
  refine x_istore F [(11, .int yv), (10, .int xv), (9, .int (nI turn)), (8, .ref (ad 18)), (7, .ref (ad 17)), (6, .ref (ad 16)), (5, .ref (ad 15)), (4, .ref (ad 14)), (3, .ref (ad 13)), (2, .ref (ad 12)), (1, .ref (ad 0)), (0, .ref b)] dL_law_134 (by decide) rfl ?_
  refine x_iload F dL_law_136 2 rfl ?_
  refine x_iconst F (v := 2) dL_law_138 (by decide) ?_
  refine x_icmp_ge F 146 dL_law_139 (by decide) (fun h139 => ?_) (fun h139 => ?_)
  · replace h139 : 2 ≤ turn := (nI_leI (a := 2) (b := turn) (by omega) (by omega)).mp h139
    refine x_iload F dL_law_146 1 rfl ?_
    refine x_bipush F (v := 20) dL_law_148 (by decide) ?_
    refine z_callSi F [.int xv, .int 20] (c_L_low l D cy lo R ad _ xv 20 (by decide)) mc_L_low ms_L_low lk_L_103 rfl rfl dL_law_150 ⟨Nat.le_of_ble_eq_true rfl, Nat.le_of_ble_eq_true rfl⟩ ⟨by (try dsimp only); show _ ≤ 600104; omega, by (try dsimp only); show _ ≤ 7301314; omega⟩ (Nat.le_of_ble_eq_true rfl) ?_
    obtain ⟨j150, hj150, ej150⟩ := low_n xv (n := 20) (by omega) (by omega)
    rw [show lowI xv 20 = nI j150 from ej150]
    refine x_istore F [(12, .int (nI j150)), (11, .int yv), (10, .int xv), (9, .int (nI turn)), (8, .ref (ad 18)), (7, .ref (ad 17)), (6, .ref (ad 16)), (5, .ref (ad 15)), (4, .ref (ad 14)), (3, .ref (ad 13)), (2, .ref (ad 12)), (1, .ref (ad 0)), (0, .ref b)] dL_law_153 (by decide) rfl ?_
    refine x_iload F dL_law_155 2 rfl ?_
    refine x_iconst F (v := 5) dL_law_157 (by decide) ?_
    refine x_ishr F dL_law_158 ?_
    refine x_iconst F (v := 5) dL_law_159 (by decide) ?_
    refine z_callSi F [.int (xv >>> (5 &&& 31)), .int 5] (c_L_low l D cy lo R ad _ (xv >>> (5 &&& 31)) 5 (by decide)) mc_L_low ms_L_low lk_L_103 rfl rfl dL_law_160 ⟨Nat.le_of_ble_eq_true rfl, Nat.le_of_ble_eq_true rfl⟩ ⟨by (try dsimp only); show _ ≤ 600104; omega, by (try dsimp only); show _ ≤ 7301314; omega⟩ (Nat.le_of_ble_eq_true rfl) ?_
    obtain ⟨j160, hj160, ej160⟩ := low_n (xv >>> (5 &&& 31)) (n := 5) (by omega) (by omega)
    rw [show lowI (xv >>> (5 &&& 31)) 5 = nI j160 from ej160]
    refine x_istore F [(13, .int (nI j160)), (12, .int (nI j150)), (11, .int yv), (10, .int xv), (9, .int (nI turn)), (8, .ref (ad 18)), (7, .ref (ad 17)), (6, .ref (ad 16)), (5, .ref (ad 15)), (4, .ref (ad 14)), (3, .ref (ad 13)), (2, .ref (ad 12)), (1, .ref (ad 0)), (0, .ref b)] dL_law_163 (by decide) rfl ?_
    refine x_iload F dL_law_165 3 rfl ?_
    refine x_bipush F (v := 8) dL_law_167 (by decide) ?_
    refine x_ishr F dL_law_169 ?_
    refine x_iconst F (v := 5) dL_law_170 (by decide) ?_
    refine z_callSi F [.int (xv >>> (8 &&& 31)), .int 5] (c_L_low l D cy lo R ad _ (xv >>> (8 &&& 31)) 5 (by decide)) mc_L_low ms_L_low lk_L_103 rfl rfl dL_law_171 ⟨Nat.le_of_ble_eq_true rfl, Nat.le_of_ble_eq_true rfl⟩ ⟨by (try dsimp only); show _ ≤ 600104; omega, by (try dsimp only); show _ ≤ 7301314; omega⟩ (Nat.le_of_ble_eq_true rfl) ?_
    obtain ⟨j171, hj171, ej171⟩ := low_n (xv >>> (8 &&& 31)) (n := 5) (by omega) (by omega)
    rw [show lowI (xv >>> (8 &&& 31)) 5 = nI j171 from ej171]
    refine x_istore F [(14, .int (nI j171)), (13, .int (nI j160)), (12, .int (nI j150)), (11, .int yv), (10, .int xv), (9, .int (nI turn)), (8, .ref (ad 18)), (7, .ref (ad 17)), (6, .ref (ad 16)), (5, .ref (ad 15)), (4, .ref (ad 14)), (3, .ref (ad 13)), (2, .ref (ad 12)), (1, .ref (ad 0)), (0, .ref b)] dL_law_174 (by decide) rfl ?_
    refine x_aload F dL_law_176 6 rfl ?_
    refine x_iconst F (v := 0) dL_law_178 (by decide) ?_
    refine y_iald F (hR 18 (by decide)) ss_18 (show vp_in (nI 0) 2 from vp_in_nI (by decide) (by decide)) dL_law_179 ?_
    refine x_cast (y := I 18 0) (by rw [show (0 : Int32).toNatClampNeg = 0 from by decide]) ?_
    refine x_cast (y := nI ns) (h.g0) ?_
    refine x_if_ne F 187 dL_law_180 (by decide) (fun h180 => ?_) (fun h180 => ?_)
    · replace h180 : ¬ ns = 0 := fun z => h180 ((nI_eq (a := ns) (b := 0) (by omega) (by omega)).mpr z)
      refine x_iload F dL_law_187 3 rfl ?_
      refine x_aload F dL_law_189 6 rfl ?_
      refine x_iconst F (v := 0) dL_law_191 (by decide) ?_
      refine y_iald F (hR 18 (by decide)) ss_18 (show vp_in (nI 0) 2 from vp_in_nI (by decide) (by decide)) dL_law_192 ?_
      refine x_cast (y := I 18 0) (by rw [show (0 : Int32).toNatClampNeg = 0 from by decide]) ?_
      refine x_cast (y := nI ns) (h.g0) ?_
      refine z_callSi F [.int yv, .int (nI ns)] (c_L_low l D cy lo R ad _ yv (nI ns) (nI_ne0 (by omega) (by omega))) mc_L_low ms_L_low lk_L_103 rfl rfl dL_law_193 ⟨Nat.le_of_ble_eq_true rfl, Nat.le_of_ble_eq_true rfl⟩ ⟨by (try dsimp only); show _ ≤ 600104; omega, by (try dsimp only); show _ ≤ 7301314; omega⟩ (Nat.le_of_ble_eq_true rfl) ?_
      obtain ⟨j193, hj193, ej193⟩ := low_n yv (n := ns) (by omega) (by omega)
      rw [show lowI yv (nI ns) = nI j193 from ej193]
      refine x_istore F [(15, .int (nI j193)), (14, .int (nI j171)), (13, .int (nI j160)), (12, .int (nI j150)), (11, .int yv), (10, .int xv), (9, .int (nI turn)), (8, .ref (ad 18)), (7, .ref (ad 17)), (6, .ref (ad 16)), (5, .ref (ad 15)), (4, .ref (ad 14)), (3, .ref (ad 13)), (2, .ref (ad 12)), (1, .ref (ad 0)), (0, .ref b)] dL_law_196 (by decide) rfl ?_
      refine x_iload F dL_law_198 3 rfl ?_
      refine x_iconst F (v := 3) dL_law_200 (by decide) ?_
      refine x_icmp_ge F 313 dL_law_201 (by decide) (fun h201 => ?_) (fun h201 => ?_)
      · replace h201 : 3 ≤ j150 := (nI_leI (a := 3) (b := j150) (by omega) (by omega)).mp h201
        refine x_iload F dL_law_313 3 rfl ?_
        refine x_bipush F (v := 8) dL_law_315 (by decide) ?_
        refine x_icmp_ge F 427 dL_law_317 (by decide) (fun h317 => ?_) (fun h317 => ?_)
        · replace h317 : 8 ≤ j150 := (nI_leI (a := 8) (b := j150) (by omega) (by omega)).mp h317
          refine x_iload F dL_law_427 3 rfl ?_
          refine x_bipush F (v := 8) dL_law_429 (by decide) ?_
          refine x_icmp_ne F 508 dL_law_431 (by decide) (fun h431 => ?_) (fun h431 => ?_)
          · replace h431 : ¬ j150 = 8 := fun z => h431 ((nI_eq (a := j150) (b := 8) (by omega) (by omega)).mpr z)
            refine x_iload F dL_law_508 3 rfl ?_
            refine x_bipush F (v := 9) dL_law_510 (by decide) ?_
            refine x_icmp_ne F 592 dL_law_512 (by decide) (fun h512 => ?_) (fun h512 => ?_)
            · replace h512 : ¬ j150 = 9 := fun z => h512 ((nI_eq (a := j150) (b := 9) (by omega) (by omega)).mpr z)
              refine x_iload F dL_law_592 3 rfl ?_
              refine x_bipush F (v := 10) dL_law_594 (by decide) ?_
              refine x_icmp_ne F 700 dL_law_596 (by decide) (fun h596 => ?_) (fun h596 => ?_)
              · replace h596 : ¬ j150 = 10 := fun z => h596 ((nI_eq (a := j150) (b := 10) (by omega) (by omega)).mpr z)
                refine x_iload F dL_law_700 3 rfl ?_
                refine x_bipush F (v := 11) dL_law_702 (by decide) ?_
                refine x_icmp_ne F 791 dL_law_704 (by decide) (fun h704 => ?_) (fun h704 => ?_)
                · replace h704 : ¬ j150 = 11 := fun z => h704 ((nI_eq (a := j150) (b := 11) (by omega) (by omega)).mpr z)
                  refine x_iload F dL_law_791 3 rfl ?_
                  refine x_bipush F (v := 15) dL_law_793 (by decide) ?_
                  refine x_icmp_ge F 1016 dL_law_795 (by decide) (fun h795 => ?_) (fun h795 => ?_)
                  · replace h795 : 15 ≤ j150 := (nI_leI (a := 15) (b := j150) (by omega) (by omega)).mp h795
                    refine x_iload F dL_law_1016 3 rfl ?_
                    refine x_bipush F (v := 15) dL_law_1018 (by decide) ?_
                    refine x_icmp_ne F 1116 dL_law_1020 (by decide) (fun h1020 => ?_) (fun h1020 => ?_)
                    · replace h1020 : ¬ j150 = 15 := fun z => h1020 ((nI_eq (a := j150) (b := 15) (by omega) (by omega)).mpr z)
                      refine x_iload F dL_law_1116 3 rfl ?_
                      refine x_bipush F (v := 16) dL_law_1118 (by decide) ?_
                      refine x_icmp_ne F 1206 dL_law_1120 (by decide) (fun h1120 => ?_) (fun h1120 => ?_)
                      · replace h1120 : ¬ j150 = 16 := fun z => h1120 ((nI_eq (a := j150) (b := 16) (by omega) (by omega)).mpr z)
                        exact law_pass hfl F hRX h hT hT2 (by omega) (by omega) hc hs (fun R' ad' q' ns' nt' I' J' h1 h2 h3 h4 => K R' ad' q' ns' nt' I' J' h1 h2 (by have := hns0 (by omega); omega) h4)
                      · replace h1120 : j150 = 16 := (nI_eq (a := j150) (b := 16) (by omega) (by omega)).mp h1120
                        exact law_settle hfl F hRX h hT hT2 (by omega) (by omega) hc hs (fun R' ad' q' ns' nt' I' J' h1 h2 h3 h4 => K R' ad' q' ns' nt' I' J' h1 h2 (by have := hns0 (by omega); omega) h4)
                    · replace h1020 : j150 = 15 := (nI_eq (a := j150) (b := 15) (by omega) (by omega)).mp h1020
                      exact law_hangUp hfl F hRX h hT hT2 (by omega) (by omega) hc hs (fun R' ad' q' ns' nt' I' J' h1 h2 h3 h4 => K R' ad' q' ns' nt' I' J' h1 h2 (by have := hns0 (by omega); omega) h4)
                  · replace h795 : ¬ 15 ≤ j150 := fun z => h795 ((nI_leI (a := 15) (b := j150) (by omega) (by omega)).mpr z)
                    exact law_call hfl F hRX h hT hT2 (by omega) (by omega) (nm := j193) (by omega) hc hs (fun R' ad' q' ns' nt' I' J' h1 h2 h3 h4 => K R' ad' q' ns' nt' I' J' h1 h2 (by have := hns0 (by omega); omega) h4)
                · replace h704 : j150 = 11 := (nI_eq (a := j150) (b := 11) (by omega) (by omega)).mp h704
                  exact law_topUp hfl F hRX h hT hT2 (by omega) (by omega) (nm := j193) (by omega) hc hs (fun R' ad' q' ns' nt' I' J' h1 h2 h3 h4 => K R' ad' q' ns' nt' I' J' h1 h2 (by have := hns0 (by omega); omega) h4)
              · replace h596 : j150 = 10 := (nI_eq (a := j150) (b := 10) (by omega) (by omega)).mp h596
                exact law_carryOver hfl F hRX h hT hT2 (by omega) (by omega) (nm := j193) (by omega) hc hs (fun R' ad' q' ns' nt' I' J' h1 h2 h3 h4 => K R' ad' q' ns' nt' I' J' h1 h2 (by have := hns0 (by omega); omega) h4)
            · replace h512 : j150 = 9 := (nI_eq (a := j150) (b := 9) (by omega) (by omega)).mp h512
              exact law_tariff hfl F hRX h hT hT2 (by omega) (by omega) hc hs (fun R' ad' q' ns' nt' I' J' h1 h2 h3 h4 => K R' ad' q' ns' nt' I' J' h1 h2 (by have := hns0 (by omega); omega) h4)
          · replace h431 : j150 = 8 := (nI_eq (a := j150) (b := 8) (by omega) (by omega)).mp h431
            exact law_unlink hfl F hRX h hT hT2 (by omega) (by omega) hc hs (fun R' ad' q' ns' nt' I' J' h1 h2 h3 h4 => K R' ad' q' ns' nt' I' J' h1 h2 (by have := hns0 (by omega); omega) h4)
        · replace h317 : ¬ 8 ≤ j150 := fun z => h317 ((nI_leI (a := 8) (b := j150) (by omega) (by omega)).mpr z)
          exact law_link hfl F hRX h hT hT2 (by omega) (by omega) hc hs (fun R' ad' q' ns' nt' I' J' h1 h2 h3 h4 => K R' ad' q' ns' nt' I' J' h1 h2 (by have := hns0 (by omega); omega) h4)
      · replace h201 : ¬ 3 ≤ j150 := fun z => h201 ((nI_leI (a := 3) (b := j150) (by omega) (by omega)).mpr z)
        exact law_number hfl F hRX h hT hT2 (by omega) (by omega) hc hs K
    · replace h180 : ns = 0 := (nI_eq (a := ns) (b := 0) (by omega) (by omega)).mp h180
      refine x_iconst F (v := 0) dL_law_183 (by decide) ?_
      refine x_goto F 196 dL_law_184 (by decide) ?_
      refine x_istore F [(15, .int 0), (14, .int (nI j171)), (13, .int (nI j160)), (12, .int (nI j150)), (11, .int yv), (10, .int xv), (9, .int (nI turn)), (8, .ref (ad 18)), (7, .ref (ad 17)), (6, .ref (ad 16)), (5, .ref (ad 15)), (4, .ref (ad 14)), (3, .ref (ad 13)), (2, .ref (ad 12)), (1, .ref (ad 0)), (0, .ref b)] dL_law_196 (by decide) rfl ?_
      refine x_iload F dL_law_198 3 rfl ?_
      refine x_iconst F (v := 3) dL_law_200 (by decide) ?_
      refine x_icmp_ge F 313 dL_law_201 (by decide) (fun h201 => ?_) (fun h201 => ?_)
      · replace h201 : 3 ≤ j150 := (nI_leI (a := 3) (b := j150) (by omega) (by omega)).mp h201
        refine x_iload F dL_law_313 3 rfl ?_
        refine x_bipush F (v := 8) dL_law_315 (by decide) ?_
        refine x_icmp_ge F 427 dL_law_317 (by decide) (fun h317 => ?_) (fun h317 => ?_)
        · replace h317 : 8 ≤ j150 := (nI_leI (a := 8) (b := j150) (by omega) (by omega)).mp h317
          refine x_iload F dL_law_427 3 rfl ?_
          refine x_bipush F (v := 8) dL_law_429 (by decide) ?_
          refine x_icmp_ne F 508 dL_law_431 (by decide) (fun h431 => ?_) (fun h431 => ?_)
          · replace h431 : ¬ j150 = 8 := fun z => h431 ((nI_eq (a := j150) (b := 8) (by omega) (by omega)).mpr z)
            refine x_iload F dL_law_508 3 rfl ?_
            refine x_bipush F (v := 9) dL_law_510 (by decide) ?_
            refine x_icmp_ne F 592 dL_law_512 (by decide) (fun h512 => ?_) (fun h512 => ?_)
            · replace h512 : ¬ j150 = 9 := fun z => h512 ((nI_eq (a := j150) (b := 9) (by omega) (by omega)).mpr z)
              refine x_iload F dL_law_592 3 rfl ?_
              refine x_bipush F (v := 10) dL_law_594 (by decide) ?_
              refine x_icmp_ne F 700 dL_law_596 (by decide) (fun h596 => ?_) (fun h596 => ?_)
              · replace h596 : ¬ j150 = 10 := fun z => h596 ((nI_eq (a := j150) (b := 10) (by omega) (by omega)).mpr z)
                refine x_iload F dL_law_700 3 rfl ?_
                refine x_bipush F (v := 11) dL_law_702 (by decide) ?_
                refine x_icmp_ne F 791 dL_law_704 (by decide) (fun h704 => ?_) (fun h704 => ?_)
                · replace h704 : ¬ j150 = 11 := fun z => h704 ((nI_eq (a := j150) (b := 11) (by omega) (by omega)).mpr z)
                  refine x_iload F dL_law_791 3 rfl ?_
                  refine x_bipush F (v := 15) dL_law_793 (by decide) ?_
                  refine x_icmp_ge F 1016 dL_law_795 (by decide) (fun h795 => ?_) (fun h795 => ?_)
                  · replace h795 : 15 ≤ j150 := (nI_leI (a := 15) (b := j150) (by omega) (by omega)).mp h795
                    refine x_iload F dL_law_1016 3 rfl ?_
                    refine x_bipush F (v := 15) dL_law_1018 (by decide) ?_
                    refine x_icmp_ne F 1116 dL_law_1020 (by decide) (fun h1020 => ?_) (fun h1020 => ?_)
                    · replace h1020 : ¬ j150 = 15 := fun z => h1020 ((nI_eq (a := j150) (b := 15) (by omega) (by omega)).mpr z)
                      refine x_iload F dL_law_1116 3 rfl ?_
                      refine x_bipush F (v := 16) dL_law_1118 (by decide) ?_
                      refine x_icmp_ne F 1206 dL_law_1120 (by decide) (fun h1120 => ?_) (fun h1120 => ?_)
                      · replace h1120 : ¬ j150 = 16 := fun z => h1120 ((nI_eq (a := j150) (b := 16) (by omega) (by omega)).mpr z)
                        exact law_pass hfl F hRX h hT hT2 (by omega) (by omega) hc hs (fun R' ad' q' ns' nt' I' J' h1 h2 h3 h4 => K R' ad' q' ns' nt' I' J' h1 h2 (by have := hns0 (by omega); omega) h4)
                      · replace h1120 : j150 = 16 := (nI_eq (a := j150) (b := 16) (by omega) (by omega)).mp h1120
                        exact law_settle hfl F hRX h hT hT2 (by omega) (by omega) hc hs (fun R' ad' q' ns' nt' I' J' h1 h2 h3 h4 => K R' ad' q' ns' nt' I' J' h1 h2 (by have := hns0 (by omega); omega) h4)
                    · replace h1020 : j150 = 15 := (nI_eq (a := j150) (b := 15) (by omega) (by omega)).mp h1020
                      exact law_hangUp hfl F hRX h hT hT2 (by omega) (by omega) hc hs (fun R' ad' q' ns' nt' I' J' h1 h2 h3 h4 => K R' ad' q' ns' nt' I' J' h1 h2 (by have := hns0 (by omega); omega) h4)
                  · replace h795 : ¬ 15 ≤ j150 := fun z => h795 ((nI_leI (a := 15) (b := j150) (by omega) (by omega)).mpr z)
                    exfalso
                    have := hns0 (by omega)
                    omega
                · replace h704 : j150 = 11 := (nI_eq (a := j150) (b := 11) (by omega) (by omega)).mp h704
                  exfalso
                  have := hns0 (by omega)
                  omega
              · replace h596 : j150 = 10 := (nI_eq (a := j150) (b := 10) (by omega) (by omega)).mp h596
                exfalso
                have := hns0 (by omega)
                omega
            · replace h512 : j150 = 9 := (nI_eq (a := j150) (b := 9) (by omega) (by omega)).mp h512
              exact law_tariff hfl F hRX h hT hT2 (by omega) (by omega) hc hs (fun R' ad' q' ns' nt' I' J' h1 h2 h3 h4 => K R' ad' q' ns' nt' I' J' h1 h2 (by have := hns0 (by omega); omega) h4)
          · replace h431 : j150 = 8 := (nI_eq (a := j150) (b := 8) (by omega) (by omega)).mp h431
            exact law_unlink hfl F hRX h hT hT2 (by omega) (by omega) hc hs (fun R' ad' q' ns' nt' I' J' h1 h2 h3 h4 => K R' ad' q' ns' nt' I' J' h1 h2 (by have := hns0 (by omega); omega) h4)
        · replace h317 : ¬ 8 ≤ j150 := fun z => h317 ((nI_leI (a := 8) (b := j150) (by omega) (by omega)).mpr z)
          exact law_link hfl F hRX h hT hT2 (by omega) (by omega) hc hs (fun R' ad' q' ns' nt' I' J' h1 h2 h3 h4 => K R' ad' q' ns' nt' I' J' h1 h2 (by have := hns0 (by omega); omega) h4)
      · replace h201 : ¬ 3 ≤ j150 := fun z => h201 ((nI_leI (a := 3) (b := j150) (by omega) (by omega)).mpr z)
        exact law_number hfl F hRX h hT hT2 (by omega) (by omega) hc hs K
  · replace h139 : ¬ 2 ≤ turn := fun z => h139 ((nI_leI (a := 2) (b := turn) (by omega) (by omega)).mpr z)
    refine x_iconst F (v := 0) dL_law_142 (by decide) ?_
    refine x_goto F 153 dL_law_143 (by decide) ?_
    refine x_istore F [(12, .int 0), (11, .int yv), (10, .int xv), (9, .int (nI turn)), (8, .ref (ad 18)), (7, .ref (ad 17)), (6, .ref (ad 16)), (5, .ref (ad 15)), (4, .ref (ad 14)), (3, .ref (ad 13)), (2, .ref (ad 12)), (1, .ref (ad 0)), (0, .ref b)] dL_law_153 (by decide) rfl ?_
    refine x_iload F dL_law_155 2 rfl ?_
    refine x_iconst F (v := 5) dL_law_157 (by decide) ?_
    refine x_ishr F dL_law_158 ?_
    refine x_iconst F (v := 5) dL_law_159 (by decide) ?_
    refine z_callSi F [.int (xv >>> (5 &&& 31)), .int 5] (c_L_low l D cy lo R ad _ (xv >>> (5 &&& 31)) 5 (by decide)) mc_L_low ms_L_low lk_L_103 rfl rfl dL_law_160 ⟨Nat.le_of_ble_eq_true rfl, Nat.le_of_ble_eq_true rfl⟩ ⟨by (try dsimp only); show _ ≤ 600104; omega, by (try dsimp only); show _ ≤ 7301314; omega⟩ (Nat.le_of_ble_eq_true rfl) ?_
    obtain ⟨j160, hj160, ej160⟩ := low_n (xv >>> (5 &&& 31)) (n := 5) (by omega) (by omega)
    rw [show lowI (xv >>> (5 &&& 31)) 5 = nI j160 from ej160]
    refine x_istore F [(13, .int (nI j160)), (12, .int 0), (11, .int yv), (10, .int xv), (9, .int (nI turn)), (8, .ref (ad 18)), (7, .ref (ad 17)), (6, .ref (ad 16)), (5, .ref (ad 15)), (4, .ref (ad 14)), (3, .ref (ad 13)), (2, .ref (ad 12)), (1, .ref (ad 0)), (0, .ref b)] dL_law_163 (by decide) rfl ?_
    refine x_iload F dL_law_165 3 rfl ?_
    refine x_bipush F (v := 8) dL_law_167 (by decide) ?_
    refine x_ishr F dL_law_169 ?_
    refine x_iconst F (v := 5) dL_law_170 (by decide) ?_
    refine z_callSi F [.int (xv >>> (8 &&& 31)), .int 5] (c_L_low l D cy lo R ad _ (xv >>> (8 &&& 31)) 5 (by decide)) mc_L_low ms_L_low lk_L_103 rfl rfl dL_law_171 ⟨Nat.le_of_ble_eq_true rfl, Nat.le_of_ble_eq_true rfl⟩ ⟨by (try dsimp only); show _ ≤ 600104; omega, by (try dsimp only); show _ ≤ 7301314; omega⟩ (Nat.le_of_ble_eq_true rfl) ?_
    obtain ⟨j171, hj171, ej171⟩ := low_n (xv >>> (8 &&& 31)) (n := 5) (by omega) (by omega)
    rw [show lowI (xv >>> (8 &&& 31)) 5 = nI j171 from ej171]
    refine x_istore F [(14, .int (nI j171)), (13, .int (nI j160)), (12, .int 0), (11, .int yv), (10, .int xv), (9, .int (nI turn)), (8, .ref (ad 18)), (7, .ref (ad 17)), (6, .ref (ad 16)), (5, .ref (ad 15)), (4, .ref (ad 14)), (3, .ref (ad 13)), (2, .ref (ad 12)), (1, .ref (ad 0)), (0, .ref b)] dL_law_174 (by decide) rfl ?_
    refine x_aload F dL_law_176 6 rfl ?_
    refine x_iconst F (v := 0) dL_law_178 (by decide) ?_
    refine y_iald F (hR 18 (by decide)) ss_18 (show vp_in (nI 0) 2 from vp_in_nI (by decide) (by decide)) dL_law_179 ?_
    refine x_cast (y := I 18 0) (by rw [show (0 : Int32).toNatClampNeg = 0 from by decide]) ?_
    refine x_cast (y := nI ns) (h.g0) ?_
    refine x_if_ne F 187 dL_law_180 (by decide) (fun h180 => ?_) (fun h180 => ?_)
    · replace h180 : ¬ ns = 0 := fun z => h180 ((nI_eq (a := ns) (b := 0) (by omega) (by omega)).mpr z)
      refine x_iload F dL_law_187 3 rfl ?_
      refine x_aload F dL_law_189 6 rfl ?_
      refine x_iconst F (v := 0) dL_law_191 (by decide) ?_
      refine y_iald F (hR 18 (by decide)) ss_18 (show vp_in (nI 0) 2 from vp_in_nI (by decide) (by decide)) dL_law_192 ?_
      refine x_cast (y := I 18 0) (by rw [show (0 : Int32).toNatClampNeg = 0 from by decide]) ?_
      refine x_cast (y := nI ns) (h.g0) ?_
      refine z_callSi F [.int yv, .int (nI ns)] (c_L_low l D cy lo R ad _ yv (nI ns) (nI_ne0 (by omega) (by omega))) mc_L_low ms_L_low lk_L_103 rfl rfl dL_law_193 ⟨Nat.le_of_ble_eq_true rfl, Nat.le_of_ble_eq_true rfl⟩ ⟨by (try dsimp only); show _ ≤ 600104; omega, by (try dsimp only); show _ ≤ 7301314; omega⟩ (Nat.le_of_ble_eq_true rfl) ?_
      obtain ⟨j193, hj193, ej193⟩ := low_n yv (n := ns) (by omega) (by omega)
      rw [show lowI yv (nI ns) = nI j193 from ej193]
      refine x_istore F [(15, .int (nI j193)), (14, .int (nI j171)), (13, .int (nI j160)), (12, .int 0), (11, .int yv), (10, .int xv), (9, .int (nI turn)), (8, .ref (ad 18)), (7, .ref (ad 17)), (6, .ref (ad 16)), (5, .ref (ad 15)), (4, .ref (ad 14)), (3, .ref (ad 13)), (2, .ref (ad 12)), (1, .ref (ad 0)), (0, .ref b)] dL_law_196 (by decide) rfl ?_
      refine x_iload F dL_law_198 3 rfl ?_
      refine x_iconst F (v := 3) dL_law_200 (by decide) ?_
      refine x_icmp_ge F 313 dL_law_201 (by decide) (fun h201 => ?_) (fun h201 => ?_)
      · exact False.elim (by revert h201; decide)
      · exact law_number hfl F hRX h hT hT2 (by omega) (by omega) hc hs K
    · replace h180 : ns = 0 := (nI_eq (a := ns) (b := 0) (by omega) (by omega)).mp h180
      refine x_iconst F (v := 0) dL_law_183 (by decide) ?_
      refine x_goto F 196 dL_law_184 (by decide) ?_
      refine x_istore F [(15, .int 0), (14, .int (nI j171)), (13, .int (nI j160)), (12, .int 0), (11, .int yv), (10, .int xv), (9, .int (nI turn)), (8, .ref (ad 18)), (7, .ref (ad 17)), (6, .ref (ad 16)), (5, .ref (ad 15)), (4, .ref (ad 14)), (3, .ref (ad 13)), (2, .ref (ad 12)), (1, .ref (ad 0)), (0, .ref b)] dL_law_196 (by decide) rfl ?_
      refine x_iload F dL_law_198 3 rfl ?_
      refine x_iconst F (v := 3) dL_law_200 (by decide) ?_
      refine x_icmp_ge F 313 dL_law_201 (by decide) (fun h201 => ?_) (fun h201 => ?_)
      · exact False.elim (by revert h201; decide)
      · exact law_number hfl F hRX h hT hT2 (by omega) (by omega) hc hs K
end TURN
