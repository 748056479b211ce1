/-! The law's links, as the pure theory reads them; its best way. -/
def GL (I : Nat → Nat → Int32) (J : Nat → Nat → Int64) (op : Nat → Nat → Bool) (rt : Nat → Nat → Nat) : Prop :=
  ∀ x y, x < 5 → y < 5 → shutL I J x y = !(op x y) ∧ (op x y = true → I 12 (2 * (5 * x + y)) = nI (rt x y) ∧ rt x y ≤ 100)
section LBEST
variable {op : Nat → Nat → Bool} {rt : Nat → Nat → Nat} {a b : Nat} {I : Nat → Nat → Int32} {J : Nat → Nat → Int64}
theorem GL.open_ (h : GL I J op rt) {x y : Nat} (hx : x < 5) (hy : y < 5) (hs : shutL I J x y = false) : op x y = true := by
  have := (h x y hx hy).1
  rw [hs] at this
  cases e : op x y with
  | true => rfl
  | false => rw [e] at this; cases this
theorem GL.shut_ (h : GL I J op rt) {x y : Nat} (hx : x < 5) (hy : y < 5) (hs : shutL I J x y = true) : op x y = false := by
  have := (h x y hx hy).1
  rw [hs] at this
  cases e : op x y with
  | true => rw [e] at this; cases this
  | false => rfl
theorem GL.rt_ (h : GL I J op rt) : ∀ x y, x < 5 → y < 5 → op x y = true → rt x y ≤ 100 := fun x y hx hy ho => ((h x y hx hy).2 ho).2
theorem best_eq {v : Option (List Nat)} (ha : a < 5) (h : a = b) (hv : Best op rt a b v) : encO v = a + 1 := by
  subst h
  have hw : Way op a a [a] := ⟨⟨rfl, by simp, by simpa using ha, trivial⟩, rfl⟩
  have hb : Best op rt a a (some [a]) := by
    refine ⟨hw, fun q hq hb => ?_⟩
    have hq2 : q = [a] := by
      have h1 := hq.1.1
      cases q with
      | nil => simp at h1
      | cons x xs =>
        have e : x = a := by simpa using h1
        subst e
        rw [way_end (p := [x]) (z := xs) hw hq]
    rw [hq2] at hb
    exact bet_irr _ hb
  rw [best_one hv hb]
  rfl
theorem sh_1 {k : Nat} (hk : k < 5) : (1 : Int32) <<< (nI k &&& 31) = nI (2 ^ k) := (show ∀ k : Fin 5, (1 : Int32) <<< (nI k.val &&& 31) = nI (2 ^ k.val) by decide +kernel) ⟨k, hk⟩
theorem p2_lt {k : Nat} (hk : k < 5) : 2 ^ k < 2 ^ 31 := Nat.pow_lt_pow_right (by decide) (by omega)
theorem dig_n {bt cd i : Nat} (hi : i < bt) (hb : bt < 4) (hcd : cd ≤ 125) : nI cd / nI (byF bt i) - nI cd / nI (byF bt i) / 5 * 5 = nI (List.getD (rowN a b bt cd) (i + 1) 0) := by
  have h1 := byF_lt (i := i) hb
  have h2 := byF_ne hi
  have h3 : cd / byF bt i ≤ cd := Nat.div_le_self _ _
  rw [pk_div (by omega) h2 (by omega), show (5 : Int32) = nI 5 from rfl, pk_rem (by omega) (by omega) (by omega), byF_dig hi]
theorem getD_end {l : List Nat} {i d : Nat} (h : l.length = i + 1) : List.getD (l ++ [d]) (i + 1) 0 = d := by
  rw [List.getD_eq_getElem?_getD, List.getElem?_append_right (by omega), h, Nat.sub_self]
  rfl
theorem vd_cost {bt cd i mk d : Nat} {l : List Nat} (hi : i ≤ bt) (h : Vd op a b bt cd i l mk) (hg : GL I J op rt) (hx : List.getD l i 0 < 5) (hy : d < 5) (ho : op (List.getD l i 0) d = true) : nI (cst rt l) + I 12 (2 * (5 * List.getD l i 0 + d)) = nI (cst rt (l ++ [d])) := by
  obtain ⟨z, hz⟩ := vd_snoc (by omega) h
  have h1 := ((hg _ _ hx hy).2 ho).1
  rw [h1, nI_add]
  have h2 := cst_snoc (rt := rt) z (List.getD l i 0) d
  rw [← hz] at h2
  rw [h2]
theorem enc_or {l : List Nat} {i d : Nat} (h5 : ∀ y ∈ l, y < 5) (hl : l.length = i + 1) (hd : d < 5) (hi : i ≤ 3) : nI (enc l) ||| (nI (d + 1) <<< (nI (3 * (i + 1)) &&& 31)) = nI (enc (l ++ [d])) := by
  have h1 := enc_lt l h5
  rw [hl] at h1
  have h2 : (8 : Nat) ^ (i + 1) = 2 ^ (3 * (i + 1)) := by rw [Nat.pow_mul]
  have h3 : (2 : Nat) ^ (3 * (i + 1)) ≤ 2 ^ 12 := Nat.pow_le_pow_right (by decide) (by omega)
  have h4 : (d + 1) * 2 ^ (3 * (i + 1)) ≤ 5 * 2 ^ 12 := Nat.mul_le_mul (by omega) h3
  rw [sh_l (by omega) (by omega), or_n (by omega) (by omega), enc_snoc, hl]
  congr 1
  rw [h2] at h1
  have h5 := Nat.two_pow_add_eq_or_of_lt h1 (d + 1)
  rw [Nat.mul_comm] at h5
  rw [Nat.or_comm, ← h5]
  exact Nat.add_comm _ _
theorem lst_le {bt cd : Nat} {u : Option (List Nat)} (hg : GL I J op rt) (h : Sn op rt a b bt cd u) : lstO rt u ≤ 1000000 := by
  cases u with
  | none => exact Nat.le_refl _
  | some w =>
    have h1 := (h.1 w rfl).1
    have h2 := chn_cst hg.rt_ w h1.1.2.2.1 h1.1.2.2.2
    have h3 := way_len h1
    simp only [lstO]
    omega
end LBEST
set_option maxHeartbeats 4000000 in
set_option maxRecDepth 100000 in
/-- best -/
theorem c_L_best (l : Launch) (D : va_G) (cy : Nat → ClassId) (lo : Nat) (R : List Nat) (ad : Nat → Nat) (q : Nat → Nat → Nat) (ns nt : Nat) (I : Nat → Nat → Int32) (J : Nat → Nat → Int64) (hR : ∀ r, r < 19 → r ∈ R) (a : Nat) (b : Nat) (op : Nat → Nat → Bool) (rt : Nat → Nat → Nat) (v : Option (List Nat)) (ha : a < 5) (hb : b < 5) (hg : GL I J op rt) (hv : Best op rt a b v) : k_Ci l yL_best cL_best 17 (some .int) 1 24 D cy lo R ad (k_c cy ad q ns nt I J) [.int (nI a), .int (nI b), .ref (ad 12), .ref (ad 14)] (nI (encO v)) (k_c cy ad q ns nt I J) := by
  refine k_metQ (by decide +kernel) (Nat.le_of_ble_eq_true rfl) ?_
  intro p e s m args below meth c Q F hr hlk hnm hQ
  refine x_iconst F (v := 0) dL_best_0 (by decide) ?_
  refine x_cast (y := nI (encO none)) (rfl) ?_
  refine x_istore F [(4, .int (nI (encO none))), (0, .int (nI a)), (1, .int (nI b)), (2, .ref (ad 12)), (3, .ref (ad 14))] dL_best_1 (by decide) rfl ?_
  refine x_ldc F (v := 1000000) dL_best_3 459 (by decide +kernel) ?_
  refine x_cast (y := nI (lstO rt none)) (rfl) ?_
  refine x_istore F [(5, .int (nI (lstO rt none))), (4, .int (nI (encO none))), (0, .int (nI a)), (1, .int (nI b)), (2, .ref (ad 12)), (3, .ref (ad 14))] dL_best_5 (by decide) rfl ?_
  refine x_iload_n F dL_best_7 rfl 2 rfl ?_
  refine x_iload_n F dL_best_8 rfl 3 rfl ?_
  refine x_icmp_ne F 16 dL_best_9 (by decide) (fun h9 => ?_) (fun h9 => ?_)
  · replace h9 : ¬ a = b := fun z => h9 ((nI_eq (a := a) (b := b) (by omega) (by omega)).mpr z)
    refine x_iconst F (v := 0) dL_best_16 (by decide) ?_
    refine x_istore F [(6, .int 0), (5, .int (nI (lstO rt none))), (4, .int (nI (encO none))), (0, .int (nI a)), (1, .int (nI b)), (2, .ref (ad 12)), (3, .ref (ad 14))] dL_best_17 (by decide) rfl ?_
    have lp19 : ∀ (fu19 : Nat) (bt : Nat) (u : Option (List Nat)), 4 - bt < fu19 → (bt ≤ 4) → (Sn op rt a b bt 0 u) → XW D lo p l e { frames := 1, cells := 0, slots := 0, locals := 24 } s m args below meth c 17 0 0 Q R ad (k_c cy ad q ns nt I J) 19 [(6, .int (nI bt)), (5, .int (nI (lstO rt u))), (4, .int (nI (encO u))), (0, .int (nI a)), (1, .int (nI b)), (2, .ref (ad 12)), (3, .ref (ad 14))] [] := by
      intro fu19
      induction fu19 with
      | zero => intro bt u hf19; exact absurd hf19 (Nat.not_lt_zero _)
      | succ fu19 ih19 =>
        intro bt u hf19 hbt hs
        refine x_iload F dL_best_19 0 rfl ?_
        refine x_iconst F (v := 4) dL_best_21 (by decide) ?_
        refine x_icmp_ge F 271 dL_best_22 (by decide) (fun h22 => ?_) (fun h22 => ?_)
        · replace h22 : 4 ≤ bt := (nI_leI (a := 4) (b := bt) (by omega) (by omega)).mp h22
          have hb4 : bt = 4 := by omega
          rw [hb4] at hs
          refine x_iload F dL_best_271 2 rfl ?_
          rw [hQ]
          exact x_iret F hr hlk ⟨by rw [best_one (sn_end hs) hv], rfl⟩ dL_best_273
        · replace h22 : ¬ 4 ≤ bt := fun z => h22 ((nI_leI (a := 4) (b := bt) (by omega) (by omega)).mpr z)
          have hb4 : bt < 4 := by omega
          have hp5 := p5_lt hb4
          have hp0 : 0 < 5 ^ bt := Nat.pow_pos (by decide)
          have j57 : XW D lo p l e { frames := 1, cells := 0, slots := 0, locals := 24 } s m args below meth c 17 0 0 Q R ad (k_c cy ad q ns nt I J) 57 [(6, .int (nI bt)), (5, .int (nI (lstO rt u))), (4, .int (nI (encO u))), (0, .int (nI a)), (1, .int (nI b)), (2, .ref (ad 12)), (3, .ref (ad 14))] [.int (nI (5 ^ bt))] := by
            refine x_istore F [(7, .int (nI (5 ^ bt))), (6, .int (nI bt)), (5, .int (nI (lstO rt u))), (4, .int (nI (encO u))), (0, .int (nI a)), (1, .int (nI b)), (2, .ref (ad 12)), (3, .ref (ad 14))] dL_best_57 (by decide) rfl ?_
            refine x_iconst F (v := 0) dL_best_59 (by decide) ?_
            refine x_istore F [(8, .int 0), (7, .int (nI (5 ^ bt))), (6, .int (nI bt)), (5, .int (nI (lstO rt u))), (4, .int (nI (encO u))), (0, .int (nI a)), (1, .int (nI b)), (2, .ref (ad 12)), (3, .ref (ad 14))] dL_best_60 (by decide) rfl ?_
            have lp62 : ∀ (fu62 : Nat) (cd : Nat) (uu : Option (List Nat)), 5 ^ bt - cd < fu62 → (cd ≤ 5 ^ bt) → (Sn op rt a b bt cd uu) → XW D lo p l e { frames := 1, cells := 0, slots := 0, locals := 24 } s m args below meth c 17 0 0 Q R ad (k_c cy ad q ns nt I J) 62 [(8, .int (nI cd)), (7, .int (nI (5 ^ bt))), (6, .int (nI bt)), (5, .int (nI (lstO rt uu))), (4, .int (nI (encO uu))), (0, .int (nI a)), (1, .int (nI b)), (2, .ref (ad 12)), (3, .ref (ad 14))] [] := by
              intro fu62
              induction fu62 with
              | zero => intro cd uu hf62; exact absurd hf62 (Nat.not_lt_zero _)
              | succ fu62 ih62 =>
                intro cd uu hf62 hcd hs2
                have hlu := lst_le hg hs2
                refine x_iload F dL_best_62 0 rfl ?_
                refine x_iload F dL_best_64 1 rfl ?_
                refine x_icmp_ge F 265 dL_best_66 (by decide) (fun h66 => ?_) (fun h66 => ?_)
                · replace h66 : (5 ^ bt) ≤ cd := (nI_leI (a := 5 ^ bt) (b := cd) (by omega) (by omega)).mp h66
                  have hce : cd = 5 ^ bt := by omega
                  refine x_iinc F [(6, .int ((nI bt) + 1)), (8, .int (nI cd)), (7, .int (nI (5 ^ bt))), (5, .int (nI (lstO rt uu))), (4, .int (nI (encO uu))), (0, .int (nI a)), (1, .int (nI b)), (2, .ref (ad 12)), (3, .ref (ad 14))] dL_best_265 2 rfl (by decide) rfl ?_
                  refine x_goto F 19 dL_best_268 (by decide) ?_
                  rw [nI_1]
                  refine x_sub [0, 3, 4, 5, 6, 7, 8] rfl ?_
                  exact ih19 (bt + 1) uu (by omega) (by omega) (sn_lvl h9 (hce ▸ hs2))
                · replace h66 : ¬ (5 ^ bt) ≤ cd := fun z => h66 ((nI_leI (a := 5 ^ bt) (b := cd) (by omega) (by omega)).mpr z)
                  refine x_iconst F (v := 1) dL_best_69 (by decide) ?_
                  refine x_iload_n F dL_best_70 rfl 5 rfl ?_
                  refine x_ishl F dL_best_71 ?_
                  refine x_cast (y := nI (2 ^ a)) (sh_1 ha) ?_
                  refine x_iconst F (v := 1) dL_best_72 (by decide) ?_
                  refine x_iload_n F dL_best_73 rfl 6 rfl ?_
                  refine x_ishl F dL_best_74 ?_
                  refine x_cast (y := nI (2 ^ b)) (sh_1 hb) ?_
                  refine x_ior F dL_best_75 ?_
                  refine x_cast (y := nI (2 ^ a ||| 2 ^ b)) (or_n (p2_lt ha) (p2_lt hb)) ?_
                  refine x_istore F [(9, .int (nI (2 ^ a ||| 2 ^ b))), (8, .int (nI cd)), (7, .int (nI (5 ^ bt))), (6, .int (nI bt)), (5, .int (nI (lstO rt uu))), (4, .int (nI (encO uu))), (0, .int (nI a)), (1, .int (nI b)), (2, .ref (ad 12)), (3, .ref (ad 14))] dL_best_76 (by decide) rfl ?_
                  refine x_iload_n F dL_best_78 rfl 6 rfl ?_
                  refine x_cast (y := nI (List.getD [a] 0 0)) (rfl) ?_
                  refine x_istore F [(10, .int (nI (List.getD [a] 0 0))), (9, .int (nI (2 ^ a ||| 2 ^ b))), (8, .int (nI cd)), (7, .int (nI (5 ^ bt))), (6, .int (nI bt)), (5, .int (nI (lstO rt uu))), (4, .int (nI (encO uu))), (0, .int (nI a)), (1, .int (nI b)), (2, .ref (ad 12)), (3, .ref (ad 14))] dL_best_79 (by decide) rfl ?_
                  refine x_iconst F (v := 0) dL_best_81 (by decide) ?_
                  refine x_cast (y := nI (cst rt [a])) (rfl) ?_
                  refine x_istore F [(11, .int (nI (cst rt [a]))), (10, .int (nI (List.getD [a] 0 0))), (9, .int (nI (2 ^ a ||| 2 ^ b))), (8, .int (nI cd)), (7, .int (nI (5 ^ bt))), (6, .int (nI bt)), (5, .int (nI (lstO rt uu))), (4, .int (nI (encO uu))), (0, .int (nI a)), (1, .int (nI b)), (2, .ref (ad 12)), (3, .ref (ad 14))] dL_best_82 (by decide) rfl ?_
                  refine x_iload_n F dL_best_84 rfl 8 rfl ?_
                  refine x_iconst F (v := 1) dL_best_85 (by decide) ?_
                  refine x_iadd F dL_best_86 ?_
                  refine x_cast (y := nI (enc [a])) (by rw [nI_1]; rfl) ?_
                  refine x_istore F [(12, .int (nI (enc [a]))), (11, .int (nI (cst rt [a]))), (10, .int (nI (List.getD [a] 0 0))), (9, .int (nI (2 ^ a ||| 2 ^ b))), (8, .int (nI cd)), (7, .int (nI (5 ^ bt))), (6, .int (nI bt)), (5, .int (nI (lstO rt uu))), (4, .int (nI (encO uu))), (0, .int (nI a)), (1, .int (nI b)), (2, .ref (ad 12)), (3, .ref (ad 14))] dL_best_87 (by decide) rfl ?_
                  refine x_iload F dL_best_89 5 rfl ?_
                  refine x_iconst F (v := 5) dL_best_91 (by decide) ?_
                  refine x_idiv F dL_best_92 (by decide) ?_
                  refine x_cast (y := nI (byF bt 0)) (by rw [show (5 : Int32) = nI 5 from rfl, pk_div (by omega) (by omega) (by omega), byF_0 hb4]) ?_
                  refine x_istore F [(13, .int (nI (byF bt 0))), (12, .int (nI (enc [a]))), (11, .int (nI (cst rt [a]))), (10, .int (nI (List.getD [a] 0 0))), (9, .int (nI (2 ^ a ||| 2 ^ b))), (8, .int (nI cd)), (7, .int (nI (5 ^ bt))), (6, .int (nI bt)), (5, .int (nI (lstO rt uu))), (4, .int (nI (encO uu))), (0, .int (nI a)), (1, .int (nI b)), (2, .ref (ad 12)), (3, .ref (ad 14))] dL_best_93 (by decide) rfl ?_
                  refine x_iconst F (v := 1) dL_best_95 (by decide) ?_
                  refine x_istore F [(14, .int 1), (13, .int (nI (byF bt 0))), (12, .int (nI (enc [a]))), (11, .int (nI (cst rt [a]))), (10, .int (nI (List.getD [a] 0 0))), (9, .int (nI (2 ^ a ||| 2 ^ b))), (8, .int (nI cd)), (7, .int (nI (5 ^ bt))), (6, .int (nI bt)), (5, .int (nI (lstO rt uu))), (4, .int (nI (encO uu))), (0, .int (nI a)), (1, .int (nI b)), (2, .ref (ad 12)), (3, .ref (ad 14))] dL_best_96 (by decide) rfl ?_
                  refine x_iconst F (v := 0) dL_best_98 (by decide) ?_
                  refine x_istore F [(15, .int 0), (14, .int 1), (13, .int (nI (byF bt 0))), (12, .int (nI (enc [a]))), (11, .int (nI (cst rt [a]))), (10, .int (nI (List.getD [a] 0 0))), (9, .int (nI (2 ^ a ||| 2 ^ b))), (8, .int (nI cd)), (7, .int (nI (5 ^ bt))), (6, .int (nI bt)), (5, .int (nI (lstO rt uu))), (4, .int (nI (encO uu))), (0, .int (nI a)), (1, .int (nI b)), (2, .ref (ad 12)), (3, .ref (ad 14))] dL_best_99 (by decide) rfl ?_
                  have hF : ∀ (x9 x10 x11 x12 x13 x15 : Int32), ¬ Way op a b (rowN a b bt cd) → XW D lo p l e { frames := 1, cells := 0, slots := 0, locals := 24 } s m args below meth c 17 0 0 Q R ad (k_c cy ad q ns nt I J) 101 [(15, .int x15), (14, .int 0), (13, .int x13), (12, .int x12), (11, .int x11), (10, .int x10), (9, .int x9), (8, .int (nI cd)), (7, .int (nI (5 ^ bt))), (6, .int (nI bt)), (5, .int (nI (lstO rt uu))), (4, .int (nI (encO uu))), (0, .int (nI a)), (1, .int (nI b)), (2, .ref (ad 12)), (3, .ref (ad 14))] [] := by
                    intro x9 x10 x11 x12 x13 x15 hnw
                    refine x_iload F dL_best_101 0 rfl ?_
                    refine x_iload F dL_best_103 9 rfl ?_
                    refine x_icmp_gt F 236 dL_best_105 (by decide) (fun h105 => ?_) (fun h105 => ?_)
                    · refine x_iload F dL_best_236 1 rfl ?_
                      refine x_if_eq F 259 dL_best_238 (by decide) (fun h238 => ?_) (fun h238 => ?_)
                      · refine x_iinc F [(8, .int ((nI cd) + 1)), (15, .int x15), (14, .int 0), (13, .int x13), (12, .int x12), (11, .int x11), (10, .int x10), (9, .int x9), (7, .int (nI (5 ^ bt))), (6, .int (nI bt)), (5, .int (nI (lstO rt uu))), (4, .int (nI (encO uu))), (0, .int (nI a)), (1, .int (nI b)), (2, .ref (ad 12)), (3, .ref (ad 14))] dL_best_259 7 rfl (by decide) rfl ?_
                        refine x_goto F 62 dL_best_262 (by decide) ?_
                        rw [nI_1]
                        refine x_sub [0, 8, 9, 10, 11, 12, 13, 14, 15] rfl ?_
                        exact ih62 (cd + 1) uu (by omega) (by omega) (sn_no h9 hs2 hnw)
                      · exact False.elim (by revert h238; decide)
                    · refine x_iload F dL_best_108 1 rfl ?_
                      refine x_if_eq F 236 dL_best_110 (by decide) (fun h110 => ?_) (fun h110 => ?_)
                      · refine x_iload F dL_best_236 1 rfl ?_
                        refine x_if_eq F 259 dL_best_238 (by decide) (fun h238 => ?_) (fun h238 => ?_)
                        · refine x_iinc F [(8, .int ((nI cd) + 1)), (15, .int x15), (14, .int 0), (13, .int x13), (12, .int x12), (11, .int x11), (10, .int x10), (9, .int x9), (7, .int (nI (5 ^ bt))), (6, .int (nI bt)), (5, .int (nI (lstO rt uu))), (4, .int (nI (encO uu))), (0, .int (nI a)), (1, .int (nI b)), (2, .ref (ad 12)), (3, .ref (ad 14))] dL_best_259 7 rfl (by decide) rfl ?_
                          refine x_goto F 62 dL_best_262 (by decide) ?_
                          rw [nI_1]
                          refine x_sub [0, 8, 9, 10, 11, 12, 13, 14, 15] rfl ?_
                          exact ih62 (cd + 1) uu (by omega) (by omega) (sn_no h9 hs2 hnw)
                        · exact False.elim (by revert h238; decide)
                      · exact False.elim (by revert h110; decide)
                  have lp101 : ∀ (fu101 i : Nat) (qq : List Nat) (mk : Nat), bt + 2 - i < fu101 → (i ≤ bt + 1) → (Vd op a b bt cd i qq mk) → XW D lo p l e { frames := 1, cells := 0, slots := 0, locals := 24 } s m args below meth c 17 0 0 Q R ad (k_c cy ad q ns nt I J) 101 [(15, .int (nI i)), (14, .int 1), (13, .int (nI (byF bt i))), (12, .int (nI (enc qq))), (11, .int (nI (cst rt qq))), (10, .int (nI (List.getD qq i 0))), (9, .int (nI mk)), (8, .int (nI cd)), (7, .int (nI (5 ^ bt))), (6, .int (nI bt)), (5, .int (nI (lstO rt uu))), (4, .int (nI (encO uu))), (0, .int (nI a)), (1, .int (nI b)), (2, .ref (ad 12)), (3, .ref (ad 14))] [] := by
                    intro fu101
                    induction fu101 with
                    | zero => intro i qq mk hf101; exact absurd hf101 (Nat.not_lt_zero _)
                    | succ fu101 ih101 =>
                      intro i qq mk hf101 hi hv9
                      have hq5 := hv9.2.1.2.2.1
                      have hql := vd_len hi hv9
                      have hqc := chn_cst hg.rt_ qq hq5 hv9.2.1.2.2.2
                      have hm32 := hv9.2.2.2.1
                      have hat5 : List.getD qq i 0 < 5 := pD_lt hq5
                      have hby := byF_lt (i := i) hb4
                      refine x_iload F dL_best_101 0 rfl ?_
                      refine x_iload F dL_best_103 9 rfl ?_
                      refine x_icmp_gt F 236 dL_best_105 (by decide) (fun h105 => ?_) (fun h105 => ?_)
                      · replace h105 : bt < i := (nI_ltI (a := bt) (b := i) (by omega) (by omega)).mp h105
                        have hi1 : i = bt + 1 := by omega
                        rw [hi1] at hv9
                        obtain ⟨hqe, hwy⟩ := vd_end hv9
                        refine x_iload F dL_best_236 1 rfl ?_
                        refine x_if_eq F 259 dL_best_238 (by decide) (fun h238 => ?_) (fun h238 => ?_)
                        · exact False.elim (by revert h238; decide)
                        · refine x_iload F dL_best_241 4 rfl ?_
                          refine x_iload F dL_best_243 10 rfl ?_
                          refine x_icmp_lt F 251 dL_best_245 (by decide) (fun h245 => ?_) (fun h245 => ?_)
                          · replace h245 : (cst rt qq) < (lstO rt uu) := (nI_ltI (a := cst rt qq) (b := lstO rt uu) (by omega) (by omega)).mp h245
                            refine x_iload F dL_best_251 4 rfl ?_
                            refine x_istore F [(5, .int (nI (cst rt qq))), (15, .int (nI i)), (14, .int 1), (13, .int (nI (byF bt i))), (12, .int (nI (enc qq))), (11, .int (nI (cst rt qq))), (10, .int (nI (List.getD qq i 0))), (9, .int (nI mk)), (8, .int (nI cd)), (7, .int (nI (5 ^ bt))), (6, .int (nI bt)), (4, .int (nI (encO uu))), (0, .int (nI a)), (1, .int (nI b)), (2, .ref (ad 12)), (3, .ref (ad 14))] dL_best_253 (by decide) rfl ?_
                            refine x_iload F dL_best_255 4 rfl ?_
                            refine x_istore F [(4, .int (nI (enc qq))), (5, .int (nI (cst rt qq))), (15, .int (nI i)), (14, .int 1), (13, .int (nI (byF bt i))), (12, .int (nI (enc qq))), (11, .int (nI (cst rt qq))), (10, .int (nI (List.getD qq i 0))), (9, .int (nI mk)), (8, .int (nI cd)), (7, .int (nI (5 ^ bt))), (6, .int (nI bt)), (0, .int (nI a)), (1, .int (nI b)), (2, .ref (ad 12)), (3, .ref (ad 14))] dL_best_257 (by decide) rfl ?_
                            refine x_iinc F [(8, .int ((nI cd) + 1)), (4, .int (nI (enc qq))), (5, .int (nI (cst rt qq))), (15, .int (nI i)), (14, .int 1), (13, .int (nI (byF bt i))), (12, .int (nI (enc qq))), (11, .int (nI (cst rt qq))), (10, .int (nI (List.getD qq i 0))), (9, .int (nI mk)), (7, .int (nI (5 ^ bt))), (6, .int (nI bt)), (0, .int (nI a)), (1, .int (nI b)), (2, .ref (ad 12)), (3, .ref (ad 14))] dL_best_259 9 rfl (by decide) rfl ?_
                            refine x_goto F 62 dL_best_262 (by decide) ?_
                            rw [nI_1]
                            refine x_sub [0, 10, 11, 2, 1, 12, 13, 14, 15] rfl ?_
                            rw [hqe]
                            exact ih62 (cd + 1) (some (rowN a b bt cd)) (by omega) (by omega) (sn_take h9 (by omega) hs2 hwy (by rw [← hqe]; omega))
                          · replace h245 : ¬ (cst rt qq) < (lstO rt uu) := fun z => h245 ((nI_ltI (a := cst rt qq) (b := lstO rt uu) (by omega) (by omega)).mpr z)
                            refine x_goto F 259 dL_best_248 (by decide) ?_
                            refine x_iinc F [(8, .int ((nI cd) + 1)), (15, .int (nI i)), (14, .int 1), (13, .int (nI (byF bt i))), (12, .int (nI (enc qq))), (11, .int (nI (cst rt qq))), (10, .int (nI (List.getD qq i 0))), (9, .int (nI mk)), (7, .int (nI (5 ^ bt))), (6, .int (nI bt)), (5, .int (nI (lstO rt uu))), (4, .int (nI (encO uu))), (0, .int (nI a)), (1, .int (nI b)), (2, .ref (ad 12)), (3, .ref (ad 14))] dL_best_259 7 rfl (by decide) rfl ?_
                            refine x_goto F 62 dL_best_262 (by decide) ?_
                            rw [nI_1]
                            refine x_sub [0, 8, 9, 10, 11, 12, 13, 14, 15] rfl ?_
                            exact ih62 (cd + 1) uu (by omega) (by omega) (sn_keep h9 (by omega) hs2 hwy (by rw [← hqe]; omega) (by rw [← hqe]; omega))
                      · replace h105 : ¬ bt < i := fun z => h105 ((nI_ltI (a := bt) (b := i) (by omega) (by omega)).mpr z)
                        refine x_iload F dL_best_108 1 rfl ?_
                        refine x_if_eq F 236 dL_best_110 (by decide) (fun h110 => ?_) (fun h110 => ?_)
                        · exact False.elim (by revert h110; decide)
                        · refine x_iload F dL_best_113 0 rfl ?_
                          refine x_iload F dL_best_115 9 rfl ?_
                          refine x_icmp_ne F 124 dL_best_117 (by decide) (fun h117 => ?_) (fun h117 => ?_)
                          · replace h117 : ¬ i = bt := fun z => h117 ((nI_eq (a := i) (b := bt) (by omega) (by omega)).mpr z)
                            have hD5 : List.getD (rowN a b bt cd) (i + 1) 0 < 5 := pD_lt (row_5 ha hb)
                            have hne9 := byF_ne (bt := bt) (i := i) (by omega)
                            refine x_iload F dL_best_124 7 rfl ?_
                            refine x_iload F dL_best_126 2 rfl ?_
                            refine x_idiv F dL_best_128 (nI_ne0 (by omega) (by omega)) ?_
                            refine x_iconst F (v := 5) dL_best_129 (by decide) ?_
                            refine x_irem F dL_best_130 (by decide) ?_
                            refine x_cast (y := nI (List.getD (rowN a b bt cd) (i + 1) 0)) (dig_n (by omega) hb4 (by omega)) ?_
                            refine x_istore F [(16, .int (nI (List.getD (rowN a b bt cd) (i + 1) 0))), (15, .int (nI i)), (14, .int 1), (13, .int (nI (byF bt i))), (12, .int (nI (enc qq))), (11, .int (nI (cst rt qq))), (10, .int (nI (List.getD qq i 0))), (9, .int (nI mk)), (8, .int (nI cd)), (7, .int (nI (5 ^ bt))), (6, .int (nI bt)), (5, .int (nI (lstO rt uu))), (4, .int (nI (encO uu))), (0, .int (nI a)), (1, .int (nI b)), (2, .ref (ad 12)), (3, .ref (ad 14))] dL_best_131 (by decide) rfl ?_
                            refine x_iload F dL_best_133 1 rfl ?_
                            refine x_iload F dL_best_135 10 rfl ?_
                            refine x_icmp_eq F 150 dL_best_137 (by decide) (fun h137 => ?_) (fun h137 => ?_)
                            · exact (h117 ((nI_eq (by omega) (by omega)).mp h137)).elim
                            · replace h137 : ¬ i = bt := fun z => h137 ((nI_eq (a := i) (b := bt) (by omega) (by omega)).mpr z)
                              refine x_iload F dL_best_140 7 rfl ?_
                              refine x_iload F dL_best_142 0 rfl ?_
                              refine x_ishr F dL_best_144 ?_
                              refine x_iconst F (v := 1) dL_best_145 (by decide) ?_
                              refine x_iand F dL_best_146 ?_
                              refine x_if_ne F 166 dL_best_147 (by decide) (fun h147 => ?_) (fun h147 => ?_)
                              · rw [bit_0 (by omega) (by omega), Bool.not_eq_false] at h147
                                have hnw := vd_bad1 (by omega) hv9 rfl hD5 h147
                                refine x_iconst F (v := 0) dL_best_166 (by decide) ?_
                                refine x_istore F [(14, .int 0), (16, .int (nI (List.getD (rowN a b bt cd) (i + 1) 0))), (15, .int (nI i)), (13, .int (nI (byF bt i))), (12, .int (nI (enc qq))), (11, .int (nI (cst rt qq))), (10, .int (nI (List.getD qq i 0))), (9, .int (nI mk)), (8, .int (nI cd)), (7, .int (nI (5 ^ bt))), (6, .int (nI bt)), (5, .int (nI (lstO rt uu))), (4, .int (nI (encO uu))), (0, .int (nI a)), (1, .int (nI b)), (2, .ref (ad 12)), (3, .ref (ad 14))] dL_best_167 (by decide) rfl ?_
                                refine x_iload F dL_best_169 7 rfl ?_
                                refine x_iconst F (v := 1) dL_best_171 (by decide) ?_
                                refine x_iload F dL_best_172 1 rfl ?_
                                refine x_ishl F dL_best_174 ?_
                                refine x_cast (y := nI (2 ^ (List.getD (rowN a b bt cd) (i + 1) 0))) (sh_1 (by omega)) ?_
                                refine x_ior F dL_best_175 ?_
                                refine x_cast (y := nI (mk ||| 2 ^ (List.getD (rowN a b bt cd) (i + 1) 0))) (or_n (by omega) (p2_lt (by omega))) ?_
                                refine x_istore F [(9, .int (nI (mk ||| 2 ^ (List.getD (rowN a b bt cd) (i + 1) 0)))), (14, .int 0), (16, .int (nI (List.getD (rowN a b bt cd) (i + 1) 0))), (15, .int (nI i)), (13, .int (nI (byF bt i))), (12, .int (nI (enc qq))), (11, .int (nI (cst rt qq))), (10, .int (nI (List.getD qq i 0))), (8, .int (nI cd)), (7, .int (nI (5 ^ bt))), (6, .int (nI bt)), (5, .int (nI (lstO rt uu))), (4, .int (nI (encO uu))), (0, .int (nI a)), (1, .int (nI b)), (2, .ref (ad 12)), (3, .ref (ad 14))] dL_best_176 (by decide) rfl ?_
                                refine x_iload F dL_best_178 6 rfl ?_
                                refine x_aload_n F dL_best_180 rfl 15 rfl ?_
                                refine x_iconst F (v := 2) dL_best_181 (by decide) ?_
                                refine x_iconst F (v := 5) dL_best_182 (by decide) ?_
                                refine x_iload F dL_best_183 7 rfl ?_
                                refine x_imul F dL_best_185 ?_
                                refine x_cast (y := nI (5 * (List.getD qq i 0))) (pk_mul 5 (List.getD qq i 0)) ?_
                                refine x_iload F dL_best_186 2 rfl ?_
                                refine x_iadd F dL_best_188 ?_
                                refine x_cast (y := nI (5 * (List.getD qq i 0) + (List.getD (rowN a b bt cd) (i + 1) 0))) (nI_add (5 * (List.getD qq i 0)) (List.getD (rowN a b bt cd) (i + 1) 0)) ?_
                                refine x_imul F dL_best_189 ?_
                                refine x_cast (y := nI (2 * (5 * (List.getD qq i 0) + (List.getD (rowN a b bt cd) (i + 1) 0)))) (pk_mul 2 (5 * (List.getD qq i 0) + (List.getD (rowN a b bt cd) (i + 1) 0))) ?_
                                refine y_iald F (hR 12 (by decide)) ss_12 (vp_in_nI (n := 2 * (5 * (List.getD qq i 0) + (List.getD (rowN a b bt cd) (i + 1) 0))) (N := 50) (by omega) (by decide)) dL_best_190 ?_
                                refine x_cast (y := I 12 (2 * (5 * (List.getD qq i 0) + (List.getD (rowN a b bt cd) (i + 1) 0)))) (by rw [nI_clamp (by omega)]) ?_
                                refine x_iadd F dL_best_191 ?_
                                refine x_istore F [(11, .int ((nI (cst rt qq)) + (I 12 (2 * (5 * (List.getD qq i 0) + (List.getD (rowN a b bt cd) (i + 1) 0)))))), (9, .int (nI (mk ||| 2 ^ (List.getD (rowN a b bt cd) (i + 1) 0)))), (14, .int 0), (16, .int (nI (List.getD (rowN a b bt cd) (i + 1) 0))), (15, .int (nI i)), (13, .int (nI (byF bt i))), (12, .int (nI (enc qq))), (10, .int (nI (List.getD qq i 0))), (8, .int (nI cd)), (7, .int (nI (5 ^ bt))), (6, .int (nI bt)), (5, .int (nI (lstO rt uu))), (4, .int (nI (encO uu))), (0, .int (nI a)), (1, .int (nI b)), (2, .ref (ad 12)), (3, .ref (ad 14))] dL_best_192 (by decide) rfl ?_
                                refine x_iload F dL_best_194 3 rfl ?_
                                refine x_istore F [(10, .int (nI (List.getD (rowN a b bt cd) (i + 1) 0))), (11, .int ((nI (cst rt qq)) + (I 12 (2 * (5 * (List.getD qq i 0) + (List.getD (rowN a b bt cd) (i + 1) 0)))))), (9, .int (nI (mk ||| 2 ^ (List.getD (rowN a b bt cd) (i + 1) 0)))), (14, .int 0), (16, .int (nI (List.getD (rowN a b bt cd) (i + 1) 0))), (15, .int (nI i)), (13, .int (nI (byF bt i))), (12, .int (nI (enc qq))), (8, .int (nI cd)), (7, .int (nI (5 ^ bt))), (6, .int (nI bt)), (5, .int (nI (lstO rt uu))), (4, .int (nI (encO uu))), (0, .int (nI a)), (1, .int (nI b)), (2, .ref (ad 12)), (3, .ref (ad 14))] dL_best_196 (by decide) rfl ?_
                                refine x_iload F dL_best_198 7 rfl ?_
                                refine x_iload F dL_best_200 4 rfl ?_
                                refine x_iconst F (v := 1) dL_best_202 (by decide) ?_
                                refine x_iadd F dL_best_203 ?_
                                refine x_cast (y := nI (List.getD (rowN a b bt cd) (i + 1) 0 + 1)) (nI_add (List.getD (rowN a b bt cd) (i + 1) 0) 1) ?_
                                refine x_iconst F (v := 3) dL_best_204 (by decide) ?_
                                refine x_iload F dL_best_205 5 rfl ?_
                                refine x_iconst F (v := 1) dL_best_207 (by decide) ?_
                                refine x_iadd F dL_best_208 ?_
                                refine x_cast (y := nI (i + 1)) (nI_add i 1) ?_
                                refine x_imul F dL_best_209 ?_
                                refine x_cast (y := nI (3 * (i + 1))) (pk_mul 3 (i + 1)) ?_
                                refine x_ishl F dL_best_210 ?_
                                refine x_ior F dL_best_211 ?_
                                refine x_istore F [(12, .int ((nI (enc qq)) ||| ((nI (List.getD (rowN a b bt cd) (i + 1) 0 + 1)) <<< ((nI (3 * (i + 1))) &&& 31)))), (10, .int (nI (List.getD (rowN a b bt cd) (i + 1) 0))), (11, .int ((nI (cst rt qq)) + (I 12 (2 * (5 * (List.getD qq i 0) + (List.getD (rowN a b bt cd) (i + 1) 0)))))), (9, .int (nI (mk ||| 2 ^ (List.getD (rowN a b bt cd) (i + 1) 0)))), (14, .int 0), (16, .int (nI (List.getD (rowN a b bt cd) (i + 1) 0))), (15, .int (nI i)), (13, .int (nI (byF bt i))), (8, .int (nI cd)), (7, .int (nI (5 ^ bt))), (6, .int (nI bt)), (5, .int (nI (lstO rt uu))), (4, .int (nI (encO uu))), (0, .int (nI a)), (1, .int (nI b)), (2, .ref (ad 12)), (3, .ref (ad 14))] dL_best_212 (by decide) rfl ?_
                                refine x_iload F dL_best_214 7 rfl ?_
                                refine x_iconst F (v := 4) dL_best_216 (by decide) ?_
                                refine x_icmp_le F 227 dL_best_217 (by decide) (fun h217 => ?_) (fun h217 => ?_)
                                · replace h217 : (byF bt i) ≤ 4 := (nI_leI (a := byF bt i) (b := 4) (by omega) (by omega)).mp h217
                                  refine x_iconst F (v := 1) dL_best_227 (by decide) ?_
                                  refine x_istore F [(13, .int 1), (12, .int ((nI (enc qq)) ||| ((nI (List.getD (rowN a b bt cd) (i + 1) 0 + 1)) <<< ((nI (3 * (i + 1))) &&& 31)))), (10, .int (nI (List.getD (rowN a b bt cd) (i + 1) 0))), (11, .int ((nI (cst rt qq)) + (I 12 (2 * (5 * (List.getD qq i 0) + (List.getD (rowN a b bt cd) (i + 1) 0)))))), (9, .int (nI (mk ||| 2 ^ (List.getD (rowN a b bt cd) (i + 1) 0)))), (14, .int 0), (16, .int (nI (List.getD (rowN a b bt cd) (i + 1) 0))), (15, .int (nI i)), (8, .int (nI cd)), (7, .int (nI (5 ^ bt))), (6, .int (nI bt)), (5, .int (nI (lstO rt uu))), (4, .int (nI (encO uu))), (0, .int (nI a)), (1, .int (nI b)), (2, .ref (ad 12)), (3, .ref (ad 14))] dL_best_228 (by decide) rfl ?_
                                  refine x_iinc F [(15, .int ((nI i) + 1)), (13, .int 1), (12, .int ((nI (enc qq)) ||| ((nI (List.getD (rowN a b bt cd) (i + 1) 0 + 1)) <<< ((nI (3 * (i + 1))) &&& 31)))), (10, .int (nI (List.getD (rowN a b bt cd) (i + 1) 0))), (11, .int ((nI (cst rt qq)) + (I 12 (2 * (5 * (List.getD qq i 0) + (List.getD (rowN a b bt cd) (i + 1) 0)))))), (9, .int (nI (mk ||| 2 ^ (List.getD (rowN a b bt cd) (i + 1) 0)))), (14, .int 0), (16, .int (nI (List.getD (rowN a b bt cd) (i + 1) 0))), (8, .int (nI cd)), (7, .int (nI (5 ^ bt))), (6, .int (nI bt)), (5, .int (nI (lstO rt uu))), (4, .int (nI (encO uu))), (0, .int (nI a)), (1, .int (nI b)), (2, .ref (ad 12)), (3, .ref (ad 14))] dL_best_230 7 rfl (by decide) rfl ?_
                                  refine x_goto F 101 dL_best_233 (by decide) ?_
                                  refine x_sub [0, 6, 1, 2, 4, 3, 5, 8, 9, 10, 11, 12, 13, 14, 15, 16] rfl ?_
                                  exact hF _ _ _ _ _ _ hnw
                                · replace h217 : ¬ (byF bt i) ≤ 4 := fun z => h217 ((nI_leI (a := byF bt i) (b := 4) (by omega) (by omega)).mpr z)
                                  refine x_iload F dL_best_220 7 rfl ?_
                                  refine x_iconst F (v := 5) dL_best_222 (by decide) ?_
                                  refine x_idiv F dL_best_223 (by decide) ?_
                                  refine x_goto F 228 dL_best_224 (by decide) ?_
                                  refine x_istore F [(13, .int ((nI (byF bt i)) / 5)), (12, .int ((nI (enc qq)) ||| ((nI (List.getD (rowN a b bt cd) (i + 1) 0 + 1)) <<< ((nI (3 * (i + 1))) &&& 31)))), (10, .int (nI (List.getD (rowN a b bt cd) (i + 1) 0))), (11, .int ((nI (cst rt qq)) + (I 12 (2 * (5 * (List.getD qq i 0) + (List.getD (rowN a b bt cd) (i + 1) 0)))))), (9, .int (nI (mk ||| 2 ^ (List.getD (rowN a b bt cd) (i + 1) 0)))), (14, .int 0), (16, .int (nI (List.getD (rowN a b bt cd) (i + 1) 0))), (15, .int (nI i)), (8, .int (nI cd)), (7, .int (nI (5 ^ bt))), (6, .int (nI bt)), (5, .int (nI (lstO rt uu))), (4, .int (nI (encO uu))), (0, .int (nI a)), (1, .int (nI b)), (2, .ref (ad 12)), (3, .ref (ad 14))] dL_best_228 (by decide) rfl ?_
                                  refine x_iinc F [(15, .int ((nI i) + 1)), (13, .int ((nI (byF bt i)) / 5)), (12, .int ((nI (enc qq)) ||| ((nI (List.getD (rowN a b bt cd) (i + 1) 0 + 1)) <<< ((nI (3 * (i + 1))) &&& 31)))), (10, .int (nI (List.getD (rowN a b bt cd) (i + 1) 0))), (11, .int ((nI (cst rt qq)) + (I 12 (2 * (5 * (List.getD qq i 0) + (List.getD (rowN a b bt cd) (i + 1) 0)))))), (9, .int (nI (mk ||| 2 ^ (List.getD (rowN a b bt cd) (i + 1) 0)))), (14, .int 0), (16, .int (nI (List.getD (rowN a b bt cd) (i + 1) 0))), (8, .int (nI cd)), (7, .int (nI (5 ^ bt))), (6, .int (nI bt)), (5, .int (nI (lstO rt uu))), (4, .int (nI (encO uu))), (0, .int (nI a)), (1, .int (nI b)), (2, .ref (ad 12)), (3, .ref (ad 14))] dL_best_230 7 rfl (by decide) rfl ?_
                                  refine x_goto F 101 dL_best_233 (by decide) ?_
                                  refine x_sub [0, 6, 1, 2, 4, 3, 5, 8, 9, 10, 11, 12, 13, 14, 15, 16] rfl ?_
                                  exact hF _ _ _ _ _ _ hnw
                              · rw [bit_0 (by omega) (by omega)] at h147
                                refine x_iload F dL_best_150 6 rfl ?_
                                refine x_iload F dL_best_152 0 rfl ?_
                                refine x_aload_n F dL_best_154 rfl 15 rfl ?_
                                refine x_aload_n F dL_best_155 rfl 16 rfl ?_
                                refine z_callSi F [.int (nI (List.getD qq i 0)), .int (nI (List.getD (rowN a b bt cd) (i + 1) 0)), .ref (ad 12), .ref (ad 14)] (c_L_shut l D cy lo R ad q ns nt I J hR (List.getD qq i 0) (List.getD (rowN a b bt cd) (i + 1) 0) (by omega) (by omega)) mc_L_shut ms_L_shut lk_L_11 rfl rfl dL_best_156 ⟨Nat.le_of_ble_eq_true rfl, Nat.le_of_ble_eq_true rfl⟩ ⟨Nat.le_of_ble_eq_true rfl, Nat.le_of_ble_eq_true rfl⟩ (Nat.le_of_ble_eq_true rfl) ?_
                                refine x_if_ne F 166 dL_best_159 (by decide) (fun h159 => ?_) (fun h159 => ?_)
                                · rw [kb1] at h159
                                  have hnw := vd_bad2 (by omega) hv9 rfl (hg.shut_ hat5 (by omega) h159)
                                  refine x_iconst F (v := 0) dL_best_166 (by decide) ?_
                                  refine x_istore F [(14, .int 0), (16, .int (nI (List.getD (rowN a b bt cd) (i + 1) 0))), (15, .int (nI i)), (13, .int (nI (byF bt i))), (12, .int (nI (enc qq))), (11, .int (nI (cst rt qq))), (10, .int (nI (List.getD qq i 0))), (9, .int (nI mk)), (8, .int (nI cd)), (7, .int (nI (5 ^ bt))), (6, .int (nI bt)), (5, .int (nI (lstO rt uu))), (4, .int (nI (encO uu))), (0, .int (nI a)), (1, .int (nI b)), (2, .ref (ad 12)), (3, .ref (ad 14))] dL_best_167 (by decide) rfl ?_
                                  refine x_iload F dL_best_169 7 rfl ?_
                                  refine x_iconst F (v := 1) dL_best_171 (by decide) ?_
                                  refine x_iload F dL_best_172 1 rfl ?_
                                  refine x_ishl F dL_best_174 ?_
                                  refine x_cast (y := nI (2 ^ (List.getD (rowN a b bt cd) (i + 1) 0))) (sh_1 (by omega)) ?_
                                  refine x_ior F dL_best_175 ?_
                                  refine x_cast (y := nI (mk ||| 2 ^ (List.getD (rowN a b bt cd) (i + 1) 0))) (or_n (by omega) (p2_lt (by omega))) ?_
                                  refine x_istore F [(9, .int (nI (mk ||| 2 ^ (List.getD (rowN a b bt cd) (i + 1) 0)))), (14, .int 0), (16, .int (nI (List.getD (rowN a b bt cd) (i + 1) 0))), (15, .int (nI i)), (13, .int (nI (byF bt i))), (12, .int (nI (enc qq))), (11, .int (nI (cst rt qq))), (10, .int (nI (List.getD qq i 0))), (8, .int (nI cd)), (7, .int (nI (5 ^ bt))), (6, .int (nI bt)), (5, .int (nI (lstO rt uu))), (4, .int (nI (encO uu))), (0, .int (nI a)), (1, .int (nI b)), (2, .ref (ad 12)), (3, .ref (ad 14))] dL_best_176 (by decide) rfl ?_
                                  refine x_iload F dL_best_178 6 rfl ?_
                                  refine x_aload_n F dL_best_180 rfl 15 rfl ?_
                                  refine x_iconst F (v := 2) dL_best_181 (by decide) ?_
                                  refine x_iconst F (v := 5) dL_best_182 (by decide) ?_
                                  refine x_iload F dL_best_183 7 rfl ?_
                                  refine x_imul F dL_best_185 ?_
                                  refine x_cast (y := nI (5 * (List.getD qq i 0))) (pk_mul 5 (List.getD qq i 0)) ?_
                                  refine x_iload F dL_best_186 2 rfl ?_
                                  refine x_iadd F dL_best_188 ?_
                                  refine x_cast (y := nI (5 * (List.getD qq i 0) + (List.getD (rowN a b bt cd) (i + 1) 0))) (nI_add (5 * (List.getD qq i 0)) (List.getD (rowN a b bt cd) (i + 1) 0)) ?_
                                  refine x_imul F dL_best_189 ?_
                                  refine x_cast (y := nI (2 * (5 * (List.getD qq i 0) + (List.getD (rowN a b bt cd) (i + 1) 0)))) (pk_mul 2 (5 * (List.getD qq i 0) + (List.getD (rowN a b bt cd) (i + 1) 0))) ?_
                                  refine y_iald F (hR 12 (by decide)) ss_12 (vp_in_nI (n := 2 * (5 * (List.getD qq i 0) + (List.getD (rowN a b bt cd) (i + 1) 0))) (N := 50) (by omega) (by decide)) dL_best_190 ?_
                                  refine x_cast (y := I 12 (2 * (5 * (List.getD qq i 0) + (List.getD (rowN a b bt cd) (i + 1) 0)))) (by rw [nI_clamp (by omega)]) ?_
                                  refine x_iadd F dL_best_191 ?_
                                  refine x_istore F [(11, .int ((nI (cst rt qq)) + (I 12 (2 * (5 * (List.getD qq i 0) + (List.getD (rowN a b bt cd) (i + 1) 0)))))), (9, .int (nI (mk ||| 2 ^ (List.getD (rowN a b bt cd) (i + 1) 0)))), (14, .int 0), (16, .int (nI (List.getD (rowN a b bt cd) (i + 1) 0))), (15, .int (nI i)), (13, .int (nI (byF bt i))), (12, .int (nI (enc qq))), (10, .int (nI (List.getD qq i 0))), (8, .int (nI cd)), (7, .int (nI (5 ^ bt))), (6, .int (nI bt)), (5, .int (nI (lstO rt uu))), (4, .int (nI (encO uu))), (0, .int (nI a)), (1, .int (nI b)), (2, .ref (ad 12)), (3, .ref (ad 14))] dL_best_192 (by decide) rfl ?_
                                  refine x_iload F dL_best_194 3 rfl ?_
                                  refine x_istore F [(10, .int (nI (List.getD (rowN a b bt cd) (i + 1) 0))), (11, .int ((nI (cst rt qq)) + (I 12 (2 * (5 * (List.getD qq i 0) + (List.getD (rowN a b bt cd) (i + 1) 0)))))), (9, .int (nI (mk ||| 2 ^ (List.getD (rowN a b bt cd) (i + 1) 0)))), (14, .int 0), (16, .int (nI (List.getD (rowN a b bt cd) (i + 1) 0))), (15, .int (nI i)), (13, .int (nI (byF bt i))), (12, .int (nI (enc qq))), (8, .int (nI cd)), (7, .int (nI (5 ^ bt))), (6, .int (nI bt)), (5, .int (nI (lstO rt uu))), (4, .int (nI (encO uu))), (0, .int (nI a)), (1, .int (nI b)), (2, .ref (ad 12)), (3, .ref (ad 14))] dL_best_196 (by decide) rfl ?_
                                  refine x_iload F dL_best_198 7 rfl ?_
                                  refine x_iload F dL_best_200 4 rfl ?_
                                  refine x_iconst F (v := 1) dL_best_202 (by decide) ?_
                                  refine x_iadd F dL_best_203 ?_
                                  refine x_cast (y := nI (List.getD (rowN a b bt cd) (i + 1) 0 + 1)) (nI_add (List.getD (rowN a b bt cd) (i + 1) 0) 1) ?_
                                  refine x_iconst F (v := 3) dL_best_204 (by decide) ?_
                                  refine x_iload F dL_best_205 5 rfl ?_
                                  refine x_iconst F (v := 1) dL_best_207 (by decide) ?_
                                  refine x_iadd F dL_best_208 ?_
                                  refine x_cast (y := nI (i + 1)) (nI_add i 1) ?_
                                  refine x_imul F dL_best_209 ?_
                                  refine x_cast (y := nI (3 * (i + 1))) (pk_mul 3 (i + 1)) ?_
                                  refine x_ishl F dL_best_210 ?_
                                  refine x_ior F dL_best_211 ?_
                                  refine x_istore F [(12, .int ((nI (enc qq)) ||| ((nI (List.getD (rowN a b bt cd) (i + 1) 0 + 1)) <<< ((nI (3 * (i + 1))) &&& 31)))), (10, .int (nI (List.getD (rowN a b bt cd) (i + 1) 0))), (11, .int ((nI (cst rt qq)) + (I 12 (2 * (5 * (List.getD qq i 0) + (List.getD (rowN a b bt cd) (i + 1) 0)))))), (9, .int (nI (mk ||| 2 ^ (List.getD (rowN a b bt cd) (i + 1) 0)))), (14, .int 0), (16, .int (nI (List.getD (rowN a b bt cd) (i + 1) 0))), (15, .int (nI i)), (13, .int (nI (byF bt i))), (8, .int (nI cd)), (7, .int (nI (5 ^ bt))), (6, .int (nI bt)), (5, .int (nI (lstO rt uu))), (4, .int (nI (encO uu))), (0, .int (nI a)), (1, .int (nI b)), (2, .ref (ad 12)), (3, .ref (ad 14))] dL_best_212 (by decide) rfl ?_
                                  refine x_iload F dL_best_214 7 rfl ?_
                                  refine x_iconst F (v := 4) dL_best_216 (by decide) ?_
                                  refine x_icmp_le F 227 dL_best_217 (by decide) (fun h217 => ?_) (fun h217 => ?_)
                                  · replace h217 : (byF bt i) ≤ 4 := (nI_leI (a := byF bt i) (b := 4) (by omega) (by omega)).mp h217
                                    refine x_iconst F (v := 1) dL_best_227 (by decide) ?_
                                    refine x_istore F [(13, .int 1), (12, .int ((nI (enc qq)) ||| ((nI (List.getD (rowN a b bt cd) (i + 1) 0 + 1)) <<< ((nI (3 * (i + 1))) &&& 31)))), (10, .int (nI (List.getD (rowN a b bt cd) (i + 1) 0))), (11, .int ((nI (cst rt qq)) + (I 12 (2 * (5 * (List.getD qq i 0) + (List.getD (rowN a b bt cd) (i + 1) 0)))))), (9, .int (nI (mk ||| 2 ^ (List.getD (rowN a b bt cd) (i + 1) 0)))), (14, .int 0), (16, .int (nI (List.getD (rowN a b bt cd) (i + 1) 0))), (15, .int (nI i)), (8, .int (nI cd)), (7, .int (nI (5 ^ bt))), (6, .int (nI bt)), (5, .int (nI (lstO rt uu))), (4, .int (nI (encO uu))), (0, .int (nI a)), (1, .int (nI b)), (2, .ref (ad 12)), (3, .ref (ad 14))] dL_best_228 (by decide) rfl ?_
                                    refine x_iinc F [(15, .int ((nI i) + 1)), (13, .int 1), (12, .int ((nI (enc qq)) ||| ((nI (List.getD (rowN a b bt cd) (i + 1) 0 + 1)) <<< ((nI (3 * (i + 1))) &&& 31)))), (10, .int (nI (List.getD (rowN a b bt cd) (i + 1) 0))), (11, .int ((nI (cst rt qq)) + (I 12 (2 * (5 * (List.getD qq i 0) + (List.getD (rowN a b bt cd) (i + 1) 0)))))), (9, .int (nI (mk ||| 2 ^ (List.getD (rowN a b bt cd) (i + 1) 0)))), (14, .int 0), (16, .int (nI (List.getD (rowN a b bt cd) (i + 1) 0))), (8, .int (nI cd)), (7, .int (nI (5 ^ bt))), (6, .int (nI bt)), (5, .int (nI (lstO rt uu))), (4, .int (nI (encO uu))), (0, .int (nI a)), (1, .int (nI b)), (2, .ref (ad 12)), (3, .ref (ad 14))] dL_best_230 7 rfl (by decide) rfl ?_
                                    refine x_goto F 101 dL_best_233 (by decide) ?_
                                    refine x_sub [0, 6, 1, 2, 4, 3, 5, 8, 9, 10, 11, 12, 13, 14, 15, 16] rfl ?_
                                    exact hF _ _ _ _ _ _ hnw
                                  · replace h217 : ¬ (byF bt i) ≤ 4 := fun z => h217 ((nI_leI (a := byF bt i) (b := 4) (by omega) (by omega)).mpr z)
                                    refine x_iload F dL_best_220 7 rfl ?_
                                    refine x_iconst F (v := 5) dL_best_222 (by decide) ?_
                                    refine x_idiv F dL_best_223 (by decide) ?_
                                    refine x_goto F 228 dL_best_224 (by decide) ?_
                                    refine x_istore F [(13, .int ((nI (byF bt i)) / 5)), (12, .int ((nI (enc qq)) ||| ((nI (List.getD (rowN a b bt cd) (i + 1) 0 + 1)) <<< ((nI (3 * (i + 1))) &&& 31)))), (10, .int (nI (List.getD (rowN a b bt cd) (i + 1) 0))), (11, .int ((nI (cst rt qq)) + (I 12 (2 * (5 * (List.getD qq i 0) + (List.getD (rowN a b bt cd) (i + 1) 0)))))), (9, .int (nI (mk ||| 2 ^ (List.getD (rowN a b bt cd) (i + 1) 0)))), (14, .int 0), (16, .int (nI (List.getD (rowN a b bt cd) (i + 1) 0))), (15, .int (nI i)), (8, .int (nI cd)), (7, .int (nI (5 ^ bt))), (6, .int (nI bt)), (5, .int (nI (lstO rt uu))), (4, .int (nI (encO uu))), (0, .int (nI a)), (1, .int (nI b)), (2, .ref (ad 12)), (3, .ref (ad 14))] dL_best_228 (by decide) rfl ?_
                                    refine x_iinc F [(15, .int ((nI i) + 1)), (13, .int ((nI (byF bt i)) / 5)), (12, .int ((nI (enc qq)) ||| ((nI (List.getD (rowN a b bt cd) (i + 1) 0 + 1)) <<< ((nI (3 * (i + 1))) &&& 31)))), (10, .int (nI (List.getD (rowN a b bt cd) (i + 1) 0))), (11, .int ((nI (cst rt qq)) + (I 12 (2 * (5 * (List.getD qq i 0) + (List.getD (rowN a b bt cd) (i + 1) 0)))))), (9, .int (nI (mk ||| 2 ^ (List.getD (rowN a b bt cd) (i + 1) 0)))), (14, .int 0), (16, .int (nI (List.getD (rowN a b bt cd) (i + 1) 0))), (8, .int (nI cd)), (7, .int (nI (5 ^ bt))), (6, .int (nI bt)), (5, .int (nI (lstO rt uu))), (4, .int (nI (encO uu))), (0, .int (nI a)), (1, .int (nI b)), (2, .ref (ad 12)), (3, .ref (ad 14))] dL_best_230 7 rfl (by decide) rfl ?_
                                    refine x_goto F 101 dL_best_233 (by decide) ?_
                                    refine x_sub [0, 6, 1, 2, 4, 3, 5, 8, 9, 10, 11, 12, 13, 14, 15, 16] rfl ?_
                                    exact hF _ _ _ _ _ _ hnw
                                · rw [kb0] at h159
                                  refine x_iconst F (v := 1) dL_best_162 (by decide) ?_
                                  refine x_goto F 167 dL_best_163 (by decide) ?_
                                  refine x_istore F [(14, .int 1), (16, .int (nI (List.getD (rowN a b bt cd) (i + 1) 0))), (15, .int (nI i)), (13, .int (nI (byF bt i))), (12, .int (nI (enc qq))), (11, .int (nI (cst rt qq))), (10, .int (nI (List.getD qq i 0))), (9, .int (nI mk)), (8, .int (nI cd)), (7, .int (nI (5 ^ bt))), (6, .int (nI bt)), (5, .int (nI (lstO rt uu))), (4, .int (nI (encO uu))), (0, .int (nI a)), (1, .int (nI b)), (2, .ref (ad 12)), (3, .ref (ad 14))] dL_best_167 (by decide) rfl ?_
                                  refine x_iload F dL_best_169 7 rfl ?_
                                  refine x_iconst F (v := 1) dL_best_171 (by decide) ?_
                                  refine x_iload F dL_best_172 1 rfl ?_
                                  refine x_ishl F dL_best_174 ?_
                                  refine x_cast (y := nI (2 ^ (List.getD (rowN a b bt cd) (i + 1) 0))) (sh_1 (by omega)) ?_
                                  refine x_ior F dL_best_175 ?_
                                  refine x_cast (y := nI (mk ||| 2 ^ (List.getD (rowN a b bt cd) (i + 1) 0))) (or_n (by omega) (p2_lt (by omega))) ?_
                                  refine x_istore F [(9, .int (nI (mk ||| 2 ^ (List.getD (rowN a b bt cd) (i + 1) 0)))), (14, .int 1), (16, .int (nI (List.getD (rowN a b bt cd) (i + 1) 0))), (15, .int (nI i)), (13, .int (nI (byF bt i))), (12, .int (nI (enc qq))), (11, .int (nI (cst rt qq))), (10, .int (nI (List.getD qq i 0))), (8, .int (nI cd)), (7, .int (nI (5 ^ bt))), (6, .int (nI bt)), (5, .int (nI (lstO rt uu))), (4, .int (nI (encO uu))), (0, .int (nI a)), (1, .int (nI b)), (2, .ref (ad 12)), (3, .ref (ad 14))] dL_best_176 (by decide) rfl ?_
                                  refine x_iload F dL_best_178 6 rfl ?_
                                  refine x_aload_n F dL_best_180 rfl 15 rfl ?_
                                  refine x_iconst F (v := 2) dL_best_181 (by decide) ?_
                                  refine x_iconst F (v := 5) dL_best_182 (by decide) ?_
                                  refine x_iload F dL_best_183 7 rfl ?_
                                  refine x_imul F dL_best_185 ?_
                                  refine x_cast (y := nI (5 * (List.getD qq i 0))) (pk_mul 5 (List.getD qq i 0)) ?_
                                  refine x_iload F dL_best_186 2 rfl ?_
                                  refine x_iadd F dL_best_188 ?_
                                  refine x_cast (y := nI (5 * (List.getD qq i 0) + (List.getD (rowN a b bt cd) (i + 1) 0))) (nI_add (5 * (List.getD qq i 0)) (List.getD (rowN a b bt cd) (i + 1) 0)) ?_
                                  refine x_imul F dL_best_189 ?_
                                  refine x_cast (y := nI (2 * (5 * (List.getD qq i 0) + (List.getD (rowN a b bt cd) (i + 1) 0)))) (pk_mul 2 (5 * (List.getD qq i 0) + (List.getD (rowN a b bt cd) (i + 1) 0))) ?_
                                  refine y_iald F (hR 12 (by decide)) ss_12 (vp_in_nI (n := 2 * (5 * (List.getD qq i 0) + (List.getD (rowN a b bt cd) (i + 1) 0))) (N := 50) (by omega) (by decide)) dL_best_190 ?_
                                  refine x_cast (y := I 12 (2 * (5 * (List.getD qq i 0) + (List.getD (rowN a b bt cd) (i + 1) 0)))) (by rw [nI_clamp (by omega)]) ?_
                                  refine x_iadd F dL_best_191 ?_
                                  refine x_cast (y := nI (cst rt (qq ++ [List.getD (rowN a b bt cd) (i + 1) 0]))) (vd_cost (by omega) hv9 hg hat5 (by omega) (hg.open_ hat5 (by omega) h159)) ?_
                                  refine x_istore F [(11, .int (nI (cst rt (qq ++ [List.getD (rowN a b bt cd) (i + 1) 0])))), (9, .int (nI (mk ||| 2 ^ (List.getD (rowN a b bt cd) (i + 1) 0)))), (14, .int 1), (16, .int (nI (List.getD (rowN a b bt cd) (i + 1) 0))), (15, .int (nI i)), (13, .int (nI (byF bt i))), (12, .int (nI (enc qq))), (10, .int (nI (List.getD qq i 0))), (8, .int (nI cd)), (7, .int (nI (5 ^ bt))), (6, .int (nI bt)), (5, .int (nI (lstO rt uu))), (4, .int (nI (encO uu))), (0, .int (nI a)), (1, .int (nI b)), (2, .ref (ad 12)), (3, .ref (ad 14))] dL_best_192 (by decide) rfl ?_
                                  refine x_iload F dL_best_194 3 rfl ?_
                                  refine x_cast (y := nI (List.getD (qq ++ [List.getD (rowN a b bt cd) (i + 1) 0]) (i + 1) 0)) (by rw [getD_end hql]) ?_
                                  refine x_istore F [(10, .int (nI (List.getD (qq ++ [List.getD (rowN a b bt cd) (i + 1) 0]) (i + 1) 0))), (11, .int (nI (cst rt (qq ++ [List.getD (rowN a b bt cd) (i + 1) 0])))), (9, .int (nI (mk ||| 2 ^ (List.getD (rowN a b bt cd) (i + 1) 0)))), (14, .int 1), (16, .int (nI (List.getD (rowN a b bt cd) (i + 1) 0))), (15, .int (nI i)), (13, .int (nI (byF bt i))), (12, .int (nI (enc qq))), (8, .int (nI cd)), (7, .int (nI (5 ^ bt))), (6, .int (nI bt)), (5, .int (nI (lstO rt uu))), (4, .int (nI (encO uu))), (0, .int (nI a)), (1, .int (nI b)), (2, .ref (ad 12)), (3, .ref (ad 14))] dL_best_196 (by decide) rfl ?_
                                  refine x_iload F dL_best_198 7 rfl ?_
                                  refine x_iload F dL_best_200 4 rfl ?_
                                  refine x_iconst F (v := 1) dL_best_202 (by decide) ?_
                                  refine x_iadd F dL_best_203 ?_
                                  refine x_cast (y := nI (List.getD (rowN a b bt cd) (i + 1) 0 + 1)) (nI_add (List.getD (rowN a b bt cd) (i + 1) 0) 1) ?_
                                  refine x_iconst F (v := 3) dL_best_204 (by decide) ?_
                                  refine x_iload F dL_best_205 5 rfl ?_
                                  refine x_iconst F (v := 1) dL_best_207 (by decide) ?_
                                  refine x_iadd F dL_best_208 ?_
                                  refine x_cast (y := nI (i + 1)) (nI_add i 1) ?_
                                  refine x_imul F dL_best_209 ?_
                                  refine x_cast (y := nI (3 * (i + 1))) (pk_mul 3 (i + 1)) ?_
                                  refine x_ishl F dL_best_210 ?_
                                  refine x_ior F dL_best_211 ?_
                                  refine x_cast (y := nI (enc (qq ++ [List.getD (rowN a b bt cd) (i + 1) 0]))) (enc_or hq5 hql (by omega) (by omega)) ?_
                                  refine x_istore F [(12, .int (nI (enc (qq ++ [List.getD (rowN a b bt cd) (i + 1) 0])))), (10, .int (nI (List.getD (qq ++ [List.getD (rowN a b bt cd) (i + 1) 0]) (i + 1) 0))), (11, .int (nI (cst rt (qq ++ [List.getD (rowN a b bt cd) (i + 1) 0])))), (9, .int (nI (mk ||| 2 ^ (List.getD (rowN a b bt cd) (i + 1) 0)))), (14, .int 1), (16, .int (nI (List.getD (rowN a b bt cd) (i + 1) 0))), (15, .int (nI i)), (13, .int (nI (byF bt i))), (8, .int (nI cd)), (7, .int (nI (5 ^ bt))), (6, .int (nI bt)), (5, .int (nI (lstO rt uu))), (4, .int (nI (encO uu))), (0, .int (nI a)), (1, .int (nI b)), (2, .ref (ad 12)), (3, .ref (ad 14))] dL_best_212 (by decide) rfl ?_
                                  refine x_iload F dL_best_214 7 rfl ?_
                                  refine x_iconst F (v := 4) dL_best_216 (by decide) ?_
                                  refine x_icmp_le F 227 dL_best_217 (by decide) (fun h217 => ?_) (fun h217 => ?_)
                                  · replace h217 : (byF bt i) ≤ 4 := (nI_leI (a := byF bt i) (b := 4) (by omega) (by omega)).mp h217
                                    refine x_iconst F (v := 1) dL_best_227 (by decide) ?_
                                    refine x_cast (y := nI (byF bt (i + 1))) (by rw [← byF_s hb4 (by omega), if_neg (by omega)]; rfl) ?_
                                    refine x_istore F [(13, .int (nI (byF bt (i + 1)))), (12, .int (nI (enc (qq ++ [List.getD (rowN a b bt cd) (i + 1) 0])))), (10, .int (nI (List.getD (qq ++ [List.getD (rowN a b bt cd) (i + 1) 0]) (i + 1) 0))), (11, .int (nI (cst rt (qq ++ [List.getD (rowN a b bt cd) (i + 1) 0])))), (9, .int (nI (mk ||| 2 ^ (List.getD (rowN a b bt cd) (i + 1) 0)))), (14, .int 1), (16, .int (nI (List.getD (rowN a b bt cd) (i + 1) 0))), (15, .int (nI i)), (8, .int (nI cd)), (7, .int (nI (5 ^ bt))), (6, .int (nI bt)), (5, .int (nI (lstO rt uu))), (4, .int (nI (encO uu))), (0, .int (nI a)), (1, .int (nI b)), (2, .ref (ad 12)), (3, .ref (ad 14))] dL_best_228 (by decide) rfl ?_
                                    refine x_iinc F [(15, .int ((nI i) + 1)), (13, .int (nI (byF bt (i + 1)))), (12, .int (nI (enc (qq ++ [List.getD (rowN a b bt cd) (i + 1) 0])))), (10, .int (nI (List.getD (qq ++ [List.getD (rowN a b bt cd) (i + 1) 0]) (i + 1) 0))), (11, .int (nI (cst rt (qq ++ [List.getD (rowN a b bt cd) (i + 1) 0])))), (9, .int (nI (mk ||| 2 ^ (List.getD (rowN a b bt cd) (i + 1) 0)))), (14, .int 1), (16, .int (nI (List.getD (rowN a b bt cd) (i + 1) 0))), (8, .int (nI cd)), (7, .int (nI (5 ^ bt))), (6, .int (nI bt)), (5, .int (nI (lstO rt uu))), (4, .int (nI (encO uu))), (0, .int (nI a)), (1, .int (nI b)), (2, .ref (ad 12)), (3, .ref (ad 14))] dL_best_230 7 rfl (by decide) rfl ?_
                                    refine x_goto F 101 dL_best_233 (by decide) ?_
                                    rw [nI_1]
                                    refine x_sub [0, 6, 1, 2, 4, 3, 5, 8, 9, 10, 11, 12, 13, 14, 15, 16] rfl ?_
                                    exact ih101 (i + 1) (qq ++ [List.getD (rowN a b bt cd) (i + 1) 0]) (mk ||| 2 ^ (List.getD (rowN a b bt cd) (i + 1) 0)) (by omega) (by omega) (vd_step (by omega) hv9 rfl (by omega) (hg.open_ hat5 (by omega) h159) (Or.inr h147))
                                  · replace h217 : ¬ (byF bt i) ≤ 4 := fun z => h217 ((nI_leI (a := byF bt i) (b := 4) (by omega) (by omega)).mpr z)
                                    refine x_iload F dL_best_220 7 rfl ?_
                                    refine x_iconst F (v := 5) dL_best_222 (by decide) ?_
                                    refine x_idiv F dL_best_223 (by decide) ?_
                                    refine x_cast (y := nI (byF bt (i + 1))) (by rw [show (5 : Int32) = nI 5 from rfl, pk_div (by omega) (by omega) (by omega), ← byF_s hb4 (by omega), if_pos (by omega)]) ?_
                                    refine x_goto F 228 dL_best_224 (by decide) ?_
                                    refine x_istore F [(13, .int (nI (byF bt (i + 1)))), (12, .int (nI (enc (qq ++ [List.getD (rowN a b bt cd) (i + 1) 0])))), (10, .int (nI (List.getD (qq ++ [List.getD (rowN a b bt cd) (i + 1) 0]) (i + 1) 0))), (11, .int (nI (cst rt (qq ++ [List.getD (rowN a b bt cd) (i + 1) 0])))), (9, .int (nI (mk ||| 2 ^ (List.getD (rowN a b bt cd) (i + 1) 0)))), (14, .int 1), (16, .int (nI (List.getD (rowN a b bt cd) (i + 1) 0))), (15, .int (nI i)), (8, .int (nI cd)), (7, .int (nI (5 ^ bt))), (6, .int (nI bt)), (5, .int (nI (lstO rt uu))), (4, .int (nI (encO uu))), (0, .int (nI a)), (1, .int (nI b)), (2, .ref (ad 12)), (3, .ref (ad 14))] dL_best_228 (by decide) rfl ?_
                                    refine x_iinc F [(15, .int ((nI i) + 1)), (13, .int (nI (byF bt (i + 1)))), (12, .int (nI (enc (qq ++ [List.getD (rowN a b bt cd) (i + 1) 0])))), (10, .int (nI (List.getD (qq ++ [List.getD (rowN a b bt cd) (i + 1) 0]) (i + 1) 0))), (11, .int (nI (cst rt (qq ++ [List.getD (rowN a b bt cd) (i + 1) 0])))), (9, .int (nI (mk ||| 2 ^ (List.getD (rowN a b bt cd) (i + 1) 0)))), (14, .int 1), (16, .int (nI (List.getD (rowN a b bt cd) (i + 1) 0))), (8, .int (nI cd)), (7, .int (nI (5 ^ bt))), (6, .int (nI bt)), (5, .int (nI (lstO rt uu))), (4, .int (nI (encO uu))), (0, .int (nI a)), (1, .int (nI b)), (2, .ref (ad 12)), (3, .ref (ad 14))] dL_best_230 7 rfl (by decide) rfl ?_
                                    refine x_goto F 101 dL_best_233 (by decide) ?_
                                    rw [nI_1]
                                    refine x_sub [0, 6, 1, 2, 4, 3, 5, 8, 9, 10, 11, 12, 13, 14, 15, 16] rfl ?_
                                    exact ih101 (i + 1) (qq ++ [List.getD (rowN a b bt cd) (i + 1) 0]) (mk ||| 2 ^ (List.getD (rowN a b bt cd) (i + 1) 0)) (by omega) (by omega) (vd_step (by omega) hv9 rfl (by omega) (hg.open_ hat5 (by omega) h159) (Or.inr h147))
                          · replace h117 : i = bt := (nI_eq (a := i) (b := bt) (by omega) (by omega)).mp h117
                            have hd9 : List.getD (rowN a b bt cd) (i + 1) 0 = b := by rw [h117]; exact row_last bt cd
                            refine x_iload_n F dL_best_120 rfl 13 rfl ?_
                            refine x_goto F 131 dL_best_121 (by decide) ?_
                            refine x_istore F [(16, .int (nI b)), (15, .int (nI i)), (14, .int 1), (13, .int (nI (byF bt i))), (12, .int (nI (enc qq))), (11, .int (nI (cst rt qq))), (10, .int (nI (List.getD qq i 0))), (9, .int (nI mk)), (8, .int (nI cd)), (7, .int (nI (5 ^ bt))), (6, .int (nI bt)), (5, .int (nI (lstO rt uu))), (4, .int (nI (encO uu))), (0, .int (nI a)), (1, .int (nI b)), (2, .ref (ad 12)), (3, .ref (ad 14))] dL_best_131 (by decide) rfl ?_
                            refine x_iload F dL_best_133 1 rfl ?_
                            refine x_iload F dL_best_135 10 rfl ?_
                            refine x_icmp_eq F 150 dL_best_137 (by decide) (fun h137 => ?_) (fun h137 => ?_)
                            · replace h137 : i = bt := (nI_eq (a := i) (b := bt) (by omega) (by omega)).mp h137
                              refine x_iload F dL_best_150 6 rfl ?_
                              refine x_iload F dL_best_152 0 rfl ?_
                              refine x_aload_n F dL_best_154 rfl 15 rfl ?_
                              refine x_aload_n F dL_best_155 rfl 16 rfl ?_
                              refine z_callSi F [.int (nI (List.getD qq i 0)), .int (nI b), .ref (ad 12), .ref (ad 14)] (c_L_shut l D cy lo R ad q ns nt I J hR (List.getD qq i 0) b (by omega) (by omega)) mc_L_shut ms_L_shut lk_L_11 rfl rfl dL_best_156 ⟨Nat.le_of_ble_eq_true rfl, Nat.le_of_ble_eq_true rfl⟩ ⟨Nat.le_of_ble_eq_true rfl, Nat.le_of_ble_eq_true rfl⟩ (Nat.le_of_ble_eq_true rfl) ?_
                              refine x_if_ne F 166 dL_best_159 (by decide) (fun h159 => ?_) (fun h159 => ?_)
                              · rw [kb1] at h159
                                have hnw := vd_bad2 (by omega) hv9 hd9 (hg.shut_ hat5 (by omega) h159)
                                refine x_iconst F (v := 0) dL_best_166 (by decide) ?_
                                refine x_istore F [(14, .int 0), (16, .int (nI b)), (15, .int (nI i)), (13, .int (nI (byF bt i))), (12, .int (nI (enc qq))), (11, .int (nI (cst rt qq))), (10, .int (nI (List.getD qq i 0))), (9, .int (nI mk)), (8, .int (nI cd)), (7, .int (nI (5 ^ bt))), (6, .int (nI bt)), (5, .int (nI (lstO rt uu))), (4, .int (nI (encO uu))), (0, .int (nI a)), (1, .int (nI b)), (2, .ref (ad 12)), (3, .ref (ad 14))] dL_best_167 (by decide) rfl ?_
                                refine x_iload F dL_best_169 7 rfl ?_
                                refine x_iconst F (v := 1) dL_best_171 (by decide) ?_
                                refine x_iload F dL_best_172 1 rfl ?_
                                refine x_ishl F dL_best_174 ?_
                                refine x_cast (y := nI (2 ^ b)) (sh_1 (by omega)) ?_
                                refine x_ior F dL_best_175 ?_
                                refine x_cast (y := nI (mk ||| 2 ^ b)) (or_n (by omega) (p2_lt (by omega))) ?_
                                refine x_istore F [(9, .int (nI (mk ||| 2 ^ b))), (14, .int 0), (16, .int (nI b)), (15, .int (nI i)), (13, .int (nI (byF bt i))), (12, .int (nI (enc qq))), (11, .int (nI (cst rt qq))), (10, .int (nI (List.getD qq i 0))), (8, .int (nI cd)), (7, .int (nI (5 ^ bt))), (6, .int (nI bt)), (5, .int (nI (lstO rt uu))), (4, .int (nI (encO uu))), (0, .int (nI a)), (1, .int (nI b)), (2, .ref (ad 12)), (3, .ref (ad 14))] dL_best_176 (by decide) rfl ?_
                                refine x_iload F dL_best_178 6 rfl ?_
                                refine x_aload_n F dL_best_180 rfl 15 rfl ?_
                                refine x_iconst F (v := 2) dL_best_181 (by decide) ?_
                                refine x_iconst F (v := 5) dL_best_182 (by decide) ?_
                                refine x_iload F dL_best_183 7 rfl ?_
                                refine x_imul F dL_best_185 ?_
                                refine x_cast (y := nI (5 * (List.getD qq i 0))) (pk_mul 5 (List.getD qq i 0)) ?_
                                refine x_iload F dL_best_186 2 rfl ?_
                                refine x_iadd F dL_best_188 ?_
                                refine x_cast (y := nI (5 * (List.getD qq i 0) + b)) (nI_add (5 * (List.getD qq i 0)) b) ?_
                                refine x_imul F dL_best_189 ?_
                                refine x_cast (y := nI (2 * (5 * (List.getD qq i 0) + b))) (pk_mul 2 (5 * (List.getD qq i 0) + b)) ?_
                                refine y_iald F (hR 12 (by decide)) ss_12 (vp_in_nI (n := 2 * (5 * (List.getD qq i 0) + b)) (N := 50) (by omega) (by decide)) dL_best_190 ?_
                                refine x_cast (y := I 12 (2 * (5 * (List.getD qq i 0) + b))) (by rw [nI_clamp (by omega)]) ?_
                                refine x_iadd F dL_best_191 ?_
                                refine x_istore F [(11, .int ((nI (cst rt qq)) + (I 12 (2 * (5 * (List.getD qq i 0) + b))))), (9, .int (nI (mk ||| 2 ^ b))), (14, .int 0), (16, .int (nI b)), (15, .int (nI i)), (13, .int (nI (byF bt i))), (12, .int (nI (enc qq))), (10, .int (nI (List.getD qq i 0))), (8, .int (nI cd)), (7, .int (nI (5 ^ bt))), (6, .int (nI bt)), (5, .int (nI (lstO rt uu))), (4, .int (nI (encO uu))), (0, .int (nI a)), (1, .int (nI b)), (2, .ref (ad 12)), (3, .ref (ad 14))] dL_best_192 (by decide) rfl ?_
                                refine x_iload F dL_best_194 3 rfl ?_
                                refine x_istore F [(10, .int (nI b)), (11, .int ((nI (cst rt qq)) + (I 12 (2 * (5 * (List.getD qq i 0) + b))))), (9, .int (nI (mk ||| 2 ^ b))), (14, .int 0), (16, .int (nI b)), (15, .int (nI i)), (13, .int (nI (byF bt i))), (12, .int (nI (enc qq))), (8, .int (nI cd)), (7, .int (nI (5 ^ bt))), (6, .int (nI bt)), (5, .int (nI (lstO rt uu))), (4, .int (nI (encO uu))), (0, .int (nI a)), (1, .int (nI b)), (2, .ref (ad 12)), (3, .ref (ad 14))] dL_best_196 (by decide) rfl ?_
                                refine x_iload F dL_best_198 7 rfl ?_
                                refine x_iload F dL_best_200 4 rfl ?_
                                refine x_iconst F (v := 1) dL_best_202 (by decide) ?_
                                refine x_iadd F dL_best_203 ?_
                                refine x_cast (y := nI (b + 1)) (nI_add b 1) ?_
                                refine x_iconst F (v := 3) dL_best_204 (by decide) ?_
                                refine x_iload F dL_best_205 5 rfl ?_
                                refine x_iconst F (v := 1) dL_best_207 (by decide) ?_
                                refine x_iadd F dL_best_208 ?_
                                refine x_cast (y := nI (i + 1)) (nI_add i 1) ?_
                                refine x_imul F dL_best_209 ?_
                                refine x_cast (y := nI (3 * (i + 1))) (pk_mul 3 (i + 1)) ?_
                                refine x_ishl F dL_best_210 ?_
                                refine x_ior F dL_best_211 ?_
                                refine x_istore F [(12, .int ((nI (enc qq)) ||| ((nI (b + 1)) <<< ((nI (3 * (i + 1))) &&& 31)))), (10, .int (nI b)), (11, .int ((nI (cst rt qq)) + (I 12 (2 * (5 * (List.getD qq i 0) + b))))), (9, .int (nI (mk ||| 2 ^ b))), (14, .int 0), (16, .int (nI b)), (15, .int (nI i)), (13, .int (nI (byF bt i))), (8, .int (nI cd)), (7, .int (nI (5 ^ bt))), (6, .int (nI bt)), (5, .int (nI (lstO rt uu))), (4, .int (nI (encO uu))), (0, .int (nI a)), (1, .int (nI b)), (2, .ref (ad 12)), (3, .ref (ad 14))] dL_best_212 (by decide) rfl ?_
                                refine x_iload F dL_best_214 7 rfl ?_
                                refine x_iconst F (v := 4) dL_best_216 (by decide) ?_
                                refine x_icmp_le F 227 dL_best_217 (by decide) (fun h217 => ?_) (fun h217 => ?_)
                                · replace h217 : (byF bt i) ≤ 4 := (nI_leI (a := byF bt i) (b := 4) (by omega) (by omega)).mp h217
                                  refine x_iconst F (v := 1) dL_best_227 (by decide) ?_
                                  refine x_istore F [(13, .int 1), (12, .int ((nI (enc qq)) ||| ((nI (b + 1)) <<< ((nI (3 * (i + 1))) &&& 31)))), (10, .int (nI b)), (11, .int ((nI (cst rt qq)) + (I 12 (2 * (5 * (List.getD qq i 0) + b))))), (9, .int (nI (mk ||| 2 ^ b))), (14, .int 0), (16, .int (nI b)), (15, .int (nI i)), (8, .int (nI cd)), (7, .int (nI (5 ^ bt))), (6, .int (nI bt)), (5, .int (nI (lstO rt uu))), (4, .int (nI (encO uu))), (0, .int (nI a)), (1, .int (nI b)), (2, .ref (ad 12)), (3, .ref (ad 14))] dL_best_228 (by decide) rfl ?_
                                  refine x_iinc F [(15, .int ((nI i) + 1)), (13, .int 1), (12, .int ((nI (enc qq)) ||| ((nI (b + 1)) <<< ((nI (3 * (i + 1))) &&& 31)))), (10, .int (nI b)), (11, .int ((nI (cst rt qq)) + (I 12 (2 * (5 * (List.getD qq i 0) + b))))), (9, .int (nI (mk ||| 2 ^ b))), (14, .int 0), (16, .int (nI b)), (8, .int (nI cd)), (7, .int (nI (5 ^ bt))), (6, .int (nI bt)), (5, .int (nI (lstO rt uu))), (4, .int (nI (encO uu))), (0, .int (nI a)), (1, .int (nI b)), (2, .ref (ad 12)), (3, .ref (ad 14))] dL_best_230 7 rfl (by decide) rfl ?_
                                  refine x_goto F 101 dL_best_233 (by decide) ?_
                                  refine x_sub [0, 6, 1, 2, 4, 3, 5, 8, 9, 10, 11, 12, 13, 14, 15, 16] rfl ?_
                                  exact hF _ _ _ _ _ _ hnw
                                · replace h217 : ¬ (byF bt i) ≤ 4 := fun z => h217 ((nI_leI (a := byF bt i) (b := 4) (by omega) (by omega)).mpr z)
                                  refine x_iload F dL_best_220 7 rfl ?_
                                  refine x_iconst F (v := 5) dL_best_222 (by decide) ?_
                                  refine x_idiv F dL_best_223 (by decide) ?_
                                  refine x_goto F 228 dL_best_224 (by decide) ?_
                                  refine x_istore F [(13, .int ((nI (byF bt i)) / 5)), (12, .int ((nI (enc qq)) ||| ((nI (b + 1)) <<< ((nI (3 * (i + 1))) &&& 31)))), (10, .int (nI b)), (11, .int ((nI (cst rt qq)) + (I 12 (2 * (5 * (List.getD qq i 0) + b))))), (9, .int (nI (mk ||| 2 ^ b))), (14, .int 0), (16, .int (nI b)), (15, .int (nI i)), (8, .int (nI cd)), (7, .int (nI (5 ^ bt))), (6, .int (nI bt)), (5, .int (nI (lstO rt uu))), (4, .int (nI (encO uu))), (0, .int (nI a)), (1, .int (nI b)), (2, .ref (ad 12)), (3, .ref (ad 14))] dL_best_228 (by decide) rfl ?_
                                  refine x_iinc F [(15, .int ((nI i) + 1)), (13, .int ((nI (byF bt i)) / 5)), (12, .int ((nI (enc qq)) ||| ((nI (b + 1)) <<< ((nI (3 * (i + 1))) &&& 31)))), (10, .int (nI b)), (11, .int ((nI (cst rt qq)) + (I 12 (2 * (5 * (List.getD qq i 0) + b))))), (9, .int (nI (mk ||| 2 ^ b))), (14, .int 0), (16, .int (nI b)), (8, .int (nI cd)), (7, .int (nI (5 ^ bt))), (6, .int (nI bt)), (5, .int (nI (lstO rt uu))), (4, .int (nI (encO uu))), (0, .int (nI a)), (1, .int (nI b)), (2, .ref (ad 12)), (3, .ref (ad 14))] dL_best_230 7 rfl (by decide) rfl ?_
                                  refine x_goto F 101 dL_best_233 (by decide) ?_
                                  refine x_sub [0, 6, 1, 2, 4, 3, 5, 8, 9, 10, 11, 12, 13, 14, 15, 16] rfl ?_
                                  exact hF _ _ _ _ _ _ hnw
                              · rw [kb0] at h159
                                refine x_iconst F (v := 1) dL_best_162 (by decide) ?_
                                refine x_goto F 167 dL_best_163 (by decide) ?_
                                refine x_istore F [(14, .int 1), (16, .int (nI b)), (15, .int (nI i)), (13, .int (nI (byF bt i))), (12, .int (nI (enc qq))), (11, .int (nI (cst rt qq))), (10, .int (nI (List.getD qq i 0))), (9, .int (nI mk)), (8, .int (nI cd)), (7, .int (nI (5 ^ bt))), (6, .int (nI bt)), (5, .int (nI (lstO rt uu))), (4, .int (nI (encO uu))), (0, .int (nI a)), (1, .int (nI b)), (2, .ref (ad 12)), (3, .ref (ad 14))] dL_best_167 (by decide) rfl ?_
                                refine x_iload F dL_best_169 7 rfl ?_
                                refine x_iconst F (v := 1) dL_best_171 (by decide) ?_
                                refine x_iload F dL_best_172 1 rfl ?_
                                refine x_ishl F dL_best_174 ?_
                                refine x_cast (y := nI (2 ^ b)) (sh_1 (by omega)) ?_
                                refine x_ior F dL_best_175 ?_
                                refine x_cast (y := nI (mk ||| 2 ^ b)) (or_n (by omega) (p2_lt (by omega))) ?_
                                refine x_istore F [(9, .int (nI (mk ||| 2 ^ b))), (14, .int 1), (16, .int (nI b)), (15, .int (nI i)), (13, .int (nI (byF bt i))), (12, .int (nI (enc qq))), (11, .int (nI (cst rt qq))), (10, .int (nI (List.getD qq i 0))), (8, .int (nI cd)), (7, .int (nI (5 ^ bt))), (6, .int (nI bt)), (5, .int (nI (lstO rt uu))), (4, .int (nI (encO uu))), (0, .int (nI a)), (1, .int (nI b)), (2, .ref (ad 12)), (3, .ref (ad 14))] dL_best_176 (by decide) rfl ?_
                                refine x_iload F dL_best_178 6 rfl ?_
                                refine x_aload_n F dL_best_180 rfl 15 rfl ?_
                                refine x_iconst F (v := 2) dL_best_181 (by decide) ?_
                                refine x_iconst F (v := 5) dL_best_182 (by decide) ?_
                                refine x_iload F dL_best_183 7 rfl ?_
                                refine x_imul F dL_best_185 ?_
                                refine x_cast (y := nI (5 * (List.getD qq i 0))) (pk_mul 5 (List.getD qq i 0)) ?_
                                refine x_iload F dL_best_186 2 rfl ?_
                                refine x_iadd F dL_best_188 ?_
                                refine x_cast (y := nI (5 * (List.getD qq i 0) + b)) (nI_add (5 * (List.getD qq i 0)) b) ?_
                                refine x_imul F dL_best_189 ?_
                                refine x_cast (y := nI (2 * (5 * (List.getD qq i 0) + b))) (pk_mul 2 (5 * (List.getD qq i 0) + b)) ?_
                                refine y_iald F (hR 12 (by decide)) ss_12 (vp_in_nI (n := 2 * (5 * (List.getD qq i 0) + b)) (N := 50) (by omega) (by decide)) dL_best_190 ?_
                                refine x_cast (y := I 12 (2 * (5 * (List.getD qq i 0) + b))) (by rw [nI_clamp (by omega)]) ?_
                                refine x_iadd F dL_best_191 ?_
                                refine x_cast (y := nI (cst rt (qq ++ [b]))) (vd_cost (by omega) hv9 hg hat5 (by omega) (hg.open_ hat5 (by omega) h159)) ?_
                                refine x_istore F [(11, .int (nI (cst rt (qq ++ [b])))), (9, .int (nI (mk ||| 2 ^ b))), (14, .int 1), (16, .int (nI b)), (15, .int (nI i)), (13, .int (nI (byF bt i))), (12, .int (nI (enc qq))), (10, .int (nI (List.getD qq i 0))), (8, .int (nI cd)), (7, .int (nI (5 ^ bt))), (6, .int (nI bt)), (5, .int (nI (lstO rt uu))), (4, .int (nI (encO uu))), (0, .int (nI a)), (1, .int (nI b)), (2, .ref (ad 12)), (3, .ref (ad 14))] dL_best_192 (by decide) rfl ?_
                                refine x_iload F dL_best_194 3 rfl ?_
                                refine x_cast (y := nI (List.getD (qq ++ [b]) (i + 1) 0)) (by rw [getD_end hql]) ?_
                                refine x_istore F [(10, .int (nI (List.getD (qq ++ [b]) (i + 1) 0))), (11, .int (nI (cst rt (qq ++ [b])))), (9, .int (nI (mk ||| 2 ^ b))), (14, .int 1), (16, .int (nI b)), (15, .int (nI i)), (13, .int (nI (byF bt i))), (12, .int (nI (enc qq))), (8, .int (nI cd)), (7, .int (nI (5 ^ bt))), (6, .int (nI bt)), (5, .int (nI (lstO rt uu))), (4, .int (nI (encO uu))), (0, .int (nI a)), (1, .int (nI b)), (2, .ref (ad 12)), (3, .ref (ad 14))] dL_best_196 (by decide) rfl ?_
                                refine x_iload F dL_best_198 7 rfl ?_
                                refine x_iload F dL_best_200 4 rfl ?_
                                refine x_iconst F (v := 1) dL_best_202 (by decide) ?_
                                refine x_iadd F dL_best_203 ?_
                                refine x_cast (y := nI (b + 1)) (nI_add b 1) ?_
                                refine x_iconst F (v := 3) dL_best_204 (by decide) ?_
                                refine x_iload F dL_best_205 5 rfl ?_
                                refine x_iconst F (v := 1) dL_best_207 (by decide) ?_
                                refine x_iadd F dL_best_208 ?_
                                refine x_cast (y := nI (i + 1)) (nI_add i 1) ?_
                                refine x_imul F dL_best_209 ?_
                                refine x_cast (y := nI (3 * (i + 1))) (pk_mul 3 (i + 1)) ?_
                                refine x_ishl F dL_best_210 ?_
                                refine x_ior F dL_best_211 ?_
                                refine x_cast (y := nI (enc (qq ++ [b]))) (enc_or hq5 hql (by omega) (by omega)) ?_
                                refine x_istore F [(12, .int (nI (enc (qq ++ [b])))), (10, .int (nI (List.getD (qq ++ [b]) (i + 1) 0))), (11, .int (nI (cst rt (qq ++ [b])))), (9, .int (nI (mk ||| 2 ^ b))), (14, .int 1), (16, .int (nI b)), (15, .int (nI i)), (13, .int (nI (byF bt i))), (8, .int (nI cd)), (7, .int (nI (5 ^ bt))), (6, .int (nI bt)), (5, .int (nI (lstO rt uu))), (4, .int (nI (encO uu))), (0, .int (nI a)), (1, .int (nI b)), (2, .ref (ad 12)), (3, .ref (ad 14))] dL_best_212 (by decide) rfl ?_
                                refine x_iload F dL_best_214 7 rfl ?_
                                refine x_iconst F (v := 4) dL_best_216 (by decide) ?_
                                refine x_icmp_le F 227 dL_best_217 (by decide) (fun h217 => ?_) (fun h217 => ?_)
                                · replace h217 : (byF bt i) ≤ 4 := (nI_leI (a := byF bt i) (b := 4) (by omega) (by omega)).mp h217
                                  refine x_iconst F (v := 1) dL_best_227 (by decide) ?_
                                  refine x_cast (y := nI (byF bt (i + 1))) (by rw [← byF_s hb4 (by omega), if_neg (by omega)]; rfl) ?_
                                  refine x_istore F [(13, .int (nI (byF bt (i + 1)))), (12, .int (nI (enc (qq ++ [b])))), (10, .int (nI (List.getD (qq ++ [b]) (i + 1) 0))), (11, .int (nI (cst rt (qq ++ [b])))), (9, .int (nI (mk ||| 2 ^ b))), (14, .int 1), (16, .int (nI b)), (15, .int (nI i)), (8, .int (nI cd)), (7, .int (nI (5 ^ bt))), (6, .int (nI bt)), (5, .int (nI (lstO rt uu))), (4, .int (nI (encO uu))), (0, .int (nI a)), (1, .int (nI b)), (2, .ref (ad 12)), (3, .ref (ad 14))] dL_best_228 (by decide) rfl ?_
                                  refine x_iinc F [(15, .int ((nI i) + 1)), (13, .int (nI (byF bt (i + 1)))), (12, .int (nI (enc (qq ++ [b])))), (10, .int (nI (List.getD (qq ++ [b]) (i + 1) 0))), (11, .int (nI (cst rt (qq ++ [b])))), (9, .int (nI (mk ||| 2 ^ b))), (14, .int 1), (16, .int (nI b)), (8, .int (nI cd)), (7, .int (nI (5 ^ bt))), (6, .int (nI bt)), (5, .int (nI (lstO rt uu))), (4, .int (nI (encO uu))), (0, .int (nI a)), (1, .int (nI b)), (2, .ref (ad 12)), (3, .ref (ad 14))] dL_best_230 7 rfl (by decide) rfl ?_
                                  refine x_goto F 101 dL_best_233 (by decide) ?_
                                  rw [nI_1]
                                  refine x_sub [0, 6, 1, 2, 4, 3, 5, 8, 9, 10, 11, 12, 13, 14, 15, 16] rfl ?_
                                  exact ih101 (i + 1) (qq ++ [b]) (mk ||| 2 ^ b) (by omega) (by omega) (vd_step (by omega) hv9 hd9 (by omega) (hg.open_ hat5 (by omega) h159) (Or.inl h117))
                                · replace h217 : ¬ (byF bt i) ≤ 4 := fun z => h217 ((nI_leI (a := byF bt i) (b := 4) (by omega) (by omega)).mpr z)
                                  refine x_iload F dL_best_220 7 rfl ?_
                                  refine x_iconst F (v := 5) dL_best_222 (by decide) ?_
                                  refine x_idiv F dL_best_223 (by decide) ?_
                                  refine x_cast (y := nI (byF bt (i + 1))) (by rw [show (5 : Int32) = nI 5 from rfl, pk_div (by omega) (by omega) (by omega), ← byF_s hb4 (by omega), if_pos (by omega)]) ?_
                                  refine x_goto F 228 dL_best_224 (by decide) ?_
                                  refine x_istore F [(13, .int (nI (byF bt (i + 1)))), (12, .int (nI (enc (qq ++ [b])))), (10, .int (nI (List.getD (qq ++ [b]) (i + 1) 0))), (11, .int (nI (cst rt (qq ++ [b])))), (9, .int (nI (mk ||| 2 ^ b))), (14, .int 1), (16, .int (nI b)), (15, .int (nI i)), (8, .int (nI cd)), (7, .int (nI (5 ^ bt))), (6, .int (nI bt)), (5, .int (nI (lstO rt uu))), (4, .int (nI (encO uu))), (0, .int (nI a)), (1, .int (nI b)), (2, .ref (ad 12)), (3, .ref (ad 14))] dL_best_228 (by decide) rfl ?_
                                  refine x_iinc F [(15, .int ((nI i) + 1)), (13, .int (nI (byF bt (i + 1)))), (12, .int (nI (enc (qq ++ [b])))), (10, .int (nI (List.getD (qq ++ [b]) (i + 1) 0))), (11, .int (nI (cst rt (qq ++ [b])))), (9, .int (nI (mk ||| 2 ^ b))), (14, .int 1), (16, .int (nI b)), (8, .int (nI cd)), (7, .int (nI (5 ^ bt))), (6, .int (nI bt)), (5, .int (nI (lstO rt uu))), (4, .int (nI (encO uu))), (0, .int (nI a)), (1, .int (nI b)), (2, .ref (ad 12)), (3, .ref (ad 14))] dL_best_230 7 rfl (by decide) rfl ?_
                                  refine x_goto F 101 dL_best_233 (by decide) ?_
                                  rw [nI_1]
                                  refine x_sub [0, 6, 1, 2, 4, 3, 5, 8, 9, 10, 11, 12, 13, 14, 15, 16] rfl ?_
                                  exact ih101 (i + 1) (qq ++ [b]) (mk ||| 2 ^ b) (by omega) (by omega) (vd_step (by omega) hv9 hd9 (by omega) (hg.open_ hat5 (by omega) h159) (Or.inl h117))
                            · exact (h137 (by rw [h117])).elim
                  exact lp101 (bt + 3) 0 [a] (2 ^ a ||| 2 ^ b) (by omega) (by omega) (vd_0 ha hb h9)
            exact lp62 (5 ^ bt + 1) 0 u (by omega) (by omega) hs
          refine x_iload F dL_best_25 0 rfl ?_
          refine x_if_ne F 34 dL_best_27 (by decide) (fun h27 => ?_) (fun h27 => ?_)
          · replace h27 : ¬ bt = 0 := fun z => h27 ((nI_eq (a := bt) (b := 0) (by omega) (by omega)).mpr z)
            refine x_iload F dL_best_34 0 rfl ?_
            refine x_iconst F (v := 1) dL_best_36 (by decide) ?_
            refine x_icmp_ne F 44 dL_best_37 (by decide) (fun h37 => ?_) (fun h37 => ?_)
            · replace h37 : ¬ bt = 1 := fun z => h37 ((nI_eq (a := bt) (b := 1) (by omega) (by omega)).mpr z)
              refine x_iload F dL_best_44 0 rfl ?_
              refine x_iconst F (v := 2) dL_best_46 (by decide) ?_
              refine x_icmp_ne F 55 dL_best_47 (by decide) (fun h47 => ?_) (fun h47 => ?_)
              · replace h47 : ¬ bt = 2 := fun z => h47 ((nI_eq (a := bt) (b := 2) (by omega) (by omega)).mpr z)
                refine x_bipush F (v := 125) dL_best_55 (by decide) ?_
                refine x_cast (y := nI (5 ^ bt)) (by rw [show bt = 3 by omega]; decide) ?_
                exact j57
              · replace h47 : bt = 2 := (nI_eq (a := bt) (b := 2) (by omega) (by omega)).mp h47
                refine x_bipush F (v := 25) dL_best_50 (by decide) ?_
                refine x_goto F 57 dL_best_52 (by decide) ?_
                refine x_cast (y := nI (5 ^ bt)) (by rw [show bt = 2 by omega]; decide) ?_
                exact j57
            · replace h37 : bt = 1 := (nI_eq (a := bt) (b := 1) (by omega) (by omega)).mp h37
              refine x_iconst F (v := 5) dL_best_40 (by decide) ?_
              refine x_goto F 57 dL_best_41 (by decide) ?_
              refine x_cast (y := nI (5 ^ bt)) (by rw [show bt = 1 by omega]; decide) ?_
              exact j57
          · replace h27 : bt = 0 := (nI_eq (a := bt) (b := 0) (by omega) (by omega)).mp h27
            refine x_iconst F (v := 1) dL_best_30 (by decide) ?_
            refine x_goto F 57 dL_best_31 (by decide) ?_
            refine x_cast (y := nI (5 ^ bt)) (by rw [show bt = 0 by omega]; decide) ?_
            exact j57
    exact lp19 5 0 none (by omega) (by omega) (sn_0 h9)
  · replace h9 : a = b := (nI_eq (a := a) (b := b) (by omega) (by omega)).mp h9
    refine x_iload_n F dL_best_12 rfl 2 rfl ?_
    refine x_iconst F (v := 1) dL_best_13 (by decide) ?_
    refine x_iadd F dL_best_14 ?_
    refine x_cast (y := nI (a + 1)) (nI_add a 1) ?_
    rw [hQ]
    exact x_iret F hr hlk ⟨by rw [best_eq ha h9 hv], rfl⟩ dL_best_15
