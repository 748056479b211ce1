set_option maxHeartbeats 4000000 in
set_option maxRecDepth 100000 in
/-- Talk's maker -/
theorem c_X3_init (l : Launch) (D : va_G) (cy : Nat → ClassId) (lo : Nat) (R : List Nat) (ad : Nat → Nat) (w : Nat → va_E) (t s0 s1 : Nat) (a b : Int32) (hm : t ∈ R) (hn1 : t + 1 ∉ R) (hn2 : t + 1 + 1 ∉ R) (hn3 : t + 3 ∉ R) (hs0 : s0 < t) (hs1 : s1 < t) (hw : w t = .inr (3, [.null, .null, .int 0, .int 0, .null, .null, .int 0, .int 0, .int 0])) : k_Met l yX3_init cX3_init 5 none { frames := 2, cells := 3, slots := 32, locals := 60 } D cy lo R ad w [.ref (ad t), .ref (ad s0), .ref (ad s1), .int a, .int b] (k_Qv D lo (fun u => ∃ ad' : Nat → Nat, (∀ x, x ≠ t + 1 → x ≠ t + 1 + 1 → x ≠ t + 3 → ad' x = ad x) ∧ u.1 = R ++ [t + 1] ++ [t + 1 + 1] ++ [t + 3] ∧ u.2.1 = ad' ∧ u.2.2 t = .inr (3, [.ref (ad' s0), .ref (ad' s1), .int a, .int b, .ref (ad' (t + 1)), .ref (ad' (t + 3)), .int 0, .int 0, .int 0]) ∧ u.2.2 (t + 1) = .inr (1, [.ref (ad' (t + 1 + 1)), .int 0]) ∧ u.2.2 (t + 1 + 1) = .inl (cy 0, 5, .inl fun _ => 0) ∧ u.2.2 (t + 3) = .inl (cy 1, 25, .inr (.inl fun _ => 0)) ∧ ∀ x, x ≠ t → x ≠ t + 1 → x ≠ t + 1 + 1 → x ≠ t + 3 → u.2.2 x = w x)) := by
  refine k_metQ (by decide +kernel) (Nat.le_of_ble_eq_true rfl) ?_
  intro p e s m args below meth c Q F hr hlk hnm hQ
  refine x_aload_n F dX3_init_0 rfl 0 rfl ?_
  refine x_objI F (List.mem_of_getElem? (i := 343) (by decide +kernel)) dX3_init_1 ⟨Nat.le_of_ble_eq_true rfl, Nat.le_of_ble_eq_true rfl⟩ ?_
  refine x_aload_n F dX3_init_4 rfl 0 rfl ?_
  refine x_newO1 F (t + 1) (List.mem_of_getElem? (i := 344) (by decide +kernel)) hn1 ⟨Nat.le_of_ble_eq_true rfl, Nat.le_of_ble_eq_true rfl⟩ dX3_init_5 (fun ad1 had1 => ?_)
  rw [← had1 t (by omega), ← had1 s0 (by omega), ← had1 s1 (by omega)]
  refine x_dup F dX3_init_8 rfl ?_
  refine x_callIN F (r0 := t + 1) [] (c_X1_init l D cy lo _ ad1 _ (t + 1) (by simp) (by simp [hn2]) (up_at _ _ _)) mc_X1_init rfl mi_X1_init lk_X3_11 rfl rfl dX3_init_9 ⟨Nat.le_of_ble_eq_true rfl, Nat.le_of_ble_eq_true rfl⟩ ⟨Nat.le_of_ble_eq_true rfl, Nat.le_of_ble_eq_true rfl⟩ (Nat.le_of_ble_eq_true rfl) (fun u hu => ?_)
  obtain ⟨ad2, had2, rfl⟩ := hu
  dsimp only
  rw [← had2 t (by omega), ← had2 s0 (by omega), ← had2 s1 (by omega), ← had2 (t + 1) (by omega)]
  refine x_putF F (T := TX3) (N := 9) (ty := tyX3 4) tyX3 tyX3_ok nmX3 (by simp [hm]) ((up_ne _ _ (by omega)).trans ((up_ne _ _ (by omega)).trans ((up_ne _ _ (by omega)).trans hw))) rfl (k_hin3 F) 4 (by decide) (F.2.2.2.2.word 354 (by decide +kernel) rfl args) rfl rfl hnm rfl (tyX3_ok 4 (by decide)) rfl rfl (Nat.le_of_ble_eq_true rfl) dX3_init_12 ?_
  refine x_aload_n F dX3_init_15 rfl 0 rfl ?_
  refine x_bipush F (v := 25) dX3_init_16 (by decide) ?_
  refine x_newJ F (t + 3) (N := 25) (by simp [hn3]) (by decide) (by decide) (by decide) ⟨Nat.le_of_ble_eq_true rfl, Nat.le_of_ble_eq_true rfl⟩ dX3_init_18 (fun ad3 had3 => ?_)
  rw [← had3 t (by omega), ← had3 s0 (by omega), ← had3 s1 (by omega), ← had3 (t + 1) (by omega), ← had3 (t + 1 + 1) (by omega)]
  refine x_putF F (T := TX3) (N := 9) (ty := tyX3 5) tyX3 tyX3_ok nmX3 (by simp [hm]) ((up_ne _ _ (by omega)).trans (up_at _ _ _)) rfl (k_hin3 F) 5 (by decide) (F.2.2.2.2.word 357 (by decide +kernel) rfl args) rfl rfl hnm rfl (tyX3_ok 5 (by decide)) rfl rfl (Nat.le_of_ble_eq_true rfl) dX3_init_20 ?_
  refine x_aload_n F dX3_init_23 rfl 0 rfl ?_
  refine x_iconst F (v := 0) dX3_init_24 (by decide) ?_
  refine x_put F (T := TX3) (N := 9) (ty := tyX3 6) tyX3 tyX3_ok nmX3 (by simp [hm]) (up_at _ _ _) rfl (k_hin3 F) 6 (by decide) (F.2.2.2.2.word 358 (by decide +kernel) rfl args) rfl rfl (tyX3_ok 6 (by decide)) rfl rfl (Nat.le_of_ble_eq_true rfl) dX3_init_25 ?_
  refine x_aload_n F dX3_init_28 rfl 0 rfl ?_
  refine x_aload_n F dX3_init_29 rfl 1 rfl ?_
  refine x_putF F (T := TX3) (N := 9) (ty := tyX3 0) tyX3 tyX3_ok nmX3 (by simp [hm]) (up_at _ _ _) rfl (k_hin3 F) 0 (by decide) (F.2.2.2.2.word 346 (by decide +kernel) rfl args) rfl rfl hnm rfl (tyX3_ok 0 (by decide)) rfl rfl (Nat.le_of_ble_eq_true rfl) dX3_init_30 ?_
  refine x_aload_n F dX3_init_33 rfl 0 rfl ?_
  refine x_aload_n F dX3_init_34 rfl 2 rfl ?_
  refine x_putF F (T := TX3) (N := 9) (ty := tyX3 1) tyX3 tyX3_ok nmX3 (by simp [hm]) (up_at _ _ _) rfl (k_hin3 F) 1 (by decide) (F.2.2.2.2.word 348 (by decide +kernel) rfl args) rfl rfl hnm rfl (tyX3_ok 1 (by decide)) rfl rfl (Nat.le_of_ble_eq_true rfl) dX3_init_35 ?_
  refine x_aload_n F dX3_init_38 rfl 0 rfl ?_
  refine x_iload_n F dX3_init_39 rfl 3 rfl ?_
  refine x_putF F (T := TX3) (N := 9) (ty := tyX3 2) tyX3 tyX3_ok nmX3 (by simp [hm]) (up_at _ _ _) rfl (k_hin3 F) 2 (by decide) (F.2.2.2.2.word 350 (by decide +kernel) rfl args) rfl rfl hnm rfl (tyX3_ok 2 (by decide)) rfl rfl (Nat.le_of_ble_eq_true rfl) dX3_init_40 ?_
  refine x_aload_n F dX3_init_43 rfl 0 rfl ?_
  refine x_iload F dX3_init_44 4 rfl ?_
  refine x_putF F (T := TX3) (N := 9) (ty := tyX3 3) tyX3 tyX3_ok nmX3 (by simp [hm]) (up_at _ _ _) rfl (k_hin3 F) 3 (by decide) (F.2.2.2.2.word 352 (by decide +kernel) rfl args) rfl rfl hnm rfl (tyX3_ok 3 (by decide)) rfl rfl (Nat.le_of_ble_eq_true rfl) dX3_init_46 ?_
  rw [hQ]
  refine x_vret F hr hlk ⟨ad3, ?_, rfl, rfl, ?_, ?_, ?_, ?_, ?_⟩ dX3_init_49
  · intro x h1 h2 h3
    rw [had3 x h3, had2 x h2, had1 x h1]
  · simp [va_up]
  · simp [va_up]
  · have z1 : ¬ t + 1 + 1 = t := by omega
    simp [va_up, z1]
  · simp [va_up]
  · intro x h0 h1 h2 h3
    simp [va_up, *]
def k_Rc : List Nat := [0, 1, 2, 3, 8, 9, 10, 11, 4, 5, 6, 7]
def I0 : Nat → Nat → Int32 := fun r k => if r = 1 ∧ k < 5 then 1 else if r = 2 ∧ k < 5 then 10 else if r = 8 ∧ k < 25 then -1 else 0
def J0 : Nat → Nat → Int64 := fun _ _ => 0
theorem I0_1 : I0 1 = fun j => if j < 5 then 1 else 0 := by funext j; simp [I0]
theorem I0_2 : I0 2 = fun j => if j < 5 then 10 else 0 := by funext j; simp [I0]
theorem I0_8 : I0 8 = fun j => if j < 25 then -1 else 0 := by funext j; simp [I0]
theorem I0_o {r : Nat} (h1 : r ≠ 1) (h2 : r ≠ 2) (h8 : r ≠ 8) : I0 r = fun _ => 0 := by funext j; simp [I0, h1, h2, h8]
theorem J0_ (r : Nat) : J0 r = fun _ => 0 := rfl
set_option maxHeartbeats 4000000 in
set_option maxRecDepth 100000 in
/-- RoamLedger's maker -/
theorem c_X4_init (l : Launch) (D : va_G) (cy : Nat → ClassId) (lo : Nat) (ad : Nat → Nat) (w : Nat → va_E) (q : Nat → Nat → Nat) (hw : w 0 = .inr (4, [.null, .null, .null, .null, .null, .null, .int 0, .int 0])) : k_Met l yX4_init cX4_init 1 none { frames := 2, cells := 11, slots := 181, locals := 60 } D cy lo [0] ad w [.ref (ad 0)] (k_Qv D lo (fun u => ∃ ad' : Nat → Nat, ad' 0 = ad 0 ∧ u = (k_Rc, ad', k_c cy ad' q 0 0 I0 J0))) := by
  refine k_metQ (by decide +kernel) (Nat.le_of_ble_eq_true rfl) ?_
  intro p e s m args below meth c Q F hr hlk hnm hQ
  refine x_aload_n F dX4_init_0 rfl 0 rfl ?_
  refine x_objI F (List.mem_of_getElem? (i := 28) (by decide +kernel)) dX4_init_1 ⟨Nat.le_of_ble_eq_true rfl, Nat.le_of_ble_eq_true rfl⟩ ?_
  refine x_aload_n F dX4_init_4 rfl 0 rfl ?_
  refine x_iconst F (v := 5) dX4_init_5 (by decide) ?_
  refine x_newI F 1 (N := 5) (by decide) (by decide) (by decide) (by decide) ⟨Nat.le_of_ble_eq_true rfl, Nat.le_of_ble_eq_true rfl⟩ dX4_init_6 (fun ad1 had1 => ?_)
  rw [← had1 0 (by decide)]
  refine x_putF F (T := TX4) (N := 8) (ty := tyX4 0) tyX4 tyX4_ok nmX4 (by decide) ((up_ne _ _ (by decide)).trans hw) rfl (k_hin4 F) 0 (by decide) (F.2.2.2.2.word 75 (by decide +kernel) rfl args) rfl rfl hnm rfl (tyX4_ok 0 (by decide)) rfl rfl (Nat.le_of_ble_eq_true rfl) dX4_init_8 ?_
  refine x_aload_n F dX4_init_11 rfl 0 rfl ?_
  refine x_iconst F (v := 5) dX4_init_12 (by decide) ?_
  refine x_newI F 2 (N := 5) (by decide) (by decide) (by decide) (by decide) ⟨Nat.le_of_ble_eq_true rfl, Nat.le_of_ble_eq_true rfl⟩ dX4_init_13 (fun ad2 had2 => ?_)
  rw [← had2 0 (by decide), ← had2 1 (by decide)]
  refine x_putF F (T := TX4) (N := 8) (ty := tyX4 1) tyX4 tyX4_ok nmX4 (by decide) ((up_ne _ _ (by decide)).trans (up_at _ _ _)) rfl (k_hin4 F) 1 (by decide) (F.2.2.2.2.word 76 (by decide +kernel) rfl args) rfl rfl hnm rfl (tyX4_ok 1 (by decide)) rfl rfl (Nat.le_of_ble_eq_true rfl) dX4_init_15 ?_
  refine x_aload_n F dX4_init_18 rfl 0 rfl ?_
  refine x_newO0 F 3 (List.mem_of_getElem? (i := 31) (by decide +kernel)) (by decide) ⟨Nat.le_of_ble_eq_true rfl, Nat.le_of_ble_eq_true rfl⟩ dX4_init_19 (fun ad3 had3 => ?_)
  rw [← had3 0 (by decide), ← had3 1 (by decide), ← had3 2 (by decide)]
  refine x_dup F dX4_init_22 rfl ?_
  refine x_callI F (r0 := 3) [] (c_X0_init l D cy lo _ ad3 _ (by decide) (by decide) (by decide) (by decide) (by decide) (up_at _ _ _)) mc_X0_init rfl mi_X0_init lk_X4_18 rfl rfl dX4_init_23 ⟨Nat.le_of_ble_eq_true rfl, Nat.le_of_ble_eq_true rfl⟩ ⟨Nat.le_of_ble_eq_true rfl, Nat.le_of_ble_eq_true rfl⟩ (Nat.le_of_ble_eq_true rfl) (fun u hu => ?_)
  obtain ⟨R9, ad9, w9⟩ := u
  obtain ⟨ad4, had4, g1, g2, g3, g8, g9, g10, g11, hw9⟩ := hu
  dsimp only at g1 g2 g3 g8 g9 g10 g11 hw9 ⊢
  subst g1
  subst g2
  rw [← had4 0 (by decide) (by decide) (by decide) (by decide), ← had4 3 (by decide) (by decide) (by decide) (by decide)]
  have k0 := hw9 0 (by decide) (by decide) (by decide) (by decide) (by decide)
  have k1 := hw9 1 (by decide) (by decide) (by decide) (by decide) (by decide)
  have k2 := hw9 2 (by decide) (by decide) (by decide) (by decide) (by decide)
  simp [va_up] at k0 k1 k2
  rw [← had4 1 (by decide) (by decide) (by decide) (by decide), ← had4 2 (by decide) (by decide) (by decide) (by decide)] at k0
  refine x_putF F (T := TX4) (N := 8) (ty := tyX4 2) tyX4 tyX4_ok nmX4 (by decide) k0 rfl (k_hin4 F) 2 (by decide) (F.2.2.2.2.word 77 (by decide +kernel) rfl args) rfl rfl hnm rfl (tyX4_ok 2 (by decide)) rfl rfl (Nat.le_of_ble_eq_true rfl) dX4_init_26 ?_
  refine x_aload_n F dX4_init_29 rfl 0 rfl ?_
  refine x_bipush F (v := 20) dX4_init_30 (by decide) ?_
  refine x_newAS F 4 (N := 20) (List.mem_of_getElem? (i := 55) (by decide +kernel)) (by decide) (by decide) (by decide) (by decide) ⟨Nat.le_of_ble_eq_true rfl, Nat.le_of_ble_eq_true rfl⟩ dX4_init_32 (fun ad5 had5 => ?_)
  rw [← had5 0 (by decide), ← had5 1 (by decide), ← had5 2 (by decide), ← had5 3 (by decide)]
  refine x_putF F (T := TX4) (N := 8) (ty := tyX4 3) tyX4 tyX4_ok nmX4 (by decide) ((up_ne _ _ (by decide)).trans (up_at _ _ _)) rfl (k_hin4 F) 3 (by decide) (F.2.2.2.2.word 78 (by decide +kernel) rfl args) rfl rfl hnm rfl (tyX4_ok 3 (by decide)) rfl rfl (Nat.le_of_ble_eq_true rfl) dX4_init_35 ?_
  refine x_aload_n F dX4_init_38 rfl 0 rfl ?_
  refine x_bipush F (v := 60) dX4_init_39 (by decide) ?_
  refine x_newAT F 5 (N := 60) (List.mem_of_getElem? (i := 57) (by decide +kernel)) (by decide) (by decide) (by decide) (by decide) ⟨Nat.le_of_ble_eq_true rfl, Nat.le_of_ble_eq_true rfl⟩ dX4_init_41 (fun ad6 had6 => ?_)
  rw [← had6 0 (by decide), ← had6 1 (by decide), ← had6 2 (by decide), ← had6 3 (by decide), ← had6 4 (by decide)]
  refine x_putF F (T := TX4) (N := 8) (ty := tyX4 4) tyX4 tyX4_ok nmX4 (by decide) ((up_ne _ _ (by decide)).trans (up_at _ _ _)) rfl (k_hin4 F) 4 (by decide) (F.2.2.2.2.word 79 (by decide +kernel) rfl args) rfl rfl hnm rfl (tyX4_ok 4 (by decide)) rfl rfl (Nat.le_of_ble_eq_true rfl) dX4_init_44 ?_
  refine x_aload_n F dX4_init_47 rfl 0 rfl ?_
  refine x_newO1 F 6 (List.mem_of_getElem? (i := 59) (by decide +kernel)) (by decide) ⟨Nat.le_of_ble_eq_true rfl, Nat.le_of_ble_eq_true rfl⟩ dX4_init_48 (fun ad7 had7 => ?_)
  rw [← had7 0 (by decide), ← had7 1 (by decide), ← had7 2 (by decide), ← had7 3 (by decide), ← had7 4 (by decide), ← had7 5 (by decide)]
  refine x_dup F dX4_init_51 rfl ?_
  refine x_callIN F (r0 := 6) [] (c_X1_init l D cy lo _ ad7 _ 6 (by decide) (by decide) (up_at _ _ _)) mc_X1_init rfl mi_X1_init lk_X4_37 rfl rfl dX4_init_52 ⟨Nat.le_of_ble_eq_true rfl, Nat.le_of_ble_eq_true rfl⟩ ⟨Nat.le_of_ble_eq_true rfl, Nat.le_of_ble_eq_true rfl⟩ (Nat.le_of_ble_eq_true rfl) (fun u hu => ?_)
  obtain ⟨ad8, had8, rfl⟩ := hu
  dsimp only
  rw [← had8 0 (by decide), ← had8 1 (by decide), ← had8 2 (by decide), ← had8 3 (by decide), ← had8 4 (by decide), ← had8 5 (by decide), ← had8 6 (by decide)]
  refine x_putF F (T := TX4) (N := 8) (ty := tyX4 5) tyX4 tyX4_ok nmX4 (by decide) ((up_ne _ _ (by decide)).trans ((up_ne _ _ (by decide)).trans ((up_ne _ _ (by decide)).trans (up_at _ _ _)))) rfl (k_hin4 F) 5 (by decide) (F.2.2.2.2.word 80 (by decide +kernel) rfl args) rfl rfl hnm rfl (tyX4_ok 5 (by decide)) rfl rfl (Nat.le_of_ble_eq_true rfl) dX4_init_55 ?_
  refine x_aload_n F dX4_init_58 rfl 0 rfl ?_
  refine g_X4_9 F (by decide) (up_at _ _ _) rfl dX4_init_59 ?_
  refine x_iconst F (v := 1) dX4_init_62 (by decide) ?_
  refine z_callSv F [.ref (ad8 1), .int 1] (c_fill l D cy lo _ ad8 _ 1 1 5 (fun _ => 0) (by simp [va_up, hw9]) (by decide) (by decide)) mc_J7_fill_53178 ms_J7_fill_53178 lk_X4_42 rfl rfl dX4_init_63 ⟨Nat.le_of_ble_eq_true rfl, Nat.le_of_ble_eq_true rfl⟩ ⟨Nat.le_of_ble_eq_true rfl, Nat.le_of_ble_eq_true rfl⟩ (Nat.le_of_ble_eq_true rfl) ?_
  refine x_aload_n F dX4_init_66 rfl 0 rfl ?_
  refine g_X4_13 F (by decide) ((up_ne _ _ (by decide)).trans (up_at _ _ _)) rfl dX4_init_67 ?_
  refine x_bipush F (v := 10) dX4_init_70 (by decide) ?_
  refine z_callSv F [.ref (ad8 2), .int 10] (c_fill l D cy lo _ ad8 _ 2 10 5 (fun _ => 0) (by simp [va_up, hw9]) (by decide) (by decide)) mc_J7_fill_53178 ms_J7_fill_53178 lk_X4_42 rfl rfl dX4_init_72 ⟨Nat.le_of_ble_eq_true rfl, Nat.le_of_ble_eq_true rfl⟩ ⟨Nat.le_of_ble_eq_true rfl, Nat.le_of_ble_eq_true rfl⟩ (Nat.le_of_ble_eq_true rfl) ?_
  have e0 : ad8 0 = ad 0 := by rw [had8 0 (by decide), had7 0 (by decide), had6 0 (by decide), had5 0 (by decide), had4 0 (by decide) (by decide) (by decide) (by decide), had3 0 (by decide), had2 0 (by decide), had1 0 (by decide)]
  have e8 : ∀ x, 8 ≤ x → ad8 x = ad9 x := fun x hx => by rw [had8 x (by omega), had7 x (by omega), had6 x (by omega), had5 x (by omega)]
  refine x_wc (w' := k_c cy ad8 q 0 0 I0 J0) ?_ ?_
  · intro x hx
    have hx2 : x = 0 ∨ x = 1 ∨ x = 2 ∨ x = 3 ∨ x = 8 ∨ x = 9 ∨ x = 10 ∨ x = 11 ∨ x = 4 ∨ x = 5 ∨ x = 6 ∨ x = 7 := by simpa using hx
    rcases hx2 with rfl | rfl | rfl | rfl | rfl | rfl | rfl | rfl | rfl | rfl | rfl | rfl
    · rw [sc_0]; simp [va_up, I0]
    · rw [sc_1, I0_1]; simp [va_up]
    · rw [sc_2, I0_2]; simp [va_up]
    · rw [sc_3, e8 8 (by omega), e8 9 (by omega), e8 10 (by omega), e8 11 (by omega), ← g3]; simp [va_up]
    · rw [sc_8, I0_8]; simp [va_up, g8]
    · rw [sc_9, I0_o (by decide) (by decide) (by decide)]; simp [va_up, g9]
    · rw [sc_10, J0_]; simp [va_up, g10]
    · rw [sc_11, I0_o (by decide) (by decide) (by decide)]; simp [va_up, g11]
    · rw [sc_4]; simp [va_up]
    · rw [sc_5]; simp [va_up]
    · rw [sc_6]; simp [va_up, I0]
    · rw [sc_7, I0_o (by decide) (by decide) (by decide)]; simp [va_up]
  rw [hQ]
  exact x_vret F hr hlk ⟨ad8, e0, rfl⟩ dX4_init_75
