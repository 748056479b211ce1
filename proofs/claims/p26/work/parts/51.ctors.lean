set_option maxHeartbeats 4000000 in
set_option maxRecDepth 100000 in
/-- Route's maker -/
theorem c_X1_init (l : Launch) (D : va_G) (cy : Nat → ClassId) (lo : Nat) (R : List Nat) (ad : Nat → Nat) (w : Nat → va_E) (r : Nat) (hm : r ∈ R) (hn : r + 1 ∉ R) (hw : w r = .inr (1, [.null, .int 0])) : k_Met l yX1_init cX1_init 1 none { frames := 1, cells := 1, slots := 5, locals := 20 } D cy lo R ad w [.ref (ad r)] (k_Qv D lo (fun u => ∃ ad' : Nat → Nat, (∀ x, x ≠ r + 1 → ad' x = ad x) ∧ u = (R ++ [r + 1], ad', va_up (va_up w (r + 1) (.inl (cy 0, 5, .inl fun _ => 0))) r (.inr (1, [.ref (ad' (r + 1)), .int 0]))))) := by
  refine k_metQ (by decide +kernel) (Nat.le_of_ble_eq_true rfl) ?_
  intro p e s m args below meth c Q F hr hlk hnm hQ
  refine x_aload_n F dX1_init_0 rfl 0 rfl ?_
  refine x_objI F (List.mem_of_getElem? (i := 64) (by decide +kernel)) dX1_init_1 ⟨Nat.le_of_ble_eq_true rfl, Nat.le_of_ble_eq_true rfl⟩ ?_
  refine x_aload_n F dX1_init_4 rfl 0 rfl ?_
  refine x_iconst F (v := 5) dX1_init_5 (by decide) ?_
  refine x_newI F (r + 1) (N := 5) hn (by decide) (by decide) (by decide) ⟨Nat.le_of_ble_eq_true rfl, Nat.le_of_ble_eq_true rfl⟩ dX1_init_6 (fun ad1 had1 => ?_)
  rw [← had1 r (by omega)]
  refine x_putF F (T := TX1) (N := 2) (ty := tyX1 0) tyX1 tyX1_ok nmX1 (List.mem_append_left _ hm) ((up_ne _ _ (by omega)).trans hw) rfl (k_hin1 F) 0 (by decide) (F.2.2.2.2.word 65 (by decide +kernel) rfl args) rfl rfl hnm rfl (tyX1_ok 0 (by decide)) rfl rfl (Nat.le_of_ble_eq_true rfl) dX1_init_8 ?_
  rw [hQ]
  exact x_vret F hr hlk ⟨ad1, had1, rfl⟩ dX1_init_11
set_option maxHeartbeats 4000000 in
set_option maxRecDepth 100000 in
/-- Subscriber's maker -/
theorem c_X2_init (l : Launch) (D : va_G) (cy : Nat → ClassId) (lo : Nat) (R : List Nat) (ad : Nat → Nat) (w : Nat → va_E) (r : Nat) (a b b2 : Int32) (hm : r ∈ R) (hn : r + 1 ∉ R) (hw : w r = .inr (2, [.null, .int 0, .int 0, .int 0])) : k_Met l yX2_init cX2_init 4 none { frames := 1, cells := 1, slots := 10, locals := 20 } D cy lo R ad w [.ref (ad r), .int a, .int b, .int b2] (k_Qv D lo (fun u => ∃ ad' : Nat → Nat, (∀ x, x ≠ r + 1 → ad' x = ad x) ∧ u = (R ++ [r + 1], ad', va_up (va_up w (r + 1) (.inl (cy 0, 10, .inl fun k => if k = 0 then a else 0))) r (.inr (2, [.ref (ad' (r + 1)), .int 1, .int b, .int b2]))))) := by
  refine k_metQ (by decide +kernel) (Nat.le_of_ble_eq_true rfl) ?_
  intro p e s m args below meth c Q F hr hlk hnm hQ
  refine x_aload_n F dX2_init_0 rfl 0 rfl ?_
  refine x_objI F (List.mem_of_getElem? (i := 247) (by decide +kernel)) dX2_init_1 ⟨Nat.le_of_ble_eq_true rfl, Nat.le_of_ble_eq_true rfl⟩ ?_
  refine x_aload_n F dX2_init_4 rfl 0 rfl ?_
  refine x_bipush F (v := 10) dX2_init_5 (by decide) ?_
  refine x_newI F (r + 1) (N := 10) hn (by decide) (by decide) (by decide) ⟨Nat.le_of_ble_eq_true rfl, Nat.le_of_ble_eq_true rfl⟩ dX2_init_7 (fun ad1 had1 => ?_)
  rw [← had1 r (by omega)]
  have hm1 : r ∈ R ++ [r + 1] := List.mem_append_left _ hm
  have hm2 : r + 1 ∈ R ++ [r + 1] := by simp
  refine x_putF F (T := TX2) (N := 4) (ty := tyX2 0) tyX2 tyX2_ok nmX2 hm1 ((up_ne _ _ (by omega)).trans hw) rfl (k_hin2 F) 0 (by decide) (F.2.2.2.2.word 248 (by decide +kernel) rfl args) rfl rfl hnm rfl (tyX2_ok 0 (by decide)) rfl rfl (Nat.le_of_ble_eq_true rfl) dX2_init_9 ?_
  refine x_aload_n F dX2_init_12 rfl 0 rfl ?_
  refine g_X2_9 F hm1 (up_at _ _ _) rfl dX2_init_13 ?_
  refine x_iconst F (v := 0) dX2_init_16 (by decide) ?_
  refine x_iload_n F dX2_init_17 rfl 1 rfl ?_
  refine x_iast F hm2 ((up_ne _ _ (by omega)).trans (up_at _ _ _)) (show vp_in 0 10 from vp_in_nI (n := 0) (N := 10) (by decide) (by decide)) dX2_init_18 ?_
  refine x_aload_n F dX2_init_19 rfl 0 rfl ?_
  refine x_iconst F (v := 1) dX2_init_20 (by decide) ?_
  refine x_put F (T := TX2) (N := 4) (ty := tyX2 1) tyX2 tyX2_ok nmX2 hm1 ((up_ne _ _ (by omega)).trans (up_at _ _ _)) rfl (k_hin2 F) 1 (by decide) (F.2.2.2.2.word 249 (by decide +kernel) rfl args) rfl rfl (tyX2_ok 1 (by decide)) rfl rfl (Nat.le_of_ble_eq_true rfl) dX2_init_21 ?_
  refine x_aload_n F dX2_init_24 rfl 0 rfl ?_
  refine x_iload_n F dX2_init_25 rfl 2 rfl ?_
  refine x_put F (T := TX2) (N := 4) (ty := tyX2 2) tyX2 tyX2_ok nmX2 hm1 (up_at _ _ _) rfl (k_hin2 F) 2 (by decide) (F.2.2.2.2.word 251 (by decide +kernel) rfl args) rfl rfl (tyX2_ok 2 (by decide)) rfl rfl (Nat.le_of_ble_eq_true rfl) dX2_init_26 ?_
  refine x_aload_n F dX2_init_29 rfl 0 rfl ?_
  refine x_iload_n F dX2_init_30 rfl 3 rfl ?_
  refine x_put F (T := TX2) (N := 4) (ty := tyX2 3) tyX2 tyX2_ok nmX2 hm1 (up_at _ _ _) rfl (k_hin2 F) 3 (by decide) (F.2.2.2.2.word 253 (by decide +kernel) rfl args) rfl rfl (tyX2_ok 3 (by decide)) rfl rfl (Nat.le_of_ble_eq_true rfl) dX2_init_31 ?_
  refine x_world (w' := va_up (va_up w (r + 1) (.inl (cy 0, 10, .inl fun k => if k = 0 then a else 0))) r (.inr (2, [.ref (ad1 (r + 1)), .int 1, .int b, .int b2]))) ?_ ?_
  · funext x
    by_cases h1 : x = r
    · subst h1; rw [up_at, up_at]; rfl
    · rw [up_ne _ _ h1, up_ne _ _ h1, up_ne _ _ h1, up_ne _ _ h1]
      by_cases h2 : x = r + 1
      · subst h2
        rw [up_at, up_at]
        rfl
      · rw [up_ne _ _ h2, up_ne _ _ h2, up_ne _ _ h1, up_ne _ _ h2]
  rw [hQ]
  exact x_vret F hr hlk ⟨ad1, had1, rfl⟩ dX2_init_34
set_option maxHeartbeats 4000000 in
set_option maxRecDepth 100000 in
/-- Network's maker -/
theorem c_X0_init (l : Launch) (D : va_G) (cy : Nat → ClassId) (lo : Nat) (R : List Nat) (ad : Nat → Nat) (w : Nat → va_E) (hm : 3 ∈ R) (hn8 : 8 ∉ R) (hn9 : 9 ∉ R) (hn10 : 10 ∉ R) (hn11 : 11 ∉ R) (hw : w 3 = .inr (0, [.null, .null, .null, .null])) : k_Met l yX0_init cX0_init 1 none { frames := 1, cells := 4, slots := 80, locals := 30 } D cy lo R ad w [.ref (ad 3)] (k_Qv D lo (fun u => ∃ ad' : Nat → Nat, (∀ x, x ≠ 8 → x ≠ 9 → x ≠ 10 → x ≠ 11 → ad' x = ad x) ∧ u.1 = R ++ [8] ++ [9] ++ [10] ++ [11] ∧ u.2.1 = ad' ∧ u.2.2 3 = .inr (0, [.ref (ad' 8), .ref (ad' 9), .ref (ad' 10), .ref (ad' 11)]) ∧ u.2.2 8 = .inl (cy 0, 25, .inl (fun j => if j < 25 then -1 else 0)) ∧ u.2.2 9 = .inl (cy 0, 25, .inl fun _ => 0) ∧ u.2.2 10 = .inl (cy 1, 25, .inr (.inl fun _ => 0)) ∧ u.2.2 11 = .inl (cy 0, 5, .inl fun _ => 0) ∧ ∀ x, x ≠ 3 → x ≠ 8 → x ≠ 9 → x ≠ 10 → x ≠ 11 → u.2.2 x = w x)) := by
  refine k_metQ (by decide +kernel) (Nat.le_of_ble_eq_true rfl) ?_
  intro p e s m args below meth c Q F hr hlk hnm hQ
  refine x_aload_n F dX0_init_0 rfl 0 rfl ?_
  refine x_objI F (List.mem_of_getElem? (i := 36) (by decide +kernel)) dX0_init_1 ⟨Nat.le_of_ble_eq_true rfl, Nat.le_of_ble_eq_true rfl⟩ ?_
  refine x_aload_n F dX0_init_4 rfl 0 rfl ?_
  refine x_bipush F (v := 25) dX0_init_5 (by decide) ?_
  refine x_newI F 8 (N := 25) hn8 (by decide) (by decide) (by decide) ⟨Nat.le_of_ble_eq_true rfl, Nat.le_of_ble_eq_true rfl⟩ dX0_init_7 (fun ad1 had1 => ?_)
  rw [← had1 3 (by decide)]
  refine x_putF F (T := TX0) (N := 4) (ty := tyX0 0) tyX0 tyX0_ok nmX0 (by simp [hm]) ((up_ne _ _ (by decide)).trans hw) rfl (k_hin0 F) 0 (by decide) (F.2.2.2.2.word 40 (by decide +kernel) rfl args) rfl rfl hnm rfl (tyX0_ok 0 (by decide)) rfl rfl (Nat.le_of_ble_eq_true rfl) dX0_init_9 ?_
  refine x_aload_n F dX0_init_12 rfl 0 rfl ?_
  refine x_bipush F (v := 25) dX0_init_13 (by decide) ?_
  refine x_newI F 9 (N := 25) (by simp [hn9]) (by decide) (by decide) (by decide) ⟨Nat.le_of_ble_eq_true rfl, Nat.le_of_ble_eq_true rfl⟩ dX0_init_15 (fun ad2 had2 => ?_)
  rw [← had2 3 (by decide), ← had2 8 (by decide)]
  refine x_putF F (T := TX0) (N := 4) (ty := tyX0 1) tyX0 tyX0_ok nmX0 (by simp [hm]) ((up_ne _ _ (by decide)).trans (up_at _ _ _)) rfl (k_hin0 F) 1 (by decide) (F.2.2.2.2.word 41 (by decide +kernel) rfl args) rfl rfl hnm rfl (tyX0_ok 1 (by decide)) rfl rfl (Nat.le_of_ble_eq_true rfl) dX0_init_17 ?_
  refine x_aload_n F dX0_init_20 rfl 0 rfl ?_
  refine x_bipush F (v := 25) dX0_init_21 (by decide) ?_
  refine x_newJ F 10 (N := 25) (by simp [hn10]) (by decide) (by decide) (by decide) ⟨Nat.le_of_ble_eq_true rfl, Nat.le_of_ble_eq_true rfl⟩ dX0_init_23 (fun ad3 had3 => ?_)
  rw [← had3 3 (by decide), ← had3 8 (by decide), ← had3 9 (by decide)]
  refine x_putF F (T := TX0) (N := 4) (ty := tyX0 2) tyX0 tyX0_ok nmX0 (by simp [hm]) ((up_ne _ _ (by decide)).trans (up_at _ _ _)) rfl (k_hin0 F) 2 (by decide) (F.2.2.2.2.word 42 (by decide +kernel) rfl args) rfl rfl hnm rfl (tyX0_ok 2 (by decide)) rfl rfl (Nat.le_of_ble_eq_true rfl) dX0_init_25 ?_
  refine x_aload_n F dX0_init_28 rfl 0 rfl ?_
  refine x_iconst F (v := 5) dX0_init_29 (by decide) ?_
  refine x_newI F 11 (N := 5) (by simp [hn11]) (by decide) (by decide) (by decide) ⟨Nat.le_of_ble_eq_true rfl, Nat.le_of_ble_eq_true rfl⟩ dX0_init_30 (fun ad4 had4 => ?_)
  rw [← had4 3 (by decide), ← had4 8 (by decide), ← had4 9 (by decide), ← had4 10 (by decide)]
  refine x_putF F (T := TX0) (N := 4) (ty := tyX0 3) tyX0 tyX0_ok nmX0 (by simp [hm]) ((up_ne _ _ (by decide)).trans (up_at _ _ _)) rfl (k_hin0 F) 3 (by decide) (F.2.2.2.2.word 43 (by decide +kernel) rfl args) rfl rfl hnm rfl (tyX0_ok 3 (by decide)) rfl rfl (Nat.le_of_ble_eq_true rfl) dX0_init_32 ?_
  refine x_aload_n F dX0_init_35 rfl 0 rfl ?_
  refine g_X0_9 F (by simp [hm]) (up_at _ _ _) rfl dX0_init_36 ?_
  refine x_iconst F (v := (-1)) dX0_init_39 (by decide) ?_
  refine z_callSv F [.ref (ad4 8), .int (-1)] (c_fill l D cy lo _ ad4 _ 8 (-1) 25 (fun _ => 0) (by simp [va_up]) (by simp) (by decide)) mc_J7_fill_53178 ms_J7_fill_53178 lk_X0_25 rfl rfl dX0_init_40 ⟨Nat.le_of_ble_eq_true rfl, Nat.le_of_ble_eq_true rfl⟩ ⟨Nat.le_of_ble_eq_true rfl, Nat.le_of_ble_eq_true rfl⟩ (Nat.le_of_ble_eq_true rfl) ?_
  rw [hQ]
  refine x_vret F hr hlk ⟨ad4, ?_, rfl, rfl, ?_, ?_, ?_, ?_, ?_, ?_⟩ dX0_init_43
  · intro x h8 h9 h10 h11
    rw [had4 x h11, had3 x h10, had2 x h9, had1 x h8]
  · simp [va_up]
  · simp [va_up]
  · simp [va_up]
  · simp [va_up]
  · simp [va_up]
  · intro x h3 h8 h9 h10 h11
    simp [va_up, *]
