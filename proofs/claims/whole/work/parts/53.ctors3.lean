theorem up3 {α : Type} (A : Nat → α) {i j : Nat} (e z e' : α) (h : i ≠ j) : va_up (va_up (va_up A i e) j z) i e' = va_up (va_up A j z) i e' := by
  funext x
  by_cases h1 : x = i
  · simp [va_up, h1]
  · simp [va_up, h1]
def I1 (I : Nat → Nat → Int32) : Nat → Nat → Int32 := fun r k => if r = 14 ∧ k < 5 then 1 else if r = 15 ∧ k < 5 then 10 else I r k
theorem I1_14 {I : Nat → Nat → Int32} (h : ∀ r, 13 ≤ r → I r = fun _ => 0) : I1 I 14 = fun k => if k < 5 then 1 else 0 := by funext k; simp [I1, h]
theorem I1_15 {I : Nat → Nat → Int32} (h : ∀ r, 13 ≤ r → I r = fun _ => 0) : I1 I 15 = fun k => if k < 5 then 10 else 0 := by funext k; simp [I1, h]
theorem I1_o {I : Nat → Nat → Int32} {r : Nat} (h1 : r ≠ 14) (h2 : r ≠ 15) : I1 I r = I r := by funext k; simp [I1, h1, h2]
theorem upd5 {v : Int32} (k : Nat) : (if k = 4 then v else if k = 3 then v else if k = 2 then v else if k = 1 then v else if k = 0 then v else 0) = if k < 5 then v else 0 := by
  by_cases h : k < 5
  · rcases (show k = 0 ∨ k = 1 ∨ k = 2 ∨ k = 3 ∨ k = 4 by omega) with rfl | rfl | rfl | rfl | rfl <;> simp
  · rw [if_neg (by omega), if_neg (by omega), if_neg (by omega), if_neg (by omega), if_neg (by omega), if_neg h]
/-- contents below 13 name addresses below 13 only, as long as there are no numbers and no calls -/
theorem kc_low {cy : Nat → ClassId} {ad ad' : Nat → Nat} {q : Nat → Nat → Nat} {I : Nat → Nat → Int32} {J : Nat → Nat → Int64} {x : Nat} (hx : x < 13) (h : ∀ y, y < 13 → ad' y = ad y) : k_c cy ad q 0 0 I J x = k_c cy ad' q 0 0 I J x := by
  have h0 := h 0 (by decide); have h1 := h 1 (by decide); have h2 := h 2 (by decide); have h3 := h 3 (by decide); have h4 := h 4 (by decide); have h5 := h 5 (by decide); have h6 := h 6 (by decide); have h7 := h 7 (by decide); have h8 := h 8 (by decide); have h9 := h 9 (by decide); have h10 := h 10 (by decide); have h11 := h 11 (by decide)
  rcases (show x = 0 ∨ x = 1 ∨ x = 2 ∨ x = 3 ∨ x = 4 ∨ x = 5 ∨ x = 6 ∨ x = 7 ∨ x = 8 ∨ x = 9 ∨ x = 10 ∨ x = 11 ∨ x = 12 by omega) with rfl | rfl | rfl | rfl | rfl | rfl | rfl | rfl | rfl | rfl | rfl | rfl | rfl
  · rw [sc_0, sc_0, h1, h2, h3, h4, h5, h6]
  · rfl
  · rfl
  · rw [sc_3, sc_3, h8, h9, h10, h11]
  · rw [sc_4, sc_4]; simp
  · rw [sc_5, sc_5]; simp
  · rw [sc_6, sc_6, h7]
  all_goals rfl
def k_Rm : List Nat := k_Rc ++ [13] ++ [14] ++ [15] ++ [16] ++ [17] ++ [18] ++ [19] ++ [20] ++ [21] ++ [22] ++ [23] ++ [24] ++ [25] ++ [26] ++ [27] ++ [28] ++ [29] ++ [30] ++ [31] ++ [32] ++ [33] ++ [34] ++ [35]
set_option maxRecDepth 100000 in
theorem k_Rm36 : ∀ x ∈ k_Rm, x < 36 := by decide
theorem kc_I1 {cy : Nat → ClassId} {ad : Nat → Nat} {q : Nat → Nat → Nat} {I : Nat → Nat → Int32} {J : Nat → Nat → Int64} {x : Nat} (hx : x < 13) : k_c cy ad q 0 0 I J x = k_c cy ad q 0 0 (I1 I) J x := by
  have h : I x = I1 I x := by
    funext k
    have h1 : ¬ (x = 14 ∧ k < 5) := by omega
    have h2 : ¬ (x = 15 ∧ k < 5) := by omega
    simp [I1, h1, h2]
  rw [k_c, k_c, h]
set_option maxHeartbeats 4000000 in
set_option maxRecDepth 100000 in
/-- the reference's maker -/
theorem c_X5_init (l : Launch) (D : va_G) (cy : Nat → ClassId) (lo : Nat) (ad : Nat → Nat) (w : Nat → va_E) (q : Nat → Nat → Nat) (I : Nat → Nat → Int32) (J : Nat → Nat → Int64) (hI : ∀ r k, 13 ≤ r → I r k = 0) (hJ : ∀ r k, 13 ≤ r → J r k = 0) : k_Met l yX5_init cX5_init 2 none { frames := 1, cells := 22, slots := 1185, locals := 30 } D cy lo (k_Rc ++ [13]) ad (va_up (k_c cy ad q 0 0 I J) 13 (.inr (5, [.int 0, .null, .null, .null, .null, .null, .null, .null, .int 0, .null, .null, .null, .null, .int 0, .null, .null, .null, .null, .null, .null, .null, .null, .null, .int 0, .int 0, .null, .null]))) [.ref (ad 13)] (k_Qv D lo (fun u => ∃ ad' : Nat → Nat, (∀ x, x ≤ 13 → ad' x = ad x) ∧ u = (k_Rm, ad', k_c cy ad' q 0 0 (I1 I) J))) := by
  refine k_metQ (by decide +kernel) (Nat.le_of_ble_eq_true rfl) ?_
  intro p e s m args below meth c Q F hr hlk hnm hQ
  have hIz : ∀ r, 13 ≤ r → I r = fun _ => 0 := fun r h => funext fun k => hI r k h
  have hJz : ∀ r, 13 ≤ r → J r = fun _ => 0 := fun r h => funext fun k => hJ r k h
  refine x_aload_n F dX5_init_0 rfl 0 rfl ?_
  refine x_objI F (List.mem_of_getElem? (i := 604) (by decide +kernel)) dX5_init_1 ⟨Nat.le_of_ble_eq_true rfl, Nat.le_of_ble_eq_true rfl⟩ ?_
  refine x_aload_n F dX5_init_4 rfl 0 rfl ?_
  refine x_iconst F (v := 5) dX5_init_5 (by decide) ?_
  refine x_newI F 14 (N := 5) (by decide) (by decide) (by decide) (by decide) ⟨Nat.le_of_ble_eq_true rfl, Nat.le_of_ble_eq_true rfl⟩ dX5_init_6 (fun b14 hb14 => ?_)
  rw [← hb14 13 (by decide)]
  refine x_putF F (T := TX5) (N := 27) (ty := tyX5 1) tyX5 tyX5_ok nmX5 (by decide) ((up_ne _ _ (by decide)).trans (up_at _ _ _)) rfl (k_hin5 F) 1 (by decide) (F.2.2.2.2.word 606 (by decide +kernel) rfl args) rfl rfl hnm rfl (tyX5_ok 1 (by decide)) rfl rfl (Nat.le_of_ble_eq_true rfl) dX5_init_8 ?_
  refine x_world (w' := va_up (va_up _ 14 (.inl (cy 0, 5, .inl fun _ => 0))) 13 (.inr (5, [.int 0, .ref (b14 14), .null, .null, .null, .null, .null, .null, .int 0, .null, .null, .null, .null, .int 0, .null, .null, .null, .null, .null, .null, .null, .null, .null, .int 0, .int 0, .null, .null]))) (up3 _ _ _ _ (by decide)) ?_
  refine x_aload_n F dX5_init_11 rfl 0 rfl ?_
  refine x_iconst F (v := 5) dX5_init_12 (by decide) ?_
  refine x_newI F 15 (N := 5) (by decide) (by decide) (by decide) (by decide) ⟨Nat.le_of_ble_eq_true rfl, Nat.le_of_ble_eq_true rfl⟩ dX5_init_13 (fun b15 hb15 => ?_)
  rw [← hb15 13 (by decide), ← hb15 14 (by decide)]
  refine x_putF F (T := TX5) (N := 27) (ty := tyX5 2) tyX5 tyX5_ok nmX5 (by decide) ((up_ne _ _ (by decide)).trans (up_at _ _ _)) rfl (k_hin5 F) 2 (by decide) (F.2.2.2.2.word 607 (by decide +kernel) rfl args) rfl rfl hnm rfl (tyX5_ok 2 (by decide)) rfl rfl (Nat.le_of_ble_eq_true rfl) dX5_init_15 ?_
  refine x_world (w' := va_up (va_up _ 15 (.inl (cy 0, 5, .inl fun _ => 0))) 13 (.inr (5, [.int 0, .ref (b15 14), .ref (b15 15), .null, .null, .null, .null, .null, .int 0, .null, .null, .null, .null, .int 0, .null, .null, .null, .null, .null, .null, .null, .null, .null, .int 0, .int 0, .null, .null]))) (up3 _ _ _ _ (by decide)) ?_
  refine x_aload_n F dX5_init_18 rfl 0 rfl ?_
  refine x_bipush F (v := 25) dX5_init_19 (by decide) ?_
  refine x_newZ F 16 (N := 25) (by decide) (by decide) (by decide) (by decide) ⟨Nat.le_of_ble_eq_true rfl, Nat.le_of_ble_eq_true rfl⟩ dX5_init_21 (fun b16 hb16 => ?_)
  rw [← hb16 13 (by decide), ← hb16 14 (by decide), ← hb16 15 (by decide)]
  refine x_putF F (T := TX5) (N := 27) (ty := tyX5 3) tyX5 tyX5_ok nmX5 (by decide) ((up_ne _ _ (by decide)).trans (up_at _ _ _)) rfl (k_hin5 F) 3 (by decide) (F.2.2.2.2.word 608 (by decide +kernel) rfl args) rfl rfl hnm rfl (tyX5_ok 3 (by decide)) rfl rfl (Nat.le_of_ble_eq_true rfl) dX5_init_23 ?_
  refine x_world (w' := va_up (va_up _ 16 (.inl (cy 2, 25, .inl fun _ => 0))) 13 (.inr (5, [.int 0, .ref (b16 14), .ref (b16 15), .ref (b16 16), .null, .null, .null, .null, .int 0, .null, .null, .null, .null, .int 0, .null, .null, .null, .null, .null, .null, .null, .null, .null, .int 0, .int 0, .null, .null]))) (up3 _ _ _ _ (by decide)) ?_
  refine x_aload_n F dX5_init_26 rfl 0 rfl ?_
  refine x_bipush F (v := 25) dX5_init_27 (by decide) ?_
  refine x_newI F 17 (N := 25) (by decide) (by decide) (by decide) (by decide) ⟨Nat.le_of_ble_eq_true rfl, Nat.le_of_ble_eq_true rfl⟩ dX5_init_29 (fun b17 hb17 => ?_)
  rw [← hb17 13 (by decide), ← hb17 14 (by decide), ← hb17 15 (by decide), ← hb17 16 (by decide)]
  refine x_putF F (T := TX5) (N := 27) (ty := tyX5 4) tyX5 tyX5_ok nmX5 (by decide) ((up_ne _ _ (by decide)).trans (up_at _ _ _)) rfl (k_hin5 F) 4 (by decide) (F.2.2.2.2.word 609 (by decide +kernel) rfl args) rfl rfl hnm rfl (tyX5_ok 4 (by decide)) rfl rfl (Nat.le_of_ble_eq_true rfl) dX5_init_31 ?_
  refine x_world (w' := va_up (va_up _ 17 (.inl (cy 0, 25, .inl fun _ => 0))) 13 (.inr (5, [.int 0, .ref (b17 14), .ref (b17 15), .ref (b17 16), .ref (b17 17), .null, .null, .null, .int 0, .null, .null, .null, .null, .int 0, .null, .null, .null, .null, .null, .null, .null, .null, .null, .int 0, .int 0, .null, .null]))) (up3 _ _ _ _ (by decide)) ?_
  refine x_aload_n F dX5_init_34 rfl 0 rfl ?_
  refine x_bipush F (v := 25) dX5_init_35 (by decide) ?_
  refine x_newI F 18 (N := 25) (by decide) (by decide) (by decide) (by decide) ⟨Nat.le_of_ble_eq_true rfl, Nat.le_of_ble_eq_true rfl⟩ dX5_init_37 (fun b18 hb18 => ?_)
  rw [← hb18 13 (by decide), ← hb18 14 (by decide), ← hb18 15 (by decide), ← hb18 16 (by decide), ← hb18 17 (by decide)]
  refine x_putF F (T := TX5) (N := 27) (ty := tyX5 5) tyX5 tyX5_ok nmX5 (by decide) ((up_ne _ _ (by decide)).trans (up_at _ _ _)) rfl (k_hin5 F) 5 (by decide) (F.2.2.2.2.word 610 (by decide +kernel) rfl args) rfl rfl hnm rfl (tyX5_ok 5 (by decide)) rfl rfl (Nat.le_of_ble_eq_true rfl) dX5_init_39 ?_
  refine x_world (w' := va_up (va_up _ 18 (.inl (cy 0, 25, .inl fun _ => 0))) 13 (.inr (5, [.int 0, .ref (b18 14), .ref (b18 15), .ref (b18 16), .ref (b18 17), .ref (b18 18), .null, .null, .int 0, .null, .null, .null, .null, .int 0, .null, .null, .null, .null, .null, .null, .null, .null, .null, .int 0, .int 0, .null, .null]))) (up3 _ _ _ _ (by decide)) ?_
  refine x_aload_n F dX5_init_42 rfl 0 rfl ?_
  refine x_bipush F (v := 25) dX5_init_43 (by decide) ?_
  refine x_newJ F 19 (N := 25) (by decide) (by decide) (by decide) (by decide) ⟨Nat.le_of_ble_eq_true rfl, Nat.le_of_ble_eq_true rfl⟩ dX5_init_45 (fun b19 hb19 => ?_)
  rw [← hb19 13 (by decide), ← hb19 14 (by decide), ← hb19 15 (by decide), ← hb19 16 (by decide), ← hb19 17 (by decide), ← hb19 18 (by decide)]
  refine x_putF F (T := TX5) (N := 27) (ty := tyX5 6) tyX5 tyX5_ok nmX5 (by decide) ((up_ne _ _ (by decide)).trans (up_at _ _ _)) rfl (k_hin5 F) 6 (by decide) (F.2.2.2.2.word 611 (by decide +kernel) rfl args) rfl rfl hnm rfl (tyX5_ok 6 (by decide)) rfl rfl (Nat.le_of_ble_eq_true rfl) dX5_init_47 ?_
  refine x_world (w' := va_up (va_up _ 19 (.inl (cy 1, 25, .inr (.inl fun _ => 0)))) 13 (.inr (5, [.int 0, .ref (b19 14), .ref (b19 15), .ref (b19 16), .ref (b19 17), .ref (b19 18), .ref (b19 19), .null, .int 0, .null, .null, .null, .null, .int 0, .null, .null, .null, .null, .null, .null, .null, .null, .null, .int 0, .int 0, .null, .null]))) (up3 _ _ _ _ (by decide)) ?_
  refine x_aload_n F dX5_init_50 rfl 0 rfl ?_
  refine x_bipush F (v := 25) dX5_init_51 (by decide) ?_
  refine x_newJ F 20 (N := 25) (by decide) (by decide) (by decide) (by decide) ⟨Nat.le_of_ble_eq_true rfl, Nat.le_of_ble_eq_true rfl⟩ dX5_init_53 (fun b20 hb20 => ?_)
  rw [← hb20 13 (by decide), ← hb20 14 (by decide), ← hb20 15 (by decide), ← hb20 16 (by decide), ← hb20 17 (by decide), ← hb20 18 (by decide), ← hb20 19 (by decide)]
  refine x_putF F (T := TX5) (N := 27) (ty := tyX5 7) tyX5 tyX5_ok nmX5 (by decide) ((up_ne _ _ (by decide)).trans (up_at _ _ _)) rfl (k_hin5 F) 7 (by decide) (F.2.2.2.2.word 612 (by decide +kernel) rfl args) rfl rfl hnm rfl (tyX5_ok 7 (by decide)) rfl rfl (Nat.le_of_ble_eq_true rfl) dX5_init_55 ?_
  refine x_world (w' := va_up (va_up _ 20 (.inl (cy 1, 25, .inr (.inl fun _ => 0)))) 13 (.inr (5, [.int 0, .ref (b20 14), .ref (b20 15), .ref (b20 16), .ref (b20 17), .ref (b20 18), .ref (b20 19), .ref (b20 20), .int 0, .null, .null, .null, .null, .int 0, .null, .null, .null, .null, .null, .null, .null, .null, .null, .int 0, .int 0, .null, .null]))) (up3 _ _ _ _ (by decide)) ?_
  refine x_aload_n F dX5_init_58 rfl 0 rfl ?_
  refine x_bipush F (v := 20) dX5_init_59 (by decide) ?_
  refine x_newI F 21 (N := 20) (by decide) (by decide) (by decide) (by decide) ⟨Nat.le_of_ble_eq_true rfl, Nat.le_of_ble_eq_true rfl⟩ dX5_init_61 (fun b21 hb21 => ?_)
  rw [← hb21 13 (by decide), ← hb21 14 (by decide), ← hb21 15 (by decide), ← hb21 16 (by decide), ← hb21 17 (by decide), ← hb21 18 (by decide), ← hb21 19 (by decide), ← hb21 20 (by decide)]
  refine x_putF F (T := TX5) (N := 27) (ty := tyX5 9) tyX5 tyX5_ok nmX5 (by decide) ((up_ne _ _ (by decide)).trans (up_at _ _ _)) rfl (k_hin5 F) 9 (by decide) (F.2.2.2.2.word 614 (by decide +kernel) rfl args) rfl rfl hnm rfl (tyX5_ok 9 (by decide)) rfl rfl (Nat.le_of_ble_eq_true rfl) dX5_init_63 ?_
  refine x_world (w' := va_up (va_up _ 21 (.inl (cy 0, 20, .inl fun _ => 0))) 13 (.inr (5, [.int 0, .ref (b21 14), .ref (b21 15), .ref (b21 16), .ref (b21 17), .ref (b21 18), .ref (b21 19), .ref (b21 20), .int 0, .ref (b21 21), .null, .null, .null, .int 0, .null, .null, .null, .null, .null, .null, .null, .null, .null, .int 0, .int 0, .null, .null]))) (up3 _ _ _ _ (by decide)) ?_
  refine x_aload_n F dX5_init_66 rfl 0 rfl ?_
  refine x_sipush F (v := 200) dX5_init_67 (by decide) ?_
  refine x_newI F 22 (N := 200) (by decide) (by decide) (by decide) (by decide) ⟨Nat.le_of_ble_eq_true rfl, Nat.le_of_ble_eq_true rfl⟩ dX5_init_70 (fun b22 hb22 => ?_)
  rw [← hb22 13 (by decide), ← hb22 14 (by decide), ← hb22 15 (by decide), ← hb22 16 (by decide), ← hb22 17 (by decide), ← hb22 18 (by decide), ← hb22 19 (by decide), ← hb22 20 (by decide), ← hb22 21 (by decide)]
  refine x_putF F (T := TX5) (N := 27) (ty := tyX5 10) tyX5 tyX5_ok nmX5 (by decide) ((up_ne _ _ (by decide)).trans (up_at _ _ _)) rfl (k_hin5 F) 10 (by decide) (F.2.2.2.2.word 615 (by decide +kernel) rfl args) rfl rfl hnm rfl (tyX5_ok 10 (by decide)) rfl rfl (Nat.le_of_ble_eq_true rfl) dX5_init_72 ?_
  refine x_world (w' := va_up (va_up _ 22 (.inl (cy 0, 200, .inl fun _ => 0))) 13 (.inr (5, [.int 0, .ref (b22 14), .ref (b22 15), .ref (b22 16), .ref (b22 17), .ref (b22 18), .ref (b22 19), .ref (b22 20), .int 0, .ref (b22 21), .ref (b22 22), .null, .null, .int 0, .null, .null, .null, .null, .null, .null, .null, .null, .null, .int 0, .int 0, .null, .null]))) (up3 _ _ _ _ (by decide)) ?_
  refine x_aload_n F dX5_init_75 rfl 0 rfl ?_
  refine x_bipush F (v := 20) dX5_init_76 (by decide) ?_
  refine x_newI F 23 (N := 20) (by decide) (by decide) (by decide) (by decide) ⟨Nat.le_of_ble_eq_true rfl, Nat.le_of_ble_eq_true rfl⟩ dX5_init_78 (fun b23 hb23 => ?_)
  rw [← hb23 13 (by decide), ← hb23 14 (by decide), ← hb23 15 (by decide), ← hb23 16 (by decide), ← hb23 17 (by decide), ← hb23 18 (by decide), ← hb23 19 (by decide), ← hb23 20 (by decide), ← hb23 21 (by decide), ← hb23 22 (by decide)]
  refine x_putF F (T := TX5) (N := 27) (ty := tyX5 11) tyX5 tyX5_ok nmX5 (by decide) ((up_ne _ _ (by decide)).trans (up_at _ _ _)) rfl (k_hin5 F) 11 (by decide) (F.2.2.2.2.word 616 (by decide +kernel) rfl args) rfl rfl hnm rfl (tyX5_ok 11 (by decide)) rfl rfl (Nat.le_of_ble_eq_true rfl) dX5_init_80 ?_
  refine x_world (w' := va_up (va_up _ 23 (.inl (cy 0, 20, .inl fun _ => 0))) 13 (.inr (5, [.int 0, .ref (b23 14), .ref (b23 15), .ref (b23 16), .ref (b23 17), .ref (b23 18), .ref (b23 19), .ref (b23 20), .int 0, .ref (b23 21), .ref (b23 22), .ref (b23 23), .null, .int 0, .null, .null, .null, .null, .null, .null, .null, .null, .null, .int 0, .int 0, .null, .null]))) (up3 _ _ _ _ (by decide)) ?_
  refine x_aload_n F dX5_init_83 rfl 0 rfl ?_
  refine x_bipush F (v := 20) dX5_init_84 (by decide) ?_
  refine x_newI F 24 (N := 20) (by decide) (by decide) (by decide) (by decide) ⟨Nat.le_of_ble_eq_true rfl, Nat.le_of_ble_eq_true rfl⟩ dX5_init_86 (fun b24 hb24 => ?_)
  rw [← hb24 13 (by decide), ← hb24 14 (by decide), ← hb24 15 (by decide), ← hb24 16 (by decide), ← hb24 17 (by decide), ← hb24 18 (by decide), ← hb24 19 (by decide), ← hb24 20 (by decide), ← hb24 21 (by decide), ← hb24 22 (by decide), ← hb24 23 (by decide)]
  refine x_putF F (T := TX5) (N := 27) (ty := tyX5 12) tyX5 tyX5_ok nmX5 (by decide) ((up_ne _ _ (by decide)).trans (up_at _ _ _)) rfl (k_hin5 F) 12 (by decide) (F.2.2.2.2.word 617 (by decide +kernel) rfl args) rfl rfl hnm rfl (tyX5_ok 12 (by decide)) rfl rfl (Nat.le_of_ble_eq_true rfl) dX5_init_88 ?_
  refine x_world (w' := va_up (va_up _ 24 (.inl (cy 0, 20, .inl fun _ => 0))) 13 (.inr (5, [.int 0, .ref (b24 14), .ref (b24 15), .ref (b24 16), .ref (b24 17), .ref (b24 18), .ref (b24 19), .ref (b24 20), .int 0, .ref (b24 21), .ref (b24 22), .ref (b24 23), .ref (b24 24), .int 0, .null, .null, .null, .null, .null, .null, .null, .null, .null, .int 0, .int 0, .null, .null]))) (up3 _ _ _ _ (by decide)) ?_
  refine x_aload_n F dX5_init_91 rfl 0 rfl ?_
  refine x_bipush F (v := 60) dX5_init_92 (by decide) ?_
  refine x_newI F 25 (N := 60) (by decide) (by decide) (by decide) (by decide) ⟨Nat.le_of_ble_eq_true rfl, Nat.le_of_ble_eq_true rfl⟩ dX5_init_94 (fun b25 hb25 => ?_)
  rw [← hb25 13 (by decide), ← hb25 14 (by decide), ← hb25 15 (by decide), ← hb25 16 (by decide), ← hb25 17 (by decide), ← hb25 18 (by decide), ← hb25 19 (by decide), ← hb25 20 (by decide), ← hb25 21 (by decide), ← hb25 22 (by decide), ← hb25 23 (by decide), ← hb25 24 (by decide)]
  refine x_putF F (T := TX5) (N := 27) (ty := tyX5 14) tyX5 tyX5_ok nmX5 (by decide) ((up_ne _ _ (by decide)).trans (up_at _ _ _)) rfl (k_hin5 F) 14 (by decide) (F.2.2.2.2.word 619 (by decide +kernel) rfl args) rfl rfl hnm rfl (tyX5_ok 14 (by decide)) rfl rfl (Nat.le_of_ble_eq_true rfl) dX5_init_96 ?_
  refine x_world (w' := va_up (va_up _ 25 (.inl (cy 0, 60, .inl fun _ => 0))) 13 (.inr (5, [.int 0, .ref (b25 14), .ref (b25 15), .ref (b25 16), .ref (b25 17), .ref (b25 18), .ref (b25 19), .ref (b25 20), .int 0, .ref (b25 21), .ref (b25 22), .ref (b25 23), .ref (b25 24), .int 0, .ref (b25 25), .null, .null, .null, .null, .null, .null, .null, .null, .int 0, .int 0, .null, .null]))) (up3 _ _ _ _ (by decide)) ?_
  refine x_aload_n F dX5_init_99 rfl 0 rfl ?_
  refine x_bipush F (v := 60) dX5_init_100 (by decide) ?_
  refine x_newI F 26 (N := 60) (by decide) (by decide) (by decide) (by decide) ⟨Nat.le_of_ble_eq_true rfl, Nat.le_of_ble_eq_true rfl⟩ dX5_init_102 (fun b26 hb26 => ?_)
  rw [← hb26 13 (by decide), ← hb26 14 (by decide), ← hb26 15 (by decide), ← hb26 16 (by decide), ← hb26 17 (by decide), ← hb26 18 (by decide), ← hb26 19 (by decide), ← hb26 20 (by decide), ← hb26 21 (by decide), ← hb26 22 (by decide), ← hb26 23 (by decide), ← hb26 24 (by decide), ← hb26 25 (by decide)]
  refine x_putF F (T := TX5) (N := 27) (ty := tyX5 15) tyX5 tyX5_ok nmX5 (by decide) ((up_ne _ _ (by decide)).trans (up_at _ _ _)) rfl (k_hin5 F) 15 (by decide) (F.2.2.2.2.word 620 (by decide +kernel) rfl args) rfl rfl hnm rfl (tyX5_ok 15 (by decide)) rfl rfl (Nat.le_of_ble_eq_true rfl) dX5_init_104 ?_
  refine x_world (w' := va_up (va_up _ 26 (.inl (cy 0, 60, .inl fun _ => 0))) 13 (.inr (5, [.int 0, .ref (b26 14), .ref (b26 15), .ref (b26 16), .ref (b26 17), .ref (b26 18), .ref (b26 19), .ref (b26 20), .int 0, .ref (b26 21), .ref (b26 22), .ref (b26 23), .ref (b26 24), .int 0, .ref (b26 25), .ref (b26 26), .null, .null, .null, .null, .null, .null, .null, .int 0, .int 0, .null, .null]))) (up3 _ _ _ _ (by decide)) ?_
  refine x_aload_n F dX5_init_107 rfl 0 rfl ?_
  refine x_bipush F (v := 60) dX5_init_108 (by decide) ?_
  refine x_newI F 27 (N := 60) (by decide) (by decide) (by decide) (by decide) ⟨Nat.le_of_ble_eq_true rfl, Nat.le_of_ble_eq_true rfl⟩ dX5_init_110 (fun b27 hb27 => ?_)
  rw [← hb27 13 (by decide), ← hb27 14 (by decide), ← hb27 15 (by decide), ← hb27 16 (by decide), ← hb27 17 (by decide), ← hb27 18 (by decide), ← hb27 19 (by decide), ← hb27 20 (by decide), ← hb27 21 (by decide), ← hb27 22 (by decide), ← hb27 23 (by decide), ← hb27 24 (by decide), ← hb27 25 (by decide), ← hb27 26 (by decide)]
  refine x_putF F (T := TX5) (N := 27) (ty := tyX5 16) tyX5 tyX5_ok nmX5 (by decide) ((up_ne _ _ (by decide)).trans (up_at _ _ _)) rfl (k_hin5 F) 16 (by decide) (F.2.2.2.2.word 621 (by decide +kernel) rfl args) rfl rfl hnm rfl (tyX5_ok 16 (by decide)) rfl rfl (Nat.le_of_ble_eq_true rfl) dX5_init_112 ?_
  refine x_world (w' := va_up (va_up _ 27 (.inl (cy 0, 60, .inl fun _ => 0))) 13 (.inr (5, [.int 0, .ref (b27 14), .ref (b27 15), .ref (b27 16), .ref (b27 17), .ref (b27 18), .ref (b27 19), .ref (b27 20), .int 0, .ref (b27 21), .ref (b27 22), .ref (b27 23), .ref (b27 24), .int 0, .ref (b27 25), .ref (b27 26), .ref (b27 27), .null, .null, .null, .null, .null, .null, .int 0, .int 0, .null, .null]))) (up3 _ _ _ _ (by decide)) ?_
  refine x_aload_n F dX5_init_115 rfl 0 rfl ?_
  refine x_bipush F (v := 60) dX5_init_116 (by decide) ?_
  refine x_newI F 28 (N := 60) (by decide) (by decide) (by decide) (by decide) ⟨Nat.le_of_ble_eq_true rfl, Nat.le_of_ble_eq_true rfl⟩ dX5_init_118 (fun b28 hb28 => ?_)
  rw [← hb28 13 (by decide), ← hb28 14 (by decide), ← hb28 15 (by decide), ← hb28 16 (by decide), ← hb28 17 (by decide), ← hb28 18 (by decide), ← hb28 19 (by decide), ← hb28 20 (by decide), ← hb28 21 (by decide), ← hb28 22 (by decide), ← hb28 23 (by decide), ← hb28 24 (by decide), ← hb28 25 (by decide), ← hb28 26 (by decide), ← hb28 27 (by decide)]
  refine x_putF F (T := TX5) (N := 27) (ty := tyX5 17) tyX5 tyX5_ok nmX5 (by decide) ((up_ne _ _ (by decide)).trans (up_at _ _ _)) rfl (k_hin5 F) 17 (by decide) (F.2.2.2.2.word 622 (by decide +kernel) rfl args) rfl rfl hnm rfl (tyX5_ok 17 (by decide)) rfl rfl (Nat.le_of_ble_eq_true rfl) dX5_init_120 ?_
  refine x_world (w' := va_up (va_up _ 28 (.inl (cy 0, 60, .inl fun _ => 0))) 13 (.inr (5, [.int 0, .ref (b28 14), .ref (b28 15), .ref (b28 16), .ref (b28 17), .ref (b28 18), .ref (b28 19), .ref (b28 20), .int 0, .ref (b28 21), .ref (b28 22), .ref (b28 23), .ref (b28 24), .int 0, .ref (b28 25), .ref (b28 26), .ref (b28 27), .ref (b28 28), .null, .null, .null, .null, .null, .int 0, .int 0, .null, .null]))) (up3 _ _ _ _ (by decide)) ?_
  refine x_aload_n F dX5_init_123 rfl 0 rfl ?_
  refine x_bipush F (v := 60) dX5_init_124 (by decide) ?_
  refine x_newI F 29 (N := 60) (by decide) (by decide) (by decide) (by decide) ⟨Nat.le_of_ble_eq_true rfl, Nat.le_of_ble_eq_true rfl⟩ dX5_init_126 (fun b29 hb29 => ?_)
  rw [← hb29 13 (by decide), ← hb29 14 (by decide), ← hb29 15 (by decide), ← hb29 16 (by decide), ← hb29 17 (by decide), ← hb29 18 (by decide), ← hb29 19 (by decide), ← hb29 20 (by decide), ← hb29 21 (by decide), ← hb29 22 (by decide), ← hb29 23 (by decide), ← hb29 24 (by decide), ← hb29 25 (by decide), ← hb29 26 (by decide), ← hb29 27 (by decide), ← hb29 28 (by decide)]
  refine x_putF F (T := TX5) (N := 27) (ty := tyX5 18) tyX5 tyX5_ok nmX5 (by decide) ((up_ne _ _ (by decide)).trans (up_at _ _ _)) rfl (k_hin5 F) 18 (by decide) (F.2.2.2.2.word 623 (by decide +kernel) rfl args) rfl rfl hnm rfl (tyX5_ok 18 (by decide)) rfl rfl (Nat.le_of_ble_eq_true rfl) dX5_init_128 ?_
  refine x_world (w' := va_up (va_up _ 29 (.inl (cy 0, 60, .inl fun _ => 0))) 13 (.inr (5, [.int 0, .ref (b29 14), .ref (b29 15), .ref (b29 16), .ref (b29 17), .ref (b29 18), .ref (b29 19), .ref (b29 20), .int 0, .ref (b29 21), .ref (b29 22), .ref (b29 23), .ref (b29 24), .int 0, .ref (b29 25), .ref (b29 26), .ref (b29 27), .ref (b29 28), .ref (b29 29), .null, .null, .null, .null, .int 0, .int 0, .null, .null]))) (up3 _ _ _ _ (by decide)) ?_
  refine x_aload_n F dX5_init_131 rfl 0 rfl ?_
  refine x_bipush F (v := 60) dX5_init_132 (by decide) ?_
  refine x_newI F 30 (N := 60) (by decide) (by decide) (by decide) (by decide) ⟨Nat.le_of_ble_eq_true rfl, Nat.le_of_ble_eq_true rfl⟩ dX5_init_134 (fun b30 hb30 => ?_)
  rw [← hb30 13 (by decide), ← hb30 14 (by decide), ← hb30 15 (by decide), ← hb30 16 (by decide), ← hb30 17 (by decide), ← hb30 18 (by decide), ← hb30 19 (by decide), ← hb30 20 (by decide), ← hb30 21 (by decide), ← hb30 22 (by decide), ← hb30 23 (by decide), ← hb30 24 (by decide), ← hb30 25 (by decide), ← hb30 26 (by decide), ← hb30 27 (by decide), ← hb30 28 (by decide), ← hb30 29 (by decide)]
  refine x_putF F (T := TX5) (N := 27) (ty := tyX5 19) tyX5 tyX5_ok nmX5 (by decide) ((up_ne _ _ (by decide)).trans (up_at _ _ _)) rfl (k_hin5 F) 19 (by decide) (F.2.2.2.2.word 624 (by decide +kernel) rfl args) rfl rfl hnm rfl (tyX5_ok 19 (by decide)) rfl rfl (Nat.le_of_ble_eq_true rfl) dX5_init_136 ?_
  refine x_world (w' := va_up (va_up _ 30 (.inl (cy 0, 60, .inl fun _ => 0))) 13 (.inr (5, [.int 0, .ref (b30 14), .ref (b30 15), .ref (b30 16), .ref (b30 17), .ref (b30 18), .ref (b30 19), .ref (b30 20), .int 0, .ref (b30 21), .ref (b30 22), .ref (b30 23), .ref (b30 24), .int 0, .ref (b30 25), .ref (b30 26), .ref (b30 27), .ref (b30 28), .ref (b30 29), .ref (b30 30), .null, .null, .null, .int 0, .int 0, .null, .null]))) (up3 _ _ _ _ (by decide)) ?_
  refine x_aload_n F dX5_init_139 rfl 0 rfl ?_
  refine x_bipush F (v := 60) dX5_init_140 (by decide) ?_
  refine x_newI F 31 (N := 60) (by decide) (by decide) (by decide) (by decide) ⟨Nat.le_of_ble_eq_true rfl, Nat.le_of_ble_eq_true rfl⟩ dX5_init_142 (fun b31 hb31 => ?_)
  rw [← hb31 13 (by decide), ← hb31 14 (by decide), ← hb31 15 (by decide), ← hb31 16 (by decide), ← hb31 17 (by decide), ← hb31 18 (by decide), ← hb31 19 (by decide), ← hb31 20 (by decide), ← hb31 21 (by decide), ← hb31 22 (by decide), ← hb31 23 (by decide), ← hb31 24 (by decide), ← hb31 25 (by decide), ← hb31 26 (by decide), ← hb31 27 (by decide), ← hb31 28 (by decide), ← hb31 29 (by decide), ← hb31 30 (by decide)]
  refine x_putF F (T := TX5) (N := 27) (ty := tyX5 20) tyX5 tyX5_ok nmX5 (by decide) ((up_ne _ _ (by decide)).trans (up_at _ _ _)) rfl (k_hin5 F) 20 (by decide) (F.2.2.2.2.word 625 (by decide +kernel) rfl args) rfl rfl hnm rfl (tyX5_ok 20 (by decide)) rfl rfl (Nat.le_of_ble_eq_true rfl) dX5_init_144 ?_
  refine x_world (w' := va_up (va_up _ 31 (.inl (cy 0, 60, .inl fun _ => 0))) 13 (.inr (5, [.int 0, .ref (b31 14), .ref (b31 15), .ref (b31 16), .ref (b31 17), .ref (b31 18), .ref (b31 19), .ref (b31 20), .int 0, .ref (b31 21), .ref (b31 22), .ref (b31 23), .ref (b31 24), .int 0, .ref (b31 25), .ref (b31 26), .ref (b31 27), .ref (b31 28), .ref (b31 29), .ref (b31 30), .ref (b31 31), .null, .null, .int 0, .int 0, .null, .null]))) (up3 _ _ _ _ (by decide)) ?_
  refine x_aload_n F dX5_init_147 rfl 0 rfl ?_
  refine x_bipush F (v := 60) dX5_init_148 (by decide) ?_
  refine x_newI F 32 (N := 60) (by decide) (by decide) (by decide) (by decide) ⟨Nat.le_of_ble_eq_true rfl, Nat.le_of_ble_eq_true rfl⟩ dX5_init_150 (fun b32 hb32 => ?_)
  rw [← hb32 13 (by decide), ← hb32 14 (by decide), ← hb32 15 (by decide), ← hb32 16 (by decide), ← hb32 17 (by decide), ← hb32 18 (by decide), ← hb32 19 (by decide), ← hb32 20 (by decide), ← hb32 21 (by decide), ← hb32 22 (by decide), ← hb32 23 (by decide), ← hb32 24 (by decide), ← hb32 25 (by decide), ← hb32 26 (by decide), ← hb32 27 (by decide), ← hb32 28 (by decide), ← hb32 29 (by decide), ← hb32 30 (by decide), ← hb32 31 (by decide)]
  refine x_putF F (T := TX5) (N := 27) (ty := tyX5 21) tyX5 tyX5_ok nmX5 (by decide) ((up_ne _ _ (by decide)).trans (up_at _ _ _)) rfl (k_hin5 F) 21 (by decide) (F.2.2.2.2.word 626 (by decide +kernel) rfl args) rfl rfl hnm rfl (tyX5_ok 21 (by decide)) rfl rfl (Nat.le_of_ble_eq_true rfl) dX5_init_152 ?_
  refine x_world (w' := va_up (va_up _ 32 (.inl (cy 0, 60, .inl fun _ => 0))) 13 (.inr (5, [.int 0, .ref (b32 14), .ref (b32 15), .ref (b32 16), .ref (b32 17), .ref (b32 18), .ref (b32 19), .ref (b32 20), .int 0, .ref (b32 21), .ref (b32 22), .ref (b32 23), .ref (b32 24), .int 0, .ref (b32 25), .ref (b32 26), .ref (b32 27), .ref (b32 28), .ref (b32 29), .ref (b32 30), .ref (b32 31), .ref (b32 32), .null, .int 0, .int 0, .null, .null]))) (up3 _ _ _ _ (by decide)) ?_
  refine x_aload_n F dX5_init_155 rfl 0 rfl ?_
  refine x_sipush F (v := 300) dX5_init_156 (by decide) ?_
  refine x_newI F 33 (N := 300) (by decide) (by decide) (by decide) (by decide) ⟨Nat.le_of_ble_eq_true rfl, Nat.le_of_ble_eq_true rfl⟩ dX5_init_159 (fun b33 hb33 => ?_)
  rw [← hb33 13 (by decide), ← hb33 14 (by decide), ← hb33 15 (by decide), ← hb33 16 (by decide), ← hb33 17 (by decide), ← hb33 18 (by decide), ← hb33 19 (by decide), ← hb33 20 (by decide), ← hb33 21 (by decide), ← hb33 22 (by decide), ← hb33 23 (by decide), ← hb33 24 (by decide), ← hb33 25 (by decide), ← hb33 26 (by decide), ← hb33 27 (by decide), ← hb33 28 (by decide), ← hb33 29 (by decide), ← hb33 30 (by decide), ← hb33 31 (by decide), ← hb33 32 (by decide)]
  refine x_putF F (T := TX5) (N := 27) (ty := tyX5 22) tyX5 tyX5_ok nmX5 (by decide) ((up_ne _ _ (by decide)).trans (up_at _ _ _)) rfl (k_hin5 F) 22 (by decide) (F.2.2.2.2.word 627 (by decide +kernel) rfl args) rfl rfl hnm rfl (tyX5_ok 22 (by decide)) rfl rfl (Nat.le_of_ble_eq_true rfl) dX5_init_161 ?_
  refine x_world (w' := va_up (va_up _ 33 (.inl (cy 0, 300, .inl fun _ => 0))) 13 (.inr (5, [.int 0, .ref (b33 14), .ref (b33 15), .ref (b33 16), .ref (b33 17), .ref (b33 18), .ref (b33 19), .ref (b33 20), .int 0, .ref (b33 21), .ref (b33 22), .ref (b33 23), .ref (b33 24), .int 0, .ref (b33 25), .ref (b33 26), .ref (b33 27), .ref (b33 28), .ref (b33 29), .ref (b33 30), .ref (b33 31), .ref (b33 32), .ref (b33 33), .int 0, .int 0, .null, .null]))) (up3 _ _ _ _ (by decide)) ?_
  refine x_aload_n F dX5_init_164 rfl 0 rfl ?_
  refine x_iconst F (v := 5) dX5_init_165 (by decide) ?_
  refine x_newI F 34 (N := 5) (by decide) (by decide) (by decide) (by decide) ⟨Nat.le_of_ble_eq_true rfl, Nat.le_of_ble_eq_true rfl⟩ dX5_init_166 (fun b34 hb34 => ?_)
  rw [← hb34 13 (by decide), ← hb34 14 (by decide), ← hb34 15 (by decide), ← hb34 16 (by decide), ← hb34 17 (by decide), ← hb34 18 (by decide), ← hb34 19 (by decide), ← hb34 20 (by decide), ← hb34 21 (by decide), ← hb34 22 (by decide), ← hb34 23 (by decide), ← hb34 24 (by decide), ← hb34 25 (by decide), ← hb34 26 (by decide), ← hb34 27 (by decide), ← hb34 28 (by decide), ← hb34 29 (by decide), ← hb34 30 (by decide), ← hb34 31 (by decide), ← hb34 32 (by decide), ← hb34 33 (by decide)]
  refine x_putF F (T := TX5) (N := 27) (ty := tyX5 25) tyX5 tyX5_ok nmX5 (by decide) ((up_ne _ _ (by decide)).trans (up_at _ _ _)) rfl (k_hin5 F) 25 (by decide) (F.2.2.2.2.word 630 (by decide +kernel) rfl args) rfl rfl hnm rfl (tyX5_ok 25 (by decide)) rfl rfl (Nat.le_of_ble_eq_true rfl) dX5_init_168 ?_
  refine x_world (w' := va_up (va_up _ 34 (.inl (cy 0, 5, .inl fun _ => 0))) 13 (.inr (5, [.int 0, .ref (b34 14), .ref (b34 15), .ref (b34 16), .ref (b34 17), .ref (b34 18), .ref (b34 19), .ref (b34 20), .int 0, .ref (b34 21), .ref (b34 22), .ref (b34 23), .ref (b34 24), .int 0, .ref (b34 25), .ref (b34 26), .ref (b34 27), .ref (b34 28), .ref (b34 29), .ref (b34 30), .ref (b34 31), .ref (b34 32), .ref (b34 33), .int 0, .int 0, .ref (b34 34), .null]))) (up3 _ _ _ _ (by decide)) ?_
  refine x_aload_n F dX5_init_171 rfl 0 rfl ?_
  refine x_iconst F (v := 5) dX5_init_172 (by decide) ?_
  refine x_newI F 35 (N := 5) (by decide) (by decide) (by decide) (by decide) ⟨Nat.le_of_ble_eq_true rfl, Nat.le_of_ble_eq_true rfl⟩ dX5_init_173 (fun b35 hb35 => ?_)
  rw [← hb35 13 (by decide), ← hb35 14 (by decide), ← hb35 15 (by decide), ← hb35 16 (by decide), ← hb35 17 (by decide), ← hb35 18 (by decide), ← hb35 19 (by decide), ← hb35 20 (by decide), ← hb35 21 (by decide), ← hb35 22 (by decide), ← hb35 23 (by decide), ← hb35 24 (by decide), ← hb35 25 (by decide), ← hb35 26 (by decide), ← hb35 27 (by decide), ← hb35 28 (by decide), ← hb35 29 (by decide), ← hb35 30 (by decide), ← hb35 31 (by decide), ← hb35 32 (by decide), ← hb35 33 (by decide), ← hb35 34 (by decide)]
  refine x_putF F (T := TX5) (N := 27) (ty := tyX5 26) tyX5 tyX5_ok nmX5 (by decide) ((up_ne _ _ (by decide)).trans (up_at _ _ _)) rfl (k_hin5 F) 26 (by decide) (F.2.2.2.2.word 631 (by decide +kernel) rfl args) rfl rfl hnm rfl (tyX5_ok 26 (by decide)) rfl rfl (Nat.le_of_ble_eq_true rfl) dX5_init_175 ?_
  refine x_world (w' := va_up (va_up _ 35 (.inl (cy 0, 5, .inl fun _ => 0))) 13 (.inr (5, [.int 0, .ref (b35 14), .ref (b35 15), .ref (b35 16), .ref (b35 17), .ref (b35 18), .ref (b35 19), .ref (b35 20), .int 0, .ref (b35 21), .ref (b35 22), .ref (b35 23), .ref (b35 24), .int 0, .ref (b35 25), .ref (b35 26), .ref (b35 27), .ref (b35 28), .ref (b35 29), .ref (b35 30), .ref (b35 31), .ref (b35 32), .ref (b35 33), .int 0, .int 0, .ref (b35 34), .ref (b35 35)]))) (up3 _ _ _ _ (by decide)) ?_
  refine x_iconst F (v := 0) dX5_init_178 (by decide) ?_
  refine x_istore_n F [(1, .int 0), (0, .ref (b35 13))] dX5_init_179 rfl (by decide) rfl ?_
  refine x_iload_n F dX5_init_180 rfl 0 rfl ?_
  refine x_iconst F (v := 5) dX5_init_181 (by decide) ?_
  refine x_icmp_ge F 206 dX5_init_182 (by decide) (fun h => False.elim (by revert h; decide)) (fun _ => ?_)
  refine x_aload_n F dX5_init_185 rfl 1 rfl ?_
  refine g_X5_7 F (by decide) ((up_at _ _ _)) rfl dX5_init_186 ?_
  refine x_iload_n F dX5_init_189 rfl 0 rfl ?_
  refine x_iconst F (v := 1) dX5_init_190 (by decide) ?_
  refine x_iast F (r := 14) (by decide) ((up_ne _ _ (by decide)).trans ((up_ne _ _ (by decide)).trans ((up_ne _ _ (by decide)).trans ((up_ne _ _ (by decide)).trans ((up_ne _ _ (by decide)).trans ((up_ne _ _ (by decide)).trans ((up_ne _ _ (by decide)).trans ((up_ne _ _ (by decide)).trans ((up_ne _ _ (by decide)).trans ((up_ne _ _ (by decide)).trans ((up_ne _ _ (by decide)).trans ((up_ne _ _ (by decide)).trans ((up_ne _ _ (by decide)).trans ((up_ne _ _ (by decide)).trans ((up_ne _ _ (by decide)).trans ((up_ne _ _ (by decide)).trans ((up_ne _ _ (by decide)).trans ((up_ne _ _ (by decide)).trans ((up_ne _ _ (by decide)).trans ((up_ne _ _ (by decide)).trans ((up_ne _ _ (by decide)).trans ((up_ne _ _ (by decide)).trans (up_at _ _ _))))))))))))))))))))))) (show vp_in (nI 0) 5 from vp_in_nI (by decide) (by decide)) dX5_init_191 ?_
  refine x_aload_n F dX5_init_192 rfl 1 rfl ?_
  refine g_X5_13 F (by decide) ((up_ne _ _ (by decide)).trans (up_at _ _ _)) rfl dX5_init_193 ?_
  refine x_iload_n F dX5_init_196 rfl 0 rfl ?_
  refine x_bipush F (v := 10) dX5_init_197 (by decide) ?_
  refine x_iast F (r := 15) (by decide) ((up_ne _ _ (by decide)).trans ((up_ne _ _ (by decide)).trans ((up_ne _ _ (by decide)).trans ((up_ne _ _ (by decide)).trans ((up_ne _ _ (by decide)).trans ((up_ne _ _ (by decide)).trans ((up_ne _ _ (by decide)).trans ((up_ne _ _ (by decide)).trans ((up_ne _ _ (by decide)).trans ((up_ne _ _ (by decide)).trans ((up_ne _ _ (by decide)).trans ((up_ne _ _ (by decide)).trans ((up_ne _ _ (by decide)).trans ((up_ne _ _ (by decide)).trans ((up_ne _ _ (by decide)).trans ((up_ne _ _ (by decide)).trans ((up_ne _ _ (by decide)).trans ((up_ne _ _ (by decide)).trans ((up_ne _ _ (by decide)).trans ((up_ne _ _ (by decide)).trans ((up_ne _ _ (by decide)).trans ((up_ne _ _ (by decide)).trans (up_at _ _ _))))))))))))))))))))))) (show vp_in (nI 0) 5 from vp_in_nI (by decide) (by decide)) dX5_init_199 ?_
  refine x_iinc F [(1, .int (nI 1)), (0, .ref (b35 13))] dX5_init_200 0 rfl (by decide) rfl ?_
  refine x_goto F 180 dX5_init_203 (by decide) ?_
  refine x_iload_n F dX5_init_180 rfl 0 rfl ?_
  refine x_iconst F (v := 5) dX5_init_181 (by decide) ?_
  refine x_icmp_ge F 206 dX5_init_182 (by decide) (fun h => False.elim (by revert h; decide)) (fun _ => ?_)
  refine x_aload_n F dX5_init_185 rfl 1 rfl ?_
  refine g_X5_7 F (by decide) (((up_ne _ _ (by decide)).trans ((up_ne _ _ (by decide)).trans (up_at _ _ _)))) rfl dX5_init_186 ?_
  refine x_iload_n F dX5_init_189 rfl 0 rfl ?_
  refine x_iconst F (v := 1) dX5_init_190 (by decide) ?_
  refine x_iast F (r := 14) (by decide) ((up_ne _ _ (by decide)).trans (up_at _ _ _)) (show vp_in (nI 1) 5 from vp_in_nI (by decide) (by decide)) dX5_init_191 ?_
  refine x_aload_n F dX5_init_192 rfl 1 rfl ?_
  refine g_X5_13 F (by decide) ((up_ne _ _ (by decide)).trans ((up_ne _ _ (by decide)).trans ((up_ne _ _ (by decide)).trans (up_at _ _ _)))) rfl dX5_init_193 ?_
  refine x_iload_n F dX5_init_196 rfl 0 rfl ?_
  refine x_bipush F (v := 10) dX5_init_197 (by decide) ?_
  refine x_iast F (r := 15) (by decide) ((up_ne _ _ (by decide)).trans (up_at _ _ _)) (show vp_in (nI 1) 5 from vp_in_nI (by decide) (by decide)) dX5_init_199 ?_
  refine x_iinc F [(1, .int (nI 2)), (0, .ref (b35 13))] dX5_init_200 0 rfl (by decide) rfl ?_
  refine x_goto F 180 dX5_init_203 (by decide) ?_
  refine x_iload_n F dX5_init_180 rfl 0 rfl ?_
  refine x_iconst F (v := 5) dX5_init_181 (by decide) ?_
  refine x_icmp_ge F 206 dX5_init_182 (by decide) (fun h => False.elim (by revert h; decide)) (fun _ => ?_)
  refine x_aload_n F dX5_init_185 rfl 1 rfl ?_
  refine g_X5_7 F (by decide) (((up_ne _ _ (by decide)).trans ((up_ne _ _ (by decide)).trans ((up_ne _ _ (by decide)).trans ((up_ne _ _ (by decide)).trans (up_at _ _ _)))))) rfl dX5_init_186 ?_
  refine x_iload_n F dX5_init_189 rfl 0 rfl ?_
  refine x_iconst F (v := 1) dX5_init_190 (by decide) ?_
  refine x_iast F (r := 14) (by decide) ((up_ne _ _ (by decide)).trans (up_at _ _ _)) (show vp_in (nI 2) 5 from vp_in_nI (by decide) (by decide)) dX5_init_191 ?_
  refine x_aload_n F dX5_init_192 rfl 1 rfl ?_
  refine g_X5_13 F (by decide) ((up_ne _ _ (by decide)).trans ((up_ne _ _ (by decide)).trans ((up_ne _ _ (by decide)).trans ((up_ne _ _ (by decide)).trans ((up_ne _ _ (by decide)).trans (up_at _ _ _)))))) rfl dX5_init_193 ?_
  refine x_iload_n F dX5_init_196 rfl 0 rfl ?_
  refine x_bipush F (v := 10) dX5_init_197 (by decide) ?_
  refine x_iast F (r := 15) (by decide) ((up_ne _ _ (by decide)).trans (up_at _ _ _)) (show vp_in (nI 2) 5 from vp_in_nI (by decide) (by decide)) dX5_init_199 ?_
  refine x_iinc F [(1, .int (nI 3)), (0, .ref (b35 13))] dX5_init_200 0 rfl (by decide) rfl ?_
  refine x_goto F 180 dX5_init_203 (by decide) ?_
  refine x_iload_n F dX5_init_180 rfl 0 rfl ?_
  refine x_iconst F (v := 5) dX5_init_181 (by decide) ?_
  refine x_icmp_ge F 206 dX5_init_182 (by decide) (fun h => False.elim (by revert h; decide)) (fun _ => ?_)
  refine x_aload_n F dX5_init_185 rfl 1 rfl ?_
  refine g_X5_7 F (by decide) (((up_ne _ _ (by decide)).trans ((up_ne _ _ (by decide)).trans ((up_ne _ _ (by decide)).trans ((up_ne _ _ (by decide)).trans ((up_ne _ _ (by decide)).trans ((up_ne _ _ (by decide)).trans (up_at _ _ _)))))))) rfl dX5_init_186 ?_
  refine x_iload_n F dX5_init_189 rfl 0 rfl ?_
  refine x_iconst F (v := 1) dX5_init_190 (by decide) ?_
  refine x_iast F (r := 14) (by decide) ((up_ne _ _ (by decide)).trans (up_at _ _ _)) (show vp_in (nI 3) 5 from vp_in_nI (by decide) (by decide)) dX5_init_191 ?_
  refine x_aload_n F dX5_init_192 rfl 1 rfl ?_
  refine g_X5_13 F (by decide) ((up_ne _ _ (by decide)).trans ((up_ne _ _ (by decide)).trans ((up_ne _ _ (by decide)).trans ((up_ne _ _ (by decide)).trans ((up_ne _ _ (by decide)).trans ((up_ne _ _ (by decide)).trans ((up_ne _ _ (by decide)).trans (up_at _ _ _)))))))) rfl dX5_init_193 ?_
  refine x_iload_n F dX5_init_196 rfl 0 rfl ?_
  refine x_bipush F (v := 10) dX5_init_197 (by decide) ?_
  refine x_iast F (r := 15) (by decide) ((up_ne _ _ (by decide)).trans (up_at _ _ _)) (show vp_in (nI 3) 5 from vp_in_nI (by decide) (by decide)) dX5_init_199 ?_
  refine x_iinc F [(1, .int (nI 4)), (0, .ref (b35 13))] dX5_init_200 0 rfl (by decide) rfl ?_
  refine x_goto F 180 dX5_init_203 (by decide) ?_
  refine x_iload_n F dX5_init_180 rfl 0 rfl ?_
  refine x_iconst F (v := 5) dX5_init_181 (by decide) ?_
  refine x_icmp_ge F 206 dX5_init_182 (by decide) (fun h => False.elim (by revert h; decide)) (fun _ => ?_)
  refine x_aload_n F dX5_init_185 rfl 1 rfl ?_
  refine g_X5_7 F (by decide) (((up_ne _ _ (by decide)).trans ((up_ne _ _ (by decide)).trans ((up_ne _ _ (by decide)).trans ((up_ne _ _ (by decide)).trans ((up_ne _ _ (by decide)).trans ((up_ne _ _ (by decide)).trans ((up_ne _ _ (by decide)).trans ((up_ne _ _ (by decide)).trans (up_at _ _ _)))))))))) rfl dX5_init_186 ?_
  refine x_iload_n F dX5_init_189 rfl 0 rfl ?_
  refine x_iconst F (v := 1) dX5_init_190 (by decide) ?_
  refine x_iast F (r := 14) (by decide) ((up_ne _ _ (by decide)).trans (up_at _ _ _)) (show vp_in (nI 4) 5 from vp_in_nI (by decide) (by decide)) dX5_init_191 ?_
  refine x_aload_n F dX5_init_192 rfl 1 rfl ?_
  refine g_X5_13 F (by decide) ((up_ne _ _ (by decide)).trans ((up_ne _ _ (by decide)).trans ((up_ne _ _ (by decide)).trans ((up_ne _ _ (by decide)).trans ((up_ne _ _ (by decide)).trans ((up_ne _ _ (by decide)).trans ((up_ne _ _ (by decide)).trans ((up_ne _ _ (by decide)).trans ((up_ne _ _ (by decide)).trans (up_at _ _ _)))))))))) rfl dX5_init_193 ?_
  refine x_iload_n F dX5_init_196 rfl 0 rfl ?_
  refine x_bipush F (v := 10) dX5_init_197 (by decide) ?_
  refine x_iast F (r := 15) (by decide) ((up_ne _ _ (by decide)).trans (up_at _ _ _)) (show vp_in (nI 4) 5 from vp_in_nI (by decide) (by decide)) dX5_init_199 ?_
  refine x_iinc F [(1, .int (nI 5)), (0, .ref (b35 13))] dX5_init_200 0 rfl (by decide) rfl ?_
  refine x_goto F 180 dX5_init_203 (by decide) ?_
  refine x_iload_n F dX5_init_180 rfl 0 rfl ?_
  refine x_iconst F (v := 5) dX5_init_181 (by decide) ?_
  refine x_icmp_ge F 206 dX5_init_182 (by decide) (fun _ => ?_) (fun h => False.elim (by revert h; decide))
  have eL : ∀ y, y ≤ 13 → b35 y = ad y := fun y hy => by rw [hb35 y (by omega), hb34 y (by omega), hb33 y (by omega), hb32 y (by omega), hb31 y (by omega), hb30 y (by omega), hb29 y (by omega), hb28 y (by omega), hb27 y (by omega), hb26 y (by omega), hb25 y (by omega), hb24 y (by omega), hb23 y (by omega), hb22 y (by omega), hb21 y (by omega), hb20 y (by omega), hb19 y (by omega), hb18 y (by omega), hb17 y (by omega), hb16 y (by omega), hb15 y (by omega), hb14 y (by omega)]
  refine x_wc (w' := k_c cy b35 q 0 0 (I1 I) J) ?_ ?_
  · intro x hx
    by_cases h13 : x < 13
    · rw [kc_low (I := I1 I) (ad' := ad) h13 (fun y hy => (eL y (by omega)).symm)]
      have hn : ∀ y, 13 ≤ y → x ≠ y := fun y hy => by omega
      simp only [va_up]
      rw [if_neg (hn 15 (by decide)), if_neg (hn 14 (by decide)), if_neg (hn 15 (by decide)), if_neg (hn 14 (by decide)), if_neg (hn 15 (by decide)), if_neg (hn 14 (by decide)), if_neg (hn 15 (by decide)), if_neg (hn 14 (by decide)), if_neg (hn 15 (by decide)), if_neg (hn 14 (by decide)), if_neg (hn 13 (by decide)), if_neg (hn 35 (by decide)), if_neg (hn 34 (by decide)), if_neg (hn 33 (by decide)), if_neg (hn 32 (by decide)), if_neg (hn 31 (by decide)), if_neg (hn 30 (by decide)), if_neg (hn 29 (by decide)), if_neg (hn 28 (by decide)), if_neg (hn 27 (by decide)), if_neg (hn 26 (by decide)), if_neg (hn 25 (by decide)), if_neg (hn 24 (by decide)), if_neg (hn 23 (by decide)), if_neg (hn 22 (by decide)), if_neg (hn 21 (by decide)), if_neg (hn 20 (by decide)), if_neg (hn 19 (by decide)), if_neg (hn 18 (by decide)), if_neg (hn 17 (by decide)), if_neg (hn 16 (by decide)), if_neg (hn 15 (by decide)), if_neg (hn 14 (by decide))]
      exact kc_I1 h13
    · have hx2 : x = 13 ∨ x = 14 ∨ x = 15 ∨ x = 16 ∨ x = 17 ∨ x = 18 ∨ x = 19 ∨ x = 20 ∨ x = 21 ∨ x = 22 ∨ x = 23 ∨ x = 24 ∨ x = 25 ∨ x = 26 ∨ x = 27 ∨ x = 28 ∨ x = 29 ∨ x = 30 ∨ x = 31 ∨ x = 32 ∨ x = 33 ∨ x = 34 ∨ x = 35 := by have : x < 36 := k_Rm36 x hx; omega
      rcases hx2 with rfl | rfl | rfl | rfl | rfl | rfl | rfl | rfl | rfl | rfl | rfl | rfl | rfl | rfl | rfl | rfl | rfl | rfl | rfl | rfl | rfl | rfl | rfl
      · rw [sc_13]; simp [va_up, I1, hI]
      · rw [sc_14, I1_14 hIz]; simp only [va_up]; simp; funext k; simp [upd]; (try exact upd5 k)
      · rw [sc_15, I1_15 hIz]; simp only [va_up]; simp; funext k; simp [upd]; (try exact upd5 k)
      · rw [sc_16]; rw [I1_o (by decide) (by decide), hIz _ (by decide)]; simp [va_up]
      · rw [sc_17]; rw [I1_o (by decide) (by decide), hIz _ (by decide)]; simp [va_up]
      · rw [sc_18]; rw [I1_o (by decide) (by decide), hIz _ (by decide)]; simp [va_up]
      · rw [sc_19]; rw [hJz _ (by decide)]; simp [va_up]
      · rw [sc_20]; rw [hJz _ (by decide)]; simp [va_up]
      · rw [sc_21]; rw [I1_o (by decide) (by decide), hIz _ (by decide)]; simp [va_up]
      · rw [sc_22]; rw [I1_o (by decide) (by decide), hIz _ (by decide)]; simp [va_up]
      · rw [sc_23]; rw [I1_o (by decide) (by decide), hIz _ (by decide)]; simp [va_up]
      · rw [sc_24]; rw [I1_o (by decide) (by decide), hIz _ (by decide)]; simp [va_up]
      · rw [sc_25]; rw [I1_o (by decide) (by decide), hIz _ (by decide)]; simp [va_up]
      · rw [sc_26]; rw [I1_o (by decide) (by decide), hIz _ (by decide)]; simp [va_up]
      · rw [sc_27]; rw [I1_o (by decide) (by decide), hIz _ (by decide)]; simp [va_up]
      · rw [sc_28]; rw [I1_o (by decide) (by decide), hIz _ (by decide)]; simp [va_up]
      · rw [sc_29]; rw [I1_o (by decide) (by decide), hIz _ (by decide)]; simp [va_up]
      · rw [sc_30]; rw [I1_o (by decide) (by decide), hIz _ (by decide)]; simp [va_up]
      · rw [sc_31]; rw [I1_o (by decide) (by decide), hIz _ (by decide)]; simp [va_up]
      · rw [sc_32]; rw [I1_o (by decide) (by decide), hIz _ (by decide)]; simp [va_up]
      · rw [sc_33]; rw [I1_o (by decide) (by decide), hIz _ (by decide)]; simp [va_up]
      · rw [sc_34]; rw [I1_o (by decide) (by decide), hIz _ (by decide)]; simp [va_up]
      · rw [sc_35]; rw [I1_o (by decide) (by decide), hIz _ (by decide)]; simp [va_up]
  rw [hQ]
  exact x_vret F hr hlk ⟨b35, eL, rfl⟩ dX5_init_206
