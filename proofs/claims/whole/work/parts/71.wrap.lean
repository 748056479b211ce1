/-- what a call of the class leaves: a canonical world, out where it was -/
def k_U (cy : Nat → ClassId) (ad : Nat → Nat) (u : k_S) : Prop := ∃ (R' : List Nat) (ad' : Nat → Nat) (q' : Nat → Nat → Nat) (ns' nt' : Nat) (I' : Nat → Nat → Int32) (J' : Nat → Nat → Int64), u = (R', ad', k_c cy ad' q' ns' nt' I' J') ∧ 12 ∈ R' ∧ ad' 12 = ad 12
/-- .. and out[0] is set -/
def k_O (u : k_S) (x : Int64) (u' : k_S) : Prop := ∃ (R' : List Nat) (cy : Nat → ClassId) (ad' : Nat → Nat) (q' : Nat → Nat → Nat) (ns' nt' : Nat) (I' : Nat → Nat → Int32) (J' : Nat → Nat → Int64), u = (R', ad', k_c cy ad' q' ns' nt' I' J') ∧ u' = (R', ad', k_c cy ad' q' ns' nt' I' (wJ J' 12 0 x))
set_option maxHeartbeats 4000000 in
set_option maxRecDepth 100000 in
theorem c_L_tariff (l : Launch) (D : va_G) (cy : Nat → ClassId) (lo : Nat) (R : List Nat) (ad : Nat → Nat) (q : Nat → Nat → Nat) (ns nt : Nat) (I : Nat → Nat → Int32) (J : Nat → Nat → Int64) (hR : ∀ r, r < 36 → r ∈ R) (a b c2 : Int32) (fr lc mc ms : Nat) (post : Int32 → k_S → Prop) (xpost : String → k_S → Prop) (hM : k_MetX l yX4_tariff cX4_tariff 5 (some .int) { frames := fr, cells := mc, slots := ms, locals := lc } D cy lo R ad (k_c cy ad q ns nt I J) (.ref (ad 0) :: [.int a, .int b, .int c2]) (k_Qi D lo post) xpost) (hE9 : ∀ E u, xpost E u → E = e_IO ∨ E = e_IA) (hu : ∀ v u, post v u → k_U cy ad u) : k_MetH l yL_tariff cL_tariff 6 (some .int) [((0 : Nat), (12 : Nat), (15 : Nat), (13 : Nat)), ((0 : Nat), (12 : Nat), (19 : Nat), (15 : Nat))] { frames := fr + 1, cells := mc, slots := ms, locals := 8 + (5 + 11) + lc } D cy lo R ad (k_c cy ad q ns nt I J) [.ref (ad 0), .int a, .int b, .int c2, .ref (ad 12)] (k_Qi D lo (fun r u' => (∃ (v : Int32) (u : k_S), post v u ∧ r = 0 ∧ k_O u v.toInt64 u') ∨ (∃ u : k_S, xpost e_IO u ∧ r = 1 ∧ u' = u) ∨ (∃ u : k_S, xpost e_IA u ∧ r = 2 ∧ u' = u))) := by
  refine k_metH (by decide +kernel) (Nat.le_of_ble_eq_true rfl) ?_
  intro p e s m args below meth c Q F hr hlk ht hQ
  refine x_aload F dL_tariff_0 4 rfl ?_
  refine x_iconst F (v := 0) dL_tariff_2 (by decide) ?_
  refine x_aload_n F dL_tariff_3 rfl 0 rfl ?_
  refine x_iload_n F dL_tariff_4 rfl 1 rfl ?_
  refine x_iload_n F dL_tariff_5 rfl 2 rfl ?_
  refine x_iload_n F dL_tariff_6 rfl 3 rfl ?_
  refine x_callVix F (r0 := 0) [.int a, .int b, .int c2] hM mc_X4_tariff mv_X4_tariff lk_L_7 (hR 0 (by decide)) sc_0 rfl rfl rfl dL_tariff_7 ⟨Nat.le_refl _, Nat.le_refl _⟩ ⟨Nat.le_of_eq (Nat.zero_add _), Nat.le_of_eq (Nat.zero_add _)⟩ (Nat.le_of_ble_eq_true rfl) (fun E u hx => ?_) (fun v u hp => ?_)
  · rcases hE9 E u hx with hE | hE
    · subst hE
      refine x_catch F [] ⟨0, 12, 15, 13⟩ [⟨0, 12, 19, 15⟩] (by rw [ht]; rfl) (fun z hz => absurd hz List.not_mem_nil) (by decide) (by decide) (List.mem_of_getElem? (i := 118) (by decide +kernel)) (List.mem_of_getElem? (i := 132) (by decide +kernel)) (fun q9 => ?_)
      refine x_astore F [(5, .ref q9), (0, .ref (ad 0)), (1, .int a), (2, .int b), (3, .int c2), (4, .ref (ad 12))] dL_tariff_15 (by decide) rfl ?_
      refine x_iconst F (v := 1) dL_tariff_17 (by decide) ?_
      rw [hQ]
      refine x_widen (k := mc) (n := ms) (Nat.le_of_eq (Nat.zero_add _)) (Nat.le_of_eq (Nat.zero_add _)) ?_
      exact x_iret F hr hlk (by exact Or.inr (Or.inl ⟨u, hx, rfl, rfl⟩)) dL_tariff_18
    · subst hE
      refine x_catch F [⟨0, 12, 15, 13⟩] ⟨0, 12, 19, 15⟩ [] (by rw [ht]; rfl) (fun z hz => by simp only [List.mem_cons, List.not_mem_nil, or_false] at hz; rcases hz with rfl <;> first | exact ⟨by decide, e_IO, (List.mem_of_getElem? (i := 118) (by decide +kernel)), by decide +kernel⟩) (by decide) (by decide) (List.mem_of_getElem? (i := 119) (by decide +kernel)) (List.mem_of_getElem? (i := 203) (by decide +kernel)) (fun q9 => ?_)
      refine x_astore F [(5, .ref q9), (0, .ref (ad 0)), (1, .int a), (2, .int b), (3, .int c2), (4, .ref (ad 12))] dL_tariff_19 (by decide) rfl ?_
      refine x_iconst F (v := 2) dL_tariff_21 (by decide) ?_
      rw [hQ]
      refine x_widen (k := mc) (n := ms) (Nat.le_of_eq (Nat.zero_add _)) (Nat.le_of_eq (Nat.zero_add _)) ?_
      exact x_iret F hr hlk (by exact Or.inr (Or.inr (⟨u, hx, rfl, rfl⟩))) dL_tariff_22
  · obtain ⟨R', ad', q', ns', nt', I', J', rfl, m12, had⟩ := hu v u hp
    dsimp only
    rw [← had]
    refine x_i2l F dL_tariff_10 ?_
    refine y_last F m12 ss_12 (vp_in_nI (n := 0) (N := 1) (by decide) (by decide)) dL_tariff_11 ?_
    refine x_goto F 23 dL_tariff_12 (by decide) ?_
    refine x_iconst F (v := 0) dL_tariff_23 (by decide) ?_
    rw [hQ]
    refine x_widen (k := mc) (n := ms) (Nat.le_of_eq (Nat.zero_add _)) (Nat.le_of_eq (Nat.zero_add _)) ?_
    exact x_iret F hr hlk (by exact Or.inl ⟨v, _, hp, rfl, R', cy, ad', q', ns', nt', I', J', rfl, rfl⟩) dL_tariff_24
set_option maxHeartbeats 4000000 in
set_option maxRecDepth 100000 in
theorem c_L_link (l : Launch) (D : va_G) (cy : Nat → ClassId) (lo : Nat) (R : List Nat) (ad : Nat → Nat) (q : Nat → Nat → Nat) (ns nt : Nat) (I : Nat → Nat → Int32) (J : Nat → Nat → Int64) (hR : ∀ r, r < 36 → r ∈ R) (a b c2 d2 : Int32) (fr lc mc ms : Nat) (post : Int32 → k_S → Prop) (xpost : String → k_S → Prop) (hM : k_MetX l yX4_link cX4_link 6 (some .boolean) { frames := fr, cells := mc, slots := ms, locals := lc } D cy lo R ad (k_c cy ad q ns nt I J) (.ref (ad 0) :: [.int a, .int b, .int c2, .int d2]) (k_Qi D lo post) xpost) (hE9 : ∀ E u, xpost E u → E = e_IO ∨ E = e_IA) (hu : ∀ v u, post v u → k_U cy ad u) : k_MetH l yL_link cL_link 7 (some .int) [((0 : Nat), (21 : Nat), (24 : Nat), (13 : Nat)), ((0 : Nat), (21 : Nat), (28 : Nat), (15 : Nat))] { frames := fr + 1, cells := mc, slots := ms, locals := 8 + (6 + 11) + lc } D cy lo R ad (k_c cy ad q ns nt I J) [.ref (ad 0), .int a, .int b, .int c2, .int d2, .ref (ad 12)] (k_Qi D lo (fun r u' => (∃ (v : Int32) (u : k_S), post v u ∧ r = 0 ∧ k_O u (if v = 0 then 0 else 1) u') ∨ (∃ u : k_S, xpost e_IO u ∧ r = 1 ∧ u' = u) ∨ (∃ u : k_S, xpost e_IA u ∧ r = 2 ∧ u' = u))) := by
  refine k_metH (by decide +kernel) (Nat.le_of_ble_eq_true rfl) ?_
  intro p e s m args below meth c Q F hr hlk ht hQ
  refine x_aload F dL_link_0 5 rfl ?_
  refine x_iconst F (v := 0) dL_link_2 (by decide) ?_
  refine x_aload_n F dL_link_3 rfl 0 rfl ?_
  refine x_iload_n F dL_link_4 rfl 1 rfl ?_
  refine x_iload_n F dL_link_5 rfl 2 rfl ?_
  refine x_iload_n F dL_link_6 rfl 3 rfl ?_
  refine x_iload F dL_link_7 4 rfl ?_
  refine x_callVix F (r0 := 0) [.int a, .int b, .int c2, .int d2] hM mc_X4_link mv_X4_link lk_L_17 (hR 0 (by decide)) sc_0 rfl rfl rfl dL_link_9 ⟨Nat.le_refl _, Nat.le_refl _⟩ ⟨Nat.le_of_eq (Nat.zero_add _), Nat.le_of_eq (Nat.zero_add _)⟩ (Nat.le_of_ble_eq_true rfl) (fun E u hx => ?_) (fun v u hp => ?_)
  · rcases hE9 E u hx with hE | hE
    · subst hE
      refine x_catch F [] ⟨0, 21, 24, 13⟩ [⟨0, 21, 28, 15⟩] (by rw [ht]; rfl) (fun z hz => absurd hz List.not_mem_nil) (by decide) (by decide) (List.mem_of_getElem? (i := 118) (by decide +kernel)) (List.mem_of_getElem? (i := 132) (by decide +kernel)) (fun q9 => ?_)
      refine x_astore F [(6, .ref q9), (0, .ref (ad 0)), (1, .int a), (2, .int b), (3, .int c2), (4, .int d2), (5, .ref (ad 12))] dL_link_24 (by decide) rfl ?_
      refine x_iconst F (v := 1) dL_link_26 (by decide) ?_
      rw [hQ]
      refine x_widen (k := mc) (n := ms) (Nat.le_of_eq (Nat.zero_add _)) (Nat.le_of_eq (Nat.zero_add _)) ?_
      exact x_iret F hr hlk (by exact Or.inr (Or.inl ⟨u, hx, rfl, rfl⟩)) dL_link_27
    · subst hE
      refine x_catch F [⟨0, 21, 24, 13⟩] ⟨0, 21, 28, 15⟩ [] (by rw [ht]; rfl) (fun z hz => by simp only [List.mem_cons, List.not_mem_nil, or_false] at hz; rcases hz with rfl <;> first | exact ⟨by decide, e_IO, (List.mem_of_getElem? (i := 118) (by decide +kernel)), by decide +kernel⟩) (by decide) (by decide) (List.mem_of_getElem? (i := 119) (by decide +kernel)) (List.mem_of_getElem? (i := 203) (by decide +kernel)) (fun q9 => ?_)
      refine x_astore F [(6, .ref q9), (0, .ref (ad 0)), (1, .int a), (2, .int b), (3, .int c2), (4, .int d2), (5, .ref (ad 12))] dL_link_28 (by decide) rfl ?_
      refine x_iconst F (v := 2) dL_link_30 (by decide) ?_
      rw [hQ]
      refine x_widen (k := mc) (n := ms) (Nat.le_of_eq (Nat.zero_add _)) (Nat.le_of_eq (Nat.zero_add _)) ?_
      exact x_iret F hr hlk (by exact Or.inr (Or.inr (⟨u, hx, rfl, rfl⟩))) dL_link_31
  · obtain ⟨R', ad', q', ns', nt', I', J', rfl, m12, had⟩ := hu v u hp
    dsimp only
    rw [← had]
    refine x_if_eq F 19 dL_link_12 (by decide) (fun h12 => ?_) (fun h12 => ?_)
    · refine x_lconst F (v := 0) dL_link_19 (by decide) ?_
      refine y_last F m12 ss_12 (vp_in_nI (n := 0) (N := 1) (by decide) (by decide)) dL_link_20 ?_
      refine x_goto F 32 dL_link_21 (by decide) ?_
      refine x_iconst F (v := 0) dL_link_32 (by decide) ?_
      rw [hQ]
      refine x_widen (k := mc) (n := ms) (Nat.le_of_eq (Nat.zero_add _)) (Nat.le_of_eq (Nat.zero_add _)) ?_
      exact x_iret F hr hlk (by exact Or.inl ⟨v, _, hp, rfl, R', cy, ad', q', ns', nt', I', J', rfl, by simp [*]⟩) dL_link_33
    · refine x_lconst F (v := 1) dL_link_15 (by decide) ?_
      refine x_goto F 20 dL_link_16 (by decide) ?_
      refine y_last F m12 ss_12 (vp_in_nI (n := 0) (N := 1) (by decide) (by decide)) dL_link_20 ?_
      refine x_goto F 32 dL_link_21 (by decide) ?_
      refine x_iconst F (v := 0) dL_link_32 (by decide) ?_
      rw [hQ]
      refine x_widen (k := mc) (n := ms) (Nat.le_of_eq (Nat.zero_add _)) (Nat.le_of_eq (Nat.zero_add _)) ?_
      exact x_iret F hr hlk (by exact Or.inl ⟨v, _, hp, rfl, R', cy, ad', q', ns', nt', I', J', rfl, by simp [*]⟩) dL_link_33
set_option maxHeartbeats 4000000 in
set_option maxRecDepth 100000 in
theorem c_L_unlink (l : Launch) (D : va_G) (cy : Nat → ClassId) (lo : Nat) (R : List Nat) (ad : Nat → Nat) (q : Nat → Nat → Nat) (ns nt : Nat) (I : Nat → Nat → Int32) (J : Nat → Nat → Int64) (hR : ∀ r, r < 36 → r ∈ R) (a b : Int32) (fr lc mc ms : Nat) (post : Int32 → k_S → Prop) (xpost : String → k_S → Prop) (hM : k_MetX l yX4_unlink cX4_unlink 4 (some .int) { frames := fr, cells := mc, slots := ms, locals := lc } D cy lo R ad (k_c cy ad q ns nt I J) (.ref (ad 0) :: [.int a, .int b]) (k_Qi D lo post) xpost) (hE9 : ∀ E u, xpost E u → E = e_IO ∨ E = e_IS) (hu : ∀ v u, post v u → k_U cy ad u) : k_MetH l yL_unlink cL_unlink 5 (some .int) [((0 : Nat), (10 : Nat), (13 : Nat), (13 : Nat)), ((0 : Nat), (10 : Nat), (17 : Nat), (25 : Nat))] { frames := fr + 1, cells := mc, slots := ms, locals := 8 + (4 + 11) + lc } D cy lo R ad (k_c cy ad q ns nt I J) [.ref (ad 0), .int a, .int b, .ref (ad 12)] (k_Qi D lo (fun r u' => (∃ (v : Int32) (u : k_S), post v u ∧ r = 0 ∧ k_O u v.toInt64 u') ∨ (∃ u : k_S, xpost e_IO u ∧ r = 1 ∧ u' = u) ∨ (∃ u : k_S, xpost e_IS u ∧ r = 2 ∧ u' = u))) := by
  refine k_metH (by decide +kernel) (Nat.le_of_ble_eq_true rfl) ?_
  intro p e s m args below meth c Q F hr hlk ht hQ
  refine x_aload_n F dL_unlink_0 rfl 3 rfl ?_
  refine x_iconst F (v := 0) dL_unlink_1 (by decide) ?_
  refine x_aload_n F dL_unlink_2 rfl 0 rfl ?_
  refine x_iload_n F dL_unlink_3 rfl 1 rfl ?_
  refine x_iload_n F dL_unlink_4 rfl 2 rfl ?_
  refine x_callVix F (r0 := 0) [.int a, .int b] hM mc_X4_unlink mv_X4_unlink lk_L_21 (hR 0 (by decide)) sc_0 rfl rfl rfl dL_unlink_5 ⟨Nat.le_refl _, Nat.le_refl _⟩ ⟨Nat.le_of_eq (Nat.zero_add _), Nat.le_of_eq (Nat.zero_add _)⟩ (Nat.le_of_ble_eq_true rfl) (fun E u hx => ?_) (fun v u hp => ?_)
  · rcases hE9 E u hx with hE | hE
    · subst hE
      refine x_catch F [] ⟨0, 10, 13, 13⟩ [⟨0, 10, 17, 25⟩] (by rw [ht]; rfl) (fun z hz => absurd hz List.not_mem_nil) (by decide) (by decide) (List.mem_of_getElem? (i := 118) (by decide +kernel)) (List.mem_of_getElem? (i := 132) (by decide +kernel)) (fun q9 => ?_)
      refine x_astore F [(4, .ref q9), (0, .ref (ad 0)), (1, .int a), (2, .int b), (3, .ref (ad 12))] dL_unlink_13 (by decide) rfl ?_
      refine x_iconst F (v := 1) dL_unlink_15 (by decide) ?_
      rw [hQ]
      refine x_widen (k := mc) (n := ms) (Nat.le_of_eq (Nat.zero_add _)) (Nat.le_of_eq (Nat.zero_add _)) ?_
      exact x_iret F hr hlk (by exact Or.inr (Or.inl ⟨u, hx, rfl, rfl⟩)) dL_unlink_16
    · subst hE
      refine x_catch F [⟨0, 10, 13, 13⟩] ⟨0, 10, 17, 25⟩ [] (by rw [ht]; rfl) (fun z hz => by simp only [List.mem_cons, List.not_mem_nil, or_false] at hz; rcases hz with rfl <;> first | exact ⟨by decide, e_IO, (List.mem_of_getElem? (i := 118) (by decide +kernel)), by decide +kernel⟩) (by decide) (by decide) (List.mem_of_getElem? (i := 240) (by decide +kernel)) (List.mem_of_getElem? (i := 247) (by decide +kernel)) (fun q9 => ?_)
      refine x_astore F [(4, .ref q9), (0, .ref (ad 0)), (1, .int a), (2, .int b), (3, .ref (ad 12))] dL_unlink_17 (by decide) rfl ?_
      refine x_iconst F (v := 2) dL_unlink_19 (by decide) ?_
      rw [hQ]
      refine x_widen (k := mc) (n := ms) (Nat.le_of_eq (Nat.zero_add _)) (Nat.le_of_eq (Nat.zero_add _)) ?_
      exact x_iret F hr hlk (by exact Or.inr (Or.inr (⟨u, hx, rfl, rfl⟩))) dL_unlink_20
  · obtain ⟨R', ad', q', ns', nt', I', J', rfl, m12, had⟩ := hu v u hp
    dsimp only
    rw [← had]
    refine x_i2l F dL_unlink_8 ?_
    refine y_last F m12 ss_12 (vp_in_nI (n := 0) (N := 1) (by decide) (by decide)) dL_unlink_9 ?_
    refine x_goto F 21 dL_unlink_10 (by decide) ?_
    refine x_iconst F (v := 0) dL_unlink_21 (by decide) ?_
    rw [hQ]
    refine x_widen (k := mc) (n := ms) (Nat.le_of_eq (Nat.zero_add _)) (Nat.le_of_eq (Nat.zero_add _)) ?_
    exact x_iret F hr hlk (by exact Or.inl ⟨v, _, hp, rfl, R', cy, ad', q', ns', nt', I', J', rfl, rfl⟩) dL_unlink_22
set_option maxHeartbeats 4000000 in
set_option maxRecDepth 100000 in
theorem c_L_number (l : Launch) (D : va_G) (cy : Nat → ClassId) (lo : Nat) (R : List Nat) (ad : Nat → Nat) (q : Nat → Nat → Nat) (ns nt : Nat) (I : Nat → Nat → Int32) (J : Nat → Nat → Int64) (hR : ∀ r, r < 36 → r ∈ R) (a b c2 : Int32) (fr lc mc ms : Nat) (post : Int32 → k_S → Prop) (xpost : String → k_S → Prop) (hM : k_MetX l yX4_number cX4_number 5 (some .int) { frames := fr, cells := mc, slots := ms, locals := lc } D cy lo R ad (k_c cy ad q ns nt I J) (.ref (ad 0) :: [.int a, .int b, .int c2]) (k_Qi D lo post) xpost) (hE9 : ∀ E u, xpost E u → E = e_IO ∨ E = e_IA ∨ E = e_IS) (hu : ∀ v u, post v u → k_U cy ad u) : k_MetH l yL_number cL_number 6 (some .int) [((0 : Nat), (12 : Nat), (15 : Nat), (13 : Nat)), ((0 : Nat), (12 : Nat), (19 : Nat), (15 : Nat)), ((0 : Nat), (12 : Nat), (23 : Nat), (25 : Nat))] { frames := fr + 1, cells := mc, slots := ms, locals := 8 + (5 + 11) + lc } D cy lo R ad (k_c cy ad q ns nt I J) [.ref (ad 0), .int a, .int b, .int c2, .ref (ad 12)] (k_Qi D lo (fun r u' => (∃ (v : Int32) (u : k_S), post v u ∧ r = 0 ∧ k_O u v.toInt64 u') ∨ (∃ u : k_S, xpost e_IO u ∧ r = 1 ∧ u' = u) ∨ (∃ u : k_S, xpost e_IA u ∧ r = 2 ∧ u' = u) ∨ (∃ u : k_S, xpost e_IS u ∧ r = 3 ∧ u' = u))) := by
  refine k_metH (by decide +kernel) (Nat.le_of_ble_eq_true rfl) ?_
  intro p e s m args below meth c Q F hr hlk ht hQ
  refine x_aload F dL_number_0 4 rfl ?_
  refine x_iconst F (v := 0) dL_number_2 (by decide) ?_
  refine x_aload_n F dL_number_3 rfl 0 rfl ?_
  refine x_iload_n F dL_number_4 rfl 1 rfl ?_
  refine x_iload_n F dL_number_5 rfl 2 rfl ?_
  refine x_iload_n F dL_number_6 rfl 3 rfl ?_
  refine x_callVix F (r0 := 0) [.int a, .int b, .int c2] hM mc_X4_number mv_X4_number lk_L_27 (hR 0 (by decide)) sc_0 rfl rfl rfl dL_number_7 ⟨Nat.le_refl _, Nat.le_refl _⟩ ⟨Nat.le_of_eq (Nat.zero_add _), Nat.le_of_eq (Nat.zero_add _)⟩ (Nat.le_of_ble_eq_true rfl) (fun E u hx => ?_) (fun v u hp => ?_)
  · rcases hE9 E u hx with hE | hE | hE
    · subst hE
      refine x_catch F [] ⟨0, 12, 15, 13⟩ [⟨0, 12, 19, 15⟩, ⟨0, 12, 23, 25⟩] (by rw [ht]; rfl) (fun z hz => absurd hz List.not_mem_nil) (by decide) (by decide) (List.mem_of_getElem? (i := 118) (by decide +kernel)) (List.mem_of_getElem? (i := 132) (by decide +kernel)) (fun q9 => ?_)
      refine x_astore F [(5, .ref q9), (0, .ref (ad 0)), (1, .int a), (2, .int b), (3, .int c2), (4, .ref (ad 12))] dL_number_15 (by decide) rfl ?_
      refine x_iconst F (v := 1) dL_number_17 (by decide) ?_
      rw [hQ]
      refine x_widen (k := mc) (n := ms) (Nat.le_of_eq (Nat.zero_add _)) (Nat.le_of_eq (Nat.zero_add _)) ?_
      exact x_iret F hr hlk (by exact Or.inr (Or.inl ⟨u, hx, rfl, rfl⟩)) dL_number_18
    · subst hE
      refine x_catch F [⟨0, 12, 15, 13⟩] ⟨0, 12, 19, 15⟩ [⟨0, 12, 23, 25⟩] (by rw [ht]; rfl) (fun z hz => by simp only [List.mem_cons, List.not_mem_nil, or_false] at hz; rcases hz with rfl <;> first | exact ⟨by decide, e_IO, (List.mem_of_getElem? (i := 118) (by decide +kernel)), by decide +kernel⟩) (by decide) (by decide) (List.mem_of_getElem? (i := 119) (by decide +kernel)) (List.mem_of_getElem? (i := 203) (by decide +kernel)) (fun q9 => ?_)
      refine x_astore F [(5, .ref q9), (0, .ref (ad 0)), (1, .int a), (2, .int b), (3, .int c2), (4, .ref (ad 12))] dL_number_19 (by decide) rfl ?_
      refine x_iconst F (v := 2) dL_number_21 (by decide) ?_
      rw [hQ]
      refine x_widen (k := mc) (n := ms) (Nat.le_of_eq (Nat.zero_add _)) (Nat.le_of_eq (Nat.zero_add _)) ?_
      exact x_iret F hr hlk (by exact Or.inr (Or.inr (Or.inl ⟨u, hx, rfl, rfl⟩))) dL_number_22
    · subst hE
      refine x_catch F [⟨0, 12, 15, 13⟩, ⟨0, 12, 19, 15⟩] ⟨0, 12, 23, 25⟩ [] (by rw [ht]; rfl) (fun z hz => by simp only [List.mem_cons, List.not_mem_nil, or_false] at hz; rcases hz with rfl | rfl <;> first | exact ⟨by decide, e_IO, (List.mem_of_getElem? (i := 118) (by decide +kernel)), by decide +kernel⟩ | exact ⟨by decide, e_IA, (List.mem_of_getElem? (i := 119) (by decide +kernel)), by decide +kernel⟩) (by decide) (by decide) (List.mem_of_getElem? (i := 240) (by decide +kernel)) (List.mem_of_getElem? (i := 247) (by decide +kernel)) (fun q9 => ?_)
      refine x_astore F [(5, .ref q9), (0, .ref (ad 0)), (1, .int a), (2, .int b), (3, .int c2), (4, .ref (ad 12))] dL_number_23 (by decide) rfl ?_
      refine x_iconst F (v := 3) dL_number_25 (by decide) ?_
      rw [hQ]
      refine x_widen (k := mc) (n := ms) (Nat.le_of_eq (Nat.zero_add _)) (Nat.le_of_eq (Nat.zero_add _)) ?_
      exact x_iret F hr hlk (by exact Or.inr (Or.inr (Or.inr (⟨u, hx, rfl, rfl⟩)))) dL_number_26
  · obtain ⟨R', ad', q', ns', nt', I', J', rfl, m12, had⟩ := hu v u hp
    dsimp only
    rw [← had]
    refine x_i2l F dL_number_10 ?_
    refine y_last F m12 ss_12 (vp_in_nI (n := 0) (N := 1) (by decide) (by decide)) dL_number_11 ?_
    refine x_goto F 27 dL_number_12 (by decide) ?_
    refine x_iconst F (v := 0) dL_number_27 (by decide) ?_
    rw [hQ]
    refine x_widen (k := mc) (n := ms) (Nat.le_of_eq (Nat.zero_add _)) (Nat.le_of_eq (Nat.zero_add _)) ?_
    exact x_iret F hr hlk (by exact Or.inl ⟨v, _, hp, rfl, R', cy, ad', q', ns', nt', I', J', rfl, rfl⟩) dL_number_28
set_option maxHeartbeats 4000000 in
set_option maxRecDepth 100000 in
theorem c_L_carryOver (l : Launch) (D : va_G) (cy : Nat → ClassId) (lo : Nat) (R : List Nat) (ad : Nat → Nat) (q : Nat → Nat → Nat) (ns nt : Nat) (I : Nat → Nat → Int32) (J : Nat → Nat → Int64) (hR : ∀ r, r < 36 → r ∈ R) (a b : Int32) (fr lc mc ms : Nat) (post : Int32 → k_S → Prop) (xpost : String → k_S → Prop) (hM : k_MetX l yX4_carryOver cX4_carryOver 4 (some .int) { frames := fr, cells := mc, slots := ms, locals := lc } D cy lo R ad (k_c cy ad q ns nt I J) (.ref (ad 0) :: [.int a, .int b]) (k_Qi D lo post) xpost) (hE9 : ∀ E u, xpost E u → E = e_IO ∨ E = e_IA ∨ E = e_IS) (hu : ∀ v u, post v u → k_U cy ad u) : k_MetH l yL_carryOver cL_carryOver 5 (some .int) [((0 : Nat), (10 : Nat), (13 : Nat), (13 : Nat)), ((0 : Nat), (10 : Nat), (17 : Nat), (15 : Nat)), ((0 : Nat), (10 : Nat), (21 : Nat), (25 : Nat))] { frames := fr + 1, cells := mc, slots := ms, locals := 8 + (4 + 11) + lc } D cy lo R ad (k_c cy ad q ns nt I J) [.ref (ad 0), .int a, .int b, .ref (ad 12)] (k_Qi D lo (fun r u' => (∃ (v : Int32) (u : k_S), post v u ∧ r = 0 ∧ k_O u v.toInt64 u') ∨ (∃ u : k_S, xpost e_IO u ∧ r = 1 ∧ u' = u) ∨ (∃ u : k_S, xpost e_IA u ∧ r = 2 ∧ u' = u) ∨ (∃ u : k_S, xpost e_IS u ∧ r = 3 ∧ u' = u))) := by
  refine k_metH (by decide +kernel) (Nat.le_of_ble_eq_true rfl) ?_
  intro p e s m args below meth c Q F hr hlk ht hQ
  refine x_aload_n F dL_carryOver_0 rfl 3 rfl ?_
  refine x_iconst F (v := 0) dL_carryOver_1 (by decide) ?_
  refine x_aload_n F dL_carryOver_2 rfl 0 rfl ?_
  refine x_iload_n F dL_carryOver_3 rfl 1 rfl ?_
  refine x_iload_n F dL_carryOver_4 rfl 2 rfl ?_
  refine x_callVix F (r0 := 0) [.int a, .int b] hM mc_X4_carryOver mv_X4_carryOver lk_L_30 (hR 0 (by decide)) sc_0 rfl rfl rfl dL_carryOver_5 ⟨Nat.le_refl _, Nat.le_refl _⟩ ⟨Nat.le_of_eq (Nat.zero_add _), Nat.le_of_eq (Nat.zero_add _)⟩ (Nat.le_of_ble_eq_true rfl) (fun E u hx => ?_) (fun v u hp => ?_)
  · rcases hE9 E u hx with hE | hE | hE
    · subst hE
      refine x_catch F [] ⟨0, 10, 13, 13⟩ [⟨0, 10, 17, 15⟩, ⟨0, 10, 21, 25⟩] (by rw [ht]; rfl) (fun z hz => absurd hz List.not_mem_nil) (by decide) (by decide) (List.mem_of_getElem? (i := 118) (by decide +kernel)) (List.mem_of_getElem? (i := 132) (by decide +kernel)) (fun q9 => ?_)
      refine x_astore F [(4, .ref q9), (0, .ref (ad 0)), (1, .int a), (2, .int b), (3, .ref (ad 12))] dL_carryOver_13 (by decide) rfl ?_
      refine x_iconst F (v := 1) dL_carryOver_15 (by decide) ?_
      rw [hQ]
      refine x_widen (k := mc) (n := ms) (Nat.le_of_eq (Nat.zero_add _)) (Nat.le_of_eq (Nat.zero_add _)) ?_
      exact x_iret F hr hlk (by exact Or.inr (Or.inl ⟨u, hx, rfl, rfl⟩)) dL_carryOver_16
    · subst hE
      refine x_catch F [⟨0, 10, 13, 13⟩] ⟨0, 10, 17, 15⟩ [⟨0, 10, 21, 25⟩] (by rw [ht]; rfl) (fun z hz => by simp only [List.mem_cons, List.not_mem_nil, or_false] at hz; rcases hz with rfl <;> first | exact ⟨by decide, e_IO, (List.mem_of_getElem? (i := 118) (by decide +kernel)), by decide +kernel⟩) (by decide) (by decide) (List.mem_of_getElem? (i := 119) (by decide +kernel)) (List.mem_of_getElem? (i := 203) (by decide +kernel)) (fun q9 => ?_)
      refine x_astore F [(4, .ref q9), (0, .ref (ad 0)), (1, .int a), (2, .int b), (3, .ref (ad 12))] dL_carryOver_17 (by decide) rfl ?_
      refine x_iconst F (v := 2) dL_carryOver_19 (by decide) ?_
      rw [hQ]
      refine x_widen (k := mc) (n := ms) (Nat.le_of_eq (Nat.zero_add _)) (Nat.le_of_eq (Nat.zero_add _)) ?_
      exact x_iret F hr hlk (by exact Or.inr (Or.inr (Or.inl ⟨u, hx, rfl, rfl⟩))) dL_carryOver_20
    · subst hE
      refine x_catch F [⟨0, 10, 13, 13⟩, ⟨0, 10, 17, 15⟩] ⟨0, 10, 21, 25⟩ [] (by rw [ht]; rfl) (fun z hz => by simp only [List.mem_cons, List.not_mem_nil, or_false] at hz; rcases hz with rfl | rfl <;> first | exact ⟨by decide, e_IO, (List.mem_of_getElem? (i := 118) (by decide +kernel)), by decide +kernel⟩ | exact ⟨by decide, e_IA, (List.mem_of_getElem? (i := 119) (by decide +kernel)), by decide +kernel⟩) (by decide) (by decide) (List.mem_of_getElem? (i := 240) (by decide +kernel)) (List.mem_of_getElem? (i := 247) (by decide +kernel)) (fun q9 => ?_)
      refine x_astore F [(4, .ref q9), (0, .ref (ad 0)), (1, .int a), (2, .int b), (3, .ref (ad 12))] dL_carryOver_21 (by decide) rfl ?_
      refine x_iconst F (v := 3) dL_carryOver_23 (by decide) ?_
      rw [hQ]
      refine x_widen (k := mc) (n := ms) (Nat.le_of_eq (Nat.zero_add _)) (Nat.le_of_eq (Nat.zero_add _)) ?_
      exact x_iret F hr hlk (by exact Or.inr (Or.inr (Or.inr (⟨u, hx, rfl, rfl⟩)))) dL_carryOver_24
  · obtain ⟨R', ad', q', ns', nt', I', J', rfl, m12, had⟩ := hu v u hp
    dsimp only
    rw [← had]
    refine x_i2l F dL_carryOver_8 ?_
    refine y_last F m12 ss_12 (vp_in_nI (n := 0) (N := 1) (by decide) (by decide)) dL_carryOver_9 ?_
    refine x_goto F 25 dL_carryOver_10 (by decide) ?_
    refine x_iconst F (v := 0) dL_carryOver_25 (by decide) ?_
    rw [hQ]
    refine x_widen (k := mc) (n := ms) (Nat.le_of_eq (Nat.zero_add _)) (Nat.le_of_eq (Nat.zero_add _)) ?_
    exact x_iret F hr hlk (by exact Or.inl ⟨v, _, hp, rfl, R', cy, ad', q', ns', nt', I', J', rfl, rfl⟩) dL_carryOver_26
set_option maxHeartbeats 4000000 in
set_option maxRecDepth 100000 in
theorem c_L_home (l : Launch) (D : va_G) (cy : Nat → ClassId) (lo : Nat) (R : List Nat) (ad : Nat → Nat) (q : Nat → Nat → Nat) (ns nt : Nat) (I : Nat → Nat → Int32) (J : Nat → Nat → Int64) (hR : ∀ r, r < 36 → r ∈ R) (a b : Int32) (fr lc mc ms : Nat) (post : Int32 → k_S → Prop) (xpost : String → k_S → Prop) (hM : k_MetX l yX4_home cX4_home 4 (some .int) { frames := fr, cells := mc, slots := ms, locals := lc } D cy lo R ad (k_c cy ad q ns nt I J) (.ref (ad 0) :: [.int a, .int b]) (k_Qi D lo post) xpost) (hE9 : ∀ E u, xpost E u → E = e_IO) (hu : ∀ v u, post v u → k_U cy ad u) : k_MetH l yL_home cL_home 5 (some .int) [((0 : Nat), (10 : Nat), (13 : Nat), (13 : Nat))] { frames := fr + 1, cells := mc, slots := ms, locals := 8 + (4 + 11) + lc } D cy lo R ad (k_c cy ad q ns nt I J) [.ref (ad 0), .int a, .int b, .ref (ad 12)] (k_Qi D lo (fun r u' => (∃ (v : Int32) (u : k_S), post v u ∧ r = 0 ∧ k_O u v.toInt64 u') ∨ (∃ u : k_S, xpost e_IO u ∧ r = 1 ∧ u' = u))) := by
  refine k_metH (by decide +kernel) (Nat.le_of_ble_eq_true rfl) ?_
  intro p e s m args below meth c Q F hr hlk ht hQ
  refine x_aload_n F dL_home_0 rfl 3 rfl ?_
  refine x_iconst F (v := 0) dL_home_1 (by decide) ?_
  refine x_aload_n F dL_home_2 rfl 0 rfl ?_
  refine x_iload_n F dL_home_3 rfl 1 rfl ?_
  refine x_iload_n F dL_home_4 rfl 2 rfl ?_
  refine x_callVix F (r0 := 0) [.int a, .int b] hM mc_X4_home mv_X4_home lk_L_33 (hR 0 (by decide)) sc_0 rfl rfl rfl dL_home_5 ⟨Nat.le_refl _, Nat.le_refl _⟩ ⟨Nat.le_of_eq (Nat.zero_add _), Nat.le_of_eq (Nat.zero_add _)⟩ (Nat.le_of_ble_eq_true rfl) (fun E u hx => ?_) (fun v u hp => ?_)
  · rcases hE9 E u hx with hE
    · subst hE
      refine x_catch F [] ⟨0, 10, 13, 13⟩ [] (by rw [ht]; rfl) (fun z hz => absurd hz List.not_mem_nil) (by decide) (by decide) (List.mem_of_getElem? (i := 118) (by decide +kernel)) (List.mem_of_getElem? (i := 132) (by decide +kernel)) (fun q9 => ?_)
      refine x_astore F [(4, .ref q9), (0, .ref (ad 0)), (1, .int a), (2, .int b), (3, .ref (ad 12))] dL_home_13 (by decide) rfl ?_
      refine x_iconst F (v := 1) dL_home_15 (by decide) ?_
      rw [hQ]
      refine x_widen (k := mc) (n := ms) (Nat.le_of_eq (Nat.zero_add _)) (Nat.le_of_eq (Nat.zero_add _)) ?_
      exact x_iret F hr hlk (by exact Or.inr (⟨u, hx, rfl, rfl⟩)) dL_home_16
  · obtain ⟨R', ad', q', ns', nt', I', J', rfl, m12, had⟩ := hu v u hp
    dsimp only
    rw [← had]
    refine x_i2l F dL_home_8 ?_
    refine y_last F m12 ss_12 (vp_in_nI (n := 0) (N := 1) (by decide) (by decide)) dL_home_9 ?_
    refine x_goto F 17 dL_home_10 (by decide) ?_
    refine x_iconst F (v := 0) dL_home_17 (by decide) ?_
    rw [hQ]
    refine x_widen (k := mc) (n := ms) (Nat.le_of_eq (Nat.zero_add _)) (Nat.le_of_eq (Nat.zero_add _)) ?_
    exact x_iret F hr hlk (by exact Or.inl ⟨v, _, hp, rfl, R', cy, ad', q', ns', nt', I', J', rfl, rfl⟩) dL_home_18
set_option maxHeartbeats 4000000 in
set_option maxRecDepth 100000 in
theorem c_L_topUp (l : Launch) (D : va_G) (cy : Nat → ClassId) (lo : Nat) (R : List Nat) (ad : Nat → Nat) (q : Nat → Nat → Nat) (ns nt : Nat) (I : Nat → Nat → Int32) (J : Nat → Nat → Int64) (hR : ∀ r, r < 36 → r ∈ R) (a b c2 : Int32) (fr lc mc ms : Nat) (post : Int32 → k_S → Prop) (xpost : String → k_S → Prop) (hM : k_MetX l yX4_topUp cX4_topUp 7 (some .int) { frames := fr, cells := mc, slots := ms, locals := lc } D cy lo R ad (k_c cy ad q ns nt I J) (.ref (ad 0) :: [.int a, .int b, .int c2]) (k_Qi D lo post) xpost) (hE9 : ∀ E u, xpost E u → E = e_IO ∨ E = e_IA ∨ E = e_IS) (hu : ∀ v u, post v u → k_U cy ad u) : k_MetH l yL_topUp cL_topUp 6 (some .int) [((0 : Nat), (12 : Nat), (15 : Nat), (13 : Nat)), ((0 : Nat), (12 : Nat), (19 : Nat), (15 : Nat)), ((0 : Nat), (12 : Nat), (23 : Nat), (25 : Nat))] { frames := fr + 1, cells := mc, slots := ms, locals := 8 + (7 + 11) + lc } D cy lo R ad (k_c cy ad q ns nt I J) [.ref (ad 0), .int a, .int b, .int c2, .ref (ad 12)] (k_Qi D lo (fun r u' => (∃ (v : Int32) (u : k_S), post v u ∧ r = 0 ∧ k_O u v.toInt64 u') ∨ (∃ u : k_S, xpost e_IO u ∧ r = 1 ∧ u' = u) ∨ (∃ u : k_S, xpost e_IA u ∧ r = 2 ∧ u' = u) ∨ (∃ u : k_S, xpost e_IS u ∧ r = 3 ∧ u' = u))) := by
  refine k_metH (by decide +kernel) (Nat.le_of_ble_eq_true rfl) ?_
  intro p e s m args below meth c Q F hr hlk ht hQ
  refine x_aload F dL_topUp_0 4 rfl ?_
  refine x_iconst F (v := 0) dL_topUp_2 (by decide) ?_
  refine x_aload_n F dL_topUp_3 rfl 0 rfl ?_
  refine x_iload_n F dL_topUp_4 rfl 1 rfl ?_
  refine x_iload_n F dL_topUp_5 rfl 2 rfl ?_
  refine x_iload_n F dL_topUp_6 rfl 3 rfl ?_
  refine x_callVix F (r0 := 0) [.int a, .int b, .int c2] hM mc_X4_topUp mv_X4_topUp lk_L_36 (hR 0 (by decide)) sc_0 rfl rfl rfl dL_topUp_7 ⟨Nat.le_refl _, Nat.le_refl _⟩ ⟨Nat.le_of_eq (Nat.zero_add _), Nat.le_of_eq (Nat.zero_add _)⟩ (Nat.le_of_ble_eq_true rfl) (fun E u hx => ?_) (fun v u hp => ?_)
  · rcases hE9 E u hx with hE | hE | hE
    · subst hE
      refine x_catch F [] ⟨0, 12, 15, 13⟩ [⟨0, 12, 19, 15⟩, ⟨0, 12, 23, 25⟩] (by rw [ht]; rfl) (fun z hz => absurd hz List.not_mem_nil) (by decide) (by decide) (List.mem_of_getElem? (i := 118) (by decide +kernel)) (List.mem_of_getElem? (i := 132) (by decide +kernel)) (fun q9 => ?_)
      refine x_astore F [(5, .ref q9), (0, .ref (ad 0)), (1, .int a), (2, .int b), (3, .int c2), (4, .ref (ad 12))] dL_topUp_15 (by decide) rfl ?_
      refine x_iconst F (v := 1) dL_topUp_17 (by decide) ?_
      rw [hQ]
      refine x_widen (k := mc) (n := ms) (Nat.le_of_eq (Nat.zero_add _)) (Nat.le_of_eq (Nat.zero_add _)) ?_
      exact x_iret F hr hlk (by exact Or.inr (Or.inl ⟨u, hx, rfl, rfl⟩)) dL_topUp_18
    · subst hE
      refine x_catch F [⟨0, 12, 15, 13⟩] ⟨0, 12, 19, 15⟩ [⟨0, 12, 23, 25⟩] (by rw [ht]; rfl) (fun z hz => by simp only [List.mem_cons, List.not_mem_nil, or_false] at hz; rcases hz with rfl <;> first | exact ⟨by decide, e_IO, (List.mem_of_getElem? (i := 118) (by decide +kernel)), by decide +kernel⟩) (by decide) (by decide) (List.mem_of_getElem? (i := 119) (by decide +kernel)) (List.mem_of_getElem? (i := 203) (by decide +kernel)) (fun q9 => ?_)
      refine x_astore F [(5, .ref q9), (0, .ref (ad 0)), (1, .int a), (2, .int b), (3, .int c2), (4, .ref (ad 12))] dL_topUp_19 (by decide) rfl ?_
      refine x_iconst F (v := 2) dL_topUp_21 (by decide) ?_
      rw [hQ]
      refine x_widen (k := mc) (n := ms) (Nat.le_of_eq (Nat.zero_add _)) (Nat.le_of_eq (Nat.zero_add _)) ?_
      exact x_iret F hr hlk (by exact Or.inr (Or.inr (Or.inl ⟨u, hx, rfl, rfl⟩))) dL_topUp_22
    · subst hE
      refine x_catch F [⟨0, 12, 15, 13⟩, ⟨0, 12, 19, 15⟩] ⟨0, 12, 23, 25⟩ [] (by rw [ht]; rfl) (fun z hz => by simp only [List.mem_cons, List.not_mem_nil, or_false] at hz; rcases hz with rfl | rfl <;> first | exact ⟨by decide, e_IO, (List.mem_of_getElem? (i := 118) (by decide +kernel)), by decide +kernel⟩ | exact ⟨by decide, e_IA, (List.mem_of_getElem? (i := 119) (by decide +kernel)), by decide +kernel⟩) (by decide) (by decide) (List.mem_of_getElem? (i := 240) (by decide +kernel)) (List.mem_of_getElem? (i := 247) (by decide +kernel)) (fun q9 => ?_)
      refine x_astore F [(5, .ref q9), (0, .ref (ad 0)), (1, .int a), (2, .int b), (3, .int c2), (4, .ref (ad 12))] dL_topUp_23 (by decide) rfl ?_
      refine x_iconst F (v := 3) dL_topUp_25 (by decide) ?_
      rw [hQ]
      refine x_widen (k := mc) (n := ms) (Nat.le_of_eq (Nat.zero_add _)) (Nat.le_of_eq (Nat.zero_add _)) ?_
      exact x_iret F hr hlk (by exact Or.inr (Or.inr (Or.inr (⟨u, hx, rfl, rfl⟩)))) dL_topUp_26
  · obtain ⟨R', ad', q', ns', nt', I', J', rfl, m12, had⟩ := hu v u hp
    dsimp only
    rw [← had]
    refine x_i2l F dL_topUp_10 ?_
    refine y_last F m12 ss_12 (vp_in_nI (n := 0) (N := 1) (by decide) (by decide)) dL_topUp_11 ?_
    refine x_goto F 27 dL_topUp_12 (by decide) ?_
    refine x_iconst F (v := 0) dL_topUp_27 (by decide) ?_
    rw [hQ]
    refine x_widen (k := mc) (n := ms) (Nat.le_of_eq (Nat.zero_add _)) (Nat.le_of_eq (Nat.zero_add _)) ?_
    exact x_iret F hr hlk (by exact Or.inl ⟨v, _, hp, rfl, R', cy, ad', q', ns', nt', I', J', rfl, rfl⟩) dL_topUp_28
set_option maxHeartbeats 4000000 in
set_option maxRecDepth 100000 in
theorem c_L_balance (l : Launch) (D : va_G) (cy : Nat → ClassId) (lo : Nat) (R : List Nat) (ad : Nat → Nat) (q : Nat → Nat → Nat) (ns nt : Nat) (I : Nat → Nat → Int32) (J : Nat → Nat → Int64) (hR : ∀ r, r < 36 → r ∈ R) (a : Int32) (fr lc mc ms : Nat) (post : Int32 → k_S → Prop) (xpost : String → k_S → Prop) (hM : k_MetX l yX4_balance cX4_balance 2 (some .int) { frames := fr, cells := mc, slots := ms, locals := lc } D cy lo R ad (k_c cy ad q ns nt I J) (.ref (ad 0) :: [.int a]) (k_Qi D lo post) xpost) (hE9 : ∀ E u, xpost E u → E = e_IO) (hu : ∀ v u, post v u → k_U cy ad u) : k_MetH l yL_balance cL_balance 4 (some .int) [((0 : Nat), (9 : Nat), (12 : Nat), (13 : Nat))] { frames := fr + 1, cells := mc, slots := ms, locals := 8 + (2 + 11) + lc } D cy lo R ad (k_c cy ad q ns nt I J) [.ref (ad 0), .int a, .ref (ad 12)] (k_Qi D lo (fun r u' => (∃ (v : Int32) (u : k_S), post v u ∧ r = 0 ∧ k_O u v.toInt64 u') ∨ (∃ u : k_S, xpost e_IO u ∧ r = 1 ∧ u' = u))) := by
  refine k_metH (by decide +kernel) (Nat.le_of_ble_eq_true rfl) ?_
  intro p e s m args below meth c Q F hr hlk ht hQ
  refine x_aload_n F dL_balance_0 rfl 2 rfl ?_
  refine x_iconst F (v := 0) dL_balance_1 (by decide) ?_
  refine x_aload_n F dL_balance_2 rfl 0 rfl ?_
  refine x_iload_n F dL_balance_3 rfl 1 rfl ?_
  refine x_callVix F (r0 := 0) [.int a] hM mc_X4_balance mv_X4_balance lk_L_39 (hR 0 (by decide)) sc_0 rfl rfl rfl dL_balance_4 ⟨Nat.le_refl _, Nat.le_refl _⟩ ⟨Nat.le_of_eq (Nat.zero_add _), Nat.le_of_eq (Nat.zero_add _)⟩ (Nat.le_of_ble_eq_true rfl) (fun E u hx => ?_) (fun v u hp => ?_)
  · rcases hE9 E u hx with hE
    · subst hE
      refine x_catch F [] ⟨0, 9, 12, 13⟩ [] (by rw [ht]; rfl) (fun z hz => absurd hz List.not_mem_nil) (by decide) (by decide) (List.mem_of_getElem? (i := 118) (by decide +kernel)) (List.mem_of_getElem? (i := 132) (by decide +kernel)) (fun q9 => ?_)
      refine x_astore_n F [(3, .ref q9), (0, .ref (ad 0)), (1, .int a), (2, .ref (ad 12))] dL_balance_12 rfl (by decide) rfl ?_
      refine x_iconst F (v := 1) dL_balance_13 (by decide) ?_
      rw [hQ]
      refine x_widen (k := mc) (n := ms) (Nat.le_of_eq (Nat.zero_add _)) (Nat.le_of_eq (Nat.zero_add _)) ?_
      exact x_iret F hr hlk (by exact Or.inr (⟨u, hx, rfl, rfl⟩)) dL_balance_14
  · obtain ⟨R', ad', q', ns', nt', I', J', rfl, m12, had⟩ := hu v u hp
    dsimp only
    rw [← had]
    refine x_i2l F dL_balance_7 ?_
    refine y_last F m12 ss_12 (vp_in_nI (n := 0) (N := 1) (by decide) (by decide)) dL_balance_8 ?_
    refine x_goto F 15 dL_balance_9 (by decide) ?_
    refine x_iconst F (v := 0) dL_balance_15 (by decide) ?_
    rw [hQ]
    refine x_widen (k := mc) (n := ms) (Nat.le_of_eq (Nat.zero_add _)) (Nat.le_of_eq (Nat.zero_add _)) ?_
    exact x_iret F hr hlk (by exact Or.inl ⟨v, _, hp, rfl, R', cy, ad', q', ns', nt', I', J', rfl, rfl⟩) dL_balance_16
set_option maxHeartbeats 4000000 in
set_option maxRecDepth 100000 in
theorem c_L_bundle (l : Launch) (D : va_G) (cy : Nat → ClassId) (lo : Nat) (R : List Nat) (ad : Nat → Nat) (q : Nat → Nat → Nat) (ns nt : Nat) (I : Nat → Nat → Int32) (J : Nat → Nat → Int64) (hR : ∀ r, r < 36 → r ∈ R) (a : Int32) (fr lc mc ms : Nat) (post : Int32 → k_S → Prop) (xpost : String → k_S → Prop) (hM : k_MetX l yX4_bundle cX4_bundle 2 (some .int) { frames := fr, cells := mc, slots := ms, locals := lc } D cy lo R ad (k_c cy ad q ns nt I J) (.ref (ad 0) :: [.int a]) (k_Qi D lo post) xpost) (hE9 : ∀ E u, xpost E u → E = e_IO) (hu : ∀ v u, post v u → k_U cy ad u) : k_MetH l yL_bundle cL_bundle 4 (some .int) [((0 : Nat), (9 : Nat), (12 : Nat), (13 : Nat))] { frames := fr + 1, cells := mc, slots := ms, locals := 8 + (2 + 11) + lc } D cy lo R ad (k_c cy ad q ns nt I J) [.ref (ad 0), .int a, .ref (ad 12)] (k_Qi D lo (fun r u' => (∃ (v : Int32) (u : k_S), post v u ∧ r = 0 ∧ k_O u v.toInt64 u') ∨ (∃ u : k_S, xpost e_IO u ∧ r = 1 ∧ u' = u))) := by
  refine k_metH (by decide +kernel) (Nat.le_of_ble_eq_true rfl) ?_
  intro p e s m args below meth c Q F hr hlk ht hQ
  refine x_aload_n F dL_bundle_0 rfl 2 rfl ?_
  refine x_iconst F (v := 0) dL_bundle_1 (by decide) ?_
  refine x_aload_n F dL_bundle_2 rfl 0 rfl ?_
  refine x_iload_n F dL_bundle_3 rfl 1 rfl ?_
  refine x_callVix F (r0 := 0) [.int a] hM mc_X4_bundle mv_X4_bundle lk_L_43 (hR 0 (by decide)) sc_0 rfl rfl rfl dL_bundle_4 ⟨Nat.le_refl _, Nat.le_refl _⟩ ⟨Nat.le_of_eq (Nat.zero_add _), Nat.le_of_eq (Nat.zero_add _)⟩ (Nat.le_of_ble_eq_true rfl) (fun E u hx => ?_) (fun v u hp => ?_)
  · rcases hE9 E u hx with hE
    · subst hE
      refine x_catch F [] ⟨0, 9, 12, 13⟩ [] (by rw [ht]; rfl) (fun z hz => absurd hz List.not_mem_nil) (by decide) (by decide) (List.mem_of_getElem? (i := 118) (by decide +kernel)) (List.mem_of_getElem? (i := 132) (by decide +kernel)) (fun q9 => ?_)
      refine x_astore_n F [(3, .ref q9), (0, .ref (ad 0)), (1, .int a), (2, .ref (ad 12))] dL_bundle_12 rfl (by decide) rfl ?_
      refine x_iconst F (v := 1) dL_bundle_13 (by decide) ?_
      rw [hQ]
      refine x_widen (k := mc) (n := ms) (Nat.le_of_eq (Nat.zero_add _)) (Nat.le_of_eq (Nat.zero_add _)) ?_
      exact x_iret F hr hlk (by exact Or.inr (⟨u, hx, rfl, rfl⟩)) dL_bundle_14
  · obtain ⟨R', ad', q', ns', nt', I', J', rfl, m12, had⟩ := hu v u hp
    dsimp only
    rw [← had]
    refine x_i2l F dL_bundle_7 ?_
    refine y_last F m12 ss_12 (vp_in_nI (n := 0) (N := 1) (by decide) (by decide)) dL_bundle_8 ?_
    refine x_goto F 15 dL_bundle_9 (by decide) ?_
    refine x_iconst F (v := 0) dL_bundle_15 (by decide) ?_
    rw [hQ]
    refine x_widen (k := mc) (n := ms) (Nat.le_of_eq (Nat.zero_add _)) (Nat.le_of_eq (Nat.zero_add _)) ?_
    exact x_iret F hr hlk (by exact Or.inl ⟨v, _, hp, rfl, R', cy, ad', q', ns', nt', I', J', rfl, rfl⟩) dL_bundle_16
set_option maxHeartbeats 4000000 in
set_option maxRecDepth 100000 in
theorem c_L_call (l : Launch) (D : va_G) (cy : Nat → ClassId) (lo : Nat) (R : List Nat) (ad : Nat → Nat) (q : Nat → Nat → Nat) (ns nt : Nat) (I : Nat → Nat → Int32) (J : Nat → Nat → Int64) (hR : ∀ r, r < 36 → r ∈ R) (a b : Int32) (fr lc mc ms : Nat) (post : Int32 → k_S → Prop) (xpost : String → k_S → Prop) (hM : k_MetX l yX4_call cX4_call 6 (some .int) { frames := fr, cells := mc, slots := ms, locals := lc } D cy lo R ad (k_c cy ad q ns nt I J) (.ref (ad 0) :: [.int a, .int b]) (k_Qi D lo post) xpost) (hE9 : ∀ E u, xpost E u → E = e_IO ∨ E = e_IA ∨ E = e_IS) (hu : ∀ v u, post v u → k_U cy ad u) : k_MetH l yL_call cL_call 5 (some .int) [((0 : Nat), (10 : Nat), (13 : Nat), (13 : Nat)), ((0 : Nat), (10 : Nat), (17 : Nat), (15 : Nat)), ((0 : Nat), (10 : Nat), (21 : Nat), (25 : Nat))] { frames := fr + 1, cells := mc, slots := ms, locals := 8 + (6 + 11) + lc } D cy lo R ad (k_c cy ad q ns nt I J) [.ref (ad 0), .int a, .int b, .ref (ad 12)] (k_Qi D lo (fun r u' => (∃ (v : Int32) (u : k_S), post v u ∧ r = 0 ∧ k_O u v.toInt64 u') ∨ (∃ u : k_S, xpost e_IO u ∧ r = 1 ∧ u' = u) ∨ (∃ u : k_S, xpost e_IA u ∧ r = 2 ∧ u' = u) ∨ (∃ u : k_S, xpost e_IS u ∧ r = 3 ∧ u' = u))) := by
  refine k_metH (by decide +kernel) (Nat.le_of_ble_eq_true rfl) ?_
  intro p e s m args below meth c Q F hr hlk ht hQ
  refine x_aload_n F dL_call_0 rfl 3 rfl ?_
  refine x_iconst F (v := 0) dL_call_1 (by decide) ?_
  refine x_aload_n F dL_call_2 rfl 0 rfl ?_
  refine x_iload_n F dL_call_3 rfl 1 rfl ?_
  refine x_iload_n F dL_call_4 rfl 2 rfl ?_
  refine x_callVix F (r0 := 0) [.int a, .int b] hM mc_X4_call mv_X4_call lk_L_46 (hR 0 (by decide)) sc_0 rfl rfl rfl dL_call_5 ⟨Nat.le_refl _, Nat.le_refl _⟩ ⟨Nat.le_of_eq (Nat.zero_add _), Nat.le_of_eq (Nat.zero_add _)⟩ (Nat.le_of_ble_eq_true rfl) (fun E u hx => ?_) (fun v u hp => ?_)
  · rcases hE9 E u hx with hE | hE | hE
    · subst hE
      refine x_catch F [] ⟨0, 10, 13, 13⟩ [⟨0, 10, 17, 15⟩, ⟨0, 10, 21, 25⟩] (by rw [ht]; rfl) (fun z hz => absurd hz List.not_mem_nil) (by decide) (by decide) (List.mem_of_getElem? (i := 118) (by decide +kernel)) (List.mem_of_getElem? (i := 132) (by decide +kernel)) (fun q9 => ?_)
      refine x_astore F [(4, .ref q9), (0, .ref (ad 0)), (1, .int a), (2, .int b), (3, .ref (ad 12))] dL_call_13 (by decide) rfl ?_
      refine x_iconst F (v := 1) dL_call_15 (by decide) ?_
      rw [hQ]
      refine x_widen (k := mc) (n := ms) (Nat.le_of_eq (Nat.zero_add _)) (Nat.le_of_eq (Nat.zero_add _)) ?_
      exact x_iret F hr hlk (by exact Or.inr (Or.inl ⟨u, hx, rfl, rfl⟩)) dL_call_16
    · subst hE
      refine x_catch F [⟨0, 10, 13, 13⟩] ⟨0, 10, 17, 15⟩ [⟨0, 10, 21, 25⟩] (by rw [ht]; rfl) (fun z hz => by simp only [List.mem_cons, List.not_mem_nil, or_false] at hz; rcases hz with rfl <;> first | exact ⟨by decide, e_IO, (List.mem_of_getElem? (i := 118) (by decide +kernel)), by decide +kernel⟩) (by decide) (by decide) (List.mem_of_getElem? (i := 119) (by decide +kernel)) (List.mem_of_getElem? (i := 203) (by decide +kernel)) (fun q9 => ?_)
      refine x_astore F [(4, .ref q9), (0, .ref (ad 0)), (1, .int a), (2, .int b), (3, .ref (ad 12))] dL_call_17 (by decide) rfl ?_
      refine x_iconst F (v := 2) dL_call_19 (by decide) ?_
      rw [hQ]
      refine x_widen (k := mc) (n := ms) (Nat.le_of_eq (Nat.zero_add _)) (Nat.le_of_eq (Nat.zero_add _)) ?_
      exact x_iret F hr hlk (by exact Or.inr (Or.inr (Or.inl ⟨u, hx, rfl, rfl⟩))) dL_call_20
    · subst hE
      refine x_catch F [⟨0, 10, 13, 13⟩, ⟨0, 10, 17, 15⟩] ⟨0, 10, 21, 25⟩ [] (by rw [ht]; rfl) (fun z hz => by simp only [List.mem_cons, List.not_mem_nil, or_false] at hz; rcases hz with rfl | rfl <;> first | exact ⟨by decide, e_IO, (List.mem_of_getElem? (i := 118) (by decide +kernel)), by decide +kernel⟩ | exact ⟨by decide, e_IA, (List.mem_of_getElem? (i := 119) (by decide +kernel)), by decide +kernel⟩) (by decide) (by decide) (List.mem_of_getElem? (i := 240) (by decide +kernel)) (List.mem_of_getElem? (i := 247) (by decide +kernel)) (fun q9 => ?_)
      refine x_astore F [(4, .ref q9), (0, .ref (ad 0)), (1, .int a), (2, .int b), (3, .ref (ad 12))] dL_call_21 (by decide) rfl ?_
      refine x_iconst F (v := 3) dL_call_23 (by decide) ?_
      rw [hQ]
      refine x_widen (k := mc) (n := ms) (Nat.le_of_eq (Nat.zero_add _)) (Nat.le_of_eq (Nat.zero_add _)) ?_
      exact x_iret F hr hlk (by exact Or.inr (Or.inr (Or.inr (⟨u, hx, rfl, rfl⟩)))) dL_call_24
  · obtain ⟨R', ad', q', ns', nt', I', J', rfl, m12, had⟩ := hu v u hp
    dsimp only
    rw [← had]
    refine x_i2l F dL_call_8 ?_
    refine y_last F m12 ss_12 (vp_in_nI (n := 0) (N := 1) (by decide) (by decide)) dL_call_9 ?_
    refine x_goto F 25 dL_call_10 (by decide) ?_
    refine x_iconst F (v := 0) dL_call_25 (by decide) ?_
    rw [hQ]
    refine x_widen (k := mc) (n := ms) (Nat.le_of_eq (Nat.zero_add _)) (Nat.le_of_eq (Nat.zero_add _)) ?_
    exact x_iret F hr hlk (by exact Or.inl ⟨v, _, hp, rfl, R', cy, ad', q', ns', nt', I', J', rfl, rfl⟩) dL_call_26
set_option maxHeartbeats 4000000 in
set_option maxRecDepth 100000 in
theorem c_L_hangUp (l : Launch) (D : va_G) (cy : Nat → ClassId) (lo : Nat) (R : List Nat) (ad : Nat → Nat) (q : Nat → Nat → Nat) (ns nt : Nat) (I : Nat → Nat → Int32) (J : Nat → Nat → Int64) (hR : ∀ r, r < 36 → r ∈ R) (a : Int32) (fr lc mc ms : Nat) (post : Int32 → k_S → Prop) (xpost : String → k_S → Prop) (hM : k_MetX l yX4_hangUp cX4_hangUp 3 (some .int) { frames := fr, cells := mc, slots := ms, locals := lc } D cy lo R ad (k_c cy ad q ns nt I J) (.ref (ad 0) :: [.int a]) (k_Qi D lo post) xpost) (hE9 : ∀ E u, xpost E u → E = e_IO ∨ E = e_IS) (hu : ∀ v u, post v u → k_U cy ad u) : k_MetH l yL_hangUp cL_hangUp 4 (some .int) [((0 : Nat), (9 : Nat), (12 : Nat), (13 : Nat)), ((0 : Nat), (9 : Nat), (15 : Nat), (25 : Nat))] { frames := fr + 1, cells := mc, slots := ms, locals := 8 + (3 + 11) + lc } D cy lo R ad (k_c cy ad q ns nt I J) [.ref (ad 0), .int a, .ref (ad 12)] (k_Qi D lo (fun r u' => (∃ (v : Int32) (u : k_S), post v u ∧ r = 0 ∧ k_O u v.toInt64 u') ∨ (∃ u : k_S, xpost e_IO u ∧ r = 1 ∧ u' = u) ∨ (∃ u : k_S, xpost e_IS u ∧ r = 2 ∧ u' = u))) := by
  refine k_metH (by decide +kernel) (Nat.le_of_ble_eq_true rfl) ?_
  intro p e s m args below meth c Q F hr hlk ht hQ
  refine x_aload_n F dL_hangUp_0 rfl 2 rfl ?_
  refine x_iconst F (v := 0) dL_hangUp_1 (by decide) ?_
  refine x_aload_n F dL_hangUp_2 rfl 0 rfl ?_
  refine x_iload_n F dL_hangUp_3 rfl 1 rfl ?_
  refine x_callVix F (r0 := 0) [.int a] hM mc_X4_hangUp mv_X4_hangUp lk_L_49 (hR 0 (by decide)) sc_0 rfl rfl rfl dL_hangUp_4 ⟨Nat.le_refl _, Nat.le_refl _⟩ ⟨Nat.le_of_eq (Nat.zero_add _), Nat.le_of_eq (Nat.zero_add _)⟩ (Nat.le_of_ble_eq_true rfl) (fun E u hx => ?_) (fun v u hp => ?_)
  · rcases hE9 E u hx with hE | hE
    · subst hE
      refine x_catch F [] ⟨0, 9, 12, 13⟩ [⟨0, 9, 15, 25⟩] (by rw [ht]; rfl) (fun z hz => absurd hz List.not_mem_nil) (by decide) (by decide) (List.mem_of_getElem? (i := 118) (by decide +kernel)) (List.mem_of_getElem? (i := 132) (by decide +kernel)) (fun q9 => ?_)
      refine x_astore_n F [(3, .ref q9), (0, .ref (ad 0)), (1, .int a), (2, .ref (ad 12))] dL_hangUp_12 rfl (by decide) rfl ?_
      refine x_iconst F (v := 1) dL_hangUp_13 (by decide) ?_
      rw [hQ]
      refine x_widen (k := mc) (n := ms) (Nat.le_of_eq (Nat.zero_add _)) (Nat.le_of_eq (Nat.zero_add _)) ?_
      exact x_iret F hr hlk (by exact Or.inr (Or.inl ⟨u, hx, rfl, rfl⟩)) dL_hangUp_14
    · subst hE
      refine x_catch F [⟨0, 9, 12, 13⟩] ⟨0, 9, 15, 25⟩ [] (by rw [ht]; rfl) (fun z hz => by simp only [List.mem_cons, List.not_mem_nil, or_false] at hz; rcases hz with rfl <;> first | exact ⟨by decide, e_IO, (List.mem_of_getElem? (i := 118) (by decide +kernel)), by decide +kernel⟩) (by decide) (by decide) (List.mem_of_getElem? (i := 240) (by decide +kernel)) (List.mem_of_getElem? (i := 247) (by decide +kernel)) (fun q9 => ?_)
      refine x_astore_n F [(3, .ref q9), (0, .ref (ad 0)), (1, .int a), (2, .ref (ad 12))] dL_hangUp_15 rfl (by decide) rfl ?_
      refine x_iconst F (v := 2) dL_hangUp_16 (by decide) ?_
      rw [hQ]
      refine x_widen (k := mc) (n := ms) (Nat.le_of_eq (Nat.zero_add _)) (Nat.le_of_eq (Nat.zero_add _)) ?_
      exact x_iret F hr hlk (by exact Or.inr (Or.inr (⟨u, hx, rfl, rfl⟩))) dL_hangUp_17
  · obtain ⟨R', ad', q', ns', nt', I', J', rfl, m12, had⟩ := hu v u hp
    dsimp only
    rw [← had]
    refine x_i2l F dL_hangUp_7 ?_
    refine y_last F m12 ss_12 (vp_in_nI (n := 0) (N := 1) (by decide) (by decide)) dL_hangUp_8 ?_
    refine x_goto F 18 dL_hangUp_9 (by decide) ?_
    refine x_iconst F (v := 0) dL_hangUp_18 (by decide) ?_
    rw [hQ]
    refine x_widen (k := mc) (n := ms) (Nat.le_of_eq (Nat.zero_add _)) (Nat.le_of_eq (Nat.zero_add _)) ?_
    exact x_iret F hr hlk (by exact Or.inl ⟨v, _, hp, rfl, R', cy, ad', q', ns', nt', I', J', rfl, rfl⟩) dL_hangUp_19
set_option maxHeartbeats 4000000 in
set_option maxRecDepth 100000 in
theorem c_L_pass (l : Launch) (D : va_G) (cy : Nat → ClassId) (lo : Nat) (R : List Nat) (ad : Nat → Nat) (q : Nat → Nat → Nat) (ns nt : Nat) (I : Nat → Nat → Int32) (J : Nat → Nat → Int64) (hR : ∀ r, r < 36 → r ∈ R) (a : Int32) (fr lc mc ms : Nat) (post : Int32 → k_S → Prop) (xpost : String → k_S → Prop) (hM : k_MetX l yX4_pass cX4_pass 8 (some .int) { frames := fr, cells := mc, slots := ms, locals := lc } D cy lo R ad (k_c cy ad q ns nt I J) (.ref (ad 0) :: [.int a]) (k_Qi D lo post) xpost) (hE9 : ∀ E u, xpost E u → E = e_IA) (hu : ∀ v u, post v u → k_U cy ad u) : k_MetH l yL_pass cL_pass 4 (some .int) [((0 : Nat), (9 : Nat), (12 : Nat), (15 : Nat))] { frames := fr + 1, cells := mc, slots := ms, locals := 8 + (8 + 11) + lc } D cy lo R ad (k_c cy ad q ns nt I J) [.ref (ad 0), .int a, .ref (ad 12)] (k_Qi D lo (fun r u' => (∃ (v : Int32) (u : k_S), post v u ∧ r = 0 ∧ k_O u v.toInt64 u') ∨ (∃ u : k_S, xpost e_IA u ∧ r = 1 ∧ u' = u))) := by
  refine k_metH (by decide +kernel) (Nat.le_of_ble_eq_true rfl) ?_
  intro p e s m args below meth c Q F hr hlk ht hQ
  refine x_aload_n F dL_pass_0 rfl 2 rfl ?_
  refine x_iconst F (v := 0) dL_pass_1 (by decide) ?_
  refine x_aload_n F dL_pass_2 rfl 0 rfl ?_
  refine x_iload_n F dL_pass_3 rfl 1 rfl ?_
  refine x_callVix F (r0 := 0) [.int a] hM mc_X4_pass mv_X4_pass lk_L_52 (hR 0 (by decide)) sc_0 rfl rfl rfl dL_pass_4 ⟨Nat.le_refl _, Nat.le_refl _⟩ ⟨Nat.le_of_eq (Nat.zero_add _), Nat.le_of_eq (Nat.zero_add _)⟩ (Nat.le_of_ble_eq_true rfl) (fun E u hx => ?_) (fun v u hp => ?_)
  · rcases hE9 E u hx with hE
    · subst hE
      refine x_catch F [] ⟨0, 9, 12, 15⟩ [] (by rw [ht]; rfl) (fun z hz => absurd hz List.not_mem_nil) (by decide) (by decide) (List.mem_of_getElem? (i := 119) (by decide +kernel)) (List.mem_of_getElem? (i := 203) (by decide +kernel)) (fun q9 => ?_)
      refine x_astore_n F [(3, .ref q9), (0, .ref (ad 0)), (1, .int a), (2, .ref (ad 12))] dL_pass_12 rfl (by decide) rfl ?_
      refine x_iconst F (v := 1) dL_pass_13 (by decide) ?_
      rw [hQ]
      refine x_widen (k := mc) (n := ms) (Nat.le_of_eq (Nat.zero_add _)) (Nat.le_of_eq (Nat.zero_add _)) ?_
      exact x_iret F hr hlk (by exact Or.inr (⟨u, hx, rfl, rfl⟩)) dL_pass_14
  · obtain ⟨R', ad', q', ns', nt', I', J', rfl, m12, had⟩ := hu v u hp
    dsimp only
    rw [← had]
    refine x_i2l F dL_pass_7 ?_
    refine y_last F m12 ss_12 (vp_in_nI (n := 0) (N := 1) (by decide) (by decide)) dL_pass_8 ?_
    refine x_goto F 15 dL_pass_9 (by decide) ?_
    refine x_iconst F (v := 0) dL_pass_15 (by decide) ?_
    rw [hQ]
    refine x_widen (k := mc) (n := ms) (Nat.le_of_eq (Nat.zero_add _)) (Nat.le_of_eq (Nat.zero_add _)) ?_
    exact x_iret F hr hlk (by exact Or.inl ⟨v, _, hp, rfl, R', cy, ad', q', ns', nt', I', J', rfl, rfl⟩) dL_pass_16
set_option maxHeartbeats 4000000 in
set_option maxRecDepth 100000 in
theorem c_L_state (l : Launch) (D : va_G) (cy : Nat → ClassId) (lo : Nat) (R : List Nat) (ad : Nat → Nat) (q : Nat → Nat → Nat) (ns nt : Nat) (I : Nat → Nat → Int32) (J : Nat → Nat → Int64) (hR : ∀ r, r < 36 → r ∈ R) (a : Int32) (fr lc mc ms : Nat) (post : Int32 → k_S → Prop) (xpost : String → k_S → Prop) (hM : k_MetX l yX4_state cX4_state 2 (some .int) { frames := fr, cells := mc, slots := ms, locals := lc } D cy lo R ad (k_c cy ad q ns nt I J) (.ref (ad 0) :: [.int a]) (k_Qi D lo post) xpost) (hE9 : ∀ E u, xpost E u → E = e_IO) (hu : ∀ v u, post v u → k_U cy ad u) : k_MetH l yL_state cL_state 4 (some .int) [((0 : Nat), (9 : Nat), (12 : Nat), (13 : Nat))] { frames := fr + 1, cells := mc, slots := ms, locals := 8 + (2 + 11) + lc } D cy lo R ad (k_c cy ad q ns nt I J) [.ref (ad 0), .int a, .ref (ad 12)] (k_Qi D lo (fun r u' => (∃ (v : Int32) (u : k_S), post v u ∧ r = 0 ∧ k_O u v.toInt64 u') ∨ (∃ u : k_S, xpost e_IO u ∧ r = 1 ∧ u' = u))) := by
  refine k_metH (by decide +kernel) (Nat.le_of_ble_eq_true rfl) ?_
  intro p e s m args below meth c Q F hr hlk ht hQ
  refine x_aload_n F dL_state_0 rfl 2 rfl ?_
  refine x_iconst F (v := 0) dL_state_1 (by decide) ?_
  refine x_aload_n F dL_state_2 rfl 0 rfl ?_
  refine x_iload_n F dL_state_3 rfl 1 rfl ?_
  refine x_callVix F (r0 := 0) [.int a] hM mc_X4_state mv_X4_state lk_L_55 (hR 0 (by decide)) sc_0 rfl rfl rfl dL_state_4 ⟨Nat.le_refl _, Nat.le_refl _⟩ ⟨Nat.le_of_eq (Nat.zero_add _), Nat.le_of_eq (Nat.zero_add _)⟩ (Nat.le_of_ble_eq_true rfl) (fun E u hx => ?_) (fun v u hp => ?_)
  · rcases hE9 E u hx with hE
    · subst hE
      refine x_catch F [] ⟨0, 9, 12, 13⟩ [] (by rw [ht]; rfl) (fun z hz => absurd hz List.not_mem_nil) (by decide) (by decide) (List.mem_of_getElem? (i := 118) (by decide +kernel)) (List.mem_of_getElem? (i := 132) (by decide +kernel)) (fun q9 => ?_)
      refine x_astore_n F [(3, .ref q9), (0, .ref (ad 0)), (1, .int a), (2, .ref (ad 12))] dL_state_12 rfl (by decide) rfl ?_
      refine x_iconst F (v := 1) dL_state_13 (by decide) ?_
      rw [hQ]
      refine x_widen (k := mc) (n := ms) (Nat.le_of_eq (Nat.zero_add _)) (Nat.le_of_eq (Nat.zero_add _)) ?_
      exact x_iret F hr hlk (by exact Or.inr (⟨u, hx, rfl, rfl⟩)) dL_state_14
  · obtain ⟨R', ad', q', ns', nt', I', J', rfl, m12, had⟩ := hu v u hp
    dsimp only
    rw [← had]
    refine x_i2l F dL_state_7 ?_
    refine y_last F m12 ss_12 (vp_in_nI (n := 0) (N := 1) (by decide) (by decide)) dL_state_8 ?_
    refine x_goto F 15 dL_state_9 (by decide) ?_
    refine x_iconst F (v := 0) dL_state_15 (by decide) ?_
    rw [hQ]
    refine x_widen (k := mc) (n := ms) (Nat.le_of_eq (Nat.zero_add _)) (Nat.le_of_eq (Nat.zero_add _)) ?_
    exact x_iret F hr hlk (by exact Or.inl ⟨v, _, hp, rfl, R', cy, ad', q', ns', nt', I', J', rfl, rfl⟩) dL_state_16
set_option maxHeartbeats 4000000 in
set_option maxRecDepth 100000 in
theorem c_L_minutes (l : Launch) (D : va_G) (cy : Nat → ClassId) (lo : Nat) (R : List Nat) (ad : Nat → Nat) (q : Nat → Nat → Nat) (ns nt : Nat) (I : Nat → Nat → Int32) (J : Nat → Nat → Int64) (hR : ∀ r, r < 36 → r ∈ R) (a : Int32) (fr lc mc ms : Nat) (post : Int32 → k_S → Prop) (xpost : String → k_S → Prop) (hM : k_MetX l yX4_minutes cX4_minutes 2 (some .int) { frames := fr, cells := mc, slots := ms, locals := lc } D cy lo R ad (k_c cy ad q ns nt I J) (.ref (ad 0) :: [.int a]) (k_Qi D lo post) xpost) (hE9 : ∀ E u, xpost E u → E = e_IO) (hu : ∀ v u, post v u → k_U cy ad u) : k_MetH l yL_minutes cL_minutes 4 (some .int) [((0 : Nat), (9 : Nat), (12 : Nat), (13 : Nat))] { frames := fr + 1, cells := mc, slots := ms, locals := 8 + (2 + 11) + lc } D cy lo R ad (k_c cy ad q ns nt I J) [.ref (ad 0), .int a, .ref (ad 12)] (k_Qi D lo (fun r u' => (∃ (v : Int32) (u : k_S), post v u ∧ r = 0 ∧ k_O u v.toInt64 u') ∨ (∃ u : k_S, xpost e_IO u ∧ r = 1 ∧ u' = u))) := by
  refine k_metH (by decide +kernel) (Nat.le_of_ble_eq_true rfl) ?_
  intro p e s m args below meth c Q F hr hlk ht hQ
  refine x_aload_n F dL_minutes_0 rfl 2 rfl ?_
  refine x_iconst F (v := 0) dL_minutes_1 (by decide) ?_
  refine x_aload_n F dL_minutes_2 rfl 0 rfl ?_
  refine x_iload_n F dL_minutes_3 rfl 1 rfl ?_
  refine x_callVix F (r0 := 0) [.int a] hM mc_X4_minutes mv_X4_minutes lk_L_58 (hR 0 (by decide)) sc_0 rfl rfl rfl dL_minutes_4 ⟨Nat.le_refl _, Nat.le_refl _⟩ ⟨Nat.le_of_eq (Nat.zero_add _), Nat.le_of_eq (Nat.zero_add _)⟩ (Nat.le_of_ble_eq_true rfl) (fun E u hx => ?_) (fun v u hp => ?_)
  · rcases hE9 E u hx with hE
    · subst hE
      refine x_catch F [] ⟨0, 9, 12, 13⟩ [] (by rw [ht]; rfl) (fun z hz => absurd hz List.not_mem_nil) (by decide) (by decide) (List.mem_of_getElem? (i := 118) (by decide +kernel)) (List.mem_of_getElem? (i := 132) (by decide +kernel)) (fun q9 => ?_)
      refine x_astore_n F [(3, .ref q9), (0, .ref (ad 0)), (1, .int a), (2, .ref (ad 12))] dL_minutes_12 rfl (by decide) rfl ?_
      refine x_iconst F (v := 1) dL_minutes_13 (by decide) ?_
      rw [hQ]
      refine x_widen (k := mc) (n := ms) (Nat.le_of_eq (Nat.zero_add _)) (Nat.le_of_eq (Nat.zero_add _)) ?_
      exact x_iret F hr hlk (by exact Or.inr (⟨u, hx, rfl, rfl⟩)) dL_minutes_14
  · obtain ⟨R', ad', q', ns', nt', I', J', rfl, m12, had⟩ := hu v u hp
    dsimp only
    rw [← had]
    refine x_i2l F dL_minutes_7 ?_
    refine y_last F m12 ss_12 (vp_in_nI (n := 0) (N := 1) (by decide) (by decide)) dL_minutes_8 ?_
    refine x_goto F 15 dL_minutes_9 (by decide) ?_
    refine x_iconst F (v := 0) dL_minutes_15 (by decide) ?_
    rw [hQ]
    refine x_widen (k := mc) (n := ms) (Nat.le_of_eq (Nat.zero_add _)) (Nat.le_of_eq (Nat.zero_add _)) ?_
    exact x_iret F hr hlk (by exact Or.inl ⟨v, _, hp, rfl, R', cy, ad', q', ns', nt', I', J', rfl, rfl⟩) dL_minutes_16
set_option maxHeartbeats 4000000 in
set_option maxRecDepth 100000 in
theorem c_L_moved (l : Launch) (D : va_G) (cy : Nat → ClassId) (lo : Nat) (R : List Nat) (ad : Nat → Nat) (q : Nat → Nat → Nat) (ns nt : Nat) (I : Nat → Nat → Int32) (J : Nat → Nat → Int64) (hR : ∀ r, r < 36 → r ∈ R) (a : Int32) (fr lc mc ms : Nat) (post : Int32 → k_S → Prop) (xpost : String → k_S → Prop) (hM : k_MetX l yX4_moved cX4_moved 2 (some .int) { frames := fr, cells := mc, slots := ms, locals := lc } D cy lo R ad (k_c cy ad q ns nt I J) (.ref (ad 0) :: [.int a]) (k_Qi D lo post) xpost) (hE9 : ∀ E u, xpost E u → E = e_IO) (hu : ∀ v u, post v u → k_U cy ad u) : k_MetH l yL_moved cL_moved 4 (some .int) [((0 : Nat), (9 : Nat), (12 : Nat), (13 : Nat))] { frames := fr + 1, cells := mc, slots := ms, locals := 8 + (2 + 11) + lc } D cy lo R ad (k_c cy ad q ns nt I J) [.ref (ad 0), .int a, .ref (ad 12)] (k_Qi D lo (fun r u' => (∃ (v : Int32) (u : k_S), post v u ∧ r = 0 ∧ k_O u v.toInt64 u') ∨ (∃ u : k_S, xpost e_IO u ∧ r = 1 ∧ u' = u))) := by
  refine k_metH (by decide +kernel) (Nat.le_of_ble_eq_true rfl) ?_
  intro p e s m args below meth c Q F hr hlk ht hQ
  refine x_aload_n F dL_moved_0 rfl 2 rfl ?_
  refine x_iconst F (v := 0) dL_moved_1 (by decide) ?_
  refine x_aload_n F dL_moved_2 rfl 0 rfl ?_
  refine x_iload_n F dL_moved_3 rfl 1 rfl ?_
  refine x_callVix F (r0 := 0) [.int a] hM mc_X4_moved mv_X4_moved lk_L_61 (hR 0 (by decide)) sc_0 rfl rfl rfl dL_moved_4 ⟨Nat.le_refl _, Nat.le_refl _⟩ ⟨Nat.le_of_eq (Nat.zero_add _), Nat.le_of_eq (Nat.zero_add _)⟩ (Nat.le_of_ble_eq_true rfl) (fun E u hx => ?_) (fun v u hp => ?_)
  · rcases hE9 E u hx with hE
    · subst hE
      refine x_catch F [] ⟨0, 9, 12, 13⟩ [] (by rw [ht]; rfl) (fun z hz => absurd hz List.not_mem_nil) (by decide) (by decide) (List.mem_of_getElem? (i := 118) (by decide +kernel)) (List.mem_of_getElem? (i := 132) (by decide +kernel)) (fun q9 => ?_)
      refine x_astore_n F [(3, .ref q9), (0, .ref (ad 0)), (1, .int a), (2, .ref (ad 12))] dL_moved_12 rfl (by decide) rfl ?_
      refine x_iconst F (v := 1) dL_moved_13 (by decide) ?_
      rw [hQ]
      refine x_widen (k := mc) (n := ms) (Nat.le_of_eq (Nat.zero_add _)) (Nat.le_of_eq (Nat.zero_add _)) ?_
      exact x_iret F hr hlk (by exact Or.inr (⟨u, hx, rfl, rfl⟩)) dL_moved_14
  · obtain ⟨R', ad', q', ns', nt', I', J', rfl, m12, had⟩ := hu v u hp
    dsimp only
    rw [← had]
    refine x_i2l F dL_moved_7 ?_
    refine y_last F m12 ss_12 (vp_in_nI (n := 0) (N := 1) (by decide) (by decide)) dL_moved_8 ?_
    refine x_goto F 15 dL_moved_9 (by decide) ?_
    refine x_iconst F (v := 0) dL_moved_15 (by decide) ?_
    rw [hQ]
    refine x_widen (k := mc) (n := ms) (Nat.le_of_eq (Nat.zero_add _)) (Nat.le_of_eq (Nat.zero_add _)) ?_
    exact x_iret F hr hlk (by exact Or.inl ⟨v, _, hp, rfl, R', cy, ad', q', ns', nt', I', J', rfl, rfl⟩) dL_moved_16
set_option maxHeartbeats 4000000 in
set_option maxRecDepth 100000 in
theorem c_L_way (l : Launch) (D : va_G) (cy : Nat → ClassId) (lo : Nat) (R : List Nat) (ad : Nat → Nat) (q : Nat → Nat → Nat) (ns nt : Nat) (I : Nat → Nat → Int32) (J : Nat → Nat → Int64) (hR : ∀ r, r < 36 → r ∈ R) (a b : Int32) (fr lc mc ms : Nat) (post : Int32 → k_S → Prop) (xpost : String → k_S → Prop) (hM : k_MetX l yX4_way cX4_way 4 (some .int) { frames := fr, cells := mc, slots := ms, locals := lc } D cy lo R ad (k_c cy ad q ns nt I J) (.ref (ad 0) :: [.int a, .int b]) (k_Qi D lo post) xpost) (hE9 : ∀ E u, xpost E u → E = e_IO) (hu : ∀ v u, post v u → k_U cy ad u) : k_MetH l yL_way cL_way 5 (some .int) [((0 : Nat), (10 : Nat), (13 : Nat), (13 : Nat))] { frames := fr + 1, cells := mc, slots := ms, locals := 8 + (4 + 11) + lc } D cy lo R ad (k_c cy ad q ns nt I J) [.ref (ad 0), .int a, .int b, .ref (ad 12)] (k_Qi D lo (fun r u' => (∃ (v : Int32) (u : k_S), post v u ∧ r = 0 ∧ k_O u v.toInt64 u') ∨ (∃ u : k_S, xpost e_IO u ∧ r = 1 ∧ u' = u))) := by
  refine k_metH (by decide +kernel) (Nat.le_of_ble_eq_true rfl) ?_
  intro p e s m args below meth c Q F hr hlk ht hQ
  refine x_aload_n F dL_way_0 rfl 3 rfl ?_
  refine x_iconst F (v := 0) dL_way_1 (by decide) ?_
  refine x_aload_n F dL_way_2 rfl 0 rfl ?_
  refine x_iload_n F dL_way_3 rfl 1 rfl ?_
  refine x_iload_n F dL_way_4 rfl 2 rfl ?_
  refine x_callVix F (r0 := 0) [.int a, .int b] hM mc_X4_way mv_X4_way lk_L_64 (hR 0 (by decide)) sc_0 rfl rfl rfl dL_way_5 ⟨Nat.le_refl _, Nat.le_refl _⟩ ⟨Nat.le_of_eq (Nat.zero_add _), Nat.le_of_eq (Nat.zero_add _)⟩ (Nat.le_of_ble_eq_true rfl) (fun E u hx => ?_) (fun v u hp => ?_)
  · rcases hE9 E u hx with hE
    · subst hE
      refine x_catch F [] ⟨0, 10, 13, 13⟩ [] (by rw [ht]; rfl) (fun z hz => absurd hz List.not_mem_nil) (by decide) (by decide) (List.mem_of_getElem? (i := 118) (by decide +kernel)) (List.mem_of_getElem? (i := 132) (by decide +kernel)) (fun q9 => ?_)
      refine x_astore F [(4, .ref q9), (0, .ref (ad 0)), (1, .int a), (2, .int b), (3, .ref (ad 12))] dL_way_13 (by decide) rfl ?_
      refine x_iconst F (v := 1) dL_way_15 (by decide) ?_
      rw [hQ]
      refine x_widen (k := mc) (n := ms) (Nat.le_of_eq (Nat.zero_add _)) (Nat.le_of_eq (Nat.zero_add _)) ?_
      exact x_iret F hr hlk (by exact Or.inr (⟨u, hx, rfl, rfl⟩)) dL_way_16
  · obtain ⟨R', ad', q', ns', nt', I', J', rfl, m12, had⟩ := hu v u hp
    dsimp only
    rw [← had]
    refine x_i2l F dL_way_8 ?_
    refine y_last F m12 ss_12 (vp_in_nI (n := 0) (N := 1) (by decide) (by decide)) dL_way_9 ?_
    refine x_goto F 17 dL_way_10 (by decide) ?_
    refine x_iconst F (v := 0) dL_way_17 (by decide) ?_
    rw [hQ]
    refine x_widen (k := mc) (n := ms) (Nat.le_of_eq (Nat.zero_add _)) (Nat.le_of_eq (Nat.zero_add _)) ?_
    exact x_iret F hr hlk (by exact Or.inl ⟨v, _, hp, rfl, R', cy, ad', q', ns', nt', I', J', rfl, rfl⟩) dL_way_18
set_option maxHeartbeats 4000000 in
set_option maxRecDepth 100000 in
theorem c_L_cost (l : Launch) (D : va_G) (cy : Nat → ClassId) (lo : Nat) (R : List Nat) (ad : Nat → Nat) (q : Nat → Nat → Nat) (ns nt : Nat) (I : Nat → Nat → Int32) (J : Nat → Nat → Int64) (hR : ∀ r, r < 36 → r ∈ R) (a b : Int32) (fr lc mc ms : Nat) (post : Int32 → k_S → Prop) (xpost : String → k_S → Prop) (hM : k_MetX l yX4_cost cX4_cost 3 (some .int) { frames := fr, cells := mc, slots := ms, locals := lc } D cy lo R ad (k_c cy ad q ns nt I J) (.ref (ad 0) :: [.int a, .int b]) (k_Qi D lo post) xpost) (hE9 : ∀ E u, xpost E u → E = e_IO) (hu : ∀ v u, post v u → k_U cy ad u) : k_MetH l yL_cost cL_cost 5 (some .int) [((0 : Nat), (10 : Nat), (13 : Nat), (13 : Nat))] { frames := fr + 1, cells := mc, slots := ms, locals := 8 + (3 + 11) + lc } D cy lo R ad (k_c cy ad q ns nt I J) [.ref (ad 0), .int a, .int b, .ref (ad 12)] (k_Qi D lo (fun r u' => (∃ (v : Int32) (u : k_S), post v u ∧ r = 0 ∧ k_O u v.toInt64 u') ∨ (∃ u : k_S, xpost e_IO u ∧ r = 1 ∧ u' = u))) := by
  refine k_metH (by decide +kernel) (Nat.le_of_ble_eq_true rfl) ?_
  intro p e s m args below meth c Q F hr hlk ht hQ
  refine x_aload_n F dL_cost_0 rfl 3 rfl ?_
  refine x_iconst F (v := 0) dL_cost_1 (by decide) ?_
  refine x_aload_n F dL_cost_2 rfl 0 rfl ?_
  refine x_iload_n F dL_cost_3 rfl 1 rfl ?_
  refine x_iload_n F dL_cost_4 rfl 2 rfl ?_
  refine x_callVix F (r0 := 0) [.int a, .int b] hM mc_X4_cost mv_X4_cost lk_L_67 (hR 0 (by decide)) sc_0 rfl rfl rfl dL_cost_5 ⟨Nat.le_refl _, Nat.le_refl _⟩ ⟨Nat.le_of_eq (Nat.zero_add _), Nat.le_of_eq (Nat.zero_add _)⟩ (Nat.le_of_ble_eq_true rfl) (fun E u hx => ?_) (fun v u hp => ?_)
  · rcases hE9 E u hx with hE
    · subst hE
      refine x_catch F [] ⟨0, 10, 13, 13⟩ [] (by rw [ht]; rfl) (fun z hz => absurd hz List.not_mem_nil) (by decide) (by decide) (List.mem_of_getElem? (i := 118) (by decide +kernel)) (List.mem_of_getElem? (i := 132) (by decide +kernel)) (fun q9 => ?_)
      refine x_astore F [(4, .ref q9), (0, .ref (ad 0)), (1, .int a), (2, .int b), (3, .ref (ad 12))] dL_cost_13 (by decide) rfl ?_
      refine x_iconst F (v := 1) dL_cost_15 (by decide) ?_
      rw [hQ]
      refine x_widen (k := mc) (n := ms) (Nat.le_of_eq (Nat.zero_add _)) (Nat.le_of_eq (Nat.zero_add _)) ?_
      exact x_iret F hr hlk (by exact Or.inr (⟨u, hx, rfl, rfl⟩)) dL_cost_16
  · obtain ⟨R', ad', q', ns', nt', I', J', rfl, m12, had⟩ := hu v u hp
    dsimp only
    rw [← had]
    refine x_i2l F dL_cost_8 ?_
    refine y_last F m12 ss_12 (vp_in_nI (n := 0) (N := 1) (by decide) (by decide)) dL_cost_9 ?_
    refine x_goto F 17 dL_cost_10 (by decide) ?_
    refine x_iconst F (v := 0) dL_cost_17 (by decide) ?_
    rw [hQ]
    refine x_widen (k := mc) (n := ms) (Nat.le_of_eq (Nat.zero_add _)) (Nat.le_of_eq (Nat.zero_add _)) ?_
    exact x_iret F hr hlk (by exact Or.inl ⟨v, _, hp, rfl, R', cy, ad', q', ns', nt', I', J', rfl, rfl⟩) dL_cost_18
set_option maxHeartbeats 4000000 in
set_option maxRecDepth 100000 in
theorem c_L_best (l : Launch) (D : va_G) (cy : Nat → ClassId) (lo : Nat) (R : List Nat) (ad : Nat → Nat) (q : Nat → Nat → Nat) (ns nt : Nat) (I : Nat → Nat → Int32) (J : Nat → Nat → Int64) (hR : ∀ r, r < 36 → r ∈ R) (a b c2 : Int32) (fr lc mc ms : Nat) (post : Int32 → k_S → Prop) (xpost : String → k_S → Prop) (hM : k_MetX l yX4_best cX4_best 5 (some .int) { frames := fr, cells := mc, slots := ms, locals := lc } D cy lo R ad (k_c cy ad q ns nt I J) (.ref (ad 0) :: [.int a, .int b, .int c2]) (k_Qi D lo post) xpost) (hE9 : ∀ E u, xpost E u → E = e_IO) (hu : ∀ v u, post v u → k_U cy ad u) : k_MetH l yL_best cL_best 6 (some .int) [((0 : Nat), (12 : Nat), (15 : Nat), (13 : Nat))] { frames := fr + 1, cells := mc, slots := ms, locals := 8 + (5 + 11) + lc } D cy lo R ad (k_c cy ad q ns nt I J) [.ref (ad 0), .int a, .int b, .int c2, .ref (ad 12)] (k_Qi D lo (fun r u' => (∃ (v : Int32) (u : k_S), post v u ∧ r = 0 ∧ k_O u v.toInt64 u') ∨ (∃ u : k_S, xpost e_IO u ∧ r = 1 ∧ u' = u))) := by
  refine k_metH (by decide +kernel) (Nat.le_of_ble_eq_true rfl) ?_
  intro p e s m args below meth c Q F hr hlk ht hQ
  refine x_aload F dL_best_0 4 rfl ?_
  refine x_iconst F (v := 0) dL_best_2 (by decide) ?_
  refine x_aload_n F dL_best_3 rfl 0 rfl ?_
  refine x_iload_n F dL_best_4 rfl 1 rfl ?_
  refine x_iload_n F dL_best_5 rfl 2 rfl ?_
  refine x_iload_n F dL_best_6 rfl 3 rfl ?_
  refine x_callVix F (r0 := 0) [.int a, .int b, .int c2] hM mc_X4_best mv_X4_best lk_L_70 (hR 0 (by decide)) sc_0 rfl rfl rfl dL_best_7 ⟨Nat.le_refl _, Nat.le_refl _⟩ ⟨Nat.le_of_eq (Nat.zero_add _), Nat.le_of_eq (Nat.zero_add _)⟩ (Nat.le_of_ble_eq_true rfl) (fun E u hx => ?_) (fun v u hp => ?_)
  · rcases hE9 E u hx with hE
    · subst hE
      refine x_catch F [] ⟨0, 12, 15, 13⟩ [] (by rw [ht]; rfl) (fun z hz => absurd hz List.not_mem_nil) (by decide) (by decide) (List.mem_of_getElem? (i := 118) (by decide +kernel)) (List.mem_of_getElem? (i := 132) (by decide +kernel)) (fun q9 => ?_)
      refine x_astore F [(5, .ref q9), (0, .ref (ad 0)), (1, .int a), (2, .int b), (3, .int c2), (4, .ref (ad 12))] dL_best_15 (by decide) rfl ?_
      refine x_iconst F (v := 1) dL_best_17 (by decide) ?_
      rw [hQ]
      refine x_widen (k := mc) (n := ms) (Nat.le_of_eq (Nat.zero_add _)) (Nat.le_of_eq (Nat.zero_add _)) ?_
      exact x_iret F hr hlk (by exact Or.inr (⟨u, hx, rfl, rfl⟩)) dL_best_18
  · obtain ⟨R', ad', q', ns', nt', I', J', rfl, m12, had⟩ := hu v u hp
    dsimp only
    rw [← had]
    refine x_i2l F dL_best_10 ?_
    refine y_last F m12 ss_12 (vp_in_nI (n := 0) (N := 1) (by decide) (by decide)) dL_best_11 ?_
    refine x_goto F 19 dL_best_12 (by decide) ?_
    refine x_iconst F (v := 0) dL_best_19 (by decide) ?_
    rw [hQ]
    refine x_widen (k := mc) (n := ms) (Nat.le_of_eq (Nat.zero_add _)) (Nat.le_of_eq (Nat.zero_add _)) ?_
    exact x_iret F hr hlk (by exact Or.inl ⟨v, _, hp, rfl, R', cy, ad', q', ns', nt', I', J', rfl, rfl⟩) dL_best_20
set_option maxHeartbeats 4000000 in
set_option maxRecDepth 100000 in
theorem c_L_isBarred (l : Launch) (D : va_G) (cy : Nat → ClassId) (lo : Nat) (R : List Nat) (ad : Nat → Nat) (q : Nat → Nat → Nat) (ns nt : Nat) (I : Nat → Nat → Int32) (J : Nat → Nat → Int64) (hR : ∀ r, r < 36 → r ∈ R) (a b : Int32) (fr lc mc ms : Nat) (post : Int32 → k_S → Prop) (xpost : String → k_S → Prop) (hM : k_MetX l yX4_isBarred cX4_isBarred 3 (some .boolean) { frames := fr, cells := mc, slots := ms, locals := lc } D cy lo R ad (k_c cy ad q ns nt I J) (.ref (ad 0) :: [.int a, .int b]) (k_Qi D lo post) xpost) (hE9 : ∀ E u, xpost E u → E = e_IO) (hu : ∀ v u, post v u → k_U cy ad u) : k_MetH l yL_isBarred cL_isBarred 5 (some .int) [((0 : Nat), (17 : Nat), (20 : Nat), (13 : Nat))] { frames := fr + 1, cells := mc, slots := ms, locals := 8 + (3 + 11) + lc } D cy lo R ad (k_c cy ad q ns nt I J) [.ref (ad 0), .int a, .int b, .ref (ad 12)] (k_Qi D lo (fun r u' => (∃ (v : Int32) (u : k_S), post v u ∧ r = 0 ∧ k_O u (if v = 0 then 0 else 1) u') ∨ (∃ u : k_S, xpost e_IO u ∧ r = 1 ∧ u' = u))) := by
  refine k_metH (by decide +kernel) (Nat.le_of_ble_eq_true rfl) ?_
  intro p e s m args below meth c Q F hr hlk ht hQ
  refine x_aload_n F dL_isBarred_0 rfl 3 rfl ?_
  refine x_iconst F (v := 0) dL_isBarred_1 (by decide) ?_
  refine x_aload_n F dL_isBarred_2 rfl 0 rfl ?_
  refine x_iload_n F dL_isBarred_3 rfl 1 rfl ?_
  refine x_iload_n F dL_isBarred_4 rfl 2 rfl ?_
  refine x_callVix F (r0 := 0) [.int a, .int b] hM mc_X4_isBarred mv_X4_isBarred lk_L_73 (hR 0 (by decide)) sc_0 rfl rfl rfl dL_isBarred_5 ⟨Nat.le_refl _, Nat.le_refl _⟩ ⟨Nat.le_of_eq (Nat.zero_add _), Nat.le_of_eq (Nat.zero_add _)⟩ (Nat.le_of_ble_eq_true rfl) (fun E u hx => ?_) (fun v u hp => ?_)
  · rcases hE9 E u hx with hE
    · subst hE
      refine x_catch F [] ⟨0, 17, 20, 13⟩ [] (by rw [ht]; rfl) (fun z hz => absurd hz List.not_mem_nil) (by decide) (by decide) (List.mem_of_getElem? (i := 118) (by decide +kernel)) (List.mem_of_getElem? (i := 132) (by decide +kernel)) (fun q9 => ?_)
      refine x_astore F [(4, .ref q9), (0, .ref (ad 0)), (1, .int a), (2, .int b), (3, .ref (ad 12))] dL_isBarred_20 (by decide) rfl ?_
      refine x_iconst F (v := 1) dL_isBarred_22 (by decide) ?_
      rw [hQ]
      refine x_widen (k := mc) (n := ms) (Nat.le_of_eq (Nat.zero_add _)) (Nat.le_of_eq (Nat.zero_add _)) ?_
      exact x_iret F hr hlk (by exact Or.inr (⟨u, hx, rfl, rfl⟩)) dL_isBarred_23
  · obtain ⟨R', ad', q', ns', nt', I', J', rfl, m12, had⟩ := hu v u hp
    dsimp only
    rw [← had]
    refine x_if_eq F 15 dL_isBarred_8 (by decide) (fun h8 => ?_) (fun h8 => ?_)
    · refine x_lconst F (v := 0) dL_isBarred_15 (by decide) ?_
      refine y_last F m12 ss_12 (vp_in_nI (n := 0) (N := 1) (by decide) (by decide)) dL_isBarred_16 ?_
      refine x_goto F 24 dL_isBarred_17 (by decide) ?_
      refine x_iconst F (v := 0) dL_isBarred_24 (by decide) ?_
      rw [hQ]
      refine x_widen (k := mc) (n := ms) (Nat.le_of_eq (Nat.zero_add _)) (Nat.le_of_eq (Nat.zero_add _)) ?_
      exact x_iret F hr hlk (by exact Or.inl ⟨v, _, hp, rfl, R', cy, ad', q', ns', nt', I', J', rfl, by simp [*]⟩) dL_isBarred_25
    · refine x_lconst F (v := 1) dL_isBarred_11 (by decide) ?_
      refine x_goto F 16 dL_isBarred_12 (by decide) ?_
      refine y_last F m12 ss_12 (vp_in_nI (n := 0) (N := 1) (by decide) (by decide)) dL_isBarred_16 ?_
      refine x_goto F 24 dL_isBarred_17 (by decide) ?_
      refine x_iconst F (v := 0) dL_isBarred_24 (by decide) ?_
      rw [hQ]
      refine x_widen (k := mc) (n := ms) (Nat.le_of_eq (Nat.zero_add _)) (Nat.le_of_eq (Nat.zero_add _)) ?_
      exact x_iret F hr hlk (by exact Or.inl ⟨v, _, hp, rfl, R', cy, ad', q', ns', nt', I', J', rfl, by simp [*]⟩) dL_isBarred_25
set_option maxHeartbeats 4000000 in
set_option maxRecDepth 100000 in
theorem c_L_debt (l : Launch) (D : va_G) (cy : Nat → ClassId) (lo : Nat) (R : List Nat) (ad : Nat → Nat) (q : Nat → Nat → Nat) (ns nt : Nat) (I : Nat → Nat → Int32) (J : Nat → Nat → Int64) (hR : ∀ r, r < 36 → r ∈ R) (a b : Int32) (fr lc mc ms : Nat) (post : Int64 → k_S → Prop) (xpost : String → k_S → Prop) (hM : k_MetX l yX4_debt cX4_debt 3 (some .long) { frames := fr, cells := mc, slots := ms, locals := lc } D cy lo R ad (k_c cy ad q ns nt I J) (.ref (ad 0) :: [.int a, .int b]) (k_Ql D lo post) xpost) (hE9 : ∀ E u, xpost E u → E = e_IO) (hu : ∀ v u, post v u → k_U cy ad u) : k_MetH l yL_debt cL_debt 5 (some .int) [((0 : Nat), (9 : Nat), (12 : Nat), (13 : Nat))] { frames := fr + 1, cells := mc, slots := ms, locals := 8 + (3 + 11) + lc } D cy lo R ad (k_c cy ad q ns nt I J) [.ref (ad 0), .int a, .int b, .ref (ad 12)] (k_Qi D lo (fun r u' => (∃ (v : Int64) (u : k_S), post v u ∧ r = 0 ∧ k_O u v u') ∨ (∃ u : k_S, xpost e_IO u ∧ r = 1 ∧ u' = u))) := by
  refine k_metH (by decide +kernel) (Nat.le_of_ble_eq_true rfl) ?_
  intro p e s m args below meth c Q F hr hlk ht hQ
  refine x_aload_n F dL_debt_0 rfl 3 rfl ?_
  refine x_iconst F (v := 0) dL_debt_1 (by decide) ?_
  refine x_aload_n F dL_debt_2 rfl 0 rfl ?_
  refine x_iload_n F dL_debt_3 rfl 1 rfl ?_
  refine x_iload_n F dL_debt_4 rfl 2 rfl ?_
  refine x_callVlx F (r0 := 0) [.int a, .int b] hM mc_X4_debt mv_X4_debt lk_L_77 (hR 0 (by decide)) sc_0 rfl rfl rfl dL_debt_5 ⟨Nat.le_refl _, Nat.le_refl _⟩ ⟨Nat.le_of_eq (Nat.zero_add _), Nat.le_of_eq (Nat.zero_add _)⟩ (Nat.le_of_ble_eq_true rfl) (fun E u hx => ?_) (fun v u hp => ?_)
  · rcases hE9 E u hx with hE
    · subst hE
      refine x_catch F [] ⟨0, 9, 12, 13⟩ [] (by rw [ht]; rfl) (fun z hz => absurd hz List.not_mem_nil) (by decide) (by decide) (List.mem_of_getElem? (i := 118) (by decide +kernel)) (List.mem_of_getElem? (i := 132) (by decide +kernel)) (fun q9 => ?_)
      refine x_astore F [(4, .ref q9), (0, .ref (ad 0)), (1, .int a), (2, .int b), (3, .ref (ad 12))] dL_debt_12 (by decide) rfl ?_
      refine x_iconst F (v := 1) dL_debt_14 (by decide) ?_
      rw [hQ]
      refine x_widen (k := mc) (n := ms) (Nat.le_of_eq (Nat.zero_add _)) (Nat.le_of_eq (Nat.zero_add _)) ?_
      exact x_iret F hr hlk (by exact Or.inr (⟨u, hx, rfl, rfl⟩)) dL_debt_15
  · obtain ⟨R', ad', q', ns', nt', I', J', rfl, m12, had⟩ := hu v u hp
    dsimp only
    rw [← had]
    refine y_last F m12 ss_12 (vp_in_nI (n := 0) (N := 1) (by decide) (by decide)) dL_debt_8 ?_
    refine x_goto F 16 dL_debt_9 (by decide) ?_
    refine x_iconst F (v := 0) dL_debt_16 (by decide) ?_
    rw [hQ]
    refine x_widen (k := mc) (n := ms) (Nat.le_of_eq (Nat.zero_add _)) (Nat.le_of_eq (Nat.zero_add _)) ?_
    exact x_iret F hr hlk (by exact Or.inl ⟨v, _, hp, rfl, R', cy, ad', q', ns', nt', I', J', rfl, rfl⟩) dL_debt_17
set_option maxHeartbeats 4000000 in
set_option maxRecDepth 100000 in
theorem c_L_charged (l : Launch) (D : va_G) (cy : Nat → ClassId) (lo : Nat) (R : List Nat) (ad : Nat → Nat) (q : Nat → Nat → Nat) (ns nt : Nat) (I : Nat → Nat → Int32) (J : Nat → Nat → Int64) (hR : ∀ r, r < 36 → r ∈ R) (a b : Int32) (fr lc mc ms : Nat) (post : Int64 → k_S → Prop) (xpost : String → k_S → Prop) (hM : k_MetX l yX4_charged cX4_charged 10 (some .long) { frames := fr, cells := mc, slots := ms, locals := lc } D cy lo R ad (k_c cy ad q ns nt I J) (.ref (ad 0) :: [.int a, .int b]) (k_Ql D lo post) xpost) (hE9 : ∀ E u, xpost E u → E = e_IO) (hu : ∀ v u, post v u → k_U cy ad u) : k_MetH l yL_charged cL_charged 5 (some .int) [((0 : Nat), (9 : Nat), (12 : Nat), (13 : Nat))] { frames := fr + 1, cells := mc, slots := ms, locals := 8 + (10 + 11) + lc } D cy lo R ad (k_c cy ad q ns nt I J) [.ref (ad 0), .int a, .int b, .ref (ad 12)] (k_Qi D lo (fun r u' => (∃ (v : Int64) (u : k_S), post v u ∧ r = 0 ∧ k_O u v u') ∨ (∃ u : k_S, xpost e_IO u ∧ r = 1 ∧ u' = u))) := by
  refine k_metH (by decide +kernel) (Nat.le_of_ble_eq_true rfl) ?_
  intro p e s m args below meth c Q F hr hlk ht hQ
  refine x_aload_n F dL_charged_0 rfl 3 rfl ?_
  refine x_iconst F (v := 0) dL_charged_1 (by decide) ?_
  refine x_aload_n F dL_charged_2 rfl 0 rfl ?_
  refine x_iload_n F dL_charged_3 rfl 1 rfl ?_
  refine x_iload_n F dL_charged_4 rfl 2 rfl ?_
  refine x_callVlx F (r0 := 0) [.int a, .int b] hM mc_X4_charged mv_X4_charged lk_L_81 (hR 0 (by decide)) sc_0 rfl rfl rfl dL_charged_5 ⟨Nat.le_refl _, Nat.le_refl _⟩ ⟨Nat.le_of_eq (Nat.zero_add _), Nat.le_of_eq (Nat.zero_add _)⟩ (Nat.le_of_ble_eq_true rfl) (fun E u hx => ?_) (fun v u hp => ?_)
  · rcases hE9 E u hx with hE
    · subst hE
      refine x_catch F [] ⟨0, 9, 12, 13⟩ [] (by rw [ht]; rfl) (fun z hz => absurd hz List.not_mem_nil) (by decide) (by decide) (List.mem_of_getElem? (i := 118) (by decide +kernel)) (List.mem_of_getElem? (i := 132) (by decide +kernel)) (fun q9 => ?_)
      refine x_astore F [(4, .ref q9), (0, .ref (ad 0)), (1, .int a), (2, .int b), (3, .ref (ad 12))] dL_charged_12 (by decide) rfl ?_
      refine x_iconst F (v := 1) dL_charged_14 (by decide) ?_
      rw [hQ]
      refine x_widen (k := mc) (n := ms) (Nat.le_of_eq (Nat.zero_add _)) (Nat.le_of_eq (Nat.zero_add _)) ?_
      exact x_iret F hr hlk (by exact Or.inr (⟨u, hx, rfl, rfl⟩)) dL_charged_15
  · obtain ⟨R', ad', q', ns', nt', I', J', rfl, m12, had⟩ := hu v u hp
    dsimp only
    rw [← had]
    refine y_last F m12 ss_12 (vp_in_nI (n := 0) (N := 1) (by decide) (by decide)) dL_charged_8 ?_
    refine x_goto F 16 dL_charged_9 (by decide) ?_
    refine x_iconst F (v := 0) dL_charged_16 (by decide) ?_
    rw [hQ]
    refine x_widen (k := mc) (n := ms) (Nat.le_of_eq (Nat.zero_add _)) (Nat.le_of_eq (Nat.zero_add _)) ?_
    exact x_iret F hr hlk (by exact Or.inl ⟨v, _, hp, rfl, R', cy, ad', q', ns', nt', I', J', rfl, rfl⟩) dL_charged_17
set_option maxHeartbeats 4000000 in
set_option maxRecDepth 100000 in
theorem c_L_position (l : Launch) (D : va_G) (cy : Nat → ClassId) (lo : Nat) (R : List Nat) (ad : Nat → Nat) (q : Nat → Nat → Nat) (ns nt : Nat) (I : Nat → Nat → Int32) (J : Nat → Nat → Int64) (hR : ∀ r, r < 36 → r ∈ R) (a : Int32) (fr lc mc ms : Nat) (post : Int64 → k_S → Prop) (xpost : String → k_S → Prop) (hM : k_MetX l yX4_position cX4_position 5 (some .long) { frames := fr, cells := mc, slots := ms, locals := lc } D cy lo R ad (k_c cy ad q ns nt I J) (.ref (ad 0) :: [.int a]) (k_Ql D lo post) xpost) (hE9 : ∀ E u, xpost E u → E = e_IO) (hu : ∀ v u, post v u → k_U cy ad u) : k_MetH l yL_position cL_position 4 (some .int) [((0 : Nat), (8 : Nat), (11 : Nat), (13 : Nat))] { frames := fr + 1, cells := mc, slots := ms, locals := 8 + (5 + 11) + lc } D cy lo R ad (k_c cy ad q ns nt I J) [.ref (ad 0), .int a, .ref (ad 12)] (k_Qi D lo (fun r u' => (∃ (v : Int64) (u : k_S), post v u ∧ r = 0 ∧ k_O u v u') ∨ (∃ u : k_S, xpost e_IO u ∧ r = 1 ∧ u' = u))) := by
  refine k_metH (by decide +kernel) (Nat.le_of_ble_eq_true rfl) ?_
  intro p e s m args below meth c Q F hr hlk ht hQ
  refine x_aload_n F dL_position_0 rfl 2 rfl ?_
  refine x_iconst F (v := 0) dL_position_1 (by decide) ?_
  refine x_aload_n F dL_position_2 rfl 0 rfl ?_
  refine x_iload_n F dL_position_3 rfl 1 rfl ?_
  refine x_callVlx F (r0 := 0) [.int a] hM mc_X4_position mv_X4_position lk_L_84 (hR 0 (by decide)) sc_0 rfl rfl rfl dL_position_4 ⟨Nat.le_refl _, Nat.le_refl _⟩ ⟨Nat.le_of_eq (Nat.zero_add _), Nat.le_of_eq (Nat.zero_add _)⟩ (Nat.le_of_ble_eq_true rfl) (fun E u hx => ?_) (fun v u hp => ?_)
  · rcases hE9 E u hx with hE
    · subst hE
      refine x_catch F [] ⟨0, 8, 11, 13⟩ [] (by rw [ht]; rfl) (fun z hz => absurd hz List.not_mem_nil) (by decide) (by decide) (List.mem_of_getElem? (i := 118) (by decide +kernel)) (List.mem_of_getElem? (i := 132) (by decide +kernel)) (fun q9 => ?_)
      refine x_astore_n F [(3, .ref q9), (0, .ref (ad 0)), (1, .int a), (2, .ref (ad 12))] dL_position_11 rfl (by decide) rfl ?_
      refine x_iconst F (v := 1) dL_position_12 (by decide) ?_
      rw [hQ]
      refine x_widen (k := mc) (n := ms) (Nat.le_of_eq (Nat.zero_add _)) (Nat.le_of_eq (Nat.zero_add _)) ?_
      exact x_iret F hr hlk (by exact Or.inr (⟨u, hx, rfl, rfl⟩)) dL_position_13
  · obtain ⟨R', ad', q', ns', nt', I', J', rfl, m12, had⟩ := hu v u hp
    dsimp only
    rw [← had]
    refine y_last F m12 ss_12 (vp_in_nI (n := 0) (N := 1) (by decide) (by decide)) dL_position_7 ?_
    refine x_goto F 14 dL_position_8 (by decide) ?_
    refine x_iconst F (v := 0) dL_position_14 (by decide) ?_
    rw [hQ]
    refine x_widen (k := mc) (n := ms) (Nat.le_of_eq (Nat.zero_add _)) (Nat.le_of_eq (Nat.zero_add _)) ?_
    exact x_iret F hr hlk (by exact Or.inl ⟨v, _, hp, rfl, R', cy, ad', q', ns', nt', I', J', rfl, rfl⟩) dL_position_15
set_option maxHeartbeats 4000000 in
set_option maxRecDepth 100000 in
theorem c_L_settle (l : Launch) (D : va_G) (cy : Nat → ClassId) (lo : Nat) (R : List Nat) (ad : Nat → Nat) (q : Nat → Nat → Nat) (ns nt : Nat) (I : Nat → Nat → Int32) (J : Nat → Nat → Int64) (hR : ∀ r, r < 36 → r ∈ R) (a b : Int32) (fr lc mc ms : Nat) (post : Int64 → k_S → Prop) (xpost : String → k_S → Prop) (hM : k_MetX l yX4_settle cX4_settle 5 (some .long) { frames := fr, cells := mc, slots := ms, locals := lc } D cy lo R ad (k_c cy ad q ns nt I J) (.ref (ad 0) :: [.int a, .int b]) (k_Ql D lo post) xpost) (hE9 : ∀ E u, xpost E u → E = e_IO ∨ E = e_IS) (hu : ∀ v u, post v u → k_U cy ad u) : k_MetH l yL_settle cL_settle 5 (some .int) [((0 : Nat), (9 : Nat), (12 : Nat), (13 : Nat)), ((0 : Nat), (9 : Nat), (16 : Nat), (25 : Nat))] { frames := fr + 1, cells := mc, slots := ms, locals := 8 + (5 + 11) + lc } D cy lo R ad (k_c cy ad q ns nt I J) [.ref (ad 0), .int a, .int b, .ref (ad 12)] (k_Qi D lo (fun r u' => (∃ (v : Int64) (u : k_S), post v u ∧ r = 0 ∧ k_O u v u') ∨ (∃ u : k_S, xpost e_IO u ∧ r = 1 ∧ u' = u) ∨ (∃ u : k_S, xpost e_IS u ∧ r = 2 ∧ u' = u))) := by
  refine k_metH (by decide +kernel) (Nat.le_of_ble_eq_true rfl) ?_
  intro p e s m args below meth c Q F hr hlk ht hQ
  refine x_aload_n F dL_settle_0 rfl 3 rfl ?_
  refine x_iconst F (v := 0) dL_settle_1 (by decide) ?_
  refine x_aload_n F dL_settle_2 rfl 0 rfl ?_
  refine x_iload_n F dL_settle_3 rfl 1 rfl ?_
  refine x_iload_n F dL_settle_4 rfl 2 rfl ?_
  refine x_callVlx F (r0 := 0) [.int a, .int b] hM mc_X4_settle mv_X4_settle lk_L_88 (hR 0 (by decide)) sc_0 rfl rfl rfl dL_settle_5 ⟨Nat.le_refl _, Nat.le_refl _⟩ ⟨Nat.le_of_eq (Nat.zero_add _), Nat.le_of_eq (Nat.zero_add _)⟩ (Nat.le_of_ble_eq_true rfl) (fun E u hx => ?_) (fun v u hp => ?_)
  · rcases hE9 E u hx with hE | hE
    · subst hE
      refine x_catch F [] ⟨0, 9, 12, 13⟩ [⟨0, 9, 16, 25⟩] (by rw [ht]; rfl) (fun z hz => absurd hz List.not_mem_nil) (by decide) (by decide) (List.mem_of_getElem? (i := 118) (by decide +kernel)) (List.mem_of_getElem? (i := 132) (by decide +kernel)) (fun q9 => ?_)
      refine x_astore F [(4, .ref q9), (0, .ref (ad 0)), (1, .int a), (2, .int b), (3, .ref (ad 12))] dL_settle_12 (by decide) rfl ?_
      refine x_iconst F (v := 1) dL_settle_14 (by decide) ?_
      rw [hQ]
      refine x_widen (k := mc) (n := ms) (Nat.le_of_eq (Nat.zero_add _)) (Nat.le_of_eq (Nat.zero_add _)) ?_
      exact x_iret F hr hlk (by exact Or.inr (Or.inl ⟨u, hx, rfl, rfl⟩)) dL_settle_15
    · subst hE
      refine x_catch F [⟨0, 9, 12, 13⟩] ⟨0, 9, 16, 25⟩ [] (by rw [ht]; rfl) (fun z hz => by simp only [List.mem_cons, List.not_mem_nil, or_false] at hz; rcases hz with rfl <;> first | exact ⟨by decide, e_IO, (List.mem_of_getElem? (i := 118) (by decide +kernel)), by decide +kernel⟩) (by decide) (by decide) (List.mem_of_getElem? (i := 240) (by decide +kernel)) (List.mem_of_getElem? (i := 247) (by decide +kernel)) (fun q9 => ?_)
      refine x_astore F [(4, .ref q9), (0, .ref (ad 0)), (1, .int a), (2, .int b), (3, .ref (ad 12))] dL_settle_16 (by decide) rfl ?_
      refine x_iconst F (v := 2) dL_settle_18 (by decide) ?_
      rw [hQ]
      refine x_widen (k := mc) (n := ms) (Nat.le_of_eq (Nat.zero_add _)) (Nat.le_of_eq (Nat.zero_add _)) ?_
      exact x_iret F hr hlk (by exact Or.inr (Or.inr (⟨u, hx, rfl, rfl⟩))) dL_settle_19
  · obtain ⟨R', ad', q', ns', nt', I', J', rfl, m12, had⟩ := hu v u hp
    dsimp only
    rw [← had]
    refine y_last F m12 ss_12 (vp_in_nI (n := 0) (N := 1) (by decide) (by decide)) dL_settle_8 ?_
    refine x_goto F 20 dL_settle_9 (by decide) ?_
    refine x_iconst F (v := 0) dL_settle_20 (by decide) ?_
    rw [hQ]
    refine x_widen (k := mc) (n := ms) (Nat.le_of_eq (Nat.zero_add _)) (Nat.le_of_eq (Nat.zero_add _)) ?_
    exact x_iret F hr hlk (by exact Or.inl ⟨v, _, hp, rfl, R', cy, ad', q', ns', nt', I', J', rfl, rfl⟩) dL_settle_21
