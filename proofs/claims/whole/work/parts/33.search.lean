/-! The reference's search, as its cells show it: I' the ints now, p the row that is tried, s the next one at its end, v the best way till now. -/
def FR (I I' : Nat → Nat → Int32) : Prop := ∀ r k, r ≠ 34 → r ≠ 35 → (r = 13 → k ≠ 23 ∧ k ≠ 24) → I' r k = I r k
def Grf (I : Nat → Nat → Int32) (J : Nat → Nat → Int64) (op : Nat → Nat → Bool) (rt : Nat → Nat → Nat) : Prop :=
  ∀ x y, x < 5 → y < 5 → shutM I J (nI x) (nI y) = !(op x y) ∧ (op x y = true → I 17 (5 * x + y) = nI (rt x y) ∧ rt x y ≤ 100)
def Trd (I : Nat → Nat → Int32) (p : List Nat) : Prop := ∀ i, i < p.length → I 35 i = nI (p.getD i 0)
def Bst (I : Nat → Nat → Int32) (rt : Nat → Nat → Nat) : Option (List Nat) → Prop
  | none => I 13 23 = 0
  | some w => I 13 23 = nI w.length ∧ I 13 24 = nI (cst rt w) ∧ ∀ i, i < w.length → I 34 i = nI (w.getD i 0)
def DI (op : Nat → Nat → Bool) (rt : Nat → Nat → Nat) (a b : Nat) (I I' : Nat → Nat → Int32) (p : List Nat) (s : Nat) (v : Option (List Nat)) : Prop :=
  FR I I' ∧ Trd I' p ∧ I' 35 p.length = nI s - 1 ∧ Bst I' rt v ∧ Seen op rt a b (p ++ [s]) v ∧ s ≤ 5 ∧ p.length ≤ 4 ∧ (p ≠ [] → Pre op a p) ∧ (p = [] → s = a + 1)
def DO (op : Nat → Nat → Bool) (rt : Nat → Nat → Nat) (a b : Nat) (I I' : Nat → Nat → Int32) (p : List Nat) (u : Nat) (v : Option (List Nat)) : Prop :=
  FR I I' ∧ Trd I' (p ++ [u]) ∧ Bst I' rt v ∧ Seen op rt a b (p ++ [u]) v ∧ Pre op a (p ++ [u]) ∧ p.length ≤ 4
def muI (p : List Nat) (s : Nat) : Nat := 16 * cod 4 (p ++ [s]) + 2 * p.length + 1
def muO (p : List Nat) (s : Nat) : Nat := 16 * cod 4 (p ++ [s]) + 2 * p.length + 2
theorem FR.refl (I : Nat → Nat → Int32) : FR I I := fun _ _ _ _ _ => rfl
theorem FR.w35 {I I' : Nat → Nat → Int32} (h : FR I I') (k : Nat) (x : Int32) : FR I (wI I' 35 k x) := by
  intro r j h1 h2 h3
  rw [wI_eq, if_neg (by omega)]
  exact h r j h1 h2 h3
theorem FR.w34 {I I' : Nat → Nat → Int32} (h : FR I I') (k : Nat) (x : Int32) : FR I (wI I' 34 k x) := by
  intro r j h1 h2 h3
  rw [wI_eq, if_neg (by omega)]
  exact h r j h1 h2 h3
theorem FR.w13 {I I' : Nat → Nat → Int32} (h : FR I I') {k : Nat} (hk : k = 23 ∨ k = 24) (x : Int32) : FR I (wI I' 13 k x) := by
  intro r j h1 h2 h3
  rw [wI_eq, if_neg (by rintro ⟨rfl, rfl⟩; have := h3 rfl; omega)]
  exact h r j h1 h2 h3
theorem FR.shut {I I' : Nat → Nat → Int32} (h : FR I I') (J : Nat → Nat → Int64) (x y : Int32) : shutM I' J x y = shutM I J x y := by
  have e1 := fun k => h 16 k (by decide) (by decide) (fun h => absurd h (by decide))
  have e2 := fun k => h 17 k (by decide) (by decide) (fun h => absurd h (by decide))
  have e3 := fun k => h 18 k (by decide) (by decide) (fun h => absurd h (by decide))
  simp only [shutM, e1, e2, e3]
theorem FR.grf {I I' : Nat → Nat → Int32} (h : FR I I') {J : Nat → Nat → Int64} {op : Nat → Nat → Bool} {rt : Nat → Nat → Nat} (hg : Grf I J op rt) : Grf I' J op rt := by
  intro x y hx hy
  obtain ⟨g1, g2⟩ := hg x y hx hy
  refine ⟨by rw [h.shut]; exact g1, fun ho => ?_⟩
  rw [h 17 _ (by decide) (by decide) (fun h => absurd h (by decide))]
  exact g2 ho
theorem getD_l {p : List Nat} {u i : Nat} (h : i < p.length) : (p ++ [u]).getD i 0 = p.getD i 0 := by
  rw [List.getD_eq_getElem?_getD, List.getD_eq_getElem?_getD, List.getElem?_append_left h]
theorem getD_r {p : List Nat} {u : Nat} : (p ++ [u]).getD p.length 0 = u := by
  rw [List.getD_eq_getElem?_getD, List.getElem?_append_right (Nat.le_refl _)]
  simp
theorem len_snoc (p : List Nat) (u : Nat) : (p ++ [u]).length = p.length + 1 := by simp
theorem Trd.snoc {I : Nat → Nat → Int32} {p : List Nat} {u : Nat} (h : Trd I p) (hu : I 35 p.length = nI u) : Trd I (p ++ [u]) := by
  intro i hi
  rw [len_snoc] at hi
  rcases Nat.lt_or_ge i p.length with z | z
  · rw [getD_l z]; exact h i z
  · rw [show i = p.length by omega, getD_r]; exact hu
theorem Trd.init {I : Nat → Nat → Int32} {p : List Nat} {u : Nat} (h : Trd I (p ++ [u])) : Trd I p ∧ I 35 p.length = nI u := by
  refine ⟨fun i hi => ?_, ?_⟩
  · rw [← getD_l hi]; exact h i (by rw [len_snoc]; omega)
  · have := h p.length (by rw [len_snoc]; omega)
    rwa [getD_r] at this
theorem Trd.w {I : Nat → Nat → Int32} {p : List Nat} (h : Trd I p) {k : Nat} (hk : p.length ≤ k) (x : Int32) : Trd (wI I 35 k x) p := by
  intro i hi
  rw [wI_eq, if_neg (by omega)]
  exact h i hi
theorem Bst.w35 {I : Nat → Nat → Int32} {rt : Nat → Nat → Nat} {v : Option (List Nat)} (h : Bst I rt v) (k : Nat) (x : Int32) : Bst (wI I 35 k x) rt v := by
  cases v with
  | none => show wI I 35 k x 13 23 = 0; rw [wI_eq, if_neg (by omega)]; exact h
  | some w =>
    refine ⟨?_, ?_, fun i hi => ?_⟩
    · rw [wI_eq, if_neg (by omega)]; exact h.1
    · rw [wI_eq, if_neg (by omega)]; exact h.2.1
    · rw [wI_eq, if_neg (by omega)]; exact h.2.2 i hi
theorem nI_p1 (n : Nat) : nI (n + 1) - 1 = nI n := nI_pred n
theorem pow_pos6 (n : Nat) : 1 ≤ 6 ^ n := Nat.pow_pos (by omega)
section SEARCH
variable {op : Nat → Nat → Bool} {rt : Nat → Nat → Nat} {a b : Nat} {I I' : Nat → Nat → Int32} {J : Nat → Nat → Int64} {p : List Nat} {s u : Nat} {v : Option (List Nat)}
theorem di_pop (hp : p ≠ []) (h : DI op rt a b I I' p 5 v) : ∃ p' u, p = p' ++ [u] ∧ DI op rt a b I (wI I' 35 p.length (nI 5)) p' (u + 1) v ∧ muI p 5 < muI p' (u + 1) := by
  obtain ⟨h1, h2, h3, h4, h5, h6, h7, h8, h9⟩ := h
  rcases List.eq_nil_or_concat p with e | ⟨p', u, e⟩
  · exact absurd e hp
  rw [List.concat_eq_append] at e
  subst e
  obtain ⟨t1, t2⟩ := h2.init
  have hpre := h8 hp
  have hu : u < 5 := hpre.2.2.1 u (by simp)
  rw [len_snoc] at h7
  refine ⟨p', u, rfl, ⟨h1.w35 _ _, t1.w (by rw [len_snoc]; omega) _, ?_, h4.w35 _ _, seen_pop h5, by omega, by omega, fun hp' => ?_, fun hp' => ?_⟩, ?_⟩
  · rw [wI_eq, if_neg (by rw [len_snoc]; omega), nI_p1]; exact t2
  · exact pre_pre hp' hpre
  · subst hp'
    have := hpre.1
    rw [List.nil_append] at this
    have e : u = a := Option.some.inj this
    rw [e]
  · unfold muI
    rw [cod_app 4 (p' ++ [u]) 5 (by rw [len_snoc]; omega), cod_app 4 p' u (by omega), cod_app 4 p' (u + 1) (by omega), len_snoc]
    have e : 4 - p'.length = (4 - (p'.length + 1)) + 1 := by omega
    rw [e, Nat.pow_succ, Nat.add_mul]
    have := pow_pos6 (4 - (p'.length + 1))
    omega
theorem di_no (hp : p ≠ []) (hs : s < 5) (h : DI op rt a b I I' p s v) (hn : ¬ Pre op a (p ++ [s])) : DI op rt a b I (wI I' 35 p.length (nI s)) p (s + 1) v ∧ muI p s < muI p (s + 1) := by
  obtain ⟨h1, h2, h3, h4, h5, h6, h7, h8, h9⟩ := h
  refine ⟨⟨h1.w35 _ _, h2.w (Nat.le_refl _) _, ?_, h4.w35 _ _, seen_no hn h5, by omega, h7, h8, fun e => absurd e hp⟩, ?_⟩
  · rw [wI_eq, if_pos ⟨rfl, rfl⟩, nI_p1]
  · unfold muI
    rw [cod_app 4 p s h7, cod_app 4 p (s + 1) h7, Nat.add_mul]
    have := pow_pos6 (4 - p.length)
    omega
theorem di_yes (h : DI op rt a b I I' p s v) (hy : Pre op a (p ++ [s])) : DO op rt a b I (wI I' 35 p.length (nI s)) p s v ∧ muI p s < muO p s := by
  obtain ⟨h1, h2, h3, h4, h5, h6, h7, h8, h9⟩ := h
  exact ⟨⟨h1.w35 _ _, (h2.w (Nat.le_refl _) _).snoc (by rw [wI_eq, if_pos ⟨rfl, rfl⟩]), h4.w35 _ _, h5, hy, h7⟩, by unfold muI muO; omega⟩
theorem do_push (h : DO op rt a b I I' p u v) (hb : u ≠ b) (hl : p.length + 1 < 5) : DI op rt a b I (wI I' 35 (p.length + 1) (-1)) (p ++ [u]) 0 v ∧ muO p u < muI (p ++ [u]) 0 := by
  obtain ⟨h1, h2, h4, h5, h8, h7⟩ := h
  refine ⟨⟨h1.w35 _ _, h2.w (by rw [len_snoc]; omega) _, ?_, h4.w35 _ _, seen_push (fun hw => ?_) h5, by omega, by rw [len_snoc]; omega, fun _ => h8, fun e => absurd e (by simp)⟩, ?_⟩
  · rw [wI_eq, if_pos ⟨rfl, by rw [len_snoc]⟩]; rfl
  · have := hw.2
    rw [List.getLast?_concat] at this
    exact hb (Option.some.inj this)
  · unfold muI muO
    rw [cod_app 4 (p ++ [u]) 0 (by rw [len_snoc]; omega), len_snoc]
    omega
theorem do_pre (h : DO op rt a b I I' p u v) : (p ≠ [] → Pre op a p) ∧ (p = [] → u + 1 = a + 1) ∧ u < 5 := by
  obtain ⟨h1, h2, h4, h5, h8, h7⟩ := h
  refine ⟨fun hp => pre_pre hp h8, fun hp => ?_, h8.2.2.1 u (by simp)⟩
  subst hp
  have := h8.1
  rw [List.nil_append] at this
  have e : u = a := Option.some.inj this
  rw [e]
theorem mu_next (h7 : p.length ≤ 4) : muO p u < muI p (u + 1) := by
  unfold muI muO
  rw [cod_app 4 p u h7, cod_app 4 p (u + 1) h7, Nat.add_mul]
  have := pow_pos6 (4 - p.length)
  omega
theorem do_full (h : DO op rt a b I I' p u v) (hb : u ≠ b) (hl : ¬ p.length + 1 < 5) : DI op rt a b I I' p (u + 1) v ∧ muO p u < muI p (u + 1) := by
  obtain ⟨g1, g2, g3⟩ := do_pre h
  obtain ⟨h1, h2, h4, h5, h8, h7⟩ := h
  refine ⟨⟨h1, h2.init.1, by rw [nI_p1]; exact h2.init.2, h4, seen_full (by rw [len_snoc]; omega) (fun hw => ?_) h5, by omega, h7, g1, g2⟩, mu_next h7⟩
  have := hw.2
  rw [List.getLast?_concat] at this
  exact hb (Option.some.inj this)
theorem do_way (h : DO op rt a b I I' p u v) (hb : u = b) : Way op a b (p ++ [u]) := ⟨h.2.2.2.2.1, by rw [List.getLast?_concat, hb]⟩
theorem do_keep (h : DO op rt a b I I' p u v) (hb : u = b) {w : List Nat} (hv : v = some w) (hn : ¬ (cst rt (p ++ [u]) < cst rt w ∨ (cst rt (p ++ [u]) = cst rt w ∧ (p ++ [u]).length < w.length))) : DI op rt a b I I' p (u + 1) v ∧ muO p u < muI p (u + 1) := by
  have hw := do_way h hb
  obtain ⟨g1, g2, g3⟩ := do_pre h
  obtain ⟨h1, h2, h4, h5, h8, h7⟩ := h
  have hs := seen_take hw h5
  subst hv
  rw [take, if_neg hn] at hs
  exact ⟨⟨h1, h2.init.1, by rw [nI_p1]; exact h2.init.2, h4, hs, by omega, h7, g1, g2⟩, mu_next h7⟩
theorem do_take (h : DO op rt a b I I' p u v) (hb : u = b) (hn : v = none ∨ ∃ w, v = some w ∧ (cst rt (p ++ [u]) < cst rt w ∨ (cst rt (p ++ [u]) = cst rt w ∧ (p ++ [u]).length < w.length))) {I2 : Nat → Nat → Int32}
    (hf : FR I' I2) (ht : ∀ k, I2 35 k = I' 35 k) (e1 : I2 13 23 = nI (p.length + 1)) (e2 : I2 13 24 = nI (cst rt (p ++ [u]))) (e3 : ∀ i, i < p.length + 1 → I2 34 i = I' 35 i) : DI op rt a b I I2 p (u + 1) (some (p ++ [u])) ∧ muO p u < muI p (u + 1) := by
  have hw := do_way h hb
  obtain ⟨g1, g2, g3⟩ := do_pre h
  obtain ⟨h1, h2, h4, h5, h8, h7⟩ := h
  have hs : Seen op rt a b (p ++ [u + 1]) (some (p ++ [u])) := by
    have hs := seen_take hw h5
    rcases hn with rfl | ⟨w, rfl, hn⟩
    · exact hs
    · rw [take, if_pos hn] at hs; exact hs
  refine ⟨⟨fun r k z1 z2 z3 => (hf r k z1 z2 z3).trans (h1 r k z1 z2 z3), fun i hi => ?_, ?_, ⟨by rw [len_snoc]; exact e1, e2, fun i hi => ?_⟩, hs, by omega, h7, g1, g2⟩, mu_next h7⟩
  · rw [ht]; exact h2.init.1 i hi
  · rw [ht, nI_p1]; exact h2.init.2
  · rw [len_snoc] at hi
    rw [e3 i hi]
    exact h2 i (by rw [len_snoc]; exact hi)
theorem di_end (h : DI op rt a b I I' [] s v) : Best op rt a b v := by
  obtain ⟨h1, h2, h3, h4, h5, h6, h7, h8, h9⟩ := h
  rw [h9 rfl] at h5
  exact seen_end h5
theorem do_start (ha : a < 5) : DO op rt a b I (wI (wI I 13 23 0) 35 0 (nI a)) [] a none := by
  refine ⟨((FR.refl I).w13 (Or.inl rfl) 0).w35 _ _, ?_, ?_, seen_start rfl, ⟨rfl, by simp, fun x hx => ?_, trivial⟩, by simp⟩
  · intro i hi
    have : i = 0 := by simp at hi; omega
    subst this
    rw [wI_eq, if_pos ⟨rfl, rfl⟩]; rfl
  · show wI (wI I 13 23 0) 35 0 (nI a) 13 23 = 0
    rw [wI_eq, if_neg (by omega), wI_eq, if_pos ⟨rfl, rfl⟩]
  · simp at hx; omega
theorem muI_lt (h : p.length ≤ 4) (hs : s ≤ 5) (hp : ∀ x ∈ p, x ≤ 5) : muI p s < 124432 := by
  unfold muI
  have h1 := cod_le 4 (p ++ [s]) (by rw [len_snoc]; omega) (fun x hx => by
    rcases List.mem_append.mp hx with h | h
    · exact hp x h
    · rw [List.mem_singleton.mp h]; exact hs)
  have : (6 : Nat) ^ (4 + 1) = 7776 := by decide
  omega
theorem di_lt (h : DI op rt a b I I' p s v) : muI p s < 124432 := by
  obtain ⟨h1, h2, h3, h4, h5, h6, h7, h8, h9⟩ := h
  refine muI_lt h7 h6 (fun x hx => ?_)
  have hp : p ≠ [] := fun e => by subst e; cases hx
  have := (h8 hp).2.2.1 x hx
  omega
/-- the cells of the row are carriers -/
theorem Trd.car (h : Trd I p) (hp : ∀ x ∈ p, x < 5) : ∀ i, i < p.length → isCar (I 35 i) = true := by
  intro i hi
  rw [h i hi, List.getD_eq_getElem?_getD, List.getElem?_eq_getElem hi]
  exact car_of (hp _ (List.getElem_mem hi))
theorem chn_snoc : ∀ {p : List Nat} {x y : Nat}, chn op (p ++ [x] ++ [y]) ↔ chn op (p ++ [x]) ∧ op x y = true
  | [], x, y => by simp [chn]
  | [z], x, y => by simp [chn, and_assoc]
  | z :: t :: zs, x, y => by
    have ih := chn_snoc (p := t :: zs) (x := x) (y := y)
    simp only [List.cons_append, chn] at ih ⊢
    rw [ih, and_assoc]
theorem pre_snoc {x y : Nat} (hp : Pre op a (p ++ [x])) (hy : y < 5) : Pre op a (p ++ [x] ++ [y]) ↔ op x y = true ∧ y ∉ p ++ [x] := by
  obtain ⟨h1, h2, h3, h4⟩ := hp
  constructor
  · intro ⟨g1, g2, g3, g4⟩
    refine ⟨(chn_snoc.mp g4).2, fun hm => ?_⟩
    exact (List.nodup_append.mp g2).2.2 y hm y (by simp) rfl
  · intro ⟨g1, g2⟩
    refine ⟨?_, List.nodup_append.mpr ⟨h2, by simp, fun z hz t ht => ?_⟩, fun z hz => ?_, chn_snoc.mpr ⟨h4, g1⟩⟩
    · cases p with
      | nil => exact h1
      | cons z zs => exact h1
    · rw [List.mem_singleton.mp ht]
      exact fun e => g2 (e ▸ hz)
    · rcases List.mem_append.mp hz with h | h
      · exact h3 z h
      · rw [List.mem_singleton.mp h]; exact hy
theorem nI_inj5 {x y : Nat} (hx : x < 5) (hy : y < 5) : nI x = nI y ↔ x = y := nI_eq (by omega) (by omega)
theorem goM_false {n : Nat} : ∀ k, goM I J n k = true ↔ go0 I J n = true ∧ ∀ i, i < k → ¬ I 35 i = I 35 (nI n - 1).toNatClampNeg := by
  intro k
  induction k with
  | zero => simp [goM]
  | succ k ih =>
    rw [goM, Bool.and_eq_true, ih]
    constructor
    · intro ⟨⟨h1, h2⟩, h3⟩
      refine ⟨h1, fun i hi => ?_⟩
      rcases Nat.lt_or_ge i k with z | z
      · exact h2 i z
      · rw [show i = k by omega]; simpa using h3
    · intro ⟨h1, h2⟩
      exact ⟨⟨h1, fun i hi => h2 i (by omega)⟩, by simpa using h2 k (by omega)⟩
/-- the reference's test of a row's end -/
theorem go_iff (hg : Grf I J op rt) (ht : Trd I (p ++ [s])) (hp : p ≠ []) (hpre : Pre op a p) (hs : s < 5) (hl : p.length ≤ 4) : goM I J (p.length + 1) (p.length + 1 - 1) = true ↔ Pre op a (p ++ [s]) := by
  rcases List.eq_nil_or_concat p with e | ⟨p', u, e⟩
  · exact absurd e hp
  rw [List.concat_eq_append] at e
  subst e
  have hu : u < 5 := hpre.2.2.1 u (by simp)
  obtain ⟨t1, t2⟩ := ht.init
  obtain ⟨t3, t4⟩ := t1.init
  have hlen : (p' ++ [u]).length = p'.length + 1 := len_snoc _ _
  rw [hlen] at hl t2 ⊢
  rw [pre_snoc hpre hs, goM_false, go0, nI_m1 (by omega), nI_m2 (by omega), nI_clamp (by omega), nI_clamp (by omega), show p'.length + 1 + 1 - 1 = p'.length + 1 by omega, show p'.length + 1 + 1 - 2 = p'.length by omega, t2, t4, (hg u s hu hs).1]
  have hne : ¬ nI (p'.length + 1 + 1) = 1 := by
    rw [show (1 : Int32) = nI 1 from rfl, nI_eq (by omega) (by omega)]; omega
  constructor
  · intro ⟨h1, h2⟩
    refine ⟨by simpa [hne] using h1, fun hm => ?_⟩
    obtain ⟨i, hi, he⟩ := List.mem_iff_getElem.mp hm
    have h3 := h2 i (by rw [← hlen]; exact hi)
    apply h3
    rw [t1 i hi, List.getD_eq_getElem?_getD, List.getElem?_eq_getElem hi, he]
    rfl
  · intro ⟨h1, h2⟩
    refine ⟨by simp [h1], fun i hi he => ?_⟩
    rw [← hlen] at hi
    rw [t1 i hi, List.getD_eq_getElem?_getD, List.getElem?_eq_getElem hi] at he
    have := (nI_inj5 (hpre.2.2.1 _ (List.getElem_mem hi)) hs).mp he
    exact h2 (this ▸ List.getElem_mem hi)
theorem cst_snoc : ∀ (p : List Nat) (x y : Nat), cst rt (p ++ [x] ++ [y]) = cst rt (p ++ [x]) + rt x y
  | [], x, y => by simp [cst]
  | [z], x, y => by simp [cst]
  | z :: t :: zs, x, y => by
    have ih := cst_snoc (t :: zs) x y
    simp only [List.cons_append, cst] at ih ⊢
    rw [ih]
    omega
theorem costM_cst (hg : Grf I J op rt) : ∀ (p : List Nat) (u : Nat), Trd I (p ++ [u]) → Pre op a (p ++ [u]) → p.length ≤ 4 → costM I (p.length + 1) = nI (cst rt (p ++ [u])) ∧ cst rt (p ++ [u]) ≤ 100 * p.length := by
  intro p
  induction hn : p.length generalizing p with
  | zero =>
    intro u ht hp _
    have e := List.length_eq_zero_iff.mp hn
    subst e
    exact ⟨rfl, Nat.zero_le _⟩
  | succ n ih =>
    intro u ht hp hl
    rcases List.eq_nil_or_concat p with e | ⟨p', x, e⟩
    · subst e; simp at hn
    rw [List.concat_eq_append] at e
    subst e
    have hn' : p'.length = n := by rw [len_snoc] at hn; omega
    have hx : x < 5 := hp.2.2.1 x (by simp)
    have hu : u < 5 := hp.2.2.1 u (by simp)
    obtain ⟨t1, t2⟩ := ht.init
    obtain ⟨t3, t4⟩ := t1.init
    have hpx : Pre op a (p' ++ [x]) := pre_pre (by simp) hp
    obtain ⟨i1, i2⟩ := ih p' hn' x t1 hpx (by omega)
    have hop := (chn_snoc.mp hp.2.2.2).2
    obtain ⟨g1, g2⟩ := (hg x u hx hu).2 hop
    rw [len_snoc] at t2
    rw [cst_snoc]
    refine ⟨?_, by omega⟩
    rw [costM, if_neg (by omega), ← hn', nI_m1 (by omega), nI_clamp (by omega), nI_clamp (by omega), show p'.length + 1 - 1 = p'.length by omega, t2, t4, show (5 : Int32) = nI 5 from rfl, pk_mul, nI_add, nI_clamp (by omega), g1]
    rw [hn'] at *
    rw [i1, nI_add]
end SEARCH
