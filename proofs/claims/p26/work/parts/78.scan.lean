/-! The law's search, purely: all rows of up to five carriers, the shorter ones first, then by the digits between. -/
section SCAN
variable {op : Nat → Nat → Bool} {rt : Nat → Nat → Nat} {a b : Nat}
/-- the digits between, the highest first -/
def mids : Nat → Nat → List Nat
  | 0, _ => []
  | n + 1, cd => cd / 5 ^ n % 5 :: mids n cd
def cod5 : List Nat → Nat
  | [] => 0
  | x :: xs => x * 5 ^ xs.length + cod5 xs
def rowN (a b bt cd : Nat) : List Nat := a :: (mids bt cd ++ [b])
def cdq (q : List Nat) : Nat := cod5 q.tail.dropLast
theorem mids_len : ∀ n cd, (mids n cd).length = n
  | 0, _ => rfl
  | n + 1, cd => by rw [mids, List.length_cons, mids_len n cd]
theorem mids_5 : ∀ n cd, ∀ y ∈ mids n cd, y < 5
  | 0, _, y, h => by cases h
  | n + 1, cd, y, h => by
    rw [mids] at h
    rcases List.mem_cons.mp h with rfl | h
    · exact Nat.mod_lt _ (by decide)
    · exact mids_5 n cd y h
theorem cod5_lt : ∀ (m : List Nat), (∀ y ∈ m, y < 5) → cod5 m < 5 ^ m.length
  | [], _ => by decide
  | x :: xs, h => by
    have h1 := cod5_lt xs (fun y hy => h y (List.mem_cons_of_mem _ hy))
    have h2 := h x List.mem_cons_self
    have h3 : x * 5 ^ xs.length ≤ 4 * 5 ^ xs.length := Nat.mul_le_mul_right _ (by omega)
    rw [cod5, List.length_cons, Nat.pow_succ]
    omega
theorem mids_add : ∀ (n k cd : Nat), mids n (k * 5 ^ n + cd) = mids n cd
  | 0, _, _ => rfl
  | n + 1, k, cd => by
    rw [mids, mids, show k * 5 ^ (n + 1) + cd = (k * 5) * 5 ^ n + cd by rw [Nat.pow_succ]; rw [Nat.mul_comm (5 ^ n) 5, ← Nat.mul_assoc], mids_add n (k * 5) cd]
    congr 1
    have h5 : 0 < 5 ^ n := Nat.pow_pos (by decide)
    rw [Nat.add_comm, Nat.add_mul_div_right _ _ h5, Nat.add_mul_mod_self_right]
theorem mids_cod : ∀ (m : List Nat), (∀ y ∈ m, y < 5) → mids m.length (cod5 m) = m
  | [], _ => rfl
  | x :: xs, h => by
    have h0 := fun y hy => h y (List.mem_cons_of_mem _ hy)
    have h1 := cod5_lt xs h0
    have h2 := h x List.mem_cons_self
    have h5 : 0 < 5 ^ xs.length := Nat.pow_pos (by decide)
    rw [List.length_cons, mids, cod5, mids_add, mids_cod xs h0, Nat.add_comm, Nat.add_mul_div_right _ _ h5, Nat.div_eq_of_lt h1, Nat.zero_add, Nat.mod_eq_of_lt h2]
theorem cod5_lex : ∀ (m1 m2 : List Nat) (b : Nat), m1.length = m2.length → (∀ y ∈ m1, y < 5) → (∀ y ∈ m2, y < 5) → cod5 m1 < cod5 m2 → lexlt (m1 ++ [b]) (m2 ++ [b])
  | [], [], _, _, _, _, h => absurd h (Nat.lt_irrefl _)
  | [], _ :: _, _, hl, _, _, _ => by simp at hl
  | _ :: _, [], _, hl, _, _, _ => by simp at hl
  | x :: xs, y :: ys, b, hl, h1, h2, h => by
    have g1 := cod5_lt xs (fun z hz => h1 z (List.mem_cons_of_mem _ hz))
    have g2 := cod5_lt ys (fun z hz => h2 z (List.mem_cons_of_mem _ hz))
    have hl2 : xs.length = ys.length := by simpa using hl
    rw [cod5, cod5, hl2] at h
    rw [hl2] at g1
    rcases Nat.lt_trichotomy x y with z | z | z
    · exact Or.inl z
    · subst z
      exact Or.inr ⟨rfl, cod5_lex xs ys b hl2 (fun z hz => h1 z (List.mem_cons_of_mem _ hz)) (fun z hz => h2 z (List.mem_cons_of_mem _ hz)) (by omega)⟩
    · exfalso
      have h3 : (y + 1) * 5 ^ ys.length ≤ x * 5 ^ ys.length := Nat.mul_le_mul_right _ z
      rw [Nat.add_mul, Nat.one_mul] at h3
      omega
theorem row_len (bt cd : Nat) : (rowN a b bt cd).length = bt + 2 := by rw [rowN, List.length_cons, List.length_append, mids_len]; rfl
theorem row_cd (bt cd : Nat) (h : cd < 5 ^ bt) : cdq (rowN a b bt cd) = cd := by
  have H : ∀ n cd, cod5 (mids n cd) = cd % 5 ^ n := by
    intro n
    induction n with
    | zero => intro cd; rw [Nat.pow_zero, Nat.mod_one]; rfl
    | succ n ih =>
      intro cd
      rw [mids, cod5, mids_len, ih, Nat.pow_succ, Nat.mod_mul, Nat.mul_comm, Nat.add_comm]
  rw [cdq, rowN, List.tail_cons, List.dropLast_concat, H, Nat.mod_eq_of_lt h]
theorem way_split {q : List Nat} (hab : a ≠ b) (h : Way op a b q) : ∃ m : List Nat, q = a :: (m ++ [b]) ∧ (∀ y ∈ m, y < 5) ∧ q.length = m.length + 2 := by
  obtain ⟨⟨h1, h2, h3, h4⟩, h5⟩ := h
  cases q with
  | nil => simp at h1
  | cons x zs =>
    have e : x = a := by simpa using h1
    subst e
    cases zs with
    | nil => exact absurd (by simpa using h5) hab
    | cons y ys =>
      rw [List.getLast?_cons_cons] at h5
      obtain ⟨m, hm⟩ := List.getLast?_eq_some_iff.mp h5
      refine ⟨m, by rw [hm], fun z hz => h3 z ?_, ?_⟩
      · rw [hm]; simp [hz]
      · rw [hm]; simp
theorem way_row {q : List Nat} {bt : Nat} (hab : a ≠ b) (h : Way op a b q) (hl : q.length = bt + 2) : cdq q < 5 ^ bt ∧ q = rowN a b bt (cdq q) := by
  obtain ⟨m, rfl, h5, h6⟩ := way_split hab h
  have hm : m.length = bt := by omega
  subst hm
  have e : cdq (a :: (m ++ [b])) = cod5 m := by rw [cdq, List.tail_cons, List.dropLast_concat]
  rw [e]
  exact ⟨cod5_lt m h5, by rw [rowN, mids_cod m h5]⟩
/-- q is tried ahead of the row bt, cd -/
def Ahd (bt cd : Nat) (q : List Nat) : Prop := q.length < bt + 2 ∨ (q.length = bt + 2 ∧ cdq q < cd)
def Sn (op : Nat → Nat → Bool) (rt : Nat → Nat → Nat) (a b bt cd : Nat) (u : Option (List Nat)) : Prop :=
  (∀ w, u = some w → Way op a b w ∧ Ahd bt cd w) ∧ ∀ q, Way op a b q → Ahd bt cd q → ∃ w, u = some w ∧ ¬ bet rt q w
def lstO (rt : Nat → Nat → Nat) : Option (List Nat) → Nat
  | none => 1000000
  | some w => cst rt w
def encO : Option (List Nat) → Nat
  | none => 0
  | some w => enc w
theorem sn_0 (hab : a ≠ b) : Sn op rt a b 0 0 none := by
  refine ⟨fun w h => (by cases h), fun q hq h => ?_⟩
  obtain ⟨m, -, -, h6⟩ := way_split hab hq
  rcases h with h | ⟨-, h⟩ <;> omega
theorem sn_lvl {bt : Nat} {u : Option (List Nat)} (hab : a ≠ b) (h : Sn op rt a b bt (5 ^ bt) u) : Sn op rt a b (bt + 1) 0 u := by
  refine ⟨fun w hw => ⟨(h.1 w hw).1, Or.inl ?_⟩, fun q hq ha => h.2 q hq ?_⟩
  · rcases (h.1 w hw).2 with g | ⟨g, -⟩ <;> omega
  · rcases ha with g | ⟨-, g⟩
    · by_cases e : q.length = bt + 2
      · exact Or.inr ⟨e, (way_row hab hq e).1⟩
      · exact Or.inl (by omega)
    · omega
theorem ahd_s {bt cd : Nat} {q : List Nat} (hab : a ≠ b) (hq : Way op a b q) (h : Ahd bt (cd + 1) q) : Ahd bt cd q ∨ q = rowN a b bt cd := by
  rcases h with h | ⟨h1, h2⟩
  · exact Or.inl (Or.inl h)
  · by_cases e : cdq q = cd
    · right
      rw [← e]
      exact (way_row hab hq h1).2
    · exact Or.inl (Or.inr ⟨h1, by omega⟩)
theorem ahd_w {bt cd : Nat} {q : List Nat} (h : Ahd bt cd q) : Ahd bt (cd + 1) q := by
  rcases h with h | ⟨h1, h2⟩
  · exact Or.inl h
  · exact Or.inr ⟨h1, by omega⟩
theorem sn_no {bt cd : Nat} {u : Option (List Nat)} (hab : a ≠ b) (h : Sn op rt a b bt cd u) (hn : ¬ Way op a b (rowN a b bt cd)) : Sn op rt a b bt (cd + 1) u := by
  refine ⟨fun w hw => ⟨(h.1 w hw).1, ahd_w (h.1 w hw).2⟩, fun q hq ha => ?_⟩
  rcases ahd_s hab hq ha with g | g
  · exact h.2 q hq g
  · exact absurd (g ▸ hq) hn
theorem lex_asym : ∀ {p q : List Nat}, lexlt p q → ¬ lexlt q p := fun h1 h2 => lex_irr _ (lex_trans h1 h2)
theorem sn_keep {bt cd : Nat} {u : Option (List Nat)} (hab : a ≠ b) (hcd : cd < 5 ^ bt) (h : Sn op rt a b bt cd u) (hw : Way op a b (rowN a b bt cd)) (hc : lstO rt u ≤ cst rt (rowN a b bt cd)) (hb : cst rt (rowN a b bt cd) < 1000000) : Sn op rt a b bt (cd + 1) u := by
  refine ⟨fun w hw => ⟨(h.1 w hw).1, ahd_w (h.1 w hw).2⟩, fun q hq ha => ?_⟩
  rcases ahd_s hab hq ha with g | g
  · exact h.2 q hq g
  · subst g
    cases u with
    | none => simp only [lstO] at hc; omega
    | some w =>
      refine ⟨w, rfl, fun hbt => ?_⟩
      obtain ⟨h1, h2⟩ := h.1 w rfl
      simp only [lstO] at hc
      rcases hbt with g | ⟨-, g | ⟨g1, g2⟩⟩
      · omega
      · rw [row_len] at g
        rcases h2 with h2 | ⟨h2, -⟩ <;> omega
      · rw [row_len] at g1
        rcases h2 with h2 | ⟨h2, h3⟩
        · omega
        · obtain ⟨k1, k2⟩ := way_row hab h1 h2
          rw [k2] at g2
          refine lex_asym g2 (Or.inr ⟨rfl, cod5_lex _ _ b (by rw [mids_len, mids_len]) (mids_5 _ _) (mids_5 _ _) ?_⟩)
          have e1 := row_cd (a := a) (b := b) bt (cdq w) k1
          have e2 := row_cd (a := a) (b := b) bt cd hcd
          rw [cdq, rowN, List.tail_cons, List.dropLast_concat] at e1 e2
          rw [e1, e2]
          exact h3
theorem sn_take {bt cd : Nat} {u : Option (List Nat)} (hab : a ≠ b) (hcd : cd < 5 ^ bt) (h : Sn op rt a b bt cd u) (hw : Way op a b (rowN a b bt cd)) (hc : cst rt (rowN a b bt cd) < lstO rt u) : Sn op rt a b bt (cd + 1) (some (rowN a b bt cd)) := by
  refine ⟨fun w he => ?_, fun q hq ha => ⟨_, rfl, fun hbt => ?_⟩⟩
  · cases he
    exact ⟨hw, Or.inr ⟨row_len _ _, by rw [row_cd bt cd hcd]; omega⟩⟩
  · rcases ahd_s hab hq ha with g | g
    · obtain ⟨w, rfl, g2⟩ := h.2 q hq g
      simp only [lstO] at hc
      exact g2 (bet_trans hbt (Or.inl hc))
    · rw [g] at hbt
      exact bet_irr _ hbt
theorem sn_end {u : Option (List Nat)} (h : Sn op rt a b 4 0 u) : Best op rt a b u := by
  cases u with
  | none =>
    intro q hq
    obtain ⟨w, hw, -⟩ := h.2 q hq (Or.inl (by have := way_len hq; omega))
    cases hw
  | some w =>
    refine ⟨(h.1 w rfl).1, fun q hq => ?_⟩
    obtain ⟨w', hw, g⟩ := h.2 q hq (Or.inl (by have := way_len hq; omega))
    cases hw
    exact g
/-- a way's cost is small -/
theorem chn_cst (hr : ∀ x y, x < 5 → y < 5 → op x y = true → rt x y ≤ 100) : ∀ (w : List Nat), (∀ x ∈ w, x < 5) → chn op w → cst rt w ≤ 100 * w.length
  | [], _, _ => Nat.zero_le _
  | [_], _, _ => Nat.zero_le _
  | x :: y :: zs, h, hc => by
    have ih := chn_cst hr (y :: zs) (fun z hz => h z (List.mem_cons_of_mem _ hz)) hc.2
    have h1 := hr x y (h x (by simp)) (h y (by simp)) hc.1
    rw [cst]
    simp only [List.length_cons] at ih ⊢
    omega
/-! the row that is built: i links of it stand -/
def Vd (op : Nat → Nat → Bool) (a b bt cd i : Nat) (Q : List Nat) (m : Nat) : Prop :=
  Q = (rowN a b bt cd).take (i + 1) ∧ Pre op a Q ∧ (i ≤ bt → b ∉ Q) ∧ m < 32 ∧ ∀ y, y < 5 → m.testBit y = decide (y = b ∨ y ∈ Q)
theorem row_0 (bt cd : Nat) : (rowN a b bt cd).getD 0 0 = a := rfl
theorem row_mid {bt cd i : Nat} (hi : i < bt) : (rowN a b bt cd).getD (i + 1) 0 = cd / 5 ^ (bt - 1 - i) % 5 := by
  have H : ∀ (n cd i : Nat) (z : List Nat), i < n → (mids n cd ++ z).getD i 0 = cd / 5 ^ (n - 1 - i) % 5 := by
    intro n
    induction n with
    | zero => intro _ _ _ h; omega
    | succ n ih =>
      intro cd i z h
      cases i with
      | zero => rfl
      | succ i =>
        rw [mids, List.cons_append, List.getD_cons_succ, ih cd i z (by omega), show n - 1 - i = n + 1 - 1 - (i + 1) by omega]
  rw [rowN, List.getD_cons_succ, H bt cd i [b] hi]
theorem row_last (bt cd : Nat) : (rowN a b bt cd).getD (bt + 1) 0 = b := by
  rw [rowN, List.getD_cons_succ, List.getD_eq_getElem?_getD, List.getElem?_append_right (by rw [mids_len]; exact Nat.le_refl _), mids_len, Nat.sub_self]
  rfl
theorem row_5 {bt cd : Nat} (ha : a < 5) (hb : b < 5) : ∀ y ∈ rowN a b bt cd, y < 5 := by
  intro y hy
  rcases List.mem_cons.mp hy with rfl | hy
  · exact ha
  · rcases List.mem_append.mp hy with hy | hy
    · exact mids_5 _ _ y hy
    · rw [List.mem_singleton.mp hy]; exact hb
theorem vd_0 {bt cd : Nat} (ha : a < 5) (hb : b < 5) (hab : a ≠ b) : Vd op a b bt cd 0 [a] (2 ^ a ||| 2 ^ b) := by
  refine ⟨rfl, ⟨rfl, by simp, by simpa using ha, trivial⟩, fun _ h => hab (List.mem_singleton.mp h).symm, ?_, fun y hy => ?_⟩
  · have h1 : (2 : Nat) ^ a < 2 ^ 5 := Nat.pow_lt_pow_right (by decide) ha
    have h2 : (2 : Nat) ^ b < 2 ^ 5 := Nat.pow_lt_pow_right (by decide) hb
    exact Nat.or_lt_two_pow h1 h2
  · rw [Nat.testBit_or, Nat.testBit_two_pow, Nat.testBit_two_pow, Bool.eq_iff_iff]
    simp only [Bool.or_eq_true, decide_eq_true_eq, List.mem_singleton]
    omega
theorem vd_len {bt cd i m : Nat} {Q : List Nat} (hi : i ≤ bt + 1) (h : Vd op a b bt cd i Q m) : Q.length = i + 1 := by
  rw [h.1, List.length_take, row_len]
  omega
theorem vd_at {bt cd i m : Nat} {Q : List Nat} (hi : i ≤ bt + 1) (h : Vd op a b bt cd i Q m) : Q.getD i 0 = (rowN a b bt cd).getD i 0 := by
  rw [h.1, List.getD_eq_getElem?_getD, List.getElem?_take_of_lt (by omega), ← List.getD_eq_getElem?_getD]
theorem vd_snoc {bt cd i m : Nat} {Q : List Nat} (hi : i ≤ bt + 1) (h : Vd op a b bt cd i Q m) : ∃ p, Q = p ++ [Q.getD i 0] := by
  have hl := vd_len hi h
  refine ⟨Q.take i, ?_⟩
  have := take_snoc (p := Q) (k := i) (by omega)
  rw [← this, List.take_of_length_le (by omega)]
theorem vd_step {bt cd i m d : Nat} {Q : List Nat} (hi : i ≤ bt) (h : Vd op a b bt cd i Q m) (hd : (rowN a b bt cd).getD (i + 1) 0 = d) (h5 : d < 5) (ho : op (Q.getD i 0) d = true) (hbit : i = bt ∨ m.testBit d = false) : Vd op a b bt cd (i + 1) (Q ++ [d]) (m ||| 2 ^ d) := by
  obtain ⟨p, hp⟩ := vd_snoc (by omega) h
  obtain ⟨g1, g2, g3, g4, g5⟩ := h
  have hnew : d ∉ Q ∧ (i + 1 ≤ bt → ¬ d = b) := by
    rcases hbit with e | e
    · subst e
      rw [row_last] at hd
      subst hd
      exact ⟨g3 (Nat.le_refl _), fun h => by omega⟩
    · rw [g5 d h5, decide_eq_false_iff_not] at e
      exact ⟨fun h => e (Or.inr h), fun _ h => e (Or.inl h)⟩
  refine ⟨?_, ?_, fun hb hm => ?_, ?_, fun y hy => ?_⟩
  · rw [take_snoc (by rw [row_len]; omega), ← g1, hd]
  · rw [hp] at g2 ⊢
    rw [hp] at hnew
    exact (pre_snoc g2 h5).mpr ⟨ho, hnew.1⟩
  · rcases List.mem_append.mp hm with h | h
    · exact g3 (by omega) h
    · exact hnew.2 hb (List.mem_singleton.mp h).symm
  · have h2 : (2 : Nat) ^ d < 2 ^ 5 := Nat.pow_lt_pow_right (by decide) h5
    exact Nat.or_lt_two_pow (n := 5) g4 h2
  · rw [Nat.testBit_or, Nat.testBit_two_pow, g5 y hy, Bool.eq_iff_iff]
    simp only [Bool.or_eq_true, decide_eq_true_eq, List.mem_append, List.mem_singleton]
    constructor
    · rintro ((h | h) | h)
      · exact Or.inl h
      · exact Or.inr (Or.inl h)
      · exact Or.inr (Or.inr h.symm)
    · rintro (h | h | h)
      · exact Or.inl (Or.inl h)
      · exact Or.inl (Or.inr h)
      · exact Or.inr h.symm
theorem row_split {bt cd i : Nat} (hi : i ≤ bt) : rowN a b bt cd = (rowN a b bt cd).take (i + 1) ++ (rowN a b bt cd).getD (i + 1) 0 :: (rowN a b bt cd).drop (i + 2) := by
  have h := take_snoc (p := rowN a b bt cd) (k := i + 1) (by rw [row_len]; omega)
  have h2 := List.take_append_drop (i + 2) (rowN a b bt cd)
  rw [show i + 2 = i + 1 + 1 from rfl, h, List.append_assoc] at h2
  exact h2.symm
theorem vd_bad1 {bt cd i m d : Nat} {Q : List Nat} (hi : i < bt) (h : Vd op a b bt cd i Q m) (hd : (rowN a b bt cd).getD (i + 1) 0 = d) (h5 : d < 5) (hbit : m.testBit d = true) : ¬ Way op a b (rowN a b bt cd) := by
  intro hw
  have hn := hw.1.2.1
  have hs := row_split (a := a) (b := b) (cd := cd) (Nat.le_of_lt hi)
  rw [← h.1, hd] at hs
  rw [hs] at hn
  rw [h.2.2.2.2 d h5, decide_eq_true_eq] at hbit
  rcases hbit with e | e
  · have hl : b ∈ (rowN a b bt cd).drop (i + 2) := by
      have hk : bt + 1 < (rowN a b bt cd).length := by rw [row_len]; omega
      have hl2 : (rowN a b bt cd)[bt + 1]? = some b := by
        have h7 := row_last (a := a) (b := b) bt cd
        rw [List.getD_eq_getElem?_getD, List.getElem?_eq_getElem hk, Option.getD_some] at h7
        rw [List.getElem?_eq_getElem hk, h7]
      exact List.mem_of_getElem? (i := bt + 1 - (i + 2)) (by rw [List.getElem?_drop, show i + 2 + (bt + 1 - (i + 2)) = bt + 1 by omega]; exact hl2)
    have h9 := (List.nodup_append.mp hn).2.1
    exact (List.nodup_cons.mp h9).1 (e ▸ hl)
  · exact (List.nodup_append.mp hn).2.2 d e d List.mem_cons_self rfl
theorem vd_bad2 {bt cd i m d : Nat} {Q : List Nat} (hi : i ≤ bt) (h : Vd op a b bt cd i Q m) (hd : (rowN a b bt cd).getD (i + 1) 0 = d) (ho : op (Q.getD i 0) d = false) : ¬ Way op a b (rowN a b bt cd) := by
  intro hw
  have := chn_at (rowN a b bt cd) i hw.1.2.2.2 (by rw [row_len]; omega)
  rw [hd, ← vd_at (by omega) h, ho] at this
  cases this
theorem vd_end {bt cd m : Nat} {Q : List Nat} (h : Vd op a b bt cd (bt + 1) Q m) : Q = rowN a b bt cd ∧ Way op a b (rowN a b bt cd) := by
  have e : Q = rowN a b bt cd := by rw [h.1, List.take_of_length_le (by rw [row_len]; omega)]
  refine ⟨e, e ▸ h.2.1, ?_⟩
  rw [rowN, ← List.cons_append, List.getLast?_concat]
/-! the divisor of the next digit -/
def byF (bt i : Nat) : Nat := if i < bt then 5 ^ (bt - 1 - i) else if bt = 0 ∧ i = 0 then 0 else 1
theorem byF_s {bt i : Nat} (hb : bt < 4) (hi : i ≤ bt) : (if 4 < byF bt i then byF bt i / 5 else 1) = byF bt (i + 1) := by
  rcases (show bt = 0 ∨ bt = 1 ∨ bt = 2 ∨ bt = 3 by omega) with rfl | rfl | rfl | rfl <;> rcases (show i = 0 ∨ i = 1 ∨ i = 2 ∨ i = 3 by omega) with rfl | rfl | rfl | rfl <;> first | decide | omega
theorem byF_0 {bt : Nat} (hb : bt < 4) : 5 ^ bt / 5 = byF bt 0 := by
  rcases (show bt = 0 ∨ bt = 1 ∨ bt = 2 ∨ bt = 3 by omega) with rfl | rfl | rfl | rfl <;> decide
theorem byF_lt {bt i : Nat} (hb : bt < 4) : byF bt i ≤ 25 := by
  unfold byF
  split
  · have : (5 : Nat) ^ (bt - 1 - i) ≤ 5 ^ 2 := Nat.pow_le_pow_right (by decide) (by omega)
    exact this
  · split <;> decide
theorem byF_ne {bt i : Nat} (hi : i < bt) : 0 < byF bt i := by
  rw [byF, if_pos hi]
  exact Nat.pow_pos (by decide)
theorem byF_dig {bt cd i : Nat} (hi : i < bt) : cd / byF bt i % 5 = (rowN a b bt cd).getD (i + 1) 0 := by rw [byF, if_pos hi, row_mid hi]
theorem p5_lt {bt : Nat} (hb : bt < 4) : 5 ^ bt ≤ 125 := by
  have : (5 : Nat) ^ bt ≤ 5 ^ 3 := Nat.pow_le_pow_right (by decide) (by omega)
  exact this
end SCAN
