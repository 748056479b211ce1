/-! Ways among five carriers: which go on (op), what they cost (rt); their order; what is found when all ways up to a place are seen. -/
def lexlt : List Nat → List Nat → Prop
  | _, [] => False
  | [], _ :: _ => True
  | x :: xs, y :: ys => x < y ∨ (x = y ∧ lexlt xs ys)
theorem lex_irr : ∀ p : List Nat, ¬ lexlt p p
  | [] => fun h => h
  | x :: xs => by
    intro h
    rcases h with h | ⟨-, h⟩
    · omega
    · exact lex_irr xs h
theorem lex_trans : ∀ {p q r : List Nat}, lexlt p q → lexlt q r → lexlt p r
  | p, [], r, h, _ => by cases p <;> exact absurd h (fun h => h)
  | p, y :: ys, [], _, h => absurd h (fun h => h)
  | [], y :: ys, z :: zs, _, _ => trivial
  | x :: xs, y :: ys, z :: zs, h1, h2 => by
    rcases h1 with h1 | ⟨e1, h1⟩
    · rcases h2 with h2 | ⟨e2, h2⟩
      · exact Or.inl (by omega)
      · exact Or.inl (by omega)
    · rcases h2 with h2 | ⟨e2, h2⟩
      · exact Or.inl (by omega)
      · exact Or.inr ⟨by omega, lex_trans h1 h2⟩
theorem lex_tri : ∀ p q : List Nat, lexlt p q ∨ p = q ∨ lexlt q p
  | [], [] => Or.inr (Or.inl rfl)
  | [], _ :: _ => Or.inl trivial
  | _ :: _, [] => Or.inr (Or.inr trivial)
  | x :: xs, y :: ys => by
    rcases Nat.lt_trichotomy x y with h | h | h
    · exact Or.inl (Or.inl h)
    · subst h
      rcases lex_tri xs ys with h | h | h
      · exact Or.inl (Or.inr ⟨rfl, h⟩)
      · subst h; exact Or.inr (Or.inl rfl)
      · exact Or.inr (Or.inr (Or.inr ⟨rfl, h⟩))
    · exact Or.inr (Or.inr (Or.inl h))
/-- up to the next digit: what lay before, and what goes on from here -/
theorem lex_next : ∀ (p q : List Nat) (t : Nat), lexlt q (p ++ [t + 1]) ↔ lexlt q (p ++ [t]) ∨ ∃ z, q = p ++ t :: z
  | [], [], t => by simp [lexlt]
  | [], x :: xs, t => by
    have e : ∀ n, lexlt (x :: xs) [n] ↔ x < n := by
      intro n
      simp only [lexlt]
      constructor
      · intro h
        rcases h with h | ⟨-, h⟩
        · exact h
        · cases xs <;> exact absurd h (fun h => h)
      · exact Or.inl
    rw [List.nil_append, List.nil_append, e, e]
    constructor
    · intro h
      rcases Nat.lt_or_ge x t with z | z
      · exact Or.inl z
      · exact Or.inr ⟨xs, by rw [show x = t by omega]; rfl⟩
    · intro h
      rcases h with h | ⟨z, h⟩
      · omega
      · rw [List.nil_append] at h
        injection h with h1 h2
        omega
  | y :: ys, [], t => by simp [lexlt]
  | y :: ys, x :: xs, t => by
    have ih := lex_next ys xs t
    simp only [List.cons_append, lexlt]
    constructor
    · intro h
      rcases h with h | ⟨rfl, h⟩
      · exact Or.inl (Or.inl h)
      · rcases ih.mp h with h | ⟨z, rfl⟩
        · exact Or.inl (Or.inr ⟨rfl, h⟩)
        · exact Or.inr ⟨z, rfl⟩
    · intro h
      rcases h with (h | ⟨rfl, h⟩) | ⟨z, h⟩
      · exact Or.inl h
      · exact Or.inr ⟨rfl, ih.mpr (Or.inl h)⟩
      · injection h with h1 h2
        exact Or.inr ⟨h1, ih.mpr (Or.inr ⟨z, h2⟩)⟩
/-- the first digit below: what lay before, and this one itself -/
theorem lex_zero : ∀ (p q : List Nat), lexlt q (p ++ [0]) ↔ lexlt q p ∨ q = p
  | [], [] => by simp [lexlt]
  | [], x :: xs => by
    simp only [List.nil_append, lexlt]
    constructor
    · intro h
      rcases h with h | ⟨-, h⟩
      · omega
      · cases xs <;> exact absurd h (fun h => h)
    · intro h
      rcases h with h | h
      · exact absurd h (fun h => h)
      · cases h
  | y :: ys, [] => by simp [lexlt]
  | y :: ys, x :: xs => by
    have ih := lex_zero ys xs
    simp only [List.cons_append, lexlt, ih]
    constructor
    · intro h
      rcases h with h | ⟨rfl, h | rfl⟩
      · exact Or.inl (Or.inl h)
      · exact Or.inl (Or.inr ⟨rfl, h⟩)
      · exact Or.inr rfl
    · intro h
      rcases h with (h | ⟨rfl, h⟩) | h
      · exact Or.inl h
      · exact Or.inr ⟨rfl, Or.inl h⟩
      · injection h with h1 h2
        exact Or.inr ⟨h1, Or.inr h2⟩
/-- behind the last digit below -/
theorem lex_pop : ∀ (p q : List Nat) (u : Nat), (∀ x ∈ q, x < 5) → (lexlt q (p ++ [u] ++ [5]) ↔ lexlt q (p ++ [u + 1]))
  | [], [], u, _ => by simp [lexlt]
  | [], x :: xs, u, hq => by
    simp only [List.nil_append, List.cons_append, lexlt]
    constructor
    · intro h
      rcases h with h | ⟨rfl, h⟩
      · exact Or.inl (by omega)
      · exact Or.inl (by omega)
    · intro h
      rcases h with h | ⟨-, h⟩
      · rcases Nat.lt_or_ge x u with z | z
        · exact Or.inl z
        · refine Or.inr ⟨by omega, ?_⟩
          cases xs with
          | nil => trivial
          | cons y ys => exact Or.inl (hq y (by simp))
      · cases xs <;> exact absurd h (fun h => h)
  | y :: ys, [], u, _ => by simp [lexlt]
  | y :: ys, x :: xs, u, hq => by
    have ih := lex_pop ys xs u (fun z hz => hq z (List.mem_cons_of_mem _ hz))
    simp only [List.cons_append, lexlt]
    rw [ih]
section WAYS
variable {op : Nat → Nat → Bool} {rt : Nat → Nat → Nat} {a b : Nat}
/-- a row of different carriers, each linked to the next -/
def chn (op : Nat → Nat → Bool) : List Nat → Prop
  | [] => True
  | [_] => True
  | x :: y :: zs => op x y = true ∧ chn op (y :: zs)
def Pre (op : Nat → Nat → Bool) (a : Nat) (p : List Nat) : Prop := p.head? = some a ∧ p.Nodup ∧ (∀ x ∈ p, x < 5) ∧ chn op p
def Way (op : Nat → Nat → Bool) (a b : Nat) (p : List Nat) : Prop := Pre op a p ∧ p.getLast? = some b
def cst (rt : Nat → Nat → Nat) : List Nat → Nat
  | [] => 0
  | [_] => 0
  | x :: y :: zs => rt x y + cst rt (y :: zs)
/-- the better way: the cheaper, the shorter, the lower -/
def bet (rt : Nat → Nat → Nat) (p q : List Nat) : Prop := cst rt p < cst rt q ∨ (cst rt p = cst rt q ∧ (p.length < q.length ∨ (p.length = q.length ∧ lexlt p q)))
theorem bet_trans {p q r : List Nat} (h1 : bet rt p q) (h2 : bet rt q r) : bet rt p r := by
  rcases h1 with h1 | ⟨e1, h1⟩
  · rcases h2 with h2 | ⟨e2, h2⟩
    · exact Or.inl (by omega)
    · exact Or.inl (by omega)
  · rcases h2 with h2 | ⟨e2, h2⟩
    · exact Or.inl (by omega)
    · refine Or.inr ⟨by omega, ?_⟩
      rcases h1 with h1 | ⟨l1, h1⟩
      · rcases h2 with h2 | ⟨l2, h2⟩
        · exact Or.inl (by omega)
        · exact Or.inl (by omega)
      · rcases h2 with h2 | ⟨l2, h2⟩
        · exact Or.inl (by omega)
        · exact Or.inr ⟨by omega, lex_trans h1 h2⟩
theorem bet_irr (p : List Nat) : ¬ bet rt p p := by
  intro h
  rcases h with h | ⟨-, h | ⟨-, h⟩⟩
  · omega
  · omega
  · exact lex_irr p h
theorem bet_tri (p q : List Nat) : bet rt p q ∨ p = q ∨ bet rt q p := by
  rcases Nat.lt_trichotomy (cst rt p) (cst rt q) with h | h | h
  · exact Or.inl (Or.inl h)
  · rcases Nat.lt_trichotomy p.length q.length with g | g | g
    · exact Or.inl (Or.inr ⟨h, Or.inl g⟩)
    · rcases lex_tri p q with k | k | k
      · exact Or.inl (Or.inr ⟨h, Or.inr ⟨g, k⟩⟩)
      · exact Or.inr (Or.inl k)
      · exact Or.inr (Or.inr (Or.inr ⟨h.symm, Or.inr ⟨g.symm, k⟩⟩))
    · exact Or.inr (Or.inr (Or.inr ⟨h.symm, Or.inl g⟩))
  · exact Or.inr (Or.inr (Or.inl h))
/-- the best way, or that there is none -/
def Best (op : Nat → Nat → Bool) (rt : Nat → Nat → Nat) (a b : Nat) : Option (List Nat) → Prop
  | none => ∀ q, ¬ Way op a b q
  | some w => Way op a b w ∧ ∀ q, Way op a b q → ¬ bet rt q w
theorem best_one {u v : Option (List Nat)} (hu : Best op rt a b u) (hv : Best op rt a b v) : u = v := by
  cases u with
  | none =>
    cases v with
    | none => rfl
    | some w => exact absurd hv.1 (hu w)
  | some w =>
    cases v with
    | none => exact absurd hu.1 (hv w)
    | some z =>
      rcases bet_tri (rt := rt) w z with h | h | h
      · exact absurd h (hv.2 w hu.1)
      · rw [h]
      · exact absurd h (hu.2 z hv.1)
/-- the best of the ways ahead of cur -/
def Seen (op : Nat → Nat → Bool) (rt : Nat → Nat → Nat) (a b : Nat) (cur : List Nat) : Option (List Nat) → Prop
  | none => ∀ q, Way op a b q → ¬ lexlt q cur
  | some w => Way op a b w ∧ lexlt w cur ∧ ∀ q, Way op a b q → lexlt q cur → ¬ bet rt q w
theorem seen_iff {c1 c2 : List Nat} {v : Option (List Nat)} (h : ∀ q, Way op a b q → (lexlt q c1 ↔ lexlt q c2)) (hs : Seen op rt a b c1 v) : Seen op rt a b c2 v := by
  cases v with
  | none => exact fun q hq hl => hs q hq ((h q hq).mpr hl)
  | some w => exact ⟨hs.1, (h w hs.1).mp hs.2.1, fun q hq hl => hs.2.2 q hq ((h q hq).mpr hl)⟩
theorem chn_pre : ∀ {p z : List Nat}, chn op (p ++ z) → chn op p
  | [], _, _ => trivial
  | [_], _, _ => trivial
  | x :: y :: zs, z, h => ⟨h.1, chn_pre (p := y :: zs) h.2⟩
theorem pre_pre {p z : List Nat} (hp : p ≠ []) (h : Pre op a (p ++ z)) : Pre op a p := by
  obtain ⟨h1, h2, h3, h4⟩ := h
  refine ⟨?_, (List.nodup_append.mp h2).1, fun x hx => h3 x (List.mem_append_left _ hx), chn_pre h4⟩
  cases p with
  | nil => exact absurd rfl hp
  | cons x xs => exact h1
/-- no way goes on over a row that can't be -/
theorem seen_no {p : List Nat} {t : Nat} {v : Option (List Nat)} (hn : ¬ Pre op a (p ++ [t])) (hs : Seen op rt a b (p ++ [t]) v) : Seen op rt a b (p ++ [t + 1]) v := by
  refine seen_iff (fun q hq => ?_) hs
  rw [lex_next]
  constructor
  · exact Or.inl
  · intro h
    rcases h with h | ⟨z, rfl⟩
    · exact h
    · exact absurd (pre_pre (p := p ++ [t]) (z := z) (by simp) (by simpa using hq.1)) hn
theorem seen_pop {p : List Nat} {u : Nat} {v : Option (List Nat)} (hs : Seen op rt a b (p ++ [u] ++ [5]) v) : Seen op rt a b (p ++ [u + 1]) v :=
  seen_iff (fun q hq => lex_pop p q u hq.1.2.2.1) hs
theorem seen_push {p : List Nat} {v : Option (List Nat)} (hn : ¬ Way op a b p) (hs : Seen op rt a b p v) : Seen op rt a b (p ++ [0]) v := by
  refine seen_iff (fun q hq => ?_) hs
  rw [lex_zero]
  constructor
  · exact Or.inl
  · intro h
    rcases h with h | rfl
    · exact h
    · exact absurd hq hn
/-- a row of five that isn't a way -/
theorem nodup5 : ∀ (n : Nat) (p : List Nat), p.Nodup → (∀ x ∈ p, x < n) → p.length ≤ n := by
  intro n
  induction n with
  | zero =>
    intro p _ h
    cases p with
    | nil => exact Nat.le_refl _
    | cons x xs => exact absurd (h x (by simp)) (by omega)
  | succ n ih =>
    intro p hp h
    have h2 := ih (p.erase n) (hp.erase n) (fun x hx => by
      have h3 := h x (List.mem_of_mem_erase hx)
      have h4 : x ≠ n := (hp.mem_erase_iff.mp hx).1
      omega)
    by_cases hm : n ∈ p
    · rw [List.length_erase_of_mem hm] at h2
      omega
    · rw [List.erase_of_not_mem hm] at h2
      omega
theorem seen_full {p : List Nat} {u : Nat} {v : Option (List Nat)} (hl : (p ++ [u]).length = 5) (hn : ¬ Way op a b (p ++ [u])) (hs : Seen op rt a b (p ++ [u]) v) : Seen op rt a b (p ++ [u + 1]) v := by
  refine seen_iff (fun q hq => ?_) hs
  rw [lex_next]
  constructor
  · exact Or.inl
  · intro h
    rcases h with h | ⟨z, rfl⟩
    · exact h
    · exfalso
      have h5 := nodup5 5 _ hq.1.2.1 hq.1.2.2.1
      have hz : z = [] := by
        cases z with
        | nil => rfl
        | cons x xs =>
          simp at h5 hl
          omega
      subst hz
      exact hn hq
/-- a way is seen: it is taken if it is cheaper, or as cheap and shorter -/
def take (rt : Nat → Nat → Nat) (p : List Nat) : Option (List Nat) → Option (List Nat)
  | none => some p
  | some w => if cst rt p < cst rt w ∨ (cst rt p = cst rt w ∧ p.length < w.length) then some p else some w
theorem way_end {p z : List Nat} (h : Way op a b p) (h2 : Way op a b (p ++ z)) : z = [] := by
  cases hz : z.reverse with
  | nil => simpa using hz
  | cons y ys =>
    exfalso
    have e : z = ys.reverse ++ [y] := by
      have := congrArg List.reverse hz
      simpa using this
    have h3 : (p ++ z).getLast? = some y := by rw [e, ← List.append_assoc]; simp
    have hyb : y = b := Option.some.inj (h3.symm.trans h2.2)
    have hbp : b ∈ p := List.mem_of_getLast? h.2
    have hbz : b ∈ z := by rw [e, ← hyb]; simp
    have hd := (List.nodup_append.mp h2.1.2.1).2.2
    exact hd b hbp b hbz rfl
theorem seen_take {p : List Nat} {u : Nat} {v : Option (List Nat)} (hw : Way op a b (p ++ [u])) (hs : Seen op rt a b (p ++ [u]) v) : Seen op rt a b (p ++ [u + 1]) (take rt (p ++ [u]) v) := by
  have key : ∀ q, Way op a b q → (lexlt q (p ++ [u + 1]) ↔ lexlt q (p ++ [u]) ∨ q = p ++ [u]) := by
    intro q hq
    rw [lex_next]
    constructor
    · intro h
      rcases h with h | ⟨z, rfl⟩
      · exact Or.inl h
      · have hz : z = [] := way_end hw (by simpa using hq)
        subst hz
        exact Or.inr rfl
    · intro h
      rcases h with h | rfl
      · exact Or.inl h
      · exact Or.inr ⟨[], rfl⟩
  cases v with
  | none =>
    refine ⟨hw, (key _ hw).mpr (Or.inr rfl), fun q hq hl => ?_⟩
    rcases (key q hq).mp hl with h | rfl
    · exact absurd h (hs q hq)
    · exact bet_irr _
  | some w =>
    simp only [take]
    split
    · rename_i hb
      have hbet : bet rt (p ++ [u]) w := by
        rcases hb with hb | ⟨hb, hc⟩
        · exact Or.inl hb
        · exact Or.inr ⟨hb, Or.inl hc⟩
      refine ⟨hw, (key _ hw).mpr (Or.inr rfl), fun q hq hl => ?_⟩
      rcases (key q hq).mp hl with h | rfl
      · exact fun h9 => hs.2.2 q hq h (bet_trans h9 hbet)
      · exact bet_irr _
    · rename_i hb
      refine ⟨hs.1, (key _ hs.1).mpr (Or.inl hs.2.1), fun q hq hl => ?_⟩
      rcases (key q hq).mp hl with h | rfl
      · exact hs.2.2 q hq h
      · intro h9
        rcases h9 with h9 | ⟨e9, h9 | ⟨l9, h9⟩⟩
        · exact hb (Or.inl h9)
        · exact hb (Or.inr ⟨e9, h9⟩)
        · exact lex_irr _ (lex_trans h9 hs.2.1)
theorem seen_start {v : Option (List Nat)} (hv : v = none) : Seen op rt a b [a] v := by
  subst hv
  intro q hq hl
  have h1 := hq.1.1
  cases q with
  | nil => cases h1
  | cons x xs =>
    have e : x = a := Option.some.inj h1
    subst e
    rcases hl with hl | ⟨-, hl⟩
    · omega
    · cases xs <;> exact absurd hl (fun h => h)
theorem seen_end {v : Option (List Nat)} (hs : Seen op rt a b [a + 1] v) : Best op rt a b v := by
  have key : ∀ q, Way op a b q → lexlt q [a + 1] := by
    intro q hq
    have h1 := hq.1.1
    cases q with
    | nil => cases h1
    | cons x xs =>
      have e : x = a := Option.some.inj h1
      exact Or.inl (by omega)
  cases v with
  | none => exact fun q hq => hs q hq (key q hq)
  | some w => exact ⟨hs.1, fun q hq => hs.2.2 q hq (key q hq)⟩
/-- a place in the order, as a number: it grows at every step of the search -/
def cod : Nat → List Nat → Nat
  | _, [] => 0
  | k, x :: xs => x * 6 ^ k + cod (k - 1) xs
theorem cod_app : ∀ (k : Nat) (p : List Nat) (t : Nat), p.length ≤ k → cod k (p ++ [t]) = cod k p + t * 6 ^ (k - p.length)
  | k, [], t, _ => by simp [cod]
  | k, x :: xs, t, h => by
    have h1 : xs.length ≤ k - 1 := by simp at h; omega
    rw [List.cons_append, cod, cod, cod_app (k - 1) xs t h1]
    have e : k - 1 - xs.length = k - (x :: xs).length := by simp; omega
    rw [e]
    omega
theorem cod_le : ∀ (k : Nat) (p : List Nat), p.length ≤ k + 1 → (∀ x ∈ p, x ≤ 5) → cod k p < 6 ^ (k + 1)
  | k, [], _, _ => Nat.pow_pos (by omega)
  | 0, x :: xs, h, hx => by
    have hxs : xs = [] := by
      cases xs with
      | nil => rfl
      | cons y ys => simp at h
    subst hxs
    have := hx x (by simp)
    simp [cod]
    omega
  | k + 1, x :: xs, h, hx => by
    have h1 := cod_le k xs (by simp at h; omega) (fun y hy => hx y (List.mem_cons_of_mem _ hy))
    have h2 := hx x (by simp)
    rw [cod, show k + 1 - 1 = k by omega]
    have h3 : x * 6 ^ (k + 1) ≤ 5 * 6 ^ (k + 1) := Nat.mul_le_mul_right _ h2
    have h4 : 6 ^ (k + 1 + 1) = 6 * 6 ^ (k + 1) := by rw [Nat.pow_succ]; omega
    omega
end WAYS
