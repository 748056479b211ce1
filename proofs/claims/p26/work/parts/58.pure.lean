section PURE
variable {op : Nat → Nat → Bool} {rt : Nat → Nat → Nat} {a b : Nat}
theorem way_len {w : List Nat} (h : Way op a b w) : 1 ≤ w.length ∧ w.length ≤ 5 := by
  refine ⟨?_, nodup5 5 w h.1.2.1 h.1.2.2.1⟩
  cases w with
  | nil => exact absurd h.1.1 (by simp)
  | cons x xs => simp
theorem cst_snoc : ∀ (p : List Nat) (x y : Nat), cst rt (p ++ [x] ++ [y]) = cst rt (p ++ [x]) + rt x y
  | [], x, y => by simp [cst]
  | [z], x, y => by simp [cst]
  | z :: t :: zs, x, y => by
    have ih := cst_snoc (t :: zs) x y
    simp only [List.cons_append, cst] at ih ⊢
    rw [ih]
    omega
theorem chn_snoc : ∀ {p : List Nat} {x y : Nat}, chn op (p ++ [x] ++ [y]) ↔ chn op (p ++ [x]) ∧ op x y = true
  | [], x, y => by simp [chn]
  | [z], x, y => by simp [chn, and_assoc]
  | z :: t :: zs, x, y => by
    have ih := chn_snoc (p := t :: zs) (x := x) (y := y)
    simp only [List.cons_append, chn] at ih ⊢
    rw [ih, and_assoc]
theorem pre_snoc {p : List Nat} {x y : Nat} (hp : Pre op a (p ++ [x])) (hy : y < 5) : Pre op a (p ++ [x] ++ [y]) ↔ op x y = true ∧ y ∉ p ++ [x] := by
  obtain ⟨h1, h2, h3, h4⟩ := hp
  constructor
  · intro ⟨g1, g2, g3, g4⟩
    refine ⟨(chn_snoc.mp g4).2, fun hm => ?_⟩
    exact (List.nodup_append.mp g2).2.2 y hm y (by simp) rfl
  · intro ⟨g1, g2⟩
    refine ⟨?_, List.nodup_append.mpr ⟨h2, by simp, fun z hz t ht => ?_⟩, fun z hz => ?_, chn_snoc.mpr ⟨h4, g1⟩⟩
    · cases p with
      | nil => exact h1
      | cons z zs => exact h1
    · rw [List.mem_singleton.mp ht]
      exact fun e => g2 (e ▸ hz)
    · rcases List.mem_append.mp hz with h | h
      · exact h3 z h
      · rw [List.mem_singleton.mp h]; exact hy
theorem nI_p1 (n : Nat) : nI (n + 1) - 1 = nI n := nI_pred n
theorem nI_m1 {n : Nat} (h : 1 ≤ n) : nI n - 1 = nI (n - 1) := by
  rw [show (1 : Int32) = nI 1 from rfl, pk_sub h]
theorem n5jk (j k : Nat) : 5 * nI j + nI k = nI (5 * j + k) := by rw [show (5 : Int32) = nI 5 from rfl, pk_mul, nI_add]
end PURE
