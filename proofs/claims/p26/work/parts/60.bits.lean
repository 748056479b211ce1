/-! The law's ways as digits in base 8, its marks as bits. -/
section BITS
theorem sh_k {k : Nat} (hk : k < 32) : ((nI k &&& 31).toBitVec.smod 32).toNat = k :=
  (show ∀ k : Fin 32, ((nI k.val &&& 31).toBitVec.smod 32).toNat = k.val by decide +kernel) ⟨k, hk⟩
theorem sh_r {n k : Nat} (hn : n < 2 ^ 31) (hk : k < 32) : nI n >>> (nI k &&& 31) = nI (n / 2 ^ k) := pk_shrN hn _ k (sh_k hk)
theorem sh_l {n k : Nat} (hk : k < 32) (h : n * 2 ^ k < 2 ^ 31) : nI n <<< (nI k &&& 31) = nI (n * 2 ^ k) := pk_shlN _ k (sh_k hk) (by omega)
theorem or_n {a b : Nat} (ha : a < 2 ^ 31) (hb : b < 2 ^ 31) : nI a ||| nI b = nI (a ||| b) := by
  apply Int32.toBitVec_inj.mp
  apply BitVec.eq_of_toNat_eq
  have h : a ||| b < 2 ^ 31 := Nat.or_lt_two_pow ha hb
  rw [Int32.toBitVec_or, BitVec.toNat_or, pk_tn (by omega), pk_tn (by omega), pk_tn (by omega)]
theorem an_7 {n : Nat} (h : n < 2 ^ 31) : nI n &&& 7 = nI (n % 8) := pk_andN (by omega) 3 (by decide)
theorem an_1 {n : Nat} (h : n < 2 ^ 31) : nI n &&& 1 = nI (n % 2) := pk_andN (by omega) 1 (by decide)
/-- a bit of a mark -/
theorem bit_0 {m k : Nat} (hm : m < 2 ^ 31) (hk : k < 32) : nI m >>> (nI k &&& 31) &&& 1 = 0 ↔ m.testBit k = false := by
  have h1 : m / 2 ^ k < 2 ^ 31 := Nat.lt_of_le_of_lt (Nat.div_le_self _ _) hm
  rw [sh_r hm hk, an_1 h1, Nat.testBit_eq_decide_div_mod_eq, show (0 : Int32) = nI 0 from rfl, nI_eq (by omega) (by omega), decide_eq_false_iff_not]
  omega
theorem le_0 {n : Nat} (h : n < 2 ^ 31) : nI n ≤ 0 ↔ n = 0 := by
  rw [show (0 : Int32) = nI 0 from rfl, nI_leI h (by omega)]
  omega
theorem or_b (a b : Bool) : k_b a ||| k_b b = k_b (a || b) := by cases a <;> cases b <;> decide
/-- a row as digits, the first one lowest -/
def enc : List Nat → Nat
  | [] => 0
  | x :: xs => (x + 1) + 8 * enc xs
theorem enc_lt : ∀ (p : List Nat), (∀ y ∈ p, y < 5) → enc p < 8 ^ p.length
  | [], _ => by decide
  | x :: xs, h => by
    have h1 := enc_lt xs (fun y hy => h y (List.mem_cons_of_mem _ hy))
    have h2 := h x List.mem_cons_self
    show x + 1 + 8 * enc xs < 8 ^ (xs.length + 1)
    rw [Nat.pow_succ]
    omega
theorem enc_lt5 {p : List Nat} (h : ∀ y ∈ p, y < 5) (hl : p.length ≤ 5) : enc p < 32768 := by
  have h1 := enc_lt p h
  have h2 : 8 ^ p.length ≤ 8 ^ 5 := Nat.pow_le_pow_right (by decide) hl
  have h3 : (8 : Nat) ^ 5 = 32768 := by decide
  omega
theorem enc_div : ∀ (k : Nat) (p : List Nat), (∀ y ∈ p, y < 5) → enc p / 2 ^ (3 * k) = enc (p.drop k)
  | 0, p, _ => by simp
  | k + 1, [], _ => by simp [enc]
  | k + 1, x :: xs, h => by
    have h2 := h x List.mem_cons_self
    have h1 := enc_div k xs (fun y hy => h y (List.mem_cons_of_mem _ hy))
    rw [List.drop_succ_cons, ← h1, show 3 * (k + 1) = 3 + 3 * k by omega, Nat.pow_add, ← Nat.div_div_eq_div_mul]
    congr 1
    show (x + 1 + 8 * enc xs) / 2 ^ 3 = enc xs
    have h3 : (2 : Nat) ^ 3 = 8 := by decide
    rw [h3]
    omega
theorem enc_pos {p : List Nat} {k : Nat} : enc (p.drop k) = 0 ↔ p.length ≤ k := by
  constructor
  · intro h
    rcases Nat.lt_or_ge k p.length with z | z
    · rw [List.drop_eq_getElem_cons z] at h
      simp only [enc] at h
      omega
    · exact z
  · intro h
    rw [List.drop_eq_nil_of_le h]
    rfl
theorem enc_mod {p : List Nat} {k : Nat} (h5 : ∀ y ∈ p, y < 5) (h : k < p.length) : enc (p.drop k) % 8 = p.getD k 0 + 1 := by
  have h2 := h5 _ (List.getElem_mem h)
  rw [List.drop_eq_getElem_cons h, List.getD_eq_getElem?_getD, List.getElem?_eq_getElem h]
  simp only [enc, Option.getD_some]
  omega
theorem enc_snoc : ∀ (p : List Nat) (x : Nat), enc (p ++ [x]) = enc p + (x + 1) * 2 ^ (3 * p.length)
  | [], x => by simp [enc]
  | y :: ys, x => by
    have h := enc_snoc ys x
    simp only [List.cons_append, enc, h, List.length_cons]
    rw [show 3 * (ys.length + 1) = 3 + 3 * ys.length by omega, Nat.pow_add, show (2 : Nat) ^ 3 = 8 by decide, Nat.mul_add, Nat.mul_left_comm]
    omega
theorem enc_inj : ∀ (p q : List Nat), (∀ y ∈ p, y < 5) → (∀ y ∈ q, y < 5) → enc p = enc q → p = q
  | [], [], _, _, _ => rfl
  | [], y :: ys, _, _, h => by simp only [enc] at h; omega
  | x :: xs, [], _, _, h => by simp only [enc] at h; omega
  | x :: xs, y :: ys, h1, h2, h => by
    have a := h1 x List.mem_cons_self
    have b := h2 y List.mem_cons_self
    simp only [enc] at h
    have e : x = y := by omega
    subst e
    rw [enc_inj xs ys (fun z hz => h1 z (List.mem_cons_of_mem _ hz)) (fun z hz => h2 z (List.mem_cons_of_mem _ hz)) (by omega)]
/-- row >> 3 * k -/
theorem row_sh {p : List Nat} {s k : Nat} (h5 : ∀ y ∈ p, y < 5) (hl : p.length ≤ 5) (hs : s = 3 * k) (hk : k < 10) : nI (enc p) >>> (nI s &&& 31) = nI (enc (p.drop k)) := by
  have := enc_lt5 h5 hl
  rw [sh_r (by omega) (by omega), hs, enc_div k p h5]
theorem drop_lt {p : List Nat} {k : Nat} (h5 : ∀ y ∈ p, y < 5) (hl : p.length ≤ 5) : enc (p.drop k) < 32768 :=
  enc_lt5 (fun y hy => h5 y (List.mem_of_mem_drop hy)) (by rw [List.length_drop]; omega)
theorem row_an {p : List Nat} {k : Nat} (h5 : ∀ y ∈ p, y < 5) (hl : p.length ≤ 5) (hk : k < p.length) : nI (enc (p.drop k)) &&& 7 = nI (p.getD k 0 + 1) := by
  have := drop_lt (k := k) h5 hl
  rw [an_7 (by omega), enc_mod h5 hk]
theorem row_le {p : List Nat} {k : Nat} (h5 : ∀ y ∈ p, y < 5) (hl : p.length ≤ 5) : nI (enc (p.drop k)) ≤ 0 ↔ p.length ≤ k := by
  have := drop_lt (k := k) h5 hl
  rw [le_0 (by omega), enc_pos]
theorem pD_lt {p : List Nat} {k : Nat} (h5 : ∀ y ∈ p, y < 5) : p.getD k 0 < 5 := by
  rcases Nat.lt_or_ge k p.length with z | z
  · rw [List.getD_eq_getElem?_getD, List.getElem?_eq_getElem z]
    exact h5 _ (List.getElem_mem z)
  · rw [List.getD_eq_getElem?_getD, List.getElem?_eq_none z]
    decide
/-- low(v, n) -/
def lowI (v n : Int32) : Int32 := (v &&& 2147483647) - (v &&& 2147483647) / n * n
theorem low_n (v : Int32) {n : Nat} (h0 : 0 < n) (h : n < 2 ^ 31) : ∃ j, j < n ∧ lowI v (nI n) = nI j := by
  obtain ⟨m, hm, e⟩ := pk_andE v (m := 2147483647) 31 (by decide)
  exact ⟨m % n, Nat.mod_lt _ h0, by rw [lowI, e, pk_rem hm h0 h]⟩
end BITS
