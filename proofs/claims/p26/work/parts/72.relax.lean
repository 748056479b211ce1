/-! The class's search, purely: least weights by relaxing, then the lowest carrier that a lightest way goes on to. -/
section BF
variable {op : Nat → Nat → Bool} {rt : Nat → Nat → Nat} {b : Nat}
def Wlk (op : Nat → Nat → Bool) (x b : Nat) (p : List Nat) : Prop := p.head? = some x ∧ p.getLast? = some b ∧ (∀ y ∈ p, y < 5) ∧ chn op p
def wt (rt : Nat → Nat → Nat) (p : List Nat) : Nat := 8 * cst rt p + (p.length - 1)
theorem wt_cons (x y : Nat) (zs : List Nat) : wt rt (x :: y :: zs) = 8 * rt x y + 1 + wt rt (y :: zs) := by
  simp only [wt, cst, List.length_cons]
  omega
theorem wlk_cons {x n : Nat} {p : List Nat} (hx : x < 5) (ho : op x n = true) (h : Wlk op n b p) : Wlk op x b (x :: p) ∧ wt rt (x :: p) = 8 * rt x n + 1 + wt rt p := by
  obtain ⟨h1, h2, h3, h4⟩ := h
  cases p with
  | nil => simp at h1
  | cons y zs =>
    have e : y = n := by simpa using h1
    subst e
    refine ⟨⟨rfl, ?_, ?_, ho, h4⟩, wt_cons _ _ _⟩
    · rw [List.getLast?_cons_cons]; exact h2
    · intro z hz
      rcases List.mem_cons.mp hz with rfl | hz
      · exact hx
      · exact h3 z hz
theorem wlk_step {x : Nat} {p : List Nat} (h : Wlk op x b p) : (p = [x] ∧ x = b) ∨ ∃ n z, p = x :: z ∧ op x n = true ∧ n < 5 ∧ Wlk op n b z ∧ wt rt p = 8 * rt x n + 1 + wt rt z := by
  obtain ⟨h1, h2, h3, h4⟩ := h
  cases p with
  | nil => simp at h1
  | cons y zs =>
    have e : y = x := by simpa using h1
    subst e
    cases zs with
    | nil => exact Or.inl ⟨rfl, by simpa using h2⟩
    | cons n zs =>
      refine Or.inr ⟨n, n :: zs, rfl, h4.1, h3 n (by simp), ⟨rfl, ?_, fun z hz => h3 z (List.mem_cons_of_mem _ hz), h4.2⟩, wt_cons _ _ _⟩
      rw [List.getLast?_cons_cons] at h2; exact h2
def rlx (op : Nat → Nat → Bool) (rt : Nat → Nat → Nat) (f n : Nat) (W : Nat → Nat) : Nat → Nat := fun x => if op f n = true ∧ x = f then min (W f) (W n + rt f n * 8 + 1) else W x
def rin (op : Nat → Nat → Bool) (rt : Nat → Nat → Nat) (f : Nat) (W : Nat → Nat) : Nat → Nat → Nat
  | 0 => W
  | n + 1 => rlx op rt f n (rin op rt f W n)
def rmid (op : Nat → Nat → Bool) (rt : Nat → Nat → Nat) (W : Nat → Nat) : Nat → Nat → Nat
  | 0 => W
  | f + 1 => rin op rt f (rmid op rt W f) 5
def rout (op : Nat → Nat → Bool) (rt : Nat → Nat → Nat) (W : Nat → Nat) : Nat → Nat → Nat
  | 0 => W
  | d + 1 => rmid op rt (rout op rt W d) 5
def SndW (op : Nat → Nat → Bool) (rt : Nat → Nat → Nat) (b : Nat) (W : Nat → Nat) : Prop := ∀ x, x < 5 → W x ≤ 1000000 ∧ (W x = 1000000 ∨ ∃ p, Wlk op x b p ∧ W x = wt rt p)
theorem rlx_le (f n : Nat) (W : Nat → Nat) (x : Nat) : rlx op rt f n W x ≤ W x := by
  unfold rlx
  split
  · next h => rw [h.2]; exact Nat.min_le_left _ _
  · exact Nat.le_refl _
theorem rin_le (f : Nat) (W : Nat → Nat) (x : Nat) : ∀ n, rin op rt f W n x ≤ W x := by
  intro n
  induction n with
  | zero => exact Nat.le_refl _
  | succ n ih => exact Nat.le_trans (rlx_le _ _ _ _) ih
theorem rmid_le (W : Nat → Nat) (x : Nat) : ∀ n, rmid op rt W n x ≤ W x := by
  intro n
  induction n with
  | zero => exact Nat.le_refl _
  | succ n ih => exact Nat.le_trans (rin_le _ _ _ _) ih
theorem rlx_snd {f n : Nat} {W : Nat → Nat} (hf : f < 5) (hn : n < 5) (h : SndW op rt b W) : SndW op rt b (rlx op rt f n W) := by
  intro x hx
  refine ⟨Nat.le_trans (rlx_le _ _ _ _) (h x hx).1, ?_⟩
  unfold rlx
  split
  · next h1 =>
    obtain ⟨ho, rfl⟩ := h1
    rcases Nat.le_total (W x) (W n + rt x n * 8 + 1) with g | g
    · rw [Nat.min_eq_left g]; exact (h x hx).2
    · rw [Nat.min_eq_right g]
      rcases (h n hn).2 with e | ⟨p, hp, e⟩
      · have := (h x hx).1
        omega
      · obtain ⟨h2, h3⟩ := wlk_cons (rt := rt) hx ho hp
        exact Or.inr ⟨x :: p, h2, by rw [h3, e]; omega⟩
  · exact (h x hx).2
theorem rin_snd {f : Nat} {W : Nat → Nat} (hf : f < 5) (h : SndW op rt b W) : ∀ n, n ≤ 5 → SndW op rt b (rin op rt f W n) := by
  intro n
  induction n with
  | zero => intro _; exact h
  | succ n ih => intro hn; exact rlx_snd hf (by omega) (ih (by omega))
theorem rmid_snd {W : Nat → Nat} (h : SndW op rt b W) : ∀ f, f ≤ 5 → SndW op rt b (rmid op rt W f) := by
  intro f
  induction f with
  | zero => intro _; exact h
  | succ f ih => intro hf; exact rin_snd (by omega) (ih (by omega)) 5 (by omega)
theorem rout_snd {W : Nat → Nat} (h : SndW op rt b W) : ∀ d, SndW op rt b (rout op rt W d) := by
  intro d
  induction d with
  | zero => exact h
  | succ d ih => exact rmid_snd ih 5 (by omega)
theorem rin_get {f n : Nat} {W : Nat → Nat} (ho : op f n = true) : ∀ k, n < k → rin op rt f W k f ≤ W n + rt f n * 8 + 1 := by
  intro k
  induction k with
  | zero => intro h; omega
  | succ k ih =>
    intro hk
    by_cases e : n = k
    · subst e
      show rlx op rt f n (rin op rt f W n) f ≤ _
      unfold rlx
      rw [if_pos ⟨ho, rfl⟩]
      exact Nat.le_trans (Nat.min_le_right _ _) (by have := rin_le (op := op) (rt := rt) f W n n; omega)
    · exact Nat.le_trans (rlx_le _ _ _ _) (ih (by omega))
theorem rmid_get {f n : Nat} {W : Nat → Nat} (ho : op f n = true) (hn : n < 5) : ∀ k, f < k → rmid op rt W k f ≤ W n + rt f n * 8 + 1 := by
  intro k
  induction k with
  | zero => intro h; omega
  | succ k ih =>
    intro hk
    by_cases e : f = k
    · subst e
      exact Nat.le_trans (rin_get ho 5 hn) (by have := rmid_le (op := op) (rt := rt) W n f; omega)
    · exact Nat.le_trans (rin_le _ _ _ _) (ih (by omega))
/-- after d rounds no walk of d links or fewer is lighter -/
theorem rout_cmp {W : Nat → Nat} (h0 : W b = 0) : ∀ d x p, x < 5 → Wlk op x b p → p.length ≤ d + 1 → rout op rt W d x ≤ wt rt p := by
  intro d
  induction d with
  | zero =>
    intro x p hx hp hl
    rcases wlk_step (rt := rt) hp with ⟨rfl, rfl⟩ | ⟨n, z, rfl, -, -, hz, -⟩
    · rw [show rout op rt W 0 = W from rfl, h0]; omega
    · have : z ≠ [] := by intro e; subst e; simp [Wlk] at hz
      have : z.length ≠ 0 := fun e => this (List.length_eq_zero_iff.mp e)
      rw [List.length_cons] at hl
      omega
  | succ d ih =>
    intro x p hx hp hl
    rcases wlk_step (rt := rt) hp with ⟨rfl, rfl⟩ | ⟨n, z, rfl, ho, hn, hz, e⟩
    · exact Nat.le_trans (rmid_le _ _ _) (ih x [x] hx hp (by simp))
    · have h1 := ih n z hn hz (by rw [List.length_cons] at hl; omega)
      have h2 := rmid_get (rt := rt) (W := rout op rt W d) ho hn 5 hx
      show rmid op rt (rout op rt W d) 5 x ≤ _
      omega
end BF
