section GR
variable {op : Nat → Nat → Bool} {rt : Nat → Nat → Nat} {b : Nat}
/-- a row that goes on to the lowest carrier of a lightest way, up to b -/
def Grd (op : Nat → Nat → Bool) (rt : Nat → Nat → Nat) (b : Nat) : List Nat → Prop
  | [] => False
  | [x] => x = b
  | x :: y :: zs => x ≠ b ∧ (op x y = true ∧ Wf op rt b y + rt x y * 8 + 1 = Wf op rt b x ∧ ∀ m, m < y → ¬ (op x m = true ∧ Wf op rt b m + rt x m * 8 + 1 = Wf op rt b x)) ∧ Grd op rt b (y :: zs)
theorem grd_wt : ∀ (p : List Nat) (x : Nat), p.head? = some x → Grd op rt b p → wt rt p = Wf op rt b x ∧ p.getLast? = some b ∧ chn op p
  | [], x, h, _ => by simp at h
  | [y], x, h, g => by
    have e : y = x := by simpa using h
    subst e
    have e2 : y = b := g
    subst e2
    exact ⟨by rw [Wf_b]; rfl, rfl, trivial⟩
  | x' :: y :: zs, x, h, g => by
    have e : x' = x := by simpa using h
    subst e
    obtain ⟨-, ⟨g1, g2, -⟩, g3⟩ := g
    obtain ⟨h1, h2, h3⟩ := grd_wt (y :: zs) y rfl g3
    refine ⟨by rw [wt_cons, h1]; omega, ?_, g1, h3⟩
    rw [List.getLast?_cons_cons]; exact h2
theorem grd_dec : ∀ (p : List Nat) (x : Nat) (z : List Nat), p = x :: z → Grd op rt b p → ∀ y ∈ z, Wf op rt b y < Wf op rt b x
  | [], x, z, h, _ => by cases h
  | [_], x, z, h, _ => by
    cases h
    intro y hy
    cases hy
  | x' :: y' :: zs, x, z, h, g => by
    cases h
    obtain ⟨-, ⟨-, g2, -⟩, g3⟩ := g
    intro y hy
    rcases List.mem_cons.mp hy with rfl | hy
    · omega
    · have := grd_dec (y' :: zs) y' zs rfl g3 y hy
      omega
theorem grd_nodup : ∀ (p : List Nat), Grd op rt b p → p.Nodup
  | [], _ => List.nodup_nil
  | [x], _ => by simp
  | x :: y :: zs, g => by
    have hd := grd_dec _ x (y :: zs) rfl g
    obtain ⟨-, -, g3⟩ := g
    refine List.nodup_cons.mpr ⟨fun hm => ?_, grd_nodup (y :: zs) g3⟩
    have := hd x hm
    omega
theorem grd_lex (hb : b < 5) : ∀ (p : List Nat) (x : Nat) (q : List Nat), x < 5 → p.head? = some x → Grd op rt b p → Wlk op x b q → wt rt q = Wf op rt b x → ¬ lexlt q p
  | [], x, q, hx, h, _, _, _ => by simp at h
  | [y], x, q, hx, h, g, hq, e => by
    have ey : y = x := by simpa using h
    subst ey
    have e2 : y = b := g
    subst e2
    rw [Wf_b] at e
    rcases wlk_step (rt := rt) hq with ⟨rfl, -⟩ | ⟨n, z, rfl, ho, hn, hz, e3⟩
    · exact lex_irr _
    · omega
  | x' :: y :: zs, x, q, hx, h, g, hq, e => by
    have ey : x' = x := by simpa using h
    subst ey
    obtain ⟨g0, ⟨g1, g2, g4⟩, g3⟩ := g
    rcases wlk_step (rt := rt) hq with ⟨-, h9⟩ | ⟨n, z, rfl, ho, hn, hz, e3⟩
    · exact absurd h9 g0
    · have h1 := Wf_wlk (rt := rt) hn hz
      have h2 := Wf_tri (rt := rt) hb hx hn ho
      have h3 : ¬ n < y := fun hlt => g4 n hlt ⟨ho, by omega⟩
      have hzh := hz.1
      intro hl
      cases z with
      | nil => simp at hzh
      | cons n' z' =>
        have en : n' = n := by simpa using hzh
        subst en
        have hl2 : n' < y ∨ (n' = y ∧ lexlt z' zs) := by simpa [lexlt] using hl
        rcases hl2 with hl2 | ⟨rfl, hl2⟩
        · exact h3 hl2
        · exact grd_lex hb (n' :: zs) n' (n' :: z') hn rfl g3 hz (by omega) (by simpa [lexlt] using hl2)
theorem grd_best (hb : b < 5) {a : Nat} {p : List Nat} (ha : a < 5) (hp : p.head? = some a) (h5 : ∀ x ∈ p, x < 5) (g : Grd op rt b p) : Best op rt a b (some p) := by
  obtain ⟨h1, h2, h3⟩ := grd_wt p a hp g
  have hw : Way op a b p := ⟨⟨hp, grd_nodup p g, h5, h3⟩, h2⟩
  refine ⟨hw, fun q hq hbt => ?_⟩
  have l1 := way_len hw
  have l2 := way_len hq
  have hle := Wf_way (rt := rt) ha hq
  rw [← h1] at hle
  simp only [wt] at hle
  rcases hbt with hc | ⟨hc, hl | ⟨hl, hx⟩⟩
  · omega
  · omega
  · refine grd_lex (rt := rt) hb p a q ha hp g ⟨hq.1.1, hq.2, hq.1.2.2.1, hq.1.2.2.2⟩ ?_ hx
    rw [← h1]
    simp only [wt]
    omega
theorem none_best (hb : b < 5) {a : Nat} (ha : a < 5) (hr : ∀ x y, x < 5 → y < 5 → op x y = true → rt x y ≤ 100) (h : ¬ Wf op rt b a < 1000000) : Best op rt a b none := by
  intro q hq
  have h1 := Wf_way (rt := rt) ha hq
  have H : ∀ (w : List Nat), (∀ x ∈ w, x < 5) → chn op w → cst rt w ≤ 100 * w.length := by
    intro w
    induction w with
    | nil => intro _ _; exact Nat.zero_le _
    | cons x zs ih =>
      intro h5 hc
      cases zs with
      | nil => exact Nat.zero_le _
      | cons y zs =>
        have h9 := hr x y (h5 x (by simp)) (h5 y (by simp)) hc.1
        have h8 := ih (fun z hz => h5 z (List.mem_cons_of_mem _ hz)) hc.2
        show rt x y + cst rt (y :: zs) ≤ _
        simp only [List.length_cons] at h8 ⊢
        omega
  have h2 := H q hq.1.2.2.1 hq.1.2.2.2
  have h3 := way_len hq
  simp only [wt] at h1
  omega
end GR
