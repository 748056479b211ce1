section BF2
variable {op : Nat → Nat → Bool} {rt : Nat → Nat → Nat} {b : Nat}
theorem chn_suf : ∀ (s t : List Nat), chn op (s ++ t) → chn op t
  | [], t, h => h
  | [x], t, h => by
    cases t with
    | nil => trivial
    | cons y zs => exact h.2
  | x :: y :: zs, t, h => chn_suf (y :: zs) t h.2
theorem cst_suf : ∀ (s t : List Nat), cst rt t ≤ cst rt (s ++ t)
  | [], t => Nat.le_refl _
  | [x], t => by
    cases t with
    | nil => exact Nat.zero_le _
    | cons y zs => show cst rt (y :: zs) ≤ rt x y + cst rt (y :: zs); omega
  | x :: y :: zs, t => by
    have := cst_suf (y :: zs) t
    show cst rt t ≤ rt x y + cst rt (y :: (zs ++ t))
    exact Nat.le_trans this (Nat.le_add_left _ _)
theorem way_suf {n x : Nat} {s t : List Nat} (h : Way op n b (s ++ x :: t)) : Way op x b (x :: t) ∧ wt rt (x :: t) ≤ wt rt (s ++ x :: t) := by
  obtain ⟨⟨-, h2, h3, h4⟩, h5⟩ := h
  refine ⟨⟨⟨rfl, (List.nodup_append.mp h2).2.1, fun y hy => h3 y (List.mem_append_right _ hy), chn_suf s _ h4⟩, ?_⟩, ?_⟩
  · rw [List.getLast?_append] at h5
    simpa using h5
  · have := cst_suf (rt := rt) s (x :: t)
    simp only [wt, List.length_append, List.length_cons]
    omega
/-- a walk holds a way that is no heavier -/
theorem wlk_way : ∀ (k : Nat) (x : Nat) (p : List Nat), p.length ≤ k → x < 5 → Wlk op x b p → ∃ q, Way op x b q ∧ wt rt q ≤ wt rt p := by
  intro k
  induction k with
  | zero =>
    intro x p hl hx h
    rw [List.length_eq_zero_iff.mp (Nat.le_zero.mp hl)] at h
    simp [Wlk] at h
  | succ k ih =>
    intro x p hl hx h
    rcases wlk_step (rt := rt) h with ⟨rfl, rfl⟩ | ⟨n, z, rfl, ho, hn, hz, e⟩
    · exact ⟨[x], ⟨⟨rfl, by simp, by simpa using hx, trivial⟩, rfl⟩, Nat.le_refl _⟩
    · rw [List.length_cons] at hl
      obtain ⟨q, hq, hw⟩ := ih n z (by omega) hn hz
      by_cases hm : x ∈ q
      · obtain ⟨s, t, rfl⟩ := List.append_of_mem hm
        obtain ⟨g1, g2⟩ := way_suf (rt := rt) hq
        exact ⟨x :: t, g1, by omega⟩
      · obtain ⟨⟨q1, q2, q3, q4⟩, q5⟩ := hq
        obtain ⟨g1, g2⟩ := wlk_cons (rt := rt) hx ho ⟨q1, q5, q3, q4⟩
        exact ⟨x :: q, ⟨⟨rfl, List.nodup_cons.mpr ⟨hm, q2⟩, g1.2.2.1, g1.2.2.2⟩, g1.2.1⟩, by omega⟩
def W00 (b : Nat) : Nat → Nat := fun x => if x = b then 0 else 1000000
def Wf (op : Nat → Nat → Bool) (rt : Nat → Nat → Nat) (b : Nat) : Nat → Nat := rout op rt (W00 b) 4
theorem Wf_snd (hb : b < 5) : SndW op rt b (Wf op rt b) := by
  refine rout_snd (fun x hx => ?_) 4
  unfold W00
  split
  · next h => subst h; exact ⟨by omega, Or.inr ⟨[x], ⟨rfl, rfl, by simpa using hx, trivial⟩, rfl⟩⟩
  · exact ⟨by omega, Or.inl rfl⟩
theorem Wf_way {x : Nat} {p : List Nat} (hx : x < 5) (h : Way op x b p) : Wf op rt b x ≤ wt rt p :=
  rout_cmp (by simp [W00]) 4 x p hx ⟨h.1.1, h.2, h.1.2.2.1, h.1.2.2.2⟩ (by have := way_len h; omega)
theorem Wf_wlk {x : Nat} {p : List Nat} (hx : x < 5) (h : Wlk op x b p) : Wf op rt b x ≤ wt rt p := by
  obtain ⟨q, h1, h2⟩ := wlk_way (rt := rt) p.length x p (Nat.le_refl _) hx h
  exact Nat.le_trans (Wf_way hx h1) h2
theorem Wf_tri (hb : b < 5) {x n : Nat} (hx : x < 5) (hn : n < 5) (ho : op x n = true) : Wf op rt b x ≤ Wf op rt b n + rt x n * 8 + 1 := by
  rcases (Wf_snd (op := op) (rt := rt) hb n hn).2 with e | ⟨p, hp, e⟩
  · have := (Wf_snd (op := op) (rt := rt) hb x hx).1
    omega
  · obtain ⟨g1, g2⟩ := wlk_cons (rt := rt) hx ho hp
    have := Wf_wlk (rt := rt) hx g1
    omega
/-- from a carrier that has a way and is not the last there is a next one -/
theorem Wf_next (hb : b < 5) {x : Nat} (hx : x < 5) (hw : Wf op rt b x < 1000000) (hne : x ≠ b) : ∃ n, n < 5 ∧ op x n = true ∧ Wf op rt b n + rt x n * 8 + 1 = Wf op rt b x := by
  rcases (Wf_snd (op := op) (rt := rt) hb x hx).2 with e | ⟨p, hp, e⟩
  · omega
  · rcases wlk_step (rt := rt) hp with ⟨-, h⟩ | ⟨n, z, rfl, ho, hn, hz, e2⟩
    · exact absurd h hne
    · have h1 := Wf_wlk (rt := rt) hn hz
      have h2 := Wf_tri (rt := rt) hb hx hn ho
      exact ⟨n, hn, ho, by omega⟩
theorem Wf_zero (hb : b < 5) {x : Nat} (hx : x < 5) (h : Wf op rt b x = 0) : x = b := by
  rcases (Wf_snd (op := op) (rt := rt) hb x hx).2 with e | ⟨p, hp, e⟩
  · omega
  · rcases wlk_step (rt := rt) hp with ⟨-, h⟩ | ⟨n, z, rfl, ho, hn, hz, e2⟩
    · exact h
    · omega
theorem Wf_b : Wf op rt b b = 0 := by
  have : rout op rt (W00 b) 4 b ≤ W00 b b := by
    have H : ∀ d, rout op rt (W00 b) d b ≤ W00 b b := by
      intro d
      induction d with
      | zero => exact Nat.le_refl _
      | succ d ih => exact Nat.le_trans (rmid_le _ _ _) ih
    exact H 4
  have e : W00 b b = 0 := by simp [W00]
  show rout op rt (W00 b) 4 b = 0
  omega
end BF2
