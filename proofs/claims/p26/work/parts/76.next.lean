section NX
variable {op : Nat → Nat → Bool} {rt : Nat → Nat → Nat} {b : Nat} {I : Nat → Nat → Int32} {J : Nat → Nat → Int64}
theorem cond_iff {W : Nat → Nat} {x k : Nat} (hg : GC I J op rt) (hW : RepW I W) (hx : x < 5) (hk : k < 5) : condF I J (nI x) k = true ↔ (op x k = true ∧ W k + rt x k * 8 + 1 = W x) := by
  have hb := (hW x hx).2
  rw [condF, (hg x k hx hk).1, car_of hx]
  cases ho : op x k with
  | false => simp
  | true =>
    obtain ⟨e1, e2⟩ := over_rep hg hW hx hk ho
    rw [e1, nI_clamp (by omega), (hW x hx).1]
    simp only [Bool.true_and, Bool.and_true, decide_eq_true_eq, true_and]
    exact nI_eq e2 (by omega)
theorem nextG_low {a : Int32} : ∀ d k, d + k = 5 → (∀ m, m < k → condF I J a m = false) → (∃ n, n < 5 ∧ condF I J a n = true) → ∃ n, n < 5 ∧ nextG I J a d k = nI n ∧ condF I J a n = true ∧ ∀ m, m < n → condF I J a m = false := by
  intro d
  induction d with
  | zero =>
    intro k hk hm ⟨n, hn, hc⟩
    rw [hm n (by omega)] at hc
    cases hc
  | succ d ih =>
    intro k hk hm he
    cases hc : condF I J a k with
    | true => exact ⟨k, by omega, by rw [nextG, if_pos hc], hc, hm⟩
    | false =>
      obtain ⟨n, h1, h2, h3⟩ := ih (k + 1) (by omega) (fun m h => by
        by_cases e : m = k
        · rw [e]; exact hc
        · exact hm m (by omega)) he
      exact ⟨n, h1, by rw [nextG, if_neg (by rw [hc]; decide)]; exact h2, h3⟩
theorem next_rep {x : Nat} (hg : GC I J op rt) (hW : RepW I (Wf op rt b)) (hb : b < 5) (hx : x < 5) (hne : x ≠ b) (hw : Wf op rt b x < 1000000) : ∃ n, n < 5 ∧ nextF I J (nI x) = nI n ∧ op x n = true ∧ Wf op rt b n + rt x n * 8 + 1 = Wf op rt b x ∧ ∀ m, m < n → ¬ (op x m = true ∧ Wf op rt b m + rt x m * 8 + 1 = Wf op rt b x) := by
  obtain ⟨n0, h1, h2, h3⟩ := Wf_next (rt := rt) hb hx hw hne
  obtain ⟨n, g1, g2, g3, g4⟩ := nextG_low (I := I) (J := J) (a := nI x) 5 0 rfl (fun m h => absurd h (Nat.not_lt_zero _)) ⟨n0, h1, (cond_iff hg hW hx h1).mpr ⟨h2, h3⟩⟩
  obtain ⟨g5, g6⟩ := (cond_iff hg hW hx g1).mp g3
  refine ⟨n, g1, g2, g5, g6, fun m hm hc => ?_⟩
  have := g4 m hm
  rw [(cond_iff hg hW hx (by omega)).mpr hc] at this
  cases this
end NX
