section BR
variable {op : Nat → Nat → Bool} {rt : Nat → Nat → Nat} {b : Nat} {I : Nat → Nat → Int32} {J : Nat → Nat → Int64}
/-- the class's links, as the pure theory reads them -/
def GC (I : Nat → Nat → Int32) (J : Nat → Nat → Int64) (op : Nat → Nat → Bool) (rt : Nat → Nat → Nat) : Prop :=
  ∀ x y, x < 5 → y < 5 → openF I J (nI x) (nI y) = op x y ∧ (op x y = true → rateF I (nI x) (nI y) = nI (rt x y) ∧ rt x y ≤ 100)
def RepW (I : Nat → Nat → Int32) (W : Nat → Nat) : Prop := ∀ x, x < 5 → I 11 x = nI (W x) ∧ W x ≤ 1000000
theorem GC.eq {I' : Nat → Nat → Int32} (h : GC I J op rt) (h8 : I' 8 = I 8) (h9 : I' 9 = I 9) : GC I' J op rt := by
  intro x y hx hy
  obtain ⟨h1, h2⟩ := h x y hx hy
  refine ⟨by rw [← h1]; unfold openF; rw [h8, h9], fun ho => ?_⟩
  have := h2 ho
  unfold rateF at this ⊢
  rw [h8]
  exact this
theorem relax_row (f n r : Nat) (h : r ≠ 11) : relaxI I J f n r = I r := funext fun k => relax_other h
theorem over_rep {W : Nat → Nat} {x n : Nat} (hg : GC I J op rt) (hW : RepW I W) (hx : x < 5) (hn : n < 5) (ho : op x n = true) : overF I (nI x) (nI n) = nI (W n + rt x n * 8 + 1) ∧ W n + rt x n * 8 + 1 < 2 ^ 31 := by
  obtain ⟨h1, h2⟩ := (hg x n hx hn).2 ho
  have h3 := hW n hn
  refine ⟨?_, by omega⟩
  rw [overF, car_of hn, if_pos rfl, nI_clamp (by omega), h3.1, h1, show (8 : Int32) = nI 8 from rfl, pk_mul, nI_add, nI_1]
theorem relax_rep {W : Nat → Nat} {f n : Nat} (hg : GC I J op rt) (hW : RepW I W) (hf : f < 5) (hn : n < 5) : RepW (relaxI I J f n) (rlx op rt f n W) ∧ GC (relaxI I J f n) J op rt := by
  refine ⟨fun x hx => ?_, hg.eq (relax_row f n 8 (by decide)) (relax_row f n 9 (by decide))⟩
  have hb := (hW x hx).2
  refine ⟨?_, Nat.le_trans (rlx_le _ _ _ _) hb⟩
  unfold relaxI rlx
  rw [(hg f n hf hn).1]
  cases ho : op f n with
  | false => simp [(hW x hx).1]
  | true =>
    obtain ⟨e1, e2⟩ := over_rep hg hW hf hn ho
    rw [if_pos rfl, nI_clamp (by omega), wI_eq, e1, (hW f hf).1]
    by_cases hxf : x = f
    · subst hxf
      rw [if_pos (show (11 : Nat) = 11 ∧ x = x from ⟨rfl, rfl⟩), if_pos (show true = true ∧ x = x from ⟨rfl, rfl⟩)]
      by_cases h : W n + rt x n * 8 + 1 < W x
      · rw [if_pos ((nI_ltI e2 (by omega)).mpr h), Nat.min_eq_right (Nat.le_of_lt h)]
      · rw [if_neg (fun h9 => h ((nI_ltI e2 (by omega)).mp h9)), Nat.min_eq_left (Nat.not_lt.mp h)]
    · rw [if_neg (fun h => hxf h.2), if_neg (fun h => hxf h.2)]
      exact (hW x hx).1
theorem inner_rep {W : Nat → Nat} {f : Nat} (hg : GC I J op rt) (hW : RepW I W) (hf : f < 5) : ∀ n, n ≤ 5 → RepW (innerI I J f n) (rin op rt f W n) ∧ GC (innerI I J f n) J op rt := by
  intro n
  induction n with
  | zero => intro _; exact ⟨hW, hg⟩
  | succ n ih =>
    intro hn
    obtain ⟨h1, h2⟩ := ih (by omega)
    exact relax_rep h2 h1 hf (by omega)
theorem mid_rep {W : Nat → Nat} (hg : GC I J op rt) (hW : RepW I W) : ∀ f, f ≤ 5 → RepW (midI I J f) (rmid op rt W f) ∧ GC (midI I J f) J op rt := by
  intro f
  induction f with
  | zero => intro _; exact ⟨hW, hg⟩
  | succ f ih =>
    intro hf
    obtain ⟨h1, h2⟩ := ih (by omega)
    exact inner_rep h2 h1 (by omega) 5 (by omega)
theorem out_rep {W : Nat → Nat} (hg : GC I J op rt) (hW : RepW I W) : ∀ d, RepW (outI I J d) (rout op rt W d) ∧ GC (outI I J d) J op rt := by
  intro d
  induction d with
  | zero => exact ⟨hW, hg⟩
  | succ d ih => exact mid_rep ih.2 ih.1 5 (by omega)
theorem weigh_rep (hg : GC I J op rt) (hb : b < 5) : RepW (weighI I J (nI b)) (Wf op rt b) ∧ GC (weighI I J (nI b)) J op rt := by
  have hw : weigh0 I (nI b) = wI (fillI I 11 5 1000000) 11 b 0 := by rw [weigh0, car_of hb, if_pos rfl, nI_clamp (by omega)]
  refine out_rep (I := weigh0 I (nI b)) (W := W00 b) (hg.eq ?_ ?_) ?_ 4
  · rw [hw]; funext k; rw [wI_eq, if_neg (by omega), fillI, if_neg (by omega)]
  · rw [hw]; funext k; rw [wI_eq, if_neg (by omega), fillI, if_neg (by omega)]
  · intro x hx
    rw [hw, wI_eq, W00]
    by_cases h : x = b
    · rw [if_pos ⟨rfl, h⟩, if_pos h]; exact ⟨rfl, by omega⟩
    · rw [if_neg (by omega), if_neg h, fillI, if_pos ⟨rfl, hx⟩]; exact ⟨rfl, by omega⟩
end BR
