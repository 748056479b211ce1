section ENV
theorem arr_P {s : State} {t : FieldType} (h : (Cond.arrayClass t).before #[] s = true) (ht : va_RA s 0 t = (s.vm.findClass ("[" ++ t.toString) = some 0)) : ∃ cA : ClassId, s.vm.findClass ("[" ++ t.toString) = some cA ∧ ArrOfT s cA t := by
  obtain ⟨c, k, comp, h1, h2, h3⟩ := Cond.arrayClass_spec h
  exact ⟨c, h1, fun n z => ⟨fun k h => (by cases h), k, h2, comp, h3⟩⟩
theorem arr_O {s : State} {C : String} (h : (Cond.arrayOver (.object C)).before #[] s = true) : ∃ cA : ClassId, ArrOfT s cA (.object C) ∧ va_RA s cA (.object C) := by
  obtain ⟨comp, c, k, h1, h2, h3, h4, h5⟩ := Cond.arrayOver_spec h
  exact ⟨c, fun n z => ⟨fun k h => (by cases h), k, h3, comp, h4⟩, k, comp, h3, h4, h1, h5⟩
theorem env_str {s : State} {own tx : String} {k : Nat} {A : Array Value} (h : (Cond.stringRef own k tx).before A s = true) : ∃ a, vk_R own k tx a s := by
  have h0 : (Cond.stringRef own k tx).before #[] s = true := by first | exact h | (simp only [Cond.before, Cond.holds, Cond.value] at h ⊢; exact h)
  have hcur : ∃ cur, s.vm.findClass own = some cur := by
    have h1 := h0
    simp only [Cond.before, Cond.holds, Cond.value] at h1
    cases hc : s.vm.findClass own with
    | none => simp [hc] at h1
    | some cur => exact ⟨cur, rfl⟩
  obtain ⟨cur, hcur⟩ := hcur
  obtain ⟨k', cf, i, a, -, -, -, -, -, h9⟩ := Cond.stringRef_spec hcur h0
  exact ⟨a, vk_R.of h0 h9⟩
set_option maxRecDepth 100000 in
set_option maxHeartbeats 4000000 in
theorem env_0 {s : State} {b : Nat} (hts : ∀ w ∈ lw_tbl, w.before #[Value.ref b] s = true) (hgv : (Jvm.Cond.and given_1 narrow_1).before #[Value.ref b] s = true) : ∃ (D : va_G) (cy : Nat → ClassId), k_Ev D cy s.heap.size s := by
  have hfl := flat_of_before _ hgv
  obtain ⟨c0, i0, hK0⟩ := u_known (C := RX0) (T := TX0) (N := 4) (n := 4) hts (by decide +kernel) (hts _ (by decide +kernel))
  obtain ⟨c1, i1, hK1⟩ := u_known (C := RX1) (T := TX1) (N := 2) (n := 2) hts (by decide +kernel) (hts _ (by decide +kernel))
  obtain ⟨c2, i2, hK2⟩ := u_known (C := RX2) (T := TX2) (N := 4) (n := 4) hts (by decide +kernel) (hts _ (by decide +kernel))
  obtain ⟨c3, i3, hK3⟩ := u_known (C := RX3) (T := TX3) (N := 9) (n := 9) hts (by decide +kernel) (hts _ (by decide +kernel))
  obtain ⟨c4, i4, hK4⟩ := u_known (C := RX4) (T := TX4) (N := 8) (n := 8) hts (by decide +kernel) (hts _ (by decide +kernel))
  have hw : ∀ t : FieldType, Cond.arrayClass t ∈ lw_tbl → (Cond.arrayClass t).before #[] s = true := fun t ht => word_at (State.WarmedH.refl s) (Or.inr ⟨t, rfl⟩) (hts _ ht)
  have hv : ∀ C : String, Cond.arrayOver (.object C) ∈ lw_tbl → va_AO C s := fun C hC => va_AO.of (hts _ hC)
  have hS := hv RX2 (by decide +kernel)
  have hT := hv RX3 (by decide +kernel)
  obtain ⟨y0, a0, b0⟩ := arr_P (hw .int (by decide +kernel)) rfl
  obtain ⟨y1, a1, b1⟩ := arr_P (hw .long (by decide +kernel)) rfl
  obtain ⟨y3, a3, b3⟩ := arr_O (va_AO.use (A := #[]) hS)
  obtain ⟨y4, a4, b4⟩ := arr_O (va_AO.use (A := #[]) hT)
  refine ⟨(fun k => if k = 0 then c0 else if k = 1 then c1 else if k = 2 then c2 else if k = 3 then c3 else c4, fun k => if k = 0 then i0 else if k = 1 then i1 else if k = 2 then i2 else if k = 3 then i3 else i4), fun k => if k = 0 then y0 else if k = 1 then y1 else if k = 2 then y0 else if k = 3 then y3 else y4, ?_, ⟨?_, hS, hT⟩, ?_, ⟨?_, ?_⟩, ⟨?_, ?_⟩, ?_, Nat.le_refl _⟩
  · exact fun w hw hg => word_at (State.WarmedH.refl s) (good_of_word hg) (hts w hw)
  · intro w hw hn
    have h9 := hts w hw
    cases w <;> first | exact va_Nw.of rfl h9 | (simp [k_nest] at hn)
  · exact fun own k tx ht => env_str (hts _ ht)
  · intro k q hq
    match k, hq with
    | 0, hq => cases hq; exact hK0
    | 1, hq => cases hq; exact hK1
    | 2, hq => cases hq; exact hK2
    | 3, hq => cases hq; exact hK3
    | 4, hq => cases hq; exact hK4
    | k + 5, hq => simp [vwCl] at hq
  · intro k q hq
    match k, hq with
    | 0, hq => cases hq; exact ⟨b0, a0⟩
    | 1, hq => cases hq; exact ⟨b1, a1⟩
    | 2, hq => cases hq; exact ⟨b0, a0⟩
    | 3, hq => cases hq; exact ⟨a3, b3⟩
    | 4, hq => cases hq; exact ⟨a4, b4⟩
    | k + 5, hq => simp [k_tys] at hq
  · exact vx_Zqof (hts _ (by decide +kernel)) (hts _ (by decide +kernel)) (hfl _ (by decide +kernel)) (fun a ha h => absurd h (Nat.not_le.mpr ha))
  · exact vx_Zqof (hts _ (by decide +kernel)) (hts _ (by decide +kernel)) (hfl _ (by decide +kernel)) (fun a ha h => absurd h (Nat.not_le.mpr ha))
  · intro q hq
    simp only [k_ncs, List.mem_cons, List.not_mem_nil, or_false] at hq
    rcases hq with rfl | rfl | rfl
    · exact va_Nc.of (hfl _ (by decide +kernel))
    · exact va_Nc.of (hfl _ (by decide +kernel))
    · exact va_Nc.of (hfl _ (by decide +kernel))
end ENV
