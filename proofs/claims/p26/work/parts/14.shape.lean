/-! What each role holds: 0 .. 12 of RoamLedger (0 the object, 1 steps, 2 prices, 3 network, 4 subscribers, 5 talks, 6 asked, 7 its carriers, 8 rates, 9 trusts, 10 debts, 11 weights) ; 12 .. 18 of the law (12 l, 13 c, 14 d, 15 t, 16 n, 17 k, 18 g); from 40 on a subscriber and its chain, two and two; from 80 on a talk, its route, the carriers, the charges, four and four. f holds a role's ints (fields by their slots), g its longs; q r 0 and q r 1 the caller and the called of the talk r. -/
def k_fx (cy : Nat → ClassId) (ad : Nat → Nat) (q : Nat → Nat → Nat) (ns nt : Nat) (f : Nat → Int32) (g : Nat → Int64) : List va_E := [
  Sum.inr (4, [.ref (ad 1), .ref (ad 2), .ref (ad 3), .ref (ad 4), .ref (ad 5), .ref (ad 6), .int (f 6), .int (f 7)]),
  Sum.inl (cy 0, (5, Sum.inl f)),
  Sum.inl (cy 0, (5, Sum.inl f)),
  Sum.inr (0, [.ref (ad 8), .ref (ad 9), .ref (ad 10), .ref (ad 11)]),
  Sum.inl (cy 3, (20, Sum.inr (Sum.inr (Sum.inr (Sum.inr (fun i => if i < ns then some (ad (40 + 2 * i)) else none)))))),
  Sum.inl (cy 4, (60, Sum.inr (Sum.inr (Sum.inr (Sum.inr (fun j => if j < nt then some (ad (80 + 4 * j)) else none)))))),
  Sum.inr (1, [.ref (ad 7), .int (f 1)]),
  Sum.inl (cy 0, (5, Sum.inl f)),
  Sum.inl (cy 0, (25, Sum.inl f)),
  Sum.inl (cy 0, (25, Sum.inl f)),
  Sum.inl (cy 1, (25, Sum.inr (Sum.inl g))),
  Sum.inl (cy 0, (5, Sum.inl f)),
  Sum.inl (cy 0, (50, Sum.inl f)),
  Sum.inl (cy 1, (25, Sum.inr (Sum.inl g))),
  Sum.inl (cy 1, (25, Sum.inr (Sum.inl g))),
  Sum.inl (cy 0, (10, Sum.inl f)),
  Sum.inl (cy 0, (32, Sum.inl f)),
  Sum.inl (cy 0, (56, Sum.inl f)),
  Sum.inl (cy 0, (2, Sum.inl f))]
def k_sh (cy : Nat → ClassId) (ad : Nat → Nat) (q : Nat → Nat → Nat) (ns nt : Nat) (r : Nat) (f : Nat → Int32) (g : Nat → Int64) : va_E :=
  if r < 40 then (k_fx cy ad q ns nt f g).getD r (Sum.inr (6, [])) else if r < 80 then (if r % 2 = 0 then Sum.inr (2, [.ref (ad (r + 1)), .int (f 1), .int (f 2), .int (f 3)]) else Sum.inl (cy 0, (10, Sum.inl f)))
  else if r % 4 = 0 then Sum.inr (3, [.ref (ad (40 + 2 * q r 0)), .ref (ad (40 + 2 * q r 1)), .int (f 2), .int (f 3), .ref (ad (r + 1)), .ref (ad (r + 3)), .int (f 6), .int (f 7), .int (f 8)]) else if r % 4 = 1 then Sum.inr (1, [.ref (ad (r + 1)), .int (f 1)]) else if r % 4 = 2 then Sum.inl (cy 0, (5, Sum.inl f)) else Sum.inl (cy 1, (25, Sum.inr (Sum.inl g)))
def k_c (cy : Nat → ClassId) (ad : Nat → Nat) (q : Nat → Nat → Nat) (ns nt : Nat) (I : Nat → Nat → Int32) (J : Nat → Nat → Int64) : Nat → va_E := fun r => k_sh cy ad q ns nt r (I r) (J r)
section KSHAPE
variable {cy : Nat → ClassId} {ad : Nat → Nat} {q : Nat → Nat → Nat} {ns nt : Nat} {I : Nat → Nat → Int32} {J : Nat → Nat → Int64} {r : Nat}
theorem ss_0 (f : Nat → Int32) (g : Nat → Int64) : k_sh cy ad q ns nt 0 f g = Sum.inr (4, [.ref (ad 1), .ref (ad 2), .ref (ad 3), .ref (ad 4), .ref (ad 5), .ref (ad 6), .int (f 6), .int (f 7)]) := rfl
theorem ss_1 (f : Nat → Int32) (g : Nat → Int64) : k_sh cy ad q ns nt 1 f g = Sum.inl (cy 0, (5, Sum.inl f)) := rfl
theorem ss_2 (f : Nat → Int32) (g : Nat → Int64) : k_sh cy ad q ns nt 2 f g = Sum.inl (cy 0, (5, Sum.inl f)) := rfl
theorem ss_3 (f : Nat → Int32) (g : Nat → Int64) : k_sh cy ad q ns nt 3 f g = Sum.inr (0, [.ref (ad 8), .ref (ad 9), .ref (ad 10), .ref (ad 11)]) := rfl
theorem ss_4 (f : Nat → Int32) (g : Nat → Int64) : k_sh cy ad q ns nt 4 f g = Sum.inl (cy 3, (20, Sum.inr (Sum.inr (Sum.inr (Sum.inr (fun i => if i < ns then some (ad (40 + 2 * i)) else none)))))) := rfl
theorem ss_5 (f : Nat → Int32) (g : Nat → Int64) : k_sh cy ad q ns nt 5 f g = Sum.inl (cy 4, (60, Sum.inr (Sum.inr (Sum.inr (Sum.inr (fun j => if j < nt then some (ad (80 + 4 * j)) else none)))))) := rfl
theorem ss_6 (f : Nat → Int32) (g : Nat → Int64) : k_sh cy ad q ns nt 6 f g = Sum.inr (1, [.ref (ad 7), .int (f 1)]) := rfl
theorem ss_7 (f : Nat → Int32) (g : Nat → Int64) : k_sh cy ad q ns nt 7 f g = Sum.inl (cy 0, (5, Sum.inl f)) := rfl
theorem ss_8 (f : Nat → Int32) (g : Nat → Int64) : k_sh cy ad q ns nt 8 f g = Sum.inl (cy 0, (25, Sum.inl f)) := rfl
theorem ss_9 (f : Nat → Int32) (g : Nat → Int64) : k_sh cy ad q ns nt 9 f g = Sum.inl (cy 0, (25, Sum.inl f)) := rfl
theorem ss_10 (f : Nat → Int32) (g : Nat → Int64) : k_sh cy ad q ns nt 10 f g = Sum.inl (cy 1, (25, Sum.inr (Sum.inl g))) := rfl
theorem ss_11 (f : Nat → Int32) (g : Nat → Int64) : k_sh cy ad q ns nt 11 f g = Sum.inl (cy 0, (5, Sum.inl f)) := rfl
theorem ss_12 (f : Nat → Int32) (g : Nat → Int64) : k_sh cy ad q ns nt 12 f g = Sum.inl (cy 0, (50, Sum.inl f)) := rfl
theorem ss_13 (f : Nat → Int32) (g : Nat → Int64) : k_sh cy ad q ns nt 13 f g = Sum.inl (cy 1, (25, Sum.inr (Sum.inl g))) := rfl
theorem ss_14 (f : Nat → Int32) (g : Nat → Int64) : k_sh cy ad q ns nt 14 f g = Sum.inl (cy 1, (25, Sum.inr (Sum.inl g))) := rfl
theorem ss_15 (f : Nat → Int32) (g : Nat → Int64) : k_sh cy ad q ns nt 15 f g = Sum.inl (cy 0, (10, Sum.inl f)) := rfl
theorem ss_16 (f : Nat → Int32) (g : Nat → Int64) : k_sh cy ad q ns nt 16 f g = Sum.inl (cy 0, (32, Sum.inl f)) := rfl
theorem ss_17 (f : Nat → Int32) (g : Nat → Int64) : k_sh cy ad q ns nt 17 f g = Sum.inl (cy 0, (56, Sum.inl f)) := rfl
theorem ss_18 (f : Nat → Int32) (g : Nat → Int64) : k_sh cy ad q ns nt 18 f g = Sum.inl (cy 0, (2, Sum.inl f)) := rfl
theorem sc_0 : k_c cy ad q ns nt I J 0 = Sum.inr (4, [.ref (ad 1), .ref (ad 2), .ref (ad 3), .ref (ad 4), .ref (ad 5), .ref (ad 6), .int (I 0 6), .int (I 0 7)]) := rfl
theorem sc_1 : k_c cy ad q ns nt I J 1 = Sum.inl (cy 0, (5, Sum.inl (I 1))) := rfl
theorem sc_2 : k_c cy ad q ns nt I J 2 = Sum.inl (cy 0, (5, Sum.inl (I 2))) := rfl
theorem sc_3 : k_c cy ad q ns nt I J 3 = Sum.inr (0, [.ref (ad 8), .ref (ad 9), .ref (ad 10), .ref (ad 11)]) := rfl
theorem sc_4 : k_c cy ad q ns nt I J 4 = Sum.inl (cy 3, (20, Sum.inr (Sum.inr (Sum.inr (Sum.inr (fun i => if i < ns then some (ad (40 + 2 * i)) else none)))))) := rfl
theorem sc_5 : k_c cy ad q ns nt I J 5 = Sum.inl (cy 4, (60, Sum.inr (Sum.inr (Sum.inr (Sum.inr (fun j => if j < nt then some (ad (80 + 4 * j)) else none)))))) := rfl
theorem sc_6 : k_c cy ad q ns nt I J 6 = Sum.inr (1, [.ref (ad 7), .int (I 6 1)]) := rfl
theorem sc_7 : k_c cy ad q ns nt I J 7 = Sum.inl (cy 0, (5, Sum.inl (I 7))) := rfl
theorem sc_8 : k_c cy ad q ns nt I J 8 = Sum.inl (cy 0, (25, Sum.inl (I 8))) := rfl
theorem sc_9 : k_c cy ad q ns nt I J 9 = Sum.inl (cy 0, (25, Sum.inl (I 9))) := rfl
theorem sc_10 : k_c cy ad q ns nt I J 10 = Sum.inl (cy 1, (25, Sum.inr (Sum.inl (J 10)))) := rfl
theorem sc_11 : k_c cy ad q ns nt I J 11 = Sum.inl (cy 0, (5, Sum.inl (I 11))) := rfl
theorem sc_12 : k_c cy ad q ns nt I J 12 = Sum.inl (cy 0, (50, Sum.inl (I 12))) := rfl
theorem sc_13 : k_c cy ad q ns nt I J 13 = Sum.inl (cy 1, (25, Sum.inr (Sum.inl (J 13)))) := rfl
theorem sc_14 : k_c cy ad q ns nt I J 14 = Sum.inl (cy 1, (25, Sum.inr (Sum.inl (J 14)))) := rfl
theorem sc_15 : k_c cy ad q ns nt I J 15 = Sum.inl (cy 0, (10, Sum.inl (I 15))) := rfl
theorem sc_16 : k_c cy ad q ns nt I J 16 = Sum.inl (cy 0, (32, Sum.inl (I 16))) := rfl
theorem sc_17 : k_c cy ad q ns nt I J 17 = Sum.inl (cy 0, (56, Sum.inl (I 17))) := rfl
theorem sc_18 : k_c cy ad q ns nt I J 18 = Sum.inl (cy 0, (2, Sum.inl (I 18))) := rfl
theorem ss_sub (h : 40 ≤ r ∧ r < 80 ∧ r % 2 = 0) (f : Nat → Int32) (g : Nat → Int64) : k_sh cy ad q ns nt r f g = Sum.inr (2, [.ref (ad (r + 1)), .int (f 1), .int (f 2), .int (f 3)]) := by
  rw [k_sh, if_neg (by omega), if_pos (by omega), if_pos (by omega)]
theorem sc_sub (h : 40 ≤ r ∧ r < 80 ∧ r % 2 = 0) : k_c cy ad q ns nt I J r = Sum.inr (2, [.ref (ad (r + 1)), .int (I r 1), .int (I r 2), .int (I r 3)]) := ss_sub h _ _
theorem ss_chn (h : 40 ≤ r ∧ r < 80 ∧ r % 2 = 0) (f : Nat → Int32) (g : Nat → Int64) : k_sh cy ad q ns nt (r + 1) f g = Sum.inl (cy 0, (10, Sum.inl f)) := by
  rw [k_sh, if_neg (by omega), if_pos (by omega), if_neg (by omega)]
theorem sc_chn (h : 40 ≤ r ∧ r < 80 ∧ r % 2 = 0) : k_c cy ad q ns nt I J (r + 1) = Sum.inl (cy 0, (10, Sum.inl (I (r + 1)))) := ss_chn h _ _
theorem ss_tlk (h : 80 ≤ r ∧ r % 4 = 0) (f : Nat → Int32) (g : Nat → Int64) : k_sh cy ad q ns nt r f g = Sum.inr (3, [.ref (ad (40 + 2 * q r 0)), .ref (ad (40 + 2 * q r 1)), .int (f 2), .int (f 3), .ref (ad (r + 1)), .ref (ad (r + 3)), .int (f 6), .int (f 7), .int (f 8)]) := by
  rw [k_sh, if_neg (by omega), if_neg (by omega), if_pos (by omega)]
theorem sc_tlk (h : 80 ≤ r ∧ r % 4 = 0) : k_c cy ad q ns nt I J r = Sum.inr (3, [.ref (ad (40 + 2 * q r 0)), .ref (ad (40 + 2 * q r 1)), .int (I r 2), .int (I r 3), .ref (ad (r + 1)), .ref (ad (r + 3)), .int (I r 6), .int (I r 7), .int (I r 8)]) := ss_tlk h _ _
theorem ss_trt (h : 80 ≤ r ∧ r % 4 = 0) (f : Nat → Int32) (g : Nat → Int64) : k_sh cy ad q ns nt (r + 1) f g = Sum.inr (1, [.ref (ad (r + 2)), .int (f 1)]) := by
  rw [k_sh, if_neg (by omega), if_neg (by omega), if_neg (by omega), if_pos (by omega)]
theorem sc_trt (h : 80 ≤ r ∧ r % 4 = 0) : k_c cy ad q ns nt I J (r + 1) = Sum.inr (1, [.ref (ad (r + 2)), .int (I (r + 1) 1)]) := ss_trt h _ _
theorem ss_trc (h : 80 ≤ r ∧ r % 4 = 0) (f : Nat → Int32) (g : Nat → Int64) : k_sh cy ad q ns nt (r + 2) f g = Sum.inl (cy 0, (5, Sum.inl f)) := by
  rw [k_sh, if_neg (by omega), if_neg (by omega), if_neg (by omega), if_neg (by omega), if_pos (by omega)]
theorem sc_trc (h : 80 ≤ r ∧ r % 4 = 0) : k_c cy ad q ns nt I J (r + 2) = Sum.inl (cy 0, (5, Sum.inl (I (r + 2)))) := ss_trc h _ _
theorem ss_chg (h : 80 ≤ r ∧ r % 4 = 0) (f : Nat → Int32) (g : Nat → Int64) : k_sh cy ad q ns nt (r + 3) f g = Sum.inl (cy 1, (25, Sum.inr (Sum.inl g))) := by
  rw [k_sh, if_neg (by omega), if_neg (by omega), if_neg (by omega), if_neg (by omega), if_neg (by omega)]
theorem sc_chg (h : 80 ≤ r ∧ r % 4 = 0) : k_c cy ad q ns nt I J (r + 3) = Sum.inl (cy 1, (25, Sum.inr (Sum.inl (J (r + 3))))) := ss_chg h _ _
theorem ss_rte (h : r = 6 ∨ (80 ≤ r ∧ r % 4 = 1)) (f : Nat → Int32) (g : Nat → Int64) : k_sh cy ad q ns nt r f g = Sum.inr (1, [.ref (ad (r + 1)), .int (f 1)]) := by
  rcases h with rfl | ⟨h1, h2⟩
  · rfl
  · rw [k_sh, if_neg (by omega), if_neg (by omega)]
    rw [if_neg (by omega), if_pos h2]
theorem sc_rte (h : r = 6 ∨ (80 ≤ r ∧ r % 4 = 1)) : k_c cy ad q ns nt I J r = Sum.inr (1, [.ref (ad (r + 1)), .int (I r 1)]) := ss_rte h _ _
theorem ss_rtc (h : r = 6 ∨ (80 ≤ r ∧ r % 4 = 1)) (f : Nat → Int32) (g : Nat → Int64) : k_sh cy ad q ns nt (r + 1) f g = Sum.inl (cy 0, (5, Sum.inl f)) := by
  rcases h with rfl | ⟨h1, h2⟩
  · rfl
  · rw [k_sh, if_neg (by omega), if_neg (by omega)]
    rw [if_neg (by omega), if_neg (by omega), if_pos (by omega)]
theorem sc_rtc (h : r = 6 ∨ (80 ≤ r ∧ r % 4 = 1)) : k_c cy ad q ns nt I J (r + 1) = Sum.inl (cy 0, (5, Sum.inl (I (r + 1)))) := ss_rtc h _ _
theorem k_upI {e : va_E} (f : Nat → Int32) (h : e = k_sh cy ad q ns nt r f (J r)) : va_up (k_c cy ad q ns nt I J) r e = k_c cy ad q ns nt (va_up I r f) J := by
  funext x
  by_cases hx : x = r
  · subst hx
    simp [va_up, k_c, h]
  · simp [va_up, k_c, hx]
theorem k_upJ {e : va_E} (g : Nat → Int64) (h : e = k_sh cy ad q ns nt r (I r) g) : va_up (k_c cy ad q ns nt I J) r e = k_c cy ad q ns nt I (va_up J r g) := by
  funext x
  by_cases hx : x = r
  · subst hx
    simp [va_up, k_c, h]
  · simp [va_up, k_c, hx]
end KSHAPE
