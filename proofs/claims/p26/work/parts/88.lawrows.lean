section LAWROWS
variable {D : va_G} {cy : Nat → ClassId} {lo : Nat} {p : Program} {l : Launch} {e : Env} {s : State} {m : MethodId} {args : Array Value} {below : List Frame} {meth : Method} {c : Code} {cells slots : Nat} {Q : State → Prop} {R : List Nat} {ad : Nat → Nat} {b : Nat} {q : Nat → Nat → Nat} {ns nt T : Nat} {I : Nat → Nat → Int32} {J : Nat → Nat → Int64}
/-- the law's locals at its loop -/
abbrev k_LV (ad : Nat → Nat) (b turn : Nat) : List (Nat × Value) := [(9, .int (nI turn)), (8, .ref (ad 18)), (7, .ref (ad 17)), (6, .ref (ad 16)), (5, .ref (ad 15)), (4, .ref (ad 14)), (3, .ref (ad 13)), (2, .ref (ad 12)), (1, .ref (ad 0)), (0, .ref b)]
theorem isWi_n {a b j : Nat} (h1 : a ≤ j) (h2 : j ≤ b) (hb : b < 2 ^ 31) : isWi (nI j) (nI a) (nI b) = true := by
  rw [isWi, Bool.and_eq_true, Bool.not_eq_true', Bool.not_eq_true', decide_eq_false_iff_not, decide_eq_false_iff_not]
  exact ⟨nI_nlt h1 (by omega), nI_nlt h2 (by omega)⟩
set_option maxHeartbeats 4000000 in
set_option maxRecDepth 100000 in
/-- behind an act: the comparison -/
theorem law_tail (hfl : l.stackTraces = false) (F : k_F p m c cL_law 20 s RL D cy lo) (hL : k_RL R ns nt) (h : SR q ns nt T I J I J) {turn f : Nat} (hf : f < 5) (hc : cells + 294 ≤ 600104) (hs : slots + 1764 ≤ 7301314)
    (K : ∀ I2 : Nat → Nat → Int32, SR q ns nt T I2 J I2 J → XW D lo p l e room_1 s m args below meth c 20 (cells + 294) (slots + 1764) Q R ad (k_c cy ad q ns nt I2 J) 1344 (k_LV ad b turn) []) :
    XW D lo p l e room_1 s m args below meth c 20 cells slots Q R ad (k_c cy ad q ns nt I J) 1323 ((13, .int (nI f)) :: k_LV ad b turn) [] := by
  have hR := hL.1
  refine x_aload_n F dL_law_1323 rfl 9 rfl ?_
  refine x_aload_n F dL_law_1324 rfl 8 rfl ?_
  refine x_aload_n F dL_law_1325 rfl 7 rfl ?_
  refine x_aload F dL_law_1326 6 rfl ?_
  refine x_aload F dL_law_1328 4 rfl ?_
  refine x_aload F dL_law_1330 3 rfl ?_
  refine x_aload F dL_law_1332 2 rfl ?_
  refine x_iload F dL_law_1334 0 rfl ?_
  refine x_callSi F [.ref (ad 0), .ref (ad 12), .ref (ad 13), .ref (ad 14), .ref (ad 16), .ref (ad 17), .ref (ad 18), .int (nI f)] (c_L_same l D cy lo R ad q ns nt T I J hL hfl f hf h) mc_L_same ms_L_same lk_L_131 rfl rfl dL_law_1336 ⟨Nat.le_of_ble_eq_true rfl, Nat.le_of_ble_eq_true rfl⟩ ⟨by show cells + 294 ≤ 600104; omega, by show slots + 1764 ≤ 7301314; omega⟩ (Nat.le_of_ble_eq_true rfl) (fun r9 u9 hp9 => ?_)
  obtain ⟨rfl, I2, hI2, rfl⟩ := hp9
  dsimp only
  refine x_if_ne F 1344 dL_law_1339 (by decide) (fun h1339 => ?_) (fun h1339 => ?_)
  · refine x_sub [1, 2, 3, 4, 5, 6, 7, 8, 9, 10] rfl ?_
    exact K I2 (h.scr hI2)
  · exact False.elim (by revert h1339; decide)
end LAWROWS
