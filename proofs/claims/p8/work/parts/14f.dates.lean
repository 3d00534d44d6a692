/-! Days. -/
theorem md_row {m x : Int} (hm : 1 ≤ m ∧ m ≤ 12) (e : (icod 1000201).getD (Int.toNat (m - 1)) 0 = x) : (m = 2 ∧ x = 28) ∨ ((m = 4 ∨ m = 6 ∨ m = 9 ∨ m = 11) ∧ x = 30) ∨ ((m = 1 ∨ m = 3 ∨ m = 5 ∨ m = 7 ∨ m = 8 ∨ m = 10 ∨ m = 12) ∧ x = 31) := by
  have e0 : icod 1000201 = [31, 28, 31, 30, 31, 30, 31, 31, 30, 31, 30, 31] := by rw [icod_eq]; decide +kernel
  rw [e0] at e
  rcases (show m = 1 ∨ m = 2 ∨ m = 3 ∨ m = 4 ∨ m = 5 ∨ m = 6 ∨ m = 7 ∨ m = 8 ∨ m = 9 ∨ m = 10 ∨ m = 11 ∨ m = 12 by omega) with rfl | rfl | rfl | rfl | rfl | rfl | rfl | rfl | rfl | rfl | rfl | rfl <;> first
    | exact Or.inl ⟨by decide, e.symm.trans (by decide)⟩
    | exact Or.inr (Or.inl ⟨by decide, e.symm.trans (by decide)⟩)
    | exact Or.inr (Or.inr ⟨by decide, e.symm.trans (by decide)⟩)
theorem mD_in (y m : Int) : 28 ≤ mD y m ∧ mD y m ≤ 31 := by
  unfold mD
  repeat' split
  all_goals omega
theorem numV_t {r : QB} {a b : Nat} (h : numOK r a b = true) : numV r a b = nv r a (b - a) := by
  rw [numV_eq]; unfold numV0
  rw [h]
theorem dg8 {r : QB} {a : Nat} : (List.range 8).all (fun i => isDg (r (a + i))) = (numOK r a (a + 4) && (numOK r (a + 4) (a + 6) && numOK r (a + 6) (a + 8))) := by
  rw [Bool.eq_iff_iff, List.all_eq_true, Bool.and_eq_true, Bool.and_eq_true]
  constructor
  · intro q
    refine ⟨numOK_of (by omega) (by omega) (fun i hi => q i (List.mem_range.mpr (by omega))), numOK_of (by omega) (by omega) (fun i hi => ?_), numOK_of (by omega) (by omega) (fun i hi => ?_)⟩
    · rw [show a + 4 + i = a + (4 + i) by omega]
      exact q _ (List.mem_range.mpr (by omega))
    · rw [show a + 6 + i = a + (6 + i) by omega]
      exact q _ (List.mem_range.mpr (by omega))
  · rintro ⟨q1, q2, q3⟩ i hi
    have hi := List.mem_range.mp hi
    by_cases c1 : i < 4
    · exact (numOK_dg q1).2 i (by omega)
    · by_cases c2 : i < 6
      · have q := (numOK_dg q2).2 (i - 4) (by omega)
        rw [show a + 4 + (i - 4) = a + i by omega] at q
        exact q
      · have q := (numOK_dg q3).2 (i - 6) (by omega)
        rw [show a + 6 + (i - 6) = a + i by omega] at q
        exact q
theorem nv8 {r : QB} {a : Nat} : nv r a 8 = 10000 * nv r a 4 + 100 * nv r (a + 4) 2 + nv r (a + 6) 2 := by
  have e (b k : Nat) : nv r b (k + 1) = 10 * nv r b k + (r (b + k) - 48) := rfl
  have e0 (b : Nat) : nv r b 0 = 0 := rfl
  simp only [e, e0, Nat.add_zero, Nat.add_assoc, Nat.reduceAdd]
  omega
theorem dayOK_n {r : QB} {a : Nat} : (bi (dayOK r a) = 1 ∧ (0 ≤ numV r a (a + 4) ∧ numV r a (a + 4) ≤ 9999 ∧ 1 ≤ numV r (a + 4) (a + 6) ∧ numV r (a + 4) (a + 6) ≤ 12 ∧ 1 ≤ numV r (a + 6) (a + 8) ∧ numV r (a + 6) (a + 8) ≤ mD (numV r a (a + 4)) (numV r (a + 4) (a + 6)))) ∨ (bi (dayOK r a) = 0 ∧ (numV r a (a + 4) < 0 ∨ 9999 < numV r a (a + 4) ∨ numV r (a + 4) (a + 6) < 1 ∨ 12 < numV r (a + 4) (a + 6) ∨ numV r (a + 6) (a + 8) < 1 ∨ mD (numV r a (a + 4)) (numV r (a + 4) (a + 6)) < numV r (a + 6) (a + 8))) := by
  unfold dayOK
  rw [dg8]
  cases c1 : numOK r a (a + 4) with
  | false =>
    have := numV_no c1
    exact Or.inr ⟨rfl, by omega⟩
  | true =>
    cases c2 : numOK r (a + 4) (a + 6) with
    | false =>
      have := numV_no c2
      exact Or.inr ⟨rfl, by omega⟩
    | true =>
      cases c3 : numOK r (a + 6) (a + 8) with
      | false =>
        have := numV_no c3
        exact Or.inr ⟨rfl, by omega⟩
      | true =>
        have n1 := numV_t c1
        have n2 := numV_t c2
        have n3 := numV_t c3
        have d1 := nv_bd 4 (fun i hi => (numOK_dg c1).2 i (by omega))
        have d4 : (10 : Int) ^ 4 = 10000 := by decide
        rw [d4] at d1
        rw [show a + 4 - a = 4 by omega] at n1
        rw [show a + 6 - (a + 4) = 2 by omega] at n2
        rw [show a + 8 - (a + 6) = 2 by omega] at n3
        rw [n1, n2, n3]
        by_cases A : 1 ≤ nv r (a + 4) 2 ∧ nv r (a + 4) 2 ≤ 12
        · by_cases B : 1 ≤ nv r (a + 6) 2 ∧ nv r (a + 6) 2 ≤ mD (nv r a 4) (nv r (a + 4) 2)
          · rw [decide_eq_true A, decide_eq_true B]
            exact Or.inl ⟨rfl, by omega⟩
          · rw [decide_eq_true A, decide_eq_false B]
            exact Or.inr ⟨rfl, by omega⟩
        · rw [decide_eq_false A]
          exact Or.inr ⟨rfl, by omega⟩
