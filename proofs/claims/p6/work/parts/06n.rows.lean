/-! The reference's rows of bytes. -/
def aL : List (Nat × Nat) := [(61, 20), (62, 1200), (63, 240000), (66, 19200), (70, 40960), (72, 60), (73, 960), (75, 1300), (76, 4000), (77, 1300), (83, 72000), (88, 1200), (98, 10240), (103, 640000)]
def isA (a n : Nat) : Bool := aL.any (fun q => Nat.beq q.1 a && Nat.beq q.2 n)
theorem isA_in {a n : Nat} (h : isA a n = true) : (a = 61 ∧ n = 20) ∨ (a = 62 ∧ n = 1200) ∨ (a = 63 ∧ n = 240000) ∨ (a = 66 ∧ n = 19200) ∨ (a = 70 ∧ n = 40960) ∨ (a = 72 ∧ n = 60) ∨ (a = 73 ∧ n = 960) ∨ (a = 75 ∧ n = 1300) ∨ (a = 76 ∧ n = 4000) ∨ (a = 77 ∧ n = 1300) ∨ (a = 83 ∧ n = 72000) ∨ (a = 88 ∧ n = 1200) ∨ (a = 98 ∧ n = 10240) ∨ (a = 103 ∧ n = 640000) := by
  obtain ⟨q, hq, he⟩ := List.any_eq_true.mp h
  rw [Bool.and_eq_true] at he
  have e1 := Nat.eq_of_beq_eq_true he.1
  have e2 := Nat.eq_of_beq_eq_true he.2
  subst e1 e2
  simp only [aL, List.mem_cons, List.not_mem_nil, or_false] at hq
  rcases hq with rfl | rfl | rfl | rfl | rfl | rfl | rfl | rfl | rfl | rfl | rfl | rfl | rfl | rfl <;> decide
theorem isA_le {a n : Nat} (h : isA a n = true) : n ≤ 640000 := by
  rcases isA_in h with ⟨rfl, rfl⟩ | ⟨rfl, rfl⟩ | ⟨rfl, rfl⟩ | ⟨rfl, rfl⟩ | ⟨rfl, rfl⟩ | ⟨rfl, rfl⟩ | ⟨rfl, rfl⟩ | ⟨rfl, rfl⟩ | ⟨rfl, rfl⟩ | ⟨rfl, rfl⟩ | ⟨rfl, rfl⟩ | ⟨rfl, rfl⟩ | ⟨rfl, rfl⟩ | ⟨rfl, rfl⟩ <;> decide
theorem isA_n {a n : Nat} (h : isA a n = true) : n ≤ 2147483647 := Nat.le_trans (isA_le h) (by decide)
theorem Inv.aT {h : Hp} (hI : Inv h) {a n : Nat} (ha : isA a n = true) : h.2.1 a = some (.inl (1, n)) := by
  rcases isA_in ha with ⟨rfl, rfl⟩ | ⟨rfl, rfl⟩ | ⟨rfl, rfl⟩ | ⟨rfl, rfl⟩ | ⟨rfl, rfl⟩ | ⟨rfl, rfl⟩ | ⟨rfl, rfl⟩ | ⟨rfl, rfl⟩ | ⟨rfl, rfl⟩ | ⟨rfl, rfl⟩ | ⟨rfl, rfl⟩ | ⟨rfl, rfl⟩ | ⟨rfl, rfl⟩ | ⟨rfl, rfl⟩ <;> exact hI.atS rfl
theorem Inv.aC {h : Hp} (hI : Inv h) {a n j : Nat} (ha : isA a n = true) : -128 ≤ h.2.2 a j ∧ h.2.2 a j ≤ 127 := by
  rcases isA_in ha with ⟨rfl, rfl⟩ | ⟨rfl, rfl⟩ | ⟨rfl, rfl⟩ | ⟨rfl, rfl⟩ | ⟨rfl, rfl⟩ | ⟨rfl, rfl⟩ | ⟨rfl, rfl⟩ | ⟨rfl, rfl⟩ | ⟨rfl, rfl⟩ | ⟨rfl, rfl⟩ | ⟨rfl, rfl⟩ | ⟨rfl, rfl⟩ | ⟨rfl, rfl⟩ | ⟨rfl, rfl⟩ <;> exact hI.atR rfl
