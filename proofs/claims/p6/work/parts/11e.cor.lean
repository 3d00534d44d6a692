/-! What is there: the class's list and the reference's row tell the same. -/
def Cor (h : Hp) : Prop := (nums h).Pairwise (· < ·) ∧ (∀ m ∈ nums h, 0 ≤ m ∧ m < h.2.2 60 4) ∧ (∀ j : Nat, (j : Int) < h.2.2 60 4 → (h.2.2 65 j ≠ 0 ↔ (j : Int) ∈ nums h)) ∧ h.2.2 60 5 = h.2.2 26 2 ∧ h.2.2 1 15 = h.2.2 60 4
theorem Cor.add {h H : Hp} (c : Cor h) (h0 : 0 ≤ h.2.2 60 4) (e1 : nums H = nums h ++ [h.2.2 1 15]) (e2 : H.2.2 26 2 = h.2.2 26 2 + 1) (e3 : H.2.2 1 15 = h.2.2 1 15 + 1) (e4 : H.2.2 60 4 = h.2.2 60 4 + 1) (e5 : H.2.2 60 5 = h.2.2 60 5 + 1) (e6 : ∀ j : Nat, H.2.2 65 j = if j = Int.toNat (h.2.2 60 4) then 1 else h.2.2 65 j) : Cor H := by
  obtain ⟨c1, c2, c3, c4, c5⟩ := c
  refine ⟨?_, fun m hm => ?_, fun j hj => ?_, by omega, by omega⟩
  · rw [e1, List.pairwise_append]
    refine ⟨c1, List.pairwise_singleton _ _, fun a ha b hb => ?_⟩
    have hb := List.mem_singleton.mp hb
    have := c2 a ha
    omega
  · rw [e1] at hm
    rcases List.mem_append.mp hm with hm | hm
    · have := c2 m hm
      omega
    · have hm := List.mem_singleton.mp hm
      omega
  · rw [e6, e1, List.mem_append, List.mem_singleton]
    by_cases hjj : j = Int.toNat (h.2.2 60 4)
    · rw [if_pos hjj]
      exact ⟨fun _ => Or.inr (by omega), fun _ => by decide⟩
    · rw [if_neg hjj]
      have k := c3 j (by omega)
      constructor
      · intro q
        exact Or.inl (k.mp q)
      · intro q
        rcases q with q | q
        · exact k.mpr q
        · omega
theorem Cor.remove {h H : Hp} (c : Cor h) {n : Int} {i : Nat} (hn : (nums h)[i]? = some n) (e1 : nums H = (nums h).eraseIdx i) (e2 : H.2.2 26 2 = h.2.2 26 2 - 1) (e3 : H.2.2 1 15 = h.2.2 1 15) (e4 : H.2.2 60 4 = h.2.2 60 4) (e5 : H.2.2 60 5 = h.2.2 60 5 - 1) (e6 : ∀ j : Nat, H.2.2 65 j = if j = Int.toNat n then 0 else h.2.2 65 j) : Cor H := by
  obtain ⟨c1, c2, c3, c4, c5⟩ := c
  have hmem := c2 n (List.mem_of_getElem? hn)
  have sub : ∀ m, m ∈ (nums h).eraseIdx i → m ∈ nums h := fun m hm => (List.eraseIdx_sublist _ _).subset hm
  have lt : ∀ a b : Nat, ∀ x y : Int, a < b → (nums h)[a]? = some x → (nums h)[b]? = some y → x < y := fun a b x y hab ha hb => by
    obtain ⟨ha1, ha2⟩ := List.getElem?_eq_some_iff.mp ha
    obtain ⟨hb1, hb2⟩ := List.getElem?_eq_some_iff.mp hb
    have := List.pairwise_iff_getElem.mp c1 a b ha1 hb1 hab
    omega
  have key : ∀ m, m ∈ (nums h).eraseIdx i ↔ m ∈ nums h ∧ m ≠ n := fun m => by
    rw [List.mem_eraseIdx_iff_getElem?]
    constructor
    · rintro ⟨j, hji, hj⟩
      refine ⟨List.mem_of_getElem? hj, fun e => ?_⟩
      subst e
      rcases Nat.lt_or_gt_of_ne hji with q | q
      · have := lt _ _ _ _ q hj hn
        omega
      · have := lt _ _ _ _ q hn hj
        omega
    · rintro ⟨hm, hne⟩
      obtain ⟨j, hj⟩ := List.mem_iff_getElem?.mp hm
      refine ⟨j, fun e => ?_, hj⟩
      subst e
      exact hne (Option.some.inj (hj.symm.trans hn))
  refine ⟨?_, fun m hm => ?_, fun j hj => ?_, by omega, by omega⟩
  · rw [e1]
    exact c1.sublist (List.eraseIdx_sublist _ _)
  · rw [e1] at hm
    have := c2 m (sub m hm)
    omega
  · rw [e6, e1, key]
    by_cases hjj : j = Int.toNat n
    · rw [if_pos hjj]
      exact ⟨fun q => absurd rfl q, fun q => absurd (by omega) q.2⟩
    · rw [if_neg hjj]
      have k := c3 j (by omega)
      exact ⟨fun q => ⟨k.mp q, by omega⟩, fun q => k.mpr q.1⟩
/-- the two agree on whether n is there -/
theorem Cor.there {h : Hp} (c : Cor h) {n : Int} : n ∈ nums h ↔ (0 ≤ n ∧ n < h.2.2 60 4 ∧ h.2.2 65 (Int.toNat n) ≠ 0) := by
  obtain ⟨c1, c2, c3, c4, c5⟩ := c
  constructor
  · intro hn
    have := c2 n hn
    refine ⟨this.1, this.2, (c3 n.toNat (by omega)).mpr ?_⟩
    rw [Int.toNat_of_nonneg this.1]
    exact hn
  · rintro ⟨a, b, d⟩
    have := (c3 n.toNat (by omega)).mp d
    rw [Int.toNat_of_nonneg a] at this
    exact this
/-- what touches neither keeps it -/
theorem Cor.same {h H : Hp} (c : Cor h) (e1 : nums H = nums h) (e2 : H.2.2 26 2 = h.2.2 26 2) (e3 : H.2.2 1 15 = h.2.2 1 15) (e4 : H.2.2 60 4 = h.2.2 60 4) (e5 : H.2.2 60 5 = h.2.2 60 5) (e6 : H.2.2 65 = h.2.2 65) : Cor H := by
  unfold Cor
  rw [e1, e2, e3, e4, e5, e6]
  exact c
