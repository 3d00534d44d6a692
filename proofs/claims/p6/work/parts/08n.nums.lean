/-! The numbers of the messages that are there, in their order. -/
def numAt (h : Hp) (j : Nat) : Int := h.2.2 (elS h j).toNat 0
def nums (h : Hp) : List Int := (List.range (h.2.2 26 2).toNat).map (numAt h)
theorem nums_len (h : Hp) : (nums h).length = (h.2.2 26 2).toNat := by
  unfold nums
  rw [List.length_map, List.length_range]
theorem nums_get {h : Hp} {j : Nat} (hj : j < (h.2.2 26 2).toNat) : (nums h)[j]? = some (numAt h j) := by
  unfold nums
  rw [List.getElem?_map, List.getElem?_range hj]
  rfl
theorem nums_none {h : Hp} {j : Nat} (hj : (h.2.2 26 2).toNat ≤ j) : (nums h)[j]? = none := by
  rw [List.getElem?_eq_none_iff, nums_len]
  exact hj
/-- the list's j-th is a message -/
theorem elS_full {h : Hp} (hI : Inv h) {j : Nat} (hj : j < (h.2.2 26 2).toNat) : ∃ e n m : Nat, LiS h (h.2.2 26 2).toNat e n ∧ elS h j = (m : Int) ∧ full h m := by
  have h60 := hI.lsz
  rcases hI.lis (s := (h.2.2 26 2).toNat) (by omega) with ⟨-, g2⟩ | ⟨e, n, q⟩
  · omega
  · obtain ⟨m, m1, m2⟩ := q.2.2.2.2.2.2.2 j hj
    exact ⟨e, n, m, q, by rw [elS_of q]; exact m1, m2⟩
theorem num_fr {S : List Nat} {h H : Hp} (f : Fr S h H) (hI : Inv h) (hs : S.contains 330 = false) {m : Nat} (fm : full h m) : H.2.2 m 0 = h.2.2 m 0 := by
  have m6 := fm.big hI
  refine f.2.1 m 0 (hI.ltN fm.1) ?_
  rw [fm.1, col_msg m6]
  exact hs
theorem nums_fr {S : List Nat} {h H : Hp} (f : Fr S h H) (hI : Inv h) (hs : (!S.contains 26 && (!S.contains 313 && !S.contains 330)) = true) : nums H = nums h := by
  simp only [Bool.and_eq_true, Bool.not_eq_true'] at hs
  obtain ⟨s1, s2, s3⟩ := hs
  have t26 := hI.atS (a := 26) rfl
  have f26 : ∀ j, H.2.2 26 j = h.2.2 26 j := fun j => f.2.1 26 j (hI.ltN t26) s1
  unfold nums
  rw [f26]
  refine List.map_congr_left fun j hj => ?_
  have hj := List.mem_range.mp hj
  obtain ⟨e, n, m, q, m1, m2⟩ := elS_full hI hj
  have te := q.2.2.2.2.1
  have e6 := q.2.2.2.1
  have ee : elS H j = elS h j := by
    rw [elS_of q]
    unfold elS
    rw [f26, q.2.2.1, Int.toNat_natCast]
    refine f.2.1 e j (hI.ltN te) ?_
    rw [te, col_arr e6]
    exact s2
  unfold numAt
  rw [ee, m1, Int.toNat_natCast]
  exact num_fr f hI s3 m2
theorem nums_add {h H : Hp} (hI : Inv h) (f : Fr [26, 313, 999] h H) {m : Nat} (fm : full h m) (h2 : H.2.2 26 2 = h.2.2 26 2 + 1) (e1 : ∀ j : Nat, j < (h.2.2 26 2).toNat → elS H j = elS h j) (e2 : elS H (h.2.2 26 2).toNat = (m : Int)) : nums H = nums h ++ [h.2.2 m 0] := by
  have h60 := hI.lsz
  unfold nums
  rw [h2, show (h.2.2 26 2 + 1).toNat = (h.2.2 26 2).toNat + 1 by omega, List.range_succ, List.map_append]
  congr 1
  · refine List.map_congr_left fun j hj => ?_
    have hj := List.mem_range.mp hj
    obtain ⟨e, n, m', q, m1, m2⟩ := elS_full hI hj
    unfold numAt
    rw [e1 j hj, m1, Int.toNat_natCast]
    exact num_fr f hI rfl m2
  · rw [List.map_cons, List.map_nil]
    unfold numAt
    rw [e2, Int.toNat_natCast, num_fr f hI rfl fm]
theorem nums_remove {h H : Hp} (hI : Inv h) (f : Fr [26, 313] h H) {i : Nat} (hi : (i : Int) < h.2.2 26 2) (h2 : H.2.2 26 2 = h.2.2 26 2 - 1) (e1 : ∀ j : Nat, (j : Int) < h.2.2 26 2 - 1 → elS H j = elS h (if j < i then j else j + 1)) : nums H = (nums h).eraseIdx i := by
  have h60 := hI.lsz
  refine List.ext_getElem? fun j => ?_
  rw [List.getElem?_eraseIdx]
  by_cases hj : (j : Int) < h.2.2 26 2 - 1
  · have key : ∀ k : Nat, k < (h.2.2 26 2).toNat → H.2.2 (elS h k).toNat 0 = numAt h k := fun k hk => by
      obtain ⟨e, n, m', q, m1, m2⟩ := elS_full hI hk
      unfold numAt
      rw [m1, Int.toNat_natCast]
      exact num_fr f hI rfl m2
    rw [nums_get (h := H) (by omega)]
    unfold numAt
    rw [e1 j hj]
    by_cases hji : j < i
    · rw [if_pos hji, if_pos hji, nums_get (h := h) (by omega), key j (by omega)]
    · rw [if_neg hji, if_neg hji, nums_get (h := h) (by omega), key (j + 1) (by omega)]
  · rw [nums_none (h := H) (by omega)]
    by_cases hji : j < i
    · omega
    · rw [if_neg hji, nums_none (h := h) (by omega)]
