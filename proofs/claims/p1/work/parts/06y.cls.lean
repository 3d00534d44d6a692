/-! Steps that read or write the cells. -/
def tyOf (T : u_T) (k : Nat) : FieldType := (parseFieldDescriptor (T k).2.2.1).getD .int
def okCl (q : vw_C) : Bool := (List.range q.2.2).all (fun k => (parseFieldDescriptor (q.2.1 k).2.2.1).isSome) && ((List.range q.2.2).all (fun a => (List.range q.2.2).all (fun b => decide (a = b) || !decide ((q.2.1 a).2.1 = (q.2.1 b).2.1))) && (u_ws q.1 q.2.1 q.2.2).all (fun w => decide (w ∈ wsG)))
set_option maxRecDepth 100000 in
theorem cl_all : vwCl.all okCl = true := by decide +kernel
section CLF
variable {ci : Nat} {C : String} {T : u_T} {N : Nat}
theorem cl_okq (hc : vwCl[ci]? = some (C, T, N)) : okCl (C, T, N) = true := List.all_eq_true.mp cl_all _ (List.mem_of_getElem? hc)
theorem cl_in (hc : vwCl[ci]? = some (C, T, N)) : ∀ w ∈ u_ws C T N, w ∈ wsG := by
  have h := cl_okq hc
  simp only [okCl, Bool.and_eq_true] at h
  exact fun w hw => of_decide_eq_true (List.all_eq_true.mp h.2.2 w hw)
theorem cl_ty (hc : vwCl[ci]? = some (C, T, N)) : ∀ k, k < N → parseFieldDescriptor (T k).2.2.1 = some (tyOf T k) := by
  have h := cl_okq hc
  simp only [okCl, Bool.and_eq_true] at h
  intro k hk
  have h1 : (parseFieldDescriptor (T k).2.2.1).isSome = true := List.all_eq_true.mp h.1 k (List.mem_range.mpr hk)
  obtain ⟨y, hy⟩ := Option.isSome_iff_exists.mp h1
  unfold tyOf
  rw [hy]
  rfl
theorem cl_nm (hc : vwCl[ci]? = some (C, T, N)) : ∀ a, a < N → ∀ b, b < N → a ≠ b → (T a).2.1 ≠ (T b).2.1 := by
  have h := cl_okq hc
  simp only [okCl, Bool.and_eq_true] at h
  intro a ha b hb hne
  have h1 := List.all_eq_true.mp (List.all_eq_true.mp h.2.1 a (List.mem_range.mpr ha)) b (List.mem_range.mpr hb)
  simp only [Bool.or_eq_true, decide_eq_true_eq, Bool.not_eq_true', decide_eq_false_iff_not] at h1
  rcases h1 with h1 | h1
  · exact absurd h1 hne
  · exact h1
end CLF
