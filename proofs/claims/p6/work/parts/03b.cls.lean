/-! The tables' words by their places, and the classes' facts. -/
def tabL (j : Nat) : List Cond := match j with
  | 1 => tables_1_1
  | 2 => tables_1_2
  | 3 => tables_1_3
  | 4 => tables_1_4
  | 5 => tables_1_5
  | 6 => tables_1_6
  | 7 => tables_1_7
  | 8 => tables_1_8
  | _ => tables_1_9
theorem tabL_in {j : Nat} {w : Cond} (h : w ∈ tabL j) : w ∈ tables_1 := by
  have key : ∀ (a b : List Cond), w ∈ a ∨ w ∈ b → w ∈ a ++ b := fun a b h => List.mem_append.mpr h
  unfold tables_1
  rcases (show j = 1 ∨ j = 2 ∨ j = 3 ∨ j = 4 ∨ j = 5 ∨ j = 6 ∨ j = 7 ∨ j = 8 ∨ (j ≠ 1 ∧ j ≠ 2 ∧ j ≠ 3 ∧ j ≠ 4 ∧ j ≠ 5 ∧ j ≠ 6 ∧ j ≠ 7 ∧ j ≠ 8) by omega) with rfl | rfl | rfl | rfl | rfl | rfl | rfl | rfl | hj
  · exact key _ _ (Or.inl h)
  · exact key _ _ (Or.inr (key _ _ (Or.inl h)))
  · exact key _ _ (Or.inr (key _ _ (Or.inr (key _ _ (Or.inl h)))))
  · exact key _ _ (Or.inr (key _ _ (Or.inr (key _ _ (Or.inr (key _ _ (Or.inl h)))))))
  · exact key _ _ (Or.inr (key _ _ (Or.inr (key _ _ (Or.inr (key _ _ (Or.inr (key _ _ (Or.inl h)))))))))
  · exact key _ _ (Or.inr (key _ _ (Or.inr (key _ _ (Or.inr (key _ _ (Or.inr (key _ _ (Or.inr (key _ _ (Or.inl h)))))))))))
  · exact key _ _ (Or.inr (key _ _ (Or.inr (key _ _ (Or.inr (key _ _ (Or.inr (key _ _ (Or.inr (key _ _ (Or.inr (key _ _ (Or.inl h)))))))))))))
  · exact key _ _ (Or.inr (key _ _ (Or.inr (key _ _ (Or.inr (key _ _ (Or.inr (key _ _ (Or.inr (key _ _ (Or.inr (key _ _ (Or.inr (key _ _ (Or.inl h)))))))))))))))
  · have e : tabL j = tables_1_9 := by
      unfold tabL
      split <;> first | rfl | (exfalso; omega)
    rw [e] at h
    exact key _ _ (Or.inr (key _ _ (Or.inr (key _ _ (Or.inr (key _ _ (Or.inr (key _ _ (Or.inr (key _ _ (Or.inr (key _ _ (Or.inr (key _ _ (Or.inr h)))))))))))))))
/-- a word of the tables, by its place -/
theorem tin {w : Cond} (j i : Nat) (h : (tabL j)[i]? = some w) (hg : goodWord w = true) : w ∈ wsG := List.mem_filter.mpr ⟨List.mem_append_right _ (tabL_in (List.mem_of_getElem? h)), hg⟩
theorem tinN {w : Cond} (j i : Nat) (h : (tabL j)[i]? = some w) (hg : isNest w = true) : w ∈ nwL := List.mem_filter.mpr ⟨List.mem_append_right _ (tabL_in (List.mem_of_getElem? h)), hg⟩
/-- a private method's choice, by its place among the private methods -/
theorem tinP {y : MethodName} {n : Nat} (i : Nat) (h : lw_privs[i]? = some (y, n)) : Cond.selects y.cls y y ∈ wsG := List.mem_filter.mpr ⟨List.mem_append_left _ (List.mem_map.mpr ⟨(y, n), List.mem_of_getElem? h, rfl⟩), rfl⟩
theorem tin_ps {ws : List Cond} (ps : List (Nat × Nat)) (h : ws = ps.filterMap (fun q => (tabL q.1)[q.2]?)) (hg : ws.all goodWord = true) : ∀ w ∈ ws, w ∈ wsG := by
  intro w hw
  have hgw := List.all_eq_true.mp hg w hw
  rw [h] at hw
  obtain ⟨q, -, hq⟩ := List.mem_filterMap.mp hw
  exact tin q.1 q.2 hq hgw
def tyOf (T : u_T) (k : Nat) : FieldType := (parseFieldDescriptor (T k).2.2.1).getD .int
def ClOK (q : vw_C) : Prop := (∀ w ∈ u_ws q.1 q.2.1 q.2.2, w ∈ wsG) ∧ (∀ k, k < q.2.2 → parseFieldDescriptor (q.2.1 k).2.2.1 = some (tyOf q.2.1 k)) ∧ ∀ a, a < q.2.2 → ∀ b, b < q.2.2 → a ≠ b → (q.2.1 a).2.1 ≠ (q.2.1 b).2.1
theorem ty_of {T : u_T} {N : Nat} {ty : Nat → FieldType} (h : ∀ k, k < N → parseFieldDescriptor (T k).2.2.1 = some (ty k)) : ∀ k, k < N → parseFieldDescriptor (T k).2.2.1 = some (tyOf T k) := by
  intro k hk
  unfold tyOf
  rw [h k hk]
  rfl
set_option maxRecDepth 100000 in
theorem clok_Jx4a65c : ClOK (RJx4a65c, TJx4a65c, 3) := ⟨tin_ps [(1, 106), (1, 102), (1, 104)] (by decide +kernel) (by decide +kernel), ty_of tyJx4a65c_ok, nmJx4a65c⟩
set_option maxRecDepth 100000 in
theorem clok_X0 : ClOK (RX0, TX0, 7) := ⟨tin_ps [(1, 67), (1, 69), (1, 71), (1, 73), (1, 75), (1, 77), (1, 79)] (by decide +kernel) (by decide +kernel), ty_of tyX0_ok, nmX0⟩
set_option maxRecDepth 100000 in
theorem clok_X1 : ClOK (RX1, TX1, 2) := ⟨tin_ps [(1, 48), (1, 50)] (by decide +kernel) (by decide +kernel), ty_of tyX1_ok, nmX1⟩
set_option maxRecDepth 100000 in
theorem clok_X4 : ClOK (RX4, TX4, 5) := ⟨tin_ps [(1, 158), (1, 160), (1, 162), (1, 164), (1, 166)] (by decide +kernel) (by decide +kernel), ty_of tyX4_ok, nmX4⟩
set_option maxRecDepth 100000 in
theorem clok_X5 : ClOK (RX5, TX5, 9) := ⟨tin_ps [(2, 5), (2, 7), (2, 9), (2, 11), (2, 13), (2, 15), (2, 17), (2, 19), (2, 21)] (by decide +kernel) (by decide +kernel), ty_of tyX5_ok, nmX5⟩
set_option maxRecDepth 100000 in
theorem clok_X6 : ClOK (RX6, TX6, 8) := ⟨tin_ps [(5, 68), (5, 70), (5, 72), (5, 74), (5, 76), (5, 78), (5, 80), (5, 82)] (by decide +kernel) (by decide +kernel), ty_of tyX6_ok, nmX6⟩
set_option maxRecDepth 100000 in
theorem clok_X7 : ClOK (RX7, TX7, 15) := ⟨tin_ps [(1, 184), (1, 186), (1, 188), (1, 190), (1, 192), (1, 194), (1, 196), (1, 198), (1, 200), (1, 202), (1, 204), (1, 206), (1, 208), (1, 210), (1, 212)] (by decide +kernel) (by decide +kernel), ty_of tyX7_ok, nmX7⟩
set_option maxRecDepth 100000 in
theorem clok_X8 : ClOK (RX8, TX8, 17) := ⟨tin_ps [(2, 44), (2, 46), (2, 48), (2, 50), (2, 52), (2, 54), (2, 56), (2, 58), (2, 60), (2, 62), (2, 64), (2, 66), (2, 68), (2, 70), (2, 72), (2, 74), (2, 76)] (by decide +kernel) (by decide +kernel), ty_of tyX8_ok, nmX8⟩
set_option maxRecDepth 100000 in
theorem clok_X10 : ClOK (RX10, TX10, 7) := ⟨tin_ps [(1, 122), (1, 124), (1, 126), (1, 128), (1, 130), (1, 132), (1, 134)] (by decide +kernel) (by decide +kernel), ty_of tyX10_ok, nmX10⟩
set_option maxRecDepth 100000 in
theorem clok_X11 : ClOK (RX11, TX11, 17) := ⟨tin_ps [(2, 112), (2, 114), (2, 116), (2, 118), (2, 120), (2, 122), (2, 124), (2, 126), (2, 128), (2, 130), (2, 132), (2, 134), (2, 136), (2, 138), (2, 140), (2, 142), (2, 144)] (by decide +kernel) (by decide +kernel), ty_of tyX11_ok, nmX11⟩
set_option maxRecDepth 100000 in
theorem clok_X12 : ClOK (RX12, TX12, 70) := ⟨tin_ps [(6, 231), (6, 233), (6, 235), (6, 237), (6, 239), (7, 1), (7, 3), (7, 5), (7, 7), (7, 9), (7, 11), (7, 13), (7, 15), (7, 17), (7, 19), (7, 21), (7, 23), (7, 25), (7, 27), (7, 29), (7, 31), (7, 33), (7, 35), (7, 37), (7, 39), (7, 41), (7, 43), (7, 45), (7, 47), (7, 49), (7, 51), (7, 53), (7, 55), (7, 57), (7, 59), (7, 61), (7, 63), (7, 65), (7, 67), (7, 69), (7, 71), (7, 73), (7, 75), (7, 77), (7, 79), (7, 81), (7, 83), (7, 85), (7, 87), (7, 89), (7, 91), (7, 93), (7, 95), (7, 97), (7, 99), (7, 101), (7, 103), (7, 105), (7, 107), (7, 109), (7, 111), (7, 113), (7, 115), (7, 117), (7, 119), (7, 121), (7, 123), (7, 125), (7, 127), (7, 129)] (by decide +kernel) (by decide +kernel), ty_of tyX12_ok, nmX12⟩
theorem cl_all {ci : Nat} {q : vw_C} (h : vwCl[ci]? = some q) : ClOK q := by
  have hm := List.mem_of_getElem? h
  simp only [vwCl, List.mem_cons, List.not_mem_nil, or_false] at hm
  rcases hm with rfl | rfl | rfl | rfl | rfl | rfl | rfl | rfl | rfl | rfl | rfl
  · exact clok_Jx4a65c
  · exact clok_X0
  · exact clok_X1
  · exact clok_X4
  · exact clok_X5
  · exact clok_X6
  · exact clok_X7
  · exact clok_X8
  · exact clok_X10
  · exact clok_X11
  · exact clok_X12
section CLF
variable {ci : Nat} {C : String} {T : u_T} {N : Nat}
theorem cl_in (hc : vwCl[ci]? = some (C, T, N)) : ∀ w ∈ u_ws C T N, w ∈ wsG := (cl_all hc).1
theorem cl_ty (hc : vwCl[ci]? = some (C, T, N)) : ∀ k, k < N → parseFieldDescriptor (T k).2.2.1 = some (tyOf T k) := (cl_all hc).2.1
theorem cl_nm (hc : vwCl[ci]? = some (C, T, N)) : ∀ a, a < N → ∀ b, b < N → a ≠ b → (T a).2.1 ≠ (T b).2.1 := (cl_all hc).2.2
end CLF
