/-! Where a number is. -/
set_option maxRecDepth 100000 in
theorem ct_Jx4a65c_elementData_915e3_vb (l : Launch) (h : Hp) (hI : Inv h) (i : Int) (hi : I32 i) (g0 : 0 ≤ i ∧ i < h.2.2 26 2) : Ct l D_Jx4a65c_elementData_915e3 0 0 [.inr (.inr 26), .inl i] h (RR (fun x H => h = H ∧ full H x ∧ elS h i.toNat = (x : Int))) := by
  refine ct_of pn_Jx4a65c_elementData_915e3 (Nat.le_of_ble_eq_true rfl) ?_
  show To l E_Jx4a65c_elementData_915e3 (0, [(0, .inr (.inr 26)), (1, .inl i)], [], h, 0, 0) _
  refine to_aload_n (dat dk_Jx4a65c_elementData_915e3 0 rfl) rfl ?_
  obtain ⟨q1, nq1, m2, eq1, pq1, tq1, iq1, vq1, fq1⟩ := hI.led (i := i) g0
  refine to_getR q1 g_c28_9 (dat dk_Jx4a65c_elementData_915e3 1 rfl) (hI.atS rfl) eq1 (to_iload_n (dat dk_Jx4a65c_elementData_915e3 2 rfl) rfl (to_aaldv m2 (dat dk_Jx4a65c_elementData_915e3 3 rfl) tq1 rfl (hI.lenN tq1) (by omega) vq1 ?_))
  exact to_aret rfl (Or.inl ⟨_, rfl⟩) (dat dk_Jx4a65c_elementData_915e3 4 rfl) (rr_mk ⟨rfl, fq1, by unfold elS; rw [eq1, Int.toNat_natCast]; exact vq1⟩)
set_option maxRecDepth 100000 in
theorem ct_Jx4a65c_get_915e3_vb (l : Launch) (h : Hp) (hI : Inv h) (i : Int) (hi : I32 i) (g0 : 0 ≤ i ∧ i < h.2.2 26 2) : Ct l D_Jx4a65c_get_915e3 2 43 [.inr (.inr 26), .inl i] h (RR (fun x H => h = H ∧ full H x ∧ elS h i.toNat = (x : Int))) := by
  refine ct_of pn_Jx4a65c_get_915e3 (Nat.le_of_ble_eq_true rfl) ?_
  show To l E_Jx4a65c_get_915e3 (0, [(0, .inr (.inr 26)), (1, .inl i)], [], h, 0, 0) _
  refine to_iload_n (dat dk_Jx4a65c_get_915e3 0 rfl) rfl (to_aload_n (dat dk_Jx4a65c_get_915e3 1 rfl) rfl ?_)
  obtain ⟨x1, ex1⟩ : ∃ y : Int, h.2.2 26 2 = y := ⟨_, rfl⟩
  have rx1 := hI.atR (a := 26) (j := 2) rfl
  rw [ex1] at rx1
  refine to_getIv (y := x1) ex1 g_c28_48 (dat dk_Jx4a65c_get_915e3 2 rfl) (hI.atS rfl) ?_
  refine to_cI ca_c28_118 (dat dk_Jx4a65c_get_915e3 3 rfl) (ct_J15_checkIndex_7cf53 l h hI i hi x1 (by omega) (show 0 ≤ i ∧ i < x1 by omega)) rfl trivial rfl (fun x2 h3 rx2 p4 => ?_)
  obtain ⟨rfl, p4_0⟩ := p4
  refine to_pop (dat dk_Jx4a65c_get_915e3 4 rfl) rfl (to_aload_n (dat dk_Jx4a65c_get_915e3 5 rfl) rfl (to_iload_n (dat dk_Jx4a65c_get_915e3 6 rfl) rfl ?_))
  refine to_cR ca_c28_123 (dat dk_Jx4a65c_get_915e3 7 rfl) (ct_Jx4a65c_elementData_915e3_vb l h hI i hi (show 0 ≤ i ∧ i < h.2.2 26 2 by omega)) rfl ⟨_, _, rfl, (hI.atS rfl)⟩ rfl (fun x5 h6 p7 => ?_)
  obtain ⟨rfl, p7_0, p7_1⟩ := p7
  exact to_aret rfl (Or.inl ⟨_, rfl⟩) (dat dk_Jx4a65c_get_915e3 8 rfl) (rr_mk ⟨rfl, p7_0, p7_1⟩)
set_option maxRecDepth 100000 in
theorem ct_X11_placeOf_vb (l : Launch) (h : Hp) (hI : Inv h) (n : Int) (hn : I32 n) : Ct l D_X11_placeOf 3 64 [.inr (.inr 1), .inl n] h (RI (fun x H => h = H ∧ (-1 ≤ x ∧ x < h.2.2 26 2) ∧ ((x = -1 ∧ n ∉ nums h) ∨ (0 ≤ x ∧ (nums h)[x.toNat]? = some n)))) := by
  refine ct_of pn_X11_placeOf (Nat.le_of_ble_eq_true rfl) ?_
  show To l E_X11_placeOf (0, [(0, .inr (.inr 1)), (1, .inl n)], [], h, 0, 0) _
  refine to_iconst (dat dk_X11_placeOf 0 rfl) (to_istore_n (L' := [(0, .inr (.inr 1)), (1, .inl n), (2, .inl 0)]) (dat dk_X11_placeOf 1 rfl) (by decide) rfl ?_)
  have lp2_n3 : ∀ (n3 : Nat) (y1 : Int), (I32 y1) → (0 ≤ y1) → (∀ j : Nat, (j : Int) < y1 → j < (h.2.2 26 2).toNat → numAt h j ≠ n) → (61 - y1 ≤ (n3 : Int)) → To l E_X11_placeOf (2, [(0, .inr (.inr 1)), (1, .inl n), (2, .inl y1)], [], h, 0, 0) (RI (fun x H => h = H ∧ (-1 ≤ x ∧ x < h.2.2 26 2) ∧ ((x = -1 ∧ n ∉ nums h) ∨ (0 ≤ x ∧ (nums h)[x.toNat]? = some n)))) := by
    intro n3
    induction n3 using Nat.strongRecOn with
    | _ n3 ihn3 =>
    intro y1 ry1 c2 cN c4
    refine to_iload_n (dat dk_X11_placeOf 2 rfl) rfl (to_aload_n (dat dk_X11_placeOf 3 rfl) rfl (to_getR 26 g_c0_40 (dat dk_X11_placeOf 4 rfl) (hI.atS rfl) (hI.atE rfl) ?_))
    obtain ⟨x5, ex5⟩ : ∃ y : Int, h.2.2 26 2 = y := ⟨_, rfl⟩
    have rx5 := hI.atR (a := 26) (j := 2) rfl
    rw [ex5] at rx5
    refine to_cI ca_c0_93 (dat dk_X11_placeOf 5 rfl) (ct_Jx4a65c_size_8abf5 l h hI ) rfl ⟨_, _, rfl, (hI.atS rfl)⟩ rfl (fun x6 h7 rx6 p8 => ?_)
    obtain ⟨rfl, p8_0, p8_1⟩ := p8
    refine to_ige 39 (dat dk_X11_placeOf 6 rfl) rfl ry1 rx6 (fun c9 => ?_) (fun c9 => ?_)
    · skip
      refine to_iconst (dat dk_X11_placeOf 19 rfl) ?_
      exact to_iret rfl (dat dk_X11_placeOf 20 rfl) (ri_mk (by decide) ⟨rfl, (show -1 ≤ (-1 : Int) ∧ (-1 : Int) < h.2.2 26 2 by omega), Or.inl ⟨rfl, fun hm => by
        unfold nums at hm
        obtain ⟨j, j1, j2⟩ := List.mem_map.mp hm
        have j1 := List.mem_range.mp j1
        exact cN j (by omega) j1 j2⟩⟩)
    · skip
      refine to_aload_n (dat dk_X11_placeOf 7 rfl) rfl (to_getR 26 g_c0_40 (dat dk_X11_placeOf 8 rfl) (hI.atS rfl) (hI.atE rfl) (to_iload_n (dat dk_X11_placeOf 9 rfl) rfl ?_))
      refine to_cR ca_c0_144 (dat dk_X11_placeOf 10 rfl) (ct_Jx4a65c_get_915e3_vb l h hI y1 ry1 (show 0 ≤ y1 ∧ y1 < h.2.2 26 2 by omega)) rfl ⟨_, _, rfl, (hI.atS rfl)⟩ rfl (fun x10 h11 p12 => ?_)
      obtain ⟨rfl, p12_0, p12_1⟩ := p12
      have nA : numAt h y1.toNat = h.2.2 x10 0 := by unfold numAt; rw [p12_1, Int.toNat_natCast]
      refine to_castM (C := RX6) (T := TX6) (N := 8) (ci := 5) rfl (tin 2 235 (by decide +kernel) rfl) (dat dk_X11_placeOf 11 rfl) p12_0.1 ?_
      obtain ⟨x13, ex13⟩ : ∃ y : Int, h.2.2 x10 0 = y := ⟨_, rfl⟩
      have rx13 := full.f0 hI p12_0
      rw [ex13] at rx13
      refine to_getIv (y := x13) ex13 g_c0_246 (dat dk_X11_placeOf 12 rfl) p12_0.1 (to_iload_n (dat dk_X11_placeOf 13 rfl) rfl ?_)
      refine to_ine 33 (dat dk_X11_placeOf 14 rfl) rfl rx13 hn (fun c14 => ?_) (fun c14 => ?_)
      · skip
        refine to_iinc (L' := [(0, .inr (.inr 1)), (1, .inl n), (2, .inl (y1 + 1))]) (dat dk_X11_placeOf 17 rfl) rfl (by decide) rfl (to_goto (dat dk_X11_placeOf 18 rfl) rfl ?_)
        exact ihn3 (n3 - 1) (by omega) (y1 + 1) (by omega) (show 0 ≤ (y1 + 1) by omega) (fun j j1 j2 => by
          by_cases hj : (j : Int) < y1
          · exact cN j hj j2
          · have e9 : j = y1.toNat := by omega
            rw [e9, nA, ex13]
            exact c14) (show 61 - (y1 + 1) ≤ ((n3 - 1 : Nat) : Int) by omega)
      · skip
        refine to_iload_n (dat dk_X11_placeOf 15 rfl) rfl ?_
        exact to_iret rfl (dat dk_X11_placeOf 16 rfl) (ri_mk ry1 ⟨rfl, (show -1 ≤ y1 ∧ y1 < h.2.2 26 2 by omega), Or.inr ⟨c2, by rw [nums_get (by omega), nA, ex13]; exact congrArg some (by omega)⟩⟩)
  exact lp2_n3 (61 - (0 : Int)).toNat 0 (by decide) (show 0 ≤ (0 : Int) by omega) (fun j j1 _ => by omega) (by omega)
