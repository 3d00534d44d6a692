/-! The list grows; a message is added; a message is removed. -/
theorem rg26_1 {lo hi x : Int} (e : rg 26 1 = some (lo, hi)) : lo ≤ x ∧ x ≤ hi := by cases (show rg 26 1 = none from rfl).symm.trans e
theorem rg26_2 {lo hi x : Int} (hx : I32 x) (e : rg 26 2 = some (lo, hi)) : lo ≤ x ∧ x ≤ hi := by
  cases (show rg 26 2 = some (-2147483648, 2147483647) from rfl).symm.trans e
  unfold I32 at hx
  omega
/-- what the list was told to be: empty, with the row from outside, or with a row of its own -/
theorem Inv.lis {h : Hp} (hI : Inv h) {s : Nat} (hs : h.2.2 26 2 = (s : Int)) : (h.2.2 26 1 = 1000000 ∧ s = 0) ∨ ∃ e n, LiS h s e n := by
  obtain ⟨s', s1, s2, s3⟩ := hI.2.2.2.2.2.1
  have e : s' = s := by omega
  subst e
  rcases s3 with s3 | ⟨e, n, g1, g2, g3, g4, g5⟩
  · exact Or.inl s3
  · exact Or.inr ⟨e, n, s1, s2, g1, g2, g3, g4, hI.lenM g3, g5⟩
/-- the j-th of the list, by name -/
def elS (h : Hp) (j : Nat) : Int := h.2.2 (h.2.2 26 1).toNat j
theorem elS_of {h : Hp} {s e n : Nat} (q : LiS h s e n) (j : Nat) : elS h j = h.2.2 e j := by
  unfold elS
  rw [q.2.2.1, Int.toNat_natCast]
def GW (h : Hp) (s : Nat) : Nat → Hp → Nat → Nat → Prop := fun x H mc ms => Inv H ∧ Fr [26, 313, 999] h H ∧ mc = 1 ∧ ms ≤ 200 ∧ H.1 = h.1 + 1 ∧ (∀ b t, h.2.1 b = some t → H.2.1 b = some t) ∧ (∀ b t, b ≠ 26 → h.2.1 b = some t → H.2.2 b = h.2.2 b) ∧ (∀ j, j < s → elS H j = elS h j) ∧ ∃ N, LiS H s x N ∧ s < N
theorem gw_mk {h : Hp} (hI : Inv h) {s N : Nat} {f : Nat → Int} (hs : h.2.2 26 2 = (s : Int)) (h60 : s < 60) (hN : s < N ∧ N ≤ 200) (hlt : h.1 + 1 ≤ 900000) (hel : ∀ j, j < s → ∃ m : Nat, f j = (m : Int) ∧ full h m) (hf : ∀ j, j < s → f j = elS h j) {H : Hp} (e : H = wr (row (al h (.inl (34, N))) h.1 f) 26 1 (h.1 : Int)) {mc ms : Nat} (hmc : mc = 1) (hms : ms = N) : GW h s h.1 H mc ms := by
  have hp1 := hI.1.1
  have t26 := hI.atS (a := 26) rfl
  have I1 : Inv (row (al h (.inl (34, N))) h.1 f) := Inv.newA hI hlt (by omega) (fun j => trivial) (by decide)
  have o1 : ∀ b t, h.2.1 b = some t → (row (al h (.inl (34, N))) h.1 f).2.1 b = some t := fun b t ht => newA_old hI ht
  have v1 : ∀ b t, h.2.1 b = some t → (row (al h (.inl (34, N))) h.1 f).2.2 b = h.2.2 b := fun b t ht => newA_val hI ht
  have tn : (row (al h (.inl (34, N))) h.1 f).2.1 h.1 = some (.inl (34, N)) := al_new h _
  have q : LiS (wr (row (al h (.inl (34, N))) h.1 f) 26 1 (h.1 : Int)) s h.1 N := LiS.ed I1 (by rw [v1 26 _ t26]; exact hs) (by omega) hp1 tn (by omega) (by omega) (fun j hj => by
    obtain ⟨m, m1, m2⟩ := hel j hj
    exact ⟨m, by rw [row_eq]; exact m1, m2.mono o1 (v1 m _ m2.1)⟩)
  refine ⟨by rw [e]; exact I1.put26 (fun lo hi e9 => rg26_1 e9) q.lst, by rw [e]; exact Fr.putF (a := 26) (j := 1) (fr_new (Fr.rf _ h) rfl) rfl, hmc, by omega, by rw [e]; rfl, fun b t ht => by rw [e]; exact o1 b t ht, fun b t hb ht => funext fun i => by rw [e, wr_ne hb, v1 b t ht], fun j hj => by rw [← hf j hj, elS_of (by rw [e]; exact q : LiS H s h.1 N), e, wr_ne (by omega), row_eq], N, by rw [e]; exact q, hN.1⟩
set_option maxRecDepth 100000 in
theorem ct_Jx4a65c_grow_92f84 (l : Launch) (h : Hp) (hI : Inv h) (s : Nat) (hs : h.2.2 26 2 = (s : Int)) (h60 : s < 60) (hful : ∀ e n : Nat, LiS h s e n → n = s) (mn : Int) (hmn : mn = (s : Int) + 1) (hlt : h.1 + 1 ≤ 900000) : Ct l D_Jx4a65c_grow_92f84 3 124 [.inr (.inr 26), .inl mn] h (RRa (GW h s)) := by
  refine ct_of pn_Jx4a65c_grow_92f84 (Nat.le_of_ble_eq_true rfl) ?_
  show To l E_Jx4a65c_grow_92f84 (0, [(0, .inr (.inr 26)), (1, .inl mn)], [], h, 0, 0) _
  have t26 := hI.atS (a := 26) rfl
  have hp1 := hI.1.1
  refine to_aload_n (dat dk_Jx4a65c_grow_92f84 0 rfl) rfl ?_
  rcases hI.lis hs with ⟨g1, g2⟩ | ⟨e, n, q⟩
  · subst g2
    refine to_getR 1000000 g_c28_9 (dat dk_Jx4a65c_grow_92f84 1 rfl) t26 g1 ?_
    refine to_alenX (q := 0) (n := 0) (ty := .object "java/lang/Object") (cs := []) (List.mem_of_getElem? (i := 0) rfl) (dat dk_Jx4a65c_grow_92f84 2 rfl) ?_
    refine to_istore_n (L' := [(0, .inr (.inr 26)), (1, .inl mn), (2, .inl ((0 : Nat) : Int))]) (dat dk_Jx4a65c_grow_92f84 3 rfl) (by decide) rfl (to_iload_n (dat dk_Jx4a65c_grow_92f84 4 rfl) rfl ?_)
    refine to_ifgt 20 (dat dk_Jx4a65c_grow_92f84 5 rfl) rfl (by decide) (fun c1 => absurd c1 (by decide)) (fun c1 => ?_)
    refine to_aload_n (dat dk_Jx4a65c_grow_92f84 6 rfl) rfl (to_getR 1000000 g_c28_9 (dat dk_Jx4a65c_grow_92f84 7 rfl) t26 g1 ?_)
    refine to_gst (C := "java/util/ArrayList") (f9 := "DEFAULTCAPACITY_EMPTY_ELEMENTDATA") (d9 := "[Ljava/lang/Object;") (List.mem_of_getElem? (i := 0) rfl) (tin 1 95 (by decide +kernel) rfl) (dat dk_Jx4a65c_grow_92f84 8 rfl) ?_
    refine to_acmp_eqT (t := 45) (dat dk_Jx4a65c_grow_92f84 9 rfl) rfl ?_
    refine to_aload_n (dat dk_Jx4a65c_grow_92f84 27 rfl) rfl (to_bipush (dat dk_Jx4a65c_grow_92f84 28 rfl) (by decide) (to_iload_n (dat dk_Jx4a65c_grow_92f84 29 rfl) rfl ?_))
    refine to_mmax (tin 5 138 (by decide +kernel) rfl) (tin 5 105 (by decide +kernel) rfl) (tin 1 18 (by decide +kernel) rfl) (tin 5 106 (by decide +kernel) rfl) (dat dk_Jx4a65c_grow_92f84 30 rfl) (by decide) (by omega) rfl (fun r ar br => ?_)
    obtain ⟨N, rfl⟩ : ∃ N : Nat, r = (N : Int) := ⟨r.toNat, by omega⟩
    refine to_anewarrayZ 34 rfl (tin 5 139 (by decide +kernel) rfl) (tinN 5 136 (by decide +kernel) rfl) (dat dk_Jx4a65c_grow_92f84 31 rfl) (by omega) (by omega) ?_
    rw [Int.toNat_natCast]
    refine to_dup_x1 (dat dk_Jx4a65c_grow_92f84 32 rfl) rfl rfl (to_putRw p_c28_9 (dat dk_Jx4a65c_grow_92f84 33 rfl) (newA_old hI t26) (fun h2 e2 => ?_))
    exact to_aret rfl (Or.inr ⟨_, rfl⟩) (dat dk_Jx4a65c_grow_92f84 34 rfl) (rr_mka (gw_mk hI hs h60 (by omega) hlt (fun j hj => absurd hj (Nat.not_lt_zero j)) (fun j hj => absurd hj (Nat.not_lt_zero j)) e2 (by omega) (by omega)))
  · obtain ⟨q1, q2, q3, q4, q5, q6, q7, q8⟩ := id q
    have ens := hful e n q
    subst ens
    have at20 : To l E_Jx4a65c_grow_92f84 (20, [(0, .inr (.inr 26)), (1, .inl mn), (2, .inl (n : Int))], [], h, 0, 0) (RRa (GW h n)) := by
      refine to_iload_n (dat dk_Jx4a65c_grow_92f84 10 rfl) rfl (to_iload_n (dat dk_Jx4a65c_grow_92f84 11 rfl) rfl (to_iload_n (dat dk_Jx4a65c_grow_92f84 12 rfl) rfl (to_isub (dat dk_Jx4a65c_grow_92f84 13 rfl) (to_iload_n (dat dk_Jx4a65c_grow_92f84 14 rfl) rfl (to_iconst (dat dk_Jx4a65c_grow_92f84 15 rfl) (to_ishr1 (by omega) (dat dk_Jx4a65c_grow_92f84 16 rfl) (fun y hy => ?_)))))))
      refine to_cI ca_c28_73 (dat dk_Jx4a65c_grow_92f84 17 rfl) (ct_J8_newLength_cabcc l h hI (n : Int) (by omega) (mn - (n : Int)) (by omega) y (by omega) (by omega) (by omega) (by omega)) rfl trivial rfl (fun r h9 rr p => ?_)
      obtain ⟨rfl, p1⟩ := p
      obtain ⟨N, rfl⟩ : ∃ N : Nat, r = (N : Int) := ⟨r.toNat, by omega⟩
      refine to_istore_n (L' := [(0, .inr (.inr 26)), (1, .inl mn), (2, .inl (n : Int)), (3, .inl (N : Int))]) (dat dk_Jx4a65c_grow_92f84 18 rfl) (by decide) rfl (to_aload_n (dat dk_Jx4a65c_grow_92f84 19 rfl) rfl (to_aload_n (dat dk_Jx4a65c_grow_92f84 20 rfl) rfl (to_getR e g_c28_9 (dat dk_Jx4a65c_grow_92f84 21 rfl) t26 q3 (to_iload_n (dat dk_Jx4a65c_grow_92f84 22 rfl) rfl ?_))))
      refine to_cRa ca_c28_66 (dat dk_Jx4a65c_grow_92f84 23 rfl) (ct_J7_copyOf_1904c l h hI e n q5 N (by omega) q8 hlt) rfl trivial rfl (fun x H mc ms p => ?_)
      obtain ⟨rfl, p2, p3, f, rfl, p4⟩ := p
      refine to_dup_x1 (dat dk_Jx4a65c_grow_92f84 24 rfl) rfl rfl (to_putRw p_c28_9 (dat dk_Jx4a65c_grow_92f84 25 rfl) (newA_old hI t26) (fun h2 e2 => ?_))
      exact to_aret rfl (Or.inr ⟨_, rfl⟩) (dat dk_Jx4a65c_grow_92f84 26 rfl) (rr_mka (gw_mk hI hs h60 (by omega) hlt (fun j hj => by rw [p4 j hj]; exact q8 j hj) (fun j hj => by rw [p4 j hj, elS_of q]) e2 (by omega) (by omega)))
    refine to_getR e g_c28_9 (dat dk_Jx4a65c_grow_92f84 1 rfl) t26 q3 (to_alen (dat dk_Jx4a65c_grow_92f84 2 rfl) q5 (by omega) ?_)
    refine to_istore_n (L' := [(0, .inr (.inr 26)), (1, .inl mn), (2, .inl (n : Int))]) (dat dk_Jx4a65c_grow_92f84 3 rfl) (by decide) rfl (to_iload_n (dat dk_Jx4a65c_grow_92f84 4 rfl) rfl ?_)
    refine to_ifgt 20 (dat dk_Jx4a65c_grow_92f84 5 rfl) rfl (by omega) (fun c1 => at20) (fun c1 => ?_)
    refine to_aload_n (dat dk_Jx4a65c_grow_92f84 6 rfl) rfl (to_getR e g_c28_9 (dat dk_Jx4a65c_grow_92f84 7 rfl) t26 q3 ?_)
    refine to_gst (C := "java/util/ArrayList") (f9 := "DEFAULTCAPACITY_EMPTY_ELEMENTDATA") (d9 := "[Ljava/lang/Object;") (List.mem_of_getElem? (i := 0) rfl) (tin 1 95 (by decide +kernel) rfl) (dat dk_Jx4a65c_grow_92f84 8 rfl) ?_
    exact to_acmp_eqF (q := 0) (n := 0) (fty := .object "java/lang/Object") (cs := []) (t := 45) (List.mem_of_getElem? (i := 0) rfl) q5 (dat dk_Jx4a65c_grow_92f84 9 rfl) rfl at20
set_option maxRecDepth 100000 in
theorem ct_Jx4a65c_grow_d5877 (l : Launch) (h : Hp) (hI : Inv h) (s : Nat) (hs : h.2.2 26 2 = (s : Int)) (h60 : s < 60) (hful : ∀ e n : Nat, LiS h s e n → n = s) (hlt : h.1 + 1 ≤ 900000) : Ct l D_Jx4a65c_grow_d5877 4 147 [.inr (.inr 26)] h (RRa (GW h s)) := by
  refine ct_of pn_Jx4a65c_grow_d5877 (Nat.le_of_ble_eq_true rfl) ?_
  show To l E_Jx4a65c_grow_d5877 (0, [(0, .inr (.inr 26))], [], h, 0, 0) _
  have t26 := hI.atS (a := 26) rfl
  refine to_aload_n (dat dk_Jx4a65c_grow_d5877 0 rfl) rfl (to_aload_n (dat dk_Jx4a65c_grow_d5877 1 rfl) rfl (to_getIv (y := (s : Int)) hs g_c28_48 (dat dk_Jx4a65c_grow_d5877 2 rfl) t26 (to_iconst (dat dk_Jx4a65c_grow_d5877 3 rfl) (to_iadd (dat dk_Jx4a65c_grow_d5877 4 rfl) ?_))))
  refine to_cRa ca_c28_69 (dat dk_Jx4a65c_grow_d5877 5 rfl) (ct_Jx4a65c_grow_92f84 l h hI s hs h60 hful _ rfl hlt) rfl ⟨_, _, rfl, t26⟩ rfl (fun x H mc ms p => ?_)
  refine to_aret rfl (Or.inr ⟨_, rfl⟩) (dat dk_Jx4a65c_grow_d5877 6 rfl) (rr_mka ?_)
  rw [Nat.zero_add, Nat.zero_add]
  exact p
