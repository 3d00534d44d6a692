/-! A message is added to the list, and removed from it. -/
def AW (h : Hp) (s m : Nat) (H : Hp) (mc ms : Nat) : Prop := Inv H ∧ Fr [26, 313, 999] h H ∧ mc ≤ 1 ∧ ms ≤ 200 ∧ H.1 = h.1 + mc ∧ H.2.2 26 2 = ((s + 1 : Nat) : Int) ∧ (∀ j, j < s → elS H j = elS h j) ∧ elS H s = (m : Int)
set_option maxRecDepth 100000 in
theorem ct_Jx4a65c_add_72be8 (l : Launch) (h : Hp) (hI : Inv h) (m : Nat) (hm : full h m) (ed s : Nat) (hed : h.2.2 26 1 = (ed : Int)) (hs : h.2.2 26 2 = (s : Int)) (h60 : s < 60) (hlt : h.1 + 1 ≤ 900000) : Ct l D_Jx4a65c_add_72be8 5 167 [.inr (.inr 26), .inr (.inr m), .inr (.inr ed), .inl (s : Int)] h (RVa (AW h s m)) := by
  refine ct_of pn_Jx4a65c_add_72be8 (Nat.le_of_ble_eq_true rfl) ?_
  show To l E_Jx4a65c_add_72be8 (0, [(0, .inr (.inr 26)), (1, .inr (.inr m)), (2, .inr (.inr ed)), (3, .inl (s : Int))], [], h, 0, 0) _
  have m6 := hm.big hI
  have at11 : ∀ (ed N k z : Nat) (H : Hp), Inv H → Fr [26, 313, 999] h H → LiS H s ed N → s < N → full H m → k ≤ 1 → z ≤ 200 → H.1 = h.1 + k → (∀ j, j < s → elS H j = elS h j) → To l E_Jx4a65c_add_72be8 (11, [(0, .inr (.inr 26)), (1, .inr (.inr m)), (2, .inr (.inr ed)), (3, .inl (s : Int))], [], H, k, z) (RVa (AW h s m)) := by
    intro ed N k z H I F q hN fm hk hz hH hel
    obtain ⟨q1, q2, q3, q4, q5, q6, q7, q8⟩ := id q
    refine to_aload_np (dat dk_Jx4a65c_add_72be8 7 rfl) (by omega) rfl (to_iload_n (dat dk_Jx4a65c_add_72be8 8 rfl) rfl (to_aload_np (dat dk_Jx4a65c_add_72be8 9 rfl) (by omega) rfl ?_))
    refine to_aast (ci := 5) rfl (tinN 9 47 (by decide +kernel) rfl) (dat dk_Jx4a65c_add_72be8 10 rfl) q5 rfl fm.1 (by omega) (by omega) ?_
    rw [Int.toNat_natCast]
    have L1 : LiS (wr H ed s (m : Int)) s ed N := q.st (fun hj => absurd hj (Nat.lt_irrefl s))
    have I1 : Inv (wr H ed s (m : Int)) := I.put34 q5 L1.lst
    have F1 : Fr [26, 313, 999] h (wr H ed s (m : Int)) := Fr.putA F I q5 (by decide +kernel)
    have t26 := I1.atS (a := 26) rfl
    refine to_aload_n (dat dk_Jx4a65c_add_72be8 11 rfl) rfl (to_iload_n (dat dk_Jx4a65c_add_72be8 12 rfl) rfl (to_iconst (dat dk_Jx4a65c_add_72be8 13 rfl) (to_iadd (dat dk_Jx4a65c_add_72be8 14 rfl) (to_putIw p_c28_48 (dat dk_Jx4a65c_add_72be8 15 rfl) t26 (fun h2 e2 => ?_)))))
    have e2 : h2 = wr (wr H ed s (m : Int)) 26 2 ((s + 1 : Nat) : Int) := e2
    have L2 : LiS h2 (s + 1) ed N := by
      rw [e2]
      refine L1.sz I1 (by omega) (by omega) (fun j j1 j2 => ?_)
      have ej : j = s := by omega
      subst ej
      exact ⟨m, wr_eq, fm.putA q5⟩
    have I2 : Inv h2 := by rw [e2]; exact I1.put26 (fun lo hi e => rg26_2 (by unfold I32; omega) e) (by rw [← e2]; exact L2.lst)
    have F2 : Fr [26, 313, 999] h h2 := by rw [e2]; exact Fr.putF (a := 26) (j := 2) F1 rfl
    exact to_vret rfl (dat dk_Jx4a65c_add_72be8 16 rfl) (rv_mka ⟨I2, F2, hk, hz, by rw [e2]; exact hH, L2.1, fun j hj => by rw [← hel j hj, elS_of L2, elS_of q, e2, wr_ne (by omega), wr_ne2 (by omega)], by rw [elS_of L2, e2, wr_ne (by omega), wr_eq]⟩)
  have t26 := hI.atS (a := 26) rfl
  have full26 : (∀ e n : Nat, LiS h s e n → n = s) → To l E_Jx4a65c_add_72be8 (6, [(0, .inr (.inr 26)), (1, .inr (.inr m)), (2, .inr (.inr ed)), (3, .inl (s : Int))], [], h, 0, 0) (RVa (AW h s m)) := by
    intro hful
    refine to_aload_n (dat dk_Jx4a65c_add_72be8 4 rfl) rfl ?_
    refine to_cRa ca_c28_129 (dat dk_Jx4a65c_add_72be8 5 rfl) (ct_Jx4a65c_grow_d5877 l h hI s hs h60 hful hlt) rfl ⟨_, _, rfl, t26⟩ rfl (fun x H mc ms p => ?_)
    obtain ⟨p1, p2, p3, p4, p5, p6, p7, pe, N, p8, p9⟩ := p
    have x6 := p8.2.2.2.1
    refine to_astore_n (L' := [(0, .inr (.inr 26)), (1, .inr (.inr m)), (2, .inr (.inr x)), (3, .inl (s : Int))]) (dat dk_Jx4a65c_add_72be8 6 rfl) (by omega) (by decide) rfl ?_
    exact at11 x N _ _ H p1 p2 p8 p9 (hm.mono p6 (p7 m _ (by omega) hm.1)) (by omega) (by omega) (by omega) pe
  rcases hI.lis hs with ⟨g1, g2⟩ | ⟨e, n, q⟩
  · subst g2
    have ee : ed = 1000000 := by omega
    subst ee
    refine to_iload_n (dat dk_Jx4a65c_add_72be8 0 rfl) rfl (to_aload_n (dat dk_Jx4a65c_add_72be8 1 rfl) rfl (to_alenX (q := 0) (n := 0) (ty := .object "java/lang/Object") (cs := []) (List.mem_of_getElem? (i := 0) rfl) (dat dk_Jx4a65c_add_72be8 2 rfl) ?_))
    refine to_ine 11 (dat dk_Jx4a65c_add_72be8 3 rfl) rfl (by decide) (by decide) (fun c1 => absurd rfl c1) (fun c1 => ?_)
    exact full26 (fun e n q => by
      have := q.2.2.1
      have := hI.ltN q.2.2.2.2.1
      have := hI.1.2.1
      omega)
  · obtain ⟨q1, q2, q3, q4, q5, q6, q7, q8⟩ := id q
    have ee : ed = e := by omega
    subst ee
    refine to_iload_n (dat dk_Jx4a65c_add_72be8 0 rfl) rfl (to_aload_np (dat dk_Jx4a65c_add_72be8 1 rfl) (by omega) rfl (to_alen (dat dk_Jx4a65c_add_72be8 2 rfl) q5 (by omega) ?_))
    refine to_ine 11 (dat dk_Jx4a65c_add_72be8 3 rfl) rfl (by omega) (by omega) (fun c1 => ?_) (fun c1 => ?_)
    · exact at11 ed n 0 0 h hI (Fr.rf _ _) q (by omega) hm (by omega) (by omega) rfl (fun _ _ => rfl)
    · exact full26 (fun e' n' q' => by
        have e1 : e' = ed := by have := q'.2.2.1; omega
        subst e1
        have := q'.2.2.2.2.1.symm.trans q5
        cases this
        omega)
set_option maxRecDepth 100000 in
theorem ct_Jx4a65c_add_9ea2d (l : Launch) (h : Hp) (hI : Inv h) (m : Nat) (hm : full h m) (s : Nat) (hs : h.2.2 26 2 = (s : Int)) (h60 : s < 60) (hlt : h.1 + 1 ≤ 900000) : Ct l D_Jx4a65c_add_9ea2d 6 190 [.inr (.inr 26), .inr (.inr m)] h (RIa (fun x H mc ms => (x = 0 ∨ x = 1) ∧ AW h s m H mc ms)) := by
  refine ct_of pn_Jx4a65c_add_9ea2d (Nat.le_of_ble_eq_true rfl) ?_
  show To l E_Jx4a65c_add_9ea2d (0, [(0, .inr (.inr 26)), (1, .inr (.inr m))], [], h, 0, 0) _
  have m6 := hm.big hI
  have t26 := hI.atS (a := 26) rfl
  obtain ⟨x1, ex1⟩ : ∃ y : Int, h.2.2 26 0 = y := ⟨_, rfl⟩
  refine to_aload_n (dat dk_Jx4a65c_add_9ea2d 0 rfl) rfl (to_dup (dat dk_Jx4a65c_add_9ea2d 1 rfl) rfl (to_getIv (y := x1) ex1 g_c28_63 (dat dk_Jx4a65c_add_9ea2d 2 rfl) t26 (to_iconst (dat dk_Jx4a65c_add_9ea2d 3 rfl) (to_iaddA (dat dk_Jx4a65c_add_9ea2d 4 rfl) (fun y ry => ?_)))))
  refine to_putIw p_c28_63 (dat dk_Jx4a65c_add_9ea2d 5 rfl) t26 (fun h1 e1 => ?_)
  have I1 : Inv h1 := by rw [e1]; exact hI.put (a := 26) (j := 0) (-2147483648) (2147483647) rfl rfl (by unfold I32 at ry; omega)
  have F1 : Fr [26, 313, 999] h h1 := by rw [e1]; exact Fr.putF (a := 26) (j := 0) (Fr.rf _ _) rfl
  have hs1 : h1.2.2 26 2 = (s : Int) := by rw [e1, wr_ne2 (by decide)]; exact hs
  have hm1 : full h1 m := by rw [e1]; exact full.putF hI (by decide) hm
  have z1 : h1.1 = h.1 := by rw [e1]; rfl
  have t261 := I1.atS (a := 26) rfl
  have hX : (h.2.2 26 1).toNat ≠ 26 := by
    rcases hI.lis hs with ⟨g1, -⟩ | ⟨e, n, q⟩
    · omega
    · have := q.2.2.1
      have := q.2.2.2.1
      omega
  have a9 : h1.2.2 26 1 = h.2.2 26 1 := by rw [e1, wr_ne2 (by decide)]
  have eX : ∀ j, elS h1 j = elS h j := fun j => by
    show h1.2.2 (h1.2.2 26 1).toNat j = h.2.2 (h.2.2 26 1).toNat j
    rw [a9, e1, wr_ne hX]
  have fin : ∀ ed : Nat, 0 < ed → h1.2.2 26 1 = (ed : Int) → To l E_Jx4a65c_add_9ea2d (10, [(0, .inr (.inr 26)), (1, .inr (.inr m))], [], h1, 0, 0) (RIa (fun x H mc ms => (x = 0 ∨ x = 1) ∧ AW h s m H mc ms)) := by
    intro ed ep hed
    refine to_aload_n (dat dk_Jx4a65c_add_9ea2d 6 rfl) rfl (to_aload_np (dat dk_Jx4a65c_add_9ea2d 7 rfl) (by omega) rfl (to_aload_n (dat dk_Jx4a65c_add_9ea2d 8 rfl) rfl (to_getR ed g_c28_9 (dat dk_Jx4a65c_add_9ea2d 9 rfl) t261 hed (to_aload_n (dat dk_Jx4a65c_add_9ea2d 10 rfl) rfl (to_getIv (y := (s : Int)) hs1 g_c28_48 (dat dk_Jx4a65c_add_9ea2d 11 rfl) t261 ?_)))))
    refine to_cVa ca_c28_131 (dat dk_Jx4a65c_add_9ea2d 12 rfl) (ct_Jx4a65c_add_72be8 l h1 I1 m hm1 ed s hed hs1 h60 (by omega)) rfl ⟨_, _, rfl, t261⟩ rfl (fun H mc ms p => ?_)
    obtain ⟨p1, p2, p3, p4, p5, p6, p7, p8⟩ := p
    refine to_iconst (dat dk_Jx4a65c_add_9ea2d 13 rfl) ?_
    exact to_zret rfl (dat dk_Jx4a65c_add_9ea2d 14 rfl) (by decide) (ri_mka (by decide) ⟨Or.inr rfl, p1, Fr.sub F1 p2 rfl, by omega, by omega, by omega, p6, fun j hj => (p7 j hj).trans (eX j), p8⟩)
  rcases I1.lis hs1 with ⟨g1, g2⟩ | ⟨e, n, q⟩
  · exact fin 1000000 (by decide) g1
  · exact fin e (by have := q.2.2.2.1; omega) q.2.2.1
