/-! The book of tags over a new room, and with a new entry. -/
theorem b8_v {v w x : Int} (hv : -128 ≤ v ∧ v ≤ 127) (hx : x = w % 256) (hw : w = v) : b8 x = v := by
  rw [hx, hw]
  exact b8_mod v hv
theorem rwv_1 (h : Hp) (k : Int) : nx_ h k = rwv h 20 1 k.toNat := rfl
theorem rwv_2 (h : Hp) (k : Int) : st_ h k = rwv h 20 2 k.toNat := rfl
theorem rwv_4 (h : Hp) (k : Int) : by_ h k = rwv h 20 4 k.toNat := rfl
/-- rows that tell the same as far as the book goes -/
theorem BI.same {h H : Hp} (b : BI h) (hE : 0 ≤ bE h) (eE : bE H = bE h) (es : ∀ k : Int, 0 ≤ k → k ≤ bE h → st_ H k = st_ h k) (ex : ∀ k : Int, 0 ≤ k → k < bE h → nx_ H k = nx_ h k) (eb : ∀ i : Int, 0 ≤ i → i < st_ h (bE h) → by_ H i = by_ h i) (eh : ∀ s : Int, 0 ≤ s → s < 1024 → hd_ H s = hd_ h s) (hl : len h (h.2.2 20 4).toNat ≤ len H (H.2.2 20 4).toNat) : BI H ∧ BX h H := by
  have old : ∀ k : Int, 0 ≤ k → k < bE h → EqT (tx H k) (tn H k) (tx h k) (tn h k) := fun k k0 k1 => by
    have m2 := b.le (show 0 ≤ k + 1 by omega) (show k + 1 ≤ bE h by omega) (Int.le_refl _)
    have m0 := b.ge0 k0 (by omega)
    have a1 := es k k0 (by omega)
    have a2 := es (k + 1) (by omega) (by omega)
    unfold tn
    refine ⟨by rw [a1, a2], fun i hi => ?_⟩
    rw [a1, a2] at hi
    unfold tx
    rw [a1]
    exact eb _ (by omega) (by omega)
  have so : ∀ k : Int, 0 ≤ k → k < bE h → slE H k = slE h k := fun k k0 k1 => slF_cg (old k k0 k1)
  refine ⟨⟨⟨by rw [es 0 (by decide) hE]; exact b.1.1, fun k k0 k1 => ?_⟩, ?_, fun q q0 q1 => ?_, fun k k0 k1 => ?_, fun i j i0 ij j1 e => ?_⟩, ⟨by omega, old⟩⟩
  · rw [es k k0 (by omega), es (k + 1) (by omega) (by omega)]
    exact b.1.2 k k0 (by omega)
  · rw [eE, es _ hE (Int.le_refl _)]
    exact Int.le_trans b.2.1 hl
  · unfold HdOK
    rw [eE, eh q q0 q1]
    obtain ⟨p1, p2, p3⟩ := b.2.2.1 q q0 q1
    exact ⟨p1, fun z => (so _ z (by omega)).trans (p2 z), fun j j1 j2 => by rw [so j (by omega) j2]; exact p3 j j1 j2⟩
  · unfold NxOK
    rw [ex k k0 (by omega)]
    obtain ⟨p1, p2, p3⟩ := b.2.2.2.1 k k0 (by omega)
    exact ⟨p1, fun z => by rw [so _ z (by omega), so k k0 (by omega)]; exact p2 z, fun j j1 j2 => by rw [so j (by omega) (by omega), so k k0 (by omega)]; exact p3 j j1 j2⟩
  · have o1 := old i i0 (by omega)
    have o2 := old j (by omega) (by omega)
    exact b.2.2.2.2 i j i0 ij (by omega) ((o1.sy.tr e).tr o2)
theorem BI.room {h H : Hp} (kb : BkW h 20 80) (b : BI h) (c : CPb h H 20) (e5 : H.2.2 20 5 = h.2.2 20 5) (e21 : H.2.2 21 = h.2.2 21) (hE : 0 ≤ h.2.2 20 5) : BI H ∧ BX h H := by
  obtain ⟨nx, st, rd, rw_, nn, ns, nr, nw, ⟨⟨a1, a2, a3, a4⟩, ⟨u1, u2, u3, u4⟩, -⟩, n1, n2, n3, n4, n5, n6, n7⟩ := kb
  obtain ⟨c1, c1'⟩ := c 1 (Or.inl rfl)
  obtain ⟨c2, c2'⟩ := c 2 (Or.inr (Or.inl rfl))
  obtain ⟨c4, c4'⟩ := c 4 (Or.inr (Or.inr rfl))
  have l1 : len h (h.2.2 20 1).toNat = (nn : Int) := by rw [a1, Int.toNat_natCast]; exact len_of u1
  have l2 : len h (h.2.2 20 2).toNat = (ns : Int) := by rw [a2, Int.toNat_natCast]; exact len_of u2
  have l4 : len h (h.2.2 20 4).toNat = (nw : Int) := by rw [a4, Int.toNat_natCast]; exact len_of u4
  rw [l1] at c1 c1'
  rw [l2] at c2 c2'
  have b2 := b.2.1
  have bEh : bE h = h.2.2 20 5 := rfl
  refine b.same hE e5 (fun k k0 k1 => ?_) (fun k k0 k1 => ?_) (fun i i0 i1 => ?_) (fun s _ _ => by unfold hd_; rw [e21]) c4
  · rw [rwv_2, rwv_2]
    exact c2' _ (by omega)
  · rw [rwv_1, rwv_1]
    exact c1' _ (by omega)
  · rw [rwv_4, rwv_4]
    exact c4' _ (by omega)
theorem BI.new {H1 H' A1 A2 A3 H : Hp} {nx st rd rw_ nn ns nr nw : Nat} {E0 S0 g sl x y : Int} {r : Nat → Int} (I1 : Inv H1) (r1 : BkR H1 20 80 nx st rd rw_ nn ns nr nw) (rH : BkR H 20 80 nx st rd rw_ nn ns nr nw) (b : BI H1) (no : ∀ k : Int, 0 ≤ k → k < bE H1 → ¬ EqB H1 k r g) (eE : bE H1 = E0) (eS : st_ H1 (bE H1) = S0)
    (oa : ∀ a i : Nat, a ≠ rw_ → H'.2.2 a i = H1.2.2 a i) (ob : ∀ i : Int, 0 ≤ i → i < S0 → H'.2.2 rw_ i.toNat = H1.2.2 rw_ i.toNat) (nb : ∀ i : Nat, (i : Int) < g → H'.2.2 rw_ (Int.toNat (S0 + i)) = r i)
    (hs : sl = slF r g) (h0 : 0 ≤ sl ∧ sl ≤ 1023) (hx : H'.2.2 21 (Int.toNat sl) = x) (e1 : A1 = wr H' nx (Int.toNat E0) (x - 1)) (e2 : A2 = wr A1 21 (Int.toNat sl) (E0 + 1)) (e3 : A3 = wr A2 20 5 (E0 + 1)) (e4 : H = wr A3 st (Int.toNat (E0 + 1)) y) (hy : y = S0 + g) (hl : S0 + g ≤ nw) (hE : 0 ≤ E0) (hg : 0 ≤ g) : BI H ∧ BX H1 H ∧ EqB H E0 r g := by
  obtain ⟨⟨a1, a2, a3, a4⟩, ⟨u1, u2, u3, u4⟩, -⟩ := r1
  obtain ⟨⟨c1, c2, c3, c4⟩, ⟨t1, t2, t3, t4⟩, -⟩ := rH
  have k20 := I1.atS (a := 20) rfl
  have k21 := I1.atS (a := 21) rfl
  have ne : ∀ (p q k n k' n' : Nat), H1.2.1 p = some (.inl (k, n)) → H1.2.1 q = some (.inl (k', n')) → k ≠ k' → p ≠ q := fun p q k n k' n' hp hq hk e => by
    subst e
    cases hp.symm.trans hq
    exact hk rfl
  have ne20 : ∀ (p k n : Nat), H1.2.1 p = some (.inl (k, n)) → p ≠ 20 := fun p k n hp e => by
    subst e
    cases hp.symm.trans k20
  have n1 := ne _ _ _ _ _ _ u1 u2 (by decide)
  have n2 := ne _ _ _ _ _ _ u1 u4 (by decide)
  have n3 := ne _ _ _ _ _ _ u2 u4 (by decide)
  have n4 := ne _ _ _ _ _ _ u1 k21 (by decide)
  have n5 := ne _ _ _ _ _ _ u2 k21 (by decide)
  have n6 := ne _ _ _ _ _ _ u4 k21 (by decide)
  have m1 := ne20 _ _ _ u1
  have m2 := ne20 _ _ _ u2
  have m4 := ne20 _ _ _ u4
  have vrw : ∀ i, H.2.2 rw_ i = H'.2.2 rw_ i := fun i => by rw [e4, wr_ne (fun e => n3 e.symm), e3, wr_ne m4, e2, wr_ne n6, e1, wr_ne (fun e => n2 e.symm)]
  have vst : ∀ i, i ≠ Int.toNat (E0 + 1) → H.2.2 st i = H1.2.2 st i := fun i hi => by rw [e4, wr_ne2 hi, e3, wr_ne m2, e2, wr_ne n5, e1, wr_ne (fun e => n1 e.symm), oa _ _ n3]
  have vnx : ∀ i, i ≠ Int.toNat E0 → H.2.2 nx i = H1.2.2 nx i := fun i hi => by rw [e4, wr_ne n1, e3, wr_ne m1, e2, wr_ne n4, e1, wr_ne2 hi, oa _ _ n2]
  have vhd : ∀ i, i ≠ Int.toNat sl → H.2.2 21 i = H1.2.2 21 i := fun i hi => by rw [e4, wr_ne (fun e => n5 e.symm), e3, wr_ne (by decide), e2, wr_ne2 hi, e1, wr_ne (fun e => n4 e.symm), oa _ _ (fun e => n6 e.symm)]
  have gs : ∀ k : Int, st_ H k = H.2.2 st k.toNat := fun k => by unfold st_; rw [c2, Int.toNat_natCast]
  have gs1 : ∀ k : Int, st_ H1 k = H1.2.2 st k.toNat := fun k => by unfold st_; rw [a2, Int.toNat_natCast]
  have gx : ∀ k : Int, nx_ H k = H.2.2 nx k.toNat := fun k => by unfold nx_; rw [c1, Int.toNat_natCast]
  have gx1 : ∀ k : Int, nx_ H1 k = H1.2.2 nx k.toNat := fun k => by unfold nx_; rw [a1, Int.toNat_natCast]
  have gb : ∀ k : Int, by_ H k = H.2.2 rw_ k.toNat := fun k => by unfold by_; rw [c4, Int.toNat_natCast]
  have gb1 : ∀ k : Int, by_ H1 k = H1.2.2 rw_ k.toNat := fun k => by unfold by_; rw [a4, Int.toNat_natCast]
  have hx1 : H1.2.2 21 (Int.toNat sl) = x := by rw [← oa 21 _ (fun e => n6 e.symm)]; exact hx
  have r' := BI.enter (h := H1) (H := H) (r := r) (n := g) (s := sl) b (by omega) hg no
    (by unfold bE at eE ⊢; rw [e4, wr_ne (fun e => m2 e.symm), e3, wr_eq, eE])
    (fun i i0 i1 => by rw [gb, gb1, vrw]; exact ob i i0 (by omega))
    (fun i hi => by rw [gb, vrw, eS]; exact nb i hi)
    (fun k k0 k1 => by rw [gs, gs1]; exact vst _ (by omega))
    (by rw [eS, eE, gs, e4, wr_eq, hy])
    (fun k k0 k1 => by rw [gx, gx1]; exact vnx _ (by omega))
    (by rw [gx, eE, e4, wr_ne n1, e3, wr_ne m1, e2, wr_ne n4, e1, wr_eq]; unfold hd_; rw [hx1])
    hs ⟨h0.1, by omega⟩
    (fun q q0 q1 => by
      unfold hd_
      by_cases c : q = sl
      · rw [if_pos c, c, eE, e4, wr_ne (fun e => n5 e.symm), e3, wr_ne (by decide), e2, wr_eq]
      · rw [if_neg c]; exact vhd _ (by omega))
    (by rw [eS, c4, Int.toNat_natCast, len_of t4]; exact hl)
  rw [eE] at r'
  exact r'
