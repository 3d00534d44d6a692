/-! The tag comes, or goes: the world's step. -/
theorem isTg.cg {r r' : Nat → Int} {n n' : Int} (e : EqT r n r' n') : isTg r n ↔ isTg r' n' := by
  obtain ⟨e1, e2⟩ := e
  subst e1
  exact ⟨fun q => ⟨q.1, fun i hi => by rw [← e2 i hi]; exact q.2 i hi⟩, fun q => ⟨q.1, fun i hi => by rw [e2 i hi]; exact q.2 i hi⟩⟩
theorem InR.cgR {h : Hp} {m : Int} {r r' : Nat → Int} {n n' : Int} (e : EqT r n r' n') : InR h m r n ↔ InR h m r' n' := ⟨fun ⟨t, a, b, c⟩ => ⟨t, a, b, c.tr e⟩, fun ⟨t, a, b, c⟩ => ⟨t, a, b, c.tr e.sy⟩⟩
theorem pw_one {l : List Int} (p : l.Pairwise (· < ·)) {i j : Nat} {a : Int} (hi : l[i]? = some a) (hj : l[j]? = some a) : i = j := by
  obtain ⟨i1, i2⟩ := List.getElem?_eq_some_iff.mp hi
  obtain ⟨j1, j2⟩ := List.getElem?_eq_some_iff.mp hj
  have q := List.pairwise_iff_getElem.mp p
  by_cases c : i < j
  · have := q i j i1 j1 c
    omega
  · by_cases d : j < i
    · have := q j i j1 i1 d
      omega
    · omega
theorem Only.fr {h H : Hp} {m : Nat} (o : Only h H m) (hI : Inv h) (fm : full h m) (t8 : T8 h m) : Fr [311, 337] h H := by
  obtain ⟨o1, o2, o3⟩ := o
  obtain ⟨T, a6, bT, tT⟩ := t8
  refine ⟨⟨by omega, fun a _ => by rw [o2]⟩, fun a j ha hc => ?_, fun _ => o3⟩
  refine o1 a j (fun e => ?_) ?_
  · rw [a6, Int.toNat_natCast] at e
    rw [e, tT, col_arr bT] at hc
    cases hc
  · by_cases c : a = m
    · refine Or.inr (fun e => ?_)
      rw [c, e, fm.1, col_msg (fm.big hI)] at hc
      cases hc
    · exact Or.inl c
theorem only_msg {h H : Hp} {M M' : Nat} (o : Only h H M) (hI : Inv h) (fm : full h M) (t8 : T8 h M) (fm' : full h M') (t8' : T8 h M') (hne : h.2.2 M' 6 ≠ h.2.2 M 6) : H.2.2 M' 6 = h.2.2 M' 6 ∧ H.2.2 M' 7 = h.2.2 M' 7 ∧ T8 H M' ∧ ∀ j : Int, tgr H M' j = tgr h M' j := by
  obtain ⟨o1, o2, o3⟩ := o
  obtain ⟨T, a6, bT, tT⟩ := t8
  obtain ⟨T', a6', bT', tT'⟩ := t8'
  have hT : M' ≠ T := fun e => by
    have q := fm'.1
    rw [e] at q
    cases q.symm.trans tT
  have hM : M' ≠ M := fun e => hne (by rw [e])
  have hTM : T' ≠ M := fun e => by
    have q := fm.1
    rw [← e] at q
    cases q.symm.trans tT'
  have hTT : T' ≠ T := fun e => hne (by rw [a6, a6', e])
  have k6 : H.2.2 M' 6 = h.2.2 M' 6 := o1 M' 6 (by rw [a6, Int.toNat_natCast]; exact hT) (Or.inl hM)
  refine ⟨k6, o1 M' 7 (by rw [a6, Int.toNat_natCast]; exact hT) (Or.inl hM), ⟨T', k6.trans a6', bT', by rw [o2]; exact tT'⟩, fun j => ?_⟩
  unfold tgr
  rw [k6, a6', Int.toNat_natCast]
  exact o1 T' _ (by rw [a6, Int.toNat_natCast]; exact hTT) (Or.inl hTM)
theorem nums_lt {h : Hp} {i : Nat} {n : Int} (e : (nums h)[i]? = some n) : i < (h.2.2 26 2).toNat := by
  by_cases c : i < (h.2.2 26 2).toNat
  · exact c
  · rw [nums_none (by omega)] at e
    cases e
abbrev SF3 : List Nat := [105, 999, 200, 203, 66, 67, 68]
/-- the message's own tags are told; the others' stay -/
theorem TGW.step {h1 h2 Hc H2 : Hp} {n i : Int} {M : Nat} (t : TGW h1) (I1 : Inv h1) (tm : TM h1 n i M) (pw : (nums h1).Pairwise (· < ·)) (I2 : Inv h2) (fe : Fr SE20 h1 h2) (b2 : BI h2) (x2 : BX h1 h2) (on : Only h2 Hc M) (Ic : Inv Hc) (f3 : Fr SF3 Hc H2) (eo : ∀ m ∈ nums h1, m ≠ n → tcn H2 m = tcn h1 m ∧ ∀ s : Int, 0 ≤ s → s < tcn h1 m → EqT (tb H2 (8 * m + s)) (ts H2 (8 * m + s)) (tb h1 (8 * m + s)) (ts h1 (8 * m + s))) (own : BX h1 H2 → TGM H2 M n) : TGW H2 := by
  obtain ⟨tm0, tm1, tm2, tm3⟩ := tm
  have hi := nums_lt tm1
  have tp := t.tgp
  obtain ⟨b0, t1, t2⟩ := t
  have t8 := tp _ _ hi tm2
  have fm2 := full.fr fe rfl I1 tm3
  have q2 := msg_fr fe I1 tm3 t8 rfl
  have f2 := Only.fr on I2 fm2 q2.2.2.1
  obtain ⟨b3, x3⟩ := BI.fr f2 I2 rfl b2
  obtain ⟨b4, x4⟩ := BI.fr f3 Ic rfl b3
  have bx : BX h1 H2 := (x2.tr x3).tr x4
  have n2 : nums H2 = nums h1 := ((nums_fr f3 Ic rfl).trans (nums_fr f2 I2 rfl)).trans (nums_fr fe I1 rfl)
  have c1 : h2.2.2 26 2 = h1.2.2 26 2 := fe.2.1 26 2 (I1.ltN (I1.atS (a := 26) rfl)) rfl
  have c2 : Hc.2.2 26 2 = h2.2.2 26 2 := f2.2.1 26 2 (I2.ltN (I2.atS (a := 26) rfl)) rfl
  have c3 : H2.2.2 26 2 = Hc.2.2 26 2 := f3.2.1 26 2 (Ic.ltN (Ic.atS (a := 26) rfl)) rfl
  have el : ∀ j : Nat, j < (h1.2.2 26 2).toNat → elS H2 j = elS h1 j := fun j hj => ((elS_fr f3 Ic rfl (by omega)).trans (elS_fr f2 I2 rfl (by omega))).trans (elS_fr fe I1 rfl hj)
  have oth : ∀ (j M' : Nat), j < (h1.2.2 26 2).toNat → j ≠ i.toNat → elS h1 j = (M' : Int) → H2.2.2 M' 6 = h1.2.2 M' 6 ∧ H2.2.2 M' 7 = h1.2.2 M' 7 ∧ T8 H2 M' ∧ ∀ s : Int, tgr H2 M' s = tgr h1 M' s := by
    intro j M' hj hne hM
    have fM := full_at I1 hj hM
    have a := msg_fr fe I1 fM (tp j M' hj hM) rfl
    have fM2 := full.fr fe rfl I1 fM
    have b := only_msg on I2 fm2 q2.2.2.1 fM2 a.2.2.1 (by rw [a.1, q2.1]; exact t2 j _ M' M hj hi hne hM tm2)
    have c := msg_fr f3 Ic (full.fr f2 rfl I2 fM2) b.2.2.1 rfl
    exact ⟨c.1.trans (b.1.trans a.1), c.2.1.trans (b.2.1.trans a.2.1), c.2.2.1, fun s => (c.2.2.2 s).trans ((b.2.2.2 s).trans (a.2.2.2 s))⟩
  have own6 : H2.2.2 M 6 = h1.2.2 M 6 := by
    have a : Hc.2.2 M 6 = h2.2.2 M 6 := by
      obtain ⟨T, a6, bT, tT⟩ := q2.2.2.1
      refine on.1 M 6 (fun e => ?_) (Or.inr (by decide))
      rw [a6, Int.toNat_natCast] at e
      have q := fm2.1
      rw [e] at q
      cases q.symm.trans tT
    have hc := full.fr f2 rfl I2 fm2
    have b : H2.2.2 M 6 = Hc.2.2 M 6 := f3.2.1 M 6 (Ic.ltN hc.1) (by rw [hc.1, col_msg (hc.big Ic)]; rfl)
    exact b.trans (a.trans q2.1)
  have same : ∀ M' : Nat, elS h1 i.toNat = (M' : Int) → M' = M := fun M' e => by
    have := e.symm.trans tm2
    omega
  refine ⟨b4, fun j M' m hj hM hm => ?_, fun j j' M1 M2 hj hj' hne hM1 hM2 => ?_⟩
  · have hj1 : j < (h1.2.2 26 2).toNat := by omega
    rw [el j hj1] at hM
    rw [n2] at hm
    by_cases c : j = i.toNat
    · subst c
      have em : m = n := by
        have q := hm.symm.trans tm1
        exact Option.some.inj q
      rw [same M' hM, em]
      exact own bx
    · have o := oth j M' hj1 c hM
      have z := eo m (List.mem_of_getElem? hm) (fun e => c (pw_one pw hm (by rw [e]; exact tm1)))
      exact (t1 j M' m hj1 hM hm).mv o.2.1 o.2.2.1 o.2.2.2 bx z.1 z.2
  · have hj1 : j < (h1.2.2 26 2).toNat := by omega
    have hj2 : j' < (h1.2.2 26 2).toNat := by omega
    rw [el j hj1] at hM1
    rw [el j' hj2] at hM2
    have k : ∀ (s Ms : Nat), s < (h1.2.2 26 2).toNat → elS h1 s = (Ms : Int) → H2.2.2 Ms 6 = h1.2.2 Ms 6 := by
      intro s Ms hs hMs
      by_cases c : s = i.toNat
      · subst c
        rw [same Ms hMs]
        exact own6
      · exact (oth s Ms hs c hMs).1
    rw [k j M1 hj1 hM1, k j' M2 hj2 hM2]
    exact t2 j j' M1 M2 hj1 hj2 hne hM1 hM2
/-- whether the message has the tag -/
theorem TGM.has {h : Hp} {M : Nat} {m nm : Int} (t : TGM h M m) (b : BI h) (f : TF h nm) : (nm ≠ -1 ∧ InN h M nm) ↔ InR h m (h.2.2 7) (h.2.2 6 1) := by
  obtain ⟨-, t1, t2, t3, t4, t5⟩ := t
  rw [← t4]
  rcases f with ⟨f1, f2⟩ | ⟨f1, f2, f3⟩
  · exact ⟨fun q => absurd f1 q.1, fun ⟨j, j0, j1, e⟩ => absurd e (f2 _ (t2 j j0 j1).1 (t2 j j0 j1).2)⟩
  · refine ⟨fun ⟨_, j, j0, j1, e⟩ => ⟨j, j0, j1, by rw [e]; exact f3⟩, fun ⟨j, j0, j1, e⟩ => ⟨by omega, j, j0, j1, b.one (t2 j j0 j1) ⟨f1, f2⟩ e f3⟩⟩
