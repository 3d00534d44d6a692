/-! What frames leave of the book of tags and of messages' tags. -/
def kOK (k c : Nat) : Bool := (List.range 106).all fun a => match fixTy a with
  | none => true
  | some t => match t with
    | .inr _ => true
    | .inl q => !(Nat.beq q.1 k) || Nat.beq a c
theorem k_col {h : Hp} (hI : Inv h) {k c a n i : Nat} (hk : kOK k c = true) (hc : ∀ t, col t c i = c) (ta : h.2.1 a = some (.inl (k, n))) : col (h.2.1 a) a i = c ∨ col (h.2.1 a) a i = 310 + k / 10 := by
  by_cases ha : a < 106
  · have h1 := List.all_eq_true.mp hk a (List.mem_range.mpr ha)
    cases hf : fixTy a with
    | none =>
      exfalso
      have h2 : ∀ a, a < 106 → fixTy a = none → a = 0 := by decide +kernel
      have h3 := h2 a ha hf
      have h4 := hI.posN ta
      omega
    | some t =>
      have h2 := hI.1.2.2.1 a t hf
      cases ta.symm.trans h2
      rw [hf] at h1
      simp only [Nat.beq_refl, Bool.not_true, Bool.false_or] at h1
      have e := Nat.eq_of_beq_eq_true h1
      subst e
      exact Or.inl (hc _)
  · rw [ta, col_arr (by omega)]
    exact Or.inr rfl
def b20 (S : List Nat) : Bool := !S.contains 20 && (!S.contains 21 && (!S.contains 22 && (!S.contains 23 && (!S.contains 25 && (!S.contains 358 && (!S.contains 318 && !S.contains 378))))))
theorem row_fr {S : List Nat} {h H : Hp} (f : Fr S h H) (hI : Inv h) {k c a n : Nat} (hk : kOK k c = true) (hc : ∀ i t, col t c i = c) (ta : h.2.1 a = some (.inl (k, n))) (s1 : S.contains c = false) (s2 : S.contains (310 + k / 10) = false) : ∀ i, H.2.2 a i = h.2.2 a i := fun i => f.2.1 a i (hI.ltN ta) (by
  rcases k_col (i := i) hI hk (hc i) ta with e | e
  · rw [e]; exact s1
  · rw [e]; exact s2)
theorem BI.fr {S : List Nat} {h H : Hp} (f : Fr S h H) (hI : Inv h) (hs : b20 S = true) (b : BI h) : BI H ∧ BX h H := by
  unfold b20 at hs
  simp only [Bool.and_eq_true, Bool.not_eq_true'] at hs
  obtain ⟨s1, s2, s3, s4, s5, s6, s7, s8⟩ := hs
  obtain ⟨nx, st, rd, rw_, nn, ns, nr, nw, e1, e2, e3, e4, t1, t2, t3, t4, p1, p2, p3, p4⟩ := hI.kbk (b := 20) (w := 80) rfl
  have fe : ∀ j, j ≤ 5 → H.2.2 20 j = h.2.2 20 j := fun j hj => f.2.1 20 j (by have := hI.1.1; omega) (by rw [(colK (b := 20) (w := 80) rfl).1 hj]; exact s1)
  have f1 := row_fr f hI (k := 480) (c := 22) (by decide +kernel) (fun _ _ => rfl) t1 s3 s6
  have f2 := row_fr f hI (k := 80) (c := 23) (by decide +kernel) (fun _ _ => rfl) t2 s4 s7
  have f4 := row_fr f hI (k := 681) (c := 25) (by decide +kernel) (fun _ _ => rfl) t4 s5 s8
  have f21 : H.2.2 21 = h.2.2 21 := f.arr hI (a := 21) (by decide) (fun _ => s2)
  refine b.same (hI.k5 (b := 20) (w := 80) rfl).1 (fe 5 (by decide)) (fun k _ _ => ?_) (fun k _ _ => ?_) (fun k _ _ => ?_) (fun s _ _ => by unfold hd_; rw [f21]) ?_
  · unfold st_; rw [fe 2 (by decide), e2, Int.toNat_natCast]; exact f2 _
  · unfold nx_; rw [fe 1 (by decide), e1, Int.toNat_natCast]; exact f1 _
  · unfold by_; rw [fe 4 (by decide), e4, Int.toNat_natCast]; exact f4 _
  · rw [fe 4 (by decide), e4, Int.toNat_natCast, len_of t4, len_of ((f.1.2 _ (hI.ltN t4)).trans t4)]
    exact Int.le_refl _
def m6c (S : List Nat) : Bool := !S.contains 336 && (!S.contains 337 && !S.contains 311)
theorem msg_fr {S : List Nat} {h H : Hp} (f : Fr S h H) (hI : Inv h) {m : Nat} (fm : full h m) (t8 : T8 h m) (hs : m6c S = true) : H.2.2 m 6 = h.2.2 m 6 ∧ H.2.2 m 7 = h.2.2 m 7 ∧ T8 H m ∧ ∀ j, tgr H m j = tgr h m j := by
  unfold m6c at hs
  simp only [Bool.and_eq_true, Bool.not_eq_true'] at hs
  obtain ⟨s1, s2, s3⟩ := hs
  have hb := fm.big hI
  have hl := hI.ltN fm.1
  have k6 : H.2.2 m 6 = h.2.2 m 6 := f.2.1 m 6 hl (by rw [fm.1, col_msg hb]; exact s1)
  have k7 : H.2.2 m 7 = h.2.2 m 7 := f.2.1 m 7 hl (by rw [fm.1, col_msg hb]; exact s2)
  obtain ⟨T, a6, bT, tT⟩ := t8
  refine ⟨k6, k7, ⟨T, k6.trans a6, bT, (f.1.2 _ (hI.ltN tT)).trans tT⟩, fun j => ?_⟩
  unfold tgr
  rw [k6, a6, Int.toNat_natCast]
  exact f.2.1 T _ (hI.ltN tT) (by rw [tT, col_arr bT]; exact s3)
theorem T8.fr {S : List Nat} {h H : Hp} (f : Fr S h H) (hI : Inv h) {m : Nat} (fm : full h m) (t8 : T8 h m) (hs : S.contains 336 = false) : T8 H m := by
  have hb := fm.big hI
  have k6 : H.2.2 m 6 = h.2.2 m 6 := f.2.1 m 6 (hI.ltN fm.1) (by rw [fm.1, col_msg hb]; exact hs)
  obtain ⟨T, a6, bT, tT⟩ := t8
  exact ⟨T, k6.trans a6, bT, (f.1.2 _ (hI.ltN tT)).trans tT⟩
theorem elS_fr {S : List Nat} {h H : Hp} (f : Fr S h H) (hI : Inv h) (hs : (!S.contains 26 && !S.contains 313) = true) {j : Nat} (hj : j < (h.2.2 26 2).toNat) : elS H j = elS h j := by
  simp only [Bool.and_eq_true, Bool.not_eq_true'] at hs
  obtain ⟨s1, s2⟩ := hs
  have t26 := hI.atS (a := 26) rfl
  have f26 : ∀ j, H.2.2 26 j = h.2.2 26 j := fun j => f.2.1 26 j (hI.ltN t26) s1
  obtain ⟨e, n, m, q, m1, m2⟩ := elS_full hI hj
  have te := q.2.2.2.2.1
  have e6 := q.2.2.2.1
  rw [elS_of q]
  unfold elS
  rw [f26, q.2.2.1, Int.toNat_natCast]
  refine f.2.1 e j (hI.ltN te) ?_
  rw [te, col_arr e6]
  exact s2
/-- all messages that are there have a row of eight for their tags -/
def TGP (h : Hp) : Prop := ∀ j M : Nat, j < (h.2.2 26 2).toNat → elS h j = (M : Int) → T8 h M
theorem TGP.fr {S : List Nat} {h H : Hp} (f : Fr S h H) (hI : Inv h) (p : TGP h) (hs : (!S.contains 26 && !S.contains 313) = true) (h6 : S.contains 336 = false) : TGP H := by
  intro j M hj hM
  have hs' := hs
  simp only [Bool.and_eq_true, Bool.not_eq_true'] at hs'
  have t26 := hI.atS (a := 26) rfl
  have f26 : H.2.2 26 2 = h.2.2 26 2 := f.2.1 26 2 (hI.ltN t26) hs'.1
  rw [f26] at hj
  have ej := elS_fr f hI hs hj
  obtain ⟨e, n, m, q, m1, m2⟩ := elS_full hI hj
  have em : m = M := by
    have := m1.symm.trans (ej.symm.trans hM)
    omega
  subst em
  exact (p j m hj m1).fr f hI m2 h6
/-! What the class's tag tells. -/
def TF (h : Hp) (nm : Int) : Prop := (nm = -1 ∧ ∀ k : Int, 0 ≤ k → k < bE h → ¬ EqB h k (h.2.2 7) (h.2.2 6 1)) ∨ (0 ≤ nm ∧ nm < bE h ∧ EqB h nm (h.2.2 7) (h.2.2 6 1))
/-- the message n, at place i -/
def TM (h : Hp) (n i : Int) (M : Nat) : Prop := 0 ≤ i ∧ (nums h)[i.toNat]? = some n ∧ elS h i.toNat = (M : Int) ∧ full h M
/-- the tape is taken -/
def TTx (h H : Hp) : Prop := Inv H ∧ Fr [4, 6] h H ∧ (∀ j : Nat, j < Int.toNat (h.2.2 4 1) → H.2.2 7 j = h.2.2 5 j) ∧ H.2.2 6 1 = h.2.2 4 1
abbrev SE20 : List Nat := [999, 20, 21, 22, 23, 25, 358, 318, 378]
def TGN (h H : Hp) (n o x : Int) : Prop := ∃ (h1 : Hp) (i : Int) (M : Nat) (nm : Int), TTx h h1 ∧ TM h1 n i M ∧ isTg (h1.2.2 7) (h1.2.2 6 1) ∧ TF h1 nm ∧
  ((x = 0 ∧ H = h1 ∧ ((o = 1 ∧ nm ≠ -1 ∧ InN h1 M nm) ∨ (o = 0 ∧ (nm = -1 ∨ ¬ InN h1 M nm)))) ∨
   (x = 1 ∧ o = 0 ∧ nm ≠ -1 ∧ InN h1 M nm ∧ DRm h1 H M nm) ∨
   (x = 1 ∧ o = 1 ∧ (nm = -1 ∨ ¬ InN h1 M nm) ∧ h1.2.2 M 7 ≤ 7 ∧ ∃ (h2 : Hp) (k : Int), Inv h2 ∧ Fr SE20 h1 h2 ∧ (BI h2 ∧ BX h1 h2 ∧ 0 ≤ k ∧ k < bE h2 ∧ EqB h2 k (h1.2.2 7) (h1.2.2 6 1)) ∧ PUm h2 H M k))
def TGT (h H : Hp) (n o : Int) (E9 : String) : Prop := TTx h H ∧ ((E9 = IOB ∧ n ∉ nums H) ∨ ∃ (i : Int) (M : Nat), TM H n i M ∧ ((E9 = IAE ∧ ¬ isTg (H.2.2 7) (H.2.2 6 1)) ∨ (E9 = ISE ∧ isTg (H.2.2 7) (H.2.2 6 1) ∧ o = 1 ∧ 8 ≤ H.2.2 M 7 ∧ ∃ nm : Int, TF H nm ∧ (nm = -1 ∨ ¬ InN H M nm))))
