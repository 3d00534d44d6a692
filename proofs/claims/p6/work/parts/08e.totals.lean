/-! All three books together. -/
def Bks (h : Hp) : Prop := BkW h 8 60 ∧ BkW h 14 70 ∧ BkW h 20 80
def PT (h : Hp) : Int := PB h 8 + PB h 14 + PB h 20
def WT (h : Hp) : Int := WB h 8 + WB h 14 + WB h 20
def ET (h : Hp) : Int := h.2.2 8 5 + h.2.2 14 5 + h.2.2 20 5
theorem Bks.bound {h : Hp} (k : Bks h) : PT h ≤ 4 * WT h + 14 * ET h + 7344 := by
  have a := k.1.bound
  have b := k.2.1.bound
  have c := k.2.2.bound
  unfold PT WT ET
  omega
theorem Bks.each {h : Hp} (hI : Inv h) (k : Bks h) : (WB h 8 ≤ WT h ∧ WB h 14 ≤ WT h ∧ WB h 20 ≤ WT h) ∧ (h.2.2 8 5 ≤ ET h ∧ h.2.2 14 5 ≤ ET h ∧ h.2.2 20 5 ≤ ET h) ∧ 0 ≤ WT h ∧ 0 ≤ ET h := by
  have a := k.1.bound
  have b := k.2.1.bound
  have c := k.2.2.bound
  have a5 := hI.k5 (b := 8) (w := 60) rfl
  have b5 := hI.k5 (b := 14) (w := 70) rfl
  have c5 := hI.k5 (b := 20) (w := 80) rfl
  unfold WT ET
  omega
def stOK (b w : Nat) : Bool := (List.range 106).all fun a => match fixTy a with
  | none => true
  | some t => match t with
    | .inr _ => true
    | .inl q => !(Nat.beq q.1 w) || Nat.beq a (b + 3)
theorem stOK_ok {b w : Nat} (hb : isK b w = true) : stOK b w = true := by rcases isK_in hb with ⟨rfl, rfl⟩ | ⟨rfl, rfl⟩ | ⟨rfl, rfl⟩ <;> decide +kernel
theorem colK3 {b w j : Nat} {t : Option Ty} (hb : isK b w = true) : col t (b + 3) j = b + 3 := by
  rcases isK_in hb with ⟨rfl, rfl⟩ | ⟨rfl, rfl⟩ | ⟨rfl, rfl⟩ <;> rfl
theorem st_col {h : Hp} (hI : Inv h) {b w a n i : Nat} (hb : isK b w = true) (ta : h.2.1 a = some (.inl (w, n))) : col (h.2.1 a) a i = b + 3 ∨ col (h.2.1 a) a i = 310 + w / 10 := by
  by_cases ha : a < 106
  · have h1 := List.all_eq_true.mp (stOK_ok hb) a (List.mem_range.mpr ha)
    cases hf : fixTy a with
    | none =>
      exfalso
      have h2 : ∀ a, a < 106 → fixTy a = none → a = 0 := by decide +kernel
      have h3 := h2 a ha hf
      have h4 := hI.posN ta
      omega
    | some t =>
      have h2 := hI.1.2.2.1 a t hf
      cases ta.symm.trans h2
      rw [hf] at h1
      simp only [Nat.beq_refl, Bool.not_true, Bool.false_or] at h1
      have e := Nat.eq_of_beq_eq_true h1
      subst e
      exact Or.inl (colK3 hb)
  · rw [ta, col_arr (by omega)]
    exact Or.inr rfl
def kout (b w : Nat) (S : List Nat) : Bool := !S.contains b && (!S.contains (b + 3) && !S.contains (310 + w / 10))
theorem book_fr {S : List Nat} {h h' : Hp} (f : Fr S h h') (hI : Inv h) {b w : Nat} (hb : isK b w = true) (hs : kout b w S = true) : h'.2.2 b 5 = h.2.2 b 5 ∧ PB h' b = PB h b ∧ WB h' b = WB h b ∧ (BkW h b w → BkW h' b w) := by
  unfold kout at hs
  simp only [Bool.and_eq_true, Bool.not_eq_true'] at hs
  obtain ⟨s1, s2, s3⟩ := hs
  have hlt := isK_lt hb
  have fe : ∀ j, j ≤ 5 → h'.2.2 b j = h.2.2 b j := fun j hj => f.2.1 b j (by have := hI.1.1; omega) (by rw [(colK hb).1 hj]; exact s1)
  have ft : ∀ a t, h.2.1 a = some t → h'.2.1 a = some t := fun a t ht => (f.1.2 a (hI.ltN ht)).trans ht
  have fs : ∀ a n, h.2.1 a = some (.inl (w, n)) → ∀ i, h'.2.2 a i = h.2.2 a i := fun a n ht i => f.2.1 a i (hI.ltN ht) (by
    rcases st_col (i := i) hI hb ht with e | e
    · rw [e]; exact s2
    · rw [e]; exact s3)
  obtain ⟨nx, st, rd, rw_, nn, ns, nr, nw, e1, e2, e3, e4, t1, t2, t3, t4, p1, p2, p3, p4⟩ := hI.kbk hb
  have r : BkR h b w nx st rd rw_ nn ns nr nw := ⟨⟨e1, e2, e3, e4⟩, ⟨t1, t2, t3, t4⟩, p1, p2, p3, p4⟩
  have r' : BkR h' b w nx st rd rw_ nn ns nr nw := ⟨⟨(fe 1 (by decide)).trans e1, (fe 2 (by decide)).trans e2, (fe 3 (by decide)).trans e3, (fe 4 (by decide)).trans e4⟩, ⟨ft _ _ t1, ft _ _ t2, ft _ _ t3, ft _ _ t4⟩, p1, p2, p3, p4⟩
  refine ⟨fe 5 (by decide), by rw [r'.vals.1, r.vals.1], by rw [r'.vals.2, r.vals.2, fe 5 (by decide), fs st ns t2], fun k => ?_⟩
  obtain ⟨nx', st', rd', rw', nn', ns', nr', nw', ⟨⟨a1, a2, a3, a4⟩, ⟨u1, u2, u3, u4⟩, w1⟩, kn⟩ := k
  refine ⟨nx', st', rd', rw', nn', ns', nr', nw', ⟨⟨(fe 1 (by decide)).trans a1, (fe 2 (by decide)).trans a2, (fe 3 (by decide)).trans a3, (fe 4 (by decide)).trans a4⟩, ⟨ft _ _ u1, ft _ _ u2, ft _ _ u3, ft _ _ u4⟩, w1⟩, ?_⟩
  unfold BkN
  rw [fe 5 (by decide), fs st' ns' u2]
  exact kn
def kcols (S : List Nat) : Bool := kout 8 60 S && (kout 14 70 S && kout 20 80 S)
theorem books_fr {S : List Nat} {h h' : Hp} (f : Fr S h h') (hI : Inv h) (hs : kcols S = true) : PT h' = PT h ∧ WT h' = WT h ∧ ET h' = ET h ∧ (Bks h → Bks h') := by
  unfold kcols at hs
  simp only [Bool.and_eq_true] at hs
  have a := book_fr f hI (b := 8) (w := 60) rfl hs.1
  have b := book_fr f hI (b := 14) (w := 70) rfl hs.2.1
  have c := book_fr f hI (b := 20) (w := 80) rfl hs.2.2
  unfold PT WT ET
  exact ⟨by omega, by omega, by omega, fun k => ⟨a.2.2.2 k.1, b.2.2.2 k.2.1, c.2.2.2 k.2.2⟩⟩
theorem PT_fr {S : List Nat} {h h' : Hp} (f : Fr S h h') (hI : Inv h) (hs : kcols S = true) : PT h' = PT h := (books_fr f hI hs).1
theorem WT_fr {S : List Nat} {h h' : Hp} (f : Fr S h h') (hI : Inv h) (hs : kcols S = true) : WT h' = WT h := (books_fr f hI hs).2.1
theorem ET_fr {S : List Nat} {h h' : Hp} (f : Fr S h h') (hI : Inv h) (hs : kcols S = true) : ET h' = ET h := (books_fr f hI hs).2.2.1
theorem Bks_fr {S : List Nat} {h h' : Hp} (f : Fr S h h') (hI : Inv h) (hs : kcols S = true) (k : Bks h) : Bks h' := (books_fr f hI hs).2.2.2 k
/-- a write is a step with a frame of its colour -/
theorem fr_wr {h : Hp} {a j : Nat} {x : Int} (S : List Nat) (hs : (Nat.blt a 106 && S.contains (col none a j)) = true) : Fr S h (wr h a j x) := Fr.putF (Fr.rf S h) hs
/-- since h: k cells, z slots were made; N entries and D bytes came at most, and X beside the books -/
def ENL (h H : Hp) (k z : Nat) (N D X : Int) : Prop := Bks H ∧ (ET H ≤ ET h + N ∧ WT H ≤ WT h + D ∧ z + PT h ≤ PT H + X ∧ (k : Int) ≤ 4 * N + X) ∧ H.1 = h.1 + k ∧ ET h ≤ ET H ∧ WT h ≤ WT H
theorem ENL.rf {h : Hp} (k : Bks h) {N D X : Int} (hN : 0 ≤ N) (hD : 0 ≤ D) (hX : 0 ≤ X) : ENL h h 0 0 N D X := ⟨k, ⟨by omega, by omega, by omega, by omega⟩, rfl, by omega, by omega⟩
theorem ENL.mono {h H : Hp} {k z : Nat} {N D X N' D' X' : Int} (e : ENL h H k z N D X) (hN : N ≤ N') (hD : D ≤ D') (hX : X ≤ X') : ENL h H k z N' D' X' := by
  obtain ⟨e1, ⟨e2, e3, e4, e5⟩, e6, e7, e8⟩ := e
  exact ⟨e1, ⟨by omega, by omega, by omega, by omega⟩, e6, e7, e8⟩
theorem ENL.tr {h H H' : Hp} {k z k' z' k2 z2 : Nat} {N D X N' D' X' N2 D2 X2 : Int} (e : ENL h H k z N D X) (e' : ENL H H' k' z' N' D' X') (hk : k2 = k + k') (hz : z2 = z + z') (hN : N + N' ≤ N2) (hD : D + D' ≤ D2) (hX : X + X' ≤ X2) : ENL h H' k2 z2 N2 D2 X2 := by
  obtain ⟨e1, ⟨e2, e3, e4, e5⟩, e6, e7, e8⟩ := e
  obtain ⟨a1, ⟨a2, a3, a4, a5⟩, a6, a7, a8⟩ := e'
  exact ⟨a1, ⟨by omega, by omega, by omega, by omega⟩, by omega, by omega, by omega⟩
/-- a step that makes nothing and leaves the books -/
theorem ENL.fr {S : List Nat} {h H H' : Hp} {k z : Nat} {N D X : Int} (e : ENL h H k z N D X) (f : Fr S H H') (hI : Inv H) (hs : (kcols S && !S.contains 999) = true) : ENL h H' k z N D X := by
  rw [Bool.and_eq_true] at hs
  have h1 : H'.1 = H.1 := f.2.2 (by have := hs.2; rw [Bool.not_eq_true'] at this; exact this)
  obtain ⟨e1, ⟨e2, e3, e4, e5⟩, e6, e7, e8⟩ := e
  obtain ⟨b1, b2, b3, b4⟩ := books_fr f hI hs.1
  exact ⟨b4 e1, ⟨by omega, by omega, by omega, by omega⟩, by omega, by omega, by omega⟩
/-- m cells of n slots are made beside the books -/
theorem ENL.alF {S : List Nat} {h H H' : Hp} {k z m n k2 z2 : Nat} {N D X X2 : Int} (e : ENL h H k z N D X) (f : Fr S H H') (hI : Inv H) (hs : kcols S = true) (h1 : H'.1 = H.1 + m) (hk : k2 = k + m) (hz : z2 = z + n) (hX : X + m + n ≤ X2) : ENL h H' k2 z2 N D X2 := by
  obtain ⟨e1, ⟨e2, e3, e4, e5⟩, e6, e7, e8⟩ := e
  obtain ⟨b1, b2, b3, b4⟩ := books_fr f hI hs
  exact ⟨b4 e1, ⟨by omega, by omega, by omega, by omega⟩, by omega, by omega, by omega⟩
theorem EN.l8 {S : List Nat} {h H : Hp} {mc ms : Nat} {d : Int} (e : EN h H 8 60 mc ms d) (f : Fr S h H) (hI : Inv h) (k : Bks h) (s1 : kout 14 70 S = true) (s2 : kout 20 80 S = true) : ENL h H mc ms 1 d 0 := by
  obtain ⟨e1, e2, e3, e4, e5, e6, e7, e8⟩ := e
  have b := book_fr f hI (b := 14) (w := 70) rfl s1
  have c := book_fr f hI (b := 20) (w := 80) rfl s2
  unfold ENL PT WT ET
  exact ⟨⟨e1, b.2.2.2 k.2.1, c.2.2.2 k.2.2⟩, ⟨by omega, by omega, by omega, by omega⟩, e5, by omega, by omega⟩
theorem EN.l14 {S : List Nat} {h H : Hp} {mc ms : Nat} {d : Int} (e : EN h H 14 70 mc ms d) (f : Fr S h H) (hI : Inv h) (k : Bks h) (s1 : kout 8 60 S = true) (s2 : kout 20 80 S = true) : ENL h H mc ms 1 d 0 := by
  obtain ⟨e1, e2, e3, e4, e5, e6, e7, e8⟩ := e
  have b := book_fr f hI (b := 8) (w := 60) rfl s1
  have c := book_fr f hI (b := 20) (w := 80) rfl s2
  unfold ENL PT WT ET
  exact ⟨⟨b.2.2.2 k.1, e1, c.2.2.2 k.2.2⟩, ⟨by omega, by omega, by omega, by omega⟩, e5, by omega, by omega⟩
theorem EN.l20 {S : List Nat} {h H : Hp} {mc ms : Nat} {d : Int} (e : EN h H 20 80 mc ms d) (f : Fr S h H) (hI : Inv h) (k : Bks h) (s1 : kout 8 60 S = true) (s2 : kout 14 70 S = true) : ENL h H mc ms 1 d 0 := by
  obtain ⟨e1, e2, e3, e4, e5, e6, e7, e8⟩ := e
  have b := book_fr f hI (b := 8) (w := 60) rfl s1
  have c := book_fr f hI (b := 14) (w := 70) rfl s2
  unfold ENL PT WT ET
  exact ⟨⟨b.2.2.2 k.1, c.2.2.2 k.2.1, e1⟩, ⟨by omega, by omega, by omega, by omega⟩, e5, by omega, by omega⟩
