/-! Books: their rows' lengths, what room they take. -/
def len (h : Hp) (a : Nat) : Int := match h.2.1 a with
  | none => 0
  | some t => match t with
    | .inl q => (q.2 : Int)
    | .inr _ => 0
theorem len_of {h : Hp} {a k n : Nat} (ta : h.2.1 a = some (.inl (k, n))) : len h a = (n : Int) := by unfold len; rw [ta]
theorem len_same {h H : Hp} {a : Nat} (e : H.2.1 a = h.2.1 a) : len H a = len h a := by unfold len; rw [e]
/-- the room that a book's rows stand for -/
def PB (h : Hp) (b : Nat) : Int := 2 * len h (h.2.2 b 4).toNat + 7 * len h (h.2.2 b 1).toNat
/-- bytes in a book -/
def WB (h : Hp) (b : Nat) : Int := h.2.2 (h.2.2 b 2).toNat (h.2.2 b 5).toNat
def BkN (h : Hp) (b : Nat) (st nn ns nr nw : Nat) : Prop := ns = nn + 1 ∧ nr = nn ∧ 1 ≤ nn ∧ h.2.2 b 5 ≤ nn ∧ 0 ≤ h.2.2 st (h.2.2 b 5).toNat ∧ (nw : Int) ≤ 2 * h.2.2 st (h.2.2 b 5).toNat + 1000 ∧ (nn : Int) ≤ 2 * h.2.2 b 5 + 64
def BkR (h : Hp) (b w nx st rd rw_ nn ns nr nw : Nat) : Prop := (h.2.2 b 1 = (nx : Int) ∧ h.2.2 b 2 = (st : Int) ∧ h.2.2 b 3 = (rd : Int) ∧ h.2.2 b 4 = (rw_ : Int)) ∧ (h.2.1 nx = some (.inl (w + 400, nn)) ∧ h.2.1 st = some (.inl (w, ns)) ∧ h.2.1 rd = some (.inl (w + 500, nr)) ∧ h.2.1 rw_ = some (.inl (w + 601, nw))) ∧ 0 < nx ∧ 0 < st ∧ 0 < rd ∧ 0 < rw_
def BkW (h : Hp) (b w : Nat) : Prop := ∃ nx st rd rw_ nn ns nr nw : Nat, BkR h b w nx st rd rw_ nn ns nr nw ∧ BkN h b st nn ns nr nw
theorem BkR.vals {h : Hp} {b w nx st rd rw_ nn ns nr nw : Nat} (r : BkR h b w nx st rd rw_ nn ns nr nw) : PB h b = 2 * nw + 7 * nn ∧ WB h b = h.2.2 st (h.2.2 b 5).toNat := by
  obtain ⟨⟨e1, e2, e3, e4⟩, ⟨t1, t2, t3, t4⟩, -⟩ := r
  unfold PB WB
  rw [e1, e2, e4, Int.toNat_natCast, Int.toNat_natCast, Int.toNat_natCast, len_of t1, len_of t4]
  exact ⟨rfl, rfl⟩
theorem BkW.bound {h : Hp} {b w : Nat} (k : BkW h b w) : PB h b ≤ 4 * WB h b + 14 * h.2.2 b 5 + 2448 ∧ 0 ≤ WB h b := by
  obtain ⟨nx, st, rd, rw_, nn, ns, nr, nw, r, n1, n2, n3, n4, n5, n6, n7⟩ := k
  have v := r.vals
  rw [v.1, v.2]
  omega
/-- a row of a book may be another one of its kind -/
def kJ (w j : Nat) : Nat := match j with
  | 1 => w + 400
  | 2 => w
  | 3 => w + 500
  | _ => w + 601
theorem isK_lt {b w : Nat} (h : isK b w = true) : b < 106 := by rcases isK_in h with ⟨rfl, rfl⟩ | ⟨rfl, rfl⟩ | ⟨rfl, rfl⟩ <;> decide
theorem isK_26 {b w : Nat} (h : isK b w = true) : b ≠ 26 := by rcases isK_in h with ⟨rfl, rfl⟩ | ⟨rfl, rfl⟩ | ⟨rfl, rfl⟩ <;> decide
theorem rgK {b w j : Nat} (hb : isK b w = true) (hj : 1 ≤ j ∧ j ≤ 4) : rg b j = none := by
  rcases isK_in hb with ⟨rfl, rfl⟩ | ⟨rfl, rfl⟩ | ⟨rfl, rfl⟩ <;> rcases (show j = 1 ∨ j = 2 ∨ j = 3 ∨ j = 4 by omega) with rfl | rfl | rfl | rfl <;> rfl
theorem Bk.putJ {h : Hp} {b w j a n : Nat} (hj : 1 ≤ j ∧ j ≤ 4) (ta : h.2.1 a = some (.inl (kJ w j, n))) (ha : 0 < a) (k : Bk h b w) : Bk (wr h b j (a : Int)) b w := by
  obtain ⟨nx, st, rd, rw_, nn, ns, nr, nw, e1, e2, e3, e4, t1, t2, t3, t4, p1, p2, p3, p4⟩ := k
  rcases (show j = 1 ∨ j = 2 ∨ j = 3 ∨ j = 4 by omega) with rfl | rfl | rfl | rfl
  · exact ⟨a, st, rd, rw_, n, ns, nr, nw, wr_eq, (wr_ne2 (by decide)).trans e2, (wr_ne2 (by decide)).trans e3, (wr_ne2 (by decide)).trans e4, ta, t2, t3, t4, ha, p2, p3, p4⟩
  · exact ⟨nx, a, rd, rw_, nn, n, nr, nw, (wr_ne2 (by decide)).trans e1, wr_eq, (wr_ne2 (by decide)).trans e3, (wr_ne2 (by decide)).trans e4, t1, ta, t3, t4, p1, ha, p3, p4⟩
  · exact ⟨nx, st, a, rw_, nn, ns, n, nw, (wr_ne2 (by decide)).trans e1, (wr_ne2 (by decide)).trans e2, wr_eq, (wr_ne2 (by decide)).trans e4, t1, t2, ta, t4, p1, p2, ha, p4⟩
  · exact ⟨nx, st, rd, a, nn, ns, nr, n, (wr_ne2 (by decide)).trans e1, (wr_ne2 (by decide)).trans e2, (wr_ne2 (by decide)).trans e3, wr_eq, t1, t2, t3, ta, p1, p2, p3, ha⟩
theorem Inv.putBk {h : Hp} {b w j a n : Nat} (hI : Inv h) (hb : isK b w = true) (hj : 1 ≤ j ∧ j ≤ 4) (ta : h.2.1 a = some (.inl (kJ w j, n))) (ha : 0 < a) : Inv (wr h b j (a : Int)) := by
  have hlt := isK_lt hb
  have tb := hI.kty hb
  obtain ⟨hS, hR, hG, hM, hF, hL, hb1, hb2, hb3⟩ := hI
  have bk : ∀ b' w', isK b' w' = true → Bk h b' w' → Bk (wr h b j (a : Int)) b' w' := fun b' w' hb' k => by
    by_cases e : b = b'
    · subst e
      have ew : w' = w := by
        rcases isK_in hb with ⟨rfl, rfl⟩ | ⟨rfl, rfl⟩ | ⟨rfl, rfl⟩ <;> rcases isK_in hb' with ⟨h1, rfl⟩ | ⟨h1, rfl⟩ | ⟨h1, rfl⟩ <;> first | rfl | cases h1
      subst ew
      exact k.putJ hj ta ha
    · exact k.put (Or.inl e)
  refine ⟨hS, fun c i lo hi e => ?_, fun c k' n' hc => ⟨(hG c k' n' hc).1, fun i => ?_⟩, fun c hc => ?_, fun c n' hc => ?_, ?_, bk 8 60 rfl hb1, bk 14 70 rfl hb2, bk 20 80 rfl hb3⟩
  · by_cases hcb : c = b
    · subst hcb
      by_cases hij : i = j
      · subst hij
        rw [rgK hb hj] at e
        cases e
      · rw [wr_ne2 hij]
        exact hR c i lo hi e
    · rw [wr_ne hcb]
      exact hR c i lo hi e
  · have hcb : c ≠ b := fun e => by
      subst e
      cases tb.symm.trans hc
    rw [wr_ne hcb]
    exact (hG c k' n' hc).2 i
  · have h1 := hM c hc
    exact h1.put (by have := h1.1; omega)
  · have hcb : c ≠ b := fun e => by
      subst e
      cases tb.symm.trans hc
    simp only [wr_ne hcb]
    exact hF c n' hc
  · exact hL.put hlt ⟨fun e => isK_26 hb (congrArg Prod.fst e), fun e => isK_26 hb (congrArg Prod.fst e)⟩ hM
/-- a row is made anew and takes its place in the book -/
theorem grow {h h1 h2 : Hp} {b w j w2 len0 n a x mc ms : Nat} (hI : Inv h) (hb : isK b w = true) (hj : 1 ≤ j ∧ j ≤ 4) (hw2 : w2 = kJ w j) (hn : n ≤ 67108864) (hlt : h.1 + 1 ≤ 900000) (hw : w2 % 10 = 0 ∨ w2 % 10 = 1) (h20 : w2 ≠ 20) (c : CopyP h a w2 len0 n x h1 mc ms) (ha : ∀ i, gk w2 (h.2.2 a i)) (e2 : h2 = wr h1 b j (x : Int)) :
    x = h.1 ∧ mc = 1 ∧ ms = n ∧ Inv h2 ∧ h2.1 = h.1 + 1 ∧ (∀ c t, h.2.1 c = some t → h2.2.1 c = some t) ∧ h2.2.1 h.1 = some (.inl (w2, n)) ∧ h2.2.2 b j = (h.1 : Int) ∧ (∀ c i, c < h.1 → (c ≠ b ∨ i ≠ j) → h2.2.2 c i = h.2.2 c i) ∧ (∀ i, i < n → i < len0 → h2.2.2 h.1 i = h.2.2 a i) ∧ ∀ S : List Nat, S.contains b = true → S.contains 999 = true → Fr S h h2 := by
  obtain ⟨hx, hmc, hms, f, hH, f1, f2⟩ := c
  subst hx hmc hH
  have p1 := hI.1.1
  have hblt := isK_lt hb
  have g0 : ∀ i, gk w2 (f i) := fun i => by
    rcases f1 i with h9 | h9
    · rw [h9]; exact ha i
    · rw [h9]
      unfold gk
      rcases hw with h8 | h8 <;> rw [h8]
      · show I32 0; unfold I32; omega
      · show -128 ≤ (0 : Int) ∧ (0 : Int) ≤ 127; omega
  have I1 := Inv.newA (f := f) hI hlt hn g0 h20
  have tn : (row (al h (.inl (w2, n))) h.1 f).2.1 h.1 = some (.inl (w2, n)) := al_new h _
  subst hw2
  have I2 := I1.putBk hb hj tn (by omega)
  refine ⟨rfl, rfl, hms, by rw [e2]; exact I2, by rw [e2]; rfl, fun c t hc => by rw [e2]; exact newA_old (f := f) hI hc, by rw [e2]; exact tn, by rw [e2]; exact wr_eq, fun c i hc hci => ?_, fun i h8 h9 => ?_, fun S hS h9 => ?_⟩
  · rw [e2]
    have e : (wr (row (al h (.inl (kJ w j, n))) h.1 f) b j (h.1 : Int)).2.2 c i = (row (al h (.inl (kJ w j, n))) h.1 f).2.2 c i := by
      rcases hci with h9 | h9
      · exact wr_ne h9
      · by_cases h8 : c = b
        · subst h8; exact wr_ne2 h9
        · exact wr_ne h8
    rw [e, row_ne (by omega)]
    rfl
  · rw [e2, wr_ne (by omega), row_eq]
    exact f2 i h8 h9
  · rw [e2]
    exact Fr.putK (fr_new (Fr.rf S h) h9) hb (by omega) hS
