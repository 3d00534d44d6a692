/-! The reference's way through a query. -/
noncomputable def RF0 (h : Hp) : Int := pq (hr h) (hn h) 0 0 false false
theorem RFE : ∃ f : Hp → Int, f = RF0 := ⟨_, rfl⟩
/-- where the reference's query is refused; -1: nowhere -/
noncomputable def RF : Hp → Int := Classical.choose RFE
theorem RF_eq : RF = RF0 := Classical.choose_spec RFE
/-- where the word at p ends -/
def wE (h : Hp) (p : Int) : Nat := skp noSg (hr h) (hn h) p.toNat
def isQ (h : Hp) (p : Int) (w : List Int) : Prop := isW (hr h) p.toNat (wE h p) w = true
def NQ (h : Hp) (p : Int) (w : List Int) : Prop := isW (hr h) p.toNat (wE h p) w = false
/-- read up to p, with o open, behind a term or not (b), any sign read or not (a) -/
def RQ (h : Hp) (p o b a : Int) : Prop := RF h = pq (hr h) (hn h) p.toNat o.toNat (decide (b = 1)) (decide (a = 1))
def WC (h : Hp) (p c : Int) : Prop := (c = 1 ∧ h.2.2 88 p.toNat = 41) ∨ (c = 0 ∧ (isQ h p wOR ∨ isQ h p wAND))
def WN (h : Hp) (p : Int) : Prop := h.2.2 88 p.toNat ≠ 41 ∧ (NQ h p wOR ∧ NQ h p wAND)
section RQS
variable {h : Hp} {p o b a : Int}
theorem bq_bl {q : Bool} (h : q = false) : ¬ q = true := by rw [h]; decide
theorem d11 : decide ((1 : Int) = 1) = true := by decide
theorem d01 : decide ((0 : Int) = 1) = false := by decide
theorem RQ.s : RQ h 0 0 0 0 := by
  unfold RQ
  rw [RF_eq]
  rfl
theorem RQ.bl (q : RQ h p o b a) (e : (hn h : Int) = h.2.2 60 44) (hp : 0 ≤ p ∧ p < h.2.2 60 44) (hb : h.2.2 88 p.toNat = 32 ∨ h.2.2 88 p.toNat = 9) : RQ h (p + 1) o b a := by
  unfold RQ at q ⊢
  refine q.trans ?_
  rw [pq_eq (p := p.toNat), if_neg (show ¬ hn h ≤ p.toNat by omega), if_pos (bl_at hb), show (p + 1).toNat = p.toNat + 1 by omega]
theorem isQ_41 {w : List Int} (q : isQ h p w) (hw : 0 < w.length) (hc : w.getD 0 0 ≠ 41) : h.2.2 88 p.toNat ≠ 41 := fun e => by
  have e1 : hr h p.toNat = w.getD 0 0 := isW_first (r := hr h) (p := p.toNat) (e := wE h p) (w := w) q hw
  have e2 : hr h p.toNat = 41 := e
  exact hc (e1.symm.trans e2)
theorem RQ.g1 {c p' : Int} (q : RQ h p o b a) (e : (hn h : Int) = h.2.2 60 44) (hp : 0 ≤ p ∧ p < h.2.2 60 44) (nb : isBl (hr h p.toNat) = false) (wc : WC h p c) (hb1 : b = 1) (ho : c = 0 ∨ 0 < o) (hp' : (c = 1 ∧ p' = p + 1) ∨ (c = 0 ∧ p' = wE h p)) : RQ h p' (o - c) c 1 := by
  unfold RQ at q ⊢
  refine q.trans ?_
  rcases wc with ⟨rfl, w⟩ | ⟨rfl, w⟩
  · have w : hr h p.toNat = 41 := w
    obtain rfl : p' = p + 1 := by omega
    rw [pq_eq (p := p.toNat), if_neg (show ¬ hn h ≤ p.toNat by omega), if_neg (bq_bl nb), if_pos w, decide_eq_true hb1, if_neg (fun z => z.elim (fun y => by cases y) (fun y => by omega)), d11, show (p + 1).toNat = p.toNat + 1 by omega, show (o - 1).toNat = o.toNat - 1 by omega]
  · obtain rfl : p' = (wE h p : Nat) := by omega
    have n41 : ¬ hr h p.toNat = 41 := by
      rcases w with w | w
      · exact isQ_41 w (by decide) (by decide)
      · exact isQ_41 w (by decide) (by decide)
    rw [pq_eq (p := p.toNat), if_neg (show ¬ hn h ≤ p.toNat by omega), if_neg (bq_bl nb), if_neg n41, if_pos (show isW (hr h) p.toNat (skp noSg (hr h) (hn h) p.toNat) wOR = true ∨ isW (hr h) p.toNat (skp noSg (hr h) (hn h) p.toNat) wAND = true from w), decide_eq_true hb1, if_neg (show ¬ (true = false) by decide), d11, d01, Int.toNat_natCast, show (o - 0).toNat = o.toNat by omega]
    rfl
theorem RQ.f1 {c : Int} (q : RQ h p o b a) (e : (hn h : Int) = h.2.2 60 44) (hp : 0 ≤ p ∧ p < h.2.2 60 44) (nb : isBl (hr h p.toNat) = false) (wc : WC h p c) (hf : b ≠ 1 ∨ (c = 1 ∧ o ≤ 0)) : RF h = p := by
  unfold RQ at q
  refine q.trans ?_
  rcases wc with ⟨rfl, w⟩ | ⟨rfl, w⟩
  · have w : hr h p.toNat = 41 := w
    rw [pq_eq (p := p.toNat), if_neg (show ¬ hn h ≤ p.toNat by omega), if_neg (bq_bl nb), if_pos w, if_pos (by
      by_cases c1 : b = 1
      · exact Or.inr (by omega)
      · exact Or.inl (decide_eq_false c1))]
    omega
  · have n41 : ¬ hr h p.toNat = 41 := by
      rcases w with w | w
      · exact isQ_41 w (by decide) (by decide)
      · exact isQ_41 w (by decide) (by decide)
    rw [pq_eq (p := p.toNat), if_neg (show ¬ hn h ≤ p.toNat by omega), if_neg (bq_bl nb), if_neg n41, if_pos (show isW (hr h) p.toNat (skp noSg (hr h) (hn h) p.toNat) wOR = true ∨ isW (hr h) p.toNat (skp noSg (hr h) (hn h) p.toNat) wAND = true from w), if_pos (decide_eq_false (by omega))]
    omega
theorem RQ.op (q : RQ h p o b a) (e : (hn h : Int) = h.2.2 60 44) (hp : 0 ≤ p ∧ p < h.2.2 60 44) (hb : h.2.2 88 p.toNat = 40) (ho : 0 ≤ o ∧ o ≠ 20) : RQ h (p + 1) (o + 1) 0 1 := by
  unfold RQ at q ⊢
  refine q.trans ?_
  have hb' : hr h p.toNat = 40 := hb
  rw [pq_eq (p := p.toNat), if_neg (show ¬ hn h ≤ p.toNat by omega), if_neg (bq_bl (bl_no (by omega))), if_neg (show ¬ hr h p.toNat = 41 by omega), if_neg (noW (by omega) (by omega)), if_pos hb', if_neg (show ¬ o.toNat = 20 by omega), d11, d01, show (p + 1).toNat = p.toNat + 1 by omega, show (o + 1).toNat = o.toNat + 1 by omega]
theorem RQ.fop (q : RQ h p o b a) (e : (hn h : Int) = h.2.2 60 44) (hp : 0 ≤ p ∧ p < h.2.2 60 44) (hb : h.2.2 88 p.toNat = 40) (ho : o = 20) : RF h = p := by
  unfold RQ at q
  refine q.trans ?_
  have hb' : hr h p.toNat = 40 := hb
  rw [pq_eq (p := p.toNat), if_neg (show ¬ hn h ≤ p.toNat by omega), if_neg (bq_bl (bl_no (by omega))), if_neg (show ¬ hr h p.toNat = 41 by omega), if_neg (noW (by omega) (by omega)), if_pos hb', if_pos (show o.toNat = 20 by omega)]
  omega
theorem RQ.nt (q : RQ h p o b a) (e : (hn h : Int) = h.2.2 60 44) (hp : 0 ≤ p ∧ p < h.2.2 60 44) (hw : isQ h p wNOT) : RQ h (wE h p) o 0 1 := by
  unfold RQ at q ⊢
  refine q.trans ?_
  have hb' : hr h p.toNat = 110 := isW_first (r := hr h) (p := p.toNat) (e := wE h p) (w := wNOT) hw (by decide)
  have hb : h.2.2 88 p.toNat = 110 := hb'
  rw [pq_eq (p := p.toNat), if_neg (show ¬ hn h ≤ p.toNat by omega), if_neg (bq_bl (bl_no (by omega))), if_neg (show ¬ hr h p.toNat = 41 by omega), if_neg (noW (by omega) (by omega)), if_neg (show ¬ hr h p.toNat = 40 by omega), if_pos (show isW (hr h) p.toNat (skp noSg (hr h) (hn h) p.toNat) wNOT = true from hw), d11, d01, Int.toNat_natCast]
  rfl
theorem wn_no (wn : WN h p) : ¬ (isW (hr h) p.toNat (skp noSg (hr h) (hn h) p.toNat) wOR = true ∨ isW (hr h) p.toNat (skp noSg (hr h) (hn h) p.toNat) wAND = true) := by
  obtain ⟨-, w1, w2⟩ := wn
  rintro (z | z)
  · exact bq_bl w1 z
  · exact bq_bl w2 z
theorem RQ.tm {s : Int} (q : RQ h p o b a) (e : (hn h : Int) = h.2.2 60 44) (hp : 0 ≤ p ∧ p < h.2.2 60 44) (nb : isBl (hr h p.toNat) = false) (wn : WN h p) (n40 : h.2.2 88 p.toNat ≠ 40) (nn : NQ h p wNOT) (hs : s = oneQ (hr h) (hn h) p.toNat (wE h p)) (h1 : s ≠ -1) : RQ h s o 1 1 := by
  unfold RQ at q ⊢
  refine q.trans ?_
  subst hs
  rw [pq_eq (p := p.toNat), if_neg (show ¬ hn h ≤ p.toNat by omega), if_neg (bq_bl nb), if_neg (show ¬ hr h p.toNat = 41 from wn.1), if_neg (wn_no wn), if_neg (show ¬ hr h p.toNat = 40 from n40), if_neg (show ¬ isW (hr h) p.toNat (skp noSg (hr h) (hn h) p.toNat) wNOT = true from bq_bl nn), if_neg (show ¬ oneQ (hr h) (hn h) p.toNat (skp noSg (hr h) (hn h) p.toNat) = -1 from h1), d11]
  rfl
theorem RQ.ftm {s : Int} (q : RQ h p o b a) (e : (hn h : Int) = h.2.2 60 44) (hp : 0 ≤ p ∧ p < h.2.2 60 44) (nb : isBl (hr h p.toNat) = false) (wn : WN h p) (n40 : h.2.2 88 p.toNat ≠ 40) (nn : NQ h p wNOT) (hs : s = oneQ (hr h) (hn h) p.toNat (wE h p)) (h1 : s = -1) : RF h = p := by
  unfold RQ at q
  refine q.trans ?_
  rw [pq_eq (p := p.toNat), if_neg (show ¬ hn h ≤ p.toNat by omega), if_neg (bq_bl nb), if_neg (show ¬ hr h p.toNat = 41 from wn.1), if_neg (wn_no wn), if_neg (show ¬ hr h p.toNat = 40 from n40), if_neg (show ¬ isW (hr h) p.toNat (skp noSg (hr h) (hn h) p.toNat) wNOT = true from bq_bl nn), if_pos (show oneQ (hr h) (hn h) p.toNat (skp noSg (hr h) (hn h) p.toNat) = -1 from hs.symm.trans h1)]
  omega
theorem RQ.e0 (q : RQ h p o b a) (e : (hn h : Int) = h.2.2 60 44) (hp : h.2.2 60 44 ≤ p) (c : a ≠ 1 ∨ (b = 1 ∧ o ≤ 0)) : RF h = -1 := by
  unfold RQ at q
  refine q.trans ?_
  rw [pq_eq (p := p.toNat), if_pos (show hn h ≤ p.toNat by omega), if_neg]
  rintro ⟨z1, z2⟩
  have z1 := of_decide_eq_true z1
  rcases z2 with z2 | z2
  · have z2 := of_decide_eq_false z2
    omega
  · omega
theorem RQ.e1 (q : RQ h p o b a) (e : (hn h : Int) = h.2.2 60 44) (hp : h.2.2 60 44 ≤ p) (c : a = 1 ∧ (b ≠ 1 ∨ 0 < o)) : RF h = h.2.2 60 44 := by
  unfold RQ at q
  refine q.trans ?_
  rw [pq_eq (p := p.toNat), if_pos (show hn h ≤ p.toNat by omega), if_pos ⟨decide_eq_true c.1, c.2.elim (fun z => Or.inl (decide_eq_false z)) (fun z => Or.inr (by omega))⟩]
  exact e
/-- .. a word, by the answers of the reference's tests -/
theorem WC.mk {l6 l7 l8 : Int} (e6 : l6 = bi (isW (hr h) p.toNat (wE h p) wOR)) (e7 : l7 = bi (isW (hr h) p.toNat (wE h p) wAND)) (e8 : (l8 = 1 ∧ h.2.2 88 p.toNat = 41) ∨ (l8 = 0 ∧ h.2.2 88 p.toNat ≠ 41)) (hc : l6 ≠ 0 ∨ l7 ≠ 0 ∨ l8 ≠ 0) : WC h p l8 := by
  rcases e8 with ⟨e8, w⟩ | ⟨e8, w⟩
  · exact Or.inl ⟨e8, w⟩
  · refine Or.inr ⟨e8, ?_⟩
    rcases hc with hc | hc | hc
    · exact Or.inl (bi_t (by omega))
    · exact Or.inr (bi_t (by omega))
    · exact absurd e8 hc
theorem WN.mk {l6 l7 l8 : Int} (e6 : l6 = bi (isW (hr h) p.toNat (wE h p) wOR)) (e7 : l7 = bi (isW (hr h) p.toNat (wE h p) wAND)) (e8 : (l8 = 1 ∧ h.2.2 88 p.toNat = 41) ∨ (l8 = 0 ∧ h.2.2 88 p.toNat ≠ 41)) (hc : l6 = 0 ∧ l7 = 0 ∧ l8 = 0) : WN h p := ⟨by omega, bi_f (by omega), bi_f (by omega)⟩
end RQS
/-! Only the bytes ahead of n count. -/
section CONG
variable {r r' : QB} {n : Nat}
theorem blt_no {p n : Nat} (h : ¬ p < n) : Nat.blt p n = false := by
  cases hb : Nat.blt p n with
  | false => rfl
  | true => exact absurd (Nat.blt_eq.mp hb) h
theorem bleN_no {p n : Nat} (h : ¬ p ≤ n) : Nat.ble p n = false := by
  cases hb : Nat.ble p n with
  | false => rfl
  | true => exact absurd (Nat.le_of_ble_eq_true hb) h
theorem skF_congr {P : Int → Bool} (H : ∀ j, j < n → r j = r' j) : ∀ f p, skF P r n f p = skF P r' n f p
  | 0, p => rfl
  | f + 1, p => by
    have e : (Nat.blt p n && P (r p)) = (Nat.blt p n && P (r' p)) := by
      by_cases c : p < n
      · rw [H p c]
      · rw [blt_no c]; rfl
    show (match Nat.blt p n && P (r p) with | true => skF P r n f (p + 1) | false => p) = (match Nat.blt p n && P (r' p) with | true => skF P r' n f (p + 1) | false => p)
    rw [e, skF_congr H f (p + 1)]
theorem skp_congr {P : Int → Bool} (H : ∀ j, j < n → r j = r' j) (p : Nat) : skp P r n p = skp P r' n p := skF_congr H _ _
theorem phE_congr (H : ∀ j, j < n → r j = r' j) (p : Nat) : phE r n p = phE r' n p := by
  rw [phE_eq]; unfold phE0
  rw [skp_congr H]
theorem isW_congr (H : ∀ j, j < n → r j = r' j) {p e : Nat} {w : List Int} (he : e ≤ n) (hw : 0 < w.length) : isW r p e w = isW r' p e w := by
  unfold isW
  cases hb : Nat.beq (e - p) w.length with
  | false => rfl
  | true =>
    have := Nat.eq_of_beq_eq_true hb
    rw [mtA_congr H (by omega)]
theorem fdF_congr (H : ∀ j, j < n → r j = r' j) {p e : Nat} (he : e ≤ n) : ∀ k f, fdF r p e k f = fdF r' p e k f
  | 0, f => rfl
  | k + 1, f => by
    have q : (Nat.ble (p + (FN f).length) e && mtA r p (FN f)) = (Nat.ble (p + (FN f).length) e && mtA r' p (FN f)) := by
      by_cases c : p + (FN f).length ≤ e
      · rw [mtA_congr H (by omega)]
      · rw [bleN_no c]; rfl
    show (match Nat.ble (p + (FN f).length) e && mtA r p (FN f) with | true => f | false => fdF r p e k (f + 1)) = (match Nat.ble (p + (FN f).length) e && mtA r' p (FN f) with | true => f | false => fdF r' p e k (f + 1))
    rw [q, fdF_congr H he k (f + 1)]
theorem fld_congr (H : ∀ j, j < n → r j = r' j) {p e : Nat} (he : e ≤ n) : fld r p e = fld r' p e := by
  rw [fld_eq]; exact fdF_congr H he 8 0
theorem allR_congr {k : Nat} {P Q : Nat → Bool} (h : ∀ i, i < k → P i = Q i) : (List.range k).all P = (List.range k).all Q := by
  rw [Bool.eq_iff_iff, List.all_eq_true, List.all_eq_true]
  constructor
  · intro q i hi
    rw [← h i (List.mem_range.mp hi)]
    exact q i hi
  · intro q i hi
    rw [h i (List.mem_range.mp hi)]
    exact q i hi
theorem numOK_congr (H : ∀ j, j < n → r j = r' j) {a b : Nat} (hb : b ≤ n) : numOK r a b = numOK r' a b := by
  unfold numOK
  rw [allR_congr (P := fun i => isDg (r (a + i))) (Q := fun i => isDg (r' (a + i))) (fun i hi => by rw [H (a + i) (by omega)])]
theorem nv_congr (H : ∀ j, j < n → r j = r' j) {a : Nat} : ∀ k, a + k ≤ n → nv r a k = nv r' a k
  | 0, _ => rfl
  | k + 1, h => by
    rw [nv_1, nv_1, nv_congr H k (by omega), H (a + k) (by omega)]
theorem dayOK_congr (H : ∀ j, j < n → r j = r' j) {a : Nat} (ha : a + 8 ≤ n) : dayOK r a = dayOK r' a := by
  unfold dayOK
  rw [allR_congr (P := fun i => isDg (r (a + i))) (Q := fun i => isDg (r' (a + i))) (fun i hi => by rw [H (a + i) (by omega)]), nv_congr H 2 (show a + 4 + 2 ≤ n by omega), nv_congr H 2 (show a + 6 + 2 ≤ n by omega), nv_congr H 4 (show a + 4 ≤ n by omega)]
theorem datOK_congr (H : ∀ j, j < n → r j = r' j) {a b : Nat} (hb : b ≤ n) : datOK r a b = datOK r' a b := by
  have d2 : wDD.length = 2 := rfl
  rw [datOK_eq]; unfold datOK0
  have e1 : (Nat.beq (b - a) 10 && (mtA r a wDD && dayOK r (a + 2))) = (Nat.beq (b - a) 10 && (mtA r' a wDD && dayOK r' (a + 2))) := by
    cases c : Nat.beq (b - a) 10 with
    | false => rfl
    | true =>
      have := Nat.eq_of_beq_eq_true c
      rw [mtA_congr H (by omega), dayOK_congr H (by omega)]
  have e2 : (Nat.beq (b - a) 10 && (!(mtA r a wDD) && (mtA r (a + 8) wDD && dayOK r a))) = (Nat.beq (b - a) 10 && (!(mtA r' a wDD) && (mtA r' (a + 8) wDD && dayOK r' a))) := by
    cases c : Nat.beq (b - a) 10 with
    | false => rfl
    | true =>
      have := Nat.eq_of_beq_eq_true c
      rw [mtA_congr H (p := a) (by omega), mtA_congr H (p := a + 8) (by omega), dayOK_congr H (by omega)]
  have e3 : (Nat.beq (b - a) 18 && (mtA r (a + 8) wDD && (dayOK r a && dayOK r (a + 10)))) = (Nat.beq (b - a) 18 && (mtA r' (a + 8) wDD && (dayOK r' a && dayOK r' (a + 10)))) := by
    cases c : Nat.beq (b - a) 18 with
    | false => rfl
    | true =>
      have := Nat.eq_of_beq_eq_true c
      rw [mtA_congr H (by omega), dayOK_congr H (a := a) (by omega), dayOK_congr H (a := a + 10) (by omega)]
  rw [e1, e2, e3]
theorem oneQ_congr (H : ∀ j, j < n → r j = r' j) {p e : Nat} (hp : p < n) (he : e ≤ n) : oneQ r n p e = oneQ r' n p e := by
  rw [oneQ_eq]; unfold oneQ0
  have c34 : (e < n ∧ r e = 34) ↔ (e < n ∧ r' e = 34) := ⟨fun q => ⟨q.1, by rw [← H e q.1]; exact q.2⟩, fun q => ⟨q.1, by rw [H e q.1]; exact q.2⟩⟩
  rw [H p hp, phE_congr H, phE_congr H, fld_congr H he, numOK_congr H he, datOK_congr H he]
  simp only [c34]
theorem pqF_congr (H : ∀ j, j < n → r j = r' j) : ∀ (k p o : Nat) (b a : Bool), pqF r n k p o b a = pqF r' n k p o b a
  | 0, p, o, b, a => rfl
  | k + 1, p, o, b, a => by
    unfold pqF
    by_cases c : n ≤ p
    · rw [if_pos c, if_pos c]
    · have hs : skp noSg r' n p ≤ n := skp_le (by omega)
      rw [if_neg c, if_neg c, H p (by omega), skp_congr H, isW_congr H (w := wOR) hs (by decide), isW_congr H (w := wAND) hs (by decide), isW_congr H (w := wNOT) hs (by decide), oneQ_congr H (by omega) hs, pqF_congr H k, pqF_congr H k, pqF_congr H k, pqF_congr H k, pqF_congr H k]
theorem pq_congr (H : ∀ j, j < n → r j = r' j) : pq r n 0 0 false false = pq r' n 0 0 false false := pqF_congr H _ _ _ _ _
end CONG
/-! A term, by the reference's tests. -/
theorem o6yK {r : QB} {n p e : Nat} (hq : r p ≠ 34) (h : fld r p e = 6) (hL : p + (FN (fld r p e)).length ≠ e) (hv : bi (numOK r (p + (FN (fld r p e)).length) e) = 1) : oneQ r n p e = (e : Int) := by
  refine o6y hq h hL ?_
  rcases numV_in (r := r) (a := p + (FN (fld r p e)).length) (b := e) with ⟨-, q⟩ | ⟨q, -⟩
  · rw [q] at hv
    exact absurd hv (by decide)
  · exact q.1
theorem o6nK {r : QB} {n p e : Nat} (hq : r p ≠ 34) (h : fld r p e = 6) (hL : p + (FN (fld r p e)).length ≠ e) (hv : bi (numOK r (p + (FN (fld r p e)).length) e) = 0) : oneQ r n p e = -1 := by
  refine o6n hq h hL ?_
  rcases numV_in (r := r) (a := p + (FN (fld r p e)).length) (b := e) with ⟨q, -⟩ | ⟨-, q⟩
  · exact q
  · rw [q] at hv
    exact absurd hv (by decide)
/-- where a query of n bytes r is refused -/
theorem pqSE : ∃ f : QB → Nat → Int, f = fun r n => pq r n 0 0 false false := ⟨_, rfl⟩
noncomputable def pqS : QB → Nat → Int := Classical.choose pqSE
theorem pqS_eq (r : QB) (n : Nat) : pqS r n = pq r n 0 0 false false := congrFun (congrFun (Classical.choose_spec pqSE) r) n
theorem pqS_congr {r r' : QB} {n : Nat} (H : ∀ j, j < n → r j = r' j) : pqS r n = pqS r' n := by
  rw [pqS_eq, pqS_eq, pq_congr H]
theorem RF_S {h : Hp} : RF h = pqS (hr h) (hn h) := by
  rw [RF_eq, pqS_eq]
  rfl
/-- the copy in h is read as what it was copied from -/
theorem RF_row {h : Hp} {r : QB} {t : Int} (e : (hn h : Int) = h.2.2 60 44) (ht : h.2.2 60 44 = t) (H : ∀ j : Nat, (j : Int) < t → h.2.2 88 j = r j) : RF h = pqS r t.toNat := by
  rw [RF_S, show hn h = t.toNat by omega]
  exact pqS_congr fun j hj => H j (by omega)
theorem pq_row {h : Hp} {r : QB} {t : Int} (e : (qn h : Int) = h.2.2 6 1) (ht : h.2.2 6 1 = t) (H : ∀ j : Nat, j < t.toNat → h.2.2 7 j = r j) : pq (qr h) (qn h) 0 0 false false = pqS r t.toNat := by
  rw [← pqS_eq, show qn h = t.toNat by omega]
  exact pqS_congr fun j hj => H j hj
theorem pqF_in {r : QB} {n : Nat} : ∀ (k p o : Nat) (b a : Bool), -1 ≤ pqF r n k p o b a ∧ pqF r n k p o b a ≤ n
  | 0, p, o, b, a => by
    show -1 ≤ (if a = true ∧ (b = false ∨ 0 < o) then (n : Int) else -1) ∧ (if a = true ∧ (b = false ∨ 0 < o) then (n : Int) else -1) ≤ n
    split <;> omega
  | k + 1, p, o, b, a => by
    have i := fun p o b a => pqF_in (r := r) (n := n) k p o b a
    unfold pqF
    by_cases c : n ≤ p
    · rw [if_pos c]
      split <;> omega
    · rw [if_neg c]
      repeat' split
      all_goals first
        | exact i _ _ _ _
        | omega
theorem pqS_in (r : QB) (n : Nat) : -1 ≤ pqS r n ∧ pqS r n ≤ n := by
  rw [pqS_eq]
  exact pqF_in _ _ _ _ _
