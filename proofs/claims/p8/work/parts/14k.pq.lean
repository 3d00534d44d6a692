/-! The query, sign by sign. -/
theorem isW_first {r : QB} {p e : Nat} {w : List Int} (h : isW r p e w = true) (hw : 0 < w.length) : r p = w.getD 0 0 := by
  unfold isW at h
  rw [Bool.and_eq_true] at h
  exact mtA_at h.2 hw
theorem noW {r : QB} {p e : Nat} (h : r p ≠ 111) (h2 : r p ≠ 97) : ¬ (isW r p e wOR = true ∨ isW r p e wAND = true) := by
  rintro (q | q)
  · exact h (isW_first q (by decide))
  · exact h2 (isW_first q (by decide))
theorem noN {r : QB} {p e : Nat} (h : r p ≠ 110) : ¬ isW r p e wNOT = true := fun q => h (isW_first q (by decide))
theorem bi_iff {b : Bool} : bi b = 1 ↔ b = true := by cases b <;> decide
theorem oq34 {r : QB} {n p e : Nat} (h : r p = 34) : oneQ r n p e = if phE r n (p + 1) = -1 then -1 else phE r n (p + 1) + 1 := by
  rw [oneQ_eq]; unfold oneQ0
  rw [if_pos h]
section PQK
variable {r : QB} {n p o : Nat} {b a : Bool}
theorem pq_K0 (h : tkK r n p = 0) : n ≤ p ∧ pq r n p o b a = if a = true ∧ (b = false ∨ 0 < o) then (n : Int) else -1 := by
  have t := tk_n (r := r) (n := n) (p := p)
  have w := wk_n (r := r) (n := n) (p := p) (e := skp noSg r n p)
  have h0 : n ≤ p := by omega
  exact ⟨h0, by rw [pq_eq, if_pos h0]⟩
theorem pq_K1 (hb : p < n → isBl (r p) = false) (h : tkK r n p = 1) : tkB r n p = (p : Int) + 1 ∧ pq r n p o b a = if o = 20 then (p : Int) else pq r n (p + 1) (o + 1) false true := by
  have t := tk_n (r := r) (n := n) (p := p)
  have w := wk_n (r := r) (n := n) (p := p) (e := skp noSg r n p)
  have h0 : p < n := by omega
  have h1 : r p = 40 := by omega
  exact ⟨by omega, by rw [pq_eq, if_neg (by omega), if_neg (by rw [hb h0]; decide), if_neg (show ¬ r p = 41 by omega), if_neg (noW (by omega) (by omega)), if_pos h1]⟩
theorem pq_K2 (hb : p < n → isBl (r p) = false) (h : tkK r n p = 2) : tkB r n p = (p : Int) + 1 ∧ pq r n p o b a = if b = false ∨ o = 0 then (p : Int) else pq r n (p + 1) (o - 1) true true := by
  have t := tk_n (r := r) (n := n) (p := p)
  have w := wk_n (r := r) (n := n) (p := p) (e := skp noSg r n p)
  have h0 : p < n := by omega
  have h1 : r p = 41 := by omega
  exact ⟨by omega, by rw [pq_eq, if_neg (by omega), if_neg (by rw [hb h0]; decide), if_pos h1]⟩
theorem pq_K34 (hb : p < n → isBl (r p) = false) (h : tkK r n p = 3 ∨ tkK r n p = 4) : tkB r n p = (skp noSg r n p : Nat) ∧ pq r n p o b a = if b = false then (p : Int) else pq r n (skp noSg r n p) o false true := by
  have t := tk_n (r := r) (n := n) (p := p)
  have w := wk_n (r := r) (n := n) (p := p) (e := skp noSg r n p)
  have h0 : p < n := by omega
  have h1 : bi (isW r p (skp noSg r n p) wOR) = 1 ∨ bi (isW r p (skp noSg r n p) wAND) = 1 := by omega
  rw [bi_iff, bi_iff] at h1
  exact ⟨by omega, by rw [pq_eq, if_neg (by omega), if_neg (by rw [hb h0]; decide), if_neg (show ¬ r p = 41 by omega), if_pos h1]⟩
theorem pq_K5 (hb : p < n → isBl (r p) = false) (h : tkK r n p = 5) : tkB r n p = (skp noSg r n p : Nat) ∧ pq r n p o b a = pq r n (skp noSg r n p) o false true := by
  have t := tk_n (r := r) (n := n) (p := p)
  have w := wk_n (r := r) (n := n) (p := p) (e := skp noSg r n p)
  have h0 : p < n := by omega
  have h1 : bi (isW r p (skp noSg r n p) wNOT) = 1 := by omega
  rw [bi_iff] at h1
  have h2 : r p = 110 := isW_first h1 (by decide)
  exact ⟨by omega, by rw [pq_eq, if_neg (by omega), if_neg (by rw [hb h0]; decide), if_neg (show ¬ r p = 41 by omega), if_neg (noW (by omega) (by omega)), if_neg (show ¬ r p = 40 by omega), if_pos h1]⟩
/-- a term, whole or not -/
theorem pq_T (hb : p < n → isBl (r p) = false) (h : tkK r n p = 6 ∨ tkK r n p = 7) : (p < n ∧ ((tkK r n p = 7 ∧ oneQ r n p (skp noSg r n p) = -1) ∨ (tkK r n p = 6 ∧ oneQ r n p (skp noSg r n p) ≠ -1 ∧ tkB r n p = oneQ r n p (skp noSg r n p)))) ∧ pq r n p o b a = if oneQ r n p (skp noSg r n p) = -1 then (p : Int) else pq r n (oneQ r n p (skp noSg r n p)).toNat o true true := by
  have t := tk_n (r := r) (n := n) (p := p)
  have w := wk_n (r := r) (n := n) (p := p) (e := skp noSg r n p)
  have h0 : p < n := by omega
  by_cases hq : r p = 34
  · have q := oq34 (n := n) (e := skp noSg r n p) hq
    have q2 : (phE r n (p + 1) = -1 ∧ oneQ r n p (skp noSg r n p) = -1) ∨ (phE r n (p + 1) ≠ -1 ∧ oneQ r n p (skp noSg r n p) = phE r n (p + 1) + 1) := by
      by_cases c : phE r n (p + 1) = -1
      · rw [if_pos c] at q; exact Or.inl ⟨c, q⟩
      · rw [if_neg c] at q; exact Or.inr ⟨c, q⟩
    have q3 := phE_in r n (p + 1)
    exact ⟨⟨h0, by omega⟩, by rw [pq_eq, if_neg (by omega), if_neg (by rw [hb h0]; decide), if_neg (show ¬ r p = 41 by omega), if_neg (noW (by omega) (by omega)), if_neg (show ¬ r p = 40 by omega), if_neg (noN (by omega))]⟩
  · have h1 : ¬ bi (isW r p (skp noSg r n p) wOR) = 1 ∧ ¬ bi (isW r p (skp noSg r n p) wAND) = 1 ∧ ¬ bi (isW r p (skp noSg r n p) wNOT) = 1 ∧ r p ≠ 40 ∧ r p ≠ 41 := by omega
    obtain ⟨n1, n2, n3, n4, n5⟩ := h1
    rw [bi_iff] at n1 n2 n3
    exact ⟨⟨h0, by omega⟩, by rw [pq_eq, if_neg (by omega), if_neg (by rw [hb h0]; decide), if_neg n5, if_neg (by rintro (q | q) <;> contradiction), if_neg n4, if_neg n3]⟩
end PQK
theorem tkK_in {r : QB} {n p : Nat} : 0 ≤ tkK r n p ∧ tkK r n p ≤ 7 := by
  have t := tk_n (r := r) (n := n) (p := p)
  have w := wk_n (r := r) (n := n) (p := p) (e := skp noSg r n p)
  omega
section PQS
variable {r : QB} {n p : Nat} {lv lv' w w' t : Int}
theorem pq_stop (h : tkK r n p = 0) (hw : w = 0) (hl : lv = 0) : pq r n p lv.toNat (decide (w = 0 ∧ 0 < t)) (decide (0 < t)) = -1 := by
  rw [(pq_K0 h).2]
  by_cases c : 0 < t
  · rw [decide_eq_true (show w = 0 ∧ 0 < t from ⟨hw, c⟩), hl, if_neg (fun q => q.2.elim (fun z => by cases z) (fun z => absurd z (by decide)))]
  · rw [decide_eq_false c, if_neg (by rintro ⟨q, -⟩; cases q)]
theorem pq_fail (hb : p < n → isBl (r p) = false) (hp : p ≤ n) (hw : w = 0 ∨ w = 1) (hl : 0 ≤ lv ∧ lv ≤ 20) (ht : 0 ≤ t) (h : (tkK r n p = 0 ∧ (w = 1 ∨ lv ≠ 0)) ∨ (tkK r n p = 1 ∧ 20 ≤ lv) ∨ (tkK r n p = 2 ∧ (w = 1 ∨ lv ≤ 0)) ∨ ((tkK r n p = 3 ∨ tkK r n p = 4) ∧ (w = 1 ∨ t = 0)) ∨ tkK r n p = 7) (hi : t ≠ 0 ∨ (w = 0 ∧ lv = 0)) : pq r n p lv.toNat (decide (w = 0 ∧ 0 < t)) (decide (0 < t)) = (p : Int) := by
  rcases h with ⟨h, c⟩ | ⟨h, c⟩ | ⟨h, c⟩ | ⟨h, c⟩ | h
  · have k := pq_K0 (o := lv.toNat) (b := decide (w = 0 ∧ 0 < t)) (a := decide (0 < t)) h
    rw [k.2, if_pos ⟨decide_eq_true (by omega), (if z : w = 1 then Or.inl (decide_eq_false (by omega)) else Or.inr (by omega))⟩]
    omega
  · rw [(pq_K1 hb h).2, if_pos (by omega)]
  · rw [(pq_K2 hb h).2, if_pos (if z : w = 1 then Or.inl (decide_eq_false (by omega)) else Or.inr (by omega))]
  · rw [(pq_K34 hb h).2, if_pos (decide_eq_false (by omega))]
  · have k := pq_T (o := lv.toNat) (b := decide (w = 0 ∧ 0 < t)) (a := decide (0 < t)) hb (Or.inr h)
    rw [k.2, if_pos (by omega)]
theorem pq_step (hb : p < n → isBl (r p) = false) (hl : 0 ≤ lv ∧ lv ≤ 20) (ht : 0 ≤ t) (hc : (tkK r n p = 1 ∧ lv < 20 ∧ lv' = lv + 1 ∧ w' = 1) ∨ (tkK r n p = 2 ∧ w = 0 ∧ 0 < lv ∧ lv' = lv - 1 ∧ w' = 0) ∨ ((tkK r n p = 3 ∨ tkK r n p = 4) ∧ w = 0 ∧ t ≠ 0 ∧ lv' = lv ∧ w' = 1) ∨ (tkK r n p = 5 ∧ lv' = lv ∧ w' = 1) ∨ (tkK r n p = 6 ∧ lv' = lv ∧ w' = 0)) (hi : t ≠ 0 ∨ lv = 0) : pq r n p lv.toNat (decide (w = 0 ∧ 0 < t)) (decide (0 < t)) = pq r n (tkB r n p).toNat lv'.toNat (decide (w' = 0 ∧ 0 < t + 1)) (decide (0 < t + 1)) := by
  have a1 : decide (0 < t + 1) = true := decide_eq_true (by omega)
  rcases hc with ⟨h, c1, c2, c3⟩ | ⟨h, c1, c2, c3, c4⟩ | ⟨h, c1, c2, c3, c4⟩ | ⟨h, c1, c2⟩ | ⟨h, c1, c2⟩
  · have k := pq_K1 (o := lv.toNat) (b := decide (w = 0 ∧ 0 < t)) (a := decide (0 < t)) hb h
    rw [k.2, if_neg (by omega), k.1, a1, decide_eq_false (show ¬ (w' = 0 ∧ 0 < t + 1) by omega), show ((p : Int) + 1).toNat = p + 1 by omega, show lv'.toNat = lv.toNat + 1 by omega]
  · have k := pq_K2 (o := lv.toNat) (b := decide (w = 0 ∧ 0 < t)) (a := decide (0 < t)) hb h
    rw [k.2, decide_eq_true (show w = 0 ∧ 0 < t by omega), if_neg (fun q => q.elim (fun z => by cases z) (fun z => by omega)), k.1, a1, decide_eq_true (show w' = 0 ∧ 0 < t + 1 by omega), show ((p : Int) + 1).toNat = p + 1 by omega, show lv'.toNat = lv.toNat - 1 by omega]
  · have k := pq_K34 (o := lv.toNat) (b := decide (w = 0 ∧ 0 < t)) (a := decide (0 < t)) hb h
    rw [k.2, decide_eq_true (show w = 0 ∧ 0 < t by omega), if_neg (by decide), k.1, a1, decide_eq_false (show ¬ (w' = 0 ∧ 0 < t + 1) by omega), Int.toNat_natCast, c3]
  · have k := pq_K5 (o := lv.toNat) (b := decide (w = 0 ∧ 0 < t)) (a := decide (0 < t)) hb h
    rw [k.2, k.1, a1, decide_eq_false (show ¬ (w' = 0 ∧ 0 < t + 1) by omega), Int.toNat_natCast, c1]
  · have k := pq_T (o := lv.toNat) (b := decide (w = 0 ∧ 0 < t)) (a := decide (0 < t)) hb (Or.inl h)
    obtain ⟨⟨-, z⟩, k2⟩ := k
    have z1 : oneQ r n p (skp noSg r n p) ≠ -1 ∧ tkB r n p = oneQ r n p (skp noSg r n p) := by omega
    rw [k2, if_neg z1.1, z1.2, a1, decide_eq_true (show w' = 0 ∧ 0 < t + 1 by omega), c1]
end PQS
