/-! A word's kind and end, case by case. -/
section WKX
variable {r : QB} {n p e : Nat}
theorem wk_or (h : isW r p e wOR = true) : wk r n p e = 3 ∧ wb r n p e = (e : Int) := by
  have z := wk_n (r := r) (n := n) (p := p) (e := e)
  rw [bi_1 h] at z
  omega
theorem wk_and (h1 : isW r p e wOR = false) (h : isW r p e wAND = true) : wk r n p e = 4 ∧ wb r n p e = (e : Int) := by
  have z := wk_n (r := r) (n := n) (p := p) (e := e)
  rw [bi_0 h1, bi_1 h] at z
  omega
theorem wk_not (h1 : isW r p e wOR = false) (h2 : isW r p e wAND = false) (h : isW r p e wNOT = true) : wk r n p e = 5 ∧ wb r n p e = (e : Int) := by
  have z := wk_n (r := r) (n := n) (p := p) (e := e)
  rw [bi_0 h1, bi_0 h2, bi_1 h] at z
  omega
theorem wk_7 (h1 : isW r p e wOR = false) (h2 : isW r p e wAND = false) (h3 : isW r p e wNOT = false) (h : oneQ r n p e = -1) : wk r n p e = 7 := by
  have z := wk_n (r := r) (n := n) (p := p) (e := e)
  rw [bi_0 h1, bi_0 h2, bi_0 h3] at z
  omega
theorem wk_6 {v : Int} (h1 : isW r p e wOR = false) (h2 : isW r p e wAND = false) (h3 : isW r p e wNOT = false) (h : oneQ r n p e = v) (hv : v ≠ -1) : wk r n p e = 6 ∧ wb r n p e = v := by
  have z := wk_n (r := r) (n := n) (p := p) (e := e)
  rw [bi_0 h1, bi_0 h2, bi_0 h3] at z
  omega
theorem o8 (hq : r p ≠ 34) (h : fld r p e = 8) : oneQ r n p e = (e : Int) := by
  rw [oneQ_eq]; unfold oneQ0
  rw [if_neg hq, if_pos h]
theorem oPh7 (hq : r p ≠ 34) (h : fld r p e < 4) (hL : p + (FN (fld r p e)).length = e) (he : e < n) (hr : r e = 34) (hp : phE r n (e + 1) = -1) : oneQ r n p e = -1 := by
  rw [oneQ_eq]; unfold oneQ0
  rw [if_neg hq, if_neg (by omega), if_pos hL, if_pos ⟨h, he, hr⟩, if_pos hp]
theorem oPh6 (hq : r p ≠ 34) (h : fld r p e < 4) (hL : p + (FN (fld r p e)).length = e) (he : e < n) (hr : r e = 34) (hp : phE r n (e + 1) ≠ -1) : oneQ r n p e = phE r n (e + 1) + 1 := by
  rw [oneQ_eq]; unfold oneQ0
  rw [if_neg hq, if_neg (by omega), if_pos hL, if_pos ⟨h, he, hr⟩, if_neg hp]
theorem oNo (hq : r p ≠ 34) (h : fld r p e ≠ 8) (hL : p + (FN (fld r p e)).length = e) (hn : 4 ≤ fld r p e ∨ n ≤ e ∨ r e ≠ 34) : oneQ r n p e = -1 := by
  rw [oneQ_eq]; unfold oneQ0
  rw [if_neg hq, if_neg h, if_pos hL, if_neg (by omega)]
theorem oEl (hq : r p ≠ 34) (h : fld r p e ≠ 8) (hL : p + (FN (fld r p e)).length ≠ e) (h6 : fld r p e ≠ 6) (h7 : fld r p e ≠ 7) : oneQ r n p e = (e : Int) := by
  rw [oneQ_eq]; unfold oneQ0
  rw [if_neg hq, if_neg h, if_neg hL, if_neg (fun q => by
    rcases q with ⟨q, -⟩ | ⟨q, -⟩
    · exact h6 q
    · exact h7 q)]
theorem o6y (hq : r p ≠ 34) (h : fld r p e = 6) (hL : p + (FN (fld r p e)).length ≠ e) (hv : 0 ≤ numV r (p + (FN (fld r p e)).length) e) : oneQ r n p e = (e : Int) := by
  have z := oneQ_n (r := r) (n := n) (p := p) (e := e) hq
  omega
theorem o6n (hq : r p ≠ 34) (h : fld r p e = 6) (hL : p + (FN (fld r p e)).length ≠ e) (hv : numV r (p + (FN (fld r p e)).length) e = -1) : oneQ r n p e = -1 := by
  have z := oneQ_n (r := r) (n := n) (p := p) (e := e) hq
  omega
theorem o7y (hq : r p ≠ 34) (h : fld r p e = 7) (hL : p + (FN (fld r p e)).length ≠ e) (hv : bi (datOK r (p + (FN (fld r p e)).length) e) = 1) : oneQ r n p e = (e : Int) := by
  have z := oneQ_n (r := r) (n := n) (p := p) (e := e) hq
  omega
theorem o7n (hq : r p ≠ 34) (h : fld r p e = 7) (hL : p + (FN (fld r p e)).length ≠ e) (hv : bi (datOK r (p + (FN (fld r p e)).length) e) = 0) : oneQ r n p e = -1 := by
  have z := oneQ_n (r := r) (n := n) (p := p) (e := e) hq
  omega
theorem dat_0 {a b : Nat} (h : a = b) : bi (datOK r a b) = 0 := by
  subst h
  rw [datOK_eq]; unfold datOK0
  rw [Nat.sub_self]
  rfl
theorem tk_0 (h : n ≤ p) : tkK r n p = 0 := by
  rw [tkK_eq]; unfold tkK0
  rw [if_pos h]
theorem tk_40 (h : p < n) (hb : r p = 40) : tkK r n p = 1 ∧ tkB r n p = (p : Int) + 1 := by
  rw [tkK_eq, tkB_eq]; unfold tkK0 tkB0
  rw [if_neg (by omega), if_pos hb, if_pos (Or.inl hb)]
  exact ⟨rfl, rfl⟩
theorem tk_41 (h : p < n) (hb : r p = 41) : tkK r n p = 2 ∧ tkB r n p = (p : Int) + 1 := by
  rw [tkK_eq, tkB_eq]; unfold tkK0 tkB0
  rw [if_neg (by omega), if_neg (show ¬ r p = 40 by omega), if_pos hb, if_pos (Or.inr hb)]
  exact ⟨rfl, rfl⟩
theorem tk_7 (h : p < n) (hb : r p = 34) (hp : phE r n (p + 1) = -1) : tkK r n p = 7 := by
  rw [tkK_eq]; unfold tkK0
  rw [if_neg (by omega), if_neg (show ¬ r p = 40 by omega), if_neg (show ¬ r p = 41 by omega), if_pos hb, if_pos hp]
theorem tk_6 (h : p < n) (hb : r p = 34) (hp : phE r n (p + 1) ≠ -1) : tkK r n p = 6 ∧ tkB r n p = phE r n (p + 1) + 1 := by
  rw [tkK_eq, tkB_eq]; unfold tkK0 tkB0
  rw [if_neg (by omega), if_neg (show ¬ r p = 40 by omega), if_neg (show ¬ r p = 41 by omega), if_pos hb, if_neg hp, if_neg (show ¬ (r p = 40 ∨ r p = 41) by omega), if_pos hb]
  exact ⟨rfl, rfl⟩
theorem tk_w (h : p < n) (h1 : r p ≠ 40) (h2 : r p ≠ 41) (h3 : r p ≠ 34) : tkK r n p = wk r n p (skp noSg r n p) ∧ tkB r n p = wb r n p (skp noSg r n p) := by
  rw [tkK_eq, tkB_eq]; unfold tkK0 tkB0
  rw [if_neg (by omega), if_neg h1, if_neg h2, if_neg h3, if_neg (show ¬ (r p = 40 ∨ r p = 41) by omega), if_neg h3]
  exact ⟨rfl, rfl⟩
end WKX
