/-! The lexer's signs. -/
theorem fd_no {r : QB} {p e k f : Nat} (h : (Nat.ble (p + (FN f).length) e && mtA r p (FN f)) = false) : fdF r p e (k + 1) f = fdF r p e k (f + 1) := by
  show (match Nat.ble (p + (FN f).length) e && mtA r p (FN f) with | true => f | false => fdF r p e k (f + 1)) = _
  rw [h]
theorem fd_hit {r : QB} {p e k f : Nat} (h : (Nat.ble (p + (FN f).length) e && mtA r p (FN f)) = true) : fdF r p e (k + 1) f = f := by
  show (match Nat.ble (p + (FN f).length) e && mtA r p (FN f) with | true => f | false => fdF r p e k (f + 1)) = _
  rw [h]
theorem FN_len (f : Nat) : (FN f).length ≤ 8 ∧ (f < 8 → 3 ≤ (FN f).length) ∧ (f = 8 → (FN f).length = 0) := by
  by_cases h : f < 8
  · rcases (show f = 0 ∨ f = 1 ∨ f = 2 ∨ f = 3 ∨ f = 4 ∨ f = 5 ∨ f = 6 ∨ f = 7 by omega) with rfl | rfl | rfl | rfl | rfl | rfl | rfl | rfl <;> decide
  · have e : FN f = [] := by
      unfold FN
      split <;> first | omega | rfl
    rw [e]
    exact ⟨by decide, fun q => absurd q h, fun _ => rfl⟩
theorem FN_sg {f : Nat} (h : f < 8) : (FN f).all noSg = true := by
  rcases (show f = 0 ∨ f = 1 ∨ f = 2 ∨ f = 3 ∨ f = 4 ∨ f = 5 ∨ f = 6 ∨ f = 7 by omega) with rfl | rfl | rfl | rfl | rfl | rfl | rfl | rfl <;> decide
theorem all_at {w : List Int} {P : Int → Bool} (h : w.all P = true) {j : Nat} (hj : j < w.length) : P (w.getD j 0) = true := by
  rw [List.getD_eq_getElem?_getD, List.getElem?_eq_getElem hj]
  exact List.all_eq_true.mp h _ (List.getElem_mem hj)
/-- a field's name that stands at p lies within the word that begins there -/
theorem fB {r : QB} {n p f : Nat} (hp : p ≤ n) (hf : f < 8) : hasB r n p (FN f) = (Nat.ble (p + (FN f).length) (skp noSg r n p) && mtA r p (FN f)) := by
  cases hm : mtA r p (FN f) with
  | false =>
    unfold hasB
    rw [hm, Bool.and_false, Bool.and_false]
  | true =>
    by_cases c : p + (FN f).length ≤ n
    · have h1 : p + (FN f).length ≤ skp noSg r n p := skp_far (FN f).length p _ (by omega) (by omega) c (fun j a b => by
        have e := mtA_at hm (j := j - p) (by omega)
        rw [show p + (j - p) = j by omega] at e
        rw [e]
        exact all_at (FN_sg hf) (by omega))
      rw [hasB_mt c, hm, Nat.ble_eq.mpr h1]
      rfl
    · have hle : skp noSg r n p ≤ n := skp_le hp
      rw [hasB_no1 (by omega), Bool.and_true]
      cases e : Nat.ble (p + (FN f).length) (skp noSg r n p) with
      | false => rfl
      | true => exact absurd (Nat.le_of_ble_eq_true e) (by omega)
theorem fdF_le {r : QB} {p e : Nat} : ∀ k f : Nat, f + k ≤ 8 → fdF r p e k f ≤ 8 ∧ (fdF r p e k f < 8 → p + (FN (fdF r p e k f)).length ≤ e)
  | 0, f, _ => ⟨Nat.le_refl 8, fun q => absurd q (Nat.lt_irrefl 8)⟩
  | k + 1, f, h => by
    cases hb : Nat.ble (p + (FN f).length) e && mtA r p (FN f) with
    | true =>
      rw [fd_hit hb]
      rw [Bool.and_eq_true] at hb
      exact ⟨by omega, fun _ => Nat.le_of_ble_eq_true hb.1⟩
    | false =>
      rw [fd_no hb]
      exact fdF_le k (f + 1) (by omega)
theorem fld_in {r : QB} {p e : Nat} (he : p ≤ e) : fld r p e ≤ 8 ∧ p + (FN (fld r p e)).length ≤ e := by
  have h := fdF_le (r := r) (p := p) (e := e) 8 0 (by decide)
  have e8 : fld r p e = fdF r p e 8 0 := by rw [fld_eq]; rfl
  rw [← e8] at h
  have h1 : fld r p e ≤ 8 := h.1
  refine ⟨h1, ?_⟩
  by_cases c : fld r p e < 8
  · exact h.2 c
  · rw [(FN_len _).2.2 (by omega)]
    exact he
theorem datOK_n {r : QB} {n a b : Nat} (hb : b ≤ n) : (bi (datOK r a b) = 1 ∧ ((b = a + 10 ∧ bi (hasB r n a wDD) = 1 ∧ bi (dayOK r (a + 2)) = 1) ∨ (b = a + 10 ∧ bi (hasB r n a wDD) = 0 ∧ bi (hasB r n (a + 8) wDD) = 1 ∧ bi (dayOK r a) = 1) ∨ (b = a + 18 ∧ bi (hasB r n (a + 8) wDD) = 1 ∧ bi (dayOK r a) = 1 ∧ bi (dayOK r (a + 10)) = 1))) ∨ (bi (datOK r a b) = 0 ∧ ¬ ((b = a + 10 ∧ bi (hasB r n a wDD) = 1 ∧ bi (dayOK r (a + 2)) = 1) ∨ (b = a + 10 ∧ bi (hasB r n a wDD) = 0 ∧ bi (hasB r n (a + 8) wDD) = 1 ∧ bi (dayOK r a) = 1) ∨ (b = a + 18 ∧ bi (hasB r n (a + 8) wDD) = 1 ∧ bi (dayOK r a) = 1 ∧ bi (dayOK r (a + 10)) = 1))) := by
  have l2 : wDD.length = 2 := rfl
  have b10 : Nat.beq (b - a) 10 = decide (b = a + 10) := by
    rw [Bool.eq_iff_iff, decide_eq_true_iff]
    constructor
    · intro q
      have := Nat.eq_of_beq_eq_true q
      omega
    · intro q
      rw [show b - a = 10 by omega]
      rfl
  have b18 : Nat.beq (b - a) 18 = decide (b = a + 18) := by
    rw [Bool.eq_iff_iff, decide_eq_true_iff]
    constructor
    · intro q
      have := Nat.eq_of_beq_eq_true q
      omega
    · intro q
      rw [show b - a = 18 by omega]
      rfl
  rw [datOK_eq]; unfold datOK0
  rw [b10, b18]
  by_cases c1 : b = a + 10
  · rw [hasB_mt (w := wDD) (p := a) (by omega), hasB_mt (w := wDD) (p := a + 8) (by omega), decide_eq_true c1, decide_eq_false (show ¬ b = a + 18 by omega)]
    have e1 : ¬ b = a + 18 := by omega
    cases mtA r a wDD <;> cases mtA r (a + 8) wDD <;> cases dayOK r a <;> cases dayOK r (a + 2) <;> simp [bi, c1]
  · by_cases c2 : b = a + 18
    · rw [hasB_mt (w := wDD) (p := a) (by omega), hasB_mt (w := wDD) (p := a + 8) (by omega), decide_eq_false c1, decide_eq_true c2]
      cases mtA r a wDD <;> cases mtA r (a + 8) wDD <;> cases dayOK r a <;> cases dayOK r (a + 10) <;> simp [bi, c2]
    · rw [decide_eq_false c1, decide_eq_false c2]
      right
      exact ⟨rfl, by omega⟩
/-- a term's end, by cases -/
theorem oneQ_n {r : QB} {n p e : Nat} (hq : r p ≠ 34) : (fld r p e = 8 ∧ oneQ r n p e = e) ∨ (fld r p e ≠ 8 ∧ p + (FN (fld r p e)).length = e ∧ ((fld r p e < 4 ∧ e < n ∧ r e = 34 ∧ ((phE r n (e + 1) = -1 ∧ oneQ r n p e = -1) ∨ (phE r n (e + 1) ≠ -1 ∧ oneQ r n p e = phE r n (e + 1) + 1))) ∨ ((4 ≤ fld r p e ∨ n ≤ e ∨ r e ≠ 34) ∧ oneQ r n p e = -1))) ∨ (fld r p e ≠ 8 ∧ p + (FN (fld r p e)).length ≠ e ∧ ((fld r p e = 6 ∧ ((numV r (p + (FN (fld r p e)).length) e = -1 ∧ oneQ r n p e = -1) ∨ (0 ≤ numV r (p + (FN (fld r p e)).length) e ∧ oneQ r n p e = e))) ∨ (fld r p e = 7 ∧ ((bi (datOK r (p + (FN (fld r p e)).length) e) = 0 ∧ oneQ r n p e = -1) ∨ (bi (datOK r (p + (FN (fld r p e)).length) e) = 1 ∧ oneQ r n p e = e))) ∨ (fld r p e ≠ 6 ∧ fld r p e ≠ 7 ∧ oneQ r n p e = e))) := by
  rw [oneQ_eq]; unfold oneQ0
  rw [if_neg hq]
  generalize fld r p e = f
  by_cases c1 : f = 8
  · rw [if_pos c1]
    exact Or.inl ⟨c1, rfl⟩
  rw [if_neg c1]
  right
  by_cases c2 : p + (FN f).length = e
  · rw [if_pos c2]
    refine Or.inl ⟨c1, c2, ?_⟩
    by_cases c3 : f < 4 ∧ e < n ∧ r e = 34
    · rw [if_pos c3]
      refine Or.inl ⟨c3.1, c3.2.1, c3.2.2, ?_⟩
      by_cases c4 : phE r n (e + 1) = -1
      · rw [if_pos c4]; exact Or.inl ⟨c4, rfl⟩
      · rw [if_neg c4]; exact Or.inr ⟨c4, rfl⟩
    · rw [if_neg c3]
      exact Or.inr ⟨by omega, rfl⟩
  · rw [if_neg c2]
    refine Or.inr ⟨c1, c2, ?_⟩
    by_cases c3 : f = 6
    · refine Or.inl ⟨c3, ?_⟩
      rcases numV_in (r := r) (a := p + (FN f).length) (b := e) with ⟨q1, q2⟩ | ⟨q1, q2⟩
      · rw [if_pos (Or.inl ⟨c3, q2⟩)]; exact Or.inl ⟨q1, rfl⟩
      · rw [if_neg (fun q => by
          rcases q with ⟨-, q⟩ | ⟨q, -⟩
          · rw [q2] at q; cases q
          · omega)]
        exact Or.inr ⟨q1.1, rfl⟩
    · by_cases c4 : f = 7
      · refine Or.inr (Or.inl ⟨c4, ?_⟩)
        cases hd : datOK r (p + (FN f).length) e with
        | false => rw [if_pos (Or.inr ⟨c4, rfl⟩)]; exact Or.inl ⟨rfl, rfl⟩
        | true =>
          rw [if_neg (fun q => by
            rcases q with ⟨q, -⟩ | ⟨-, q⟩
            · exact c3 q
            · cases q)]
          exact Or.inr ⟨rfl, rfl⟩
      · rw [if_neg (fun q => by
          rcases q with ⟨q, -⟩ | ⟨q, -⟩
          · exact c3 q
          · exact c4 q)]
        exact Or.inr (Or.inr ⟨c3, c4, rfl⟩)
/-- a word's kind -/
noncomputable def wk0 (r : QB) (n p e : Nat) : Int := if bi (isW r p e wOR) = 1 then 3 else if bi (isW r p e wAND) = 1 then 4 else if bi (isW r p e wNOT) = 1 then 5 else if oneQ r n p e = -1 then 7 else 6
theorem wkE : ∃ f : QB → Nat → Nat → Nat → Int, f = wk0 := ⟨_, rfl⟩
noncomputable def wk : QB → Nat → Nat → Nat → Int := Classical.choose wkE
theorem wk_eq : wk = wk0 := Classical.choose_spec wkE
/-- what stands behind it -/
noncomputable def wb0 (r : QB) (n p e : Nat) : Int := if bi (isW r p e wOR) = 1 ∨ bi (isW r p e wAND) = 1 ∨ bi (isW r p e wNOT) = 1 then e else oneQ r n p e
theorem wbE : ∃ f : QB → Nat → Nat → Nat → Int, f = wb0 := ⟨_, rfl⟩
noncomputable def wb : QB → Nat → Nat → Nat → Int := Classical.choose wbE
theorem wb_eq : wb = wb0 := Classical.choose_spec wbE
theorem wk_n {r : QB} {n p e : Nat} : (bi (isW r p e wOR) = 1 ∧ wk r n p e = 3 ∧ wb r n p e = e) ∨ (bi (isW r p e wOR) ≠ 1 ∧ bi (isW r p e wAND) = 1 ∧ wk r n p e = 4 ∧ wb r n p e = e) ∨ (bi (isW r p e wOR) ≠ 1 ∧ bi (isW r p e wAND) ≠ 1 ∧ bi (isW r p e wNOT) = 1 ∧ wk r n p e = 5 ∧ wb r n p e = e) ∨ (bi (isW r p e wOR) ≠ 1 ∧ bi (isW r p e wAND) ≠ 1 ∧ bi (isW r p e wNOT) ≠ 1 ∧ wb r n p e = oneQ r n p e ∧ ((oneQ r n p e = -1 ∧ wk r n p e = 7) ∨ (oneQ r n p e ≠ -1 ∧ wk r n p e = 6))) := by
  rw [wk_eq, wb_eq]; unfold wk0 wb0
  by_cases c1 : bi (isW r p e wOR) = 1
  · rw [if_pos c1, if_pos (Or.inl c1)]; exact Or.inl ⟨c1, rfl, rfl⟩
  rw [if_neg c1]
  right
  by_cases c2 : bi (isW r p e wAND) = 1
  · rw [if_pos c2, if_pos (Or.inr (Or.inl c2))]; exact Or.inl ⟨c1, c2, rfl, rfl⟩
  rw [if_neg c2]
  right
  by_cases c3 : bi (isW r p e wNOT) = 1
  · rw [if_pos c3, if_pos (Or.inr (Or.inr c3))]; exact Or.inl ⟨c1, c2, c3, rfl, rfl⟩
  rw [if_neg c3, if_neg (show ¬ (bi (isW r p e wOR) = 1 ∨ bi (isW r p e wAND) = 1 ∨ bi (isW r p e wNOT) = 1) by omega)]
  right
  refine ⟨c1, c2, c3, rfl, ?_⟩
  by_cases c4 : oneQ r n p e = -1
  · rw [if_pos c4]; exact Or.inl ⟨c4, rfl⟩
  · rw [if_neg c4]; exact Or.inr ⟨c4, rfl⟩
theorem noSg_34 {v : Int} (h : noSg v = true) : v ≠ 34 ∧ v ≠ 40 ∧ v ≠ 41 := by
  unfold noSg isSg at h
  simp only [Bool.not_eq_true', Bool.or_eq_false_iff, decide_eq_false_iff_not] at h
  exact ⟨h.2.2.2, h.2.1, h.2.2.1⟩
/-- the kind of the sign at p, and what stands behind it -/
noncomputable def tkK0 (r : QB) (n p : Nat) : Int := if n ≤ p then 0 else if r p = 40 then 1 else if r p = 41 then 2 else if r p = 34 then (if phE r n (p + 1) = -1 then 7 else 6) else wk r n p (skp noSg r n p)
theorem tkKE : ∃ f : QB → Nat → Nat → Int, f = tkK0 := ⟨_, rfl⟩
noncomputable def tkK : QB → Nat → Nat → Int := Classical.choose tkKE
theorem tkK_eq : tkK = tkK0 := Classical.choose_spec tkKE
noncomputable def tkB0 (r : QB) (n p : Nat) : Int := if r p = 40 ∨ r p = 41 then p + 1 else if r p = 34 then phE r n (p + 1) + 1 else wb r n p (skp noSg r n p)
theorem tkBE : ∃ f : QB → Nat → Nat → Int, f = tkB0 := ⟨_, rfl⟩
noncomputable def tkB : QB → Nat → Nat → Int := Classical.choose tkBE
theorem tkB_eq : tkB = tkB0 := Classical.choose_spec tkBE
theorem tk_n {r : QB} {n p : Nat} : (n ≤ p ∧ tkK r n p = 0) ∨ (p < n ∧ r p = 40 ∧ tkK r n p = 1 ∧ tkB r n p = p + 1) ∨ (p < n ∧ r p = 41 ∧ tkK r n p = 2 ∧ tkB r n p = p + 1) ∨ (p < n ∧ r p = 34 ∧ tkB r n p = phE r n (p + 1) + 1 ∧ ((phE r n (p + 1) = -1 ∧ tkK r n p = 7) ∨ (phE r n (p + 1) ≠ -1 ∧ tkK r n p = 6))) ∨ (p < n ∧ r p ≠ 40 ∧ r p ≠ 41 ∧ r p ≠ 34 ∧ tkK r n p = wk r n p (skp noSg r n p) ∧ tkB r n p = wb r n p (skp noSg r n p)) := by
  rw [tkK_eq, tkB_eq]; unfold tkK0 tkB0
  by_cases c0 : n ≤ p
  · rw [if_pos c0]; exact Or.inl ⟨c0, rfl⟩
  rw [if_neg c0]
  right
  by_cases c1 : r p = 40
  · rw [if_pos c1, if_pos (Or.inl c1)]; exact Or.inl ⟨by omega, c1, rfl, rfl⟩
  rw [if_neg c1]
  right
  by_cases c2 : r p = 41
  · rw [if_pos c2, if_pos (Or.inr c2)]; exact Or.inl ⟨by omega, c2, rfl, rfl⟩
  rw [if_neg c2, if_neg (show ¬ (r p = 40 ∨ r p = 41) by omega)]
  right
  by_cases c3 : r p = 34
  · rw [if_pos c3, if_pos c3]
    refine Or.inl ⟨by omega, c3, rfl, ?_⟩
    by_cases c4 : phE r n (p + 1) = -1
    · rw [if_pos c4]; exact Or.inl ⟨c4, rfl⟩
    · rw [if_neg c4]; exact Or.inr ⟨c4, rfl⟩
  · rw [if_neg c3, if_neg c3]
    exact Or.inr ⟨by omega, c1, c2, c3, rfl, rfl⟩
/-- two points ahead, behind, between -/
def q1 (r : QB) (n a b : Nat) : Bool := decide (b = a + 10) && hasB r n a wDD
def q2 (r : QB) (n a b : Nat) : Bool := decide (b = a + 10) && (!(hasB r n a wDD) && hasB r n (a + 8) wDD)
def q3 (r : QB) (n a b : Nat) : Bool := decide (b = a + 18) && hasB r n (a + 8) wDD
section QQ
variable {r : QB} {n a b : Nat}
theorem q1_no1 (h : b ≠ a + 10) : q1 r n a b = false := by unfold q1; rw [decide_eq_false h]; rfl
theorem q1_no2 (h : hasB r n a wDD = false) : q1 r n a b = false := by unfold q1; rw [h, Bool.and_false]
theorem q1_yes (h0 : b = a + 10) (h : hasB r n a wDD = true) : q1 r n a b = true := by unfold q1; rw [h, decide_eq_true h0]; rfl
theorem q1_len (h : q1 r n a b = true) : b = a + 10 := by
  unfold q1 at h
  rw [Bool.and_eq_true, decide_eq_true_iff] at h
  exact h.1
theorem q2_no1 (h : b ≠ a + 10) : q2 r n a b = false := by unfold q2; rw [decide_eq_false h]; rfl
theorem q2_no2 (h : q1 r n a b = true) : q2 r n a b = false := by
  unfold q1 at h
  rw [Bool.and_eq_true] at h
  unfold q2
  rw [h.2]
  cases decide (b = a + 10) <;> rfl
theorem q2_no3 (h : hasB r n (a + 8) wDD = false) : q2 r n a b = false := by
  unfold q2
  rw [h, Bool.and_false, Bool.and_false]
theorem q2_yes (h0 : b = a + 10) (h1 : q1 r n a b = false) (h : hasB r n (a + 8) wDD = true) : q2 r n a b = true := by
  unfold q1 at h1
  rw [decide_eq_true h0, Bool.true_and] at h1
  unfold q2
  rw [h, h1, decide_eq_true h0]
  rfl
theorem q2_len (h : q2 r n a b = true) : b = a + 10 := by
  unfold q2 at h
  rw [Bool.and_eq_true, decide_eq_true_iff] at h
  exact h.1
theorem q3_no1 (h : b ≠ a + 18) : q3 r n a b = false := by unfold q3; rw [decide_eq_false h]; rfl
theorem q3_no2 (h : hasB r n (a + 8) wDD = false) : q3 r n a b = false := by unfold q3; rw [h, Bool.and_false]
theorem q3_yes (h0 : b = a + 18) (h : hasB r n (a + 8) wDD = true) : q3 r n a b = true := by unfold q3; rw [h, decide_eq_true h0]; rfl
theorem q3_len (h : q3 r n a b = true) : b = a + 18 := by
  unfold q3 at h
  rw [Bool.and_eq_true, decide_eq_true_iff] at h
  exact h.1
theorem qq_len (h : (q1 r n a b || (q2 r n a b || q3 r n a b)) = true) : b = a + 10 ∨ b = a + 18 := by
  rw [Bool.or_eq_true, Bool.or_eq_true] at h
  rcases h with h | h | h
  · exact Or.inl (q1_len h)
  · exact Or.inl (q2_len h)
  · exact Or.inr (q3_len h)
theorem dat_q (hb : b ≤ n) : datOK r a b = ((q1 r n a b || (q2 r n a b || q3 r n a b)) && ((q1 r n a b || dayOK r a) && (q2 r n a b || dayOK r (b - 8)))) := by
  have l2 : wDD.length = 2 := rfl
  by_cases c1 : b = a + 10
  · subst c1
    rw [datOK_eq]; unfold datOK0 q1 q2 q3
    rw [hasB_mt (w := wDD) (p := a) (by omega), hasB_mt (w := wDD) (p := a + 8) (by omega), show a + 10 - a = 10 by omega, show a + 10 - 8 = a + 2 by omega, decide_eq_true (rfl : a + 10 = a + 10), decide_eq_false (show ¬ a + 10 = a + 18 by omega)]
    cases mtA r a wDD <;> cases mtA r (a + 8) wDD <;> cases dayOK r a <;> cases dayOK r (a + 2) <;> rfl
  · by_cases c2 : b = a + 18
    · subst c2
      rw [datOK_eq]; unfold datOK0 q1 q2 q3
      rw [hasB_mt (w := wDD) (p := a) (by omega), hasB_mt (w := wDD) (p := a + 8) (by omega), show a + 18 - a = 18 by omega, show a + 18 - 8 = a + 10 by omega, decide_eq_true (rfl : a + 18 = a + 18), decide_eq_false (show ¬ a + 18 = a + 10 by omega)]
      cases mtA r a wDD <;> cases mtA r (a + 8) wDD <;> cases dayOK r a <;> cases dayOK r (a + 10) <;> rfl
    · rw [q1_no1 c1, q2_no1 c1, q3_no1 c2]
      rw [datOK_eq]; unfold datOK0
      rw [show Nat.beq (b - a) 10 = false by
        cases e : Nat.beq (b - a) 10 with
        | false => rfl
        | true => exact absurd (Nat.eq_of_beq_eq_true e) (by omega), show Nat.beq (b - a) 18 = false by
        cases e : Nat.beq (b - a) 18 with
        | false => rfl
        | true => exact absurd (Nat.eq_of_beq_eq_true e) (by omega)]
      rfl
end QQ
