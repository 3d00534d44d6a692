/-! Messages, the list, books' rows: what is known of them, and how writes keep it. -/
theorem Inv.ltN {h : Hp} (hI : Inv h) {a : Nat} {t : Ty} (ht : h.2.1 a = some t) : a < h.1 := (hI.1.2.2.2 a t ht).2
theorem Inv.posN {h : Hp} (hI : Inv h) {a : Nat} {t : Ty} (ht : h.2.1 a = some t) : 0 < a := (hI.1.2.2.2 a t ht).1
theorem Inv.lenN {h : Hp} (hI : Inv h) {a k n : Nat} (ht : h.2.1 a = some (.inl (k, n))) : n ≤ 2147483647 := Nat.le_trans (hI.2.2.1 a k n ht).1 (by decide)
theorem Inv.lenM {h : Hp} (hI : Inv h) {a k n : Nat} (ht : h.2.1 a = some (.inl (k, n))) : n ≤ 67108864 := (hI.2.2.1 a k n ht).1
theorem Inv.con0 {h : Hp} (hI : Inv h) {a k n : Nat} (ht : h.2.1 a = some (.inl (k, n))) (hk : k % 10 = 0) (j : Nat) : I32 (h.2.2 a j) := by
  have h1 := (hI.2.2.1 a k n ht).2 j
  unfold gk at h1
  rw [hk] at h1
  exact h1
theorem Inv.con1 {h : Hp} (hI : Inv h) {a k n : Nat} (ht : h.2.1 a = some (.inl (k, n))) (hk : k % 10 = 1) (j : Nat) : -128 ≤ h.2.2 a j ∧ h.2.2 a j ≤ 127 := by
  have h1 := (hI.2.2.1 a k n ht).2 j
  unfold gk at h1
  rw [hk] at h1
  exact h1
theorem mref.row {h : Hp} {k : Nat} {x : Int} (hm : mref h k x) (h0 : x ≠ 0) : ∃ b n : Nat, x = (b : Int) ∧ 106 ≤ b ∧ h.2.1 b = some (.inl (k, n)) := hm.resolve_left h0
section FULL
variable {h : Hp} {m : Nat}
theorem full.at (hI : Inv h) (hf : full h m) : MsgAt h m := hI.2.2.2.1 m hf.1
theorem full.big (hI : Inv h) (hf : full h m) : 106 ≤ m := (hf.at hI).1
theorem full.f0 (hI : Inv h) (hf : full h m) : I32 (h.2.2 m 0) := (hf.at hI).2.1
theorem full.f3 (hI : Inv h) (hf : full h m) : I32 (h.2.2 m 3) := (hf.at hI).2.2.1
theorem full.f4 (hI : Inv h) (hf : full h m) : I32 (h.2.2 m 4) := (hf.at hI).2.2.2.1
theorem full.f7 (hI : Inv h) (hf : full h m) : 0 ≤ h.2.2 m 7 ∧ h.2.2 m 7 ≤ 8 := (hf.at hI).2.2.2.2.1
theorem full.r1 (hI : Inv h) (hf : full h m) : ∃ b n : Nat, h.2.2 m 1 = (b : Int) ∧ 106 ≤ b ∧ h.2.1 b = some (.inl (0, n)) := (hf.at hI).2.2.2.2.2.1.row hf.2.1
theorem full.r2 (hI : Inv h) (hf : full h m) : ∃ b n : Nat, h.2.2 m 2 = (b : Int) ∧ 106 ≤ b ∧ h.2.1 b = some (.inl (20, n)) := (hf.at hI).2.2.2.2.2.2.1.row hf.2.2.1
theorem full.r5 (hI : Inv h) (hf : full h m) : ∃ b n : Nat, h.2.2 m 5 = (b : Int) ∧ 106 ≤ b ∧ h.2.1 b = some (.inl (0, n)) := (hf.at hI).2.2.2.2.2.2.2.1.row hf.2.2.2.1
theorem full.r6 (hI : Inv h) (hf : full h m) : ∃ b n : Nat, h.2.2 m 6 = (b : Int) ∧ 106 ≤ b ∧ h.2.1 b = some (.inl (10, n)) := (hf.at hI).2.2.2.2.2.2.2.2.row hf.2.2.2.2
end FULL
theorem colT_none {a : Nat} (h : 106 ≤ a) : colT[a]? = none := List.getElem?_eq_none h
theorem col_msg {a j : Nat} (h : 106 ≤ a) : col (some (.inr 5)) a j = 330 + j := by
  unfold col
  rw [colT_none h]
theorem col_arr {a j k n : Nat} (h : 106 ≤ a) : col (some (.inl (k, n))) a j = 310 + k / 10 := by
  unfold col
  rw [colT_none h]
theorem rg_none {a j : Nat} (h : 106 ≤ a) : rg a j = none := by
  unfold rg
  rw [List.getElem?_eq_none (show rgT.length ≤ a from h)]
def mcol (S : List Nat) : Bool := !S.contains 331 && (!S.contains 332 && (!S.contains 335 && !S.contains 336))
theorem full.fr {S : List Nat} {h h' : Hp} {m : Nat} (f : Fr S h h') (hs : mcol S = true) (hI : Inv h) (hf : full h m) : full h' m := by
  unfold mcol at hs
  simp only [Bool.and_eq_true, Bool.not_eq_true'] at hs
  obtain ⟨s1, s2, s3, s4⟩ := hs
  have hl := hI.ltN hf.1
  have hb := hf.big hI
  have key : ∀ j, S.contains (330 + j) = false → h'.2.2 m j = h.2.2 m j := fun j hj => f.2.1 m j hl (by rw [hf.1, col_msg hb]; exact hj)
  refine ⟨(f.1.2 m hl).trans hf.1, ?_, ?_, ?_, ?_⟩
  · rw [key 1 s1]; exact hf.2.1
  · rw [key 2 s2]; exact hf.2.2.1
  · rw [key 5 s3]; exact hf.2.2.2.1
  · rw [key 6 s4]; exact hf.2.2.2.2
theorem full.putA {h : Hp} {m a j : Nat} {q : Nat × Nat} {x : Int} (ht : h.2.1 a = some (.inl q)) (hf : full h m) : full (wr h a j x) m := hf.put (fun e => by subst e; cases ht.symm.trans hf.1)
theorem full.putF {h : Hp} {m a j : Nat} {x : Int} (hI : Inv h) (ha : a < 106) (hf : full h m) : full (wr h a j x) m := hf.put (fun e => by have := hf.big hI; omega)
theorem full.put7 {h : Hp} {m m' : Nat} {x : Int} (hf : full h m) : full (wr h m' 7 x) m := by
  by_cases e : m = m'
  · subst e
    unfold full
    rw [wr_ne2 (show (1 : Nat) ≠ 7 by decide), wr_ne2 (show (2 : Nat) ≠ 7 by decide), wr_ne2 (show (5 : Nat) ≠ 7 by decide), wr_ne2 (show (6 : Nat) ≠ 7 by decide)]
    exact hf
  · exact hf.put e
-- the list
theorem Inv.lsz {h : Hp} (hI : Inv h) : 0 ≤ h.2.2 26 2 ∧ h.2.2 26 2 ≤ 60 := by
  obtain ⟨s, h1, h2, -⟩ := hI.2.2.2.2.2.1
  omega
theorem Inv.led {h : Hp} (hI : Inv h) {i : Int} (hi : 0 ≤ i ∧ i < h.2.2 26 2) : ∃ e n m : Nat, h.2.2 26 1 = (e : Int) ∧ 106 ≤ e ∧ h.2.1 e = some (.inl (34, n)) ∧ i < n ∧ h.2.2 e i.toNat = (m : Int) ∧ full h m := by
  obtain ⟨s, h1, h2, h3⟩ := hI.2.2.2.2.2.1
  rcases h3 with ⟨-, h4⟩ | ⟨e, n, g1, g2, g3, g4, g5⟩
  · omega
  · obtain ⟨m, m1, m2⟩ := g5 i.toNat (by omega)
    exact ⟨e, n, m, g1, g2, g3, by omega, m1, m2⟩
-- books
def kL : List (Nat × Nat) := [(8, 60), (14, 70), (20, 80)]
def isK (b w : Nat) : Bool := kL.any (fun q => Nat.beq q.1 b && Nat.beq q.2 w)
theorem isK_in {b w : Nat} (h : isK b w = true) : (b = 8 ∧ w = 60) ∨ (b = 14 ∧ w = 70) ∨ (b = 20 ∧ w = 80) := by
  obtain ⟨q, hq, he⟩ := List.any_eq_true.mp h
  rw [Bool.and_eq_true] at he
  have e1 := Nat.eq_of_beq_eq_true he.1
  have e2 := Nat.eq_of_beq_eq_true he.2
  subst e1 e2
  simp only [kL, List.mem_cons, List.not_mem_nil, or_false] at hq
  rcases hq with rfl | rfl | rfl <;> decide
theorem isK_n {b w : Nat} (h : isK b w = true) : (w + 400) % 10 = 0 := by rcases isK_in h with ⟨rfl, rfl⟩ | ⟨rfl, rfl⟩ | ⟨rfl, rfl⟩ <;> rfl
theorem isK_d {b w : Nat} (h : isK b w = true) : (w + 500) % 10 = 0 := by rcases isK_in h with ⟨rfl, rfl⟩ | ⟨rfl, rfl⟩ | ⟨rfl, rfl⟩ <;> rfl
theorem isK_r {b w : Nat} (h : isK b w = true) : (w + 601) % 10 = 1 := by rcases isK_in h with ⟨rfl, rfl⟩ | ⟨rfl, rfl⟩ | ⟨rfl, rfl⟩ <;> rfl
theorem isK_60 {b w : Nat} (h : isK b w = true) : 60 ≤ w := by rcases isK_in h with ⟨rfl, rfl⟩ | ⟨rfl, rfl⟩ | ⟨rfl, rfl⟩ <;> decide
theorem isK_w {b w : Nat} (h : isK b w = true) : w % 10 = 0 := by rcases isK_in h with ⟨rfl, rfl⟩ | ⟨rfl, rfl⟩ | ⟨rfl, rfl⟩ <;> rfl
section BOOKS
variable {h : Hp} {b w : Nat}
theorem Inv.kty (hI : Inv h) (hb : isK b w = true) : h.2.1 b = some (.inr 1) := by
  rcases isK_in hb with ⟨rfl, rfl⟩ | ⟨rfl, rfl⟩ | ⟨rfl, rfl⟩ <;> exact hI.atS rfl
theorem Inv.kh0 (hI : Inv h) (hb : isK b w = true) : h.2.2 b 0 = ((b + 1 : Nat) : Int) := by
  rcases isK_in hb with ⟨rfl, rfl⟩ | ⟨rfl, rfl⟩ | ⟨rfl, rfl⟩ <;> exact hI.atE rfl
theorem Inv.kht (hI : Inv h) (hb : isK b w = true) : h.2.1 (b + 1) = some (.inl (0, 1024)) := by
  rcases isK_in hb with ⟨rfl, rfl⟩ | ⟨rfl, rfl⟩ | ⟨rfl, rfl⟩ <;> exact hI.atS rfl
theorem Inv.k5 (hI : Inv h) (hb : isK b w = true) : 0 ≤ h.2.2 b 5 ∧ h.2.2 b 5 ≤ 10000000 := by
  rcases isK_in hb with ⟨rfl, rfl⟩ | ⟨rfl, rfl⟩ | ⟨rfl, rfl⟩ <;> exact hI.atR rfl
theorem Inv.k6 (hI : Inv h) (hb : isK b w = true) : I32 (h.2.2 b 6) := by
  have key : -2147483648 ≤ h.2.2 b 6 ∧ h.2.2 b 6 ≤ 2147483647 := by
    rcases isK_in hb with ⟨rfl, rfl⟩ | ⟨rfl, rfl⟩ | ⟨rfl, rfl⟩ <;> exact hI.atR rfl
  unfold I32
  omega
theorem Inv.kbk (hI : Inv h) (hb : isK b w = true) : Bk h b w := by
  rcases isK_in hb with ⟨rfl, rfl⟩ | ⟨rfl, rfl⟩ | ⟨rfl, rfl⟩
  · exact hI.2.2.2.2.2.2.1
  · exact hI.2.2.2.2.2.2.2.1
  · exact hI.2.2.2.2.2.2.2.2
theorem Inv.k1 (hI : Inv h) (hb : isK b w = true) : ∃ r n : Nat, h.2.2 b 1 = (r : Int) ∧ 0 < r ∧ h.2.1 r = some (.inl (w + 400, n)) := by
  obtain ⟨nx, st, rd, rw_, nn, ns, nr, nw, e1, e2, e3, e4, t1, t2, t3, t4, p1, p2, p3, p4⟩ := hI.kbk hb
  exact ⟨_, _, e1, p1, t1⟩
theorem Inv.k2 (hI : Inv h) (hb : isK b w = true) : ∃ r n : Nat, h.2.2 b 2 = (r : Int) ∧ 0 < r ∧ h.2.1 r = some (.inl (w, n)) := by
  obtain ⟨nx, st, rd, rw_, nn, ns, nr, nw, e1, e2, e3, e4, t1, t2, t3, t4, p1, p2, p3, p4⟩ := hI.kbk hb
  exact ⟨_, _, e2, p2, t2⟩
theorem Inv.k3 (hI : Inv h) (hb : isK b w = true) : ∃ r n : Nat, h.2.2 b 3 = (r : Int) ∧ 0 < r ∧ h.2.1 r = some (.inl (w + 500, n)) := by
  obtain ⟨nx, st, rd, rw_, nn, ns, nr, nw, e1, e2, e3, e4, t1, t2, t3, t4, p1, p2, p3, p4⟩ := hI.kbk hb
  exact ⟨_, _, e3, p3, t3⟩
theorem Inv.k4 (hI : Inv h) (hb : isK b w = true) : ∃ r n : Nat, h.2.2 b 4 = (r : Int) ∧ 0 < r ∧ h.2.1 r = some (.inl (w + 601, n)) := by
  obtain ⟨nx, st, rd, rw_, nn, ns, nr, nw, e1, e2, e3, e4, t1, t2, t3, t4, p1, p2, p3, p4⟩ := hI.kbk hb
  exact ⟨_, _, e4, p4, t4⟩
theorem Inv.putK {j : Nat} {x : Int} (hI : Inv h) (hb : isK b w = true) (hj : (j = 5 ∧ 0 ≤ x ∧ x ≤ 10000000) ∨ (j = 6 ∧ I32 x)) : Inv (wr h b j x) := by
  rcases hj with ⟨rfl, h1⟩ | ⟨rfl, h1⟩
  · rcases isK_in hb with ⟨rfl, rfl⟩ | ⟨rfl, rfl⟩ | ⟨rfl, rfl⟩ <;> exact hI.put _ _ rfl rfl h1
  · have h2 : -2147483648 ≤ x ∧ x ≤ 2147483647 := by unfold I32 at h1; omega
    rcases isK_in hb with ⟨rfl, rfl⟩ | ⟨rfl, rfl⟩ | ⟨rfl, rfl⟩ <;> exact hI.put _ _ rfl rfl h2
theorem Inv.putKh {j : Nat} {x : Int} (hI : Inv h) (hb : isK b w = true) (hx : I32 x) : Inv (wr h (b + 1) j x) := by
  have h2 : -2147483648 ≤ x ∧ x ≤ 2147483647 := by unfold I32 at hx; omega
  rcases isK_in hb with ⟨rfl, rfl⟩ | ⟨rfl, rfl⟩ | ⟨rfl, rfl⟩ <;> exact hI.put _ _ rfl rfl h2
theorem colK {j : Nat} {t : Option Ty} (hb : isK b w = true) : (j ≤ 5 → col t b j = b) ∧ col t (b + 1) j = b + 1 := by
  rcases isK_in hb with ⟨rfl, rfl⟩ | ⟨rfl, rfl⟩ | ⟨rfl, rfl⟩ <;> exact ⟨fun hj => by rcases (show j = 0 ∨ j = 1 ∨ j = 2 ∨ j = 3 ∨ j = 4 ∨ j = 5 by omega) with rfl | rfl | rfl | rfl | rfl | rfl <;> rfl, rfl⟩
end BOOKS
theorem Fr.putK {S : List Nat} {h h1 : Hp} (f : Fr S h h1) {b w j : Nat} {x : Int} (hb : isK b w = true) (hj : j ≤ 5) (hs : S.contains b = true) : Fr S h (wr h1 b j x) := f.put fun _ => by rw [(colK hb).1 hj]; exact hs
theorem Fr.putKh {S : List Nat} {h h1 : Hp} (f : Fr S h h1) {b w j : Nat} {x : Int} (hb : isK b w = true) (hs : S.contains (b + 1) = true) : Fr S h (wr h1 (b + 1) j x) := f.put fun _ => by rw [(colK hb).2]; exact hs
-- writes to an array of which only the kind is known
def wideF (k : Nat) (lo hi : Int) : Bool := match k % 10 with
  | 0 => decide (lo ≤ -2147483648) && decide (2147483647 ≤ hi)
  | 1 => decide (lo ≤ -128) && decide (127 ≤ hi)
  | _ => false
def okA (k : Nat) : Bool := (List.range 106).all fun a => match fixTy a with
  | none => true
  | some t => match t with
    | .inr _ => true
    | .inl q => match Nat.beq q.1 k with
      | false => true
      | true => match rgT[a]? with
        | none => true
        | some r => match r with
          | .inr _ => false
          | .inl r => match r with
            | none => true
            | some r => wideF k r.1 r.2
theorem wideF_ok {k : Nat} {lo hi x : Int} (h : wideF k lo hi = true) (hx : gk k x) : lo ≤ x ∧ x ≤ hi := by
  unfold wideF at h
  unfold gk at hx
  generalize k % 10 = q at h hx
  rcases q with _ | _ | q
  · simp only [Bool.and_eq_true, decide_eq_true_eq] at h
    have hx : -2147483648 ≤ x ∧ x < 2147483648 := hx
    omega
  · simp only [Bool.and_eq_true, decide_eq_true_eq] at h
    have hx : -128 ≤ x ∧ x ≤ 127 := hx
    omega
  · cases h
theorem okA_rg {h : Hp} (hI : Inv h) {a j k n : Nat} {lo hi x : Int} (ht : h.2.1 a = some (.inl (k, n))) (ho : okA k = true) (hx : gk k x) (e : rg a j = some (lo, hi)) : lo ≤ x ∧ x ≤ hi := by
  by_cases ha : a < 106
  · have h1 := List.all_eq_true.mp ho a (List.mem_range.mpr ha)
    cases hf : fixTy a with
    | none =>
      exfalso
      have h2 : ∀ a, a < 106 → fixTy a = none → a = 0 := by decide +kernel
      have h3 := h2 a ha hf
      have h4 := hI.posN ht
      omega
    | some t =>
      have h2 := hI.1.2.2.1 a t hf
      cases ht.symm.trans h2
      rw [hf] at h1
      simp only [Nat.beq_refl] at h1
      unfold rg at e
      cases hr : rgT[a]? with
      | none => rw [hr] at e; cases e
      | some r =>
        rw [hr] at e h1
        rcases r with r | r
        · simp only at e h1
          cases r with
          | none => cases e
          | some r =>
            cases e
            exact wideF_ok h1 hx
        · cases h1
  · rw [rg_none (by omega)] at e
    cases e
theorem Inv.putA {h : Hp} (hI : Inv h) {a j k n : Nat} {x : Int} (ht : h.2.1 a = some (.inl (k, n))) (ho : okA k = true) (hk : (Nat.beq k 20 || Nat.beq k 34) = false) (hx : gk k x) : Inv (wr h a j x) := by
  have hr : ∀ lo hi, rg a j = some (lo, hi) → lo ≤ x ∧ x ≤ hi := fun lo hi e => okA_rg hI ht ho hx e
  have n1 : 26 ≠ a := fun e => by subst e; cases ht.symm.trans (hI.atS (a := 26) rfl)
  have n2 : 8 ≠ a := fun e => by subst e; cases ht.symm.trans (hI.atS (a := 8) rfl)
  have n3 : 14 ≠ a := fun e => by subst e; cases ht.symm.trans (hI.atS (a := 14) rfl)
  have n4 : 20 ≠ a := fun e => by subst e; cases ht.symm.trans (hI.atS (a := 20) rfl)
  obtain ⟨hS, hR, hG, hM, hF, hL, hb1, hb2, hb3⟩ := hI
  rw [Bool.or_eq_false_iff] at hk
  refine ⟨hS, fun b i lo hi e => ?_, fun b k' n' hb => ⟨(hG b k' n' hb).1, fun i => ?_⟩, fun b hb => ?_, fun b n' hb => ?_, ?_, hb1.put (Or.inl n2.symm), hb2.put (Or.inl n3.symm), hb3.put (Or.inl n4.symm)⟩
  · by_cases hab : b = a
    · subst hab
      by_cases hij : i = j
      · subst hij
        rw [wr_eq]
        exact hr lo hi e
      · rw [wr_ne2 hij]
        exact hR b i lo hi e
    · rw [wr_ne hab]
      exact hR b i lo hi e
  · by_cases hab : b = a
    · subst hab
      cases ht.symm.trans hb
      by_cases hij : i = j
      · subst hij
        rw [wr_eq]
        exact hx
      · rw [wr_ne2 hij]
        exact (hG b k n ht).2 i
    · rw [wr_ne hab]
      exact (hG b k' n' hb).2 i
  · refine (hM b hb).put fun e => ?_
    subst e
    cases ht.symm.trans hb
  · have hab : b ≠ a := fun e => by
      subst e
      cases ht.symm.trans hb
      cases hk.1
    simp only [wr_ne hab]
    exact hF b n' hb
  · obtain ⟨s, h1, h2, h3⟩ := hL
    refine ⟨s, by rw [wr_ne n1]; exact h1, h2, ?_⟩
    rw [wr_ne n1]
    rcases h3 with h3 | ⟨ed, n', g1, g2, g3, g4, g5⟩
    · exact Or.inl h3
    · refine Or.inr ⟨ed, n', g1, g2, g3, g4, fun i hi => ?_⟩
      have hed : ed ≠ a := fun e => by
        subst e
        cases ht.symm.trans g3
        cases hk.2
      obtain ⟨m, m1, m2⟩ := g5 i hi
      exact ⟨m, by rw [wr_ne hed]; exact m1, m2.putA ht⟩
/-- a message's count of tags -/
theorem Inv.putM {h : Hp} (hI : Inv h) {m : Nat} {x : Int} (hf : h.2.1 m = some (.inr 5)) (hx : 0 ≤ x ∧ x ≤ 8) : Inv (wr h m 7 x) := by
  have hbig : 106 ≤ m := (hI.2.2.2.1 m hf).1
  obtain ⟨hS, hR, hG, hM, hF, hL, hb1, hb2, hb3⟩ := hI
  refine ⟨hS, fun b i lo hi e => ?_, fun b k' n' hb => ⟨(hG b k' n' hb).1, fun i => ?_⟩, fun b hb => ?_, fun b n' hb => ?_, ?_, hb1.put (Or.inl (by omega)), hb2.put (Or.inl (by omega)), hb3.put (Or.inl (by omega))⟩
  · have hab : b ≠ m := fun q => by
      subst q
      rw [rg_none hbig] at e
      cases e
    rw [wr_ne hab]
    exact hR b i lo hi e
  · have hab : b ≠ m := fun q => by
      subst q
      cases hf.symm.trans hb
    rw [wr_ne hab]
    exact (hG b k' n' hb).2 i
  · by_cases hab : b = m
    · subst hab
      have h1 := hM b hb
      unfold MsgAt at h1 ⊢
      rw [wr_ne2 (show (0 : Nat) ≠ 7 by decide), wr_ne2 (show (3 : Nat) ≠ 7 by decide), wr_ne2 (show (4 : Nat) ≠ 7 by decide), wr_eq, wr_ne2 (show (1 : Nat) ≠ 7 by decide), wr_ne2 (show (2 : Nat) ≠ 7 by decide), wr_ne2 (show (5 : Nat) ≠ 7 by decide), wr_ne2 (show (6 : Nat) ≠ 7 by decide)]
      exact ⟨h1.1, h1.2.1, h1.2.2.1, h1.2.2.2.1, hx, h1.2.2.2.2.2⟩
    · exact (hM b hb).put hab
  · have hab : b ≠ m := fun q => by
      subst q
      cases hf.symm.trans hb
    simp only [wr_ne hab]
    exact hF b n' hb
  · obtain ⟨s, h1, h2, h3⟩ := hL
    have n1 : 26 ≠ m := by omega
    refine ⟨s, by rw [wr_ne n1]; exact h1, h2, ?_⟩
    rw [wr_ne n1]
    rcases h3 with h3 | ⟨ed, n', g1, g2, g3, g4, g5⟩
    · exact Or.inl h3
    · refine Or.inr ⟨ed, n', g1, g2, g3, g4, fun i hi => ?_⟩
      have hed : ed ≠ m := fun e => by
        subst e
        cases hf.symm.trans g3
      obtain ⟨m', m1, m2⟩ := g5 i hi
      exact ⟨m', by rw [wr_ne hed]; exact m1, m2.put7⟩
def okC (S : List Nat) (k : Nat) : Bool := S.contains (310 + k / 10) && (List.range 106).all fun a => match fixTy a with
  | none => true
  | some t => match t with
    | .inr _ => true
    | .inl q => match Nat.beq q.1 k with
      | false => true
      | true => match colT[a]? with
        | none => false
        | some c => match c with
          | .inr _ => false
          | .inl c => S.contains c
theorem Fr.putA {S : List Nat} {h h1 : Hp} (f : Fr S h h1) (hI : Inv h1) {a j k n : Nat} {x : Int} (ht : h1.2.1 a = some (.inl (k, n))) (hc : okC S k = true) : Fr S h (wr h1 a j x) := f.put fun hl => by
  have e : h.2.1 a = some (.inl (k, n)) := (f.1.2 a hl).symm.trans ht
  unfold okC at hc
  rw [Bool.and_eq_true] at hc
  rw [e]
  by_cases ha : a < 106
  · have h1 := List.all_eq_true.mp hc.2 a (List.mem_range.mpr ha)
    cases hf : fixTy a with
    | none =>
      exfalso
      have h2 : ∀ a, a < 106 → fixTy a = none → a = 0 := by decide +kernel
      have h3 := h2 a ha hf
      have h4 := hI.posN ht
      omega
    | some t =>
      have h2 := hI.1.2.2.1 a t hf
      cases ht.symm.trans h2
      rw [hf] at h1
      simp only [Nat.beq_refl] at h1
      unfold col
      cases hr : colT[a]? with
      | none => rw [hr] at h1; cases h1
      | some r =>
        rw [hr] at h1
        rcases r with r | r
        · exact h1
        · cases h1
  · rw [col_arr (by omega)]
    exact hc.1
theorem Fr.putM {S : List Nat} {h h1 : Hp} (f : Fr S h h1) (hI : Inv h1) {m j : Nat} {x : Int} (hf : h1.2.1 m = some (.inr 5)) (hs : S.contains (330 + j) = true) : Fr S h (wr h1 m j x) := f.put fun hl => by
  have e : h.2.1 m = some (.inr 5) := (f.1.2 m hl).symm.trans hf
  rw [e, col_msg (hI.2.2.2.1 m hf).1]
  exact hs
theorem to_aaldv {l : Launch} {E : ME} {pc : Nat} {L : LL} {st : List V} {h : Hp} {k z : Nat} {F : Option V → Hp → Nat → Nat → Prop} {a n w : Nat} {i : Int} (b : Nat) (hd : decode E.1 pc = .ok (.aaload, 1)) (ht : h.2.1 a = some (.inl (w, n))) (hq : w % 10 = 4) (hn : n ≤ 2147483647) (hi : 0 ≤ i ∧ i < n) (hv : h.2.2 a i.toNat = (b : Int)) (k0 : To l E (pc + 1, L, .inr (.inr b) :: st, h, k, z) F) : To l E (pc, L, .inl i :: .inr (.inr a) :: st, h, k, z) F := to_aald b hd ht hq hn hi hv k0
theorem ne_ty {h : Hp} {a b : Nat} {t t' : Ty} (ha : h.2.1 a = some t) (hb : h.2.1 b = some t') (hn : t ≠ t') : a ≠ b := fun e => by
  subst e
  exact hn (Option.some.inj (ha.symm.trans hb))
theorem full.get {S : List Nat} {h h' : Hp} {m j : Nat} (f : Fr S h h') (hI : Inv h) (hf : full h m) (hs : S.contains (330 + j) = false) : h'.2.2 m j = h.2.2 m j := f.2.1 m j (hI.ltN hf.1) (by rw [hf.1, col_msg (hf.big hI)]; exact hs)
theorem to_castM {l : Launch} {E : ME} {pc : Nat} {L : LL} {st : List V} {h : Hp} {k z : Nat} {F : Option V → Hp → Nat → Nat → Prop} {a ci idx : Nat} {C : String} {T : u_T} {N : Nat} (hc : vwCl[ci]? = some (C, T, N)) (hlink : Cond.classLink E.2.2.1 idx C ∈ wsG) (hd : decode E.1 pc = .ok (.checkcast idx, 3)) (ht : h.2.1 a = some (.inr ci)) (k0 : To l E (pc + 3, L, .inr (.inr a) :: st, h, k, z) F) : To l E (pc, L, .inr (.inr a) :: st, h, k, z) F := by
  refine to_of ?_ k0
  refine ⟨⟨Nat.le_refl _, Nat.le_refl _⟩, fun g HB p e R s m args below meth c Q H locs ls hC _ _ _ _ hR hl kk => ?_⟩
  have h9 : W p l e R s m args below meth c H locs k z Q (F0 m (pc + 3) ls (rv g a :: st.map (dv g))) := kk H locs ls hR hl
  show W p l e R s m args below meth c H locs k z Q (F0 m pc ls (rv g a :: st.map (dv g)))
  rw [hR.rv ht] at h9 ⊢
  obtain ⟨⟨hx, hb, hml, hown, hts⟩, hA, -⟩ := hC
  exact va_castE hx hb hown (hts _ hlink) (va_recv (q0 := 0) hA.1 (va_P1 (hR.obj ht)) hc rfl) hd h9
/-- the same of a class that has entries -/
theorem ct_ofF {l : Launch} {y : MethodName} {cc : ByteArray} {nL fr lo : Nat} {ret : Option FieldType} {av : List V} {h : Hp} {F : Option V → Hp → Nat → Nat → Prop} (hp : plainFor y = true) (hl0 : slen av ≤ nL)
    (k : To l (cc, nL, y.cls, y.name, ret, fr, lo) (0, argsA 0 av, [], h, 0, 0) F) : Ct l (y, cc, nL, ret) fr lo av h F := by
  obtain ⟨r, h', mc, ms, hF, hE⟩ := k
  refine ⟨r, h', mc, ms, hF, fun g HB => ?_⟩
  refine va_MetF (cc := cc) (maxL := nL) (ret := ret) hp rfl ?_
  intro p e s m args below meth c s₁ B hml hv
  obtain ⟨rfl, hR0, hKA⟩ := hv
  have hts0 := atoms_spec (ws := mdW (y, cc, nL, ret)) B.pre
  have hC : Cx g HB p s m (av.map (dv g)).toArray meth c (cc, nL, y.cls, y.name, ret, fr, lo) :=
    ⟨⟨B.exec, B.bytes, hml, findClass_of_methodNamed B.named, fun w hw => hts0 w (List.mem_cons_of_mem _ hw)⟩, hKA, (name_of_methodNamed B.named B.method).1, B.returns, B.notSynchronized⟩
  have hle : (lg_sl (av.map (dv g))).length ≤ nL := by rw [slen_eq]; exact hl0
  have hl := lv_entry (av.map (dv g)) hle
  rw [lg_entry_eq]
  generalize (lg_sl (av.map (dv g)) ++ List.replicate (nL - (lg_sl (av.map (dv g))).length) Slot.unset).toArray = ls at hl ⊢
  rw [← argsA_eq] at hl
  exact hE.2 g HB p e _ s m _ below meth c s.heap [] ls hC (Nat.le_refl fr) (Nat.le_refl lo) (Nat.le_refl mc) (Nat.le_refl ms) hR0 hl
