/-! The invariant of the two objects' world, and how a write keeps it. -/
/-- the names' types are as the constructors left them -/
def Sh (h : Hp) : Prop := 106 ≤ h.1 ∧ h.1 ≤ 900000 ∧ (∀ a t, fixTy a = some t → h.2.1 a = some t) ∧ ∀ a t, h.2.1 a = some t → 0 < a ∧ a < h.1
def Rg (h : Hp) : Prop := ∀ a j lo hi, rg a j = some (lo, hi) → lo ≤ h.2.2 a j ∧ h.2.2 a j ≤ hi
/-- what an array of that kind holds -/
def gk (k : Nat) (x : Int) : Prop := match k % 10 with
  | 0 => I32 x
  | 1 => -128 ≤ x ∧ x ≤ 127
  | 2 => 0 ≤ x ∧ x ≤ 1
  | _ => True
def Gen (h : Hp) : Prop := ∀ a k n, h.2.1 a = some (.inl (k, n)) → n ≤ 67108864 ∧ ∀ j, gk k (h.2.2 a j)
/-- null, or an array of that kind -/
def mref (h : Hp) (k : Nat) (x : Int) : Prop := x = 0 ∨ ∃ b n : Nat, x = (b : Int) ∧ 106 ≤ b ∧ h.2.1 b = some (.inl (k, n))
def MsgAt (h : Hp) (a : Nat) : Prop := 106 ≤ a ∧ I32 (h.2.2 a 0) ∧ I32 (h.2.2 a 3) ∧ I32 (h.2.2 a 4) ∧ (0 ≤ h.2.2 a 7 ∧ h.2.2 a 7 ≤ 8) ∧ mref h 0 (h.2.2 a 1) ∧ mref h 20 (h.2.2 a 2) ∧ mref h 0 (h.2.2 a 5) ∧ mref h 10 (h.2.2 a 6)
def Msg (h : Hp) : Prop := ∀ a, h.2.1 a = some (.inr 5) → MsgAt h a
/-- where fields start: 0 .. 1200; five of them -/
def Fsv (h : Hp) : Prop := ∀ a n, h.2.1 a = some (.inl (20, n)) → n = 5 ∧ ∀ j, 0 ≤ h.2.2 a j ∧ h.2.2 a j ≤ 1200
def full (h : Hp) (m : Nat) : Prop := h.2.1 m = some (.inr 5) ∧ h.2.2 m 1 ≠ 0 ∧ h.2.2 m 2 ≠ 0 ∧ h.2.2 m 5 ≠ 0 ∧ h.2.2 m 6 ≠ 0
def Lst (h : Hp) : Prop := ∃ s : Nat, h.2.2 26 2 = (s : Int) ∧ s ≤ 60 ∧ ((h.2.2 26 1 = 1000000 ∧ s = 0) ∨ ∃ e n : Nat, h.2.2 26 1 = (e : Int) ∧ 106 ≤ e ∧ h.2.1 e = some (.inl (34, n)) ∧ s ≤ n ∧ ∀ j, j < s → ∃ m : Nat, h.2.2 e j = (m : Int) ∧ full h m)
/-- a book's rows: w is its starts' kind -/
def Bk (h : Hp) (b w : Nat) : Prop := ∃ nx st rd rw nn ns nr nw : Nat, h.2.2 b 1 = (nx : Int) ∧ h.2.2 b 2 = (st : Int) ∧ h.2.2 b 3 = (rd : Int) ∧ h.2.2 b 4 = (rw : Int) ∧ h.2.1 nx = some (.inl (w + 400, nn)) ∧ h.2.1 st = some (.inl (w, ns)) ∧ h.2.1 rd = some (.inl (w + 500, nr)) ∧ h.2.1 rw = some (.inl (w + 601, nw)) ∧ 0 < nx ∧ 0 < st ∧ 0 < rd ∧ 0 < rw
def Inv (h : Hp) : Prop := Sh h ∧ Rg h ∧ Gen h ∧ Msg h ∧ Fsv h ∧ Lst h ∧ Bk h 8 60 ∧ Bk h 14 70 ∧ Bk h 20 80
theorem Inv.atS {h : Hp} (hI : Inv h) {a : Nat} {t : Ty} (e : fixTy a = some t) : h.2.1 a = some t := hI.1.2.2.1 a t e
theorem Inv.atR {h : Hp} (hI : Inv h) {a j : Nat} {lo hi : Int} (e : rg a j = some (lo, hi)) : lo ≤ h.2.2 a j ∧ h.2.2 a j ≤ hi := hI.2.1 a j lo hi e
theorem Inv.atE {h : Hp} (hI : Inv h) {a j : Nat} {c : Int} (e : rg a j = some (c, c)) : h.2.2 a j = c := by
  have := hI.2.1 a j c c e
  omega
/-- a place that the other parts of the invariant don't look at -/
def ordF (a j : Nat) : Bool := Nat.blt a 106 && (match a with
  | 26 => Nat.beq j 0
  | 8 => Nat.blt 4 j
  | 14 => Nat.blt 4 j
  | 20 => Nat.blt 4 j
  | _ => true)
def genF (t : Option Ty) (lo hi : Int) : Bool := match t with
  | none => false
  | some t => match t with
    | .inr _ => true
    | .inl q => match q.1 % 10 with
      | 0 => decide (-2147483648 ≤ lo) && decide (hi < 2147483648)
      | 1 => decide (-128 ≤ lo) && decide (hi ≤ 127)
      | 2 => decide (0 ≤ lo) && decide (hi ≤ 1)
      | _ => true
theorem genF_ok {k n : Nat} {lo hi x : Int} (h : genF (some (.inl (k, n))) lo hi = true) (hx : lo ≤ x ∧ x ≤ hi) : gk k x := by
  unfold genF at h
  unfold gk
  simp only at h
  generalize k % 10 = q at h
  rcases q with _ | _ | _ | q
  · simp only [Bool.and_eq_true, decide_eq_true_eq] at h
    show I32 x
    omega
  · simp only [Bool.and_eq_true, decide_eq_true_eq] at h
    show -128 ≤ x ∧ x ≤ 127
    omega
  · simp only [Bool.and_eq_true, decide_eq_true_eq] at h
    show 0 ≤ x ∧ x ≤ 1
    omega
  · trivial
theorem wr_ne {h : Hp} {a j b i : Nat} {x : Int} (hb : b ≠ a) : (wr h a j x).2.2 b i = h.2.2 b i := up_ne hb
theorem wr_ne2 {h : Hp} {a j b i : Nat} {x : Int} (hb : i ≠ j) : (wr h a j x).2.2 b i = h.2.2 b i := up_ne2 hb
theorem wr_eq {h : Hp} {a j : Nat} {x : Int} : (wr h a j x).2.2 a j = x := up_eq
theorem MsgAt.put {h : Hp} {a j b : Nat} {x : Int} (hb : b ≠ a) (hm : MsgAt h b) : MsgAt (wr h a j x) b := by
  unfold MsgAt
  simp only [wr_ne hb]
  exact hm
theorem full.put {h : Hp} {a j m : Nat} {x : Int} (hb : m ≠ a) (hm : full h m) : full (wr h a j x) m := by
  unfold full
  simp only [wr_ne hb]
  exact hm
theorem Lst.put {h : Hp} {a j : Nat} {x : Int} (ha : a < 106) (hl : (a, j) ≠ (26, 1) ∧ (a, j) ≠ (26, 2)) (hM : Msg h) (hL : Lst h) : Lst (wr h a j x) := by
  have e : ∀ i, (i = 1 ∨ i = 2) → (wr h a j x).2.2 26 i = h.2.2 26 i := fun i hi => by
    by_cases h1 : a = 26
    · subst h1
      refine wr_ne2 ?_
      rintro rfl
      rcases hi with rfl | rfl
      · exact hl.1 rfl
      · exact hl.2 rfl
    · exact wr_ne (fun h => h1 h.symm)
  obtain ⟨s, h1, h2, h3⟩ := hL
  refine ⟨s, by rw [e 2 (Or.inr rfl)]; exact h1, h2, ?_⟩
  rw [e 1 (Or.inl rfl)]
  rcases h3 with h3 | ⟨ed, n, g1, g2, g3, g4, g5⟩
  · exact Or.inl h3
  · refine Or.inr ⟨ed, n, g1, g2, g3, g4, fun i hi => ?_⟩
    obtain ⟨m, k1, k2⟩ := g5 i hi
    have hm := (hM m k2.1).1
    exact ⟨m, by rw [wr_ne (by omega)]; exact k1, k2.put (by omega)⟩
theorem Bk.put {h : Hp} {a j b w : Nat} {x : Int} (hl : a ≠ b ∨ 4 < j) (hB : Bk h b w) : Bk (wr h a j x) b w := by
  have e : ∀ i, i ≤ 4 → (wr h a j x).2.2 b i = h.2.2 b i := fun i hi => by
    rcases hl with h1 | h1
    · exact wr_ne (fun h => h1 h.symm)
    · exact wr_ne2 (by omega)
  unfold Bk
  simp only [e 1 (by omega), e 2 (by omega), e 3 (by omega), e 4 (by omega)]
  exact hB
theorem ordF_ok {a j : Nat} (h : ordF a j = true) : a < 106 ∧ ((a, j) ≠ (26, 1) ∧ (a, j) ≠ (26, 2)) ∧ (a ≠ 8 ∨ 4 < j) ∧ (a ≠ 14 ∨ 4 < j) ∧ (a ≠ 20 ∨ 4 < j) := by
  unfold ordF at h
  rw [Bool.and_eq_true] at h
  refine ⟨Nat.blt_eq.mp h.1, ?_⟩
  have h2 := h.2
  by_cases h26 : a = 26
  · subst h26
    have h3 : j = 0 := Nat.eq_of_beq_eq_true h2
    subst h3
    exact ⟨⟨by decide, by decide⟩, Or.inl (by decide), Or.inl (by decide), Or.inl (by decide)⟩
  · refine ⟨⟨fun e => h26 (congrArg Prod.fst e), fun e => h26 (congrArg Prod.fst e)⟩, ?_, ?_, ?_⟩
    · by_cases h8 : a = 8
      · subst h8; exact Or.inr (Nat.blt_eq.mp h2)
      · exact Or.inl h8
    · by_cases h8 : a = 14
      · subst h8; exact Or.inr (Nat.blt_eq.mp h2)
      · exact Or.inl h8
    · by_cases h8 : a = 20
      · subst h8; exact Or.inr (Nat.blt_eq.mp h2)
      · exact Or.inl h8
theorem Inv.put0 {h : Hp} (hI : Inv h) {a j : Nat} {x : Int} (ho : ordF a j = true) (hr : ∀ lo hi, rg a j = some (lo, hi) → lo ≤ x ∧ x ≤ hi) (hg : ∀ k n, h.2.1 a = some (.inl (k, n)) → gk k x) (hf : ∀ n, h.2.1 a ≠ some (.inl (20, n))) : Inv (wr h a j x) := by
  obtain ⟨hS, hR, hG, hM, hF, hL, hb1, hb2, hb3⟩ := hI
  obtain ⟨o1, o2, o3, o4, o5⟩ := ordF_ok ho
  refine ⟨hS, fun b i lo hi e => ?_, fun b k n ht => ⟨(hG b k n ht).1, fun i => ?_⟩, fun b hb => ?_, fun b n hb => ?_, hL.put o1 o2 hM, hb1.put o3, hb2.put o4, hb3.put o5⟩
  · by_cases hab : b = a
    · subst hab
      by_cases hij : i = j
      · subst hij
        rw [wr_eq]
        exact hr lo hi e
      · rw [wr_ne2 hij]
        exact hR b i lo hi e
    · rw [wr_ne hab]
      exact hR b i lo hi e
  · by_cases hab : b = a
    · subst hab
      by_cases hij : i = j
      · subst hij
        rw [wr_eq]
        exact hg k n ht
      · rw [wr_ne2 hij]
        exact (hG b k n ht).2 i
    · rw [wr_ne hab]
      exact (hG b k n ht).2 i
  · have h1 := hM b hb
    exact h1.put (by have := h1.1; omega)
  · by_cases hab : b = a
    · subst hab
      exact absurd hb (hf n)
    · simp only [wr_ne hab]
      exact hF b n hb
/-- a write at a known name -/
def okF (a j : Nat) (lo hi : Int) : Bool := ordF a j && (genF (fixTy a) lo hi && (match fixTy a with
  | none => false
  | some t => match t with
    | .inr _ => true
    | .inl q => !(Nat.beq q.1 20)))
theorem Inv.put {h : Hp} (hI : Inv h) {a j : Nat} {x : Int} (lo hi : Int) (he : rg a j = some (lo, hi)) (ho : okF a j lo hi = true) (hx : lo ≤ x ∧ x ≤ hi) : Inv (wr h a j x) := by
  unfold okF at ho
  simp only [Bool.and_eq_true] at ho
  obtain ⟨h1, h2, h3⟩ := ho
  refine hI.put0 h1 (fun lo' hi' e => ?_) (fun k n ht => ?_) (fun n ht => ?_)
  · cases he.symm.trans e
    exact hx
  · cases hf : fixTy a with
    | none => rw [hf] at h2; cases h2
    | some t =>
      have h4 := hI.1.2.2.1 a t hf
      cases ht.symm.trans h4
      rw [hf] at h2
      exact genF_ok h2 hx
  · cases hf : fixTy a with
    | none => rw [hf] at h2; cases h2
    | some t =>
      have h4 := hI.1.2.2.1 a t hf
      cases ht.symm.trans h4
      rw [hf] at h3
      cases h3
/-- a long, of which nothing is told -/
def okL (a j : Nat) : Bool := ordF a j && (match rg a j with
  | some _ => false
  | none => match fixTy a with
    | none => false
    | some t => match t with
      | .inr _ => true
      | .inl q => Nat.beq q.1 3)
theorem Inv.putL {h : Hp} (hI : Inv h) {a j : Nat} {x : Int} (ho : okL a j = true) : Inv (wr h a j x) := by
  unfold okL at ho
  simp only [Bool.and_eq_true] at ho
  obtain ⟨h1, h2⟩ := ho
  cases hr : rg a j with
  | some q => rw [hr] at h2; cases h2
  | none =>
    rw [hr] at h2
    simp only at h2
    cases hf : fixTy a with
    | none => rw [hf] at h2; cases h2
    | some t =>
      have h4 := hI.1.2.2.1 a t hf
      rw [hf] at h2
      refine hI.put0 h1 (fun lo' hi' e => by rw [hr] at e; cases e) (fun k n ht => ?_) (fun n ht => ?_)
      · cases ht.symm.trans h4
        have h5 : k = 3 := Nat.eq_of_beq_eq_true h2
        subst h5
        trivial
      · cases ht.symm.trans h4
        cases h2
-- frames
/-- from h to h' nothing that was there has changed but what has a colour of S -/
def Fr (S : List Nat) (h h' : Hp) : Prop := (h.1 ≤ h'.1 ∧ ∀ a, a < h.1 → h'.2.1 a = h.2.1 a) ∧ (∀ a j, a < h.1 → S.contains (col (h.2.1 a) a j) = false → h'.2.2 a j = h.2.2 a j) ∧ (S.contains 999 = false → h'.1 = h.1)
theorem Fr.rf (S : List Nat) (h : Hp) : Fr S h h := ⟨⟨Nat.le_refl _, fun _ _ => rfl⟩, fun _ _ _ _ => rfl, fun _ => rfl⟩
theorem Fr.put {S : List Nat} {h h1 : Hp} (f : Fr S h h1) {a j : Nat} {x : Int} (hc : a < h.1 → S.contains (col (h.2.1 a) a j) = true) : Fr S h (wr h1 a j x) := by
  refine ⟨f.1, fun b i hb hn => ?_, fun hs => f.2.2 hs⟩
  by_cases hab : b = a ∧ i = j
  · obtain ⟨rfl, rfl⟩ := hab
    rw [hc hb] at hn
    cases hn
  · have e : (wr h1 a j x).2.2 b i = h1.2.2 b i := by
      by_cases h2 : b = a
      · exact wr_ne2 (fun h3 => hab ⟨h2, h3⟩)
      · exact wr_ne h2
    rw [e]
    exact f.2.1 b i hb hn
/-- a write at a known name -/
theorem Fr.putF {S : List Nat} {h h1 : Hp} (f : Fr S h h1) {a j : Nat} {x : Int} (hc : (Nat.blt a 106 && S.contains (col none a j)) = true) : Fr S h (wr h1 a j x) := by
  rw [Bool.and_eq_true] at hc
  have ha : a < colT.length := Nat.blt_eq.mp hc.1
  refine f.put fun _ => ?_
  have e : col (h.2.1 a) a j = col none a j := by
    unfold col
    rw [List.getElem?_eq_getElem ha]
  rw [e]
  exact hc.2
