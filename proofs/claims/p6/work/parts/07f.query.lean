/-! A query: leaves, steps, signs that wait. -/
def bn (s : Int) : Int := if s = 1 ∨ s = 4 then 0 else 1
def op4 (s : Int) : Int := if s = 4 then 1 else 0
def hs (x : Int) : Int := if 0 < x then 1 else if x = -1 then 0 else -1
theorem bn_c (s : Int) : ((s = 1 ∨ s = 4) ∧ bn s = 0) ∨ (s ≠ 1 ∧ s ≠ 4 ∧ bn s = 1) := by
  unfold bn
  by_cases h : s = 1 ∨ s = 4
  · rw [if_pos h]; exact Or.inl ⟨h, rfl⟩
  · rw [if_neg h]; exact Or.inr ⟨fun e => h (Or.inl e), fun e => h (Or.inr e), rfl⟩
theorem op_c (s : Int) : (s = 4 ∧ op4 s = 1) ∨ (s ≠ 4 ∧ op4 s = 0) := by
  unfold op4
  by_cases h : s = 4
  · rw [if_pos h]; exact Or.inl ⟨h, rfl⟩
  · rw [if_neg h]; exact Or.inr ⟨h, rfl⟩
theorem hs_c (x : Int) : (0 < x ∧ hs x = 1) ∨ (x = -1 ∧ hs x = 0) ∨ (x ≤ 0 ∧ x ≠ -1 ∧ hs x = -1) := by
  unfold hs
  by_cases h : 0 < x
  · rw [if_pos h]; exact Or.inl ⟨h, rfl⟩
  · rw [if_neg h]
    by_cases h2 : x = -1
    · rw [if_pos h2]; exact Or.inr (Or.inl ⟨h2, rfl⟩)
    · rw [if_neg h2]; exact Or.inr (Or.inr ⟨by omega, h2, rfl⟩)
def binq (h : Hp) : Int := sumN (fun i => bn (h.2.2 96 i)) (h.2.2 60 47).toNat
def opnq (h : Hp) : Int := sumN (fun i => op4 (h.2.2 96 i)) (h.2.2 60 47).toNat
def htN (h : Hp) (n : Nat) : Int := sumN (fun i => hs (h.2.2 95 i)) n
def htq (h : Hp) : Int := htN h (h.2.2 60 46).toNat
/-- each step finds what it wants -/
def Val (h : Hp) : Prop := ∀ i, i < (h.2.2 60 46).toNat → (h.2.2 95 i = -1 → 1 ≤ htN h i) ∧ (h.2.2 95 i ≤ 0 → h.2.2 95 i ≠ -1 → 2 ≤ htN h i) ∧ (0 < h.2.2 95 i → htN h i ≤ 809 ∧ h.2.2 95 i ≤ h.2.2 60 45)
def LfOK (h : Hp) : Prop := ∀ i, i < (h.2.2 60 45).toNat → h.2.2 90 i ≤ h.2.2 91 i ∧ (h.2.2 92 i = 1 ∨ 1 ≤ h.2.2 91 i)
theorem binq_ge {h : Hp} : 0 ≤ binq h := sumN_ge0 _ (fun i _ => by have := bn_c (h.2.2 96 i); omega)
theorem opnq_ge {h : Hp} : 0 ≤ opnq h := sumN_ge0 _ (fun i _ => by have := op_c (h.2.2 96 i); omega)
-- frames
def ecol (a b : Nat) (S : List Nat) : Bool := !S.contains a && !S.contains b
theorem ecol2 {a b : Nat} {S : List Nat} (hs : ecol a b S = true) : S.contains a = false ∧ S.contains b = false := by
  unfold ecol at hs
  simp only [Bool.and_eq_true, Bool.not_eq_true'] at hs
  exact hs
theorem binq_fr {S : List Nat} {h h' : Hp} (f : Fr S h h') (hI : Inv h) (hs : ecol 96 247 S = true) : binq h' = binq h := by
  have s := ecol2 hs
  unfold binq
  rw [f.arr hI (a := 96) (by decide) (fun _ => s.1), f.getF hI (a := 60) (j := 47) (by decide) s.2]
theorem opnq_fr {S : List Nat} {h h' : Hp} (f : Fr S h h') (hI : Inv h) (hs : ecol 96 247 S = true) : opnq h' = opnq h := by
  have s := ecol2 hs
  unfold opnq
  rw [f.arr hI (a := 96) (by decide) (fun _ => s.1), f.getF hI (a := 60) (j := 47) (by decide) s.2]
theorem htq_fr {S : List Nat} {h h' : Hp} (f : Fr S h h') (hI : Inv h) (hs : ecol 95 246 S = true) : htq h' = htq h := by
  have s := ecol2 hs
  unfold htq htN
  rw [f.arr hI (a := 95) (by decide) (fun _ => s.1), f.getF hI (a := 60) (j := 46) (by decide) s.2]
theorem Val.mono {h h' : Hp} (e95 : h'.2.2 95 = h.2.2 95) (e46 : h'.2.2 60 46 = h.2.2 60 46) (e45 : h.2.2 60 45 ≤ h'.2.2 60 45) (k : Val h) : Val h' := by
  intro i hi
  rw [e46] at hi
  have h1 := k i hi
  have e : htN h' i = htN h i := by
    unfold htN
    rw [e95]
  rw [e95, e]
  exact ⟨h1.1, h1.2.1, fun h2 => ⟨(h1.2.2 h2).1, by have := (h1.2.2 h2).2; omega⟩⟩
def vcol (S : List Nat) : Bool := ecol 95 246 S && !S.contains 245
theorem Val_fr {S : List Nat} {h h' : Hp} (f : Fr S h h') (hI : Inv h) (hs : vcol S = true) (k : Val h) : Val h' := by
  unfold vcol at hs
  rw [Bool.and_eq_true] at hs
  have s := ecol2 hs.1
  have s2 := hs.2
  rw [Bool.not_eq_true'] at s2
  exact k.mono (f.arr hI (a := 95) (by decide) (fun _ => s.1)) (f.getF hI (a := 60) (j := 46) (by decide) s.2) (by rw [f.getF hI (a := 60) (j := 45) (by decide) s2]; omega)
def lfcol (S : List Nat) : Bool := !S.contains 90 && (!S.contains 91 && (!S.contains 92 && !S.contains 245))
theorem LfOK_fr {S : List Nat} {h h' : Hp} (f : Fr S h h') (hI : Inv h) (hs : lfcol S = true) (k : LfOK h) : LfOK h' := by
  unfold lfcol at hs
  simp only [Bool.and_eq_true, Bool.not_eq_true'] at hs
  obtain ⟨s1, s2, s3, s4⟩ := hs
  unfold LfOK
  rw [f.arr hI (a := 90) (by decide) (fun _ => s1), f.arr hI (a := 91) (by decide) (fun _ => s2), f.arr hI (a := 92) (by decide) (fun _ => s3), f.getF hI (a := 60) (j := 45) (by decide) s4]
  exact k
-- writes elsewhere
def eout (b i a j : Nat) : Bool := !(Nat.beq a b) && !(Nat.beq a 60 && Nat.beq j i)
theorem eout2 {b i a j : Nat} (hs : eout b i a j = true) {h : Hp} {x : Int} : (wr h a j x).2.2 b = h.2.2 b ∧ (wr h a j x).2.2 60 i = h.2.2 60 i := by
  unfold eout at hs
  rw [Bool.and_eq_true] at hs
  exact ⟨funext fun i => wr_ne (beq_no hs.1), beq_no2 hs.2⟩
theorem binq_wr {h : Hp} {a j : Nat} {x : Int} (hs : eout 96 47 a j = true) : binq (wr h a j x) = binq h := by
  have s := eout2 hs (h := h) (x := x)
  unfold binq
  rw [s.1, s.2]
theorem opnq_wr {h : Hp} {a j : Nat} {x : Int} (hs : eout 96 47 a j = true) : opnq (wr h a j x) = opnq h := by
  have s := eout2 hs (h := h) (x := x)
  unfold opnq
  rw [s.1, s.2]
theorem htq_wr {h : Hp} {a j : Nat} {x : Int} (hs : eout 95 46 a j = true) : htq (wr h a j x) = htq h := by
  have s := eout2 hs (h := h) (x := x)
  unfold htq htN
  rw [s.1, s.2]
def vout (a j : Nat) : Bool := eout 95 46 a j && !(Nat.beq a 60 && Nat.beq j 45)
theorem Val_wr {h : Hp} {a j : Nat} {x : Int} (hs : vout a j = true) (k : Val h) : Val (wr h a j x) := by
  unfold vout at hs
  rw [Bool.and_eq_true] at hs
  have s := eout2 hs.1 (h := h) (x := x)
  exact k.mono s.1 s.2 (by rw [beq_no2 hs.2]; omega)
def lfout (a j : Nat) : Bool := !(Nat.beq a 90) && (!(Nat.beq a 91) && (!(Nat.beq a 92) && !(Nat.beq a 60 && Nat.beq j 45)))
theorem LfOK_wr {h : Hp} {a j : Nat} {x : Int} (hs : lfout a j = true) (k : LfOK h) : LfOK (wr h a j x) := by
  unfold lfout at hs
  simp only [Bool.and_eq_true] at hs
  obtain ⟨s1, s2, s3, s4⟩ := hs
  have e1 : (wr h a j x).2.2 90 = h.2.2 90 := funext fun i => wr_ne (beq_no s1)
  have e2 : (wr h a j x).2.2 91 = h.2.2 91 := funext fun i => wr_ne (beq_no s2)
  have e3 : (wr h a j x).2.2 92 = h.2.2 92 := funext fun i => wr_ne (beq_no s3)
  unfold LfOK
  rw [e1, e2, e3, beq_no2 s4]
  exact k
-- a step more
def DoneP (h H : Hp) (c : Int) : Prop := H.2.2 60 46 = h.2.2 60 46 + 1 ∧ H.2.2 95 (h.2.2 60 46).toNat = c ∧ (∀ i, i ≠ (h.2.2 60 46).toNat → H.2.2 95 i = h.2.2 95 i) ∧ H.2.2 60 45 = h.2.2 60 45
theorem DoneP.mk {h : Hp} {x c : Int} (hx : h.2.2 60 46 = x) : DoneP h (wr (wr h 95 x.toNat c) 60 46 (x + 1)) c := by
  subst hx
  refine ⟨by simp [wr_if], by simp [wr_if], fun i hi => by simp [wr_if, hi], by simp [wr_if]⟩
theorem DoneP.ht {h H : Hp} {c : Int} (p : DoneP h H c) (n : Nat) (hn : n ≤ (h.2.2 60 46).toNat) : htN H n = htN h n := sumN_congr n (fun i hi => by rw [p.2.2.1 i (by omega)])
theorem DoneP.sum {h H : Hp} {c : Int} (p : DoneP h H c) (h0 : 0 ≤ h.2.2 60 46) : htq H = htq h + hs c := by
  have e := p.ht _ (Nat.le_refl _)
  unfold htq
  rw [p.1, show (h.2.2 60 46 + 1).toNat = (h.2.2 60 46).toNat + 1 by omega]
  show htN H (h.2.2 60 46).toNat + hs (H.2.2 95 (h.2.2 60 46).toNat) = _
  rw [e, p.2.1]
theorem DoneP.val {h H : Hp} {c : Int} (p : DoneP h H c) (h0 : 0 ≤ h.2.2 60 46) (k : Val h) (h1 : c = -1 → 1 ≤ htq h) (h2 : c ≤ 0 → c ≠ -1 → 2 ≤ htq h) (h3 : 0 < c → htq h ≤ 809 ∧ c ≤ h.2.2 60 45) : Val H := by
  intro i hi
  rw [p.1] at hi
  by_cases hn : i = (h.2.2 60 46).toNat
  · subst hn
    rw [p.2.1, p.ht _ (Nat.le_refl _), p.2.2.2]
    exact ⟨h1, h2, h3⟩
  · rw [p.2.2.1 i hn, p.ht i (by omega), p.2.2.2]
    exact k i (by omega)
-- a sign more, a sign less
def LaterP (h H : Hp) (c : Int) : Prop := H.2.2 60 47 = h.2.2 60 47 + 1 ∧ H.2.2 96 (h.2.2 60 47).toNat = c ∧ ∀ i, i ≠ (h.2.2 60 47).toNat → H.2.2 96 i = h.2.2 96 i
theorem LaterP.mk {h : Hp} {x c : Int} (hx : h.2.2 60 47 = x) : LaterP h (wr (wr h 96 x.toNat c) 60 47 (x + 1)) c := by
  subst hx
  refine ⟨by simp [wr_if], by simp [wr_if], fun i hi => by simp [wr_if, hi]⟩
theorem LaterP.sums {h H : Hp} {c : Int} (p : LaterP h H c) (h0 : 0 ≤ h.2.2 60 47) : binq H = binq h + bn c ∧ opnq H = opnq h + op4 c := by
  have e : (h.2.2 60 47 + 1).toNat = (h.2.2 60 47).toNat + 1 := by omega
  unfold binq opnq
  rw [p.1, e, sumN_s, sumN_s, p.2.1]
  rw [sumN_congr (f := fun i => bn (H.2.2 96 i)) (f' := fun i => bn (h.2.2 96 i)) _ (fun i hi => by rw [p.2.2 i (by omega)])]
  rw [sumN_congr (f := fun i => op4 (H.2.2 96 i)) (f' := fun i => op4 (h.2.2 96 i)) _ (fun i hi => by rw [p.2.2 i (by omega)])]
  exact ⟨rfl, rfl⟩
theorem pile_pop {h H : Hp} {x : Int} (hx : h.2.2 60 47 = x) (h0 : 0 < x) (e : H = wr h 60 47 (x - 1)) : binq h = binq H + bn (H.2.2 96 (x - 1).toNat) ∧ opnq h = opnq H + op4 (H.2.2 96 (x - 1).toNat) := by
  have e96 : H.2.2 96 = h.2.2 96 := by rw [e]; exact funext fun i => wr_ne (by decide)
  have e47 : H.2.2 60 47 = x - 1 := by rw [e]; exact wr_eq
  unfold binq opnq
  rw [e47, e96, hx, show x.toNat = (x - 1).toNat + 1 by omega, sumN_s, sumN_s]
  exact ⟨rfl, rfl⟩
theorem opn_none {h : Hp} (e : h.2.2 60 47 ≤ 0) : opnq h = 0 ∧ binq h = 0 := by
  unfold opnq binq
  rw [show (h.2.2 60 47).toNat = 0 by omega]
  exact ⟨rfl, rfl⟩
/-- nothing is read yet -/
theorem q_none {h : Hp} {x : Int} : let H := wr (wr (wr (wr h 60 45 0) 60 46 0) 60 47 0) 60 48 x
    Val H ∧ LfOK H ∧ htq H = 0 ∧ binq H = 0 ∧ opnq H = 0 := by
  intro H
  have e45 : H.2.2 60 45 = 0 := by simp [H, wr_if]
  have e46 : H.2.2 60 46 = 0 := by simp [H, wr_if]
  have e47 : H.2.2 60 47 = 0 := by simp [H, wr_if]
  refine ⟨fun i hi => ?_, fun i hi => ?_, ?_, (opn_none (by omega)).2, (opn_none (by omega)).1⟩
  · rw [e46] at hi; exact absurd hi (Nat.not_lt_zero i)
  · rw [e45] at hi; exact absurd hi (Nat.not_lt_zero i)
  · unfold htq; rw [e46]; rfl
theorem LfOK.leaf {h H : Hp} {x f g p c : Int} {H1 H2 H3 H4 H5 H6 : Hp} {q5 q6 : Int} (hx : h.2.2 60 45 = x) (h0 : 0 ≤ x) (w1 : H1 = wr h 89 x.toNat c) (w2 : H2 = wr H1 90 x.toNat f) (w3 : H3 = wr H2 91 x.toNat g) (w4 : H4 = wr H3 92 x.toNat p) (w5 : H5 = wr H4 93 x.toNat q5) (w6 : H6 = wr H5 94 x.toNat q6) (w7 : H = wr H6 60 45 (x + 1)) (k : LfOK h) (hfg : f ≤ g ∧ (p = 1 ∨ 1 ≤ g)) : LfOK H := by
  subst hx w1 w2 w3 w4 w5 w6 w7
  intro i hi
  rw [wr_eq] at hi
  by_cases hn : i = (h.2.2 60 45).toNat
  · subst hn
    simp [wr_if]
    exact hfg
  · simp [wr_if, hn]
    exact k i (by omega)
theorem htN_s (h : Hp) {x : Int} (h0 : 0 ≤ x) : htN h (x + 1).toNat = htN h x.toNat + hs (h.2.2 95 x.toNat) := by
  rw [show (x + 1).toNat = x.toNat + 1 by omega]
  rfl
/-- where the names of fields end -/
def feL : List Int := [0, 5, 8, 16, 21, 25, 28, 35, 40]
def FE (i : Int) : Int := feL.getD i.toNat 0
theorem FE_c {f : Int} (hf : 0 ≤ f ∧ f ≤ 7) : 0 ≤ FE f ∧ FE f + 3 ≤ FE (f + 1) ∧ FE (f + 1) ≤ 40 := by
  rcases (show f = 0 ∨ f = 1 ∨ f = 2 ∨ f = 3 ∨ f = 4 ∨ f = 5 ∨ f = 6 ∨ f = 7 by omega) with rfl | rfl | rfl | rfl | rfl | rfl | rfl | rfl <;> decide
