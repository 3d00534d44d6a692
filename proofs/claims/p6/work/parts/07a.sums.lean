/-! Sums; the texts that wait; parts. -/
def sumN (f : Nat → Int) (n : Nat) : Int := match n with
  | 0 => 0
  | n + 1 => sumN f n + f n
theorem sumN_congr {f f' : Nat → Int} : ∀ (n : Nat), (∀ i, i < n → f i = f' i) → sumN f n = sumN f' n
  | 0, _ => rfl
  | n + 1, h => by
    show sumN f n + f n = sumN f' n + f' n
    rw [sumN_congr n (fun i hi => h i (Nat.lt_succ_of_lt hi)), h n (Nat.lt_succ_self n)]
theorem sumN_ge0 {f : Nat → Int} : ∀ (n : Nat), (∀ i, i < n → 0 ≤ f i) → 0 ≤ sumN f n
  | 0, _ => Int.le_refl 0
  | n + 1, h => by
    have h1 := sumN_ge0 n (fun i hi => h i (Nat.lt_succ_of_lt hi))
    have h2 := h n (Nat.lt_succ_self n)
    show 0 ≤ sumN f n + f n
    omega
theorem sumN_ge1 {f : Nat → Int} : ∀ (n : Nat), (∀ i, i < n → 1 ≤ f i) → (n : Int) ≤ sumN f n
  | 0, _ => Int.le_refl 0
  | n + 1, h => by
    have h1 := sumN_ge1 n (fun i hi => h i (Nat.lt_succ_of_lt hi))
    have h2 := h n (Nat.lt_succ_self n)
    show ((n + 1 : Nat) : Int) ≤ sumN f n + f n
    omega
theorem sumN_ge2 {f : Nat → Int} : ∀ (n : Nat), (∀ i, i < n → 2 ≤ f i) → 2 * (n : Int) ≤ sumN f n
  | 0, _ => Int.le_refl 0
  | n + 1, h => by
    have h1 := sumN_ge2 n (fun i hi => h i (Nat.lt_succ_of_lt hi))
    have h2 := h n (Nat.lt_succ_self n)
    show 2 * ((n + 1 : Nat) : Int) ≤ sumN f n + f n
    omega
theorem sumN_le {f f' : Nat → Int} : ∀ (n : Nat), (∀ i, i < n → f i ≤ f' i) → sumN f n ≤ sumN f' n
  | 0, _ => Int.le_refl 0
  | n + 1, h => by
    have h1 := sumN_le n (fun i hi => h i (Nat.lt_succ_of_lt hi))
    have h2 := h n (Nat.lt_succ_self n)
    show sumN f n + f n ≤ sumN f' n + f' n
    omega
theorem sumN_at {f : Nat → Int} : ∀ (n : Nat), (∀ i, i < n → 0 ≤ f i) → ∀ i, i < n → f i ≤ sumN f n
  | 0, _, i, hi => absurd hi (Nat.not_lt_zero i)
  | n + 1, h, i, hi => by
    have h0 := sumN_ge0 n (fun i hi => h i (Nat.lt_succ_of_lt hi))
    have h2 := h n (Nat.lt_succ_self n)
    show f i ≤ sumN f n + f n
    by_cases hn : i = n
    · subst hn; omega
    · have h1 := sumN_at n (fun i hi => h i (Nat.lt_succ_of_lt hi)) i (by omega)
      omega
theorem sumN_s (f : Nat → Int) (n : Nat) : sumN f (n + 1) = sumN f n + f n := rfl
theorem wr_if {h : Hp} {a j b i : Nat} {x : Int} : (wr h a j x).2.2 b i = if b = a ∧ i = j then x else h.2.2 b i := by
  by_cases hab : b = a
  · subst hab
    by_cases hij : i = j
    · subst hij; rw [wr_eq, if_pos ⟨rfl, rfl⟩]
    · rw [wr_ne2 hij, if_neg (fun e => hij e.2)]
  · rw [wr_ne hab, if_neg (fun e => hab e.1)]
/-- what a frame keeps of a known name -/
theorem Fr.getF {S : List Nat} {h h' : Hp} (f : Fr S h h') (hI : Inv h) {a j : Nat} (ha : a < 106) (hn : S.contains (col none a j) = false) : h'.2.2 a j = h.2.2 a j :=
  f.2.1 a j (by have := hI.1.1; omega) (by rw [col_fix (t' := none) ha]; exact hn)
theorem Fr.arr {S : List Nat} {h h' : Hp} (f : Fr S h h') (hI : Inv h) {a : Nat} (ha : a < 106) (hn : ∀ j, S.contains (col none a j) = false) : h'.2.2 a = h.2.2 a := funext fun j => f.getF hI ha (hn j)
-- the texts that wait
def tc (h : Hp) (i : Nat) : Int := if h.2.2 80 i = 0 then 1 else h.2.2 79 i - h.2.2 78 i + 1
def tsum (h : Hp) : Int := sumN (tc h) (h.2.2 60 29).toNat
def Tok (h : Hp) : Prop := ∀ i, i < (h.2.2 60 29).toNat → h.2.2 80 i = 0 ∨ h.2.2 78 i ≤ h.2.2 79 i
def tcol (S : List Nat) : Bool := !S.contains 78 && (!S.contains 79 && (!S.contains 80 && !S.contains 229))
theorem tcol_fr {S : List Nat} {h h' : Hp} (f : Fr S h h') (hI : Inv h) (hs : tcol S = true) : h'.2.2 78 = h.2.2 78 ∧ h'.2.2 79 = h.2.2 79 ∧ h'.2.2 80 = h.2.2 80 ∧ h'.2.2 60 29 = h.2.2 60 29 := by
  unfold tcol at hs
  simp only [Bool.and_eq_true, Bool.not_eq_true'] at hs
  obtain ⟨s1, s2, s3, s4⟩ := hs
  exact ⟨f.arr hI (by decide) (fun _ => s1), f.arr hI (by decide) (fun _ => s2), f.arr hI (by decide) (fun _ => s3), f.getF hI (by decide) s4⟩
theorem tsum_fr {S : List Nat} {h h' : Hp} (f : Fr S h h') (hI : Inv h) (hs : tcol S = true) : tsum h' = tsum h := by
  obtain ⟨e1, e2, e3, e4⟩ := tcol_fr f hI hs
  unfold tsum tc
  rw [e1, e2, e3, e4]
theorem Tok_fr {S : List Nat} {h h' : Hp} (f : Fr S h h') (hI : Inv h) (hs : tcol S = true) (k : Tok h) : Tok h' := by
  obtain ⟨e1, e2, e3, e4⟩ := tcol_fr f hI hs
  unfold Tok
  rw [e1, e2, e3, e4]
  exact k
def tout (a j : Nat) : Bool := !(Nat.beq a 78) && (!(Nat.beq a 79) && (!(Nat.beq a 80) && !(Nat.beq a 60 && Nat.beq j 29)))
theorem beq_no {a b : Nat} (h : (!Nat.beq a b) = true) : b ≠ a := fun e => by
  subst e
  rw [Nat.beq_refl] at h
  cases h
theorem beq_no2 {a j b i : Nat} (h : (!(Nat.beq a b && Nat.beq j i)) = true) {k : Hp} {x : Int} : (wr k a j x).2.2 b i = k.2.2 b i := by
  rw [wr_if, if_neg]
  rintro ⟨rfl, rfl⟩
  rw [Nat.beq_refl, Nat.beq_refl] at h
  cases h
theorem tout_wr {h : Hp} {a j : Nat} {x : Int} (hs : tout a j = true) : (wr h a j x).2.2 78 = h.2.2 78 ∧ (wr h a j x).2.2 79 = h.2.2 79 ∧ (wr h a j x).2.2 80 = h.2.2 80 ∧ (wr h a j x).2.2 60 29 = h.2.2 60 29 := by
  unfold tout at hs
  simp only [Bool.and_eq_true] at hs
  obtain ⟨s1, s2, s3, s4⟩ := hs
  exact ⟨funext fun i => wr_ne (beq_no s1), funext fun i => wr_ne (beq_no s2), funext fun i => wr_ne (beq_no s3), beq_no2 s4⟩
theorem tsum_wr {h : Hp} {a j : Nat} {x : Int} (hs : tout a j = true) : tsum (wr h a j x) = tsum h := by
  obtain ⟨e1, e2, e3, e4⟩ := tout_wr (h := h) (x := x) hs
  unfold tsum tc
  rw [e1, e2, e3, e4]
theorem Tok_wr {h : Hp} {a j : Nat} {x : Int} (hs : tout a j = true) (k : Tok h) : Tok (wr h a j x) := by
  obtain ⟨e1, e2, e3, e4⟩ := tout_wr (h := h) (x := x) hs
  unfold Tok
  rw [e1, e2, e3, e4]
  exact k
theorem tc_pos {h : Hp} (k : Tok h) : ∀ i, i < (h.2.2 60 29).toNat → 1 ≤ tc h i := fun i hi => by
  unfold tc
  have h1 := k i hi
  by_cases h0 : h.2.2 80 i = 0
  · rw [if_pos h0]; omega
  · rw [if_neg h0]; omega
theorem tok_len {h : Hp} (k : Tok h) (h0 : 0 ≤ h.2.2 60 29) : h.2.2 60 29 ≤ tsum h := by
  have h1 := sumN_ge1 (f := tc h) _ (tc_pos k)
  unfold tsum
  omega
/-- one more waits -/
def PushP (h H : Hp) (f g d : Int) : Prop := H.2.2 60 29 = h.2.2 60 29 + 1 ∧ (∀ i, i ≠ (h.2.2 60 29).toNat → H.2.2 78 i = h.2.2 78 i ∧ H.2.2 79 i = h.2.2 79 i ∧ H.2.2 80 i = h.2.2 80 i) ∧ H.2.2 78 (h.2.2 60 29).toNat = f ∧ H.2.2 79 (h.2.2 60 29).toNat = g ∧ H.2.2 80 (h.2.2 60 29).toNat = d
theorem PushP.mk {h : Hp} {x f g d : Int} (hx : h.2.2 60 29 = x) : PushP h (wr (wr (wr (wr h 78 x.toNat f) 79 x.toNat g) 80 x.toNat d) 60 29 (x + 1)) f g d := by
  subst hx
  refine ⟨by simp [wr_if], fun i hi => ?_, by simp [wr_if], by simp [wr_if], by simp [wr_if]⟩
  simp [wr_if, hi]
theorem PushP.sum {h H : Hp} {f g d : Int} (p : PushP h H f g d) (h0 : 0 ≤ h.2.2 60 29) : tsum H = tsum h + (if d = 0 then 1 else g - f + 1) := by
  obtain ⟨p1, p2, p3, p4, p5⟩ := p
  unfold tsum
  rw [p1, show (h.2.2 60 29 + 1).toNat = (h.2.2 60 29).toNat + 1 by omega, sumN_s]
  have e1 : tc H (h.2.2 60 29).toNat = if d = 0 then 1 else g - f + 1 := by
    unfold tc
    rw [p3, p4, p5]
  rw [e1, sumN_congr (f' := tc h) _ (fun i hi => ?_)]
  obtain ⟨q1, q2, q3⟩ := p2 i (by omega)
  unfold tc
  rw [q1, q2, q3]
theorem PushP.sum2 {h H : Hp} {f g d : Int} (p : PushP h H f g d) (h0 : 0 ≤ h.2.2 60 29) : (d = 0 ∧ tsum H = tsum h + 1) ∨ (d ≠ 0 ∧ tsum H = tsum h + (g - f) + 1) := by
  have h1 := p.sum h0
  by_cases hd : d = 0
  · rw [if_pos hd] at h1; exact Or.inl ⟨hd, h1⟩
  · rw [if_neg hd] at h1; exact Or.inr ⟨hd, by omega⟩
theorem tok0 {h : Hp} : tsum (wr h 60 29 0) = 0 ∧ Tok (wr h 60 29 0) := by
  constructor
  · unfold tsum
    rw [wr_eq]
    rfl
  · intro i hi
    rw [wr_eq] at hi
    exact absurd hi (Nat.not_lt_zero i)
theorem PushP.tok {h H : Hp} {f g d : Int} (p : PushP h H f g d) (h0 : 0 ≤ h.2.2 60 29) (k : Tok h) (hd : d = 0 ∨ f ≤ g) : Tok H := by
  obtain ⟨p1, p2, p3, p4, p5⟩ := p
  intro i hi
  rw [p1] at hi
  by_cases hn : i = (h.2.2 60 29).toNat
  · subst hn
    rw [p3, p4, p5]
    exact hd
  · obtain ⟨q1, q2, q3⟩ := p2 i hn
    rw [q1, q2, q3]
    exact k i (by omega)
/-- the last one is taken -/
theorem tsum_pop {h : Hp} {x : Int} (hx : h.2.2 60 29 = x) (h0 : 0 < x) : tsum h = tsum (wr h 60 29 (x - 1)) + tc (wr h 60 29 (x - 1)) (x - 1).toNat := by
  have e78 : ∀ b, b ≠ 60 → (wr h 60 29 (x - 1)).2.2 b = h.2.2 b := fun b hb => funext fun i => wr_ne hb
  have et : tc (wr h 60 29 (x - 1)) = tc h := by
    funext i
    unfold tc
    rw [e78 78 (by decide), e78 79 (by decide), e78 80 (by decide)]
  unfold tsum
  rw [et, wr_eq, hx]
  have : x.toNat = (x - 1).toNat + 1 := by omega
  rw [this, sumN_s]
theorem Tok_pop {h : Hp} {x : Int} (hx : h.2.2 60 29 = x) (k : Tok h) : Tok (wr h 60 29 (x - 1)) := by
  have e78 : ∀ b, b ≠ 60 → (wr h 60 29 (x - 1)).2.2 b = h.2.2 b := fun b hb => funext fun i => wr_ne hb
  intro i hi
  rw [wr_eq] at hi
  rw [e78 78 (by decide), e78 79 (by decide), e78 80 (by decide)]
  exact k i (by rw [hx]; omega)
theorem tc_cases {h H : Hp} {x : Int} (hx : h.2.2 60 29 = x) (h0 : 0 < x) (k : Tok h) (e : H = wr h 60 29 (x - 1)) : (H.2.2 80 (x - 1).toNat = 0 ∧ tc H (x - 1).toNat = 1) ∨ (H.2.2 80 (x - 1).toNat ≠ 0 ∧ tc H (x - 1).toNat = H.2.2 79 (x - 1).toNat - H.2.2 78 (x - 1).toNat + 1 ∧ H.2.2 78 (x - 1).toNat ≤ H.2.2 79 (x - 1).toNat) := by
  have e78 : ∀ b, b ≠ 60 → H.2.2 b = h.2.2 b := fun b hb => by rw [e]; exact funext fun i => wr_ne hb
  have k1 := k (x - 1).toNat (by rw [hx]; omega)
  rw [← e78 78 (by decide), ← e78 79 (by decide), ← e78 80 (by decide)] at k1
  unfold tc
  by_cases h9 : H.2.2 80 (x - 1).toNat = 0
  · rw [if_pos h9]; exact Or.inl ⟨h9, rfl⟩
  · rw [if_neg h9]; exact Or.inr ⟨h9, rfl, k1.resolve_left h9⟩
-- parts
def pc_ (h : Hp) (i : Nat) : Int := h.2.2 82 i - h.2.2 81 i + 2
def psn (h : Hp) (x : Int) : Int := sumN (pc_ h) x.toNat
def psum (h : Hp) : Int := psn h (h.2.2 60 33)
def Pok (h : Hp) : Prop := ∀ i, i < (h.2.2 60 33).toNat → h.2.2 81 i ≤ h.2.2 82 i
def pcol (S : List Nat) : Bool := !S.contains 81 && (!S.contains 82 && !S.contains 233)
theorem pcol_fr {S : List Nat} {h h' : Hp} (f : Fr S h h') (hI : Inv h) (hs : pcol S = true) : h'.2.2 81 = h.2.2 81 ∧ h'.2.2 82 = h.2.2 82 ∧ h'.2.2 60 33 = h.2.2 60 33 := by
  unfold pcol at hs
  simp only [Bool.and_eq_true, Bool.not_eq_true'] at hs
  obtain ⟨s1, s2, s3⟩ := hs
  exact ⟨f.arr hI (by decide) (fun _ => s1), f.arr hI (by decide) (fun _ => s2), f.getF hI (by decide) s3⟩
theorem psum_fr {S : List Nat} {h h' : Hp} (f : Fr S h h') (hI : Inv h) (hs : pcol S = true) : psum h' = psum h := by
  obtain ⟨e1, e2, e3⟩ := pcol_fr f hI hs
  unfold psum psn pc_
  rw [e1, e2, e3]
theorem psn_fr {S : List Nat} {h h' : Hp} (f : Fr S h h') (hI : Inv h) (hs : pcol S = true) (x : Int) : psn h' x = psn h x := by
  obtain ⟨e1, e2, e3⟩ := pcol_fr f hI hs
  unfold psn pc_
  rw [e1, e2]
theorem Pok_fr {S : List Nat} {h h' : Hp} (f : Fr S h h') (hI : Inv h) (hs : pcol S = true) (k : Pok h) : Pok h' := by
  obtain ⟨e1, e2, e3⟩ := pcol_fr f hI hs
  unfold Pok
  rw [e1, e2, e3]
  exact k
theorem psn0 {h : Hp} : psn h 0 = 0 := rfl
theorem psum0 {h : Hp} : psum (wr h 60 33 0) = 0 ∧ Pok (wr h 60 33 0) := by
  constructor
  · unfold psum
    rw [wr_eq]
    rfl
  · intro i hi
    rw [wr_eq] at hi
    exact absurd hi (Nat.not_lt_zero i)
theorem pok_len {h : Hp} (k : Pok h) (h0 : 0 ≤ h.2.2 60 33) : 2 * h.2.2 60 33 ≤ psum h := by
  have h1 := sumN_ge2 (f := pc_ h) (h.2.2 60 33).toNat (fun i hi => by have := k i hi; unfold pc_; omega)
  unfold psum psn
  omega
theorem psn_s {h : Hp} {x : Int} (h0 : 0 ≤ x) : psn h (x + 1) = psn h x + (h.2.2 82 x.toNat - h.2.2 81 x.toNat + 2) := by
  unfold psn
  rw [show (x + 1).toNat = x.toNat + 1 by omega, sumN_s]
  rfl
theorem psn_ge {h : Hp} (k : Pok h) {x : Int} (hx : x ≤ h.2.2 60 33) : 0 ≤ psn h x := by
  unfold psn
  exact sumN_ge0 _ (fun i hi => by have := k i (by omega); unfold pc_; omega)
theorem addP {h : Hp} {x f g : Int} (hx : h.2.2 60 33 = x) (h0 : 0 ≤ x) : psum (wr (wr (wr h 81 x.toNat f) 82 x.toNat g) 60 33 (x + 1)) = psum h + (g - f) + 2 := by
  subst hx
  unfold psum
  rw [wr_eq]
  unfold psn
  rw [show (h.2.2 60 33 + 1).toNat = (h.2.2 60 33).toNat + 1 by omega, sumN_s, sumN_congr (f' := pc_ h) _ (fun i hi => ?_)]
  · unfold pc_
    simp [wr_if]
    omega
  · unfold pc_
    have hi' : i ≠ (h.2.2 60 33).toNat := Nat.ne_of_lt hi
    simp [wr_if, hi']
theorem addPk {h : Hp} {x f g : Int} (hx : h.2.2 60 33 = x) (h0 : 0 ≤ x) (hfg : f ≤ g) (k : Pok h) : Pok (wr (wr (wr h 81 x.toNat f) 82 x.toNat g) 60 33 (x + 1)) := by
  subst hx
  intro i hi
  rw [wr_eq] at hi
  by_cases hn : i = (h.2.2 60 33).toNat
  · subst hn
    simp [wr_if]
    exact hfg
  · simp [wr_if, hn]
    exact k i (by omega)
/-- parts that come to wait: k of them are left -/
def RB (H : Hp) (k B : Int) : Prop := tsum H + psn H (k + 1) ≤ B ∧ (-1 ≤ k ∧ k < H.2.2 60 33)
theorem RB.step {H H1 H2 : Hp} {k k' B f g d : Int} (r : RB H k B) (hI : Inv H) (hI1 : Inv H1) (p1 : PushP H H1 0 0 0) (f1 : Fr [78, 79, 80, 229] H H1) (p2 : PushP H1 H2 f g d) (f2 : Fr [78, 79, 80, 229] H1 H2) (hf : H1.2.2 81 k.toNat = f) (hg : H1.2.2 82 k.toNat = g) (hd : d ≠ 0) (hk : 0 ≤ k) (ek : k' = k - 1) : RB H2 k' B := by
  subst ek
  have t0 := (hI.atR (a := 60) (j := 29) rfl).1
  have t1 := (hI1.atR (a := 60) (j := 29) rfl).1
  have s1 := p1.sum t0
  have s2 := p2.sum t1
  rw [if_pos rfl] at s1
  rw [if_neg hd] at s2
  have e1 := psn_fr f1 hI rfl (k + 1)
  have e2 := psn_fr f2 hI1 rfl (k + 1)
  have e3 := psn_s (h := H1) hk
  have e4 := psn_fr f2 hI1 rfl k
  rw [hf, hg] at e3
  have n1 := (pcol_fr f1 hI rfl).2.2
  have n2 := (pcol_fr f2 hI1 rfl).2.2
  obtain ⟨r1, r2⟩ := r
  refine ⟨?_, by omega⟩
  rw [show k - 1 + 1 = k by omega]
  omega
theorem RB.init {H : Hp} {x B : Int} (hx : H.2.2 60 33 = x) (h : tsum H + psum H ≤ B) (h0 : 0 ≤ x) : RB H (x - 1) B := by
  unfold psum at h
  rw [hx] at h
  refine ⟨by rw [show x - 1 + 1 = x by omega]; exact h, by omega⟩
theorem RB.done {H : Hp} {k B : Int} (r : RB H k B) (hk : k < 0) : tsum H ≤ B := by
  have h1 := r.1
  unfold psn at h1
  rw [show (k + 1).toNat = 0 by omega] at h1
  have h2 : tsum H + 0 ≤ B := h1
  omega
theorem RB.facts {H : Hp} {k B : Int} (hI : Inv H) (r : RB H k B) (t : Tok H) (p : Pok H) (hk : 0 ≤ k) : H.2.2 60 29 ≤ B ∧ H.2.2 81 k.toNat ≤ H.2.2 82 k.toNat ∧ 0 ≤ H.2.2 60 29 := by
  have h0 := (hI.atR (a := 60) (j := 29) rfl).1
  have h1 := tok_len t h0
  have h2 := psn_ge p (x := k + 1) (by have := r.2; omega)
  have h3 := r.1
  exact ⟨by omega, p _ (by have := r.2; omega), h0⟩
/-- words of the fields read so far -/
def W69 (h : Hp) : Nat → Int := h.2.2 69
theorem W69_fr {S : List Nat} {h h' : Hp} (f : Fr S h h') (hI : Inv h) (hs : (!S.contains 69) = true) : W69 h' = W69 h := f.arr hI (by decide) (fun _ => by rw [Bool.not_eq_true'] at hs; exact hs)
theorem W69_wr {h : Hp} {a j : Nat} {x : Int} (hs : (!(Nat.beq a 69)) = true) : W69 (wr h a j x) = W69 h := funext fun i => wr_ne (beq_no hs)
/-- what is read now is of a message that has come, with few words -/
def Cch (h : Hp) : Prop := h.2.2 60 12 = -1 ∨ (0 ≤ h.2.2 60 12 ∧ h.2.2 60 12 < h.2.2 60 4 ∧ (∀ i : Nat, i < 3 → h.2.2 69 i ≤ h.2.2 64 (h.2.2 60 12).toNat + 1) ∧ h.2.2 69 3 ≤ 200)
def ccol (S : List Nat) : Bool := !S.contains 69 && (!S.contains 64 && (!S.contains 212 && !S.contains 204))
theorem Cch_fr {S : List Nat} {h h' : Hp} (f : Fr S h h') (hI : Inv h) (hs : ccol S = true) (k : Cch h) : Cch h' := by
  unfold ccol at hs
  simp only [Bool.and_eq_true, Bool.not_eq_true'] at hs
  obtain ⟨s1, s2, s3, s4⟩ := hs
  unfold Cch
  rw [f.arr hI (a := 69) (by decide) (fun _ => s1), f.arr hI (a := 64) (by decide) (fun _ => s2), f.getF hI (a := 60) (j := 12) (by decide) s3, f.getF hI (a := 60) (j := 4) (by decide) s4]
  exact k
def cout (a j : Nat) : Bool := !(Nat.beq a 69) && (!(Nat.beq a 64) && (!(Nat.beq a 60 && Nat.beq j 12) && !(Nat.beq a 60 && Nat.beq j 4)))
theorem Cch_wr {h : Hp} {a j : Nat} {x : Int} (hs : cout a j = true) (k : Cch h) : Cch (wr h a j x) := by
  unfold cout at hs
  simp only [Bool.and_eq_true] at hs
  obtain ⟨s1, s2, s3, s4⟩ := hs
  have e1 : (wr h a j x).2.2 69 = h.2.2 69 := funext fun i => wr_ne (beq_no s1)
  have e2 : (wr h a j x).2.2 64 = h.2.2 64 := funext fun i => wr_ne (beq_no s2)
  unfold Cch
  rw [e1, e2, beq_no2 s3, beq_no2 s4]
  exact k
