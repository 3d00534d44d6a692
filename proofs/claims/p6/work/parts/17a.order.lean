/-! Tags in the order of their bytes; the reference's slots. -/
def LtT (a : Nat → Int) (na : Int) (b : Nat → Int) (nb : Int) : Prop := ∃ k : Nat, (∀ i, i < k → a i = b i) ∧ (((k : Int) = na ∧ (k : Int) < nb) ∨ ((k : Int) < na ∧ (k : Int) < nb ∧ a k < b k))
def EqT (a : Nat → Int) (na : Int) (b : Nat → Int) (nb : Int) : Prop := na = nb ∧ ∀ i : Nat, (i : Int) < na → a i = b i
theorem EqT.sy {a b : Nat → Int} {na nb : Int} (h : EqT a na b nb) : EqT b nb a na := ⟨h.1.symm, fun i hi => (h.2 i (by have := h.1; omega)).symm⟩
theorem EqT.tr {a b c : Nat → Int} {na nb nc : Int} (h : EqT a na b nb) (k : EqT b nb c nc) : EqT a na c nc := ⟨h.1.trans k.1, fun i hi => (h.2 i hi).trans (k.2 i (by have := h.1; omega))⟩
theorem EqT.rf {a : Nat → Int} {na : Int} : EqT a na a na := ⟨rfl, fun _ _ => rfl⟩
theorem LtT.ne {a b : Nat → Int} {na nb : Int} (h : LtT a na b nb) : ¬ EqT a na b nb := by
  rintro ⟨e1, e2⟩
  obtain ⟨k, -, h⟩ := h
  rcases h with ⟨h1, h2⟩ | ⟨h1, h2, h3⟩
  · omega
  · have := e2 k h1
    omega
theorem LtT.tr {a b c : Nat → Int} {na nb nc : Int} (h1 : LtT a na b nb) (h2 : LtT b nb c nc) : LtT a na c nc := by
  obtain ⟨k1, p1, q1⟩ := h1
  obtain ⟨k2, p2, q2⟩ := h2
  by_cases c1 : k1 < k2
  · refine ⟨k1, fun i hi => (p1 i hi).trans (p2 i (by omega)), ?_⟩
    have e := p2 k1 c1
    rcases q1 with ⟨r1, r2⟩ | ⟨r1, r2, r3⟩
    · exact Or.inl ⟨r1, by omega⟩
    · exact Or.inr ⟨r1, by omega, by omega⟩
  · by_cases c2 : k1 = k2
    · subst c2
      refine ⟨k1, fun i hi => (p1 i hi).trans (p2 i hi), ?_⟩
      rcases q1 with ⟨r1, r2⟩ | ⟨r1, r2, r3⟩
      · exact Or.inl ⟨r1, by omega⟩
      · exact Or.inr ⟨r1, by omega, by omega⟩
    · refine ⟨k2, fun i hi => (p1 i (by omega)).trans (p2 i hi), ?_⟩
      have e := p1 k2 (by omega)
      exact Or.inr ⟨by omega, by omega, by omega⟩
theorem LtT.cg {a a' b b' : Nat → Int} {na nb : Int} (h : LtT a na b nb) (ea : ∀ i : Nat, (i : Int) < na → a' i = a i) (eb : ∀ i : Nat, (i : Int) < nb → b' i = b i) : LtT a' na b' nb := by
  obtain ⟨k, p, q⟩ := h
  refine ⟨k, fun i hi => ?_, ?_⟩
  · rw [ea i (by omega), eb i (by omega)]
    exact p i hi
  · rcases q with q | ⟨q1, q2, q3⟩
    · exact Or.inl q
    · exact Or.inr ⟨q1, q2, by rw [ea k q1, eb k q2]; exact q3⟩
theorem LtT.eqL {a a' b : Nat → Int} {na na' nb : Int} (h : LtT a na b nb) (e : EqT a' na' a na) : LtT a' na' b nb := by
  obtain ⟨e1, e2⟩ := e
  subst e1
  exact h.cg (fun i hi => e2 i hi) (fun _ _ => rfl)
theorem LtT.eqR {a b b' : Nat → Int} {na nb nb' : Int} (h : LtT a na b nb) (e : EqT b' nb' b nb) : LtT a na b' nb' := by
  obtain ⟨e1, e2⟩ := e
  subst e1
  exact h.cg (fun _ _ => rfl) (fun i hi => e2 i hi)
/-- slot g of the reference's tags: its size, its bytes -/
def ts (h : Hp) (g : Int) : Int := h.2.2 67 g.toNat
def tb (h : Hp) (g : Int) (i : Nat) : Int := h.2.2 66 (Int.toNat (12 * g + i))
/-- how many tags message m has -/
def tcn (h : Hp) (m : Int) : Int := h.2.2 68 m.toNat
/-- slot g tells what r, n do -/
def EqG (h : Hp) (g : Int) (r : Nat → Int) (n : Int) : Prop := EqT (tb h g) (ts h g) r n
/-- the slots of message m stand in their order -/
def SoT (h : Hp) (m : Int) : Prop := ∀ t t' : Int, 0 ≤ t → t < t' → t' < tcn h m → LtT (tb h (8 * m + t)) (ts h (8 * m + t)) (tb h (8 * m + t')) (ts h (8 * m + t'))
/-- where a tag is, or where it would stand -/
def TAx (h : Hp) (m : Int) (r : Nat → Int) (n x : Int) : Prop := (0 ≤ x ∧ x < tcn h m ∧ EqG h (8 * m + x) r n) ∨ (x < 0 ∧ (-1 - x ≤ tcn h m ∧ (∀ t : Int, 0 ≤ t → t < -1 - x → LtT (tb h (8 * m + t)) (ts h (8 * m + t)) r n) ∧ (-1 - x = tcn h m ∨ LtT r n (tb h (8 * m + (-1 - x))) (ts h (8 * m + (-1 - x))))))
/-- message m has the tag r, n -/
def InR (h : Hp) (m : Int) (r : Nat → Int) (n : Int) : Prop := ∃ t : Int, 0 ≤ t ∧ t < tcn h m ∧ EqG h (8 * m + t) r n
theorem TAx.iff {h : Hp} {m n x : Int} {r : Nat → Int} (a : TAx h m r n x) (s : SoT h m) : 0 ≤ x ↔ InR h m r n := by
  rcases a with ⟨a1, a2, a3⟩ | ⟨a1, a2, a3, a4⟩
  · exact ⟨fun _ => ⟨x, a1, a2, a3⟩, fun _ => a1⟩
  · refine ⟨fun q => absurd q (by omega), fun ⟨t, t1, t2, t3⟩ => ?_⟩
    exfalso
    by_cases c : t < -1 - x
    · exact (a3 t t1 c).ne t3
    · rcases a4 with a4 | a4
      · omega
      · by_cases c2 : t = -1 - x
        · subst c2
          exact a4.ne t3.sy
        · exact (a4.tr (s (-1 - x) t (by omega) (by omega) t2)).ne t3.sy
/-- what the bytes tell of the two (k alike) -/
theorem tg_eq {h : Hp} {g n : Int} {r : Nat → Int} {k : Int} (he : ∀ i : Nat, (i : Int) < k → tb h g i = r i) (h1 : k = n) (h2 : k = ts h g) : EqG h g r n := ⟨by omega, fun i hi => he i (by omega)⟩
theorem tg_lt {h : Hp} {g n : Int} {r : Nat → Int} {k : Int} (h0 : 0 ≤ k) (he : ∀ i : Nat, (i : Int) < k → tb h g i = r i) (hq : (k = ts h g ∧ k < n) ∨ (k < ts h g ∧ k < n ∧ tb h g k.toNat < r k.toNat)) : LtT (tb h g) (ts h g) r n := by
  have e : ((k.toNat : Nat) : Int) = k := by omega
  refine ⟨k.toNat, fun i hi => he i (by omega), ?_⟩
  rw [e]
  exact hq
theorem tg_gt {h : Hp} {g n : Int} {r : Nat → Int} {k : Int} (h0 : 0 ≤ k) (he : ∀ i : Nat, (i : Int) < k → tb h g i = r i) (hq : (k = n ∧ k < ts h g) ∨ (k < n ∧ k < ts h g ∧ r k.toNat < tb h g k.toNat)) : LtT r n (tb h g) (ts h g) := by
  have e : ((k.toNat : Nat) : Int) = k := by omega
  refine ⟨k.toNat, fun i hi => (he i (by omega)).symm, ?_⟩
  rw [e]
  exact hq
theorem tb_at {h : Hp} {g k x : Int} {j : Nat} (hx : h.2.2 66 (Int.toNat j) = x) (hk : 0 ≤ k) (hj : (j : Int) = 12 * g + k) : tb h g k.toNat = x := by
  have e : Int.toNat (12 * g + ((k.toNat : Nat) : Int)) = Int.toNat (j : Int) := by omega
  unfold tb
  rw [e]
  exact hx
/-- a slot is moved -/
def MV (h H : Hp) (f g : Int) : Prop := (∀ (q : Int) (i : Nat), 0 ≤ q → i < 12 → tb H q i = if q = g then tb h f i else tb h q i) ∧ ∀ q : Int, 0 ≤ q → ts H q = if q = g then ts h f else ts h q
theorem mv_step {h h1 h2 : Hp} {f g k : Int} (hf : 0 ≤ f) (hg : 0 ≤ g) (hfg : f ≠ g) (hk : 0 ≤ k ∧ k < 12) (hm : ∀ (q : Int) (i : Nat), 0 ≤ q → i < 12 → tb h1 q i = if q = g ∧ (i : Int) < k then tb h f i else tb h q i) (e : h2 = wr h1 66 (Int.toNat (12 * g + k)) (h1.2.2 66 (Int.toNat (12 * f + k)))) : ∀ (q : Int) (i : Nat), 0 ≤ q → i < 12 → tb h2 q i = if q = g ∧ (i : Int) < k + 1 then tb h f i else tb h q i := by
  intro q i hq hi
  unfold tb
  rw [e]
  by_cases c : q = g ∧ (i : Int) = k
  · obtain ⟨c1, c2⟩ := c
    rw [if_pos ⟨c1, by omega⟩, c1, c2, wr_eq]
    have s := hm f k.toNat hf (by omega)
    rw [if_neg (fun z => hfg z.1)] at s
    unfold tb at s
    rw [show ((k.toNat : Nat) : Int) = k by omega] at s
    exact s
  · have ne : Int.toNat (12 * q + i) ≠ Int.toNat (12 * g + k) := by
      intro z
      exact c (by omega)
    rw [wr_ne2 ne]
    have s := hm q i hq hi
    unfold tb at s
    rw [s]
    by_cases c1 : q = g ∧ (i : Int) < k
    · rw [if_pos c1, if_pos ⟨c1.1, by omega⟩]
    · rw [if_neg c1, if_neg (fun z => c1 ⟨z.1, by by_cases c3 : (i : Int) = k; exact absurd ⟨z.1, c3⟩ c; omega⟩)]
theorem mv_fin {h h1 h2 : Hp} {f g k x : Int} (hf : 0 ≤ f) (hg : 0 ≤ g) (hk : 12 ≤ k) (hm : ∀ (q : Int) (i : Nat), 0 ≤ q → i < 12 → tb h1 q i = if q = g ∧ (i : Int) < k then tb h f i else tb h q i) (e67 : h1.2.2 67 = h.2.2 67) (hx : h1.2.2 67 (Int.toNat f) = x) (e : h2 = wr h1 67 (Int.toNat g) x) : MV h h2 f g := by
  refine ⟨fun q i hq hi => ?_, fun q hq => ?_⟩
  · have s := hm q i hq hi
    unfold tb at s ⊢
    rw [e, wr_ne (by decide), s]
    by_cases c : q = g
    · rw [if_pos c, if_pos ⟨c, by omega⟩]
    · rw [if_neg c, if_neg (fun z => c z.1)]
  · unfold ts
    rw [e]
    by_cases c : q = g
    · rw [if_pos c, c, wr_eq, ← hx, e67]
    · rw [if_neg c, wr_ne2 (show q.toNat ≠ g.toNat by omega), e67]
/-! Tags. -/
def gch (v : Int) : Prop := (48 ≤ v ∧ v ≤ 57) ∨ (97 ≤ v ∧ v ≤ 122)
def isTg (r : Nat → Int) (n : Int) : Prop := (1 ≤ n ∧ n ≤ 12) ∧ ∀ i : Nat, (i : Int) < n → gch (r i)
def TGi (r : Nat → Int) (n k good : Int) : Prop := (good = 1 ∧ (1 ≤ n ∧ n ≤ 12) ∧ ∀ i : Nat, (i : Int) < k → gch (r i)) ∨ (good = 0 ∧ ¬ isTg r n)
theorem isTg_no {r : Nat → Int} {n k v : Int} (hk : 0 ≤ k ∧ k < n) (hv : r k.toNat = v) (h : ¬ gch v) : ¬ isTg r n := fun q => h (by rw [← hv]; exact q.2 _ (by omega))
theorem TGi.s {r : Nat → Int} {n g : Int} (h : (g = 1 ∧ 1 ≤ n ∧ n ≤ 12) ∨ (g = 0 ∧ (n < 1 ∨ 12 < n))) : TGi r n 0 g := by
  rcases h with ⟨h1, h2⟩ | ⟨h1, h2⟩
  · exact Or.inl ⟨h1, h2, fun i hi => absurd hi (by omega)⟩
  · refine Or.inr ⟨h1, fun q => ?_⟩
    have := q.1
    omega
theorem TGi.yes {r : Nat → Int} {n k g v : Int} (h : TGi r n k g) (hg : g ≠ 0) (h0 : 0 ≤ k) (hv : r k.toNat = v) (c : gch v) : TGi r n (k + 1) 1 := by
  rcases h with ⟨-, h2, h3⟩ | ⟨h1, -⟩
  · refine Or.inl ⟨rfl, h2, fun i hi => ?_⟩
    by_cases ci : (i : Int) < k
    · exact h3 i ci
    · rw [show i = k.toNat by omega, hv]
      exact c
  · exact absurd h1 hg
theorem TGi.no {r : Nat → Int} {n k v : Int} (hk : 0 ≤ k ∧ k < n) (hv : r k.toNat = v) (c : ¬ gch v) : TGi r n (k + 1) 0 := Or.inr ⟨rfl, isTg_no hk hv c⟩
theorem TGi.fin {r : Nat → Int} {n k g : Int} (h : TGi r n k g) (hk : n ≤ k ∨ g = 0) : (g = 1 ∧ isTg r n) ∨ (g = 0 ∧ ¬ isTg r n) := by
  rcases h with ⟨h1, h2, h3⟩ | h
  · rcases hk with hk | hk
    · exact Or.inl ⟨h1, h2, fun i hi => h3 i (by omega)⟩
    · omega
  · exact Or.inr h
/-- the reference's answers of tag -/
def isThereP (h : Hp) (m : Int) : Prop := 0 ≤ m ∧ m < h.2.2 60 4 ∧ h.2.2 65 m.toNat ≠ 0
def Unr (h H : Hp) : Prop := H.2.2 66 = h.2.2 66 ∧ H.2.2 67 = h.2.2 67 ∧ H.2.2 68 = h.2.2 68
def Rrem (h H : Hp) (m t : Int) : Prop := (∀ (q : Int) (i : Nat), 0 ≤ q → i < 12 → tb H q i = if 8 * m + t ≤ q ∧ q < 8 * m + (tcn h m - 1) then tb h (q + 1) i else tb h q i) ∧ (∀ q : Int, 0 ≤ q → ts H q = if 8 * m + t ≤ q ∧ q < 8 * m + (tcn h m - 1) then ts h (q + 1) else ts h q) ∧ ∀ m' : Int, 0 ≤ m' → tcn H m' = if m' = m then tcn h m - 1 else tcn h m'
def Rins (h H : Hp) (m p : Int) (r : Nat → Int) (n : Int) : Prop := (∀ (q : Int) (i : Nat), 0 ≤ q → i < 12 → q ≠ 8 * m + p → tb H q i = if 8 * m + p < q ∧ q ≤ 8 * m + tcn h m then tb h (q - 1) i else tb h q i) ∧ (∀ q : Int, 0 ≤ q → q ≠ 8 * m + p → ts H q = if 8 * m + p < q ∧ q ≤ 8 * m + tcn h m then ts h (q - 1) else ts h q) ∧ ((∀ i : Nat, (i : Int) < n → tb H (8 * m + p) i = r i) ∧ ts H (8 * m + p) = n) ∧ ∀ m' : Int, 0 ≤ m' → tcn H m' = if m' = m then tcn h m + 1 else tcn h m'
def TGR (h H : Hp) (m o x nn : Int) : Prop :=
  (H.2.2 60 0 = 1 ∧ ¬ isThereP h m ∧ Unr h H) ∨
  (H.2.2 60 0 = 2 ∧ isThereP h m ∧ ¬ isTg (h.2.2 62) nn ∧ Unr h H) ∨
  (isThereP h m ∧ isTg (h.2.2 62) nn ∧ ∃ t : Int, TAx h m (h.2.2 62) nn t ∧
    ((H.2.2 60 0 = 3 ∧ o = 1 ∧ t < 0 ∧ tcn h m = 8 ∧ Unr h H) ∨
     (H.2.2 60 0 = 0 ∧ x = 0 ∧ ((o = 1 ∧ 0 ≤ t) ∨ (o = 0 ∧ t < 0)) ∧ Unr h H) ∨
     (H.2.2 60 0 = 0 ∧ x = 1 ∧ o = 0 ∧ 0 ≤ t ∧ Rrem h H m t) ∨
     (H.2.2 60 0 = 0 ∧ x = 1 ∧ o = 1 ∧ t < 0 ∧ tcn h m ≠ 8 ∧ Rins h H m (-1 - t) (h.2.2 62) nn)))
/-! Its loops. -/
def TJ (h : Hp) (m n y : Int) : Prop := isThereP h m → isTg (h.2.2 62) n → TAx h m (h.2.2 62) n y ∧ -9 ≤ y ∧ y ≤ 7
def TK (h : Hp) (m o n t s : Int) : Prop := (s = 1 ∧ ¬ isThereP h m) ∨ (s = 2 ∧ isThereP h m ∧ ¬ isTg (h.2.2 62) n) ∨ (s = 3 ∧ isThereP h m ∧ isTg (h.2.2 62) n ∧ o ≠ 0 ∧ t < 0 ∧ tcn h m = 8) ∨ (s = 0 ∧ isThereP h m ∧ isTg (h.2.2 62) n ∧ (o = 0 ∨ 0 ≤ t ∨ tcn h m ≠ 8))
def RLx (h H : Hp) (m t k : Int) : Prop := (∀ (q : Int) (i : Nat), 0 ≤ q → i < 12 → tb H q i = if 8 * m + t ≤ q ∧ q < 8 * m + k then tb h (q + 1) i else tb h q i) ∧ ∀ q : Int, 0 ≤ q → ts H q = if 8 * m + t ≤ q ∧ q < 8 * m + k then ts h (q + 1) else ts h q
def IL (h H : Hp) (m c k : Int) : Prop := (∀ (q : Int) (i : Nat), 0 ≤ q → i < 12 → tb H q i = if 8 * m + k < q ∧ q ≤ 8 * m + c then tb h (q - 1) i else tb h q i) ∧ ∀ q : Int, 0 ≤ q → ts H q = if 8 * m + k < q ∧ q ≤ 8 * m + c then ts h (q - 1) else ts h q
theorem tsb_same {h H : Hp} (e6 : H.2.2 66 = h.2.2 66) (e7 : H.2.2 67 = h.2.2 67) : (∀ q i, tb H q i = tb h q i) ∧ ∀ q, ts H q = ts h q := ⟨fun q i => by unfold tb; rw [e6], fun q => by unfold ts; rw [e7]⟩
theorem RLx.s {h H : Hp} {m t : Int} (e6 : H.2.2 66 = h.2.2 66) (e7 : H.2.2 67 = h.2.2 67) : RLx h H m t t := by
  obtain ⟨a, b⟩ := tsb_same e6 e7
  exact ⟨fun q i _ _ => by rw [a, if_neg (by omega)], fun q _ => by rw [b, if_neg (by omega)]⟩
theorem RLx.go {h h1 H : Hp} {m t k : Int} (r : RLx h h1 m t k) (v : MV h1 H (8 * m + (k + 1)) (8 * m + k)) (h0 : 0 ≤ m ∧ 0 ≤ t ∧ t ≤ k) : RLx h H m t (k + 1) := by
  refine ⟨fun q i hq hi => ?_, fun q hq => ?_⟩
  · rw [v.1 q i hq hi]
    by_cases c : q = 8 * m + k
    · rw [if_pos c, r.1 _ i (by omega) hi, if_neg (by omega), if_pos (by omega), c]
      congr 1
      omega
    · rw [if_neg c, r.1 q i hq hi]
      by_cases c2 : 8 * m + t ≤ q ∧ q < 8 * m + k
      · rw [if_pos c2, if_pos (by omega)]
      · rw [if_neg c2, if_neg (by omega)]
  · rw [v.2 q hq]
    by_cases c : q = 8 * m + k
    · rw [if_pos c, r.2 _ (by omega), if_neg (by omega), if_pos (by omega), c]
      congr 1
      omega
    · rw [if_neg c, r.2 q hq]
      by_cases c2 : 8 * m + t ≤ q ∧ q < 8 * m + k
      · rw [if_pos c2, if_pos (by omega)]
      · rw [if_neg c2, if_neg (by omega)]
theorem IL.s {h H : Hp} {m c : Int} (e6 : H.2.2 66 = h.2.2 66) (e7 : H.2.2 67 = h.2.2 67) : IL h H m c c := by
  obtain ⟨a, b⟩ := tsb_same e6 e7
  exact ⟨fun q i _ _ => by rw [a, if_neg (by omega)], fun q _ => by rw [b, if_neg (by omega)]⟩
theorem IL.go {h h1 H : Hp} {m c k : Int} (r : IL h h1 m c k) (v : MV h1 H (8 * m + (k - 1)) (8 * m + k)) (h0 : 0 ≤ m ∧ 0 < k ∧ k ≤ c) : IL h H m c (k - 1) := by
  refine ⟨fun q i hq hi => ?_, fun q hq => ?_⟩
  · rw [v.1 q i hq hi]
    by_cases d : q = 8 * m + k
    · rw [if_pos d, r.1 _ i (by omega) hi, if_neg (by omega), if_pos (by omega), d]
      congr 1
      omega
    · rw [if_neg d, r.1 q i hq hi]
      by_cases c2 : 8 * m + k < q ∧ q ≤ 8 * m + c
      · rw [if_pos c2, if_pos (by omega)]
      · rw [if_neg c2, if_neg (by omega)]
  · rw [v.2 q hq]
    by_cases d : q = 8 * m + k
    · rw [if_pos d, r.2 _ (by omega), if_neg (by omega), if_pos (by omega), d]
      congr 1
      omega
    · rw [if_neg d, r.2 q hq]
      by_cases c2 : 8 * m + k < q ∧ q ≤ 8 * m + c
      · rw [if_pos c2, if_pos (by omega)]
      · rw [if_neg c2, if_neg (by omega)]
/-- the new tag's bytes come to their slot s -/
def IW (h H : Hp) (m c p s k : Int) (r : Nat → Int) : Prop := (∀ (q : Int) (i : Nat), 0 ≤ q → i < 12 → q ≠ s → tb H q i = if 8 * m + p < q ∧ q ≤ 8 * m + c then tb h (q - 1) i else tb h q i) ∧ (∀ i : Nat, (i : Int) < k → tb H s i = r i) ∧ ∀ q : Int, 0 ≤ q → ts H q = if 8 * m + p < q ∧ q ≤ 8 * m + c then ts h (q - 1) else ts h q
theorem IW.s {h H : Hp} {m c p s : Int} {r : Nat → Int} (i : IL h H m c p) : IW h H m c p s 0 r := ⟨fun q j hq hj _ => i.1 q j hq hj, fun j hj => absurd hj (by omega), i.2⟩
theorem IW.go {h h1 H : Hp} {m c p s k : Int} {r : Nat → Int} (w : IW h h1 m c p s k r) (hs : 0 ≤ s) (hk : 0 ≤ k ∧ k < 12) (e : H = wr h1 66 (Int.toNat (12 * s + k)) (r k.toNat)) : IW h H m c p s (k + 1) r := by
  refine ⟨fun q i hq hi hne => ?_, fun i hi => ?_, fun q hq => ?_⟩
  · have z := w.1 q i hq hi hne
    have e1 : tb H q i = tb h1 q i := by
      unfold tb
      rw [e, wr_ne2 (show Int.toNat (12 * q + i) ≠ Int.toNat (12 * s + k) by omega)]
    rw [e1]
    exact z
  · by_cases d : (i : Int) = k
    · unfold tb
      rw [e, d, wr_eq, show i = k.toNat by omega]
    · have e1 : tb H s i = tb h1 s i := by
        unfold tb
        rw [e, wr_ne2 (show Int.toNat (12 * s + i) ≠ Int.toNat (12 * s + k) by omega)]
      rw [e1]
      exact w.2.1 i (by omega)
  · have e1 : ts H q = ts h1 q := by
      unfold ts
      rw [e, wr_ne (by decide)]
    rw [e1]
    exact w.2.2 q hq
theorem IW.fin {h h1 h2 H : Hp} {m c p s k n x : Int} {r : Nat → Int} (w : IW h h1 m c p s k r) (hs : 0 ≤ s) (es : s = 8 * m + p) (hk : n ≤ k) (ec : tcn h m = c) (e2 : h2 = wr h1 67 (Int.toNat s) n) (e68 : h2.2.2 68 = h.2.2 68) (hm : 0 ≤ m) (e : H = wr h2 68 (Int.toNat m) x) (ex : x = c + 1) : Rins h H m p r n := by
  subst es
  have eb : ∀ q i, tb H q i = tb h1 q i := fun q i => by
    unfold tb
    rw [e, wr_ne (by decide), e2, wr_ne (by decide)]
  refine ⟨fun q i hq hi hne => ?_, fun q hq hne => ?_, ⟨fun i hi => ?_, ?_⟩, fun m' hm' => ?_⟩
  · rw [eb, ec]
    exact w.1 q i hq hi hne
  · have e1 : ts H q = ts h1 q := by
      unfold ts
      rw [e, wr_ne (by decide), e2, wr_ne2 (show q.toNat ≠ Int.toNat (8 * m + p) by omega)]
    rw [e1, ec]
    exact w.2.2 q hq
  · rw [eb]
    exact w.2.1 i (by omega)
  · unfold ts
    rw [e, wr_ne (by decide), e2, wr_eq]
  · unfold tcn at ec ⊢
    rw [e]
    by_cases d : m' = m
    · rw [if_pos d, d, wr_eq, ex, ← ec]
    · rw [if_neg d, wr_ne2 (show m'.toNat ≠ m.toNat by omega), e68]
theorem RLx.fin {h h0 H : Hp} {m t c k : Int} (r : RLx h H m t k) (ec : tcn h m = c) (hk : k = c - 1) (hm : 0 ≤ m) (e68 : H.2.2 68 = h0.2.2 68) (e : ∀ j : Nat, h0.2.2 68 j = if j = Int.toNat m then c - 1 else h.2.2 68 j) : Rrem h H m t := by
  subst hk
  rw [← ec] at r
  refine ⟨r.1, r.2, fun m' hm' => ?_⟩
  unfold tcn at ec ⊢
  rw [e68, e]
  by_cases d : m' = m
  · rw [if_pos (by rw [d]), if_pos d, ec]
  · rw [if_neg (show ¬ m'.toNat = m.toNat by omega), if_neg d]
