/-! A load of the row where fields' names end. -/
theorem to_ialdFE {l : Launch} {E : ME} {pc : Nat} {L : LL} {st : List V} {h : Hp} {k z : Nat} {F : Option V → Hp → Nat → Nat → Prop} {i : Int} (hd : decode E.1 pc = .ok (.iaload, 1)) (hi : 0 ≤ i ∧ i < 9) (k0 : To l E (pc + 1, L, .inl (FE i) :: st, h, k, z) F) : To l E (pc, L, .inl i :: .inr (.inr 1000207) :: st, h, k, z) F :=
  to_ialdX (q := 207) (n := 9) (cs := feL) (List.mem_of_getElem? (i := 43) rfl) hd (by decide) hi k0
/-- a sign that ends a word -/
def sp (b : Int) : Int := if b = 32 ∨ b = 9 ∨ b = 40 ∨ b = 41 ∨ b = 34 then 1 else 0
theorem sp_c (b : Int) : (sp b = 1 ∧ (b = 32 ∨ b = 9 ∨ b = 40 ∨ b = 41 ∨ b = 34)) ∨ (sp b = 0 ∧ b ≠ 32 ∧ b ≠ 9 ∧ b ≠ 40 ∧ b ≠ 41 ∧ b ≠ 34) := by
  unfold sp
  by_cases h : b = 32 ∨ b = 9 ∨ b = 40 ∨ b = 41 ∨ b = 34
  · rw [if_pos h]; exact Or.inl ⟨rfl, h⟩
  · rw [if_neg h]; exact Or.inr ⟨rfl, by omega⟩
theorem z_lin {x : Int} (h : x = 0 ∨ x = 1) : 0 ≤ x ∧ x ≤ 1 := by omega
theorem z_one {x : Int} (h : 0 ≤ x ∧ x ≤ 1) (h2 : x ≠ 0) : x = 1 := by omega
theorem z_i32 {x : Int} (h : 0 ≤ x ∧ x ≤ 1) : I32 x := by unfold I32; omega
/-- 1 at a word's end, or the query's -/
def bq (h : Hp) (p : Int) : Int := if p = h.2.2 60 44 then 1 else sp (h.2.2 88 p.toNat)
theorem bq_ge {h : Hp} {p : Int} : 0 ≤ bq h p ∧ bq h p ≤ 1 := by
  unfold bq
  split
  · omega
  · have := sp_c (h.2.2 88 p.toNat); omega
def QW (h : Hp) (p e : Int) : Prop := (p < e ∧ bq h p = 0) ∨ (e = p ∧ (h.2.2 88 p.toNat = 40 ∨ h.2.2 88 p.toNat = 34))
theorem QW.one {h : Hp} {p e : Int} (w : QW h p e) (hn : h.2.2 88 p.toNat ≠ 40) : p < e ∨ h.2.2 88 p.toNat = 34 := by
  unfold QW at w
  omega
theorem QW.mk {h : Hp} {p e : Int} (hp : p < h.2.2 60 44) (w : (p < e ∧ sp (h.2.2 88 p.toNat) = 0) ∨ (e = p ∧ (p = h.2.2 60 44 ∨ sp (h.2.2 88 p.toNat) = 1))) (n1 : h.2.2 88 p.toNat ≠ 32 ∧ h.2.2 88 p.toNat ≠ 9 ∧ h.2.2 88 p.toNat ≠ 41) : QW h p e := by
  have e1 : bq h p = sp (h.2.2 88 p.toNat) := by unfold bq; rw [if_neg (by omega)]
  have e2 := sp_c (h.2.2 88 p.toNat)
  unfold QW
  omega
theorem bq_end {h : Hp} {x : Int} (w : x = h.2.2 60 44 ∨ sp (h.2.2 88 x.toNat) = 1) : bq h x = 1 := by
  unfold bq
  by_cases e : x = h.2.2 60 44
  · rw [if_pos e]
  · rw [if_neg e]; exact w.resolve_left e
theorem leaf_one {h : Hp} {p e x L L' : Int} (hx : p < x) (e1 : L' = L + 1) (c : p + 2 ≤ x ∨ (h.2.2 88 p.toNat ≠ 34 ∧ x = e)) (hL : 3 * L ≤ 2 * p + bq h p) (w : QW h p e) (w2 : bq h e = 1) (hn : h.2.2 88 p.toNat ≠ 40) : 3 * L' ≤ 2 * x + bq h x := by
  have b1 := bq_ge (h := h) (p := p)
  have b2 := bq_ge (h := h) (p := x)
  rcases c with c | ⟨c1, c2⟩
  · omega
  · subst c2
    have w0 : bq h p = 0 := by
      unfold QW at w
      omega
    omega
def NP (h : Hp) (p o : Int) : Prop := h.2.2 88 p.toNat ≠ 40 ∨ o ≤ 19
/-- what stands on the pile when unwind is done -/
def UTop (h : Hp) (x c : Int) : Prop := x = 0 ∨ h.2.2 96 (x - 1).toNat = 4 ∨ c < h.2.2 96 (x - 1).toNat
theorem UTop.top {h : Hp} {x c : Int} (u : UTop h x c) (hc : 3 ≤ c) (hI : Inv h) (h0 : 0 < x) : h.2.2 96 (x - 1).toNat = 4 := by
  have h1 := hI.atR (a := 96) (j := (x - 1).toNat) rfl
  unfold UTop at u
  omega
theorem bn23 {s : Int} (h : 2 ≤ s ∧ s ≤ 3) : bn s = 1 ∧ op4 s = 0 := by
  rcases (show s = 2 ∨ s = 3 by omega) with rfl | rfl <;> exact ⟨rfl, rfl⟩
theorem pile_open {h H : Hp} {x : Int} (hx : h.2.2 60 47 = x) (h0 : 0 < x) (e : H = wr h 60 47 (x - 1)) (t : h.2.2 96 (x - 1).toNat = 4) : binq H = binq h ∧ opnq H = opnq h - 1 := by
  have p := pile_pop hx h0 e
  have e96 : H.2.2 96 = h.2.2 96 := by rw [e]; exact funext fun i => wr_ne (by decide)
  rw [e96, t] at p
  have b : bn 4 = 0 ∧ op4 4 = 1 := ⟨rfl, rfl⟩
  omega
theorem pile_pos {h : Hp} {x : Int} (hx : h.2.2 60 47 = x) (h0 : 0 < opnq h) : 0 < x := by
  by_cases k : x ≤ 0
  · have := (opn_none (h := h) (by omega)).1
    omega
  · omega
theorem bq_or {h : Hp} {x : Int} (w : bq h x = 1) : x = h.2.2 60 44 ∨ sp (h.2.2 88 x.toNat) = 1 := by
  unfold bq at w
  by_cases e : x = h.2.2 60 44
  · exact Or.inl e
  · rw [if_neg e] at w; exact Or.inr w
