/-! The query as the reference holds it: its bytes and their number. -/
def hr (h : Hp) : QB := h.2.2 88
def hn (h : Hp) : Nat := (h.2.2 60 44).toNat
theorem hr_in {h : Hp} (hI : Inv h) (i : Nat) : -128 ≤ h.2.2 88 i ∧ h.2.2 88 i ≤ 127 := hI.atR (a := 88) (j := i) rfl
theorem hn_is {h : Hp} (hI : Inv h) : (hn h : Int) = h.2.2 60 44 ∧ 0 ≤ h.2.2 60 44 ∧ h.2.2 60 44 ≤ 1200 := by
  have z : 0 ≤ h.2.2 60 44 ∧ h.2.2 60 44 ≤ 1200 := hI.atR (a := 60) (j := 44) rfl
  unfold hn
  omega
theorem hr_fr {S : List Nat} {h h' : Hp} (f : Fr S h h') (hI : Inv h) (hs : S.contains 88 = false) : hr h' = hr h :=
  f.arr hI (a := 88) (by decide) (fun _ => hs)
theorem hn_fr {S : List Nat} {h h' : Hp} (f : Fr S h h') (hI : Inv h) (hs : S.contains 244 = false) : hn h' = hn h := by
  unfold hn
  rw [f.getF hI (a := 60) (j := 44) (by decide) hs]
theorem nsg_at {h : Hp} {i : Nat} (q : h.2.2 88 i ≠ 32 ∧ h.2.2 88 i ≠ 9 ∧ h.2.2 88 i ≠ 40 ∧ h.2.2 88 i ≠ 41 ∧ h.2.2 88 i ≠ 34) : noSg (hr h i) = true := by
  have q : hr h i ≠ 32 ∧ hr h i ≠ 9 ∧ hr h i ≠ 40 ∧ hr h i ≠ 41 ∧ hr h i ≠ 34 := q
  exact noSg_of (by unfold isBl; simp [q.1, q.2.1]) q.2.2.1 q.2.2.2.1 q.2.2.2.2
theorem nsg_no {h : Hp} {i : Nat} (q : h.2.2 88 i = 32 ∨ h.2.2 88 i = 9 ∨ h.2.2 88 i = 40 ∨ h.2.2 88 i = 41 ∨ h.2.2 88 i = 34) : noSg (hr h i) = false := by
  have q : hr h i = 32 ∨ hr h i = 9 ∨ hr h i = 40 ∨ hr h i = 41 ∨ hr h i = 34 := q
  rcases q with q | q | q | q | q <;> rw [q] <;> decide
theorem dg_at {h : Hp} {i : Nat} (q : 48 ≤ h.2.2 88 i ∧ h.2.2 88 i ≤ 57) : isDg (hr h i) = true := by
  have q : 48 ≤ hr h i ∧ hr h i ≤ 57 := q
  unfold isDg
  simp [q.1, q.2]
theorem dg_no {h : Hp} {i : Nat} (q : h.2.2 88 i < 48 ∨ 57 < h.2.2 88 i) : isDg (hr h i) = false := by
  have q : hr h i < 48 ∨ 57 < hr h i := q
  unfold isDg
  rcases q with q | q
  · rw [decide_eq_false (show ¬ (48 ≤ hr h i) by omega)]; rfl
  · rw [decide_eq_false (show ¬ (hr h i ≤ 57) by omega), Bool.and_false]
theorem bl_at {h : Hp} {i : Nat} (q : h.2.2 88 i = 32 ∨ h.2.2 88 i = 9) : isBl (hr h i) = true := by
  have q : hr h i = 32 ∨ hr h i = 9 := q
  unfold isBl
  rcases q with q | q <;> simp [q]
theorem bl_no {h : Hp} {i : Nat} (q : h.2.2 88 i ≠ 32 ∧ h.2.2 88 i ≠ 9) : isBl (hr h i) = false := by
  have q : hr h i ≠ 32 ∧ hr h i ≠ 9 := q
  unfold isBl
  simp [q.1, q.2]
theorem icod_len {t n : Nat} (hs : (t, n) ∈ saL) : (icod t).length = n := by
  obtain ⟨-, -, -, h, -⟩ := icod_of hs
  exact h
theorem isW_mis {r : QB} {p e j : Nat} {w : List Int} (hj : j < w.length) (h : r (p + j) ≠ w.getD j 0) : isW r p e w = false := by
  unfold isW
  rw [mtA_no hj h, Bool.and_false]
theorem isW_yes {r : QB} {p e : Nat} {w : List Int} (h2 : e - p = w.length) (h : ∀ j : Nat, j < w.length → r (p + j) = w.getD j 0) : isW r p e w = true := by
  unfold isW
  rw [mtA_of h, h2, Nat.beq_refl]
  rfl
/-! Fields. -/
theorem FE_len {f : Int} (hf : 0 ≤ f ∧ f ≤ 7) : FE (f + 1) - FE f = ((FN f.toNat).length : Nat) ∧ (FN f.toNat).length ≤ 8 := by
  rcases (show f = 0 ∨ f = 1 ∨ f = 2 ∨ f = 3 ∨ f = 4 ∨ f = 5 ∨ f = 6 ∨ f = 7 by omega) with rfl | rfl | rfl | rfl | rfl | rfl | rfl | rfl <;> exact ⟨by decide, by decide⟩
theorem fn_all : (List.range 8).all (fun f => (List.range 8).all (fun k => Nat.ble (FN f).length k || decide ((icod0 1000206).getD ((feL.getD f 0).toNat + k) 0 = (FN f).getD k 0))) = true := by decide +kernel
theorem fn_at {f k : Int} (hf : 0 ≤ f ∧ f ≤ 7) (hk : 0 ≤ k ∧ k < FE (f + 1) - FE f) : (icod 1000206).getD (Int.toNat (FE f + k)) 0 = (FN f.toNat).getD k.toNat 0 := by
  have l := FE_len hf
  have c := FE_c hf
  have h1 := List.all_eq_true.mp fn_all f.toNat (List.mem_range.mpr (by omega))
  have h2 := List.all_eq_true.mp h1 k.toNat (List.mem_range.mpr (by omega))
  rw [Bool.or_eq_true] at h2
  rcases h2 with h2 | h2
  · have := Nat.le_of_ble_eq_true h2
    omega
  · have h3 := of_decide_eq_true h2
    rw [icod_eq, show Int.toNat (FE f + k) = (feL.getD f.toNat 0).toNat + k.toNat by (have e : FE f = feL.getD f.toNat 0 := rfl); omega]
    exact h3
/-- how far the field's name F stands at p, in a word that ends at e -/
def FMt (h : Hp) (p e F k is : Int) : Prop := (is = 1 ∧ (p.toNat + (FN F.toNat).length ≤ e.toNat ∧ ∀ j : Nat, (j : Int) < k → h.2.2 88 (p.toNat + j) = (FN F.toNat).getD j 0)) ∨ (is = 0 ∧ (Nat.ble (p.toNat + (FN F.toNat).length) e.toNat && mtA (hr h) p.toNat (FN F.toNat)) = false)
section FMT
variable {h : Hp} {p e F k is : Int}
theorem FMt.s (hp : 0 ≤ p ∧ p ≤ e) (hF : 0 ≤ F ∧ F ≤ 7) (q : (is = 0 ∧ e - p < FE (F + 1) - FE F) ∨ (is = 1 ∧ FE (F + 1) - FE F ≤ e - p)) : FMt h p e F 0 is := by
  have l := FE_len hF
  rcases q with ⟨q1, q2⟩ | ⟨q1, q2⟩
  · refine Or.inr ⟨q1, ?_⟩
    have : Nat.ble (p.toNat + (FN F.toNat).length) e.toNat = false := by
      cases hb : Nat.ble (p.toNat + (FN F.toNat).length) e.toNat with
      | false => rfl
      | true => have := Nat.le_of_ble_eq_true hb; omega
    rw [this]; rfl
  · exact Or.inl ⟨q1, by omega, fun j hj => absurd hj (by omega)⟩
theorem FMt.yes (m : FMt h p e F k is) (h1 : is ≠ 0) (hp : 0 ≤ p) (hk : 0 ≤ k) (hF : 0 ≤ F ∧ F ≤ 7) (hk2 : k < FE (F + 1) - FE F) {x y : Int} (hx : h.2.2 88 (Int.toNat (p + k)) = x) (hy : (icod 1000206).getD (Int.toNat (FE F + k)) 0 = y) (e0 : x = y) : FMt h p e F (k + 1) 1 := by
  rcases m with ⟨-, m1, m2⟩ | ⟨m1, -⟩
  · refine Or.inl ⟨rfl, m1, fun j hj => ?_⟩
    by_cases c : (j : Int) < k
    · exact m2 j c
    · have a := fn_at hF ⟨hk, hk2⟩
      rw [show p.toNat + j = Int.toNat (p + k) by omega, show j = k.toNat by omega, hx, e0, ← hy]
      exact a
  · exact absurd m1 h1
theorem FMt.no (m : FMt h p e F k is) (h1 : is ≠ 0) (hp : 0 ≤ p) (hk : 0 ≤ k) (hF : 0 ≤ F ∧ F ≤ 7) (hk2 : k < FE (F + 1) - FE F) {x y : Int} (hx : h.2.2 88 (Int.toNat (p + k)) = x) (hy : (icod 1000206).getD (Int.toNat (FE F + k)) 0 = y) (e0 : x ≠ y) : FMt h p e F (k + 1) 0 := by
  have a := fn_at hF ⟨hk, hk2⟩
  have l := FE_len hF
  refine Or.inr ⟨rfl, ?_⟩
  rw [mtA_no (j := k.toNat) (by omega) (by
    show h.2.2 88 (p.toNat + k.toNat) ≠ _
    rw [show p.toNat + k.toNat = Int.toNat (p + k) by omega, hx, ← a, hy]
    exact e0), Bool.and_false]
theorem FMt.hit (m : FMt h p e F k is) (h1 : is ≠ 0) (hF : 0 ≤ F ∧ F ≤ 7) (hk2 : FE (F + 1) - FE F ≤ k) : (Nat.ble (p.toNat + (FN F.toNat).length) e.toNat && mtA (hr h) p.toNat (FN F.toNat)) = true := by
  have l := FE_len hF
  rcases m with ⟨-, m1, m2⟩ | ⟨m1, -⟩
  · rw [Nat.ble_eq_true_of_le m1, mtA_of (r := hr h) (p := p.toNat) (w := FN F.toNat) (fun j hj => m2 j (by omega))]
    rfl
  · exact absurd m1 h1
theorem FMt.non (m : FMt h p e F k is) (h1 : is = 0) : (Nat.ble (p.toNat + (FN F.toNat).length) e.toNat && mtA (hr h) p.toNat (FN F.toNat)) = false := by
  rcases m with ⟨m1, -, -⟩ | ⟨-, m2⟩
  · omega
  · exact m2
end FMT
/-! Days. -/
theorem day_n {r : QB} {a : Nat} {v : Int} (hd : ∀ i, i < 8 → isDg (r (a + i)) = true) (e : v = nv r a 8) : (0 ≤ v ∧ v ≤ 99999999) ∧ ((bi (dayOK r a) = 1 ∧ 1 ≤ v / 100 % 100 ∧ v / 100 % 100 ≤ 12 ∧ 1 ≤ v % 100 ∧ v % 100 ≤ mD (v / 10000) (v / 100 % 100)) ∨ (bi (dayOK r a) = 0 ∧ (v / 100 % 100 < 1 ∨ 12 < v / 100 % 100 ∨ v % 100 < 1 ∨ mD (v / 10000) (v / 100 % 100) < v % 100))) := by
  have n8 := nv8 (r := r) (a := a)
  have b1 := nv_bd (r := r) (a := a) 4 (fun i hi => hd i (by omega))
  have b2 := nv_bd (r := r) (a := a + 4) 2 (fun i hi => by rw [Nat.add_assoc]; exact hd _ (by omega))
  have b3 := nv_bd (r := r) (a := a + 6) 2 (fun i hi => by rw [Nat.add_assoc]; exact hd _ (by omega))
  have d4 : (10 : Int) ^ 4 = 10000 := by decide
  have d2 : (10 : Int) ^ 2 = 100 := by decide
  rw [d4] at b1
  rw [d2] at b2 b3
  have e1 : v / 10000 = nv r a 4 := by omega
  have e2 : v / 100 % 100 = nv r (a + 4) 2 := by omega
  have e3 : v % 100 = nv r (a + 6) 2 := by omega
  rw [e1, e2, e3]
  refine ⟨by omega, ?_⟩
  have hall : (List.range 8).all (fun i => isDg (r (a + i))) = true := List.all_eq_true.mpr fun i hi => hd i (List.mem_range.mp hi)
  unfold dayOK
  rw [hall]
  by_cases A : 1 ≤ nv r (a + 4) 2 ∧ nv r (a + 4) 2 ≤ 12
  · by_cases B : 1 ≤ nv r (a + 6) 2 ∧ nv r (a + 6) 2 ≤ mD (nv r a 4) (nv r (a + 4) 2)
    · rw [decide_eq_true A, decide_eq_true B]
      exact Or.inl ⟨rfl, A.1, A.2, B.1, B.2⟩
    · rw [decide_eq_true A, decide_eq_false B]
      exact Or.inr ⟨rfl, by omega⟩
  · rw [decide_eq_false A]
    exact Or.inr ⟨rfl, by omega⟩
theorem day_nd {r : QB} {a i : Nat} (hi : i < 8) (hd : isDg (r (a + i)) = false) : bi (dayOK r a) = 0 := by
  refine bi_0 ?_
  unfold dayOK
  have : (List.range 8).all (fun i => isDg (r (a + i))) = false := by
    cases hb : (List.range 8).all (fun i => isDg (r (a + i))) with
    | false => rfl
    | true =>
      have := List.all_eq_true.mp hb i (List.mem_range.mpr hi)
      rw [hd] at this
      cases this
  rw [this]; rfl
theorem nv_1 {r : QB} {a k : Nat} : nv r a (k + 1) = 10 * nv r a k + (r (a + k) - 48) := rfl
/-- .. at a -/
theorem dd_n {h : Hp} {a : Nat} : (mtA (hr h) a wDD = true ∧ h.2.2 88 a = 46 ∧ h.2.2 88 (a + 1) = 46) ∨ (mtA (hr h) a wDD = false ∧ (h.2.2 88 a ≠ 46 ∨ h.2.2 88 (a + 1) ≠ 46)) := by
  by_cases c1 : h.2.2 88 a = 46
  · by_cases c2 : h.2.2 88 (a + 1) = 46
    · refine Or.inl ⟨mtA_of (r := hr h) (fun j hj => ?_), c1, c2⟩
      have hj : j < 2 := hj
      rcases (show j = 0 ∨ j = 1 by omega) with rfl | rfl
      · exact c1
      · exact c2
    · exact Or.inr ⟨mtA_no (r := hr h) (j := 1) (by decide) c2, Or.inr c2⟩
  · exact Or.inr ⟨mtA_no (r := hr h) (j := 0) (by decide) c1, Or.inl c1⟩
theorem day_46 {h : Hp} {a : Nat} (c : h.2.2 88 a = 46) : bi (dayOK (hr h) a) = 0 := day_nd (i := 0) (by decide) (dg_no (by rw [Nat.add_zero]; omega))
/-- the reference's way to tell days -/
theorem datR {h : Hp} {a b : Nat} : (bi (datOK (hr h) a b) = 1 ∧ ((b = a + 10 ∧ h.2.2 88 a = 46 ∧ h.2.2 88 (a + 1) = 46 ∧ bi (dayOK (hr h) (a + 2)) = 1) ∨ (b = a + 10 ∧ h.2.2 88 a ≠ 46 ∧ h.2.2 88 (a + 8) = 46 ∧ h.2.2 88 (a + 9) = 46 ∧ bi (dayOK (hr h) a) = 1) ∨ (b = a + 18 ∧ h.2.2 88 (a + 8) = 46 ∧ h.2.2 88 (a + 9) = 46 ∧ bi (dayOK (hr h) a) = 1 ∧ bi (dayOK (hr h) (a + 10)) = 1))) ∨ (bi (datOK (hr h) a b) = 0 ∧ (b ≠ a + 10 ∨ h.2.2 88 a ≠ 46 ∨ h.2.2 88 (a + 1) ≠ 46 ∨ bi (dayOK (hr h) (a + 2)) = 0) ∧ (b ≠ a + 10 ∨ h.2.2 88 a = 46 ∨ h.2.2 88 (a + 8) ≠ 46 ∨ h.2.2 88 (a + 9) ≠ 46 ∨ bi (dayOK (hr h) a) = 0) ∧ (b ≠ a + 18 ∨ h.2.2 88 (a + 8) ≠ 46 ∨ h.2.2 88 (a + 9) ≠ 46 ∨ bi (dayOK (hr h) a) = 0 ∨ bi (dayOK (hr h) (a + 10)) = 0)) := by
  have m0 := dd_n (h := h) (a := a)
  have m8 := dd_n (h := h) (a := a + 8)
  rw [show a + 8 + 1 = a + 9 from rfl] at m8
  have d0 : h.2.2 88 a = 46 → bi (dayOK (hr h) a) = 0 := day_46
  have z0 := bi_z (dayOK (hr h) a)
  have z2 := bi_z (dayOK (hr h) (a + 2))
  have z10 := bi_z (dayOK (hr h) (a + 10))
  have e : datOK (hr h) a b = datOK0 (hr h) a b := by rw [datOK_eq]
  have n10 : (Nat.beq (b - a) 10 = true ∧ b = a + 10) ∨ (Nat.beq (b - a) 10 = false ∧ b ≠ a + 10) := by
    cases hb : Nat.beq (b - a) 10 with
    | true => have := Nat.eq_of_beq_eq_true hb; exact Or.inl ⟨rfl, by omega⟩
    | false => exact Or.inr ⟨rfl, fun q => by (have : b - a = 10 := by omega); rw [this] at hb; cases hb⟩
  have n18 : (Nat.beq (b - a) 18 = true ∧ b = a + 18) ∨ (Nat.beq (b - a) 18 = false ∧ b ≠ a + 18) := by
    cases hb : Nat.beq (b - a) 18 with
    | true => have := Nat.eq_of_beq_eq_true hb; exact Or.inl ⟨rfl, by omega⟩
    | false => exact Or.inr ⟨rfl, fun q => by (have : b - a = 18 := by omega); rw [this] at hb; cases hb⟩
  have bz {q : Bool} (hq : bi q = 0) : q = false := bi_f hq
  have bo {q : Bool} (hq : bi q = 1) : q = true := bi_t (by omega)
  rcases n10 with ⟨a1, a2⟩ | ⟨a1, a2⟩
  · have a3 : Nat.beq (b - a) 18 = false := by
      rcases n18 with ⟨-, q⟩ | ⟨q, -⟩
      · omega
      · exact q
    rcases m0 with ⟨b1, b2, b3⟩ | ⟨b1, b2⟩
    · rcases z2 with z | z
      · have v : bi (datOK (hr h) a b) = 0 := by
          rw [e]; unfold datOK0
          rw [a1, a3, b1, bz z]; rfl
        exact Or.inr ⟨v, by omega, by omega, by omega⟩
      · have v : bi (datOK (hr h) a b) = 1 := by
          rw [e]; unfold datOK0
          rw [a1, a3, b1, bo z]; rfl
        exact Or.inl ⟨v, by omega⟩
    · rcases m8 with ⟨c1, c2, c3⟩ | ⟨c1, c2⟩
      · rcases z0 with z | z
        · have v : bi (datOK (hr h) a b) = 0 := by
            rw [e]; unfold datOK0
            rw [a1, a3, b1, c1, bz z]; rfl
          exact Or.inr ⟨v, by omega, by omega, by omega⟩
        · have v : bi (datOK (hr h) a b) = 1 := by
            rw [e]; unfold datOK0
            rw [a1, a3, b1, c1, bo z]; rfl
          exact Or.inl ⟨v, Or.inr (Or.inl ⟨a2, fun q => by have := d0 q; omega, c2, c3, z⟩)⟩
      · have v : bi (datOK (hr h) a b) = 0 := by
          rw [e]; unfold datOK0
          rw [a1, a3, b1, c1]; rfl
        exact Or.inr ⟨v, by omega, by omega, by omega⟩
  · rcases n18 with ⟨k1, k2⟩ | ⟨k1, k2⟩
    · rcases m8 with ⟨c1, c2, c3⟩ | ⟨c1, c2⟩
      · rcases z0 with z | z
        · have v : bi (datOK (hr h) a b) = 0 := by
            rw [e]; unfold datOK0
            rw [a1, k1, c1, bz z]; rfl
          exact Or.inr ⟨v, by omega, by omega, by omega⟩
        · rcases z10 with y | y
          · have v : bi (datOK (hr h) a b) = 0 := by
              rw [e]; unfold datOK0
              rw [a1, k1, c1, bz y, bo z]; rfl
            exact Or.inr ⟨v, by omega, by omega, by omega⟩
          · have v : bi (datOK (hr h) a b) = 1 := by
              rw [e]; unfold datOK0
              rw [a1, k1, c1, bo y, bo z]; rfl
            exact Or.inl ⟨v, Or.inr (Or.inr ⟨k2, c2, c3, z, y⟩)⟩
      · have v : bi (datOK (hr h) a b) = 0 := by
          rw [e]; unfold datOK0
          rw [a1, k1, c1]; rfl
        exact Or.inr ⟨v, by omega, by omega, by omega⟩
    · have v : bi (datOK (hr h) a b) = 0 := by
        rw [e]; unfold datOK0
        rw [a1, k1]; rfl
      exact Or.inr ⟨v, by omega, by omega, by omega⟩
