/-! A new array: the invariant, the frame. -/
theorem mref.mono {h H : Hp} {k : Nat} {x : Int} (hold : ∀ b t, h.2.1 b = some t → H.2.1 b = some t) (hm : mref h k x) : mref H k x := by
  rcases hm with h0 | ⟨b, n, h1, h2, h3⟩
  · exact Or.inl h0
  · exact Or.inr ⟨b, n, h1, h2, hold _ _ h3⟩
theorem MsgAt.mono {h H : Hp} {a : Nat} (hold : ∀ b t, h.2.1 b = some t → H.2.1 b = some t) (he : H.2.2 a = h.2.2 a) (hm : MsgAt h a) : MsgAt H a := by
  unfold MsgAt at hm ⊢
  rw [he]
  exact ⟨hm.1, hm.2.1, hm.2.2.1, hm.2.2.2.1, hm.2.2.2.2.1, hm.2.2.2.2.2.1.mono hold, hm.2.2.2.2.2.2.1.mono hold, hm.2.2.2.2.2.2.2.1.mono hold, hm.2.2.2.2.2.2.2.2.mono hold⟩
theorem full.mono {h H : Hp} {a : Nat} (hold : ∀ b t, h.2.1 b = some t → H.2.1 b = some t) (he : H.2.2 a = h.2.2 a) (hm : full h a) : full H a := by
  unfold full at hm ⊢
  rw [he]
  exact ⟨hold _ _ hm.1, hm.2⟩
theorem Lst.mono {h H : Hp} (hold : ∀ b t, h.2.1 b = some t → H.2.1 b = some t) (he : ∀ b t, h.2.1 b = some t → H.2.2 b = h.2.2 b) (h26 : h.2.1 26 = some (.inr 0)) (hL : Lst h) : Lst H := by
  obtain ⟨s, h1, h2, h3⟩ := hL
  have e := he _ _ h26
  refine ⟨s, by rw [e]; exact h1, h2, ?_⟩
  rw [e]
  rcases h3 with h3 | ⟨ed, n, g1, g2, g3, g4, g5⟩
  · exact Or.inl h3
  · refine Or.inr ⟨ed, n, g1, g2, hold _ _ g3, g4, fun j hj => ?_⟩
    obtain ⟨m, m1, m2⟩ := g5 j hj
    exact ⟨m, by rw [he _ _ g3]; exact m1, m2.mono hold (he _ _ m2.1)⟩
theorem Bk.mono {h H : Hp} {b w : Nat} (hold : ∀ b t, h.2.1 b = some t → H.2.1 b = some t) (he : H.2.2 b = h.2.2 b) (hB : Bk h b w) : Bk H b w := by
  obtain ⟨nx, st, rd, rw_, nn, ns, nr, nw, e1, e2, e3, e4, t1, t2, t3, t4, p1, p2, p3, p4⟩ := hB
  unfold Bk
  rw [he]
  exact ⟨nx, st, rd, rw_, nn, ns, nr, nw, e1, e2, e3, e4, hold _ _ t1, hold _ _ t2, hold _ _ t3, hold _ _ t4, p1, p2, p3, p4⟩
section NEWA
variable {h : Hp} {t : Ty} {f : Nat → Int}
theorem newA_ty {b : Nat} {t' : Ty} (ht : (row (al h t) h.1 f).2.1 b = some t') : (b = h.1 ∧ t' = t) ∨ (b ≠ h.1 ∧ h.2.1 b = some t') := by
  have ht : (al h t).2.1 b = some t' := ht
  by_cases hb : b = h.1
  · subst hb
    rw [al_new] at ht
    exact Or.inl ⟨rfl, (Option.some.inj ht).symm⟩
  · rw [al_old hb] at ht
    exact Or.inr ⟨hb, ht⟩
theorem newA_old (hI : Inv h) {b : Nat} {t' : Ty} (ht : h.2.1 b = some t') : (row (al h t) h.1 f).2.1 b = some t' := by
  have hb := hI.ltN ht
  show (al h t).2.1 b = some t'
  rw [al_old (by omega)]
  exact ht
theorem newA_val (hI : Inv h) {b : Nat} {t' : Ty} (ht : h.2.1 b = some t') : (row (al h t) h.1 f).2.2 b = h.2.2 b := by
  have hb := hI.ltN ht
  exact row_ne (by omega)
/-- what is new is an array whose numbers are as its kind asks, or a message whose rows aren't given yet -/
theorem Inv.new (hI : Inv h) (hlt : h.1 + 1 ≤ 900000) (hg : ∀ k n, t = .inl (k, n) → n ≤ 67108864 ∧ ∀ j, gk k (f j)) (hm : t = .inr 5 → MsgAt (row (al h t) h.1 f) h.1) (hf : ∀ n, t = .inl (20, n) → n = 5 ∧ ∀ j, 0 ≤ f j ∧ f j ≤ 1200) : Inv (row (al h t) h.1 f) := by
  have old : ∀ b t', h.2.1 b = some t' → (row (al h t) h.1 f).2.1 b = some t' := fun b t' ht => newA_old hI ht
  have val : ∀ b t', h.2.1 b = some t' → (row (al h t) h.1 f).2.2 b = h.2.2 b := fun b t' ht => newA_val hI ht
  have h106 := hI.1.1
  have v8 := val 8 _ (hI.atS (a := 8) rfl)
  have v14 := val 14 _ (hI.atS (a := 14) rfl)
  have v20 := val 20 _ (hI.atS (a := 20) rfl)
  have t26 := hI.atS (a := 26) rfl
  have hI0 := hI
  obtain ⟨hS, hR, hG, hM, hF, hL, hb1, hb2, hb3⟩ := hI
  refine ⟨⟨Nat.le_succ_of_le h106, hlt, fun a t' ha => old a t' (hS.2.2.1 a t' ha), fun a t' ha => ?_⟩, fun b i lo hi e => ?_, fun b k' n' hb => ?_, fun b hb => ?_, fun b n' hb => ?_, hL.mono old val t26, hb1.mono old v8, hb2.mono old v14, hb3.mono old v20⟩
  · show 0 < a ∧ a < h.1 + 1
    rcases newA_ty ha with ⟨rfl, -⟩ | ⟨-, h1⟩
    · omega
    · have := hS.2.2.2 a t' h1
      omega
  · have hb : b < 106 := by
      by_cases hb : b < 106
      · exact hb
      · rw [rg_none (by omega)] at e
        cases e
    rw [row_ne (show b ≠ h.1 by omega)]
    exact hR b i lo hi e
  · rcases newA_ty hb with ⟨rfl, e⟩ | ⟨h1, h2⟩
    · have := hg k' n' e.symm
      rw [row_eq]
      exact this
    · rw [row_ne h1]
      exact hG b k' n' h2
  · rcases newA_ty hb with ⟨rfl, e⟩ | ⟨h1, h2⟩
    · exact hm e.symm
    · exact (hM b h2).mono old (row_ne h1)
  · rcases newA_ty hb with ⟨rfl, e⟩ | ⟨h1, h2⟩
    · rw [row_eq]
      exact hf n' e.symm
    · rw [row_ne h1]
      exact hF b n' h2
theorem Inv.newA (hI : Inv h) {k n : Nat} (hlt : h.1 + 1 ≤ 900000) (hn : n ≤ 67108864) (hf : ∀ j, gk k (f j)) (hk : k ≠ 20) : Inv (row (al h (.inl (k, n))) h.1 f) :=
  hI.new hlt (fun k' n' e => by cases e; exact ⟨hn, hf⟩) (fun e => by cases e) (fun n' e => by cases e; exact absurd rfl hk)
end NEWA
theorem hp_ext {h h' : Hp} (h1 : h.1 = h'.1) (h2 : h.2.1 = h'.2.1) (h3 : ∀ x, h.2.2 x = h'.2.2 x) : h = h' := Prod.ext h1 (Prod.ext h2 (funext h3))
theorem row_al0 {h : Hp} {t : Ty} (hz : ∀ j, h.2.2 h.1 j = 0) : row (al h t) h.1 (fun _ => 0) = al h t := by
  refine hp_ext rfl rfl fun x => ?_
  by_cases hx : x = h.1
  · subst hx
    rw [row_eq]
    exact funext fun j => (hz j).symm
  · exact row_ne hx
theorem row_row {h : Hp} {a : Nat} {f f' : Nat → Int} : row (row h a f) a f' = row h a f' := by
  refine hp_ext rfl rfl fun x => ?_
  by_cases hx : x = a
  · subst hx
    rw [row_eq, row_eq]
  · rw [row_ne hx, row_ne hx, row_ne hx]
theorem fr_new {S : List Nat} {h h1 : Hp} (fr : Fr S h h1) (h999 : S.contains 999 = true) {t : Ty} {f : Nat → Int} : Fr S h (row (al h1 t) h1.1 f) := by
  refine ⟨⟨Nat.le_trans fr.1.1 (Nat.le_succ _), fun a ha => ?_⟩, fun a j ha hn => ?_, fun hn => absurd h999 (by rw [hn]; decide)⟩
  · show (al h1 t).2.1 a = _
    rw [al_old (by have := fr.1.1; omega)]
    exact fr.1.2 a ha
  · rw [row_ne (by have := fr.1.1; omega)]
    exact fr.2.1 a j ha hn
