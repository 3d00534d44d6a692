/-! Arrays.copyOf: cells are made. -/
section TOZ
variable {l : Launch} {E : ME} {pc : Nat} {L : LL} {st : List V} {h : Hp} {k z : Nat} {F : Option V → Hp → Nat → Nat → Prop}
/-- what a name will hold that isn't given yet is 0 -/
theorem to_clean (k0 : To l E (pc, L, st, row h h.1 (fun _ => 0), k, z) F) : To l E (pc, L, st, h, k, z) F := by
  refine to_of ?_ k0
  refine ⟨⟨Nat.le_refl _, Nat.le_refl _⟩, fun g HB p e R s m0 args below meth c0 Q H locs ls hC hfr hlo _ _ hR hl kk => ?_⟩
  have e9 : row h h.1 (fun _ => 0) = h := by
    refine hp_ext rfl rfl fun x => ?_
    by_cases hx : x = h.1
    · subst hx
      rw [row_eq]
      exact funext fun j => (hR.2.2.2.1 h.1 (Nat.le_refl _) j).symm
    · exact row_ne hx
  exact kk H locs ls (by rw [e9]; exact hR) hl
theorem to_newarrayZ {q : Nat} (w : Nat) {at9 : ArrayType} {i : Int} (hw : w % 10 = q) (hq : q < 4) (hty : newarray.typeOf at9 = tyA q) (harr : Cond.arrayClass (tyA q) ∈ wsG) (hd : decode E.1 pc = .ok (.newarray at9, 2)) (hi : 0 ≤ i ∧ i ≤ 67108864) (hlt : h.1 < 1000000) (k0 : To l E (pc + 2, L, .inr (.inr h.1) :: st, row (al h (.inl (w, i.toNat))) h.1 (fun _ => 0), k + 1, z + i.toNat) F) : To l E (pc, L, .inl i :: st, h, k, z) F :=
  to_clean (to_newarray w hw hq hty harr hd hi hlt k0)
theorem to_newZ {idx ci : Nat} (hg : NewOK E.2.2.1 idx ci) (hd : decode E.1 pc = .ok (.new idx, 3)) (hlt : h.1 < 1000000) (k0 : To l E (pc + 3, L, .inr (.inr h.1) :: st, row (al h (.inr ci)) h.1 (fun _ => 0), k + 1, z + clN ci) F) : To l E (pc, L, st, h, k, z) F :=
  to_clean (to_new hg hd hlt k0)
end TOZ
/-- a copy of an array: its own name, its length, what it holds -/
def CopyP (h : Hp) (a w2 len n : Nat) : Nat → Hp → Nat → Nat → Prop := fun x H mc ms => x = h.1 ∧ mc = 1 ∧ ms = n ∧ ∃ f : Nat → Int, H = row (al h (.inl (w2, n))) h.1 f ∧ (∀ j, f j = h.2.2 a j ∨ f j = 0) ∧ ∀ j, j < n → j < len → f j = h.2.2 a j
set_option maxRecDepth 100000 in
theorem ct_J7_copyOf_59c91 (l : Launch) (h : Hp) (hI : Inv h) (a w len : Nat) (ta : h.2.1 a = some (.inl (w, len))) (hw : w % 10 = 0) (w2 : Nat) (hw2 : w2 % 10 = 0) (n : Nat) (hn : n ≤ 67108864) (hlt : h.1 + 1 ≤ 900000) : Ct l D_J7_copyOf_59c91 1 80 [.inr (.inr a), .inl (n : Int)] h (RRa (CopyP h a w2 len n)) := by
  refine ct_of pn_J7_copyOf_59c91 (Nat.le_of_ble_eq_true rfl) ?_
  show To l E_J7_copyOf_59c91 (0, [(0, .inr (.inr a)), (1, .inl (n : Int))], [], h, 0, 0) _
  have hlen := hI.lenM ta
  have hpos := hI.posN ta
  have hal := hI.ltN ta
  refine to_iload_n (dat dk_J7_copyOf_59c91 0 rfl) rfl (to_aload_np (dat dk_J7_copyOf_59c91 1 rfl) hpos rfl (to_alen (dat dk_J7_copyOf_59c91 2 rfl) ta (by omega) ?_))
  refine to_ine 14 (dat dk_J7_copyOf_59c91 3 rfl) rfl (by omega) (by omega) (fun c1 => ?_) (fun c1 => ?_)
  · skip
    refine to_iload_n (dat dk_J7_copyOf_59c91 8 rfl) rfl ?_
    refine to_newarrayZ w2 hw2 (by decide) rfl (tin 1 82 (by decide +kernel) rfl) (dat dk_J7_copyOf_59c91 9 rfl) (by omega) (by omega) ?_
    rw [Int.toNat_natCast]
    obtain ⟨h1, e1⟩ : ∃ h1 : Hp, h1 = row (al h (.inl (w2, n))) h.1 (fun _ => 0) := ⟨_, rfl⟩
    rw [← e1]
    have tn : h1.2.1 h.1 = some (.inl (w2, n)) := by rw [e1]; exact al_new h _
    have ta1 : h1.2.1 a = some (.inl (w, len)) := by rw [e1]; exact newA_old hI ta
    have va1 : h1.2.2 a = h.2.2 a := by rw [e1]; exact newA_val hI ta
    have vn : h1.2.2 h.1 = fun _ => 0 := by rw [e1]; exact row_eq
    have hp1 := hI.1.1
    refine to_astore_n (L' := [(0, .inr (.inr a)), (1, .inl (n : Int)), (2, .inr (.inr h.1))]) (dat dk_J7_copyOf_59c91 10 rfl) (by omega) (by decide) rfl ?_
    refine to_aload_np (dat dk_J7_copyOf_59c91 11 rfl) hpos rfl (to_iconst (dat dk_J7_copyOf_59c91 12 rfl) (to_aload_np (dat dk_J7_copyOf_59c91 13 rfl) (by omega) rfl (to_iconst (dat dk_J7_copyOf_59c91 14 rfl) (to_aload_np (dat dk_J7_copyOf_59c91 15 rfl) hpos rfl (to_alen (dat dk_J7_copyOf_59c91 16 rfl) ta1 (by omega) (to_iload_n (dat dk_J7_copyOf_59c91 17 rfl) rfl ?_))))))
    refine to_mmin (tin 4 146 (by decide +kernel) rfl) (tin 3 170 (by decide +kernel) rfl) (tin 1 18 (by decide +kernel) rfl) (tin 3 171 (by decide +kernel) rfl) (dat dk_J7_copyOf_59c91 18 rfl) (by omega) (by omega) rfl (fun r ar br => ?_)
    refine to_copy (a := h.1) (b := a) (q := 0) (by decide) (tin 4 147 (by decide +kernel) rfl) (tin 4 149 (by decide +kernel) rfl) (tin 4 148 (by decide +kernel) rfl) (tin 1 25 (by decide +kernel) rfl) (dat dk_J7_copyOf_59c91 19 rfl) tn hw2 ta1 hw hn hlen (by decide) (by decide) (by omega) (by omega) (by omega) (fun j => by rw [va1]; exact (hI.2.2.1 _ _ _ ta).2 j) rfl (fun h2 e2 => ?_)
    have e4 : ∀ f, row h1 h.1 f = row (al h (.inl (w2, n))) h.1 f := fun f => by rw [e1, row_row]
    refine to_aload_np (dat dk_J7_copyOf_59c91 20 rfl) (by omega) rfl ?_
    refine to_aret rfl (Or.inr ⟨_, rfl⟩) (dat dk_J7_copyOf_59c91 21 rfl) (rr_mka ⟨rfl, rfl, by omega, cpyF h1 h.1 a 0 0 r.toNat, e2.trans (e4 _), fun j => ?_, fun j j1 j2 => ?_⟩)
    · have e5 : cpyF h1 h.1 a 0 0 r.toNat j = va_cpy (h.2.2 a) (fun _ => 0) 0 0 r.toNat j := by
        unfold cpyF
        rw [va1, vn]
      rw [e5]
      unfold va_cpy
      split
      · exact Or.inl (congrArg _ (by omega))
      · exact Or.inr rfl
    · have e5 : cpyF h1 h.1 a 0 0 r.toNat j = va_cpy (h.2.2 a) (fun _ => 0) 0 0 r.toNat j := by
        unfold cpyF
        rw [va1, vn]
      rw [e5]
      unfold va_cpy
      rw [if_pos (by omega)]
      exact congrArg _ (by omega)
  · skip
    have c2 : n = len := by omega
    subst c2
    refine to_aload_np (dat dk_J7_copyOf_59c91 4 rfl) hpos rfl ?_
    refine to_clone w2 (tin 4 153 (by decide +kernel) rfl) (tin 4 154 (by decide +kernel) rfl) (tin 4 141 (by decide +kernel) rfl) (tin 4 142 (by decide +kernel) rfl) (tin 4 155 (by decide +kernel) rfl) (tinN 4 156 (by decide +kernel) rfl) (dat dk_J7_copyOf_59c91 5 rfl) ta hw hw2 (by omega) rfl (fun h1 e1 => ?_)
    have tn : h1.2.1 h.1 = some (.inl (w2, n)) := by rw [e1]; exact al_new h _
    refine to_castA (q := 0) (by decide) (nm := "[I") (by decide +kernel) (tin 4 157 (by decide +kernel) rfl) (dat dk_J7_copyOf_59c91 6 rfl) tn hw2 ?_
    exact to_aret rfl (Or.inr ⟨_, rfl⟩) (dat dk_J7_copyOf_59c91 7 rfl) (rr_mka ⟨rfl, rfl, by omega, _, e1, fun j => Or.inl rfl, fun j _ _ => rfl⟩)
set_option maxRecDepth 100000 in
theorem ct_J7_copyOf_9075b (l : Launch) (h : Hp) (hI : Inv h) (a w len : Nat) (ta : h.2.1 a = some (.inl (w, len))) (hw : w % 10 = 1) (w2 : Nat) (hw2 : w2 % 10 = 1) (n : Nat) (hn : n ≤ 67108864) (hne : n ≠ len) (hlt : h.1 + 1 ≤ 900000) : Ct l D_J7_copyOf_9075b 1 80 [.inr (.inr a), .inl (n : Int)] h (RRa (CopyP h a w2 len n)) := by
  refine ct_of pn_J7_copyOf_9075b (Nat.le_of_ble_eq_true rfl) ?_
  show To l E_J7_copyOf_9075b (0, [(0, .inr (.inr a)), (1, .inl (n : Int))], [], h, 0, 0) _
  have hlen := hI.lenM ta
  have hpos := hI.posN ta
  have hal := hI.ltN ta
  refine to_iload_n (dat dk_J7_copyOf_9075b 0 rfl) rfl (to_aload_np (dat dk_J7_copyOf_9075b 1 rfl) hpos rfl (to_alen (dat dk_J7_copyOf_9075b 2 rfl) ta (by omega) ?_))
  refine to_ine 14 (dat dk_J7_copyOf_9075b 3 rfl) rfl (by omega) (by omega) (fun c1 => ?_) (fun c1 => ?_)
  · skip
    refine to_iload_n (dat dk_J7_copyOf_9075b 8 rfl) rfl ?_
    refine to_newarrayZ w2 hw2 (by decide) rfl (tin 1 53 (by decide +kernel) rfl) (dat dk_J7_copyOf_9075b 9 rfl) (by omega) (by omega) ?_
    rw [Int.toNat_natCast]
    obtain ⟨h1, e1⟩ : ∃ h1 : Hp, h1 = row (al h (.inl (w2, n))) h.1 (fun _ => 0) := ⟨_, rfl⟩
    rw [← e1]
    have tn : h1.2.1 h.1 = some (.inl (w2, n)) := by rw [e1]; exact al_new h _
    have ta1 : h1.2.1 a = some (.inl (w, len)) := by rw [e1]; exact newA_old hI ta
    have va1 : h1.2.2 a = h.2.2 a := by rw [e1]; exact newA_val hI ta
    have vn : h1.2.2 h.1 = fun _ => 0 := by rw [e1]; exact row_eq
    have hp1 := hI.1.1
    refine to_astore_n (L' := [(0, .inr (.inr a)), (1, .inl (n : Int)), (2, .inr (.inr h.1))]) (dat dk_J7_copyOf_9075b 10 rfl) (by omega) (by decide) rfl ?_
    refine to_aload_np (dat dk_J7_copyOf_9075b 11 rfl) hpos rfl (to_iconst (dat dk_J7_copyOf_9075b 12 rfl) (to_aload_np (dat dk_J7_copyOf_9075b 13 rfl) (by omega) rfl (to_iconst (dat dk_J7_copyOf_9075b 14 rfl) (to_aload_np (dat dk_J7_copyOf_9075b 15 rfl) hpos rfl (to_alen (dat dk_J7_copyOf_9075b 16 rfl) ta1 (by omega) (to_iload_n (dat dk_J7_copyOf_9075b 17 rfl) rfl ?_))))))
    refine to_mmin (tin 4 146 (by decide +kernel) rfl) (tin 3 170 (by decide +kernel) rfl) (tin 1 18 (by decide +kernel) rfl) (tin 3 171 (by decide +kernel) rfl) (dat dk_J7_copyOf_9075b 18 rfl) (by omega) (by omega) rfl (fun r ar br => ?_)
    refine to_copy (a := h.1) (b := a) (q := 1) (by decide) (tin 4 147 (by decide +kernel) rfl) (tin 4 149 (by decide +kernel) rfl) (tin 4 148 (by decide +kernel) rfl) (tin 1 25 (by decide +kernel) rfl) (dat dk_J7_copyOf_9075b 19 rfl) tn hw2 ta1 hw hn hlen (by decide) (by decide) (by omega) (by omega) (by omega) (fun j => by rw [va1]; exact (hI.2.2.1 _ _ _ ta).2 j) rfl (fun h2 e2 => ?_)
    have e4 : ∀ f, row h1 h.1 f = row (al h (.inl (w2, n))) h.1 f := fun f => by rw [e1, row_row]
    refine to_aload_np (dat dk_J7_copyOf_9075b 20 rfl) (by omega) rfl ?_
    refine to_aret rfl (Or.inr ⟨_, rfl⟩) (dat dk_J7_copyOf_9075b 21 rfl) (rr_mka ⟨rfl, rfl, by omega, cpyF h1 h.1 a 0 0 r.toNat, e2.trans (e4 _), fun j => ?_, fun j j1 j2 => ?_⟩)
    · have e5 : cpyF h1 h.1 a 0 0 r.toNat j = va_cpy (h.2.2 a) (fun _ => 0) 0 0 r.toNat j := by
        unfold cpyF
        rw [va1, vn]
      rw [e5]
      unfold va_cpy
      split
      · exact Or.inl (congrArg _ (by omega))
      · exact Or.inr rfl
    · have e5 : cpyF h1 h.1 a 0 0 r.toNat j = va_cpy (h.2.2 a) (fun _ => 0) 0 0 r.toNat j := by
        unfold cpyF
        rw [va1, vn]
      rw [e5]
      unfold va_cpy
      rw [if_pos (by omega)]
      exact congrArg _ (by omega)
  · skip
    exact absurd (show n = len by omega) hne
