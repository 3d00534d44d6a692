/-! Longs are compared. -/
theorem i2l_i32 {x : Int} (hx : I32 x) : (Int32.ofInt x).toInt64 = Int64.ofInt x := by
  have h1 : (Int32.ofInt x).toInt64.toInt = x := by rw [Int32.toInt_toInt64]; exact tI_of hx
  have h2 := Int64.ofInt_toInt (Int32.ofInt x).toInt64
  rw [h1] at h2
  exact h2.symm
theorem i64_inj {x y : Int} (hx : I32 x) (hy : I32 y) (h : Int64.ofInt x = Int64.ofInt y) : x = y := by
  rw [← i2l_i32 hx, ← i2l_i32 hy] at h
  have h1 : (Int32.ofInt x).toInt64.toInt = (Int32.ofInt y).toInt64.toInt := by rw [h]
  rw [Int32.toInt_toInt64, Int32.toInt_toInt64, tI_of hx, tI_of hy] at h1
  exact h1
theorem cmp_eq {a b : Int64} : lg_cmp a b = 0 ↔ a = b := by
  unfold lg_cmp
  by_cases h1 : a > b
  · rw [if_pos h1]
    exact ⟨fun h => absurd h (by decide), fun h => by subst h; exact absurd h1 (Int64.lt_irrefl)⟩
  · by_cases h2 : a = b
    · rw [if_neg h1, if_pos h2]
      exact ⟨fun _ => h2, fun _ => rfl⟩
    · rw [if_neg h1, if_neg h2]
      exact ⟨fun h => absurd h (by decide), fun h => absurd h h2⟩
section TGX
variable {l : Launch} {E : ME} {pc : Nat} {L : LL} {st : List V} {h : Hp} {k z : Nat} {Tp : Cfg → Prop} {F : Option V → Hp → Nat → Nat → Prop}
theorem to_i2lx {x : Int} (hx : I32 x) (hd : decode E.1 pc = .ok (.i2l, 1)) (k0 : To l E (pc + 1, L, .inr (.inl x) :: st, h, k, z) F) : To l E (pc, L, .inl x :: st, h, k, z) F :=
  to_of (sx_pure (fun g HB p e R s m args below meth c Q H locs ls hC hl kk => lv_i2l hC.1.1 hC.1.2.1 hd (i2l_i32 hx) (kk ls hl))) k0
theorem tg_i2lx (hT : Gn l E Tp) {x : Int} (hx : I32 x) (hd : decode E.1 pc = .ok (.i2l, 1)) (k0 : Tp (pc + 1, L, .inr (.inl x) :: st, h, k, z)) : Tp (pc, L, .inl x :: st, h, k, z) :=
  hT.of (sx_pure (fun g HB p e R s m args below meth c Q H locs ls hC hl kk => lv_i2l hC.1.1 hC.1.2.1 hd (i2l_i32 hx) (kk ls hl))) k0
theorem tg_lcmpx (hT : Gn l E Tp) {x y : Int} (hx : I32 x) (hy : I32 y) (hd : decode E.1 pc = .ok (.lcmp, 1)) (k0 : ∀ n : Int, I32 n → (n = 0 ↔ x = y) → Tp (pc + 1, L, .inl n :: st, h, k, z)) : Tp (pc, L, .inr (.inl y) :: .inr (.inl x) :: st, h, k, z) :=
  tg_someI hT (P := fun n => n = 0 ↔ x = y) (lg_cmp (Int64.ofInt x) (Int64.ofInt y)) (by
    constructor
    · intro h
      have h1 : lg_cmp (Int64.ofInt x) (Int64.ofInt y) = 0 := Int32.toInt_inj.mp (h.trans (by decide))
      exact i64_inj hx hy (cmp_eq.mp h1)
    · intro h
      subst h
      rw [cmp_eq.mpr rfl]
      rfl) (fun g HB p e R s m args below meth c Q H locs ls hC hl kk => W.lcmp hC.1.1 hC.1.2.1 hd kk) k0
end TGX
