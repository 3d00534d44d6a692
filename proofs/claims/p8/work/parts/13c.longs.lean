/-! Exact division, longs, rows of numbers. -/
section TOZ
variable {l : Launch} {E : ME} {pc : Nat} {L : LL} {st : List V} {h : Hp} {k z : Nat} {F : Option V → Hp → Nat → Nat → Prop}
theorem to_idivx {x y : Int} (hx : 0 ≤ x ∧ x < 2147483648) (hy : 0 < y ∧ y < 2147483648) (hd : decode E.1 pc = .ok (.idiv, 1)) (k0 : To l E (pc + 1, L, .inl (x / y) :: st, h, k, z) F) : To l E (pc, L, .inl y :: .inl x :: st, h, k, z) F :=
  to_of (sx_pure (fun g HB p e R s m args below meth c Q H locs ls hC hl kk => lv_idiv hC.1.1 hC.1.2.1 hd (fun h0 => by
    have h1 : I32 y := by unfold I32; omega
    have := (eq_of h1 (by omega)).mp (h0.trans zero_of)
    omega) (by
    have kk := kk ls hl
    have kk : W p l e R s m args below meth c H locs k z Q (F0 m (pc + 1) ls (.int (Int32.ofInt (x / y)) :: st.map (dv g))) := kk
    rw [← idivx hx hy] at kk
    exact kk))) k0
theorem to_laddx {x y : Int} (hd : decode E.1 pc = .ok (.ladd, 1)) (k0 : To l E (pc + 1, L, .inr (.inl (x + y)) :: st, h, k, z) F) : To l E (pc, L, .inr (.inl y) :: .inr (.inl x) :: st, h, k, z) F :=
  to_of (sx_pure (fun g HB p e R s m args below meth c Q H locs ls hC hl kk => lv_ladd hC.1.1 hC.1.2.1 hd (by
    have kk := kk ls hl
    have kk : W p l e R s m args below meth c H locs k z Q (F0 m (pc + 1) ls (.long (Int64.ofInt (x + y)) :: st.map (dv g))) := kk
    rw [Int64.ofInt_add] at kk
    exact kk))) k0
theorem to_lsubx {x y : Int} (hd : decode E.1 pc = .ok (.lsub, 1)) (k0 : To l E (pc + 1, L, .inr (.inl (x - y)) :: st, h, k, z) F) : To l E (pc, L, .inr (.inl y) :: .inr (.inl x) :: st, h, k, z) F :=
  to_of (sx_pure (fun g HB p e R s m args below meth c Q H locs ls hC hl kk => lv_lsub hC.1.1 hC.1.2.1 hd (by
    have kk := kk ls hl
    have kk : W p l e R s m args below meth c H locs k z Q (F0 m (pc + 1) ls (.long (Int64.ofInt (x - y)) :: st.map (dv g))) := kk
    rw [Int64.ofInt_sub] at kk
    exact kk))) k0
theorem to_lmulx {x y : Int} (hd : decode E.1 pc = .ok (.lmul, 1)) (k0 : To l E (pc + 1, L, .inr (.inl (x * y)) :: st, h, k, z) F) : To l E (pc, L, .inr (.inl y) :: .inr (.inl x) :: st, h, k, z) F :=
  to_of (sx_pure (fun g HB p e R s m args below meth c Q H locs ls hC hl kk => lv_lmul hC.1.1 hC.1.2.1 hd (by
    have kk := kk ls hl
    have kk : W p l e R s m args below meth c H locs k z Q (F0 m (pc + 1) ls (.long (Int64.ofInt (x * y)) :: st.map (dv g))) := kk
    rw [Int64.ofInt_mul] at kk
    exact kk))) k0
theorem i2l_ofy {x : Int} (hx : I32 x) : (Int32.ofInt x).toInt64 = Int64.ofInt x := by
  have h1 : (Int32.ofInt x).toInt64.toInt = x := by rw [Int32.toInt_toInt64]; exact tI_of hx
  have h2 := Int64.ofInt_toInt (Int32.ofInt x).toInt64
  rw [h1] at h2
  exact h2.symm
theorem to_i2ly {x : Int} (hx : I32 x) (hd : decode E.1 pc = .ok (.i2l, 1)) (k0 : To l E (pc + 1, L, .inr (.inl x) :: st, h, k, z) F) : To l E (pc, L, .inl x :: st, h, k, z) F :=
  to_of (sx_pure (fun g HB p e R s m args below meth c Q H locs ls hC hl kk => lv_i2l hC.1.1 hC.1.2.1 hd (i2l_ofy hx) (kk ls hl))) k0
abbrev L64 (x : Int) : Prop := -9223372036854775808 ≤ x ∧ x < 9223372036854775808
theorem lcmp_y {a b : Int64} : lg_cmp a b = 0 ↔ a = b := by
  unfold lg_cmp
  by_cases h1 : a > b
  · rw [if_pos h1]
    exact ⟨fun h => absurd h (by decide), fun h => by subst h; exact absurd h1 (Int64.lt_irrefl)⟩
  · by_cases h2 : a = b
    · rw [if_neg h1, if_pos h2]
      exact ⟨fun _ => h2, fun _ => rfl⟩
    · rw [if_neg h1, if_neg h2]
      exact ⟨fun h => absurd h (by decide), fun h => absurd h h2⟩
theorem l64_inj {x y : Int} (hx : L64 x) (hy : L64 y) (h : Int64.ofInt x = Int64.ofInt y) : x = y := by
  have h1 : (Int64.ofInt x).toInt = (Int64.ofInt y).toInt := by rw [h]
  rw [Int64.toInt_ofInt_of_le (by omega) (by omega), Int64.toInt_ofInt_of_le (by omega) (by omega)] at h1
  exact h1
theorem to_lcmpx {x y : Int} (hx : L64 x) (hy : L64 y) (hd : decode E.1 pc = .ok (.lcmp, 1)) (k0 : ∀ n : Int, I32 n → (n = 0 ↔ x = y) → To l E (pc + 1, L, .inl n :: st, h, k, z) F) : To l E (pc, L, .inr (.inl y) :: .inr (.inl x) :: st, h, k, z) F :=
  to_someI (P := fun n => n = 0 ↔ x = y) (lg_cmp (Int64.ofInt x) (Int64.ofInt y)) (by
    constructor
    · intro h
      have h1 : lg_cmp (Int64.ofInt x) (Int64.ofInt y) = 0 := Int32.toInt_inj.mp (h.trans (by decide))
      exact l64_inj hx hy (lcmp_y.mp h1)
    · intro h
      subst h
      rw [lcmp_y.mpr rfl]
      rfl) (fun g HB p e R s m args below meth c Q H locs ls hC hl kk => W.lcmp hC.1.1 hC.1.2.1 hd kk) k0
/-- the numbers of a row that stands outside -/
def icod0 (t : Nat) : List Int := match xT.find? (fun x => Nat.beq x.1 (t - 1000000)) with
  | some x => x.2.2.2
  | none => []
def icodC (q : Nat × Nat) : Bool := Nat.ble 1000000 q.1 && (decide ((q.1 - 1000000, FieldType.int, q.2, icod0 q.1) ∈ xT) && (Nat.beq (icod0 q.1).length q.2 && (icod0 q.1).all (fun c => decide (0 ≤ c ∧ c ≤ 127))))
theorem icodC_all : saL.all icodC = true := by decide +kernel
/-- icod0 behind a veil: Lean's kernel shall not look into it -/
theorem icodE : ∃ f : Nat → List Int, f = icod0 := ⟨_, rfl⟩
noncomputable def icod : Nat → List Int := Classical.choose icodE
theorem icod_eq (t : Nat) : icod t = icod0 t := congrFun (Classical.choose_spec icodE) t
theorem icod_of {t n : Nat} (hs : (t, n) ∈ saL) : ∃ q : Nat, t = 1000000 + q ∧ (q, FieldType.int, n, icod t) ∈ xT ∧ (icod t).length = n ∧ ∀ c ∈ icod t, 0 ≤ c ∧ c ≤ 127 := by
  have h1 := List.all_eq_true.mp icodC_all _ hs
  unfold icodC at h1
  rw [← icod_eq] at h1
  simp only [Bool.and_eq_true, decide_eq_true_eq] at h1
  obtain ⟨c1, c2, c3, c4⟩ := h1
  have c1 := Nat.le_of_ble_eq_true c1
  refine ⟨t - 1000000, by omega, c2, Nat.eq_of_beq_eq_true c3, fun c hc => of_decide_eq_true (List.all_eq_true.mp c4 c hc)⟩
theorem icod_in {t n : Nat} (hs : (t, n) ∈ saL) (j : Nat) : 0 ≤ (icod t).getD j 0 ∧ (icod t).getD j 0 ≤ 127 := by
  obtain ⟨q, -, -, -, h⟩ := icod_of hs
  rw [List.getD_eq_getElem?_getD]
  cases hc : (icod t)[j]? with
  | none => exact ⟨by decide, by decide⟩
  | some y => exact h y (List.mem_of_getElem? hc)
theorem to_saIntx {t n : Nat} {i y : Int} (hs : (t, n) ∈ saL) (hy : (icod t).getD i.toNat 0 = y) (hd : decode E.1 pc = .ok (.iaload, 1)) (hi : 0 ≤ i ∧ i < n) (k0 : To l E (pc + 1, L, .inl y :: st, h, k, z) F) : To l E (pc, L, .inl i :: .inr (.inr t) :: st, h, k, z) F := by
  have hn := sa_n hs
  obtain ⟨q, e, h1, -, -⟩ := icod_of hs
  subst hy
  rw [e]
  exact to_ialdX (q := q) h1 hd (by omega) hi k0
end TOZ
