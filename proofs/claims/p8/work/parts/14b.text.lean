/-! The texts' bytes, exactly. -/
def cod0 (t : Nat) : List Int := match xT.find? (fun x => Nat.beq x.1 (t - 1000000 + 1)) with
  | some x => x.2.2.2
  | none => []
def codC (q : Nat × Nat) : Bool := Nat.ble 1000000 q.1 && (decide ((q.1 - 1000000 + 1, FieldType.byte, q.2, cod0 q.1) ∈ xT) && (Nat.beq (cod0 q.1).length q.2 && (cod0 q.1).all (fun c => decide (0 ≤ c ∧ c ≤ 127))))
theorem codC_all : strL.all codC = true := by decide +kernel
/-- cod0 behind a veil: Lean's kernel shall not look into it -/
theorem codE : ∃ f : Nat → List Int, f = cod0 := ⟨_, rfl⟩
noncomputable def cod : Nat → List Int := Classical.choose codE
theorem cod_eq (t : Nat) : cod t = cod0 t := congrFun (Classical.choose_spec codE) t
theorem cod_of {t n : Nat} (hs : (t, n) ∈ strL) : ∃ q : Nat, t = 1000000 + q ∧ (q + 1, FieldType.byte, n, cod t) ∈ xT ∧ (cod t).length = n ∧ ∀ c ∈ cod t, 0 ≤ c ∧ c ≤ 127 := by
  have h1 := List.all_eq_true.mp codC_all _ hs
  unfold codC at h1
  rw [← cod_eq] at h1
  simp only [Bool.and_eq_true, decide_eq_true_eq] at h1
  obtain ⟨c1, c2, c3, c4⟩ := h1
  have c1 := Nat.le_of_ble_eq_true c1
  refine ⟨t - 1000000, by omega, c2, Nat.eq_of_beq_eq_true c3, fun c hc => of_decide_eq_true (List.all_eq_true.mp c4 c hc)⟩
theorem cod_in {t n : Nat} (hs : (t, n) ∈ strL) (j : Nat) : 0 ≤ (cod t).getD j 0 ∧ (cod t).getD j 0 ≤ 127 := by
  obtain ⟨q, -, -, -, h⟩ := cod_of hs
  rw [List.getD_eq_getElem?_getD]
  cases hc : (cod t)[j]? with
  | none => exact ⟨by decide, by decide⟩
  | some y => exact h y (List.mem_of_getElem? hc)
theorem cod_len {t n : Nat} (hs : (t, n) ∈ strL) : (cod t).length = n := by
  obtain ⟨q, -, -, h, -⟩ := cod_of hs
  exact h
section TOS
variable {l : Launch} {E : ME} {pc : Nat} {L : LL} {st : List V} {h : Hp} {k z : Nat} {F : Option V → Hp → Nat → Nat → Prop}
theorem to_strBytex {t n : Nat} {i y : Int} (hs : (t, n) ∈ strL) (hy : (cod t).getD i.toNat 0 = y) (hd : decode E.1 pc = .ok (.baload, 1)) (hi : 0 ≤ i ∧ i < n) (k0 : To l E (pc + 1, L, .inl y :: st, h, k, z) F) : To l E (pc, L, .inl i :: .inr (.inr (t + 1)) :: st, h, k, z) F := by
  have hn := str_n hs
  obtain ⟨q, e, h1, -, -⟩ := cod_of hs
  subst hy
  rw [e, Nat.add_assoc]
  exact to_baldX (q := q + 1) h1 hd (by omega) hi k0
end TOS
/-- bytes as numbers from 0 to 255 -/
theorem mod_eq {v c : Int} (hv : -128 ≤ v ∧ v ≤ 127) (hc : 0 ≤ c ∧ c ≤ 127) : v % 256 = c ↔ v = c := by omega
