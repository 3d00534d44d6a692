/-! The start: what holds of the two objects when they are made. -/
def TB_106 : List (Nat × Ty) := (105, .inl (3, 1)) :: TB_105
def hsT (b : Hp) : Hp := hpx b 106 TB_106 WB_45
def colOut (c a : Nat) : Bool := match colT[a]? with
  | none => false
  | some t => match t with
    | .inl q => !(Nat.beq q c)
    | .inr r => r.all (fun q => !(Nat.beq q c)) && !(Nat.beq 0 c)
theorem no1 {c x : Nat} (h : (!(Nat.beq x c)) = true) : ([c] : List Nat).contains x = false := by
  have h1 : x ≠ c := fun e => by
    subst e
    rw [Nat.beq_refl] at h
    cases h
  simp [h1]
theorem colOut_ok {c a j : Nat} {t : Option Ty} (h : colOut c a = true) : ([c] : List Nat).contains (col t a j) = false := by
  unfold colOut at h
  unfold col
  cases hc : colT[a]? with
  | none => rw [hc] at h; cases h
  | some q =>
    rw [hc] at h
    rcases q with q | r
    · exact no1 h
    · simp only [Bool.and_eq_true] at h
      show ([c] : List Nat).contains (match r[j]? with | some q => q | none => 0) = false
      cases hj : r[j]? with
      | none => exact no1 h.2
      | some q => exact no1 (List.all_eq_true.mp h.1 q (List.mem_of_getElem? hj))
theorem lkW_congr {W : List (Nat × Nat × Int)} {f f' : Nat → Nat → Int} {a : Nat} (h : ∀ j, f a j = f' a j) (j : Nat) : lkW W f a j = lkW W f' a j := by
  induction W with
  | nil => exact h j
  | cons q r ih =>
    unfold lkW
    cases Nat.beq a q.1 && Nat.beq j q.2.1 with
    | true => rfl
    | false => exact ih
theorem lkT_out {T : List (Nat × Ty)} {f : Nat → Option Ty} {a : Nat} (h : T.all (fun q => !(Nat.beq a q.1)) = true) : lkT T f a = f a := by
  induction T with
  | nil => rfl
  | cons q r ih =>
    rw [List.all_cons, Bool.and_eq_true] at h
    have h1 : Nat.beq a q.1 = false := by simpa using h.1
    unfold lkT
    rw [h1]
    exact ih h.2
theorem allNe {α : Type} {L : List (Nat × α)} {a n : Nat} (h : L.all (fun q => Nat.blt q.1 n) = true) (ha : n ≤ a) : L.all (fun q => !(Nat.beq a q.1)) = true := by
  refine List.all_eq_true.mpr fun q hq => ?_
  have h1 := Nat.blt_eq.mp (List.all_eq_true.mp h q hq)
  cases hb : Nat.beq a q.1 with
  | false => rfl
  | true => have := Nat.eq_of_beq_eq_true hb; omega
theorem fixTy_lt {a : Nat} {t : Ty} (e : fixTy a = some t) : 0 < a ∧ a < 106 := by
  unfold fixTy at e
  cases hf : fixT[a]? with
  | none => rw [hf] at e; cases e
  | some q =>
    have h1 : a < fixT.length := (List.getElem?_eq_some_iff.mp hf).1
    have h2 : a < 106 := h1
    refine ⟨?_, h2⟩
    rcases Nat.eq_zero_or_pos a with h0 | h0
    · subst h0
      rw [hf] at e
      have h3 : fixT[0]? = some none := rfl
      rw [h3] at hf
      cases hf
      cases e
    · exact h0
theorem rg_lt {a j : Nat} {q : Int × Int} (e : rg a j = some q) : a < 106 := by
  unfold rg at e
  cases hf : rgT[a]? with
  | none => rw [hf] at e; cases e
  | some q => exact (List.getElem?_eq_some_iff.mp hf).1
theorem lkB_fix : ∀ a, a < 106 → lkT TB_106 (lkT TA_60 (fun _ => none)) a = fixTy a := by decide +kernel
theorem colA_out : ∀ a, a < 60 → a ≠ 2 → a ≠ 3 → colOut 2 a = true := by decide +kernel
theorem rgB_all : rgW WB_45 60 = true := by decide +kernel
theorem rg0_all : ∀ a, a < 106 → 60 < a → rgW [] a = true := by decide +kernel
def genC (a : Nat) : Bool := match fixTy a with
  | none => true
  | some t => match t with
    | .inr _ => true
    | .inl q => Nat.ble q.2 67108864 && (match rgT[a]? with
      | none => false
      | some t => match t with
        | .inr _ => false
        | .inl o => match o with
          | none => Nat.ble 3 (q.1 % 10)
          | some r => genF (some (.inl q)) r.1 r.2)
theorem genC_ok {h : Hp} (hR : Rg h) {a k n : Nat} (hf : fixTy a = some (.inl (k, n))) (hc : genC a = true) : n ≤ 67108864 ∧ ∀ j, gk k (h.2.2 a j) := by
  unfold genC at hc
  rw [hf] at hc
  simp only [Bool.and_eq_true] at hc
  obtain ⟨h1, h2⟩ := hc
  refine ⟨Nat.le_of_ble_eq_true h1, fun j => ?_⟩
  cases hr : rgT[a]? with
  | none => rw [hr] at h2; cases h2
  | some t =>
    rw [hr] at h2
    rcases t with q | r
    · rcases q with _ | r
      · have h3 : 3 ≤ k % 10 := Nat.le_of_ble_eq_true h2
        unfold gk
        split <;> first | omega | trivial
      · have e : rg a j = some r := by
          unfold rg
          rw [hr]
        exact genF_ok (n := n) (lo := r.1) (hi := r.2) h2 (hR a j r.1 r.2 e)
    · cases h2
theorem genC_all : ∀ a, a < 106 → genC a = true := by decide +kernel
theorem fix_no5 : ∀ a, a < 106 → fixTy a ≠ some (.inr 5) := by decide +kernel
def no20 (a : Nat) : Bool := match fixTy a with
  | none => true
  | some t => match t with
    | .inr _ => true
    | .inl q => !(Nat.beq q.1 20)
theorem no20_all : ∀ a, a < 106 → no20 a = true := by decide +kernel
section START
variable {b : Hp}
theorem st_val (hF : Fr [2] (hpx hp0 60 TA_60 WA_73) (hpx b 60 [] [])) {a j : Nat} (ha : a < 60) (h2 : colOut 2 a = true) : (hsT b).2.2 a j = lkW WA_73 (fun _ _ => 0) a j := by
  have e1 : (hsT b).2.2 a j = b.2.2 a j := lkW_no (List.all_eq_true.mpr fun w hw => by
    have h1 := Nat.eq_of_beq_eq_true (List.all_eq_true.mp (show WB_45.all (fun w => Nat.beq w.1 60) = true by decide +kernel) w hw)
    cases hb : Nat.beq a w.1 with
    | false => rfl
    | true => have := Nat.eq_of_beq_eq_true hb; omega) j
  have e2 := hF.2.1 a j ha (colOut_ok h2)
  exact e1.trans e2
theorem st_23 {a j : Nat} (ha : a < 60) : (hsT b).2.2 a j = (hpx b 60 [] []).2.2 a j := lkW_no (List.all_eq_true.mpr fun w hw => by
    have h1 := Nat.eq_of_beq_eq_true (List.all_eq_true.mp (show WB_45.all (fun w => Nat.beq w.1 60) = true by decide +kernel) w hw)
    cases hb : Nat.beq a w.1 with
    | false => rfl
    | true => have := Nat.eq_of_beq_eq_true hb; omega) j
theorem st_zero (hB : BB (hpx b 60 [] [])) {a j : Nat} (ha : 60 < a) : (hsT b).2.2 a j = 0 := by
  have e1 : (hsT b).2.2 a j = b.2.2 a j := lkW_no (List.all_eq_true.mpr fun w hw => by
    have h1 := Nat.eq_of_beq_eq_true (List.all_eq_true.mp (show WB_45.all (fun w => Nat.beq w.1 60) = true by decide +kernel) w hw)
    cases hb : Nat.beq a w.1 with
    | false => rfl
    | true => have := Nat.eq_of_beq_eq_true hb; omega) j
  exact e1.trans (hB.2.2.2 a j (by omega))
theorem st_60 (hB : BB (hpx b 60 [] [])) {j : Nat} : (hsT b).2.2 60 j = lkW WB_45 (fun _ _ => 0) 60 j := lkW_congr (fun j => hB.2.2.2 60 j (Nat.le_refl _)) j
theorem st_fix (hB : BB (hpx b 60 [] [])) (a : Nat) : (hsT b).2.1 a = fixTy a := by
  have e0 : b.2.1 = lkT TA_60 (fun _ => none) := funext fun a => congrFun hB.2.1 a
  show lkT TB_106 b.2.1 a = fixTy a
  rw [e0]
  by_cases ha : a < 106
  · exact lkB_fix a ha
  · rw [lkT_out (allNe (n := 106) (by decide +kernel) (by omega)), lkT_out (allNe (n := 106) (by decide +kernel) (by omega))]
    cases hf : fixTy a with
    | none => rfl
    | some t => exact absurd (fixTy_lt hf).2 ha
theorem st_sh (hB : BB (hpx b 60 [] [])) : Sh (hsT b) := ⟨Nat.le_refl 106, by show (106 : Nat) ≤ 900000; decide, fun a t e => (st_fix hB a).trans e, fun a t e => by
  have h1 := fixTy_lt ((st_fix hB a).symm.trans e)
  exact ⟨h1.1, h1.2⟩⟩
theorem st_rg (hB : BB (hpx b 60 [] [])) (hF : Fr [2] (hpx hp0 60 TA_60 WA_73) (hpx b 60 [] [])) : Rg (hsT b) := by
  intro a j lo hi e
  have h6 := rg_lt e
  by_cases h60 : a < 60
  · by_cases h23 : a = 2 ∨ a = 3
    · rw [st_23 h60]
      exact hB.2.2.1 a j lo hi (by omega) e
    · rw [st_val hF h60 (colA_out a h60 (by omega) (by omega))]
      exact rgW_ok (List.all_eq_true.mp rgA_all a (List.mem_range.mpr h60)) e
  · by_cases h61 : a = 60
    · subst h61
      rw [st_60 hB]
      exact rgW_ok rgB_all e
    · rw [st_zero hB (by omega)]
      exact rgW_ok (W := []) (rg0_all a h6 (by omega)) e
theorem st_gen (hB : BB (hpx b 60 [] [])) (hF : Fr [2] (hpx hp0 60 TA_60 WA_73) (hpx b 60 [] [])) : Gen (hsT b) := fun a k n e => by
  have hf := (st_fix hB a).symm.trans e
  exact genC_ok (st_rg hB hF) hf (genC_all a (fixTy_lt hf).2)
theorem st_v {b : Hp} (hF : Fr [2] (hpx hp0 60 TA_60 WA_73) (hpx b 60 [] [])) (a j : Nat) (x : Int) (h : (Nat.blt a 60 && (colOut 2 a && decide (lkW WA_73 (fun _ _ => 0) a j = x))) = true) : (hsT b).2.2 a j = x := by
  simp only [Bool.and_eq_true] at h
  rw [st_val hF (Nat.blt_eq.mp h.1) h.2.1]
  exact of_decide_eq_true h.2.2
theorem st_bkR (hB : BB (hpx b 60 [] [])) (hF : Fr [2] (hpx hp0 60 TA_60 WA_73) (hpx b 60 [] [])) : BkR (hsT b) 8 60 10 11 12 13 64 65 64 512 ∧ BkR (hsT b) 14 70 16 17 18 19 64 65 64 512 ∧ BkR (hsT b) 20 80 22 23 24 25 64 65 64 512 := by
  refine ⟨⟨⟨st_v hF _ _ _ (by decide +kernel), st_v hF _ _ _ (by decide +kernel), st_v hF _ _ _ (by decide +kernel), st_v hF _ _ _ (by decide +kernel)⟩, ⟨(st_fix hB _).trans rfl, (st_fix hB _).trans rfl, (st_fix hB _).trans rfl, (st_fix hB _).trans rfl⟩, by decide, by decide, by decide, by decide⟩, ⟨⟨st_v hF _ _ _ (by decide +kernel), st_v hF _ _ _ (by decide +kernel), st_v hF _ _ _ (by decide +kernel), st_v hF _ _ _ (by decide +kernel)⟩, ⟨(st_fix hB _).trans rfl, (st_fix hB _).trans rfl, (st_fix hB _).trans rfl, (st_fix hB _).trans rfl⟩, by decide, by decide, by decide, by decide⟩, ⟨⟨st_v hF _ _ _ (by decide +kernel), st_v hF _ _ _ (by decide +kernel), st_v hF _ _ _ (by decide +kernel), st_v hF _ _ _ (by decide +kernel)⟩, ⟨(st_fix hB _).trans rfl, (st_fix hB _).trans rfl, (st_fix hB _).trans rfl, (st_fix hB _).trans rfl⟩, by decide, by decide, by decide, by decide⟩⟩
theorem BkR.bk {h : Hp} {b w nx st rd rw_ nn ns nr nw : Nat} (r : BkR h b w nx st rd rw_ nn ns nr nw) : Bk h b w := by
  obtain ⟨⟨e1, e2, e3, e4⟩, ⟨t1, t2, t3, t4⟩, p1, p2, p3, p4⟩ := r
  exact ⟨nx, st, rd, rw_, nn, ns, nr, nw, e1, e2, e3, e4, t1, t2, t3, t4, p1, p2, p3, p4⟩
theorem st_inv (hB : BB (hpx b 60 [] [])) (hF : Fr [2] (hpx hp0 60 TA_60 WA_73) (hpx b 60 [] [])) : Inv (hsT b) := by
  have k := st_bkR hB hF
  refine ⟨st_sh hB, st_rg hB hF, st_gen hB hF, fun a e => ?_, fun a n e => ?_, ?_, k.1.bk, k.2.1.bk, k.2.2.bk⟩
  · have hf := (st_fix hB a).symm.trans e
    exact absurd hf (fix_no5 a (fixTy_lt hf).2)
  · have hf := (st_fix hB a).symm.trans e
    have h1 := no20_all a (fixTy_lt hf).2
    unfold no20 at h1
    rw [hf] at h1
    cases h1
  · exact ⟨0, st_v hF _ _ _ (by decide +kernel), by decide, Or.inl ⟨st_v hF _ _ _ (by decide +kernel), rfl⟩⟩
theorem BkR.w0 {h : Hp} {b w nx st rd rw_ : Nat} (r : BkR h b w nx st rd rw_ 64 65 64 512) (h5 : h.2.2 b 5 = 0) (h0 : h.2.2 st 0 = 0) : BkW h b w ∧ WB h b = 0 ∧ PB h b = 1472 := by
  have v := r.vals
  rw [h5] at v
  have v2 : WB h b = h.2.2 st 0 := v.2
  refine ⟨⟨nx, st, rd, rw_, 64, 65, 64, 512, r, ?_⟩, by omega, by omega⟩
  unfold BkN
  rw [h5]
  show (65 : Nat) = 64 + 1 ∧ (64 : Nat) = 64 ∧ (1 : Nat) ≤ 64 ∧ (0 : Int) ≤ ((64 : Nat) : Int) ∧ 0 ≤ h.2.2 st 0 ∧ ((512 : Nat) : Int) ≤ 2 * h.2.2 st 0 + 1000 ∧ ((64 : Nat) : Int) ≤ 2 * 0 + 64
  rw [h0]
  decide
theorem st_wi (hB : BB (hpx b 60 [] [])) (hF : Fr [2] (hpx hp0 60 TA_60 WA_73) (hpx b 60 [] [])) {z : Nat} (hz : z ≤ 1200000) : WI 0 105 z (hsT b) := by
  have hI := st_inv hB hF
  have k := st_bkR hB hF
  have a5 : (hsT b).2.2 8 5 = 0 := st_v hF _ _ _ (by decide +kernel)
  have b5 : (hsT b).2.2 14 5 = 0 := st_v hF _ _ _ (by decide +kernel)
  have c5 : (hsT b).2.2 20 5 = 0 := st_v hF _ _ _ (by decide +kernel)
  have a0 := k.1.w0 a5 (st_v hF _ _ _ (by decide +kernel))
  have b0 := k.2.1.w0 b5 (st_v hF _ _ _ (by decide +kernel))
  have c0 := k.2.2.w0 c5 (st_v hF _ _ _ (by decide +kernel))
  have e3 : (hsT b).2.2 60 3 = 0 := (st_60 hB).trans (by decide +kernel)
  have e4 : (hsT b).2.2 60 4 = 0 := (st_60 hB).trans (by decide +kernel)
  have e5 : (hsT b).2.2 60 5 = 0 := (st_60 hB).trans (by decide +kernel)
  have e12 : (hsT b).2.2 60 12 = -1 := (st_60 hB).trans (by decide +kernel)
  have e26 : (hsT b).2.2 26 2 = 0 := st_v hF _ _ _ (by decide +kernel)
  have e15 : (hsT b).2.2 1 15 = 0 := st_v hF _ _ _ (by decide +kernel)
  have e41 : (hsT b).2.2 4 1 = 0 := st_v hF _ _ _ (by decide +kernel)
  have en : nums (hsT b) = [] := by
    unfold nums
    rw [e26]
    rfl
  refine ⟨hI, ⟨⟨a0.1, b0.1, c0.1⟩, ?_, ?_, rfl, by omega, ?_⟩, ⟨Or.inl e12, fun i _ => st_zero hB (by decide), by rw [e4]; decide, ?_⟩, ?_, by rw [e41, e3]⟩
  · unfold WT
    omega
  · unfold ET
    omega
  · unfold PT
    omega
  · rw [e4, e3, ssum0]
    decide
  · unfold Cor
    rw [en, e4, e5, e26, e15]
    refine ⟨List.Pairwise.nil, fun m hm => (by cases hm), fun j hj => (by omega), rfl, rfl⟩
end START
