/-! Both sides alike, between two calls. -/
def TE (h : Hp) : Prop := RD h ∧ TP h ∧ TGW h
section TES
variable {S1 S2 : List Nat} {h H1 H2 : Hp}
theorem TE.keep (t : TE h) (hI : Inv h) (i1 : Inv H1) (f1 : Fr S1 h H1) (f2 : Fr S2 H1 H2) (s1 : (no2 2 61 S1 && (no2 4 62 S1 && tgW S1)) = true) (s2 : (no2 2 61 S2 && (no2 4 62 S2 && tgW S2)) = true) : TE H2 := by
  simp only [Bool.and_eq_true] at s1 s2
  exact ⟨(t.1.fr hI f1 s1.1).fr i1 f2 s2.1, (t.2.1.fr hI f1 s1.2.1).fr i1 f2 s2.2.1, (t.2.2.fr hI f1 s1.2.2).fr i1 f2 s2.2.2⟩
theorem TE.feed {a b c d e : Int} (t : TE h) (hI : Inv h) (i1 : Inv H1) (f1 : Fr S1 h H1) (f2 : Fr S2 H1 H2) (s1 : (no2 4 62 S1 && tgW S1) = true) (s2 : (no2 2 2 S2 && (no2 4 62 S2 && tgW S2)) = true) (u1 : H1.2.2 2 1 = 20) (u2 : ∀ j : Nat, j < 20 → H1.2.2 3 j = rdyF a b c d e j) (v : ∀ j : Nat, j < 20 → H2.2.2 61 j = rdyF a b c d e j) : TE H2 := by
  simp only [Bool.and_eq_true] at s1 s2
  have s3 := (no2_of s2.1).1
  refine ⟨⟨(f2.getF i1 (a := 2) (j := 1) (by decide) s3).trans u1, fun j hj => ?_⟩, (t.2.1.fr hI f1 s1.1).fr i1 f2 s2.2.1, (t.2.2.fr hI f1 s1.2).fr i1 f2 s2.2.2⟩
  rw [f2.arr i1 (a := 3) (by decide) (fun _ => s3), u2 j hj, v j hj]
theorem TE.zero (t : TE h) (hI : Inv h) (i1 : Inv H1) (f1 : Fr S1 h H1) (f2 : Fr S2 H1 H2) (s1 : (no2 2 61 S1 && tgW S1) = true) (s2 : (no2 2 61 S2 && (no2 4 4 S2 && tgW S2)) = true) (z : H1.2.2 4 1 = 0) : TE H2 := by
  simp only [Bool.and_eq_true] at s1 s2
  exact ⟨(t.1.fr hI f1 s1.1).fr i1 f2 s2.1, TP.z ((f2.getF i1 (a := 4) (j := 1) (by decide) (no2_of s2.2.1).1).trans z), (t.2.2.fr hI f1 s1.2).fr i1 f2 s2.2.2⟩
theorem TE.end {n x1 x2 : Int} (t : TE h) (hI : Inv h) (i1 : Inv H1) (f1 : Fr S1 h H1) (f2 : Fr S2 H1 H2) (s1 : (no2 61 62 S1 && (no2 203 203 S1 && tgW S1)) = true) (s2 : (no2 2 4 S2 && tgW S2) = true) (ht : h.2.2 4 1 = h.2.2 60 3)
    (p1 : (x1 = -1 ∧ H1.2.2 4 1 = h.2.2 4 1 ∧ H1.2.2 2 1 = h.2.2 2 1 ∧ H1.2.2 5 = h.2.2 5 ∧ H1.2.2 3 = h.2.2 3 ∧ (n < 0 ∨ 20 < n ∨ 1200 < h.2.2 4 1 + n)) ∨ (x1 = h.2.2 4 1 + n ∧ H1.2.2 4 1 = h.2.2 4 1 + n ∧ H1.2.2 2 1 = 20 ∧ (0 ≤ n ∧ n ≤ 20 ∧ h.2.2 4 1 + n ≤ 1200) ∧ (∀ j : Nat, H1.2.2 5 j = if Int.toNat (h.2.2 4 1) ≤ j ∧ j < Int.toNat (h.2.2 4 1 + n) then h.2.2 3 (j - Int.toNat (h.2.2 4 1)) else h.2.2 5 j) ∧ ∀ j : Nat, j < 20 → H1.2.2 3 j = 0))
    (p2 : (x2 = -1 ∧ H2.2.2 60 3 = H1.2.2 60 3 ∧ H2.2.2 62 = H1.2.2 62 ∧ H2.2.2 61 = H1.2.2 61 ∧ (n < 0 ∨ 20 < n ∨ 1200 < H1.2.2 60 3 + n)) ∨ (x2 = H1.2.2 60 3 + n ∧ H2.2.2 60 3 = H1.2.2 60 3 + n ∧ (0 ≤ n ∧ n ≤ 20 ∧ H1.2.2 60 3 + n ≤ 1200) ∧ (∀ j : Nat, H2.2.2 62 j = if Int.toNat (H1.2.2 60 3) ≤ j ∧ j < Int.toNat (H1.2.2 60 3 + n) then H1.2.2 61 (j - Int.toNat (H1.2.2 60 3)) else H1.2.2 62 j) ∧ ∀ j : Nat, j < 20 → H2.2.2 61 j = 0)) : TE H2 := by
  simp only [Bool.and_eq_true] at s1 s2
  obtain ⟨a1, a2⟩ := no2_of s1.1
  obtain ⟨a3, -⟩ := no2_of s1.2.1
  obtain ⟨b1, b2⟩ := no2_of s2.1
  have e3 : H2.2.2 3 = H1.2.2 3 := f2.arr i1 (a := 3) (by decide) (fun _ => b1)
  have e5 : H2.2.2 5 = H1.2.2 5 := f2.arr i1 (a := 5) (by decide) (fun _ => b2)
  have e21 : H2.2.2 2 1 = H1.2.2 2 1 := f2.getF i1 (a := 2) (j := 1) (by decide) b1
  have e41 : H2.2.2 4 1 = H1.2.2 4 1 := f2.getF i1 (a := 4) (j := 1) (by decide) b2
  have k61 : H1.2.2 61 = h.2.2 61 := f1.arr hI (a := 61) (by decide) (fun _ => a1)
  have k62 : H1.2.2 62 = h.2.2 62 := f1.arr hI (a := 62) (by decide) (fun _ => a2)
  have k3 : H1.2.2 60 3 = h.2.2 60 3 := f1.getF hI (a := 60) (j := 3) (by decide) a3
  have r41 := hI.atR (a := 4) (j := 1) rfl
  have hq : TGW H2 := (t.2.2.fr hI f1 s1.2.2).fr i1 f2 s2.2
  obtain ⟨⟨t1, t2⟩, t3, -⟩ := t
  rw [← ht] at k3
  rw [k3] at p2
  rcases p1 with ⟨-, c1, c2, c3, c4, c5⟩ | ⟨-, c1, c2, c3, c4, c5⟩
  · rcases p2 with ⟨-, -, d2, d3, -⟩ | ⟨-, -, d2, -⟩
    · refine ⟨⟨by omega, fun j hj => ?_⟩, fun j hj => ?_, hq⟩
      · rw [e3, c4, d3, k61]
        exact t2 j hj
      · rw [e41, c1] at hj
        rw [e5, c3, d2, k62]
        exact t3 j hj
    · omega
  · rcases p2 with ⟨-, -, -, -, d4⟩ | ⟨-, -, -, d4, d5⟩
    · omega
    · refine ⟨⟨by omega, fun j hj => ?_⟩, fun j hj => ?_, hq⟩
      · rw [e3, c5 j hj, d5 j hj]
      · rw [e41, c1] at hj
        rw [e5, c4 j, d4 j, k61, k62]
        by_cases c : Int.toNat (h.2.2 4 1) ≤ j ∧ j < Int.toNat (h.2.2 4 1 + n)
        · rw [if_pos c, if_pos c]
          exact t2 _ (by omega)
        · rw [if_neg c, if_neg c]
          exact t3 j (by omega)
/-- the tags are told apart -/
theorem TE.keepW (t : TE h) (hI : Inv h) (i1 : Inv H1) (f1 : Fr S1 h H1) (f2 : Fr S2 H1 H2) (s1 : (no2 2 61 S1 && no2 4 62 S1) = true) (s2 : (no2 2 61 S2 && no2 4 62 S2) = true) (w : TGW H2) : TE H2 := by
  simp only [Bool.and_eq_true] at s1 s2
  exact ⟨(t.1.fr hI f1 s1.1).fr i1 f2 s2.1, (t.2.1.fr hI f1 s1.2).fr i1 f2 s2.2, w⟩
theorem TE.zeroW (t : TE h) (hI : Inv h) (i1 : Inv H1) (f1 : Fr S1 h H1) (f2 : Fr S2 H1 H2) (s1 : no2 2 61 S1 = true) (s2 : (no2 2 61 S2 && no2 4 4 S2) = true) (z : H1.2.2 4 1 = 0) (w : TGW H2) : TE H2 := by
  simp only [Bool.and_eq_true] at s2
  exact ⟨(t.1.fr hI f1 s1).fr i1 f2 s2.1, TP.z ((f2.getF i1 (a := 4) (j := 1) (by decide) (no2_of s2.2).1).trans z), w⟩
theorem TE.add (t : TE h) (hI : Inv h) (i1 : Inv H1) (f1 : Fr S1 h H1) (f2 : Fr S2 H1 H2) (s1 : (no2 2 61 S1 && no2 62 62 S1) = true) (s2 : (no2 2 61 S2 && no2 4 62 S2) = true) (g : H1.2.2 4 1 = 0 ∨ (H1.2.2 4 1 = h.2.2 4 1 ∧ H1.2.2 5 = h.2.2 5)) (w : TGW H2) : TE H2 := by
  simp only [Bool.and_eq_true] at s1 s2
  refine ⟨(t.1.fr hI f1 s1.1).fr i1 f2 s2.1, ?_, w⟩
  refine TP.fr ?_ i1 f2 s2.2
  rcases g with g | ⟨g1, g2⟩
  · exact TP.z g
  · intro j hj
    rw [g1] at hj
    rw [g2, f1.arr hI (a := 62) (by decide) (fun _ => (no2_of s1.2).1)]
    exact t.2.1 j hj
end TES
