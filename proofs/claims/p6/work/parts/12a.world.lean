/-! The world between two calls of the law. -/
/-- of the reference: who came, how many bytes were fed -/
def Rf (n : Nat) (h : Hp) : Prop := Cch h ∧ IsOK h ∧ h.2.2 60 4 ≤ n ∧ ssum h (h.2.2 60 4) + h.2.2 60 3 ≤ 20 * n
def WI (n k z : Nat) (h : Hp) : Prop := Inv h ∧ (Bks h ∧ WT h ≤ 5880 * n ∧ ET h ≤ 1420 * n ∧ h.1 = k + 1 ∧ k ≤ 7200 * n + 105 ∧ (z : Int) ≤ PT h + 1520 * n + 1200000) ∧ Rf n h ∧ Cor h ∧ h.2.2 4 1 = h.2.2 60 3
/-- what the class's calls leave -/
def xout (S : List Nat) : Bool := !S.contains 64 && (!S.contains 65 && (!S.contains 69 && (!S.contains 203 && (!S.contains 204 && (!S.contains 205 && !S.contains 212)))))
/-- what the reference's calls leave -/
def mout (S : List Nat) : Bool := kcols S && (!S.contains 999 && (!S.contains 26 && (!S.contains 313 && (!S.contains 330 && (!S.contains 125 && !S.contains 4)))))
/-- what most calls leave -/
def sout (S : List Nat) : Bool := !S.contains 26 && (!S.contains 313 && (!S.contains 330 && (!S.contains 125 && (!S.contains 65 && (!S.contains 204 && !S.contains 205)))))
theorem x_keep {S : List Nat} {h H : Hp} (hI : Inv h) (f : Fr S h H) (hs : xout S = true) : H.2.2 64 = h.2.2 64 ∧ H.2.2 65 = h.2.2 65 ∧ H.2.2 69 = h.2.2 69 ∧ H.2.2 60 3 = h.2.2 60 3 ∧ H.2.2 60 4 = h.2.2 60 4 ∧ H.2.2 60 5 = h.2.2 60 5 ∧ H.2.2 60 12 = h.2.2 60 12 := by
  unfold xout at hs
  simp only [Bool.and_eq_true, Bool.not_eq_true'] at hs
  obtain ⟨s1, s2, s3, s4, s5, s6, s7⟩ := hs
  exact ⟨f.arr hI (by decide) (fun _ => s1), f.arr hI (by decide) (fun _ => s2), f.arr hI (by decide) (fun _ => s3), f.getF hI (by decide) s4, f.getF hI (by decide) s5, f.getF hI (by decide) s6, f.getF hI (by decide) s7⟩
theorem Rf.x {n : Nat} {S : List Nat} {h H : Hp} (r : Rf n h) (hI : Inv h) (f : Fr S h H) (hs : xout S = true) : Rf n H := by
  obtain ⟨e1, e2, e3, e4, e5, e6, e7⟩ := x_keep hI f hs
  obtain ⟨r1, r2, r3, r4⟩ := r
  refine ⟨?_, ?_, by rw [e5]; exact r3, ?_⟩
  · unfold Cch
    rw [e7, e5, e3, e1]
    exact r1
  · unfold IsOK
    rw [e5, e2]
    exact r2
  · unfold ssum
    rw [e5, e4, e1]
    exact r4
/-- a call of the reference that lets nobody come -/
theorem Rf.m {n : Nat} {S : List Nat} {h H : Hp} (r : Rf n h) (hI : Inv h) (f : Fr S h H) (hs : (!S.contains 64 && (!S.contains 65 && !S.contains 204)) = true) (c : Cch H) (ht : H.2.2 60 3 ≤ h.2.2 60 3 + 20) : Rf (n + 1) H := by
  simp only [Bool.and_eq_true, Bool.not_eq_true'] at hs
  obtain ⟨s1, s2, s3⟩ := hs
  have e1 := f.arr hI (a := 64) (by decide) (fun _ => s1)
  have e2 := f.arr hI (a := 65) (by decide) (fun _ => s2)
  have e5 := f.getF hI (a := 60) (j := 4) (by decide) s3
  obtain ⟨r1, r2, r3, r4⟩ := r
  refine ⟨c, ?_, by rw [e5]; omega, ?_⟩
  · unfold IsOK
    rw [e5, e2]
    exact r2
  · unfold ssum at r4 ⊢
    rw [e5, e1]
    omega
theorem Cor.keep {S : List Nat} {h H : Hp} (c : Cor h) (hI : Inv h) (f : Fr S h H) (hs : sout S = true) : Cor H := by
  unfold sout at hs
  simp only [Bool.and_eq_true, Bool.not_eq_true'] at hs
  obtain ⟨s1, s2, s3, s4, s5, s6, s7⟩ := hs
  refine c.same (nums_fr f hI (by rw [s1, s2, s3]; rfl)) (f.getF hI (by decide) s1) (f.getF hI (by decide) s4) (f.getF hI (by decide) s6) (f.getF hI (by decide) s7) (f.arr hI (by decide) (fun _ => s5))
theorem m_keep {S : List Nat} {h H : Hp} (hI : Inv h) (f : Fr S h H) (hs : mout S = true) : nums H = nums h ∧ H.2.2 26 2 = h.2.2 26 2 ∧ H.2.2 1 15 = h.2.2 1 15 ∧ H.2.2 4 1 = h.2.2 4 1 ∧ H.1 = h.1 ∧ (PT H = PT h ∧ WT H = WT h ∧ ET H = ET h ∧ (Bks h → Bks H)) := by
  unfold mout at hs
  simp only [Bool.and_eq_true, Bool.not_eq_true'] at hs
  obtain ⟨s1, s2, s3, s4, s5, s6, s7⟩ := hs
  exact ⟨nums_fr f hI (by rw [s3, s4, s5]; rfl), f.getF hI (by decide) s3, f.getF hI (by decide) s6, f.getF hI (by decide) s7, f.2.2 s2, books_fr f hI s1⟩
/-- one more call of both -/
theorem WI.go {n k z mc ms : Nat} {h H1 H2 : Hp} {S1 S2 : List Nat} (w : WI n k z h) (i1 : Inv H1) (f1 : Fr S1 h H1) (e : ENL h H1 mc ms 1420 5880 1520) (i2 : Inv H2) (f2 : Fr S2 H1 H2) (m2 : mout S2 = true) (hc : Cor H2) (ht : H2.2.2 4 1 = H2.2.2 60 3) (hr : Rf (n + 1) H2) : WI (n + 1) (k + mc) (z + ms) H2 := by
  obtain ⟨w1, ⟨b1, b2, b3, b4, b5, b6⟩, w4, w5, w6⟩ := w
  obtain ⟨k1, k2, k3, k4, k5, p1, p2, p3, p4⟩ := m_keep i1 f2 m2
  obtain ⟨e1, ⟨e2, e3, e4, e5⟩, e6, e7, e8⟩ := e
  exact ⟨i2, ⟨p4 e1, by omega, by omega, by omega, by omega, by omega⟩, hr, hc, ht⟩
theorem WI.enl {n k z : Nat} {h H : Hp} {S : List Nat} (w : WI n k z h) (f : Fr S h H) (hs : (kcols S && !S.contains 999) = true) : ENL h H 0 0 1420 5880 1520 := ENL.fr (ENL.rf w.2.1.1 (by decide) (by decide) (by decide)) f w.1 hs
/-- both calls leave who is there and the tape -/
theorem WI.s0 {n k z mc ms : Nat} {h H1 H2 : Hp} {S1 S2 : List Nat} (w : WI n k z h) (i1 : Inv H1) (f1 : Fr S1 h H1) (e : ENL h H1 mc ms 1420 5880 1520) (x1 : (xout S1 && sout S1) = true) (t1 : H1.2.2 4 1 = h.2.2 4 1) (i2 : Inv H2) (f2 : Fr S2 H1 H2) (m2 : (mout S2 && (sout S2 && (!S2.contains 64 && !S2.contains 203))) = true) (c : Cch H2) : WI (n + 1) (k + mc) (z + ms) H2 := by
  simp only [Bool.and_eq_true] at x1 m2
  obtain ⟨q1, q2, q3, q4⟩ := m2
  have hI := w.1
  have r1 := w.2.2.1.x hI f1 x1.1
  have e3 : H2.2.2 60 3 = H1.2.2 60 3 := f2.getF i1 (by decide) (show S2.contains 203 = false by rw [Bool.not_eq_true'] at q4; exact q4)
  have q2' := q2
  unfold sout at q2'
  simp only [Bool.and_eq_true] at q2'
  refine w.go i1 f1 e i2 f2 q1 ((w.2.2.2.1.keep hI f1 x1.2).keep i1 f2 q2) ?_ (r1.m i1 f2 (by simp only [Bool.and_eq_true]; exact ⟨q3, q2'.2.2.2.2.1, q2'.2.2.2.2.2.1⟩) c (by omega))
  rw [(m_keep i1 f2 q1).2.2.2.1, t1, e3, (x_keep hI f1 x1.1).2.2.2.1]
  exact w.2.2.2.2
/-- both calls leave who is there, and bring the tape to the same length, longer by 20 at most -/
theorem WI.s1 {n k z mc ms : Nat} {h H1 H2 : Hp} {S1 S2 : List Nat} (w : WI n k z h) (i1 : Inv H1) (f1 : Fr S1 h H1) (e : ENL h H1 mc ms 1420 5880 1520) (x1 : (xout S1 && sout S1) = true) (i2 : Inv H2) (f2 : Fr S2 H1 H2) (m2 : (mout S2 && (sout S2 && !S2.contains 64)) = true) (c : Cch H2) (ht : H1.2.2 4 1 = H2.2.2 60 3) (hl : H2.2.2 60 3 ≤ H1.2.2 60 3 + 20) : WI (n + 1) (k + mc) (z + ms) H2 := by
  simp only [Bool.and_eq_true] at x1 m2
  obtain ⟨q1, q2, q3⟩ := m2
  have hI := w.1
  have r1 := w.2.2.1.x hI f1 x1.1
  have q2' := q2
  unfold sout at q2'
  simp only [Bool.and_eq_true] at q2'
  refine w.go i1 f1 e i2 f2 q1 ((w.2.2.2.1.keep hI f1 x1.2).keep i1 f2 q2) ?_ (r1.m i1 f2 (by simp only [Bool.and_eq_true]; exact ⟨q3, q2'.2.2.2.2.1, q2'.2.2.2.2.2.1⟩) c hl)
  rw [(m_keep i1 f2 q1).2.2.2.1]
  exact ht
/-- sizes: one more message of as many bytes as the tape had -/
theorem ssum_add {h H : Hp} {c t : Int} (h0 : 0 ≤ c) (e : ∀ j : Nat, H.2.2 64 j = if j = Int.toNat c then t else h.2.2 64 j) : ssum H (c + 1) = ssum h c + t := by
  rw [ssum_s h0, e c.toNat, if_pos rfl]
  congr 1
  unfold ssum
  exact sumN_congr _ fun i hi => by rw [e i, if_neg (by omega)]
/-- add -/
theorem WI.add {n k z mc ms : Nat} {h H1 H2 : Hp} {S1 : List Nat} {x : Int} (w : WI n k z h) (i1 : Inv H1) (f1 : Fr S1 h H1) (e : ENL h H1 mc ms 1420 5880 1520) (x1 : xout S1 = true)
    (g1 : (H1.2.2 4 1 = 0 ∧ H1.2.2 26 2 = h.2.2 26 2 + 1 ∧ (h.2.2 26 2 ≤ 59 ∧ h.2.2 1 15 ≤ 199 ∧ H1.2.2 1 15 = h.2.2 1 15 + 1) ∧ nums H1 = nums h ++ [h.2.2 1 15]) ∨ (H1.2.2 4 1 = h.2.2 4 1 ∧ H1.2.2 26 2 = h.2.2 26 2 ∧ (60 ≤ h.2.2 26 2 ∨ 200 ≤ h.2.2 1 15) ∧ H1.2.2 1 15 = h.2.2 1 15 ∧ nums H1 = nums h))
    (q : Q_X12_add_vbb H1 (some (.inl x)) H2 0 0) : WI (n + 1) (k + mc) (z + ms) H2 := by
  obtain ⟨-, -, x0, -, -, i2, f2, g2⟩ := q
  have hI := w.1
  obtain ⟨a1, a2, a3, a4, a5, a6, a7⟩ := x_keep hI f1 x1
  obtain ⟨k1, k2, k3, k4, k5, -⟩ := m_keep i1 f2 rfl
  have hr := w.2.2.1
  have hc := w.2.2.2.1
  have ht := w.2.2.2.2
  have c4 := hc.2.2.2.1
  have c5 := hc.2.2.2.2
  have l26 := hI.lsz
  have r15 := hI.atR (a := 1) (j := 15) rfl
  have r1 := hr.x hI f1 x1
  have e12 : H2.2.2 60 12 = H1.2.2 60 12 := f2.getF i1 (by decide) rfl
  have e69 : H2.2.2 69 = H1.2.2 69 := f2.arr i1 (by decide) (fun _ => rfl)
  rcases g1 with ⟨p1, p2, ⟨p3, p4, p5⟩, p6⟩ | ⟨p1, p2, p3, p4, p5⟩
  · rcases g2 with ⟨s1, -⟩ | ⟨-, s3, s4, s5, s6, s7⟩
    · omega
    · have hc1 : Cor H2 := hc.add (by omega) (by rw [k1]; exact p6) (by omega) (by omega) (by omega) (by omega) (fun j => by rw [s6, a5, a2])
      refine w.go i1 f1 e i2 f2 rfl hc1 (by omega) ⟨?_, ?_, ?_, ?_⟩
      · rcases r1.1 with r | ⟨b1, b2, b3, b4⟩
        · exact Or.inl (by omega)
        · refine Or.inr ⟨by omega, by omega, fun i hi => ?_, by rw [e69]; exact b4⟩
          rw [e69, e12, s7, if_neg (by omega)]
          exact b3 i hi
      · intro i hi
        rw [s6, if_neg (by omega)]
        exact r1.2.1 i (by omega)
      · have := r1.2.2.1
        omega
      · have := r1.2.2.2
        rw [s4, ssum_add (h := H1) (by omega) s7, s3]
        omega
  · rcases g2 with ⟨s1, s3, s4, s5, s6, s7⟩ | ⟨s1, -⟩
    · have hc1 : Cor H2 := hc.same (by rw [k1]; exact p5) (by omega) (by omega) (by omega) (by omega) (by rw [s6, a2])
      refine w.go i1 f1 e i2 f2 rfl hc1 (by omega) ⟨?_, ?_, ?_, ?_⟩
      · have := r1.1
        unfold Cch at this ⊢
        rw [e12, s4, e69, s7]
        exact this
      · have := r1.2.1
        unfold IsOK at this ⊢
        rw [s4, s6]
        exact this
      · have := r1.2.2.1
        omega
      · have := r1.2.2.2
        unfold ssum at this ⊢
        rw [s4, s7, s3]
        omega
    · omega
/-- remove -/
theorem WI.rem {n k z mc ms : Nat} {h H1 H2 : Hp} {S1 : List Nat} {m : Int} (w : WI n k z h) (i1 : Inv H1) (f1 : Fr S1 h H1) (e : ENL h H1 mc ms 1420 5880 1520) (x1 : (xout S1 && !S1.contains 125) = true) (t1 : H1.2.2 4 1 = h.2.2 4 1)
    (g1 : (H1.2.2 26 2 = h.2.2 26 2 - 1 ∧ ∃ i : Nat, (nums h)[i]? = some m ∧ nums H1 = (nums h).eraseIdx i) ∨ (H1.2.2 26 2 = h.2.2 26 2 ∧ m ∉ nums h ∧ nums H1 = nums h))
    (q : Q_X12_remove_vbb H1 m none H2 0 0) : WI (n + 1) (k + mc) (z + ms) H2 := by
  obtain ⟨-, -, -, i2, f2, g2⟩ := q
  simp only [Bool.and_eq_true, Bool.not_eq_true'] at x1
  have hI := w.1
  obtain ⟨a1, a2, a3, a4, a5, a6, a7⟩ := x_keep hI f1 x1.1
  have a15 : H1.2.2 1 15 = h.2.2 1 15 := f1.getF hI (by decide) x1.2
  obtain ⟨k1, k2, k3, k4, k5, -⟩ := m_keep i1 f2 rfl
  have hr := w.2.2.1
  have hc := w.2.2.2.1
  have ht := w.2.2.2.2
  have r1 := hr.x hI f1 x1.1
  have e3 : H2.2.2 60 3 = H1.2.2 60 3 := f2.getF i1 (by decide) rfl
  have e4 : H2.2.2 60 4 = H1.2.2 60 4 := f2.getF i1 (by decide) rfl
  have e64 : H2.2.2 64 = H1.2.2 64 := f2.arr i1 (by decide) (fun _ => rfl)
  have c2 : Cch H2 := Cch_fr f2 i1 rfl r1.1
  have r3 := r1.2.2.1
  have r4 := r1.2.2.2
  have th := hc.there (n := m)
  rw [← a5, ← a2] at th
  have fin : Cor H2 → IsOK H2 → WI (n + 1) (k + mc) (z + ms) H2 := fun hc1 hi1 => by
    refine w.go i1 f1 e i2 f2 rfl hc1 (by omega) ⟨c2, hi1, by omega, ?_⟩
    unfold ssum at r4 ⊢
    rw [e4, e64, e3]
    omega
  rcases g1 with ⟨p1, i, p2, p3⟩ | ⟨p1, p2, p3⟩
  · have hin := th.mp (List.mem_of_getElem? p2)
    rcases g2 with ⟨s1, -⟩ | ⟨-, s2, s3⟩
    · exfalso
      rcases s1 with s1 | s1 | s1
      · omega
      · omega
      · exact hin.2.2 s1
    · refine fin (hc.remove (n := m) (i := i) p2 (by rw [k1]; exact p3) (by omega) (by omega) (by omega) (by omega) (fun j => by rw [s3, a2])) ?_
      intro j hj
      rw [s3]
      by_cases hjm : j = m.toNat
      · rw [if_pos hjm]
      · rw [if_neg hjm]
        exact r1.2.1 j (by omega)
  · rcases g2 with ⟨-, s2, s3⟩ | ⟨s1, -⟩
    · refine fin (hc.same (by rw [k1]; exact p3) (by omega) (by omega) (by omega) (by omega) (by rw [s3, a2])) ?_
      have := r1.2.1
      unfold IsOK at this ⊢
      rw [e4, s3]
      exact this
    · exact absurd (th.mpr s1) p2
