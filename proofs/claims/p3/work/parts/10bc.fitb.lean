/-! A template with rows of unknown content fits. In tfit's place. -/
def isB (n1 : Nat) (c : AE) : Bool := match c with
  | .inl x => kz x.1 && Nat.ble n1 (blk x.2.2)
  | .inr _ => false
def sameB (n : Nat) (c2 c : AE) : Bool := match c2, c with
  | .inl (t2, m2, u2), .inl (t, m, u) => kz t2 && (Nat.beq t2 t && (Nat.beq m2 m && (Nat.beq (blk u2) (blk u) && Nat.ble (blk u2 + m2) n)))
  | _, _ => false
theorem sameB_ok {g G : GG} {n : Nat} {c2 c : AE} (h : sameB n c2 c = true) (he : ext g G n) : cE G c2 = cE g c := by
  rcases c2 with ⟨t2, m2, u2⟩ | c2
  · rcases c with ⟨t, m, u⟩ | c
    · simp only [sameB, Bool.and_eq_true, kz] at h
      obtain ⟨⟨k1, k2⟩, h1, h2, h3, h4⟩ := h
      have k1 : 10 ≤ t2 := Nat.ble_eq.mp k1
      have k2 : t2 < 14 := Nat.blt_eq.mp k2
      have e1 := Nat.eq_of_beq_eq_true h1
      have e2 := Nat.eq_of_beq_eq_true h2
      have e3 := Nat.eq_of_beq_eq_true h3
      subst e1 e2
      have e4 := cB_ext he (Nat.ble_eq.mp h4)
      show Sum.inl (G.2.2.2 t2, cC G t2 m2 u2) = Sum.inl (g.2.2.2 t2, cC g t2 m2 u)
      rw [he.2.1]
      rcases (show t2 = 10 ∨ t2 = 11 ∨ t2 = 12 ∨ t2 = 13 by omega) with rfl | rfl | rfl | rfl
      · show Sum.inl (g.2.2.2 10, (m2, Sum.inl (cB G (blk u2) m2))) = Sum.inl (g.2.2.2 10, (m2, Sum.inl (cB g (blk u) m2)))
        rw [e4.1, e3]
      · show Sum.inl (g.2.2.2 11, (m2, Sum.inl (cB G (blk u2) m2))) = Sum.inl (g.2.2.2 11, (m2, Sum.inl (cB g (blk u) m2)))
        rw [e4.1, e3]
      · show Sum.inl (g.2.2.2 12, (m2, Sum.inl (cB G (blk u2) m2))) = Sum.inl (g.2.2.2 12, (m2, Sum.inl (cB g (blk u) m2)))
        rw [e4.1, e3]
      · show Sum.inl (g.2.2.2 13, (m2, Sum.inr (Sum.inl (cBL G (blk u2) m2)))) = Sum.inl (g.2.2.2 13, (m2, Sum.inr (Sum.inl (cBL g (blk u) m2))))
        rw [e4.2, e3]
    · cases h
  · rcases c with ⟨t, m, u⟩ | c <;> cases h
def fitH2 (n : Nat) (sg : List AV) (nb : Nat) : List AE → List AE → Bool
  | [], [] => true
  | c2 :: t, c :: r => match isB (n + sg.length) c2 with
    | true => fitB c2 c && (Nat.ble nb (blkC c2) && (eBel (blkC c2 + lenC c2) c2 && fitH2 n sg (blkC c2 + lenC c2) t r))
    | false => ((fitE n sg c2 c && eBel (n + sg.length) c2) || sameB n c2 c) && fitH2 n sg nb t r
  | _, _ => false
def setHG (n1 : Nat) (g : GG) : List AE → List AE → GG → GG
  | c2 :: t, c :: r, a => setHG n1 g t r (match isB n1 c2 with
    | true => setB a (blkC c2) (lenC c2) (contN g c)
    | false => a)
  | _, _, a => a
theorem fitH2_ok {g : GG} {n : Nat} {sg : List AV} (hcl : ClsU g) : ∀ (h2 h : List AE) (nb : Nat) (a : GG), n + sg.length ≤ nb → ext (setL g n sg) a (n + sg.length) → fitH2 n sg nb h2 h = true →
    ext a (setHG (n + sg.length) g h2 h a) nb ∧ (∀ b, wsA (cE (setHG (n + sg.length) g h2 h a)) b h2 = wsA (cE g) b h) ∧ h2.length = h.length
  | [], [], nb, a, _, _, _ => ⟨ext.refl a nb, fun _ => rfl, rfl⟩
  | [], _ :: _, _, _, _, _, h => by cases h
  | _ :: _, [], _, _, _, _, h => by cases h
  | c2 :: t, c :: r, nb, a, hnb, ha, hf => by
    unfold fitH2 at hf
    unfold setHG
    cases hb : isB (n + sg.length) c2 with
    | true =>
      rw [hb] at hf
      simp only [Bool.and_eq_true] at hf
      obtain ⟨f1, f2, f3, f4⟩ := hf
      have f2 : nb ≤ blkC c2 := Nat.ble_eq.mp f2
      simp only
      have he1 := setB_ext a (b := blkC c2) (n := blkC c2) (lenC c2) (contN g c) (Nat.le_refl _)
      have ha2 : ext (setL g n sg) (setB a (blkC c2) (lenC c2) (contN g c)) (n + sg.length) := ha.trans (he1.mono (Nat.le_trans hnb f2)) (Nat.le_refl _)
      obtain ⟨i1, i2, i3⟩ := fitH2_ok hcl t r (blkC c2 + lenC c2) _ (by omega) ha2 f4
      refine ⟨(he1.mono f2).trans (i1.mono (by omega)) (Nat.le_refl _), fun b => ?_, by rw [List.length_cons, List.length_cons, i3]⟩
      rw [wsA, wsA, i2, eBel_ok f3 i1]
      have e22 : (setB a (blkC c2) (lenC c2) (contN g c)).2.2 = g.2.2 := ha2.2.1
      rw [fitB_ok f1 hcl e22 (fun j hj => setB_at a (contN g c) hj)]
    | false =>
      rw [hb] at hf
      simp only [Bool.and_eq_true, Bool.or_eq_true] at hf
      simp only
      obtain ⟨f1, f2⟩ := hf
      obtain ⟨i1, i2, i3⟩ := fitH2_ok hcl t r nb a hnb ha f2
      refine ⟨i1, fun b => ?_, by rw [List.length_cons, List.length_cons, i3]⟩
      have hG : ext (setL g n sg) (setHG (n + sg.length) g t r a) (n + sg.length) := ha.trans (i1.mono hnb) (Nat.le_refl _)
      rw [wsA, wsA, i2]
      rcases f1 with f1 | f1
      · rw [eBel_ok f1.2 hG, fitE_ok (g := g) f1.1]
      · have hgG : ext g (setHG (n + sg.length) g t r a) n := (setL_ext g n sg).trans (hG.mono (Nat.le_add_right _ _)) (Nat.le_refl _)
        rw [sameB_ok f1 hgG]
/-- y fits the template x, whose symbols from n on are sg, and whose blocks behind them are what y's rows hold -/
def tfit2 (n : Nat) (sg : List AV) (ces : List Cert) (y x : NC) : Bool := match y, x with
  | (pc, L, st, h, k, z, kn, _), (pc2, L2, st2, h2, k2, z2, kn2, _) =>
    Nat.beq pc2 pc && (sg.all isI && (fitL n sg st2 st && (fitQ n sg L2 L && (fitH2 n sg (n + sg.length) h2 h && (cEq k2 k && (cEq z2 z && (cBel n k2 && (cBel n z2 && (fitK n sg kn ces kn2 && (sBel (n + sg.length) st2 && (lBel (n + sg.length) L2 && kBel (n + sg.length) kn2)))))))))))
theorem tfit2_ok {HB : Heap} {u : NU} {n : Nat} {sg : List AV} {ces : List Cert} {y x : NC} (h : tfit2 n sg ces y x = true) {g : GG} (hcl : ClsU g) (hk : okl g (knOf y)) :
    ∃ g2, Fits HB u n y x g g2 ∧ ∀ l : LinC, tBel (n + sg.length) l.2 = true → lval (rho g2) l = lval (rho g) (lsub n sg l) := by
  obtain ⟨pc, L, st, hh, k, z, kn, nn⟩ := y
  obtain ⟨pc2, L2, st2, h2, k2, z2, kn2, nn2⟩ := x
  have hk : okl g kn := hk
  simp only [tfit2, Bool.and_eq_true] at h
  obtain ⟨w1, w2, w3, w4, w5, w6, w7, w8, w9, w10, w11, w12, w13⟩ := h
  have hs : ∀ a ∈ sg, isI a = true := List.all_eq_true.mp w2
  have e6 := cEq_ok w6
  have e7 := cEq_ok w7
  subst e6 e7
  obtain ⟨i1, i2, i3⟩ := fitH2_ok hcl h2 hh (n + sg.length) (setL g n sg) (Nat.le_refl _) (ext.refl _ _) w5
  have he : ext g (setHG (n + sg.length) g h2 hh (setL g n sg)) n := (setL_ext g n sg).trans (i1.mono (Nat.le_add_right _ _)) (Nat.le_refl _)
  have c1 := cBel_ok w8 he
  have c2 := cBel_ok w9 he
  refine ⟨setHG (n + sg.length) g h2 hh (setL g n sg), ⟨Nat.eq_of_beq_eq_true w1, he, kBel_ok w13 i1 (fitK_ok hs hk ces kn2 w10), ?_, ?_, Nat.le_of_eq c1.symm, Nat.le_of_eq c2.symm, Or.inr c1, Or.inr c2, fun H locs hR => ?_⟩, fun l hl => ?_⟩
  · rw [sBel_ok w11 i1]
    exact fitL_ok st2 st w3
  · rw [lBel_ok w12 i1]
    exact fitQ_ok w4
  · refine ⟨?_, fun q hq => hR.2.1 q (by rw [← he.1]; exact hq), ?_, fun q hq => by rw [he.1]; exact hR.2.2.2 q hq⟩
    · unfold szG
      rw [i3, he.1]
      exact hR.1
    · rw [i2, he.1, he.2.1]
      exact hR.2.2.1
  · rw [lval_ext hl i1, lsub_ok hs]
