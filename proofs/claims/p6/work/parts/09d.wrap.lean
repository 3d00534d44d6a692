/-! A call that comes back or throws. -/
theorem Inv.xh {h : Hp} (hI : Inv h) (hlt : h.1 + 1 ≤ 900000) : Inv (xh h) := by
  obtain ⟨hS, hR, hG, hM, hF, hL, hb1, hb2, hb3⟩ := hI
  obtain ⟨h1, h2, h3, h4⟩ := hS
  exact ⟨⟨Nat.le_succ_of_le h1, hlt, h3, fun a t ha => ⟨(h4 a t ha).1, Nat.lt_succ_of_lt (h4 a t ha).2⟩⟩, hR, hG, hM, hF, hL, hb1, hb2, hb3⟩
theorem Fr.xh {S : List Nat} {h h1 : Hp} (f : Fr S h h1) (hs : S.contains 999 = true) : Fr S h (xh h1) := ⟨⟨Nat.le_succ_of_le f.1.1, f.1.2⟩, f.2.1, fun e => by rw [hs] at e; cases e⟩
def DX (cc : ByteArray) (pc : Nat) (x : XI) : Prop := decode cc pc = .ok (.new x.2.1, 3) ∧ decode cc (pc + 3) = .ok (.dup, 1) ∧ decode cc (pc + 4) = .ok (.ldc x.2.2.1, 2) ∧ decode cc (pc + 6) = .ok (.invokespecial x.2.2.2.1, 3) ∧ decode cc (pc + 9) = .ok (.athrow, 1)
/-- the place of a throw, and what holds there -/
def XP (cc : ByteArray) (h : Hp) (PX : String → Hp → Nat → Nat → Prop) (y : Cfg) : Prop := ∃ x ∈ xis, ∃ (pcT : Nat) (L' : LL) (h' : Hp) (k' z' : Nat), y = (pcT, L', [], h', k', z') ∧ DX cc pcT x ∧ PX x.1 h' k' z' ∧ h.1 ≤ h'.1 ∧ h'.1 < 1000000
/-- a CONTRACT that may throw: it comes back with F, or throws with PX at the place of the throw -/
def CtX (l : Launch) (d : MD) (fr lo : Nat) (av : List V) (h : Hp) (F : Option V → Hp → Nat → Nat → Prop) (PX : String → Hp → Nat → Nat → Prop) : Prop := Ct l d fr lo av h F ∨ ∃ (E9 : String) (h' : Hp) (k' z' : Nat), PX E9 h' k' z' ∧ EvX l d fr lo av h E9 (xh h') (k' + 1) (z' + 6)
theorem ctx_of {l : Launch} (hst0 : l.stackTraces = false) {y : MethodName} {cc : ByteArray} {nL fr lo : Nat} {ret : Option FieldType} {av : List V} {h : Hp} {F : Option V → Hp → Nat → Nat → Prop} {PX : String → Hp → Nat → Nat → Prop} (hp : plainName y.cls = true) (hown : y.cls = "MailArchive") (hl0 : slen av ≤ nL) (hfr : 6 ≤ fr) (hlo : 82 ≤ lo)
    (k : Tx l (cc, nL, y.cls, y.name, ret, fr, lo) F (XP cc h PX) (0, argsA 0 av, [], h, 0, 0)) : CtX l (y, cc, nL, ret) fr lo av h F PX := by
  rcases k with k | ⟨w, ⟨x, hx, pcT, L', h', k', z', rfl, ⟨d0, d3, d4, d6, d9⟩, hP, hle, hlt⟩, hs⟩
  · exact Or.inl (ct_of hp hl0 k)
  · exact Or.inr ⟨x.1, h', k', z', hP, evx_of hst0 hp hown hl0 hx d0 d3 d4 d6 d9 hs hle hlt hfr hlo⟩
/-! The list's calls, as they are wanted. -/
theorem ct_Jx4a65c_add_9ea2d_vw (l : Launch) (h : Hp) (hI : Inv h) (m : Nat) (hm : full h m) (g0 : h.2.2 26 2 ≤ 59) (g1 : h.1 + 1 ≤ 900000) : Ct l D_Jx4a65c_add_9ea2d 6 190 [.inr (.inr 26), .inr (.inr m)] h (RIa (fun x H mc ms => Inv H ∧ Fr [26, 313, 999] h H ∧ (x = 0 ∨ x = 1) ∧ (mc ≤ 1 ∧ ms ≤ 200 ∧ H.1 = h.1 + mc) ∧ H.2.2 26 2 = h.2.2 26 2 + 1 ∧ (∀ j : Nat, j < (h.2.2 26 2).toNat → elS H j = elS h j) ∧ elS H (h.2.2 26 2).toNat = (m : Int))) := by
  have h60 := hI.lsz
  obtain ⟨s, hs⟩ : ∃ s : Nat, h.2.2 26 2 = (s : Int) := ⟨(h.2.2 26 2).toNat, by omega⟩
  obtain ⟨r, h', mc, ms, ⟨x, e1, e2, e3, p1, p2, p3, p4, p5, p6, p7, p8⟩, hE⟩ := ct_Jx4a65c_add_9ea2d l h hI m hm s hs (by omega) g1
  exact ⟨r, h', mc, ms, ⟨x, e1, e2, p1, p2, e3, ⟨p3, p4, p5⟩, by omega, by rw [hs, Int.toNat_natCast]; exact p7, by rw [hs, Int.toNat_natCast]; exact p8⟩, hE⟩
theorem ct_Jx4a65c_remove_915e3_vw (l : Launch) (h : Hp) (hI : Inv h) (i : Int) (hi : I32 i) (g0 : 0 ≤ i ∧ i < h.2.2 26 2) : Ct l D_Jx4a65c_remove_915e3 2 103 [.inr (.inr 26), .inl i] h (RR (fun x H => Inv H ∧ Fr [26, 313] h H ∧ H.2.2 26 2 = h.2.2 26 2 - 1 ∧ ∀ j : Nat, (j : Int) < h.2.2 26 2 - 1 → elS H j = elS h (if j < i.toNat then j else j + 1))) := by
  have h60 := hI.lsz
  obtain ⟨s, hs⟩ : ∃ s : Nat, h.2.2 26 2 = ((s + 1 : Nat) : Int) := ⟨(h.2.2 26 2 - 1).toNat, by omega⟩
  obtain ⟨i, rfl⟩ : ∃ j : Nat, i = (j : Int) := ⟨i.toNat, by omega⟩
  obtain ⟨r, h', mc, ms, ⟨e1, e2, x, e3, p1, p2, p3, p4⟩, hE⟩ := ct_Jx4a65c_remove_915e3 l h hI s hs i (by omega)
  exact ⟨r, h', mc, ms, ⟨e1, e2, x, e3, p1, p2, by omega, fun j hj => by rw [Int.toNat_natCast]; exact p4 j (by omega)⟩, hE⟩
def E6_X11_remove : ME := (cX11_remove, 3, yX11_remove.cls, yX11_remove.name, none, 6, 126)
def E6_X11_tag : ME := (cX11_tag, 6, yX11_tag.cls, yX11_tag.name, (some .boolean), 6, 153)
