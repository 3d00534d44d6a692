/-! A row is replaced at once: System.arraycopy, clone. -/
def row (h : Hp) (a : Nat) (f : Nat → Int) : Hp := (h.1, h.2.1, fun x => match Nat.beq x a with
  | true => f
  | false => h.2.2 x)
def cpyF (h : Hp) (a b sp dp n : Nat) : Nat → Int := va_cpy (h.2.2 b) (h.2.2 a) sp dp n
theorem row_eq {h : Hp} {a : Nat} {f : Nat → Int} : (row h a f).2.2 a = f := by
  unfold row
  show (match Nat.beq a a with | true => f | false => h.2.2 a) = f
  rw [Nat.beq_refl]
theorem row_ne {h : Hp} {a b : Nat} {f : Nat → Int} (hb : b ≠ a) : (row h a f).2.2 b = h.2.2 b := by
  unfold row
  show (match Nat.beq b a with | true => f | false => h.2.2 b) = h.2.2 b
  cases hq : Nat.beq b a with
  | true => exact absurd (Nat.eq_of_beq_eq_true hq) hb
  | false => rfl
theorem Rep.row {g : GG} {HB H H1 : Heap} {h : Hp} {locs locs' : List Loc} (hR : Rep g HB h H locs) {a : Nat} {t : Ty} {f : Nat → Int} (ht : h.2.1 a = some t) (he : va_at g.2.2.1 vwCl (g.1 + a, ce g t f) H1) (z : H1.size = H.size) (oq : ∀ q : Nat, q ≠ g.1 + a → H1[q]? = H[q]?) (hl : ∀ q ∈ locs', hiA g q.base) : Rep g HB (row h a f) H1 locs' := by
  have h1 := hR.2.2.1 a t ht
  refine ⟨by rw [z]; exact hR.1, fun q hq => by rw [oq q (by omega)]; exact hR.2.1 q hq, fun b tb hb => ?_, fun b hb k => ?_, hl⟩
  · have h2 := hR.2.2.1 b tb hb
    refine ⟨h2.1, h2.2.1, ?_⟩
    by_cases hab : b = a
    · subst hab
      have e : t = tb := Option.some.inj (ht.symm.trans hb)
      subst e
      rw [row_eq]
      exact he
    · rw [row_ne hab]
      exact h2.2.2.kept (oq _ (by show g.1 + b ≠ g.1 + a; omega))
  · have hb : h.1 ≤ b := hb
    rw [row_ne (by omega)]
    exact hR.2.2.2.1 b hb k
theorem Rep.appf {g : GG} {HB H H1 : Heap} {h : Hp} {locs : List Loc} (hR : Rep g HB h H locs) {t : Ty} {f : Nat → Int} (hlt : h.1 < 1000000) (he : va_at g.2.2.1 vwCl (g.1 + h.1, ce g t f) H1) (z : H1.size = H.size + 1) (oq : ∀ q : Nat, q < H.size → H1[q]? = H[q]?) : Rep g HB (Jvm.Pilot.CMailArchiveLaw_law_r4673_df65bd.row (al h t) h.1 f) H1 locs := by
  have hs := hR.1
  refine ⟨⟨by rw [z]; show _ = g.1 + (h.1 + 1); omega, hs.2.1, Nat.succ_pos _, hlt⟩, fun q hq => by rw [oq q (by omega)]; exact hR.2.1 q hq, fun b tb hb => ?_, fun b hb k => ?_, hR.2.2.2.2⟩
  · have hb : (match Nat.beq b h.1 with | true => some t | false => h.2.1 b) = some tb := hb
    cases hq : Nat.beq b h.1 with
    | true =>
      have e := Nat.eq_of_beq_eq_true hq
      rw [hq] at hb
      cases hb
      subst e
      refine ⟨hs.2.2.1, Nat.lt_succ_self _, ?_⟩
      rw [row_eq]
      exact he
    | false =>
      rw [hq] at hb
      have h2 := hR.2.2.1 b tb hb
      have hne : b ≠ h.1 := fun e => by subst e; rw [Nat.beq_refl] at hq; cases hq
      refine ⟨h2.1, Nat.lt_succ_of_lt h2.2.1, ?_⟩
      rw [row_ne hne]
      exact h2.2.2.kept (oq _ h2.2.2.lt)
  · have hb : h.1 + 1 ≤ b := hb
    rw [row_ne (by omega)]
    exact hR.2.2.2.1 b (by omega) k
theorem fits_of {q w : Nat} {x : Int} (hq : q < 2) (hw : w % 10 = q) (hg : gk w x) : fits (tyA q) (.int (Int32.ofInt x)) = true := by
  unfold gk at hg
  rw [hw] at hg
  rcases (show q = 0 ∨ q = 1 by omega) with rfl | rfl
  · rfl
  · have hg : -128 ≤ x ∧ x ≤ 127 := hg
    show (decide (-128 ≤ Int32.ofInt x) && decide (Int32.ofInt x ≤ 127)) = true
    rw [Bool.and_eq_true, decide_eq_true_eq, decide_eq_true_eq]
    exact ⟨(le_of (a := -128) (b := x) (by decide) (by omega)).mpr hg.1, (le_of (a := x) (b := 127) (by omega) (by decide)).mpr hg.2⟩
section TOY
variable {l : Launch} {E : ME} {pc : Nat} {L : LL} {st : List V} {h : Hp} {k z : Nat} {F : Option V → Hp → Nat → Nat → Prop}
theorem to_copy {a b n m q w w' idx : Nat} {sp dp c : Int} (hq : q < 2) (h1 : Cond.methodLink E.2.2.1 idx arraycopyName ∈ wsG) (h2 : Cond.native arraycopyName ∈ wsG) (h3 : Cond.static arraycopyName ∈ wsG) (h9 : Cond.initialized "java/lang/System" ∈ wsG) (hd : decode E.1 pc = .ok (.invokestatic idx, 3))
    (ha : h.2.1 a = some (.inl (w, n))) (hwa : w % 10 = q) (hb : h.2.1 b = some (.inl (w', m))) (hwb : w' % 10 = q) (hn : n ≤ 67108864) (hm : m ≤ 67108864) (hs : 0 ≤ sp) (hdp : 0 ≤ dp) (hc : 0 ≤ c) (h4 : sp + c ≤ m) (h5 : dp + c ≤ n) (hcon : ∀ j, gk w' (h.2.2 b j))
    (hrm : (Nat.ble 1 E.2.2.2.2.2.1 && Nat.ble (slen st + (nativeFrameWords "java/lang/System" "arraycopy" 5 + 11)) E.2.2.2.2.2.2) = true) (k0 : ∀ h' : Hp, h' = row h a (cpyF h a b sp.toNat dp.toNat c.toNat) → To l E (pc + 3, L, st, h', k, z) F) : To l E (pc, L, .inl c :: .inl dp :: .inr (.inr a) :: .inl sp :: .inr (.inr b) :: st, h, k, z) F := by
  rw [Bool.and_eq_true] at hrm
  have r1 : 1 ≤ E.2.2.2.2.2.1 := Nat.ble_eq.mp hrm.1
  have r2 := Nat.ble_eq.mp hrm.2
  refine to_of ?_ (k0 _ rfl)
  refine ⟨⟨Nat.le_refl _, Nat.le_refl _⟩, fun g HB p e R s m0 args below meth c0 Q H locs ls hC hfr hlo _ _ hR hl kk => ?_⟩
  show W p l e R s m0 args below meth c0 H locs k z Q (F0 m0 pc ls (.int (Int32.ofInt c) :: .int (Int32.ofInt dp) :: rv g a :: .int (Int32.ofInt sp) :: rv g b :: st.map (dv g)))
  rw [hR.rv ha, hR.rv hb]
  obtain ⟨⟨hx, hbb, hml, hown, hts⟩, hA, -⟩ := hC
  have mk : ∀ x : Int, aval g q x = .int (Int32.ofInt x) := by
    rcases (show q = 0 ∨ q = 1 by omega) with rfl | rfl <;> exact fun x => rfl
  have hca : H[g.1 + a]? = some (arrV (g.2.2.2 q) n (fun j => .int (Int32.ofInt (h.2.2 a j)))) := (hR.arr ha hwa).trans (by simp only [mk])
  have hcb : H[g.1 + b]? = some (arrV (g.2.2.2 q) m (fun j => .int (Int32.ofInt (h.2.2 b j)))) := (hR.arr hb hwb).trans (by simp only [mk])
  intro T hT X
  obtain ⟨-, kb, hkb, cmb, hkkb⟩ := (hA.1.2 q _ (tysG_at g (by omega))).1 m (fun j => .int (Int32.ofInt (h.2.2 b j)))
  obtain ⟨-, ka, hka, cma, hkka⟩ := (hA.1.2 q _ (tysG_at g (by omega))).1 n (fun j => .int (Int32.ofInt (h.2.2 a j)))
  have s1 := in_of (i := sp) (n := 67108865) (by omega) (by decide)
  have s2 := in_of (i := dp) (n := 67108865) (by omega) (by decide)
  have s3 := in_of (i := c) (n := 67108865) (by omega) (by decide)
  have i1 : (Int32.ofInt sp).toInt = sp := tI_of (by omega)
  have i2 : (Int32.ofInt dp).toInt = dp := tI_of (by omega)
  have i3 : (Int32.ofInt c).toInt = c := tI_of (by omega)
  obtain ⟨vm', X', step⟩ := X.arraycopy hx hown (hts _ h1) (hts _ h2) (hts _ h3) (hts _ h9) (src := g.1 + b) (dst := g.1 + a) (cs := arrV (g.2.2.2 q) m (fun j => .int (Int32.ofInt (h.2.2 b j)))) (cd := arrV (g.2.2.2 q) n (fun j => .int (Int32.ofInt (h.2.2 a j)))) (srcPos := Int32.ofInt sp) (destPos := Int32.ofInt dp) (n := Int32.ofInt c) (by rw [hT]; exact hcb) (by rw [hT]; exact hca)
    (fun _ h => by cases h) (fun _ h => by cases h) (fun h => by cases h) (fun h => by cases h) hkb hka hkkb hkka (by rcases (show q = 0 ∨ q = 1 by omega) with rfl | rfl <;> rfl) s1.2 s2.2 s3.2
    (by rw [i1, i3]; show ¬ _ > ((arrV _ m _).slots.size : Int); rw [arrV_size]; omega)
    (by rw [i2, i3]; show ¬ _ > ((arrV _ n _).slots.size : Int); rw [arrV_size]; omega)
    (fun vm₁ _ i hi => by
      rw [s3.1] at hi
      have e9 : (arrV (g.2.2.2 q) m (fun j => .int (Int32.ofInt (h.2.2 b j)))).slots.getD ((Int32.ofInt sp).toNatClampNeg + i) .null = .int (Int32.ofInt (h.2.2 b (sp.toNat + i))) := by
        rw [s1.1, Array.getD_eq_getD_getElem?, arrV_read _ _ (by omega)]
        rfl
      refine ⟨?_, ?_⟩
      · rw [e9]
        exact fits_of hq hwb (hcon _)
      · rw [e9]
        exact trivial)
    (g := F0 m0 pc ls (.int (Int32.ofInt c) :: .int (Int32.ofInt dp) :: .ref (g.1 + a) :: .int (Int32.ofInt sp) :: .ref (g.1 + b) :: st.map (dv g))) rfl (hl.1.trans hml.symm) (rest := st.map (dv g)) rfl (by rw [hbb]; exact hd) (by omega) (by rw [slen_sum]; show 2 * 0 + _ + _ ≤ _; omega)
  have e1 : copied (arrV (g.2.2.2 q) m (fun j => .int (Int32.ofInt (h.2.2 b j)))) (arrV (g.2.2.2 q) n (fun j => .int (Int32.ofInt (h.2.2 a j)))) (Int32.ofInt sp) (Int32.ofInt dp) (Int32.ofInt c) = arrV (g.2.2.2 q) n (fun j => .int (Int32.ofInt (cpyF h a b sp.toNat dp.toNat c.toNat j))) := by
    have e2 := va_copied (fun z : Int => Value.int (Int32.ofInt z)) (g.2.2.2 q) (g.2.2.2 q) (n0 := m) (n1 := n) (sp := sp.toNat) (dp := dp.toNat) (n := c.toNat) (h.2.2 b) (h.2.2 a) (by omega)
    unfold copied
    rw [s1.1, s2.1, s3.1]
    exact e2
  rw [e1] at X' step
  have hlt := (Array.getElem?_eq_some_iff.mp hca).1
  generalize hcell : arrV (g.2.2.2 q) n (fun j => .int (Int32.ofInt (cpyF h a b sp.toNat dp.toNat c.toNat j))) = nc at X' step
  have hheap : ((T.setVm vm').setCell (g.1 + a) nc).heap = H.setIfInBounds (g.1 + a) nc := by rw [← hT]; rfl
  obtain ⟨t, a1, b1⟩ := kk (H.setIfInBounds (g.1 + a) nc) _ ls (hR.row ha (by
      show (H.setIfInBounds (g.1 + a) nc)[g.1 + a]? = some (vp_cell (g.2.2.2 (w % 10)) (cC g (w % 10) n _))
      rw [ce_arr, hwa]
      simp only [mk]
      rw [hcell]
      simp [Array.getElem?_setIfInBounds, hlt]) (by simp) (fun q9 hq9 => by simp [Array.getElem?_setIfInBounds, Ne.symm hq9]) (fun x hx9 => by
    rcases List.mem_append.mp hx9 with h | h
    · exact hR.2.2.2.2 x h
    · obtain ⟨y, -, hy⟩ := List.mem_map.mp h
      rw [← hy]
      have := (hR.2.2.1 a _ ha).1
      show g.1 + 1 ≤ g.1 + a
      omega)) hl _ hheap X'
  exact ⟨t, step t a1, b1⟩
theorem to_clone {a n w idx : Nat} (w2 : Nat) (h1 : Cond.methodLink E.2.2.1 idx ⟨"[I", "clone", "()Ljava/lang/Object;"⟩ ∈ wsG) (h2 : Cond.sameMethod "[I" "java/lang/Object" "clone" "()Ljava/lang/Object;" ∈ wsG) (h3 : Cond.native ⟨"java/lang/Object", "clone", "()Ljava/lang/Object;"⟩ ∈ wsG) (h4 : Cond.instanceMethod ⟨"java/lang/Object", "clone", "()Ljava/lang/Object;"⟩ ∈ wsG)
    (h5 : Cond.selects "[I" ⟨"[I", "clone", "()Ljava/lang/Object;"⟩ ⟨"java/lang/Object", "clone", "()Ljava/lang/Object;"⟩ ∈ wsG) (h6 : Cond.castable "[I" "java/lang/Cloneable" ∈ nwL) (hd : decode E.1 pc = .ok (.invokevirtual idx, 3))
    (ha : h.2.1 a = some (.inl (w, n))) (hw : w % 10 = 0) (hw2 : w2 % 10 = 0) (hlt : h.1 < 1000000)
    (hrm : (Nat.ble 1 E.2.2.2.2.2.1 && Nat.ble (slen st + 14) E.2.2.2.2.2.2) = true) (k0 : ∀ h' : Hp, h' = row (al h (.inl (w2, n))) h.1 (h.2.2 a) → To l E (pc + 3, L, .inr (.inr h.1) :: st, h', k + 1, z + n) F) : To l E (pc, L, .inr (.inr a) :: st, h, k, z) F := by
  rw [Bool.and_eq_true] at hrm
  have r1 : 1 ≤ E.2.2.2.2.2.1 := Nat.ble_eq.mp hrm.1
  have r2 := Nat.ble_eq.mp hrm.2
  refine to_of ?_ (k0 _ rfl)
  refine ⟨⟨Nat.le_add_right _ _, Nat.le_add_right _ _⟩, fun g HB p e R s m0 args below meth c0 Q H locs ls hC hfr hlo hcells hslots hR hl kk => ?_⟩
  show W p l e R s m0 args below meth c0 H locs k z Q (F0 m0 pc ls (rv g a :: st.map (dv g)))
  rw [hR.rv ha]
  obtain ⟨⟨hx, hbb, hml, hown, hts⟩, hA, -⟩ := hC
  have hca : H[g.1 + a]? = some (arrV (g.2.2.2 0) n (fun j => .int (Int32.ofInt (h.2.2 a j)))) := hR.arr ha hw
  have hnm : s.vm.findClass "[I" = some (g.2.2.2 0) := (hA.1.2 0 _ rfl).2
  obtain ⟨c1, t0', f1, f2, f3⟩ := Cond.castable_spec (va_Nw.use (A := args) rfl (hA.2.1 _ h6))
  cases hnm.symm.trans f1
  intro T hT X
  have hcellT : T.heap[g.1 + a]? = some (arrV (g.2.2.2 0) n (fun j => .int (Int32.ofInt (h.2.2 a j)))) := by rw [hT]; exact hca
  obtain ⟨-, kA, hkA, comp, hkind⟩ := State.isArrayOf_alike X.warmed.alike ((hA.1.2 0 _ rfl).1 0 (fun _ => .null))
  obtain ⟨-, kS, hkS, compS, hkindS⟩ := (hA.1.2 0 _ rfl).1 0 (fun _ => .null)
  generalize hcell : arrV (g.2.2.2 0) n (fun j => .int (Int32.ofInt (h.2.2 a j))) = nc at hcellT
  have n1 : nc.vm = .none := by rw [← hcell]; rfl
  have n2 : nc.cls = g.2.2.2 0 := by rw [← hcell]; rfl
  have n3 : nc.slots.size = n := by rw [← hcell]; exact arrV_size _ _ _
  have n4 : ({ cls := nc.cls, slots := nc.slots } : Cell) = nc := by rw [← hcell]; rfl
  have hfit : ∀ (i : Nat) (v : Value), nc.slots[i]? = some v → fits .int v = true := fun i v hv => by
    rw [← hcell] at hv
    have hi : i < n := by
      have := (Array.getElem?_eq_some_iff.mp hv).1
      rw [arrV_size] at this
      exact this
    rw [arrV_read _ _ hi] at hv
    cases hv
    rfl
  obtain ⟨vm', X', st9⟩ := X.cloneArray hx hown (hts _ h1) (hts _ h2) (hts _ h3) (hts _ h4) (hts _ h5) (a := g.1 + a) (cell := nc) hcellT (fun k h => by rw [n1] at h; cases h) (by rw [n1]; exact fun h => by cases h) (by rw [n2]; exact hnm) f2 (by rw [n2]; exact f3)
    (fun i v hv => by
      rw [n2]
      have hk' : T.vm.classes[g.2.2.2 0]? = some kA := hkA
      simpa [State.fitsSlot, State.slotType?, hk', hkind] using hfit i v hv)
    (g := F0 m0 pc ls (.ref (g.1 + a) :: st.map (dv g))) rfl (hl.1.trans hml.symm) rfl (by rw [hbb]; exact hd) (by omega) (by rw [slen_sum]; show 2 * 0 + _ + 14 ≤ _; omega) hcells (by rw [n3]; exact hslots) (hloader := by rw [n2]; exact Vm.clonesLoader_of_array hkS hkindS)
  rw [n4, n3] at X'
  have hR1 := hR.1
  generalize hH1 : H.push nc = H1
  have z1 : H1.size = H.size + 1 := by rw [← hH1, Array.size_push]
  have e1 : H1[H.size]? = some nc := by rw [← hH1, Array.getElem?_push_size]
  have o1 : ∀ q : Nat, q < H.size → H1[q]? = H[q]? := fun q hq => by rw [← hH1, Array.getElem?_push, if_neg (Nat.ne_of_lt hq)]
  have h9 := kk H1 locs ls (hR.appf (t := .inl (w2, n)) (f := h.2.2 a) hlt (by
    show H1[g.1 + h.1]? = some (vp_cell (g.2.2.2 (w2 % 10)) (cC g (w2 % 10) n _))
    rw [ce_arr, hw2, ← hR1.1, e1, ← hcell]
    rfl) z1 o1) hl
  have h9 : W p l e R s m0 args below meth c0 H1 locs (k + 1) (z + n) Q (F0 m0 (pc + 3) ls (dv g (.inr (.inr h.1)) :: st.map (dv g))) := h9
  rw [dv_new hR hlt, ← hR1.1] at h9
  obtain ⟨t, b1, b2⟩ := h9 ((T.setVm vm').pushCell nc) (by rw [← hH1, ← hT]; rfl) X'
  refine ⟨t, st9 t ?_, b2⟩
  rw [n4, hT]
  exact b1
/-- an array is what it is said to be -/
theorem to_castA {a n w q idx : Nat} {nm : String} (hq : q < 5) (hnm : "[" ++ (tyA q).toString = nm) (hlink : Cond.classLink E.2.2.1 idx nm ∈ wsG) (hd : decode E.1 pc = .ok (.checkcast idx, 3)) (ha : h.2.1 a = some (.inl (w, n))) (hw : w % 10 = q) (k0 : To l E (pc + 3, L, .inr (.inr a) :: st, h, k, z) F) : To l E (pc, L, .inr (.inr a) :: st, h, k, z) F := by
  refine to_of ?_ k0
  refine ⟨⟨Nat.le_refl _, Nat.le_refl _⟩, fun g HB p e R s m0 args below meth c0 Q H locs ls hC hfr hlo _ _ hR hl kk => ?_⟩
  have h9 : W p l e R s m0 args below meth c0 H locs k z Q (F0 m0 (pc + 3) ls (rv g a :: st.map (dv g))) := kk H locs ls hR hl
  show W p l e R s m0 args below meth c0 H locs k z Q (F0 m0 pc ls (rv g a :: st.map (dv g)))
  rw [hR.rv ha] at h9 ⊢
  obtain ⟨⟨hx, hbb, hml, hown, hts⟩, hA, -⟩ := hC
  have hf : s.vm.findClass nm = some (g.2.2.2 q) := by
    rw [← hnm]
    have h3 := (hA.1.2 q _ (tysG_at g hq)).2
    rcases (show q = 0 ∨ q = 1 ∨ q = 2 ∨ q = 3 ∨ q = 4 by omega) with rfl | rfl | rfl | rfl | rfl
    · exact h3
    · exact h3
    · exact h3
    · exact h3
    · obtain ⟨kA, comp, -, -, -, g4⟩ := h3
      exact g4
  exact va_castE hx hbb hown (hts _ hlink) ⟨_, hR.arr ha hw, rfl, hf⟩ hd h9
end TOY
