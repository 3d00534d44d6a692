/-! Rows of references. -/
section TOR
variable {l : Launch} {E : ME} {pc : Nat} {L : LL} {st : List V} {h : Hp} {k z : Nat} {F : Option V → Hp → Nat → Nat → Prop}
def rvo (g : GG) (x : Nat) : Option Nat := match x with
  | 0 => none
  | q + 1 => some (ad g (q + 1))
theorem rv_va (g : GG) (x : Nat) : rv g x = va_rf (rvo g x) := by cases x <;> rfl
theorem to_acmp_neT {x t : Nat} {off : Int} (hd : decode E.1 pc = .ok (.if_acmp .ne off, 3)) (ht : (pc : Int) + off = (t : Int)) (k0 : To l E (pc + 3, L, st, h, k, z) F) : To l E (pc, L, .inr (.inr x) :: .inr (.inr x) :: st, h, k, z) F :=
  to_of (sx_pure fun g HB p e R s m args below meth c Q H locs ls hC hl kk => by
    show W p l e R s m args below meth c H locs k z Q (F0 m pc ls (rv g x :: rv g x :: st.map (dv g)))
    rw [rv_va]
    exact lv_acmp_ne hC.1.1 hC.1.2.1 hd ht (fun hn => absurd rfl hn) (fun _ => kk ls hl)) k0
theorem to_acmp_eqT {x t : Nat} {off : Int} (hd : decode E.1 pc = .ok (.if_acmp .eq off, 3)) (ht : (pc : Int) + off = (t : Int)) (k0 : To l E (t, L, st, h, k, z) F) : To l E (pc, L, .inr (.inr x) :: .inr (.inr x) :: st, h, k, z) F :=
  to_of (sx_pure fun g HB p e R s m args below meth c Q H locs ls hC hl kk => by
    show W p l e R s m args below meth c H locs k z Q (F0 m pc ls (rv g x :: rv g x :: st.map (dv g)))
    rw [rv_va]
    exact lv_acmp_eq hC.1.1 hC.1.2.1 hd ht (fun _ => kk ls hl) (fun hn => absurd rfl hn)) k0
/-- a row of ours isn't one from outside -/
theorem to_acmp_eqF {x q n t : Nat} {ty : Ty} {fty : FieldType} {cs : List Int} {off : Int} (h1 : (q, fty, n, cs) ∈ xT) (ha : h.2.1 x = some ty) (hd : decode E.1 pc = .ok (.if_acmp .eq off, 3)) (ht : (pc : Int) + off = (t : Int)) (k0 : To l E (pc + 3, L, st, h, k, z) F) : To l E (pc, L, .inr (.inr (1000000 + q)) :: .inr (.inr x) :: st, h, k, z) F := by
  refine to_of ?_ k0
  refine ⟨⟨Nat.le_refl _, Nat.le_refl _⟩, fun g HB p e R s m args below meth c Q H locs ls hC _ _ _ _ hR hl kk => ?_⟩
  show W p l e R s m args below meth c H locs k z Q (F0 m pc ls (rv g (1000000 + q) :: rv g x :: st.map (dv g)))
  rw [hR.rv ha, rv_out]
  obtain ⟨⟨hx, hb, hml, hown, hts⟩, hA, -⟩ := hC
  have ho := (hA.2.2.2.1 _ h1).out
  have ho : ¬ g.1 + 1 ≤ g.2.1 q := ho
  have hp := (hR.2.2.1 x _ ha).1
  exact lv_acmp_eq (rx := some (g.1 + x)) (ry := some (g.2.1 q)) hx hb hd ht (fun e => by
    exfalso
    have e := Option.some.inj e
    omega) (fun _ => kk H locs ls hR hl)
theorem to_ldcM {idx : Nat} (hcl : Cond.classLink E.2.2.1 idx "[Ljava/lang/Object;" ∈ wsG) (hd : decode E.1 pc = .ok (.ldc idx, 2)) (k0 : To l E (pc + 2, L, .inr (.inr 1000051) :: st, h, k, z) F) : To l E (pc, L, st, h, k, z) F :=
  to_of (sx_pure fun g HB p e R s m args below meth c Q H locs ls hC hl kk => by
    have hk : W p l e R s m args below meth c H locs k z Q (F0 m (pc + 2) ls (rv g (1000000 + 51) :: st.map (dv g))) := kk ls hl
    rw [rv_out] at hk
    exact va_ldcM hC.1.1 hC.1.2.1 hC.1.2.2.2.1 (hC.1.2.2.2.2 _ hcl) hC.2.1.2.2.2.2.2.2.2.2.2.2.1 hd hk) k0
theorem to_getC {a n w idx : Nat} (hw : w % 10 = 4) (h1 : Cond.methodLink E.2.2.1 idx ⟨"java/lang/Object", "getClass", "()Ljava/lang/Class;"⟩ ∈ wsG) (h2 : Cond.selects "[Ljava/lang/Object;" ⟨"java/lang/Object", "getClass", "()Ljava/lang/Class;"⟩ ⟨"java/lang/Object", "getClass", "()Ljava/lang/Class;"⟩ ∈ wsG) (h3 : Cond.instanceMethod ⟨"java/lang/Object", "getClass", "()Ljava/lang/Class;"⟩ ∈ wsG) (h4 : Cond.native ⟨"java/lang/Object", "getClass", "()Ljava/lang/Class;"⟩ ∈ wsG)
    (hd : decode E.1 pc = .ok (.invokevirtual idx, 3)) (ha : h.2.1 a = some (.inl (w, n))) (hrm : (Nat.ble 1 E.2.2.2.2.2.1 && Nat.ble (slen st + 14) E.2.2.2.2.2.2) = true) (k0 : To l E (pc + 3, L, .inr (.inr 1000051) :: st, h, k, z) F) : To l E (pc, L, .inr (.inr a) :: st, h, k, z) F := by
  rw [Bool.and_eq_true] at hrm
  have r1 : 1 ≤ E.2.2.2.2.2.1 := Nat.ble_eq.mp hrm.1
  have r2 := Nat.ble_eq.mp hrm.2
  refine to_of ?_ k0
  refine ⟨⟨Nat.le_refl _, Nat.le_refl _⟩, fun g HB p e R s m args below meth c Q H locs ls hC hfr hlo _ _ hR hl kk => ?_⟩
  show W p l e R s m args below meth c H locs k z Q (F0 m pc ls (rv g a :: st.map (dv g)))
  rw [hR.rv ha]
  have hk : W p l e R s m args below meth c H locs k z Q (F0 m (pc + 3) ls (rv g (1000000 + 51) :: st.map (dv g))) := kk H locs ls hR hl
  rw [rv_out] at hk
  obtain ⟨⟨hx, hb, hml, hown, hts⟩, hA, -⟩ := hC
  exact va_getC (C := "[Ljava/lang/Object;") hx hb (hml.trans hl.1.symm) hown (hts _ h1) hA.2.2.2.2.2.2.2.2.2.2.2.use (hts _ h2) (hts _ h3) (hts _ h4) hA.2.2.2.2.2.2.2.2.2.2.1 ⟨_, hR.arr ha hw, rfl, va_nmO (hA.1.2 4 _ rfl).2 rfl⟩ (by omega) (by rw [slen_sum]; omega) hd hk
theorem to_copyR {a b n m w w' idx : Nat} {sp dp c : Int} (h1 : Cond.methodLink E.2.2.1 idx arraycopyName ∈ wsG) (h2 : Cond.native arraycopyName ∈ wsG) (h3 : Cond.static arraycopyName ∈ wsG) (h9 : Cond.initialized "java/lang/System" ∈ wsG) (hd : decode E.1 pc = .ok (.invokestatic idx, 3))
    (ha : h.2.1 a = some (.inl (w, n))) (hwa : w % 10 = 4) (hb : h.2.1 b = some (.inl (w', m))) (hwb : w' % 10 = 4) (hn : n ≤ 67108864) (hm : m ≤ 67108864) (hs : 0 ≤ sp) (hdp : 0 ≤ dp) (hc : 0 ≤ c) (h4 : sp + c ≤ m) (h5 : dp + c ≤ n) (hca : Cond.castable "MailArchive$Message" "java/lang/Object" ∈ nwL) (hel : ∀ i : Nat, (i : Int) < c → h.2.2 b (sp.toNat + i) = 0 ∨ ∃ x : Nat, h.2.2 b (sp.toNat + i) = (x : Int) ∧ h.2.1 x = some (.inr 5))
    (hrm : (Nat.ble 1 E.2.2.2.2.2.1 && Nat.ble (slen st + (nativeFrameWords "java/lang/System" "arraycopy" 5 + 11)) E.2.2.2.2.2.2) = true) (k0 : ∀ h' : Hp, h' = row h a (cpyF h a b sp.toNat dp.toNat c.toNat) → To l E (pc + 3, L, st, h', k, z) F) : To l E (pc, L, .inl c :: .inl dp :: .inr (.inr a) :: .inl sp :: .inr (.inr b) :: st, h, k, z) F := by
  rw [Bool.and_eq_true] at hrm
  have r1 : 1 ≤ E.2.2.2.2.2.1 := Nat.ble_eq.mp hrm.1
  have r2 := Nat.ble_eq.mp hrm.2
  refine to_of ?_ (k0 _ rfl)
  refine ⟨⟨Nat.le_refl _, Nat.le_refl _⟩, fun g HB p e R s m0 args below meth c0 Q H locs ls hC hfr hlo _ _ hR hl kk => ?_⟩
  show W p l e R s m0 args below meth c0 H locs k z Q (F0 m0 pc ls (.int (Int32.ofInt c) :: .int (Int32.ofInt dp) :: rv g a :: .int (Int32.ofInt sp) :: rv g b :: st.map (dv g)))
  rw [hR.rv ha, hR.rv hb]
  obtain ⟨⟨hx, hbb, hml, hown, hts⟩, hA, -⟩ := hC
  have cca : H[g.1 + a]? = some (arrV (g.2.2.2 4) n (fun j => aval g 4 (h.2.2 a j))) := hR.arr ha hwa
  have ccb : H[g.1 + b]? = some (arrV (g.2.2.2 4) m (fun j => aval g 4 (h.2.2 b j))) := hR.arr hb hwb
  obtain ⟨k0c, t1, f1, f2, f3⟩ := Cond.castable_spec (va_Nw.use (A := args) rfl (hA.2.1 _ hca))
  intro T hT X
  obtain ⟨-, kb, hkb, cmb, hkkb⟩ := (hA.1.2 4 _ rfl).1 m (fun j => aval g 4 (h.2.2 b j))
  obtain ⟨-, ka, hka, cma, hkka⟩ := (hA.1.2 4 _ rfl).1 n (fun j => aval g 4 (h.2.2 a j))
  have s1 := in_of (i := sp) (n := 67108865) (by omega) (by decide)
  have s2 := in_of (i := dp) (n := 67108865) (by omega) (by decide)
  have s3 := in_of (i := c) (n := 67108865) (by omega) (by decide)
  have i1 : (Int32.ofInt sp).toInt = sp := tI_of (by omega)
  have i2 : (Int32.ofInt dp).toInt = dp := tI_of (by omega)
  have i3 : (Int32.ofInt c).toInt = c := tI_of (by omega)
  obtain ⟨vm', X', step⟩ := X.arraycopy hx hown (hts _ h1) (hts _ h2) (hts _ h3) (hts _ h9) (src := g.1 + b) (dst := g.1 + a) (cs := arrV (g.2.2.2 4) m (fun j => aval g 4 (h.2.2 b j))) (cd := arrV (g.2.2.2 4) n (fun j => aval g 4 (h.2.2 a j))) (srcPos := Int32.ofInt sp) (destPos := Int32.ofInt dp) (n := Int32.ofInt c) (by rw [hT]; exact ccb) (by rw [hT]; exact cca)
    (fun _ h => by cases h) (fun _ h => by cases h) (fun h => by cases h) (fun h => by cases h) hkb hka hkkb hkka rfl s1.2 s2.2 s3.2
    (by rw [i1, i3]; show ¬ _ > ((arrV _ m _).slots.size : Int); rw [arrV_size]; omega)
    (by rw [i2, i3]; show ¬ _ > ((arrV _ n _).slots.size : Int); rw [arrV_size]; omega)
    (fun vm₁ hal i hi => by
      rw [s3.1] at hi
      have e9 : (arrV (g.2.2.2 4) m (fun j => aval g 4 (h.2.2 b j))).slots.getD ((Int32.ofInt sp).toNatClampNeg + i) .null = aval g 4 (h.2.2 b (sp.toNat + i)) := by
        rw [s1.1, Array.getD_eq_getD_getElem?, arrV_read _ _ (by omega)]
        rfl
      rw [e9]
      rcases hel i (by omega) with hy | ⟨y, hy, hty⟩
      · rw [hy]
        exact ⟨rfl, trivial⟩
      · rw [hy]
        have e8 : aval g 4 (y : Int) = .ref (g.1 + y) := hR.rv hty
        rw [e8]
        obtain ⟨r', hr', cellV, g1, g2, g3, -⟩ := hR.obj hty
        have hcls := (hA.1.1 5 _ rfl).2
        cases hcls.1.symm.trans f1
        obtain ⟨kA, comp, q1, q2, q3, -⟩ := (hA.1.2 4 _ rfl).2
        cases hka.symm.trans q1
        cases hkka.symm.trans q2
        cases q3.symm.trans f2
        obtain ⟨kC, hkC, -⟩ := hcls.2
        obtain ⟨kE, hkE, -⟩ := Vm.findClass_spec q3
        obtain ⟨kC', hkC', -⟩ := hal.2.2 _ _ hkC
        obtain ⟨kE', hkE', -⟩ := hal.2.2 _ _ hkE
        refine ⟨rfl, cellV, (show T.heap[g.1 + y]? = some cellV by rw [hT]; exact g1), (fun q h => by rw [h] at g3; cases g3), ⟨kC', by rw [g2]; exact hkC'⟩, ⟨kE', hkE'⟩, ?_⟩
        show vm₁.assignable _ _ = true
        rw [hal.assignable, g2]
        exact f3)
    (g := F0 m0 pc ls (.int (Int32.ofInt c) :: .int (Int32.ofInt dp) :: .ref (g.1 + a) :: .int (Int32.ofInt sp) :: .ref (g.1 + b) :: st.map (dv g))) rfl (hl.1.trans hml.symm) (rest := st.map (dv g)) rfl (by rw [hbb]; exact hd) (by omega) (by rw [slen_sum]; show 2 * 0 + _ + _ ≤ _; omega)
  have e1 : copied (arrV (g.2.2.2 4) m (fun j => aval g 4 (h.2.2 b j))) (arrV (g.2.2.2 4) n (fun j => aval g 4 (h.2.2 a j))) (Int32.ofInt sp) (Int32.ofInt dp) (Int32.ofInt c) = arrV (g.2.2.2 4) n (fun j => aval g 4 (cpyF h a b sp.toNat dp.toNat c.toNat j)) := by
    have e2 := va_copied (fun z : Int => aval g 4 z) (g.2.2.2 4) (g.2.2.2 4) (n0 := m) (n1 := n) (sp := sp.toNat) (dp := dp.toNat) (n := c.toNat) (h.2.2 b) (h.2.2 a) (by omega)
    unfold copied
    rw [s1.1, s2.1, s3.1]
    exact e2
  rw [e1] at X' step
  have hlt := (Array.getElem?_eq_some_iff.mp cca).1
  generalize hcell : arrV (g.2.2.2 4) n (fun j => aval g 4 (cpyF h a b sp.toNat dp.toNat c.toNat j)) = nc at X' step
  have hheap : ((T.setVm vm').setCell (g.1 + a) nc).heap = H.setIfInBounds (g.1 + a) nc := by rw [← hT]; rfl
  obtain ⟨t, a1, b1⟩ := kk (H.setIfInBounds (g.1 + a) nc) _ ls (hR.row ha (by
      show (H.setIfInBounds (g.1 + a) nc)[g.1 + a]? = some (vp_cell (g.2.2.2 (w % 10)) (cC g (w % 10) n _))
      rw [ce_arr, hwa, hcell]
      simp [Array.getElem?_setIfInBounds, hlt]) (by simp) (fun q9 hq9 => by simp [Array.getElem?_setIfInBounds, Ne.symm hq9]) (fun x hx9 => by
    rcases List.mem_append.mp hx9 with h | h
    · exact hR.2.2.2.2 x h
    · obtain ⟨y, -, hy⟩ := List.mem_map.mp h
      rw [← hy]
      have := (hR.2.2.1 a _ ha).1
      show g.1 + 1 ≤ g.1 + a
      omega)) hl _ hheap X'
  exact ⟨t, step t a1, b1⟩
end TOR
