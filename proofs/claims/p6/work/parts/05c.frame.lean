/-! Frames, and facts of the Bytes objects. -/
theorem col_fix {t t' : Option Ty} {a j : Nat} (h : a < 106) : col t a j = col t' a j := by
  unfold col
  have h1 : a < colT.length := h
  rw [List.getElem?_eq_getElem h1]
theorem Fr.get {S : List Nat} {h h' : Hp} (f : Fr S h h') {a j : Nat} (ha : a < h.1) (hn : S.contains (col (h.2.1 a) a j) = false) : h'.2.2 a j = h.2.2 a j := f.2.1 a j ha hn
theorem Fr.sub {S S' : List Nat} {h h1 h2 : Hp} (f : Fr S h h1) (f2 : Fr S' h1 h2) (hs : S'.all (fun c => S.contains c) = true) : Fr S h h2 := by
  refine ⟨⟨Nat.le_trans f.1.1 f2.1.1, fun a ha => by rw [f2.1.2 a (Nat.lt_of_lt_of_le ha f.1.1), f.1.2 a ha]⟩, fun a j ha hn => ?_, fun hn => ?_⟩
  · rw [f2.2.1 a j (Nat.lt_of_lt_of_le ha f.1.1) ?_, f.2.1 a j ha hn]
    rw [f.1.2 a ha]
    cases hc : S'.contains (col (h.2.1 a) a j) with
    | false => rfl
    | true =>
      have h1 : col (h.2.1 a) a j ∈ S' := List.contains_iff_mem.mp hc
      have h2 := List.all_eq_true.mp hs _ h1
      rw [hn] at h2
      cases h2
  · refine (f2.2.2 ?_).trans (f.2.2 hn)
    cases hc : S'.contains 999 with
    | false => rfl
    | true =>
      have h1 : 999 ∈ S' := List.contains_iff_mem.mp hc
      have h2 := List.all_eq_true.mp hs _ h1
      rw [hn] at h2
      cases h2
theorem Fr.mono {S S' : List Nat} {h h1 : Hp} (f : Fr S' h h1) (hs : S'.all (fun c => S.contains c) = true) : Fr S h h1 := (Fr.rf S h).sub f hs
-- Bytes
theorem isB_in {a : Nat} (h : isB a = true) : a = 2 ∨ a = 4 ∨ a = 6 ∨ a = 33 ∨ a = 35 ∨ a = 37 ∨ a = 39 ∨ a = 54 := by
  obtain ⟨q, hq, he⟩ := List.any_eq_true.mp h
  have e := Nat.eq_of_beq_eq_true he
  subst e
  simp only [bL, List.mem_cons, List.not_mem_nil, or_false] at hq
  rcases hq with rfl | rfl | rfl | rfl | rfl | rfl | rfl | rfl <;> decide
theorem Inv.bty {h : Hp} (hI : Inv h) {a : Nat} (hb : isB a = true) : h.2.1 a = some (.inr 2) := by
  rcases isB_in hb with rfl | rfl | rfl | rfl | rfl | rfl | rfl | rfl <;> exact hI.atS rfl
theorem Inv.brt {h : Hp} (hI : Inv h) {a : Nat} (hb : isB a = true) : h.2.1 (a + 1) = some (.inl (1, bcap a)) := by
  rcases isB_in hb with rfl | rfl | rfl | rfl | rfl | rfl | rfl | rfl <;> exact hI.atS rfl
theorem Inv.brow {h : Hp} (hI : Inv h) {a : Nat} (hb : isB a = true) : h.2.2 a 0 = ((a + 1 : Nat) : Int) := by
  rcases isB_in hb with rfl | rfl | rfl | rfl | rfl | rfl | rfl | rfl <;> exact hI.atE rfl
theorem bcap_le (a : Nat) : bcap a ≤ 1200 := by
  unfold bcap
  split <;> omega
theorem bcap_n (a : Nat) : bcap a ≤ 2147483647 := Nat.le_trans (bcap_le a) (by decide)
theorem Inv.blen {h : Hp} (hI : Inv h) {a : Nat} (hb : isB a = true) : 0 ≤ h.2.2 a 1 ∧ h.2.2 a 1 ≤ bcap a ∧ bcap a ≤ 1200 := by
  have h9 := bcap_le a
  rcases isB_in hb with rfl | rfl | rfl | rfl | rfl | rfl | rfl | rfl
  all_goals
    refine ⟨(hI.atR rfl).1, (hI.atR rfl).2, h9⟩
theorem Inv.bcon {h : Hp} (hI : Inv h) {a j : Nat} (hb : isB a = true) : -128 ≤ h.2.2 (a + 1) j ∧ h.2.2 (a + 1) j ≤ 127 := by
  rcases isB_in hb with rfl | rfl | rfl | rfl | rfl | rfl | rfl | rfl <;> exact hI.atR rfl
theorem Inv.putB {h : Hp} (hI : Inv h) {a : Nat} {x : Int} (hb : isB a = true) (hx : 0 ≤ x ∧ x ≤ bcap a) : Inv (wr h a 1 x) := by
  rcases isB_in hb with rfl | rfl | rfl | rfl | rfl | rfl | rfl | rfl <;> exact hI.put _ _ rfl rfl hx
theorem Inv.putBr {h : Hp} (hI : Inv h) {a j : Nat} {x : Int} (hb : isB a = true) (hx : -128 ≤ x ∧ x ≤ 127) : Inv (wr h (a + 1) j x) := by
  rcases isB_in hb with rfl | rfl | rfl | rfl | rfl | rfl | rfl | rfl <;> exact hI.put _ _ rfl rfl hx
theorem colB {a j : Nat} {t : Option Ty} (hb : isB a = true) : col t a j = a ∧ col t (a + 1) j = a := by
  rcases isB_in hb with rfl | rfl | rfl | rfl | rfl | rfl | rfl | rfl <;> exact ⟨rfl, rfl⟩
theorem Fr.putB {S : List Nat} {h h1 : Hp} (f : Fr S h h1) {a j : Nat} {x : Int} (hb : isB a = true) (hs : S.contains a = true) : Fr S h (wr h1 a j x) := f.put fun _ => by rw [(colB hb).1]; exact hs
theorem Fr.putBr {S : List Nat} {h h1 : Hp} (f : Fr S h h1) {a j : Nat} {x : Int} (hb : isB a = true) (hs : S.contains a = true) : Fr S h (wr h1 (a + 1) j x) := f.put fun _ => by rw [(colB hb).2]; exact hs
theorem contains1 (a : Nat) : ([a] : List Nat).contains a = true := by simp
section TOX
variable {l : Launch} {E : ME} {pc : Nat} {L : LL} {st : List V} {h : Hp} {k z : Nat} {F : Option V → Hp → Nat → Nat → Prop}
theorem to_getIv {a idx ci j : Nat} {y : Int} (hv : h.2.2 a j = y) (hg : GI E.2.2.1 idx ci j) (hd : decode E.1 pc = .ok (.getfield idx, 3)) (ht : h.2.1 a = some (.inr ci)) (k0 : To l E (pc + 3, L, .inl y :: st, h, k, z) F) : To l E (pc, L, .inr (.inr a) :: st, h, k, z) F := by
  subst hv
  exact to_getI hg hd ht k0
theorem to_ialdv {a n w : Nat} {i y : Int} (hv : h.2.2 a i.toNat = y) (hd : decode E.1 pc = .ok (.iaload, 1)) (ht : h.2.1 a = some (.inl (w, n))) (hq : w % 10 = 0) (hn : n ≤ 2147483647) (hi : 0 ≤ i ∧ i < n) (k0 : To l E (pc + 1, L, .inl y :: st, h, k, z) F) : To l E (pc, L, .inl i :: .inr (.inr a) :: st, h, k, z) F := by
  subst hv
  exact to_iald hd ht hq hn hi k0
theorem to_baldv {a n q w : Nat} {i y : Int} (hv : h.2.2 a i.toNat = y) (hd : decode E.1 pc = .ok (.baload, 1)) (hq : q = 1 ∨ q = 2) (ht : h.2.1 a = some (.inl (w, n))) (hw : w % 10 = q) (hn : n ≤ 2147483647) (hi : 0 ≤ i ∧ i < n) (k0 : To l E (pc + 1, L, .inl y :: st, h, k, z) F) : To l E (pc, L, .inl i :: .inr (.inr a) :: st, h, k, z) F := by
  subst hv
  exact to_bald hd hq ht hw hn hi k0
/-- fewer locals are told -/
theorem to_less {L' : LL} (hs : ∀ q ∈ L', q ∈ L) (k0 : To l E (pc, L', st, h, k, z) F) : To l E (pc, L, st, h, k, z) F :=
  to_of (sx_pure fun g HB p e R s m args below meth c Q H locs ls hC hl kk => kk ls (lv_less hl fun q hq => by
    obtain ⟨x, hx, rfl⟩ := List.mem_map.mp hq
    exact List.mem_map.mpr ⟨x, hs x hx, rfl⟩)) k0
theorem to_pick (ks : List Nat) {L' : LL} (hs : ks.filterMap (fun i => L[i]?) = L') (k0 : To l E (pc, L', st, h, k, z) F) : To l E (pc, L, st, h, k, z) F := by
  refine to_less (fun q hq => ?_) k0
  rw [← hs] at hq
  obtain ⟨i, -, hi⟩ := List.mem_filterMap.mp hq
  exact List.mem_of_getElem? hi
/-- a sum of which only that it is an int is told -/
theorem to_iaddA {x y : Int} (hd : decode E.1 pc = .ok (.iadd, 1)) (k0 : ∀ y : Int, I32 y → To l E (pc + 1, L, .inl y :: st, h, k, z) F) : To l E (pc, L, .inl y :: .inl x :: st, h, k, z) F :=
  to_someI (P := fun _ => True) (Int32.ofInt x + Int32.ofInt y) trivial (fun g HB p e R s m args below meth c Q H locs ls hC hl kk => lv_iadd hC.1.1 hC.1.2.1 hd kk) (fun y hy _ => k0 y hy)
theorem to_isubA {x y : Int} (hd : decode E.1 pc = .ok (.isub, 1)) (k0 : ∀ y : Int, I32 y → To l E (pc + 1, L, .inl y :: st, h, k, z) F) : To l E (pc, L, .inl y :: .inl x :: st, h, k, z) F :=
  to_someI (P := fun _ => True) (Int32.ofInt x - Int32.ofInt y) trivial (fun g HB p e R s m args below meth c Q H locs ls hC hl kk => lv_isub hC.1.1 hC.1.2.1 hd kk) (fun y hy _ => k0 y hy)
theorem to_imulA {x y : Int} (hd : decode E.1 pc = .ok (.imul, 1)) (k0 : ∀ y : Int, I32 y → To l E (pc + 1, L, .inl y :: st, h, k, z) F) : To l E (pc, L, .inl y :: .inl x :: st, h, k, z) F :=
  to_someI (P := fun _ => True) (Int32.ofInt x * Int32.ofInt y) trivial (fun g HB p e R s m args below meth c Q H locs ls hC hl kk => lv_imul hC.1.1 hC.1.2.1 hd kk) (fun y hy _ => k0 y hy)
theorem to_inegA {x : Int} (hd : decode E.1 pc = .ok (.ineg, 1)) (k0 : ∀ y : Int, I32 y → To l E (pc + 1, L, .inl y :: st, h, k, z) F) : To l E (pc, L, .inl x :: st, h, k, z) F :=
  to_someI (P := fun _ => True) (-Int32.ofInt x) trivial (fun g HB p e R s m args below meth c Q H locs ls hC hl kk => lv_ineg hC.1.1 hC.1.2.1 hd kk) (fun y hy _ => k0 y hy)
end TOX
theorem ri_mk {P : Int → Hp → Prop} {x : Int} {h : Hp} (hx : I32 x) (hP : P x h) : RI P (some (.inl x)) h 0 0 := ⟨rfl, rfl, x, rfl, hx, hP⟩
theorem rv_mk {P : Hp → Prop} {h : Hp} (hP : P h) : RV P none h 0 0 := ⟨rfl, rfl, rfl, hP⟩
theorem rr_mk {P : Nat → Hp → Prop} {x : Nat} {h : Hp} (hP : P x h) : RR P (some (.inr (.inr x))) h 0 0 := ⟨rfl, rfl, x, rfl, hP⟩
theorem rl_mk {P : Int → Hp → Prop} {x : Int} {h : Hp} (hP : P x h) : RLo P (some (.inr (.inl x))) h 0 0 := ⟨rfl, rfl, x, rfl, hP⟩
theorem ri_mka {P : Int → Hp → Nat → Nat → Prop} {x : Int} {h : Hp} {k z : Nat} (hx : I32 x) (hP : P x h k z) : RIa P (some (.inl x)) h k z := ⟨x, rfl, hx, hP⟩
theorem rv_mka {P : Hp → Nat → Nat → Prop} {h : Hp} {k z : Nat} (hP : P h k z) : RVa P none h k z := ⟨rfl, hP⟩
theorem rr_mka {P : Nat → Hp → Nat → Nat → Prop} {x : Nat} {h : Hp} {k z : Nat} (hP : P x h k z) : RRa P (some (.inr (.inr x))) h k z := ⟨x, rfl, hP⟩
