/-! The steps once more, for any property of configurations that is kept backwards. -/
def Gn (l : Launch) (E : ME) (T : Cfg → Prop) : Prop := ∀ x y, Sx_ l E x y → T y → T x
section TGM
variable {l : Launch} {E : ME} {pc : Nat} {L : LL} {st : List V} {h : Hp} {k z : Nat} {Tp : Cfg → Prop} {op : Instr} {kd np fr lo : Nat} {d : MD} {av r : List V}
theorem Gn.of (hT : Gn l E Tp) {x y : Cfg} (hs : Sx_ l E x y) (k0 : Tp y) : Tp x := hT x y hs k0
theorem tg_iconst (hT : Gn l E Tp) {i : Int} (hd : decode E.1 pc = .ok (.iconst i, 1)) (k0 : Tp (pc + 1, L, .inl i :: st, h, k, z)) : Tp (pc, L, st, h, k, z) :=
  hT.of (sx_pure (fun g HB p e R s m args below meth c Q H locs ls hC hl kk => lv_iconst hC.1.1 hC.1.2.1 hd rfl (kk ls hl))) k0
theorem tg_bipush (hT : Gn l E Tp) {i : Int} (hd : decode E.1 pc = .ok (.bipush i, 2)) (hi : -128 ≤ i ∧ i < 128) (k0 : Tp (pc + 2, L, .inl i :: st, h, k, z)) : Tp (pc, L, st, h, k, z) :=
  hT.of (sx_pure (fun g HB p e R s m args below meth c Q H locs ls hC hl kk => lv_bipush hC.1.1 hC.1.2.1 hd (i8_of hi) (kk ls hl))) k0
theorem tg_sipush (hT : Gn l E Tp) {i : Int} (hd : decode E.1 pc = .ok (.sipush i, 3)) (hi : -32768 ≤ i ∧ i < 32768) (k0 : Tp (pc + 3, L, .inl i :: st, h, k, z)) : Tp (pc, L, st, h, k, z) :=
  hT.of (sx_pure (fun g HB p e R s m args below meth c Q H locs ls hC hl kk => lv_sipush hC.1.1 hC.1.2.1 hd (i16_of hi) (kk ls hl))) k0
theorem tg_lconst (hT : Gn l E Tp) {i : Fin 2} {v : Int} (hd : decode E.1 pc = .ok (.lconst i, 1)) (hv : Int64.ofNat (i : Nat) = Int64.ofInt v) (k0 : Tp (pc + 1, L, .inr (.inl v) :: st, h, k, z)) : Tp (pc, L, st, h, k, z) :=
  hT.of (sx_pure (fun g HB p e R s m args below meth c Q H locs ls hC hl kk => lv_lconst hC.1.1 hC.1.2.1 hd hv (kk ls hl))) k0
theorem tg_null (hT : Gn l E Tp) (hd : decode E.1 pc = .ok (.aconst_null, 1)) (k0 : Tp (pc + 1, L, .inr (.inr 0) :: st, h, k, z)) : Tp (pc, L, st, h, k, z) :=
  hT.of (sx_pure (fun g HB p e R s m args below meth c Q H locs ls hC hl kk => lv_null hC.1.1 hC.1.2.1 hd (kk ls hl))) k0
theorem tg_iload (hT : Gn l E Tp) {i : Nat} {x : Int} (hd : decode E.1 pc = .ok (.iload i, 2)) (ha : alk L i = some (.inl x)) (k0 : Tp (pc + 2, L, (.inl x) :: st, h, k, z)) : Tp (pc, L, st, h, k, z) :=
  hT.of (sx_pure (fun g HB p e R s m args below meth c Q H locs ls hC hl kk => lv_iload hC.1.1 hC.1.2.1 hd (alk_at hl ha) (kk ls hl))) k0
theorem tg_iload_n (hT : Gn l E Tp) {i : Fin 4} {x : Int} (hd : decode E.1 pc = .ok (.iload_n i, 1)) (ha : alk L i = some (.inl x)) (k0 : Tp (pc + 1, L, (.inl x) :: st, h, k, z)) : Tp (pc, L, st, h, k, z) :=
  hT.of (sx_pure (fun g HB p e R s m args below meth c Q H locs ls hC hl kk => lv_iload_n hC.1.1 hC.1.2.1 hd rfl (alk_at hl ha) (kk ls hl))) k0
theorem tg_lload (hT : Gn l E Tp) {i : Nat} {x : Int} (hd : decode E.1 pc = .ok (.lload i, 2)) (ha : alk L i = some (.inr (.inl x))) (k0 : Tp (pc + 2, L, (.inr (.inl x)) :: st, h, k, z)) : Tp (pc, L, st, h, k, z) :=
  hT.of (sx_pure (fun g HB p e R s m args below meth c Q H locs ls hC hl kk => lv_lload hC.1.1 hC.1.2.1 hd (alk_at hl ha) (kk ls hl))) k0
theorem tg_lload_n (hT : Gn l E Tp) {i : Fin 4} {x : Int} (hd : decode E.1 pc = .ok (.lload_n i, 1)) (ha : alk L i = some (.inr (.inl x))) (k0 : Tp (pc + 1, L, (.inr (.inl x)) :: st, h, k, z)) : Tp (pc, L, st, h, k, z) :=
  hT.of (sx_pure (fun g HB p e R s m args below meth c Q H locs ls hC hl kk => lv_lload_n hC.1.1 hC.1.2.1 hd rfl (alk_at hl ha) (kk ls hl))) k0
theorem tg_aload (hT : Gn l E Tp) {i x : Nat} (hd : decode E.1 pc = .ok (.aload i, 2)) (ha : alk L i = some (.inr (.inr (x + 1)))) (k0 : Tp (pc + 2, L, .inr (.inr (x + 1)) :: st, h, k, z)) : Tp (pc, L, st, h, k, z) :=
  hT.of (sx_pure (fun g HB p e R s m args below meth c Q H locs ls hC hl kk => lv_aload hC.1.1 hC.1.2.1 hd (alk_at hl ha) (kk ls hl))) k0
theorem tg_aload_n (hT : Gn l E Tp) {i : Fin 4} {x : Nat} (hd : decode E.1 pc = .ok (.aload_n i, 1)) (ha : alk L i = some (.inr (.inr (x + 1)))) (k0 : Tp (pc + 1, L, .inr (.inr (x + 1)) :: st, h, k, z)) : Tp (pc, L, st, h, k, z) :=
  hT.of (sx_pure (fun g HB p e R s m args below meth c Q H locs ls hC hl kk => lv_aload_n hC.1.1 hC.1.2.1 hd rfl (alk_at hl ha) (kk ls hl))) k0
theorem tg_aload_p (hT : Gn l E Tp) {i x : Nat} (hd : decode E.1 pc = .ok (.aload i, 2)) (hp : 0 < x) (ha : alk L i = some (.inr (.inr x))) (k0 : Tp (pc + 2, L, .inr (.inr x) :: st, h, k, z)) : Tp (pc, L, st, h, k, z) := by
  cases x with
  | zero => omega
  | succ y => exact tg_aload hT hd ha k0
theorem tg_aload_np (hT : Gn l E Tp) {i : Fin 4} {x : Nat} (hd : decode E.1 pc = .ok (.aload_n i, 1)) (hp : 0 < x) (ha : alk L i = some (.inr (.inr x))) (k0 : Tp (pc + 1, L, .inr (.inr x) :: st, h, k, z)) : Tp (pc, L, st, h, k, z) := by
  cases x with
  | zero => omega
  | succ y => exact tg_aload_n hT hd ha k0
theorem tg_istore (hT : Gn l E Tp) {i : Nat} {x : Int} {L' : LL} (hd : decode E.1 pc = .ok (.istore i, 2)) (hi : i < E.2.1) (hL : ups i (.inl x) L = L') (k0 : Tp (pc + 2, L', st, h, k, z)) : Tp (pc, L, (.inl x) :: st, h, k, z) :=
  hT.of (sx_pure (fun g HB p e R s m args below meth c Q H locs ls hC hl kk => lv_istore hC.1.1 hC.1.2.1 hd hl hi rfl (fun ls' h' => kk ls' (lv_less h' (by subst hL; exact ups_sub))))) k0
theorem tg_istore_n (hT : Gn l E Tp) {i : Fin 4} {x : Int} {L' : LL} (hd : decode E.1 pc = .ok (.istore_n i, 1)) (hi : (i : Nat) < E.2.1) (hL : ups i (.inl x) L = L') (k0 : Tp (pc + 1, L', st, h, k, z)) : Tp (pc, L, (.inl x) :: st, h, k, z) :=
  hT.of (sx_pure (fun g HB p e R s m args below meth c Q H locs ls hC hl kk => lv_istore_n hC.1.1 hC.1.2.1 hd rfl hl hi rfl (fun ls' h' => kk ls' (lv_less h' (by subst hL; exact ups_sub))))) k0
theorem tg_astore (hT : Gn l E Tp) {i : Nat} {x : Nat} {L' : LL} (hd : decode E.1 pc = .ok (.astore i, 2)) (hp : 0 < x) (hi : (i : Nat) < E.2.1) (hL : ups i (.inr (.inr x)) L = L') (k0 : Tp (pc + 2, L', st, h, k, z)) : Tp (pc, L, .inr (.inr x) :: st, h, k, z) := by
  cases x with
  | zero => omega
  | succ y => exact hT.of (sx_pure (fun g HB p e R s m args below meth c Q H locs ls hC hl kk => lv_astore hC.1.1 hC.1.2.1 hd hl hi rfl (fun ls' h' => kk ls' (lv_less h' (by subst hL; exact ups_sub))))) k0
theorem tg_astore_n (hT : Gn l E Tp) {i : Fin 4} {x : Nat} {L' : LL} (hd : decode E.1 pc = .ok (.astore_n i, 1)) (hp : 0 < x) (hi : (i : Nat) < E.2.1) (hL : ups i (.inr (.inr x)) L = L') (k0 : Tp (pc + 1, L', st, h, k, z)) : Tp (pc, L, .inr (.inr x) :: st, h, k, z) := by
  cases x with
  | zero => omega
  | succ y => exact hT.of (sx_pure (fun g HB p e R s m args below meth c Q H locs ls hC hl kk => lv_astore_n hC.1.1 hC.1.2.1 hd rfl hl hi rfl (fun ls' h' => kk ls' (lv_less h' (by subst hL; exact ups_sub))))) k0
theorem tg_lstore (hT : Gn l E Tp) {i : Nat} {x : Int} {L' : LL} (hd : decode E.1 pc = .ok (.lstore i, 2)) (hi : (i : Nat) + 1 < E.2.1) (hL : upl i (.inr (.inl x)) L = L') (k0 : Tp (pc + 2, L', st, h, k, z)) : Tp (pc, L, .inr (.inl x) :: st, h, k, z) :=
  hT.of (sx_pure (fun g HB p e R s m args below meth c Q H locs ls hC hl kk => lv_lstore hC.1.1 hC.1.2.1 hd hl hi rfl (fun ls' h' => kk ls' (by subst hL; rw [← upl_eq]; exact h')))) k0
theorem tg_lstore_n (hT : Gn l E Tp) {i : Fin 4} {x : Int} {L' : LL} (hd : decode E.1 pc = .ok (.lstore_n i, 1)) (hi : (i : Nat) + 1 < E.2.1) (hL : upl i (.inr (.inl x)) L = L') (k0 : Tp (pc + 1, L', st, h, k, z)) : Tp (pc, L, .inr (.inl x) :: st, h, k, z) :=
  hT.of (sx_pure (fun g HB p e R s m args below meth c Q H locs ls hC hl kk => lv_lstore_n hC.1.1 hC.1.2.1 hd rfl hl hi rfl (fun ls' h' => kk ls' (by subst hL; rw [← upl_eq]; exact h')))) k0
theorem tg_iinc (hT : Gn l E Tp) {i : Nat} {d x : Int} {L' : LL} (hd : decode E.1 pc = .ok (.iinc i d, 3)) (ha : alk L i = some (.inl x)) (hi : i < E.2.1) (hL : ups i (.inl (x + d)) L = L') (k0 : Tp (pc + 3, L', st, h, k, z)) : Tp (pc, L, st, h, k, z) := by
  refine hT.of (sx_pure (fun g HB p e R s m args below meth c Q H locs ls hC hl kk => ?_)) k0
  have hm : (i, dv g (.inl x)) ∈ dL g L := List.mem_map.mpr ⟨(i, .inl x), alk_mem ha, rfl⟩
  obtain ⟨j, hj⟩ := List.getElem?_of_mem hm
  exact lv_iinc hC.1.1 hC.1.2.1 hd hl hj rfl hi rfl (fun ls' h' => kk ls' (lv_less h' (by subst hL; rw [← Int32.ofInt_add]; exact ups_sub)))
theorem tg_iadd (hT : Gn l E Tp) {x y : Int} (hd : decode E.1 pc = .ok (.iadd, 1)) (k0 : Tp (pc + 1, L, .inl (x + y) :: st, h, k, z)) : Tp (pc, L, .inl y :: .inl x :: st, h, k, z) :=
  hT.of (sx_pure (fun g HB p e R s m args below meth c Q H locs ls hC hl kk => lv_iadd hC.1.1 hC.1.2.1 hd (by rw [← Int32.ofInt_add]; exact kk ls hl))) k0
theorem tg_isub (hT : Gn l E Tp) {x y : Int} (hd : decode E.1 pc = .ok (.isub, 1)) (k0 : Tp (pc + 1, L, .inl (x - y) :: st, h, k, z)) : Tp (pc, L, .inl y :: .inl x :: st, h, k, z) :=
  hT.of (sx_pure (fun g HB p e R s m args below meth c Q H locs ls hC hl kk => lv_isub hC.1.1 hC.1.2.1 hd (by rw [← Int32.ofInt_sub]; exact kk ls hl))) k0
theorem tg_imul (hT : Gn l E Tp) {x y : Int} (hd : decode E.1 pc = .ok (.imul, 1)) (k0 : Tp (pc + 1, L, .inl (x * y) :: st, h, k, z)) : Tp (pc, L, .inl y :: .inl x :: st, h, k, z) :=
  hT.of (sx_pure (fun g HB p e R s m args below meth c Q H locs ls hC hl kk => lv_imul hC.1.1 hC.1.2.1 hd (by rw [← Int32.ofInt_mul]; exact kk ls hl))) k0
theorem tg_ineg (hT : Gn l E Tp) {x : Int} (hd : decode E.1 pc = .ok (.ineg, 1)) (k0 : Tp (pc + 1, L, .inl (-x) :: st, h, k, z)) : Tp (pc, L, .inl x :: st, h, k, z) :=
  hT.of (sx_pure (fun g HB p e R s m args below meth c Q H locs ls hC hl kk => lv_ineg hC.1.1 hC.1.2.1 hd (by rw [← Int32.ofInt_neg]; exact kk ls hl))) k0
theorem tg_someI (hT : Gn l E Tp) {pc' : Nat} {st0 : List V} {P : Int → Prop} (x : Int32) (hP : P x.toInt) (row : ∀ (g : GG) (HB : Heap) (p : Program) (e : Env) (R : Room) (s : State) (m : MethodId) (args : Array Value) (below : List Frame) (meth : Method) (c : Code) (Q : State → Prop) (H : Heap) (locs : List Loc) (ls : Array Slot), Cx g HB p s m args meth c E → lv_has ls E.2.1 (dL g L) →
      W p l e R s m args below meth c H locs k z Q (F0 m pc' ls (.int x :: st0.map (dv g))) → W p l e R s m args below meth c H locs k z Q (F0 m pc ls (st.map (dv g))))
    (k0 : ∀ y : Int, I32 y → P y → Tp (pc', L, .inl y :: st0, h, k, z)) : Tp (pc, L, st, h, k, z) :=
  hT.of (sx_pure (fun g HB p e R s m args below meth c Q H locs ls hC hl kk => row g HB p e R s m args below meth c Q H locs ls hC hl (by
    have h9 := kk ls hl
    rw [List.map_cons] at h9
    have e9 : dv g (.inl x.toInt) = .int x := congrArg Value.int (ofInt_toInt x)
    rw [e9] at h9
    exact h9))) (k0 x.toInt (i32_toInt x) hP)
theorem tg_someL (hT : Gn l E Tp) {pc' : Nat} {st0 : List V} (x : Int64) (row : ∀ (g : GG) (HB : Heap) (p : Program) (e : Env) (R : Room) (s : State) (m : MethodId) (args : Array Value) (below : List Frame) (meth : Method) (c : Code) (Q : State → Prop) (H : Heap) (locs : List Loc) (ls : Array Slot), Cx g HB p s m args meth c E → lv_has ls E.2.1 (dL g L) →
      W p l e R s m args below meth c H locs k z Q (F0 m pc' ls (.long x :: st0.map (dv g))) → W p l e R s m args below meth c H locs k z Q (F0 m pc ls (st.map (dv g))))
    (k0 : ∀ y : Int, Tp (pc', L, .inr (.inl y) :: st0, h, k, z)) : Tp (pc, L, st, h, k, z) :=
  hT.of (sx_pure (fun g HB p e R s m args below meth c Q H locs ls hC hl kk => row g HB p e R s m args below meth c Q H locs ls hC hl (by
    have h9 := kk ls hl
    rw [List.map_cons] at h9
    have e9 : dv g (.inr (.inl x.toInt)) = .long x := congrArg Value.long (Int64.ofInt_toInt x)
    rw [e9] at h9
    exact h9))) (k0 x.toInt)
theorem tg_ior (hT : Gn l E Tp) {x y : Int} (hd : decode E.1 pc = .ok (.ior, 1)) (k0 : ∀ y : Int, I32 y → Tp (pc + 1, L, .inl y :: st, h, k, z)) : Tp (pc, L, .inl y :: .inl x :: st, h, k, z) :=
  tg_someI hT (P := fun _ => True) (Int32.ofInt x ||| Int32.ofInt y) trivial (fun g HB p e R s m args below meth c Q H locs ls hC hl kk => lv_ior hC.1.1 hC.1.2.1 hd kk) (fun y hy _ => k0 y hy)
theorem tg_ixor (hT : Gn l E Tp) {x y : Int} (hd : decode E.1 pc = .ok (.ixor, 1)) (k0 : ∀ y : Int, I32 y → Tp (pc + 1, L, .inl y :: st, h, k, z)) : Tp (pc, L, .inl y :: .inl x :: st, h, k, z) :=
  tg_someI hT (P := fun _ => True) (Int32.ofInt x ^^^ Int32.ofInt y) trivial (fun g HB p e R s m args below meth c Q H locs ls hC hl kk => lv_ixor hC.1.1 hC.1.2.1 hd kk) (fun y hy _ => k0 y hy)
theorem tg_ishl (hT : Gn l E Tp) {x y : Int} (hd : decode E.1 pc = .ok (.ishl, 1)) (k0 : ∀ y : Int, I32 y → Tp (pc + 1, L, .inl y :: st, h, k, z)) : Tp (pc, L, .inl y :: .inl x :: st, h, k, z) :=
  tg_someI hT (P := fun _ => True) (Int32.ofInt x <<< (Int32.ofInt y &&& 31)) trivial (fun g HB p e R s m args below meth c Q H locs ls hC hl kk => lv_ishl hC.1.1 hC.1.2.1 hd kk) (fun y hy _ => k0 y hy)
theorem tg_ishr (hT : Gn l E Tp) {x y : Int} (hd : decode E.1 pc = .ok (.ishr, 1)) (k0 : ∀ y : Int, I32 y → Tp (pc + 1, L, .inl y :: st, h, k, z)) : Tp (pc, L, .inl y :: .inl x :: st, h, k, z) :=
  tg_someI hT (P := fun _ => True) (Int32.ofInt x >>> (Int32.ofInt y &&& 31)) trivial (fun g HB p e R s m args below meth c Q H locs ls hC hl kk => lv_ishr hC.1.1 hC.1.2.1 hd kk) (fun y hy _ => k0 y hy)
theorem tg_iushr (hT : Gn l E Tp) {x y : Int} (hd : decode E.1 pc = .ok (.iushr, 1)) (k0 : ∀ y : Int, I32 y → Tp (pc + 1, L, .inl y :: st, h, k, z)) : Tp (pc, L, .inl y :: .inl x :: st, h, k, z) :=
  tg_someI hT (P := fun _ => True) (((Int32.ofInt x).toUInt32 >>> ((Int32.ofInt y).toUInt32 &&& Int32.toUInt32 31)).toInt32) trivial (fun g HB p e R s m args below meth c Q H locs ls hC hl kk => lv_iushr hC.1.1 hC.1.2.1 hd rfl kk) (fun y hy _ => k0 y hy)
theorem tg_idiv (hT : Gn l E Tp) {x y : Int} (hd : decode E.1 pc = .ok (.idiv, 1)) (hy : I32 y ∧ y ≠ 0) (k0 : ∀ y : Int, I32 y → Tp (pc + 1, L, .inl y :: st, h, k, z)) : Tp (pc, L, .inl y :: .inl x :: st, h, k, z) :=
  tg_someI hT (P := fun _ => True) (Int32.ofInt x / Int32.ofInt y) trivial (fun g HB p e R s m args below meth c Q H locs ls hC hl kk => lv_idiv hC.1.1 hC.1.2.1 hd (fun h0 => hy.2 ((eq_of hy.1 (by omega)).mp (h0.trans zero_of))) kk) (fun y hy _ => k0 y hy)
theorem tg_irem (hT : Gn l E Tp) {x y : Int} (hd : decode E.1 pc = .ok (.irem, 1)) (hy : I32 y ∧ y ≠ 0) (k0 : ∀ y : Int, I32 y → Tp (pc + 1, L, .inl y :: st, h, k, z)) : Tp (pc, L, .inl y :: .inl x :: st, h, k, z) :=
  tg_someI hT (P := fun _ => True) (Int32.ofInt x - Int32.ofInt x / Int32.ofInt y * Int32.ofInt y) trivial (fun g HB p e R s m args below meth c Q H locs ls hC hl kk => lv_irem hC.1.1 hC.1.2.1 hd (fun h0 => hy.2 ((eq_of hy.1 (by omega)).mp (h0.trans zero_of))) kk) (fun y hy _ => k0 y hy)
theorem tg_iand (hT : Gn l E Tp) {x : Int} (m : Int) (n : Nat) (hd : decode E.1 pc = .ok (.iand, 1)) (hm : (Int32.ofInt m).toBitVec.toNat = n) (hn : n < 2147483648) (k0 : ∀ y : Int, I32 y → 0 ≤ y ∧ y ≤ n → Tp (pc + 1, L, .inl y :: st, h, k, z)) : Tp (pc, L, .inl m :: .inl x :: st, h, k, z) :=
  tg_someI hT (P := fun y => 0 ≤ y ∧ y ≤ n) (Int32.ofInt x &&& Int32.ofInt m) (and_low _ hm hn) (fun g HB p e R s m args below meth c Q H locs ls hC hl kk => lv_iand hC.1.1 hC.1.2.1 hd kk) k0
theorem tg_i2b (hT : Gn l E Tp) {x : Int} (hd : decode E.1 pc = .ok (.i2b, 1)) (k0 : Tp (pc + 1, L, .inl (b8 x) :: st, h, k, z)) : Tp (pc, L, .inl x :: st, h, k, z) :=
  hT.of (sx_pure (fun g HB p e R s m args below meth c Q H locs ls hC hl kk => lv_i2b hC.1.1 hC.1.2.1 hd (v := Int32.ofInt (b8 x)) (by
    rw [i2b_of]
    unfold b8
    rw [Int32.toInt_ofInt]
    congr 1
    exact b8_wrap x) (kk ls hl))) k0
theorem tg_i2c (hT : Gn l E Tp) {x : Int} (hd : decode E.1 pc = .ok (.i2c, 1)) (k0 : ∀ y : Int, I32 y → Tp (pc + 1, L, .inl y :: st, h, k, z)) : Tp (pc, L, .inl x :: st, h, k, z) :=
  tg_someI hT (P := fun _ => True) (((Int32.ofInt x).toUInt32 % 65536).toInt32) trivial (fun g HB p e R s m args below meth c Q H locs ls hC hl kk => lv_i2c hC.1.1 hC.1.2.1 hd rfl kk) (fun y hy _ => k0 y hy)
theorem tg_ladd (hT : Gn l E Tp) {x y : Int} (hd : decode E.1 pc = .ok (.ladd, 1)) (k0 : ∀ y : Int, Tp (pc + 1, L, .inr (.inl y) :: st, h, k, z)) : Tp (pc, L, .inr (.inl y) :: .inr (.inl x) :: st, h, k, z) :=
  tg_someL hT (Int64.ofInt x + Int64.ofInt y) (fun g HB p e R s m args below meth c Q H locs ls hC hl kk => lv_ladd hC.1.1 hC.1.2.1 hd kk) k0
theorem tg_lsub (hT : Gn l E Tp) {x y : Int} (hd : decode E.1 pc = .ok (.lsub, 1)) (k0 : ∀ y : Int, Tp (pc + 1, L, .inr (.inl y) :: st, h, k, z)) : Tp (pc, L, .inr (.inl y) :: .inr (.inl x) :: st, h, k, z) :=
  tg_someL hT (Int64.ofInt x - Int64.ofInt y) (fun g HB p e R s m args below meth c Q H locs ls hC hl kk => lv_lsub hC.1.1 hC.1.2.1 hd kk) k0
theorem tg_lmul (hT : Gn l E Tp) {x y : Int} (hd : decode E.1 pc = .ok (.lmul, 1)) (k0 : ∀ y : Int, Tp (pc + 1, L, .inr (.inl y) :: st, h, k, z)) : Tp (pc, L, .inr (.inl y) :: .inr (.inl x) :: st, h, k, z) :=
  tg_someL hT (Int64.ofInt x * Int64.ofInt y) (fun g HB p e R s m args below meth c Q H locs ls hC hl kk => lv_lmul hC.1.1 hC.1.2.1 hd kk) k0
theorem tg_land (hT : Gn l E Tp) {x y : Int} (hd : decode E.1 pc = .ok (.land, 1)) (k0 : ∀ y : Int, Tp (pc + 1, L, .inr (.inl y) :: st, h, k, z)) : Tp (pc, L, .inr (.inl y) :: .inr (.inl x) :: st, h, k, z) :=
  tg_someL hT (Int64.ofInt x &&& Int64.ofInt y) (fun g HB p e R s m args below meth c Q H locs ls hC hl kk => lv_land hC.1.1 hC.1.2.1 hd kk) k0
theorem tg_lor (hT : Gn l E Tp) {x y : Int} (hd : decode E.1 pc = .ok (.lor, 1)) (k0 : ∀ y : Int, Tp (pc + 1, L, .inr (.inl y) :: st, h, k, z)) : Tp (pc, L, .inr (.inl y) :: .inr (.inl x) :: st, h, k, z) :=
  tg_someL hT (Int64.ofInt x ||| Int64.ofInt y) (fun g HB p e R s m args below meth c Q H locs ls hC hl kk => lv_lor hC.1.1 hC.1.2.1 hd kk) k0
theorem tg_lxor (hT : Gn l E Tp) {x y : Int} (hd : decode E.1 pc = .ok (.lxor, 1)) (k0 : ∀ y : Int, Tp (pc + 1, L, .inr (.inl y) :: st, h, k, z)) : Tp (pc, L, .inr (.inl y) :: .inr (.inl x) :: st, h, k, z) :=
  tg_someL hT (Int64.ofInt x ^^^ Int64.ofInt y) (fun g HB p e R s m args below meth c Q H locs ls hC hl kk => lv_lxor hC.1.1 hC.1.2.1 hd kk) k0
theorem tg_lshl (hT : Gn l E Tp) {x y : Int} (hd : decode E.1 pc = .ok (.lshl, 1)) (k0 : ∀ y : Int, Tp (pc + 1, L, .inr (.inl y) :: st, h, k, z)) : Tp (pc, L, .inl y :: .inr (.inl x) :: st, h, k, z) :=
  tg_someL hT (Int64.ofInt x <<< ((Int32.ofInt y).toInt64 &&& 63)) (fun g HB p e R s m args below meth c Q H locs ls hC hl kk => lv_lshl hC.1.1 hC.1.2.1 hd rfl kk) k0
theorem tg_lshr (hT : Gn l E Tp) {x y : Int} (hd : decode E.1 pc = .ok (.lshr, 1)) (k0 : ∀ y : Int, Tp (pc + 1, L, .inr (.inl y) :: st, h, k, z)) : Tp (pc, L, .inl y :: .inr (.inl x) :: st, h, k, z) :=
  tg_someL hT (Int64.ofInt x >>> ((Int32.ofInt y).toInt64 &&& 63)) (fun g HB p e R s m args below meth c Q H locs ls hC hl kk => lv_lshr hC.1.1 hC.1.2.1 hd rfl kk) k0
theorem tg_i2l (hT : Gn l E Tp) {x : Int} (hd : decode E.1 pc = .ok (.i2l, 1)) (k0 : ∀ y : Int, Tp (pc + 1, L, .inr (.inl y) :: st, h, k, z)) : Tp (pc, L, .inl x :: st, h, k, z) :=
  tg_someL hT ((Int32.ofInt x).toInt64) (fun g HB p e R s m args below meth c Q H locs ls hC hl kk => lv_i2l hC.1.1 hC.1.2.1 hd rfl kk) k0
theorem tg_l2i (hT : Gn l E Tp) {x : Int} (hd : decode E.1 pc = .ok (.l2i, 1)) (k0 : ∀ y : Int, I32 y → Tp (pc + 1, L, .inl y :: st, h, k, z)) : Tp (pc, L, .inr (.inl x) :: st, h, k, z) :=
  tg_someI hT (P := fun _ => True) ((Int64.ofInt x).toInt32) trivial (fun g HB p e R s m args below meth c Q H locs ls hC hl kk => lv_l2i hC.1.1 hC.1.2.1 hd rfl kk) (fun y hy _ => k0 y hy)
theorem tg_lcmp (hT : Gn l E Tp) {x y : Int} (hd : decode E.1 pc = .ok (.lcmp, 1)) (k0 : ∀ y : Int, I32 y → Tp (pc + 1, L, .inl y :: st, h, k, z)) : Tp (pc, L, .inr (.inl y) :: .inr (.inl x) :: st, h, k, z) :=
  tg_someI hT (P := fun _ => True) (lg_cmp (Int64.ofInt x) (Int64.ofInt y)) trivial (fun g HB p e R s m args below meth c Q H locs ls hC hl kk => W.lcmp hC.1.1 hC.1.2.1 hd kk) (fun y hy _ => k0 y hy)
theorem tg_dup (hT : Gn l E Tp) {a : V} (hd : decode E.1 pc = .ok (.dup, 1)) (ha : ct a = 1) (k0 : Tp (pc + 1, L, a :: a :: st, h, k, z)) : Tp (pc, L, a :: st, h, k, z) :=
  hT.of (sx_pure (fun g HB p e R s m args below meth c Q H locs ls hC hl kk => lv_dup hC.1.1 hC.1.2.1 hd (by rw [dv_cat]; exact ha) (kk ls hl))) k0
theorem tg_pop (hT : Gn l E Tp) {a : V} (hd : decode E.1 pc = .ok (.pop, 1)) (ha : ct a = 1) (k0 : Tp (pc + 1, L, st, h, k, z)) : Tp (pc, L, a :: st, h, k, z) :=
  hT.of (sx_pure (fun g HB p e R s m args below meth c Q H locs ls hC hl kk => lv_pop hC.1.1 hC.1.2.1 hd (by rw [dv_cat]; exact ha) (kk ls hl))) k0
theorem tg_dup_x1 (hT : Gn l E Tp) {a b : V} (hd : decode E.1 pc = .ok (.dup_x1, 1)) (ha : ct a = 1) (hb : ct b = 1) (k0 : Tp (pc + 1, L, a :: b :: a :: st, h, k, z)) : Tp (pc, L, a :: b :: st, h, k, z) :=
  hT.of (sx_pure (fun g HB p e R s m args below meth c Q H locs ls hC hl kk => lv_dup_x1 hC.1.1 hC.1.2.1 hd (by rw [dv_cat]; exact ha) (by rw [dv_cat]; exact hb) (kk ls hl))) k0
theorem tg_dup2 (hT : Gn l E Tp) {a b : V} (hd : decode E.1 pc = .ok (.dup2, 1)) (ha : ct a = 1) (hb : ct b = 1) (k0 : Tp (pc + 1, L, a :: b :: a :: b :: st, h, k, z)) : Tp (pc, L, a :: b :: st, h, k, z) :=
  hT.of (sx_pure (fun g HB p e R s m args below meth c Q H locs ls hC hl kk => lv_dup2_11 hC.1.1 hC.1.2.1 hd (by rw [dv_cat]; exact ha) (by rw [dv_cat]; exact hb) (kk ls hl))) k0
theorem tg_goto (hT : Gn l E Tp) {off : Int} {t : Nat} (hd : decode E.1 pc = .ok (.goto off, 3)) (ht : (pc : Int) + off = (t : Int)) (k0 : Tp (t, L, st, h, k, z)) : Tp (pc, L, st, h, k, z) :=
  hT.of (sx_pure (fun g HB p e R s m args below meth c Q H locs ls hC hl kk => lv_goto hC.1.1 hC.1.2.1 hd ht (kk ls hl))) k0
theorem tg_ieq (hT : Gn l E Tp) {x y off : Int} (t : Nat) (hd : decode E.1 pc = .ok (.if_icmp .eq off, 3)) (ht : (pc : Int) + off = (t : Int)) (hx : I32 x) (hy : I32 y) (kt : x = y → Tp (t, L, st, h, k, z)) (kf : x ≠ y → Tp (pc + 3, L, st, h, k, z)) : Tp (pc, L, .inl y :: .inl x :: st, h, k, z) := by
  by_cases hc : x = y
  · exact hT.of (sx_pure (fun g HB p e R s m args below meth c Q H locs ls hC hl kk => lv_icmp_eq hC.1.1 hC.1.2.1 hd ht (fun _ => kk ls hl) (fun h9 => absurd ((eq_of hx hy).mpr hc) h9))) (kt hc)
  · exact hT.of (sx_pure (fun g HB p e R s m args below meth c Q H locs ls hC hl kk => lv_icmp_eq hC.1.1 hC.1.2.1 hd ht (fun h9 => absurd ((eq_of hx hy).mp h9) hc) (fun _ => kk ls hl))) (kf (by omega))
theorem tg_ifeq (hT : Gn l E Tp) {x off : Int} (t : Nat) (hd : decode E.1 pc = .ok (.ifCond .eq off, 3)) (ht : (pc : Int) + off = (t : Int)) (hx : I32 x) (kt : x = 0 → Tp (t, L, st, h, k, z)) (kf : x ≠ 0 → Tp (pc + 3, L, st, h, k, z)) : Tp (pc, L, .inl x :: st, h, k, z) := by
  by_cases hc : x = 0
  · exact hT.of (sx_pure (fun g HB p e R s m args below meth c Q H locs ls hC hl kk => lv_if_eq hC.1.1 hC.1.2.1 hd ht (fun _ => kk ls hl) (fun h9 => absurd ((eq_of hx (by omega : I32 0)).mpr hc) h9))) (kt hc)
  · exact hT.of (sx_pure (fun g HB p e R s m args below meth c Q H locs ls hC hl kk => lv_if_eq hC.1.1 hC.1.2.1 hd ht (fun h9 => absurd ((eq_of hx (by omega : I32 0)).mp h9) hc) (fun _ => kk ls hl))) (kf (by omega))
theorem tg_ine (hT : Gn l E Tp) {x y off : Int} (t : Nat) (hd : decode E.1 pc = .ok (.if_icmp .ne off, 3)) (ht : (pc : Int) + off = (t : Int)) (hx : I32 x) (hy : I32 y) (kt : x ≠ y → Tp (t, L, st, h, k, z)) (kf : x = y → Tp (pc + 3, L, st, h, k, z)) : Tp (pc, L, .inl y :: .inl x :: st, h, k, z) := by
  by_cases hc : x ≠ y
  · exact hT.of (sx_pure (fun g HB p e R s m args below meth c Q H locs ls hC hl kk => lv_icmp_ne hC.1.1 hC.1.2.1 hd ht (fun _ => kk ls hl) (fun h9 => absurd h9 ((not_congr (eq_of hx hy)).mpr hc)))) (kt hc)
  · exact hT.of (sx_pure (fun g HB p e R s m args below meth c Q H locs ls hC hl kk => lv_icmp_ne hC.1.1 hC.1.2.1 hd ht (fun h9 => absurd ((not_congr (eq_of hx hy)).mp h9) hc) (fun _ => kk ls hl))) (kf (by omega))
theorem tg_ifne (hT : Gn l E Tp) {x off : Int} (t : Nat) (hd : decode E.1 pc = .ok (.ifCond .ne off, 3)) (ht : (pc : Int) + off = (t : Int)) (hx : I32 x) (kt : x ≠ 0 → Tp (t, L, st, h, k, z)) (kf : x = 0 → Tp (pc + 3, L, st, h, k, z)) : Tp (pc, L, .inl x :: st, h, k, z) := by
  by_cases hc : x ≠ 0
  · exact hT.of (sx_pure (fun g HB p e R s m args below meth c Q H locs ls hC hl kk => lv_if_ne hC.1.1 hC.1.2.1 hd ht (fun _ => kk ls hl) (fun h9 => absurd h9 ((not_congr (eq_of hx (by omega : I32 0))).mpr hc)))) (kt hc)
  · exact hT.of (sx_pure (fun g HB p e R s m args below meth c Q H locs ls hC hl kk => lv_if_ne hC.1.1 hC.1.2.1 hd ht (fun h9 => absurd ((not_congr (eq_of hx (by omega : I32 0))).mp h9) hc) (fun _ => kk ls hl))) (kf (by omega))
theorem tg_ilt (hT : Gn l E Tp) {x y off : Int} (t : Nat) (hd : decode E.1 pc = .ok (.if_icmp .lt off, 3)) (ht : (pc : Int) + off = (t : Int)) (hx : I32 x) (hy : I32 y) (kt : x < y → Tp (t, L, st, h, k, z)) (kf : y ≤ x → Tp (pc + 3, L, st, h, k, z)) : Tp (pc, L, .inl y :: .inl x :: st, h, k, z) := by
  by_cases hc : x < y
  · exact hT.of (sx_pure (fun g HB p e R s m args below meth c Q H locs ls hC hl kk => lv_icmp_lt hC.1.1 hC.1.2.1 hd ht (fun _ => kk ls hl) (fun h9 => absurd ((lt_of hx hy).mpr hc) h9))) (kt hc)
  · exact hT.of (sx_pure (fun g HB p e R s m args below meth c Q H locs ls hC hl kk => lv_icmp_lt hC.1.1 hC.1.2.1 hd ht (fun h9 => absurd ((lt_of hx hy).mp h9) hc) (fun _ => kk ls hl))) (kf (by omega))
theorem tg_iflt (hT : Gn l E Tp) {x off : Int} (t : Nat) (hd : decode E.1 pc = .ok (.ifCond .lt off, 3)) (ht : (pc : Int) + off = (t : Int)) (hx : I32 x) (kt : x < 0 → Tp (t, L, st, h, k, z)) (kf : 0 ≤ x → Tp (pc + 3, L, st, h, k, z)) : Tp (pc, L, .inl x :: st, h, k, z) := by
  by_cases hc : x < 0
  · exact hT.of (sx_pure (fun g HB p e R s m args below meth c Q H locs ls hC hl kk => lv_if_lt hC.1.1 hC.1.2.1 hd ht (fun _ => kk ls hl) (fun h9 => absurd ((lt_of hx (by omega : I32 0)).mpr hc) h9))) (kt hc)
  · exact hT.of (sx_pure (fun g HB p e R s m args below meth c Q H locs ls hC hl kk => lv_if_lt hC.1.1 hC.1.2.1 hd ht (fun h9 => absurd ((lt_of hx (by omega : I32 0)).mp h9) hc) (fun _ => kk ls hl))) (kf (by omega))
theorem tg_ige (hT : Gn l E Tp) {x y off : Int} (t : Nat) (hd : decode E.1 pc = .ok (.if_icmp .ge off, 3)) (ht : (pc : Int) + off = (t : Int)) (hx : I32 x) (hy : I32 y) (kt : y ≤ x → Tp (t, L, st, h, k, z)) (kf : x < y → Tp (pc + 3, L, st, h, k, z)) : Tp (pc, L, .inl y :: .inl x :: st, h, k, z) := by
  by_cases hc : y ≤ x
  · exact hT.of (sx_pure (fun g HB p e R s m args below meth c Q H locs ls hC hl kk => lv_icmp_ge hC.1.1 hC.1.2.1 hd ht (fun _ => kk ls hl) (fun h9 => absurd ((le_of hy hx).mpr hc) h9))) (kt hc)
  · exact hT.of (sx_pure (fun g HB p e R s m args below meth c Q H locs ls hC hl kk => lv_icmp_ge hC.1.1 hC.1.2.1 hd ht (fun h9 => absurd ((le_of hy hx).mp h9) hc) (fun _ => kk ls hl))) (kf (by omega))
theorem tg_ifge (hT : Gn l E Tp) {x off : Int} (t : Nat) (hd : decode E.1 pc = .ok (.ifCond .ge off, 3)) (ht : (pc : Int) + off = (t : Int)) (hx : I32 x) (kt : 0 ≤ x → Tp (t, L, st, h, k, z)) (kf : x < 0 → Tp (pc + 3, L, st, h, k, z)) : Tp (pc, L, .inl x :: st, h, k, z) := by
  by_cases hc : 0 ≤ x
  · exact hT.of (sx_pure (fun g HB p e R s m args below meth c Q H locs ls hC hl kk => lv_if_ge hC.1.1 hC.1.2.1 hd ht (fun _ => kk ls hl) (fun h9 => absurd ((le_of (by omega : I32 0) hx).mpr hc) h9))) (kt hc)
  · exact hT.of (sx_pure (fun g HB p e R s m args below meth c Q H locs ls hC hl kk => lv_if_ge hC.1.1 hC.1.2.1 hd ht (fun h9 => absurd ((le_of (by omega : I32 0) hx).mp h9) hc) (fun _ => kk ls hl))) (kf (by omega))
theorem tg_igt (hT : Gn l E Tp) {x y off : Int} (t : Nat) (hd : decode E.1 pc = .ok (.if_icmp .gt off, 3)) (ht : (pc : Int) + off = (t : Int)) (hx : I32 x) (hy : I32 y) (kt : y < x → Tp (t, L, st, h, k, z)) (kf : x ≤ y → Tp (pc + 3, L, st, h, k, z)) : Tp (pc, L, .inl y :: .inl x :: st, h, k, z) := by
  by_cases hc : y < x
  · exact hT.of (sx_pure (fun g HB p e R s m args below meth c Q H locs ls hC hl kk => lv_icmp_gt hC.1.1 hC.1.2.1 hd ht (fun _ => kk ls hl) (fun h9 => absurd ((lt_of hy hx).mpr hc) h9))) (kt hc)
  · exact hT.of (sx_pure (fun g HB p e R s m args below meth c Q H locs ls hC hl kk => lv_icmp_gt hC.1.1 hC.1.2.1 hd ht (fun h9 => absurd ((lt_of hy hx).mp h9) hc) (fun _ => kk ls hl))) (kf (by omega))
theorem tg_ifgt (hT : Gn l E Tp) {x off : Int} (t : Nat) (hd : decode E.1 pc = .ok (.ifCond .gt off, 3)) (ht : (pc : Int) + off = (t : Int)) (hx : I32 x) (kt : 0 < x → Tp (t, L, st, h, k, z)) (kf : x ≤ 0 → Tp (pc + 3, L, st, h, k, z)) : Tp (pc, L, .inl x :: st, h, k, z) := by
  by_cases hc : 0 < x
  · exact hT.of (sx_pure (fun g HB p e R s m args below meth c Q H locs ls hC hl kk => lv_if_gt hC.1.1 hC.1.2.1 hd ht (fun _ => kk ls hl) (fun h9 => absurd ((lt_of (by omega : I32 0) hx).mpr hc) h9))) (kt hc)
  · exact hT.of (sx_pure (fun g HB p e R s m args below meth c Q H locs ls hC hl kk => lv_if_gt hC.1.1 hC.1.2.1 hd ht (fun h9 => absurd ((lt_of (by omega : I32 0) hx).mp h9) hc) (fun _ => kk ls hl))) (kf (by omega))
theorem tg_ile (hT : Gn l E Tp) {x y off : Int} (t : Nat) (hd : decode E.1 pc = .ok (.if_icmp .le off, 3)) (ht : (pc : Int) + off = (t : Int)) (hx : I32 x) (hy : I32 y) (kt : x ≤ y → Tp (t, L, st, h, k, z)) (kf : y < x → Tp (pc + 3, L, st, h, k, z)) : Tp (pc, L, .inl y :: .inl x :: st, h, k, z) := by
  by_cases hc : x ≤ y
  · exact hT.of (sx_pure (fun g HB p e R s m args below meth c Q H locs ls hC hl kk => lv_icmp_le hC.1.1 hC.1.2.1 hd ht (fun _ => kk ls hl) (fun h9 => absurd ((le_of hx hy).mpr hc) h9))) (kt hc)
  · exact hT.of (sx_pure (fun g HB p e R s m args below meth c Q H locs ls hC hl kk => lv_icmp_le hC.1.1 hC.1.2.1 hd ht (fun h9 => absurd ((le_of hx hy).mp h9) hc) (fun _ => kk ls hl))) (kf (by omega))
theorem tg_ifle (hT : Gn l E Tp) {x off : Int} (t : Nat) (hd : decode E.1 pc = .ok (.ifCond .le off, 3)) (ht : (pc : Int) + off = (t : Int)) (hx : I32 x) (kt : x ≤ 0 → Tp (t, L, st, h, k, z)) (kf : 0 < x → Tp (pc + 3, L, st, h, k, z)) : Tp (pc, L, .inl x :: st, h, k, z) := by
  by_cases hc : x ≤ 0
  · exact hT.of (sx_pure (fun g HB p e R s m args below meth c Q H locs ls hC hl kk => lv_if_le hC.1.1 hC.1.2.1 hd ht (fun _ => kk ls hl) (fun h9 => absurd ((le_of hx (by omega : I32 0)).mpr hc) h9))) (kt hc)
  · exact hT.of (sx_pure (fun g HB p e R s m args below meth c Q H locs ls hC hl kk => lv_if_le hC.1.1 hC.1.2.1 hd ht (fun h9 => absurd ((le_of hx (by omega : I32 0)).mp h9) hc) (fun _ => kk ls hl))) (kf (by omega))
theorem tg_ifnull (hT : Gn l E Tp) {x : Nat} {off : Int} (t : Nat) (hd : decode E.1 pc = .ok (.ifnull off, 3)) (ht : (pc : Int) + off = (t : Int)) (kt : x = 0 → Tp (t, L, st, h, k, z)) (kf : 0 < x → Tp (pc + 3, L, st, h, k, z)) : Tp (pc, L, .inr (.inr x) :: st, h, k, z) := by
  cases x with
  | zero => exact hT.of (sx_pure (fun g HB p e R s m args below meth c Q H locs ls hC hl kk => lv_ifnullN hC.1.1 hC.1.2.1 hd ht (kk ls hl))) (kt rfl)
  | succ y => exact hT.of (sx_pure (fun g HB p e R s m args below meth c Q H locs ls hC hl kk => lv_ifnull hC.1.1 hC.1.2.1 hd (kk ls hl))) (kf (Nat.succ_pos _))
theorem tg_ifnonnull (hT : Gn l E Tp) {x : Nat} {off : Int} (t : Nat) (hd : decode E.1 pc = .ok (.ifnonnull off, 3)) (ht : (pc : Int) + off = (t : Int)) (kt : 0 < x → Tp (t, L, st, h, k, z)) (kf : x = 0 → Tp (pc + 3, L, st, h, k, z)) : Tp (pc, L, .inr (.inr x) :: st, h, k, z) := by
  cases x with
  | zero => exact hT.of (sx_pure (fun g HB p e R s m args below meth c Q H locs ls hC hl kk => lv_ifnonnullN hC.1.1 hC.1.2.1 hd (kk ls hl))) (kf rfl)
  | succ y => exact hT.of (sx_pure (fun g HB p e R s m args below meth c Q H locs ls hC hl kk => lv_ifnonnull hC.1.1 hC.1.2.1 hd ht (kk ls hl))) (kt (Nat.succ_pos _))
theorem tg_getI (hT : Gn l E Tp) {a idx ci j : Nat} (hg : GI E.2.2.1 idx ci j) (hd : decode E.1 pc = .ok (.getfield idx, 3)) (ht : h.2.1 a = some (.inr ci)) (k0 : Tp (pc + 3, L, .inl (h.2.2 a j) :: st, h, k, z)) : Tp (pc, L, .inr (.inr a) :: st, h, k, z) := by
  refine hT.of ?_ k0
  refine ⟨⟨Nat.le_refl _, Nat.le_refl _⟩, fun g HB p e R s m args below meth c Q H locs ls hC _ _ _ _ hR hl kk => ?_⟩
  have h9 := kk H locs ls hR hl
  show W p l e R s m args below meth c H locs k z Q (F0 m pc ls (rv g a :: st.map (dv g)))
  rw [hR.rv ht]
  exact hg.1 p l e R s m args below meth c E.1 E.2.1 H locs k z Q g HB pc ls _ _ _ _ hC.1 hC.2.1 (hR.obj ht) ((fs_at g _ hg.2.1).trans (congrArg some (fv_I hg.2.2))) hd h9
theorem tg_getL (hT : Gn l E Tp) {a idx ci j : Nat} (hg : GL E.2.2.1 idx ci j) (hd : decode E.1 pc = .ok (.getfield idx, 3)) (ht : h.2.1 a = some (.inr ci)) (k0 : Tp (pc + 3, L, .inr (.inl (h.2.2 a j)) :: st, h, k, z)) : Tp (pc, L, .inr (.inr a) :: st, h, k, z) := by
  refine hT.of ?_ k0
  refine ⟨⟨Nat.le_refl _, Nat.le_refl _⟩, fun g HB p e R s m args below meth c Q H locs ls hC _ _ _ _ hR hl kk => ?_⟩
  have h9 := kk H locs ls hR hl
  show W p l e R s m args below meth c H locs k z Q (F0 m pc ls (rv g a :: st.map (dv g)))
  rw [hR.rv ht]
  exact hg.1 p l e R s m args below meth c E.1 E.2.1 H locs k z Q g HB pc ls _ _ _ _ hC.1 hC.2.1 (hR.obj ht) ((fs_at g _ hg.2.1).trans (congrArg some (fv_L hg.2.2))) hd h9
theorem tg_getR (hT : Gn l E Tp) {a idx ci j : Nat} (b : Nat) (hg : GR E.2.2.1 idx ci j) (hd : decode E.1 pc = .ok (.getfield idx, 3)) (ht : h.2.1 a = some (.inr ci)) (hv : h.2.2 a j = (b : Int)) (k0 : Tp (pc + 3, L, .inr (.inr b) :: st, h, k, z)) : Tp (pc, L, .inr (.inr a) :: st, h, k, z) := by
  refine hT.of ?_ k0
  refine ⟨⟨Nat.le_refl _, Nat.le_refl _⟩, fun g HB p e R s m args below meth c Q H locs ls hC _ _ _ _ hR hl kk => ?_⟩
  have h9 := kk H locs ls hR hl
  show W p l e R s m args below meth c H locs k z Q (F0 m pc ls (rv g a :: st.map (dv g)))
  rw [hR.rv ht]
  exact hg.1 p l e R s m args below meth c E.1 E.2.1 H locs k z Q g HB pc ls _ _ _ (rv g b) hC.1 hC.2.1 (hR.obj ht) ((fs_at g _ hg.2.1).trans (congrArg some ((fv_R hg.2.2).trans (congrArg (rv g) (congrArg Int.toNat hv))))) hd h9
theorem tg_put (hT : Gn l E Tp) {a idx ci j : Nat} {v : V} {x : Int} (hg : PutOK E.2.2.1 E.2.2.2.1 idx ci j) (hj : j < clN ci) (hd : decode E.1 pc = .ok (.putfield idx, 3)) (ht : h.2.1 a = some (.inr ci)) (hv : ∀ g : GG, dv g v = fv g (tyOf (clT ci) j) x) (hn : ∀ g : GG, narrow (tyOf (clT ci) j) (dv g v) = dv g v ∧ fits (tyOf (clT ci) j) (dv g v) = true) (k0 : Tp (pc + 3, L, st, wr h a j x, k, z)) : Tp (pc, L, v :: .inr (.inr a) :: st, h, k, z) := by
  refine hT.of ?_ k0
  refine ⟨⟨Nat.le_refl _, Nat.le_refl _⟩, fun g HB p e R s m args below meth c Q H locs ls hC _ _ _ _ hR hl kk => ?_⟩
  show W p l e R s m args below meth c H locs k z Q (F0 m pc ls (dv g v :: rv g a :: st.map (dv g)))
  rw [hR.rv ht]
  refine hg p l e R s m args below meth c E.1 E.2.1 H locs k z Q g HB pc ls _ _ _ _ hC.1 hC.2.1 hC.2.2.1 (hR.obj ht) (by rw [List.length_map, List.length_range]; exact hj) (hn g) hd fun H1 i e1 e2 e3 => ?_
  refine kk H1 _ ls (hR.set ht ?_ e2 e3) hl
  rw [hv g, fs_set] at e1
  exact e1
theorem tg_putI (hT : Gn l E Tp) {a idx ci j : Nat} {x : Int} (hg : PI E.2.2.1 E.2.2.2.1 idx ci j) (hd : decode E.1 pc = .ok (.putfield idx, 3)) (ht : h.2.1 a = some (.inr ci)) (k0 : Tp (pc + 3, L, st, wr h a j x, k, z)) : Tp (pc, L, .inl x :: .inr (.inr a) :: st, h, k, z) := by
  refine tg_put hT hg.1 hg.2.1 hd ht (fun g => (fv_I (Or.inl hg.2.2)).symm) (fun g => ?_) k0
  have h3 := hg.2.2
  unfold fk at h3
  generalize tyOf (clT ci) j = t at h3
  cases t <;> first | exact ⟨rfl, rfl⟩ | cases h3
theorem tg_putZ (hT : Gn l E Tp) {a idx ci j : Nat} {x : Int} (hg : PZ E.2.2.1 E.2.2.2.1 idx ci j) (hd : decode E.1 pc = .ok (.putfield idx, 3)) (ht : h.2.1 a = some (.inr ci)) (hx : x = 0 ∨ x = 1) (k0 : Tp (pc + 3, L, st, wr h a j x, k, z)) : Tp (pc, L, .inl x :: .inr (.inr a) :: st, h, k, z) := by
  refine tg_put hT hg.1 hg.2.1 hd ht (fun g => (fv_I (Or.inr hg.2.2)).symm) (fun g => ?_) k0
  have h3 := hg.2.2
  unfold fk at h3
  generalize tyOf (clT ci) j = t at h3
  cases t <;> first | cases h3 | skip
  rcases hx with rfl | rfl
  · constructor
    · show narrow .boolean (.int (Int32.ofInt 0)) = .int (Int32.ofInt 0)
      decide +kernel
    · show fits .boolean (.int (Int32.ofInt 0)) = true
      decide +kernel
  · constructor
    · show narrow .boolean (.int (Int32.ofInt 1)) = .int (Int32.ofInt 1)
      decide +kernel
    · show fits .boolean (.int (Int32.ofInt 1)) = true
      decide +kernel
theorem tg_putL (hT : Gn l E Tp) {a idx ci j : Nat} {x : Int} (hg : PL E.2.2.1 E.2.2.2.1 idx ci j) (hd : decode E.1 pc = .ok (.putfield idx, 3)) (ht : h.2.1 a = some (.inr ci)) (k0 : Tp (pc + 3, L, st, wr h a j x, k, z)) : Tp (pc, L, .inr (.inl x) :: .inr (.inr a) :: st, h, k, z) := by
  refine tg_put hT hg.1 hg.2.1 hd ht (fun g => (fv_L hg.2.2).symm) (fun g => ?_) k0
  have h3 := hg.2.2
  unfold fk at h3
  generalize tyOf (clT ci) j = t at h3
  cases t <;> first | exact ⟨rfl, rfl⟩ | cases h3
theorem tg_putR (hT : Gn l E Tp) {a idx ci j b : Nat} (hg : PR E.2.2.1 E.2.2.2.1 idx ci j) (hd : decode E.1 pc = .ok (.putfield idx, 3)) (ht : h.2.1 a = some (.inr ci)) (k0 : Tp (pc + 3, L, st, wr h a j (b : Int), k, z)) : Tp (pc, L, .inr (.inr b) :: .inr (.inr a) :: st, h, k, z) := by
  refine tg_put hT hg.1 hg.2.1 hd ht (fun g => by rw [fv_R hg.2.2]; rfl) (fun g => ?_) k0
  have h3 := hg.2.2
  unfold fk at h3
  generalize tyOf (clT ci) j = t at h3
  show narrow t (rv g b) = rv g b ∧ fits t (rv g b) = true
  cases t <;> first | (cases b <;> exact ⟨rfl, rfl⟩) | cases h3
theorem tg_alen (hT : Gn l E Tp) {a n q : Nat} (hd : decode E.1 pc = .ok (.arraylength, 1)) (ht : h.2.1 a = some (.inl (q, n))) (hq : q % 10 < 5) (k0 : Tp (pc + 1, L, .inl (n : Int) :: st, h, k, z)) : Tp (pc, L, .inr (.inr a) :: st, h, k, z) := by
  refine hT.of ?_ k0
  refine ⟨⟨Nat.le_refl _, Nat.le_refl _⟩, fun g HB p e R s m args below meth c Q H locs ls hC _ _ _ _ hR hl kk => ?_⟩
  show W p l e R s m args below meth c H locs k z Q (F0 m pc ls (rv g a :: st.map (dv g)))
  rw [hR.rv ht]
  refine W.alen hC.1.1 hC.1.2.1 (hR.arr ht rfl) ((hC.2.1.1.2 (q % 10) _ (tysG_at g hq)).1 n _) ?_ rfl rfl hd (kk H locs ls hR hl)
  rw [arrV_size]
  rfl
theorem tg_iald (hT : Gn l E Tp) {a n w : Nat} {i : Int} (hd : decode E.1 pc = .ok (.iaload, 1)) (ht : h.2.1 a = some (.inl (w, n))) (hq : w % 10 = 0) (hn : n ≤ 2147483647) (hi : 0 ≤ i ∧ i < n) (k0 : Tp (pc + 1, L, .inl (h.2.2 a i.toNat) :: st, h, k, z)) : Tp (pc, L, .inl i :: .inr (.inr a) :: st, h, k, z) := by
  refine hT.of ?_ k0
  refine ⟨⟨Nat.le_refl _, Nat.le_refl _⟩, fun g HB p e R s m args below meth c Q H locs ls hC _ _ _ _ hR hl kk => ?_⟩
  show W p l e R s m args below meth c H locs k z Q (F0 m pc ls (.int (Int32.ofInt i) :: rv g a :: st.map (dv g)))
  rw [hR.rv ht]
  exact W.iald hC.1.1 hC.1.2.1 (hR.arr ht hq) ((hC.2.1.1.2 0 _ rfl).1 n _) (fun q => by cases q) (vin_of hi hn) (vat_of hi hn) rfl rfl hd (kk H locs ls hR hl)
theorem tg_bald (hT : Gn l E Tp) {a n q w : Nat} {i : Int} (hd : decode E.1 pc = .ok (.baload, 1)) (hq : q = 1 ∨ q = 2) (ht : h.2.1 a = some (.inl (w, n))) (hw : w % 10 = q) (hn : n ≤ 2147483647) (hi : 0 ≤ i ∧ i < n) (k0 : Tp (pc + 1, L, .inl (h.2.2 a i.toNat) :: st, h, k, z)) : Tp (pc, L, .inl i :: .inr (.inr a) :: st, h, k, z) := by
  refine hT.of ?_ k0
  refine ⟨⟨Nat.le_refl _, Nat.le_refl _⟩, fun g HB p e R s m args below meth c Q H locs ls hC _ _ _ _ hR hl kk => ?_⟩
  show W p l e R s m args below meth c H locs k z Q (F0 m pc ls (.int (Int32.ofInt i) :: rv g a :: st.map (dv g)))
  rw [hR.rv ht]
  rcases hq with rfl | rfl
  · exact W.bald hC.1.1 hC.1.2.1 (hR.arr ht hw) ((hC.2.1.1.2 1 _ rfl).1 n _) (fun q => by cases q) (vin_of hi hn) (vat_of hi hn) rfl rfl hd (kk H locs ls hR hl)
  · exact W.zald hC.1.1 hC.1.2.1 (hR.arr ht hw) ((hC.2.1.1.2 2 _ rfl).1 n _) (fun q => by cases q) (vin_of hi hn) (vat_of hi hn) rfl rfl hd (kk H locs ls hR hl)
theorem tg_lald (hT : Gn l E Tp) {a n w : Nat} {i : Int} (hd : decode E.1 pc = .ok (.laload, 1)) (ht : h.2.1 a = some (.inl (w, n))) (hq : w % 10 = 3) (hn : n ≤ 2147483647) (hi : 0 ≤ i ∧ i < n) (k0 : Tp (pc + 1, L, .inr (.inl (h.2.2 a i.toNat)) :: st, h, k, z)) : Tp (pc, L, .inl i :: .inr (.inr a) :: st, h, k, z) := by
  refine hT.of ?_ k0
  refine ⟨⟨Nat.le_refl _, Nat.le_refl _⟩, fun g HB p e R s m args below meth c Q H locs ls hC _ _ _ _ hR hl kk => ?_⟩
  show W p l e R s m args below meth c H locs k z Q (F0 m pc ls (.int (Int32.ofInt i) :: rv g a :: st.map (dv g)))
  rw [hR.rv ht]
  exact W.lald hC.1.1 hC.1.2.1 (hR.arr ht hq) ((hC.2.1.1.2 3 _ rfl).1 n _) (fun q => by cases q) (vin_of hi hn) (vat_of hi hn) rfl rfl hd (kk H locs ls hR hl)
theorem tg_aald (hT : Gn l E Tp) {a n w : Nat} {i : Int} (b : Nat) (hd : decode E.1 pc = .ok (.aaload, 1)) (ht : h.2.1 a = some (.inl (w, n))) (hq : w % 10 = 4) (hn : n ≤ 2147483647) (hi : 0 ≤ i ∧ i < n) (hv : h.2.2 a i.toNat = (b : Int)) (k0 : Tp (pc + 1, L, .inr (.inr b) :: st, h, k, z)) : Tp (pc, L, .inl i :: .inr (.inr a) :: st, h, k, z) := by
  refine hT.of ?_ k0
  refine ⟨⟨Nat.le_refl _, Nat.le_refl _⟩, fun g HB p e R s m args below meth c Q H locs ls hC _ _ _ _ hR hl kk => ?_⟩
  show W p l e R s m args below meth c H locs k z Q (F0 m pc ls (.int (Int32.ofInt i) :: rv g a :: st.map (dv g)))
  rw [hR.rv ht]
  have h9 := kk H locs ls hR hl
  refine W.aald (v := rv g b) hC.1.1 hC.1.2.1 (hR.arr ht hq) ((hC.2.1.1.2 4 _ rfl).1 n _) rfl (fun q => by cases q) (vin_of hi hn) ((vat_of hi hn).trans ?_) rfl rfl hd h9
  rw [hv]
  rfl
theorem tg_iast (hT : Gn l E Tp) {a n w : Nat} {i x : Int} (hd : decode E.1 pc = .ok (.iastore, 1)) (ht : h.2.1 a = some (.inl (w, n))) (hq : w % 10 = 0) (hn : n ≤ 2147483647) (hi : 0 ≤ i ∧ i < n) (k0 : Tp (pc + 1, L, st, wr h a i.toNat x, k, z)) : Tp (pc, L, .inl x :: .inl i :: .inr (.inr a) :: st, h, k, z) := by
  refine hT.of ?_ k0
  refine ⟨⟨Nat.le_refl _, Nat.le_refl _⟩, fun g HB p e R s m args below meth c Q H locs ls hC _ _ _ _ hR hl kk => ?_⟩
  show W p l e R s m args below meth c H locs k z Q (F0 m pc ls (.int (Int32.ofInt x) :: .int (Int32.ofInt i) :: rv g a :: st.map (dv g)))
  rw [hR.rv ht]
  refine W.iast hC.1.1 hC.1.2.1 (hR.arr ht hq) ((hC.2.1.1.2 0 _ rfl).1 n _) (fun q => by cases q) (vin_of hi hn) rfl rfl hd fun H1 e1 z1 oq => ?_
  exact kk H1 _ ls (hR.seta ht hq (e1.trans (congrArg some (st_of (q := 0) (g := g) (a := a) (v := h.2.2) (x := x) hi hn rfl))) z1 oq) hl
theorem tg_bast (hT : Gn l E Tp) {a n w : Nat} {i x : Int} (hd : decode E.1 pc = .ok (.bastore, 1)) (ht : h.2.1 a = some (.inl (w, n))) (hq : w % 10 = 1) (hn : n ≤ 2147483647) (hi : 0 ≤ i ∧ i < n) (k0 : Tp (pc + 1, L, st, wr h a i.toNat (b8 x), k, z)) : Tp (pc, L, .inl x :: .inl i :: .inr (.inr a) :: st, h, k, z) := by
  refine hT.of ?_ k0
  refine ⟨⟨Nat.le_refl _, Nat.le_refl _⟩, fun g HB p e R s m args below meth c Q H locs ls hC _ _ _ _ hR hl kk => ?_⟩
  show W p l e R s m args below meth c H locs k z Q (F0 m pc ls (.int (Int32.ofInt x) :: .int (Int32.ofInt i) :: rv g a :: st.map (dv g)))
  rw [hR.rv ht]
  refine W.bast hC.1.1 hC.1.2.1 (hR.arr ht hq) ((hC.2.1.1.2 1 _ rfl).1 n _) (fun q => by cases q) (vin_of hi hn) rfl rfl hd fun H1 e1 z1 oq => ?_
  exact kk H1 _ ls (hR.seta ht hq (e1.trans (congrArg some (st_of (q := 1) (g := g) (a := a) (v := h.2.2) (x := b8 x) hi hn (nb_of x)))) z1 oq) hl
theorem tg_zast (hT : Gn l E Tp) {a n w : Nat} {i x : Int} (hd : decode E.1 pc = .ok (.bastore, 1)) (ht : h.2.1 a = some (.inl (w, n))) (hq : w % 10 = 2) (hn : n ≤ 2147483647) (hi : 0 ≤ i ∧ i < n) (hx : x = 0 ∨ x = 1) (k0 : Tp (pc + 1, L, st, wr h a i.toNat x, k, z)) : Tp (pc, L, .inl x :: .inl i :: .inr (.inr a) :: st, h, k, z) := by
  refine hT.of ?_ k0
  refine ⟨⟨Nat.le_refl _, Nat.le_refl _⟩, fun g HB p e R s m args below meth c Q H locs ls hC _ _ _ _ hR hl kk => ?_⟩
  show W p l e R s m args below meth c H locs k z Q (F0 m pc ls (.int (Int32.ofInt x) :: .int (Int32.ofInt i) :: rv g a :: st.map (dv g)))
  rw [hR.rv ht]
  refine W.zast hC.1.1 hC.1.2.1 (hR.arr ht hq) ((hC.2.1.1.2 2 _ rfl).1 n _) (fun q => by cases q) (vin_of hi hn) rfl rfl hd fun H1 e1 z1 oq => ?_
  exact kk H1 _ ls (hR.seta ht hq (e1.trans (congrArg some (st_of (q := 2) (g := g) (a := a) (v := h.2.2) (x := x) hi hn (nz_of hx)))) z1 oq) hl
theorem tg_last (hT : Gn l E Tp) {a n w : Nat} {i x : Int} (hd : decode E.1 pc = .ok (.lastore, 1)) (ht : h.2.1 a = some (.inl (w, n))) (hq : w % 10 = 3) (hn : n ≤ 2147483647) (hi : 0 ≤ i ∧ i < n) (k0 : Tp (pc + 1, L, st, wr h a i.toNat x, k, z)) : Tp (pc, L, .inr (.inl x) :: .inl i :: .inr (.inr a) :: st, h, k, z) := by
  refine hT.of ?_ k0
  refine ⟨⟨Nat.le_refl _, Nat.le_refl _⟩, fun g HB p e R s m args below meth c Q H locs ls hC _ _ _ _ hR hl kk => ?_⟩
  show W p l e R s m args below meth c H locs k z Q (F0 m pc ls (.long (Int64.ofInt x) :: .int (Int32.ofInt i) :: rv g a :: st.map (dv g)))
  rw [hR.rv ht]
  refine W.last hC.1.1 hC.1.2.1 (hR.arr ht hq) ((hC.2.1.1.2 3 _ rfl).1 n _) (fun q => by cases q) (vin_of hi hn) rfl rfl hd fun H1 e1 z1 oq => ?_
  exact kk H1 _ ls (hR.seta ht hq (e1.trans (congrArg some (st_of (q := 3) (g := g) (a := a) (v := h.2.2) (x := x) hi hn rfl))) z1 oq) hl
theorem tg_new (hT : Gn l E Tp) {idx ci : Nat} (hg : NewOK E.2.2.1 idx ci) (hd : decode E.1 pc = .ok (.new idx, 3)) (hlt : h.1 < 1000000) (k0 : Tp (pc + 3, L, .inr (.inr h.1) :: st, al h (.inr ci), k + 1, z + clN ci)) : Tp (pc, L, st, h, k, z) := by
  obtain ⟨C, T, N, hc, hall, hcl, hinst, hini⟩ := hg
  have hN : clN ci = N := clN_eq hc
  rw [hN] at k0
  refine hT.of ?_ k0
  refine ⟨⟨Nat.le_add_right _ _, Nat.le_add_right _ _⟩, fun g HB p e R s m args below meth c Q H locs ls hC _ _ hcells hslots hR hl kk => ?_⟩
  obtain ⟨⟨hx, hb, hml, hown, hts⟩, hA, -⟩ := hC
  have hKn := hA.1.1 ci _ hc
  have hR1 := hR.1
  refine W.newcK hx hb hown (hts _ hcl) (hts _ hinst) (hts _ hini) rfl hd hcells hslots hKn.2.1 hR1.1 fun H1 kC hkC e1 z1 o1 => ?_
  have h9 := kk H1 locs ls (hR.app (t := .inr ci) hlt ?_ (by rw [z1]; omega) (fun q hq => o1 q (by omega))) hl
  · have e9 : dv g (.inr (.inr h.1)) = .ref (g.1 + h.1) := by
      show rv g h.1 = _
      rw [rv_pos g hR1.2.2.1, ad_in g hlt]
    have h9 : W p l e R s m args below meth c H1 locs (k + 1) (z + N) Q (F0 m (pc + 3) ls (dv g (.inr (.inr h.1)) :: st.map (dv g))) := h9
    rw [e9] at h9
    exact h9
  · refine ⟨_, hc, (u_born (tyOf T) hts (cl_in hc) hKn hkC e1 (cl_ty hc)).to (fun j hj => ?_)⟩
    have h1 := List.all_eq_true.mp hall j (List.mem_range.mpr hj)
    rw [← fv_zero g h1]
    unfold vp_V
    rw [List.getD_eq_getElem?_getD, List.getElem?_map, clN_eq hc, clT_eq hc, List.getElem?_range hj]
    rfl
theorem tg_newarray (hT : Gn l E Tp) {q : Nat} (w : Nat) {at9 : ArrayType} {i : Int} (hw : w % 10 = q) (hq : q < 4) (hty : newarray.typeOf at9 = tyA q) (harr : Cond.arrayClass (tyA q) ∈ wsG) (hd : decode E.1 pc = .ok (.newarray at9, 2)) (hi : 0 ≤ i ∧ i ≤ 67108864) (hlt : h.1 < 1000000) (k0 : Tp (pc + 2, L, .inr (.inr h.1) :: st, al h (.inl (w, i.toNat)), k + 1, z + i.toNat)) : Tp (pc, L, .inl i :: st, h, k, z) := by
  refine hT.of ?_ k0
  refine ⟨⟨Nat.le_add_right _ _, Nat.le_add_right _ _⟩, fun g HB p e R s m args below meth c Q H locs ls hC _ _ hcells hslots hR hl kk => ?_⟩
  obtain ⟨⟨hx, hb, hml, hown, hts⟩, hA, -⟩ := hC
  have hR1 := hR.1
  have hcb : i.toNat * componentBytes (newarray.typeOf at9) ≤ 536870912 := by
    rw [hty]
    rcases (show q = 0 ∨ q = 1 ∨ q = 2 ∨ q = 3 by omega) with rfl | rfl | rfl | rfl <;> (simp only [tyA, componentBytes]; omega)
  have hin := in_of (i := i) (n := 67108865) (by omega) (by omega)
  refine va_newaK hx hb (by rw [hty]; exact hts _ harr) (g := F0 m pc ls (Value.int (Int32.ofInt i) :: st.map (dv g))) rfl hd (n := Int32.ofInt i) rfl hin.2 hin.1 hcb hcells hslots hR1.1 fun H1 cA e1 z1 o1 hAr hNm => ?_
  have hRA := (hA.1.2 q _ (tysG_at g (by omega))).2
  have hcA : g.2.2.2 q = cA := by
    have h3 : s.vm.findClass ("[" ++ (tyA q).toString) = some (g.2.2.2 q) := by
      rcases (show q = 0 ∨ q = 1 ∨ q = 2 ∨ q = 3 by omega) with rfl | rfl | rfl | rfl <;> exact hRA
    rw [hty] at hNm
    exact Option.some.inj (h3.symm.trans hNm)
  have h9 := kk H1 locs ls (hR.appa (q := q) (n := i.toNat) hw hlt (by
    rw [e1, hcA, hty]
    rcases (show q = 0 ∨ q = 1 ∨ q = 2 ∨ q = 3 by omega) with rfl | rfl | rfl | rfl <;> rfl) (by rw [z1]; omega) (fun q hq => o1 q (by omega))) hl
  have h9 : W p l e R s m args below meth c H1 locs (k + 1) (z + i.toNat) Q (F0 m (pc + 2) ls (dv g (.inr (.inr h.1)) :: st.map (dv g))) := h9
  rw [dv_new hR hlt] at h9
  exact h9
theorem tg_anewarray (hT : Gn l E Tp) {idx : Nat} (w : Nat) {i : Int} (hw : w % 10 = 4) (hcl : Cond.classLink E.2.2.1 idx "java/lang/Object" ∈ wsG) (hover : Cond.arrayOver (.object "java/lang/Object") ∈ nwL) (hd : decode E.1 pc = .ok (.anewarray idx, 3)) (hi : 0 ≤ i ∧ i ≤ 67108864) (hlt : h.1 < 1000000) (k0 : Tp (pc + 3, L, .inr (.inr h.1) :: st, al h (.inl (w, i.toNat)), k + 1, z + i.toNat)) : Tp (pc, L, .inl i :: st, h, k, z) := by
  refine hT.of ?_ k0
  refine ⟨⟨Nat.le_add_right _ _, Nat.le_add_right _ _⟩, fun g HB p e R s m args below meth c Q H locs ls hC _ _ hcells hslots hR hl kk => ?_⟩
  obtain ⟨⟨hx, hb, hml, hown, hts⟩, hA, -⟩ := hC
  have hR1 := hR.1
  have hin := in_of (i := i) (n := 67108865) (by omega) (by omega)
  refine W.anew hx hb hown (hts _ hcl) (over_vm rfl (hA.2.1 _ hover)) (g := F0 m pc ls (Value.int (Int32.ofInt i) :: st.map (dv g))) rfl hd (n := Int32.ofInt i) rfl hin.2 (by rw [hin.1]; omega) hcells (by rw [hin.1]; exact hslots) fun cA kA comp f1 f2 f3 f4 => ?_
  rw [hin.1]
  obtain ⟨kA2, comp2, k1, k2, k3, k4⟩ := (hA.1.2 4 _ rfl).2
  have hcA : g.2.2.2 4 = cA := Option.some.inj (k4.symm.trans f1)
  generalize hH1 : H.push ({ cls := cA, slots := Array.replicate i.toNat .null, vm := .none } : Cell) = H1
  have z1 : H1.size = H.size + 1 := by rw [← hH1, Array.size_push]
  have e1 : H1[H.size]? = some (arrV cA i.toNat (fun _ => .null)) := by rw [← hH1, Array.getElem?_push_size, ← arrV_new]
  have o1 : ∀ q : Nat, q < H.size → H1[q]? = H[q]? := fun q hq => by rw [← hH1, Array.getElem?_push, if_neg (Nat.ne_of_lt hq)]
  have h9 := kk H1 locs ls (hR.appa (q := 4) (n := i.toNat) hw hlt (by rw [← hR1.1, e1, hcA]; rfl) z1 o1) hl
  have h9 : W p l e R s m args below meth c H1 locs (k + 1) (z + i.toNat) Q (F0 m (pc + 3) ls (dv g (.inr (.inr h.1)) :: st.map (dv g))) := h9
  rw [dv_new hR hlt, ← hR1.1] at h9
  exact h9
theorem tg_castO (hT : Gn l E Tp) {a ci idx : Nat} {C nm : String} {T : u_T} {N : Nat} (hc : vwCl[ci]? = some (C, T, N)) (hlink : Cond.classLink E.2.2.1 idx nm ∈ wsG) (hca : Cond.castable C nm ∈ nwL) (hd : decode E.1 pc = .ok (.checkcast idx, 3)) (ht : h.2.1 a = some (.inr ci)) (k0 : Tp (pc + 3, L, .inr (.inr a) :: st, h, k, z)) : Tp (pc, L, .inr (.inr a) :: st, h, k, z) := by
  refine hT.of ?_ k0
  refine ⟨⟨Nat.le_refl _, Nat.le_refl _⟩, fun g HB p e R s m args below meth c Q H locs ls hC _ _ _ _ hR hl kk => ?_⟩
  have h9 : W p l e R s m args below meth c H locs k z Q (F0 m (pc + 3) ls (rv g a :: st.map (dv g))) := kk H locs ls hR hl
  show W p l e R s m args below meth c H locs k z Q (F0 m pc ls (rv g a :: st.map (dv g)))
  rw [hR.rv ht] at h9 ⊢
  obtain ⟨⟨hx, hb, hml, hown, hts⟩, hA, -⟩ := hC
  exact va_castY hx hb hown (hts _ hlink) (hA.2.1 _ hca) (va_recv (q0 := 0) hA.1 (va_P1 (hR.obj ht)) hc rfl) hd h9
theorem tg_aast (hT : Gn l E Tp) {a b ci n w : Nat} {i : Int} {C : String} {T : u_T} {N : Nat} (hc : vwCl[ci]? = some (C, T, N)) (hca : Cond.castable C "java/lang/Object" ∈ nwL) (hd : decode E.1 pc = .ok (.aastore, 1)) (ht : h.2.1 a = some (.inl (w, n))) (hq : w % 10 = 4) (hb0 : h.2.1 b = some (.inr ci)) (hn : n ≤ 2147483647) (hi : 0 ≤ i ∧ i < n) (k0 : Tp (pc + 1, L, st, wr h a i.toNat (b : Int), k, z)) : Tp (pc, L, .inr (.inr b) :: .inl i :: .inr (.inr a) :: st, h, k, z) := by
  refine hT.of ?_ k0
  refine ⟨⟨Nat.le_refl _, Nat.le_refl _⟩, fun g HB p e R s m args below meth c Q H locs ls hC _ _ _ _ hR hl kk => ?_⟩
  show W p l e R s m args below meth c H locs k z Q (F0 m pc ls (rv g b :: .int (Int32.ofInt i) :: rv g a :: st.map (dv g)))
  rw [hR.rv ht, hR.rv hb0]
  obtain ⟨⟨hx, hb, hml, hown, hts⟩, hA, -⟩ := hC
  obtain ⟨r', hr', cellV, g1, g2, g3, -⟩ := hR.obj hb0
  have hcls := (hA.1.1 ci _ hc).2
  obtain ⟨kA, comp, k1, k2, k3, -⟩ := (hA.1.2 4 _ rfl).2
  obtain ⟨kE, hkE, -⟩ := Vm.findClass_spec k3
  obtain ⟨c0, t1, f1, f2, f3⟩ := Cond.castable_spec (va_Nw.use (A := args) rfl (hA.2.1 _ hca))
  cases hcls.1.symm.trans f1
  cases k3.symm.trans f2
  obtain ⟨kC, hkC, -⟩ := hcls.2
  have hin := in_of hi hn
  refine W.aast (j := Int32.ofInt i) hx hb (hR.arr ht hq) (fun q h => by cases h) (fun h => by cases h) k1 k2 rfl hkE ⟨hin.2, by show _ < (arrV _ _ _).slots.size; rw [arrV_size, hin.1]; omega⟩ g1 (fun q h => by rw [g3] at h; cases h) (by rw [g2]; exact hkC) (by rw [g2]; exact f3) rfl rfl hd fun H1 e1 zz oq => ?_
  refine kk H1 _ ls (hR.seta ht hq (e1.trans (congrArg some (st_of (q := 4) (g := g) (a := a) (v := h.2.2) (x := (b : Int)) hi hn ?_))) zz oq) hl
  exact (hR.rv hb0).symm
theorem tg_aastN (hT : Gn l E Tp) {a n w : Nat} {i : Int} (hd : decode E.1 pc = .ok (.aastore, 1)) (ht : h.2.1 a = some (.inl (w, n))) (hq : w % 10 = 4) (hn : n ≤ 2147483647) (hi : 0 ≤ i ∧ i < n) (k0 : Tp (pc + 1, L, st, wr h a i.toNat 0, k, z)) : Tp (pc, L, .inr (.inr 0) :: .inl i :: .inr (.inr a) :: st, h, k, z) := by
  refine hT.of ?_ k0
  refine ⟨⟨Nat.le_refl _, Nat.le_refl _⟩, fun g HB p e R s m args below meth c Q H locs ls hC _ _ _ _ hR hl kk => ?_⟩
  show W p l e R s m args below meth c H locs k z Q (F0 m pc ls (.null :: .int (Int32.ofInt i) :: rv g a :: st.map (dv g)))
  rw [hR.rv ht]
  refine va_WaastN (C := "java/lang/Object") hC.1.1 hC.1.2.1 (hR.arr ht hq) ((hC.2.1.1.2 4 _ rfl).1 n _) (fun h => by cases h) (vin_of hi hn) rfl rfl hd fun H1 e1 zz oq => ?_
  exact kk H1 _ ls (hR.seta ht hq (e1.trans (congrArg some (st_of (q := 4) (g := g) (a := a) (v := h.2.2) (x := 0) hi hn rfl))) zz oq) hl
theorem tg_table (hT : Gn l E Tp) {x dflt lo hi : Int} {offs : Array Int} {len d : Nat} {ts : List Nat} (hd : decode E.1 pc = .ok (.tableswitch dflt lo hi offs, len)) (hdf : (pc : Int) + dflt = (d : Int)) (hts : offs.toList.map (fun o => (pc : Int) + o) = ts.map (fun t : Nat => (t : Int))) (hlen : hi - lo + 1 = ts.length) (hx : I32 x)
    (kd : x < lo ∨ hi < x → Tp (d, L, st, h, k, z)) (ki : tabK x lo (fun t => Tp (t, L, st, h, k, z)) ts) : Tp (pc, L, .inl x :: st, h, k, z) := by
  have hxi : (Int32.ofInt x).toInt = x := tI_of hx
  by_cases hc : x < lo ∨ hi < x
  · exact hT.of (sx_pure fun g HB p e R s m args below meth c Q H locs ls hC hl kk => lv_tableOut (x := Int32.ofInt x) hC.1.1 hC.1.2.1 hd (by rw [hxi]; exact hc) hdf (kk ls hl)) (kd hc)
  · have hn : (x - lo).toNat < ts.length := by omega
    have ht : ts[(x - lo).toNat]? = some (ts[(x - lo).toNat]'hn) := List.getElem?_eq_getElem hn
    generalize ts[(x - lo).toNat]'hn = t at ht
    have h1 : (offs.toList.map (fun o => (pc : Int) + o))[(x - lo).toNat]? = some (t : Int) := by rw [hts, List.getElem?_map, ht]; rfl
    rw [List.getElem?_map] at h1
    cases ho : offs.toList[(x - lo).toNat]? with
    | none => rw [ho] at h1; cases h1
    | some o =>
      rw [ho] at h1
      have h2 : (pc : Int) + o = (t : Int) := Option.some.inj h1
      exact hT.of (sx_pure fun g HB p e R s m args below meth c Q H locs ls hC hl kk => lv_tableIn (x := Int32.ofInt x) hC.1.1 hC.1.2.1 hd (by rw [hxi]; omega) (by rw [hxi]; omega) (by rw [hxi, ← Array.getElem?_toList]; exact ho) h2 (kk ls hl)) (tabK_at ki ht (by omega))
theorem tg_look (hT : Gn l E Tp) {x dflt : Int} {pr : Array (Int × Int)} {len d : Nat} {ps : List (Int × Nat)} (hd : decode E.1 pc = .ok (.lookupswitch dflt pr, len)) (hp : (pr.toList.zip (pr.toList.drop 1)).all (fun (a, next) => a.1 < next.1) = true) (hdf : (pc : Int) + dflt = (d : Int)) (hps : pr.toList.map (fun o => (o.1, (pc : Int) + o.2)) = ps.map (fun t : Int × Nat => (t.1, (t.2 : Int)))) (hx : I32 x)
    (ki : lookK x (fun t => Tp (t, L, st, h, k, z)) (Tp (d, L, st, h, k, z)) ps) : Tp (pc, L, .inl x :: st, h, k, z) := by
  have hxi : (Int32.ofInt x).toInt = x := tI_of hx
  have key : ∃ t : Nat, (pc : Int) + Op.lookupswitch.offset pr.toList dflt x = (t : Int) ∧ Tp (t, L, st, h, k, z) := by
    rw [off_find]
    generalize pr.toList = pl at hps
    clear hp hd
    induction pl generalizing ps with
    | nil =>
      cases ps with
      | nil => exact ⟨d, hdf, ki⟩
      | cons a b => cases hps
    | cons q t ih =>
      cases ps with
      | nil => cases hps
      | cons a b =>
        rw [List.map_cons, List.map_cons] at hps
        have e1 := (List.cons.inj hps).1
        have e2 := (List.cons.inj hps).2
        have e3 : q.1 = a.1 := congrArg Prod.fst e1
        have e4 : (pc : Int) + q.2 = (a.2 : Int) := congrArg Prod.snd e1
        rw [List.find?_cons, e3]
        by_cases hz : a.1 = x
        · rw [decide_eq_true hz]
          exact ⟨a.2, e4, ki.1 hz.symm⟩
        · rw [decide_eq_false hz]
          exact ih (ki.2 (fun h => hz h.symm)) e2
  obtain ⟨t, h1, h2⟩ := key
  exact hT.of (sx_pure fun g HB p e R s m args below meth c Q H locs ls hC hl kk => lv_lookup (x := Int32.ofInt x) hC.1.1 hC.1.2.1 hd hp rfl (by rw [hxi]; exact h1) (kk ls hl)) h2
theorem tg_ldc (hT : Gn l E Tp) {idx : Nat} {v : Int} {x : Int32} (h1 : Cond.constant E.2.2.1 idx x ∈ wsG) (hv : x = Int32.ofInt v) (hd : decode E.1 pc = .ok (.ldc idx, 2)) (k0 : Tp (pc + 2, L, .inl v :: st, h, k, z)) : Tp (pc, L, st, h, k, z) :=
  hT.of (sx_pure fun g HB p e R s m args below meth c Q H locs ls hC hl kk => by subst hv; exact lv_ldc hC.1.1 hC.1.2.1 hC.1.2.2.2.1 (hC.1.2.2.2.2 _ h1) hd (kk ls hl)) k0
theorem tg_ldc2 (hT : Gn l E Tp) {idx : Nat} {v : Int} {x : Int64} (h1 : Cond.constantLong E.2.2.1 idx x ∈ wsG) (hv : x = Int64.ofInt v) (hd : decode E.1 pc = .ok (.ldc2_w idx, 3)) (k0 : Tp (pc + 3, L, .inr (.inl v) :: st, h, k, z)) : Tp (pc, L, st, h, k, z) :=
  hT.of (sx_pure fun g HB p e R s m args below meth c Q H locs ls hC hl kk => by subst hv; exact lv_ldc2 hC.1.1 hC.1.2.1 hC.1.2.2.2.1 (hC.1.2.2.2.2 _ h1) hd (kk ls hl)) k0
theorem tg_ldcS (hT : Gn l E Tp) {idx q : Nat} {tx : String} (h1 : (E.2.2.1, idx, tx, q) ∈ xR) (hd : decode E.1 pc = .ok (.ldc idx, 2)) (k0 : Tp (pc + 2, L, .inr (.inr (1000000 + q)) :: st, h, k, z)) : Tp (pc, L, st, h, k, z) :=
  hT.of (sx_pure fun g HB p e R s m args below meth c Q H locs ls hC hl kk => by
    have hk : W p l e R s m args below meth c H locs k z Q (F0 m (pc + 2) ls (rv g (1000000 + q) :: st.map (dv g))) := kk ls hl
    rw [rv_out] at hk
    exact va_ldcS hC.1.1 hC.1.2.1 hC.1.2.2.2.1 (hC.2.1.2.2.2.2.2.1 _ h1) hd hk) k0
theorem tg_gst (hT : Gn l E Tp) {idx : Nat} {C f9 d9 : String} {v : V} (h1 : (C, f9, d9, v) ∈ xZ) (hlink : Cond.fieldLink E.2.2.1 idx C f9 d9 ∈ wsG) (hd : decode E.1 pc = .ok (.getstatic idx, 3)) (k0 : Tp (pc + 3, L, v :: st, h, k, z)) : Tp (pc, L, st, h, k, z) := by
  refine hT.of ?_ k0
  refine ⟨⟨Nat.le_refl _, Nat.le_refl _⟩, fun g HB p e R s m args below meth c Q H locs ls hC _ _ _ _ hR hl kk => ?_⟩
  obtain ⟨⟨hx, hb, hml, hown, hts⟩, hA, -⟩ := hC
  obtain ⟨cf, kf, fi, f, a, cell, g1, g2, g3, g4, g5, g6, g7, g8⟩ := hA.2.2.2.2.1 _ h1
  have g8 : ¬ g.1 + 1 ≤ a := g8
  exact W.gets hx hb hown (hts _ hlink) g1 g2 g3 g4 (by rw [hR.2.1 a (by omega)]; exact g5) (fun e => by rw [e] at g6; cases g6) g7 rfl hd (kk H locs ls hR hl)
theorem tg_getX (hT : Gn l E Tp) {idx q : Nat} {o9 f9 d9 : String} {v : V} (h1 : (q, o9, f9, d9, v) ∈ xOF) (hlink : Cond.fieldLink E.2.2.1 idx o9 f9 d9 ∈ wsG) (hd : decode E.1 pc = .ok (.getfield idx, 3)) (k0 : Tp (pc + 3, L, v :: st, h, k, z)) : Tp (pc, L, .inr (.inr (1000000 + q)) :: st, h, k, z) := by
  refine hT.of ?_ k0
  refine ⟨⟨Nat.le_refl _, Nat.le_refl _⟩, fun g HB p e R s m args below meth c Q H locs ls hC _ _ _ _ hR hl kk => ?_⟩
  show W p l e R s m args below meth c H locs k z Q (F0 m pc ls (rv g (1000000 + q) :: st.map (dv g)))
  rw [rv_out]
  obtain ⟨⟨hx, hb, hml, hown, hts⟩, hA, -⟩ := hC
  obtain ⟨cf, k9, fi, f, cell, g1, g2, g3, g4, g5, g6⟩ := hA.2.2.1 _ h1
  have g6 : ¬ g.1 + 1 ≤ g.2.1 q := g6
  exact W.getf hx hb hown (hts _ hlink) g1 g2 (by rw [hR.2.1 _ (by omega)]; exact g3) g4 g5 rfl rfl hd (kk H locs ls hR hl)
theorem tg_alenX (hT : Gn l E Tp) {q n : Nat} {ty : FieldType} {cs : List Int} (h1 : (q, ty, n, cs) ∈ xT) (hd : decode E.1 pc = .ok (.arraylength, 1)) (k0 : Tp (pc + 1, L, .inl (n : Int) :: st, h, k, z)) : Tp (pc, L, .inr (.inr (1000000 + q)) :: st, h, k, z) := by
  refine hT.of ?_ k0
  refine ⟨⟨Nat.le_refl _, Nat.le_refl _⟩, fun g HB p e R s m args below meth c Q H locs ls hC _ _ _ _ hR hl kk => ?_⟩
  show W p l e R s m args below meth c H locs k z Q (F0 m pc ls (rv g (1000000 + q) :: st.map (dv g)))
  rw [rv_out]
  obtain ⟨⟨hx, hb, hml, hown, hts⟩, hA, -⟩ := hC
  obtain ⟨cell, c1, c2, c3, c4, c5, c6, c7⟩ := hA.2.2.2.1 _ h1
  have c7 : ¬ g.1 + 1 ≤ g.2.1 q := c7
  exact W.alen hx hb (by rw [hR.2.1 _ (by omega)]; exact c1) c2 c5 rfl rfl hd (kk H locs ls hR hl)
theorem tg_ialdX (hT : Gn l E Tp) {q n : Nat} {cs : List Int} {i : Int} (h1 : (q, .int, n, cs) ∈ xT) (hd : decode E.1 pc = .ok (.iaload, 1)) (hn : n ≤ 2147483647) (hi : 0 ≤ i ∧ i < n) (k0 : Tp (pc + 1, L, .inl (cs.getD i.toNat 0) :: st, h, k, z)) : Tp (pc, L, .inl i :: .inr (.inr (1000000 + q)) :: st, h, k, z) := by
  refine hT.of ?_ k0
  refine ⟨⟨Nat.le_refl _, Nat.le_refl _⟩, fun g HB p e R s m args below meth c Q H locs ls hC _ _ _ _ hR hl kk => ?_⟩
  show W p l e R s m args below meth c H locs k z Q (F0 m pc ls (.int (Int32.ofInt i) :: rv g (1000000 + q) :: st.map (dv g)))
  rw [rv_out]
  obtain ⟨⟨hx, hb, hml, hown, hts⟩, hA, -⟩ := hC
  obtain ⟨cell, c1, c2, c3, c4, c5, c6, c7⟩ := hA.2.2.2.1 _ h1
  simp only at c1 c2 c4 c5 c6
  have c7 : ¬ g.1 + 1 ≤ g.2.1 q := c7
  have hin := in_of hi hn
  exact W.iald (j := Int32.ofInt i) hx hb (by rw [hR.2.1 _ (by omega)]; exact c1) c2 c3 (by
    rintro (q | q)
    · exact hin.2 q
    · rw [hin.1] at q; omega) (by rw [hin.1]; exact c6 _ (by omega)) rfl rfl hd (kk H locs ls hR hl)
theorem tg_baldX (hT : Gn l E Tp) {q n : Nat} {cs : List Int} {i : Int} (h1 : (q, .byte, n, cs) ∈ xT) (hd : decode E.1 pc = .ok (.baload, 1)) (hn : n ≤ 2147483647) (hi : 0 ≤ i ∧ i < n) (k0 : Tp (pc + 1, L, .inl (cs.getD i.toNat 0) :: st, h, k, z)) : Tp (pc, L, .inl i :: .inr (.inr (1000000 + q)) :: st, h, k, z) := by
  refine hT.of ?_ k0
  refine ⟨⟨Nat.le_refl _, Nat.le_refl _⟩, fun g HB p e R s m args below meth c Q H locs ls hC _ _ _ _ hR hl kk => ?_⟩
  show W p l e R s m args below meth c H locs k z Q (F0 m pc ls (.int (Int32.ofInt i) :: rv g (1000000 + q) :: st.map (dv g)))
  rw [rv_out]
  obtain ⟨⟨hx, hb, hml, hown, hts⟩, hA, -⟩ := hC
  obtain ⟨cell, c1, c2, c3, c4, c5, c6, c7⟩ := hA.2.2.2.1 _ h1
  simp only at c1 c2 c4 c5 c6
  have c7 : ¬ g.1 + 1 ≤ g.2.1 q := c7
  have hin := in_of hi hn
  exact W.bald (j := Int32.ofInt i) hx hb (by rw [hR.2.1 _ (by omega)]; exact c1) c2 c3 (by
    rintro (q | q)
    · exact hin.2 q
    · rw [hin.1] at q; omega) (by rw [hin.1]; exact c6 _ (by omega)) rfl rfl hd (kk H locs ls hR hl)
theorem tg_call (hT : Gn l E Tp) {op : Instr} {kd np fr lo : Nat} {d : MD} {av r : List V} {Fc : Option V → Hp → Nat → Nat → Prop} (hco : CallOK E.2.2.1 op kd d np) (hd : decode E.1 pc = .ok (op, 3)) (hc : Ct l d fr lo av h Fc) (hp : popN np st [] = some (av, r)) (hrc : Recv kd h av) (hrm : rmOK E d fr lo r = true)
    (k0 : ∀ (rv : Option V) (h' : Hp) (mc ms : Nat), Fc rv h' mc ms → Tp (pc + 3, L, rv.toList ++ r, h', k + mc, z + ms)) : Tp (pc, L, st, h, k, z) := by
  obtain ⟨rv, h', mc, ms, hF, hE⟩ := hc
  unfold rmOK at hrm
  rw [Bool.and_eq_true, Bool.and_eq_true] at hrm
  have r1 : fr + 1 ≤ E.2.2.2.2.2.1 := Nat.ble_eq.mp hrm.1
  have r2 : lo + (d.2.2.1 + 19) ≤ E.2.2.2.2.2.2 := Nat.ble_eq.mp hrm.2.1
  refine hT.of ?_ (k0 rv h' mc ms hF)
  refine ⟨⟨Nat.le_add_right _ _, Nat.le_add_right _ _⟩, fun g HB p e R s m args below meth c Q H locs ls hC hfr hlo hk hz hR hl kk => ?_⟩
  refine hco p l e R s m args below meth c E.1 E.2.1 H locs k z Q g HB pc fr lo mc ms ls st av r h h' rv hC.1 hC.2.1 hR hl.1 hrc hp (Nat.le_trans r1 hfr) (Nat.le_trans r2 hlo) (Nat.ble_eq.mp hrm.2.2) ⟨hk, hz⟩ hd hE fun H1 locs1 hR1 => ?_
  have h9 := kk H1 locs1 ls hR1 hl
  rw [List.map_append] at h9
  cases rv <;> exact h9
theorem tg_cI (hT : Gn l E Tp) {P : Int → Hp → Prop} (hco : CallOK E.2.2.1 op kd d np) (hd : decode E.1 pc = .ok (op, 3)) (hc : Ct l d fr lo av h (RI P)) (hp : popN np st [] = some (av, r)) (hrc : Recv kd h av) (hrm : rmOK E d fr lo r = true)
    (k0 : ∀ (x : Int) (h' : Hp), I32 x → P x h' → Tp (pc + 3, L, .inl x :: r, h', k, z)) : Tp (pc, L, st, h, k, z) :=
  tg_call hT hco hd hc hp hrc hrm fun rv h' mc ms ⟨e1, e2, x, e3, hx, hP⟩ => by subst e1 e2 e3; exact k0 x h' hx hP
theorem tg_cV (hT : Gn l E Tp) {P : Hp → Prop} (hco : CallOK E.2.2.1 op kd d np) (hd : decode E.1 pc = .ok (op, 3)) (hc : Ct l d fr lo av h (RV P)) (hp : popN np st [] = some (av, r)) (hrc : Recv kd h av) (hrm : rmOK E d fr lo r = true)
    (k0 : ∀ (h' : Hp), P h' → Tp (pc + 3, L, r, h', k, z)) : Tp (pc, L, st, h, k, z) :=
  tg_call hT hco hd hc hp hrc hrm fun rv h' mc ms ⟨e1, e2, e3, hP⟩ => by subst e1 e2 e3; exact k0 h' hP
theorem tg_cR (hT : Gn l E Tp) {P : Nat → Hp → Prop} (hco : CallOK E.2.2.1 op kd d np) (hd : decode E.1 pc = .ok (op, 3)) (hc : Ct l d fr lo av h (RR P)) (hp : popN np st [] = some (av, r)) (hrc : Recv kd h av) (hrm : rmOK E d fr lo r = true)
    (k0 : ∀ (x : Nat) (h' : Hp), P x h' → Tp (pc + 3, L, .inr (.inr x) :: r, h', k, z)) : Tp (pc, L, st, h, k, z) :=
  tg_call hT hco hd hc hp hrc hrm fun rv h' mc ms ⟨e1, e2, x, e3, hP⟩ => by subst e1 e2 e3; exact k0 x h' hP
theorem tg_cL (hT : Gn l E Tp) {P : Int → Hp → Prop} (hco : CallOK E.2.2.1 op kd d np) (hd : decode E.1 pc = .ok (op, 3)) (hc : Ct l d fr lo av h (RLo P)) (hp : popN np st [] = some (av, r)) (hrc : Recv kd h av) (hrm : rmOK E d fr lo r = true)
    (k0 : ∀ (x : Int) (h' : Hp), P x h' → Tp (pc + 3, L, .inr (.inl x) :: r, h', k, z)) : Tp (pc, L, st, h, k, z) :=
  tg_call hT hco hd hc hp hrc hrm fun rv h' mc ms ⟨e1, e2, x, e3, hP⟩ => by subst e1 e2 e3; exact k0 x h' hP
theorem tg_cIa (hT : Gn l E Tp) {P : Int → Hp → Nat → Nat → Prop} (hco : CallOK E.2.2.1 op kd d np) (hd : decode E.1 pc = .ok (op, 3)) (hc : Ct l d fr lo av h (RIa P)) (hp : popN np st [] = some (av, r)) (hrc : Recv kd h av) (hrm : rmOK E d fr lo r = true)
    (k0 : ∀ (x : Int) (h' : Hp) (mc ms : Nat), I32 x → P x h' mc ms → Tp (pc + 3, L, .inl x :: r, h', k + mc, z + ms)) : Tp (pc, L, st, h, k, z) :=
  tg_call hT hco hd hc hp hrc hrm fun rv h' mc ms ⟨x, e3, hx, hP⟩ => by subst e3; exact k0 x h' mc ms hx hP
theorem tg_cVa (hT : Gn l E Tp) {P : Hp → Nat → Nat → Prop} (hco : CallOK E.2.2.1 op kd d np) (hd : decode E.1 pc = .ok (op, 3)) (hc : Ct l d fr lo av h (RVa P)) (hp : popN np st [] = some (av, r)) (hrc : Recv kd h av) (hrm : rmOK E d fr lo r = true)
    (k0 : ∀ (h' : Hp) (mc ms : Nat), P h' mc ms → Tp (pc + 3, L, r, h', k + mc, z + ms)) : Tp (pc, L, st, h, k, z) :=
  tg_call hT hco hd hc hp hrc hrm fun rv h' mc ms ⟨e3, hP⟩ => by subst e3; exact k0 h' mc ms hP
theorem tg_cRa (hT : Gn l E Tp) {P : Nat → Hp → Nat → Nat → Prop} (hco : CallOK E.2.2.1 op kd d np) (hd : decode E.1 pc = .ok (op, 3)) (hc : Ct l d fr lo av h (RRa P)) (hp : popN np st [] = some (av, r)) (hrc : Recv kd h av) (hrm : rmOK E d fr lo r = true)
    (k0 : ∀ (x : Nat) (h' : Hp) (mc ms : Nat), P x h' mc ms → Tp (pc + 3, L, .inr (.inr x) :: r, h', k + mc, z + ms)) : Tp (pc, L, st, h, k, z) :=
  tg_call hT hco hd hc hp hrc hrm fun rv h' mc ms ⟨x, e3, hP⟩ => by subst e3; exact k0 x h' mc ms hP
theorem tg_obj (hT : Gn l E Tp) {a idx : Nat} {t : Ty} (h1 : Cond.methodLink E.2.2.1 idx objectInit ∈ wsG) (h2 : Cond.instanceMethod objectInit ∈ wsG) (h3 : Cond.code objectInit ⟨#[0xb1]⟩ 1 none ∈ wsG) (hd : decode E.1 pc = .ok (.invokespecial idx, 3)) (ht : h.2.1 a = some t) (hrm : (Nat.ble 1 E.2.2.2.2.2.1 && Nat.ble (slen st + 12) E.2.2.2.2.2.2) = true) (k0 : Tp (pc + 3, L, st, h, k, z)) : Tp (pc, L, .inr (.inr a) :: st, h, k, z) := by
  rw [Bool.and_eq_true] at hrm
  have r1 : 1 ≤ E.2.2.2.2.2.1 := Nat.ble_eq.mp hrm.1
  have r2 : slen st + 12 ≤ E.2.2.2.2.2.2 := Nat.ble_eq.mp hrm.2
  refine hT.of ?_ k0
  refine ⟨⟨Nat.le_refl _, Nat.le_refl _⟩, fun g HB p e R s m args below meth c Q H locs ls hC hfr hlo _ _ hR hl kk => ?_⟩
  show W p l e R s m args below meth c H locs k z Q (F0 m pc ls (rv g a :: st.map (dv g)))
  rw [hR.rv ht]
  obtain ⟨⟨hx, hb, hml, hown, hts⟩, hA, -⟩ := hC
  refine W.objInit hx hb hown (hts _ h1) (hts _ h2) (hts _ h3) (g := F0 m pc ls (.ref (g.1 + a) :: st.map (dv g))) rfl (hl.1.trans hml.symm) rfl hd (by omega) (by rw [slen_sum]; show 2 * 0 + slen st + 12 ≤ R.locals; omega) ?_
  exact kk H locs ls hR hl
theorem tg_getIv (hT : Gn l E Tp) {a idx ci j : Nat} {y : Int} (hv : h.2.2 a j = y) (hg : GI E.2.2.1 idx ci j) (hd : decode E.1 pc = .ok (.getfield idx, 3)) (ht : h.2.1 a = some (.inr ci)) (k0 : Tp (pc + 3, L, .inl y :: st, h, k, z)) : Tp (pc, L, .inr (.inr a) :: st, h, k, z) := by
  subst hv
  exact tg_getI hT hg hd ht k0
theorem tg_ialdv (hT : Gn l E Tp) {a n w : Nat} {i y : Int} (hv : h.2.2 a i.toNat = y) (hd : decode E.1 pc = .ok (.iaload, 1)) (ht : h.2.1 a = some (.inl (w, n))) (hq : w % 10 = 0) (hn : n ≤ 2147483647) (hi : 0 ≤ i ∧ i < n) (k0 : Tp (pc + 1, L, .inl y :: st, h, k, z)) : Tp (pc, L, .inl i :: .inr (.inr a) :: st, h, k, z) := by
  subst hv
  exact tg_iald hT hd ht hq hn hi k0
theorem tg_baldv (hT : Gn l E Tp) {a n q w : Nat} {i y : Int} (hv : h.2.2 a i.toNat = y) (hd : decode E.1 pc = .ok (.baload, 1)) (hq : q = 1 ∨ q = 2) (ht : h.2.1 a = some (.inl (w, n))) (hw : w % 10 = q) (hn : n ≤ 2147483647) (hi : 0 ≤ i ∧ i < n) (k0 : Tp (pc + 1, L, .inl y :: st, h, k, z)) : Tp (pc, L, .inl i :: .inr (.inr a) :: st, h, k, z) := by
  subst hv
  exact tg_bald hT hd hq ht hw hn hi k0
theorem tg_less (hT : Gn l E Tp) {L' : LL} (hs : ∀ q ∈ L', q ∈ L) (k0 : Tp (pc, L', st, h, k, z)) : Tp (pc, L, st, h, k, z) :=
  hT.of (sx_pure fun g HB p e R s m args below meth c Q H locs ls hC hl kk => kk ls (lv_less hl fun q hq => by
    obtain ⟨x, hx, rfl⟩ := List.mem_map.mp hq
    exact List.mem_map.mpr ⟨x, hs x hx, rfl⟩)) k0
theorem tg_pick (hT : Gn l E Tp) (ks : List Nat) {L' : LL} (hs : ks.filterMap (fun i => L[i]?) = L') (k0 : Tp (pc, L', st, h, k, z)) : Tp (pc, L, st, h, k, z) := by
  refine tg_less hT (fun q hq => ?_) k0
  rw [← hs] at hq
  obtain ⟨i, -, hi⟩ := List.mem_filterMap.mp hq
  exact List.mem_of_getElem? hi
theorem tg_iaddA (hT : Gn l E Tp) {x y : Int} (hd : decode E.1 pc = .ok (.iadd, 1)) (k0 : ∀ y : Int, I32 y → Tp (pc + 1, L, .inl y :: st, h, k, z)) : Tp (pc, L, .inl y :: .inl x :: st, h, k, z) :=
  tg_someI hT (P := fun _ => True) (Int32.ofInt x + Int32.ofInt y) trivial (fun g HB p e R s m args below meth c Q H locs ls hC hl kk => lv_iadd hC.1.1 hC.1.2.1 hd kk) (fun y hy _ => k0 y hy)
theorem tg_isubA (hT : Gn l E Tp) {x y : Int} (hd : decode E.1 pc = .ok (.isub, 1)) (k0 : ∀ y : Int, I32 y → Tp (pc + 1, L, .inl y :: st, h, k, z)) : Tp (pc, L, .inl y :: .inl x :: st, h, k, z) :=
  tg_someI hT (P := fun _ => True) (Int32.ofInt x - Int32.ofInt y) trivial (fun g HB p e R s m args below meth c Q H locs ls hC hl kk => lv_isub hC.1.1 hC.1.2.1 hd kk) (fun y hy _ => k0 y hy)
theorem tg_imulA (hT : Gn l E Tp) {x y : Int} (hd : decode E.1 pc = .ok (.imul, 1)) (k0 : ∀ y : Int, I32 y → Tp (pc + 1, L, .inl y :: st, h, k, z)) : Tp (pc, L, .inl y :: .inl x :: st, h, k, z) :=
  tg_someI hT (P := fun _ => True) (Int32.ofInt x * Int32.ofInt y) trivial (fun g HB p e R s m args below meth c Q H locs ls hC hl kk => lv_imul hC.1.1 hC.1.2.1 hd kk) (fun y hy _ => k0 y hy)
theorem tg_inegA (hT : Gn l E Tp) {x : Int} (hd : decode E.1 pc = .ok (.ineg, 1)) (k0 : ∀ y : Int, I32 y → Tp (pc + 1, L, .inl y :: st, h, k, z)) : Tp (pc, L, .inl x :: st, h, k, z) :=
  tg_someI hT (P := fun _ => True) (-Int32.ofInt x) trivial (fun g HB p e R s m args below meth c Q H locs ls hC hl kk => lv_ineg hC.1.1 hC.1.2.1 hd kk) (fun y hy _ => k0 y hy)
theorem tg_putIw (hT : Gn l E Tp) {a idx ci j : Nat} {x : Int} (hg : PI E.2.2.1 E.2.2.2.1 idx ci j) (hd : decode E.1 pc = .ok (.putfield idx, 3)) (ht : h.2.1 a = some (.inr ci)) (k0 : ∀ h' : Hp, h' = wr h a j x → Tp (pc + 3, L, st, h', k, z)) : Tp (pc, L, .inl x :: .inr (.inr a) :: st, h, k, z) := tg_putI hT hg hd ht (k0 _ rfl)
theorem tg_putZw (hT : Gn l E Tp) {a idx ci j : Nat} {x : Int} (hg : PZ E.2.2.1 E.2.2.2.1 idx ci j) (hd : decode E.1 pc = .ok (.putfield idx, 3)) (ht : h.2.1 a = some (.inr ci)) (hx : x = 0 ∨ x = 1) (k0 : ∀ h' : Hp, h' = wr h a j x → Tp (pc + 3, L, st, h', k, z)) : Tp (pc, L, .inl x :: .inr (.inr a) :: st, h, k, z) := tg_putZ hT hg hd ht hx (k0 _ rfl)
theorem tg_putLw (hT : Gn l E Tp) {a idx ci j : Nat} {x : Int} (hg : PL E.2.2.1 E.2.2.2.1 idx ci j) (hd : decode E.1 pc = .ok (.putfield idx, 3)) (ht : h.2.1 a = some (.inr ci)) (k0 : ∀ h' : Hp, h' = wr h a j x → Tp (pc + 3, L, st, h', k, z)) : Tp (pc, L, .inr (.inl x) :: .inr (.inr a) :: st, h, k, z) := tg_putL hT hg hd ht (k0 _ rfl)
theorem tg_putRw (hT : Gn l E Tp) {a idx ci j b : Nat} (hg : PR E.2.2.1 E.2.2.2.1 idx ci j) (hd : decode E.1 pc = .ok (.putfield idx, 3)) (ht : h.2.1 a = some (.inr ci)) (k0 : ∀ h' : Hp, h' = wr h a j (b : Int) → Tp (pc + 3, L, st, h', k, z)) : Tp (pc, L, .inr (.inr b) :: .inr (.inr a) :: st, h, k, z) := tg_putR hT hg hd ht (k0 _ rfl)
theorem tg_iastw (hT : Gn l E Tp) {a n w : Nat} {i x : Int} (hd : decode E.1 pc = .ok (.iastore, 1)) (ht : h.2.1 a = some (.inl (w, n))) (hq : w % 10 = 0) (hn : n ≤ 2147483647) (hi : 0 ≤ i ∧ i < n) (k0 : ∀ h' : Hp, h' = wr h a i.toNat x → Tp (pc + 1, L, st, h', k, z)) : Tp (pc, L, .inl x :: .inl i :: .inr (.inr a) :: st, h, k, z) := tg_iast hT hd ht hq hn hi (k0 _ rfl)
theorem tg_bastw (hT : Gn l E Tp) {a n w : Nat} {i x : Int} (hd : decode E.1 pc = .ok (.bastore, 1)) (ht : h.2.1 a = some (.inl (w, n))) (hq : w % 10 = 1) (hn : n ≤ 2147483647) (hi : 0 ≤ i ∧ i < n) (k0 : ∀ h' : Hp, h' = wr h a i.toNat (b8 x) → Tp (pc + 1, L, st, h', k, z)) : Tp (pc, L, .inl x :: .inl i :: .inr (.inr a) :: st, h, k, z) := tg_bast hT hd ht hq hn hi (k0 _ rfl)
theorem tg_zastw (hT : Gn l E Tp) {a n w : Nat} {i x : Int} (hd : decode E.1 pc = .ok (.bastore, 1)) (ht : h.2.1 a = some (.inl (w, n))) (hq : w % 10 = 2) (hn : n ≤ 2147483647) (hi : 0 ≤ i ∧ i < n) (hx : x = 0 ∨ x = 1) (k0 : ∀ h' : Hp, h' = wr h a i.toNat x → Tp (pc + 1, L, st, h', k, z)) : Tp (pc, L, .inl x :: .inl i :: .inr (.inr a) :: st, h, k, z) := tg_zast hT hd ht hq hn hi hx (k0 _ rfl)
theorem tg_lastw (hT : Gn l E Tp) {a n w : Nat} {i x : Int} (hd : decode E.1 pc = .ok (.lastore, 1)) (ht : h.2.1 a = some (.inl (w, n))) (hq : w % 10 = 3) (hn : n ≤ 2147483647) (hi : 0 ≤ i ∧ i < n) (k0 : ∀ h' : Hp, h' = wr h a i.toNat x → Tp (pc + 1, L, st, h', k, z)) : Tp (pc, L, .inr (.inl x) :: .inl i :: .inr (.inr a) :: st, h, k, z) := tg_last hT hd ht hq hn hi (k0 _ rfl)
theorem tg_aaldv (hT : Gn l E Tp) {a n w : Nat} {i : Int} (b : Nat) (hd : decode E.1 pc = .ok (.aaload, 1)) (ht : h.2.1 a = some (.inl (w, n))) (hq : w % 10 = 4) (hn : n ≤ 2147483647) (hi : 0 ≤ i ∧ i < n) (hv : h.2.2 a i.toNat = (b : Int)) (k0 : Tp (pc + 1, L, .inr (.inr b) :: st, h, k, z)) : Tp (pc, L, .inl i :: .inr (.inr a) :: st, h, k, z) := tg_aald hT b hd ht hq hn hi hv k0
theorem tg_castM (hT : Gn l E Tp) {a ci idx : Nat} {C : String} {T : u_T} {N : Nat} (hc : vwCl[ci]? = some (C, T, N)) (hlink : Cond.classLink E.2.2.1 idx C ∈ wsG) (hd : decode E.1 pc = .ok (.checkcast idx, 3)) (ht : h.2.1 a = some (.inr ci)) (k0 : Tp (pc + 3, L, .inr (.inr a) :: st, h, k, z)) : Tp (pc, L, .inr (.inr a) :: st, h, k, z) := by
  refine hT.of ?_ k0
  refine ⟨⟨Nat.le_refl _, Nat.le_refl _⟩, fun g HB p e R s m args below meth c Q H locs ls hC _ _ _ _ hR hl kk => ?_⟩
  have h9 : W p l e R s m args below meth c H locs k z Q (F0 m (pc + 3) ls (rv g a :: st.map (dv g))) := kk H locs ls hR hl
  show W p l e R s m args below meth c H locs k z Q (F0 m pc ls (rv g a :: st.map (dv g)))
  rw [hR.rv ht] at h9 ⊢
  obtain ⟨⟨hx, hb, hml, hown, hts⟩, hA, -⟩ := hC
  exact va_castE hx hb hown (hts _ hlink) (va_recv (q0 := 0) hA.1 (va_P1 (hR.obj ht)) hc rfl) hd h9
end TGM
