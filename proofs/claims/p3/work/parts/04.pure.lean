/-! Steps that touch no cell. -/
section PU
variable {p : Program} {l : Launch} {e : Env} {R : Room} {s : State} {m : MethodId} {args : Array Value} {below : List Frame} {meth : Method} {c : Code} {H : Heap} {locs : List Loc} {cells slots : Nat} {Q : State → Prop}
abbrev LL : Type := List (Nat × AV)
abbrev PF : Type := LL → List AV → Option (Nat × LL × List AV)
/-- the machine does at pc what q computes -/
def PSnd (g : GG) (cc : ByteArray) (nL pc : Nat) (q : PF) : Prop :=
  ∀ (L : LL) (st : List AV) (pc' : Nat) (L' : LL) (st' : List AV), q L st = some (pc', L', st') →
    ∀ (p : Program) (l : Launch) (e : Env) (R : Room) (s : State) (m : MethodId) (args : Array Value) (below : List Frame) (meth : Method) (c : Code) (H : Heap) (locs : List Loc) (cells slots : Nat) (Q : State → Prop) (ls : Array Slot),
      p.tables.exec = Jvm.exec → c.code = cc → lv_has ls nL (cL g L) →
      (∀ ls' : Array Slot, lv_has ls' nL (cL g L') → W p l e R s m args below meth c H locs cells slots Q (F0 m pc' ls' (st'.map (cV g)))) →
      W p l e R s m args below meth c H locs cells slots Q (F0 m pc ls (st.map (cV g)))
variable {g : GG} {cc : ByteArray} {nL pc n : Nat}
-- constants
def q_push (v : AV) (n : Nat) : PF := fun L st => some (n, L, v :: st)
theorem p_iconst {i : Int} {v : Nat} (hd : decode cc pc = .ok (.iconst i, 1)) (hv : Int32.ofInt i = nI v) (hn : pc + 1 = n) : PSnd g cc nL pc (q_push (.inl v) n) := by
  intro L st pc' L' st' h p l e R s m args below meth c H locs cells slots Q ls hx hb hl k
  cases h
  subst hn
  exact lv_iconst hx hb hd hv (k ls hl)
theorem p_bipush {i : Int} {v : Nat} (hd : decode cc pc = .ok (.bipush i, 2)) (hv : (Int8.ofInt i).toInt32 = nI v) (hn : pc + 2 = n) : PSnd g cc nL pc (q_push (.inl v) n) := by
  intro L st pc' L' st' h p l e R s m args below meth c H locs cells slots Q ls hx hb hl k
  cases h
  subst hn
  exact lv_bipush hx hb hd hv (k ls hl)
theorem p_sipush {i : Int} {v : Nat} (hd : decode cc pc = .ok (.sipush i, 3)) (hv : (Int16.ofInt i).toInt32 = nI v) (hn : pc + 3 = n) : PSnd g cc nL pc (q_push (.inl v) n) := by
  intro L st pc' L' st' h p l e R s m args below meth c H locs cells slots Q ls hx hb hl k
  cases h
  subst hn
  exact lv_sipush hx hb hd hv (k ls hl)
theorem p_lconst {i : Fin 2} {v : Nat} (hd : decode cc pc = .ok (.lconst i, 1)) (hv : Int64.ofNat (i : Nat) = lN v) (hn : pc + 1 = n) : PSnd g cc nL pc (q_push (.inr (.inl v)) n) := by
  intro L st pc' L' st' h p l e R s m args below meth c H locs cells slots Q ls hx hb hl k
  cases h
  subst hn
  exact lv_lconst hx hb hd hv (k ls hl)
theorem p_null (hd : decode cc pc = .ok (.aconst_null, 1)) (hn : pc + 1 = n) : PSnd g cc nL pc (q_push (.inr (.inr .null)) n) := by
  intro L st pc' L' st' h p l e R s m args below meth c H locs cells slots Q ls hx hb hl k
  cases h
  subst hn
  exact lv_null hx hb hd (k ls hl)
-- locals
def q_load (t : AV → Bool) (i n : Nat) : PF := fun L st => match alk L i with
  | none => none
  | some v => match t v with
    | true => some (n, L, v :: st)
    | false => none
theorem q_load_ok {t : AV → Bool} {i n : Nat} {L : LL} {st : List AV} {r : Nat × LL × List AV} (h : q_load t i n L st = some r) : ∃ v, alk L i = some v ∧ t v = true ∧ r = (n, L, v :: st) := by
  simp only [q_load] at h
  cases ha : alk L i with
  | none => rw [ha] at h; cases h
  | some v =>
    rw [ha] at h
    simp only at h
    cases ht : t v with
    | false => rw [ht] at h; cases h
    | true => rw [ht] at h; cases h; exact ⟨v, rfl, ht, rfl⟩
theorem p_iload {i : Nat} (hd : decode cc pc = .ok (.iload i, 2)) (hn : pc + 2 = n) : PSnd g cc nL pc (q_load isI i n) := by
  intro L st pc' L' st' h p l e R s m args below meth c H locs cells slots Q ls hx hb hl k
  obtain ⟨v, ha, ht, e1⟩ := q_load_ok h
  cases e1
  subst hn
  have hk := k ls hl
  rw [List.map_cons, cV_I ht] at hk
  have h1 := alk_at hl ha
  rw [cV_I ht] at h1
  exact lv_iload hx hb hd h1 hk
theorem p_iload_n {i : Nat} {f : Fin 4} (hd : decode cc pc = .ok (.iload_n f, 1)) (hf : (f : Nat) = i) (hn : pc + 1 = n) : PSnd g cc nL pc (q_load isI i n) := by
  intro L st pc' L' st' h p l e R s m args below meth c H locs cells slots Q ls hx hb hl k
  obtain ⟨v, ha, ht, e1⟩ := q_load_ok h
  cases e1
  subst hn
  have hk := k ls hl
  rw [List.map_cons, cV_I ht] at hk
  have h1 := alk_at hl ha
  rw [cV_I ht] at h1
  exact lv_iload_n hx hb hd hf h1 hk
theorem p_lload {i : Nat} (hd : decode cc pc = .ok (.lload i, 2)) (hn : pc + 2 = n) : PSnd g cc nL pc (q_load isL i n) := by
  intro L st pc' L' st' h p l e R s m args below meth c H locs cells slots Q ls hx hb hl k
  obtain ⟨v, ha, ht, e1⟩ := q_load_ok h
  cases e1
  subst hn
  have hk := k ls hl
  rw [List.map_cons, cV_L ht] at hk
  have h1 := alk_at hl ha
  rw [cV_L ht] at h1
  exact lv_lload hx hb hd h1 hk
theorem p_lload_n {i : Nat} {f : Fin 4} (hd : decode cc pc = .ok (.lload_n f, 1)) (hf : (f : Nat) = i) (hn : pc + 1 = n) : PSnd g cc nL pc (q_load isL i n) := by
  intro L st pc' L' st' h p l e R s m args below meth c H locs cells slots Q ls hx hb hl k
  obtain ⟨v, ha, ht, e1⟩ := q_load_ok h
  cases e1
  subst hn
  have hk := k ls hl
  rw [List.map_cons, cV_L ht] at hk
  have h1 := alk_at hl ha
  rw [cV_L ht] at h1
  exact lv_lload_n hx hb hd hf h1 hk
theorem p_aload {i : Nat} (hd : decode cc pc = .ok (.aload i, 2)) (hn : pc + 2 = n) : PSnd g cc nL pc (q_load isR i n) := by
  intro L st pc' L' st' h p l e R s m args below meth c H locs cells slots Q ls hx hb hl k
  obtain ⟨v, ha, ht, e1⟩ := q_load_ok h
  cases e1
  subst hn
  have hk := k ls hl
  rw [List.map_cons, cV_R ht] at hk
  have h1 := alk_at hl ha
  rw [cV_R ht] at h1
  exact lv_aload hx hb hd h1 hk
theorem p_aload_n {i : Nat} {f : Fin 4} (hd : decode cc pc = .ok (.aload_n f, 1)) (hf : (f : Nat) = i) (hn : pc + 1 = n) : PSnd g cc nL pc (q_load isR i n) := by
  intro L st pc' L' st' h p l e R s m args below meth c H locs cells slots Q ls hx hb hl k
  obtain ⟨v, ha, ht, e1⟩ := q_load_ok h
  cases e1
  subst hn
  have hk := k ls hl
  rw [List.map_cons, cV_R ht] at hk
  have h1 := alk_at hl ha
  rw [cV_R ht] at h1
  exact lv_aload_n hx hb hd hf h1 hk
def q_store (t : AV → Bool) (up : Nat → AV → LL → LL) (w i nL n : Nat) : PF := fun L st => match st with
  | [] => none
  | v :: r => match t v && Nat.blt (i + w) nL with
    | true => fzs (up i v L) (fun L' => some (n, L', r))
    | false => none
theorem q_store_ok {t : AV → Bool} {up : Nat → AV → LL → LL} {w i nL n : Nat} {L : LL} {st : List AV} {x : Nat × LL × List AV} (h : q_store t up w i nL n L st = some x) : ∃ v r, st = v :: r ∧ t v = true ∧ i + w < nL ∧ x = (n, up i v L, r) := by
  rcases st with _ | ⟨v, r⟩
  · cases h
  · simp only [q_store] at h
    cases hb : t v && Nat.blt (i + w) nL with
    | false => rw [hb] at h; cases h
    | true =>
      rw [hb] at h
      simp only [fzs_eq] at h
      cases h
      rw [Bool.and_eq_true] at hb
      exact ⟨v, r, rfl, hb.1, Nat.blt_eq.mp hb.2, rfl⟩
theorem p_istore {i : Nat} (hd : decode cc pc = .ok (.istore i, 2)) (hn : pc + 2 = n) : PSnd g cc nL pc (q_store isI up1 0 i nL n) := by
  intro L st pc' L' st' h p l e R s m args below meth c H locs cells slots Q ls hx hb hl k
  obtain ⟨v, r, rfl, ht, hi, e1⟩ := q_store_ok h
  cases e1
  subst hn
  rw [List.map_cons, cV_I ht]
  exact lv_istore hx hb hd hl hi (by rw [← cL_up1, cV_I ht]) k
theorem p_istore_n {i : Nat} {f : Fin 4} (hd : decode cc pc = .ok (.istore_n f, 1)) (hf : (f : Nat) = i) (hn : pc + 1 = n) : PSnd g cc nL pc (q_store isI up1 0 i nL n) := by
  intro L st pc' L' st' h p l e R s m args below meth c H locs cells slots Q ls hx hb hl k
  obtain ⟨v, r, rfl, ht, hi, e1⟩ := q_store_ok h
  cases e1
  subst hn
  rw [List.map_cons, cV_I ht]
  exact lv_istore_n hx hb hd hf hl hi (by rw [← cL_up1, cV_I ht]) k
theorem p_astore {i : Nat} (hd : decode cc pc = .ok (.astore i, 2)) (hn : pc + 2 = n) : PSnd g cc nL pc (q_store isR up1 0 i nL n) := by
  intro L st pc' L' st' h p l e R s m args below meth c H locs cells slots Q ls hx hb hl k
  obtain ⟨v, r, rfl, ht, hi, e1⟩ := q_store_ok h
  cases e1
  subst hn
  rw [List.map_cons, cV_R ht]
  exact lv_astore hx hb hd hl hi (by rw [← cL_up1, cV_R ht]) k
theorem p_astore_n {i : Nat} {f : Fin 4} (hd : decode cc pc = .ok (.astore_n f, 1)) (hf : (f : Nat) = i) (hn : pc + 1 = n) : PSnd g cc nL pc (q_store isR up1 0 i nL n) := by
  intro L st pc' L' st' h p l e R s m args below meth c H locs cells slots Q ls hx hb hl k
  obtain ⟨v, r, rfl, ht, hi, e1⟩ := q_store_ok h
  cases e1
  subst hn
  rw [List.map_cons, cV_R ht]
  exact lv_astore_n hx hb hd hf hl hi (by rw [← cL_up1, cV_R ht]) k
theorem p_lstore {i : Nat} (hd : decode cc pc = .ok (.lstore i, 2)) (hn : pc + 2 = n) : PSnd g cc nL pc (q_store isL up2 1 i nL n) := by
  intro L st pc' L' st' h p l e R s m args below meth c H locs cells slots Q ls hx hb hl k
  obtain ⟨v, r, rfl, ht, hi, e1⟩ := q_store_ok h
  cases e1
  subst hn
  rw [List.map_cons, cV_L ht]
  exact lv_lstore hx hb hd hl hi (by rw [← cL_up2, cV_L ht]) k
theorem p_lstore_n {i : Nat} {f : Fin 4} (hd : decode cc pc = .ok (.lstore_n f, 1)) (hf : (f : Nat) = i) (hn : pc + 1 = n) : PSnd g cc nL pc (q_store isL up2 1 i nL n) := by
  intro L st pc' L' st' h p l e R s m args below meth c H locs cells slots Q ls hx hb hl k
  obtain ⟨v, r, rfl, ht, hi, e1⟩ := q_store_ok h
  cases e1
  subst hn
  rw [List.map_cons, cV_L ht]
  exact lv_lstore_n hx hb hd hf hl hi (by rw [← cL_up2, cV_L ht]) k
def q_iinc (i : Nat) (d : Int) (nL n : Nat) : PF := fun L st => match alk L i with
  | none => none
  | some v => match iop1 (fun x => x + Int32.ofInt d) v with
    | none => none
    | some w => match Nat.blt i nL with
      | true => fzv w (fun w => fzs (up1 i w L) (fun L' => some (n, L', st)))
      | false => none
theorem p_iinc {i : Nat} {d : Int} (hd : decode cc pc = .ok (.iinc i d, 3)) (hn : pc + 3 = n) : PSnd g cc nL pc (q_iinc i d nL n) := by
  intro L st pc' L' st' h p l e R s m args below meth c H locs cells slots Q ls hx hb hl k
  simp only [q_iinc] at h
  cases ha : alk L i with
  | none => rw [ha] at h; cases h
  | some v =>
    rw [ha] at h
    simp only at h
    cases hw : iop1 (fun x => x + Int32.ofInt d) v with
    | none => rw [hw] at h; cases h
    | some w =>
      rw [hw] at h
      simp only at h
      cases hi : Nat.blt i nL with
      | false => rw [hi] at h; cases h
      | true =>
        rw [hi] at h
        simp only [fzv_eq, fzs_eq] at h
        cases h
        subst hn
        obtain ⟨h1, h2, -⟩ := iop1_ok (g := g) hw
        have hm : (i, cV g v) ∈ cL g L := List.mem_map.mpr ⟨(i, v), alk_mem ha, rfl⟩
        obtain ⟨j, hj⟩ := List.getElem?_of_mem hm
        rw [h1] at hj
        exact lv_iinc hx hb hd hl hj rfl (Nat.blt_eq.mp hi) (by rw [← cL_up1, h2]) k
-- arithmetic
def q_bin (f : AV → AV → Option AV) (n : Nat) : PF := fun L st => match st with
  | y :: x :: r => match f x y with
    | none => none
    | some v => fzv v (fun v => some (n, L, v :: r))
  | _ => none
theorem q_bin_ok {f : AV → AV → Option AV} {n : Nat} {L : LL} {st : List AV} {z : Nat × LL × List AV} (h : q_bin f n L st = some z) : ∃ x y r v, st = y :: x :: r ∧ f x y = some v ∧ z = (n, L, v :: r) := by
  rcases st with _ | ⟨y, _ | ⟨x, r⟩⟩
  · cases h
  · cases h
  · simp only [q_bin] at h
    cases hf : f x y with
    | none => rw [hf] at h; cases h
    | some v =>
      rw [hf] at h
      simp only [fzv_eq] at h
      cases h
      exact ⟨x, y, r, v, rfl, hf, rfl⟩
def q_un (f : AV → Option AV) (n : Nat) : PF := fun L st => match st with
  | x :: r => match f x with
    | none => none
    | some v => fzv v (fun v => some (n, L, v :: r))
  | _ => none
theorem q_un_ok {f : AV → Option AV} {n : Nat} {L : LL} {st : List AV} {z : Nat × LL × List AV} (h : q_un f n L st = some z) : ∃ x r v, st = x :: r ∧ f x = some v ∧ z = (n, L, v :: r) := by
  rcases st with _ | ⟨x, r⟩
  · cases h
  · simp only [q_un] at h
    cases hf : f x with
    | none => rw [hf] at h; cases h
    | some v =>
      rw [hf] at h
      simp only [fzv_eq] at h
      cases h
      exact ⟨x, r, v, rfl, hf, rfl⟩
/-- a binary instruction on ints, by its row of the kit -/
theorem p_ibin {f : Int32 → Int32 → Int32} (hn : pc + 1 = n)
    (row : ∀ (p : Program) (l : Launch) (e : Env) (R : Room) (s : State) (m : MethodId) (args : Array Value) (below : List Frame) (meth : Method) (c : Code) (H : Heap) (locs : List Loc) (cells slots : Nat) (Q : State → Prop) (ls : Array Slot) (rest : List Value) (x y : Int32), p.tables.exec = Jvm.exec → c.code = cc → W p l e R s m args below meth c H locs cells slots Q (F0 m (pc + 1) ls (.int (f x y) :: rest)) → W p l e R s m args below meth c H locs cells slots Q (F0 m pc ls (.int y :: .int x :: rest))) : PSnd g cc nL pc (q_bin (iop2 f) n) := by
  intro L st pc' L' st' h p l e R s m args below meth c H locs cells slots Q ls hx hb hl k
  obtain ⟨x, y, r, v, rfl, hf, e1⟩ := q_bin_ok h
  cases e1
  subst hn
  obtain ⟨h1, h2, h3⟩ := iop2_ok (g := g) hf
  have hk := k ls hl
  rw [List.map_cons, h3] at hk
  rw [List.map_cons, List.map_cons, h1, h2]
  exact row _ _ _ _ _ _ _ _ _ _ _ _ _ _ _ _ _ _ _ hx hb hk
theorem p_lbin {f : Int64 → Int64 → Int64} (hn : pc + 1 = n)
    (row : ∀ (p : Program) (l : Launch) (e : Env) (R : Room) (s : State) (m : MethodId) (args : Array Value) (below : List Frame) (meth : Method) (c : Code) (H : Heap) (locs : List Loc) (cells slots : Nat) (Q : State → Prop) (ls : Array Slot) (rest : List Value) (x y : Int64), p.tables.exec = Jvm.exec → c.code = cc → W p l e R s m args below meth c H locs cells slots Q (F0 m (pc + 1) ls (.long (f x y) :: rest)) → W p l e R s m args below meth c H locs cells slots Q (F0 m pc ls (.long y :: .long x :: rest))) : PSnd g cc nL pc (q_bin (lop2 f) n) := by
  intro L st pc' L' st' h p l e R s m args below meth c H locs cells slots Q ls hx hb hl k
  obtain ⟨x, y, r, v, rfl, hf, e1⟩ := q_bin_ok h
  cases e1
  subst hn
  obtain ⟨h1, h2, h3⟩ := lop2_ok (g := g) hf
  have hk := k ls hl
  rw [List.map_cons, h3] at hk
  rw [List.map_cons, List.map_cons, h1, h2]
  exact row _ _ _ _ _ _ _ _ _ _ _ _ _ _ _ _ _ _ _ hx hb hk
theorem p_iun {f : Int32 → Int32} (hn : pc + 1 = n)
    (row : ∀ (p : Program) (l : Launch) (e : Env) (R : Room) (s : State) (m : MethodId) (args : Array Value) (below : List Frame) (meth : Method) (c : Code) (H : Heap) (locs : List Loc) (cells slots : Nat) (Q : State → Prop) (ls : Array Slot) (rest : List Value) (x : Int32), p.tables.exec = Jvm.exec → c.code = cc → W p l e R s m args below meth c H locs cells slots Q (F0 m (pc + 1) ls (.int (f x) :: rest)) → W p l e R s m args below meth c H locs cells slots Q (F0 m pc ls (.int x :: rest))) : PSnd g cc nL pc (q_un (iop1 f) n) := by
  intro L st pc' L' st' h p l e R s m args below meth c H locs cells slots Q ls hx hb hl k
  obtain ⟨x, r, v, rfl, hf, e1⟩ := q_un_ok h
  cases e1
  subst hn
  obtain ⟨h1, h3, -⟩ := iop1_ok (g := g) hf
  have hk := k ls hl
  rw [List.map_cons, h3] at hk
  rw [List.map_cons, h1]
  exact row _ _ _ _ _ _ _ _ _ _ _ _ _ _ _ _ _ _ hx hb hk
def f_shl (x y : Int32) : Int32 := x <<< (y &&& 31)
def f_ushr (x y : Int32) : Int32 := (x.toUInt32 >>> (y.toUInt32 &&& Int32.toUInt32 31)).toInt32
def f_i2c (x : Int32) : Int32 := (x.toUInt32 % 65536).toInt32
theorem p_iadd (hd : decode cc pc = .ok (.iadd, 1)) (hn : pc + 1 = n) : PSnd g cc nL pc (q_bin (iop2 (fun x y => x + y)) n) := p_ibin hn fun _ _ _ _ _ _ _ _ _ _ _ _ _ _ _ _ _ _ _ hx hb k => lv_iadd hx hb hd k
theorem p_isub (hd : decode cc pc = .ok (.isub, 1)) (hn : pc + 1 = n) : PSnd g cc nL pc (q_bin (iop2 (fun x y => x - y)) n) := p_ibin hn fun _ _ _ _ _ _ _ _ _ _ _ _ _ _ _ _ _ _ _ hx hb k => lv_isub hx hb hd k
theorem p_imul (hd : decode cc pc = .ok (.imul, 1)) (hn : pc + 1 = n) : PSnd g cc nL pc (q_bin (iop2 (fun x y => x * y)) n) := p_ibin hn fun _ _ _ _ _ _ _ _ _ _ _ _ _ _ _ _ _ _ _ hx hb k => lv_imul hx hb hd k
theorem p_iand (hd : decode cc pc = .ok (.iand, 1)) (hn : pc + 1 = n) : PSnd g cc nL pc (q_bin (iop2 (fun x y => x &&& y)) n) := p_ibin hn fun _ _ _ _ _ _ _ _ _ _ _ _ _ _ _ _ _ _ _ hx hb k => lv_iand hx hb hd k
theorem p_ior (hd : decode cc pc = .ok (.ior, 1)) (hn : pc + 1 = n) : PSnd g cc nL pc (q_bin (iop2 (fun x y => x ||| y)) n) := p_ibin hn fun _ _ _ _ _ _ _ _ _ _ _ _ _ _ _ _ _ _ _ hx hb k => lv_ior hx hb hd k
theorem p_ixor (hd : decode cc pc = .ok (.ixor, 1)) (hn : pc + 1 = n) : PSnd g cc nL pc (q_bin (iop2 (fun x y => x ^^^ y)) n) := p_ibin hn fun _ _ _ _ _ _ _ _ _ _ _ _ _ _ _ _ _ _ _ hx hb k => lv_ixor hx hb hd k
theorem p_ishl (hd : decode cc pc = .ok (.ishl, 1)) (hn : pc + 1 = n) : PSnd g cc nL pc (q_bin (iop2 f_shl) n) := p_ibin hn fun _ _ _ _ _ _ _ _ _ _ _ _ _ _ _ _ _ _ _ hx hb k => lv_ishl hx hb hd k
theorem p_ishr (hd : decode cc pc = .ok (.ishr, 1)) (hn : pc + 1 = n) : PSnd g cc nL pc (q_bin shrA n) := by
  intro L st pc' L' st' h p l e R s m args below meth c H locs cells slots Q ls hx hb hl k
  obtain ⟨x, y, r, v, rfl, hf, e1⟩ := q_bin_ok h
  cases e1
  subst hn
  obtain ⟨h1, h2, h3⟩ := shrA_ok (g := g) hf
  have hk := k ls hl
  rw [List.map_cons, h3] at hk
  rw [List.map_cons, List.map_cons, h1, h2]
  exact lv_ishr hx hb hd hk
theorem p_iushr (hd : decode cc pc = .ok (.iushr, 1)) (hn : pc + 1 = n) : PSnd g cc nL pc (q_bin (iop2 f_ushr) n) := p_ibin hn fun _ _ _ _ _ _ _ _ _ _ _ _ _ _ _ _ _ _ _ hx hb k => lv_iushr hx hb hd rfl k
theorem p_ineg (hd : decode cc pc = .ok (.ineg, 1)) (hn : pc + 1 = n) : PSnd g cc nL pc (q_un (iop1 (fun x => -x)) n) := p_iun hn fun _ _ _ _ _ _ _ _ _ _ _ _ _ _ _ _ _ _ hx hb k => lv_ineg hx hb hd k
theorem p_i2b (hd : decode cc pc = .ok (.i2b, 1)) (hn : pc + 1 = n) : PSnd g cc nL pc (q_un i2bA n) := by
  intro L st pc' L' st' h p l e R s m args below meth c H locs cells slots Q ls hx hb hl k
  obtain ⟨x, r, v, rfl, hf, e1⟩ := q_un_ok h
  cases e1
  subst hn
  obtain ⟨h1, h2, -⟩ := i2bA_ok (g := g) hf
  have hk := k ls hl
  rw [List.map_cons, h2] at hk
  rw [List.map_cons, h1]
  exact lv_i2b hx hb hd rfl hk
theorem p_i2c (hd : decode cc pc = .ok (.i2c, 1)) (hn : pc + 1 = n) : PSnd g cc nL pc (q_un (iop1 f_i2c) n) := p_iun hn fun _ _ _ _ _ _ _ _ _ _ _ _ _ _ _ _ _ _ hx hb k => lv_i2c hx hb hd rfl k
theorem p_ladd (hd : decode cc pc = .ok (.ladd, 1)) (hn : pc + 1 = n) : PSnd g cc nL pc (q_bin (lop2 (fun x y => x + y)) n) := p_lbin hn fun _ _ _ _ _ _ _ _ _ _ _ _ _ _ _ _ _ _ _ hx hb k => lv_ladd hx hb hd k
theorem p_lsub (hd : decode cc pc = .ok (.lsub, 1)) (hn : pc + 1 = n) : PSnd g cc nL pc (q_bin (lop2 (fun x y => x - y)) n) := p_lbin hn fun _ _ _ _ _ _ _ _ _ _ _ _ _ _ _ _ _ _ _ hx hb k => lv_lsub hx hb hd k
theorem p_land (hd : decode cc pc = .ok (.land, 1)) (hn : pc + 1 = n) : PSnd g cc nL pc (q_bin (lop2 (fun x y => x &&& y)) n) := p_lbin hn fun _ _ _ _ _ _ _ _ _ _ _ _ _ _ _ _ _ _ _ hx hb k => lv_land hx hb hd k
theorem p_lor (hd : decode cc pc = .ok (.lor, 1)) (hn : pc + 1 = n) : PSnd g cc nL pc (q_bin (lop2 (fun x y => x ||| y)) n) := p_lbin hn fun _ _ _ _ _ _ _ _ _ _ _ _ _ _ _ _ _ _ _ hx hb k => lv_lor hx hb hd k
/-- remainder and quotient, where the divisor is known and not 0 -/
def dop (f : Int32 → Int32 → Int32) (a b : AV) : Option AV := match b with
  | .inl 0 => none
  | .inl y => match decide (nI y = 0) with
    | true => none
    | false => iop2 f a (.inl y)
  | .inr _ => none
theorem dop_ok {g : GG} {f : Int32 → Int32 → Int32} {a b r : AV} (h : dop f a b = some r) : ¬ gI g b = 0 ∧ iop2 f a b = some r := by
  rcases b with y | b
  · cases y with
    | zero => cases h
    | succ y =>
      simp only [dop] at h
      cases hd : decide (nI (y + 1) = 0) with
      | true => rw [hd] at h; cases h
      | false => rw [hd] at h; exact ⟨of_decide_eq_false hd, h⟩
  · cases h
theorem p_irem (hd : decode cc pc = .ok (.irem, 1)) (hn : pc + 1 = n) : PSnd g cc nL pc (q_bin (dop (fun x y => x - x / y * y)) n) := by
  intro L st pc' L' st' h p l e R s m args below meth c H locs cells slots Q ls hx hb hl k
  obtain ⟨x, y, r, v, rfl, hf, e1⟩ := q_bin_ok h
  cases e1
  subst hn
  obtain ⟨h0, hf⟩ := dop_ok (g := g) hf
  obtain ⟨h1, h2, h3⟩ := iop2_ok (g := g) hf
  have hk := k ls hl
  rw [List.map_cons, h3] at hk
  rw [List.map_cons, List.map_cons, h1, h2]
  exact lv_irem hx hb hd h0 hk
theorem p_idiv (hd : decode cc pc = .ok (.idiv, 1)) (hn : pc + 1 = n) : PSnd g cc nL pc (q_bin (dop (fun x y => x / y)) n) := by
  intro L st pc' L' st' h p l e R s m args below meth c H locs cells slots Q ls hx hb hl k
  obtain ⟨x, y, r, v, rfl, hf, e1⟩ := q_bin_ok h
  cases e1
  subst hn
  obtain ⟨h0, hf⟩ := dop_ok (g := g) hf
  obtain ⟨h1, h2, h3⟩ := iop2_ok (g := g) hf
  have hk := k ls hl
  rw [List.map_cons, h3] at hk
  rw [List.map_cons, List.map_cons, h1, h2]
  exact lv_idiv hx hb hd h0 hk
def f_i2l (a : AV) : Option AV := match a with
  | .inl x => some (.inr (.inl (toN64 (nI x).toInt64)))
  | .inr _ => none
theorem p_i2l (hd : decode cc pc = .ok (.i2l, 1)) (hn : pc + 1 = n) : PSnd g cc nL pc (q_un f_i2l n) := by
  intro L st pc' L' st' h p l e R s m args below meth c H locs cells slots Q ls hx hb hl k
  obtain ⟨x, r, v, rfl, hf, e1⟩ := q_un_ok h
  cases e1
  subst hn
  have hk := k ls hl
  rw [List.map_cons] at hk ⊢
  rcases x with x | b
  · cases hf
    refine lv_i2l hx hb hd rfl ?_
    have : cV g (.inr (.inl (toN64 (nI x).toInt64))) = .long (nI x).toInt64 := by show Value.long (lN (toN64 _)) = _; rw [lN_toN]
    rw [this] at hk
    exact hk
  · cases hf
def f_lshl (a b : AV) : Option AV := match a, b with
  | .inr (.inl x), .inl y => some (.inr (.inl (toN64 (lN x <<< ((nI y).toInt64 &&& 63)))))
  | _, _ => none
theorem p_lshl (hd : decode cc pc = .ok (.lshl, 1)) (hn : pc + 1 = n) : PSnd g cc nL pc (q_bin f_lshl n) := by
  intro L st pc' L' st' h p l e R s m args below meth c H locs cells slots Q ls hx hb hl k
  obtain ⟨x, y, r, v, rfl, hf, e1⟩ := q_bin_ok h
  cases e1
  subst hn
  have hk := k ls hl
  rw [List.map_cons] at hk
  rw [List.map_cons, List.map_cons]
  rcases x with x | x | x <;> rcases y with y | y <;> first | cases hf | skip
  refine lv_lshl hx hb hd rfl ?_
  have : cV g (.inr (.inl (toN64 (lN x <<< ((nI y).toInt64 &&& 63))))) = .long (lN x <<< ((nI y).toInt64 &&& 63)) := by show Value.long (lN (toN64 _)) = _; rw [lN_toN]
  rw [this] at hk
  exact hk
def f_lcmp (a b : AV) : Option AV := match isL a && isL b with
  | true => match a, b with
    | .inr (.inl x), .inr (.inl y) => some (.inl (toN (lg_cmp (lN x) (lN y))))
    | a, b => some (.inr (.inr (.int (lg_cmp (gL a) (gL b)))))
  | false => none
theorem f_lcmp_ok {a b r : AV} (h : f_lcmp a b = some r) : cV g a = .long (gL a) ∧ cV g b = .long (gL b) ∧ cV g r = .int (lg_cmp (gL a) (gL b)) := by
  simp only [f_lcmp] at h
  cases hb : isL a && isL b with
  | false => rw [hb] at h; cases h
  | true =>
    rw [hb] at h
    rw [Bool.and_eq_true] at hb
    refine ⟨cV_L hb.1, cV_L hb.2, ?_⟩
    rcases a with x | x | x <;> rcases b with y | y | y <;> first | (cases h; rfl) | skip
    cases h
    show Value.int (nI (toN _)) = _
    rw [nI_toN]
    rfl
theorem p_lcmp (hd : decode cc pc = .ok (.lcmp, 1)) (hn : pc + 1 = n) : PSnd g cc nL pc (q_bin f_lcmp n) := by
  intro L st pc' L' st' h p l e R s m args below meth c H locs cells slots Q ls hx hb hl k
  obtain ⟨x, y, r, v, rfl, hf, e1⟩ := q_bin_ok h
  cases e1
  subst hn
  obtain ⟨h1, h2, h3⟩ := f_lcmp_ok (g := g) hf
  have hk := k ls hl
  rw [List.map_cons, h3] at hk
  rw [List.map_cons, List.map_cons, h1, h2]
  exact W.lcmp hx hb hd hk
-- the stack
def q_dup (n : Nat) : PF := fun L st => match st with
  | a :: r => match Nat.beq (ct a) 1 with
    | true => some (n, L, a :: a :: r)
    | false => none
  | _ => none
theorem p_dup (hd : decode cc pc = .ok (.dup, 1)) (hn : pc + 1 = n) : PSnd g cc nL pc (q_dup n) := by
  intro L st pc' L' st' h p l e R s m args below meth c H locs cells slots Q ls hx hb hl k
  rcases st with _ | ⟨a, r⟩
  · cases h
  · simp only [q_dup] at h
    cases hc : Nat.beq (ct a) 1 with
    | false => rw [hc] at h; cases h
    | true =>
      rw [hc] at h
      cases h
      subst hn
      exact lv_dup hx hb hd (by rw [cV_cat]; exact Nat.eq_of_beq_eq_true hc) (k ls hl)
def q_pop (n : Nat) : PF := fun L st => match st with
  | a :: r => match Nat.beq (ct a) 1 with
    | true => some (n, L, r)
    | false => none
  | _ => none
theorem p_pop (hd : decode cc pc = .ok (.pop, 1)) (hn : pc + 1 = n) : PSnd g cc nL pc (q_pop n) := by
  intro L st pc' L' st' h p l e R s m args below meth c H locs cells slots Q ls hx hb hl k
  rcases st with _ | ⟨a, r⟩
  · cases h
  · simp only [q_pop] at h
    cases hc : Nat.beq (ct a) 1 with
    | false => rw [hc] at h; cases h
    | true =>
      rw [hc] at h
      cases h
      subst hn
      exact lv_pop hx hb hd (by rw [cV_cat]; exact Nat.eq_of_beq_eq_true hc) (k ls hl)
def q_dupx1 (n : Nat) : PF := fun L st => match st with
  | a :: b :: r => match Nat.beq (ct a) 1 && Nat.beq (ct b) 1 with
    | true => some (n, L, a :: b :: a :: r)
    | false => none
  | _ => none
theorem p_dupx1 (hd : decode cc pc = .ok (.dup_x1, 1)) (hn : pc + 1 = n) : PSnd g cc nL pc (q_dupx1 n) := by
  intro L st pc' L' st' h p l e R s m args below meth c H locs cells slots Q ls hx hb hl k
  rcases st with _ | ⟨a, _ | ⟨b, r⟩⟩
  · cases h
  · cases h
  · simp only [q_dupx1] at h
    cases hc : Nat.beq (ct a) 1 && Nat.beq (ct b) 1 with
    | false => rw [hc] at h; cases h
    | true =>
      rw [hc] at h
      cases h
      subst hn
      rw [Bool.and_eq_true] at hc
      exact lv_dup_x1 hx hb hd (by rw [cV_cat]; exact Nat.eq_of_beq_eq_true hc.1) (by rw [cV_cat]; exact Nat.eq_of_beq_eq_true hc.2) (k ls hl)
def q_dup2 (n : Nat) : PF := fun L st => match st with
  | a :: b :: r => match Nat.beq (ct a) 1 && Nat.beq (ct b) 1 with
    | true => some (n, L, a :: b :: a :: b :: r)
    | false => none
  | _ => none
theorem p_dup2 (hd : decode cc pc = .ok (.dup2, 1)) (hn : pc + 1 = n) : PSnd g cc nL pc (q_dup2 n) := by
  intro L st pc' L' st' h p l e R s m args below meth c H locs cells slots Q ls hx hb hl k
  rcases st with _ | ⟨a, _ | ⟨b, r⟩⟩
  · cases h
  · cases h
  · simp only [q_dup2] at h
    cases hc : Nat.beq (ct a) 1 && Nat.beq (ct b) 1 with
    | false => rw [hc] at h; cases h
    | true =>
      rw [hc] at h
      cases h
      subst hn
      rw [Bool.and_eq_true] at hc
      exact lv_dup2_11 hx hb hd (by rw [cV_cat]; exact Nat.eq_of_beq_eq_true hc.1) (by rw [cV_cat]; exact Nat.eq_of_beq_eq_true hc.2) (k ls hl)
def q_goto (t : Nat) : PF := fun L st => some (t, L, st)
theorem p_goto {off : Int} {t : Nat} (hd : decode cc pc = .ok (.goto off, 3)) (ht : (pc : Int) + off = (t : Int)) : PSnd g cc nL pc (q_goto t) := by
  intro L st pc' L' st' h p l e R s m args below meth c H locs cells slots Q ls hx hb hl k
  cases h
  exact lv_goto hx hb hd ht (k ls hl)
def q_null (ifN ifR : Nat) : PF := fun L st => match st with
  | .inr (.inr .null) :: r => some (ifN, L, r)
  | a :: r => match isR a with
    | true => some (ifR, L, r)
    | false => none
  | _ => none
theorem p_ifnull {off : Int} {t : Nat} (hd : decode cc pc = .ok (.ifnull off, 3)) (ht : (pc : Int) + off = (t : Int)) (hn : pc + 3 = n) : PSnd g cc nL pc (q_null t n) := by
  intro L st pc' L' st' h p l e R s m args below meth c H locs cells slots Q ls hx hb hl k
  subst hn
  have key : ∀ (a : AV) (r : List AV), isR a = true → W p l e R s m args below meth c H locs cells slots Q (F0 m (pc + 3) ls (r.map (cV g))) → W p l e R s m args below meth c H locs cells slots Q (F0 m pc ls ((a :: r).map (cV g))) := fun a r hr hk => by
    rw [List.map_cons, cV_R hr]
    exact lv_ifnull hx hb hd hk
  rcases st with _ | ⟨a, r⟩
  · cases h
  · rcases a with a | a | v
    · cases h
    · cases h
    · cases v <;> cases h
      · exact key _ _ rfl (k ls hl)
      · exact lv_ifnullN hx hb hd ht (k ls hl)
      · exact key _ _ rfl (k ls hl)
theorem p_ifnonnull {off : Int} {t : Nat} (hd : decode cc pc = .ok (.ifnonnull off, 3)) (ht : (pc : Int) + off = (t : Int)) (hn : pc + 3 = n) : PSnd g cc nL pc (q_null n t) := by
  intro L st pc' L' st' h p l e R s m args below meth c H locs cells slots Q ls hx hb hl k
  subst hn
  have key : ∀ (a : AV) (r : List AV), isR a = true → W p l e R s m args below meth c H locs cells slots Q (F0 m t ls (r.map (cV g))) → W p l e R s m args below meth c H locs cells slots Q (F0 m pc ls ((a :: r).map (cV g))) := fun a r hr hk => by
    rw [List.map_cons, cV_R hr]
    exact lv_ifnonnull hx hb hd ht hk
  rcases st with _ | ⟨a, r⟩
  · cases h
  · rcases a with a | a | v
    · cases h
    · cases h
    · cases v <;> cases h
      · exact key _ _ rfl (k ls hl)
      · exact lv_ifnonnullN hx hb hd (k ls hl)
      · exact key _ _ rfl (k ls hl)
-- switches on a known int
def q_table (lo hi : Int) (d : Nat) (ts : List Nat) : PF := fun L st => match st with
  | .inl x :: r => match decide ((nI x).toInt < lo) || decide (hi < (nI x).toInt) with
    | true => some (d, L, r)
    | false => match ts[((nI x).toInt - lo).toNat]? with
      | some t => fz t (fun t => some (t, L, r))
      | none => none
  | _ => none
theorem p_table {lo hi dflt : Int} {offs : Array Int} {len d : Nat} {ts : List Nat} (hd : decode cc pc = .ok (.tableswitch dflt lo hi offs, len)) (hdf : (pc : Int) + dflt = (d : Int)) (hts : offs.toList.map (fun o => (pc : Int) + o) = ts.map (fun t : Nat => (t : Int))) : PSnd g cc nL pc (q_table lo hi d ts) := by
  intro L st pc' L' st' h p l e R s m args below meth c H locs cells slots Q ls hx hb hl k
  rcases st with _ | ⟨a, r⟩
  · cases h
  rcases a with x | a
  · simp only [q_table] at h
    cases hb1 : decide ((nI x).toInt < lo) || decide (hi < (nI x).toInt) with
    | true =>
      rw [hb1] at h
      cases h
      rw [Bool.or_eq_true, decide_eq_true_eq, decide_eq_true_eq] at hb1
      exact lv_tableOut (x := nI x) hx hb hd hb1 hdf (k ls hl)
    | false =>
      rw [hb1] at h
      simp only at h
      rw [Bool.or_eq_false_iff, decide_eq_false_iff_not, decide_eq_false_iff_not] at hb1
      cases ht : ts[((nI x).toInt - lo).toNat]? with
      | none => rw [ht] at h; cases h
      | some t =>
        rw [ht] at h
        simp only [fz_eq] at h
        cases h
        have h1 : (offs.toList.map (fun o => (pc : Int) + o))[((nI x).toInt - lo).toNat]? = some (pc' : Int) := by rw [hts, List.getElem?_map, ht]; rfl
        rw [List.getElem?_map] at h1
        cases ho : offs.toList[((nI x).toInt - lo).toNat]? with
        | none => rw [ho] at h1; cases h1
        | some o =>
          rw [ho] at h1
          have h2 : (pc : Int) + o = (pc' : Int) := Option.some.inj h1
          exact lv_tableIn (x := nI x) hx hb hd hb1.1 hb1.2 (by rw [← Array.getElem?_toList]; exact ho) h2 (k ls hl)
  · cases h
def q_look (d : Nat) (ps : List (Int × Nat)) : PF := fun L st => match st with
  | .inl x :: r => match ps.find? (fun q => decide (q.1 = (nI x).toInt)) with
    | some q => fz q.2 (fun t => some (t, L, r))
    | none => some (d, L, r)
  | _ => none
theorem off_find (ps : List (Int × Int)) (d x : Int) : Op.lookupswitch.offset ps d x = match ps.find? (fun q => decide (q.1 = x)) with | some q => q.2 | none => d := by
  induction ps with
  | nil => rfl
  | cons q t ih =>
    obtain ⟨a, o⟩ := q
    rw [Op.lookupswitch.offset_cons, List.find?_cons]
    by_cases h : a = x
    · subst h
      simp
    · rw [if_neg h, ih]
      simp [h]
theorem p_look {dflt : Int} {pr : Array (Int × Int)} {len d : Nat} {ps : List (Int × Nat)} (hd : decode cc pc = .ok (.lookupswitch dflt pr, len)) (hp : (pr.toList.zip (pr.toList.drop 1)).all (fun (a, next) => a.1 < next.1) = true) (hdf : (pc : Int) + dflt = (d : Int)) (hps : pr.toList.map (fun o => (o.1, (pc : Int) + o.2)) = ps.map (fun t : Int × Nat => (t.1, (t.2 : Int)))) : PSnd g cc nL pc (q_look d ps) := by
  intro L st pc' L' st' h p l e R s m args below meth c H locs cells slots Q ls hx hb hl k
  rcases st with _ | ⟨a, r⟩
  · cases h
  rcases a with x | a
  · simp only [q_look] at h
    have hg : (pc : Int) + Op.lookupswitch.offset pr.toList dflt (nI x).toInt = match ps.find? (fun q => decide (q.1 = (nI x).toInt)) with | some q => (q.2 : Int) | none => (d : Int) := by
      rw [off_find]
      generalize (nI x).toInt = z
      generalize pr.toList = pl at hps
      clear hp hd h
      induction pl generalizing ps with
      | nil =>
        cases ps with
        | nil => exact hdf
        | cons a b => cases hps
      | cons q t ih =>
        cases ps with
        | nil => cases hps
        | cons a b =>
          rw [List.map_cons, List.map_cons] at hps
          have e1 := (List.cons.inj hps).1
          have e2 := (List.cons.inj hps).2
          have e3 : q.1 = a.1 := congrArg Prod.fst e1
          have e4 : (pc : Int) + q.2 = (a.2 : Int) := congrArg Prod.snd e1
          rw [List.find?_cons, List.find?_cons, e3]
          cases hz : decide (a.1 = z) with
          | true => exact e4
          | false => exact ih e2
    cases hf : ps.find? (fun q => decide (q.1 = (nI x).toInt)) with
    | none =>
      rw [hf] at h hg
      cases h
      exact lv_lookup (x := nI x) hx hb hd hp rfl hg (k ls hl)
    | some q =>
      rw [hf] at h hg
      simp only [fz_eq] at h
      cases h
      exact lv_lookup (x := nI x) hx hb hd hp rfl hg (k ls hl)
  · cases h
end PU
