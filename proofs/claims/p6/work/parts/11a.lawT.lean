/-! The law's walk: the script's ints are what they are. -/
/-- what the law owes: from x, with at most K cells and Z slots in all, it comes to Qf -/
def TL (l : Launch) (E : ME) (g : GG) (HB : Heap) (K Z : Nat) (Qf : List Frame → Array Value → State → State → Prop) (x : Cfg) : Prop :=
  (x.2.2.2.2.1 ≤ K ∧ x.2.2.2.2.2 ≤ Z) ∧ ∀ (p : Program) (e : Env) (R : Room) (s : State) (m : MethodId) (args : Array Value) (below : List Frame) (meth : Method) (c : Code) (H : Heap) (locs : List Loc) (ls : Array Slot),
    Cx g HB p s m args meth c E → TX g HB s → E.2.2.2.2.2.1 ≤ R.frames → E.2.2.2.2.2.2 ≤ R.locals → K ≤ R.cells → Z ≤ R.slots → Rep g HB x.2.2.2.1 H locs → lv_has ls E.2.1 (dL g x.2.1) →
      W p l e R s m args below meth c H locs x.2.2.2.2.1 x.2.2.2.2.2 (Qf below args s) (F0 m x.1 ls (x.2.2.1.map (dv g)))
section TLS
variable {l : Launch} {E : ME} {g : GG} {HB : Heap} {K Z : Nat} {Qf : List Frame → Array Value → State → State → Prop} {pc : Nat} {L : LL} {st : List V} {h : Hp} {k z : Nat}
theorem TL.gn : Gn l E (TL l E g HB K Z Qf) := fun x y hs w => ⟨⟨Nat.le_trans hs.1.1 w.1.1, Nat.le_trans hs.1.2 w.1.2⟩, fun p e R s m args below meth c H locs ls hC hT hf hlo hk hz hR hl =>
  hs.2 g HB p e R s m args below meth c _ H locs ls hC hf hlo (Nat.le_trans w.1.1 hk) (Nat.le_trans w.1.2 hz) hR hl fun H' locs' ls' hR' hl' => w.2 p e R s m args below meth c H' locs' ls' hC hT hf hlo hk hz hR' hl'⟩
/-- the script's int at place j -/
def sv (g : GG) (j : Nat) : Int := (Int32.ofNat (g.2.1 (2000 + j))).toInt
theorem sv_i32 (g : GG) (j : Nat) : I32 (sv g j) := i32_toInt _
theorem dv_sv (g : GG) (j : Nat) : dv g (.inl (sv g j)) = .int (Int32.ofNat (g.2.1 (2000 + j))) := by
  show Value.int (Int32.ofInt (sv g j)) = _
  unfold sv
  rw [Int32.ofInt_toInt]
/-- an int of the script is loaded -/
theorem tl_sld {i : Int} {L0 : Nat} (hL : g.2.1 91 = L0) (hn : L0 ≤ 400) (hi : 0 ≤ i ∧ i < L0) (hd : decode E.1 pc = .ok (.iaload, 1)) (k0 : TL l E g HB K Z Qf (pc + 1, L, .inl (sv g i.toNat) :: st, h, k, z)) : TL l E g HB K Z Qf (pc, L, .inl i :: .inr (.inr 1000090) :: st, h, k, z) := by
  refine ⟨k0.1, fun p e R s m args below meth c H locs ls hC hT hf hlo hk hz hR hl => ?_⟩
  have kk := k0.2 p e R s m args below meth c H locs ls hC hT hf hlo hk hz hR hl
  have kk : W p l e R s m args below meth c H locs k z (Qf below args s) (F0 m (pc + 1) ls (dv g (.inl (sv g i.toNat)) :: st.map (dv g))) := kk
  rw [dv_sv] at kk
  show W p l e R s m args below meth c H locs k z (Qf below args s) (F0 m pc ls (.int (Int32.ofInt i) :: rv g (1000000 + 90) :: st.map (dv g)))
  rw [rv_out]
  obtain ⟨⟨hx, hb, hml, hown, hts⟩, hA, -⟩ := hC
  obtain ⟨cell, c1, c2, c3, c4, c5, c6, c7⟩ := hA.2.2.2.2.2.2.2.1
  have c7 : ¬ g.1 + 1 ≤ g.2.1 90 := c7
  have hin := in_of (i := i) (n := L0) hi (by omega)
  rw [hL] at c4 c6
  exact W.iald (j := Int32.ofInt i) hx hb (by rw [hR.2.1 _ (by omega)]; exact c1) c2 c3 (by
    rintro (q | q)
    · exact hin.2 q
    · rw [hin.1] at q; omega) (by rw [hin.1]; exact c6 _ (by omega)) rfl rfl hd kk
/-- the script's length -/
theorem tl_slen {L0 : Nat} (hL : g.2.1 91 = L0) (hd : decode E.1 pc = .ok (.arraylength, 1)) (k0 : TL l E g HB K Z Qf (pc + 1, L, .inl (L0 : Int) :: st, h, k, z)) : TL l E g HB K Z Qf (pc, L, .inr (.inr 1000090) :: st, h, k, z) := by
  refine ⟨k0.1, fun p e R s m args below meth c H locs ls hC hT hf hlo hk hz hR hl => ?_⟩
  have kk := k0.2 p e R s m args below meth c H locs ls hC hT hf hlo hk hz hR hl
  have kk : W p l e R s m args below meth c H locs k z (Qf below args s) (F0 m (pc + 1) ls (.int (Int32.ofInt (L0 : Int)) :: st.map (dv g))) := kk
  show W p l e R s m args below meth c H locs k z (Qf below args s) (F0 m pc ls (rv g (1000000 + 90) :: st.map (dv g)))
  rw [rv_out]
  obtain ⟨⟨hx, hb, hml, hown, hts⟩, hA, -⟩ := hC
  obtain ⟨cell, c1, c2, c3, c4, c5, c6, c7⟩ := hA.2.2.2.2.2.2.2.1
  have c7 : ¬ g.1 + 1 ≤ g.2.1 90 := c7
  rw [hL] at c5
  exact W.alen hx hb (by rw [hR.2.1 _ (by omega)]; exact c1) c2 c5 rfl rfl hd kk
/-- a helper is called: it comes back with some int -/
theorem tl_hlp {y : MethodName} {cy : ByteArray} {ml np idx fr lo : Nat} {hh : List (Nat × Nat × Nat × Nat)} {av r : List V} {H2 : Hp} {mc ms : Nat} (hE : EvH l y cy ml hh fr lo av h H2 mc ms) (hcw : Cond.codeWith y cy ml (some .int) hh ∈ wsG) (hd0 : y.cls ≠ "java/lang/invoke/MethodHandle" ∧ y.cls ≠ "java/lang/invoke/VarHandle" ∧ (parseMethodDescriptor y.desc).map (fun d => d.parameters.length) = some np)
    (h1 : Cond.methodLink E.2.2.1 idx y ∈ wsG) (h2 : Cond.static y ∈ wsG) (h3 : Cond.initialized y.cls ∈ wsG) (hd : decode E.1 pc = .ok (.invokestatic idx, 3)) (hp : popN np st [] = some (av, r)) (hf9 : fr + 1 ≤ E.2.2.2.2.2.1) (hl9 : lo + (ml + 19) ≤ E.2.2.2.2.2.2) (h8 : slen r ≤ 8) (hK : k + mc ≤ K) (hZ : z + ms ≤ Z)
    (k0 : ∀ n : Int, I32 n → TL l E g HB K Z Qf (pc + 3, L, .inl n :: r, H2, k + mc, z + ms)) : TL l E g HB K Z Qf (pc, L, st, h, k, z) := by
  refine ⟨⟨Nat.le_trans (Nat.le_add_right _ _) hK, Nat.le_trans (Nat.le_add_right _ _) hZ⟩, fun p e R s m args below meth c H locs ls hC hT hf hlo hk hz hR hl => ?_⟩
  obtain ⟨⟨hx, hb, hml, hown, hts⟩, hA, -⟩ := id hC
  obtain ⟨hst, hln⟩ := popN_st (g := g) hp
  have hG : GoodIn wsG (va_wsS E.2.2.1 idx y (mdWH y cy ml hh)) := fun w hw => by
    unfold va_wsS at hw
    rcases List.mem_append.mp hw with hw | hw
    · simp only [List.mem_cons, List.not_mem_nil, or_false] at hw
      rcases hw with rfl | rfl | rfl
      · exact wsG_good _ h1
      · exact wsG_good _ h2
      · exact wsG_good _ h3
    · rcases List.mem_cons.mp hw with rfl | hw
      · exact wsG_good _ hcw
      · exact wsG_good _ hw
  have cw := vx_cwSW (R := R) (mc := mc) (ms := ms) (maxL := ml) (ret := some .int) (bytes := cy) (hh := hh) (ws' := wsG) (rm := { frames := fr, cells := mc, slots := ms, locals := lo }) np hts hG rfl rfl rfl hd0 ⟨by show fr + 1 ≤ R.frames; omega, by show 8 + (ml + 11) + lo ≤ R.locals; omega⟩
  have hrun := vx_runSW (l := l) (p := p) (e := e) (below := below) (meth := meth) (locs := locs) (cells := k) (slots := z) (g := F0 m pc ls (st.map (dv g))) (As := av.map (dv g)) (rest := r.map (dv g)) ⟨hx, hb, hml, hown, hts⟩ (hE g HB) cw ⟨PT_.blind _ _ _ _, fun U hU hW => ⟨pre_of hA hR U hU hW, hT.warm hW⟩⟩ rfl hln hl.1 hst (room8 g h8) hd ⟨by omega, by omega⟩
  intro T hT0 X
  obtain ⟨v, st₀, t, T2, L2, h0, X2, hL2, e1, e2, ⟨⟨n, hv⟩, hR2⟩, stp⟩ := hrun T hT0 X
  cases hv
  have kk := (k0 n.toInt (i32_toInt _)).2 p e R s m args below meth c T2.heap (locs ++ L2) ls hC hT hf hlo hk hz (by
    rw [e1]
    exact ⟨hR2.1, hR2.2.1, hR2.2.2.1, hR2.2.2.2.1, fun q hq => by
      rcases List.mem_append.mp hq with h | h
      · exact hR.2.2.2.2 q h
      · exact hL2 q h⟩) hl
  have kk : W p l e R s m args below meth c T2.heap (locs ++ L2) (k + mc) (z + ms) (Qf below args s) (F0 m (pc + 3) ls (.int (Int32.ofInt n.toInt) :: r.map (dv g))) := kk
  rw [Int32.ofInt_toInt] at kk
  obtain ⟨t2, a1, b1⟩ := kk T2 rfl X2
  exact ⟨t2, stp t2 a1, b1⟩
end TLS
