/-! A helper is called in the law: what it answers is known. -/
section TLX
variable {l : Launch} {E : ME} {g : GG} {HB : Heap} {K Z : Nat} {Qf : List Frame → Array Value → State → State → Prop} {pc : Nat} {L : LL} {st : List V} {h : Hp} {k z : Nat}
theorem tl_hlpx {y : MethodName} {cy : ByteArray} {ml np idx fr lo : Nat} {hh : List (Nat × Nat × Nat × Nat)} {av r : List V} {H2 : Hp} {mc ms : Nat} {n0 : Int} (hE : EvE l y cy ml hh fr lo av h n0 H2 mc ms) (hcw : Cond.codeWith y cy ml (some .int) hh ∈ wsG) (hd0 : y.cls ≠ "java/lang/invoke/MethodHandle" ∧ y.cls ≠ "java/lang/invoke/VarHandle" ∧ (parseMethodDescriptor y.desc).map (fun d => d.parameters.length) = some np)
    (h1 : Cond.methodLink E.2.2.1 idx y ∈ wsG) (h2 : Cond.static y ∈ wsG) (h3 : Cond.initialized y.cls ∈ wsG) (hd : decode E.1 pc = .ok (.invokestatic idx, 3)) (hp : popN np st [] = some (av, r)) (hf9 : fr + 1 ≤ E.2.2.2.2.2.1) (hl9 : lo + (ml + 19) ≤ E.2.2.2.2.2.2) (h8 : slen r ≤ 8) (hK : k + mc ≤ K) (hZ : z + ms ≤ Z)
    (k0 : TL l E g HB K Z Qf (pc + 3, L, .inl n0 :: r, H2, k + mc, z + ms)) : TL l E g HB K Z Qf (pc, L, st, h, k, z) := by
  refine ⟨⟨Nat.le_trans (Nat.le_add_right _ _) hK, Nat.le_trans (Nat.le_add_right _ _) hZ⟩, fun p e R s m args below meth c H locs ls hC hT hf hlo hk hz hR hl => ?_⟩
  obtain ⟨⟨hx, hb, hml, hown, hts⟩, hA, -⟩ := id hC
  obtain ⟨hst, hln⟩ := popN_st (g := g) hp
  have hG : GoodIn wsG (va_wsS E.2.2.1 idx y (mdWH y cy ml hh)) := fun w hw => by
    unfold va_wsS at hw
    rcases List.mem_append.mp hw with hw | hw
    · simp only [List.mem_cons, List.not_mem_nil, or_false] at hw
      rcases hw with rfl | rfl | rfl
      · exact wsG_good _ h1
      · exact wsG_good _ h2
      · exact wsG_good _ h3
    · rcases List.mem_cons.mp hw with rfl | hw
      · exact wsG_good _ hcw
      · exact wsG_good _ hw
  have cw := vx_cwSW (R := R) (mc := mc) (ms := ms) (maxL := ml) (ret := some .int) (bytes := cy) (hh := hh) (ws' := wsG) (rm := { frames := fr, cells := mc, slots := ms, locals := lo }) np hts hG rfl rfl rfl hd0 ⟨by show fr + 1 ≤ R.frames; omega, by show 8 + (ml + 11) + lo ≤ R.locals; omega⟩
  have hrun := vx_runSW (l := l) (p := p) (e := e) (below := below) (meth := meth) (locs := locs) (cells := k) (slots := z) (g := F0 m pc ls (st.map (dv g))) (As := av.map (dv g)) (rest := r.map (dv g)) ⟨hx, hb, hml, hown, hts⟩ (hE g HB) cw ⟨PT_.blind _ _ _ _, fun U hU hW => ⟨pre_of hA hR U hU hW, hT.warm hW⟩⟩ rfl hln hl.1 hst (room8 g h8) hd ⟨by omega, by omega⟩
  intro T hT0 X
  obtain ⟨v, st₀, t, T2, L2, h0, X2, hL2, e1, e2, ⟨hv, hR2⟩, stp⟩ := hrun T hT0 X
  cases hv
  have kk := k0.2 p e R s m args below meth c T2.heap (locs ++ L2) ls hC hT hf hlo hk hz (by
    rw [e1]
    exact ⟨hR2.1, hR2.2.1, hR2.2.2.1, hR2.2.2.2.1, fun q hq => by
      rcases List.mem_append.mp hq with h | h
      · exact hR.2.2.2.2 q h
      · exact hL2 q h⟩) hl
  have kk : W p l e R s m args below meth c T2.heap (locs ++ L2) (k + mc) (z + ms) (Qf below args s) (F0 m (pc + 3) ls (.int (Int32.ofInt n0) :: r.map (dv g))) := kk
  obtain ⟨t2, a1, b1⟩ := kk T2 rfl X2
  exact ⟨t2, stp t2 a1, b1⟩
end TLX
