/-! The law's loop, by program. -/
theorem WI.room {n k z mc ms : Nat} {h H : Hp} (w : WI n k z h) (hn : n ≤ 63) (e : ENL h H mc ms 1420 5880 1520) : k + mc ≤ 600128 ∧ z + ms ≤ 7301098 := by
  obtain ⟨-, ⟨b1, b2, b3, b4, b5, b6⟩, -⟩ := w
  obtain ⟨e1, ⟨e2, e3, e4, e5⟩, e6, e7, e8⟩ := e
  have hb := e1.bound
  exact ⟨by omega, by omega⟩
theorem WI.fit {n k z : Nat} {h : Hp} (w : WI n k z h) (hn : n ≤ 64) : k ≤ 600128 ∧ z ≤ 7301098 ∧ WT h ≤ 9000000 ∧ ET h ≤ 3000000 ∧ h.1 ≤ 800000 := by
  obtain ⟨-, ⟨b1, b2, b3, b4, b5, b6⟩, -⟩ := w
  have hb := b1.bound
  exact ⟨by omega, by omega, by omega, by omega, by omega⟩
theorem WI.skip {n k z : Nat} {h : Hp} (w : WI n k z h) : WI (n + 1) k z h := w.s0 (mc := 0) (ms := 0) w.1 (Fr.rf [] h) (w.enl (Fr.rf [] h) rfl) rfl rfl w.1 (Fr.rf [] h) rfl w.2.2.1.1
section LOOP
variable {l : Launch} {g : GG} {HB : Heap} {Qf : List Frame → Array Value → State → State → Prop}
/-- the law's locals at the head of the loop, behind n calls -/
def LLo (n : Nat) : LL := [(0, .inr (.inr 1000090)), (1, .inr (.inr 1)), (2, .inr (.inr 60)), (3, .inr (.inr 105)), (4, .inl (6 * (n : Int)))]
abbrev TW (l : Launch) (g : GG) (HB : Heap) (Qf : List Frame → Array Value → State → State → Prop) : Cfg → Prop := TLn l E_L_law g HB 600128 7301098 Qf
set_option maxRecDepth 100000 in
theorem way_feed (hst0 : l.stackTraces = false) {L0 : Nat} (hL : g.2.1 91 = L0) (hL4 : L0 ≤ 384) {n k z : Nat} {h : Hp} (w : WI n k z h) (te : TE h) (hn : 6 * n + 6 ≤ L0) (nxt : ∀ (H : Hp) (k' z' : Nat), WI (n + 1) k' z' H → TE H → TW l g HB Qf (551, LLo n, [], H, k', z')) : TW l g HB Qf (108, LLo n, [], h, k, z) := by
  have hI := w.1
  have t1 := hI.atS (a := 1) rfl
  have r0 := w.2.2.1
  have ht0 := w.2.2.2.2
  have ft := w.fit (by omega)
  refine tg_aload_np TLn.gn (dat dk_L_law 25 rfl) (by decide) rfl ?_
  refine tg_aload_np TLn.gn (dat dk_L_law 26 rfl) (by decide) rfl ?_
  refine tg_iload TLn.gn (dat dk_L_law 27 rfl) rfl ?_
  refine tg_iconst TLn.gn (dat dk_L_law 28 rfl) ?_
  refine tg_iadd TLn.gn (dat dk_L_law 29 rfl) ?_
  refine tln_sld hL (by omega) (by omega) (dat dk_L_law 30 rfl) ?_
  refine tg_aload_np TLn.gn (dat dk_L_law 31 rfl) (by decide) rfl ?_
  refine tg_iload TLn.gn (dat dk_L_law 32 rfl) rfl ?_
  refine tg_iconst TLn.gn (dat dk_L_law 33 rfl) ?_
  refine tg_iadd TLn.gn (dat dk_L_law 34 rfl) ?_
  refine tln_sld hL (by omega) (by omega) (dat dk_L_law 35 rfl) ?_
  refine tg_aload_np TLn.gn (dat dk_L_law 36 rfl) (by decide) rfl ?_
  refine tg_iload TLn.gn (dat dk_L_law 37 rfl) rfl ?_
  refine tg_iconst TLn.gn (dat dk_L_law 38 rfl) ?_
  refine tg_iadd TLn.gn (dat dk_L_law 39 rfl) ?_
  refine tln_sld hL (by omega) (by omega) (dat dk_L_law 40 rfl) ?_
  refine tg_aload_np TLn.gn (dat dk_L_law 41 rfl) (by decide) rfl ?_
  refine tg_iload TLn.gn (dat dk_L_law 42 rfl) rfl ?_
  refine tg_iconst TLn.gn (dat dk_L_law 43 rfl) ?_
  refine tg_iadd TLn.gn (dat dk_L_law 44 rfl) ?_
  refine tln_sld hL (by omega) (by omega) (dat dk_L_law 45 rfl) ?_
  refine tg_aload_np TLn.gn (dat dk_L_law 46 rfl) (by decide) rfl ?_
  refine tg_iload TLn.gn (dat dk_L_law 47 rfl) rfl ?_
  refine tg_iconst TLn.gn (dat dk_L_law 48 rfl) ?_
  refine tg_iadd TLn.gn (dat dk_L_law 49 rfl) ?_
  refine tln_sld hL (by omega) (by omega) (dat dk_L_law 50 rfl) ?_
  refine tg_cV TLn.gn ca_c12_34 (dat dk_L_law 51 rfl) (ct_X11_feed_vx l h hI _ (sv_i32 _ _) _ (sv_i32 _ _) _ (sv_i32 _ _) _ (sv_i32 _ _) _ (sv_i32 _ _) ) rfl ⟨_, _, rfl, t1⟩ rfl (fun H1 p1 => ?_)
  obtain ⟨i1, f1, u1, u2⟩ := p1
  have r1 := r0.x hI f1 rfl
  refine tg_aload_np TLn.gn (dat dk_L_law 52 rfl) (by decide) rfl ?_
  refine tg_aload_np TLn.gn (dat dk_L_law 53 rfl) (by decide) rfl ?_
  refine tg_iload TLn.gn (dat dk_L_law 54 rfl) rfl ?_
  refine tg_iconst TLn.gn (dat dk_L_law 55 rfl) ?_
  refine tg_iadd TLn.gn (dat dk_L_law 56 rfl) ?_
  refine tln_sld hL (by omega) (by omega) (dat dk_L_law 57 rfl) ?_
  refine tg_aload_np TLn.gn (dat dk_L_law 58 rfl) (by decide) rfl ?_
  refine tg_iload TLn.gn (dat dk_L_law 59 rfl) rfl ?_
  refine tg_iconst TLn.gn (dat dk_L_law 60 rfl) ?_
  refine tg_iadd TLn.gn (dat dk_L_law 61 rfl) ?_
  refine tln_sld hL (by omega) (by omega) (dat dk_L_law 62 rfl) ?_
  refine tg_aload_np TLn.gn (dat dk_L_law 63 rfl) (by decide) rfl ?_
  refine tg_iload TLn.gn (dat dk_L_law 64 rfl) rfl ?_
  refine tg_iconst TLn.gn (dat dk_L_law 65 rfl) ?_
  refine tg_iadd TLn.gn (dat dk_L_law 66 rfl) ?_
  refine tln_sld hL (by omega) (by omega) (dat dk_L_law 67 rfl) ?_
  refine tg_aload_np TLn.gn (dat dk_L_law 68 rfl) (by decide) rfl ?_
  refine tg_iload TLn.gn (dat dk_L_law 69 rfl) rfl ?_
  refine tg_iconst TLn.gn (dat dk_L_law 70 rfl) ?_
  refine tg_iadd TLn.gn (dat dk_L_law 71 rfl) ?_
  refine tln_sld hL (by omega) (by omega) (dat dk_L_law 72 rfl) ?_
  refine tg_aload_np TLn.gn (dat dk_L_law 73 rfl) (by decide) rfl ?_
  refine tg_iload TLn.gn (dat dk_L_law 74 rfl) rfl ?_
  refine tg_iconst TLn.gn (dat dk_L_law 75 rfl) ?_
  refine tg_iadd TLn.gn (dat dk_L_law 76 rfl) ?_
  refine tln_sld hL (by omega) (by omega) (dat dk_L_law 77 rfl) ?_
  refine tg_cV TLn.gn ca_c12_38 (dat dk_L_law 78 rfl) (ct_X12_feed_vx l H1 i1 _ (sv_i32 _ _) _ (sv_i32 _ _) _ (sv_i32 _ _) _ (sv_i32 _ _) _ (sv_i32 _ _) ) rfl ⟨_, _, rfl, i1.atS (a := 60) rfl⟩ rfl (fun H2 p2 => ?_)
  obtain ⟨i2, f2, v1⟩ := p2
  refine tg_goto (t := 551) TLn.gn (dat dk_L_law 79 rfl) rfl ?_
  exact nxt H2 k z (w.s0 (mc := 0) (ms := 0) i1 f1 (w.enl f1 rfl) rfl (f1.getF hI (by decide) rfl) i2 f2 rfl (Cch_fr f2 i1 rfl r1.1)) (te.feed hI i1 f1 f2 rfl rfl u1 u2 v1)
set_option maxRecDepth 100000 in
theorem way_end (hst0 : l.stackTraces = false) {L0 : Nat} (hL : g.2.1 91 = L0) (hL4 : L0 ≤ 384) {n k z : Nat} {h : Hp} (w : WI n k z h) (te : TE h) (hn : 6 * n + 6 ≤ L0) (nxt : ∀ (H : Hp) (k' z' : Nat), WI (n + 1) k' z' H → TE H → TW l g HB Qf (551, LLo n, [], H, k', z')) : TW l g HB Qf (179, LLo n, [], h, k, z) := by
  have hI := w.1
  have t1 := hI.atS (a := 1) rfl
  have r0 := w.2.2.1
  have ht0 := w.2.2.2.2
  have ft := w.fit (by omega)
  refine tg_aload_np TLn.gn (dat dk_L_law 80 rfl) (by decide) rfl ?_
  refine tg_aload_np TLn.gn (dat dk_L_law 81 rfl) (by decide) rfl ?_
  refine tg_iload TLn.gn (dat dk_L_law 82 rfl) rfl ?_
  refine tg_iconst TLn.gn (dat dk_L_law 83 rfl) ?_
  refine tg_iadd TLn.gn (dat dk_L_law 84 rfl) ?_
  refine tln_sld hL (by omega) (by omega) (dat dk_L_law 85 rfl) ?_
  refine tg_cI TLn.gn ca_c12_39 (dat dk_L_law 86 rfl) (ct_X11_end_vx l h hI _ (sv_i32 _ _) te.1.1) rfl ⟨_, _, rfl, t1⟩ rfl (fun x1 H1 rx1 p1 => ?_)
  obtain ⟨i1, f1, p1⟩ := p1
  have r1 := r0.x hI f1 rfl
  have e3 := (x_keep hI f1 rfl).2.2.2.1
  refine tg_pop TLn.gn (dat dk_L_law 87 rfl) rfl ?_
  refine tg_aload_np TLn.gn (dat dk_L_law 88 rfl) (by decide) rfl ?_
  refine tg_aload_np TLn.gn (dat dk_L_law 89 rfl) (by decide) rfl ?_
  refine tg_iload TLn.gn (dat dk_L_law 90 rfl) rfl ?_
  refine tg_iconst TLn.gn (dat dk_L_law 91 rfl) ?_
  refine tg_iadd TLn.gn (dat dk_L_law 92 rfl) ?_
  refine tln_sld hL (by omega) (by omega) (dat dk_L_law 93 rfl) ?_
  refine tg_cI TLn.gn ca_c12_43 (dat dk_L_law 94 rfl) (ct_X12_end_vx l H1 i1 _ (sv_i32 _ _) ) rfl ⟨_, _, rfl, i1.atS (a := 60) rfl⟩ rfl (fun x2 H2 rx2 p2 => ?_)
  obtain ⟨i2, f2, p2⟩ := p2
  have e4 := (m_keep i1 f2 rfl).2.2.2.1
  have b1 := i1.atR (a := 4) (j := 1) rfl
  refine tg_pop TLn.gn (dat dk_L_law 95 rfl) rfl ?_
  refine tg_goto (t := 551) TLn.gn (dat dk_L_law 96 rfl) rfl ?_
  exact nxt H2 k z (w.s1 (mc := 0) (ms := 0) i1 f1 (w.enl f1 rfl) rfl i2 f2 rfl (Cch_fr f2 i1 rfl r1.1) (by omega) (by omega)) (te.end hI i1 f1 f2 rfl rfl ht0 p1 p2)
set_option maxRecDepth 100000 in
theorem way_add (hst0 : l.stackTraces = false) {L0 : Nat} (hL : g.2.1 91 = L0) (hL4 : L0 ≤ 384) {n k z : Nat} {h : Hp} (w : WI n k z h) (te : TE h) (hn : 6 * n + 6 ≤ L0) (nxt : ∀ (H : Hp) (k' z' : Nat), WI (n + 1) k' z' H → TE H → TW l g HB Qf (551, LLo n, [], H, k', z')) : TW l g HB Qf (204, LLo n, [], h, k, z) := by
  have hI := w.1
  have t1 := hI.atS (a := 1) rfl
  have r0 := w.2.2.1
  have ht0 := w.2.2.2.2
  have ft := w.fit (by omega)
  refine tg_aload_np TLn.gn (dat dk_L_law 97 rfl) (by decide) rfl ?_
  refine tg_aload_np TLn.gn (dat dk_L_law 98 rfl) (by decide) rfl ?_
  obtain ⟨H1, mc, ms, ⟨i1, f1, e1, g1⟩, hE⟩ := hl_add6 l hst0 h hI w.2.1.1 ft.2.2.1 ft.2.2.2.1 ft.2.2.2.2 
  have e9 : ENL h H1 mc ms 1420 5880 1520 := e1.mono (by decide) (by decide) (by decide)
  have rm := w.room (by omega) e9
  refine tln_hlp (np := 2) hE (tin 3 76 (by decide +kernel) rfl) ⟨by decide +kernel, by decide +kernel, by decide +kernel⟩ (tin 3 74 (by decide +kernel) rfl) (tin 3 75 (by decide +kernel) rfl) (tin 1 0 (by decide +kernel) rfl) (dat dk_L_law 99 rfl) rfl (by decide) (by decide) (by decide) rm.1 rm.2 (fun x1 rx1 => ?_)
  have r1 := r0.x hI f1 rfl
  have xk := x_keep hI f1 rfl
  refine tg_istore TLn.gn (dat dk_L_law 100 rfl) (by decide) rfl ?_
  refine tg_aload_np TLn.gn (dat dk_L_law 101 rfl) (by decide) rfl ?_
  have c4 := w.2.2.2.1.2.2.2.1
  have c5 := w.2.2.2.1.2.2.2.2
  have l26 := hI.lsz
  have l15 := hI.atR (a := 1) (j := 15) rfl
  refine tg_cI TLn.gn ca_c12_49 (dat dk_L_law 102 rfl) (ct_X12_add_vb6 l H1 i1  ⟨by omega, by omega⟩) rfl ⟨_, _, rfl, i1.atS (a := 60) rfl⟩ rfl (fun x2 H2 rx2 p2 => ?_)
  refine tg_istore TLn.gn (dat dk_L_law 103 rfl) (by decide) rfl ?_
  have cor := w.2.2.2.1
  have w6 : TGW H2 := by
    rcases g1 with ⟨a1, a2, a3, a4, a5⟩ | ⟨a1, a2, a3, a4, a5, a6, a7⟩
    · rcases p2.2.2.2 with ⟨q1, q2⟩ | ⟨q1, q2⟩
      · exfalso
        rcases p2.2.2.1 with ⟨z1, -⟩ | ⟨z1, z2, z3, -⟩
        · omega
        · omega
      · refine te.2.2.add hI i1 f1 p2.2.1 rfl rfl rfl rfl a5 a4 ?_ (fun j hj => ?_) (by omega) (fun y hy => ?_)
        · rw [q2, if_pos (by omega)]
        · rw [q2, if_neg (by omega)]
        · have := cor.2.1 y hy
          omega
    · rcases p2.2.2.2 with ⟨q1, q2⟩ | ⟨q1, q2⟩
      · exact (te.2.2.fr hI a7 rfl).same i1 p2.2.1 rfl rfl rfl (p2.2.1.arr i1 (a := 66) (by decide) (fun _ => rfl)) (p2.2.1.arr i1 (a := 67) (by decide) (fun _ => rfl)) q2
      · exfalso
        rcases p2.2.2.1 with ⟨-, -, z3, -⟩ | ⟨z1, -⟩
        · omega
        · omega
  refine tg_goto (t := 551) TLn.gn (dat dk_L_law 104 rfl) rfl ?_
  exact tg_pick TLn.gn [0, 1, 2, 3, 4] rfl (nxt H2 _ _ (w.add i1 f1 e9 rfl (g1.elim (fun q => Or.inl ⟨q.1, q.2.1, q.2.2.1, q.2.2.2.1⟩) (fun q => Or.inr ⟨q.1, q.2.1, q.2.2.1, q.2.2.2.1, q.2.2.2.2.1⟩)) ⟨rfl, rfl, _, rfl, rx2, p2.1, p2.2.1, p2.2.2.1⟩) (te.add hI i1 f1 p2.2.1 rfl rfl (g1.elim (fun q => Or.inl q.1) (fun q => Or.inr ⟨q.1, q.2.2.2.2.2.1⟩)) w6))
set_option maxRecDepth 100000 in
theorem way_remove (hst0 : l.stackTraces = false) {L0 : Nat} (hL : g.2.1 91 = L0) (hL4 : L0 ≤ 384) {n k z : Nat} {h : Hp} (w : WI n k z h) (te : TE h) (hn : 6 * n + 6 ≤ L0) (nxt : ∀ (H : Hp) (k' z' : Nat), WI (n + 1) k' z' H → TE H → TW l g HB Qf (551, LLo n, [], H, k', z')) : TW l g HB Qf (220, LLo n, [], h, k, z) := by
  have hI := w.1
  have t1 := hI.atS (a := 1) rfl
  have r0 := w.2.2.1
  have ht0 := w.2.2.2.2
  have ft := w.fit (by omega)
  refine tg_aload_np TLn.gn (dat dk_L_law 105 rfl) (by decide) rfl ?_
  refine tg_aload_np TLn.gn (dat dk_L_law 106 rfl) (by decide) rfl ?_
  refine tg_iload TLn.gn (dat dk_L_law 107 rfl) rfl ?_
  refine tg_iconst TLn.gn (dat dk_L_law 108 rfl) ?_
  refine tg_iadd TLn.gn (dat dk_L_law 109 rfl) ?_
  refine tln_sld hL (by omega) (by omega) (dat dk_L_law 110 rfl) ?_
  obtain ⟨H1, mc, ms, ⟨i1, f1, e1, tp, g1⟩, hE⟩ := hl_remove6 l hst0 h hI w.2.1.1 ft.2.2.2.2 (sv g (6 * (n : Int) + 1).toNat) (sv_i32 _ _)
  have e9 : ENL h H1 mc ms 1420 5880 1520 := e1.mono (by decide) (by decide) (by decide)
  have rm := w.room (by omega) e9
  refine tln_hlp (np := 2) hE (tin 5 146 (by decide +kernel) rfl) ⟨by decide +kernel, by decide +kernel, by decide +kernel⟩ (tin 5 144 (by decide +kernel) rfl) (tin 5 145 (by decide +kernel) rfl) (tin 1 0 (by decide +kernel) rfl) (dat dk_L_law 111 rfl) rfl (by decide) (by decide) (by decide) rm.1 rm.2 (fun x1 rx1 => ?_)
  have r1 := r0.x hI f1 rfl
  have xk := x_keep hI f1 rfl
  refine tg_istore TLn.gn (dat dk_L_law 112 rfl) (by decide) rfl ?_
  refine tg_aload_np TLn.gn (dat dk_L_law 113 rfl) (by decide) rfl ?_
  refine tg_aload_np TLn.gn (dat dk_L_law 114 rfl) (by decide) rfl ?_
  refine tg_iload TLn.gn (dat dk_L_law 115 rfl) rfl ?_
  refine tg_iconst TLn.gn (dat dk_L_law 116 rfl) ?_
  refine tg_iadd TLn.gn (dat dk_L_law 117 rfl) ?_
  refine tln_sld hL (by omega) (by omega) (dat dk_L_law 118 rfl) ?_
  have c4 := w.2.2.2.1.2.2.2.1
  have l26 := hI.lsz
  refine tg_cV TLn.gn ca_c12_53 (dat dk_L_law 119 rfl) (ct_X12_remove_vbb l H1 i1 _ (sv_i32 _ _) (by omega)) rfl ⟨_, _, rfl, i1.atS (a := 60) rfl⟩ rfl (fun H2 p2 => ?_)
  have w6 : TGW H1 := g1.elim (fun q => te.2.2.rem hI f1 rfl rfl q.1 q.2) (fun q => te.2.2.fr hI q.2.2.2 rfl)
  refine tg_goto (t := 551) TLn.gn (dat dk_L_law 120 rfl) rfl ?_
  exact tg_pick TLn.gn [0, 1, 2, 3, 4] rfl (nxt H2 _ _ (w.rem i1 f1 e9 rfl tp (g1.elim (fun q => Or.inl ⟨q.1, q.2.choose, q.2.choose_spec.1, q.2.choose_spec.2.1⟩) (fun q => Or.inr ⟨q.1, q.2.1, q.2.2.1⟩)) ⟨rfl, rfl, rfl, p2⟩) (te.keepW hI i1 f1 p2.2.1 rfl rfl (w6.fr i1 p2.2.1 rfl)))
set_option maxRecDepth 100000 in
theorem way_tag (hst0 : l.stackTraces = false) {L0 : Nat} (hL : g.2.1 91 = L0) (hL4 : L0 ≤ 384) {n k z : Nat} {h : Hp} (w : WI n k z h) (te : TE h) (hn : 6 * n + 6 ≤ L0) (nxt : ∀ (H : Hp) (k' z' : Nat), WI (n + 1) k' z' H → TE H → TW l g HB Qf (551, LLo n, [], H, k', z')) : TW l g HB Qf (245, LLo n, [], h, k, z) := by
  have hI := w.1
  have t1 := hI.atS (a := 1) rfl
  have r0 := w.2.2.1
  have ht0 := w.2.2.2.2
  have ft := w.fit (by omega)
  refine tg_aload_np TLn.gn (dat dk_L_law 121 rfl) (by decide) rfl ?_
  refine tg_aload_np TLn.gn (dat dk_L_law 122 rfl) (by decide) rfl ?_
  refine tg_iload TLn.gn (dat dk_L_law 123 rfl) rfl ?_
  refine tg_iconst TLn.gn (dat dk_L_law 124 rfl) ?_
  refine tg_iadd TLn.gn (dat dk_L_law 125 rfl) ?_
  refine tln_sld hL (by omega) (by omega) (dat dk_L_law 126 rfl) ?_
  refine tg_aload_np TLn.gn (dat dk_L_law 127 rfl) (by decide) rfl ?_
  refine tg_iload TLn.gn (dat dk_L_law 128 rfl) rfl ?_
  refine tg_iconst TLn.gn (dat dk_L_law 129 rfl) ?_
  refine tg_iadd TLn.gn (dat dk_L_law 130 rfl) ?_
  refine tln_sld hL (by omega) (by omega) (dat dk_L_law 131 rfl) ?_
  have at1 : ∀ b : Int, (b = 0 ∨ b = 1) → (b = 0 ↔ (sv g (6 * (n : Int) + 2).toNat) = 0) → TW l g HB Qf (266, LLo n, [.inl b, .inl (sv g (6 * (n : Int) + 1).toNat), .inr (.inr 1)], h, k, z) := by
    intro b hb hbs
    refine tg_aload_np TLn.gn (dat dk_L_law 136 rfl) (by decide) rfl ?_
    obtain ⟨n0, H1, mc, ms, ⟨i1, f1, e1, tp, sz, n03, co⟩, hE⟩ := hlx_tag l hst0 h hI w.2.1.1 ft.2.2.1 ft.2.2.2.1 ft.2.2.2.2 te.2.2.1 te.2.2.tgp (sv g (6 * (n : Int) + 1).toNat) (sv_i32 _ _) b hb 
    have e9 : ENL h H1 mc ms 1420 5880 1520 := e1.mono (by decide) (by decide) (by decide)
    have rm := w.room (by omega) e9
    refine tln_hlpx (np := 4) hE (tin 5 179 (by decide +kernel) rfl) ⟨by decide +kernel, by decide +kernel, by decide +kernel⟩ (tin 5 177 (by decide +kernel) rfl) (tin 5 178 (by decide +kernel) rfl) (tin 1 0 (by decide +kernel) rfl) (dat dk_L_law 137 rfl) rfl (by decide) (by decide) (by decide) rm.1 rm.2 ?_
    have r1 := r0.x hI f1 rfl
    have xk := x_keep hI f1 rfl
    have rn : I32 n0 := by unfold I32; omega
    refine tg_istore TLn.gn (dat dk_L_law 138 rfl) (by decide) rfl ?_
    refine tg_aload_np TLn.gn (dat dk_L_law 139 rfl) (by decide) rfl ?_
    refine tg_aload_np TLn.gn (dat dk_L_law 140 rfl) (by decide) rfl ?_
    refine tg_iload TLn.gn (dat dk_L_law 141 rfl) rfl ?_
    refine tg_iconst TLn.gn (dat dk_L_law 142 rfl) ?_
    refine tg_iadd TLn.gn (dat dk_L_law 143 rfl) ?_
    refine tln_sld hL (by omega) (by omega) (dat dk_L_law 144 rfl) ?_
    refine tg_aload_np TLn.gn (dat dk_L_law 145 rfl) (by decide) rfl ?_
    refine tg_iload TLn.gn (dat dk_L_law 146 rfl) rfl ?_
    refine tg_iconst TLn.gn (dat dk_L_law 147 rfl) ?_
    refine tg_iadd TLn.gn (dat dk_L_law 148 rfl) ?_
    refine tln_sld hL (by omega) (by omega) (dat dk_L_law 149 rfl) ?_
    have at2 : ∀ b2 : Int, (b2 = 0 ∨ b2 = 1) → (b2 = 0 ↔ (sv g (6 * (n : Int) + 2).toNat) = 0) → TW l g HB Qf (293, LLo n ++ [(5, .inl n0)], [.inl b2, .inl (sv g (6 * (n : Int) + 1).toNat), .inr (.inr 60)], H1, k + mc, z + ms) := by
      intro b2 hb2 hbs2
      refine tg_cI TLn.gn ca_c12_57 (dat dk_L_law 154 rfl) (ct_X12_tag_vx l H1 i1 _ (sv_i32 _ _) b2 hb2) rfl ⟨_, _, rfl, i1.atS (a := 60) rfl⟩ rfl (fun x2 H2 rx2 p2 => ?_)
      obtain ⟨i2, f2, zx2, p3, tr⟩ := p2
      have b3 := i1.atR (a := 60) (j := 3) rfl
      rw [show b2 = b by omega] at tr
      obtain ⟨k1, k2, w6⟩ := tag_core hI te.2.2 te.2.1 w.2.2.2.1 ht0 f1 i1 co f2 tr
      refine tg_istore TLn.gn (dat dk_L_law 155 rfl) (by decide) rfl ?_
      have wn : WI (n + 1) (k + mc) (z + ms) H2 := w.s1 i1 f1 e9 rfl i2 f2 rfl (Cch_fr f2 i1 rfl r1.1) (by omega) (by omega)
      have tn : TE H2 := te.zeroW hI i1 f1 f2 rfl rfl tp w6
      refine tg_aload_np TLn.gn (dat dk_L_law 156 rfl) (by decide) rfl ?_
      refine tg_cI TLn.gn ca_c12_58 (dat dk_L_law 157 rfl) (ct_X12_thrown l H2 i2) rfl ⟨_, _, rfl, i2.atS (a := 60) rfl⟩ rfl (fun x3 H3 rx3 p4 => ?_)
      obtain ⟨rfl, e3⟩ := p4
      refine tg_iload TLn.gn (dat dk_L_law 158 rfl) rfl ?_
      refine tg_ieq TLn.gn 309 (dat dk_L_law 159 rfl) rfl rx3 rn (fun c => ?_) (fun c => (by omega))
      refine tg_iload TLn.gn (dat dk_L_law 162 rfl) rfl ?_
      have fin : TW l g HB Qf (333, LLo n ++ [(5, .inl n0), (6, .inl x2)], [], H2, k + mc, z + ms) := tg_goto (t := 551) TLn.gn (dat dk_L_law 176 rfl) rfl (tg_pick TLn.gn [0, 1, 2, 3, 4] rfl (nxt H2 _ _ wn tn))
      refine tg_ifne TLn.gn 333 (dat dk_L_law 163 rfl) rfl rn (fun c1 => fin) (fun c1 => ?_)
      have e105 := k2 (by omega)
      refine tg_aload_np TLn.gn (dat dk_L_law 164 rfl) (by decide) rfl (tg_iconst TLn.gn (dat dk_L_law 165 rfl) ?_)
      refine tg_lald TLn.gn (dat dk_L_law 166 rfl) (i2.atS (a := 105) rfl) rfl (by decide) (by decide) ?_
      have e99 : H2.2.2 105 (Int.toNat 0) = x2 := e105
      rw [e99]
      refine tg_iload TLn.gn (dat dk_L_law 167 rfl) rfl ?_
      have at3 : ∀ v : Int, v = x2 → TW l g HB Qf (327, LLo n ++ [(5, .inl n0), (6, .inl x2)], [.inr (.inl v), .inr (.inl x2)], H2, k + mc, z + ms) := by
        intro v ev
        refine tg_lcmpx TLn.gn (x := x2) (y := v) rx2 (by rw [ev]; exact rx2) (dat dk_L_law 172 rfl) (fun n1 rn1 hn1 => ?_)
        exact tg_ifeq TLn.gn 333 (dat dk_L_law 173 rfl) rfl rn1 (fun c2 => fin) (fun c2 => absurd (hn1.mpr ev.symm) c2)
      refine tg_ifeq TLn.gn 326 (dat dk_L_law 168 rfl) rfl rx2 (fun c5 => ?_) (fun c5 => ?_)
      · exact tg_lconst TLn.gn (v := 0) (dat dk_L_law 171 rfl) rfl (at3 0 (by omega))
      · exact tg_lconst TLn.gn (v := 1) (dat dk_L_law 169 rfl) rfl (tg_goto (t := 327) TLn.gn (dat dk_L_law 170 rfl) rfl (at3 1 (by omega)))
    refine tg_ifeq TLn.gn 292 (dat dk_L_law 150 rfl) rfl (sv_i32 _ _) (fun c => ?_) (fun c => ?_)
    · exact tg_iconst TLn.gn (dat dk_L_law 153 rfl) (at2 0 (Or.inl rfl) ⟨fun _ => c, fun _ => rfl⟩)
    · exact tg_iconst TLn.gn (dat dk_L_law 151 rfl) (tg_goto (t := 293) TLn.gn (dat dk_L_law 152 rfl) rfl (at2 1 (Or.inr rfl) ⟨fun q => absurd q (by decide), fun q => absurd q c⟩))
  refine tg_ifeq TLn.gn 265 (dat dk_L_law 132 rfl) rfl (sv_i32 _ _) (fun c => ?_) (fun c => ?_)
  · exact tg_iconst TLn.gn (dat dk_L_law 135 rfl) (at1 0 (Or.inl rfl) ⟨fun _ => c, fun _ => rfl⟩)
  · exact tg_iconst TLn.gn (dat dk_L_law 133 rfl) (tg_goto (t := 266) TLn.gn (dat dk_L_law 134 rfl) rfl (at1 1 (Or.inr rfl) ⟨fun q => absurd q (by decide), fun q => absurd q c⟩))
set_option maxRecDepth 100000 in
theorem way_search (hst0 : l.stackTraces = false) {L0 : Nat} (hL : g.2.1 91 = L0) (hL4 : L0 ≤ 384) {n k z : Nat} {h : Hp} (w : WI n k z h) (te : TE h) (hn : 6 * n + 6 ≤ L0) (nxt : ∀ (H : Hp) (k' z' : Nat), WI (n + 1) k' z' H → TE H → TW l g HB Qf (551, LLo n, [], H, k', z')) : TW l g HB Qf (336, LLo n, [], h, k, z) := by
  have hI := w.1
  have t1 := hI.atS (a := 1) rfl
  have r0 := w.2.2.1
  have ht0 := w.2.2.2.2
  have ft := w.fit (by omega)
  refine tg_aload_np TLn.gn (dat dk_L_law 177 rfl) (by decide) rfl ?_
  refine tg_aload_np TLn.gn (dat dk_L_law 178 rfl) (by decide) rfl ?_
  obtain ⟨H1, mc, ms, ⟨i1, f1, e1, tp, sz⟩, hE⟩ := hl_search l hst0 h hI w.2.1.1 ft.2.2.2.2 
  have e9 : ENL h H1 mc ms 1420 5880 1520 := e1.mono (by decide) (by decide) (by decide)
  have rm := w.room (by omega) e9
  refine tln_hlp (np := 2) hE (tin 5 237 (by decide +kernel) rfl) ⟨by decide +kernel, by decide +kernel, by decide +kernel⟩ (tin 5 235 (by decide +kernel) rfl) (tin 5 236 (by decide +kernel) rfl) (tin 1 0 (by decide +kernel) rfl) (dat dk_L_law 179 rfl) rfl (by decide) (by decide) (by decide) rm.1 rm.2 (fun x1 rx1 => ?_)
  have r1 := r0.x hI f1 rfl
  have xk := x_keep hI f1 rfl
  refine tg_istore TLn.gn (dat dk_L_law 180 rfl) (by decide) rfl ?_
  refine tg_aload_np TLn.gn (dat dk_L_law 181 rfl) (by decide) rfl ?_
  have r3 := r1.2.2.1
  refine tg_cI TLn.gn ca_c12_63 (dat dk_L_law 182 rfl) (ct_X12_search l H1 i1  r1.1 (by omega)) rfl ⟨_, _, rfl, i1.atS (a := 60) rfl⟩ rfl (fun x2 H2 rx2 p2 => ?_)
  obtain ⟨i2, f2, c2, p3⟩ := p2
  have b3 := i1.atR (a := 60) (j := 3) rfl
  refine tg_istore TLn.gn (dat dk_L_law 183 rfl) (by decide) rfl ?_
  refine tg_goto (t := 551) TLn.gn (dat dk_L_law 184 rfl) rfl ?_
  exact tg_pick TLn.gn [0, 1, 2, 3, 4] rfl (nxt H2 _ _ (w.s1 i1 f1 e9 rfl i2 f2 rfl c2 (by omega) (by omega)) (te.zero hI i1 f1 f2 rfl rfl tp))
set_option maxRecDepth 100000 in
theorem way_fault (hst0 : l.stackTraces = false) {L0 : Nat} (hL : g.2.1 91 = L0) (hL4 : L0 ≤ 384) {n k z : Nat} {h : Hp} (w : WI n k z h) (te : TE h) (hn : 6 * n + 6 ≤ L0) (nxt : ∀ (H : Hp) (k' z' : Nat), WI (n + 1) k' z' H → TE H → TW l g HB Qf (551, LLo n, [], H, k', z')) : TW l g HB Qf (352, LLo n, [], h, k, z) := by
  have hI := w.1
  have t1 := hI.atS (a := 1) rfl
  have r0 := w.2.2.1
  have ht0 := w.2.2.2.2
  have ft := w.fit (by omega)
  refine tg_aload_np TLn.gn (dat dk_L_law 185 rfl) (by decide) rfl ?_
  refine tg_cI TLn.gn ca_c12_64 (dat dk_L_law 186 rfl) (ct_X11_fault l h hI  ) rfl ⟨_, _, rfl, t1⟩ rfl (fun x1 H1 rx1 p1 => ?_)
  have e0 : h = H1 := p1.1
  have i1 : Inv H1 := by rw [← e0]; exact hI
  have f1 : Fr [] h H1 := by rw [← e0]; exact Fr.rf [] h
  have r1 := r0.x hI f1 rfl
  have r3 := r1.2.2.1
  have r4 := r1.2.2.2
  refine tg_pop TLn.gn (dat dk_L_law 187 rfl) rfl ?_
  refine tg_aload_np TLn.gn (dat dk_L_law 188 rfl) (by decide) rfl ?_
  refine tg_cI TLn.gn ca_c12_67 (dat dk_L_law 189 rfl) (ct_X12_fault l H1 i1  ) rfl ⟨_, _, rfl, i1.atS (a := 60) rfl⟩ rfl (fun x2 H2 rx2 p2 => ?_)
  obtain ⟨i2, f2⟩ := p2
  refine tg_pop TLn.gn (dat dk_L_law 190 rfl) rfl ?_
  refine tg_goto (t := 551) TLn.gn (dat dk_L_law 191 rfl) rfl ?_
  exact nxt H2 _ _ (w.s0 (mc := 0) (ms := 0) i1 f1 (w.enl f1 rfl) rfl (f1.getF hI (by decide) rfl) i2 f2 rfl (Cch_fr f2 i1 rfl r1.1)) (te.keep hI i1 f1 f2 rfl rfl)
set_option maxRecDepth 100000 in
theorem way_found (hst0 : l.stackTraces = false) {L0 : Nat} (hL : g.2.1 91 = L0) (hL4 : L0 ≤ 384) {n k z : Nat} {h : Hp} (w : WI n k z h) (te : TE h) (hn : 6 * n + 6 ≤ L0) (nxt : ∀ (H : Hp) (k' z' : Nat), WI (n + 1) k' z' H → TE H → TW l g HB Qf (551, LLo n, [], H, k', z')) : TW l g HB Qf (365, LLo n, [], h, k, z) := by
  have hI := w.1
  have t1 := hI.atS (a := 1) rfl
  have r0 := w.2.2.1
  have ht0 := w.2.2.2.2
  have ft := w.fit (by omega)
  refine tg_aload_np TLn.gn (dat dk_L_law 192 rfl) (by decide) rfl ?_
  refine tg_aload_np TLn.gn (dat dk_L_law 193 rfl) (by decide) rfl ?_
  refine tg_iload TLn.gn (dat dk_L_law 194 rfl) rfl ?_
  refine tg_iconst TLn.gn (dat dk_L_law 195 rfl) ?_
  refine tg_iadd TLn.gn (dat dk_L_law 196 rfl) ?_
  refine tln_sld hL (by omega) (by omega) (dat dk_L_law 197 rfl) ?_
  refine tg_cI TLn.gn ca_c12_68 (dat dk_L_law 198 rfl) (ct_X11_found l h hI _ (sv_i32 _ _) ) rfl ⟨_, _, rfl, t1⟩ rfl (fun x1 H1 rx1 p1 => ?_)
  have e0 : h = H1 := p1
  have i1 : Inv H1 := by rw [← e0]; exact hI
  have f1 : Fr [] h H1 := by rw [← e0]; exact Fr.rf [] h
  have r1 := r0.x hI f1 rfl
  have r3 := r1.2.2.1
  have r4 := r1.2.2.2
  refine tg_pop TLn.gn (dat dk_L_law 199 rfl) rfl ?_
  refine tg_aload_np TLn.gn (dat dk_L_law 200 rfl) (by decide) rfl ?_
  refine tg_aload_np TLn.gn (dat dk_L_law 201 rfl) (by decide) rfl ?_
  refine tg_iload TLn.gn (dat dk_L_law 202 rfl) rfl ?_
  refine tg_iconst TLn.gn (dat dk_L_law 203 rfl) ?_
  refine tg_iadd TLn.gn (dat dk_L_law 204 rfl) ?_
  refine tln_sld hL (by omega) (by omega) (dat dk_L_law 205 rfl) ?_
  refine tg_cI TLn.gn ca_c12_71 (dat dk_L_law 206 rfl) (ct_X12_found l H1 i1 _ (sv_i32 _ _) ) rfl ⟨_, _, rfl, i1.atS (a := 60) rfl⟩ rfl (fun x2 H2 rx2 p2 => ?_)
  obtain ⟨i2, f2⟩ := p2
  refine tg_pop TLn.gn (dat dk_L_law 207 rfl) rfl ?_
  refine tg_goto (t := 551) TLn.gn (dat dk_L_law 208 rfl) rfl ?_
  exact nxt H2 _ _ (w.s0 (mc := 0) (ms := 0) i1 f1 (w.enl f1 rfl) rfl (f1.getF hI (by decide) rfl) i2 f2 rfl (Cch_fr f2 i1 rfl r1.1)) (te.keep hI i1 f1 f2 rfl rfl)
set_option maxRecDepth 100000 in
theorem way_conversations (hst0 : l.stackTraces = false) {L0 : Nat} (hL : g.2.1 91 = L0) (hL4 : L0 ≤ 384) {n k z : Nat} {h : Hp} (w : WI n k z h) (te : TE h) (hn : 6 * n + 6 ≤ L0) (nxt : ∀ (H : Hp) (k' z' : Nat), WI (n + 1) k' z' H → TE H → TW l g HB Qf (551, LLo n, [], H, k', z')) : TW l g HB Qf (390, LLo n, [], h, k, z) := by
  have hI := w.1
  have t1 := hI.atS (a := 1) rfl
  have r0 := w.2.2.1
  have ht0 := w.2.2.2.2
  have ft := w.fit (by omega)
  refine tg_aload_np TLn.gn (dat dk_L_law 209 rfl) (by decide) rfl ?_
  refine tg_cI TLn.gn ca_c12_72 (dat dk_L_law 210 rfl) (ct_X11_conversations l h hI  ) rfl ⟨_, _, rfl, t1⟩ rfl (fun x1 H1 rx1 p1 => ?_)
  obtain ⟨i1, f1⟩ := p1
  have r1 := r0.x hI f1 rfl
  have r3 := r1.2.2.1
  have r4 := r1.2.2.2
  have b3 := i1.atR (a := 60) (j := 3) rfl
  refine tg_pop TLn.gn (dat dk_L_law 211 rfl) rfl ?_
  refine tg_aload_np TLn.gn (dat dk_L_law 212 rfl) (by decide) rfl ?_
  refine tg_cI TLn.gn ca_c12_75 (dat dk_L_law 213 rfl) (ct_X12_conversations l H1 i1  r1.1 (by omega) r1.2.1) rfl ⟨_, _, rfl, i1.atS (a := 60) rfl⟩ rfl (fun x2 H2 rx2 p2 => ?_)
  obtain ⟨i2, f2, c2⟩ := p2
  refine tg_pop TLn.gn (dat dk_L_law 214 rfl) rfl ?_
  refine tg_goto (t := 551) TLn.gn (dat dk_L_law 215 rfl) rfl ?_
  exact nxt H2 _ _ (w.s0 (mc := 0) (ms := 0) i1 f1 (w.enl f1 rfl) rfl (f1.getF hI (by decide) rfl) i2 f2 rfl c2) (te.keep hI i1 f1 f2 rfl rfl)
set_option maxRecDepth 100000 in
theorem way_thread (hst0 : l.stackTraces = false) {L0 : Nat} (hL : g.2.1 91 = L0) (hL4 : L0 ≤ 384) {n k z : Nat} {h : Hp} (w : WI n k z h) (te : TE h) (hn : 6 * n + 6 ≤ L0) (nxt : ∀ (H : Hp) (k' z' : Nat), WI (n + 1) k' z' H → TE H → TW l g HB Qf (551, LLo n, [], H, k', z')) : TW l g HB Qf (403, LLo n, [], h, k, z) := by
  have hI := w.1
  have t1 := hI.atS (a := 1) rfl
  have r0 := w.2.2.1
  have ht0 := w.2.2.2.2
  have ft := w.fit (by omega)
  refine tg_aload_np TLn.gn (dat dk_L_law 216 rfl) (by decide) rfl ?_
  refine tg_aload_np TLn.gn (dat dk_L_law 217 rfl) (by decide) rfl ?_
  refine tg_iload TLn.gn (dat dk_L_law 218 rfl) rfl ?_
  refine tg_iconst TLn.gn (dat dk_L_law 219 rfl) ?_
  refine tg_iadd TLn.gn (dat dk_L_law 220 rfl) ?_
  refine tln_sld hL (by omega) (by omega) (dat dk_L_law 221 rfl) ?_
  refine tg_cI TLn.gn ca_c12_76 (dat dk_L_law 222 rfl) (ct_X11_thread l h hI _ (sv_i32 _ _) ) rfl ⟨_, _, rfl, t1⟩ rfl (fun x1 H1 rx1 p1 => ?_)
  have e0 : h = H1 := p1
  have i1 : Inv H1 := by rw [← e0]; exact hI
  have f1 : Fr [] h H1 := by rw [← e0]; exact Fr.rf [] h
  have r1 := r0.x hI f1 rfl
  have r3 := r1.2.2.1
  have r4 := r1.2.2.2
  refine tg_pop TLn.gn (dat dk_L_law 223 rfl) rfl ?_
  refine tg_aload_np TLn.gn (dat dk_L_law 224 rfl) (by decide) rfl ?_
  refine tg_aload_np TLn.gn (dat dk_L_law 225 rfl) (by decide) rfl ?_
  refine tg_iload TLn.gn (dat dk_L_law 226 rfl) rfl ?_
  refine tg_iconst TLn.gn (dat dk_L_law 227 rfl) ?_
  refine tg_iadd TLn.gn (dat dk_L_law 228 rfl) ?_
  refine tln_sld hL (by omega) (by omega) (dat dk_L_law 229 rfl) ?_
  refine tg_cI TLn.gn ca_c12_79 (dat dk_L_law 230 rfl) (ct_X12_thread l H1 i1 _ (sv_i32 _ _) ) rfl ⟨_, _, rfl, i1.atS (a := 60) rfl⟩ rfl (fun x2 H2 rx2 p2 => ?_)
  obtain ⟨i2, f2⟩ := p2
  refine tg_pop TLn.gn (dat dk_L_law 231 rfl) rfl ?_
  refine tg_goto (t := 551) TLn.gn (dat dk_L_law 232 rfl) rfl ?_
  exact nxt H2 _ _ (w.s0 (mc := 0) (ms := 0) i1 f1 (w.enl f1 rfl) rfl (f1.getF hI (by decide) rfl) i2 f2 rfl (Cch_fr f2 i1 rfl r1.1)) (te.keep hI i1 f1 f2 rfl rfl)
set_option maxRecDepth 100000 in
theorem way_about (hst0 : l.stackTraces = false) {L0 : Nat} (hL : g.2.1 91 = L0) (hL4 : L0 ≤ 384) {n k z : Nat} {h : Hp} (w : WI n k z h) (te : TE h) (hn : 6 * n + 6 ≤ L0) (nxt : ∀ (H : Hp) (k' z' : Nat), WI (n + 1) k' z' H → TE H → TW l g HB Qf (551, LLo n, [], H, k', z')) : TW l g HB Qf (428, LLo n, [], h, k, z) := by
  have hI := w.1
  have t1 := hI.atS (a := 1) rfl
  have r0 := w.2.2.1
  have ht0 := w.2.2.2.2
  have ft := w.fit (by omega)
  refine tg_aload_np TLn.gn (dat dk_L_law 233 rfl) (by decide) rfl ?_
  refine tg_aload_np TLn.gn (dat dk_L_law 234 rfl) (by decide) rfl ?_
  refine tg_iload TLn.gn (dat dk_L_law 235 rfl) rfl ?_
  refine tg_iconst TLn.gn (dat dk_L_law 236 rfl) ?_
  refine tg_iadd TLn.gn (dat dk_L_law 237 rfl) ?_
  refine tln_sld hL (by omega) (by omega) (dat dk_L_law 238 rfl) ?_
  refine tg_aload_np TLn.gn (dat dk_L_law 239 rfl) (by decide) rfl ?_
  refine tg_iload TLn.gn (dat dk_L_law 240 rfl) rfl ?_
  refine tg_iconst TLn.gn (dat dk_L_law 241 rfl) ?_
  refine tg_iadd TLn.gn (dat dk_L_law 242 rfl) ?_
  refine tln_sld hL (by omega) (by omega) (dat dk_L_law 243 rfl) ?_
  refine tg_cI TLn.gn ca_c12_80 (dat dk_L_law 244 rfl) (ct_X11_about l h hI _ (sv_i32 _ _) _ (sv_i32 _ _) ) rfl ⟨_, _, rfl, t1⟩ rfl (fun x1 H1 rx1 p1 => ?_)
  obtain ⟨i1, f1, tp⟩ := p1
  have r1 := r0.x hI f1 rfl
  have r3 := r1.2.2.1
  have r4 := r1.2.2.2
  have b3 := i1.atR (a := 60) (j := 3) rfl
  refine tg_pop TLn.gn (dat dk_L_law 245 rfl) rfl ?_
  refine tg_aload_np TLn.gn (dat dk_L_law 246 rfl) (by decide) rfl ?_
  refine tg_aload_np TLn.gn (dat dk_L_law 247 rfl) (by decide) rfl ?_
  refine tg_iload TLn.gn (dat dk_L_law 248 rfl) rfl ?_
  refine tg_iconst TLn.gn (dat dk_L_law 249 rfl) ?_
  refine tg_iadd TLn.gn (dat dk_L_law 250 rfl) ?_
  refine tln_sld hL (by omega) (by omega) (dat dk_L_law 251 rfl) ?_
  refine tg_aload_np TLn.gn (dat dk_L_law 252 rfl) (by decide) rfl ?_
  refine tg_iload TLn.gn (dat dk_L_law 253 rfl) rfl ?_
  refine tg_iconst TLn.gn (dat dk_L_law 254 rfl) ?_
  refine tg_iadd TLn.gn (dat dk_L_law 255 rfl) ?_
  refine tln_sld hL (by omega) (by omega) (dat dk_L_law 256 rfl) ?_
  refine tg_cI TLn.gn ca_c12_84 (dat dk_L_law 257 rfl) (ct_X12_about l H1 i1 _ (sv_i32 _ _) _ (sv_i32 _ _) r1.1 (by omega)) rfl ⟨_, _, rfl, i1.atS (a := 60) rfl⟩ rfl (fun x2 H2 rx2 p2 => ?_)
  obtain ⟨i2, f2, c2⟩ := p2
  refine tg_pop TLn.gn (dat dk_L_law 258 rfl) rfl ?_
  refine tg_goto (t := 551) TLn.gn (dat dk_L_law 259 rfl) rfl ?_
  exact nxt H2 _ _ (w.s0 (mc := 0) (ms := 0) i1 f1 (w.enl f1 rfl) rfl tp i2 f2 rfl c2) (te.keep hI i1 f1 f2 rfl rfl)
set_option maxRecDepth 100000 in
theorem way_at (hst0 : l.stackTraces = false) {L0 : Nat} (hL : g.2.1 91 = L0) (hL4 : L0 ≤ 384) {n k z : Nat} {h : Hp} (w : WI n k z h) (te : TE h) (hn : 6 * n + 6 ≤ L0) (nxt : ∀ (H : Hp) (k' z' : Nat), WI (n + 1) k' z' H → TE H → TW l g HB Qf (551, LLo n, [], H, k', z')) : TW l g HB Qf (465, LLo n, [], h, k, z) := by
  have hI := w.1
  have t1 := hI.atS (a := 1) rfl
  have r0 := w.2.2.1
  have ht0 := w.2.2.2.2
  have ft := w.fit (by omega)
  refine tg_aload_np TLn.gn (dat dk_L_law 260 rfl) (by decide) rfl ?_
  refine tg_aload_np TLn.gn (dat dk_L_law 261 rfl) (by decide) rfl ?_
  refine tg_iload TLn.gn (dat dk_L_law 262 rfl) rfl ?_
  refine tg_iconst TLn.gn (dat dk_L_law 263 rfl) ?_
  refine tg_iadd TLn.gn (dat dk_L_law 264 rfl) ?_
  refine tln_sld hL (by omega) (by omega) (dat dk_L_law 265 rfl) ?_
  refine tg_aload_np TLn.gn (dat dk_L_law 266 rfl) (by decide) rfl ?_
  refine tg_iload TLn.gn (dat dk_L_law 267 rfl) rfl ?_
  refine tg_iconst TLn.gn (dat dk_L_law 268 rfl) ?_
  refine tg_iadd TLn.gn (dat dk_L_law 269 rfl) ?_
  refine tln_sld hL (by omega) (by omega) (dat dk_L_law 270 rfl) ?_
  refine tg_aload_np TLn.gn (dat dk_L_law 271 rfl) (by decide) rfl ?_
  refine tg_iload TLn.gn (dat dk_L_law 272 rfl) rfl ?_
  refine tg_iconst TLn.gn (dat dk_L_law 273 rfl) ?_
  refine tg_iadd TLn.gn (dat dk_L_law 274 rfl) ?_
  refine tln_sld hL (by omega) (by omega) (dat dk_L_law 275 rfl) ?_
  refine tg_aload_np TLn.gn (dat dk_L_law 276 rfl) (by decide) rfl ?_
  refine tg_iload TLn.gn (dat dk_L_law 277 rfl) rfl ?_
  refine tg_iconst TLn.gn (dat dk_L_law 278 rfl) ?_
  refine tg_iadd TLn.gn (dat dk_L_law 279 rfl) ?_
  refine tln_sld hL (by omega) (by omega) (dat dk_L_law 280 rfl) ?_
  refine tg_cI TLn.gn ca_c12_85 (dat dk_L_law 281 rfl) (ct_X11_at l h hI _ (sv_i32 _ _) _ (sv_i32 _ _) _ (sv_i32 _ _) _ (sv_i32 _ _) ) rfl ⟨_, _, rfl, t1⟩ rfl (fun x1 H1 rx1 p1 => ?_)
  have e0 : h = H1 := p1
  have i1 : Inv H1 := by rw [← e0]; exact hI
  have f1 : Fr [] h H1 := by rw [← e0]; exact Fr.rf [] h
  have r1 := r0.x hI f1 rfl
  have r3 := r1.2.2.1
  have r4 := r1.2.2.2
  refine tg_pop TLn.gn (dat dk_L_law 282 rfl) rfl ?_
  refine tg_aload_np TLn.gn (dat dk_L_law 283 rfl) (by decide) rfl ?_
  refine tg_aload_np TLn.gn (dat dk_L_law 284 rfl) (by decide) rfl ?_
  refine tg_iload TLn.gn (dat dk_L_law 285 rfl) rfl ?_
  refine tg_iconst TLn.gn (dat dk_L_law 286 rfl) ?_
  refine tg_iadd TLn.gn (dat dk_L_law 287 rfl) ?_
  refine tln_sld hL (by omega) (by omega) (dat dk_L_law 288 rfl) ?_
  refine tg_aload_np TLn.gn (dat dk_L_law 289 rfl) (by decide) rfl ?_
  refine tg_iload TLn.gn (dat dk_L_law 290 rfl) rfl ?_
  refine tg_iconst TLn.gn (dat dk_L_law 291 rfl) ?_
  refine tg_iadd TLn.gn (dat dk_L_law 292 rfl) ?_
  refine tln_sld hL (by omega) (by omega) (dat dk_L_law 293 rfl) ?_
  refine tg_aload_np TLn.gn (dat dk_L_law 294 rfl) (by decide) rfl ?_
  refine tg_iload TLn.gn (dat dk_L_law 295 rfl) rfl ?_
  refine tg_iconst TLn.gn (dat dk_L_law 296 rfl) ?_
  refine tg_iadd TLn.gn (dat dk_L_law 297 rfl) ?_
  refine tln_sld hL (by omega) (by omega) (dat dk_L_law 298 rfl) ?_
  refine tg_aload_np TLn.gn (dat dk_L_law 299 rfl) (by decide) rfl ?_
  refine tg_iload TLn.gn (dat dk_L_law 300 rfl) rfl ?_
  refine tg_iconst TLn.gn (dat dk_L_law 301 rfl) ?_
  refine tg_iadd TLn.gn (dat dk_L_law 302 rfl) ?_
  refine tln_sld hL (by omega) (by omega) (dat dk_L_law 303 rfl) ?_
  refine tg_cI TLn.gn ca_c12_89 (dat dk_L_law 304 rfl) (ct_X12_at l H1 i1 _ (sv_i32 _ _) _ (sv_i32 _ _) _ (sv_i32 _ _) _ (sv_i32 _ _) r1.1 (by omega)) rfl ⟨_, _, rfl, i1.atS (a := 60) rfl⟩ rfl (fun x2 H2 rx2 p2 => ?_)
  obtain ⟨i2, f2, c2⟩ := p2
  refine tg_pop TLn.gn (dat dk_L_law 305 rfl) rfl ?_
  refine tg_goto (t := 551) TLn.gn (dat dk_L_law 306 rfl) rfl ?_
  exact nxt H2 _ _ (w.s0 (mc := 0) (ms := 0) i1 f1 (w.enl f1 rfl) rfl (f1.getF hI (by decide) rfl) i2 f2 rfl c2) (te.keep hI i1 f1 f2 rfl rfl)
set_option maxRecDepth 100000 in
theorem way_count (hst0 : l.stackTraces = false) {L0 : Nat} (hL : g.2.1 91 = L0) (hL4 : L0 ≤ 384) {n k z : Nat} {h : Hp} (w : WI n k z h) (te : TE h) (hn : 6 * n + 6 ≤ L0) (nxt : ∀ (H : Hp) (k' z' : Nat), WI (n + 1) k' z' H → TE H → TW l g HB Qf (551, LLo n, [], H, k', z')) : TW l g HB Qf (526, LLo n, [], h, k, z) := by
  have hI := w.1
  have t1 := hI.atS (a := 1) rfl
  have r0 := w.2.2.1
  have ht0 := w.2.2.2.2
  have ft := w.fit (by omega)
  refine tg_aload_np TLn.gn (dat dk_L_law 307 rfl) (by decide) rfl ?_
  refine tg_aload_np TLn.gn (dat dk_L_law 308 rfl) (by decide) rfl ?_
  refine tg_iload TLn.gn (dat dk_L_law 309 rfl) rfl ?_
  refine tg_iconst TLn.gn (dat dk_L_law 310 rfl) ?_
  refine tg_iadd TLn.gn (dat dk_L_law 311 rfl) ?_
  refine tln_sld hL (by omega) (by omega) (dat dk_L_law 312 rfl) ?_
  refine tg_cIa TLn.gn ca_c12_90 (dat dk_L_law 313 rfl) (ct_X11_count_vb l h hI _ (sv_i32 _ _) w.2.1.1) rfl ⟨_, _, rfl, t1⟩ rfl (fun x1 H1 mc ms rx1 p1 => ?_)
  obtain ⟨i1, f1, e1, tp⟩ := p1
  have r1 := r0.x hI f1 rfl
  have r3 := r1.2.2.1
  have r4 := r1.2.2.2
  have b3 := i1.atR (a := 60) (j := 3) rfl
  refine tg_pop TLn.gn (dat dk_L_law 314 rfl) rfl ?_
  refine tg_aload_np TLn.gn (dat dk_L_law 315 rfl) (by decide) rfl ?_
  refine tg_aload_np TLn.gn (dat dk_L_law 316 rfl) (by decide) rfl ?_
  refine tg_iload TLn.gn (dat dk_L_law 317 rfl) rfl ?_
  refine tg_iconst TLn.gn (dat dk_L_law 318 rfl) ?_
  refine tg_iadd TLn.gn (dat dk_L_law 319 rfl) ?_
  refine tln_sld hL (by omega) (by omega) (dat dk_L_law 320 rfl) ?_
  refine tg_cI TLn.gn ca_c12_93 (dat dk_L_law 321 rfl) (ct_X12_count l H1 i1 _ (sv_i32 _ _) r1.1 (by omega) (by omega)) rfl ⟨_, _, rfl, i1.atS (a := 60) rfl⟩ rfl (fun x2 H2 rx2 p2 => ?_)
  obtain ⟨i2, f2, c2⟩ := p2
  refine tg_pop TLn.gn (dat dk_L_law 322 rfl) rfl ?_
  refine tg_goto (t := 551) TLn.gn (dat dk_L_law 323 rfl) rfl ?_
  exact nxt H2 _ _ (w.s0  i1 f1 (e1.mono (by decide) (by decide) (by decide)) rfl tp i2 f2 rfl c2) (te.keep hI i1 f1 f2 rfl rfl)
set_option maxRecDepth 100000 in
theorem law_loop (hst0 : l.stackTraces = false) {L0 : Nat} (hL : g.2.1 91 = L0) (hL4 : L0 ≤ 384) (hend : ∀ (L : LL) (H : Hp) (k z : Nat), k ≤ 600128 → z ≤ 7301098 → TW l g HB Qf (558, L, [.inl 1], H, k, z)) : ∀ (d n k z : Nat) (h : Hp), n + d = 64 → WI n k z h → TE h → TW l g HB Qf (23, LLo n, [], h, k, z) := by
  intro d
  induction d with
  | zero =>
    intro n k z h hnd w te
    have ft := w.fit (by omega)
    refine tg_iload TLn.gn (dat dk_L_law 13 rfl) rfl (tg_aload_np TLn.gn (dat dk_L_law 14 rfl) (by decide) rfl ?_)
    refine tln_slen hL (dat dk_L_law 15 rfl) (tg_bipush TLn.gn (dat dk_L_law 16 rfl) (by decide) (tg_isub TLn.gn (dat dk_L_law 17 rfl) ?_))
    refine tg_igt TLn.gn 557 (dat dk_L_law 18 rfl) rfl ⟨by omega, by omega⟩ ⟨by omega, by omega⟩ (fun c => ?_) (fun c => ?_)
    · exact tg_iconst TLn.gn (dat dk_L_law 326 rfl) (hend _ _ _ _ ft.1 ft.2.1)
    · exfalso
      omega
  | succ d ih =>
    intro n k z h hnd w te
    have ft := w.fit (by omega)
    refine tg_iload TLn.gn (dat dk_L_law 13 rfl) rfl (tg_aload_np TLn.gn (dat dk_L_law 14 rfl) (by decide) rfl ?_)
    refine tln_slen hL (dat dk_L_law 15 rfl) (tg_bipush TLn.gn (dat dk_L_law 16 rfl) (by decide) (tg_isub TLn.gn (dat dk_L_law 17 rfl) ?_))
    refine tg_igt TLn.gn 557 (dat dk_L_law 18 rfl) rfl ⟨by omega, by omega⟩ ⟨by omega, by omega⟩ (fun c => ?_) (fun c => ?_)
    · exact tg_iconst TLn.gn (dat dk_L_law 326 rfl) (hend _ _ _ _ ft.1 ft.2.1)
    have hn : 6 * n + 6 ≤ L0 := by omega
    have nxt : ∀ (H : Hp) (k' z' : Nat), WI (n + 1) k' z' H → TE H → TW l g HB Qf (551, LLo n, [], H, k', z') := fun H k' z' w' te2 => by
      refine tg_iinc TLn.gn (L' := LLo (n + 1)) (dat dk_L_law 324 rfl) rfl (by decide) ?_ (tg_goto (t := 23) TLn.gn (dat dk_L_law 325 rfl) rfl (ih (n + 1) k' z' H (by omega) w' te2))
      have e : 6 * (n : Int) + 6 = 6 * ((n + 1 : Nat) : Int) := by omega
      show ups 4 (.inl (6 * (n : Int) + 6)) (LLo n) = LLo (n + 1)
      rw [e]
      rfl
    refine tg_aload_np TLn.gn (dat dk_L_law 19 rfl) (by decide) rfl (tg_iload TLn.gn (dat dk_L_law 20 rfl) rfl ?_)
    refine tln_sld hL (by omega) (by omega) (dat dk_L_law 21 rfl) (tg_bipush TLn.gn (dat dk_L_law 22 rfl) (by decide) ?_)
    refine tg_iand TLn.gn 15 15 (dat dk_L_law 23 rfl) (by decide +kernel) (by decide) (fun y hy h15 => ?_)
    refine tg_table TLn.gn (d := 551) (ts := [108, 179, 204, 220, 245, 336, 352, 365, 390, 403, 428, 465, 526]) (dat dk_L_law 24 rfl) rfl rfl rfl hy (fun c => ?_) ⟨fun c => ?_, fun c => ?_, fun c => ?_, fun c => ?_, fun c => ?_, fun c => ?_, fun c => ?_, fun c => ?_, fun c => ?_, fun c => ?_, fun c => ?_, fun c => ?_, fun c => ?_, trivial⟩
    · exact nxt _ _ _ w.skip te
    · exact way_feed hst0 hL hL4 w te hn nxt
    · exact way_end hst0 hL hL4 w te hn nxt
    · exact way_add hst0 hL hL4 w te hn nxt
    · exact way_remove hst0 hL hL4 w te hn nxt
    · exact way_tag hst0 hL hL4 w te hn nxt
    · exact way_search hst0 hL hL4 w te hn nxt
    · exact way_fault hst0 hL hL4 w te hn nxt
    · exact way_found hst0 hL hL4 w te hn nxt
    · exact way_conversations hst0 hL hL4 w te hn nxt
    · exact way_thread hst0 hL hL4 w te hn nxt
    · exact way_about hst0 hL hL4 w te hn nxt
    · exact way_at hst0 hL hL4 w te hn nxt
    · exact way_count hst0 hL hL4 w te hn nxt
end LOOP
