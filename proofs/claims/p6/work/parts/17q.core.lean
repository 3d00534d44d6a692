/-! The two answers to tag are alike, and the world stays. -/
/-- what the class's tag leaves, by way of the law's helper: n0 says which end -/
def COUT (h H : Hp) (n b n0 : Int) : Prop := ∃ Hc : Hp, Inv Hc ∧ Fr [105, 999] Hc H ∧ ((n0 = 0 ∧ ∃ x : Int, H.2.2 105 0 = x ∧ TGN h Hc n b x) ∨ (n0 = 1 ∧ TGT h Hc n b IOB) ∨ (n0 = 2 ∧ TGT h Hc n b IAE) ∨ (n0 = 3 ∧ TGT h Hc n b ISE))
theorem TGW.same {S : List Nat} {h H : Hp} (t : TGW h) (hI : Inv h) (f : Fr S h H) (s1 : b20 S = true) (s2 : m6c S = true) (sl : (no2 26 313 S && no2 330 330 S) = true) (e66 : H.2.2 66 = h.2.2 66) (e67 : H.2.2 67 = h.2.2 67) (e68 : H.2.2 68 = h.2.2 68) : TGW H := by
  rw [Bool.and_eq_true] at sl
  obtain ⟨a26, a313⟩ := no2_of sl.1
  obtain ⟨a330, -⟩ := no2_of sl.2
  have tp := t.tgp
  obtain ⟨b0, t1, t2⟩ := t
  obtain ⟨b1, bx⟩ := BI.fr f hI s1 b0
  have hl : (!S.contains 26 && !S.contains 313) = true := by rw [a26, a313]; rfl
  have hn : nums H = nums h := nums_fr f hI (by rw [a26, a313, a330]; rfl)
  have f26 : H.2.2 26 2 = h.2.2 26 2 := f.2.1 26 2 (hI.ltN (hI.atS (a := 26) rfl)) a26
  refine ⟨b1, fun j M m hj hM hm => ?_, fun j j' M M' hj hj' hne hM hM' => ?_⟩
  · rw [f26] at hj
    rw [elS_fr f hI hl hj] at hM
    rw [hn] at hm
    have q := msg_fr f hI (full_at hI hj hM) (tp j M hj hM) s2
    have e := tsb_same e66 e67
    exact (t1 j M m hj hM hm).mv q.2.1 q.2.2.1 q.2.2.2 bx (by unfold tcn; rw [e68]) (fun t _ _ => ⟨e.2 _, fun i _ => e.1 _ i⟩)
  · rw [f26] at hj hj'
    rw [elS_fr f hI hl hj] at hM
    rw [elS_fr f hI hl hj'] at hM'
    rw [(msg_fr f hI (full_at hI hj hM) (tp j M hj hM) s2).1, (msg_fr f hI (full_at hI hj' hM') (tp j' M' hj' hM') s2).1]
    exact t2 j j' M M' hj hj' hne hM hM'
theorem own_row {h2 Hc H2 : Hp} {M : Nat} (I2 : Inv h2) (fm2 : full h2 M) (t8 : T8 h2 M) (on : Only h2 Hc M) (Ic : Inv Hc) (f3 : Fr SF3 Hc H2) : T8 H2 M ∧ H2.2.2 M 7 = Hc.2.2 M 7 ∧ ∀ j : Int, tgr H2 M j = Hc.2.2 (h2.2.2 M 6).toNat j.toNat := by
  have f2 := Only.fr on I2 fm2 t8
  have a := T8.fr f2 I2 fm2 t8 rfl
  have q := msg_fr f3 Ic (full.fr f2 rfl I2 fm2) a rfl
  have k6 : Hc.2.2 M 6 = h2.2.2 M 6 := by
    obtain ⟨T, a6, bT, tT⟩ := t8
    refine on.1 M 6 (fun e => ?_) (Or.inr (by decide))
    rw [a6, Int.toNat_natCast] at e
    have q := fm2.1
    rw [e] at q
    cases q.symm.trans tT
  refine ⟨q.2.2.1, q.2.1, fun j => ?_⟩
  rw [q.2.2.2 j]
  unfold tgr
  rw [k6]
/-- both sides, the tape taken -/
def PRE (h1 H1 : Hp) (n : Int) : Prop := TGW h1 ∧ (nums h1).Pairwise (· < ·) ∧ (∀ m ∈ nums h1, 0 ≤ m) ∧ EqT (h1.2.2 7) (h1.2.2 6 1) (H1.2.2 62) (H1.2.2 60 3) ∧ (H1.2.2 66 = h1.2.2 66 ∧ H1.2.2 67 = h1.2.2 67 ∧ H1.2.2 68 = h1.2.2 68) ∧ (isThereP H1 n ↔ n ∈ nums h1)
theorem tgpre_of {h h1 H1 : Hp} {n : Int} (hI : Inv h) (tw : TGW h) (tp : TP h) (cor : Cor h) (ht : h.2.2 4 1 = h.2.2 60 3) (f1 : Fr STAG h H1) (t : TTx h h1) : PRE h1 H1 n := by
  obtain ⟨I1, ft, t1, t2⟩ := t
  have nn : nums h1 = nums h := nums_fr ft hI rfl
  have e603 : H1.2.2 60 3 = h.2.2 60 3 := f1.getF hI (a := 60) (j := 3) (by decide) rfl
  have e604 : H1.2.2 60 4 = h.2.2 60 4 := f1.getF hI (a := 60) (j := 4) (by decide) rfl
  have e62 : H1.2.2 62 = h.2.2 62 := f1.arr hI (a := 62) (by decide) (fun _ => rfl)
  have e65 : H1.2.2 65 = h.2.2 65 := f1.arr hI (a := 65) (by decide) (fun _ => rfl)
  refine ⟨tw.fr hI ft rfl, by rw [nn]; exact cor.1, fun m hm => (cor.2.1 m (by rw [← nn]; exact hm)).1, ⟨by omega, fun i hi => ?_⟩, ⟨?_, ?_, ?_⟩, ?_⟩
  · rw [e62, t1 i (by omega)]
    exact tp i (by omega)
  · exact (f1.arr hI (a := 66) (by decide) (fun _ => rfl)).trans (ft.arr hI (a := 66) (by decide) (fun _ => rfl)).symm
  · exact (f1.arr hI (a := 67) (by decide) (fun _ => rfl)).trans (ft.arr hI (a := 67) (by decide) (fun _ => rfl)).symm
  · exact (f1.arr hI (a := 68) (by decide) (fun _ => rfl)).trans (ft.arr hI (a := 68) (by decide) (fun _ => rfl)).symm
  · rw [nn, cor.there]
    unfold isThereP
    rw [e604, e65]
theorem tag_core {h H1 H2 : Hp} {n b x2 n0 : Int} (hI : Inv h) (tw : TGW h) (tp : TP h) (cor : Cor h) (ht : h.2.2 4 1 = h.2.2 60 3) (f1 : Fr STAG h H1) (i1 : Inv H1) (co : COUT h H1 n b n0) (f2 : Fr [200, 203, 66, 67, 68] H1 H2) (tr : TGR H1 H2 n b x2 (H1.2.2 60 3)) : H2.2.2 60 0 = n0 ∧ (n0 = 0 → H2.2.2 105 0 = x2) ∧ TGW H2 := by
  obtain ⟨Hc, Ic, fc, co⟩ := co
  have f3 : Fr SF3 Hc H2 := Fr.sub (Fr.sub (Fr.rf _ _) fc rfl) f2 rfl
  have e105 : H2.2.2 105 0 = H1.2.2 105 0 := f2.getF i1 (by decide) rfl
  -- nothing has changed
  have nix : ∀ h1 : Hp, Inv h1 → h1 = Hc → PRE h1 H1 n → Unr H1 H2 → TGW H2 := by
    rintro h1 I1 rfl ⟨w1, -, -, -, ⟨e6, e7, e8⟩, -⟩ ⟨u6, u7, u8⟩
    exact w1.same I1 f3 rfl rfl rfl (u6.trans e6) (u7.trans e7) (u8.trans e8)
  rcases co with ⟨c0, x, cx, h1, i, M, nm, tt, tm, tg, tf, co⟩ | ⟨c0, tt, co⟩ | ⟨c0, tt, co⟩ | ⟨c0, tt, co⟩
  · have pre := tgpre_of (n := n) hI tw tp cor ht f1 tt
    obtain ⟨w1, pw, p0, eR, ⟨e6, e7, e8⟩, th⟩ := id pre
    have I1 := tt.1
    have hn : n ∈ nums h1 := List.mem_of_getElem? tm.2.1
    have isT : isThereP H1 n := th.mpr hn
    have n0' := p0 n hn
    have tg' := (isTg.cg eR).mp tg
    have tgm := w1.2.1 _ M n (nums_lt tm.2.1) tm.2.2.1 tm.2.1
    have has := tgm.has w1.1 tf
    have so : SoT h1 n := tgm.2.2.2.2.2
    have c7 := tgm.2.1
    rcases tr with ⟨-, q, -⟩ | ⟨-, -, q, -⟩ | ⟨-, -, t, ta, tr⟩
    · exact absurd isT q
    · exact absurd tg' q
    have ta1 : TAx h1 n (H1.2.2 62) (H1.2.2 60 3) t := TAx.cg e6 e7 e8 ta
    have k1 : 0 ≤ t ↔ InR h1 n (h1.2.2 7) (h1.2.2 6 1) := (ta1.iff so).trans (InR.cgR eR).symm
    have tcn1 : tcn H1 n = tcn h1 n := by unfold tcn; rw [e8]
    rcases co with ⟨x0, eH, co⟩ | ⟨x1, o0, k2, k3, dr⟩ | ⟨x1, o1, k2, k7, h2, k, I2, fe, ⟨b2, bx2, kk0, kk1, ek⟩, pu⟩
    · -- nothing is to be done
      rcases tr with ⟨r0, r1, r2, r3, -⟩ | ⟨r0, r1, r2, un⟩ | ⟨r0, r1, r2, r3, -⟩ | ⟨r0, r1, r2, r3, -⟩
      · exfalso
        rcases co with ⟨-, c1, c2⟩ | ⟨c1, -⟩
        · have := k1.mpr (has.mp ⟨c1, c2⟩)
          omega
        · omega
      · exact ⟨by omega, fun _ => by omega, nix h1 I1 eH.symm pre un⟩
      · exfalso
        rcases co with ⟨c1, -⟩ | ⟨-, c1⟩
        · omega
        · have := has.mpr (k1.mp r3)
          exact c1.elim (fun c1 => this.1 c1) (fun c1 => c1 this.2)
      · exfalso
        rcases co with ⟨-, c1, c2⟩ | ⟨c1, -⟩
        · have := k1.mpr (has.mp ⟨c1, c2⟩)
          omega
        · omega
    · -- it goes
      have t0 := k1.mpr (has.mp ⟨k2, k3⟩)
      rcases tr with ⟨r0, r1, r2, r3, -⟩ | ⟨r0, r1, r2, -⟩ | ⟨r0, r1, r2, r3, rr⟩ | ⟨r0, r1, r2, r3, -⟩
      · omega
      · omega
      · refine ⟨by omega, fun _ => by omega, ?_⟩
        have rr1 : Rrem h1 H2 n t := Rrem.cg e6 e7 e8 rr
        obtain ⟨p, hp, ep, row, e7', on⟩ := dr
        have t8 := tgm.1
        have ow := own_row I1 tm.2.2.2 t8 on Ic f3
        have es : t < tcn h1 n ∧ EqG h1 (8 * n + t) (H1.2.2 62) (H1.2.2 60 3) := by
          rcases ta1 with ⟨-, q1, q2⟩ | ⟨q, -⟩
          · exact ⟨q1, q2⟩
          · omega
        have enm : EqB h1 nm (H1.2.2 62) (H1.2.2 60 3) := by
          rcases tf with ⟨q, -⟩ | ⟨-, -, q⟩
          · exact absurd q k2
          · exact EqT.tr q eR
        refine TGW.step w1 I1 tm pw I1 (Fr.rf _ _) w1.1 BX.rf on Ic f3 (fun m hm hne => rr1.oth I1 n0' t0 (p0 m hm) hne) (fun bx => ?_)
        exact tgm.drop I1 w1.1 bx ow.1 hp ep (fun j j0 j1 => by rw [ow.2.2 j]; exact row j j0 j1) (by omega) n0' rr1 ⟨t0, es.1⟩ es.2 enm
      · omega
    · -- it comes
      have no : ¬ InR h1 n (h1.2.2 7) (h1.2.2 6 1) := fun q => by
        have := has.mpr q
        exact k2.elim (fun c1 => this.1 c1) (fun c1 => c1 this.2)
      have t0 : t < 0 := by
        by_cases c : 0 ≤ t
        · exact absurd (k1.mp c) no
        · omega
      rcases tr with ⟨r0, r1, r2, r3, -⟩ | ⟨r0, r1, r2, -⟩ | ⟨r0, r1, r2, r3, -⟩ | ⟨r0, r1, r2, r3, r4, rr⟩
      · omega
      · omega
      · omega
      · refine ⟨by omega, fun _ => by omega, ?_⟩
        have rr1 : Rins h1 H2 n (-1 - t) (H1.2.2 62) (H1.2.2 60 3) := Rins.cg e6 e7 e8 rr
        obtain ⟨p, hp, row, e7', on⟩ := pu
        have q2 := msg_fr fe I1 tm.2.2.2 tgm.1 rfl
        have fm2 := full.fr fe rfl I1 tm.2.2.2
        have ow := own_row I2 fm2 q2.2.2.1 on Ic f3
        have fo := Only.fr on I2 fm2 q2.2.2.1
        obtain ⟨b3, bx3⟩ := BI.fr fo I2 rfl b2
        obtain ⟨b4, bx4⟩ := BI.fr f3 Ic rfl b3
        have bx5 := bx3.tr bx4
        have ta2 : -1 - t ≤ tcn h1 n ∧ (∀ s : Int, 0 ≤ s → s < -1 - t → LtT (tb h1 (8 * n + s)) (ts h1 (8 * n + s)) (H1.2.2 62) (H1.2.2 60 3)) ∧ (-1 - t = tcn h1 n ∨ LtT (H1.2.2 62) (H1.2.2 60 3) (tb h1 (8 * n + (-1 - t))) (ts h1 (8 * n + (-1 - t)))) := by
          rcases ta1 with ⟨q, -⟩ | ⟨-, q⟩
          · omega
          · exact q
        have c72 := q2.2.1
        refine TGW.step w1 I1 tm pw I2 fe b2 bx2 on Ic f3 (fun m hm hne => rr1.oth I1 n0' ⟨by omega, ta2.1⟩ (by omega) (p0 m hm) hne) (fun bx => ?_)
        have ek2 : EqB H2 k (H1.2.2 62) (H1.2.2 60 3) := (bx5.eq ⟨kk0, kk1⟩).mpr (EqT.tr ek eR)
        have b5 := bx5.1
        refine tgm.put (p := p) I1 bx ow.1 (by omega) (k := k) ⟨kk0, by omega⟩ ek2 (fun j j0 j1 => ?_) (by omega) n0' rr1 (fun q => no ((InR.cgR eR).mpr q)) ⟨by omega, ta2.1⟩ ta2.2.1 ta2.2.2
        rw [ow.2.2 j, row j j0 (by omega), q2.2.2.2, q2.2.2.2]
  · have pre := tgpre_of (n := n) hI tw tp cor ht f1 tt
    obtain ⟨w1, pw, p0, eR, ⟨e6, e7, e8⟩, th⟩ := id pre
    have nin : n ∉ nums Hc := by
      rcases co with ⟨-, q⟩ | ⟨i, M, -, ⟨q, -⟩ | ⟨q, -⟩⟩
      · exact q
      · exact absurd q (by decide)
      · exact absurd q (by decide)
    have nth : ¬ isThereP H1 n := fun q => nin (th.mp q)
    rcases tr with ⟨r0, -, un⟩ | ⟨-, q, -⟩ | ⟨q, -⟩
    · exact ⟨by omega, fun q => by omega, nix Hc tt.1 rfl pre un⟩
    · exact absurd q nth
    · exact absurd q nth
  · have pre := tgpre_of (n := n) hI tw tp cor ht f1 tt
    obtain ⟨w1, pw, p0, eR, ⟨e6, e7, e8⟩, th⟩ := id pre
    obtain ⟨i, M, tm, nt⟩ : ∃ (i : Int) (M : Nat), TM Hc n i M ∧ ¬ isTg (Hc.2.2 7) (Hc.2.2 6 1) := by
      rcases co with ⟨q, -⟩ | ⟨i, M, tm, ⟨-, q⟩ | ⟨q, -⟩⟩
      · exact absurd q (by decide)
      · exact ⟨i, M, tm, q⟩
      · exact absurd q (by decide)
    have isT : isThereP H1 n := th.mpr (List.mem_of_getElem? tm.2.1)
    rcases tr with ⟨-, q, -⟩ | ⟨r0, -, -, un⟩ | ⟨-, q, -⟩
    · exact absurd isT q
    · exact ⟨by omega, fun q => by omega, nix Hc tt.1 rfl pre un⟩
    · exact absurd ((isTg.cg eR).mpr q) nt
  · have pre := tgpre_of (n := n) hI tw tp cor ht f1 tt
    obtain ⟨w1, pw, p0, eR, ⟨e6, e7, e8⟩, th⟩ := id pre
    obtain ⟨i, M, tm, tg, o1, k8, nm, tf, k2⟩ : ∃ (i : Int) (M : Nat), TM Hc n i M ∧ isTg (Hc.2.2 7) (Hc.2.2 6 1) ∧ b = 1 ∧ 8 ≤ Hc.2.2 M 7 ∧ ∃ nm : Int, TF Hc nm ∧ (nm = -1 ∨ ¬ InN Hc M nm) := by
      rcases co with ⟨q, -⟩ | ⟨i, M, tm, ⟨q, -⟩ | ⟨-, q⟩⟩
      · exact absurd q (by decide)
      · exact absurd q (by decide)
      · exact ⟨i, M, tm, q⟩
    have isT : isThereP H1 n := th.mpr (List.mem_of_getElem? tm.2.1)
    have tgm := w1.2.1 _ M n (nums_lt tm.2.1) tm.2.2.1 tm.2.1
    have has := tgm.has w1.1 tf
    have c7 := tgm.2.1
    have c8 := tc8 tt.1 n
    rcases tr with ⟨-, q, -⟩ | ⟨-, -, q, -⟩ | ⟨-, -, t, ta, tr⟩
    · exact absurd isT q
    · exact absurd ((isTg.cg eR).mp tg) q
    have ta1 : TAx Hc n (H1.2.2 62) (H1.2.2 60 3) t := TAx.cg e6 e7 e8 ta
    have k1 : 0 ≤ t ↔ InR Hc n (Hc.2.2 7) (Hc.2.2 6 1) := (ta1.iff tgm.2.2.2.2.2).trans (InR.cgR eR).symm
    have t0 : t < 0 := by
      by_cases c : 0 ≤ t
      · have := has.mpr (k1.mp c)
        exact (k2.elim (fun c1 => this.1 c1) (fun c1 => c1 this.2)).elim
      · omega
    have tcn1 : tcn H1 n = tcn Hc n := by unfold tcn; rw [e8]
    rcases tr with ⟨r0, r1, r2, r3, un⟩ | ⟨r0, r1, r2, -⟩ | ⟨r0, r1, r2, r3, -⟩ | ⟨r0, r1, r2, r3, r4, rr⟩
    · exact ⟨by omega, fun q => by omega, nix Hc tt.1 rfl pre un⟩
    · omega
    · omega
    · omega
