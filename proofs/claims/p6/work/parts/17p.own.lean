/-! The message's own tags, when one goes or comes. -/
theorem ts12 {h : Hp} (hI : Inv h) (g : Int) : ts h g ≤ 12 := (hI.atR (a := 67) (j := Int.toNat g) rfl).2
theorem tc8 {h : Hp} (hI : Inv h) (m : Int) : 0 ≤ tcn h m ∧ tcn h m ≤ 8 := hI.atR (a := 68) (j := Int.toNat m) rfl
theorem Rrem.cg {h h' H : Hp} {m t : Int} (e6 : h'.2.2 66 = h.2.2 66) (e7 : h'.2.2 67 = h.2.2 67) (e8 : h'.2.2 68 = h.2.2 68) (r : Rrem h' H m t) : Rrem h H m t := by
  unfold Rrem tb ts tcn at r ⊢
  rw [e6, e7, e8] at r
  exact r
theorem Rins.cg {h h' H : Hp} {m p n : Int} {r : Nat → Int} (e6 : h'.2.2 66 = h.2.2 66) (e7 : h'.2.2 67 = h.2.2 67) (e8 : h'.2.2 68 = h.2.2 68) (q : Rins h' H m p r n) : Rins h H m p r n := by
  unfold Rins tb ts tcn at q ⊢
  rw [e6, e7, e8] at q
  exact q
theorem TAx.cg {h h' : Hp} {m n x : Int} {r : Nat → Int} (e6 : h'.2.2 66 = h.2.2 66) (e7 : h'.2.2 67 = h.2.2 67) (e8 : h'.2.2 68 = h.2.2 68) (q : TAx h' m r n x) : TAx h m r n x := by
  unfold TAx EqG tb ts tcn at q ⊢
  rw [e6, e7, e8] at q
  exact q
theorem TAx.cgR {h : Hp} {m n n' x : Int} {r r' : Nat → Int} (e : EqT r n r' n') (q : TAx h m r n x) : TAx h m r' n' x := by
  rcases q with ⟨a, b, c⟩ | ⟨a, b, c, d⟩
  · exact Or.inl ⟨a, b, EqT.tr c e⟩
  · exact Or.inr ⟨a, b, fun t t0 t1 => (c t t0 t1).eqR e.sy, d.elim Or.inl (fun d => Or.inr (d.eqL e.sy))⟩
theorem Rrem.own {h H : Hp} {m t : Int} (r : Rrem h H m t) (hI : Inv h) (hm : 0 ≤ m) (s : Int) (s0 : 0 ≤ s) (s1 : s < tcn h m - 1) : EqT (tb H (8 * m + s)) (ts H (8 * m + s)) (tb h (8 * m + (if s < t then s else s + 1))) (ts h (8 * m + (if s < t then s else s + 1))) := by
  have e : ts H (8 * m + s) = ts h (8 * m + (if s < t then s else s + 1)) := by
    rw [r.2.1 _ (by omega)]
    by_cases c : s < t
    · rw [if_pos c, if_neg (by omega)]
    · rw [if_neg c, if_pos (by omega)]
      congr 1
      omega
  refine ⟨e, fun i hi => ?_⟩
  have := ts12 hI (8 * m + (if s < t then s else s + 1))
  rw [r.1 _ i (by omega) (by omega)]
  by_cases c : s < t
  · rw [if_pos c, if_neg (by omega)]
  · rw [if_neg c, if_pos (by omega)]
    congr 1
    omega
theorem Rrem.oth {h H : Hp} {m t m' : Int} (r : Rrem h H m t) (hI : Inv h) (hm : 0 ≤ m) (ht : 0 ≤ t) (hm' : 0 ≤ m') (hne : m' ≠ m) : tcn H m' = tcn h m' ∧ ∀ s : Int, 0 ≤ s → s < tcn h m' → EqT (tb H (8 * m' + s)) (ts H (8 * m' + s)) (tb h (8 * m' + s)) (ts h (8 * m' + s)) := by
  have k8 := tc8 hI m
  have k9 := tc8 hI m'
  refine ⟨by rw [r.2.2 m' hm', if_neg hne], fun s s0 s1 => ?_⟩
  have e : ts H (8 * m' + s) = ts h (8 * m' + s) := by rw [r.2.1 _ (by omega), if_neg (by omega)]
  refine ⟨e, fun i hi => ?_⟩
  have := ts12 hI (8 * m' + s)
  rw [r.1 _ i (by omega) (by omega), if_neg (by omega)]
theorem Rins.own {h H : Hp} {m p n : Int} {r : Nat → Int} (q : Rins h H m p r n) (hI : Inv h) (hm : 0 ≤ m) (hp : 0 ≤ p) (s : Int) (s0 : 0 ≤ s) (s1 : s ≤ tcn h m) (sp : s ≠ p) : EqT (tb H (8 * m + s)) (ts H (8 * m + s)) (tb h (8 * m + (if s < p then s else s - 1))) (ts h (8 * m + (if s < p then s else s - 1))) := by
  have e : ts H (8 * m + s) = ts h (8 * m + (if s < p then s else s - 1)) := by
    rw [q.2.1 _ (by omega) (by omega)]
    by_cases c : s < p
    · rw [if_pos c, if_neg (by omega)]
    · rw [if_neg c, if_pos (by omega)]
      congr 1
      omega
  refine ⟨e, fun i hi => ?_⟩
  have := ts12 hI (8 * m + (if s < p then s else s - 1))
  rw [q.1 _ i (by omega) (by omega) (by omega)]
  by_cases c : s < p
  · rw [if_pos c, if_neg (by omega)]
  · rw [if_neg c, if_pos (by omega)]
    congr 1
    omega
theorem Rins.new {h H : Hp} {m p n : Int} {r : Nat → Int} (q : Rins h H m p r n) : EqT (tb H (8 * m + p)) (ts H (8 * m + p)) r n := ⟨q.2.2.1.2, fun i hi => q.2.2.1.1 i (by have := q.2.2.1.2; omega)⟩
theorem Rins.oth {h H : Hp} {m p n m' : Int} {r : Nat → Int} (q : Rins h H m p r n) (hI : Inv h) (hm : 0 ≤ m) (hp : 0 ≤ p ∧ p ≤ tcn h m) (h8 : tcn h m ≠ 8) (hm' : 0 ≤ m') (hne : m' ≠ m) : tcn H m' = tcn h m' ∧ ∀ s : Int, 0 ≤ s → s < tcn h m' → EqT (tb H (8 * m' + s)) (ts H (8 * m' + s)) (tb h (8 * m' + s)) (ts h (8 * m' + s)) := by
  have k8 := tc8 hI m
  have k9 := tc8 hI m'
  refine ⟨by rw [q.2.2.2 m' hm', if_neg hne], fun s s0 s1 => ?_⟩
  have e : ts H (8 * m' + s) = ts h (8 * m' + s) := by rw [q.2.1 _ (by omega) (by omega), if_neg (by omega)]
  refine ⟨e, fun i hi => ?_⟩
  have := ts12 hI (8 * m' + s)
  rw [q.1 _ i (by omega) (by omega) (by omega), if_neg (by omega)]
theorem SoT.one {h : Hp} {m u v n : Int} {r : Nat → Int} (s : SoT h m) (hu : 0 ≤ u ∧ u < tcn h m) (hv : 0 ≤ v ∧ v < tcn h m) (eu : EqG h (8 * m + u) r n) (ev : EqG h (8 * m + v) r n) : u = v := by
  by_cases c : u < v
  · exact absurd (EqT.tr eu (EqT.sy ev)) (s u v hu.1 c hv.2).ne
  · by_cases d : v < u
    · exact absurd (EqT.tr ev (EqT.sy eu)) (s v u hv.1 d hu.2).ne
    · omega
theorem TGM.drop {h H : Hp} {M : Nat} {m p nm s n0 : Int} {r0 : Nat → Int} (t : TGM h M m) (hI : Inv h) (b : BI h) (bx : BX h H) (t8 : T8 H M) (hp : 0 ≤ p ∧ p < h.2.2 M 7) (ep : tgr h M p = nm) (row : ∀ j : Int, 0 ≤ j → j < h.2.2 M 7 - 1 → tgr H M j = if j < p then tgr h M j else tgr h M (j + 1)) (e7 : H.2.2 M 7 = h.2.2 M 7 - 1) (hm : 0 ≤ m) (rr : Rrem h H m s) (hs : 0 ≤ s ∧ s < tcn h m) (es : EqG h (8 * m + s) r0 n0) (enm : EqB h nm r0 n0) : TGM H M m := by
  obtain ⟨-, t1, t2, t3, t4, t5⟩ := t
  have c : tcn H m = tcn h m - 1 := by rw [rr.2.2 m hm, if_pos rfl]
  have sl := rr.own hI hm
  have b1 := bx.1
  refine ⟨t8, by omega, fun j j0 j1 => ?_, fun j j' j0 jj j1 => ?_, fun r n => ⟨fun ⟨j, j0, j1, e⟩ => ?_, fun ⟨u, u0, u1, eu⟩ => ?_⟩, fun u v u0 uv v1 => ?_⟩
  · rw [row j j0 (by omega)]
    by_cases d : j < p
    · rw [if_pos d]
      have := t2 j j0 (by omega)
      omega
    · rw [if_neg d]
      have := t2 (j + 1) (by omega) (by omega)
      omega
  · rw [row j j0 (by omega), row j' (by omega) (by omega)]
    by_cases d : j < p
    · rw [if_pos d]
      by_cases d' : j' < p
      · rw [if_pos d']
        exact t3 j j' j0 jj (by omega)
      · rw [if_neg d']
        exact t3 j (j' + 1) j0 (by omega) (by omega)
    · rw [if_neg d, if_neg (by omega)]
      exact t3 (j + 1) (j' + 1) (by omega) (by omega) (by omega)
  · obtain ⟨j', k0, k1, k2, ej⟩ : ∃ j' : Int, 0 ≤ j' ∧ j' < h.2.2 M 7 ∧ j' ≠ p ∧ tgr H M j = tgr h M j' := by
      by_cases d : j < p
      · exact ⟨j, j0, by omega, by omega, by rw [row j j0 (by omega), if_pos d]⟩
      · exact ⟨j + 1, by omega, by omega, by omega, by rw [row j j0 (by omega), if_neg d]⟩
    rw [ej] at e
    have e' := (bx.eq (t2 j' k0 k1)).mp e
    obtain ⟨u, u0, u1, eu⟩ := (t4 r n).mp ⟨j', k0, k1, e'⟩
    have us : u ≠ s := fun q => by
      rw [q] at eu
      have x := EqT.tr (EqT.sy eu) es
      have y := b.one (t2 j' k0 k1) (by rw [← ep]; exact t2 p hp.1 hp.2) (EqT.tr e' x) enm
      rw [← ep] at y
      by_cases d : j' < p
      · exact t3 j' p k0 d hp.2 y
      · exact t3 p j' hp.1 (by omega) k1 y.symm
    by_cases d : u < s
    · refine ⟨u, u0, by omega, ?_⟩
      have z := sl u u0 (by omega)
      rw [if_pos d] at z
      exact EqT.tr z eu
    · refine ⟨u - 1, by omega, by omega, ?_⟩
      have z := sl (u - 1) (by omega) (by omega)
      rw [if_neg (by omega), show u - 1 + 1 = u by omega] at z
      exact EqT.tr z eu
  · obtain ⟨u', w0, w1, w2, ez⟩ : ∃ u' : Int, 0 ≤ u' ∧ u' < tcn h m ∧ u' ≠ s ∧ EqG h (8 * m + u') r n := by
      have z := sl u u0 (by omega)
      by_cases d : u < s
      · rw [if_pos d] at z
        exact ⟨u, u0, by omega, by omega, EqT.tr (EqT.sy z) eu⟩
      · rw [if_neg d] at z
        exact ⟨u + 1, by omega, by omega, by omega, EqT.tr (EqT.sy z) eu⟩
    obtain ⟨j', k0, k1, e⟩ := (t4 r n).mpr ⟨u', w0, w1, ez⟩
    have jp : j' ≠ p := fun q => by
      rw [q, ep] at e
      have x := EqT.tr (EqT.sy e) enm
      exact w2 (t5.one ⟨w0, w1⟩ hs (EqT.tr ez x) es)
    by_cases d : j' < p
    · refine ⟨j', k0, by omega, ?_⟩
      rw [row j' k0 (by omega), if_pos d]
      exact (bx.eq (t2 j' k0 k1)).mpr e
    · refine ⟨j' - 1, by omega, by omega, ?_⟩
      rw [row (j' - 1) (by omega) (by omega), if_neg (by omega), show j' - 1 + 1 = j' by omega]
      exact (bx.eq (t2 j' k0 k1)).mpr e
  · refine ((t5 (if u < s then u else u + 1) (if v < s then v else v + 1) (by split <;> omega) (by split <;> split <;> omega) (by split <;> omega)).eqL (sl u u0 (by omega))).eqR (sl v (by omega) (by omega))
theorem TGM.put {h H : Hp} {M : Nat} {m p k q n0 : Int} {r0 : Nat → Int} (t : TGM h M m) (hI : Inv h) (bx : BX h H) (t8 : T8 H M) (hp : 0 ≤ p ∧ p ≤ h.2.2 M 7) (hk : 0 ≤ k ∧ k < bE H) (ek : EqB H k r0 n0) (row : ∀ j : Int, 0 ≤ j → j ≤ h.2.2 M 7 → tgr H M j = if j = p then k else if p < j then tgr h M (j - 1) else tgr h M j) (e7 : H.2.2 M 7 = h.2.2 M 7 + 1) (hm : 0 ≤ m) (rr : Rins h H m q r0 n0) (no : ¬ InR h m r0 n0) (hq : 0 ≤ q ∧ q ≤ tcn h m) (lo : ∀ s : Int, 0 ≤ s → s < q → LtT (tb h (8 * m + s)) (ts h (8 * m + s)) r0 n0) (hi : q = tcn h m ∨ LtT r0 n0 (tb h (8 * m + q)) (ts h (8 * m + q))) : TGM H M m := by
  obtain ⟨-, t1, t2, t3, t4, t5⟩ := t
  have c : tcn H m = tcn h m + 1 := by rw [rr.2.2.2 m hm, if_pos rfl]
  have sl := rr.own hI hm hq.1
  have sn := rr.new
  have b1 := bx.1
  have kn : ∀ j : Int, 0 ≤ j → j < h.2.2 M 7 → tgr h M j ≠ k := fun j j0 j1 e => by
    refine no ((t4 _ _).mp ⟨j, j0, j1, ?_⟩)
    exact (bx.eq (t2 j j0 j1)).mp (by rw [e]; exact ek)
  have gt : ∀ s : Int, q ≤ s → s < tcn h m → LtT r0 n0 (tb h (8 * m + s)) (ts h (8 * m + s)) := fun s s0 s1 => by
    rcases hi with hi | hi
    · omega
    · by_cases d : s = q
      · rw [d]
        exact hi
      · exact hi.tr (t5 q s hq.1 (by omega) s1)
  refine ⟨t8, by omega, fun j j0 j1 => ?_, fun j j' j0 jj j1 => ?_, fun r n => ⟨fun ⟨j, j0, j1, e⟩ => ?_, fun ⟨u, u0, u1, eu⟩ => ?_⟩, fun u v u0 uv v1 => ?_⟩
  · rw [row j j0 (by omega)]
    by_cases d : j = p
    · rw [if_pos d]
      exact hk
    · rw [if_neg d]
      by_cases d' : p < j
      · rw [if_pos d']
        have := t2 (j - 1) (by omega) (by omega)
        omega
      · rw [if_neg d']
        have := t2 j j0 (by omega)
        omega
  · rw [row j j0 (by omega), row j' (by omega) (by omega)]
    by_cases d : j = p
    · rw [if_pos d, if_neg (by omega), if_pos (by omega)]
      exact (kn _ (by omega) (by omega)).symm
    · rw [if_neg d]
      by_cases d' : j' = p
      · rw [if_pos d', if_neg (by omega)]
        exact kn _ (by omega) (by omega)
      · rw [if_neg d']
        by_cases x : p < j
        · rw [if_pos x, if_pos (by omega)]
          exact t3 _ _ (by omega) (by omega) (by omega)
        · rw [if_neg x]
          by_cases y : p < j'
          · rw [if_pos y]
            exact t3 _ _ (by omega) (by omega) (by omega)
          · rw [if_neg y]
            exact t3 _ _ (by omega) (by omega) (by omega)
  · by_cases d : j = p
    · rw [row j j0 (by omega), if_pos d] at e
      exact ⟨q, hq.1, by omega, EqT.tr sn (EqT.tr (EqT.sy ek) e)⟩
    · obtain ⟨j', k0, k1, ej⟩ : ∃ j' : Int, 0 ≤ j' ∧ j' < h.2.2 M 7 ∧ tgr H M j = tgr h M j' := by
        rw [row j j0 (by omega), if_neg d]
        by_cases x : p < j
        · exact ⟨j - 1, by omega, by omega, by rw [if_pos x]⟩
        · exact ⟨j, j0, by omega, by rw [if_neg x]⟩
      rw [ej] at e
      obtain ⟨u, u0, u1, eu⟩ := (t4 r n).mp ⟨j', k0, k1, (bx.eq (t2 j' k0 k1)).mp e⟩
      by_cases x : u < q
      · refine ⟨u, u0, by omega, ?_⟩
        have z := sl u u0 (by omega) (by omega)
        rw [if_pos x] at z
        exact EqT.tr z eu
      · refine ⟨u + 1, by omega, by omega, ?_⟩
        have z := sl (u + 1) (by omega) (by omega) (by omega)
        rw [if_neg (by omega), show u + 1 - 1 = u by omega] at z
        exact EqT.tr z eu
  · by_cases d : u = q
    · rw [d] at eu
      refine ⟨p, hp.1, by omega, ?_⟩
      rw [row p hp.1 hp.2, if_pos rfl]
      exact EqT.tr ek (EqT.tr (EqT.sy sn) eu)
    · obtain ⟨u', w0, w1, ez⟩ : ∃ u' : Int, 0 ≤ u' ∧ u' < tcn h m ∧ EqG h (8 * m + u') r n := by
        have z := sl u u0 (by omega) d
        by_cases x : u < q
        · rw [if_pos x] at z
          exact ⟨u, u0, by omega, EqT.tr (EqT.sy z) eu⟩
        · rw [if_neg x] at z
          exact ⟨u - 1, by omega, by omega, EqT.tr (EqT.sy z) eu⟩
      obtain ⟨j', k0, k1, e⟩ := (t4 r n).mpr ⟨u', w0, w1, ez⟩
      by_cases x : j' < p
      · refine ⟨j', k0, by omega, ?_⟩
        rw [row j' k0 (by omega), if_neg (by omega), if_neg (by omega)]
        exact (bx.eq (t2 j' k0 k1)).mpr e
      · refine ⟨j' + 1, by omega, by omega, ?_⟩
        rw [row (j' + 1) (by omega) (by omega), if_neg (by omega), if_pos (by omega), show j' + 1 - 1 = j' by omega]
        exact (bx.eq (t2 j' k0 k1)).mpr e
  · by_cases d : u = q
    · have z := sl v (by omega) (by omega) (by omega)
      rw [if_neg (by omega)] at z
      rw [d]
      exact ((gt (v - 1) (by omega) (by omega)).eqL sn).eqR z
    · have zu := sl u u0 (by omega) d
      by_cases d' : v = q
      · rw [if_pos (by omega)] at zu
        rw [d']
        exact ((lo u u0 (by omega)).eqL zu).eqR sn
      · have zv := sl v (by omega) (by omega) d'
        exact ((t5 (if u < q then u else u - 1) (if v < q then v else v - 1) (by split <;> omega) (by split <;> split <;> omega) (by split <;> omega)).eqL zu).eqR zv
