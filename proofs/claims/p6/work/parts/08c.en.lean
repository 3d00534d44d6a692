/-! What enter leaves. -/
def EN (h H : Hp) (b w mc ms : Nat) (d : Int) : Prop := BkW H b w ∧ H.2.2 b 5 ≤ h.2.2 b 5 + 1 ∧ WB H b ≤ WB h b + d ∧ ms + PB h b ≤ PB H b ∧ H.1 = h.1 + mc ∧ mc ≤ 4 ∧ h.2.2 b 5 ≤ H.2.2 b 5 ∧ WB h b ≤ WB H b
theorem EN.rf {h : Hp} {b w : Nat} {d : Int} (kb : BkW h b w) (hd : 0 ≤ d) : EN h h b w 0 0 d := ⟨kb, by omega, by omega, by omega, rfl, by omega, by omega, by omega⟩
theorem EN.mr {h H : Hp} {b w mc ms : Nat} {d : Int} (m : MR h H b w mc ms) (hmc : mc ≤ 4) (hd : 0 ≤ d) : EN h H b w (0 + mc) (0 + ms) d := by
  obtain ⟨m1, m2, m3, m4, m5⟩ := m
  exact ⟨m1, by omega, by omega, by omega, by omega, by omega, by omega, by omega⟩
theorem EN.fin {h H1 H : Hp} {b w mc ms : Nat} {d : Int} (m : MR h H1 b w mc ms) (hmc : mc ≤ 4) (kb : BkW H b w) (e5 : H.2.2 b 5 = H1.2.2 b 5 + 1) (ew : WB H1 b ≤ WB H b ∧ WB H b ≤ WB H1 b + d) (ep : PB H b = PB H1 b) (ez : H.1 = H1.1) : EN h H b w (0 + mc) (0 + ms) d := by
  obtain ⟨m1, m2, m3, m4, m5⟩ := m
  exact ⟨kb, by omega, by omega, by omega, by omega, by omega, by omega, by omega⟩
