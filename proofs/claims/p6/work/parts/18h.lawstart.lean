/-! The law from its first instruction to the head of its loop. -/
theorem nw_law8 : NewOK RL 8 9 := by
  refine ⟨_, _, _, rfl, ?_, ?_, ?_, ?_⟩
  · rfl
  · exact tin 1 32 (by decide +kernel) rfl
  · exact tin 1 33 (by decide +kernel) rfl
  · exact tin 1 1 (by decide +kernel) rfl
theorem nw_law31 : NewOK RL 31 10 := by
  refine ⟨_, _, _, rfl, ?_, ?_, ?_, ?_⟩
  · rfl
  · exact tin 6 151 (by decide +kernel) rfl
  · exact tin 6 152 (by decide +kernel) rfl
  · exact tin 1 12 (by decide +kernel) rfl
section LAWS
variable {l : Launch} {g : GG} {HB : Heap} {Qf : List Frame → Array Value → State → State → Prop}
set_option maxRecDepth 100000 in
theorem law_start (hst0 : l.stackTraces = false) {L0 : Nat} (hL : g.2.1 91 = L0) (hL4 : L0 ≤ 384) (hend : ∀ (L : LL) (H : Hp) (k z : Nat), k ≤ 600128 → z ≤ 7301098 → TW l g HB Qf (558, L, [.inl 1], H, k, z)) : TW l g HB Qf (0, [(0, .inr (.inr 1000090))], [], hp0, 0, 0) := by
  refine tg_new TLn.gn nw_law8 (dat dk_L_law 0 rfl) (by decide) ?_
  show TW l g HB Qf (3, [(0, .inr (.inr 1000090))], [.inr (.inr 1)], hpx hp0 2 TA_2 WA_0, 1, 17)
  refine tg_dup TLn.gn (dat dk_L_law 1 rfl) rfl ?_
  refine tg_cVa TLn.gn ca_c12_30 (dat dk_L_law 2 rfl) (ncx_A20 l) rfl ⟨1, .inr 9, _, rfl, rfl⟩ rfl (fun H1 mc ms p => ?_)
  obtain ⟨hB, hF, hu, rfl, rfl⟩ := p
  obtain ⟨b, rfl⟩ : ∃ b : Hp, H1 = hpx b 60 [] [] := ⟨H1, Prod.ext hB.1 rfl⟩
  refine tg_astore_n TLn.gn (L' := [(0, .inr (.inr 1000090)), (1, .inr (.inr 1))]) (dat dk_L_law 3 rfl) (by decide) (by decide) rfl ?_
  refine tg_new TLn.gn nw_law31 (dat dk_L_law 4 rfl) (show (60 : Nat) < 1000000 by decide) ?_
  show TW l g HB Qf (11, [(0, .inr (.inr 1000090)), (1, .inr (.inr 1))], [.inr (.inr 60)], hpx b 61 TB_61 WB_0, 60, 24580)
  refine tg_dup TLn.gn (dat dk_L_law 5 rfl) rfl ?_
  refine tg_cVa TLn.gn ca_c12_33 (dat dk_L_law 6 rfl) (nc_B1 l b) rfl ⟨60, .inr 10, _, rfl, rfl⟩ rfl (fun H2 mc ms p => ?_)
  obtain ⟨rfl, rfl, rfl⟩ := p
  refine tg_astore_n TLn.gn (L' := [(0, .inr (.inr 1000090)), (1, .inr (.inr 1)), (2, .inr (.inr 60))]) (dat dk_L_law 7 rfl) (by decide) (by decide) rfl ?_
  refine tg_iconst TLn.gn (dat dk_L_law 8 rfl) ?_
  refine tg_newarray TLn.gn 3 rfl (by decide) rfl (tin 2 24 (by decide +kernel) rfl) (dat dk_L_law 9 rfl) (by decide) (show (105 : Nat) < 1000000 by decide) ?_
  show TW l g HB Qf (19, [(0, .inr (.inr 1000090)), (1, .inr (.inr 1)), (2, .inr (.inr 60))], [.inr (.inr 105)], hsT b, 105, 1131901)
  refine tg_astore_n TLn.gn (L' := [(0, .inr (.inr 1000090)), (1, .inr (.inr 1)), (2, .inr (.inr 60)), (3, .inr (.inr 105))]) (dat dk_L_law 10 rfl) (by decide) (by decide) rfl ?_
  refine tg_iconst TLn.gn (dat dk_L_law 11 rfl) ?_
  refine tg_istore TLn.gn (L' := LLo 0) (dat dk_L_law 12 rfl) (by decide) rfl ?_
  exact law_loop hst0 hL hL4 hend 64 0 105 1131901 (hsT b) rfl (st_wi hB hF (by decide)) (st_te hB hF hu)
end LAWS
