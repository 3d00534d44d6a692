/-! Each reached instruction does what its step computes. -/
theorem fa4 {α : Type} {p : α → Prop} {a : α} {l : List α} (h : p a) (t : ∀ x ∈ l, p x) : ∀ x ∈ a :: l, p x := List.forall_mem_cons.mpr ⟨h, t⟩
theorem fn4 {α : Type} {p : α → Prop} : ∀ x ∈ ([] : List α), p x := fun _ h => absurd h List.not_mem_nil
section PR4
variable {g : GG} {HB : Heap} {l : Launch} {call : CallF}
set_option maxRecDepth 100000 in
theorem s_66_0 (hC : SndC g HB l MM call) : Snd g HB l call cJx4a65c_add_9ea2d 2 yJx4a65c_add_9ea2d.cls yJx4a65c_add_9ea2d.name 0 (lf (q_load isR 0 1)) := lf_ok (p_aload_n (by decide +kernel : decode cJx4a65c_add_9ea2d 0 = .ok (.aload_n 0, 1)) rfl rfl)
set_option maxRecDepth 100000 in
theorem s_66_1 (hC : SndC g HB l MM call) : Snd g HB l call cJx4a65c_add_9ea2d 2 yJx4a65c_add_9ea2d.cls yJx4a65c_add_9ea2d.name 1 (lf (q_dup 2)) := lf_ok (p_dup (by decide +kernel : decode cJx4a65c_add_9ea2d 1 = .ok (.dup, 1)) rfl)
set_option maxRecDepth 100000 in
theorem s_66_2 (hC : SndC g HB l MM call) : Snd g HB l call cJx4a65c_add_9ea2d 2 yJx4a65c_add_9ea2d.cls yJx4a65c_add_9ea2d.name 2 (s_get 0 0 5) := h_getS (ref := "java/util/ArrayList") (k := 0) (C := RJx4a65c) (T := TJx4a65c) (N := 3) (ci := 0) rfl (by decide) (tin 1 100 (by decide +kernel) rfl) (tin 1 101 (by decide +kernel) rfl) (by decide +kernel : decode cJx4a65c_add_9ea2d 2 = .ok (.getfield 63, 3)) rfl
set_option maxRecDepth 100000 in
theorem s_66_5 (hC : SndC g HB l MM call) : Snd g HB l call cJx4a65c_add_9ea2d 2 yJx4a65c_add_9ea2d.cls yJx4a65c_add_9ea2d.name 5 (lf (q_push (.inl 1) 6)) := lf_ok (p_iconst (by decide +kernel : decode cJx4a65c_add_9ea2d 5 = .ok (.iconst 1, 1)) (by decide +kernel) rfl)
set_option maxRecDepth 100000 in
theorem s_66_6 (hC : SndC g HB l MM call) : Snd g HB l call cJx4a65c_add_9ea2d 2 yJx4a65c_add_9ea2d.cls yJx4a65c_add_9ea2d.name 6 (lf (q_bin (iop2 (fun x y => x + y)) 7)) := lf_ok (p_iadd (by decide +kernel : decode cJx4a65c_add_9ea2d 6 = .ok (.iadd, 1)) rfl)
set_option maxRecDepth 100000 in
theorem s_66_7 (hC : SndC g HB l MM call) : Snd g HB l call cJx4a65c_add_9ea2d 2 yJx4a65c_add_9ea2d.cls yJx4a65c_add_9ea2d.name 7 (s_put 0 0 0 10) := h_putS (ref := "java/util/ArrayList") (k := 0) (C := RJx4a65c) (T := TJx4a65c) (N := 3) (ci := 0) rfl (by decide) rfl rfl (tin 1 100 (by decide +kernel) rfl) (tin 1 101 (by decide +kernel) rfl) (by decide +kernel : decode cJx4a65c_add_9ea2d 7 = .ok (.putfield 63, 3)) rfl
set_option maxRecDepth 100000 in
theorem s_66_10 (hC : SndC g HB l MM call) : Snd g HB l call cJx4a65c_add_9ea2d 2 yJx4a65c_add_9ea2d.cls yJx4a65c_add_9ea2d.name 10 (lf (q_load isR 0 11)) := lf_ok (p_aload_n (by decide +kernel : decode cJx4a65c_add_9ea2d 10 = .ok (.aload_n 0, 1)) rfl rfl)
set_option maxRecDepth 100000 in
theorem s_66_11 (hC : SndC g HB l MM call) : Snd g HB l call cJx4a65c_add_9ea2d 2 yJx4a65c_add_9ea2d.cls yJx4a65c_add_9ea2d.name 11 (lf (q_load isR 1 12)) := lf_ok (p_aload_n (by decide +kernel : decode cJx4a65c_add_9ea2d 11 = .ok (.aload_n 1, 1)) rfl rfl)
set_option maxRecDepth 100000 in
theorem s_66_12 (hC : SndC g HB l MM call) : Snd g HB l call cJx4a65c_add_9ea2d 2 yJx4a65c_add_9ea2d.cls yJx4a65c_add_9ea2d.name 12 (lf (q_load isR 0 13)) := lf_ok (p_aload_n (by decide +kernel : decode cJx4a65c_add_9ea2d 12 = .ok (.aload_n 0, 1)) rfl rfl)
set_option maxRecDepth 100000 in
theorem s_66_13 (hC : SndC g HB l MM call) : Snd g HB l call cJx4a65c_add_9ea2d 2 yJx4a65c_add_9ea2d.cls yJx4a65c_add_9ea2d.name 13 (s_get 0 1 16) := h_get (k := 1) (C := RJx4a65c) (T := TJx4a65c) (N := 3) (ci := 0) rfl (by decide) (tin 1 97 (by decide +kernel) rfl)  (by decide +kernel : decode cJx4a65c_add_9ea2d 13 = .ok (.getfield 9, 3)) rfl
set_option maxRecDepth 100000 in
theorem s_66_16 (hC : SndC g HB l MM call) : Snd g HB l call cJx4a65c_add_9ea2d 2 yJx4a65c_add_9ea2d.cls yJx4a65c_add_9ea2d.name 16 (lf (q_load isR 0 17)) := lf_ok (p_aload_n (by decide +kernel : decode cJx4a65c_add_9ea2d 16 = .ok (.aload_n 0, 1)) rfl rfl)
set_option maxRecDepth 100000 in
theorem s_66_17 (hC : SndC g HB l MM call) : Snd g HB l call cJx4a65c_add_9ea2d 2 yJx4a65c_add_9ea2d.cls yJx4a65c_add_9ea2d.name 17 (s_get 0 2 20) := h_get (k := 2) (C := RJx4a65c) (T := TJx4a65c) (N := 3) (ci := 0) rfl (by decide) (tin 1 98 (by decide +kernel) rfl)  (by decide +kernel : decode cJx4a65c_add_9ea2d 17 = .ok (.getfield 48, 3)) rfl
set_option maxRecDepth 100000 in
theorem s_66_20 (hC : SndC g HB l MM call) : Snd g HB l call cJx4a65c_add_9ea2d 2 yJx4a65c_add_9ea2d.cls yJx4a65c_add_9ea2d.name 20 (s_cV 0 67 3 23 23) := c_V (C := RJx4a65c) (T := TJx4a65c) (N := 3) (ci := 0) rfl hC (M := MM) (id := 67) (d := D_67) rfl mok_67 rfl rfl (tin 5 89 (by decide +kernel) rfl) (tin 5 91 (by decide +kernel) rfl) (tinP (y := mdY D_67) (n := 3) 32 (by decide +kernel)) (tin 1 6 (by decide +kernel) rfl) (by decide +kernel : decode cJx4a65c_add_9ea2d 20 = .ok (.invokevirtual 131, 3)) rfl
set_option maxRecDepth 100000 in
theorem s_66_23 (hC : SndC g HB l MM call) : Snd g HB l call cJx4a65c_add_9ea2d 2 yJx4a65c_add_9ea2d.cls yJx4a65c_add_9ea2d.name 23 (lf (q_push (.inl 1) 24)) := lf_ok (p_iconst (by decide +kernel : decode cJx4a65c_add_9ea2d 23 = .ok (.iconst 1, 1)) (by decide +kernel) rfl)
set_option maxRecDepth 100000 in
theorem ok_66 (hex : HB.size = g.1) (hC : SndC g HB l MM call) : ∀ x ∈ P_66, Snd g HB l call cJx4a65c_add_9ea2d 2 yJx4a65c_add_9ea2d.cls yJx4a65c_add_9ea2d.name x.1 x.2 := fa4 (s_66_0 hC) (fa4 (s_66_1 hC) (fa4 (s_66_2 hC) (fa4 (s_66_5 hC) (fa4 (s_66_6 hC) (fa4 (s_66_7 hC) (fa4 (s_66_10 hC) (fa4 (s_66_11 hC) (fa4 (s_66_12 hC) (fa4 (s_66_13 hC) (fa4 (s_66_16 hC) (fa4 (s_66_17 hC) (fa4 (s_66_20 hC) (fa4 (s_66_23 hC) (fn4))))))))))))))
set_option maxRecDepth 100000 in
theorem ms_66 (hex : HB.size = g.1) : MSnd g HB l MM D_66 := ⟨by decide +kernel, fun _ hC => ok_66 hex hC, fa4 (show endOK cJx4a65c_add_9ea2d (some .boolean) 24 2 from (by decide +kernel : decode cJx4a65c_add_9ea2d 24 = .ok (.ireturn, 1))) (fn4)⟩
set_option maxRecDepth 100000 in
theorem s_67_0 (hC : SndC g HB l MM call) : Snd g HB l call cJx4a65c_add_72be8 4 yJx4a65c_add_72be8.cls yJx4a65c_add_72be8.name 0 (lf (q_load isI 3 1)) := lf_ok (p_iload_n (by decide +kernel : decode cJx4a65c_add_72be8 0 = .ok (.iload_n 3, 1)) rfl rfl)
set_option maxRecDepth 100000 in
theorem s_67_1 (hC : SndC g HB l MM call) : Snd g HB l call cJx4a65c_add_72be8 4 yJx4a65c_add_72be8.cls yJx4a65c_add_72be8.name 1 (lf (q_load isR 2 2)) := lf_ok (p_aload_n (by decide +kernel : decode cJx4a65c_add_72be8 1 = .ok (.aload_n 2, 1)) rfl rfl)
set_option maxRecDepth 100000 in
theorem s_67_2 (hC : SndC g HB l MM call) : Snd g HB l call cJx4a65c_add_72be8 4 yJx4a65c_add_72be8.cls yJx4a65c_add_72be8.name 2 (s_alen 3) := h_alen (by decide +kernel : decode cJx4a65c_add_72be8 2 = .ok (.arraylength, 1)) rfl
set_option maxRecDepth 100000 in
theorem s_67_3 (hC : SndC g HB l MM call) : Snd g HB l call cJx4a65c_add_72be8 4 yJx4a65c_add_72be8.cls yJx4a65c_add_72be8.name 3 (s_br2 1 11 6) := b_ine (by decide +kernel : decode cJx4a65c_add_72be8 3 = .ok (.if_icmp .ne 8, 3)) (by decide) rfl
set_option maxRecDepth 100000 in
theorem s_67_6 (hC : SndC g HB l MM call) : Snd g HB l call cJx4a65c_add_72be8 4 yJx4a65c_add_72be8.cls yJx4a65c_add_72be8.name 6 (lf (q_load isR 0 7)) := lf_ok (p_aload_n (by decide +kernel : decode cJx4a65c_add_72be8 6 = .ok (.aload_n 0, 1)) rfl rfl)
set_option maxRecDepth 100000 in
theorem s_67_7 (hC : SndC g HB l MM call) : Snd g HB l call cJx4a65c_add_72be8 4 yJx4a65c_add_72be8.cls yJx4a65c_add_72be8.name 7 (s_cV 0 68 0 20 10) := c_V (C := RJx4a65c) (T := TJx4a65c) (N := 3) (ci := 0) rfl hC (M := MM) (id := 68) (d := D_68) rfl mok_68 rfl rfl (tin 5 93 (by decide +kernel) rfl) (tin 5 95 (by decide +kernel) rfl) (tinP (y := mdY D_68) (n := 3) 33 (by decide +kernel)) (tin 1 6 (by decide +kernel) rfl) (by decide +kernel : decode cJx4a65c_add_72be8 7 = .ok (.invokevirtual 129, 3)) rfl
set_option maxRecDepth 100000 in
theorem s_67_10 (hC : SndC g HB l MM call) : Snd g HB l call cJx4a65c_add_72be8 4 yJx4a65c_add_72be8.cls yJx4a65c_add_72be8.name 10 (lf (q_store isR up1 0 2 4 11)) := lf_ok (p_astore_n (by decide +kernel : decode cJx4a65c_add_72be8 10 = .ok (.astore_n 2, 1)) rfl rfl)
set_option maxRecDepth 100000 in
theorem s_67_11 (hC : SndC g HB l MM call) : Snd g HB l call cJx4a65c_add_72be8 4 yJx4a65c_add_72be8.cls yJx4a65c_add_72be8.name 11 (lf (q_load isR 2 12)) := lf_ok (p_aload_n (by decide +kernel : decode cJx4a65c_add_72be8 11 = .ok (.aload_n 2, 1)) rfl rfl)
set_option maxRecDepth 100000 in
theorem s_67_12 (hC : SndC g HB l MM call) : Snd g HB l call cJx4a65c_add_72be8 4 yJx4a65c_add_72be8.cls yJx4a65c_add_72be8.name 12 (lf (q_load isI 3 13)) := lf_ok (p_iload_n (by decide +kernel : decode cJx4a65c_add_72be8 12 = .ok (.iload_n 3, 1)) rfl rfl)
set_option maxRecDepth 100000 in
theorem s_67_13 (hC : SndC g HB l MM call) : Snd g HB l call cJx4a65c_add_72be8 4 yJx4a65c_add_72be8.cls yJx4a65c_add_72be8.name 13 (lf (q_load isR 1 14)) := lf_ok (p_aload_n (by decide +kernel : decode cJx4a65c_add_72be8 13 = .ok (.aload_n 1, 1)) rfl rfl)
set_option maxRecDepth 100000 in
theorem s_67_14 (hC : SndC g HB l MM call) : Snd g HB l call cJx4a65c_add_72be8 4 yJx4a65c_add_72be8.cls yJx4a65c_add_72be8.name 14 (s_aast 5 15) := h_aast (C := RX6) (T := TX6) (N := 8) (ci := 5) rfl (tinN 9 47 (by decide +kernel) rfl) (by decide +kernel : decode cJx4a65c_add_72be8 14 = .ok (.aastore, 1)) rfl
set_option maxRecDepth 100000 in
theorem s_67_15 (hC : SndC g HB l MM call) : Snd g HB l call cJx4a65c_add_72be8 4 yJx4a65c_add_72be8.cls yJx4a65c_add_72be8.name 15 (lf (q_load isR 0 16)) := lf_ok (p_aload_n (by decide +kernel : decode cJx4a65c_add_72be8 15 = .ok (.aload_n 0, 1)) rfl rfl)
set_option maxRecDepth 100000 in
theorem s_67_16 (hC : SndC g HB l MM call) : Snd g HB l call cJx4a65c_add_72be8 4 yJx4a65c_add_72be8.cls yJx4a65c_add_72be8.name 16 (lf (q_load isI 3 17)) := lf_ok (p_iload_n (by decide +kernel : decode cJx4a65c_add_72be8 16 = .ok (.iload_n 3, 1)) rfl rfl)
set_option maxRecDepth 100000 in
theorem s_67_17 (hC : SndC g HB l MM call) : Snd g HB l call cJx4a65c_add_72be8 4 yJx4a65c_add_72be8.cls yJx4a65c_add_72be8.name 17 (lf (q_push (.inl 1) 18)) := lf_ok (p_iconst (by decide +kernel : decode cJx4a65c_add_72be8 17 = .ok (.iconst 1, 1)) (by decide +kernel) rfl)
set_option maxRecDepth 100000 in
theorem s_67_18 (hC : SndC g HB l MM call) : Snd g HB l call cJx4a65c_add_72be8 4 yJx4a65c_add_72be8.cls yJx4a65c_add_72be8.name 18 (lf (q_bin (iop2 (fun x y => x + y)) 19)) := lf_ok (p_iadd (by decide +kernel : decode cJx4a65c_add_72be8 18 = .ok (.iadd, 1)) rfl)
set_option maxRecDepth 100000 in
theorem s_67_19 (hC : SndC g HB l MM call) : Snd g HB l call cJx4a65c_add_72be8 4 yJx4a65c_add_72be8.cls yJx4a65c_add_72be8.name 19 (s_put 0 2 0 22) := h_put (k := 2) (C := RJx4a65c) (T := TJx4a65c) (N := 3) (ci := 0) rfl (by decide) rfl rfl (tin 1 98 (by decide +kernel) rfl)  (by decide +kernel : decode cJx4a65c_add_72be8 19 = .ok (.putfield 48, 3)) rfl
set_option maxRecDepth 100000 in
theorem ok_67 (hex : HB.size = g.1) (hC : SndC g HB l MM call) : ∀ x ∈ P_67, Snd g HB l call cJx4a65c_add_72be8 4 yJx4a65c_add_72be8.cls yJx4a65c_add_72be8.name x.1 x.2 := fa4 (s_67_0 hC) (fa4 (s_67_1 hC) (fa4 (s_67_2 hC) (fa4 (s_67_3 hC) (fa4 (s_67_6 hC) (fa4 (s_67_7 hC) (fa4 (s_67_10 hC) (fa4 (s_67_11 hC) (fa4 (s_67_12 hC) (fa4 (s_67_13 hC) (fa4 (s_67_14 hC) (fa4 (s_67_15 hC) (fa4 (s_67_16 hC) (fa4 (s_67_17 hC) (fa4 (s_67_18 hC) (fa4 (s_67_19 hC) (fn4))))))))))))))))
set_option maxRecDepth 100000 in
theorem ms_67 (hex : HB.size = g.1) : MSnd g HB l MM D_67 := ⟨by decide +kernel, fun _ hC => ok_67 hex hC, fa4 (show endOK cJx4a65c_add_72be8 none 22 0 from ⟨rfl, (by decide +kernel : decode cJx4a65c_add_72be8 22 = .ok (.return_, 1))⟩) (fn4)⟩
set_option maxRecDepth 100000 in
theorem s_68_0 (hC : SndC g HB l MM call) : Snd g HB l call cJx4a65c_grow_d5877 1 yJx4a65c_grow_d5877.cls yJx4a65c_grow_d5877.name 0 (lf (q_load isR 0 1)) := lf_ok (p_aload_n (by decide +kernel : decode cJx4a65c_grow_d5877 0 = .ok (.aload_n 0, 1)) rfl rfl)
set_option maxRecDepth 100000 in
theorem s_68_1 (hC : SndC g HB l MM call) : Snd g HB l call cJx4a65c_grow_d5877 1 yJx4a65c_grow_d5877.cls yJx4a65c_grow_d5877.name 1 (lf (q_load isR 0 2)) := lf_ok (p_aload_n (by decide +kernel : decode cJx4a65c_grow_d5877 1 = .ok (.aload_n 0, 1)) rfl rfl)
set_option maxRecDepth 100000 in
theorem s_68_2 (hC : SndC g HB l MM call) : Snd g HB l call cJx4a65c_grow_d5877 1 yJx4a65c_grow_d5877.cls yJx4a65c_grow_d5877.name 2 (s_get 0 2 5) := h_get (k := 2) (C := RJx4a65c) (T := TJx4a65c) (N := 3) (ci := 0) rfl (by decide) (tin 1 98 (by decide +kernel) rfl)  (by decide +kernel : decode cJx4a65c_grow_d5877 2 = .ok (.getfield 48, 3)) rfl
set_option maxRecDepth 100000 in
theorem s_68_5 (hC : SndC g HB l MM call) : Snd g HB l call cJx4a65c_grow_d5877 1 yJx4a65c_grow_d5877.cls yJx4a65c_grow_d5877.name 5 (lf (q_push (.inl 1) 6)) := lf_ok (p_iconst (by decide +kernel : decode cJx4a65c_grow_d5877 5 = .ok (.iconst 1, 1)) (by decide +kernel) rfl)
set_option maxRecDepth 100000 in
theorem s_68_6 (hC : SndC g HB l MM call) : Snd g HB l call cJx4a65c_grow_d5877 1 yJx4a65c_grow_d5877.cls yJx4a65c_grow_d5877.name 6 (lf (q_bin (iop2 (fun x y => x + y)) 7)) := lf_ok (p_iadd (by decide +kernel : decode cJx4a65c_grow_d5877 6 = .ok (.iadd, 1)) rfl)
set_option maxRecDepth 100000 in
theorem s_68_7 (hC : SndC g HB l MM call) : Snd g HB l call cJx4a65c_grow_d5877 1 yJx4a65c_grow_d5877.cls yJx4a65c_grow_d5877.name 7 (s_cV 0 69 1 23 10) := c_V (C := RJx4a65c) (T := TJx4a65c) (N := 3) (ci := 0) rfl hC (M := MM) (id := 69) (d := D_69) rfl mok_69 rfl rfl (tin 5 97 (by decide +kernel) rfl) (tin 5 99 (by decide +kernel) rfl) (tinP (y := mdY D_69) (n := 3) 34 (by decide +kernel)) (tin 1 6 (by decide +kernel) rfl) (by decide +kernel : decode cJx4a65c_grow_d5877 7 = .ok (.invokevirtual 69, 3)) rfl
set_option maxRecDepth 100000 in
theorem ok_68 (hex : HB.size = g.1) (hC : SndC g HB l MM call) : ∀ x ∈ P_68, Snd g HB l call cJx4a65c_grow_d5877 1 yJx4a65c_grow_d5877.cls yJx4a65c_grow_d5877.name x.1 x.2 := fa4 (s_68_0 hC) (fa4 (s_68_1 hC) (fa4 (s_68_2 hC) (fa4 (s_68_5 hC) (fa4 (s_68_6 hC) (fa4 (s_68_7 hC) (fn4))))))
set_option maxRecDepth 100000 in
theorem ms_68 (hex : HB.size = g.1) : MSnd g HB l MM D_68 := ⟨by decide +kernel, fun _ hC => ok_68 hex hC, fa4 (show endOK cJx4a65c_grow_d5877 (some (.array (.object "java/lang/Object"))) 10 3 from ⟨⟨_, rfl, Or.inr ⟨_, rfl⟩⟩, (by decide +kernel : decode cJx4a65c_grow_d5877 10 = .ok (.areturn, 1))⟩) (fn4)⟩
set_option maxRecDepth 100000 in
theorem s_69_0 (hC : SndC g HB l MM call) : Snd g HB l call cJx4a65c_grow_92f84 4 yJx4a65c_grow_92f84.cls yJx4a65c_grow_92f84.name 0 (lf (q_load isR 0 1)) := lf_ok (p_aload_n (by decide +kernel : decode cJx4a65c_grow_92f84 0 = .ok (.aload_n 0, 1)) rfl rfl)
set_option maxRecDepth 100000 in
theorem s_69_1 (hC : SndC g HB l MM call) : Snd g HB l call cJx4a65c_grow_92f84 4 yJx4a65c_grow_92f84.cls yJx4a65c_grow_92f84.name 1 (s_get 0 1 4) := h_get (k := 1) (C := RJx4a65c) (T := TJx4a65c) (N := 3) (ci := 0) rfl (by decide) (tin 1 97 (by decide +kernel) rfl)  (by decide +kernel : decode cJx4a65c_grow_92f84 1 = .ok (.getfield 9, 3)) rfl
set_option maxRecDepth 100000 in
theorem s_69_4 (hC : SndC g HB l MM call) : Snd g HB l call cJx4a65c_grow_92f84 4 yJx4a65c_grow_92f84.cls yJx4a65c_grow_92f84.name 4 (s_alen 5) := h_alen (by decide +kernel : decode cJx4a65c_grow_92f84 4 = .ok (.arraylength, 1)) rfl
set_option maxRecDepth 100000 in
theorem s_69_5 (hC : SndC g HB l MM call) : Snd g HB l call cJx4a65c_grow_92f84 4 yJx4a65c_grow_92f84.cls yJx4a65c_grow_92f84.name 5 (lf (q_store isI up1 0 2 4 6)) := lf_ok (p_istore_n (by decide +kernel : decode cJx4a65c_grow_92f84 5 = .ok (.istore_n 2, 1)) rfl rfl)
set_option maxRecDepth 100000 in
theorem s_69_6 (hC : SndC g HB l MM call) : Snd g HB l call cJx4a65c_grow_92f84 4 yJx4a65c_grow_92f84.cls yJx4a65c_grow_92f84.name 6 (lf (q_load isI 2 7)) := lf_ok (p_iload_n (by decide +kernel : decode cJx4a65c_grow_92f84 6 = .ok (.iload_n 2, 1)) rfl rfl)
set_option maxRecDepth 100000 in
theorem s_69_7 (hC : SndC g HB l MM call) : Snd g HB l call cJx4a65c_grow_92f84 4 yJx4a65c_grow_92f84.cls yJx4a65c_grow_92f84.name 7 (s_br1 4 20 10) := b_gt (by decide +kernel : decode cJx4a65c_grow_92f84 7 = .ok (.ifCond .gt 13, 3)) (by decide) rfl
set_option maxRecDepth 100000 in
theorem s_69_10 (hC : SndC g HB l MM call) : Snd g HB l call cJx4a65c_grow_92f84 4 yJx4a65c_grow_92f84.cls yJx4a65c_grow_92f84.name 10 (lf (q_load isR 0 11)) := lf_ok (p_aload_n (by decide +kernel : decode cJx4a65c_grow_92f84 10 = .ok (.aload_n 0, 1)) rfl rfl)
set_option maxRecDepth 100000 in
theorem s_69_11 (hC : SndC g HB l MM call) : Snd g HB l call cJx4a65c_grow_92f84 4 yJx4a65c_grow_92f84.cls yJx4a65c_grow_92f84.name 11 (s_get 0 1 14) := h_get (k := 1) (C := RJx4a65c) (T := TJx4a65c) (N := 3) (ci := 0) rfl (by decide) (tin 1 97 (by decide +kernel) rfl)  (by decide +kernel : decode cJx4a65c_grow_92f84 11 = .ok (.getfield 9, 3)) rfl
set_option maxRecDepth 100000 in
theorem s_69_14 (hC : SndC g HB l MM call) : Snd g HB l call cJx4a65c_grow_92f84 4 yJx4a65c_grow_92f84.cls yJx4a65c_grow_92f84.name 14 (s_val (.inr (.inr (.float 0))) 17) := m_gst (C := "java/util/ArrayList") (f9 := "DEFAULTCAPACITY_EMPTY_ELEMENTDATA") (d9 := "[Ljava/lang/Object;") (List.mem_of_getElem? (i := 0) rfl) (tin 1 95 (by decide +kernel) rfl) (by decide +kernel : decode cJx4a65c_grow_92f84 14 = .ok (.getstatic 39, 3)) rfl
set_option maxRecDepth 100000 in
theorem s_69_17 (hC : SndC g HB l MM call) : Snd g HB l call cJx4a65c_grow_92f84 4 yJx4a65c_grow_92f84.cls yJx4a65c_grow_92f84.name 17 (s_acmp 45) := b_acmp_eq (by decide +kernel : decode cJx4a65c_grow_92f84 17 = .ok (.if_acmp .eq 28, 3)) (by decide)
set_option maxRecDepth 100000 in
theorem s_69_45 (hC : SndC g HB l MM call) : Snd g HB l call cJx4a65c_grow_92f84 4 yJx4a65c_grow_92f84.cls yJx4a65c_grow_92f84.name 45 (lf (q_load isR 0 46)) := lf_ok (p_aload_n (by decide +kernel : decode cJx4a65c_grow_92f84 45 = .ok (.aload_n 0, 1)) rfl rfl)
set_option maxRecDepth 100000 in
theorem s_69_46 (hC : SndC g HB l MM call) : Snd g HB l call cJx4a65c_grow_92f84 4 yJx4a65c_grow_92f84.cls yJx4a65c_grow_92f84.name 46 (lf (q_push (.inl 10) 48)) := lf_ok (p_bipush (by decide +kernel : decode cJx4a65c_grow_92f84 46 = .ok (.bipush 10, 2)) (by decide +kernel) rfl)
set_option maxRecDepth 100000 in
theorem s_69_48 (hC : SndC g HB l MM call) : Snd g HB l call cJx4a65c_grow_92f84 4 yJx4a65c_grow_92f84.cls yJx4a65c_grow_92f84.name 48 (lf (q_load isI 1 49)) := lf_ok (p_iload_n (by decide +kernel : decode cJx4a65c_grow_92f84 48 = .ok (.iload_n 1, 1)) rfl rfl)
set_option maxRecDepth 100000 in
theorem s_69_49 (hC : SndC g HB l MM call) : Snd g HB l call cJx4a65c_grow_92f84 4 yJx4a65c_grow_92f84.cls yJx4a65c_grow_92f84.name 49 (s_mm mxF 52) := m_mmax (tin 5 138 (by decide +kernel) rfl) (tin 5 105 (by decide +kernel) rfl) (tin 1 18 (by decide +kernel) rfl) (tin 5 106 (by decide +kernel) rfl) (by decide +kernel : decode cJx4a65c_grow_92f84 49 = .ok (.invokestatic 79, 3)) rfl
set_option maxRecDepth 100000 in
theorem s_69_52 (hC : SndC g HB l MM call) (hex : HB.size = g.1) : Snd g HB l call cJx4a65c_grow_92f84 4 yJx4a65c_grow_92f84.cls yJx4a65c_grow_92f84.name 52 (s_newq 55) := h_newq hex (tin 5 139 (by decide +kernel) rfl) (tinN 5 136 (by decide +kernel) rfl) (by decide +kernel : decode cJx4a65c_grow_92f84 52 = .ok (.anewarray 7, 3)) rfl
set_option maxRecDepth 100000 in
theorem s_69_55 (hC : SndC g HB l MM call) : Snd g HB l call cJx4a65c_grow_92f84 4 yJx4a65c_grow_92f84.cls yJx4a65c_grow_92f84.name 55 (lf (q_dupx1 56)) := lf_ok (p_dupx1 (by decide +kernel : decode cJx4a65c_grow_92f84 55 = .ok (.dup_x1, 1)) rfl)
set_option maxRecDepth 100000 in
theorem s_69_56 (hC : SndC g HB l MM call) : Snd g HB l call cJx4a65c_grow_92f84 4 yJx4a65c_grow_92f84.cls yJx4a65c_grow_92f84.name 56 (s_put 0 1 3 59) := h_put (k := 1) (C := RJx4a65c) (T := TJx4a65c) (N := 3) (ci := 0) rfl (by decide) rfl (Or.inr ⟨_, rfl⟩) (tin 1 97 (by decide +kernel) rfl)  (by decide +kernel : decode cJx4a65c_grow_92f84 56 = .ok (.putfield 9, 3)) rfl
set_option maxRecDepth 100000 in
theorem ok_69 (hex : HB.size = g.1) (hC : SndC g HB l MM call) : ∀ x ∈ P_69, Snd g HB l call cJx4a65c_grow_92f84 4 yJx4a65c_grow_92f84.cls yJx4a65c_grow_92f84.name x.1 x.2 := fa4 (s_69_0 hC) (fa4 (s_69_1 hC) (fa4 (s_69_4 hC) (fa4 (s_69_5 hC) (fa4 (s_69_6 hC) (fa4 (s_69_7 hC) (fa4 (s_69_10 hC) (fa4 (s_69_11 hC) (fa4 (s_69_14 hC) (fa4 (s_69_17 hC) (fa4 (s_69_45 hC) (fa4 (s_69_46 hC) (fa4 (s_69_48 hC) (fa4 (s_69_49 hC) (fa4 (s_69_52 hC hex) (fa4 (s_69_55 hC) (fa4 (s_69_56 hC) (fn4)))))))))))))))))
set_option maxRecDepth 100000 in
theorem ms_69 (hex : HB.size = g.1) : MSnd g HB l MM D_69 := ⟨by decide +kernel, fun _ hC => ok_69 hex hC, fa4 (show endOK cJx4a65c_grow_92f84 (some (.array (.object "java/lang/Object"))) 59 3 from ⟨⟨_, rfl, Or.inr ⟨_, rfl⟩⟩, (by decide +kernel : decode cJx4a65c_grow_92f84 59 = .ok (.areturn, 1))⟩) (fn4)⟩
set_option maxRecDepth 100000 in
theorem s_70_0 (hC : SndC g HB l MM call) : Snd g HB l call cX10_spoil 1 yX10_spoil.cls yX10_spoil.name 0 (lf (q_load isR 0 1)) := lf_ok (p_aload_n (by decide +kernel : decode cX10_spoil 0 = .ok (.aload_n 0, 1)) rfl rfl)
set_option maxRecDepth 100000 in
theorem s_70_1 (hC : SndC g HB l MM call) : Snd g HB l call cX10_spoil 1 yX10_spoil.cls yX10_spoil.name 1 (lf (q_push (.inl 0) 2)) := lf_ok (p_iconst (by decide +kernel : decode cX10_spoil 1 = .ok (.iconst 0, 1)) (by decide +kernel) rfl)
set_option maxRecDepth 100000 in
theorem s_70_2 (hC : SndC g HB l MM call) : Snd g HB l call cX10_spoil 1 yX10_spoil.cls yX10_spoil.name 2 (s_put 8 6 1 5) := h_put (k := 6) (C := RX10) (T := TX10) (N := 7) (ci := 8) rfl (by decide) rfl rfl (tin 1 121 (by decide +kernel) rfl)  (by decide +kernel : decode cX10_spoil 2 = .ok (.putfield 32, 3)) rfl
set_option maxRecDepth 100000 in
theorem ok_70 (hex : HB.size = g.1) (hC : SndC g HB l MM call) : ∀ x ∈ P_70, Snd g HB l call cX10_spoil 1 yX10_spoil.cls yX10_spoil.name x.1 x.2 := fa4 (s_70_0 hC) (fa4 (s_70_1 hC) (fa4 (s_70_2 hC) (fn4)))
set_option maxRecDepth 100000 in
theorem ms_70 (hex : HB.size = g.1) : MSnd g HB l MM D_70 := ⟨by decide +kernel, fun _ hC => ok_70 hex hC, fa4 (show endOK cX10_spoil none 5 0 from ⟨rfl, (by decide +kernel : decode cX10_spoil 5 = .ok (.return_, 1))⟩) (fn4)⟩
set_option maxRecDepth 100000 in
theorem s_71_0 (hC : SndC g HB l MM call) : Snd g HB l call cX11_remove 3 yX11_remove.cls yX11_remove.name 0 (lf (q_load isR 0 1)) := lf_ok (p_aload_n (by decide +kernel : decode cX11_remove 0 = .ok (.aload_n 0, 1)) rfl rfl)
set_option maxRecDepth 100000 in
theorem s_71_1 (hC : SndC g HB l MM call) : Snd g HB l call cX11_remove 3 yX11_remove.cls yX11_remove.name 1 (lf (q_load isI 1 2)) := lf_ok (p_iload_n (by decide +kernel : decode cX11_remove 1 = .ok (.iload_n 1, 1)) rfl rfl)
set_option maxRecDepth 100000 in
theorem s_71_2 (hC : SndC g HB l MM call) : Snd g HB l call cX11_remove 3 yX11_remove.cls yX11_remove.name 2 (s_cV 9 72 1 22 5) := c_V (C := RX11) (T := TX11) (N := 17) (ci := 9) rfl hC (M := MM) (id := 72) (d := D_72) rfl mok_72 rfl rfl (tin 2 229 (by decide +kernel) rfl) (tin 2 231 (by decide +kernel) rfl) (tinP (y := mdY D_72) (n := 17) 6 (by decide +kernel)) (tin 1 1 (by decide +kernel) rfl) (by decide +kernel : decode cX11_remove 2 = .ok (.invokevirtual 119, 3)) rfl
set_option maxRecDepth 100000 in
theorem s_71_5 (hC : SndC g HB l MM call) : Snd g HB l call cX11_remove 3 yX11_remove.cls yX11_remove.name 5 (lf (q_store isI up1 0 2 3 6)) := lf_ok (p_istore_n (by decide +kernel : decode cX11_remove 5 = .ok (.istore_n 2, 1)) rfl rfl)
set_option maxRecDepth 100000 in
theorem s_71_6 (hC : SndC g HB l MM call) : Snd g HB l call cX11_remove 3 yX11_remove.cls yX11_remove.name 6 (lf (q_load isI 2 7)) := lf_ok (p_iload_n (by decide +kernel : decode cX11_remove 6 = .ok (.iload_n 2, 1)) rfl rfl)
set_option maxRecDepth 100000 in
theorem s_71_7 (hC : SndC g HB l MM call) : Snd g HB l call cX11_remove 3 yX11_remove.cls yX11_remove.name 7 (s_br1 2 21 10) := b_lt (by decide +kernel : decode cX11_remove 7 = .ok (.ifCond .lt 14, 3)) (by decide) rfl
set_option maxRecDepth 100000 in
theorem ok_71 (hex : HB.size = g.1) (hC : SndC g HB l MM call) : ∀ x ∈ P_71, Snd g HB l call cX11_remove 3 yX11_remove.cls yX11_remove.name x.1 x.2 := fa4 (s_71_0 hC) (fa4 (s_71_1 hC) (fa4 (s_71_2 hC) (fa4 (s_71_5 hC) (fa4 (s_71_6 hC) (fa4 (s_71_7 hC) (fn4))))))
set_option maxRecDepth 100000 in
theorem ms_71 (hex : HB.size = g.1) : MSnd g HB l MM D_71 := ⟨by decide +kernel, fun _ hC => ok_71 hex hC, fn4⟩
set_option maxRecDepth 100000 in
theorem s_72_0 (hC : SndC g HB l MM call) : Snd g HB l call cX11_placeOf 3 yX11_placeOf.cls yX11_placeOf.name 0 (lf (q_push (.inl 0) 1)) := lf_ok (p_iconst (by decide +kernel : decode cX11_placeOf 0 = .ok (.iconst 0, 1)) (by decide +kernel) rfl)
set_option maxRecDepth 100000 in
theorem s_72_1 (hC : SndC g HB l MM call) : Snd g HB l call cX11_placeOf 3 yX11_placeOf.cls yX11_placeOf.name 1 (lf (q_store isI up1 0 2 3 2)) := lf_ok (p_istore_n (by decide +kernel : decode cX11_placeOf 1 = .ok (.istore_n 2, 1)) rfl rfl)
set_option maxRecDepth 100000 in
theorem s_72_2 (hC : SndC g HB l MM call) : Snd g HB l call cX11_placeOf 3 yX11_placeOf.cls yX11_placeOf.name 2 (lf (q_load isI 2 3)) := lf_ok (p_iload_n (by decide +kernel : decode cX11_placeOf 2 = .ok (.iload_n 2, 1)) rfl rfl)
set_option maxRecDepth 100000 in
theorem s_72_3 (hC : SndC g HB l MM call) : Snd g HB l call cX11_placeOf 3 yX11_placeOf.cls yX11_placeOf.name 3 (lf (q_load isR 0 4)) := lf_ok (p_aload_n (by decide +kernel : decode cX11_placeOf 3 = .ok (.aload_n 0, 1)) rfl rfl)
set_option maxRecDepth 100000 in
theorem s_72_4 (hC : SndC g HB l MM call) : Snd g HB l call cX11_placeOf 3 yX11_placeOf.cls yX11_placeOf.name 4 (s_get 9 6 7) := h_get (k := 6) (C := RX11) (T := TX11) (N := 17) (ci := 9) rfl (by decide) (tin 2 101 (by decide +kernel) rfl)  (by decide +kernel : decode cX11_placeOf 4 = .ok (.getfield 40, 3)) rfl
set_option maxRecDepth 100000 in
theorem s_72_7 (hC : SndC g HB l MM call) : Snd g HB l call cX11_placeOf 3 yX11_placeOf.cls yX11_placeOf.name 7 (s_cV 0 22 0 20 10) := c_V (C := RJx4a65c) (T := TJx4a65c) (N := 3) (ci := 0) rfl hC (M := MM) (id := 22) (d := D_22) rfl mok_22 rfl rfl (tin 2 233 (by decide +kernel) rfl) (tin 2 188 (by decide +kernel) rfl) (tin 2 189 (by decide +kernel) rfl) (tin 1 6 (by decide +kernel) rfl) (by decide +kernel : decode cX11_placeOf 7 = .ok (.invokevirtual 93, 3)) rfl
set_option maxRecDepth 100000 in
theorem s_72_10 (hC : SndC g HB l MM call) : Snd g HB l call cX11_placeOf 3 yX11_placeOf.cls yX11_placeOf.name 10 (s_br2 3 39 13) := b_ige (by decide +kernel : decode cX11_placeOf 10 = .ok (.if_icmp .ge 29, 3)) (by decide) rfl
set_option maxRecDepth 100000 in
theorem s_72_39 (hC : SndC g HB l MM call) : Snd g HB l call cX11_placeOf 3 yX11_placeOf.cls yX11_placeOf.name 39 (lf (q_push (.inl 4294967295) 40)) := lf_ok (p_iconst (by decide +kernel : decode cX11_placeOf 39 = .ok (.iconst (-1), 1)) (by decide +kernel) rfl)
set_option maxRecDepth 100000 in
theorem ok_72 (hex : HB.size = g.1) (hC : SndC g HB l MM call) : ∀ x ∈ P_72, Snd g HB l call cX11_placeOf 3 yX11_placeOf.cls yX11_placeOf.name x.1 x.2 := fa4 (s_72_0 hC) (fa4 (s_72_1 hC) (fa4 (s_72_2 hC) (fa4 (s_72_3 hC) (fa4 (s_72_4 hC) (fa4 (s_72_7 hC) (fa4 (s_72_10 hC) (fa4 (s_72_39 hC) (fn4))))))))
set_option maxRecDepth 100000 in
theorem ms_72 (hex : HB.size = g.1) : MSnd g HB l MM D_72 := ⟨by decide +kernel, fun _ hC => ok_72 hex hC, fa4 (show endOK cX11_placeOf (some .int) 40 1 from ⟨rfl, (by decide +kernel : decode cX11_placeOf 40 = .ok (.ireturn, 1))⟩) (fn4)⟩
set_option maxRecDepth 100000 in
theorem s_73_0 (hC : SndC g HB l MM call) : Snd g HB l call cX11_tag 6 yX11_tag.cls yX11_tag.name 0 (lf (q_load isR 0 1)) := lf_ok (p_aload_n (by decide +kernel : decode cX11_tag 0 = .ok (.aload_n 0, 1)) rfl rfl)
set_option maxRecDepth 100000 in
theorem s_73_1 (hC : SndC g HB l MM call) : Snd g HB l call cX11_tag 6 yX11_tag.cls yX11_tag.name 1 (s_cV 9 74 0 20 4) := c_V (C := RX11) (T := TX11) (N := 17) (ci := 9) rfl hC (M := MM) (id := 74) (d := D_74) rfl mok_74 rfl rfl (tin 5 185 (by decide +kernel) rfl) (tin 5 187 (by decide +kernel) rfl) (tinP (y := mdY D_74) (n := 17) 36 (by decide +kernel)) (tin 1 1 (by decide +kernel) rfl) (by decide +kernel : decode cX11_tag 1 = .ok (.invokevirtual 132, 3)) rfl
set_option maxRecDepth 100000 in
theorem s_73_4 (hC : SndC g HB l MM call) : Snd g HB l call cX11_tag 6 yX11_tag.cls yX11_tag.name 4 (lf (q_load isR 0 5)) := lf_ok (p_aload_n (by decide +kernel : decode cX11_tag 4 = .ok (.aload_n 0, 1)) rfl rfl)
set_option maxRecDepth 100000 in
theorem s_73_5 (hC : SndC g HB l MM call) : Snd g HB l call cX11_tag 6 yX11_tag.cls yX11_tag.name 5 (lf (q_load isI 1 6)) := lf_ok (p_iload_n (by decide +kernel : decode cX11_tag 5 = .ok (.iload_n 1, 1)) rfl rfl)
set_option maxRecDepth 100000 in
theorem s_73_6 (hC : SndC g HB l MM call) : Snd g HB l call cX11_tag 6 yX11_tag.cls yX11_tag.name 6 (s_cV 9 72 1 22 9) := c_V (C := RX11) (T := TX11) (N := 17) (ci := 9) rfl hC (M := MM) (id := 72) (d := D_72) rfl mok_72 rfl rfl (tin 2 229 (by decide +kernel) rfl) (tin 2 231 (by decide +kernel) rfl) (tinP (y := mdY D_72) (n := 17) 6 (by decide +kernel)) (tin 1 1 (by decide +kernel) rfl) (by decide +kernel : decode cX11_tag 6 = .ok (.invokevirtual 119, 3)) rfl
set_option maxRecDepth 100000 in
theorem s_73_9 (hC : SndC g HB l MM call) : Snd g HB l call cX11_tag 6 yX11_tag.cls yX11_tag.name 9 (lf (q_store isI up1 0 3 6 10)) := lf_ok (p_istore_n (by decide +kernel : decode cX11_tag 9 = .ok (.istore_n 3, 1)) rfl rfl)
set_option maxRecDepth 100000 in
theorem s_73_10 (hC : SndC g HB l MM call) : Snd g HB l call cX11_tag 6 yX11_tag.cls yX11_tag.name 10 (lf (q_load isI 3 11)) := lf_ok (p_iload_n (by decide +kernel : decode cX11_tag 10 = .ok (.iload_n 3, 1)) rfl rfl)
set_option maxRecDepth 100000 in
theorem s_73_11 (hC : SndC g HB l MM call) : Snd g HB l call cX11_tag 6 yX11_tag.cls yX11_tag.name 11 (s_br1 2 25 14) := b_lt (by decide +kernel : decode cX11_tag 11 = .ok (.ifCond .lt 14, 3)) (by decide) rfl
set_option maxRecDepth 100000 in
theorem ok_73 (hex : HB.size = g.1) (hC : SndC g HB l MM call) : ∀ x ∈ P_73, Snd g HB l call cX11_tag 6 yX11_tag.cls yX11_tag.name x.1 x.2 := fa4 (s_73_0 hC) (fa4 (s_73_1 hC) (fa4 (s_73_4 hC) (fa4 (s_73_5 hC) (fa4 (s_73_6 hC) (fa4 (s_73_9 hC) (fa4 (s_73_10 hC) (fa4 (s_73_11 hC) (fn4))))))))
set_option maxRecDepth 100000 in
theorem ms_73 (hex : HB.size = g.1) : MSnd g HB l MM D_73 := ⟨by decide +kernel, fun _ hC => ok_73 hex hC, fn4⟩
set_option maxRecDepth 100000 in
theorem s_74_0 (hC : SndC g HB l MM call) : Snd g HB l call cX11_takeTape 1 yX11_takeTape.cls yX11_takeTape.name 0 (lf (q_load isR 0 1)) := lf_ok (p_aload_n (by decide +kernel : decode cX11_takeTape 0 = .ok (.aload_n 0, 1)) rfl rfl)
set_option maxRecDepth 100000 in
theorem s_74_1 (hC : SndC g HB l MM call) : Snd g HB l call cX11_takeTape 1 yX11_takeTape.cls yX11_takeTape.name 1 (s_get 9 2 4) := h_get (k := 2) (C := RX11) (T := TX11) (N := 17) (ci := 9) rfl (by decide) (tin 2 97 (by decide +kernel) rfl)  (by decide +kernel : decode cX11_takeTape 1 = .ok (.getfield 21, 3)) rfl
set_option maxRecDepth 100000 in
theorem s_74_4 (hC : SndC g HB l MM call) : Snd g HB l call cX11_takeTape 1 yX11_takeTape.cls yX11_takeTape.name 4 (s_cV 2 12 0 20 7) := c_V (C := RX1) (T := TX1) (N := 2) (ci := 2) rfl hC (M := MM) (id := 12) (d := D_12) rfl mok_12 rfl rfl (tin 2 83 (by decide +kernel) rfl) (tin 2 84 (by decide +kernel) rfl) (tin 2 85 (by decide +kernel) rfl) (tin 1 2 (by decide +kernel) rfl) (by decide +kernel : decode cX11_takeTape 4 = .ok (.invokevirtual 113, 3)) rfl
set_option maxRecDepth 100000 in
theorem s_74_7 (hC : SndC g HB l MM call) : Snd g HB l call cX11_takeTape 1 yX11_takeTape.cls yX11_takeTape.name 7 (lf (q_load isR 0 8)) := lf_ok (p_aload_n (by decide +kernel : decode cX11_takeTape 7 = .ok (.aload_n 0, 1)) rfl rfl)
set_option maxRecDepth 100000 in
theorem s_74_8 (hC : SndC g HB l MM call) : Snd g HB l call cX11_takeTape 1 yX11_takeTape.cls yX11_takeTape.name 8 (s_get 9 2 11) := h_get (k := 2) (C := RX11) (T := TX11) (N := 17) (ci := 9) rfl (by decide) (tin 2 97 (by decide +kernel) rfl)  (by decide +kernel : decode cX11_takeTape 8 = .ok (.getfield 21, 3)) rfl
set_option maxRecDepth 100000 in
theorem s_74_11 (hC : SndC g HB l MM call) : Snd g HB l call cX11_takeTape 1 yX11_takeTape.cls yX11_takeTape.name 11 (lf (q_load isR 0 12)) := lf_ok (p_aload_n (by decide +kernel : decode cX11_takeTape 11 = .ok (.aload_n 0, 1)) rfl rfl)
set_option maxRecDepth 100000 in
theorem s_74_12 (hC : SndC g HB l MM call) : Snd g HB l call cX11_takeTape 1 yX11_takeTape.cls yX11_takeTape.name 12 (s_get 9 1 15) := h_get (k := 1) (C := RX11) (T := TX11) (N := 17) (ci := 9) rfl (by decide) (tin 2 96 (by decide +kernel) rfl)  (by decide +kernel : decode cX11_takeTape 12 = .ok (.getfield 18, 3)) rfl
set_option maxRecDepth 100000 in
theorem s_74_15 (hC : SndC g HB l MM call) : Snd g HB l call cX11_takeTape 1 yX11_takeTape.cls yX11_takeTape.name 15 (lf (q_push (.inl 0) 16)) := lf_ok (p_iconst (by decide +kernel : decode cX11_takeTape 15 = .ok (.iconst 0, 1)) (by decide +kernel) rfl)
set_option maxRecDepth 100000 in
theorem s_74_16 (hC : SndC g HB l MM call) : Snd g HB l call cX11_takeTape 1 yX11_takeTape.cls yX11_takeTape.name 16 (lf (q_load isR 0 17)) := lf_ok (p_aload_n (by decide +kernel : decode cX11_takeTape 16 = .ok (.aload_n 0, 1)) rfl rfl)
set_option maxRecDepth 100000 in
theorem s_74_17 (hC : SndC g HB l MM call) : Snd g HB l call cX11_takeTape 1 yX11_takeTape.cls yX11_takeTape.name 17 (s_get 9 1 20) := h_get (k := 1) (C := RX11) (T := TX11) (N := 17) (ci := 9) rfl (by decide) (tin 2 96 (by decide +kernel) rfl)  (by decide +kernel : decode cX11_takeTape 17 = .ok (.getfield 18, 3)) rfl
set_option maxRecDepth 100000 in
theorem s_74_20 (hC : SndC g HB l MM call) : Snd g HB l call cX11_takeTape 1 yX11_takeTape.cls yX11_takeTape.name 20 (s_cV 2 18 0 20 23) := c_V (C := RX1) (T := TX1) (N := 2) (ci := 2) rfl hC (M := MM) (id := 18) (d := D_18) rfl mok_18 rfl rfl (tin 2 155 (by decide +kernel) rfl) (tin 2 156 (by decide +kernel) rfl) (tin 2 157 (by decide +kernel) rfl) (tin 1 2 (by decide +kernel) rfl) (by decide +kernel : decode cX11_takeTape 20 = .ok (.invokevirtual 85, 3)) rfl
set_option maxRecDepth 100000 in
theorem s_74_23 (hC : SndC g HB l MM call) : Snd g HB l call cX11_takeTape 1 yX11_takeTape.cls yX11_takeTape.name 23 (s_cV 2 19 3 24 26) := c_V (C := RX1) (T := TX1) (N := 2) (ci := 2) rfl hC (M := MM) (id := 19) (d := D_19) rfl mok_19 rfl rfl (tin 2 159 (by decide +kernel) rfl) (tin 2 160 (by decide +kernel) rfl) (tin 2 161 (by decide +kernel) rfl) (tin 1 2 (by decide +kernel) rfl) (by decide +kernel : decode cX11_takeTape 23 = .ok (.invokevirtual 89, 3)) rfl
set_option maxRecDepth 100000 in
theorem s_74_26 (hC : SndC g HB l MM call) : Snd g HB l call cX11_takeTape 1 yX11_takeTape.cls yX11_takeTape.name 26 (lf (q_load isR 0 27)) := lf_ok (p_aload_n (by decide +kernel : decode cX11_takeTape 26 = .ok (.aload_n 0, 1)) rfl rfl)
set_option maxRecDepth 100000 in
theorem s_74_27 (hC : SndC g HB l MM call) : Snd g HB l call cX11_takeTape 1 yX11_takeTape.cls yX11_takeTape.name 27 (s_get 9 1 30) := h_get (k := 1) (C := RX11) (T := TX11) (N := 17) (ci := 9) rfl (by decide) (tin 2 96 (by decide +kernel) rfl)  (by decide +kernel : decode cX11_takeTape 27 = .ok (.getfield 18, 3)) rfl
set_option maxRecDepth 100000 in
theorem s_74_30 (hC : SndC g HB l MM call) : Snd g HB l call cX11_takeTape 1 yX11_takeTape.cls yX11_takeTape.name 30 (s_cV 2 12 0 20 33) := c_V (C := RX1) (T := TX1) (N := 2) (ci := 2) rfl hC (M := MM) (id := 12) (d := D_12) rfl mok_12 rfl rfl (tin 2 83 (by decide +kernel) rfl) (tin 2 84 (by decide +kernel) rfl) (tin 2 85 (by decide +kernel) rfl) (tin 1 2 (by decide +kernel) rfl) (by decide +kernel : decode cX11_takeTape 30 = .ok (.invokevirtual 113, 3)) rfl
set_option maxRecDepth 100000 in
theorem ok_74 (hex : HB.size = g.1) (hC : SndC g HB l MM call) : ∀ x ∈ P_74, Snd g HB l call cX11_takeTape 1 yX11_takeTape.cls yX11_takeTape.name x.1 x.2 := fa4 (s_74_0 hC) (fa4 (s_74_1 hC) (fa4 (s_74_4 hC) (fa4 (s_74_7 hC) (fa4 (s_74_8 hC) (fa4 (s_74_11 hC) (fa4 (s_74_12 hC) (fa4 (s_74_15 hC) (fa4 (s_74_16 hC) (fa4 (s_74_17 hC) (fa4 (s_74_20 hC) (fa4 (s_74_23 hC) (fa4 (s_74_26 hC) (fa4 (s_74_27 hC) (fa4 (s_74_30 hC) (fn4)))))))))))))))
set_option maxRecDepth 100000 in
theorem ms_74 (hex : HB.size = g.1) : MSnd g HB l MM D_74 := ⟨by decide +kernel, fun _ hC => ok_74 hex hC, fa4 (show endOK cX11_takeTape none 33 0 from ⟨rfl, (by decide +kernel : decode cX11_takeTape 33 = .ok (.return_, 1))⟩) (fn4)⟩
set_option maxRecDepth 100000 in
theorem s_75_0 (hC : SndC g HB l MM call) : Snd g HB l call cX11_search 3 yX11_search.cls yX11_search.name 0 (lf (q_load isR 0 1)) := lf_ok (p_aload_n (by decide +kernel : decode cX11_search 0 = .ok (.aload_n 0, 1)) rfl rfl)
set_option maxRecDepth 100000 in
theorem s_75_1 (hC : SndC g HB l MM call) : Snd g HB l call cX11_search 3 yX11_search.cls yX11_search.name 1 (s_cV 9 74 0 20 4) := c_V (C := RX11) (T := TX11) (N := 17) (ci := 9) rfl hC (M := MM) (id := 74) (d := D_74) rfl mok_74 rfl rfl (tin 5 185 (by decide +kernel) rfl) (tin 5 187 (by decide +kernel) rfl) (tinP (y := mdY D_74) (n := 17) 36 (by decide +kernel)) (tin 1 1 (by decide +kernel) rfl) (by decide +kernel : decode cX11_search 1 = .ok (.invokevirtual 132, 3)) rfl
set_option maxRecDepth 100000 in
theorem s_75_4 (hC : SndC g HB l MM call) : Snd g HB l call cX11_search 3 yX11_search.cls yX11_search.name 4 (lf (q_load isR 0 5)) := lf_ok (p_aload_n (by decide +kernel : decode cX11_search 4 = .ok (.aload_n 0, 1)) rfl rfl)
set_option maxRecDepth 100000 in
theorem s_75_5 (hC : SndC g HB l MM call) : Snd g HB l call cX11_search 3 yX11_search.cls yX11_search.name 5 (s_get 9 9 8) := h_get (k := 9) (C := RX11) (T := TX11) (N := 17) (ci := 9) rfl (by decide) (tin 2 104 (by decide +kernel) rfl)  (by decide +kernel : decode cX11_search 5 = .ok (.getfield 67, 3)) rfl
set_option maxRecDepth 100000 in
theorem s_75_8 (hC : SndC g HB l MM call) : Snd g HB l call cX11_search 3 yX11_search.cls yX11_search.name 8 (s_cV 7 76 0 23 11) := c_V (C := RX8) (T := TX8) (N := 17) (ci := 7) rfl hC (M := MM) (id := 76) (d := D_76) rfl mok_76 rfl rfl (tin 6 2 (by decide +kernel) rfl) (tin 6 3 (by decide +kernel) rfl) (tin 6 4 (by decide +kernel) rfl) (tin 1 10 (by decide +kernel) rfl) (by decide +kernel : decode cX11_search 8 = .ok (.invokevirtual 172, 3)) rfl
set_option maxRecDepth 100000 in
theorem s_75_11 (hC : SndC g HB l MM call) : Snd g HB l call cX11_search 3 yX11_search.cls yX11_search.name 11 (lf (q_store isL up2 1 1 3 12)) := lf_ok (p_lstore_n (by decide +kernel : decode cX11_search 11 = .ok (.lstore_n 1, 1)) rfl rfl)
set_option maxRecDepth 100000 in
theorem s_75_12 (hC : SndC g HB l MM call) : Snd g HB l call cX11_search 3 yX11_search.cls yX11_search.name 12 (lf (q_load isR 0 13)) := lf_ok (p_aload_n (by decide +kernel : decode cX11_search 12 = .ok (.aload_n 0, 1)) rfl rfl)
set_option maxRecDepth 100000 in
theorem s_75_13 (hC : SndC g HB l MM call) : Snd g HB l call cX11_search 3 yX11_search.cls yX11_search.name 13 (lf (q_load isR 0 14)) := lf_ok (p_aload_n (by decide +kernel : decode cX11_search 13 = .ok (.aload_n 0, 1)) rfl rfl)
set_option maxRecDepth 100000 in
theorem s_75_14 (hC : SndC g HB l MM call) : Snd g HB l call cX11_search 3 yX11_search.cls yX11_search.name 14 (s_get 9 9 17) := h_get (k := 9) (C := RX11) (T := TX11) (N := 17) (ci := 9) rfl (by decide) (tin 2 104 (by decide +kernel) rfl)  (by decide +kernel : decode cX11_search 14 = .ok (.getfield 67, 3)) rfl
set_option maxRecDepth 100000 in
theorem s_75_17 (hC : SndC g HB l MM call) : Snd g HB l call cX11_search 3 yX11_search.cls yX11_search.name 17 (s_get 7 16 20) := h_getN (host := "MailArchive") (k := 16) (C := RX8) (T := TX8) (N := 17) (ci := 7) rfl (by decide) (tinN 2 43 (by decide +kernel) rfl)  (by decide +kernel : decode cX11_search 17 = .ok (.getfield 176, 3)) rfl
set_option maxRecDepth 100000 in
theorem s_75_20 (hC : SndC g HB l MM call) : Snd g HB l call cX11_search 3 yX11_search.cls yX11_search.name 20 (lf (q_push (.inl 1) 21)) := lf_ok (p_iconst (by decide +kernel : decode cX11_search 20 = .ok (.iconst 1, 1)) (by decide +kernel) rfl)
set_option maxRecDepth 100000 in
theorem s_75_21 (hC : SndC g HB l MM call) : Snd g HB l call cX11_search 3 yX11_search.cls yX11_search.name 21 (lf (q_bin (iop2 (fun x y => x + y)) 22)) := lf_ok (p_iadd (by decide +kernel : decode cX11_search 21 = .ok (.iadd, 1)) rfl)
set_option maxRecDepth 100000 in
theorem s_75_22 (hC : SndC g HB l MM call) : Snd g HB l call cX11_search 3 yX11_search.cls yX11_search.name 22 (s_put 9 16 0 25) := h_put (k := 16) (C := RX11) (T := TX11) (N := 17) (ci := 9) rfl (by decide) rfl rfl (tin 2 111 (by decide +kernel) rfl)  (by decide +kernel : decode cX11_search 22 = .ok (.putfield 179, 3)) rfl
set_option maxRecDepth 100000 in
theorem s_75_25 (hC : SndC g HB l MM call) : Snd g HB l call cX11_search 3 yX11_search.cls yX11_search.name 25 (lf (q_load isR 0 26)) := lf_ok (p_aload_n (by decide +kernel : decode cX11_search 25 = .ok (.aload_n 0, 1)) rfl rfl)
set_option maxRecDepth 100000 in
theorem s_75_26 (hC : SndC g HB l MM call) : Snd g HB l call cX11_search 3 yX11_search.cls yX11_search.name 26 (s_get 9 16 29) := h_get (k := 16) (C := RX11) (T := TX11) (N := 17) (ci := 9) rfl (by decide) (tin 2 111 (by decide +kernel) rfl)  (by decide +kernel : decode cX11_search 26 = .ok (.getfield 179, 3)) rfl
set_option maxRecDepth 100000 in
theorem s_75_29 (hC : SndC g HB l MM call) : Snd g HB l call cX11_search 3 yX11_search.cls yX11_search.name 29 (s_br1 5 42 32) := b_le (by decide +kernel : decode cX11_search 29 = .ok (.ifCond .le 13, 3)) (by decide) rfl
set_option maxRecDepth 100000 in
theorem s_75_42 (hC : SndC g HB l MM call) : Snd g HB l call cX11_search 3 yX11_search.cls yX11_search.name 42 (lf (q_load isR 0 43)) := lf_ok (p_aload_n (by decide +kernel : decode cX11_search 42 = .ok (.aload_n 0, 1)) rfl rfl)
set_option maxRecDepth 100000 in
theorem s_75_43 (hC : SndC g HB l MM call) : Snd g HB l call cX11_search 3 yX11_search.cls yX11_search.name 43 (lf (q_load isL 1 44)) := lf_ok (p_lload_n (by decide +kernel : decode cX11_search 43 = .ok (.lload_n 1, 1)) rfl rfl)
set_option maxRecDepth 100000 in
theorem s_75_44 (hC : SndC g HB l MM call) : Snd g HB l call cX11_search 3 yX11_search.cls yX11_search.name 44 (s_cV 9 83 1 23 47) := c_V (C := RX11) (T := TX11) (N := 17) (ci := 9) rfl hC (M := MM) (id := 83) (d := D_83) rfl mok_83 rfl rfl (tin 6 143 (by decide +kernel) rfl) (tin 6 145 (by decide +kernel) rfl) (tinP (y := mdY D_83) (n := 17) 57 (by decide +kernel)) (tin 1 1 (by decide +kernel) rfl) (by decide +kernel : decode cX11_search 44 = .ok (.invokevirtual 184, 3)) rfl
set_option maxRecDepth 100000 in
theorem s_75_47 (hC : SndC g HB l MM call) : Snd g HB l call cX11_search 3 yX11_search.cls yX11_search.name 47 (lf (q_load isR 0 48)) := lf_ok (p_aload_n (by decide +kernel : decode cX11_search 47 = .ok (.aload_n 0, 1)) rfl rfl)
set_option maxRecDepth 100000 in
theorem s_75_48 (hC : SndC g HB l MM call) : Snd g HB l call cX11_search 3 yX11_search.cls yX11_search.name 48 (s_get 9 13 51) := h_get (k := 13) (C := RX11) (T := TX11) (N := 17) (ci := 9) rfl (by decide) (tin 2 108 (by decide +kernel) rfl)  (by decide +kernel : decode cX11_search 48 = .ok (.getfield 188, 3)) rfl
set_option maxRecDepth 100000 in
theorem ok_75 (hex : HB.size = g.1) (hC : SndC g HB l MM call) : ∀ x ∈ P_75, Snd g HB l call cX11_search 3 yX11_search.cls yX11_search.name x.1 x.2 := fa4 (s_75_0 hC) (fa4 (s_75_1 hC) (fa4 (s_75_4 hC) (fa4 (s_75_5 hC) (fa4 (s_75_8 hC) (fa4 (s_75_11 hC) (fa4 (s_75_12 hC) (fa4 (s_75_13 hC) (fa4 (s_75_14 hC) (fa4 (s_75_17 hC) (fa4 (s_75_20 hC) (fa4 (s_75_21 hC) (fa4 (s_75_22 hC) (fa4 (s_75_25 hC) (fa4 (s_75_26 hC) (fa4 (s_75_29 hC) (fa4 (s_75_42 hC) (fa4 (s_75_43 hC) (fa4 (s_75_44 hC) (fa4 (s_75_47 hC) (fa4 (s_75_48 hC) (fn4)))))))))))))))))))))
set_option maxRecDepth 100000 in
theorem ms_75 (hex : HB.size = g.1) : MSnd g HB l MM D_75 := ⟨by decide +kernel, fun _ hC => ok_75 hex hC, fa4 (show endOK cX11_search (some .int) 51 1 from ⟨rfl, (by decide +kernel : decode cX11_search 51 = .ok (.ireturn, 1))⟩) (fn4)⟩
set_option maxRecDepth 100000 in
theorem s_76_0 (hC : SndC g HB l MM call) : Snd g HB l call cX8_matches 4 yX8_matches.cls yX8_matches.name 0 (lf (q_load isR 0 1)) := lf_ok (p_aload_n (by decide +kernel : decode cX8_matches 0 = .ok (.aload_n 0, 1)) rfl rfl)
set_option maxRecDepth 100000 in
theorem s_76_1 (hC : SndC g HB l MM call) : Snd g HB l call cX8_matches 4 yX8_matches.cls yX8_matches.name 1 (lf (q_push (.inr (.inl 1)) 2)) := lf_ok (p_lconst (by decide +kernel : decode cX8_matches 1 = .ok (.lconst 1, 1)) (by decide +kernel) rfl)
set_option maxRecDepth 100000 in
theorem s_76_2 (hC : SndC g HB l MM call) : Snd g HB l call cX8_matches 4 yX8_matches.cls yX8_matches.name 2 (lf (q_load isR 0 3)) := lf_ok (p_aload_n (by decide +kernel : decode cX8_matches 2 = .ok (.aload_n 0, 1)) rfl rfl)
set_option maxRecDepth 100000 in
theorem s_76_3 (hC : SndC g HB l MM call) : Snd g HB l call cX8_matches 4 yX8_matches.cls yX8_matches.name 3 (s_get 7 1 6) := h_get (k := 1) (C := RX8) (T := TX8) (N := 17) (ci := 7) rfl (by decide) (tin 2 27 (by decide +kernel) rfl)  (by decide +kernel : decode cX8_matches 3 = .ok (.getfield 40, 3)) rfl
set_option maxRecDepth 100000 in
theorem s_76_6 (hC : SndC g HB l MM call) : Snd g HB l call cX8_matches 4 yX8_matches.cls yX8_matches.name 6 (s_cV 0 22 0 20 9) := c_V (C := RJx4a65c) (T := TJx4a65c) (N := 3) (ci := 0) rfl hC (M := MM) (id := 22) (d := D_22) rfl mok_22 rfl rfl (tin 6 6 (by decide +kernel) rfl) (tin 2 188 (by decide +kernel) rfl) (tin 2 189 (by decide +kernel) rfl) (tin 1 6 (by decide +kernel) rfl) (by decide +kernel : decode cX8_matches 6 = .ok (.invokevirtual 67, 3)) rfl
set_option maxRecDepth 100000 in
theorem s_76_9 (hC : SndC g HB l MM call) : Snd g HB l call cX8_matches 4 yX8_matches.cls yX8_matches.name 9 (lf (q_bin f_lshl 10)) := lf_ok (p_lshl (by decide +kernel : decode cX8_matches 9 = .ok (.lshl, 1)) rfl)
set_option maxRecDepth 100000 in
theorem s_76_10 (hC : SndC g HB l MM call) : Snd g HB l call cX8_matches 4 yX8_matches.cls yX8_matches.name 10 (lf (q_push (.inr (.inl 1)) 11)) := lf_ok (p_lconst (by decide +kernel : decode cX8_matches 10 = .ok (.lconst 1, 1)) (by decide +kernel) rfl)
set_option maxRecDepth 100000 in
theorem s_76_11 (hC : SndC g HB l MM call) : Snd g HB l call cX8_matches 4 yX8_matches.cls yX8_matches.name 11 (lf (q_bin (lop2 (fun x y => x - y)) 12)) := lf_ok (p_lsub (by decide +kernel : decode cX8_matches 11 = .ok (.lsub, 1)) rfl)
set_option maxRecDepth 100000 in
theorem s_76_12 (hC : SndC g HB l MM call) : Snd g HB l call cX8_matches 4 yX8_matches.cls yX8_matches.name 12 (s_put 7 15 2 15) := h_put (k := 15) (C := RX8) (T := TX8) (N := 17) (ci := 7) rfl (by decide) rfl rfl (tin 2 41 (by decide +kernel) rfl)  (by decide +kernel : decode cX8_matches 12 = .ok (.putfield 73, 3)) rfl
set_option maxRecDepth 100000 in
theorem s_76_15 (hC : SndC g HB l MM call) : Snd g HB l call cX8_matches 4 yX8_matches.cls yX8_matches.name 15 (lf (q_load isR 0 16)) := lf_ok (p_aload_n (by decide +kernel : decode cX8_matches 15 = .ok (.aload_n 0, 1)) rfl rfl)
set_option maxRecDepth 100000 in
theorem s_76_16 (hC : SndC g HB l MM call) : Snd g HB l call cX8_matches 4 yX8_matches.cls yX8_matches.name 16 (lf (q_push (.inl 4294967295) 17)) := lf_ok (p_iconst (by decide +kernel : decode cX8_matches 16 = .ok (.iconst (-1), 1)) (by decide +kernel) rfl)
set_option maxRecDepth 100000 in
theorem s_76_17 (hC : SndC g HB l MM call) : Snd g HB l call cX8_matches 4 yX8_matches.cls yX8_matches.name 17 (s_put 7 16 0 20) := h_put (k := 16) (C := RX8) (T := TX8) (N := 17) (ci := 7) rfl (by decide) rfl rfl (tin 2 42 (by decide +kernel) rfl)  (by decide +kernel : decode cX8_matches 17 = .ok (.putfield 77, 3)) rfl
set_option maxRecDepth 100000 in
theorem s_76_20 (hC : SndC g HB l MM call) : Snd g HB l call cX8_matches 4 yX8_matches.cls yX8_matches.name 20 (lf (q_load isR 0 21)) := lf_ok (p_aload_n (by decide +kernel : decode cX8_matches 20 = .ok (.aload_n 0, 1)) rfl rfl)
set_option maxRecDepth 100000 in
theorem s_76_21 (hC : SndC g HB l MM call) : Snd g HB l call cX8_matches 4 yX8_matches.cls yX8_matches.name 21 (s_get 7 6 24) := h_get (k := 6) (C := RX8) (T := TX8) (N := 17) (ci := 7) rfl (by decide) (tin 2 32 (by decide +kernel) rfl)  (by decide +kernel : decode cX8_matches 21 = .ok (.getfield 63, 3)) rfl
set_option maxRecDepth 100000 in
theorem s_76_24 (hC : SndC g HB l MM call) : Snd g HB l call cX8_matches 4 yX8_matches.cls yX8_matches.name 24 (s_cV 4 77 0 20 27) := c_V (C := RX5) (T := TX5) (N := 9) (ci := 4) rfl hC (M := MM) (id := 77) (d := D_77) rfl mok_77 rfl rfl (tin 6 7 (by decide +kernel) rfl) (tin 6 8 (by decide +kernel) rfl) (tin 6 9 (by decide +kernel) rfl) (tin 1 11 (by decide +kernel) rfl) (by decide +kernel : decode cX8_matches 24 = .ok (.invokevirtual 81, 3)) rfl
set_option maxRecDepth 100000 in
theorem s_76_27 (hC : SndC g HB l MM call) : Snd g HB l call cX8_matches 4 yX8_matches.cls yX8_matches.name 27 (lf (q_load isR 0 28)) := lf_ok (p_aload_n (by decide +kernel : decode cX8_matches 27 = .ok (.aload_n 0, 1)) rfl rfl)
set_option maxRecDepth 100000 in
theorem s_76_28 (hC : SndC g HB l MM call) : Snd g HB l call cX8_matches 4 yX8_matches.cls yX8_matches.name 28 (lf (q_push (.inl 0) 29)) := lf_ok (p_iconst (by decide +kernel : decode cX8_matches 28 = .ok (.iconst 0, 1)) (by decide +kernel) rfl)
set_option maxRecDepth 100000 in
theorem s_76_29 (hC : SndC g HB l MM call) : Snd g HB l call cX8_matches 4 yX8_matches.cls yX8_matches.name 29 (s_cV 7 78 1 21 32) := c_V (C := RX8) (T := TX8) (N := 17) (ci := 7) rfl hC (M := MM) (id := 78) (d := D_78) rfl mok_78 rfl rfl (tin 6 11 (by decide +kernel) rfl) (tin 6 13 (by decide +kernel) rfl) (tinP (y := mdY D_78) (n := 17) 38 (by decide +kernel)) (tin 1 10 (by decide +kernel) rfl) (by decide +kernel : decode cX8_matches 29 = .ok (.invokevirtual 84, 3)) rfl
set_option maxRecDepth 100000 in
theorem s_76_32 (hC : SndC g HB l MM call) : Snd g HB l call cX8_matches 4 yX8_matches.cls yX8_matches.name 32 (lf (q_push (.inl 0) 33)) := lf_ok (p_iconst (by decide +kernel : decode cX8_matches 32 = .ok (.iconst 0, 1)) (by decide +kernel) rfl)
set_option maxRecDepth 100000 in
theorem s_76_33 (hC : SndC g HB l MM call) : Snd g HB l call cX8_matches 4 yX8_matches.cls yX8_matches.name 33 (lf (q_store isI up1 0 1 4 34)) := lf_ok (p_istore_n (by decide +kernel : decode cX8_matches 33 = .ok (.istore_n 1, 1)) rfl rfl)
set_option maxRecDepth 100000 in
theorem s_76_34 (hC : SndC g HB l MM call) : Snd g HB l call cX8_matches 4 yX8_matches.cls yX8_matches.name 34 (lf (q_push (.inl 0) 35)) := lf_ok (p_iconst (by decide +kernel : decode cX8_matches 34 = .ok (.iconst 0, 1)) (by decide +kernel) rfl)
set_option maxRecDepth 100000 in
theorem s_76_35 (hC : SndC g HB l MM call) : Snd g HB l call cX8_matches 4 yX8_matches.cls yX8_matches.name 35 (lf (q_store isI up1 0 2 4 36)) := lf_ok (p_istore_n (by decide +kernel : decode cX8_matches 35 = .ok (.istore_n 2, 1)) rfl rfl)
set_option maxRecDepth 100000 in
theorem s_76_36 (hC : SndC g HB l MM call) : Snd g HB l call cX8_matches 4 yX8_matches.cls yX8_matches.name 36 (lf (q_load isI 2 37)) := lf_ok (p_iload_n (by decide +kernel : decode cX8_matches 36 = .ok (.iload_n 2, 1)) rfl rfl)
set_option maxRecDepth 100000 in
theorem s_76_37 (hC : SndC g HB l MM call) : Snd g HB l call cX8_matches 4 yX8_matches.cls yX8_matches.name 37 (lf (q_load isR 0 38)) := lf_ok (p_aload_n (by decide +kernel : decode cX8_matches 37 = .ok (.aload_n 0, 1)) rfl rfl)
set_option maxRecDepth 100000 in
theorem s_76_38 (hC : SndC g HB l MM call) : Snd g HB l call cX8_matches 4 yX8_matches.cls yX8_matches.name 38 (s_get 7 0 41) := h_get (k := 0) (C := RX8) (T := TX8) (N := 17) (ci := 7) rfl (by decide) (tin 2 26 (by decide +kernel) rfl)  (by decide +kernel : decode cX8_matches 38 = .ok (.getfield 37, 3)) rfl
set_option maxRecDepth 100000 in
theorem s_76_41 (hC : SndC g HB l MM call) : Snd g HB l call cX8_matches 4 yX8_matches.cls yX8_matches.name 41 (s_cV 2 18 0 20 44) := c_V (C := RX1) (T := TX1) (N := 2) (ci := 2) rfl hC (M := MM) (id := 18) (d := D_18) rfl mok_18 rfl rfl (tin 6 19 (by decide +kernel) rfl) (tin 2 156 (by decide +kernel) rfl) (tin 2 157 (by decide +kernel) rfl) (tin 1 2 (by decide +kernel) rfl) (by decide +kernel : decode cX8_matches 41 = .ok (.invokevirtual 87, 3)) rfl
set_option maxRecDepth 100000 in
theorem s_76_44 (hC : SndC g HB l MM call) : Snd g HB l call cX8_matches 4 yX8_matches.cls yX8_matches.name 44 (s_br2 4 138 47) := b_igt (by decide +kernel : decode cX8_matches 44 = .ok (.if_icmp .gt 94, 3)) (by decide) rfl
set_option maxRecDepth 100000 in
theorem s_76_47 (hC : SndC g HB l MM call) : Snd g HB l call cX8_matches 4 yX8_matches.cls yX8_matches.name 47 (lf (q_load isR 0 48)) := lf_ok (p_aload_n (by decide +kernel : decode cX8_matches 47 = .ok (.aload_n 0, 1)) rfl rfl)
set_option maxRecDepth 100000 in
theorem s_76_48 (hC : SndC g HB l MM call) : Snd g HB l call cX8_matches 4 yX8_matches.cls yX8_matches.name 48 (s_get 7 6 51) := h_get (k := 6) (C := RX8) (T := TX8) (N := 17) (ci := 7) rfl (by decide) (tin 2 32 (by decide +kernel) rfl)  (by decide +kernel : decode cX8_matches 48 = .ok (.getfield 63, 3)) rfl
set_option maxRecDepth 100000 in
theorem s_76_51 (hC : SndC g HB l MM call) : Snd g HB l call cX8_matches 4 yX8_matches.cls yX8_matches.name 51 (s_cV 4 80 0 21 54) := c_V (C := RX5) (T := TX5) (N := 9) (ci := 4) rfl hC (M := MM) (id := 80) (d := D_80) rfl mok_80 rfl rfl (tin 6 20 (by decide +kernel) rfl) (tin 6 21 (by decide +kernel) rfl) (tin 6 22 (by decide +kernel) rfl) (tin 1 11 (by decide +kernel) rfl) (by decide +kernel : decode cX8_matches 51 = .ok (.invokevirtual 88, 3)) rfl
set_option maxRecDepth 100000 in
theorem s_76_54 (hC : SndC g HB l MM call) : Snd g HB l call cX8_matches 4 yX8_matches.cls yX8_matches.name 54 (lf (q_store isI up1 0 3 4 55)) := lf_ok (p_istore_n (by decide +kernel : decode cX8_matches 54 = .ok (.istore_n 3, 1)) rfl rfl)
set_option maxRecDepth 100000 in
theorem s_76_55 (hC : SndC g HB l MM call) : Snd g HB l call cX8_matches 4 yX8_matches.cls yX8_matches.name 55 (lf (q_load isR 0 56)) := lf_ok (p_aload_n (by decide +kernel : decode cX8_matches 55 = .ok (.aload_n 0, 1)) rfl rfl)
set_option maxRecDepth 100000 in
theorem s_76_56 (hC : SndC g HB l MM call) : Snd g HB l call cX8_matches 4 yX8_matches.cls yX8_matches.name 56 (lf (q_load isI 3 57)) := lf_ok (p_iload_n (by decide +kernel : decode cX8_matches 56 = .ok (.iload_n 3, 1)) rfl rfl)
set_option maxRecDepth 100000 in
theorem s_76_57 (hC : SndC g HB l MM call) : Snd g HB l call cX8_matches 4 yX8_matches.cls yX8_matches.name 57 (lf (q_load isI 1 58)) := lf_ok (p_iload_n (by decide +kernel : decode cX8_matches 57 = .ok (.iload_n 1, 1)) rfl rfl)
set_option maxRecDepth 100000 in
theorem s_76_58 (hC : SndC g HB l MM call) : Snd g HB l call cX8_matches 4 yX8_matches.cls yX8_matches.name 58 (lf (q_load isI 2 59)) := lf_ok (p_iload_n (by decide +kernel : decode cX8_matches 58 = .ok (.iload_n 2, 1)) rfl rfl)
set_option maxRecDepth 100000 in
theorem s_76_59 (hC : SndC g HB l MM call) : Snd g HB l call cX8_matches 4 yX8_matches.cls yX8_matches.name 59 (s_br1 1 66 62) := b_ne (by decide +kernel : decode cX8_matches 59 = .ok (.ifCond .ne 7, 3)) (by decide) rfl
set_option maxRecDepth 100000 in
theorem s_76_62 (hC : SndC g HB l MM call) : Snd g HB l call cX8_matches 4 yX8_matches.cls yX8_matches.name 62 (lf (q_push (.inl 1) 63)) := lf_ok (p_iconst (by decide +kernel : decode cX8_matches 62 = .ok (.iconst 1, 1)) (by decide +kernel) rfl)
set_option maxRecDepth 100000 in
theorem s_76_63 (hC : SndC g HB l MM call) : Snd g HB l call cX8_matches 4 yX8_matches.cls yX8_matches.name 63 (lf (q_goto 67)) := lf_ok (p_goto (by decide +kernel : decode cX8_matches 63 = .ok (.goto 4, 3)) (by decide))
set_option maxRecDepth 100000 in
theorem s_76_67 (hC : SndC g HB l MM call) : Snd g HB l call cX8_matches 4 yX8_matches.cls yX8_matches.name 67 (s_cV 7 82 3 23 70) := c_V (C := RX8) (T := TX8) (N := 17) (ci := 7) rfl hC (M := MM) (id := 82) (d := D_82) rfl mok_82 rfl rfl (tin 6 77 (by decide +kernel) rfl) (tin 6 79 (by decide +kernel) rfl) (tinP (y := mdY D_82) (n := 17) 45 (by decide +kernel)) (tin 1 10 (by decide +kernel) rfl) (by decide +kernel : decode cX8_matches 67 = .ok (.invokevirtual 91, 3)) rfl
set_option maxRecDepth 100000 in
theorem s_76_70 (hC : SndC g HB l MM call) : Snd g HB l call cX8_matches 4 yX8_matches.cls yX8_matches.name 70 (s_br1 1 86 73) := b_ne (by decide +kernel : decode cX8_matches 70 = .ok (.ifCond .ne 16, 3)) (by decide) rfl
set_option maxRecDepth 100000 in
theorem s_76_86 (hC : SndC g HB l MM call) : Snd g HB l call cX8_matches 4 yX8_matches.cls yX8_matches.name 86 (lf (q_load isI 3 87)) := lf_ok (p_iload_n (by decide +kernel : decode cX8_matches 86 = .ok (.iload_n 3, 1)) rfl rfl)
set_option maxRecDepth 100000 in
theorem s_76_87 (hC : SndC g HB l MM call) : Snd g HB l call cX8_matches 4 yX8_matches.cls yX8_matches.name 87 (s_br1 1 93 90) := b_ne (by decide +kernel : decode cX8_matches 87 = .ok (.ifCond .ne 6, 3)) (by decide) rfl
set_option maxRecDepth 100000 in
theorem s_76_90 (hC : SndC g HB l MM call) : Snd g HB l call cX8_matches 4 yX8_matches.cls yX8_matches.name 90 (lf (q_goto 138)) := lf_ok (p_goto (by decide +kernel : decode cX8_matches 90 = .ok (.goto 48, 3)) (by decide))
set_option maxRecDepth 100000 in
theorem s_76_138 (hC : SndC g HB l MM call) : Snd g HB l call cX8_matches 4 yX8_matches.cls yX8_matches.name 138 (lf (q_load isR 0 139)) := lf_ok (p_aload_n (by decide +kernel : decode cX8_matches 138 = .ok (.aload_n 0, 1)) rfl rfl)
set_option maxRecDepth 100000 in
theorem s_76_139 (hC : SndC g HB l MM call) : Snd g HB l call cX8_matches 4 yX8_matches.cls yX8_matches.name 139 (s_get 7 7 142) := h_get (k := 7) (C := RX8) (T := TX8) (N := 17) (ci := 7) rfl (by decide) (tin 2 33 (by decide +kernel) rfl)  (by decide +kernel : decode cX8_matches 139 = .ok (.getfield 11, 3)) rfl
set_option maxRecDepth 100000 in
theorem s_76_142 (hC : SndC g HB l MM call) : Snd g HB l call cX8_matches 4 yX8_matches.cls yX8_matches.name 142 (lf (q_push (.inl 0) 143)) := lf_ok (p_iconst (by decide +kernel : decode cX8_matches 142 = .ok (.iconst 0, 1)) (by decide +kernel) rfl)
set_option maxRecDepth 100000 in
theorem s_76_143 (hC : SndC g HB l MM call) : Snd g HB l call cX8_matches 4 yX8_matches.cls yX8_matches.name 143 (s_ald (fun t => Nat.beq t 3) isL (.inr (.inl 0)) 144) := h_lald (by decide +kernel : decode cX8_matches 143 = .ok (.laload, 1)) rfl
set_option maxRecDepth 100000 in
theorem s_76_144 (hC : SndC g HB l MM call) : Snd g HB l call cX8_matches 4 yX8_matches.cls yX8_matches.name 144 (lf (q_load isR 0 145)) := lf_ok (p_aload_n (by decide +kernel : decode cX8_matches 144 = .ok (.aload_n 0, 1)) rfl rfl)
set_option maxRecDepth 100000 in
theorem s_76_145 (hC : SndC g HB l MM call) : Snd g HB l call cX8_matches 4 yX8_matches.cls yX8_matches.name 145 (s_get 7 8 148) := h_get (k := 8) (C := RX8) (T := TX8) (N := 17) (ci := 7) rfl (by decide) (tin 2 34 (by decide +kernel) rfl)  (by decide +kernel : decode cX8_matches 145 = .ok (.getfield 15, 3)) rfl
set_option maxRecDepth 100000 in
theorem s_76_148 (hC : SndC g HB l MM call) : Snd g HB l call cX8_matches 4 yX8_matches.cls yX8_matches.name 148 (lf (q_push (.inl 0) 149)) := lf_ok (p_iconst (by decide +kernel : decode cX8_matches 148 = .ok (.iconst 0, 1)) (by decide +kernel) rfl)
set_option maxRecDepth 100000 in
theorem s_76_149 (hC : SndC g HB l MM call) : Snd g HB l call cX8_matches 4 yX8_matches.cls yX8_matches.name 149 (s_ald (fun t => Nat.beq t 3) isL (.inr (.inl 0)) 150) := h_lald (by decide +kernel : decode cX8_matches 149 = .ok (.laload, 1)) rfl
set_option maxRecDepth 100000 in
theorem s_76_150 (hC : SndC g HB l MM call) : Snd g HB l call cX8_matches 4 yX8_matches.cls yX8_matches.name 150 (lf (q_bin (lop2 (fun x y => x ||| y)) 151)) := lf_ok (p_lor (by decide +kernel : decode cX8_matches 150 = .ok (.lor, 1)) rfl)
set_option maxRecDepth 100000 in
theorem ok_76 (hex : HB.size = g.1) (hC : SndC g HB l MM call) : ∀ x ∈ P_76, Snd g HB l call cX8_matches 4 yX8_matches.cls yX8_matches.name x.1 x.2 := fa4 (s_76_0 hC) (fa4 (s_76_1 hC) (fa4 (s_76_2 hC) (fa4 (s_76_3 hC) (fa4 (s_76_6 hC) (fa4 (s_76_9 hC) (fa4 (s_76_10 hC) (fa4 (s_76_11 hC) (fa4 (s_76_12 hC) (fa4 (s_76_15 hC) (fa4 (s_76_16 hC) (fa4 (s_76_17 hC) (fa4 (s_76_20 hC) (fa4 (s_76_21 hC) (fa4 (s_76_24 hC) (fa4 (s_76_27 hC) (fa4 (s_76_28 hC) (fa4 (s_76_29 hC) (fa4 (s_76_32 hC) (fa4 (s_76_33 hC) (fa4 (s_76_34 hC) (fa4 (s_76_35 hC) (fa4 (s_76_36 hC) (fa4 (s_76_37 hC) (fa4 (s_76_38 hC) (fa4 (s_76_41 hC) (fa4 (s_76_44 hC) (fa4 (s_76_47 hC) (fa4 (s_76_48 hC) (fa4 (s_76_51 hC) (fa4 (s_76_54 hC) (fa4 (s_76_55 hC) (fa4 (s_76_56 hC) (fa4 (s_76_57 hC) (fa4 (s_76_58 hC) (fa4 (s_76_59 hC) (fa4 (s_76_62 hC) (fa4 (s_76_63 hC) (fa4 (s_76_67 hC) (fa4 (s_76_70 hC) (fa4 (s_76_86 hC) (fa4 (s_76_87 hC) (fa4 (s_76_90 hC) (fa4 (s_76_138 hC) (fa4 (s_76_139 hC) (fa4 (s_76_142 hC) (fa4 (s_76_143 hC) (fa4 (s_76_144 hC) (fa4 (s_76_145 hC) (fa4 (s_76_148 hC) (fa4 (s_76_149 hC) (fa4 (s_76_150 hC) (fn4))))))))))))))))))))))))))))))))))))))))))))))))))))
set_option maxRecDepth 100000 in
theorem ms_76 (hex : HB.size = g.1) : MSnd g HB l MM D_76 := ⟨by decide +kernel, fun _ hC => ok_76 hex hC, fa4 (show endOK cX8_matches (some .long) 151 4 from ⟨rfl, (by decide +kernel : decode cX8_matches 151 = .ok (.lreturn, 1))⟩) (fn4)⟩
set_option maxRecDepth 100000 in
theorem s_77_0 (hC : SndC g HB l MM call) : Snd g HB l call cX5_restart 1 yX5_restart.cls yX5_restart.name 0 (lf (q_load isR 0 1)) := lf_ok (p_aload_n (by decide +kernel : decode cX5_restart 0 = .ok (.aload_n 0, 1)) rfl rfl)
set_option maxRecDepth 100000 in
theorem s_77_1 (hC : SndC g HB l MM call) : Snd g HB l call cX5_restart 1 yX5_restart.cls yX5_restart.name 1 (lf (q_push (.inl 0) 2)) := lf_ok (p_iconst (by decide +kernel : decode cX5_restart 1 = .ok (.iconst 0, 1)) (by decide +kernel) rfl)
set_option maxRecDepth 100000 in
theorem s_77_2 (hC : SndC g HB l MM call) : Snd g HB l call cX5_restart 1 yX5_restart.cls yX5_restart.name 2 (s_put 4 2 0 5) := h_put (k := 2) (C := RX5) (T := TX5) (N := 9) (ci := 4) rfl (by decide) rfl rfl (tin 1 232 (by decide +kernel) rfl)  (by decide +kernel : decode cX5_restart 2 = .ok (.putfield 15, 3)) rfl
set_option maxRecDepth 100000 in
theorem ok_77 (hex : HB.size = g.1) (hC : SndC g HB l MM call) : ∀ x ∈ P_77, Snd g HB l call cX5_restart 1 yX5_restart.cls yX5_restart.name x.1 x.2 := fa4 (s_77_0 hC) (fa4 (s_77_1 hC) (fa4 (s_77_2 hC) (fn4)))
set_option maxRecDepth 100000 in
theorem ms_77 (hex : HB.size = g.1) : MSnd g HB l MM D_77 := ⟨by decide +kernel, fun _ hC => ok_77 hex hC, fa4 (show endOK cX5_restart none 5 0 from ⟨rfl, (by decide +kernel : decode cX5_restart 5 = .ok (.return_, 1))⟩) (fn4)⟩
set_option maxRecDepth 100000 in
theorem s_78_0 (hC : SndC g HB l MM call) : Snd g HB l call cX8_startLevel 2 yX8_startLevel.cls yX8_startLevel.name 0 (lf (q_load isR 0 1)) := lf_ok (p_aload_n (by decide +kernel : decode cX8_startLevel 0 = .ok (.aload_n 0, 1)) rfl rfl)
set_option maxRecDepth 100000 in
theorem s_78_1 (hC : SndC g HB l MM call) : Snd g HB l call cX8_startLevel 2 yX8_startLevel.cls yX8_startLevel.name 1 (lf (q_load isI 1 2)) := lf_ok (p_iload_n (by decide +kernel : decode cX8_startLevel 1 = .ok (.iload_n 1, 1)) rfl rfl)
set_option maxRecDepth 100000 in
theorem s_78_2 (hC : SndC g HB l MM call) : Snd g HB l call cX8_startLevel 2 yX8_startLevel.cls yX8_startLevel.name 2 (s_put 7 14 0 5) := h_put (k := 14) (C := RX8) (T := TX8) (N := 17) (ci := 7) rfl (by decide) rfl rfl (tin 2 40 (by decide +kernel) rfl)  (by decide +kernel : decode cX8_startLevel 2 = .ok (.putfield 109, 3)) rfl
set_option maxRecDepth 100000 in
theorem s_78_5 (hC : SndC g HB l MM call) : Snd g HB l call cX8_startLevel 2 yX8_startLevel.cls yX8_startLevel.name 5 (lf (q_load isR 0 6)) := lf_ok (p_aload_n (by decide +kernel : decode cX8_startLevel 5 = .ok (.aload_n 0, 1)) rfl rfl)
set_option maxRecDepth 100000 in
theorem s_78_6 (hC : SndC g HB l MM call) : Snd g HB l call cX8_startLevel 2 yX8_startLevel.cls yX8_startLevel.name 6 (s_cV 7 79 0 20 9) := c_V (C := RX8) (T := TX8) (N := 17) (ci := 7) rfl hC (M := MM) (id := 79) (d := D_79) rfl mok_79 rfl rfl (tin 6 15 (by decide +kernel) rfl) (tin 6 17 (by decide +kernel) rfl) (tinP (y := mdY D_79) (n := 17) 39 (by decide +kernel)) (tin 1 10 (by decide +kernel) rfl) (by decide +kernel : decode cX8_startLevel 6 = .ok (.invokevirtual 121, 3)) rfl
set_option maxRecDepth 100000 in
theorem s_78_9 (hC : SndC g HB l MM call) : Snd g HB l call cX8_startLevel 2 yX8_startLevel.cls yX8_startLevel.name 9 (s_br1 0 45 12) := b_eq (by decide +kernel : decode cX8_startLevel 9 = .ok (.ifCond .eq 36, 3)) (by decide) rfl
set_option maxRecDepth 100000 in
theorem s_78_12 (hC : SndC g HB l MM call) : Snd g HB l call cX8_startLevel 2 yX8_startLevel.cls yX8_startLevel.name 12 (lf (q_load isR 0 13)) := lf_ok (p_aload_n (by decide +kernel : decode cX8_startLevel 12 = .ok (.aload_n 0, 1)) rfl rfl)
set_option maxRecDepth 100000 in
theorem s_78_13 (hC : SndC g HB l MM call) : Snd g HB l call cX8_startLevel 2 yX8_startLevel.cls yX8_startLevel.name 13 (s_get 7 7 16) := h_get (k := 7) (C := RX8) (T := TX8) (N := 17) (ci := 7) rfl (by decide) (tin 2 33 (by decide +kernel) rfl)  (by decide +kernel : decode cX8_startLevel 13 = .ok (.getfield 11, 3)) rfl
set_option maxRecDepth 100000 in
theorem s_78_16 (hC : SndC g HB l MM call) : Snd g HB l call cX8_startLevel 2 yX8_startLevel.cls yX8_startLevel.name 16 (lf (q_load isR 0 17)) := lf_ok (p_aload_n (by decide +kernel : decode cX8_startLevel 16 = .ok (.aload_n 0, 1)) rfl rfl)
set_option maxRecDepth 100000 in
theorem s_78_17 (hC : SndC g HB l MM call) : Snd g HB l call cX8_startLevel 2 yX8_startLevel.cls yX8_startLevel.name 17 (s_get 7 14 20) := h_get (k := 14) (C := RX8) (T := TX8) (N := 17) (ci := 7) rfl (by decide) (tin 2 40 (by decide +kernel) rfl)  (by decide +kernel : decode cX8_startLevel 17 = .ok (.getfield 109, 3)) rfl
set_option maxRecDepth 100000 in
theorem s_78_20 (hC : SndC g HB l MM call) : Snd g HB l call cX8_startLevel 2 yX8_startLevel.cls yX8_startLevel.name 20 (lf (q_push (.inr (.inl 0)) 21)) := lf_ok (p_lconst (by decide +kernel : decode cX8_startLevel 20 = .ok (.lconst 0, 1)) (by decide +kernel) rfl)
set_option maxRecDepth 100000 in
theorem s_78_21 (hC : SndC g HB l MM call) : Snd g HB l call cX8_startLevel 2 yX8_startLevel.cls yX8_startLevel.name 21 (s_ast (fun t => Nat.beq t 3) cvL 22) := h_last (by decide +kernel : decode cX8_startLevel 21 = .ok (.lastore, 1)) rfl
set_option maxRecDepth 100000 in
theorem s_78_22 (hC : SndC g HB l MM call) : Snd g HB l call cX8_startLevel 2 yX8_startLevel.cls yX8_startLevel.name 22 (lf (q_load isR 0 23)) := lf_ok (p_aload_n (by decide +kernel : decode cX8_startLevel 22 = .ok (.aload_n 0, 1)) rfl rfl)
set_option maxRecDepth 100000 in
theorem s_78_23 (hC : SndC g HB l MM call) : Snd g HB l call cX8_startLevel 2 yX8_startLevel.cls yX8_startLevel.name 23 (s_get 7 8 26) := h_get (k := 8) (C := RX8) (T := TX8) (N := 17) (ci := 7) rfl (by decide) (tin 2 34 (by decide +kernel) rfl)  (by decide +kernel : decode cX8_startLevel 23 = .ok (.getfield 15, 3)) rfl
set_option maxRecDepth 100000 in
theorem s_78_26 (hC : SndC g HB l MM call) : Snd g HB l call cX8_startLevel 2 yX8_startLevel.cls yX8_startLevel.name 26 (lf (q_load isR 0 27)) := lf_ok (p_aload_n (by decide +kernel : decode cX8_startLevel 26 = .ok (.aload_n 0, 1)) rfl rfl)
set_option maxRecDepth 100000 in
theorem s_78_27 (hC : SndC g HB l MM call) : Snd g HB l call cX8_startLevel 2 yX8_startLevel.cls yX8_startLevel.name 27 (s_get 7 14 30) := h_get (k := 14) (C := RX8) (T := TX8) (N := 17) (ci := 7) rfl (by decide) (tin 2 40 (by decide +kernel) rfl)  (by decide +kernel : decode cX8_startLevel 27 = .ok (.getfield 109, 3)) rfl
set_option maxRecDepth 100000 in
theorem s_78_30 (hC : SndC g HB l MM call) : Snd g HB l call cX8_startLevel 2 yX8_startLevel.cls yX8_startLevel.name 30 (lf (q_load isR 0 31)) := lf_ok (p_aload_n (by decide +kernel : decode cX8_startLevel 30 = .ok (.aload_n 0, 1)) rfl rfl)
set_option maxRecDepth 100000 in
theorem s_78_31 (hC : SndC g HB l MM call) : Snd g HB l call cX8_startLevel 2 yX8_startLevel.cls yX8_startLevel.name 31 (s_get 7 15 34) := h_get (k := 15) (C := RX8) (T := TX8) (N := 17) (ci := 7) rfl (by decide) (tin 2 41 (by decide +kernel) rfl)  (by decide +kernel : decode cX8_startLevel 31 = .ok (.getfield 73, 3)) rfl
set_option maxRecDepth 100000 in
theorem s_78_34 (hC : SndC g HB l MM call) : Snd g HB l call cX8_startLevel 2 yX8_startLevel.cls yX8_startLevel.name 34 (s_ast (fun t => Nat.beq t 3) cvL 35) := h_last (by decide +kernel : decode cX8_startLevel 34 = .ok (.lastore, 1)) rfl
set_option maxRecDepth 100000 in
theorem s_78_35 (hC : SndC g HB l MM call) : Snd g HB l call cX8_startLevel 2 yX8_startLevel.cls yX8_startLevel.name 35 (lf (q_load isR 0 36)) := lf_ok (p_aload_n (by decide +kernel : decode cX8_startLevel 35 = .ok (.aload_n 0, 1)) rfl rfl)
set_option maxRecDepth 100000 in
theorem s_78_36 (hC : SndC g HB l MM call) : Snd g HB l call cX8_startLevel 2 yX8_startLevel.cls yX8_startLevel.name 36 (s_get 7 9 39) := h_get (k := 9) (C := RX8) (T := TX8) (N := 17) (ci := 7) rfl (by decide) (tin 2 35 (by decide +kernel) rfl)  (by decide +kernel : decode cX8_startLevel 36 = .ok (.getfield 18, 3)) rfl
set_option maxRecDepth 100000 in
theorem s_78_39 (hC : SndC g HB l MM call) : Snd g HB l call cX8_startLevel 2 yX8_startLevel.cls yX8_startLevel.name 39 (lf (q_load isR 0 40)) := lf_ok (p_aload_n (by decide +kernel : decode cX8_startLevel 39 = .ok (.aload_n 0, 1)) rfl rfl)
set_option maxRecDepth 100000 in
theorem s_78_40 (hC : SndC g HB l MM call) : Snd g HB l call cX8_startLevel 2 yX8_startLevel.cls yX8_startLevel.name 40 (s_get 7 14 43) := h_get (k := 14) (C := RX8) (T := TX8) (N := 17) (ci := 7) rfl (by decide) (tin 2 40 (by decide +kernel) rfl)  (by decide +kernel : decode cX8_startLevel 40 = .ok (.getfield 109, 3)) rfl
set_option maxRecDepth 100000 in
theorem s_78_43 (hC : SndC g HB l MM call) : Snd g HB l call cX8_startLevel 2 yX8_startLevel.cls yX8_startLevel.name 43 (lf (q_push (.inl 0) 44)) := lf_ok (p_iconst (by decide +kernel : decode cX8_startLevel 43 = .ok (.iconst 0, 1)) (by decide +kernel) rfl)
set_option maxRecDepth 100000 in
theorem s_78_44 (hC : SndC g HB l MM call) : Snd g HB l call cX8_startLevel 2 yX8_startLevel.cls yX8_startLevel.name 44 (s_ast (fun t => Nat.beq t 1 || Nat.beq t 2) cvB 45) := h_bast (by decide +kernel : decode cX8_startLevel 44 = .ok (.bastore, 1)) rfl
set_option maxRecDepth 100000 in
theorem ok_78 (hex : HB.size = g.1) (hC : SndC g HB l MM call) : ∀ x ∈ P_78, Snd g HB l call cX8_startLevel 2 yX8_startLevel.cls yX8_startLevel.name x.1 x.2 := fa4 (s_78_0 hC) (fa4 (s_78_1 hC) (fa4 (s_78_2 hC) (fa4 (s_78_5 hC) (fa4 (s_78_6 hC) (fa4 (s_78_9 hC) (fa4 (s_78_12 hC) (fa4 (s_78_13 hC) (fa4 (s_78_16 hC) (fa4 (s_78_17 hC) (fa4 (s_78_20 hC) (fa4 (s_78_21 hC) (fa4 (s_78_22 hC) (fa4 (s_78_23 hC) (fa4 (s_78_26 hC) (fa4 (s_78_27 hC) (fa4 (s_78_30 hC) (fa4 (s_78_31 hC) (fa4 (s_78_34 hC) (fa4 (s_78_35 hC) (fa4 (s_78_36 hC) (fa4 (s_78_39 hC) (fa4 (s_78_40 hC) (fa4 (s_78_43 hC) (fa4 (s_78_44 hC) (fn4)))))))))))))))))))))))))
set_option maxRecDepth 100000 in
theorem ms_78 (hex : HB.size = g.1) : MSnd g HB l MM D_78 := ⟨by decide +kernel, fun _ hC => ok_78 hex hC, fa4 (show endOK cX8_startLevel none 45 0 from ⟨rfl, (by decide +kernel : decode cX8_startLevel 45 = .ok (.return_, 1))⟩) (fn4)⟩
set_option maxRecDepth 100000 in
theorem s_79_0 (hC : SndC g HB l MM call) : Snd g HB l call cX8_isLevel 1 yX8_isLevel.cls yX8_isLevel.name 0 (lf (q_load isR 0 1)) := lf_ok (p_aload_n (by decide +kernel : decode cX8_isLevel 0 = .ok (.aload_n 0, 1)) rfl rfl)
set_option maxRecDepth 100000 in
theorem s_79_1 (hC : SndC g HB l MM call) : Snd g HB l call cX8_isLevel 1 yX8_isLevel.cls yX8_isLevel.name 1 (s_get 7 14 4) := h_get (k := 14) (C := RX8) (T := TX8) (N := 17) (ci := 7) rfl (by decide) (tin 2 40 (by decide +kernel) rfl)  (by decide +kernel : decode cX8_isLevel 1 = .ok (.getfield 109, 3)) rfl
set_option maxRecDepth 100000 in
theorem s_79_4 (hC : SndC g HB l MM call) : Snd g HB l call cX8_isLevel 1 yX8_isLevel.cls yX8_isLevel.name 4 (s_br1 2 47 7) := b_lt (by decide +kernel : decode cX8_isLevel 4 = .ok (.ifCond .lt 43, 3)) (by decide) rfl
set_option maxRecDepth 100000 in
theorem s_79_7 (hC : SndC g HB l MM call) : Snd g HB l call cX8_isLevel 1 yX8_isLevel.cls yX8_isLevel.name 7 (lf (q_load isR 0 8)) := lf_ok (p_aload_n (by decide +kernel : decode cX8_isLevel 7 = .ok (.aload_n 0, 1)) rfl rfl)
set_option maxRecDepth 100000 in
theorem s_79_8 (hC : SndC g HB l MM call) : Snd g HB l call cX8_isLevel 1 yX8_isLevel.cls yX8_isLevel.name 8 (s_get 7 14 11) := h_get (k := 14) (C := RX8) (T := TX8) (N := 17) (ci := 7) rfl (by decide) (tin 2 40 (by decide +kernel) rfl)  (by decide +kernel : decode cX8_isLevel 8 = .ok (.getfield 109, 3)) rfl
set_option maxRecDepth 100000 in
theorem s_79_11 (hC : SndC g HB l MM call) : Snd g HB l call cX8_isLevel 1 yX8_isLevel.cls yX8_isLevel.name 11 (lf (q_load isR 0 12)) := lf_ok (p_aload_n (by decide +kernel : decode cX8_isLevel 11 = .ok (.aload_n 0, 1)) rfl rfl)
set_option maxRecDepth 100000 in
theorem s_79_12 (hC : SndC g HB l MM call) : Snd g HB l call cX8_isLevel 1 yX8_isLevel.cls yX8_isLevel.name 12 (s_get 7 7 15) := h_get (k := 7) (C := RX8) (T := TX8) (N := 17) (ci := 7) rfl (by decide) (tin 2 33 (by decide +kernel) rfl)  (by decide +kernel : decode cX8_isLevel 12 = .ok (.getfield 11, 3)) rfl
set_option maxRecDepth 100000 in
theorem s_79_15 (hC : SndC g HB l MM call) : Snd g HB l call cX8_isLevel 1 yX8_isLevel.cls yX8_isLevel.name 15 (s_alen 16) := h_alen (by decide +kernel : decode cX8_isLevel 15 = .ok (.arraylength, 1)) rfl
set_option maxRecDepth 100000 in
theorem s_79_16 (hC : SndC g HB l MM call) : Snd g HB l call cX8_isLevel 1 yX8_isLevel.cls yX8_isLevel.name 16 (s_br2 3 47 19) := b_ige (by decide +kernel : decode cX8_isLevel 16 = .ok (.if_icmp .ge 31, 3)) (by decide) rfl
set_option maxRecDepth 100000 in
theorem s_79_19 (hC : SndC g HB l MM call) : Snd g HB l call cX8_isLevel 1 yX8_isLevel.cls yX8_isLevel.name 19 (lf (q_load isR 0 20)) := lf_ok (p_aload_n (by decide +kernel : decode cX8_isLevel 19 = .ok (.aload_n 0, 1)) rfl rfl)
set_option maxRecDepth 100000 in
theorem s_79_20 (hC : SndC g HB l MM call) : Snd g HB l call cX8_isLevel 1 yX8_isLevel.cls yX8_isLevel.name 20 (s_get 7 14 23) := h_get (k := 14) (C := RX8) (T := TX8) (N := 17) (ci := 7) rfl (by decide) (tin 2 40 (by decide +kernel) rfl)  (by decide +kernel : decode cX8_isLevel 20 = .ok (.getfield 109, 3)) rfl
set_option maxRecDepth 100000 in
theorem s_79_23 (hC : SndC g HB l MM call) : Snd g HB l call cX8_isLevel 1 yX8_isLevel.cls yX8_isLevel.name 23 (lf (q_load isR 0 24)) := lf_ok (p_aload_n (by decide +kernel : decode cX8_isLevel 23 = .ok (.aload_n 0, 1)) rfl rfl)
set_option maxRecDepth 100000 in
theorem s_79_24 (hC : SndC g HB l MM call) : Snd g HB l call cX8_isLevel 1 yX8_isLevel.cls yX8_isLevel.name 24 (s_get 7 8 27) := h_get (k := 8) (C := RX8) (T := TX8) (N := 17) (ci := 7) rfl (by decide) (tin 2 34 (by decide +kernel) rfl)  (by decide +kernel : decode cX8_isLevel 24 = .ok (.getfield 15, 3)) rfl
set_option maxRecDepth 100000 in
theorem s_79_27 (hC : SndC g HB l MM call) : Snd g HB l call cX8_isLevel 1 yX8_isLevel.cls yX8_isLevel.name 27 (s_alen 28) := h_alen (by decide +kernel : decode cX8_isLevel 27 = .ok (.arraylength, 1)) rfl
set_option maxRecDepth 100000 in
theorem s_79_28 (hC : SndC g HB l MM call) : Snd g HB l call cX8_isLevel 1 yX8_isLevel.cls yX8_isLevel.name 28 (s_br2 3 47 31) := b_ige (by decide +kernel : decode cX8_isLevel 28 = .ok (.if_icmp .ge 19, 3)) (by decide) rfl
set_option maxRecDepth 100000 in
theorem s_79_31 (hC : SndC g HB l MM call) : Snd g HB l call cX8_isLevel 1 yX8_isLevel.cls yX8_isLevel.name 31 (lf (q_load isR 0 32)) := lf_ok (p_aload_n (by decide +kernel : decode cX8_isLevel 31 = .ok (.aload_n 0, 1)) rfl rfl)
set_option maxRecDepth 100000 in
theorem s_79_32 (hC : SndC g HB l MM call) : Snd g HB l call cX8_isLevel 1 yX8_isLevel.cls yX8_isLevel.name 32 (s_get 7 14 35) := h_get (k := 14) (C := RX8) (T := TX8) (N := 17) (ci := 7) rfl (by decide) (tin 2 40 (by decide +kernel) rfl)  (by decide +kernel : decode cX8_isLevel 32 = .ok (.getfield 109, 3)) rfl
set_option maxRecDepth 100000 in
theorem s_79_35 (hC : SndC g HB l MM call) : Snd g HB l call cX8_isLevel 1 yX8_isLevel.cls yX8_isLevel.name 35 (lf (q_load isR 0 36)) := lf_ok (p_aload_n (by decide +kernel : decode cX8_isLevel 35 = .ok (.aload_n 0, 1)) rfl rfl)
set_option maxRecDepth 100000 in
theorem s_79_36 (hC : SndC g HB l MM call) : Snd g HB l call cX8_isLevel 1 yX8_isLevel.cls yX8_isLevel.name 36 (s_get 7 9 39) := h_get (k := 9) (C := RX8) (T := TX8) (N := 17) (ci := 7) rfl (by decide) (tin 2 35 (by decide +kernel) rfl)  (by decide +kernel : decode cX8_isLevel 36 = .ok (.getfield 18, 3)) rfl
set_option maxRecDepth 100000 in
theorem s_79_39 (hC : SndC g HB l MM call) : Snd g HB l call cX8_isLevel 1 yX8_isLevel.cls yX8_isLevel.name 39 (s_alen 40) := h_alen (by decide +kernel : decode cX8_isLevel 39 = .ok (.arraylength, 1)) rfl
set_option maxRecDepth 100000 in
theorem s_79_40 (hC : SndC g HB l MM call) : Snd g HB l call cX8_isLevel 1 yX8_isLevel.cls yX8_isLevel.name 40 (s_br2 3 47 43) := b_ige (by decide +kernel : decode cX8_isLevel 40 = .ok (.if_icmp .ge 7, 3)) (by decide) rfl
set_option maxRecDepth 100000 in
theorem s_79_43 (hC : SndC g HB l MM call) : Snd g HB l call cX8_isLevel 1 yX8_isLevel.cls yX8_isLevel.name 43 (lf (q_push (.inl 1) 44)) := lf_ok (p_iconst (by decide +kernel : decode cX8_isLevel 43 = .ok (.iconst 1, 1)) (by decide +kernel) rfl)
set_option maxRecDepth 100000 in
theorem s_79_44 (hC : SndC g HB l MM call) : Snd g HB l call cX8_isLevel 1 yX8_isLevel.cls yX8_isLevel.name 44 (lf (q_goto 48)) := lf_ok (p_goto (by decide +kernel : decode cX8_isLevel 44 = .ok (.goto 4, 3)) (by decide))
set_option maxRecDepth 100000 in
theorem ok_79 (hex : HB.size = g.1) (hC : SndC g HB l MM call) : ∀ x ∈ P_79, Snd g HB l call cX8_isLevel 1 yX8_isLevel.cls yX8_isLevel.name x.1 x.2 := fa4 (s_79_0 hC) (fa4 (s_79_1 hC) (fa4 (s_79_4 hC) (fa4 (s_79_7 hC) (fa4 (s_79_8 hC) (fa4 (s_79_11 hC) (fa4 (s_79_12 hC) (fa4 (s_79_15 hC) (fa4 (s_79_16 hC) (fa4 (s_79_19 hC) (fa4 (s_79_20 hC) (fa4 (s_79_23 hC) (fa4 (s_79_24 hC) (fa4 (s_79_27 hC) (fa4 (s_79_28 hC) (fa4 (s_79_31 hC) (fa4 (s_79_32 hC) (fa4 (s_79_35 hC) (fa4 (s_79_36 hC) (fa4 (s_79_39 hC) (fa4 (s_79_40 hC) (fa4 (s_79_43 hC) (fa4 (s_79_44 hC) (fn4)))))))))))))))))))))))
set_option maxRecDepth 100000 in
theorem ms_79 (hex : HB.size = g.1) : MSnd g HB l MM D_79 := ⟨by decide +kernel, fun _ hC => ok_79 hex hC, fa4 (show endOK cX8_isLevel (some .boolean) 48 2 from (by decide +kernel : decode cX8_isLevel 48 = .ok (.ireturn, 1))) (fn4)⟩
set_option maxRecDepth 100000 in
theorem s_80_0 (hC : SndC g HB l MM call) : Snd g HB l call cX5_next 2 yX5_next.cls yX5_next.name 0 (lf (q_load isR 0 1)) := lf_ok (p_aload_n (by decide +kernel : decode cX5_next 0 = .ok (.aload_n 0, 1)) rfl rfl)
set_option maxRecDepth 100000 in
theorem s_80_1 (hC : SndC g HB l MM call) : Snd g HB l call cX5_next 2 yX5_next.cls yX5_next.name 1 (lf (q_load isR 0 2)) := lf_ok (p_aload_n (by decide +kernel : decode cX5_next 1 = .ok (.aload_n 0, 1)) rfl rfl)
set_option maxRecDepth 100000 in
theorem s_80_2 (hC : SndC g HB l MM call) : Snd g HB l call cX5_next 2 yX5_next.cls yX5_next.name 2 (s_get 4 0 5) := h_get (k := 0) (C := RX5) (T := TX5) (N := 9) (ci := 4) rfl (by decide) (tin 1 229 (by decide +kernel) rfl)  (by decide +kernel : decode cX5_next 2 = .ok (.getfield 9, 3)) rfl
set_option maxRecDepth 100000 in
theorem s_80_5 (hC : SndC g HB l MM call) : Snd g HB l call cX5_next 2 yX5_next.cls yX5_next.name 5 (lf (q_load isR 0 6)) := lf_ok (p_aload_n (by decide +kernel : decode cX5_next 5 = .ok (.aload_n 0, 1)) rfl rfl)
set_option maxRecDepth 100000 in
theorem s_80_6 (hC : SndC g HB l MM call) : Snd g HB l call cX5_next 2 yX5_next.cls yX5_next.name 6 (s_get 4 2 9) := h_get (k := 2) (C := RX5) (T := TX5) (N := 9) (ci := 4) rfl (by decide) (tin 1 232 (by decide +kernel) rfl)  (by decide +kernel : decode cX5_next 6 = .ok (.getfield 15, 3)) rfl
set_option maxRecDepth 100000 in
theorem s_80_9 (hC : SndC g HB l MM call) : Snd g HB l call cX5_next 2 yX5_next.cls yX5_next.name 9 (lf (q_load isR 0 10)) := lf_ok (p_aload_n (by decide +kernel : decode cX5_next 9 = .ok (.aload_n 0, 1)) rfl rfl)
set_option maxRecDepth 100000 in
theorem s_80_10 (hC : SndC g HB l MM call) : Snd g HB l call cX5_next 2 yX5_next.cls yX5_next.name 10 (s_get 4 0 13) := h_get (k := 0) (C := RX5) (T := TX5) (N := 9) (ci := 4) rfl (by decide) (tin 1 229 (by decide +kernel) rfl)  (by decide +kernel : decode cX5_next 10 = .ok (.getfield 9, 3)) rfl
set_option maxRecDepth 100000 in
theorem s_80_13 (hC : SndC g HB l MM call) : Snd g HB l call cX5_next 2 yX5_next.cls yX5_next.name 13 (s_cV 2 18 0 20 16) := c_V (C := RX1) (T := TX1) (N := 2) (ci := 2) rfl hC (M := MM) (id := 18) (d := D_18) rfl mok_18 rfl rfl (tin 6 24 (by decide +kernel) rfl) (tin 2 156 (by decide +kernel) rfl) (tin 2 157 (by decide +kernel) rfl) (tin 1 2 (by decide +kernel) rfl) (by decide +kernel : decode cX5_next 13 = .ok (.invokevirtual 19, 3)) rfl
set_option maxRecDepth 100000 in
theorem s_80_16 (hC : SndC g HB l MM call) : Snd g HB l call cX5_next 2 yX5_next.cls yX5_next.name 16 (s_cV 2 81 2 23 19) := c_V (C := RX1) (T := TX1) (N := 2) (ci := 2) rfl hC (M := MM) (id := 81) (d := D_81) rfl mok_81 rfl rfl (tin 6 25 (by decide +kernel) rfl) (tin 4 203 (by decide +kernel) rfl) (tin 4 204 (by decide +kernel) rfl) (tin 1 2 (by decide +kernel) rfl) (by decide +kernel : decode cX5_next 16 = .ok (.invokevirtual 25, 3)) rfl
set_option maxRecDepth 100000 in
theorem s_80_19 (hC : SndC g HB l MM call) : Snd g HB l call cX5_next 2 yX5_next.cls yX5_next.name 19 (s_put 4 1 0 22) := h_put (k := 1) (C := RX5) (T := TX5) (N := 9) (ci := 4) rfl (by decide) rfl rfl (tin 1 231 (by decide +kernel) rfl)  (by decide +kernel : decode cX5_next 19 = .ok (.putfield 29, 3)) rfl
set_option maxRecDepth 100000 in
theorem s_80_22 (hC : SndC g HB l MM call) : Snd g HB l call cX5_next 2 yX5_next.cls yX5_next.name 22 (lf (q_load isR 0 23)) := lf_ok (p_aload_n (by decide +kernel : decode cX5_next 22 = .ok (.aload_n 0, 1)) rfl rfl)
set_option maxRecDepth 100000 in
theorem s_80_23 (hC : SndC g HB l MM call) : Snd g HB l call cX5_next 2 yX5_next.cls yX5_next.name 23 (s_get 4 0 26) := h_get (k := 0) (C := RX5) (T := TX5) (N := 9) (ci := 4) rfl (by decide) (tin 1 229 (by decide +kernel) rfl)  (by decide +kernel : decode cX5_next 23 = .ok (.getfield 9, 3)) rfl
set_option maxRecDepth 100000 in
theorem s_80_26 (hC : SndC g HB l MM call) : Snd g HB l call cX5_next 2 yX5_next.cls yX5_next.name 26 (lf (q_load isR 0 27)) := lf_ok (p_aload_n (by decide +kernel : decode cX5_next 26 = .ok (.aload_n 0, 1)) rfl rfl)
set_option maxRecDepth 100000 in
theorem s_80_27 (hC : SndC g HB l MM call) : Snd g HB l call cX5_next 2 yX5_next.cls yX5_next.name 27 (s_get 4 1 30) := h_get (k := 1) (C := RX5) (T := TX5) (N := 9) (ci := 4) rfl (by decide) (tin 1 231 (by decide +kernel) rfl)  (by decide +kernel : decode cX5_next 27 = .ok (.getfield 29, 3)) rfl
set_option maxRecDepth 100000 in
theorem s_80_30 (hC : SndC g HB l MM call) : Snd g HB l call cX5_next 2 yX5_next.cls yX5_next.name 30 (s_cV 2 20 1 21 33) := c_V (C := RX1) (T := TX1) (N := 2) (ci := 2) rfl hC (M := MM) (id := 20) (d := D_20) rfl mok_20 rfl rfl (tin 6 26 (by decide +kernel) rfl) (tin 2 164 (by decide +kernel) rfl) (tin 2 165 (by decide +kernel) rfl) (tin 1 2 (by decide +kernel) rfl) (by decide +kernel : decode cX5_next 30 = .ok (.invokevirtual 32, 3)) rfl
set_option maxRecDepth 100000 in
theorem s_80_33 (hC : SndC g HB l MM call) : Snd g HB l call cX5_next 2 yX5_next.cls yX5_next.name 33 (lf (q_store isI up1 0 1 2 34)) := lf_ok (p_istore_n (by decide +kernel : decode cX5_next 33 = .ok (.istore_n 1, 1)) rfl rfl)
set_option maxRecDepth 100000 in
theorem s_80_34 (hC : SndC g HB l MM call) : Snd g HB l call cX5_next 2 yX5_next.cls yX5_next.name 34 (lf (q_load isR 0 35)) := lf_ok (p_aload_n (by decide +kernel : decode cX5_next 34 = .ok (.aload_n 0, 1)) rfl rfl)
set_option maxRecDepth 100000 in
theorem s_80_35 (hC : SndC g HB l MM call) : Snd g HB l call cX5_next 2 yX5_next.cls yX5_next.name 35 (lf (q_load isR 0 36)) := lf_ok (p_aload_n (by decide +kernel : decode cX5_next 35 = .ok (.aload_n 0, 1)) rfl rfl)
set_option maxRecDepth 100000 in
theorem s_80_36 (hC : SndC g HB l MM call) : Snd g HB l call cX5_next 2 yX5_next.cls yX5_next.name 36 (s_get 4 1 39) := h_get (k := 1) (C := RX5) (T := TX5) (N := 9) (ci := 4) rfl (by decide) (tin 1 231 (by decide +kernel) rfl)  (by decide +kernel : decode cX5_next 36 = .ok (.getfield 29, 3)) rfl
set_option maxRecDepth 100000 in
theorem s_80_39 (hC : SndC g HB l MM call) : Snd g HB l call cX5_next 2 yX5_next.cls yX5_next.name 39 (lf (q_push (.inl 1) 40)) := lf_ok (p_iconst (by decide +kernel : decode cX5_next 39 = .ok (.iconst 1, 1)) (by decide +kernel) rfl)
set_option maxRecDepth 100000 in
theorem s_80_40 (hC : SndC g HB l MM call) : Snd g HB l call cX5_next 2 yX5_next.cls yX5_next.name 40 (lf (q_bin (iop2 (fun x y => x + y)) 41)) := lf_ok (p_iadd (by decide +kernel : decode cX5_next 40 = .ok (.iadd, 1)) rfl)
set_option maxRecDepth 100000 in
theorem s_80_41 (hC : SndC g HB l MM call) : Snd g HB l call cX5_next 2 yX5_next.cls yX5_next.name 41 (s_put 4 2 0 44) := h_put (k := 2) (C := RX5) (T := TX5) (N := 9) (ci := 4) rfl (by decide) rfl rfl (tin 1 232 (by decide +kernel) rfl)  (by decide +kernel : decode cX5_next 41 = .ok (.putfield 15, 3)) rfl
set_option maxRecDepth 100000 in
theorem s_80_44 (hC : SndC g HB l MM call) : Snd g HB l call cX5_next 2 yX5_next.cls yX5_next.name 44 (lf (q_load isR 0 45)) := lf_ok (p_aload_n (by decide +kernel : decode cX5_next 44 = .ok (.aload_n 0, 1)) rfl rfl)
set_option maxRecDepth 100000 in
theorem s_80_45 (hC : SndC g HB l MM call) : Snd g HB l call cX5_next 2 yX5_next.cls yX5_next.name 45 (lf (q_push (.inl 8) 47)) := lf_ok (p_bipush (by decide +kernel : decode cX5_next 45 = .ok (.bipush 8, 2)) (by decide +kernel) rfl)
set_option maxRecDepth 100000 in
theorem s_80_47 (hC : SndC g HB l MM call) : Snd g HB l call cX5_next 2 yX5_next.cls yX5_next.name 47 (s_put 4 3 0 50) := h_put (k := 3) (C := RX5) (T := TX5) (N := 9) (ci := 4) rfl (by decide) rfl rfl (tin 1 233 (by decide +kernel) rfl)  (by decide +kernel : decode cX5_next 47 = .ok (.putfield 36, 3)) rfl
set_option maxRecDepth 100000 in
theorem s_80_50 (hC : SndC g HB l MM call) : Snd g HB l call cX5_next 2 yX5_next.cls yX5_next.name 50 (lf (q_load isR 0 51)) := lf_ok (p_aload_n (by decide +kernel : decode cX5_next 50 = .ok (.aload_n 0, 1)) rfl rfl)
set_option maxRecDepth 100000 in
theorem s_80_51 (hC : SndC g HB l MM call) : Snd g HB l call cX5_next 2 yX5_next.cls yX5_next.name 51 (lf (q_push (.inl 0) 52)) := lf_ok (p_iconst (by decide +kernel : decode cX5_next 51 = .ok (.iconst 0, 1)) (by decide +kernel) rfl)
set_option maxRecDepth 100000 in
theorem s_80_52 (hC : SndC g HB l MM call) : Snd g HB l call cX5_next 2 yX5_next.cls yX5_next.name 52 (s_put 4 6 1 55) := h_put (k := 6) (C := RX5) (T := TX5) (N := 9) (ci := 4) rfl (by decide) rfl rfl (tin 1 239 (by decide +kernel) rfl)  (by decide +kernel : decode cX5_next 52 = .ok (.putfield 39, 3)) rfl
set_option maxRecDepth 100000 in
theorem s_80_55 (hC : SndC g HB l MM call) : Snd g HB l call cX5_next 2 yX5_next.cls yX5_next.name 55 (lf (q_load isI 1 56)) := lf_ok (p_iload_n (by decide +kernel : decode cX5_next 55 = .ok (.iload_n 1, 1)) rfl rfl)
set_option maxRecDepth 100000 in
theorem s_80_56 (hC : SndC g HB l MM call) : Snd g HB l call cX5_next 2 yX5_next.cls yX5_next.name 56 (lf (q_look 115 [(-1, 100), (34, 106), (40, 102), (41, 104)])) := lf_ok (p_look (by decide +kernel : decode cX5_next 56 = .ok (.lookupswitch 59 #[(-1, 44), (34, 50), (40, 46), (41, 48)], 44)) (by decide) (by decide) (by decide))
set_option maxRecDepth 100000 in
theorem s_80_100 (hC : SndC g HB l MM call) : Snd g HB l call cX5_next 2 yX5_next.cls yX5_next.name 100 (lf (q_push (.inl 0) 101)) := lf_ok (p_iconst (by decide +kernel : decode cX5_next 100 = .ok (.iconst 0, 1)) (by decide +kernel) rfl)
set_option maxRecDepth 100000 in
theorem ok_80 (hex : HB.size = g.1) (hC : SndC g HB l MM call) : ∀ x ∈ P_80, Snd g HB l call cX5_next 2 yX5_next.cls yX5_next.name x.1 x.2 := fa4 (s_80_0 hC) (fa4 (s_80_1 hC) (fa4 (s_80_2 hC) (fa4 (s_80_5 hC) (fa4 (s_80_6 hC) (fa4 (s_80_9 hC) (fa4 (s_80_10 hC) (fa4 (s_80_13 hC) (fa4 (s_80_16 hC) (fa4 (s_80_19 hC) (fa4 (s_80_22 hC) (fa4 (s_80_23 hC) (fa4 (s_80_26 hC) (fa4 (s_80_27 hC) (fa4 (s_80_30 hC) (fa4 (s_80_33 hC) (fa4 (s_80_34 hC) (fa4 (s_80_35 hC) (fa4 (s_80_36 hC) (fa4 (s_80_39 hC) (fa4 (s_80_40 hC) (fa4 (s_80_41 hC) (fa4 (s_80_44 hC) (fa4 (s_80_45 hC) (fa4 (s_80_47 hC) (fa4 (s_80_50 hC) (fa4 (s_80_51 hC) (fa4 (s_80_52 hC) (fa4 (s_80_55 hC) (fa4 (s_80_56 hC) (fa4 (s_80_100 hC) (fn4)))))))))))))))))))))))))))))))
set_option maxRecDepth 100000 in
theorem ms_80 (hex : HB.size = g.1) : MSnd g HB l MM D_80 := ⟨by decide +kernel, fun _ hC => ok_80 hex hC, fa4 (show endOK cX5_next (some .int) 101 1 from ⟨rfl, (by decide +kernel : decode cX5_next 101 = .ok (.ireturn, 1))⟩) (fn4)⟩
set_option maxRecDepth 100000 in
theorem s_81_0 (hC : SndC g HB l MM call) : Snd g HB l call cX1_blanksOn 4 yX1_blanksOn.cls yX1_blanksOn.name 0 (lf (q_load isI 1 1)) := lf_ok (p_iload_n (by decide +kernel : decode cX1_blanksOn 0 = .ok (.iload_n 1, 1)) rfl rfl)
set_option maxRecDepth 100000 in
theorem s_81_1 (hC : SndC g HB l MM call) : Snd g HB l call cX1_blanksOn 4 yX1_blanksOn.cls yX1_blanksOn.name 1 (lf (q_store isI up1 0 3 4 2)) := lf_ok (p_istore_n (by decide +kernel : decode cX1_blanksOn 1 = .ok (.istore_n 3, 1)) rfl rfl)
set_option maxRecDepth 100000 in
theorem s_81_2 (hC : SndC g HB l MM call) : Snd g HB l call cX1_blanksOn 4 yX1_blanksOn.cls yX1_blanksOn.name 2 (lf (q_load isI 3 3)) := lf_ok (p_iload_n (by decide +kernel : decode cX1_blanksOn 2 = .ok (.iload_n 3, 1)) rfl rfl)
set_option maxRecDepth 100000 in
theorem s_81_3 (hC : SndC g HB l MM call) : Snd g HB l call cX1_blanksOn 4 yX1_blanksOn.cls yX1_blanksOn.name 3 (lf (q_load isI 2 4)) := lf_ok (p_iload_n (by decide +kernel : decode cX1_blanksOn 3 = .ok (.iload_n 2, 1)) rfl rfl)
set_option maxRecDepth 100000 in
theorem s_81_4 (hC : SndC g HB l MM call) : Snd g HB l call cX1_blanksOn 4 yX1_blanksOn.cls yX1_blanksOn.name 4 (s_br2 3 24 7) := b_ige (by decide +kernel : decode cX1_blanksOn 4 = .ok (.if_icmp .ge 20, 3)) (by decide) rfl
set_option maxRecDepth 100000 in
theorem s_81_24 (hC : SndC g HB l MM call) : Snd g HB l call cX1_blanksOn 4 yX1_blanksOn.cls yX1_blanksOn.name 24 (lf (q_load isI 3 25)) := lf_ok (p_iload_n (by decide +kernel : decode cX1_blanksOn 24 = .ok (.iload_n 3, 1)) rfl rfl)
set_option maxRecDepth 100000 in
theorem ok_81 (hex : HB.size = g.1) (hC : SndC g HB l MM call) : ∀ x ∈ P_81, Snd g HB l call cX1_blanksOn 4 yX1_blanksOn.cls yX1_blanksOn.name x.1 x.2 := fa4 (s_81_0 hC) (fa4 (s_81_1 hC) (fa4 (s_81_2 hC) (fa4 (s_81_3 hC) (fa4 (s_81_4 hC) (fa4 (s_81_24 hC) (fn4))))))
set_option maxRecDepth 100000 in
theorem ms_81 (hex : HB.size = g.1) : MSnd g HB l MM D_81 := ⟨by decide +kernel, fun _ hC => ok_81 hex hC, fa4 (show endOK cX1_blanksOn (some .int) 25 1 from ⟨rfl, (by decide +kernel : decode cX1_blanksOn 25 = .ok (.ireturn, 1))⟩) (fn4)⟩
set_option maxRecDepth 100000 in
theorem s_82_0 (hC : SndC g HB l MM call) : Snd g HB l call cX8_canStand 4 yX8_canStand.cls yX8_canStand.name 0 (lf (q_load isI 1 1)) := lf_ok (p_iload_n (by decide +kernel : decode cX8_canStand 0 = .ok (.iload_n 1, 1)) rfl rfl)
set_option maxRecDepth 100000 in
theorem s_82_1 (hC : SndC g HB l MM call) : Snd g HB l call cX8_canStand 4 yX8_canStand.cls yX8_canStand.name 1 (s_table 7 113 [48, 65, 80, 97, 97, 113, 113, 111]) := b_table (by decide) (by decide +kernel : decode cX8_canStand 1 = .ok (.tableswitch 112 0 7 #[47, 64, 79, 96, 96, 112, 112, 110], 47)) (by decide) (by decide)
set_option maxRecDepth 100000 in
theorem s_82_48 (hC : SndC g HB l MM call) : Snd g HB l call cX8_canStand 4 yX8_canStand.cls yX8_canStand.name 48 (lf (q_load isI 2 49)) := lf_ok (p_iload_n (by decide +kernel : decode cX8_canStand 48 = .ok (.iload_n 2, 1)) rfl rfl)
set_option maxRecDepth 100000 in
theorem s_82_49 (hC : SndC g HB l MM call) : Snd g HB l call cX8_canStand 4 yX8_canStand.cls yX8_canStand.name 49 (s_br1 1 63 52) := b_ne (by decide +kernel : decode cX8_canStand 49 = .ok (.ifCond .ne 14, 3)) (by decide) rfl
set_option maxRecDepth 100000 in
theorem s_82_52 (hC : SndC g HB l MM call) : Snd g HB l call cX8_canStand 4 yX8_canStand.cls yX8_canStand.name 52 (lf (q_load isR 0 53)) := lf_ok (p_aload_n (by decide +kernel : decode cX8_canStand 52 = .ok (.aload_n 0, 1)) rfl rfl)
set_option maxRecDepth 100000 in
theorem s_82_53 (hC : SndC g HB l MM call) : Snd g HB l call cX8_canStand 4 yX8_canStand.cls yX8_canStand.name 53 (s_get 7 14 56) := h_get (k := 14) (C := RX8) (T := TX8) (N := 17) (ci := 7) rfl (by decide) (tin 2 40 (by decide +kernel) rfl)  (by decide +kernel : decode cX8_canStand 53 = .ok (.getfield 109, 3)) rfl
set_option maxRecDepth 100000 in
theorem s_82_56 (hC : SndC g HB l MM call) : Snd g HB l call cX8_canStand 4 yX8_canStand.cls yX8_canStand.name 56 (s_br1 1 63 59) := b_ne (by decide +kernel : decode cX8_canStand 56 = .ok (.ifCond .ne 7, 3)) (by decide) rfl
set_option maxRecDepth 100000 in
theorem s_82_59 (hC : SndC g HB l MM call) : Snd g HB l call cX8_canStand 4 yX8_canStand.cls yX8_canStand.name 59 (lf (q_push (.inl 1) 60)) := lf_ok (p_iconst (by decide +kernel : decode cX8_canStand 59 = .ok (.iconst 1, 1)) (by decide +kernel) rfl)
set_option maxRecDepth 100000 in
theorem s_82_60 (hC : SndC g HB l MM call) : Snd g HB l call cX8_canStand 4 yX8_canStand.cls yX8_canStand.name 60 (lf (q_goto 64)) := lf_ok (p_goto (by decide +kernel : decode cX8_canStand 60 = .ok (.goto 4, 3)) (by decide))
set_option maxRecDepth 100000 in
theorem ok_82 (hex : HB.size = g.1) (hC : SndC g HB l MM call) : ∀ x ∈ P_82, Snd g HB l call cX8_canStand 4 yX8_canStand.cls yX8_canStand.name x.1 x.2 := fa4 (s_82_0 hC) (fa4 (s_82_1 hC) (fa4 (s_82_48 hC) (fa4 (s_82_49 hC) (fa4 (s_82_52 hC) (fa4 (s_82_53 hC) (fa4 (s_82_56 hC) (fa4 (s_82_59 hC) (fa4 (s_82_60 hC) (fn4)))))))))
set_option maxRecDepth 100000 in
theorem ms_82 (hex : HB.size = g.1) : MSnd g HB l MM D_82 := ⟨by decide +kernel, fun _ hC => ok_82 hex hC, fa4 (show endOK cX8_canStand (some .boolean) 64 2 from (by decide +kernel : decode cX8_canStand 64 = .ok (.ireturn, 1))) (fn4)⟩
set_option maxRecDepth 100000 in
theorem s_83_0 (hC : SndC g HB l MM call) : Snd g HB l call cX11_keepFound 4 yX11_keepFound.cls yX11_keepFound.name 0 (lf (q_load isR 0 1)) := lf_ok (p_aload_n (by decide +kernel : decode cX11_keepFound 0 = .ok (.aload_n 0, 1)) rfl rfl)
set_option maxRecDepth 100000 in
theorem s_83_1 (hC : SndC g HB l MM call) : Snd g HB l call cX11_keepFound 4 yX11_keepFound.cls yX11_keepFound.name 1 (lf (q_push (.inl 0) 2)) := lf_ok (p_iconst (by decide +kernel : decode cX11_keepFound 1 = .ok (.iconst 0, 1)) (by decide +kernel) rfl)
set_option maxRecDepth 100000 in
theorem s_83_2 (hC : SndC g HB l MM call) : Snd g HB l call cX11_keepFound 4 yX11_keepFound.cls yX11_keepFound.name 2 (s_put 9 13 0 5) := h_put (k := 13) (C := RX11) (T := TX11) (N := 17) (ci := 9) rfl (by decide) rfl rfl (tin 2 108 (by decide +kernel) rfl)  (by decide +kernel : decode cX11_keepFound 2 = .ok (.putfield 188, 3)) rfl
set_option maxRecDepth 100000 in
theorem s_83_5 (hC : SndC g HB l MM call) : Snd g HB l call cX11_keepFound 4 yX11_keepFound.cls yX11_keepFound.name 5 (lf (q_load isR 0 6)) := lf_ok (p_aload_n (by decide +kernel : decode cX11_keepFound 5 = .ok (.aload_n 0, 1)) rfl rfl)
set_option maxRecDepth 100000 in
theorem s_83_6 (hC : SndC g HB l MM call) : Snd g HB l call cX11_keepFound 4 yX11_keepFound.cls yX11_keepFound.name 6 (s_get 9 6 9) := h_get (k := 6) (C := RX11) (T := TX11) (N := 17) (ci := 9) rfl (by decide) (tin 2 101 (by decide +kernel) rfl)  (by decide +kernel : decode cX11_keepFound 6 = .ok (.getfield 40, 3)) rfl
set_option maxRecDepth 100000 in
theorem s_83_9 (hC : SndC g HB l MM call) : Snd g HB l call cX11_keepFound 4 yX11_keepFound.cls yX11_keepFound.name 9 (s_cV 0 22 0 20 12) := c_V (C := RJx4a65c) (T := TJx4a65c) (N := 3) (ci := 0) rfl hC (M := MM) (id := 22) (d := D_22) rfl mok_22 rfl rfl (tin 2 233 (by decide +kernel) rfl) (tin 2 188 (by decide +kernel) rfl) (tin 2 189 (by decide +kernel) rfl) (tin 1 6 (by decide +kernel) rfl) (by decide +kernel : decode cX11_keepFound 9 = .ok (.invokevirtual 93, 3)) rfl
set_option maxRecDepth 100000 in
theorem s_83_12 (hC : SndC g HB l MM call) : Snd g HB l call cX11_keepFound 4 yX11_keepFound.cls yX11_keepFound.name 12 (lf (q_push (.inl 1) 13)) := lf_ok (p_iconst (by decide +kernel : decode cX11_keepFound 12 = .ok (.iconst 1, 1)) (by decide +kernel) rfl)
set_option maxRecDepth 100000 in
theorem s_83_13 (hC : SndC g HB l MM call) : Snd g HB l call cX11_keepFound 4 yX11_keepFound.cls yX11_keepFound.name 13 (lf (q_bin (iop2 (fun x y => x - y)) 14)) := lf_ok (p_isub (by decide +kernel : decode cX11_keepFound 13 = .ok (.isub, 1)) rfl)
set_option maxRecDepth 100000 in
theorem s_83_14 (hC : SndC g HB l MM call) : Snd g HB l call cX11_keepFound 4 yX11_keepFound.cls yX11_keepFound.name 14 (lf (q_store isI up1 0 3 4 15)) := lf_ok (p_istore_n (by decide +kernel : decode cX11_keepFound 14 = .ok (.istore_n 3, 1)) rfl rfl)
set_option maxRecDepth 100000 in
theorem s_83_15 (hC : SndC g HB l MM call) : Snd g HB l call cX11_keepFound 4 yX11_keepFound.cls yX11_keepFound.name 15 (lf (q_load isI 3 16)) := lf_ok (p_iload_n (by decide +kernel : decode cX11_keepFound 15 = .ok (.iload_n 3, 1)) rfl rfl)
set_option maxRecDepth 100000 in
theorem s_83_16 (hC : SndC g HB l MM call) : Snd g HB l call cX11_keepFound 4 yX11_keepFound.cls yX11_keepFound.name 16 (s_br1 2 50 19) := b_lt (by decide +kernel : decode cX11_keepFound 16 = .ok (.ifCond .lt 34, 3)) (by decide) rfl
set_option maxRecDepth 100000 in
theorem ok_83 (hex : HB.size = g.1) (hC : SndC g HB l MM call) : ∀ x ∈ P_83, Snd g HB l call cX11_keepFound 4 yX11_keepFound.cls yX11_keepFound.name x.1 x.2 := fa4 (s_83_0 hC) (fa4 (s_83_1 hC) (fa4 (s_83_2 hC) (fa4 (s_83_5 hC) (fa4 (s_83_6 hC) (fa4 (s_83_9 hC) (fa4 (s_83_12 hC) (fa4 (s_83_13 hC) (fa4 (s_83_14 hC) (fa4 (s_83_15 hC) (fa4 (s_83_16 hC) (fn4)))))))))))
set_option maxRecDepth 100000 in
theorem ms_83 (hex : HB.size = g.1) : MSnd g HB l MM D_83 := ⟨by decide +kernel, fun _ hC => ok_83 hex hC, fa4 (show endOK cX11_keepFound none 50 0 from ⟨rfl, (by decide +kernel : decode cX11_keepFound 50 = .ok (.return_, 1))⟩) (fn4)⟩
set_option maxRecDepth 100000 in
theorem s_84_0 (hC : SndC g HB l MM call) : Snd g HB l call cX11_fault 1 yX11_fault.cls yX11_fault.name 0 (lf (q_load isR 0 1)) := lf_ok (p_aload_n (by decide +kernel : decode cX11_fault 0 = .ok (.aload_n 0, 1)) rfl rfl)
set_option maxRecDepth 100000 in
theorem s_84_1 (hC : SndC g HB l MM call) : Snd g HB l call cX11_fault 1 yX11_fault.cls yX11_fault.name 1 (s_get 9 16 4) := h_get (k := 16) (C := RX11) (T := TX11) (N := 17) (ci := 9) rfl (by decide) (tin 2 111 (by decide +kernel) rfl)  (by decide +kernel : decode cX11_fault 1 = .ok (.getfield 179, 3)) rfl
set_option maxRecDepth 100000 in
theorem ok_84 (hex : HB.size = g.1) (hC : SndC g HB l MM call) : ∀ x ∈ P_84, Snd g HB l call cX11_fault 1 yX11_fault.cls yX11_fault.name x.1 x.2 := fa4 (s_84_0 hC) (fa4 (s_84_1 hC) (fn4))
set_option maxRecDepth 100000 in
theorem ms_84 (hex : HB.size = g.1) : MSnd g HB l MM D_84 := ⟨by decide +kernel, fun _ hC => ok_84 hex hC, fa4 (show endOK cX11_fault (some .int) 4 1 from ⟨rfl, (by decide +kernel : decode cX11_fault 4 = .ok (.ireturn, 1))⟩) (fn4)⟩
set_option maxRecDepth 100000 in
theorem s_85_0 (hC : SndC g HB l MM call) : Snd g HB l call cX11_found 2 yX11_found.cls yX11_found.name 0 (lf (q_load isI 1 1)) := lf_ok (p_iload_n (by decide +kernel : decode cX11_found 0 = .ok (.iload_n 1, 1)) rfl rfl)
set_option maxRecDepth 100000 in
theorem s_85_1 (hC : SndC g HB l MM call) : Snd g HB l call cX11_found 2 yX11_found.cls yX11_found.name 1 (s_br1 2 30 4) := b_lt (by decide +kernel : decode cX11_found 1 = .ok (.ifCond .lt 29, 3)) (by decide) rfl
set_option maxRecDepth 100000 in
theorem s_85_4 (hC : SndC g HB l MM call) : Snd g HB l call cX11_found 2 yX11_found.cls yX11_found.name 4 (lf (q_load isI 1 5)) := lf_ok (p_iload_n (by decide +kernel : decode cX11_found 4 = .ok (.iload_n 1, 1)) rfl rfl)
set_option maxRecDepth 100000 in
theorem s_85_5 (hC : SndC g HB l MM call) : Snd g HB l call cX11_found 2 yX11_found.cls yX11_found.name 5 (lf (q_load isR 0 6)) := lf_ok (p_aload_n (by decide +kernel : decode cX11_found 5 = .ok (.aload_n 0, 1)) rfl rfl)
set_option maxRecDepth 100000 in
theorem s_85_6 (hC : SndC g HB l MM call) : Snd g HB l call cX11_found 2 yX11_found.cls yX11_found.name 6 (s_get 9 13 9) := h_get (k := 13) (C := RX11) (T := TX11) (N := 17) (ci := 9) rfl (by decide) (tin 2 108 (by decide +kernel) rfl)  (by decide +kernel : decode cX11_found 6 = .ok (.getfield 188, 3)) rfl
set_option maxRecDepth 100000 in
theorem s_85_9 (hC : SndC g HB l MM call) : Snd g HB l call cX11_found 2 yX11_found.cls yX11_found.name 9 (s_br2 3 30 12) := b_ige (by decide +kernel : decode cX11_found 9 = .ok (.if_icmp .ge 21, 3)) (by decide) rfl
set_option maxRecDepth 100000 in
theorem s_85_30 (hC : SndC g HB l MM call) : Snd g HB l call cX11_found 2 yX11_found.cls yX11_found.name 30 (lf (q_push (.inl 4294967295) 31)) := lf_ok (p_iconst (by decide +kernel : decode cX11_found 30 = .ok (.iconst (-1), 1)) (by decide +kernel) rfl)
set_option maxRecDepth 100000 in
theorem ok_85 (hex : HB.size = g.1) (hC : SndC g HB l MM call) : ∀ x ∈ P_85, Snd g HB l call cX11_found 2 yX11_found.cls yX11_found.name x.1 x.2 := fa4 (s_85_0 hC) (fa4 (s_85_1 hC) (fa4 (s_85_4 hC) (fa4 (s_85_5 hC) (fa4 (s_85_6 hC) (fa4 (s_85_9 hC) (fa4 (s_85_30 hC) (fn4)))))))
set_option maxRecDepth 100000 in
theorem ms_85 (hex : HB.size = g.1) : MSnd g HB l MM D_85 := ⟨by decide +kernel, fun _ hC => ok_85 hex hC, fa4 (show endOK cX11_found (some .int) 31 1 from ⟨rfl, (by decide +kernel : decode cX11_found 31 = .ok (.ireturn, 1))⟩) (fn4)⟩
set_option maxRecDepth 100000 in
theorem s_86_0 (hC : SndC g HB l MM call) : Snd g HB l call cX11_thread 2 yX11_thread.cls yX11_thread.name 0 (lf (q_load isI 1 1)) := lf_ok (p_iload_n (by decide +kernel : decode cX11_thread 0 = .ok (.iload_n 1, 1)) rfl rfl)
set_option maxRecDepth 100000 in
theorem s_86_1 (hC : SndC g HB l MM call) : Snd g HB l call cX11_thread 2 yX11_thread.cls yX11_thread.name 1 (s_br1 2 30 4) := b_lt (by decide +kernel : decode cX11_thread 1 = .ok (.ifCond .lt 29, 3)) (by decide) rfl
set_option maxRecDepth 100000 in
theorem s_86_4 (hC : SndC g HB l MM call) : Snd g HB l call cX11_thread 2 yX11_thread.cls yX11_thread.name 4 (lf (q_load isI 1 5)) := lf_ok (p_iload_n (by decide +kernel : decode cX11_thread 4 = .ok (.iload_n 1, 1)) rfl rfl)
set_option maxRecDepth 100000 in
theorem s_86_5 (hC : SndC g HB l MM call) : Snd g HB l call cX11_thread 2 yX11_thread.cls yX11_thread.name 5 (lf (q_load isR 0 6)) := lf_ok (p_aload_n (by decide +kernel : decode cX11_thread 5 = .ok (.aload_n 0, 1)) rfl rfl)
set_option maxRecDepth 100000 in
theorem s_86_6 (hC : SndC g HB l MM call) : Snd g HB l call cX11_thread 2 yX11_thread.cls yX11_thread.name 6 (s_get 9 14 9) := h_get (k := 14) (C := RX11) (T := TX11) (N := 17) (ci := 9) rfl (by decide) (tin 2 109 (by decide +kernel) rfl)  (by decide +kernel : decode cX11_thread 6 = .ok (.getfield 194, 3)) rfl
set_option maxRecDepth 100000 in
theorem s_86_9 (hC : SndC g HB l MM call) : Snd g HB l call cX11_thread 2 yX11_thread.cls yX11_thread.name 9 (s_br2 3 30 12) := b_ige (by decide +kernel : decode cX11_thread 9 = .ok (.if_icmp .ge 21, 3)) (by decide) rfl
set_option maxRecDepth 100000 in
theorem s_86_30 (hC : SndC g HB l MM call) : Snd g HB l call cX11_thread 2 yX11_thread.cls yX11_thread.name 30 (lf (q_push (.inl 4294967295) 31)) := lf_ok (p_iconst (by decide +kernel : decode cX11_thread 30 = .ok (.iconst (-1), 1)) (by decide +kernel) rfl)
set_option maxRecDepth 100000 in
theorem ok_86 (hex : HB.size = g.1) (hC : SndC g HB l MM call) : ∀ x ∈ P_86, Snd g HB l call cX11_thread 2 yX11_thread.cls yX11_thread.name x.1 x.2 := fa4 (s_86_0 hC) (fa4 (s_86_1 hC) (fa4 (s_86_4 hC) (fa4 (s_86_5 hC) (fa4 (s_86_6 hC) (fa4 (s_86_9 hC) (fa4 (s_86_30 hC) (fn4)))))))
set_option maxRecDepth 100000 in
theorem ms_86 (hex : HB.size = g.1) : MSnd g HB l MM D_86 := ⟨by decide +kernel, fun _ hC => ok_86 hex hC, fa4 (show endOK cX11_thread (some .int) 31 1 from ⟨rfl, (by decide +kernel : decode cX11_thread 31 = .ok (.ireturn, 1))⟩) (fn4)⟩
set_option maxRecDepth 100000 in
theorem s_87_0 (hC : SndC g HB l MM call) : Snd g HB l call cX11_conversations 3 yX11_conversations.cls yX11_conversations.name 0 (lf (q_load isR 0 1)) := lf_ok (p_aload_n (by decide +kernel : decode cX11_conversations 0 = .ok (.aload_n 0, 1)) rfl rfl)
set_option maxRecDepth 100000 in
theorem s_87_1 (hC : SndC g HB l MM call) : Snd g HB l call cX11_conversations 3 yX11_conversations.cls yX11_conversations.name 1 (s_get 9 7 4) := h_get (k := 7) (C := RX11) (T := TX11) (N := 17) (ci := 9) rfl (by decide) (tin 2 102 (by decide +kernel) rfl)  (by decide +kernel : decode cX11_conversations 1 = .ok (.getfield 49, 3)) rfl
set_option maxRecDepth 100000 in
theorem s_87_4 (hC : SndC g HB l MM call) : Snd g HB l call cX11_conversations 3 yX11_conversations.cls yX11_conversations.name 4 (s_cV 8 88 0 22 7) := c_V (C := RX10) (T := TX10) (N := 7) (ci := 8) rfl hC (M := MM) (id := 88) (d := D_88) rfl mok_88 rfl rfl (tin 2 179 (by decide +kernel) rfl) (tin 2 180 (by decide +kernel) rfl) (tin 2 181 (by decide +kernel) rfl) (tin 1 7 (by decide +kernel) rfl) (by decide +kernel : decode cX11_conversations 4 = .ok (.invokevirtual 191, 3)) rfl
set_option maxRecDepth 100000 in
theorem s_87_7 (hC : SndC g HB l MM call) : Snd g HB l call cX11_conversations 3 yX11_conversations.cls yX11_conversations.name 7 (lf (q_load isR 0 8)) := lf_ok (p_aload_n (by decide +kernel : decode cX11_conversations 7 = .ok (.aload_n 0, 1)) rfl rfl)
set_option maxRecDepth 100000 in
theorem s_87_8 (hC : SndC g HB l MM call) : Snd g HB l call cX11_conversations 3 yX11_conversations.cls yX11_conversations.name 8 (lf (q_push (.inl 0) 9)) := lf_ok (p_iconst (by decide +kernel : decode cX11_conversations 8 = .ok (.iconst 0, 1)) (by decide +kernel) rfl)
set_option maxRecDepth 100000 in
theorem s_87_9 (hC : SndC g HB l MM call) : Snd g HB l call cX11_conversations 3 yX11_conversations.cls yX11_conversations.name 9 (s_put 9 14 0 12) := h_put (k := 14) (C := RX11) (T := TX11) (N := 17) (ci := 9) rfl (by decide) rfl rfl (tin 2 109 (by decide +kernel) rfl)  (by decide +kernel : decode cX11_conversations 9 = .ok (.putfield 194, 3)) rfl
set_option maxRecDepth 100000 in
theorem s_87_12 (hC : SndC g HB l MM call) : Snd g HB l call cX11_conversations 3 yX11_conversations.cls yX11_conversations.name 12 (lf (q_push (.inl 0) 13)) := lf_ok (p_iconst (by decide +kernel : decode cX11_conversations 12 = .ok (.iconst 0, 1)) (by decide +kernel) rfl)
set_option maxRecDepth 100000 in
theorem s_87_13 (hC : SndC g HB l MM call) : Snd g HB l call cX11_conversations 3 yX11_conversations.cls yX11_conversations.name 13 (lf (q_store isI up1 0 1 3 14)) := lf_ok (p_istore_n (by decide +kernel : decode cX11_conversations 13 = .ok (.istore_n 1, 1)) rfl rfl)
set_option maxRecDepth 100000 in
theorem s_87_14 (hC : SndC g HB l MM call) : Snd g HB l call cX11_conversations 3 yX11_conversations.cls yX11_conversations.name 14 (lf (q_load isI 1 15)) := lf_ok (p_iload_n (by decide +kernel : decode cX11_conversations 14 = .ok (.iload_n 1, 1)) rfl rfl)
set_option maxRecDepth 100000 in
theorem s_87_15 (hC : SndC g HB l MM call) : Snd g HB l call cX11_conversations 3 yX11_conversations.cls yX11_conversations.name 15 (lf (q_load isR 0 16)) := lf_ok (p_aload_n (by decide +kernel : decode cX11_conversations 15 = .ok (.aload_n 0, 1)) rfl rfl)
set_option maxRecDepth 100000 in
theorem s_87_16 (hC : SndC g HB l MM call) : Snd g HB l call cX11_conversations 3 yX11_conversations.cls yX11_conversations.name 16 (s_get 9 13 19) := h_get (k := 13) (C := RX11) (T := TX11) (N := 17) (ci := 9) rfl (by decide) (tin 2 108 (by decide +kernel) rfl)  (by decide +kernel : decode cX11_conversations 16 = .ok (.getfield 188, 3)) rfl
set_option maxRecDepth 100000 in
theorem s_87_19 (hC : SndC g HB l MM call) : Snd g HB l call cX11_conversations 3 yX11_conversations.cls yX11_conversations.name 19 (s_br2 3 65 22) := b_ige (by decide +kernel : decode cX11_conversations 19 = .ok (.if_icmp .ge 46, 3)) (by decide) rfl
set_option maxRecDepth 100000 in
theorem s_87_65 (hC : SndC g HB l MM call) : Snd g HB l call cX11_conversations 3 yX11_conversations.cls yX11_conversations.name 65 (lf (q_load isR 0 66)) := lf_ok (p_aload_n (by decide +kernel : decode cX11_conversations 65 = .ok (.aload_n 0, 1)) rfl rfl)
set_option maxRecDepth 100000 in
theorem s_87_66 (hC : SndC g HB l MM call) : Snd g HB l call cX11_conversations 3 yX11_conversations.cls yX11_conversations.name 66 (s_get 9 14 69) := h_get (k := 14) (C := RX11) (T := TX11) (N := 17) (ci := 9) rfl (by decide) (tin 2 109 (by decide +kernel) rfl)  (by decide +kernel : decode cX11_conversations 66 = .ok (.getfield 194, 3)) rfl
set_option maxRecDepth 100000 in
theorem ok_87 (hex : HB.size = g.1) (hC : SndC g HB l MM call) : ∀ x ∈ P_87, Snd g HB l call cX11_conversations 3 yX11_conversations.cls yX11_conversations.name x.1 x.2 := fa4 (s_87_0 hC) (fa4 (s_87_1 hC) (fa4 (s_87_4 hC) (fa4 (s_87_7 hC) (fa4 (s_87_8 hC) (fa4 (s_87_9 hC) (fa4 (s_87_12 hC) (fa4 (s_87_13 hC) (fa4 (s_87_14 hC) (fa4 (s_87_15 hC) (fa4 (s_87_16 hC) (fa4 (s_87_19 hC) (fa4 (s_87_65 hC) (fa4 (s_87_66 hC) (fn4))))))))))))))
set_option maxRecDepth 100000 in
theorem ms_87 (hex : HB.size = g.1) : MSnd g HB l MM D_87 := ⟨by decide +kernel, fun _ hC => ok_87 hex hC, fa4 (show endOK cX11_conversations (some .int) 69 1 from ⟨rfl, (by decide +kernel : decode cX11_conversations 69 = .ok (.ireturn, 1))⟩) (fn4)⟩
set_option maxRecDepth 100000 in
theorem s_88_0 (hC : SndC g HB l MM call) : Snd g HB l call cX10_freshen 3 yX10_freshen.cls yX10_freshen.name 0 (lf (q_load isR 0 1)) := lf_ok (p_aload_n (by decide +kernel : decode cX10_freshen 0 = .ok (.aload_n 0, 1)) rfl rfl)
set_option maxRecDepth 100000 in
theorem s_88_1 (hC : SndC g HB l MM call) : Snd g HB l call cX10_freshen 3 yX10_freshen.cls yX10_freshen.name 1 (s_get 8 6 4) := h_get (k := 6) (C := RX10) (T := TX10) (N := 7) (ci := 8) rfl (by decide) (tin 1 121 (by decide +kernel) rfl)  (by decide +kernel : decode cX10_freshen 1 = .ok (.getfield 32, 3)) rfl
set_option maxRecDepth 100000 in
theorem s_88_4 (hC : SndC g HB l MM call) : Snd g HB l call cX10_freshen 3 yX10_freshen.cls yX10_freshen.name 4 (s_br1 0 8 7) := b_eq (by decide +kernel : decode cX10_freshen 4 = .ok (.ifCond .eq 4, 3)) (by decide) rfl
set_option maxRecDepth 100000 in
theorem s_88_8 (hC : SndC g HB l MM call) : Snd g HB l call cX10_freshen 3 yX10_freshen.cls yX10_freshen.name 8 (lf (q_push (.inl 0) 9)) := lf_ok (p_iconst (by decide +kernel : decode cX10_freshen 8 = .ok (.iconst 0, 1)) (by decide +kernel) rfl)
set_option maxRecDepth 100000 in
theorem s_88_9 (hC : SndC g HB l MM call) : Snd g HB l call cX10_freshen 3 yX10_freshen.cls yX10_freshen.name 9 (lf (q_store isI up1 0 1 3 10)) := lf_ok (p_istore_n (by decide +kernel : decode cX10_freshen 9 = .ok (.istore_n 1, 1)) rfl rfl)
set_option maxRecDepth 100000 in
theorem s_88_10 (hC : SndC g HB l MM call) : Snd g HB l call cX10_freshen 3 yX10_freshen.cls yX10_freshen.name 10 (lf (q_load isI 1 11)) := lf_ok (p_iload_n (by decide +kernel : decode cX10_freshen 10 = .ok (.iload_n 1, 1)) rfl rfl)
set_option maxRecDepth 100000 in
theorem s_88_11 (hC : SndC g HB l MM call) : Snd g HB l call cX10_freshen 3 yX10_freshen.cls yX10_freshen.name 11 (lf (q_push (.inl 3460) 14)) := lf_ok (p_sipush (by decide +kernel : decode cX10_freshen 11 = .ok (.sipush 3460, 3)) (by decide +kernel) rfl)
set_option maxRecDepth 100000 in
theorem s_88_14 (hC : SndC g HB l MM call) : Snd g HB l call cX10_freshen 3 yX10_freshen.cls yX10_freshen.name 14 (s_br2 3 58 17) := b_ige (by decide +kernel : decode cX10_freshen 14 = .ok (.if_icmp .ge 44, 3)) (by decide) rfl
set_option maxRecDepth 100000 in
theorem s_88_17 (hC : SndC g HB l MM call) : Snd g HB l call cX10_freshen 3 yX10_freshen.cls yX10_freshen.name 17 (lf (q_load isI 1 18)) := lf_ok (p_iload_n (by decide +kernel : decode cX10_freshen 17 = .ok (.iload_n 1, 1)) rfl rfl)
set_option maxRecDepth 100000 in
theorem s_88_18 (hC : SndC g HB l MM call) : Snd g HB l call cX10_freshen 3 yX10_freshen.cls yX10_freshen.name 18 (lf (q_load isR 0 19)) := lf_ok (p_aload_n (by decide +kernel : decode cX10_freshen 18 = .ok (.aload_n 0, 1)) rfl rfl)
set_option maxRecDepth 100000 in
theorem s_88_19 (hC : SndC g HB l MM call) : Snd g HB l call cX10_freshen 3 yX10_freshen.cls yX10_freshen.name 19 (s_get 8 1 22) := h_get (k := 1) (C := RX10) (T := TX10) (N := 7) (ci := 8) rfl (by decide) (tin 1 116 (by decide +kernel) rfl)  (by decide +kernel : decode cX10_freshen 19 = .ok (.getfield 28, 3)) rfl
set_option maxRecDepth 100000 in
theorem s_88_22 (hC : SndC g HB l MM call) : Snd g HB l call cX10_freshen 3 yX10_freshen.cls yX10_freshen.name 22 (s_cV 1 89 0 20 25) := c_V (C := RX0) (T := TX0) (N := 7) (ci := 1) rfl hC (M := MM) (id := 89) (d := D_89) rfl mok_89 rfl rfl (tin 2 183 (by decide +kernel) rfl) (tin 2 184 (by decide +kernel) rfl) (tin 2 185 (by decide +kernel) rfl) (tin 1 3 (by decide +kernel) rfl) (by decide +kernel : decode cX10_freshen 22 = .ok (.invokevirtual 36, 3)) rfl
set_option maxRecDepth 100000 in
theorem s_88_25 (hC : SndC g HB l MM call) : Snd g HB l call cX10_freshen 3 yX10_freshen.cls yX10_freshen.name 25 (lf (q_push (.inl 60) 27)) := lf_ok (p_bipush (by decide +kernel : decode cX10_freshen 25 = .ok (.bipush 60, 2)) (by decide +kernel) rfl)
set_option maxRecDepth 100000 in
theorem s_88_27 (hC : SndC g HB l MM call) : Snd g HB l call cX10_freshen 3 yX10_freshen.cls yX10_freshen.name 27 (lf (q_bin (iop2 (fun x y => x + y)) 28)) := lf_ok (p_iadd (by decide +kernel : decode cX10_freshen 27 = .ok (.iadd, 1)) rfl)
set_option maxRecDepth 100000 in
theorem s_88_28 (hC : SndC g HB l MM call) : Snd g HB l call cX10_freshen 3 yX10_freshen.cls yX10_freshen.name 28 (s_br2 3 58 31) := b_ige (by decide +kernel : decode cX10_freshen 28 = .ok (.if_icmp .ge 30, 3)) (by decide) rfl
set_option maxRecDepth 100000 in
theorem s_88_31 (hC : SndC g HB l MM call) : Snd g HB l call cX10_freshen 3 yX10_freshen.cls yX10_freshen.name 31 (lf (q_load isR 0 32)) := lf_ok (p_aload_n (by decide +kernel : decode cX10_freshen 31 = .ok (.aload_n 0, 1)) rfl rfl)
set_option maxRecDepth 100000 in
theorem s_88_32 (hC : SndC g HB l MM call) : Snd g HB l call cX10_freshen 3 yX10_freshen.cls yX10_freshen.name 32 (s_get 8 2 35) := h_get (k := 2) (C := RX10) (T := TX10) (N := 7) (ci := 8) rfl (by decide) (tin 1 117 (by decide +kernel) rfl)  (by decide +kernel : decode cX10_freshen 32 = .ok (.getfield 11, 3)) rfl
set_option maxRecDepth 100000 in
theorem s_88_35 (hC : SndC g HB l MM call) : Snd g HB l call cX10_freshen 3 yX10_freshen.cls yX10_freshen.name 35 (lf (q_load isI 1 36)) := lf_ok (p_iload_n (by decide +kernel : decode cX10_freshen 35 = .ok (.iload_n 1, 1)) rfl rfl)
set_option maxRecDepth 100000 in
theorem s_88_36 (hC : SndC g HB l MM call) : Snd g HB l call cX10_freshen 3 yX10_freshen.cls yX10_freshen.name 36 (lf (q_push (.inl 4294967295) 37)) := lf_ok (p_iconst (by decide +kernel : decode cX10_freshen 36 = .ok (.iconst (-1), 1)) (by decide +kernel) rfl)
set_option maxRecDepth 100000 in
theorem s_88_37 (hC : SndC g HB l MM call) : Snd g HB l call cX10_freshen 3 yX10_freshen.cls yX10_freshen.name 37 (s_ast (fun t => Nat.beq t 0) cvI 38) := h_iast (by decide +kernel : decode cX10_freshen 37 = .ok (.iastore, 1)) rfl
set_option maxRecDepth 100000 in
theorem s_88_38 (hC : SndC g HB l MM call) : Snd g HB l call cX10_freshen 3 yX10_freshen.cls yX10_freshen.name 38 (lf (q_load isR 0 39)) := lf_ok (p_aload_n (by decide +kernel : decode cX10_freshen 38 = .ok (.aload_n 0, 1)) rfl rfl)
set_option maxRecDepth 100000 in
theorem s_88_39 (hC : SndC g HB l MM call) : Snd g HB l call cX10_freshen 3 yX10_freshen.cls yX10_freshen.name 39 (s_get 8 3 42) := h_get (k := 3) (C := RX10) (T := TX10) (N := 7) (ci := 8) rfl (by decide) (tin 1 118 (by decide +kernel) rfl)  (by decide +kernel : decode cX10_freshen 39 = .ok (.getfield 15, 3)) rfl
set_option maxRecDepth 100000 in
theorem s_88_42 (hC : SndC g HB l MM call) : Snd g HB l call cX10_freshen 3 yX10_freshen.cls yX10_freshen.name 42 (lf (q_load isI 1 43)) := lf_ok (p_iload_n (by decide +kernel : decode cX10_freshen 42 = .ok (.iload_n 1, 1)) rfl rfl)
set_option maxRecDepth 100000 in
theorem s_88_43 (hC : SndC g HB l MM call) : Snd g HB l call cX10_freshen 3 yX10_freshen.cls yX10_freshen.name 43 (lf (q_push (.inl 4294967295) 44)) := lf_ok (p_iconst (by decide +kernel : decode cX10_freshen 43 = .ok (.iconst (-1), 1)) (by decide +kernel) rfl)
set_option maxRecDepth 100000 in
theorem s_88_44 (hC : SndC g HB l MM call) : Snd g HB l call cX10_freshen 3 yX10_freshen.cls yX10_freshen.name 44 (s_ast (fun t => Nat.beq t 0) cvI 45) := h_iast (by decide +kernel : decode cX10_freshen 44 = .ok (.iastore, 1)) rfl
set_option maxRecDepth 100000 in
theorem s_88_45 (hC : SndC g HB l MM call) : Snd g HB l call cX10_freshen 3 yX10_freshen.cls yX10_freshen.name 45 (lf (q_load isR 0 46)) := lf_ok (p_aload_n (by decide +kernel : decode cX10_freshen 45 = .ok (.aload_n 0, 1)) rfl rfl)
set_option maxRecDepth 100000 in
theorem s_88_46 (hC : SndC g HB l MM call) : Snd g HB l call cX10_freshen 3 yX10_freshen.cls yX10_freshen.name 46 (s_get 8 4 49) := h_get (k := 4) (C := RX10) (T := TX10) (N := 7) (ci := 8) rfl (by decide) (tin 1 119 (by decide +kernel) rfl)  (by decide +kernel : decode cX10_freshen 46 = .ok (.getfield 18, 3)) rfl
set_option maxRecDepth 100000 in
theorem s_88_49 (hC : SndC g HB l MM call) : Snd g HB l call cX10_freshen 3 yX10_freshen.cls yX10_freshen.name 49 (lf (q_load isI 1 50)) := lf_ok (p_iload_n (by decide +kernel : decode cX10_freshen 49 = .ok (.iload_n 1, 1)) rfl rfl)
set_option maxRecDepth 100000 in
theorem s_88_50 (hC : SndC g HB l MM call) : Snd g HB l call cX10_freshen 3 yX10_freshen.cls yX10_freshen.name 50 (lf (q_push (.inl 4294967295) 51)) := lf_ok (p_iconst (by decide +kernel : decode cX10_freshen 50 = .ok (.iconst (-1), 1)) (by decide +kernel) rfl)
set_option maxRecDepth 100000 in
theorem s_88_51 (hC : SndC g HB l MM call) : Snd g HB l call cX10_freshen 3 yX10_freshen.cls yX10_freshen.name 51 (s_ast (fun t => Nat.beq t 0) cvI 52) := h_iast (by decide +kernel : decode cX10_freshen 51 = .ok (.iastore, 1)) rfl
set_option maxRecDepth 100000 in
theorem s_88_52 (hC : SndC g HB l MM call) : Snd g HB l call cX10_freshen 3 yX10_freshen.cls yX10_freshen.name 52 (lf (q_iinc 1 1 3 55)) := lf_ok (p_iinc (by decide +kernel : decode cX10_freshen 52 = .ok (.iinc 1 1, 3)) rfl)
set_option maxRecDepth 100000 in
theorem s_88_55 (hC : SndC g HB l MM call) : Snd g HB l call cX10_freshen 3 yX10_freshen.cls yX10_freshen.name 55 (lf (q_goto 10)) := lf_ok (p_goto (by decide +kernel : decode cX10_freshen 55 = .ok (.goto (-45), 3)) (by decide))
set_option maxRecDepth 100000 in
theorem s_88_58 (hC : SndC g HB l MM call) : Snd g HB l call cX10_freshen 3 yX10_freshen.cls yX10_freshen.name 58 (lf (q_push (.inl 0) 59)) := lf_ok (p_iconst (by decide +kernel : decode cX10_freshen 58 = .ok (.iconst 0, 1)) (by decide +kernel) rfl)
set_option maxRecDepth 100000 in
theorem s_88_59 (hC : SndC g HB l MM call) : Snd g HB l call cX10_freshen 3 yX10_freshen.cls yX10_freshen.name 59 (lf (q_store isI up1 0 1 3 60)) := lf_ok (p_istore_n (by decide +kernel : decode cX10_freshen 59 = .ok (.istore_n 1, 1)) rfl rfl)
set_option maxRecDepth 100000 in
theorem s_88_60 (hC : SndC g HB l MM call) : Snd g HB l call cX10_freshen 3 yX10_freshen.cls yX10_freshen.name 60 (lf (q_load isI 1 61)) := lf_ok (p_iload_n (by decide +kernel : decode cX10_freshen 60 = .ok (.iload_n 1, 1)) rfl rfl)
set_option maxRecDepth 100000 in
theorem s_88_61 (hC : SndC g HB l MM call) : Snd g HB l call cX10_freshen 3 yX10_freshen.cls yX10_freshen.name 61 (lf (q_load isR 0 62)) := lf_ok (p_aload_n (by decide +kernel : decode cX10_freshen 61 = .ok (.aload_n 0, 1)) rfl rfl)
set_option maxRecDepth 100000 in
theorem s_88_62 (hC : SndC g HB l MM call) : Snd g HB l call cX10_freshen 3 yX10_freshen.cls yX10_freshen.name 62 (s_get 8 0 65) := h_get (k := 0) (C := RX10) (T := TX10) (N := 7) (ci := 8) rfl (by decide) (tin 1 115 (by decide +kernel) rfl)  (by decide +kernel : decode cX10_freshen 62 = .ok (.getfield 24, 3)) rfl
set_option maxRecDepth 100000 in
theorem s_88_65 (hC : SndC g HB l MM call) : Snd g HB l call cX10_freshen 3 yX10_freshen.cls yX10_freshen.name 65 (s_cV 0 22 0 20 68) := c_V (C := RJx4a65c) (T := TJx4a65c) (N := 3) (ci := 0) rfl hC (M := MM) (id := 22) (d := D_22) rfl mok_22 rfl rfl (tin 2 187 (by decide +kernel) rfl) (tin 2 188 (by decide +kernel) rfl) (tin 2 189 (by decide +kernel) rfl) (tin 1 6 (by decide +kernel) rfl) (by decide +kernel : decode cX10_freshen 65 = .ok (.invokevirtual 42, 3)) rfl
set_option maxRecDepth 100000 in
theorem s_88_68 (hC : SndC g HB l MM call) : Snd g HB l call cX10_freshen 3 yX10_freshen.cls yX10_freshen.name 68 (s_br2 3 126 71) := b_ige (by decide +kernel : decode cX10_freshen 68 = .ok (.if_icmp .ge 58, 3)) (by decide) rfl
set_option maxRecDepth 100000 in
theorem s_88_126 (hC : SndC g HB l MM call) : Snd g HB l call cX10_freshen 3 yX10_freshen.cls yX10_freshen.name 126 (lf (q_push (.inl 0) 127)) := lf_ok (p_iconst (by decide +kernel : decode cX10_freshen 126 = .ok (.iconst 0, 1)) (by decide +kernel) rfl)
set_option maxRecDepth 100000 in
theorem s_88_127 (hC : SndC g HB l MM call) : Snd g HB l call cX10_freshen 3 yX10_freshen.cls yX10_freshen.name 127 (lf (q_store isI up1 0 1 3 128)) := lf_ok (p_istore_n (by decide +kernel : decode cX10_freshen 127 = .ok (.istore_n 1, 1)) rfl rfl)
set_option maxRecDepth 100000 in
theorem s_88_128 (hC : SndC g HB l MM call) : Snd g HB l call cX10_freshen 3 yX10_freshen.cls yX10_freshen.name 128 (lf (q_load isI 1 129)) := lf_ok (p_iload_n (by decide +kernel : decode cX10_freshen 128 = .ok (.iload_n 1, 1)) rfl rfl)
set_option maxRecDepth 100000 in
theorem s_88_129 (hC : SndC g HB l MM call) : Snd g HB l call cX10_freshen 3 yX10_freshen.cls yX10_freshen.name 129 (lf (q_load isR 0 130)) := lf_ok (p_aload_n (by decide +kernel : decode cX10_freshen 129 = .ok (.aload_n 0, 1)) rfl rfl)
set_option maxRecDepth 100000 in
theorem s_88_130 (hC : SndC g HB l MM call) : Snd g HB l call cX10_freshen 3 yX10_freshen.cls yX10_freshen.name 130 (s_get 8 0 133) := h_get (k := 0) (C := RX10) (T := TX10) (N := 7) (ci := 8) rfl (by decide) (tin 1 115 (by decide +kernel) rfl)  (by decide +kernel : decode cX10_freshen 130 = .ok (.getfield 24, 3)) rfl
set_option maxRecDepth 100000 in
theorem s_88_133 (hC : SndC g HB l MM call) : Snd g HB l call cX10_freshen 3 yX10_freshen.cls yX10_freshen.name 133 (s_cV 0 22 0 20 136) := c_V (C := RJx4a65c) (T := TJx4a65c) (N := 3) (ci := 0) rfl hC (M := MM) (id := 22) (d := D_22) rfl mok_22 rfl rfl (tin 2 187 (by decide +kernel) rfl) (tin 2 188 (by decide +kernel) rfl) (tin 2 189 (by decide +kernel) rfl) (tin 1 6 (by decide +kernel) rfl) (by decide +kernel : decode cX10_freshen 133 = .ok (.invokevirtual 42, 3)) rfl
set_option maxRecDepth 100000 in
theorem s_88_136 (hC : SndC g HB l MM call) : Snd g HB l call cX10_freshen 3 yX10_freshen.cls yX10_freshen.name 136 (s_br2 3 199 139) := b_ige (by decide +kernel : decode cX10_freshen 136 = .ok (.if_icmp .ge 63, 3)) (by decide) rfl
set_option maxRecDepth 100000 in
theorem s_88_199 (hC : SndC g HB l MM call) : Snd g HB l call cX10_freshen 3 yX10_freshen.cls yX10_freshen.name 199 (lf (q_load isR 0 200)) := lf_ok (p_aload_n (by decide +kernel : decode cX10_freshen 199 = .ok (.aload_n 0, 1)) rfl rfl)
set_option maxRecDepth 100000 in
theorem s_88_200 (hC : SndC g HB l MM call) : Snd g HB l call cX10_freshen 3 yX10_freshen.cls yX10_freshen.name 200 (lf (q_push (.inl 1) 201)) := lf_ok (p_iconst (by decide +kernel : decode cX10_freshen 200 = .ok (.iconst 1, 1)) (by decide +kernel) rfl)
set_option maxRecDepth 100000 in
theorem s_88_201 (hC : SndC g HB l MM call) : Snd g HB l call cX10_freshen 3 yX10_freshen.cls yX10_freshen.name 201 (s_put 8 6 1 204) := h_put (k := 6) (C := RX10) (T := TX10) (N := 7) (ci := 8) rfl (by decide) rfl rfl (tin 1 121 (by decide +kernel) rfl)  (by decide +kernel : decode cX10_freshen 201 = .ok (.putfield 32, 3)) rfl
set_option maxRecDepth 100000 in
theorem ok_88 (hex : HB.size = g.1) (hC : SndC g HB l MM call) : ∀ x ∈ P_88, Snd g HB l call cX10_freshen 3 yX10_freshen.cls yX10_freshen.name x.1 x.2 := fa4 (s_88_0 hC) (fa4 (s_88_1 hC) (fa4 (s_88_4 hC) (fa4 (s_88_8 hC) (fa4 (s_88_9 hC) (fa4 (s_88_10 hC) (fa4 (s_88_11 hC) (fa4 (s_88_14 hC) (fa4 (s_88_17 hC) (fa4 (s_88_18 hC) (fa4 (s_88_19 hC) (fa4 (s_88_22 hC) (fa4 (s_88_25 hC) (fa4 (s_88_27 hC) (fa4 (s_88_28 hC) (fa4 (s_88_31 hC) (fa4 (s_88_32 hC) (fa4 (s_88_35 hC) (fa4 (s_88_36 hC) (fa4 (s_88_37 hC) (fa4 (s_88_38 hC) (fa4 (s_88_39 hC) (fa4 (s_88_42 hC) (fa4 (s_88_43 hC) (fa4 (s_88_44 hC) (fa4 (s_88_45 hC) (fa4 (s_88_46 hC) (fa4 (s_88_49 hC) (fa4 (s_88_50 hC) (fa4 (s_88_51 hC) (fa4 (s_88_52 hC) (fa4 (s_88_55 hC) (fa4 (s_88_58 hC) (fa4 (s_88_59 hC) (fa4 (s_88_60 hC) (fa4 (s_88_61 hC) (fa4 (s_88_62 hC) (fa4 (s_88_65 hC) (fa4 (s_88_68 hC) (fa4 (s_88_126 hC) (fa4 (s_88_127 hC) (fa4 (s_88_128 hC) (fa4 (s_88_129 hC) (fa4 (s_88_130 hC) (fa4 (s_88_133 hC) (fa4 (s_88_136 hC) (fa4 (s_88_199 hC) (fa4 (s_88_200 hC) (fa4 (s_88_201 hC) (fn4)))))))))))))))))))))))))))))))))))))))))))))))))
set_option maxRecDepth 100000 in
theorem ms_88 (hex : HB.size = g.1) : MSnd g HB l MM D_88 := ⟨by decide +kernel, fun _ hC => ok_88 hex hC, fa4 (show endOK cX10_freshen none 204 0 from ⟨rfl, (by decide +kernel : decode cX10_freshen 204 = .ok (.return_, 1))⟩) (fn4)⟩
end PR4
