/-! readLine -/
theorem gz_line {b f r : Nat} {κ : Nat → Int} {m : Int} {σ : gp_S} (hb : b < 2) (hf : f < 8) (hW : gt_W (gs_wm b f) σ) (hX : gm_X f σ) (hZ : gm_Z m σ) (hE : gr_E b r 0 κ σ) : gp_call gs_sh 8 202 [.inr 1891] σ (fun _ σ' => gt_W (gs_wm b f) σ' ∧ gm_X f σ' ∧ gt_fr gs_dml σ σ' ∧ gm_Z (gn_rem σ) σ' ∧ (∃ r, gr_E b r 0 κ σ') ∧ (σ' 236 4 = 0 → gn_rem σ' < gn_rem σ)) := by
  refine gh_call (al := [.inr 1891, .inr 7, .inr 7]) (by decide +kernel) (by show 1 = _; decide +kernel) (by rw [show (gm_me 202).2.1 = 2 by decide +kernel]; rfl) (by show 3 = _; decide +kernel) ?_
  rw [show gm_rc 202 = 0 by decide +kernel]
  obtain ⟨w, ew⟩ : ∃ w : Nat, 8 * (σ 236 10).toNat + 5 = w := ⟨_, rfl⟩
  have h5 : w % 8 = 5 := by omega
  have l218 : ∀ (σ1 : gp_S), gt_W (gs_wm b f) σ1 → gm_X f σ1 → gt_fr gs_dml σ σ1 → gm_Z (gn_rem σ - 1) σ1 → (∃ r, gr_E b r 0 κ σ1) → gp_ok gs_sh (gp_call gs_sh 7) 0 (gm_me 202).1 (fun _ σ' => gt_W (gs_wm b f) σ' ∧ gm_X f σ' ∧ gt_fr gs_dml σ σ' ∧ gm_Z (gn_rem σ) σ' ∧ (∃ r, gr_E b r 0 κ σ') ∧ (σ' 236 4 = 0 → gn_rem σ' < gn_rem σ)) 218 [.inr 1891, .inr w, .inr 7] [] σ1 := by
    intro σ1 W1 X1 F1 Z1 hE1
    obtain ⟨r1, E1⟩ := hE1
    refine gh_aload_n (show gh_at (gm_me 202).1 218 = some (218, 1, .aload_n 0, 0, 0, []) from rfl) rfl rfl ?_
    refine gh_aload_n (show gh_at (gm_me 202).1 219 = some (219, 1, .aload_n 0, 0, 0, []) from rfl) rfl rfl ?_
    refine gh_bipush (x := 59) (show gh_at (gm_me 202).1 220 = some (220, 2, .bipush (59), 472, 0, []) from rfl) (by decide) ?_
    refine gh_callV (r := 1891) (as := [.inl 59]) (t := [.inr 1891]) (show gh_at (gm_me 202).1 222 = some (222, 3, .invokevirtual 289, 194, 0, [(0, 1750)]) from rfl) (by decide) rfl (by show 2 = _; decide +kernel) (Nat.le_trans (gh_wd _) (Nat.le_of_ble_eq_true rfl)) rfl (by decide +kernel) (by decide +kernel) (Ψ := fun v σ9 => σ9 = σ1 ∧ ((v = .inl 1 ∧ σ1 236 8 = 5 ∧ gn_sg σ1 (σ1 236 6) = 59) ∨ v = .inl 0)) (gz_sgh (d := 5) W1 (fun q w => ⟨rfl, Or.inl ⟨rfl, q, w⟩⟩) ⟨rfl, Or.inr rfl⟩) gh_mono (fun v σ9 hv => ?_)
    obtain ⟨e9, hv⟩ := hv
    rw [e9, show gm_rc 194 = 2 by decide +kernel]
    have hz : ∃ z : Int, v = .inl z ∧ (z = 0 ∨ (z = 1 ∧ ¬ σ1 236 8 = 0)) := by
      rcases hv with ⟨rfl, q, -⟩ | rfl
      · exact ⟨1, rfl, Or.inr ⟨rfl, by omega⟩⟩
      · exact ⟨0, rfl, Or.inl rfl⟩
    obtain ⟨z, rfl, hz⟩ := hz
    show gp_ok _ _ _ _ _ _ _ [.inl z, .inr 1891] _
    refine gh_callV (r := 1891) (as := [.inl z]) (t := []) (show gh_at (gm_me 202).1 225 = some (225, 3, .invokevirtual 246, 197, 0, [(0, 1714)]) from rfl) (by decide) rfl (by show 2 = _; decide +kernel) (Nat.le_trans (gh_wd _) (Nat.le_of_ble_eq_true rfl)) rfl (by decide +kernel) (by decide +kernel) (gp_call_le (by show 4 ≤ 7; decide) (gz_must hb hf W1 Z1 hz)) gh_mono (fun v σ2 hv => ?_)
    rw [show gm_rc 197 = 0 by decide +kernel]
    obtain ⟨W2, F2, Z2, -⟩ := hv
    show gp_ok _ _ _ _ _ _ _ [] σ2
    have z1 := Z1.2.2
    have z2 := Z2.2.2
    refine gh_ret (show gh_at (gm_me 202).1 228 = some (228, 1, .return_, 0, 0, []) from rfl) rfl ?_
    exact ⟨W2, gm_Xe X1 (fun j => F2 255 j rfl) (fun j => F2 252 j rfl) (fun j => F2 253 j rfl) (fun j => F2 264 j rfl) (fun j => F2 277 j rfl) (fun j => F2 278 j rfl) (F2 236 46 rfl) (F2 236 47 rfl), gh_ft F1 F2 (by decide +kernel), gm_Zle Z2 (by omega), ⟨r1, gr_Ef F2 E1⟩, fun _ => by omega⟩
  have l193 : ∀ (σ1 : gp_S), gt_W (gs_wm b f) σ1 → gm_X f σ1 → gt_fr gs_dml σ σ1 → gm_Z (gn_rem σ - 1) σ1 → (∃ r, gr_E b r 0 κ σ1) → gp_ok gs_sh (gp_call gs_sh 7) 0 (gm_me 202).1 (fun _ σ' => gt_W (gs_wm b f) σ' ∧ gm_X f σ' ∧ gt_fr gs_dml σ σ' ∧ gm_Z (gn_rem σ) σ' ∧ (∃ r, gr_E b r 0 κ σ') ∧ (σ' 236 4 = 0 → gn_rem σ' < gn_rem σ)) 193 [.inr 1891, .inr w, .inr 7] [] σ1 := by
    intro σ1 W1 X1 F1 Z1 hE1
    refine gh_lload_n (show gh_at (gm_me 202).1 193 = some (193, 1, .lload_n 1, 0, 0, []) from rfl) rfl h5 ?_
    refine gh_ldc2 (show gh_at (gm_me 202).1 194 = some (194, 3, .ldc2_w 179, 13481741245, 0, [(0, 1664)]) from rfl) ?_
    refine gh_lcmp (show gh_at (gm_me 202).1 197 = some (197, 1, .lcmp, 0, 0, []) from rfl) h5 (by decide) (fun z _ _ hz => ?_)
    have hz : z = 0 ↔ w = 13481741245 := hz
    refine gh_if (show gh_at (gm_me 202).1 198 = some (198, 3, .ifCond .ne (20), 0, 218, []) from rfl) (fun _ => ?_) (fun hq => ?_)
    · exact l218 σ1 W1 X1 F1 Z1 hE1
    · have hw : w = 13481741245 := hz.mp (Decidable.not_not.mp hq)
      obtain ⟨r1, E1⟩ := hE1
      have e33 := E1.1
      refine gh_aload_n (show gh_at (gm_me 202).1 201 = some (201, 1, .aload_n 0, 0, 0, []) from rfl) rfl rfl ?_
      refine gh_get (show gh_at (gm_me 202).1 202 = some (202, 3, .getfield 42, 1, 18, [(0, 1459)]) from rfl) rfl (by decide +kernel) (by decide +kernel) (gh_rdr (r := 1971) (by decide +kernel) rfl) ?_
      refine gh_aload_n (show gh_at (gm_me 202).1 205 = some (205, 1, .aload_n 0, 0, 0, []) from rfl) rfl rfl ?_
      refine gh_get (show gh_at (gm_me 202).1 206 = some (206, 3, .getfield 254, 1, 33, [(0, 1474)]) from rfl) rfl (by decide +kernel) (by decide +kernel) (gh_rd0 (by decide +kernel)) ?_
      rw [show σ1 (1891 / 8) 33 = ((1 - b : Nat) : Int) from e33]
      refine gh_aload_n (show gh_at (gm_me 202).1 209 = some (209, 1, .aload_n 0, 0, 0, []) from rfl) rfl rfl ?_
      refine gh_iconst (x := 0) (show gh_at (gm_me 202).1 210 = some (210, 1, .iconst 0, 0, 0, []) from rfl) (by decide) ?_
      refine gh_sipush (x := 999) (show gh_at (gm_me 202).1 211 = some (211, 3, .sipush (999), 7992, 0, []) from rfl) (by decide) ?_
      refine gh_callV (r := 1891) (as := [.inl 0, .inl 999]) (t := [.inl ((1 - b : Nat) : Int), .inr 1971]) (show gh_at (gm_me 202).1 214 = some (214, 3, .invokevirtual 250, 198, 0, [(0, 1722)]) from rfl) (by decide) rfl (by show 3 = _; decide +kernel) (Nat.le_trans (gh_wd _) (Nat.le_of_ble_eq_true rfl)) rfl (by decide +kernel) (by decide +kernel) (gp_call_le (by show 4 ≤ 7; decide) (cn_63 (m := gn_rem σ - 1) hb hf [.inr 1891, .inl 0, .inl 999] σ1 W1 Z1 (fun p hp => by cases hp) ⟨Or.inr (Or.inl ⟨rfl, rfl⟩), gh_any (by unfold gh_r; omega), gh_any (by unfold gh_r; omega), trivial⟩)) gh_mono (fun v σ2 hv => ?_)
      rw [show gm_rc 198 = 1 by decide +kernel]
      obtain ⟨W2, Z2, F2, hr⟩ := hv
      obtain ⟨y, rfl, hy, hy1, hy2⟩ := gh_tvi (t := 34359738362) (by decide) (hr.resolve_left (by show ¬ gm_rc 198 = 0; decide +kernel))
      have F2 : gt_fr gs_tf σ1 σ2 := gh_ft gh_f0 F2 (by show gb_sbm gs_tf [(236, 4), (236, 5), (236, 6), (236, 7), (236, 8), (236, 9), (236, 10)] = true; decide +kernel)
      have X2 : gm_X f σ2 := gm_Xe X1 (fun j => F2 255 j rfl) (fun j => F2 252 j rfl) (fun j => F2 253 j rfl) (fun j => F2 264 j rfl) (fun j => F2 277 j rfl) (fun j => F2 278 j rfl) (F2 236 46 rfl) (F2 236 47 rfl)
      have E2 := gr_Ef F2 E1
      show gp_ok _ _ _ _ _ _ _ [.inl y, .inl ((1 - b : Nat) : Int), .inr 1971] σ2
      refine gh_iast (show gh_at (gm_me 202).1 217 = some (217, 1, .iastore, 0, 0, []) from rfl) rfl (by decide +kernel) (by decide +kernel) (gh_ix (N := 2) (by decide +kernel) (by omega) (by omega)) (gh_pk0 (by decide +kernel) _) ?_
      rw [show (((1 - b : Nat) : Int)).toNat = 1 - b by omega]
      show gp_ok _ _ _ _ _ _ _ [] (gp_up σ2 246 (1 - b) y)
      exact l218 (gp_up σ2 246 (1 - b) y) (gh_Wu W2 (c := 246) (j := 1 - b) (x := y) (fun _ => gh_any hy)) (gm_Xu X2 rfl) (gh_fu (gh_ft F1 F2 (by decide +kernel)) (gb_mo_mem _ (by decide))) (gm_Zn (by simp [gp_up]) (by simp [gp_up]) (by simp [gp_up]) Z2) ⟨r1, gr_Ee E2 (by simp [gp_up]) (by simp [gp_up]) (fun j => by simp [gp_up]) (fun j => by simp [gp_up])⟩
  have l169 : ∀ (σ1 : gp_S), gt_W (gs_wm b f) σ1 → gm_X f σ1 → gt_fr gs_dml σ σ1 → gm_Z (gn_rem σ - 1) σ1 → (∃ r, gr_E b r 0 κ σ1) → gp_ok gs_sh (gp_call gs_sh 7) 0 (gm_me 202).1 (fun _ σ' => gt_W (gs_wm b f) σ' ∧ gm_X f σ' ∧ gt_fr gs_dml σ σ' ∧ gm_Z (gn_rem σ) σ' ∧ (∃ r, gr_E b r 0 κ σ') ∧ (σ' 236 4 = 0 → gn_rem σ' < gn_rem σ)) 169 [.inr 1891, .inr w, .inr 7] [] σ1 := by
    intro σ1 W1 X1 F1 Z1 hE1
    refine gh_lload_n (show gh_at (gm_me 202).1 169 = some (169, 1, .lload_n 1, 0, 0, []) from rfl) rfl h5 ?_
    refine gh_ldc2 (show gh_at (gm_me 202).1 170 = some (170, 3, .ldc2_w 177, 3724458816413, 0, [(0, 1663)]) from rfl) ?_
    refine gh_lcmp (show gh_at (gm_me 202).1 173 = some (173, 1, .lcmp, 0, 0, []) from rfl) h5 (by decide) (fun z _ _ hz => ?_)
    have hz : z = 0 ↔ w = 3724458816413 := hz
    refine gh_if (show gh_at (gm_me 202).1 174 = some (174, 3, .ifCond .ne (19), 0, 193, []) from rfl) (fun _ => ?_) (fun hq => ?_)
    · exact l193 σ1 W1 X1 F1 Z1 hE1
    · have hw : w = 3724458816413 := hz.mp (Decidable.not_not.mp hq)
      obtain ⟨r1, E1⟩ := hE1
      have e33 := E1.1
      refine gh_aload_n (show gh_at (gm_me 202).1 177 = some (177, 1, .aload_n 0, 0, 0, []) from rfl) rfl rfl ?_
      refine gh_get (show gh_at (gm_me 202).1 178 = some (178, 3, .getfield 39, 1, 17, [(0, 1458)]) from rfl) rfl (by decide +kernel) (by decide +kernel) (gh_rdr (r := 1963) (by decide +kernel) rfl) ?_
      refine gh_aload_n (show gh_at (gm_me 202).1 181 = some (181, 1, .aload_n 0, 0, 0, []) from rfl) rfl rfl ?_
      refine gh_get (show gh_at (gm_me 202).1 182 = some (182, 3, .getfield 254, 1, 33, [(0, 1474)]) from rfl) rfl (by decide +kernel) (by decide +kernel) (gh_rd0 (by decide +kernel)) ?_
      rw [show σ1 (1891 / 8) 33 = ((1 - b : Nat) : Int) from e33]
      refine gh_aload_n (show gh_at (gm_me 202).1 185 = some (185, 1, .aload_n 0, 0, 0, []) from rfl) rfl rfl ?_
      refine gh_iconst (x := 0) (show gh_at (gm_me 202).1 186 = some (186, 1, .iconst 0, 0, 0, []) from rfl) (by decide) ?_
      refine gh_bipush (x := 100) (show gh_at (gm_me 202).1 187 = some (187, 2, .bipush (100), 800, 0, []) from rfl) (by decide) ?_
      refine gh_callV (r := 1891) (as := [.inl 0, .inl 100]) (t := [.inl ((1 - b : Nat) : Int), .inr 1963]) (show gh_at (gm_me 202).1 189 = some (189, 3, .invokevirtual 250, 198, 0, [(0, 1722)]) from rfl) (by decide) rfl (by show 3 = _; decide +kernel) (Nat.le_trans (gh_wd _) (Nat.le_of_ble_eq_true rfl)) rfl (by decide +kernel) (by decide +kernel) (gp_call_le (by show 4 ≤ 7; decide) (cn_62 (m := gn_rem σ - 1) hb hf [.inr 1891, .inl 0, .inl 100] σ1 W1 Z1 (fun p hp => by cases hp) ⟨Or.inr (Or.inl ⟨rfl, rfl⟩), gh_mk (by decide) (by unfold gh_r; omega) (by omega) (by omega), gh_mk (by decide) (by unfold gh_r; omega) (by omega) (by omega), trivial⟩)) gh_mono (fun v σ2 hv => ?_)
      rw [show gm_rc 198 = 1 by decide +kernel]
      obtain ⟨W2, Z2, F2, hr⟩ := hv
      obtain ⟨y, rfl, hy, hy1, hy2⟩ := gh_tvi (t := 73786976312018076450) (by decide) (hr.resolve_left (by show ¬ gm_rc 198 = 0; decide +kernel))
      have F2 : gt_fr gs_tf σ1 σ2 := gh_ft gh_f0 F2 (by show gb_sbm gs_tf [(236, 4), (236, 5), (236, 6), (236, 7), (236, 8), (236, 9), (236, 10)] = true; decide +kernel)
      have X2 : gm_X f σ2 := gm_Xe X1 (fun j => F2 255 j rfl) (fun j => F2 252 j rfl) (fun j => F2 253 j rfl) (fun j => F2 264 j rfl) (fun j => F2 277 j rfl) (fun j => F2 278 j rfl) (F2 236 46 rfl) (F2 236 47 rfl)
      have E2 := gr_Ef F2 E1
      show gp_ok _ _ _ _ _ _ _ [.inl y, .inl ((1 - b : Nat) : Int), .inr 1963] σ2
      refine gh_iast (show gh_at (gm_me 202).1 192 = some (192, 1, .iastore, 0, 0, []) from rfl) rfl (by decide +kernel) (by decide +kernel) (gh_ix (N := 2) (by decide +kernel) (by omega) (by omega)) (gh_pk0 (by decide +kernel) _) ?_
      rw [show (((1 - b : Nat) : Int)).toNat = 1 - b by omega]
      show gp_ok _ _ _ _ _ _ _ [] (gp_up σ2 245 (1 - b) y)
      exact l193 (gp_up σ2 245 (1 - b) y) (gh_Wu W2 (c := 245) (j := 1 - b) (x := y) (fun _ => show gt_tv 73786976312018076450 (.inl y) from gh_mk (by decide) hy (by omega) (by omega))) (gm_Xu X2 rfl) (gh_fu (gh_ft F1 F2 (by decide +kernel)) (gb_mo_mem _ (by decide))) (gm_Zn (by simp [gp_up]) (by simp [gp_up]) (by simp [gp_up]) Z2) ⟨r1, gr_Ee E2 (by simp [gp_up]) (by simp [gp_up]) (fun j => by simp [gp_up]) (fun j => by simp [gp_up])⟩
  have l157 : ∀ (σ1 : gp_S), gt_W (gs_wm b f) σ1 → gm_X f σ1 → gt_fr gs_dml σ σ1 → gm_Z (gn_rem σ - 1) σ1 → (∃ r, gr_E b r 0 κ σ1) → gp_ok gs_sh (gp_call gs_sh 7) 0 (gm_me 202).1 (fun _ σ' => gt_W (gs_wm b f) σ' ∧ gm_X f σ' ∧ gt_fr gs_dml σ σ' ∧ gm_Z (gn_rem σ) σ' ∧ (∃ r, gr_E b r 0 κ σ') ∧ (σ' 236 4 = 0 → gn_rem σ' < gn_rem σ)) 157 [.inr 1891, .inr w, .inr 7] [] σ1 := by
    intro σ1 W1 X1 F1 Z1 hE1
    refine gh_lload_n (show gh_at (gm_me 202).1 157 = some (157, 1, .lload_n 1, 0, 0, []) from rfl) rfl h5 ?_
    refine gh_ldc2 (show gh_at (gm_me 202).1 158 = some (158, 3, .ldc2_w 175, 3416570684317, 0, [(0, 1662)]) from rfl) ?_
    refine gh_lcmp (show gh_at (gm_me 202).1 161 = some (161, 1, .lcmp, 0, 0, []) from rfl) h5 (by decide) (fun z _ _ hz => ?_)
    have hz : z = 0 ↔ w = 3416570684317 := hz
    refine gh_if (show gh_at (gm_me 202).1 162 = some (162, 3, .ifCond .ne (7), 0, 169, []) from rfl) (fun _ => ?_) (fun hq => ?_)
    · exact l169 σ1 W1 X1 F1 Z1 hE1
    · have hw : w = 3416570684317 := hz.mp (Decidable.not_not.mp hq)
      obtain ⟨r1, E1⟩ := hE1
      refine gh_aload_n (show gh_at (gm_me 202).1 165 = some (165, 1, .aload_n 0, 0, 0, []) from rfl) rfl rfl ?_
      refine gh_callV (r := 1891) (as := []) (t := []) (show gh_at (gm_me 202).1 166 = some (166, 3, .invokevirtual 286, 207, 0, [(0, 1734)]) from rfl) (by decide) rfl (by show 1 = _; decide +kernel) (Nat.le_trans (gh_wd _) (Nat.le_of_ble_eq_true rfl)) rfl (by decide +kernel) (by decide +kernel) (gz_rule hb hf W1 X1 Z1 E1) gh_mono (fun v σ2 hv => ?_)
      rw [show gm_rc 207 = 0 by decide +kernel]
      obtain ⟨W2, X2, F2, Z2, E2⟩ := hv
      exact l169 σ2 W2 X2 (gh_ft F1 F2 (by decide +kernel)) (gm_Zle Z2 Z1.2.2) E2
  have l133 : ∀ (σ1 : gp_S), gt_W (gs_wm b f) σ1 → gm_X f σ1 → gt_fr gs_dml σ σ1 → gm_Z (gn_rem σ - 1) σ1 → (∃ r, gr_E b r 0 κ σ1) → gp_ok gs_sh (gp_call gs_sh 7) 0 (gm_me 202).1 (fun _ σ' => gt_W (gs_wm b f) σ' ∧ gm_X f σ' ∧ gt_fr gs_dml σ σ' ∧ gm_Z (gn_rem σ) σ' ∧ (∃ r, gr_E b r 0 κ σ') ∧ (σ' 236 4 = 0 → gn_rem σ' < gn_rem σ)) 133 [.inr 1891, .inr w, .inr 7] [] σ1 := by
    intro σ1 W1 X1 F1 Z1 hE1
    refine gh_lload_n (show gh_at (gm_me 202).1 133 = some (133, 1, .lload_n 1, 0, 0, []) from rfl) rfl h5 ?_
    refine gh_ldc2 (show gh_at (gm_me 202).1 134 = some (134, 3, .ldc2_w 173, 856637996506013, 0, [(0, 1661)]) from rfl) ?_
    refine gh_lcmp (show gh_at (gm_me 202).1 137 = some (137, 1, .lcmp, 0, 0, []) from rfl) h5 (by decide) (fun z _ _ hz => ?_)
    have hz : z = 0 ↔ w = 856637996506013 := hz
    refine gh_if (show gh_at (gm_me 202).1 138 = some (138, 3, .ifCond .ne (19), 0, 157, []) from rfl) (fun _ => ?_) (fun hq => ?_)
    · exact l157 σ1 W1 X1 F1 Z1 hE1
    · have hw : w = 856637996506013 := hz.mp (Decidable.not_not.mp hq)
      obtain ⟨r1, E1⟩ := hE1
      have e33 := E1.1
      refine gh_aload_n (show gh_at (gm_me 202).1 141 = some (141, 1, .aload_n 0, 0, 0, []) from rfl) rfl rfl ?_
      refine gh_get (show gh_at (gm_me 202).1 142 = some (142, 3, .getfield 36, 1, 16, [(0, 1457)]) from rfl) rfl (by decide +kernel) (by decide +kernel) (gh_rdr (r := 1955) (by decide +kernel) rfl) ?_
      refine gh_aload_n (show gh_at (gm_me 202).1 145 = some (145, 1, .aload_n 0, 0, 0, []) from rfl) rfl rfl ?_
      refine gh_get (show gh_at (gm_me 202).1 146 = some (146, 3, .getfield 254, 1, 33, [(0, 1474)]) from rfl) rfl (by decide +kernel) (by decide +kernel) (gh_rd0 (by decide +kernel)) ?_
      rw [show σ1 (1891 / 8) 33 = ((1 - b : Nat) : Int) from e33]
      refine gh_aload_n (show gh_at (gm_me 202).1 149 = some (149, 1, .aload_n 0, 0, 0, []) from rfl) rfl rfl ?_
      refine gh_iconst (x := 0) (show gh_at (gm_me 202).1 150 = some (150, 1, .iconst 0, 0, 0, []) from rfl) (by decide) ?_
      refine gh_bipush (x := 9) (show gh_at (gm_me 202).1 151 = some (151, 2, .bipush (9), 72, 0, []) from rfl) (by decide) ?_
      refine gh_callV (r := 1891) (as := [.inl 0, .inl 9]) (t := [.inl ((1 - b : Nat) : Int), .inr 1955]) (show gh_at (gm_me 202).1 153 = some (153, 3, .invokevirtual 250, 198, 0, [(0, 1722)]) from rfl) (by decide) rfl (by show 3 = _; decide +kernel) (Nat.le_trans (gh_wd _) (Nat.le_of_ble_eq_true rfl)) rfl (by decide +kernel) (by decide +kernel) (gp_call_le (by show 4 ≤ 7; decide) (cn_63 (m := gn_rem σ - 1) hb hf [.inr 1891, .inl 0, .inl 9] σ1 W1 Z1 (fun p hp => by cases hp) ⟨Or.inr (Or.inl ⟨rfl, rfl⟩), gh_any (by unfold gh_r; omega), gh_any (by unfold gh_r; omega), trivial⟩)) gh_mono (fun v σ2 hv => ?_)
      rw [show gm_rc 198 = 1 by decide +kernel]
      obtain ⟨W2, Z2, F2, hr⟩ := hv
      obtain ⟨y, rfl, hy, hy1, hy2⟩ := gh_tvi (t := 34359738362) (by decide) (hr.resolve_left (by show ¬ gm_rc 198 = 0; decide +kernel))
      have F2 : gt_fr gs_tf σ1 σ2 := gh_ft gh_f0 F2 (by show gb_sbm gs_tf [(236, 4), (236, 5), (236, 6), (236, 7), (236, 8), (236, 9), (236, 10)] = true; decide +kernel)
      have X2 : gm_X f σ2 := gm_Xe X1 (fun j => F2 255 j rfl) (fun j => F2 252 j rfl) (fun j => F2 253 j rfl) (fun j => F2 264 j rfl) (fun j => F2 277 j rfl) (fun j => F2 278 j rfl) (F2 236 46 rfl) (F2 236 47 rfl)
      have E2 := gr_Ef F2 E1
      show gp_ok _ _ _ _ _ _ _ [.inl y, .inl ((1 - b : Nat) : Int), .inr 1955] σ2
      refine gh_iast (show gh_at (gm_me 202).1 156 = some (156, 1, .iastore, 0, 0, []) from rfl) rfl (by decide +kernel) (by decide +kernel) (gh_ix (N := 2) (by decide +kernel) (by omega) (by omega)) (gh_pk0 (by decide +kernel) _) ?_
      rw [show (((1 - b : Nat) : Int)).toNat = 1 - b by omega]
      show gp_ok _ _ _ _ _ _ _ [] (gp_up σ2 244 (1 - b) y)
      exact l157 (gp_up σ2 244 (1 - b) y) (gh_Wu W2 (c := 244) (j := 1 - b) (x := y) (fun _ => gh_any hy)) (gm_Xu X2 rfl) (gh_fu (gh_ft F1 F2 (by decide +kernel)) (gb_mo_mem _ (by decide))) (gm_Zn (by simp [gp_up]) (by simp [gp_up]) (by simp [gp_up]) Z2) ⟨r1, gr_Ee E2 (by simp [gp_up]) (by simp [gp_up]) (fun j => by simp [gp_up]) (fun j => by simp [gp_up])⟩
  have l109 : ∀ (σ1 : gp_S), gt_W (gs_wm b f) σ1 → gm_X f σ1 → gt_fr gs_dml σ σ1 → gm_Z (gn_rem σ - 1) σ1 → (∃ r, gr_E b r 0 κ σ1) → gp_ok gs_sh (gp_call gs_sh 7) 0 (gm_me 202).1 (fun _ σ' => gt_W (gs_wm b f) σ' ∧ gm_X f σ' ∧ gt_fr gs_dml σ σ' ∧ gm_Z (gn_rem σ) σ' ∧ (∃ r, gr_E b r 0 κ σ') ∧ (σ' 236 4 = 0 → gn_rem σ' < gn_rem σ)) 109 [.inr 1891, .inr w, .inr 7] [] σ1 := by
    intro σ1 W1 X1 F1 Z1 hE1
    refine gh_lload_n (show gh_at (gm_me 202).1 109 = some (109, 1, .lload_n 1, 0, 0, []) from rfl) rfl h5 ?_
    refine gh_ldc2 (show gh_at (gm_me 202).1 110 = some (110, 3, .ldc2_w 171, 14011796389, 0, [(0, 1660)]) from rfl) ?_
    refine gh_lcmp (show gh_at (gm_me 202).1 113 = some (113, 1, .lcmp, 0, 0, []) from rfl) h5 (by decide) (fun z _ _ hz => ?_)
    have hz : z = 0 ↔ w = 14011796389 := hz
    refine gh_if (show gh_at (gm_me 202).1 114 = some (114, 3, .ifCond .ne (19), 0, 133, []) from rfl) (fun _ => ?_) (fun hq => ?_)
    · exact l133 σ1 W1 X1 F1 Z1 hE1
    · have hw : w = 14011796389 := hz.mp (Decidable.not_not.mp hq)
      obtain ⟨r1, E1⟩ := hE1
      have e33 := E1.1
      refine gh_aload_n (show gh_at (gm_me 202).1 117 = some (117, 1, .aload_n 0, 0, 0, []) from rfl) rfl rfl ?_
      refine gh_get (show gh_at (gm_me 202).1 118 = some (118, 3, .getfield 33, 1, 15, [(0, 1456)]) from rfl) rfl (by decide +kernel) (by decide +kernel) (gh_rdr (r := 1947) (by decide +kernel) rfl) ?_
      refine gh_aload_n (show gh_at (gm_me 202).1 121 = some (121, 1, .aload_n 0, 0, 0, []) from rfl) rfl rfl ?_
      refine gh_get (show gh_at (gm_me 202).1 122 = some (122, 3, .getfield 254, 1, 33, [(0, 1474)]) from rfl) rfl (by decide +kernel) (by decide +kernel) (gh_rd0 (by decide +kernel)) ?_
      rw [show σ1 (1891 / 8) 33 = ((1 - b : Nat) : Int) from e33]
      refine gh_aload_n (show gh_at (gm_me 202).1 125 = some (125, 1, .aload_n 0, 0, 0, []) from rfl) rfl rfl ?_
      refine gh_iconst (x := 0) (show gh_at (gm_me 202).1 126 = some (126, 1, .iconst 0, 0, 0, []) from rfl) (by decide) ?_
      refine gh_bipush (x := 99) (show gh_at (gm_me 202).1 127 = some (127, 2, .bipush (99), 792, 0, []) from rfl) (by decide) ?_
      refine gh_callV (r := 1891) (as := [.inl 0, .inl 99]) (t := [.inl ((1 - b : Nat) : Int), .inr 1947]) (show gh_at (gm_me 202).1 129 = some (129, 3, .invokevirtual 250, 198, 0, [(0, 1722)]) from rfl) (by decide) rfl (by show 3 = _; decide +kernel) (Nat.le_trans (gh_wd _) (Nat.le_of_ble_eq_true rfl)) rfl (by decide +kernel) (by decide +kernel) (gp_call_le (by show 4 ≤ 7; decide) (cn_63 (m := gn_rem σ - 1) hb hf [.inr 1891, .inl 0, .inl 99] σ1 W1 Z1 (fun p hp => by cases hp) ⟨Or.inr (Or.inl ⟨rfl, rfl⟩), gh_any (by unfold gh_r; omega), gh_any (by unfold gh_r; omega), trivial⟩)) gh_mono (fun v σ2 hv => ?_)
      rw [show gm_rc 198 = 1 by decide +kernel]
      obtain ⟨W2, Z2, F2, hr⟩ := hv
      obtain ⟨y, rfl, hy, hy1, hy2⟩ := gh_tvi (t := 34359738362) (by decide) (hr.resolve_left (by show ¬ gm_rc 198 = 0; decide +kernel))
      have F2 : gt_fr gs_tf σ1 σ2 := gh_ft gh_f0 F2 (by show gb_sbm gs_tf [(236, 4), (236, 5), (236, 6), (236, 7), (236, 8), (236, 9), (236, 10)] = true; decide +kernel)
      have X2 : gm_X f σ2 := gm_Xe X1 (fun j => F2 255 j rfl) (fun j => F2 252 j rfl) (fun j => F2 253 j rfl) (fun j => F2 264 j rfl) (fun j => F2 277 j rfl) (fun j => F2 278 j rfl) (F2 236 46 rfl) (F2 236 47 rfl)
      have E2 := gr_Ef F2 E1
      show gp_ok _ _ _ _ _ _ _ [.inl y, .inl ((1 - b : Nat) : Int), .inr 1947] σ2
      refine gh_iast (show gh_at (gm_me 202).1 132 = some (132, 1, .iastore, 0, 0, []) from rfl) rfl (by decide +kernel) (by decide +kernel) (gh_ix (N := 2) (by decide +kernel) (by omega) (by omega)) (gh_pk0 (by decide +kernel) _) ?_
      rw [show (((1 - b : Nat) : Int)).toNat = 1 - b by omega]
      show gp_ok _ _ _ _ _ _ _ [] (gp_up σ2 243 (1 - b) y)
      exact l133 (gp_up σ2 243 (1 - b) y) (gh_Wu W2 (c := 243) (j := 1 - b) (x := y) (fun _ => gh_any hy)) (gm_Xu X2 rfl) (gh_fu (gh_ft F1 F2 (by decide +kernel)) (gb_mo_mem _ (by decide))) (gm_Zn (by simp [gp_up]) (by simp [gp_up]) (by simp [gp_up]) Z2) ⟨r1, gr_Ee E2 (by simp [gp_up]) (by simp [gp_up]) (fun j => by simp [gp_up]) (fun j => by simp [gp_up])⟩
  have l85 : ∀ (σ1 : gp_S), gt_W (gs_wm b f) σ1 → gm_X f σ1 → gt_fr gs_dml σ σ1 → gm_Z (gn_rem σ - 1) σ1 → (∃ r, gr_E b r 0 κ σ1) → gp_ok gs_sh (gp_call gs_sh 7) 0 (gm_me 202).1 (fun _ σ' => gt_W (gs_wm b f) σ' ∧ gm_X f σ' ∧ gt_fr gs_dml σ σ' ∧ gm_Z (gn_rem σ) σ' ∧ (∃ r, gr_E b r 0 κ σ') ∧ (σ' 236 4 = 0 → gn_rem σ' < gn_rem σ)) 85 [.inr 1891, .inr w, .inr 7] [] σ1 := by
    intro σ1 W1 X1 F1 Z1 hE1
    refine gh_lload_n (show gh_at (gm_me 202).1 85 = some (85, 1, .lload_n 1, 0, 0, []) from rfl) rfl h5 ?_
    refine gh_ldc2 (show gh_at (gm_me 202).1 86 = some (86, 3, .ldc2_w 169, 13211732901, 0, [(0, 1659)]) from rfl) ?_
    refine gh_lcmp (show gh_at (gm_me 202).1 89 = some (89, 1, .lcmp, 0, 0, []) from rfl) h5 (by decide) (fun z _ _ hz => ?_)
    have hz : z = 0 ↔ w = 13211732901 := hz
    refine gh_if (show gh_at (gm_me 202).1 90 = some (90, 3, .ifCond .ne (19), 0, 109, []) from rfl) (fun _ => ?_) (fun hq => ?_)
    · exact l109 σ1 W1 X1 F1 Z1 hE1
    · have hw : w = 13211732901 := hz.mp (Decidable.not_not.mp hq)
      obtain ⟨r1, E1⟩ := hE1
      have e33 := E1.1
      refine gh_aload_n (show gh_at (gm_me 202).1 93 = some (93, 1, .aload_n 0, 0, 0, []) from rfl) rfl rfl ?_
      refine gh_get (show gh_at (gm_me 202).1 94 = some (94, 3, .getfield 30, 1, 14, [(0, 1455)]) from rfl) rfl (by decide +kernel) (by decide +kernel) (gh_rdr (r := 1939) (by decide +kernel) rfl) ?_
      refine gh_aload_n (show gh_at (gm_me 202).1 97 = some (97, 1, .aload_n 0, 0, 0, []) from rfl) rfl rfl ?_
      refine gh_get (show gh_at (gm_me 202).1 98 = some (98, 3, .getfield 254, 1, 33, [(0, 1474)]) from rfl) rfl (by decide +kernel) (by decide +kernel) (gh_rd0 (by decide +kernel)) ?_
      rw [show σ1 (1891 / 8) 33 = ((1 - b : Nat) : Int) from e33]
      refine gh_aload_n (show gh_at (gm_me 202).1 101 = some (101, 1, .aload_n 0, 0, 0, []) from rfl) rfl rfl ?_
      refine gh_iconst (x := 0) (show gh_at (gm_me 202).1 102 = some (102, 1, .iconst 0, 0, 0, []) from rfl) (by decide) ?_
      refine gh_bipush (x := 99) (show gh_at (gm_me 202).1 103 = some (103, 2, .bipush (99), 792, 0, []) from rfl) (by decide) ?_
      refine gh_callV (r := 1891) (as := [.inl 0, .inl 99]) (t := [.inl ((1 - b : Nat) : Int), .inr 1939]) (show gh_at (gm_me 202).1 105 = some (105, 3, .invokevirtual 250, 198, 0, [(0, 1722)]) from rfl) (by decide) rfl (by show 3 = _; decide +kernel) (Nat.le_trans (gh_wd _) (Nat.le_of_ble_eq_true rfl)) rfl (by decide +kernel) (by decide +kernel) (gp_call_le (by show 4 ≤ 7; decide) (cn_63 (m := gn_rem σ - 1) hb hf [.inr 1891, .inl 0, .inl 99] σ1 W1 Z1 (fun p hp => by cases hp) ⟨Or.inr (Or.inl ⟨rfl, rfl⟩), gh_any (by unfold gh_r; omega), gh_any (by unfold gh_r; omega), trivial⟩)) gh_mono (fun v σ2 hv => ?_)
      rw [show gm_rc 198 = 1 by decide +kernel]
      obtain ⟨W2, Z2, F2, hr⟩ := hv
      obtain ⟨y, rfl, hy, hy1, hy2⟩ := gh_tvi (t := 34359738362) (by decide) (hr.resolve_left (by show ¬ gm_rc 198 = 0; decide +kernel))
      have F2 : gt_fr gs_tf σ1 σ2 := gh_ft gh_f0 F2 (by show gb_sbm gs_tf [(236, 4), (236, 5), (236, 6), (236, 7), (236, 8), (236, 9), (236, 10)] = true; decide +kernel)
      have X2 : gm_X f σ2 := gm_Xe X1 (fun j => F2 255 j rfl) (fun j => F2 252 j rfl) (fun j => F2 253 j rfl) (fun j => F2 264 j rfl) (fun j => F2 277 j rfl) (fun j => F2 278 j rfl) (F2 236 46 rfl) (F2 236 47 rfl)
      have E2 := gr_Ef F2 E1
      show gp_ok _ _ _ _ _ _ _ [.inl y, .inl ((1 - b : Nat) : Int), .inr 1939] σ2
      refine gh_iast (show gh_at (gm_me 202).1 108 = some (108, 1, .iastore, 0, 0, []) from rfl) rfl (by decide +kernel) (by decide +kernel) (gh_ix (N := 2) (by decide +kernel) (by omega) (by omega)) (gh_pk0 (by decide +kernel) _) ?_
      rw [show (((1 - b : Nat) : Int)).toNat = 1 - b by omega]
      show gp_ok _ _ _ _ _ _ _ [] (gp_up σ2 242 (1 - b) y)
      exact l109 (gp_up σ2 242 (1 - b) y) (gh_Wu W2 (c := 242) (j := 1 - b) (x := y) (fun _ => gh_any hy)) (gm_Xu X2 rfl) (gh_fu (gh_ft F1 F2 (by decide +kernel)) (gb_mo_mem _ (by decide))) (gm_Zn (by simp [gp_up]) (by simp [gp_up]) (by simp [gp_up]) Z2) ⟨r1, gr_Ee E2 (by simp [gp_up]) (by simp [gp_up]) (fun j => by simp [gp_up]) (fun j => by simp [gp_up])⟩
  have l73 : ∀ (σ1 : gp_S), gt_W (gs_wm b f) σ1 → gm_X f σ1 → gt_fr gs_dml σ σ1 → gm_Z (gn_rem σ - 1) σ1 → (∃ r, gr_E b r 0 κ σ1) → (w = 13743401765 → ¬ σ1 240 (1 - b) = 10) → gp_ok gs_sh (gp_call gs_sh 7) 0 (gm_me 202).1 (fun _ σ' => gt_W (gs_wm b f) σ' ∧ gm_X f σ' ∧ gt_fr gs_dml σ σ' ∧ gm_Z (gn_rem σ) σ' ∧ (∃ r, gr_E b r 0 κ σ') ∧ (σ' 236 4 = 0 → gn_rem σ' < gn_rem σ)) 73 [.inr 1891, .inr w, .inr 7] [] σ1 := by
    intro σ1 W1 X1 F1 Z1 hE1 hL
    refine gh_lload_n (show gh_at (gm_me 202).1 73 = some (73, 1, .lload_n 1, 0, 0, []) from rfl) rfl h5 ?_
    refine gh_ldc2 (show gh_at (gm_me 202).1 74 = some (74, 3, .ldc2_w 167, 13743401765, 0, [(0, 1658)]) from rfl) ?_
    refine gh_lcmp (show gh_at (gm_me 202).1 77 = some (77, 1, .lcmp, 0, 0, []) from rfl) h5 (by decide) (fun z _ _ hz => ?_)
    have hz : z = 0 ↔ w = 13743401765 := hz
    refine gh_if (show gh_at (gm_me 202).1 78 = some (78, 3, .ifCond .ne (7), 0, 85, []) from rfl) (fun _ => ?_) (fun hq => ?_)
    · exact l85 σ1 W1 X1 F1 Z1 hE1
    · have hw : w = 13743401765 := hz.mp (Decidable.not_not.mp hq)
      obtain ⟨r1, E1⟩ := hE1
      have e33 := E1.1
      have ht := (gh_tv (gh_Wg W1 240 (1 - b) (t := 73786976312018075730) (by show ¬ 100 = 999; decide) (by show 1 - b < 2; omega) (by rcases (show b = 0 ∨ b = 1 by omega) with q | q <;> subst q <;> rfl) (by decide))).2
      have hn := hL hw
      refine gh_aload_n (show gh_at (gm_me 202).1 81 = some (81, 1, .aload_n 0, 0, 0, []) from rfl) rfl rfl ?_
      refine gh_callV (r := 1891) (as := []) (t := []) (show gh_at (gm_me 202).1 82 = some (82, 3, .invokevirtual 283, 206, 0, [(0, 1726)]) from rfl) (by decide) rfl (by show 1 = _; decide +kernel) (Nat.le_trans (gh_wd _) (Nat.le_of_ble_eq_true rfl)) rfl (by decide +kernel) (by decide +kernel) (gp_call_le (by show 5 ≤ 7; decide) (cn_65 (m := gn_rem σ - 1) hb hf [.inr 1891] σ1 W1 Z1 (fun p hp => by
        have hp : p ∈ [(236, 33, gs_lt (1 - b)), (240, 1 - b, 73786976312018075722)] := hp
        rcases List.mem_cons.mp hp with rfl | hp
        · exact gm_rbq hb e33
        · obtain rfl := List.mem_singleton.mp hp
          exact gm_ivq (z := σ1 240 (1 - b)) (t := 73786976312018075722) (by decide) (by omega) (by omega)) ⟨Or.inr (Or.inl ⟨rfl, rfl⟩), trivial⟩)) gh_mono (fun v σ2 hv => ?_)
      rw [show gm_rc 206 = 0 by decide +kernel]
      obtain ⟨W2, Z2, F2, -⟩ := hv
      have F3 : gt_fr (gs_tf ++ [(239, 0), (239, 1), (240, 0), (240, 1), (242, 1048576), (243, 1048576), (244, 1048576), (245, 1048576), (246, 1048576), (247, 1048576), (248, 1048576), (249, 1048576), (250, 1048576), (251, 1048576), (254, 1048576)]) σ1 σ2 := gh_ft gh_f0 F2 (by show gb_sbm (gs_tf ++ [(239, 0), (239, 1), (240, 0), (240, 1), (242, 1048576), (243, 1048576), (244, 1048576), (245, 1048576), (246, 1048576), (247, 1048576), (248, 1048576), (249, 1048576), (250, 1048576), (251, 1048576), (254, 1048576)]) [(236, 4), (236, 5), (236, 6), (236, 7), (236, 8), (236, 9), (236, 10), (240, 0), (240, 1), (250, 1048576), (251, 1048576)] = true; decide +kernel)
      have X2 : gm_X f σ2 := gm_Xe X1 (fun j => F3 255 j rfl) (fun j => F3 252 j rfl) (fun j => F3 253 j rfl) (fun j => F3 264 j rfl) (fun j => F3 277 j rfl) (fun j => F3 278 j rfl) (F3 236 46 rfl) (F3 236 47 rfl)
      have E2 : gr_E b r1 0 κ σ2 := gr_Ee E1 (F3 236 33 rfl) (F3 236 34 rfl) (fun j => F3 255 j rfl) (fun j => F3 241 j rfl)
      exact l85 σ2 W2 X2 (gh_ft F1 F3 (by decide +kernel)) Z2 ⟨r1, E2⟩
  have l61 : ∀ (σ1 : gp_S), gt_W (gs_wm b f) σ1 → gm_X f σ1 → gt_fr gs_dml σ σ1 → gm_Z (gn_rem σ - 1) σ1 → (∃ r, gr_E b r 0 κ σ1) → (w = 3554809715621 → ¬ σ1 239 (1 - b) = 7) → (w = 13743401765 → ¬ σ1 240 (1 - b) = 10) → gp_ok gs_sh (gp_call gs_sh 7) 0 (gm_me 202).1 (fun _ σ' => gt_W (gs_wm b f) σ' ∧ gm_X f σ' ∧ gt_fr gs_dml σ σ' ∧ gm_Z (gn_rem σ) σ' ∧ (∃ r, gr_E b r 0 κ σ') ∧ (σ' 236 4 = 0 → gn_rem σ' < gn_rem σ)) 61 [.inr 1891, .inr w, .inr 7] [] σ1 := by
    intro σ1 W1 X1 F1 Z1 hE1 hL hM
    refine gh_lload_n (show gh_at (gm_me 202).1 61 = some (61, 1, .lload_n 1, 0, 0, []) from rfl) rfl h5 ?_
    refine gh_ldc2 (show gh_at (gm_me 202).1 62 = some (62, 3, .ldc2_w 161, 3554809715621, 0, [(0, 1655)]) from rfl) ?_
    refine gh_lcmp (show gh_at (gm_me 202).1 65 = some (65, 1, .lcmp, 0, 0, []) from rfl) h5 (by decide) (fun z _ _ hz => ?_)
    have hz : z = 0 ↔ w = 3554809715621 := hz
    refine gh_if (show gh_at (gm_me 202).1 66 = some (66, 3, .ifCond .ne (7), 0, 73, []) from rfl) (fun _ => ?_) (fun hq => ?_)
    · exact l73 σ1 W1 X1 F1 Z1 hE1 hM
    · have hw : w = 3554809715621 := hz.mp (Decidable.not_not.mp hq)
      obtain ⟨r1, E1⟩ := hE1
      have e33 := E1.1
      have ht := (gh_tv (gh_Wg W1 239 (1 - b) (t := 73786976312018075706) (by show ¬ 100 = 999; decide) (by show 1 - b < 2; omega) (by rcases (show b = 0 ∨ b = 1 by omega) with q | q <;> subst q <;> rfl) (by decide))).2
      have hn := hL hw
      refine gh_aload_n (show gh_at (gm_me 202).1 69 = some (69, 1, .aload_n 0, 0, 0, []) from rfl) rfl rfl ?_
      refine gh_callV (r := 1891) (as := []) (t := []) (show gh_at (gm_me 202).1 70 = some (70, 3, .invokevirtual 280, 204, 0, [(0, 1706)]) from rfl) (by decide) rfl (by show 1 = _; decide +kernel) (Nat.le_trans (gh_wd _) (Nat.le_of_ble_eq_true rfl)) rfl (by decide +kernel) (by decide +kernel) (gp_call_le (by show 6 ≤ 7; decide) (cn_64 (m := gn_rem σ - 1) hb hf [.inr 1891] σ1 W1 Z1 (fun p hp => by
        have hp : p ∈ [(236, 33, gs_lt (1 - b)), (239, 1 - b, 73786976312018075698)] := hp
        rcases List.mem_cons.mp hp with rfl | hp
        · exact gm_rbq hb e33
        · obtain rfl := List.mem_singleton.mp hp
          exact gm_ivq (z := σ1 239 (1 - b)) (t := 73786976312018075698) (by decide) (by omega) (by omega)) ⟨Or.inr (Or.inl ⟨rfl, rfl⟩), trivial⟩)) gh_mono (fun v σ2 hv => ?_)
      rw [show gm_rc 204 = 0 by decide +kernel]
      obtain ⟨W2, Z2, F2, -⟩ := hv
      have F3 : gt_fr (gs_tf ++ [(239, 0), (239, 1), (240, 0), (240, 1), (242, 1048576), (243, 1048576), (244, 1048576), (245, 1048576), (246, 1048576), (247, 1048576), (248, 1048576), (249, 1048576), (250, 1048576), (251, 1048576), (254, 1048576)]) σ1 σ2 := gh_ft gh_f0 F2 (by show gb_sbm (gs_tf ++ [(239, 0), (239, 1), (240, 0), (240, 1), (242, 1048576), (243, 1048576), (244, 1048576), (245, 1048576), (246, 1048576), (247, 1048576), (248, 1048576), (249, 1048576), (250, 1048576), (251, 1048576), (254, 1048576)]) [(236, 4), (236, 5), (236, 6), (236, 7), (236, 8), (236, 9), (236, 10), (239, 0), (239, 1), (248, 1048576), (249, 1048576), (254, 1048576)] = true; decide +kernel)
      have X2 : gm_X f σ2 := gm_Xe X1 (fun j => F3 255 j rfl) (fun j => F3 252 j rfl) (fun j => F3 253 j rfl) (fun j => F3 264 j rfl) (fun j => F3 277 j rfl) (fun j => F3 278 j rfl) (F3 236 46 rfl) (F3 236 47 rfl)
      have E2 : gr_E b r1 0 κ σ2 := gr_Ee E1 (F3 236 33 rfl) (F3 236 34 rfl) (fun j => F3 255 j rfl) (fun j => F3 241 j rfl)
      exact l73 σ2 W2 X2 (gh_ft F1 F3 (by decide +kernel)) Z2 ⟨r1, E2⟩ (fun q => absurd (hw.symm.trans q) (by decide))
  have l57 : σ 236 8 = 3 → (w = 3554809715621 → ¬ σ 239 (1 - b) = 7) → (w = 13743401765 → ¬ σ 240 (1 - b) = 10) → ∀ (σ1 : gp_S), gt_W (gs_wm b f) σ1 → gt_fr [(247, 1048576)] σ σ1 → gp_ok gs_sh (gp_call gs_sh 7) 0 (gm_me 202).1 (fun _ σ' => gt_W (gs_wm b f) σ' ∧ gm_X f σ' ∧ gt_fr gs_dml σ σ' ∧ gm_Z (gn_rem σ) σ' ∧ (∃ r, gr_E b r 0 κ σ') ∧ (σ' 236 4 = 0 → gn_rem σ' < gn_rem σ)) 57 [.inr 1891, .inr w, .inr 7] [] σ1 := by
    intro htok hG hH σ1 W1 F1
    have Z1 : gm_Z (gn_rem σ) σ1 := gm_Zn (F1 236 3 rfl) (F1 236 7 rfl) (F1 236 8 rfl) ⟨hZ.1, hZ.2.1, Int.le_refl _⟩
    have R1 : gn_rem σ1 = gn_rem σ := gn_reme (F1 236 3 rfl) (F1 236 7 rfl) (F1 236 8 rfl)
    refine gh_aload_n (show gh_at (gm_me 202).1 57 = some (57, 1, .aload_n 0, 0, 0, []) from rfl) rfl rfl ?_
    refine gh_callV (r := 1891) (as := []) (t := []) (show gh_at (gm_me 202).1 58 = some (58, 3, .invokevirtual 237, 179, 0, [(0, 1641)]) from rfl) (by decide) rfl (by show 1 = _; decide +kernel) (Nat.le_trans (gh_wd _) (Nat.le_of_ble_eq_true rfl)) rfl (by decide +kernel) (by decide +kernel) (gp_call_le (by show 3 ≤ 7; decide) (gz_goOn hb hf W1 Z1.1)) gh_mono (fun v σ2 hv => ?_)
    rw [show gm_rc 179 = 0 by decide +kernel]
    obtain ⟨W2, F2, h2, h3⟩ := hv
    have hs := gn_step Z1 F2 h2 h3
    have R2 := hs.2 (by rw [F1 236 8 rfl]; omega)
    have Z2 := hs.1
    rw [R1] at R2
    have G2 : gt_fr ((247, 1048576) :: gs_tok) σ σ2 := gh_ft (gh_ft gh_f0 F1 (by decide +kernel)) F2 (by decide +kernel)
    have X1 := hX
    exact l61 σ2 W2 (gm_Xe X1 (fun j => G2 255 j rfl) (fun j => G2 252 j rfl) (fun j => G2 253 j rfl) (fun j => G2 264 j rfl) (fun j => G2 277 j rfl) (fun j => G2 278 j rfl) (G2 236 46 rfl) (G2 236 47 rfl)) (gh_ft gh_f0 G2 (by decide +kernel)) ⟨Z2.1, Z2.2.1, by omega⟩ ⟨r, gr_Ee hE (G2 236 33 rfl) (G2 236 34 rfl) (fun j => G2 255 j rfl) (fun j => G2 241 j rfl)⟩ (fun q => by rw [G2 239 _ rfl]; exact hG q) (fun q => by rw [G2 240 _ rfl]; exact hH q)
  have lbad : ∀ (σ1 : gp_S), gt_W (gs_wm b f) σ1 → gt_fr gs_ff σ σ1 → ¬ σ1 236 4 = 0 → gp_ok gs_sh (gp_call gs_sh 7) 0 (gm_me 202).1 (fun _ σ' => gt_W (gs_wm b f) σ' ∧ gm_X f σ' ∧ gt_fr gs_dml σ σ' ∧ gm_Z (gn_rem σ) σ' ∧ (∃ r, gr_E b r 0 κ σ') ∧ (σ' 236 4 = 0 → gn_rem σ' < gn_rem σ)) 24 [.inr 1891, .inr w, .inr 7] [] σ1 := by
    intro σ1 W1 F1 hbad
    refine gh_aload_n (show gh_at (gm_me 202).1 24 = some (24, 1, .aload_n 0, 0, 0, []) from rfl) rfl rfl ?_
    refine gh_callV (r := 1891) (as := []) (t := []) (show gh_at (gm_me 202).1 25 = some (25, 3, .invokevirtual 233, 88, 0, [(0, 1678)]) from rfl) (by decide) rfl (by show 1 = _; decide +kernel) (Nat.le_trans (gh_wd _) (Nat.le_of_ble_eq_true rfl)) rfl (by decide +kernel) (by decide +kernel) (Ψ := fun v σ9 => σ9 = σ1 ∧ ((v = .inl 1 ∧ σ1 236 4 = 0) ∨ (v = .inl 0 ∧ ¬ σ1 236 4 = 0))) (gz_good (d := 6) (fun q => ⟨rfl, Or.inl ⟨rfl, q⟩⟩) (fun q => ⟨rfl, Or.inr ⟨rfl, q⟩⟩)) gh_mono (fun v σ9 hv => ?_)
    rw [show gm_rc 88 = 2 by decide +kernel]
    obtain ⟨e9, hv⟩ := hv
    rw [e9]
    rcases hv with ⟨rfl, hg⟩ | ⟨rfl, hg⟩
    · refine gh_if (show gh_at (gm_me 202).1 28 = some (28, 3, .ifCond .ne (4), 0, 32, []) from rfl) (fun _ => ?_) (fun q => absurd (show ¬ (1 : Int) = 0 by decide) q)
      exact absurd hg hbad
    · refine gh_if (show gh_at (gm_me 202).1 28 = some (28, 3, .ifCond .ne (4), 0, 32, []) from rfl) (fun q => absurd rfl q) (fun _ => ?_)
      refine gh_ret (show gh_at (gm_me 202).1 31 = some (31, 1, .return_, 0, 0, []) from rfl) rfl ?_
      have X1 := hX
      exact ⟨W1, gm_Xe X1 (fun j => F1 255 j rfl) (fun j => F1 252 j rfl) (fun j => F1 253 j rfl) (fun j => F1 264 j rfl) (fun j => F1 277 j rfl) (fun j => F1 278 j rfl) (F1 236 46 rfl) (F1 236 47 rfl), gh_ft gh_f0 F1 (by decide +kernel), gm_Zn (F1 236 3 rfl) (F1 236 7 rfl) (F1 236 8 rfl) ⟨hZ.1, hZ.2.1, Int.le_refl _⟩, ⟨r, gr_Ee hE (F1 236 33 rfl) (F1 236 34 rfl) (fun j => F1 255 j rfl) (fun j => F1 241 j rfl)⟩, fun q => absurd q hbad⟩
  have lwell : σ 236 8 = 3 → (w = 3554809715621 → ¬ σ 239 (1 - b) = 7) → (w = 13743401765 → ¬ σ 240 (1 - b) = 10) → gp_ok gs_sh (gp_call gs_sh 7) 0 (gm_me 202).1 (fun _ σ' => gt_W (gs_wm b f) σ' ∧ gm_X f σ' ∧ gt_fr gs_dml σ σ' ∧ gm_Z (gn_rem σ) σ' ∧ (∃ r, gr_E b r 0 κ σ') ∧ (σ' 236 4 = 0 → gn_rem σ' < gn_rem σ)) 24 [.inr 1891, .inr w, .inr 7] [] σ := by
    intro htok hG hH
    refine gh_aload_n (show gh_at (gm_me 202).1 24 = some (24, 1, .aload_n 0, 0, 0, []) from rfl) rfl rfl ?_
    refine gh_callV (r := 1891) (as := []) (t := []) (show gh_at (gm_me 202).1 25 = some (25, 3, .invokevirtual 233, 88, 0, [(0, 1678)]) from rfl) (by decide) rfl (by show 1 = _; decide +kernel) (Nat.le_trans (gh_wd _) (Nat.le_of_ble_eq_true rfl)) rfl (by decide +kernel) (by decide +kernel) (Ψ := fun v σ9 => σ9 = σ ∧ ((v = .inl 1 ∧ σ 236 4 = 0) ∨ (v = .inl 0 ∧ ¬ σ 236 4 = 0))) (gz_good (d := 6) (fun q => ⟨rfl, Or.inl ⟨rfl, q⟩⟩) (fun q => ⟨rfl, Or.inr ⟨rfl, q⟩⟩)) gh_mono (fun v σ9 hv => ?_)
    rw [show gm_rc 88 = 2 by decide +kernel]
    obtain ⟨e9, hv⟩ := hv
    rw [e9]
    rcases hv with ⟨rfl, hg⟩ | ⟨rfl, hg⟩
    · refine gh_if (show gh_at (gm_me 202).1 28 = some (28, 3, .ifCond .ne (4), 0, 32, []) from rfl) (fun _ => ?_) (fun q => absurd (show ¬ (1 : Int) = 0 by decide) q)
      refine gh_aload_n (show gh_at (gm_me 202).1 32 = some (32, 1, .aload_n 0, 0, 0, []) from rfl) rfl rfl ?_
      refine gh_callV (r := 1891) (as := []) (t := []) (show gh_at (gm_me 202).1 33 = some (33, 3, .invokevirtual 269, 200, 0, [(0, 1694)]) from rfl) (by decide) rfl (by show 1 = _; decide +kernel) (Nat.le_trans (gh_wd _) (Nat.le_of_ble_eq_true rfl)) rfl (by decide +kernel) (by decide +kernel) (gp_call_le (by show 2 ≤ 7; decide) (cn_66 (m := m) hb hf [.inr 1891] σ hW hZ (fun p hp => by cases hp) ⟨Or.inr (Or.inl ⟨rfl, rfl⟩), trivial⟩)) gh_mono (fun v σ9 hv => ?_)
      obtain ⟨-, -, F9, hr⟩ := hv
      have e9 := gh_fr0 F9
      obtain ⟨z, rfl, hz1, hz2, hz3⟩ := gh_tvi (t := 73786976277658337322) (by decide) (hr.resolve_left (by show ¬ gm_rc 200 = 0; decide +kernel))
      rw [e9, show gm_rc 200 = 1 by decide +kernel]
      clear hr F9 e9
      show gp_ok _ _ _ _ _ _ _ (.inl z :: _) _
      refine gh_if (show gh_at (gm_me 202).1 36 = some (36, 3, .ifCond .lt (21), 0, 57, []) from rfl) (fun _ => ?_) (fun _ => ?_)
      · exact l57 htok hG hH σ hW gh_f0
      · refine gh_aload_n (show gh_at (gm_me 202).1 39 = some (39, 1, .aload_n 0, 0, 0, []) from rfl) rfl rfl ?_
        refine gh_get (show gh_at (gm_me 202).1 40 = some (40, 3, .getfield 45, 1, 19, [(0, 1460)]) from rfl) rfl (by decide +kernel) (by decide +kernel) (gh_rdr (r := 1979) (by decide +kernel) rfl) ?_
        refine gh_aload_n (show gh_at (gm_me 202).1 43 = some (43, 1, .aload_n 0, 0, 0, []) from rfl) rfl rfl ?_
        refine gh_get (show gh_at (gm_me 202).1 44 = some (44, 3, .getfield 254, 1, 33, [(0, 1474)]) from rfl) rfl (by decide +kernel) (by decide +kernel) (gh_rd0 (by decide +kernel)) ?_
        rw [show σ (1891 / 8) 33 = ((1 - b : Nat) : Int) from hE.1]
        refine gh_dup2 (show gh_at (gm_me 202).1 47 = some (47, 1, .dup2, 0, 0, []) from rfl) rfl rfl ?_
        refine gh_iald (show gh_at (gm_me 202).1 48 = some (48, 1, .iaload, 0, 0, []) from rfl) rfl (by decide +kernel) (by decide +kernel) (gh_ix (N := 2) (by decide +kernel) (by omega) (by omega)) (gh_rd0 (gh_pk0 (by decide +kernel) _)) ?_
        rw [show (((1 - b : Nat) : Int)).toNat = 1 - b by omega]
        show gp_ok _ _ _ _ _ _ _ (.inl (σ 247 (1 - b)) :: _) _
        refine gh_iconst (x := 1) (show gh_at (gm_me 202).1 49 = some (49, 1, .iconst 1, 8, 0, []) from rfl) (by decide) ?_
        refine gh_aload_n (show gh_at (gm_me 202).1 50 = some (50, 1, .aload_n 0, 0, 0, []) from rfl) rfl rfl ?_
        refine gh_callV (r := 1891) (as := []) (t := [.inl 1, .inl (σ 247 (1 - b)), .inl ((1 - b : Nat) : Int), .inr 1979]) (show gh_at (gm_me 202).1 51 = some (51, 3, .invokevirtual 269, 200, 0, [(0, 1694)]) from rfl) (by decide) rfl (by show 1 = _; decide +kernel) (Nat.le_trans (gh_wd _) (Nat.le_of_ble_eq_true rfl)) rfl (by decide +kernel) (by decide +kernel) (gp_call_le (by show 2 ≤ 7; decide) (cn_66 (m := m) hb hf [.inr 1891] σ hW hZ (fun p hp => by cases hp) ⟨Or.inr (Or.inl ⟨rfl, rfl⟩), trivial⟩)) gh_mono (fun v σ9 hv => ?_)
        obtain ⟨-, -, F9, hr⟩ := hv
        have e9 := gh_fr0 F9
        obtain ⟨z, rfl, hz1, hz2, hz3⟩ := gh_tvi (t := 73786976277658337322) (by decide) (hr.resolve_left (by show ¬ gm_rc 200 = 0; decide +kernel))
        rw [e9, show gm_rc 200 = 1 by decide +kernel]
        clear hr F9 e9
        show gp_ok _ _ _ _ _ _ _ (.inl z :: _) _
        refine gh_ishl (z := gp_b2 (fun x y => x <<< (y &&& 31)) 1 z) (show gh_at (gm_me 202).1 54 = some (54, 1, .ishl, 0, 0, []) from rfl) (rfl) ?_
        refine gh_ior (z := gp_b2 (fun x y => x ||| y) (σ 247 (1 - b)) (gp_b2 (fun x y => x <<< (y &&& 31)) 1 z)) (show gh_at (gm_me 202).1 55 = some (55, 1, .ior, 0, 0, []) from rfl) (rfl) ?_
        refine gh_iast (show gh_at (gm_me 202).1 56 = some (56, 1, .iastore, 0, 0, []) from rfl) rfl (by decide +kernel) (by decide +kernel) (gh_ix (N := 2) (by decide +kernel) (by omega) (by omega)) (gh_pk0 (by decide +kernel) _) ?_
        rw [show (((1 - b : Nat) : Int)).toNat = 1 - b by omega]
        show gp_ok _ _ _ _ _ _ _ [] (gp_up σ 247 (1 - b) (gp_b2 (fun x y => x ||| y) (σ 247 (1 - b)) (gp_b2 (fun x y => x <<< (y &&& 31)) 1 z)))
        exact l57 htok hG hH (gp_up σ 247 (1 - b) (gp_b2 (fun x y => x ||| y) (σ 247 (1 - b)) (gp_b2 (fun x y => x <<< (y &&& 31)) 1 z))) (gh_Wu hW (c := 247) (j := 1 - b) (x := gp_b2 (fun x y => x ||| y) (σ 247 (1 - b)) (gp_b2 (fun x y => x <<< (y &&& 31)) 1 z)) (fun _ => gh_any (gh_b2_r _ _ _))) (gh_fu gh_f0 (gb_mo_mem _ (by decide)))
    · refine gh_if (show gh_at (gm_me 202).1 28 = some (28, 3, .ifCond .ne (4), 0, 32, []) from rfl) (fun q => absurd rfl q) (fun _ => ?_)
      have W1 := hW
      have F1 : gt_fr gs_ff σ σ := gh_f0
      refine gh_ret (show gh_at (gm_me 202).1 31 = some (31, 1, .return_, 0, 0, []) from rfl) rfl ?_
      have X1 := hX
      exact ⟨W1, gm_Xe X1 (fun j => F1 255 j rfl) (fun j => F1 252 j rfl) (fun j => F1 253 j rfl) (fun j => F1 264 j rfl) (fun j => F1 277 j rfl) (fun j => F1 278 j rfl) (F1 236 46 rfl) (F1 236 47 rfl), gh_ft gh_f0 F1 (by decide +kernel), gm_Zn (F1 236 3 rfl) (F1 236 7 rfl) (F1 236 8 rfl) ⟨hZ.1, hZ.2.1, Int.le_refl _⟩, ⟨r, gr_Ee hE (F1 236 33 rfl) (F1 236 34 rfl) (fun j => F1 255 j rfl) (fun j => F1 241 j rfl)⟩, fun q => absurd q hg⟩
  refine gh_aload_n (show gh_at (gm_me 202).1 0 = some (0, 1, .aload_n 0, 0, 0, []) from rfl) rfl rfl ?_
  refine gh_get (show gh_at (gm_me 202).1 1 = some (1, 3, .getfield 212, 1, 10, [(0, 1451)]) from rfl) rfl (by decide +kernel) (by decide +kernel) (gh_rdl (by decide +kernel)) ?_
  rw [show 8 * (σ (1891 / 8) 10).toNat + 5 = w from ew]
  refine gh_lstore_n (show gh_at (gm_me 202).1 4 = some (4, 1, .lstore_n 1, 0, 0, []) from rfl) h5 (fun c q => by cases q <;> decide) rfl ?_
  refine gh_aload_n (show gh_at (gm_me 202).1 5 = some (5, 1, .aload_n 0, 0, 0, []) from rfl) rfl rfl ?_
  refine gh_get (show gh_at (gm_me 202).1 6 = some (6, 3, .getfield 205, 1, 8, [(0, 1449)]) from rfl) rfl (by decide +kernel) (by decide +kernel) (gh_rd0 (by decide +kernel)) ?_
  show gp_ok _ _ _ _ _ _ _ (.inl (σ 236 8) :: _) _
  refine gh_iconst (x := 3) (show gh_at (gm_me 202).1 9 = some (9, 1, .iconst 3, 24, 0, []) from rfl) (by decide) ?_
  refine gh_icmp (show gh_at (gm_me 202).1 10 = some (10, 3, .if_icmp .ne (10), 0, 20, []) from rfl) (fun _ => ?_) (fun ht => ?_)
  · refine gh_aload_n (show gh_at (gm_me 202).1 20 = some (20, 1, .aload_n 0, 0, 0, []) from rfl) rfl rfl ?_
    refine gh_callV (r := 1891) (as := []) (t := []) (show gh_at (gm_me 202).1 21 = some (21, 3, .invokevirtual 240, 196, 0, [(0, 1698)]) from rfl) (by decide) rfl (by show 1 = _; decide +kernel) (Nat.le_trans (gh_wd _) (Nat.le_of_ble_eq_true rfl)) rfl (by decide +kernel) (by decide +kernel) (gz_mis (d := 5) hW) gh_mono (fun v σ1 hv => ?_)
    rw [show gm_rc 196 = 0 by decide +kernel]
    obtain ⟨W1, F1, hbad⟩ := hv
    exact lbad σ1 W1 F1 hbad
  · have ht : σ 236 8 = 3 := Decidable.not_not.mp ht
    refine gh_aload_n (show gh_at (gm_me 202).1 13 = some (13, 1, .aload_n 0, 0, 0, []) from rfl) rfl rfl ?_
    refine gh_callV (r := 1891) (as := []) (t := []) (show gh_at (gm_me 202).1 14 = some (14, 3, .invokevirtual 277, 201, 0, [(0, 1686)]) from rfl) (by decide) rfl (by show 1 = _; decide +kernel) (Nat.le_trans (gh_wd _) (Nat.le_of_ble_eq_true rfl)) rfl (by decide +kernel) (by decide +kernel) (Ψ := fun v σ9 => σ9 = σ ∧ (v = .inl 1 ∨ (v = .inl 0 ∧ ((¬ (σ 236 8 = 3 ∧ (σ 236 10).toNat = 3554809715621 / 8) ∨ ¬ σ 239 (1 - b) = 7) ∧ (¬ (σ 236 8 = 3 ∧ (σ 236 10).toNat = 13743401765 / 8) ∨ ¬ σ 240 (1 - b) = 10))))) (gp_call_le (by show 4 ≤ 7; decide) (gz_full hb hf hW hZ hE.1 ⟨rfl, Or.inl rfl⟩ (fun q => ⟨rfl, Or.inr ⟨rfl, q⟩⟩))) gh_mono (fun v σ9 hv => ?_)
    rw [show gm_rc 201 = 2 by decide +kernel]
    obtain ⟨e9, hv⟩ := hv
    rw [e9]
    rcases hv with rfl | ⟨rfl, hq1, hq2⟩
    · refine gh_if (show gh_at (gm_me 202).1 17 = some (17, 3, .ifCond .eq (7), 0, 24, []) from rfl) (fun q => absurd (show (1 : Int) = 0 from q) (by decide)) (fun _ => ?_)
      refine gh_aload_n (show gh_at (gm_me 202).1 20 = some (20, 1, .aload_n 0, 0, 0, []) from rfl) rfl rfl ?_
      refine gh_callV (r := 1891) (as := []) (t := []) (show gh_at (gm_me 202).1 21 = some (21, 3, .invokevirtual 240, 196, 0, [(0, 1698)]) from rfl) (by decide) rfl (by show 1 = _; decide +kernel) (Nat.le_trans (gh_wd _) (Nat.le_of_ble_eq_true rfl)) rfl (by decide +kernel) (by decide +kernel) (gz_mis (d := 5) hW) gh_mono (fun v σ1 hv => ?_)
      rw [show gm_rc 196 = 0 by decide +kernel]
      obtain ⟨W1, F1, hbad⟩ := hv
      exact lbad σ1 W1 F1 hbad
    · refine gh_if (show gh_at (gm_me 202).1 17 = some (17, 3, .ifCond .eq (7), 0, 24, []) from rfl) (fun _ => ?_) (fun q => absurd rfl q)
      exact lwell ht (fun q => hq1.resolve_left (fun h => h ⟨ht, by omega⟩)) (fun q => hq2.resolve_left (fun h => h ⟨ht, by omega⟩))
