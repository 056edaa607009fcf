/-! soonest, warmest, peace -/
def gs_eml : List (Nat × Nat) := [(261, 1048576), (266, 1048576), (267, 1048576), (259, 1048576), (262, 1048576), (236, 51), (265, 1048576)]
theorem gz_soonest {b f : Nat} {σ : gp_S} (hb : b < 2) (hW : gt_W (gs_wm b f) σ) (hY : gm_Y f σ) : gp_call gs_sh 12 149 [.inr 1891] σ (fun v σ' => gt_W (gs_wm b f) σ' ∧ gm_Y f σ' ∧ gt_fr gs_eml σ σ' ∧ gt_tv 34359738362 v) := by
  refine gh_call (al := [.inr 1891, .inr 7]) (by decide +kernel) (by show 1 = _; decide +kernel) (by rw [show (gm_me 149).2.1 = 1 by decide +kernel]; rfl) (by show 2 = _; decide +kernel) ?_
  rw [show gm_rc 149 = 1 by decide +kernel]
  have hf := hY.1
  refine gh_aload_n (show gh_at (gm_me 149).1 0 = some (0, 1, .aload_n 0, 0, 0, []) from rfl) rfl rfl ?_
  refine gh_iconst (x := 0) (show gh_at (gm_me 149).1 1 = some (1, 1, .iconst 0, 0, 0, []) from rfl) (by decide) ?_
  refine gh_put (show gh_at (gm_me 149).1 2 = some (2, 3, .putfield 389, 1, 51, [(0, 1492)]) from rfl) rfl (by decide +kernel) (by decide +kernel) (by decide +kernel) (Or.inl rfl) ?_
  show gp_ok _ _ _ _ _ _ _ [] (gp_up σ 236 51 0)
  have W2 : gt_W (gs_wm b f) (gp_up σ 236 51 0) := gh_Wu hW (c := 236) (j := 51) (x := 0) (fun _ => show gt_tv 73786976312018075706 (.inl 0) from gh_mk (by decide) (by unfold gh_r; omega) (by omega) (by omega))
  have F2 : gt_fr gs_eml σ (gp_up σ 236 51 0) := gh_fu gh_f0 (by decide +kernel)
  have Y2 : gm_Y f (gp_up σ 236 51 0) := ⟨hf, gm_Xu hY.2.1 rfl, gv_q_eq (fun j _ => gh_up_ne (fun q => absurd q.1 (by decide))) hY.2.2⟩
  generalize (gp_up σ 236 51 0) = σ2 at W2 Y2 F2 ⊢
  refine gh_aload_n (show gh_at (gm_me 149).1 5 = some (5, 1, .aload_n 0, 0, 0, []) from rfl) rfl rfl ?_
  refine gh_callV (r := 1891) (as := []) (t := []) (show gh_at (gm_me 149).1 6 = some (6, 3, .invokevirtual 358, 2, 0, [(0, 1422)]) from rfl) (by decide) rfl (by show 1 = _; decide +kernel) (Nat.le_trans (gh_wd _) (Nat.le_of_ble_eq_true rfl)) rfl (by decide +kernel) (by decide +kernel) (Ψ := fun v σ9 => σ9 = σ2 ∧ ((v = .inl 1 ∧ σ2 260 24 < 0) ∨ (v = .inl 0 ∧ 0 ≤ σ2 260 24))) (gz_over (d := 10) (fun q => ⟨rfl, Or.inl ⟨rfl, q⟩⟩) (fun q => ⟨rfl, Or.inr ⟨rfl, q⟩⟩)) gh_mono (fun v σ9 hv => ?_)
  rw [show gm_rc 2 = 2 by decide +kernel]
  obtain ⟨e9, hv⟩ := hv
  rw [e9]
  rcases hv with ⟨rfl, ho⟩ | ⟨rfl, ho⟩
  · refine gh_if (show gh_at (gm_me 149).1 9 = some (9, 3, .ifCond .eq (5), 0, 14, []) from rfl) (fun q => absurd (show (1 : Int) = 0 from q) (by decide)) (fun _ => ?_)
    refine gh_iconst (x := 0) (show gh_at (gm_me 149).1 12 = some (12, 1, .iconst 0, 0, 0, []) from rfl) (by decide) ?_
    refine gh_iret (show gh_at (gm_me 149).1 13 = some (13, 1, .ireturn, 0, 0, []) from rfl) ?_
    exact Or.inl ⟨rfl, W2, Y2, F2, gh_any (by unfold gh_r; omega)⟩
  · refine gh_if (show gh_at (gm_me 149).1 9 = some (9, 3, .ifCond .eq (5), 0, 14, []) from rfl) (fun _ => ?_) (fun q => absurd rfl q)
    refine gh_aload_n (show gh_at (gm_me 149).1 14 = some (14, 1, .aload_n 0, 0, 0, []) from rfl) rfl rfl ?_
    refine gh_iconst (x := 0) (show gh_at (gm_me 149).1 15 = some (15, 1, .iconst 0, 0, 0, []) from rfl) (by decide) ?_
    refine gh_callV (r := 1891) (as := [.inl 0]) (t := []) (show gh_at (gm_me 149).1 16 = some (16, 3, .invokevirtual 474, 238, 0, [(0, 1951)]) from rfl) (by decide) rfl (by show 2 = _; decide +kernel) (Nat.le_trans (gh_wd _) (Nat.le_of_ble_eq_true rfl)) rfl (by decide +kernel) (by decide +kernel) (gz_bestOf hb W2 Y2 (by omega) ho) gh_mono (fun v σ3 hv => ?_)
    rw [show gm_rc 238 = 1 by decide +kernel]
    obtain ⟨W3, Y3, F3, r, rfl, hr⟩ := hv
    show gp_ok _ _ _ _ _ _ _ [.inl r] σ3
    have G3 : gt_fr gs_eml σ σ3 := gh_ft F2 F3 (by decide +kernel)
    refine gh_ineg (z := gp_b1 (fun x => -x) r) (show gh_at (gm_me 149).1 19 = some (19, 1, .ineg, 0, 0, []) from rfl) (rfl) ?_
    refine gh_istore_n (show gh_at (gm_me 149).1 20 = some (20, 1, .istore_n 1, 0, 0, []) from rfl) (fun c q => by cases q <;> decide) rfl ?_
    refine gh_aload_n (show gh_at (gm_me 149).1 21 = some (21, 1, .aload_n 0, 0, 0, []) from rfl) rfl rfl ?_
    have a3 : σ3 260 24 = σ2 260 24 := F3 260 24 rfl
    have ht := (gh_tv (gh_Wg W3 260 24 (t := 8 * (2147483647 * 4294967296 + (2147483647 + f)) + 2) (by show ¬ 100 = 999; decide) (by show 24 < 29; decide) rfl (by omega))).2
    refine gh_callV (r := 1891) (as := []) (t := []) (show gh_at (gm_me 149).1 22 = some (22, 3, .invokevirtual 477, 239, 0, [(0, 1988)]) from rfl) (by decide) rfl (by show 1 = _; decide +kernel) (Nat.le_trans (gh_wd _) (Nat.le_of_ble_eq_true rfl)) rfl (by decide +kernel) (by decide +kernel) (gp_call_le (by show 3 ≤ 11; decide) (cn_59 hb hf (by omega) [.inr 1891] σ3 W3 Y3.2.1 (fun p hp => by obtain rfl := List.mem_singleton.mp hp; exact gs_atq (A := (σ3 260 24).toNat) (by omega) (by omega) hf) ⟨Or.inr (Or.inl ⟨rfl, rfl⟩), trivial⟩)) gh_mono (fun v σ4 hv => ?_)
    rw [show gm_rc 239 = 0 by decide +kernel]
    obtain ⟨W4, X4, F4, -⟩ := hv
    show gp_ok _ _ _ _ _ _ _ [] σ4
    have G4 : gt_fr gs_eml σ σ4 := gh_ft G3 F4 (by show gb_sbm gs_eml [(236, 51), (265, 1048576)] = true; decide +kernel)
    refine gh_iload_n (show gh_at (gm_me 149).1 25 = some (25, 1, .iload_n 1, 0, 0, []) from rfl) rfl ?_
    refine gh_iret (show gh_at (gm_me 149).1 26 = some (26, 1, .ireturn, 0, 0, []) from rfl) ?_
    exact Or.inl ⟨rfl, W4, ⟨hf, X4, gv_q_eq (fun j _ => F4 260 j rfl) Y3.2.2⟩, G4, gh_any (gh_b1_r _ _)⟩
theorem gz_warmest {b f : Nat} {σ : gp_S} (hb : b < 2) (hW : gt_W (gs_wm b f) σ) (hY : gm_Y f σ) : gp_call gs_sh 12 147 [.inr 1891] σ (fun v σ' => gt_W (gs_wm b f) σ' ∧ gm_Y f σ' ∧ gt_fr gs_eml σ σ' ∧ gt_tv 34359738362 v) := by
  refine gh_call (al := [.inr 1891, .inr 7]) (by decide +kernel) (by show 1 = _; decide +kernel) (by rw [show (gm_me 147).2.1 = 1 by decide +kernel]; rfl) (by show 2 = _; decide +kernel) ?_
  rw [show gm_rc 147 = 1 by decide +kernel]
  have hf := hY.1
  refine gh_aload_n (show gh_at (gm_me 147).1 0 = some (0, 1, .aload_n 0, 0, 0, []) from rfl) rfl rfl ?_
  refine gh_iconst (x := 0) (show gh_at (gm_me 147).1 1 = some (1, 1, .iconst 0, 0, 0, []) from rfl) (by decide) ?_
  refine gh_put (show gh_at (gm_me 147).1 2 = some (2, 3, .putfield 389, 1, 51, [(0, 1492)]) from rfl) rfl (by decide +kernel) (by decide +kernel) (by decide +kernel) (Or.inl rfl) ?_
  show gp_ok _ _ _ _ _ _ _ [] (gp_up σ 236 51 0)
  have W2 : gt_W (gs_wm b f) (gp_up σ 236 51 0) := gh_Wu hW (c := 236) (j := 51) (x := 0) (fun _ => show gt_tv 73786976312018075706 (.inl 0) from gh_mk (by decide) (by unfold gh_r; omega) (by omega) (by omega))
  have F2 : gt_fr gs_eml σ (gp_up σ 236 51 0) := gh_fu gh_f0 (by decide +kernel)
  have Y2 : gm_Y f (gp_up σ 236 51 0) := ⟨hf, gm_Xu hY.2.1 rfl, gv_q_eq (fun j _ => gh_up_ne (fun q => absurd q.1 (by decide))) hY.2.2⟩
  generalize (gp_up σ 236 51 0) = σ2 at W2 Y2 F2 ⊢
  refine gh_aload_n (show gh_at (gm_me 147).1 5 = some (5, 1, .aload_n 0, 0, 0, []) from rfl) rfl rfl ?_
  refine gh_callV (r := 1891) (as := []) (t := []) (show gh_at (gm_me 147).1 6 = some (6, 3, .invokevirtual 358, 2, 0, [(0, 1422)]) from rfl) (by decide) rfl (by show 1 = _; decide +kernel) (Nat.le_trans (gh_wd _) (Nat.le_of_ble_eq_true rfl)) rfl (by decide +kernel) (by decide +kernel) (Ψ := fun v σ9 => σ9 = σ2 ∧ ((v = .inl 1 ∧ σ2 260 24 < 0) ∨ (v = .inl 0 ∧ 0 ≤ σ2 260 24))) (gz_over (d := 10) (fun q => ⟨rfl, Or.inl ⟨rfl, q⟩⟩) (fun q => ⟨rfl, Or.inr ⟨rfl, q⟩⟩)) gh_mono (fun v σ9 hv => ?_)
  rw [show gm_rc 2 = 2 by decide +kernel]
  obtain ⟨e9, hv⟩ := hv
  rw [e9]
  rcases hv with ⟨rfl, ho⟩ | ⟨rfl, ho⟩
  · refine gh_if (show gh_at (gm_me 147).1 9 = some (9, 3, .ifCond .eq (11), 0, 20, []) from rfl) (fun q => absurd (show (1 : Int) = 0 from q) (by decide)) (fun _ => ?_)
    refine gh_aload_n (show gh_at (gm_me 147).1 12 = some (12, 1, .aload_n 0, 0, 0, []) from rfl) rfl rfl ?_
    refine gh_get (show gh_at (gm_me 147).1 13 = some (13, 3, .getfield 85, 1, 38, [(0, 1479)]) from rfl) rfl (by decide +kernel) (by decide +kernel) (gh_rdr (r := 2083) (by decide +kernel) rfl) ?_
    refine gh_bipush (x := 23) (show gh_at (gm_me 147).1 16 = some (16, 2, .bipush (23), 184, 0, []) from rfl) (by decide) ?_
    refine gh_iald (show gh_at (gm_me 147).1 18 = some (18, 1, .iaload, 0, 0, []) from rfl) rfl (by decide +kernel) (by decide +kernel) (gh_ix (N := 29) (by decide +kernel) (by decide) (by decide)) (gh_rd0 (gh_pk0 (by decide +kernel) _)) ?_
    show gp_ok _ _ _ _ _ _ _ [.inl (σ2 260 23)] _
    refine gh_iret (show gh_at (gm_me 147).1 19 = some (19, 1, .ireturn, 0, 0, []) from rfl) ?_
    exact Or.inl ⟨rfl, W2, Y2, F2, gh_any (gm_allr W2 (by decide))⟩
  · refine gh_if (show gh_at (gm_me 147).1 9 = some (9, 3, .ifCond .eq (11), 0, 20, []) from rfl) (fun _ => ?_) (fun q => absurd rfl q)
    refine gh_aload_n (show gh_at (gm_me 147).1 20 = some (20, 1, .aload_n 0, 0, 0, []) from rfl) rfl rfl ?_
    refine gh_iconst (x := 1) (show gh_at (gm_me 147).1 21 = some (21, 1, .iconst 1, 8, 0, []) from rfl) (by decide) ?_
    refine gh_callV (r := 1891) (as := [.inl 1]) (t := []) (show gh_at (gm_me 147).1 22 = some (22, 3, .invokevirtual 474, 238, 0, [(0, 1951)]) from rfl) (by decide) rfl (by show 2 = _; decide +kernel) (Nat.le_trans (gh_wd _) (Nat.le_of_ble_eq_true rfl)) rfl (by decide +kernel) (by decide +kernel) (gz_bestOf hb W2 Y2 (by omega) ho) gh_mono (fun v σ3 hv => ?_)
    rw [show gm_rc 238 = 1 by decide +kernel]
    obtain ⟨W3, Y3, F3, r, rfl, hr⟩ := hv
    show gp_ok _ _ _ _ _ _ _ [.inl r] σ3
    have G3 : gt_fr gs_eml σ σ3 := gh_ft F2 F3 (by decide +kernel)
    refine gh_istore_n (show gh_at (gm_me 147).1 25 = some (25, 1, .istore_n 1, 0, 0, []) from rfl) (fun c q => by cases q <;> decide) rfl ?_
    refine gh_aload_n (show gh_at (gm_me 147).1 26 = some (26, 1, .aload_n 0, 0, 0, []) from rfl) rfl rfl ?_
    have a3 : σ3 260 24 = σ2 260 24 := F3 260 24 rfl
    have ht := (gh_tv (gh_Wg W3 260 24 (t := 8 * (2147483647 * 4294967296 + (2147483647 + f)) + 2) (by show ¬ 100 = 999; decide) (by show 24 < 29; decide) rfl (by omega))).2
    refine gh_callV (r := 1891) (as := []) (t := []) (show gh_at (gm_me 147).1 27 = some (27, 3, .invokevirtual 477, 239, 0, [(0, 1988)]) from rfl) (by decide) rfl (by show 1 = _; decide +kernel) (Nat.le_trans (gh_wd _) (Nat.le_of_ble_eq_true rfl)) rfl (by decide +kernel) (by decide +kernel) (gp_call_le (by show 3 ≤ 11; decide) (cn_59 hb hf (by omega) [.inr 1891] σ3 W3 Y3.2.1 (fun p hp => by obtain rfl := List.mem_singleton.mp hp; exact gs_atq (A := (σ3 260 24).toNat) (by omega) (by omega) hf) ⟨Or.inr (Or.inl ⟨rfl, rfl⟩), trivial⟩)) gh_mono (fun v σ4 hv => ?_)
    rw [show gm_rc 239 = 0 by decide +kernel]
    obtain ⟨W4, X4, F4, -⟩ := hv
    show gp_ok _ _ _ _ _ _ _ [] σ4
    have G4 : gt_fr gs_eml σ σ4 := gh_ft G3 F4 (by show gb_sbm gs_eml [(236, 51), (265, 1048576)] = true; decide +kernel)
    refine gh_iload_n (show gh_at (gm_me 147).1 30 = some (30, 1, .iload_n 1, 0, 0, []) from rfl) rfl ?_
    refine gh_iret (show gh_at (gm_me 147).1 31 = some (31, 1, .ireturn, 0, 0, []) from rfl) ?_
    exact Or.inl ⟨rfl, W4, ⟨hf, X4, gv_q_eq (fun j _ => F4 260 j rfl) Y3.2.2⟩, G4, gh_any hr⟩
theorem gz_peace {b f : Nat} {σ : gp_S} (hb : b < 2) (hW : gt_W (gs_wm b f) σ) (hY : gm_Y f σ) : gp_call gs_sh 12 145 [.inr 1891] σ (fun v σ' => gt_W (gs_wm b f) σ' ∧ gm_Y f σ' ∧ gt_fr gs_eml σ σ' ∧ gt_tv 34359738362 v) := by
  refine gh_call (al := [.inr 1891]) (by decide +kernel) (by show 1 = _; decide +kernel) (by rw [show (gm_me 145).2.1 = 0 by decide +kernel]; rfl) (by show 1 = _; decide +kernel) ?_
  rw [show gm_rc 145 = 1 by decide +kernel]
  have hf := hY.1
  refine gh_aload_n (show gh_at (gm_me 145).1 0 = some (0, 1, .aload_n 0, 0, 0, []) from rfl) rfl rfl ?_
  refine gh_callV (r := 1891) (as := []) (t := []) (show gh_at (gm_me 145).1 1 = some (1, 3, .invokevirtual 358, 2, 0, [(0, 1422)]) from rfl) (by decide) rfl (by show 1 = _; decide +kernel) (Nat.le_trans (gh_wd _) (Nat.le_of_ble_eq_true rfl)) rfl (by decide +kernel) (by decide +kernel) (Ψ := fun v σ9 => σ9 = σ ∧ ((v = .inl 1 ∧ σ 260 24 < 0) ∨ (v = .inl 0 ∧ 0 ≤ σ 260 24))) (gz_over (d := 10) (fun q => ⟨rfl, Or.inl ⟨rfl, q⟩⟩) (fun q => ⟨rfl, Or.inr ⟨rfl, q⟩⟩)) gh_mono (fun v σ9 hv => ?_)
  rw [show gm_rc 2 = 2 by decide +kernel]
  obtain ⟨e9, hv⟩ := hv
  rw [e9]
  rcases hv with ⟨rfl, ho⟩ | ⟨rfl, ho⟩
  · refine gh_if (show gh_at (gm_me 145).1 4 = some (4, 3, .ifCond .eq (7), 0, 11, []) from rfl) (fun q => absurd (show (1 : Int) = 0 from q) (by decide)) (fun _ => ?_)
    refine gh_iconst (x := 0) (show gh_at (gm_me 145).1 7 = some (7, 1, .iconst 0, 0, 0, []) from rfl) (by decide) ?_
    refine gh_goto (show gh_at (gm_me 145).1 8 = some (8, 3, .goto (9), 0, 17, []) from rfl) ?_
    refine gh_iret (show gh_at (gm_me 145).1 17 = some (17, 1, .ireturn, 0, 0, []) from rfl) ?_
    exact Or.inl ⟨rfl, hW, hY, gh_f0, gh_any (by unfold gh_r; omega)⟩
  · refine gh_if (show gh_at (gm_me 145).1 4 = some (4, 3, .ifCond .eq (7), 0, 11, []) from rfl) (fun _ => ?_) (fun q => absurd rfl q)
    refine gh_aload_n (show gh_at (gm_me 145).1 11 = some (11, 1, .aload_n 0, 0, 0, []) from rfl) rfl rfl ?_
    refine gh_iconst (x := 2) (show gh_at (gm_me 145).1 12 = some (12, 1, .iconst 2, 16, 0, []) from rfl) (by decide) ?_
    refine gh_callV (r := 1891) (as := [.inl 2]) (t := []) (show gh_at (gm_me 145).1 13 = some (13, 3, .invokevirtual 474, 238, 0, [(0, 1951)]) from rfl) (by decide) rfl (by show 2 = _; decide +kernel) (Nat.le_trans (gh_wd _) (Nat.le_of_ble_eq_true rfl)) rfl (by decide +kernel) (by decide +kernel) (gz_bestOf hb hW hY (by omega) ho) gh_mono (fun v σ3 hv => ?_)
    rw [show gm_rc 238 = 1 by decide +kernel]
    obtain ⟨W3, Y3, F3, r, rfl, hr⟩ := hv
    show gp_ok _ _ _ _ _ _ _ [.inl r] σ3
    have G3 : gt_fr gs_eml σ σ3 := gh_ft gh_f0 F3 (by decide +kernel)
    refine gh_ineg (z := gp_b1 (fun x => -x) r) (show gh_at (gm_me 145).1 16 = some (16, 1, .ineg, 0, 0, []) from rfl) (rfl) ?_
    refine gh_iret (show gh_at (gm_me 145).1 17 = some (17, 1, .ireturn, 0, 0, []) from rfl) ?_
    exact Or.inl ⟨rfl, W3, Y3, G3, gh_any (gh_b1_r _ _)⟩
