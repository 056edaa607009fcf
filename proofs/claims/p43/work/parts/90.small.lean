/-! isGood, misplaced, isWord and others -/
def gs_ff : List (Nat × Nat) := [(236, 4), (236, 5)]
theorem gz_good {d : Nat} {σ : gp_S} {Φ : gp_F} (h1 : σ 236 4 = 0 → Φ (.inl 1) σ) (h0 : ¬ σ 236 4 = 0 → Φ (.inl 0) σ) : gp_call gs_sh (d + 1) 88 [.inr 1891] σ Φ := by
  refine gh_call (al := [.inr 1891]) (by decide +kernel) (by show 1 = _; decide +kernel) (by rw [show (gm_me 88).2.1 = 0 by decide +kernel]; rfl) (by show 1 = _; decide +kernel) ?_
  rw [show gm_rc 88 = 2 by decide +kernel]
  refine gh_aload_n (show gh_at (gm_me 88).1 0 = some (0, 1, .aload_n 0, 0, 0, []) from rfl) rfl rfl ?_
  refine gh_get (show gh_at (gm_me 88).1 1 = some (1, 3, .getfield 158, 1, 4, [(0, 1445)]) from rfl) rfl (by decide +kernel) (by decide +kernel) (gh_rd0 (by decide +kernel)) ?_
  show gp_ok _ _ _ _ _ _ _ (.inl (σ 236 4) :: _) _
  refine gh_if (show gh_at (gm_me 88).1 4 = some (4, 3, .ifCond .ne (7), 0, 11, []) from rfl) (fun hc => ?_) (fun hc => ?_)
  · refine gh_iconst (x := 0) (show gh_at (gm_me 88).1 11 = some (11, 1, .iconst 0, 0, 0, []) from rfl) (by decide) ?_
    refine gh_iret (show gh_at (gm_me 88).1 12 = some (12, 1, .ireturn, 0, 0, []) from rfl) ?_
    exact Or.inr ⟨rfl, Or.inl rfl, h0 hc⟩
  · refine gh_iconst (x := 1) (show gh_at (gm_me 88).1 7 = some (7, 1, .iconst 1, 8, 0, []) from rfl) (by decide) ?_
    refine gh_goto (show gh_at (gm_me 88).1 8 = some (8, 3, .goto (4), 0, 12, []) from rfl) ?_
    refine gh_iret (show gh_at (gm_me 88).1 12 = some (12, 1, .ireturn, 0, 0, []) from rfl) ?_
    exact Or.inr ⟨rfl, Or.inr rfl, h1 (Decidable.not_not.mp hc)⟩
theorem gz_fails {b f d : Nat} {σ : gp_S} {x y : Int} (hW : gt_W (gs_wm b f) σ) (hx : 0 < x ∧ x < 10) (hy : gh_r y) : gp_call gs_sh (d + 1) 191 [.inr 1891, .inl x, .inl y] σ (fun _ σ' => gt_W (gs_wm b f) σ' ∧ gt_fr gs_ff σ σ' ∧ ¬ σ' 236 4 = 0) := by
  refine gh_call (al := [.inr 1891, .inl x, .inl y]) (by decide +kernel) (by show 3 = _; decide +kernel) (by rw [show (gm_me 191).2.1 = 0 by decide +kernel]; rfl) (by show 3 = _; decide +kernel) ?_
  rw [show gm_rc 191 = 0 by decide +kernel]
  refine gh_aload_n (show gh_at (gm_me 191).1 0 = some (0, 1, .aload_n 0, 0, 0, []) from rfl) rfl rfl ?_
  refine gh_get (show gh_at (gm_me 191).1 1 = some (1, 3, .getfield 158, 1, 4, [(0, 1445)]) from rfl) rfl (by decide +kernel) (by decide +kernel) (gh_rd0 (by decide +kernel)) ?_
  show gp_ok _ _ _ _ _ _ _ (.inl (σ 236 4) :: _) _
  refine gh_if (show gh_at (gm_me 191).1 4 = some (4, 3, .ifCond .le (4), 0, 8, []) from rfl) (fun hc => ?_) (fun hc => ?_)
  · refine gh_aload_n (show gh_at (gm_me 191).1 8 = some (8, 1, .aload_n 0, 0, 0, []) from rfl) rfl rfl ?_
    refine gh_iload_n (show gh_at (gm_me 191).1 9 = some (9, 1, .iload_n 1, 0, 0, []) from rfl) rfl ?_
    refine gh_put (show gh_at (gm_me 191).1 10 = some (10, 3, .putfield 158, 1, 4, [(0, 1445)]) from rfl) rfl (by decide +kernel) (by decide +kernel) (by decide +kernel) (Or.inl rfl) ?_
    show gp_ok _ _ _ _ _ _ _ _ (gp_up σ 236 4 x)
    have W_37 : gt_W (gs_wm b f) (gp_up σ 236 4 x) := gh_Wu hW (c := 236) (j := 4) (x := x) (fun _ => gh_any (by unfold gh_r; omega))
    have F_37 : gt_fr gs_ff σ (gp_up σ 236 4 x) := gh_fu (gh_f0 (ml := gs_ff)) (by decide +kernel)
    have q_37 : (gp_up σ 236 4 x) 236 4 = x := gh_up_eq _ _ _ _
    generalize (gp_up σ 236 4 x) = σ_37 at W_37 F_37 q_37 ⊢
    refine gh_aload_n (show gh_at (gm_me 191).1 13 = some (13, 1, .aload_n 0, 0, 0, []) from rfl) rfl rfl ?_
    refine gh_iload_n (show gh_at (gm_me 191).1 14 = some (14, 1, .iload_n 2, 0, 0, []) from rfl) rfl ?_
    refine gh_put (show gh_at (gm_me 191).1 15 = some (15, 3, .putfield 16, 1, 5, [(0, 1446)]) from rfl) rfl (by decide +kernel) (by decide +kernel) (by decide +kernel) (Or.inl rfl) ?_
    show gp_ok _ _ _ _ _ _ _ _ (gp_up σ_37 236 5 y)
    have W_38 : gt_W (gs_wm b f) (gp_up σ_37 236 5 y) := gh_Wu W_37 (c := 236) (j := 5) (x := y) (fun _ => gh_any hy)
    have F_38 : gt_fr gs_ff σ (gp_up σ_37 236 5 y) := gh_fu F_37 (by decide +kernel)
    have q_38_0 : (gp_up σ_37 236 5 y) 236 4 = x := (gh_up_ne (by decide)).trans q_37
    have q_38 : (gp_up σ_37 236 5 y) 236 5 = y := gh_up_eq _ _ _ _
    generalize (gp_up σ_37 236 5 y) = σ_38 at W_38 F_38 q_38_0 q_38 ⊢
    refine gh_ret (show gh_at (gm_me 191).1 18 = some (18, 1, .return_, 0, 0, []) from rfl) rfl ?_
    exact ⟨W_38, F_38, by rw [q_38_0]; omega⟩
  · have hc : ¬ σ 236 4 ≤ 0 := hc
    refine gh_ret (show gh_at (gm_me 191).1 7 = some (7, 1, .return_, 0, 0, []) from rfl) rfl ?_
    exact ⟨hW, gh_f0, by omega⟩
theorem gz_mis {b f d : Nat} {σ : gp_S} (hW : gt_W (gs_wm b f) σ) : gp_call gs_sh (d + 2) 196 [.inr 1891] σ (fun _ σ' => gt_W (gs_wm b f) σ' ∧ gt_fr gs_ff σ σ' ∧ ¬ σ' 236 4 = 0) := by
  refine gh_call (al := [.inr 1891]) (by decide +kernel) (by show 1 = _; decide +kernel) (by rw [show (gm_me 196).2.1 = 0 by decide +kernel]; rfl) (by show 1 = _; decide +kernel) ?_
  rw [show gm_rc 196 = 0 by decide +kernel]
  have ha := gm_atr hW
  refine gh_aload_n (show gh_at (gm_me 196).1 0 = some (0, 1, .aload_n 0, 0, 0, []) from rfl) rfl rfl ?_
  refine gh_aload_n (show gh_at (gm_me 196).1 1 = some (1, 1, .aload_n 0, 0, 0, []) from rfl) rfl rfl ?_
  refine gh_get (show gh_at (gm_me 196).1 2 = some (2, 3, .getfield 205, 1, 8, [(0, 1449)]) from rfl) rfl (by decide +kernel) (by decide +kernel) (gh_rd0 (by decide +kernel)) ?_
  show gp_ok _ _ _ _ _ _ _ (.inl (σ 236 8) :: _) _
  refine gh_iconst (x := 1) (show gh_at (gm_me 196).1 5 = some (5, 1, .iconst 1, 8, 0, []) from rfl) (by decide) ?_
  refine gh_icmp (show gh_at (gm_me 196).1 6 = some (6, 3, .if_icmp .ne (7), 0, 13, []) from rfl) (fun hc => ?_) (fun hc => ?_)
  · refine gh_iconst (x := 2) (show gh_at (gm_me 196).1 13 = some (13, 1, .iconst 2, 16, 0, []) from rfl) (by decide) ?_
    refine gh_aload_n (show gh_at (gm_me 196).1 14 = some (14, 1, .aload_n 0, 0, 0, []) from rfl) rfl rfl ?_
    refine gh_get (show gh_at (gm_me 196).1 15 = some (15, 3, .getfield 198, 1, 6, [(0, 1447)]) from rfl) rfl (by decide +kernel) (by decide +kernel) (gh_rd0 (by decide +kernel)) ?_
    show gp_ok _ _ _ _ _ _ _ (.inl (σ 236 6) :: _) _
    refine gh_callV (r := 1891) (as := [.inl 2, .inl (σ 236 6)]) (t := []) (show gh_at (gm_me 196).1 18 = some (18, 3, .invokevirtual 229, 191, 0, [(0, 1702)]) from rfl) (by decide) rfl (by show 3 = _; decide +kernel) (Nat.le_trans (gh_wd _) (Nat.le_of_ble_eq_true rfl)) rfl (by decide +kernel) (by decide +kernel) (gz_fails (d := d) hW (by omega) (by unfold gh_r; omega)) gh_mono (fun v σ9 hv => ?_)
    rw [show gm_rc 191 = 0 by decide +kernel]
    show gp_ok _ _ _ _ _ _ _ [] _
    refine gh_ret (show gh_at (gm_me 196).1 21 = some (21, 1, .return_, 0, 0, []) from rfl) rfl ?_
    exact hv
  · refine gh_iconst (x := 1) (show gh_at (gm_me 196).1 9 = some (9, 1, .iconst 1, 8, 0, []) from rfl) (by decide) ?_
    refine gh_goto (show gh_at (gm_me 196).1 10 = some (10, 3, .goto (4), 0, 14, []) from rfl) ?_
    refine gh_aload_n (show gh_at (gm_me 196).1 14 = some (14, 1, .aload_n 0, 0, 0, []) from rfl) rfl rfl ?_
    refine gh_get (show gh_at (gm_me 196).1 15 = some (15, 3, .getfield 198, 1, 6, [(0, 1447)]) from rfl) rfl (by decide +kernel) (by decide +kernel) (gh_rd0 (by decide +kernel)) ?_
    show gp_ok _ _ _ _ _ _ _ (.inl (σ 236 6) :: _) _
    refine gh_callV (r := 1891) (as := [.inl 1, .inl (σ 236 6)]) (t := []) (show gh_at (gm_me 196).1 18 = some (18, 3, .invokevirtual 229, 191, 0, [(0, 1702)]) from rfl) (by decide) rfl (by show 3 = _; decide +kernel) (Nat.le_trans (gh_wd _) (Nat.le_of_ble_eq_true rfl)) rfl (by decide +kernel) (by decide +kernel) (gz_fails (d := d) hW (by omega) (by unfold gh_r; omega)) gh_mono (fun v σ9 hv => ?_)
    rw [show gm_rc 191 = 0 by decide +kernel]
    show gp_ok _ _ _ _ _ _ _ [] _
    refine gh_ret (show gh_at (gm_me 196).1 21 = some (21, 1, .return_, 0, 0, []) from rfl) rfl ?_
    exact hv
def gs_tf : List (Nat × Nat) := gs_ff ++ gs_tok
theorem gz_must {b f : Nat} {m : Int} {σ : gp_S} {x : Int} (hb : b < 2) (hf : f < 8) (hW : gt_W (gs_wm b f) σ) (hZ : gm_Z m σ) (hx : x = 0 ∨ (x = 1 ∧ ¬ σ 236 8 = 0)) : gp_call gs_sh 4 197 [.inr 1891, .inl x] σ (fun _ σ' => gt_W (gs_wm b f) σ' ∧ gt_fr gs_tf σ σ' ∧ gm_Z (gn_rem σ) σ' ∧ (σ' 236 4 = 0 → gn_rem σ' < gn_rem σ)) := by
  refine gh_call (al := [.inr 1891, .inl x]) (by decide +kernel) (by show 2 = _; decide +kernel) (by rw [show (gm_me 197).2.1 = 0 by decide +kernel]; rfl) (by show 2 = _; decide +kernel) ?_
  rw [show gm_rc 197 = 0 by decide +kernel]
  refine gh_aload_n (show gh_at (gm_me 197).1 0 = some (0, 1, .aload_n 0, 0, 0, []) from rfl) rfl rfl ?_
  refine gh_callV (r := 1891) (as := []) (t := []) (show gh_at (gm_me 197).1 1 = some (1, 3, .invokevirtual 233, 88, 0, [(0, 1678)]) from rfl) (by decide) rfl (by show 1 = _; decide +kernel) (Nat.le_trans (gh_wd _) (Nat.le_of_ble_eq_true rfl)) rfl (by decide +kernel) (by decide +kernel) (Ψ := fun v σ9 => σ9 = σ ∧ ((v = .inl 1 ∧ σ 236 4 = 0) ∨ (v = .inl 0 ∧ ¬ σ 236 4 = 0))) (gz_good (d := 2) (fun q => ⟨rfl, Or.inl ⟨rfl, q⟩⟩) (fun q => ⟨rfl, Or.inr ⟨rfl, q⟩⟩)) gh_mono (fun v σ9 hv => ?_)
  rw [show gm_rc 88 = 2 by decide +kernel]
  obtain ⟨e9, hv⟩ := hv
  rw [e9]
  rcases hv with ⟨rfl, hg⟩ | ⟨rfl, hg⟩
  · refine gh_if (show gh_at (gm_me 197).1 4 = some (4, 3, .ifCond .ne (4), 0, 8, []) from rfl) (fun _ => ?_) (fun q => absurd (show ¬ (1 : Int) = 0 by decide) q)
    refine gh_iload_n (show gh_at (gm_me 197).1 8 = some (8, 1, .iload_n 1, 0, 0, []) from rfl) rfl ?_
    refine gh_if (show gh_at (gm_me 197).1 9 = some (9, 3, .ifCond .eq (10), 0, 19, []) from rfl) (fun hc => ?_) (fun hc => ?_)
    · refine gh_aload_n (show gh_at (gm_me 197).1 19 = some (19, 1, .aload_n 0, 0, 0, []) from rfl) rfl rfl ?_
      refine gh_callV (r := 1891) (as := []) (t := []) (show gh_at (gm_me 197).1 20 = some (20, 3, .invokevirtual 240, 196, 0, [(0, 1698)]) from rfl) (by decide) rfl (by show 1 = _; decide +kernel) (Nat.le_trans (gh_wd _) (Nat.le_of_ble_eq_true rfl)) rfl (by decide +kernel) (by decide +kernel) (gz_mis (d := 1) hW) gh_mono (fun v σ9 hv => ?_)
      rw [show gm_rc 196 = 0 by decide +kernel]
      obtain ⟨W2, F2, h2⟩ := hv
      show gp_ok _ _ _ _ _ _ _ [] _
      refine gh_ret (show gh_at (gm_me 197).1 23 = some (23, 1, .return_, 0, 0, []) from rfl) rfl ?_
      exact ⟨W2, gh_ft gh_f0 F2 (by decide +kernel), gm_Zn (F2 236 3 rfl) (F2 236 7 rfl) (F2 236 8 rfl) ⟨hZ.1, hZ.2.1, Int.le_refl _⟩, fun q => absurd q h2⟩
    · have hc : ¬ x = 0 := hc
      have ht := (hx.resolve_left hc).2
      refine gh_aload_n (show gh_at (gm_me 197).1 12 = some (12, 1, .aload_n 0, 0, 0, []) from rfl) rfl rfl ?_
      refine gh_callV (r := 1891) (as := []) (t := []) (show gh_at (gm_me 197).1 13 = some (13, 3, .invokevirtual 237, 179, 0, [(0, 1641)]) from rfl) (by decide) rfl (by show 1 = _; decide +kernel) (Nat.le_trans (gh_wd _) (Nat.le_of_ble_eq_true rfl)) rfl (by decide +kernel) (by decide +kernel) (gz_goOn hb hf hW hZ.1) gh_mono (fun v σ9 hv => ?_)
      rw [show gm_rc 179 = 0 by decide +kernel]
      obtain ⟨W2, F2, h2, h3⟩ := hv
      show gp_ok _ _ _ _ _ _ _ [] _
      have hs := gn_step hZ F2 h2 h3
      refine gh_goto (show gh_at (gm_me 197).1 16 = some (16, 3, .goto (7), 0, 23, []) from rfl) ?_
      refine gh_ret (show gh_at (gm_me 197).1 23 = some (23, 1, .return_, 0, 0, []) from rfl) rfl ?_
      exact ⟨W2, gh_ft gh_f0 F2 (by decide +kernel), hs.1, fun _ => hs.2 ht⟩
  · refine gh_if (show gh_at (gm_me 197).1 4 = some (4, 3, .ifCond .ne (4), 0, 8, []) from rfl) (fun q => absurd rfl q) (fun _ => ?_)
    refine gh_ret (show gh_at (gm_me 197).1 7 = some (7, 1, .return_, 0, 0, []) from rfl) rfl ?_
    exact ⟨hW, gh_f0, gm_Zle ⟨hZ.1, hZ.2.1, Int.le_refl _⟩ (Int.le_refl _), fun q => absurd q hg⟩
theorem gz_sgh {b f d : Nat} {σ : gp_S} {c : Int} {Φ : gp_F} (hW : gt_W (gs_wm b f) σ) (h1 : σ 236 8 = 5 → gn_sg σ (σ 236 6) = c → Φ (.inl 1) σ) (h0 : Φ (.inl 0) σ) : gp_call gs_sh (d + 2) 194 [.inr 1891, .inl c] σ Φ := by
  refine gh_call (al := [.inr 1891, .inl c]) (by decide +kernel) (by show 2 = _; decide +kernel) (by rw [show (gm_me 194).2.1 = 0 by decide +kernel]; rfl) (by show 2 = _; decide +kernel) ?_
  rw [show gm_rc 194 = 2 by decide +kernel]
  have ha := gm_atr hW
  refine gh_aload_n (show gh_at (gm_me 194).1 0 = some (0, 1, .aload_n 0, 0, 0, []) from rfl) rfl rfl ?_
  refine gh_get (show gh_at (gm_me 194).1 1 = some (1, 3, .getfield 205, 1, 8, [(0, 1449)]) from rfl) rfl (by decide +kernel) (by decide +kernel) (gh_rd0 (by decide +kernel)) ?_
  show gp_ok _ _ _ _ _ _ _ (.inl (σ 236 8) :: _) _
  refine gh_iconst (x := 5) (show gh_at (gm_me 194).1 4 = some (4, 1, .iconst 5, 40, 0, []) from rfl) (by decide) ?_
  refine gh_icmp (show gh_at (gm_me 194).1 5 = some (5, 3, .if_icmp .ne (19), 0, 24, []) from rfl) (fun hc => ?_) (fun hc => ?_)
  · refine gh_iconst (x := 0) (show gh_at (gm_me 194).1 24 = some (24, 1, .iconst 0, 0, 0, []) from rfl) (by decide) ?_
    refine gh_iret (show gh_at (gm_me 194).1 25 = some (25, 1, .ireturn, 0, 0, []) from rfl) ?_
    exact Or.inr ⟨rfl, Or.inl rfl, h0⟩
  · have hc : σ 236 8 = 5 := Decidable.not_not.mp hc
    refine gh_aload_n (show gh_at (gm_me 194).1 8 = some (8, 1, .aload_n 0, 0, 0, []) from rfl) rfl rfl ?_
    refine gh_aload_n (show gh_at (gm_me 194).1 9 = some (9, 1, .aload_n 0, 0, 0, []) from rfl) rfl rfl ?_
    refine gh_get (show gh_at (gm_me 194).1 10 = some (10, 3, .getfield 198, 1, 6, [(0, 1447)]) from rfl) rfl (by decide +kernel) (by decide +kernel) (gh_rd0 (by decide +kernel)) ?_
    show gp_ok _ _ _ _ _ _ _ (.inl (σ 236 6) :: _) _
    refine gh_callV (r := 1891) (as := [.inl (σ 236 6)]) (t := []) (show gh_at (gm_me 194).1 13 = some (13, 3, .invokevirtual 201, 180, 0, [(0, 1645)]) from rfl) (by decide) rfl (by show 2 = _; decide +kernel) (Nat.le_trans (gh_wd _) (Nat.le_of_ble_eq_true rfl)) rfl (by decide +kernel) (by decide +kernel) (Ψ := fun v σ9 => σ9 = σ ∧ v = .inl (gn_sg σ (σ 236 6))) (gz_sign (d := d) hW ha.1 ⟨rfl, rfl⟩) gh_mono (fun v σ9 hv => ?_)
    rw [show gm_rc 180 = 1 by decide +kernel]
    obtain ⟨e9, rfl⟩ := hv
    rw [e9]
    show gp_ok _ _ _ _ _ _ _ [.inl (gn_sg σ (σ 236 6))] _
    refine gh_iload_n (show gh_at (gm_me 194).1 16 = some (16, 1, .iload_n 1, 0, 0, []) from rfl) rfl ?_
    refine gh_icmp (show gh_at (gm_me 194).1 17 = some (17, 3, .if_icmp .ne (7), 0, 24, []) from rfl) (fun hd => ?_) (fun hd => ?_)
    · refine gh_iconst (x := 0) (show gh_at (gm_me 194).1 24 = some (24, 1, .iconst 0, 0, 0, []) from rfl) (by decide) ?_
      refine gh_iret (show gh_at (gm_me 194).1 25 = some (25, 1, .ireturn, 0, 0, []) from rfl) ?_
      exact Or.inr ⟨rfl, Or.inl rfl, h0⟩
    · refine gh_iconst (x := 1) (show gh_at (gm_me 194).1 20 = some (20, 1, .iconst 1, 8, 0, []) from rfl) (by decide) ?_
      refine gh_goto (show gh_at (gm_me 194).1 21 = some (21, 3, .goto (4), 0, 25, []) from rfl) ?_
      refine gh_iret (show gh_at (gm_me 194).1 25 = some (25, 1, .ireturn, 0, 0, []) from rfl) ?_
      exact Or.inr ⟨rfl, Or.inr rfl, h1 hc (Decidable.not_not.mp hd)⟩
theorem gz_isw {d : Nat} {σ : gp_S} {c : Nat} {Φ : gp_F} (h5 : c % 8 = 5) (h1 : σ 236 8 = 3 → (σ 236 10).toNat = c / 8 → Φ (.inl 1) σ) (h0 : ¬ (σ 236 8 = 3 ∧ (σ 236 10).toNat = c / 8) → Φ (.inl 0) σ) : gp_call gs_sh (d + 1) 195 [.inr 1891, .inr c] σ Φ := by
  refine gh_call (al := [.inr 1891, .inr c, .inr 7]) (by decide +kernel) (by show 2 = _; decide +kernel) (by rw [show (gm_me 195).2.1 = 0 by decide +kernel]; show gp_ly [.inr 1891, .inr c] _ = _; unfold gp_ly; rw [if_neg (by decide)]; unfold gp_ly; rw [if_pos (gp_lng_of h5)]; rfl) (by show 3 = _; decide +kernel) ?_
  rw [show gm_rc 195 = 2 by decide +kernel]
  refine gh_aload_n (show gh_at (gm_me 195).1 0 = some (0, 1, .aload_n 0, 0, 0, []) from rfl) rfl rfl ?_
  refine gh_get (show gh_at (gm_me 195).1 1 = some (1, 3, .getfield 205, 1, 8, [(0, 1449)]) from rfl) rfl (by decide +kernel) (by decide +kernel) (gh_rd0 (by decide +kernel)) ?_
  show gp_ok _ _ _ _ _ _ _ (.inl (σ 236 8) :: _) _
  refine gh_iconst (x := 3) (show gh_at (gm_me 195).1 4 = some (4, 1, .iconst 3, 24, 0, []) from rfl) (by decide) ?_
  refine gh_icmp (show gh_at (gm_me 195).1 5 = some (5, 3, .if_icmp .ne (16), 0, 21, []) from rfl) (fun hc => ?_) (fun hc => ?_)
  · refine gh_iconst (x := 0) (show gh_at (gm_me 195).1 21 = some (21, 1, .iconst 0, 0, 0, []) from rfl) (by decide) ?_
    refine gh_iret (show gh_at (gm_me 195).1 22 = some (22, 1, .ireturn, 0, 0, []) from rfl) ?_
    exact Or.inr ⟨rfl, Or.inl rfl, h0 (fun q => hc q.1)⟩
  · have hc : σ 236 8 = 3 := Decidable.not_not.mp hc
    refine gh_aload_n (show gh_at (gm_me 195).1 8 = some (8, 1, .aload_n 0, 0, 0, []) from rfl) rfl rfl ?_
    refine gh_get (show gh_at (gm_me 195).1 9 = some (9, 3, .getfield 212, 1, 10, [(0, 1451)]) from rfl) rfl (by decide +kernel) (by decide +kernel) (gh_rdl (by decide +kernel)) ?_
    refine gh_lload_n (show gh_at (gm_me 195).1 12 = some (12, 1, .lload_n 1, 0, 0, []) from rfl) rfl h5 ?_
    refine gh_lcmp (show gh_at (gm_me 195).1 13 = some (13, 1, .lcmp, 0, 0, []) from rfl) (by omega) h5 (fun z _ _ hz => ?_)
    have hz : z = 0 ↔ 8 * (σ 236 10).toNat + 5 = c := hz
    refine gh_if (show gh_at (gm_me 195).1 14 = some (14, 3, .ifCond .ne (7), 0, 21, []) from rfl) (fun hd => ?_) (fun hd => ?_)
    · have hd : ¬ z = 0 := hd
      refine gh_iconst (x := 0) (show gh_at (gm_me 195).1 21 = some (21, 1, .iconst 0, 0, 0, []) from rfl) (by decide) ?_
      refine gh_iret (show gh_at (gm_me 195).1 22 = some (22, 1, .ireturn, 0, 0, []) from rfl) ?_
      exact Or.inr ⟨rfl, Or.inl rfl, h0 (fun q => hd (hz.mpr (by omega)))⟩
    · have hd : z = 0 := Decidable.not_not.mp hd
      have he := hz.mp hd
      refine gh_iconst (x := 1) (show gh_at (gm_me 195).1 17 = some (17, 1, .iconst 1, 8, 0, []) from rfl) (by decide) ?_
      refine gh_goto (show gh_at (gm_me 195).1 18 = some (18, 3, .goto (4), 0, 22, []) from rfl) ?_
      refine gh_iret (show gh_at (gm_me 195).1 22 = some (22, 1, .ireturn, 0, 0, []) from rfl) ?_
      exact Or.inr ⟨rfl, Or.inr rfl, h1 hc (by omega)⟩
theorem gz_wrd {d : Nat} {σ : gp_S} {Φ : gp_F} (h : ∀ c : Int, (c = 0 ∨ (97 ≤ c ∧ c ≤ 122 ∧ σ 236 8 = 3)) → Φ (.inl c) σ) : gp_call gs_sh (d + 2) 211 [.inr 1891] σ Φ := by
  refine gh_call (al := [.inr 1891]) (by decide +kernel) (by show 1 = _; decide +kernel) (by rw [show (gm_me 211).2.1 = 0 by decide +kernel]; rfl) (by show 1 = _; decide +kernel) ?_
  rw [show gm_rc 211 = 1 by decide +kernel]
  refine gh_aload_n (show gh_at (gm_me 211).1 0 = some (0, 1, .aload_n 0, 0, 0, []) from rfl) rfl rfl ?_
  refine gh_ldc2 (show gh_at (gm_me 211).1 1 = some (1, 3, .ldc2_w 171, 14011796389, 0, [(0, 1660)]) from rfl) ?_
  refine gh_callV (r := 1891) (as := [.inr 14011796389]) (t := []) (show gh_at (gm_me 211).1 4 = some (4, 3, .invokevirtual 243, 195, 0, [(0, 1690)]) from rfl) (by decide) rfl (by show 2 = _; decide +kernel) (Nat.le_trans (gh_wd _) (Nat.le_of_ble_eq_true rfl)) rfl (by decide +kernel) (by decide +kernel) (Ψ := fun v σ9 => σ9 = σ ∧ ((v = .inl 1 ∧ σ 236 8 = 3 ∧ (σ 236 10).toNat = 14011796389 / 8) ∨ (v = .inl 0 ∧ ¬ (σ 236 8 = 3 ∧ (σ 236 10).toNat = 14011796389 / 8)))) (gz_isw (d := d) (by decide) (fun q w => ⟨rfl, Or.inl ⟨rfl, q, w⟩⟩) (fun q => ⟨rfl, Or.inr ⟨rfl, q⟩⟩)) gh_mono (fun v σ9 hv => ?_)
  obtain ⟨e9, hv⟩ := hv
  rw [e9, show gm_rc 195 = 2 by decide +kernel]
  rcases hv with ⟨rfl, hw, -⟩ | ⟨rfl, -⟩
  · refine gh_if (show gh_at (gm_me 211).1 7 = some (7, 3, .ifCond .eq (6), 0, 13, []) from rfl) (fun q => absurd (show (1 : Int) = 0 from q) (by decide)) (fun _ => ?_)
    refine gh_bipush (x := 104) (show gh_at (gm_me 211).1 10 = some (10, 2, .bipush (104), 832, 0, []) from rfl) (by decide) ?_
    refine gh_iret (show gh_at (gm_me 211).1 12 = some (12, 1, .ireturn, 0, 0, []) from rfl) ?_
    exact Or.inl ⟨rfl, h _ (Or.inr ⟨by omega, by omega, hw⟩)⟩
  · refine gh_if (show gh_at (gm_me 211).1 7 = some (7, 3, .ifCond .eq (6), 0, 13, []) from rfl) (fun _ => ?_) (fun q => absurd rfl q)
    refine gh_aload_n (show gh_at (gm_me 211).1 13 = some (13, 1, .aload_n 0, 0, 0, []) from rfl) rfl rfl ?_
    refine gh_ldc2 (show gh_at (gm_me 211).1 14 = some (14, 3, .ldc2_w 181, 14548677541, 0, [(0, 1665)]) from rfl) ?_
    refine gh_callV (r := 1891) (as := [.inr 14548677541]) (t := []) (show gh_at (gm_me 211).1 17 = some (17, 3, .invokevirtual 243, 195, 0, [(0, 1690)]) from rfl) (by decide) rfl (by show 2 = _; decide +kernel) (Nat.le_trans (gh_wd _) (Nat.le_of_ble_eq_true rfl)) rfl (by decide +kernel) (by decide +kernel) (Ψ := fun v σ9 => σ9 = σ ∧ ((v = .inl 1 ∧ σ 236 8 = 3 ∧ (σ 236 10).toNat = 14548677541 / 8) ∨ (v = .inl 0 ∧ ¬ (σ 236 8 = 3 ∧ (σ 236 10).toNat = 14548677541 / 8)))) (gz_isw (d := d) (by decide) (fun q w => ⟨rfl, Or.inl ⟨rfl, q, w⟩⟩) (fun q => ⟨rfl, Or.inr ⟨rfl, q⟩⟩)) gh_mono (fun v σ9 hv => ?_)
    obtain ⟨e9, hv⟩ := hv
    rw [e9, show gm_rc 195 = 2 by decide +kernel]
    rcases hv with ⟨rfl, hw, -⟩ | ⟨rfl, -⟩
    · refine gh_if (show gh_at (gm_me 211).1 20 = some (20, 3, .ifCond .eq (6), 0, 26, []) from rfl) (fun q => absurd (show (1 : Int) = 0 from q) (by decide)) (fun _ => ?_)
      refine gh_bipush (x := 108) (show gh_at (gm_me 211).1 23 = some (23, 2, .bipush (108), 864, 0, []) from rfl) (by decide) ?_
      refine gh_iret (show gh_at (gm_me 211).1 25 = some (25, 1, .ireturn, 0, 0, []) from rfl) ?_
      exact Or.inl ⟨rfl, h _ (Or.inr ⟨by omega, by omega, hw⟩)⟩
    · refine gh_if (show gh_at (gm_me 211).1 20 = some (20, 3, .ifCond .eq (6), 0, 26, []) from rfl) (fun _ => ?_) (fun q => absurd rfl q)
      refine gh_aload_n (show gh_at (gm_me 211).1 26 = some (26, 1, .aload_n 0, 0, 0, []) from rfl) rfl rfl ?_
      refine gh_ldc2 (show gh_at (gm_me 211).1 27 = some (27, 3, .ldc2_w 183, 962396737479469, 0, [(0, 1666)]) from rfl) ?_
      refine gh_callV (r := 1891) (as := [.inr 962396737479469]) (t := []) (show gh_at (gm_me 211).1 30 = some (30, 3, .invokevirtual 243, 195, 0, [(0, 1690)]) from rfl) (by decide) rfl (by show 2 = _; decide +kernel) (Nat.le_trans (gh_wd _) (Nat.le_of_ble_eq_true rfl)) rfl (by decide +kernel) (by decide +kernel) (Ψ := fun v σ9 => σ9 = σ ∧ ((v = .inl 1 ∧ σ 236 8 = 3 ∧ (σ 236 10).toNat = 962396737479469 / 8) ∨ (v = .inl 0 ∧ ¬ (σ 236 8 = 3 ∧ (σ 236 10).toNat = 962396737479469 / 8)))) (gz_isw (d := d) (by decide) (fun q w => ⟨rfl, Or.inl ⟨rfl, q, w⟩⟩) (fun q => ⟨rfl, Or.inr ⟨rfl, q⟩⟩)) gh_mono (fun v σ9 hv => ?_)
      obtain ⟨e9, hv⟩ := hv
      rw [e9, show gm_rc 195 = 2 by decide +kernel]
      rcases hv with ⟨rfl, hw, -⟩ | ⟨rfl, -⟩
      · refine gh_if (show gh_at (gm_me 211).1 33 = some (33, 3, .ifCond .eq (6), 0, 39, []) from rfl) (fun q => absurd (show (1 : Int) = 0 from q) (by decide)) (fun _ => ?_)
        refine gh_bipush (x := 109) (show gh_at (gm_me 211).1 36 = some (36, 2, .bipush (109), 872, 0, []) from rfl) (by decide) ?_
        refine gh_iret (show gh_at (gm_me 211).1 38 = some (38, 1, .ireturn, 0, 0, []) from rfl) ?_
        exact Or.inl ⟨rfl, h _ (Or.inr ⟨by omega, by omega, hw⟩)⟩
      · refine gh_if (show gh_at (gm_me 211).1 33 = some (33, 3, .ifCond .eq (6), 0, 39, []) from rfl) (fun _ => ?_) (fun q => absurd rfl q)
        refine gh_aload_n (show gh_at (gm_me 211).1 39 = some (39, 1, .aload_n 0, 0, 0, []) from rfl) rfl rfl ?_
        refine gh_ldc2 (show gh_at (gm_me 211).1 40 = some (40, 3, .ldc2_w 185, 15488191397, 0, [(0, 1667)]) from rfl) ?_
        refine gh_callV (r := 1891) (as := [.inr 15488191397]) (t := []) (show gh_at (gm_me 211).1 43 = some (43, 3, .invokevirtual 243, 195, 0, [(0, 1690)]) from rfl) (by decide) rfl (by show 2 = _; decide +kernel) (Nat.le_trans (gh_wd _) (Nat.le_of_ble_eq_true rfl)) rfl (by decide +kernel) (by decide +kernel) (Ψ := fun v σ9 => σ9 = σ ∧ ((v = .inl 1 ∧ σ 236 8 = 3 ∧ (σ 236 10).toNat = 15488191397 / 8) ∨ (v = .inl 0 ∧ ¬ (σ 236 8 = 3 ∧ (σ 236 10).toNat = 15488191397 / 8)))) (gz_isw (d := d) (by decide) (fun q w => ⟨rfl, Or.inl ⟨rfl, q, w⟩⟩) (fun q => ⟨rfl, Or.inr ⟨rfl, q⟩⟩)) gh_mono (fun v σ9 hv => ?_)
        obtain ⟨e9, hv⟩ := hv
        rw [e9, show gm_rc 195 = 2 by decide +kernel]
        rcases hv with ⟨rfl, hw, -⟩ | ⟨rfl, -⟩
        · refine gh_if (show gh_at (gm_me 211).1 46 = some (46, 3, .ifCond .eq (6), 0, 52, []) from rfl) (fun q => absurd (show (1 : Int) = 0 from q) (by decide)) (fun _ => ?_)
          refine gh_bipush (x := 115) (show gh_at (gm_me 211).1 49 = some (49, 2, .bipush (115), 920, 0, []) from rfl) (by decide) ?_
          refine gh_iret (show gh_at (gm_me 211).1 51 = some (51, 1, .ireturn, 0, 0, []) from rfl) ?_
          exact Or.inl ⟨rfl, h _ (Or.inr ⟨by omega, by omega, hw⟩)⟩
        · refine gh_if (show gh_at (gm_me 211).1 46 = some (46, 3, .ifCond .eq (6), 0, 52, []) from rfl) (fun _ => ?_) (fun q => absurd rfl q)
          refine gh_aload_n (show gh_at (gm_me 211).1 52 = some (52, 1, .aload_n 0, 0, 0, []) from rfl) rfl rfl ?_
          refine gh_ldc2 (show gh_at (gm_me 211).1 53 = some (53, 3, .ldc2_w 187, 910031287198621, 0, [(0, 1668)]) from rfl) ?_
          refine gh_callV (r := 1891) (as := [.inr 910031287198621]) (t := []) (show gh_at (gm_me 211).1 56 = some (56, 3, .invokevirtual 243, 195, 0, [(0, 1690)]) from rfl) (by decide) rfl (by show 2 = _; decide +kernel) (Nat.le_trans (gh_wd _) (Nat.le_of_ble_eq_true rfl)) rfl (by decide +kernel) (by decide +kernel) (Ψ := fun v σ9 => σ9 = σ ∧ ((v = .inl 1 ∧ σ 236 8 = 3 ∧ (σ 236 10).toNat = 910031287198621 / 8) ∨ (v = .inl 0 ∧ ¬ (σ 236 8 = 3 ∧ (σ 236 10).toNat = 910031287198621 / 8)))) (gz_isw (d := d) (by decide) (fun q w => ⟨rfl, Or.inl ⟨rfl, q, w⟩⟩) (fun q => ⟨rfl, Or.inr ⟨rfl, q⟩⟩)) gh_mono (fun v σ9 hv => ?_)
          obtain ⟨e9, hv⟩ := hv
          rw [e9, show gm_rc 195 = 2 by decide +kernel]
          rcases hv with ⟨rfl, hw, -⟩ | ⟨rfl, -⟩
          · refine gh_if (show gh_at (gm_me 211).1 59 = some (59, 3, .ifCond .eq (8), 0, 67, []) from rfl) (fun q => absurd (show (1 : Int) = 0 from q) (by decide)) (fun _ => ?_)
            refine gh_bipush (x := 103) (show gh_at (gm_me 211).1 62 = some (62, 2, .bipush (103), 824, 0, []) from rfl) (by decide) ?_
            refine gh_goto (show gh_at (gm_me 211).1 64 = some (64, 3, .goto (4), 0, 68, []) from rfl) ?_
            refine gh_iret (show gh_at (gm_me 211).1 68 = some (68, 1, .ireturn, 0, 0, []) from rfl) ?_
            exact Or.inl ⟨rfl, h _ (Or.inr ⟨by omega, by omega, hw⟩)⟩
          · refine gh_if (show gh_at (gm_me 211).1 59 = some (59, 3, .ifCond .eq (8), 0, 67, []) from rfl) (fun _ => ?_) (fun q => absurd rfl q)
            refine gh_iconst (x := 0) (show gh_at (gm_me 211).1 67 = some (67, 1, .iconst 0, 0, 0, []) from rfl) (by decide) ?_
            refine gh_iret (show gh_at (gm_me 211).1 68 = some (68, 1, .ireturn, 0, 0, []) from rfl) ?_
            exact Or.inl ⟨rfl, h _ (Or.inl rfl)⟩
theorem gz_rank {b f d : Nat} {σ : gp_S} {Φ : gp_F} (hW : gt_W (gs_wm b f) σ) (h : ∀ r : Int, (r = 0 ∨ ((r = 1 ∨ r = 2) ∧ ¬ σ 236 8 = 0) ∨ ((r = 4 ∨ r = 5 ∨ r = 6) ∧ ¬ σ 236 8 = 0 ∧ gr_op (gn_sg σ (σ 236 6)))) → Φ (.inl r) σ) : gp_call gs_sh (d + 3) 213 [.inr 1891] σ Φ := by
  refine gh_call (al := [.inr 1891]) (by decide +kernel) (by show 1 = _; decide +kernel) (by rw [show (gm_me 213).2.1 = 0 by decide +kernel]; rfl) (by show 1 = _; decide +kernel) ?_
  rw [show gm_rc 213 = 1 by decide +kernel]
  refine gh_aload_n (show gh_at (gm_me 213).1 0 = some (0, 1, .aload_n 0, 0, 0, []) from rfl) rfl rfl ?_
  refine gh_ldc2 (show gh_at (gm_me 213).1 1 = some (1, 3, .ldc2_w 191, 51082021, 0, [(0, 1670)]) from rfl) ?_
  refine gh_callV (r := 1891) (as := [.inr 51082021]) (t := []) (show gh_at (gm_me 213).1 4 = some (4, 3, .invokevirtual 243, 195, 0, [(0, 1690)]) from rfl) (by decide) rfl (by show 2 = _; decide +kernel) (Nat.le_trans (gh_wd _) (Nat.le_of_ble_eq_true rfl)) rfl (by decide +kernel) (by decide +kernel) (Ψ := fun v σ9 => σ9 = σ ∧ ((v = .inl 1 ∧ σ 236 8 = 3 ∧ (σ 236 10).toNat = 51082021 / 8) ∨ (v = .inl 0 ∧ ¬ (σ 236 8 = 3 ∧ (σ 236 10).toNat = 51082021 / 8)))) (gz_isw (d := d + 1) (by decide) (fun q w => ⟨rfl, Or.inl ⟨rfl, q, w⟩⟩) (fun q => ⟨rfl, Or.inr ⟨rfl, q⟩⟩)) gh_mono (fun v σ9 hv => ?_)
  obtain ⟨e9, hv⟩ := hv
  rw [e9, show gm_rc 195 = 2 by decide +kernel]
  rcases hv with ⟨rfl, hw, -⟩ | ⟨rfl, -⟩
  · refine gh_if (show gh_at (gm_me 213).1 7 = some (7, 3, .ifCond .eq (5), 0, 12, []) from rfl) (fun q => absurd (show (1 : Int) = 0 from q) (by decide)) (fun _ => ?_)
    refine gh_iconst (x := 2) (show gh_at (gm_me 213).1 10 = some (10, 1, .iconst 2, 16, 0, []) from rfl) (by decide) ?_
    refine gh_iret (show gh_at (gm_me 213).1 11 = some (11, 1, .ireturn, 0, 0, []) from rfl) ?_
    exact Or.inl ⟨rfl, h _ (Or.inr (Or.inl ⟨by omega, by omega⟩))⟩
  · refine gh_if (show gh_at (gm_me 213).1 7 = some (7, 3, .ifCond .eq (5), 0, 12, []) from rfl) (fun _ => ?_) (fun q => absurd rfl q)
    refine gh_aload_n (show gh_at (gm_me 213).1 12 = some (12, 1, .aload_n 0, 0, 0, []) from rfl) rfl rfl ?_
    refine gh_ldc2 (show gh_at (gm_me 213).1 13 = some (13, 3, .ldc2_w 189, 228245, 0, [(0, 1669)]) from rfl) ?_
    refine gh_callV (r := 1891) (as := [.inr 228245]) (t := []) (show gh_at (gm_me 213).1 16 = some (16, 3, .invokevirtual 243, 195, 0, [(0, 1690)]) from rfl) (by decide) rfl (by show 2 = _; decide +kernel) (Nat.le_trans (gh_wd _) (Nat.le_of_ble_eq_true rfl)) rfl (by decide +kernel) (by decide +kernel) (Ψ := fun v σ9 => σ9 = σ ∧ ((v = .inl 1 ∧ σ 236 8 = 3 ∧ (σ 236 10).toNat = 228245 / 8) ∨ (v = .inl 0 ∧ ¬ (σ 236 8 = 3 ∧ (σ 236 10).toNat = 228245 / 8)))) (gz_isw (d := d + 1) (by decide) (fun q w => ⟨rfl, Or.inl ⟨rfl, q, w⟩⟩) (fun q => ⟨rfl, Or.inr ⟨rfl, q⟩⟩)) gh_mono (fun v σ9 hv => ?_)
    obtain ⟨e9, hv⟩ := hv
    rw [e9, show gm_rc 195 = 2 by decide +kernel]
    rcases hv with ⟨rfl, hw, -⟩ | ⟨rfl, -⟩
    · refine gh_if (show gh_at (gm_me 213).1 19 = some (19, 3, .ifCond .eq (5), 0, 24, []) from rfl) (fun q => absurd (show (1 : Int) = 0 from q) (by decide)) (fun _ => ?_)
      refine gh_iconst (x := 1) (show gh_at (gm_me 213).1 22 = some (22, 1, .iconst 1, 8, 0, []) from rfl) (by decide) ?_
      refine gh_iret (show gh_at (gm_me 213).1 23 = some (23, 1, .ireturn, 0, 0, []) from rfl) ?_
      exact Or.inl ⟨rfl, h _ (Or.inr (Or.inl ⟨by omega, by omega⟩))⟩
    · refine gh_if (show gh_at (gm_me 213).1 19 = some (19, 3, .ifCond .eq (5), 0, 24, []) from rfl) (fun _ => ?_) (fun q => absurd rfl q)
      refine gh_aload_n (show gh_at (gm_me 213).1 24 = some (24, 1, .aload_n 0, 0, 0, []) from rfl) rfl rfl ?_
      refine gh_bipush (x := 60) (show gh_at (gm_me 213).1 25 = some (25, 2, .bipush (60), 480, 0, []) from rfl) (by decide) ?_
      refine gh_callV (r := 1891) (as := [.inl 60]) (t := []) (show gh_at (gm_me 213).1 27 = some (27, 3, .invokevirtual 289, 194, 0, [(0, 1750)]) from rfl) (by decide) rfl (by show 2 = _; decide +kernel) (Nat.le_trans (gh_wd _) (Nat.le_of_ble_eq_true rfl)) rfl (by decide +kernel) (by decide +kernel) (Ψ := fun v σ9 => σ9 = σ ∧ ((v = .inl 1 ∧ σ 236 8 = 5 ∧ gn_sg σ (σ 236 6) = 60) ∨ v = .inl 0)) (gz_sgh (d := d) hW (fun q w => ⟨rfl, Or.inl ⟨rfl, q, w⟩⟩) ⟨rfl, Or.inr rfl⟩) gh_mono (fun v σ9 hv => ?_)
      obtain ⟨e9, hv⟩ := hv
      rw [e9, show gm_rc 194 = 2 by decide +kernel]
      rcases hv with ⟨rfl, hw, hs⟩ | rfl
      · refine gh_if (show gh_at (gm_me 213).1 30 = some (30, 3, .ifCond .ne (21), 0, 51, []) from rfl) (fun _ => ?_) (fun q => absurd (show ¬ (1 : Int) = 0 by decide) q)
        refine gh_iconst (x := 4) (show gh_at (gm_me 213).1 51 = some (51, 1, .iconst 4, 32, 0, []) from rfl) (by decide) ?_
        refine gh_iret (show gh_at (gm_me 213).1 52 = some (52, 1, .ireturn, 0, 0, []) from rfl) ?_
        exact Or.inl ⟨rfl, h _ (Or.inr (Or.inr ⟨by omega, by omega, by rw [hs]; unfold gr_op; omega⟩))⟩
      · refine gh_if (show gh_at (gm_me 213).1 30 = some (30, 3, .ifCond .ne (21), 0, 51, []) from rfl) (fun q => absurd rfl q) (fun _ => ?_)
        refine gh_aload_n (show gh_at (gm_me 213).1 33 = some (33, 1, .aload_n 0, 0, 0, []) from rfl) rfl rfl ?_
        refine gh_bipush (x := 62) (show gh_at (gm_me 213).1 34 = some (34, 2, .bipush (62), 496, 0, []) from rfl) (by decide) ?_
        refine gh_callV (r := 1891) (as := [.inl 62]) (t := []) (show gh_at (gm_me 213).1 36 = some (36, 3, .invokevirtual 289, 194, 0, [(0, 1750)]) from rfl) (by decide) rfl (by show 2 = _; decide +kernel) (Nat.le_trans (gh_wd _) (Nat.le_of_ble_eq_true rfl)) rfl (by decide +kernel) (by decide +kernel) (Ψ := fun v σ9 => σ9 = σ ∧ ((v = .inl 1 ∧ σ 236 8 = 5 ∧ gn_sg σ (σ 236 6) = 62) ∨ v = .inl 0)) (gz_sgh (d := d) hW (fun q w => ⟨rfl, Or.inl ⟨rfl, q, w⟩⟩) ⟨rfl, Or.inr rfl⟩) gh_mono (fun v σ9 hv => ?_)
        obtain ⟨e9, hv⟩ := hv
        rw [e9, show gm_rc 194 = 2 by decide +kernel]
        rcases hv with ⟨rfl, hw, hs⟩ | rfl
        · refine gh_if (show gh_at (gm_me 213).1 39 = some (39, 3, .ifCond .ne (12), 0, 51, []) from rfl) (fun _ => ?_) (fun q => absurd (show ¬ (1 : Int) = 0 by decide) q)
          refine gh_iconst (x := 4) (show gh_at (gm_me 213).1 51 = some (51, 1, .iconst 4, 32, 0, []) from rfl) (by decide) ?_
          refine gh_iret (show gh_at (gm_me 213).1 52 = some (52, 1, .ireturn, 0, 0, []) from rfl) ?_
          exact Or.inl ⟨rfl, h _ (Or.inr (Or.inr ⟨by omega, by omega, by rw [hs]; unfold gr_op; omega⟩))⟩
        · refine gh_if (show gh_at (gm_me 213).1 39 = some (39, 3, .ifCond .ne (12), 0, 51, []) from rfl) (fun q => absurd rfl q) (fun _ => ?_)
          refine gh_aload_n (show gh_at (gm_me 213).1 42 = some (42, 1, .aload_n 0, 0, 0, []) from rfl) rfl rfl ?_
          refine gh_bipush (x := 61) (show gh_at (gm_me 213).1 43 = some (43, 2, .bipush (61), 488, 0, []) from rfl) (by decide) ?_
          refine gh_callV (r := 1891) (as := [.inl 61]) (t := []) (show gh_at (gm_me 213).1 45 = some (45, 3, .invokevirtual 289, 194, 0, [(0, 1750)]) from rfl) (by decide) rfl (by show 2 = _; decide +kernel) (Nat.le_trans (gh_wd _) (Nat.le_of_ble_eq_true rfl)) rfl (by decide +kernel) (by decide +kernel) (Ψ := fun v σ9 => σ9 = σ ∧ ((v = .inl 1 ∧ σ 236 8 = 5 ∧ gn_sg σ (σ 236 6) = 61) ∨ v = .inl 0)) (gz_sgh (d := d) hW (fun q w => ⟨rfl, Or.inl ⟨rfl, q, w⟩⟩) ⟨rfl, Or.inr rfl⟩) gh_mono (fun v σ9 hv => ?_)
          obtain ⟨e9, hv⟩ := hv
          rw [e9, show gm_rc 194 = 2 by decide +kernel]
          rcases hv with ⟨rfl, hw, hs⟩ | rfl
          · refine gh_if (show gh_at (gm_me 213).1 48 = some (48, 3, .ifCond .eq (5), 0, 53, []) from rfl) (fun q => absurd (show (1 : Int) = 0 from q) (by decide)) (fun _ => ?_)
            refine gh_iconst (x := 4) (show gh_at (gm_me 213).1 51 = some (51, 1, .iconst 4, 32, 0, []) from rfl) (by decide) ?_
            refine gh_iret (show gh_at (gm_me 213).1 52 = some (52, 1, .ireturn, 0, 0, []) from rfl) ?_
            exact Or.inl ⟨rfl, h _ (Or.inr (Or.inr ⟨by omega, by omega, by rw [hs]; unfold gr_op; omega⟩))⟩
          · refine gh_if (show gh_at (gm_me 213).1 48 = some (48, 3, .ifCond .eq (5), 0, 53, []) from rfl) (fun _ => ?_) (fun q => absurd rfl q)
            refine gh_aload_n (show gh_at (gm_me 213).1 53 = some (53, 1, .aload_n 0, 0, 0, []) from rfl) rfl rfl ?_
            refine gh_bipush (x := 43) (show gh_at (gm_me 213).1 54 = some (54, 2, .bipush (43), 344, 0, []) from rfl) (by decide) ?_
            refine gh_callV (r := 1891) (as := [.inl 43]) (t := []) (show gh_at (gm_me 213).1 56 = some (56, 3, .invokevirtual 289, 194, 0, [(0, 1750)]) from rfl) (by decide) rfl (by show 2 = _; decide +kernel) (Nat.le_trans (gh_wd _) (Nat.le_of_ble_eq_true rfl)) rfl (by decide +kernel) (by decide +kernel) (Ψ := fun v σ9 => σ9 = σ ∧ ((v = .inl 1 ∧ σ 236 8 = 5 ∧ gn_sg σ (σ 236 6) = 43) ∨ v = .inl 0)) (gz_sgh (d := d) hW (fun q w => ⟨rfl, Or.inl ⟨rfl, q, w⟩⟩) ⟨rfl, Or.inr rfl⟩) gh_mono (fun v σ9 hv => ?_)
            obtain ⟨e9, hv⟩ := hv
            rw [e9, show gm_rc 194 = 2 by decide +kernel]
            rcases hv with ⟨rfl, hw, hs⟩ | rfl
            · refine gh_if (show gh_at (gm_me 213).1 59 = some (59, 3, .ifCond .ne (12), 0, 71, []) from rfl) (fun _ => ?_) (fun q => absurd (show ¬ (1 : Int) = 0 by decide) q)
              refine gh_iconst (x := 5) (show gh_at (gm_me 213).1 71 = some (71, 1, .iconst 5, 40, 0, []) from rfl) (by decide) ?_
              refine gh_iret (show gh_at (gm_me 213).1 72 = some (72, 1, .ireturn, 0, 0, []) from rfl) ?_
              exact Or.inl ⟨rfl, h _ (Or.inr (Or.inr ⟨by omega, by omega, by rw [hs]; unfold gr_op; omega⟩))⟩
            · refine gh_if (show gh_at (gm_me 213).1 59 = some (59, 3, .ifCond .ne (12), 0, 71, []) from rfl) (fun q => absurd rfl q) (fun _ => ?_)
              refine gh_aload_n (show gh_at (gm_me 213).1 62 = some (62, 1, .aload_n 0, 0, 0, []) from rfl) rfl rfl ?_
              refine gh_bipush (x := 45) (show gh_at (gm_me 213).1 63 = some (63, 2, .bipush (45), 360, 0, []) from rfl) (by decide) ?_
              refine gh_callV (r := 1891) (as := [.inl 45]) (t := []) (show gh_at (gm_me 213).1 65 = some (65, 3, .invokevirtual 289, 194, 0, [(0, 1750)]) from rfl) (by decide) rfl (by show 2 = _; decide +kernel) (Nat.le_trans (gh_wd _) (Nat.le_of_ble_eq_true rfl)) rfl (by decide +kernel) (by decide +kernel) (Ψ := fun v σ9 => σ9 = σ ∧ ((v = .inl 1 ∧ σ 236 8 = 5 ∧ gn_sg σ (σ 236 6) = 45) ∨ v = .inl 0)) (gz_sgh (d := d) hW (fun q w => ⟨rfl, Or.inl ⟨rfl, q, w⟩⟩) ⟨rfl, Or.inr rfl⟩) gh_mono (fun v σ9 hv => ?_)
              obtain ⟨e9, hv⟩ := hv
              rw [e9, show gm_rc 194 = 2 by decide +kernel]
              rcases hv with ⟨rfl, hw, hs⟩ | rfl
              · refine gh_if (show gh_at (gm_me 213).1 68 = some (68, 3, .ifCond .eq (5), 0, 73, []) from rfl) (fun q => absurd (show (1 : Int) = 0 from q) (by decide)) (fun _ => ?_)
                refine gh_iconst (x := 5) (show gh_at (gm_me 213).1 71 = some (71, 1, .iconst 5, 40, 0, []) from rfl) (by decide) ?_
                refine gh_iret (show gh_at (gm_me 213).1 72 = some (72, 1, .ireturn, 0, 0, []) from rfl) ?_
                exact Or.inl ⟨rfl, h _ (Or.inr (Or.inr ⟨by omega, by omega, by rw [hs]; unfold gr_op; omega⟩))⟩
              · refine gh_if (show gh_at (gm_me 213).1 68 = some (68, 3, .ifCond .eq (5), 0, 73, []) from rfl) (fun _ => ?_) (fun q => absurd rfl q)
                refine gh_aload_n (show gh_at (gm_me 213).1 73 = some (73, 1, .aload_n 0, 0, 0, []) from rfl) rfl rfl ?_
                refine gh_bipush (x := 42) (show gh_at (gm_me 213).1 74 = some (74, 2, .bipush (42), 336, 0, []) from rfl) (by decide) ?_
                refine gh_callV (r := 1891) (as := [.inl 42]) (t := []) (show gh_at (gm_me 213).1 76 = some (76, 3, .invokevirtual 289, 194, 0, [(0, 1750)]) from rfl) (by decide) rfl (by show 2 = _; decide +kernel) (Nat.le_trans (gh_wd _) (Nat.le_of_ble_eq_true rfl)) rfl (by decide +kernel) (by decide +kernel) (Ψ := fun v σ9 => σ9 = σ ∧ ((v = .inl 1 ∧ σ 236 8 = 5 ∧ gn_sg σ (σ 236 6) = 42) ∨ v = .inl 0)) (gz_sgh (d := d) hW (fun q w => ⟨rfl, Or.inl ⟨rfl, q, w⟩⟩) ⟨rfl, Or.inr rfl⟩) gh_mono (fun v σ9 hv => ?_)
                obtain ⟨e9, hv⟩ := hv
                rw [e9, show gm_rc 194 = 2 by decide +kernel]
                rcases hv with ⟨rfl, hw, hs⟩ | rfl
                · refine gh_if (show gh_at (gm_me 213).1 79 = some (79, 3, .ifCond .ne (21), 0, 100, []) from rfl) (fun _ => ?_) (fun q => absurd (show ¬ (1 : Int) = 0 by decide) q)
                  refine gh_bipush (x := 6) (show gh_at (gm_me 213).1 100 = some (100, 2, .bipush (6), 48, 0, []) from rfl) (by decide) ?_
                  refine gh_goto (show gh_at (gm_me 213).1 102 = some (102, 3, .goto (4), 0, 106, []) from rfl) ?_
                  refine gh_iret (show gh_at (gm_me 213).1 106 = some (106, 1, .ireturn, 0, 0, []) from rfl) ?_
                  exact Or.inl ⟨rfl, h _ (Or.inr (Or.inr ⟨by omega, by omega, by rw [hs]; unfold gr_op; omega⟩))⟩
                · refine gh_if (show gh_at (gm_me 213).1 79 = some (79, 3, .ifCond .ne (21), 0, 100, []) from rfl) (fun q => absurd rfl q) (fun _ => ?_)
                  refine gh_aload_n (show gh_at (gm_me 213).1 82 = some (82, 1, .aload_n 0, 0, 0, []) from rfl) rfl rfl ?_
                  refine gh_bipush (x := 47) (show gh_at (gm_me 213).1 83 = some (83, 2, .bipush (47), 376, 0, []) from rfl) (by decide) ?_
                  refine gh_callV (r := 1891) (as := [.inl 47]) (t := []) (show gh_at (gm_me 213).1 85 = some (85, 3, .invokevirtual 289, 194, 0, [(0, 1750)]) from rfl) (by decide) rfl (by show 2 = _; decide +kernel) (Nat.le_trans (gh_wd _) (Nat.le_of_ble_eq_true rfl)) rfl (by decide +kernel) (by decide +kernel) (Ψ := fun v σ9 => σ9 = σ ∧ ((v = .inl 1 ∧ σ 236 8 = 5 ∧ gn_sg σ (σ 236 6) = 47) ∨ v = .inl 0)) (gz_sgh (d := d) hW (fun q w => ⟨rfl, Or.inl ⟨rfl, q, w⟩⟩) ⟨rfl, Or.inr rfl⟩) gh_mono (fun v σ9 hv => ?_)
                  obtain ⟨e9, hv⟩ := hv
                  rw [e9, show gm_rc 194 = 2 by decide +kernel]
                  rcases hv with ⟨rfl, hw, hs⟩ | rfl
                  · refine gh_if (show gh_at (gm_me 213).1 88 = some (88, 3, .ifCond .ne (12), 0, 100, []) from rfl) (fun _ => ?_) (fun q => absurd (show ¬ (1 : Int) = 0 by decide) q)
                    refine gh_bipush (x := 6) (show gh_at (gm_me 213).1 100 = some (100, 2, .bipush (6), 48, 0, []) from rfl) (by decide) ?_
                    refine gh_goto (show gh_at (gm_me 213).1 102 = some (102, 3, .goto (4), 0, 106, []) from rfl) ?_
                    refine gh_iret (show gh_at (gm_me 213).1 106 = some (106, 1, .ireturn, 0, 0, []) from rfl) ?_
                    exact Or.inl ⟨rfl, h _ (Or.inr (Or.inr ⟨by omega, by omega, by rw [hs]; unfold gr_op; omega⟩))⟩
                  · refine gh_if (show gh_at (gm_me 213).1 88 = some (88, 3, .ifCond .ne (12), 0, 100, []) from rfl) (fun q => absurd rfl q) (fun _ => ?_)
                    refine gh_aload_n (show gh_at (gm_me 213).1 91 = some (91, 1, .aload_n 0, 0, 0, []) from rfl) rfl rfl ?_
                    refine gh_bipush (x := 37) (show gh_at (gm_me 213).1 92 = some (92, 2, .bipush (37), 296, 0, []) from rfl) (by decide) ?_
                    refine gh_callV (r := 1891) (as := [.inl 37]) (t := []) (show gh_at (gm_me 213).1 94 = some (94, 3, .invokevirtual 289, 194, 0, [(0, 1750)]) from rfl) (by decide) rfl (by show 2 = _; decide +kernel) (Nat.le_trans (gh_wd _) (Nat.le_of_ble_eq_true rfl)) rfl (by decide +kernel) (by decide +kernel) (Ψ := fun v σ9 => σ9 = σ ∧ ((v = .inl 1 ∧ σ 236 8 = 5 ∧ gn_sg σ (σ 236 6) = 37) ∨ v = .inl 0)) (gz_sgh (d := d) hW (fun q w => ⟨rfl, Or.inl ⟨rfl, q, w⟩⟩) ⟨rfl, Or.inr rfl⟩) gh_mono (fun v σ9 hv => ?_)
                    obtain ⟨e9, hv⟩ := hv
                    rw [e9, show gm_rc 194 = 2 by decide +kernel]
                    rcases hv with ⟨rfl, hw, hs⟩ | rfl
                    · refine gh_if (show gh_at (gm_me 213).1 97 = some (97, 3, .ifCond .eq (8), 0, 105, []) from rfl) (fun q => absurd (show (1 : Int) = 0 from q) (by decide)) (fun _ => ?_)
                      refine gh_bipush (x := 6) (show gh_at (gm_me 213).1 100 = some (100, 2, .bipush (6), 48, 0, []) from rfl) (by decide) ?_
                      refine gh_goto (show gh_at (gm_me 213).1 102 = some (102, 3, .goto (4), 0, 106, []) from rfl) ?_
                      refine gh_iret (show gh_at (gm_me 213).1 106 = some (106, 1, .ireturn, 0, 0, []) from rfl) ?_
                      exact Or.inl ⟨rfl, h _ (Or.inr (Or.inr ⟨by omega, by omega, by rw [hs]; unfold gr_op; omega⟩))⟩
                    · refine gh_if (show gh_at (gm_me 213).1 97 = some (97, 3, .ifCond .eq (8), 0, 105, []) from rfl) (fun _ => ?_) (fun q => absurd rfl q)
                      refine gh_iconst (x := 0) (show gh_at (gm_me 213).1 105 = some (105, 1, .iconst 0, 0, 0, []) from rfl) (by decide) ?_
                      refine gh_iret (show gh_at (gm_me 213).1 106 = some (106, 1, .ireturn, 0, 0, []) from rfl) ?_
                      exact Or.inl ⟨rfl, h _ (Or.inl rfl)⟩
theorem gz_cmpd {d p : Nat} {σ : gp_S} {Φ : gp_F} (hp : 1 ≤ p ∧ p ≤ 90) (hP : σ 236 36 = (p : Int)) (h8 : σ 257 0 = 8) (h : ∀ z : Int, z = 0 ∨ z = 1 → Φ (.inl z) σ) : gp_call gs_sh (d + 1) 214 [.inr 1891] σ Φ := by
  refine gh_call (al := [.inr 1891, .inr 7]) (by decide +kernel) (by show 1 = _; decide +kernel) (by rw [show (gm_me 214).2.1 = 1 by decide +kernel]; rfl) (by show 2 = _; decide +kernel) ?_
  rw [show gm_rc 214 = 2 by decide +kernel]
  have loop : ∀ i : Nat, i < 90 → gp_ok gs_sh (gp_call gs_sh d) 2 (gm_me 214).1 Φ 7 [.inr 1891, .inl (i : Int)] [] σ := by
    intro i
    induction i with
    | zero =>
      intro hi
      refine gh_aload_n (show gh_at (gm_me 214).1 7 = some (7, 1, .aload_n 0, 0, 0, []) from rfl) rfl rfl ?_
      refine gh_get (show gh_at (gm_me 214).1 8 = some (8, 3, .getfield 76, 1, 29, [(0, 1470)]) from rfl) rfl (by decide +kernel) (by decide +kernel) (gh_rdr (r := 2059) (by decide +kernel) rfl) ?_
      refine gh_iload_n (show gh_at (gm_me 214).1 11 = some (11, 1, .iload_n 1, 0, 0, []) from rfl) rfl ?_
      refine gh_iald (show gh_at (gm_me 214).1 12 = some (12, 1, .iaload, 0, 0, []) from rfl) rfl (by decide +kernel) (by decide +kernel) (gh_ix (N := 90) (by decide +kernel) (by omega) (by omega)) (gh_rd0 (gh_pk0 (by decide +kernel) _)) ?_
      rw [show (((0 : Nat) : Int)).toNat = 0 by omega]
      show gp_ok _ _ _ _ _ _ _ (.inl (σ 257 (0)) :: _) _
      refine gh_iconst (x := 5) (show gh_at (gm_me 214).1 13 = some (13, 1, .iconst 5, 40, 0, []) from rfl) (by decide) ?_
      refine gh_icmp (show gh_at (gm_me 214).1 14 = some (14, 3, .if_icmp .eq (14), 0, 28, []) from rfl) (fun hc => ?_) (fun hc => ?_)
      · have hc : σ 257 (0) = 5 := hc
        omega
      · refine gh_aload_n (show gh_at (gm_me 214).1 17 = some (17, 1, .aload_n 0, 0, 0, []) from rfl) rfl rfl ?_
        refine gh_get (show gh_at (gm_me 214).1 18 = some (18, 3, .getfield 76, 1, 29, [(0, 1470)]) from rfl) rfl (by decide +kernel) (by decide +kernel) (gh_rdr (r := 2059) (by decide +kernel) rfl) ?_
        refine gh_iload_n (show gh_at (gm_me 214).1 21 = some (21, 1, .iload_n 1, 0, 0, []) from rfl) rfl ?_
        refine gh_iald (show gh_at (gm_me 214).1 22 = some (22, 1, .iaload, 0, 0, []) from rfl) rfl (by decide +kernel) (by decide +kernel) (gh_ix (N := 90) (by decide +kernel) (by omega) (by omega)) (gh_rd0 (gh_pk0 (by decide +kernel) _)) ?_
        rw [show (((0 : Nat) : Int)).toNat = 0 by omega]
        show gp_ok _ _ _ _ _ _ _ (.inl (σ 257 (0)) :: _) _
        refine gh_bipush (x := 6) (show gh_at (gm_me 214).1 23 = some (23, 2, .bipush (6), 48, 0, []) from rfl) (by decide) ?_
        refine gh_icmp (show gh_at (gm_me 214).1 25 = some (25, 3, .if_icmp .ne (9), 0, 34, []) from rfl) (fun hc => ?_) (fun hc => ?_)
        · refine gh_aload_n (show gh_at (gm_me 214).1 34 = some (34, 1, .aload_n 0, 0, 0, []) from rfl) rfl rfl ?_
          refine gh_get (show gh_at (gm_me 214).1 35 = some (35, 3, .getfield 76, 1, 29, [(0, 1470)]) from rfl) rfl (by decide +kernel) (by decide +kernel) (gh_rdr (r := 2059) (by decide +kernel) rfl) ?_
          refine gh_iload_n (show gh_at (gm_me 214).1 38 = some (38, 1, .iload_n 1, 0, 0, []) from rfl) rfl ?_
          refine gh_iald (show gh_at (gm_me 214).1 39 = some (39, 1, .iaload, 0, 0, []) from rfl) rfl (by decide +kernel) (by decide +kernel) (gh_ix (N := 90) (by decide +kernel) (by omega) (by omega)) (gh_rd0 (gh_pk0 (by decide +kernel) _)) ?_
          rw [show (((0 : Nat) : Int)).toNat = 0 by omega]
          show gp_ok _ _ _ _ _ _ _ (.inl (σ 257 (0)) :: _) _
          refine gh_iconst (x := 4) (show gh_at (gm_me 214).1 40 = some (40, 1, .iconst 4, 32, 0, []) from rfl) (by decide) ?_
          refine gh_icmp (show gh_at (gm_me 214).1 41 = some (41, 3, .if_icmp .ne (7), 0, 48, []) from rfl) (fun hc => ?_) (fun hc => ?_)
          · refine gh_iconst (x := 0) (show gh_at (gm_me 214).1 48 = some (48, 1, .iconst 0, 0, 0, []) from rfl) (by decide) ?_
            refine gh_iret (show gh_at (gm_me 214).1 49 = some (49, 1, .ireturn, 0, 0, []) from rfl) ?_
            exact Or.inr ⟨rfl, Or.inl rfl, h 0 (Or.inl rfl)⟩
          · refine gh_iconst (x := 1) (show gh_at (gm_me 214).1 44 = some (44, 1, .iconst 1, 8, 0, []) from rfl) (by decide) ?_
            refine gh_goto (show gh_at (gm_me 214).1 45 = some (45, 3, .goto (4), 0, 49, []) from rfl) ?_
            refine gh_iret (show gh_at (gm_me 214).1 49 = some (49, 1, .ireturn, 0, 0, []) from rfl) ?_
            exact Or.inr ⟨rfl, Or.inr rfl, h 1 (Or.inr rfl)⟩
        · have hc : σ 257 (0) = 6 := Decidable.not_not.mp hc
          omega
    | succ i ih =>
      intro hi
      refine gh_aload_n (show gh_at (gm_me 214).1 7 = some (7, 1, .aload_n 0, 0, 0, []) from rfl) rfl rfl ?_
      refine gh_get (show gh_at (gm_me 214).1 8 = some (8, 3, .getfield 76, 1, 29, [(0, 1470)]) from rfl) rfl (by decide +kernel) (by decide +kernel) (gh_rdr (r := 2059) (by decide +kernel) rfl) ?_
      refine gh_iload_n (show gh_at (gm_me 214).1 11 = some (11, 1, .iload_n 1, 0, 0, []) from rfl) rfl ?_
      refine gh_iald (show gh_at (gm_me 214).1 12 = some (12, 1, .iaload, 0, 0, []) from rfl) rfl (by decide +kernel) (by decide +kernel) (gh_ix (N := 90) (by decide +kernel) (by omega) (by omega)) (gh_rd0 (gh_pk0 (by decide +kernel) _)) ?_
      rw [show (((i + 1 : Nat) : Int)).toNat = i + 1 by omega]
      show gp_ok _ _ _ _ _ _ _ (.inl (σ 257 (i + 1)) :: _) _
      refine gh_iconst (x := 5) (show gh_at (gm_me 214).1 13 = some (13, 1, .iconst 5, 40, 0, []) from rfl) (by decide) ?_
      refine gh_icmp (show gh_at (gm_me 214).1 14 = some (14, 3, .if_icmp .eq (14), 0, 28, []) from rfl) (fun hc => ?_) (fun hc => ?_)
      · have hc : σ 257 (i + 1) = 5 := hc
        refine gh_iinc (show gh_at (gm_me 214).1 28 = some (28, 3, .iinc 1 (-1), 34359738360, 0, []) from rfl) rfl (fun c q => by cases q <;> decide) (y := (i : Int)) (by rw [gh_add (by unfold gh_r; omega) (by show gh_r (-1); unfold gh_r; omega) (by show gh_r (((i + 1 : Nat) : Int) + -1); unfold gh_r; omega)]; show ((i + 1 : Nat) : Int) + -1 = _; omega) rfl ?_
        refine gh_goto (show gh_at (gm_me 214).1 31 = some (31, 3, .goto (-24), 0, 7, []) from rfl) ?_
        exact ih (by omega)
      · refine gh_aload_n (show gh_at (gm_me 214).1 17 = some (17, 1, .aload_n 0, 0, 0, []) from rfl) rfl rfl ?_
        refine gh_get (show gh_at (gm_me 214).1 18 = some (18, 3, .getfield 76, 1, 29, [(0, 1470)]) from rfl) rfl (by decide +kernel) (by decide +kernel) (gh_rdr (r := 2059) (by decide +kernel) rfl) ?_
        refine gh_iload_n (show gh_at (gm_me 214).1 21 = some (21, 1, .iload_n 1, 0, 0, []) from rfl) rfl ?_
        refine gh_iald (show gh_at (gm_me 214).1 22 = some (22, 1, .iaload, 0, 0, []) from rfl) rfl (by decide +kernel) (by decide +kernel) (gh_ix (N := 90) (by decide +kernel) (by omega) (by omega)) (gh_rd0 (gh_pk0 (by decide +kernel) _)) ?_
        rw [show (((i + 1 : Nat) : Int)).toNat = i + 1 by omega]
        show gp_ok _ _ _ _ _ _ _ (.inl (σ 257 (i + 1)) :: _) _
        refine gh_bipush (x := 6) (show gh_at (gm_me 214).1 23 = some (23, 2, .bipush (6), 48, 0, []) from rfl) (by decide) ?_
        refine gh_icmp (show gh_at (gm_me 214).1 25 = some (25, 3, .if_icmp .ne (9), 0, 34, []) from rfl) (fun hc => ?_) (fun hc => ?_)
        · refine gh_aload_n (show gh_at (gm_me 214).1 34 = some (34, 1, .aload_n 0, 0, 0, []) from rfl) rfl rfl ?_
          refine gh_get (show gh_at (gm_me 214).1 35 = some (35, 3, .getfield 76, 1, 29, [(0, 1470)]) from rfl) rfl (by decide +kernel) (by decide +kernel) (gh_rdr (r := 2059) (by decide +kernel) rfl) ?_
          refine gh_iload_n (show gh_at (gm_me 214).1 38 = some (38, 1, .iload_n 1, 0, 0, []) from rfl) rfl ?_
          refine gh_iald (show gh_at (gm_me 214).1 39 = some (39, 1, .iaload, 0, 0, []) from rfl) rfl (by decide +kernel) (by decide +kernel) (gh_ix (N := 90) (by decide +kernel) (by omega) (by omega)) (gh_rd0 (gh_pk0 (by decide +kernel) _)) ?_
          rw [show (((i + 1 : Nat) : Int)).toNat = i + 1 by omega]
          show gp_ok _ _ _ _ _ _ _ (.inl (σ 257 (i + 1)) :: _) _
          refine gh_iconst (x := 4) (show gh_at (gm_me 214).1 40 = some (40, 1, .iconst 4, 32, 0, []) from rfl) (by decide) ?_
          refine gh_icmp (show gh_at (gm_me 214).1 41 = some (41, 3, .if_icmp .ne (7), 0, 48, []) from rfl) (fun hc => ?_) (fun hc => ?_)
          · refine gh_iconst (x := 0) (show gh_at (gm_me 214).1 48 = some (48, 1, .iconst 0, 0, 0, []) from rfl) (by decide) ?_
            refine gh_iret (show gh_at (gm_me 214).1 49 = some (49, 1, .ireturn, 0, 0, []) from rfl) ?_
            exact Or.inr ⟨rfl, Or.inl rfl, h 0 (Or.inl rfl)⟩
          · refine gh_iconst (x := 1) (show gh_at (gm_me 214).1 44 = some (44, 1, .iconst 1, 8, 0, []) from rfl) (by decide) ?_
            refine gh_goto (show gh_at (gm_me 214).1 45 = some (45, 3, .goto (4), 0, 49, []) from rfl) ?_
            refine gh_iret (show gh_at (gm_me 214).1 49 = some (49, 1, .ireturn, 0, 0, []) from rfl) ?_
            exact Or.inr ⟨rfl, Or.inr rfl, h 1 (Or.inr rfl)⟩
        · have hc : σ 257 (i + 1) = 6 := Decidable.not_not.mp hc
          refine gh_iinc (show gh_at (gm_me 214).1 28 = some (28, 3, .iinc 1 (-1), 34359738360, 0, []) from rfl) rfl (fun c q => by cases q <;> decide) (y := (i : Int)) (by rw [gh_add (by unfold gh_r; omega) (by show gh_r (-1); unfold gh_r; omega) (by show gh_r (((i + 1 : Nat) : Int) + -1); unfold gh_r; omega)]; show ((i + 1 : Nat) : Int) + -1 = _; omega) rfl ?_
          refine gh_goto (show gh_at (gm_me 214).1 31 = some (31, 3, .goto (-24), 0, 7, []) from rfl) ?_
          exact ih (by omega)
  refine gh_aload_n (show gh_at (gm_me 214).1 0 = some (0, 1, .aload_n 0, 0, 0, []) from rfl) rfl rfl ?_
  refine gh_get (show gh_at (gm_me 214).1 1 = some (1, 3, .getfield 308, 1, 36, [(0, 1477)]) from rfl) rfl (by decide +kernel) (by decide +kernel) (gh_rd0 (by decide +kernel)) ?_
  rw [show σ (1891 / 8) 36 = (p : Int) from hP]
  refine gh_iconst (x := 1) (show gh_at (gm_me 214).1 4 = some (4, 1, .iconst 1, 8, 0, []) from rfl) (by decide) ?_
  refine gh_isub (z := ((p - 1 : Nat) : Int)) (show gh_at (gm_me 214).1 5 = some (5, 1, .isub, 0, 0, []) from rfl) (by rw [gh_sub (by unfold gh_r; omega) (by unfold gh_r; omega) (by unfold gh_r; omega)]; omega) ?_
  refine gh_istore_n (show gh_at (gm_me 214).1 6 = some (6, 1, .istore_n 1, 0, 0, []) from rfl) (fun c q => by cases q <;> decide) rfl ?_
  exact loop (p - 1) (by omega)
theorem gz_emit {d c : Nat} {σ : gp_S} {x y : Int} {Φ : gp_F} (hn : c < 1120) (hc : σ 236 34 = (c : Int)) (h : Φ (.inr 7) (gp_up (gp_up (gp_up σ 255 c x) 256 c y) 236 34 ((c : Int) + 1))) : gp_call gs_sh (d + 1) 208 [.inr 1891, .inl x, .inl y] σ Φ := by
  refine gh_call (al := [.inr 1891, .inl x, .inl y]) (by decide +kernel) (by show 3 = _; decide +kernel) (by rw [show (gm_me 208).2.1 = 0 by decide +kernel]; rfl) (by show 3 = _; decide +kernel) ?_
  rw [show gm_rc 208 = 0 by decide +kernel]
  refine gh_aload_n (show gh_at (gm_me 208).1 0 = some (0, 1, .aload_n 0, 0, 0, []) from rfl) rfl rfl ?_
  refine gh_get (show gh_at (gm_me 208).1 1 = some (1, 3, .getfield 70, 1, 27, [(0, 1468)]) from rfl) rfl (by decide +kernel) (by decide +kernel) (gh_rdr (r := 2043) (by decide +kernel) rfl) ?_
  refine gh_aload_n (show gh_at (gm_me 208).1 4 = some (4, 1, .aload_n 0, 0, 0, []) from rfl) rfl rfl ?_
  refine gh_get (show gh_at (gm_me 208).1 5 = some (5, 3, .getfield 257, 1, 34, [(0, 1475)]) from rfl) rfl (by decide +kernel) (by decide +kernel) (gh_rd0 (by decide +kernel)) ?_
  rw [show σ (1891 / 8) 34 = (c : Int) from hc]
  refine gh_iload_n (show gh_at (gm_me 208).1 8 = some (8, 1, .iload_n 1, 0, 0, []) from rfl) rfl ?_
  refine gh_iast (show gh_at (gm_me 208).1 9 = some (9, 1, .iastore, 0, 0, []) from rfl) rfl (by decide +kernel) (by decide +kernel) (gh_ix (N := 1120) (by decide +kernel) (by omega) (by omega)) (gh_pk0 (by decide +kernel) _) ?_
  rw [show ((c : Int)).toNat = c by omega]
  show gp_ok _ _ _ _ _ _ _ [] (gp_up σ 255 c x)
  have hc1 : (gp_up σ 255 c x) 236 34 = (c : Int) := (gh_up_ne (fun q => absurd q.1 (by decide))).trans hc
  refine gh_aload_n (show gh_at (gm_me 208).1 10 = some (10, 1, .aload_n 0, 0, 0, []) from rfl) rfl rfl ?_
  refine gh_get (show gh_at (gm_me 208).1 11 = some (11, 3, .getfield 73, 1, 28, [(0, 1469)]) from rfl) rfl (by decide +kernel) (by decide +kernel) (gh_rdr (r := 2051) (by decide +kernel) rfl) ?_
  refine gh_aload_n (show gh_at (gm_me 208).1 14 = some (14, 1, .aload_n 0, 0, 0, []) from rfl) rfl rfl ?_
  refine gh_get (show gh_at (gm_me 208).1 15 = some (15, 3, .getfield 257, 1, 34, [(0, 1475)]) from rfl) rfl (by decide +kernel) (by decide +kernel) (gh_rd0 (by decide +kernel)) ?_
  rw [show (gp_up σ 255 c x) (1891 / 8) 34 = (c : Int) from hc1]
  refine gh_iload_n (show gh_at (gm_me 208).1 18 = some (18, 1, .iload_n 2, 0, 0, []) from rfl) rfl ?_
  refine gh_iast (show gh_at (gm_me 208).1 19 = some (19, 1, .iastore, 0, 0, []) from rfl) rfl (by decide +kernel) (by decide +kernel) (gh_ix (N := 1120) (by decide +kernel) (by omega) (by omega)) (gh_pk0 (by decide +kernel) _) ?_
  rw [show ((c : Int)).toNat = c by omega]
  show gp_ok _ _ _ _ _ _ _ [] (gp_up (gp_up σ 255 c x) 256 c y)
  have hc2 : (gp_up (gp_up σ 255 c x) 256 c y) 236 34 = (c : Int) := (gh_up_ne (fun q => absurd q.1 (by decide))).trans hc1
  refine gh_aload_n (show gh_at (gm_me 208).1 20 = some (20, 1, .aload_n 0, 0, 0, []) from rfl) rfl rfl ?_
  refine gh_dup (show gh_at (gm_me 208).1 21 = some (21, 1, .dup, 0, 0, []) from rfl) rfl ?_
  refine gh_get (show gh_at (gm_me 208).1 22 = some (22, 3, .getfield 257, 1, 34, [(0, 1475)]) from rfl) rfl (by decide +kernel) (by decide +kernel) (gh_rd0 (by decide +kernel)) ?_
  rw [show (gp_up (gp_up σ 255 c x) 256 c y) (1891 / 8) 34 = (c : Int) from hc2]
  refine gh_iconst (x := 1) (show gh_at (gm_me 208).1 25 = some (25, 1, .iconst 1, 8, 0, []) from rfl) (by decide) ?_
  refine gh_iadd (z := (c : Int) + 1) (show gh_at (gm_me 208).1 26 = some (26, 1, .iadd, 0, 0, []) from rfl) (gh_add (by unfold gh_r; omega) (by unfold gh_r; omega) (by unfold gh_r; omega)) ?_
  refine gh_put (show gh_at (gm_me 208).1 27 = some (27, 3, .putfield 257, 1, 34, [(0, 1475)]) from rfl) rfl (by decide +kernel) (by decide +kernel) (by decide +kernel) (Or.inl rfl) ?_
  show gp_ok _ _ _ _ _ _ _ [] (gp_up (gp_up (gp_up σ 255 c x) 256 c y) 236 34 ((c : Int) + 1))
  refine gh_ret (show gh_at (gm_me 208).1 30 = some (30, 1, .return_, 0, 0, []) from rfl) rfl ?_
  exact h
theorem gz_push {d c : Nat} {σ : gp_S} {x y : Int} {Φ : gp_F} (hn : c < 90) (hc : σ 236 36 = (c : Int)) (h : Φ (.inr 7) (gp_up (gp_up (gp_up σ 257 c x) 258 c y) 236 36 ((c : Int) + 1))) : gp_call gs_sh (d + 1) 209 [.inr 1891, .inl x, .inl y] σ Φ := by
  refine gh_call (al := [.inr 1891, .inl x, .inl y]) (by decide +kernel) (by show 3 = _; decide +kernel) (by rw [show (gm_me 209).2.1 = 0 by decide +kernel]; rfl) (by show 3 = _; decide +kernel) ?_
  rw [show gm_rc 209 = 0 by decide +kernel]
  refine gh_aload_n (show gh_at (gm_me 209).1 0 = some (0, 1, .aload_n 0, 0, 0, []) from rfl) rfl rfl ?_
  refine gh_get (show gh_at (gm_me 209).1 1 = some (1, 3, .getfield 76, 1, 29, [(0, 1470)]) from rfl) rfl (by decide +kernel) (by decide +kernel) (gh_rdr (r := 2059) (by decide +kernel) rfl) ?_
  refine gh_aload_n (show gh_at (gm_me 209).1 4 = some (4, 1, .aload_n 0, 0, 0, []) from rfl) rfl rfl ?_
  refine gh_get (show gh_at (gm_me 209).1 5 = some (5, 3, .getfield 308, 1, 36, [(0, 1477)]) from rfl) rfl (by decide +kernel) (by decide +kernel) (gh_rd0 (by decide +kernel)) ?_
  rw [show σ (1891 / 8) 36 = (c : Int) from hc]
  refine gh_iload_n (show gh_at (gm_me 209).1 8 = some (8, 1, .iload_n 1, 0, 0, []) from rfl) rfl ?_
  refine gh_iast (show gh_at (gm_me 209).1 9 = some (9, 1, .iastore, 0, 0, []) from rfl) rfl (by decide +kernel) (by decide +kernel) (gh_ix (N := 90) (by decide +kernel) (by omega) (by omega)) (gh_pk0 (by decide +kernel) _) ?_
  rw [show ((c : Int)).toNat = c by omega]
  show gp_ok _ _ _ _ _ _ _ [] (gp_up σ 257 c x)
  have hc1 : (gp_up σ 257 c x) 236 36 = (c : Int) := (gh_up_ne (fun q => absurd q.1 (by decide))).trans hc
  refine gh_aload_n (show gh_at (gm_me 209).1 10 = some (10, 1, .aload_n 0, 0, 0, []) from rfl) rfl rfl ?_
  refine gh_get (show gh_at (gm_me 209).1 11 = some (11, 3, .getfield 79, 1, 30, [(0, 1471)]) from rfl) rfl (by decide +kernel) (by decide +kernel) (gh_rdr (r := 2067) (by decide +kernel) rfl) ?_
  refine gh_aload_n (show gh_at (gm_me 209).1 14 = some (14, 1, .aload_n 0, 0, 0, []) from rfl) rfl rfl ?_
  refine gh_get (show gh_at (gm_me 209).1 15 = some (15, 3, .getfield 308, 1, 36, [(0, 1477)]) from rfl) rfl (by decide +kernel) (by decide +kernel) (gh_rd0 (by decide +kernel)) ?_
  rw [show (gp_up σ 257 c x) (1891 / 8) 36 = (c : Int) from hc1]
  refine gh_iload_n (show gh_at (gm_me 209).1 18 = some (18, 1, .iload_n 2, 0, 0, []) from rfl) rfl ?_
  refine gh_iast (show gh_at (gm_me 209).1 19 = some (19, 1, .iastore, 0, 0, []) from rfl) rfl (by decide +kernel) (by decide +kernel) (gh_ix (N := 90) (by decide +kernel) (by omega) (by omega)) (gh_pk0 (by decide +kernel) _) ?_
  rw [show ((c : Int)).toNat = c by omega]
  show gp_ok _ _ _ _ _ _ _ [] (gp_up (gp_up σ 257 c x) 258 c y)
  have hc2 : (gp_up (gp_up σ 257 c x) 258 c y) 236 36 = (c : Int) := (gh_up_ne (fun q => absurd q.1 (by decide))).trans hc1
  refine gh_aload_n (show gh_at (gm_me 209).1 20 = some (20, 1, .aload_n 0, 0, 0, []) from rfl) rfl rfl ?_
  refine gh_dup (show gh_at (gm_me 209).1 21 = some (21, 1, .dup, 0, 0, []) from rfl) rfl ?_
  refine gh_get (show gh_at (gm_me 209).1 22 = some (22, 3, .getfield 308, 1, 36, [(0, 1477)]) from rfl) rfl (by decide +kernel) (by decide +kernel) (gh_rd0 (by decide +kernel)) ?_
  rw [show (gp_up (gp_up σ 257 c x) 258 c y) (1891 / 8) 36 = (c : Int) from hc2]
  refine gh_iconst (x := 1) (show gh_at (gm_me 209).1 25 = some (25, 1, .iconst 1, 8, 0, []) from rfl) (by decide) ?_
  refine gh_iadd (z := (c : Int) + 1) (show gh_at (gm_me 209).1 26 = some (26, 1, .iadd, 0, 0, []) from rfl) (gh_add (by unfold gh_r; omega) (by unfold gh_r; omega) (by unfold gh_r; omega)) ?_
  refine gh_put (show gh_at (gm_me 209).1 27 = some (27, 3, .putfield 308, 1, 36, [(0, 1477)]) from rfl) rfl (by decide +kernel) (by decide +kernel) (by decide +kernel) (Or.inl rfl) ?_
  show gp_ok _ _ _ _ _ _ _ [] (gp_up (gp_up (gp_up σ 257 c x) 258 c y) 236 36 ((c : Int) + 1))
  refine gh_ret (show gh_at (gm_me 209).1 30 = some (30, 1, .return_, 0, 0, []) from rfl) rfl ?_
  exact h
