/-! seatOf, isBehind -/
theorem gz_seatOf {b f : Nat} {d : Nat} {σ : gp_S} {Φ : gp_F} {g : Int} (hb : b < 2) (hf : f < 8) (hW : gt_W (gs_wm b f) σ) (h0 : (∀ i : Nat, i < f → ¬ σ 260 i = g) → Φ (.inl (-1)) σ) (h1 : ∀ n : Nat, n < f → σ 260 n = g → Φ (.inl (n : Int)) σ) : gp_call gs_sh (d + 2) 220 [.inr 1891, .inl g] σ Φ := by
  refine gh_call (al := [.inr 1891, .inl g, .inr 7]) (by decide +kernel) (by show 2 = _; decide +kernel) (by rw [show (gm_me 220).2.1 = 1 by decide +kernel]; rfl) (by show 3 = _; decide +kernel) ?_
  rw [show gm_rc 220 = 1 by decide +kernel]
  have loop : ∀ (m n : Nat), f - n ≤ m → n ≤ f → (∀ i : Nat, i < n → ¬ σ 260 i = g) → gp_ok gs_sh (gp_call gs_sh (d + 1)) 1 (gm_me 220).1 Φ 2 [.inr 1891, .inl g, .inl (n : Int)] [] σ := by
    intro m
    induction m with
    | zero =>
      intro n hm hn hv0
      refine gh_iload_n (show gh_at (gm_me 220).1 2 = some (2, 1, .iload_n 2, 0, 0, []) from rfl) rfl ?_
      refine gh_aload_n (show gh_at (gm_me 220).1 3 = some (3, 1, .aload_n 0, 0, 0, []) from rfl) rfl rfl ?_
      refine gh_callV (r := 1891) (as := []) (t := [.inl (n : Int)]) (show gh_at (gm_me 220).1 4 = some (4, 3, .invokevirtual 338, 11, 0, [(0, 1399)]) from rfl) (by decide) rfl (by show 1 = _; decide +kernel) (Nat.le_trans (gh_wd _) (Nat.le_of_ble_eq_true rfl)) rfl (by decide +kernel) (by decide +kernel) (Ψ := fun v σ2 => σ2 = σ ∧ v = .inl (f : Int)) (gz_folk (d := d) hb hW ⟨rfl, rfl⟩) gh_mono (fun v σ2 hv => ?_)
      obtain ⟨e2, rfl⟩ := hv
      rw [e2, show gm_rc 11 = 1 by decide +kernel]
      show gp_ok _ _ _ _ _ _ _ (.inl (f : Int) :: _) _
      refine gh_icmp (show gh_at (gm_me 220).1 7 = some (7, 3, .if_icmp .ge (23), 0, 30, []) from rfl) (fun hc => ?_) (fun hc => ?_)
      · refine gh_iconst (x := -1) (show gh_at (gm_me 220).1 30 = some (30, 1, .iconst (-1), 34359738360, 0, []) from rfl) (by decide) ?_
        refine gh_iret (show gh_at (gm_me 220).1 31 = some (31, 1, .ireturn, 0, 0, []) from rfl) ?_
        have hc : (f : Int) ≤ (n : Int) := hc
        exact Or.inl ⟨rfl, h0 (fun i hi => hv0 i (by omega))⟩
      · have hc : ¬ (f : Int) ≤ (n : Int) := hc
        omega
    | succ m ih =>
      intro n hm hn hv0
      refine gh_iload_n (show gh_at (gm_me 220).1 2 = some (2, 1, .iload_n 2, 0, 0, []) from rfl) rfl ?_
      refine gh_aload_n (show gh_at (gm_me 220).1 3 = some (3, 1, .aload_n 0, 0, 0, []) from rfl) rfl rfl ?_
      refine gh_callV (r := 1891) (as := []) (t := [.inl (n : Int)]) (show gh_at (gm_me 220).1 4 = some (4, 3, .invokevirtual 338, 11, 0, [(0, 1399)]) from rfl) (by decide) rfl (by show 1 = _; decide +kernel) (Nat.le_trans (gh_wd _) (Nat.le_of_ble_eq_true rfl)) rfl (by decide +kernel) (by decide +kernel) (Ψ := fun v σ2 => σ2 = σ ∧ v = .inl (f : Int)) (gz_folk (d := d) hb hW ⟨rfl, rfl⟩) gh_mono (fun v σ2 hv => ?_)
      obtain ⟨e2, rfl⟩ := hv
      rw [e2, show gm_rc 11 = 1 by decide +kernel]
      show gp_ok _ _ _ _ _ _ _ (.inl (f : Int) :: _) _
      refine gh_icmp (show gh_at (gm_me 220).1 7 = some (7, 3, .if_icmp .ge (23), 0, 30, []) from rfl) (fun hc => ?_) (fun hc => ?_)
      · refine gh_iconst (x := -1) (show gh_at (gm_me 220).1 30 = some (30, 1, .iconst (-1), 34359738360, 0, []) from rfl) (by decide) ?_
        refine gh_iret (show gh_at (gm_me 220).1 31 = some (31, 1, .ireturn, 0, 0, []) from rfl) ?_
        have hc : (f : Int) ≤ (n : Int) := hc
        exact Or.inl ⟨rfl, h0 (fun i hi => hv0 i (by omega))⟩
      · have hc : ¬ (f : Int) ≤ (n : Int) := hc
        refine gh_aload_n (show gh_at (gm_me 220).1 10 = some (10, 1, .aload_n 0, 0, 0, []) from rfl) rfl rfl ?_
        refine gh_get (show gh_at (gm_me 220).1 11 = some (11, 3, .getfield 85, 1, 38, [(0, 1479)]) from rfl) rfl (by decide +kernel) (by decide +kernel) (gh_rdr (r := 2083) (by decide +kernel) rfl) ?_
        refine gh_iconst (x := 0) (show gh_at (gm_me 220).1 14 = some (14, 1, .iconst 0, 0, 0, []) from rfl) (by decide) ?_
        refine gh_iload_n (show gh_at (gm_me 220).1 15 = some (15, 1, .iload_n 2, 0, 0, []) from rfl) rfl ?_
        refine gh_iadd (z := (n : Int)) (show gh_at (gm_me 220).1 16 = some (16, 1, .iadd, 0, 0, []) from rfl) (by rw [gh_add (by unfold gh_r; omega) (by unfold gh_r; omega) (by unfold gh_r; omega)]; omega) ?_
        refine gh_iald (show gh_at (gm_me 220).1 17 = some (17, 1, .iaload, 0, 0, []) from rfl) rfl (by decide +kernel) (by decide +kernel) (gh_ix (N := 29) (by decide +kernel) (by omega) (by omega)) (gh_rd0 (gh_pk0 (by decide +kernel) _)) ?_
        rw [show ((n : Int)).toNat = n by omega]
        show gp_ok _ _ _ _ _ _ _ [.inl (σ 260 n)] _
        refine gh_iload_n (show gh_at (gm_me 220).1 18 = some (18, 1, .iload_n 1, 0, 0, []) from rfl) rfl ?_
        refine gh_icmp (show gh_at (gm_me 220).1 19 = some (19, 3, .if_icmp .ne (5), 0, 24, []) from rfl) (fun hd => ?_) (fun hd => ?_)
        · refine gh_iinc (show gh_at (gm_me 220).1 24 = some (24, 3, .iinc 2 (1), 8, 0, []) from rfl) rfl (fun c q => by cases q <;> decide) (y := ((n + 1 : Nat) : Int)) (by rw [gh_add (by unfold gh_r; omega) (by show gh_r 1; unfold gh_r; omega) (by show gh_r ((n : Int) + 1); unfold gh_r; omega)]; show (n : Int) + 1 = _; omega) rfl ?_
          refine gh_goto (show gh_at (gm_me 220).1 27 = some (27, 3, .goto (-25), 0, 2, []) from rfl) ?_
          exact ih (n + 1) (by omega) (by omega) (fun i hi => by by_cases e : i = n; (subst e; exact hd); exact hv0 i (by omega))
        · refine gh_iload_n (show gh_at (gm_me 220).1 22 = some (22, 1, .iload_n 2, 0, 0, []) from rfl) rfl ?_
          refine gh_iret (show gh_at (gm_me 220).1 23 = some (23, 1, .ireturn, 0, 0, []) from rfl) ?_
          exact Or.inl ⟨rfl, h1 n (by omega) (Decidable.not_not.mp hd)⟩
  refine gh_iconst (x := 0) (show gh_at (gm_me 220).1 0 = some (0, 1, .iconst 0, 0, 0, []) from rfl) (by decide) ?_
  refine gh_istore_n (show gh_at (gm_me 220).1 1 = some (1, 1, .istore_n 2, 0, 0, []) from rfl) (fun c q => by cases q <;> decide) rfl ?_
  exact loop f 0 (by omega) (by omega) (fun i hi => absurd hi (by omega))
theorem gz_isGuest {b f : Nat} {d : Nat} {σ : gp_S} {Φ : gp_F} {g : Int} (hb : b < 2) (hf : f < 8) (hW : gt_W (gs_wm b f) σ) (h1 : 0 ≤ g ∧ g < (f : Int) → Φ (.inl 1) σ) (h0 : ¬ (0 ≤ g ∧ g < (f : Int)) → Φ (.inl 0) σ) : gp_call gs_sh (d + 2) 17 [.inr 1891, .inl g] σ Φ := by
  refine gh_call (al := [.inr 1891, .inl g]) (by decide +kernel) (by show 2 = _; decide +kernel) (by rw [show (gm_me 17).2.1 = 0 by decide +kernel]; rfl) (by show 2 = _; decide +kernel) ?_
  rw [show gm_rc 17 = 2 by decide +kernel]
  refine gh_iload_n (show gh_at (gm_me 17).1 0 = some (0, 1, .iload_n 1, 0, 0, []) from rfl) rfl ?_
  refine gh_iconst (x := 0) (show gh_at (gm_me 17).1 1 = some (1, 1, .iconst 0, 0, 0, []) from rfl) (by decide) ?_
  refine gh_aload_n (show gh_at (gm_me 17).1 2 = some (2, 1, .aload_n 0, 0, 0, []) from rfl) rfl rfl ?_
  refine gh_callV (r := 1891) (as := []) (t := [.inl 0, .inl g]) (show gh_at (gm_me 17).1 3 = some (3, 3, .invokevirtual 338, 11, 0, [(0, 1399)]) from rfl) (by decide) rfl (by show 1 = _; decide +kernel) (Nat.le_trans (gh_wd _) (Nat.le_of_ble_eq_true rfl)) rfl (by decide +kernel) (by decide +kernel) (Ψ := fun v σ2 => σ2 = σ ∧ v = .inl (f : Int)) (gz_folk (d := d) hb hW ⟨rfl, rfl⟩) gh_mono (fun v σ2 hv => ?_)
  obtain ⟨e2, rfl⟩ := hv
  rw [e2, show gm_rc 11 = 1 by decide +kernel]
  show gp_ok _ _ _ _ _ _ _ (.inl (f : Int) :: _) _
  refine gh_iconst (x := 1) (show gh_at (gm_me 17).1 6 = some (6, 1, .iconst 1, 8, 0, []) from rfl) (by decide) ?_
  refine gh_isub (z := (f : Int) - 1) (show gh_at (gm_me 17).1 7 = some (7, 1, .isub, 0, 0, []) from rfl) (gh_sub (by unfold gh_r; omega) (by unfold gh_r; omega) (by unfold gh_r; omega)) ?_
  refine gh_callS (as := [.inl g, .inl 0, .inl ((f : Int) - 1)]) (t := []) (show gh_at (gm_me 17).1 8 = some (8, 3, .invokestatic 348, 9, 0, [(0, 1419)]) from rfl) (by decide) rfl (by show 3 = _; decide +kernel) (by decide) (Ψ := fun v σ2 => σ2 = σ ∧ ((v = .inl 1 ∧ 0 ≤ g ∧ g ≤ (f : Int) - 1) ∨ (v = .inl 0 ∧ ¬ (0 ≤ g ∧ g ≤ (f : Int) - 1)))) (gz_in (d := d) (fun q => ⟨rfl, Or.inl ⟨rfl, q⟩⟩) (fun q => ⟨rfl, Or.inr ⟨rfl, q⟩⟩)) gh_mono (fun v σ2 hv => ?_)
  obtain ⟨e2, hv⟩ := hv
  rw [e2, show gm_rc 9 = 2 by decide +kernel]
  rcases hv with ⟨rfl, hl⟩ | ⟨rfl, hl⟩
  · show gp_ok _ _ _ _ _ _ _ [.inl 1] _
    refine gh_iret (show gh_at (gm_me 17).1 11 = some (11, 1, .ireturn, 0, 0, []) from rfl) ?_
    exact Or.inr ⟨rfl, Or.inr rfl, h1 (by omega)⟩
  · show gp_ok _ _ _ _ _ _ _ [.inl 0] _
    refine gh_iret (show gh_at (gm_me 17).1 11 = some (11, 1, .ireturn, 0, 0, []) from rfl) ?_
    exact Or.inr ⟨rfl, Or.inl rfl, h0 (by omega)⟩
theorem gz_behind {b f : Nat} {d : Nat} {σ : gp_S} {Φ : gp_F} {g : Int} (hb : b < 2) (hf : f < 8) (hW : gt_W (gs_wm b f) σ) (h0 : Φ (.inl 0) σ) (h1 : ∀ n : Nat, n < f → σ 260 n = g → 0 ≤ σ 260 24 → σ 260 24 < (n : Int) → Φ (.inl 1) σ) : gp_call gs_sh (d + 3) 30 [.inr 1891, .inl g] σ Φ := by
  refine gh_call (al := [.inr 1891, .inl g]) (by decide +kernel) (by show 2 = _; decide +kernel) (by rw [show (gm_me 30).2.1 = 0 by decide +kernel]; rfl) (by show 2 = _; decide +kernel) ?_
  rw [show gm_rc 30 = 2 by decide +kernel]
  refine gh_aload_n (show gh_at (gm_me 30).1 0 = some (0, 1, .aload_n 0, 0, 0, []) from rfl) rfl rfl ?_
  refine gh_iload_n (show gh_at (gm_me 30).1 1 = some (1, 1, .iload_n 1, 0, 0, []) from rfl) rfl ?_
  refine gh_callV (r := 1891) (as := [.inl g]) (t := []) (show gh_at (gm_me 30).1 2 = some (2, 3, .invokevirtual 355, 17, 0, [(0, 1415)]) from rfl) (by decide) rfl (by show 2 = _; decide +kernel) (Nat.le_trans (gh_wd _) (Nat.le_of_ble_eq_true rfl)) rfl (by decide +kernel) (by decide +kernel) (Ψ := fun v σ2 => σ2 = σ ∧ (v = .inl 1 ∨ v = .inl 0)) (gz_isGuest (d := d) hb hf hW (fun _ => ⟨rfl, Or.inl rfl⟩) (fun _ => ⟨rfl, Or.inr rfl⟩)) gh_mono (fun v σ2 hv => ?_)
  obtain ⟨e2, hv⟩ := hv
  rw [e2, show gm_rc 17 = 2 by decide +kernel]
  rcases hv with rfl | rfl
  · refine gh_if (show gh_at (gm_me 30).1 5 = some (5, 3, .ifCond .eq (29), 0, 34, []) from rfl) (fun q => absurd (show (1 : Int) = 0 from q) (by decide)) (fun _ => ?_)
    refine gh_aload_n (show gh_at (gm_me 30).1 8 = some (8, 1, .aload_n 0, 0, 0, []) from rfl) rfl rfl ?_
    refine gh_callV (r := 1891) (as := []) (t := []) (show gh_at (gm_me 30).1 9 = some (9, 3, .invokevirtual 358, 2, 0, [(0, 1422)]) from rfl) (by decide) rfl (by show 1 = _; decide +kernel) (Nat.le_trans (gh_wd _) (Nat.le_of_ble_eq_true rfl)) rfl (by decide +kernel) (by decide +kernel) (Ψ := fun v σ2 => σ2 = σ ∧ ((v = .inl 1 ∧ σ 260 24 < 0) ∨ (v = .inl 0 ∧ 0 ≤ σ 260 24))) (gz_over (d := d + 1) (fun q => ⟨rfl, Or.inl ⟨rfl, q⟩⟩) (fun q => ⟨rfl, Or.inr ⟨rfl, q⟩⟩)) gh_mono (fun v σ2 hv => ?_)
    obtain ⟨e2, hv⟩ := hv
    rw [e2, show gm_rc 2 = 2 by decide +kernel]
    rcases hv with ⟨rfl, ho⟩ | ⟨rfl, ho⟩
    · refine gh_if (show gh_at (gm_me 30).1 12 = some (12, 3, .ifCond .ne (22), 0, 34, []) from rfl) (fun _ => ?_) (fun q => absurd (show ¬ (1 : Int) = 0 by decide) q)
      refine gh_iconst (x := 0) (show gh_at (gm_me 30).1 34 = some (34, 1, .iconst 0, 0, 0, []) from rfl) (by decide) ?_
      refine gh_iret (show gh_at (gm_me 30).1 35 = some (35, 1, .ireturn, 0, 0, []) from rfl) ?_
      exact Or.inr ⟨rfl, Or.inl rfl, h0⟩
    · refine gh_if (show gh_at (gm_me 30).1 12 = some (12, 3, .ifCond .ne (22), 0, 34, []) from rfl) (fun q => absurd rfl q) (fun _ => ?_)
      refine gh_aload_n (show gh_at (gm_me 30).1 15 = some (15, 1, .aload_n 0, 0, 0, []) from rfl) rfl rfl ?_
      refine gh_iload_n (show gh_at (gm_me 30).1 16 = some (16, 1, .iload_n 1, 0, 0, []) from rfl) rfl ?_
      refine gh_callV (r := 1891) (as := [.inl g]) (t := []) (show gh_at (gm_me 30).1 17 = some (17, 3, .invokevirtual 361, 220, 0, [(0, 1426)]) from rfl) (by decide) rfl (by show 2 = _; decide +kernel) (Nat.le_trans (gh_wd _) (Nat.le_of_ble_eq_true rfl)) rfl (by decide +kernel) (by decide +kernel) (Ψ := fun v σ2 => σ2 = σ ∧ (v = .inl (-1) ∨ ∃ n : Nat, n < f ∧ σ 260 n = g ∧ v = .inl (n : Int))) (gz_seatOf (d := d) hb hf hW (fun _ => ⟨rfl, Or.inl rfl⟩) (fun n q1 q2 => ⟨rfl, Or.inr ⟨n, q1, q2, rfl⟩⟩)) gh_mono (fun v σ2 hv => ?_)
      obtain ⟨e2, hv⟩ := hv
      rw [e2, show gm_rc 220 = 1 by decide +kernel]
      rcases hv with rfl | ⟨n, q1, q2, rfl⟩
      · show gp_ok _ _ _ _ _ _ _ [.inl (-1)] _
        refine gh_aload_n (show gh_at (gm_me 30).1 20 = some (20, 1, .aload_n 0, 0, 0, []) from rfl) rfl rfl ?_
        refine gh_get (show gh_at (gm_me 30).1 21 = some (21, 3, .getfield 85, 1, 38, [(0, 1479)]) from rfl) rfl (by decide +kernel) (by decide +kernel) (gh_rdr (r := 2083) (by decide +kernel) rfl) ?_
        refine gh_bipush (x := 24) (show gh_at (gm_me 30).1 24 = some (24, 2, .bipush (24), 192, 0, []) from rfl) (by decide) ?_
        refine gh_iald (show gh_at (gm_me 30).1 26 = some (26, 1, .iaload, 0, 0, []) from rfl) rfl (by decide +kernel) (by decide +kernel) (gh_ix (N := 29) (by decide +kernel) (by decide) (by decide)) (gh_rd0 (gh_pk0 (by decide +kernel) _)) ?_
        refine gh_icmp (show gh_at (gm_me 30).1 27 = some (27, 3, .if_icmp .le (7), 0, 34, []) from rfl) (fun hc => ?_) (fun hc => ?_)
        · refine gh_iconst (x := 0) (show gh_at (gm_me 30).1 34 = some (34, 1, .iconst 0, 0, 0, []) from rfl) (by decide) ?_
          refine gh_iret (show gh_at (gm_me 30).1 35 = some (35, 1, .ireturn, 0, 0, []) from rfl) ?_
          exact Or.inr ⟨rfl, Or.inl rfl, h0⟩
        · have hc : ¬ (-1) ≤ σ 260 24 := hc
          omega
      · show gp_ok _ _ _ _ _ _ _ [.inl (n : Int)] _
        refine gh_aload_n (show gh_at (gm_me 30).1 20 = some (20, 1, .aload_n 0, 0, 0, []) from rfl) rfl rfl ?_
        refine gh_get (show gh_at (gm_me 30).1 21 = some (21, 3, .getfield 85, 1, 38, [(0, 1479)]) from rfl) rfl (by decide +kernel) (by decide +kernel) (gh_rdr (r := 2083) (by decide +kernel) rfl) ?_
        refine gh_bipush (x := 24) (show gh_at (gm_me 30).1 24 = some (24, 2, .bipush (24), 192, 0, []) from rfl) (by decide) ?_
        refine gh_iald (show gh_at (gm_me 30).1 26 = some (26, 1, .iaload, 0, 0, []) from rfl) rfl (by decide +kernel) (by decide +kernel) (gh_ix (N := 29) (by decide +kernel) (by decide) (by decide)) (gh_rd0 (gh_pk0 (by decide +kernel) _)) ?_
        refine gh_icmp (show gh_at (gm_me 30).1 27 = some (27, 3, .if_icmp .le (7), 0, 34, []) from rfl) (fun hc => ?_) (fun hc => ?_)
        · refine gh_iconst (x := 0) (show gh_at (gm_me 30).1 34 = some (34, 1, .iconst 0, 0, 0, []) from rfl) (by decide) ?_
          refine gh_iret (show gh_at (gm_me 30).1 35 = some (35, 1, .ireturn, 0, 0, []) from rfl) ?_
          exact Or.inr ⟨rfl, Or.inl rfl, h0⟩
        · have hc : ¬ (n : Int) ≤ σ 260 24 := hc
          refine gh_iconst (x := 1) (show gh_at (gm_me 30).1 30 = some (30, 1, .iconst 1, 8, 0, []) from rfl) (by decide) ?_
          refine gh_goto (show gh_at (gm_me 30).1 31 = some (31, 3, .goto (4), 0, 35, []) from rfl) ?_
          refine gh_iret (show gh_at (gm_me 30).1 35 = some (35, 1, .ireturn, 0, 0, []) from rfl) ?_
          exact Or.inr ⟨rfl, Or.inr rfl, h1 n q1 q2 ho (by omega)⟩
  · refine gh_if (show gh_at (gm_me 30).1 5 = some (5, 3, .ifCond .eq (29), 0, 34, []) from rfl) (fun _ => ?_) (fun q => absurd rfl q)
    refine gh_iconst (x := 0) (show gh_at (gm_me 30).1 34 = some (34, 1, .iconst 0, 0, 0, []) from rfl) (by decide) ?_
    refine gh_iret (show gh_at (gm_me 30).1 35 = some (35, 1, .ireturn, 0, 0, []) from rfl) ?_
    exact Or.inr ⟨rfl, Or.inl rfl, h0⟩
