/-! tables -/
theorem gh_ph (r : Nat → Int) : ∀ (g n : Nat), (∀ t : Nat, t < n → ∃ o : Nat, o < g ∧ r o = (t : Int)) → n ≤ g := by
  intro g
  induction g generalizing r with
  | zero =>
    intro n h
    cases n with
    | zero => exact Nat.le_refl _
    | succ n => obtain ⟨o, ho, -⟩ := h 0 (by omega); omega
  | succ g ih =>
    intro n h
    cases n with
    | zero => omega
    | succ n =>
      have h2 := ih (fun i => if r i = (n : Int) then r g else r i) n (fun t ht => by
        obtain ⟨o, ho, he⟩ := h t (by omega)
        obtain ⟨w, hw, hn⟩ := h n (by omega)
        by_cases e : o = g
        · subst e
          have : ¬ w = o := fun q => by subst q; omega
          exact ⟨w, by omega, by show (if r w = (n : Int) then r o else r w) = _; rw [if_pos hn]; exact he⟩
        · exact ⟨o, by omega, by show (if r o = (n : Int) then r g else r o) = _; rw [if_neg (by omega)]; exact he⟩)
      omega
theorem gh_fr0 {σ σ' : gp_S} (h : gt_fr [] σ σ') : σ' = σ := by
  funext c j
  exact h c j rfl
def gs_lml : List (Nat × Nat) := [(265, 1048576)]

theorem gz_easy {b f : Nat} {σ : gp_S} {G : Nat} (hb : b < 2) (hf : f < 8) (hG : G < 7) (hW : gt_W (gs_wm b f) σ) (hX : gm_X f σ) : gp_call gs_sh 3 240 [.inr 1891, .inl (G : Int)] σ (fun v σ' => σ' = σ ∧ (v = .inl 1 ∨ (v = .inl 0 ∧ ∃ o : Nat, o < G ∧ σ 265 o = σ 265 G))) := by
  refine gh_call (al := [.inr 1891, .inl (G : Int), .inr 7]) (by decide +kernel) (by show 2 = _; decide +kernel) (by rw [show (gm_me 240).2.1 = 1 by decide +kernel]; rfl) (by show 3 = _; decide +kernel) ?_
  rw [show gm_rc 240 = 2 by decide +kernel]
  have loop : ∀ (m o : Nat), G - o ≤ m → o ≤ G → gp_ok gs_sh (gp_call gs_sh 2) 2 (gm_me 240).1 (fun v σ' => σ' = σ ∧ (v = .inl 1 ∨ (v = .inl 0 ∧ ∃ o : Nat, o < G ∧ σ 265 o = σ 265 G))) 2 [.inr 1891, .inl (G : Int), .inl (o : Int)] [] σ := by
    intro m
    induction m with
    | zero =>
      intro o hm ho
      refine gh_iload_n (show gh_at (gm_me 240).1 2 = some (2, 1, .iload_n 2, 0, 0, []) from rfl) rfl ?_
      refine gh_iload_n (show gh_at (gm_me 240).1 3 = some (3, 1, .iload_n 1, 0, 0, []) from rfl) rfl ?_
      refine gh_icmp (show gh_at (gm_me 240).1 4 = some (4, 3, .if_icmp .ge (35), 0, 39, []) from rfl) (fun hc => ?_) (fun hc => ?_)
      · refine gh_iconst (x := 1) (show gh_at (gm_me 240).1 39 = some (39, 1, .iconst 1, 8, 0, []) from rfl) (by decide) ?_
        refine gh_iret (show gh_at (gm_me 240).1 40 = some (40, 1, .ireturn, 0, 0, []) from rfl) ?_
        exact Or.inr ⟨rfl, Or.inr rfl, rfl, Or.inl rfl⟩
      · have hc : ¬ (G : Int) ≤ (o : Int) := hc
        omega
    | succ m ih =>
      intro o hm ho
      refine gh_iload_n (show gh_at (gm_me 240).1 2 = some (2, 1, .iload_n 2, 0, 0, []) from rfl) rfl ?_
      refine gh_iload_n (show gh_at (gm_me 240).1 3 = some (3, 1, .iload_n 1, 0, 0, []) from rfl) rfl ?_
      refine gh_icmp (show gh_at (gm_me 240).1 4 = some (4, 3, .if_icmp .ge (35), 0, 39, []) from rfl) (fun hc => ?_) (fun hc => ?_)
      · refine gh_iconst (x := 1) (show gh_at (gm_me 240).1 39 = some (39, 1, .iconst 1, 8, 0, []) from rfl) (by decide) ?_
        refine gh_iret (show gh_at (gm_me 240).1 40 = some (40, 1, .ireturn, 0, 0, []) from rfl) ?_
        exact Or.inr ⟨rfl, Or.inr rfl, rfl, Or.inl rfl⟩
      · have hc : ¬ (G : Int) ≤ (o : Int) := hc
        refine gh_aload_n (show gh_at (gm_me 240).1 7 = some (7, 1, .aload_n 0, 0, 0, []) from rfl) rfl rfl ?_
        refine gh_get (show gh_at (gm_me 240).1 8 = some (8, 3, .getfield 106, 1, 48, [(0, 1489)]) from rfl) rfl (by decide +kernel) (by decide +kernel) (gh_rdr (r := 2123) (by decide +kernel) rfl) ?_
        refine gh_iload_n (show gh_at (gm_me 240).1 11 = some (11, 1, .iload_n 2, 0, 0, []) from rfl) rfl ?_
        refine gh_iald (show gh_at (gm_me 240).1 12 = some (12, 1, .iaload, 0, 0, []) from rfl) rfl (by decide +kernel) (by decide +kernel) (gh_ix (N := 7) (by decide +kernel) (by omega) (by omega)) (gh_rd0 (gh_pk0 (by decide +kernel) _)) ?_
        rw [show ((o : Int)).toNat = o by omega]
        show gp_ok _ _ _ _ _ _ _ [.inl (σ 265 o)] _
        refine gh_aload_n (show gh_at (gm_me 240).1 13 = some (13, 1, .aload_n 0, 0, 0, []) from rfl) rfl rfl ?_
        refine gh_get (show gh_at (gm_me 240).1 14 = some (14, 3, .getfield 106, 1, 48, [(0, 1489)]) from rfl) rfl (by decide +kernel) (by decide +kernel) (gh_rdr (r := 2123) (by decide +kernel) rfl) ?_
        refine gh_iload_n (show gh_at (gm_me 240).1 17 = some (17, 1, .iload_n 1, 0, 0, []) from rfl) rfl ?_
        refine gh_iald (show gh_at (gm_me 240).1 18 = some (18, 1, .iaload, 0, 0, []) from rfl) rfl (by decide +kernel) (by decide +kernel) (gh_ix (N := 7) (by decide +kernel) (by omega) (by omega)) (gh_rd0 (gh_pk0 (by decide +kernel) _)) ?_
        rw [show ((G : Int)).toNat = G by omega]
        show gp_ok _ _ _ _ _ _ _ [.inl (σ 265 G), .inl (σ 265 o)] _
        refine gh_icmp (show gh_at (gm_me 240).1 19 = some (19, 3, .if_icmp .ne (14), 0, 33, []) from rfl) (fun hd => ?_) (fun hd => ?_)
        · refine gh_iinc (show gh_at (gm_me 240).1 33 = some (33, 3, .iinc 2 (1), 8, 0, []) from rfl) rfl (fun c q => by cases q <;> decide) (y := ((o + 1 : Nat) : Int)) (by rw [gh_add (by unfold gh_r; omega) (by show gh_r 1; unfold gh_r; omega) (by show gh_r ((o : Int) + 1); unfold gh_r; omega)]; show (o : Int) + 1 = _; omega) rfl ?_
          refine gh_goto (show gh_at (gm_me 240).1 36 = some (36, 3, .goto (-34), 0, 2, []) from rfl) ?_
          exact ih (o + 1) (by omega) (by omega)
        · have hd : σ 265 o = σ 265 G := Decidable.not_not.mp hd
          refine gh_aload_n (show gh_at (gm_me 240).1 22 = some (22, 1, .aload_n 0, 0, 0, []) from rfl) rfl rfl ?_
          refine gh_iload_n (show gh_at (gm_me 240).1 23 = some (23, 1, .iload_n 1, 0, 0, []) from rfl) rfl ?_
          refine gh_iload_n (show gh_at (gm_me 240).1 24 = some (24, 1, .iload_n 2, 0, 0, []) from rfl) rfl ?_
          refine gh_callV (r := 1891) (as := [.inl (G : Int), .inl (o : Int)]) (t := []) (show gh_at (gm_me 240).1 25 = some (25, 3, .invokevirtual 371, 223, 0, [(0, 1430)]) from rfl) (by decide) rfl (by show 3 = _; decide +kernel) (Nat.le_trans (gh_wd _) (Nat.le_of_ble_eq_true rfl)) rfl (by decide +kernel) (by decide +kernel) (cn_2 hb hf [.inr 1891, .inl (G : Int), .inl (o : Int)] σ hW hX (fun p hp => by cases hp) ⟨Or.inr (Or.inl ⟨rfl, rfl⟩), gh_mk (by decide) (by unfold gh_r; omega) (by omega) (by omega), gh_mk (by decide) (by unfold gh_r; omega) (by omega) (by omega), trivial⟩) gh_mono (fun v σ9 hv => ?_)
          rw [show gm_rc 223 = 2 by decide +kernel]
          obtain ⟨-, -, F9, hr⟩ := hv
          have e9 : σ9 = σ := gh_fr0 F9
          subst e9
          obtain ⟨z, rfl, -⟩ := gh_tvi (t := 73786976312018075658) (by decide) (hr.resolve_left (by show ¬ gm_rc 223 = 0; decide +kernel))
          refine gh_if (show gh_at (gm_me 240).1 28 = some (28, 3, .ifCond .eq (5), 0, 33, []) from rfl) (fun hz => ?_) (fun hz => ?_)
          · refine gh_iinc (show gh_at (gm_me 240).1 33 = some (33, 3, .iinc 2 (1), 8, 0, []) from rfl) rfl (fun c q => by cases q <;> decide) (y := ((o + 1 : Nat) : Int)) (by rw [gh_add (by unfold gh_r; omega) (by show gh_r 1; unfold gh_r; omega) (by show gh_r ((o : Int) + 1); unfold gh_r; omega)]; show (o : Int) + 1 = _; omega) rfl ?_
            refine gh_goto (show gh_at (gm_me 240).1 36 = some (36, 3, .goto (-34), 0, 2, []) from rfl) ?_
            exact ih (o + 1) (by omega) (by omega)
          · refine gh_iconst (x := 0) (show gh_at (gm_me 240).1 31 = some (31, 1, .iconst 0, 0, 0, []) from rfl) (by decide) ?_
            refine gh_iret (show gh_at (gm_me 240).1 32 = some (32, 1, .ireturn, 0, 0, []) from rfl) ?_
            exact Or.inr ⟨rfl, Or.inl rfl, rfl, Or.inr ⟨rfl, o, by omega, hd⟩⟩
  refine gh_iconst (x := 0) (show gh_at (gm_me 240).1 0 = some (0, 1, .iconst 0, 0, 0, []) from rfl) (by decide) ?_
  refine gh_istore_n (show gh_at (gm_me 240).1 1 = some (1, 1, .istore_n 2, 0, 0, []) from rfl) (fun c q => by cases q <;> decide) rfl ?_
  exact loop G 0 (by omega) (by omega)
theorem gz_canSeat {b f : Nat} {σ : gp_S} {n : Nat} (hb : b < 2) (hf : f < 8) (hn : n ≤ f) (hW : gt_W (gs_wm b f) σ) (hX : gm_X f σ) : gp_call gs_sh 4 140 [.inr 1891, .inl (n : Int)] σ (fun v σ' => gt_W (gs_wm b f) σ' ∧ gm_X f σ' ∧ gt_fr gs_lml σ σ' ∧ (v = .inl 1 ∨ (v = .inl 0 ∧ ¬ n = f))) := by
  refine gh_call (al := [.inr 1891, .inl (n : Int), .inr 7, .inr 7]) (by decide +kernel) (by show 2 = _; decide +kernel) (by rw [show (gm_me 140).2.1 = 2 by decide +kernel]; rfl) (by show 4 = _; decide +kernel) ?_
  rw [show gm_rc 140 = 2 by decide +kernel]
  have fin : ∀ σ1, gt_W (gs_wm b f) σ1 → gm_X f σ1 → gt_fr gs_lml σ σ1 → gp_ok gs_sh (gp_call gs_sh 3) 2 (gm_me 140).1 (fun v σ' => gt_W (gs_wm b f) σ' ∧ gm_X f σ' ∧ gt_fr gs_lml σ σ' ∧ (v = .inl 1 ∨ (v = .inl 0 ∧ ¬ n = f))) 25 [.inr 1891, .inl (n : Int), .inl (f : Int), .inl (f : Int)] [] σ1 := by
    intro σ1 W1 X1 F1
    refine gh_iload_n (show gh_at (gm_me 140).1 25 = some (25, 1, .iload_n 2, 0, 0, []) from rfl) rfl ?_
    refine gh_if (show gh_at (gm_me 140).1 26 = some (26, 3, .ifCond .lt (58), 0, 84, []) from rfl) (fun hc => absurd (show (f : Int) < 0 from hc) (by omega)) (fun hc => ?_)
    refine gh_iload_n (show gh_at (gm_me 140).1 29 = some (29, 1, .iload_n 2, 0, 0, []) from rfl) rfl ?_
    refine gh_aload_n (show gh_at (gm_me 140).1 30 = some (30, 1, .aload_n 0, 0, 0, []) from rfl) rfl rfl ?_
    refine gh_callV (r := 1891) (as := []) (t := [.inl (f : Int)]) (show gh_at (gm_me 140).1 31 = some (31, 3, .invokevirtual 338, 11, 0, [(0, 1399)]) from rfl) (by decide) rfl (by show 1 = _; decide +kernel) (Nat.le_trans (gh_wd _) (Nat.le_of_ble_eq_true rfl)) rfl (by decide +kernel) (by decide +kernel) (Ψ := fun v σ9 => σ9 = σ1 ∧ v = .inl (f : Int)) (gz_folk (d := 2) hb W1 ⟨rfl, rfl⟩) gh_mono (fun v σ9 hv => ?_)
    obtain ⟨e9, rfl⟩ := hv
    rw [e9, show gm_rc 11 = 1 by decide +kernel]
    show gp_ok _ _ _ _ _ _ _ (.inl (f : Int) :: _) _
    refine gh_icmp (show gh_at (gm_me 140).1 34 = some (34, 3, .if_icmp .ge (50), 0, 84, []) from rfl) (fun hc => ?_) (fun hc => absurd (Int.le_refl _) hc)
    refine gh_iload_n (show gh_at (gm_me 140).1 84 = some (84, 1, .iload_n 2, 0, 0, []) from rfl) rfl ?_
    refine gh_if (show gh_at (gm_me 140).1 85 = some (85, 3, .ifCond .lt (7), 0, 92, []) from rfl) (fun hc => absurd (show (f : Int) < 0 from hc) (by omega)) (fun hc => ?_)
    refine gh_iconst (x := 1) (show gh_at (gm_me 140).1 88 = some (88, 1, .iconst 1, 8, 0, []) from rfl) (by decide) ?_
    refine gh_goto (show gh_at (gm_me 140).1 89 = some (89, 3, .goto (4), 0, 93, []) from rfl) ?_
    refine gh_iret (show gh_at (gm_me 140).1 93 = some (93, 1, .ireturn, 0, 0, []) from rfl) ?_
    exact Or.inr ⟨rfl, Or.inr rfl, W1, X1, F1, Or.inl rfl⟩
  have away : ∀ σ1, ¬ n = f → gt_W (gs_wm b f) σ1 → gm_X f σ1 → gt_fr gs_lml σ σ1 → gp_ok gs_sh (gp_call gs_sh 3) 2 (gm_me 140).1 (fun v σ' => gt_W (gs_wm b f) σ' ∧ gm_X f σ' ∧ gt_fr gs_lml σ σ' ∧ (v = .inl 1 ∨ (v = .inl 0 ∧ ¬ n = f))) 25 [.inr 1891, .inl (n : Int), .inl (-1), .inl (f : Int)] [] σ1 := by
    intro σ1 hne W1 X1 F1
    refine gh_iload_n (show gh_at (gm_me 140).1 25 = some (25, 1, .iload_n 2, 0, 0, []) from rfl) rfl ?_
    refine gh_if (show gh_at (gm_me 140).1 26 = some (26, 3, .ifCond .lt (58), 0, 84, []) from rfl) (fun hc => ?_) (fun hc => absurd (show (-1 : Int) < 0 by omega) hc)
    refine gh_iload_n (show gh_at (gm_me 140).1 84 = some (84, 1, .iload_n 2, 0, 0, []) from rfl) rfl ?_
    refine gh_if (show gh_at (gm_me 140).1 85 = some (85, 3, .ifCond .lt (7), 0, 92, []) from rfl) (fun hc => ?_) (fun hc => absurd (show (-1 : Int) < 0 by omega) hc)
    refine gh_iconst (x := 0) (show gh_at (gm_me 140).1 92 = some (92, 1, .iconst 0, 0, 0, []) from rfl) (by decide) ?_
    refine gh_iret (show gh_at (gm_me 140).1 93 = some (93, 1, .ireturn, 0, 0, []) from rfl) ?_
    exact Or.inr ⟨rfl, Or.inl rfl, W1, X1, F1, Or.inr ⟨rfl, hne⟩⟩
  have main : ∀ (u g : Nat), f - g ≤ u → g < f → ∀ (m : Nat) (σ1 : gp_S) (x : Int), (n : Int) - x ≤ m → -1 ≤ x → x < n → gt_W (gs_wm b f) σ1 → gm_X f σ1 → gt_fr gs_lml σ σ1 → σ1 265 g = x → (∀ i : Nat, g < i → i < f → σ1 265 i = -1) → (n = f → ∀ t : Nat, (t : Int) ≤ x → ∃ o : Nat, o < g ∧ σ1 265 o = (t : Int)) → (∀ σ2, ¬ n = f → gt_W (gs_wm b f) σ2 → gm_X f σ2 → gt_fr gs_lml σ σ2 → (∀ i : Nat, i < g → σ2 265 i = σ1 265 i) → (∀ i : Nat, g ≤ i → i < f → σ2 265 i = -1) → gp_ok gs_sh (gp_call gs_sh 3) 2 (gm_me 140).1 (fun v σ' => gt_W (gs_wm b f) σ' ∧ gm_X f σ' ∧ gt_fr gs_lml σ σ' ∧ (v = .inl 1 ∨ (v = .inl 0 ∧ ¬ n = f))) 25 [.inr 1891, .inl (n : Int), .inl ((g : Int) + -1), .inl (f : Int)] [] σ2) → gp_ok gs_sh (gp_call gs_sh 3) 2 (gm_me 140).1 (fun v σ' => gt_W (gs_wm b f) σ' ∧ gm_X f σ' ∧ gt_fr gs_lml σ σ' ∧ (v = .inl 1 ∨ (v = .inl 0 ∧ ¬ n = f))) 25 [.inr 1891, .inl (n : Int), .inl (g : Int), .inl (f : Int)] [] σ1 := by
    intro u
    induction u with
    | zero => intro g h1 h2; omega
    | succ u ihu =>
      intro g hu hg m
      induction m with
      | zero =>
        intro σ1 x hm h1 h2 W1 X1 F1 hx hR hP K
        omega
      | succ m ih =>
        intro σ1 x hm h1 h2 W1 X1 F1 hx hR hP K
        refine gh_iload_n (show gh_at (gm_me 140).1 25 = some (25, 1, .iload_n 2, 0, 0, []) from rfl) rfl ?_
        refine gh_if (show gh_at (gm_me 140).1 26 = some (26, 3, .ifCond .lt (58), 0, 84, []) from rfl) (fun hc => absurd (show (g : Int) < 0 from hc) (by omega)) (fun hc => ?_)
        refine gh_iload_n (show gh_at (gm_me 140).1 29 = some (29, 1, .iload_n 2, 0, 0, []) from rfl) rfl ?_
        refine gh_aload_n (show gh_at (gm_me 140).1 30 = some (30, 1, .aload_n 0, 0, 0, []) from rfl) rfl rfl ?_
        refine gh_callV (r := 1891) (as := []) (t := [.inl (g : Int)]) (show gh_at (gm_me 140).1 31 = some (31, 3, .invokevirtual 338, 11, 0, [(0, 1399)]) from rfl) (by decide) rfl (by show 1 = _; decide +kernel) (Nat.le_trans (gh_wd _) (Nat.le_of_ble_eq_true rfl)) rfl (by decide +kernel) (by decide +kernel) (Ψ := fun v σ9 => σ9 = σ1 ∧ v = .inl (f : Int)) (gz_folk (d := 2) hb W1 ⟨rfl, rfl⟩) gh_mono (fun v σ9 hv => ?_)
        obtain ⟨e9, rfl⟩ := hv
        rw [e9, show gm_rc 11 = 1 by decide +kernel]
        show gp_ok _ _ _ _ _ _ _ (.inl (f : Int) :: _) _
        refine gh_icmp (show gh_at (gm_me 140).1 34 = some (34, 3, .if_icmp .ge (50), 0, 84, []) from rfl) (fun hc => absurd (show (f : Int) ≤ (g : Int) from hc) (by omega)) (fun hc => ?_)
        refine gh_aload_n (show gh_at (gm_me 140).1 37 = some (37, 1, .aload_n 0, 0, 0, []) from rfl) rfl rfl ?_
        refine gh_get (show gh_at (gm_me 140).1 38 = some (38, 3, .getfield 106, 1, 48, [(0, 1489)]) from rfl) rfl (by decide +kernel) (by decide +kernel) (gh_rdr (r := 2123) (by decide +kernel) rfl) ?_
        refine gh_iload_n (show gh_at (gm_me 140).1 41 = some (41, 1, .iload_n 2, 0, 0, []) from rfl) rfl ?_
        refine gh_dup2 (show gh_at (gm_me 140).1 42 = some (42, 1, .dup2, 0, 0, []) from rfl) rfl rfl ?_
        refine gh_iald (show gh_at (gm_me 140).1 43 = some (43, 1, .iaload, 0, 0, []) from rfl) rfl (by decide +kernel) (by decide +kernel) (gh_ix (N := 7) (by decide +kernel) (by omega) (by omega)) (gh_rd0 (gh_pk0 (by decide +kernel) _)) ?_
        rw [show ((g : Int)).toNat = g by omega, show σ1 (2123 / 8) g = x from hx]
        refine gh_iconst (x := 1) (show gh_at (gm_me 140).1 44 = some (44, 1, .iconst 1, 8, 0, []) from rfl) (by decide) ?_
        refine gh_iadd (z := x + 1) (show gh_at (gm_me 140).1 45 = some (45, 1, .iadd, 0, 0, []) from rfl) (gh_add (by unfold gh_r; omega) (by unfold gh_r; omega) (by unfold gh_r; omega)) ?_
        refine gh_iast (show gh_at (gm_me 140).1 46 = some (46, 1, .iastore, 0, 0, []) from rfl) rfl (by decide +kernel) (by decide +kernel) (gh_ix (N := 7) (by decide +kernel) (by omega) (by omega)) (gh_pk0 (by decide +kernel) _) ?_
        rw [show ((g : Int)).toNat = g by omega]
        show gp_ok _ _ _ _ _ _ _ [] (gp_up σ1 265 g (x + 1))
        have W3 : gt_W (gs_wm b f) (gp_up σ1 265 g (x + 1)) := gh_Wu W1 (c := 265) (j := g) (x := x + 1) (fun _ => gh_any (by unfold gh_r; omega))
        have X3 : gm_X f (gp_up σ1 265 g (x + 1)) := gm_Xu X1 rfl
        have F3 : gt_fr gs_lml σ (gp_up σ1 265 g (x + 1)) := gh_fu F1 (gb_mo_mem _ (by decide))
        have h3 : (gp_up σ1 265 g (x + 1)) 265 g = x + 1 := gh_up_eq _ _ _ _
        have n3 : ∀ i, ¬ i = g → (gp_up σ1 265 g (x + 1)) 265 i = σ1 265 i := fun i q => gh_up_ne (fun e => q e.2)
        generalize (gp_up σ1 265 g (x + 1)) = σ3 at W3 X3 F3 h3 n3 ⊢
        refine gh_aload_n (show gh_at (gm_me 140).1 47 = some (47, 1, .aload_n 0, 0, 0, []) from rfl) rfl rfl ?_
        refine gh_get (show gh_at (gm_me 140).1 48 = some (48, 3, .getfield 106, 1, 48, [(0, 1489)]) from rfl) rfl (by decide +kernel) (by decide +kernel) (gh_rdr (r := 2123) (by decide +kernel) rfl) ?_
        refine gh_iload_n (show gh_at (gm_me 140).1 51 = some (51, 1, .iload_n 2, 0, 0, []) from rfl) rfl ?_
        refine gh_iald (show gh_at (gm_me 140).1 52 = some (52, 1, .iaload, 0, 0, []) from rfl) rfl (by decide +kernel) (by decide +kernel) (gh_ix (N := 7) (by decide +kernel) (by omega) (by omega)) (gh_rd0 (gh_pk0 (by decide +kernel) _)) ?_
        rw [show ((g : Int)).toNat = g by omega, show σ3 (2123 / 8) g = x + 1 from h3]
        refine gh_iload_n (show gh_at (gm_me 140).1 53 = some (53, 1, .iload_n 1, 0, 0, []) from rfl) rfl ?_
        refine gh_icmp (show gh_at (gm_me 140).1 54 = some (54, 3, .if_icmp .lt (16), 0, 70, []) from rfl) (fun hc => ?_) (fun hc => ?_)
        · have hc : x + 1 < (n : Int) := hc
          refine gh_aload_n (show gh_at (gm_me 140).1 70 = some (70, 1, .aload_n 0, 0, 0, []) from rfl) rfl rfl ?_
          refine gh_iload_n (show gh_at (gm_me 140).1 71 = some (71, 1, .iload_n 2, 0, 0, []) from rfl) rfl ?_
          refine gh_callV (r := 1891) (as := [.inl (g : Int)]) (t := []) (show gh_at (gm_me 140).1 72 = some (72, 3, .invokevirtual 490, 240, 0, [(0, 2027)]) from rfl) (by decide) rfl (by show 2 = _; decide +kernel) (Nat.le_trans (gh_wd _) (Nat.le_of_ble_eq_true rfl)) rfl (by decide +kernel) (by decide +kernel) (gz_easy hb hf (G := g) (by omega) W3 X3) gh_mono (fun v σ9 hv => ?_)
          rw [show gm_rc 240 = 2 by decide +kernel]
          obtain ⟨e9, hv⟩ := hv
          subst e9
          rcases hv with rfl | ⟨rfl, o, ho, eo⟩
          · refine gh_if (show gh_at (gm_me 140).1 75 = some (75, 3, .ifCond .eq (-50), 0, 25, []) from rfl) (fun q => absurd (show (1 : Int) = 0 from q) (by decide)) (fun _ => ?_)
            refine gh_iinc (show gh_at (gm_me 140).1 78 = some (78, 3, .iinc 2 (1), 8, 0, []) from rfl) rfl (fun c q => by cases q <;> decide) (y := ((g + 1 : Nat) : Int)) (by rw [gh_add (by unfold gh_r; omega) (by show gh_r 1; unfold gh_r; omega) (by show gh_r ((g : Int) + 1); unfold gh_r; omega)]; show (g : Int) + 1 = _; omega) rfl ?_
            refine gh_goto (show gh_at (gm_me 140).1 81 = some (81, 3, .goto (-56), 0, 25, []) from rfl) ?_
            by_cases eg : g + 1 = f
            · rw [eg]; exact fin σ9 W3 X3 F3
            · refine ihu (g + 1) (by omega) (by omega) (n + 1) σ9 (-1) (by omega) (by omega) (by omega) W3 X3 F3 ((n3 _ (by omega)).trans (hR _ (by omega) (by omega))) (fun i h1 h2 => (n3 i (by omega)).trans (hR i (by omega) h2)) (fun _ t ht => absurd ht (by omega)) (fun σ5 hne W5 X5 F5 a5 b5 => ?_)
              rw [show ((g + 1 : Nat) : Int) + -1 = (g : Int) by omega]
              exact ih σ5 (x + 1) (by omega) (by omega) (by omega) W5 X5 F5 ((a5 g (by omega)).trans h3) (fun i h1 h2 => b5 i (by omega) h2) (fun e => absurd e hne) (fun σ6 q W6 X6 F6 a6 b6 => K σ6 q W6 X6 F6 (fun i hi => ((a6 i hi).trans (a5 i (by omega))).trans (n3 i (by omega))) b6)
          · refine gh_if (show gh_at (gm_me 140).1 75 = some (75, 3, .ifCond .eq (-50), 0, 25, []) from rfl) (fun _ => ?_) (fun q => absurd rfl q)
            refine ih σ9 (x + 1) (by omega) (by omega) (by omega) W3 X3 F3 h3 (fun i h1 h2 => (n3 i (by omega)).trans (hR i h1 h2)) (fun e t ht => ?_) (fun σ6 q W6 X6 F6 a6 b6 => K σ6 q W6 X6 F6 (fun i hi => (a6 i hi).trans (n3 i (by omega))) b6)
            by_cases et : (t : Int) = x + 1
            · exact ⟨o, ho, by rw [et, ← h3]; exact eo⟩
            · obtain ⟨w, hw, he⟩ := hP e t (by omega)
              exact ⟨w, hw, (n3 w (by omega)).trans he⟩
        · have hc : ¬ x + 1 < (n : Int) := hc
          refine gh_aload_n (show gh_at (gm_me 140).1 57 = some (57, 1, .aload_n 0, 0, 0, []) from rfl) rfl rfl ?_
          refine gh_get (show gh_at (gm_me 140).1 58 = some (58, 3, .getfield 106, 1, 48, [(0, 1489)]) from rfl) rfl (by decide +kernel) (by decide +kernel) (gh_rdr (r := 2123) (by decide +kernel) rfl) ?_
          refine gh_iload_n (show gh_at (gm_me 140).1 61 = some (61, 1, .iload_n 2, 0, 0, []) from rfl) rfl ?_
          refine gh_iconst (x := -1) (show gh_at (gm_me 140).1 62 = some (62, 1, .iconst (-1), 34359738360, 0, []) from rfl) (by decide) ?_
          refine gh_iast (show gh_at (gm_me 140).1 63 = some (63, 1, .iastore, 0, 0, []) from rfl) rfl (by decide +kernel) (by decide +kernel) (gh_ix (N := 7) (by decide +kernel) (by omega) (by omega)) (gh_pk0 (by decide +kernel) _) ?_
          rw [show ((g : Int)).toNat = g by omega]
          show gp_ok _ _ _ _ _ _ _ [] (gp_up σ3 265 g (-1))
          have W4 : gt_W (gs_wm b f) (gp_up σ3 265 g (-1)) := gh_Wu W3 (c := 265) (j := g) (x := -1) (fun _ => gh_any (by unfold gh_r; omega))
          have X4 : gm_X f (gp_up σ3 265 g (-1)) := gm_Xu X3 rfl
          have F4 : gt_fr gs_lml σ (gp_up σ3 265 g (-1)) := gh_fu F3 (gb_mo_mem _ (by decide))
          have h4 : (gp_up σ3 265 g (-1)) 265 g = -1 := gh_up_eq _ _ _ _
          have n4 : ∀ i, ¬ i = g → (gp_up σ3 265 g (-1)) 265 i = σ3 265 i := fun i q => gh_up_ne (fun e => q e.2)
          generalize (gp_up σ3 265 g (-1)) = σ4 at W4 X4 F4 h4 n4 ⊢
          refine gh_iinc (show gh_at (gm_me 140).1 64 = some (64, 3, .iinc 2 (-1), 34359738360, 0, []) from rfl) rfl (fun c q => by cases q <;> decide) (y := (g : Int) + -1) (gh_add (by unfold gh_r; omega) (by show gh_r (-1); unfold gh_r; omega) (by show gh_r ((g : Int) + -1); unfold gh_r; omega)) rfl ?_
          refine gh_goto (show gh_at (gm_me 140).1 67 = some (67, 3, .goto (-42), 0, 25, []) from rfl) ?_
          refine K σ4 (fun e => ?_) W4 X4 F4 (fun i hi => (n4 i (by omega)).trans (n3 i (by omega))) (fun i h1 h2 => ?_)
          · have := gh_ph (σ1 265) g n (fun t ht => hP e t (by omega))
            omega
          · by_cases e : i = g
            · rw [e]; exact h4
            · exact ((n4 i e).trans (n3 i e)).trans (hR i (by omega) h2)
  have loop : ∀ (m j : Nat) (σ1 : gp_S), f - j ≤ m → j ≤ f → gt_W (gs_wm b f) σ1 → gm_X f σ1 → gt_fr gs_lml σ σ1 → (∀ i : Nat, i < j → σ1 265 i = -1) → gp_ok gs_sh (gp_call gs_sh 3) 2 (gm_me 140).1 (fun v σ' => gt_W (gs_wm b f) σ' ∧ gm_X f σ' ∧ gt_fr gs_lml σ σ' ∧ (v = .inl 1 ∨ (v = .inl 0 ∧ ¬ n = f))) 4 [.inr 1891, .inl (n : Int), .inl 0, .inl (j : Int)] [] σ1 := by
    intro m
    induction m with
    | zero =>
      intro j σ1 hm hj W1 X1 F1 hl
      refine gh_iload_n (show gh_at (gm_me 140).1 4 = some (4, 1, .iload_n 3, 0, 0, []) from rfl) rfl ?_
      refine gh_aload_n (show gh_at (gm_me 140).1 5 = some (5, 1, .aload_n 0, 0, 0, []) from rfl) rfl rfl ?_
      refine gh_callV (r := 1891) (as := []) (t := [.inl (j : Int)]) (show gh_at (gm_me 140).1 6 = some (6, 3, .invokevirtual 338, 11, 0, [(0, 1399)]) from rfl) (by decide) rfl (by show 1 = _; decide +kernel) (Nat.le_trans (gh_wd _) (Nat.le_of_ble_eq_true rfl)) rfl (by decide +kernel) (by decide +kernel) (Ψ := fun v σ9 => σ9 = σ1 ∧ v = .inl (f : Int)) (gz_folk (d := 2) hb W1 ⟨rfl, rfl⟩) gh_mono (fun v σ9 hv => ?_)
      obtain ⟨e9, rfl⟩ := hv
      rw [e9, show gm_rc 11 = 1 by decide +kernel]
      show gp_ok _ _ _ _ _ _ _ (.inl (f : Int) :: _) _
      refine gh_icmp (show gh_at (gm_me 140).1 9 = some (9, 3, .if_icmp .ge (16), 0, 25, []) from rfl) (fun hc => ?_) (fun hc => ?_)
      · have hc : (f : Int) ≤ (j : Int) := hc
        have ej : j = f := by omega
        subst ej
        by_cases e0 : j = 0
        · subst e0; exact fin σ1 W1 X1 F1
        · exact main j 0 (by omega) (by omega) (n + 1) σ1 (-1) (by omega) (by omega) (by omega) W1 X1 F1 (hl 0 (by omega)) (fun i _ h2 => hl i h2) (fun _ t ht => absurd ht (by omega)) (fun σ2 hne W2 X2 F2 _ _ => away σ2 hne W2 X2 F2)
      · have hc : ¬ (f : Int) ≤ (j : Int) := hc
        omega
    | succ m ih =>
      intro j σ1 hm hj W1 X1 F1 hl
      refine gh_iload_n (show gh_at (gm_me 140).1 4 = some (4, 1, .iload_n 3, 0, 0, []) from rfl) rfl ?_
      refine gh_aload_n (show gh_at (gm_me 140).1 5 = some (5, 1, .aload_n 0, 0, 0, []) from rfl) rfl rfl ?_
      refine gh_callV (r := 1891) (as := []) (t := [.inl (j : Int)]) (show gh_at (gm_me 140).1 6 = some (6, 3, .invokevirtual 338, 11, 0, [(0, 1399)]) from rfl) (by decide) rfl (by show 1 = _; decide +kernel) (Nat.le_trans (gh_wd _) (Nat.le_of_ble_eq_true rfl)) rfl (by decide +kernel) (by decide +kernel) (Ψ := fun v σ9 => σ9 = σ1 ∧ v = .inl (f : Int)) (gz_folk (d := 2) hb W1 ⟨rfl, rfl⟩) gh_mono (fun v σ9 hv => ?_)
      obtain ⟨e9, rfl⟩ := hv
      rw [e9, show gm_rc 11 = 1 by decide +kernel]
      show gp_ok _ _ _ _ _ _ _ (.inl (f : Int) :: _) _
      refine gh_icmp (show gh_at (gm_me 140).1 9 = some (9, 3, .if_icmp .ge (16), 0, 25, []) from rfl) (fun hc => ?_) (fun hc => ?_)
      · have hc : (f : Int) ≤ (j : Int) := hc
        have ej : j = f := by omega
        subst ej
        by_cases e0 : j = 0
        · subst e0; exact fin σ1 W1 X1 F1
        · exact main j 0 (by omega) (by omega) (n + 1) σ1 (-1) (by omega) (by omega) (by omega) W1 X1 F1 (hl 0 (by omega)) (fun i _ h2 => hl i h2) (fun _ t ht => absurd ht (by omega)) (fun σ2 hne W2 X2 F2 _ _ => away σ2 hne W2 X2 F2)
      · have hc : ¬ (f : Int) ≤ (j : Int) := hc
        refine gh_aload_n (show gh_at (gm_me 140).1 12 = some (12, 1, .aload_n 0, 0, 0, []) from rfl) rfl rfl ?_
        refine gh_get (show gh_at (gm_me 140).1 13 = some (13, 3, .getfield 106, 1, 48, [(0, 1489)]) from rfl) rfl (by decide +kernel) (by decide +kernel) (gh_rdr (r := 2123) (by decide +kernel) rfl) ?_
        refine gh_iload_n (show gh_at (gm_me 140).1 16 = some (16, 1, .iload_n 3, 0, 0, []) from rfl) rfl ?_
        refine gh_iconst (x := -1) (show gh_at (gm_me 140).1 17 = some (17, 1, .iconst (-1), 34359738360, 0, []) from rfl) (by decide) ?_
        refine gh_iast (show gh_at (gm_me 140).1 18 = some (18, 1, .iastore, 0, 0, []) from rfl) rfl (by decide +kernel) (by decide +kernel) (gh_ix (N := 7) (by decide +kernel) (by omega) (by omega)) (gh_pk0 (by decide +kernel) _) ?_
        rw [show ((j : Int)).toNat = j by omega]
        show gp_ok _ _ _ _ _ _ _ [] (gp_up σ1 265 j (-1))
        have W4 : gt_W (gs_wm b f) (gp_up σ1 265 j (-1)) := gh_Wu W1 (c := 265) (j := j) (x := -1) (fun _ => gh_any (by unfold gh_r; omega))
        have X4 : gm_X f (gp_up σ1 265 j (-1)) := gm_Xu X1 rfl
        have F4 : gt_fr gs_lml σ (gp_up σ1 265 j (-1)) := gh_fu F1 (gb_mo_mem _ (by decide))
        have h4 : ∀ i, i < j + 1 → (gp_up σ1 265 j (-1)) 265 i = -1 := fun i hi => by
          by_cases e : i = j
          · subst e; exact gh_up_eq _ _ _ _
          · exact (gh_up_ne (fun q => e q.2)).trans (hl i (by omega))
        generalize (gp_up σ1 265 j (-1)) = σ4 at W4 X4 F4 h4 ⊢
        refine gh_iinc (show gh_at (gm_me 140).1 19 = some (19, 3, .iinc 3 (1), 8, 0, []) from rfl) rfl (fun c q => by cases q <;> decide) (y := ((j + 1 : Nat) : Int)) (by rw [gh_add (by unfold gh_r; omega) (by show gh_r 1; unfold gh_r; omega) (by show gh_r ((j : Int) + 1); unfold gh_r; omega)]; show (j : Int) + 1 = _; omega) rfl ?_
        refine gh_goto (show gh_at (gm_me 140).1 22 = some (22, 3, .goto (-18), 0, 4, []) from rfl) ?_
        exact ih (j + 1) σ4 (by omega) (by omega) W4 X4 F4 h4
  refine gh_iconst (x := 0) (show gh_at (gm_me 140).1 0 = some (0, 1, .iconst 0, 0, 0, []) from rfl) (by decide) ?_
  refine gh_istore_n (show gh_at (gm_me 140).1 1 = some (1, 1, .istore_n 2, 0, 0, []) from rfl) (fun c q => by cases q <;> decide) rfl ?_
  refine gh_iconst (x := 0) (show gh_at (gm_me 140).1 2 = some (2, 1, .iconst 0, 0, 0, []) from rfl) (by decide) ?_
  refine gh_istore_n (show gh_at (gm_me 140).1 3 = some (3, 1, .istore_n 3, 0, 0, []) from rfl) (fun c q => by cases q <;> decide) rfl ?_
  exact loop f 0 σ (by omega) (by omega) hW hX gh_f0 (fun i hi => absurd hi (by omega))
def gs_aml : List (Nat × Nat) := [(265, 1048576), (236, 51)]
theorem gz_tables {b f : Nat} {σ : gp_S} (hb : b < 2) (hf : f < 8) (hW : gt_W (gs_wm b f) σ) (hX : gm_X f σ) : gp_call gs_sh 5 139 [.inr 1891] σ (fun v σ' => gt_W (gs_wm b f) σ' ∧ gm_X f σ' ∧ gt_fr gs_aml σ σ' ∧ gt_tv 34359738362 v) := by
  refine gh_call (al := [.inr 1891, .inr 7]) (by decide +kernel) (by show 1 = _; decide +kernel) (by rw [show (gm_me 139).2.1 = 1 by decide +kernel]; rfl) (by show 2 = _; decide +kernel) ?_
  rw [show gm_rc 139 = 1 by decide +kernel]
  have loop : ∀ (m n : Nat) (σ1 : gp_S), f - n ≤ m → n ≤ f → gt_W (gs_wm b f) σ1 → gm_X f σ1 → gt_fr gs_aml σ σ1 → gp_ok gs_sh (gp_call gs_sh 4) 1 (gm_me 139).1 (fun v σ' => gt_W (gs_wm b f) σ' ∧ gm_X f σ' ∧ gt_fr gs_aml σ σ' ∧ gt_tv 34359738362 v) 10 [.inr 1891, .inl (n : Int)] [] σ1 := by
    intro m
    induction m with
    | zero =>
      intro n σ1 hm hn W1 X1 F1
      refine gh_aload_n (show gh_at (gm_me 139).1 10 = some (10, 1, .aload_n 0, 0, 0, []) from rfl) rfl rfl ?_
      refine gh_iload_n (show gh_at (gm_me 139).1 11 = some (11, 1, .iload_n 1, 0, 0, []) from rfl) rfl ?_
      refine gh_callV (r := 1891) (as := [.inl (n : Int)]) (t := []) (show gh_at (gm_me 139).1 12 = some (12, 3, .invokevirtual 487, 140, 0, [(0, 2023)]) from rfl) (by decide) rfl (by show 2 = _; decide +kernel) (Nat.le_trans (gh_wd _) (Nat.le_of_ble_eq_true rfl)) rfl (by decide +kernel) (by decide +kernel) (gz_canSeat hb hf hn W1 X1) gh_mono (fun v σ9 hv => ?_)
      rw [show gm_rc 140 = 2 by decide +kernel]
      obtain ⟨W9, X9, F9, hv⟩ := hv
      have G9 : gt_fr gs_aml σ σ9 := gh_ft F1 F9 (by decide +kernel)
      rcases hv with rfl | ⟨rfl, hne⟩
      · refine gh_if (show gh_at (gm_me 139).1 15 = some (15, 3, .ifCond .ne (9), 0, 24, []) from rfl) (fun _ => ?_) (fun q => absurd (show ¬ (1 : Int) = 0 by decide) q)
        refine gh_iload_n (show gh_at (gm_me 139).1 24 = some (24, 1, .iload_n 1, 0, 0, []) from rfl) rfl ?_
        refine gh_iret (show gh_at (gm_me 139).1 25 = some (25, 1, .ireturn, 0, 0, []) from rfl) ?_
        exact Or.inl ⟨rfl, W9, X9, G9, gh_any (by unfold gh_r; omega)⟩
      · refine gh_if (show gh_at (gm_me 139).1 15 = some (15, 3, .ifCond .ne (9), 0, 24, []) from rfl) (fun q => absurd rfl q) (fun _ => ?_)
        omega
    | succ m ih =>
      intro n σ1 hm hn W1 X1 F1
      refine gh_aload_n (show gh_at (gm_me 139).1 10 = some (10, 1, .aload_n 0, 0, 0, []) from rfl) rfl rfl ?_
      refine gh_iload_n (show gh_at (gm_me 139).1 11 = some (11, 1, .iload_n 1, 0, 0, []) from rfl) rfl ?_
      refine gh_callV (r := 1891) (as := [.inl (n : Int)]) (t := []) (show gh_at (gm_me 139).1 12 = some (12, 3, .invokevirtual 487, 140, 0, [(0, 2023)]) from rfl) (by decide) rfl (by show 2 = _; decide +kernel) (Nat.le_trans (gh_wd _) (Nat.le_of_ble_eq_true rfl)) rfl (by decide +kernel) (by decide +kernel) (gz_canSeat hb hf hn W1 X1) gh_mono (fun v σ9 hv => ?_)
      rw [show gm_rc 140 = 2 by decide +kernel]
      obtain ⟨W9, X9, F9, hv⟩ := hv
      have G9 : gt_fr gs_aml σ σ9 := gh_ft F1 F9 (by decide +kernel)
      rcases hv with rfl | ⟨rfl, hne⟩
      · refine gh_if (show gh_at (gm_me 139).1 15 = some (15, 3, .ifCond .ne (9), 0, 24, []) from rfl) (fun _ => ?_) (fun q => absurd (show ¬ (1 : Int) = 0 by decide) q)
        refine gh_iload_n (show gh_at (gm_me 139).1 24 = some (24, 1, .iload_n 1, 0, 0, []) from rfl) rfl ?_
        refine gh_iret (show gh_at (gm_me 139).1 25 = some (25, 1, .ireturn, 0, 0, []) from rfl) ?_
        exact Or.inl ⟨rfl, W9, X9, G9, gh_any (by unfold gh_r; omega)⟩
      · refine gh_if (show gh_at (gm_me 139).1 15 = some (15, 3, .ifCond .ne (9), 0, 24, []) from rfl) (fun q => absurd rfl q) (fun _ => ?_)
        refine gh_iinc (show gh_at (gm_me 139).1 18 = some (18, 3, .iinc 1 (1), 8, 0, []) from rfl) rfl (fun c q => by cases q <;> decide) (y := ((n + 1 : Nat) : Int)) (by rw [gh_add (by unfold gh_r; omega) (by show gh_r 1; unfold gh_r; omega) (by show gh_r ((n : Int) + 1); unfold gh_r; omega)]; show (n : Int) + 1 = _; omega) rfl ?_
        refine gh_goto (show gh_at (gm_me 139).1 21 = some (21, 3, .goto (-11), 0, 10, []) from rfl) ?_
        exact ih (n + 1) σ9 (by omega) (by omega) W9 X9 G9
  refine gh_aload_n (show gh_at (gm_me 139).1 0 = some (0, 1, .aload_n 0, 0, 0, []) from rfl) rfl rfl ?_
  refine gh_aload_n (show gh_at (gm_me 139).1 1 = some (1, 1, .aload_n 0, 0, 0, []) from rfl) rfl rfl ?_
  refine gh_callV (r := 1891) (as := []) (t := [.inr 1891]) (show gh_at (gm_me 139).1 2 = some (2, 3, .invokevirtual 338, 11, 0, [(0, 1399)]) from rfl) (by decide) rfl (by show 1 = _; decide +kernel) (Nat.le_trans (gh_wd _) (Nat.le_of_ble_eq_true rfl)) rfl (by decide +kernel) (by decide +kernel) (Ψ := fun v σ9 => σ9 = σ ∧ v = .inl (f : Int)) (gz_folk (d := 3) hb hW ⟨rfl, rfl⟩) gh_mono (fun v σ9 hv => ?_)
  obtain ⟨e9, rfl⟩ := hv
  rw [e9, show gm_rc 11 = 1 by decide +kernel]
  show gp_ok _ _ _ _ _ _ _ (.inl (f : Int) :: _) _
  refine gh_put (show gh_at (gm_me 139).1 5 = some (5, 3, .putfield 389, 1, 51, [(0, 1492)]) from rfl) rfl (by decide +kernel) (by decide +kernel) (by decide +kernel) (Or.inl rfl) ?_
  show gp_ok _ _ _ _ _ _ _ [] (gp_up σ 236 51 (f : Int))
  have W2 : gt_W (gs_wm b f) (gp_up σ 236 51 (f : Int)) := gh_Wu hW (c := 236) (j := 51) (x := (f : Int)) (fun _ => show gt_tv 73786976312018075706 (.inl (f : Int)) from gh_mk (by decide) (by unfold gh_r; omega) (by omega) (by omega))
  have X2 : gm_X f (gp_up σ 236 51 (f : Int)) := gm_Xu hX rfl
  have F2 : gt_fr gs_aml σ (gp_up σ 236 51 (f : Int)) := gh_fu gh_f0 (by decide +kernel)
  generalize (gp_up σ 236 51 (f : Int)) = σ2 at W2 X2 F2 ⊢
  refine gh_iconst (x := 0) (show gh_at (gm_me 139).1 8 = some (8, 1, .iconst 0, 0, 0, []) from rfl) (by decide) ?_
  refine gh_istore_n (show gh_at (gm_me 139).1 9 = some (9, 1, .istore_n 1, 0, 0, []) from rfl) (fun c q => by cases q <;> decide) rfl ?_
  exact loop f 0 σ2 (by omega) (by omega) W2 X2 F2
