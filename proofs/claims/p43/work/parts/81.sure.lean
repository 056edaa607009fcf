/-! fits, sure -/
def gs_fml : List (Nat × Nat) := [(236, 43), (259, 1048576), (260, 7), (260, 8), (260, 9), (260, 10), (260, 11), (260, 12), (260, 13), (260, 14), (260, 15), (260, 16), (260, 17), (260, 18), (260, 19), (260, 20), (260, 21), (260, 22), (260, 23), (260, 24), (260, 25), (260, 26), (260, 27), (260, 28), (261, 0), (261, 1), (261, 2), (261, 3), (261, 4), (261, 5), (261, 6), (261, 7), (261, 8), (261, 9), (261, 10), (261, 11), (261, 12), (261, 13), (261, 14), (261, 15), (261, 16), (261, 17), (261, 18), (261, 19), (261, 20), (261, 21), (261, 22), (261, 23), (261, 24), (261, 25), (261, 26), (261, 27), (261, 28), (270, 1048576)]
theorem gz_fits {b f : Nat} {σ : gp_S} {x : Int} (hb : b < 2) (hf : f < 8) (hW : gt_W (gs_wm b f) σ) (hX : gm_X f σ) : gp_call gs_sh 9 46 [.inr 1891, .inl x] σ (fun v σ' => gt_W (gs_wm b f) σ' ∧ gm_X f σ' ∧ gt_fr gs_fml σ σ' ∧ ∃ r : Int, v = .inl r ∧ gh_r r ∧ (r = 0 ∨ ∃ u : Int, 1 ≤ u ∧ u ≤ 20 ∧ gf_f σ' u x)) := by
  refine gh_call (al := [.inr 1891, .inl x, .inr 7, .inr 7]) (by decide +kernel) (by show 2 = _; decide +kernel) (by rw [show (gm_me 46).2.1 = 2 by decide +kernel]; rfl) (by show 4 = _; decide +kernel) ?_
  rw [show gm_rc 46 = 1 by decide +kernel]
  have loop : ∀ (m : Nat) (σ1 : gp_S) (n u : Int), 21 - u ≤ m → 1 ≤ u → u ≤ 21 → 0 ≤ n → n < u → gt_W (gs_wm b f) σ1 → gm_X f σ1 → gt_fr gs_fml σ σ1 → (n = 0 ∨ ∃ u : Int, 1 ≤ u ∧ u ≤ 20 ∧ gf_f σ1 u x) → gp_ok gs_sh (gp_call gs_sh 8) 1 (gm_me 46).1 (fun v σ' => gt_W (gs_wm b f) σ' ∧ gm_X f σ' ∧ gt_fr gs_fml σ σ' ∧ ∃ r : Int, v = .inl r ∧ gh_r r ∧ (r = 0 ∨ ∃ u : Int, 1 ≤ u ∧ u ≤ 20 ∧ gf_f σ' u x)) 17 [.inr 1891, .inl x, .inl n, .inl u] [] σ1 := by
    intro m
    induction m with
    | zero =>
      intro σ1 n u hm h1 h2 h3 h4 W1 X1 F1 hq
      refine gh_iload_n (show gh_at (gm_me 46).1 17 = some (17, 1, .iload_n 3, 0, 0, []) from rfl) rfl ?_
      refine gh_bipush (x := 20) (show gh_at (gm_me 46).1 18 = some (18, 2, .bipush (20), 160, 0, []) from rfl) (by decide) ?_
      refine gh_icmp (show gh_at (gm_me 46).1 20 = some (20, 3, .if_icmp .gt (26), 0, 46, []) from rfl) (fun hc => ?_) (fun hc => ?_)
      · refine gh_iload_n (show gh_at (gm_me 46).1 46 = some (46, 1, .iload_n 2, 0, 0, []) from rfl) rfl ?_
        refine gh_iret (show gh_at (gm_me 46).1 47 = some (47, 1, .ireturn, 0, 0, []) from rfl) ?_
        exact Or.inl ⟨rfl, W1, X1, F1, n, rfl, by unfold gh_r; omega, hq⟩
      · have hc : ¬ 20 < u := hc
        omega
    | succ m ih =>
      intro σ1 n u hm h1 h2 h3 h4 W1 X1 F1 hq
      refine gh_iload_n (show gh_at (gm_me 46).1 17 = some (17, 1, .iload_n 3, 0, 0, []) from rfl) rfl ?_
      refine gh_bipush (x := 20) (show gh_at (gm_me 46).1 18 = some (18, 2, .bipush (20), 160, 0, []) from rfl) (by decide) ?_
      refine gh_icmp (show gh_at (gm_me 46).1 20 = some (20, 3, .if_icmp .gt (26), 0, 46, []) from rfl) (fun hc => ?_) (fun hc => ?_)
      · refine gh_iload_n (show gh_at (gm_me 46).1 46 = some (46, 1, .iload_n 2, 0, 0, []) from rfl) rfl ?_
        refine gh_iret (show gh_at (gm_me 46).1 47 = some (47, 1, .ireturn, 0, 0, []) from rfl) ?_
        exact Or.inl ⟨rfl, W1, X1, F1, n, rfl, by unfold gh_r; omega, hq⟩
      · have hc : ¬ 20 < u := hc
        refine gh_iload_n (show gh_at (gm_me 46).1 23 = some (23, 1, .iload_n 2, 0, 0, []) from rfl) rfl ?_
        refine gh_aload_n (show gh_at (gm_me 46).1 24 = some (24, 1, .aload_n 0, 0, 0, []) from rfl) rfl rfl ?_
        refine gh_iload_n (show gh_at (gm_me 46).1 25 = some (25, 1, .iload_n 3, 0, 0, []) from rfl) rfl ?_
        refine gh_iload_n (show gh_at (gm_me 46).1 26 = some (26, 1, .iload_n 1, 0, 0, []) from rfl) rfl ?_
        refine gh_callV (r := 1891) (as := [.inl u, .inl x]) (t := [.inl n]) (show gh_at (gm_me 46).1 27 = some (27, 3, .invokevirtual 520, 247, 0, [(0, 2097)]) from rfl) (by decide) rfl (by show 3 = _; decide +kernel) (Nat.le_trans (gh_wd _) (Nat.le_of_ble_eq_true rfl)) rfl (by decide +kernel) (by decide +kernel) (Ψ := fun v σ2 => σ2 = σ1 ∧ ((v = .inl 1 ∧ gf_f σ1 u x) ∨ v = .inl 0)) (gz_fit (d := 7) W1 (by omega) (fun q => ⟨rfl, Or.inl ⟨rfl, q⟩⟩) (fun _ => ⟨rfl, Or.inr rfl⟩)) gh_mono (fun v σ2 hv => ?_)
        obtain ⟨e2, hv⟩ := hv
        rw [e2, show gm_rc 247 = 2 by decide +kernel]
        rcases hv with ⟨rfl, hg⟩ | rfl
        · refine gh_if (show gh_at (gm_me 46).1 30 = some (30, 3, .ifCond .eq (7), 0, 37, []) from rfl) (fun q => absurd (show (1 : Int) = 0 from q) (by decide)) (fun _ => ?_)
          refine gh_iconst (x := 1) (show gh_at (gm_me 46).1 33 = some (33, 1, .iconst 1, 8, 0, []) from rfl) (by decide) ?_
          refine gh_goto (show gh_at (gm_me 46).1 34 = some (34, 3, .goto (4), 0, 38, []) from rfl) ?_
          refine gh_iadd (z := n + 1) (show gh_at (gm_me 46).1 38 = some (38, 1, .iadd, 0, 0, []) from rfl) (gh_add (by unfold gh_r; omega) (by unfold gh_r; omega) (by unfold gh_r; omega)) ?_
          refine gh_istore_n (show gh_at (gm_me 46).1 39 = some (39, 1, .istore_n 2, 0, 0, []) from rfl) (fun c q => by cases q <;> decide) rfl ?_
          refine gh_iinc (show gh_at (gm_me 46).1 40 = some (40, 3, .iinc 3 (1), 8, 0, []) from rfl) rfl (fun c q => by cases q <;> decide) (y := u + 1) (gh_add (by unfold gh_r; omega) (by show gh_r 1; unfold gh_r; omega) (by show gh_r (u + 1); unfold gh_r; omega)) rfl ?_
          refine gh_goto (show gh_at (gm_me 46).1 43 = some (43, 3, .goto (-26), 0, 17, []) from rfl) ?_
          exact ih σ1 (n + 1) (u + 1) (by omega) (by omega) (by omega) (by omega) (by omega) W1 X1 F1 (Or.inr ⟨u, by omega, by omega, hg⟩)
        · refine gh_if (show gh_at (gm_me 46).1 30 = some (30, 3, .ifCond .eq (7), 0, 37, []) from rfl) (fun _ => ?_) (fun q => absurd rfl q)
          refine gh_iconst (x := 0) (show gh_at (gm_me 46).1 37 = some (37, 1, .iconst 0, 0, 0, []) from rfl) (by decide) ?_
          refine gh_iadd (z := n) (show gh_at (gm_me 46).1 38 = some (38, 1, .iadd, 0, 0, []) from rfl) (by rw [gh_add (by unfold gh_r; omega) (by unfold gh_r; omega) (by unfold gh_r; omega)]; omega) ?_
          refine gh_istore_n (show gh_at (gm_me 46).1 39 = some (39, 1, .istore_n 2, 0, 0, []) from rfl) (fun c q => by cases q <;> decide) rfl ?_
          refine gh_iinc (show gh_at (gm_me 46).1 40 = some (40, 3, .iinc 3 (1), 8, 0, []) from rfl) rfl (fun c q => by cases q <;> decide) (y := u + 1) (gh_add (by unfold gh_r; omega) (by show gh_r 1; unfold gh_r; omega) (by show gh_r (u + 1); unfold gh_r; omega)) rfl ?_
          refine gh_goto (show gh_at (gm_me 46).1 43 = some (43, 3, .goto (-26), 0, 17, []) from rfl) ?_
          exact ih σ1 n (u + 1) (by omega) (by omega) (by omega) (by omega) (by omega) W1 X1 F1 hq
  refine gh_aload_n (show gh_at (gm_me 46).1 0 = some (0, 1, .aload_n 0, 0, 0, []) from rfl) rfl rfl ?_
  refine gh_callV (r := 1891) (as := []) (t := []) (show gh_at (gm_me 46).1 1 = some (1, 3, .invokevirtual 338, 11, 0, [(0, 1399)]) from rfl) (by decide) rfl (by show 1 = _; decide +kernel) (Nat.le_trans (gh_wd _) (Nat.le_of_ble_eq_true rfl)) rfl (by decide +kernel) (by decide +kernel) (Ψ := fun v σ2 => σ2 = σ ∧ v = .inl (f : Int)) (gz_folk (d := 7) hb hW ⟨rfl, rfl⟩) gh_mono (fun v σ2 hv => ?_)
  obtain ⟨e2, rfl⟩ := hv
  rw [e2, show gm_rc 11 = 1 by decide +kernel]
  show gp_ok _ _ _ _ _ _ _ [.inl (f : Int)] _
  refine gh_if (show gh_at (gm_me 46).1 4 = some (4, 3, .ifCond .ne (5), 0, 9, []) from rfl) (fun hc => ?_) (fun hc => ?_)
  · have hc : ¬ (f : Int) = 0 := hc
    refine gh_aload_n (show gh_at (gm_me 46).1 9 = some (9, 1, .aload_n 0, 0, 0, []) from rfl) rfl rfl ?_
    refine gh_callV (r := 1891) (as := []) (t := []) (show gh_at (gm_me 46).1 10 = some (10, 3, .invokevirtual 517, 246, 0, [(0, 2093)]) from rfl) (by decide) rfl (by show 1 = _; decide +kernel) (Nat.le_trans (gh_wd _) (Nat.le_of_ble_eq_true rfl)) rfl (by decide +kernel) (by decide +kernel) (cn_56 hb hf (by omega) [.inr 1891] σ hW hX (fun p hp => by cases hp) ⟨Or.inr (Or.inl ⟨rfl, rfl⟩), trivial⟩) gh_mono (fun v σ1 hv => ?_)
    obtain ⟨W1, X1, F1, -⟩ := hv
    rw [show gm_rc 246 = 0 by decide +kernel]
    show gp_ok _ _ _ _ _ _ _ [] σ1
    refine gh_iconst (x := 0) (show gh_at (gm_me 46).1 13 = some (13, 1, .iconst 0, 0, 0, []) from rfl) (by decide) ?_
    refine gh_istore_n (show gh_at (gm_me 46).1 14 = some (14, 1, .istore_n 2, 0, 0, []) from rfl) (fun c q => by cases q <;> decide) rfl ?_
    refine gh_iconst (x := 1) (show gh_at (gm_me 46).1 15 = some (15, 1, .iconst 1, 8, 0, []) from rfl) (by decide) ?_
    refine gh_istore_n (show gh_at (gm_me 46).1 16 = some (16, 1, .istore_n 3, 0, 0, []) from rfl) (fun c q => by cases q <;> decide) rfl ?_
    exact loop 20 σ1 0 1 (by omega) (by omega) (by omega) (by omega) (by omega) W1 X1 F1 (Or.inl rfl)
  · refine gh_iconst (x := 0) (show gh_at (gm_me 46).1 7 = some (7, 1, .iconst 0, 0, 0, []) from rfl) (by decide) ?_
    refine gh_iret (show gh_at (gm_me 46).1 8 = some (8, 1, .ireturn, 0, 0, []) from rfl) ?_
    exact Or.inl ⟨rfl, hW, hX, gh_f0, 0, rfl, by unfold gh_r; omega, Or.inl rfl⟩
theorem gz_sure {b f : Nat} {σ : gp_S} {x y : Int} (hb : b < 2) (hf : f < 8) (hW : gt_W (gs_wm b f) σ) (hX : gm_X f σ) : gp_call gs_sh 10 106 [.inr 1891, .inl x, .inl y] σ (fun v σ' => gt_W (gs_wm b f) σ' ∧ gm_X f σ' ∧ gt_fr gs_fml σ σ' ∧ gt_tv 34359738362 v) := by
  refine gh_call (al := [.inr 1891, .inl x, .inl y, .inr 7]) (by decide +kernel) (by show 3 = _; decide +kernel) (by rw [show (gm_me 106).2.1 = 1 by decide +kernel]; rfl) (by show 4 = _; decide +kernel) ?_
  rw [show gm_rc 106 = 1 by decide +kernel]
  have loop : ∀ (σ1 : gp_S) (u : Int), gt_W (gs_wm b f) σ1 → gm_X f σ1 → gt_fr gs_fml σ σ1 → 1 ≤ u → u ≤ 20 → gf_f σ1 u y → ∀ (m : Nat) (i : Int), 1 ≤ i → i ≤ 20 → (x = 0 → i ≤ u ∧ u - i ≤ m) → (¬ x = 0 → u ≤ i ∧ i - u ≤ m) → gp_ok gs_sh (gp_call gs_sh 9) 1 (gm_me 106).1 (fun v σ' => gt_W (gs_wm b f) σ' ∧ gm_X f σ' ∧ gt_fr gs_fml σ σ' ∧ gt_tv 34359738362 v) 30 [.inr 1891, .inl x, .inl y, .inl i] [] σ1 := by
    intro σ1 u W1 X1 F1 hu1 hu2 hu m
    induction m with
    | zero =>
      intro i hi1 hi2 ha hd
      refine gh_aload_n (show gh_at (gm_me 106).1 30 = some (30, 1, .aload_n 0, 0, 0, []) from rfl) rfl rfl ?_
      refine gh_iload_n (show gh_at (gm_me 106).1 31 = some (31, 1, .iload_n 3, 0, 0, []) from rfl) rfl ?_
      refine gh_iload_n (show gh_at (gm_me 106).1 32 = some (32, 1, .iload_n 2, 0, 0, []) from rfl) rfl ?_
      refine gh_callV (r := 1891) (as := [.inl i, .inl y]) (t := []) (show gh_at (gm_me 106).1 33 = some (33, 3, .invokevirtual 520, 247, 0, [(0, 2097)]) from rfl) (by decide) rfl (by show 3 = _; decide +kernel) (Nat.le_trans (gh_wd _) (Nat.le_of_ble_eq_true rfl)) rfl (by decide +kernel) (by decide +kernel) (Ψ := fun v σ2 => σ2 = σ1 ∧ (v = .inl 1 ∨ (v = .inl 0 ∧ ¬ gf_f σ1 i y))) (gz_fit (d := 8) W1 (by omega) (fun _ => ⟨rfl, Or.inl rfl⟩) (fun q => ⟨rfl, Or.inr ⟨rfl, q⟩⟩)) gh_mono (fun v σ2 hv => ?_)
      obtain ⟨e2, hv⟩ := hv
      rw [e2, show gm_rc 247 = 2 by decide +kernel]
      rcases hv with rfl | ⟨rfl, hg⟩
      · refine gh_if (show gh_at (gm_me 106).1 36 = some (36, 3, .ifCond .ne (18), 0, 54, []) from rfl) (fun _ => ?_) (fun q => absurd (show ¬ (1 : Int) = 0 by decide) q)
        refine gh_iload_n (show gh_at (gm_me 106).1 54 = some (54, 1, .iload_n 3, 0, 0, []) from rfl) rfl ?_
        refine gh_iret (show gh_at (gm_me 106).1 55 = some (55, 1, .ireturn, 0, 0, []) from rfl) ?_
        exact Or.inl ⟨rfl, W1, X1, F1, gh_any (by unfold gh_r; omega)⟩
      · refine gh_if (show gh_at (gm_me 106).1 36 = some (36, 3, .ifCond .ne (18), 0, 54, []) from rfl) (fun q => absurd rfl q) (fun _ => ?_)
        have hne : ¬ i = u := fun e => hg (by rw [e]; exact hu)
        refine gh_iload_n (show gh_at (gm_me 106).1 39 = some (39, 1, .iload_n 3, 0, 0, []) from rfl) rfl ?_
        refine gh_iload_n (show gh_at (gm_me 106).1 40 = some (40, 1, .iload_n 1, 0, 0, []) from rfl) rfl ?_
        refine gh_if (show gh_at (gm_me 106).1 41 = some (41, 3, .ifCond .ne (7), 0, 48, []) from rfl) (fun hc => ?_) (fun hc => ?_)
        · have hc : ¬ x = 0 := hc
          omega
        · have hc : x = 0 := Decidable.not_not.mp hc
          omega
    | succ m ih =>
      intro i hi1 hi2 ha hd
      refine gh_aload_n (show gh_at (gm_me 106).1 30 = some (30, 1, .aload_n 0, 0, 0, []) from rfl) rfl rfl ?_
      refine gh_iload_n (show gh_at (gm_me 106).1 31 = some (31, 1, .iload_n 3, 0, 0, []) from rfl) rfl ?_
      refine gh_iload_n (show gh_at (gm_me 106).1 32 = some (32, 1, .iload_n 2, 0, 0, []) from rfl) rfl ?_
      refine gh_callV (r := 1891) (as := [.inl i, .inl y]) (t := []) (show gh_at (gm_me 106).1 33 = some (33, 3, .invokevirtual 520, 247, 0, [(0, 2097)]) from rfl) (by decide) rfl (by show 3 = _; decide +kernel) (Nat.le_trans (gh_wd _) (Nat.le_of_ble_eq_true rfl)) rfl (by decide +kernel) (by decide +kernel) (Ψ := fun v σ2 => σ2 = σ1 ∧ (v = .inl 1 ∨ (v = .inl 0 ∧ ¬ gf_f σ1 i y))) (gz_fit (d := 8) W1 (by omega) (fun _ => ⟨rfl, Or.inl rfl⟩) (fun q => ⟨rfl, Or.inr ⟨rfl, q⟩⟩)) gh_mono (fun v σ2 hv => ?_)
      obtain ⟨e2, hv⟩ := hv
      rw [e2, show gm_rc 247 = 2 by decide +kernel]
      rcases hv with rfl | ⟨rfl, hg⟩
      · refine gh_if (show gh_at (gm_me 106).1 36 = some (36, 3, .ifCond .ne (18), 0, 54, []) from rfl) (fun _ => ?_) (fun q => absurd (show ¬ (1 : Int) = 0 by decide) q)
        refine gh_iload_n (show gh_at (gm_me 106).1 54 = some (54, 1, .iload_n 3, 0, 0, []) from rfl) rfl ?_
        refine gh_iret (show gh_at (gm_me 106).1 55 = some (55, 1, .ireturn, 0, 0, []) from rfl) ?_
        exact Or.inl ⟨rfl, W1, X1, F1, gh_any (by unfold gh_r; omega)⟩
      · refine gh_if (show gh_at (gm_me 106).1 36 = some (36, 3, .ifCond .ne (18), 0, 54, []) from rfl) (fun q => absurd rfl q) (fun _ => ?_)
        have hne : ¬ i = u := fun e => hg (by rw [e]; exact hu)
        refine gh_iload_n (show gh_at (gm_me 106).1 39 = some (39, 1, .iload_n 3, 0, 0, []) from rfl) rfl ?_
        refine gh_iload_n (show gh_at (gm_me 106).1 40 = some (40, 1, .iload_n 1, 0, 0, []) from rfl) rfl ?_
        refine gh_if (show gh_at (gm_me 106).1 41 = some (41, 3, .ifCond .ne (7), 0, 48, []) from rfl) (fun hc => ?_) (fun hc => ?_)
        · have hc : ¬ x = 0 := hc
          refine gh_iconst (x := -1) (show gh_at (gm_me 106).1 48 = some (48, 1, .iconst (-1), 34359738360, 0, []) from rfl) (by decide) ?_
          refine gh_iadd (z := i + -1) (show gh_at (gm_me 106).1 49 = some (49, 1, .iadd, 0, 0, []) from rfl) (gh_add (by unfold gh_r; omega) (by unfold gh_r; omega) (by unfold gh_r; omega)) ?_
          refine gh_istore_n (show gh_at (gm_me 106).1 50 = some (50, 1, .istore_n 3, 0, 0, []) from rfl) (fun c q => by cases q <;> decide) rfl ?_
          refine gh_goto (show gh_at (gm_me 106).1 51 = some (51, 3, .goto (-21), 0, 30, []) from rfl) ?_
          exact ih (i + -1) (by omega) (by omega) (fun q => absurd q hc) (fun _ => by omega)
        · have hc : x = 0 := Decidable.not_not.mp hc
          refine gh_iconst (x := 1) (show gh_at (gm_me 106).1 44 = some (44, 1, .iconst 1, 8, 0, []) from rfl) (by decide) ?_
          refine gh_goto (show gh_at (gm_me 106).1 45 = some (45, 3, .goto (4), 0, 49, []) from rfl) ?_
          refine gh_iadd (z := i + 1) (show gh_at (gm_me 106).1 49 = some (49, 1, .iadd, 0, 0, []) from rfl) (gh_add (by unfold gh_r; omega) (by unfold gh_r; omega) (by unfold gh_r; omega)) ?_
          refine gh_istore_n (show gh_at (gm_me 106).1 50 = some (50, 1, .istore_n 3, 0, 0, []) from rfl) (fun c q => by cases q <;> decide) rfl ?_
          refine gh_goto (show gh_at (gm_me 106).1 51 = some (51, 3, .goto (-21), 0, 30, []) from rfl) ?_
          exact ih (i + 1) (by omega) (by omega) (fun _ => by omega) (fun q => absurd hc q)
  refine gh_iload_n (show gh_at (gm_me 106).1 0 = some (0, 1, .iload_n 1, 0, 0, []) from rfl) rfl ?_
  refine gh_iconst (x := 0) (show gh_at (gm_me 106).1 1 = some (1, 1, .iconst 0, 0, 0, []) from rfl) (by decide) ?_
  refine gh_iconst (x := 1) (show gh_at (gm_me 106).1 2 = some (2, 1, .iconst 1, 8, 0, []) from rfl) (by decide) ?_
  refine gh_callS (as := [.inl x, .inl 0, .inl 1]) (t := []) (show gh_at (gm_me 106).1 3 = some (3, 3, .invokestatic 348, 9, 0, [(0, 1419)]) from rfl) (by decide) rfl (by show 3 = _; decide +kernel) (by decide) (Ψ := fun v σ2 => σ2 = σ ∧ ((v = .inl 1 ∧ 0 ≤ x ∧ x ≤ 1) ∨ (v = .inl 0 ∧ ¬ (0 ≤ x ∧ x ≤ 1)))) (gz_in (d := 8) (fun q => ⟨rfl, Or.inl ⟨rfl, q⟩⟩) (fun q => ⟨rfl, Or.inr ⟨rfl, q⟩⟩)) gh_mono (fun v σ2 hv => ?_)
  obtain ⟨e2, hv⟩ := hv
  rw [e2, show gm_rc 9 = 2 by decide +kernel]
  rcases hv with ⟨rfl, hl⟩ | ⟨rfl, hl⟩
  · refine gh_if (show gh_at (gm_me 106).1 6 = some (6, 3, .ifCond .eq (11), 0, 17, []) from rfl) (fun q => absurd (show (1 : Int) = 0 from q) (by decide)) (fun _ => ?_)
    refine gh_aload_n (show gh_at (gm_me 106).1 9 = some (9, 1, .aload_n 0, 0, 0, []) from rfl) rfl rfl ?_
    refine gh_iload_n (show gh_at (gm_me 106).1 10 = some (10, 1, .iload_n 2, 0, 0, []) from rfl) rfl ?_
    refine gh_callV (r := 1891) (as := [.inl y]) (t := []) (show gh_at (gm_me 106).1 11 = some (11, 3, .invokevirtual 523, 46, 0, [(0, 2105)]) from rfl) (by decide) rfl (by show 2 = _; decide +kernel) (Nat.le_trans (gh_wd _) (Nat.le_of_ble_eq_true rfl)) rfl (by decide +kernel) (by decide +kernel) (gz_fits (x := y) hb hf hW hX) gh_mono (fun v σ1 hv => ?_)
    obtain ⟨W1, X1, F1, r, rfl, hr, hq⟩ := hv
    rw [show gm_rc 46 = 1 by decide +kernel]
    show gp_ok _ _ _ _ _ _ _ [.inl r] σ1
    refine gh_if (show gh_at (gm_me 106).1 14 = some (14, 3, .ifCond .ne (5), 0, 19, []) from rfl) (fun hc => ?_) (fun hc => ?_)
    · obtain ⟨u, hu1, hu2, hu⟩ := hq.resolve_left hc
      refine gh_iload_n (show gh_at (gm_me 106).1 19 = some (19, 1, .iload_n 1, 0, 0, []) from rfl) rfl ?_
      refine gh_if (show gh_at (gm_me 106).1 20 = some (20, 3, .ifCond .ne (7), 0, 27, []) from rfl) (fun hd => ?_) (fun hd => ?_)
      · have hd : ¬ x = 0 := hd
        refine gh_bipush (x := 20) (show gh_at (gm_me 106).1 27 = some (27, 2, .bipush (20), 160, 0, []) from rfl) (by decide) ?_
        refine gh_istore_n (show gh_at (gm_me 106).1 29 = some (29, 1, .istore_n 3, 0, 0, []) from rfl) (fun c q => by cases q <;> decide) rfl ?_
        exact loop σ1 u W1 X1 F1 hu1 hu2 hu 20 20 (by omega) (by omega) (fun q => absurd q hd) (fun _ => by omega)
      · have hd : x = 0 := Decidable.not_not.mp hd
        refine gh_iconst (x := 1) (show gh_at (gm_me 106).1 23 = some (23, 1, .iconst 1, 8, 0, []) from rfl) (by decide) ?_
        refine gh_goto (show gh_at (gm_me 106).1 24 = some (24, 3, .goto (5), 0, 29, []) from rfl) ?_
        refine gh_istore_n (show gh_at (gm_me 106).1 29 = some (29, 1, .istore_n 3, 0, 0, []) from rfl) (fun c q => by cases q <;> decide) rfl ?_
        exact loop σ1 u W1 X1 F1 hu1 hu2 hu 20 1 (by omega) (by omega) (fun _ => by omega) (fun q => absurd hd q)
    · refine gh_iconst (x := -1) (show gh_at (gm_me 106).1 17 = some (17, 1, .iconst (-1), 34359738360, 0, []) from rfl) (by decide) ?_
      refine gh_iret (show gh_at (gm_me 106).1 18 = some (18, 1, .ireturn, 0, 0, []) from rfl) ?_
      exact Or.inl ⟨rfl, W1, X1, F1, gh_any (by unfold gh_r; omega)⟩
  · refine gh_if (show gh_at (gm_me 106).1 6 = some (6, 3, .ifCond .eq (11), 0, 17, []) from rfl) (fun _ => ?_) (fun q => absurd rfl q)
    refine gh_iconst (x := -1) (show gh_at (gm_me 106).1 17 = some (17, 1, .iconst (-1), 34359738360, 0, []) from rfl) (by decide) ?_
    refine gh_iret (show gh_at (gm_me 106).1 18 = some (18, 1, .ireturn, 0, 0, []) from rfl) ?_
    exact Or.inl ⟨rfl, hW, hX, gh_f0, gh_any (by unfold gh_r; omega)⟩
