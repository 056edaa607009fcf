/-! change -/
theorem gm_qsw {f m n : Nat} {σ : gp_S} (hq : gv_q f (σ 260)) (hm : m < f) (hn : n < f) : gv_q f ((gp_up (gp_up σ 260 m (σ 260 n)) 260 n (σ 260 m)) 260) := by
  have e : ∀ j, (gp_up (gp_up σ 260 m (σ 260 n)) 260 n (σ 260 m)) 260 j = if j = n then σ 260 m else if j = m then σ 260 n else σ 260 j := by
    intro j
    by_cases h1 : j = n
    · subst h1; rw [gh_up_eq, if_pos rfl]
    · rw [gh_up_ne (fun q => h1 q.2), if_neg h1]
      by_cases h2 : j = m
      · subst h2; rw [gh_up_eq, if_pos rfl]
      · rw [gh_up_ne (fun q => h2 q.2), if_neg h2]
  have inj : ∀ a b, a < f → b < f → ¬ a = b → ¬ σ 260 a = σ 260 b := by
    intro a b ha hb hab
    rcases (show a < b ∨ b < a by omega) with q | q
    · exact hq.2 a b q hb
    · exact fun h => hq.2 b a q ha h.symm
  refine ⟨fun j hj => ?_, fun i j hi hj => ?_⟩
  · rw [e j]
    split
    · exact hq.1 m hm
    · split
      · exact hq.1 n hn
      · exact hq.1 j hj
  · rw [e i, e j]
    split <;> split <;> first | (split <;> first | (split <;> (apply inj <;> omega)) | (apply inj <;> omega)) | (apply inj <;> omega) | omega

theorem gz_change {b f : Nat} {σ : gp_S} {x y : Int} (hb : b < 2) (hW : gt_W (gs_wm b f) σ) (hY : gm_Y f σ) : gp_call gs_sh 8 56 [.inr 1891, .inl x, .inl y] σ (fun v σ' => gt_W (gs_wm b f) σ' ∧ gm_Y f σ' ∧ gt_fr gs_uml σ σ' ∧ gt_tv 34359738362 v) := by
  refine gh_call (al := [.inr 1891, .inl x, .inl y]) (by decide +kernel) (by show 3 = _; decide +kernel) (by rw [show (gm_me 56).2.1 = 0 by decide +kernel]; rfl) (by show 3 = _; decide +kernel) ?_
  rw [show gm_rc 56 = 1 by decide +kernel]
  have hf := hY.1
  refine gh_aload_n (show gh_at (gm_me 56).1 0 = some (0, 1, .aload_n 0, 0, 0, []) from rfl) rfl rfl ?_
  refine gh_iload_n (show gh_at (gm_me 56).1 1 = some (1, 1, .iload_n 1, 0, 0, []) from rfl) rfl ?_
  refine gh_callV (r := 1891) (as := [.inl x]) (t := []) (show gh_at (gm_me 56).1 2 = some (2, 3, .invokevirtual 364, 30, 0, [(0, 1411)]) from rfl) (by decide) rfl (by show 2 = _; decide +kernel) (Nat.le_trans (gh_wd _) (Nat.le_of_ble_eq_true rfl)) rfl (by decide +kernel) (by decide +kernel) (Ψ := fun v σ9 => σ9 = σ ∧ (v = .inl 0 ∨ (v = .inl 1 ∧ ∃ n : Nat, n < f ∧ σ 260 n = x))) (gz_behind (d := 4) hb hf hW ⟨rfl, Or.inl rfl⟩ (fun n q1 q2 _ _ => ⟨rfl, Or.inr ⟨rfl, n, q1, q2⟩⟩)) gh_mono (fun v σ9 hv => ?_)
  obtain ⟨e9, hv⟩ := hv
  rw [e9, show gm_rc 30 = 2 by decide +kernel]
  rcases hv with rfl | ⟨rfl, nx, hx1, hx2⟩
  · refine gh_if (show gh_at (gm_me 56).1 5 = some (5, 3, .ifCond .eq (16), 0, 21, []) from rfl) (fun _ => ?_) (fun q => absurd rfl q)
    refine gh_iconst (x := -1) (show gh_at (gm_me 56).1 21 = some (21, 1, .iconst (-1), 34359738360, 0, []) from rfl) (by decide) ?_
    refine gh_iret (show gh_at (gm_me 56).1 22 = some (22, 1, .ireturn, 0, 0, []) from rfl) ?_
    exact Or.inl ⟨rfl, hW, hY, gh_f0, gh_any (by unfold gh_r; omega)⟩
  · refine gh_if (show gh_at (gm_me 56).1 5 = some (5, 3, .ifCond .eq (16), 0, 21, []) from rfl) (fun q => absurd (show (1 : Int) = 0 from q) (by decide)) (fun _ => ?_)
    refine gh_aload_n (show gh_at (gm_me 56).1 8 = some (8, 1, .aload_n 0, 0, 0, []) from rfl) rfl rfl ?_
    refine gh_iload_n (show gh_at (gm_me 56).1 9 = some (9, 1, .iload_n 2, 0, 0, []) from rfl) rfl ?_
    refine gh_callV (r := 1891) (as := [.inl y]) (t := []) (show gh_at (gm_me 56).1 10 = some (10, 3, .invokevirtual 364, 30, 0, [(0, 1411)]) from rfl) (by decide) rfl (by show 2 = _; decide +kernel) (Nat.le_trans (gh_wd _) (Nat.le_of_ble_eq_true rfl)) rfl (by decide +kernel) (by decide +kernel) (Ψ := fun v σ9 => σ9 = σ ∧ (v = .inl 0 ∨ (v = .inl 1 ∧ ∃ n : Nat, n < f ∧ σ 260 n = y))) (gz_behind (d := 4) hb hf hW ⟨rfl, Or.inl rfl⟩ (fun n q1 q2 _ _ => ⟨rfl, Or.inr ⟨rfl, n, q1, q2⟩⟩)) gh_mono (fun v σ9 hv => ?_)
    obtain ⟨e9, hv⟩ := hv
    rw [e9, show gm_rc 30 = 2 by decide +kernel]
    rcases hv with rfl | ⟨rfl, ny, hy1, hy2⟩
    · refine gh_if (show gh_at (gm_me 56).1 13 = some (13, 3, .ifCond .eq (8), 0, 21, []) from rfl) (fun _ => ?_) (fun q => absurd rfl q)
      refine gh_iconst (x := -1) (show gh_at (gm_me 56).1 21 = some (21, 1, .iconst (-1), 34359738360, 0, []) from rfl) (by decide) ?_
      refine gh_iret (show gh_at (gm_me 56).1 22 = some (22, 1, .ireturn, 0, 0, []) from rfl) ?_
      exact Or.inl ⟨rfl, hW, hY, gh_f0, gh_any (by unfold gh_r; omega)⟩
    · refine gh_if (show gh_at (gm_me 56).1 13 = some (13, 3, .ifCond .eq (8), 0, 21, []) from rfl) (fun q => absurd (show (1 : Int) = 0 from q) (by decide)) (fun _ => ?_)
      refine gh_iload_n (show gh_at (gm_me 56).1 16 = some (16, 1, .iload_n 1, 0, 0, []) from rfl) rfl ?_
      refine gh_iload_n (show gh_at (gm_me 56).1 17 = some (17, 1, .iload_n 2, 0, 0, []) from rfl) rfl ?_
      refine gh_icmp (show gh_at (gm_me 56).1 18 = some (18, 3, .if_icmp .ne (5), 0, 23, []) from rfl) (fun hc => ?_) (fun hc => ?_)
      · refine gh_aload_n (show gh_at (gm_me 56).1 23 = some (23, 1, .aload_n 0, 0, 0, []) from rfl) rfl rfl ?_
        refine gh_callV (r := 1891) (as := []) (t := []) (show gh_at (gm_me 56).1 24 = some (24, 3, .invokevirtual 426, 82, 0, [(0, 1837)]) from rfl) (by decide) rfl (by show 1 = _; decide +kernel) (Nat.le_trans (gh_wd _) (Nat.le_of_ble_eq_true rfl)) rfl (by decide +kernel) (by decide +kernel) (gp_call_le (by decide) (gz_keep hf hW hY.2.1 hY.2.2)) gh_mono (fun v σ1 hv => ?_)
        obtain ⟨W1, X1, F1⟩ := hv
        rw [show gm_rc 82 = 0 by decide +kernel]
        show gp_ok _ _ _ _ _ _ _ [] σ1
        have s1 : ∀ j, σ1 260 j = σ 260 j := fun j => F1 260 j rfl
        have Q1 : gv_q f (σ1 260) := gv_q_eq (fun j _ => s1 j) hY.2.2
        have G1 : gt_fr gs_uml σ σ1 := gh_ft gh_f0 F1 (by decide +kernel)
        refine gh_aload_n (show gh_at (gm_me 56).1 27 = some (27, 1, .aload_n 0, 0, 0, []) from rfl) rfl rfl ?_
        refine gh_aload_n (show gh_at (gm_me 56).1 28 = some (28, 1, .aload_n 0, 0, 0, []) from rfl) rfl rfl ?_
        refine gh_iload_n (show gh_at (gm_me 56).1 29 = some (29, 1, .iload_n 1, 0, 0, []) from rfl) rfl ?_
        refine gh_callV (r := 1891) (as := [.inl x]) (t := [.inr 1891]) (show gh_at (gm_me 56).1 30 = some (30, 3, .invokevirtual 361, 220, 0, [(0, 1426)]) from rfl) (by decide) rfl (by show 2 = _; decide +kernel) (Nat.le_trans (gh_wd _) (Nat.le_of_ble_eq_true rfl)) rfl (by decide +kernel) (by decide +kernel) (Ψ := fun v σ9 => σ9 = σ1 ∧ (∃ n : Nat, n < f ∧ v = .inl (n : Int))) (gz_seatOf (d := 5) hb hf W1 (fun q => absurd ((s1 _).trans hx2) (q nx hx1)) (fun n q1 _ => ⟨rfl, n, q1, rfl⟩)) gh_mono (fun v σ9 hv => ?_)
        obtain ⟨e9, hv⟩ := hv
        rw [e9, show gm_rc 220 = 1 by decide +kernel]
        obtain ⟨m, hm, rfl⟩ := hv
        show gp_ok _ _ _ _ _ _ _ [.inl (m : Int), .inr 1891] _
        refine gh_aload_n (show gh_at (gm_me 56).1 33 = some (33, 1, .aload_n 0, 0, 0, []) from rfl) rfl rfl ?_
        refine gh_iload_n (show gh_at (gm_me 56).1 34 = some (34, 1, .iload_n 2, 0, 0, []) from rfl) rfl ?_
        refine gh_callV (r := 1891) (as := [.inl y]) (t := [.inl (m : Int), .inr 1891]) (show gh_at (gm_me 56).1 35 = some (35, 3, .invokevirtual 361, 220, 0, [(0, 1426)]) from rfl) (by decide) rfl (by show 2 = _; decide +kernel) (Nat.le_trans (gh_wd _) (Nat.le_of_ble_eq_true rfl)) rfl (by decide +kernel) (by decide +kernel) (Ψ := fun v σ9 => σ9 = σ1 ∧ (∃ n : Nat, n < f ∧ v = .inl (n : Int))) (gz_seatOf (d := 5) hb hf W1 (fun q => absurd ((s1 _).trans hy2) (q ny hy1)) (fun n q1 _ => ⟨rfl, n, q1, rfl⟩)) gh_mono (fun v σ9 hv => ?_)
        obtain ⟨e9, hv⟩ := hv
        rw [e9, show gm_rc 220 = 1 by decide +kernel]
        obtain ⟨n, hn, rfl⟩ := hv
        show gp_ok _ _ _ _ _ _ _ [.inl (n : Int), .inl (m : Int), .inr 1891] _
        refine gh_callV (r := 1891) (as := [.inl (m : Int), .inl (n : Int)]) (t := []) (show gh_at (gm_me 56).1 38 = some (38, 3, .invokevirtual 429, 229, 0, [(0, 1875)]) from rfl) (by decide) rfl (by show 3 = _; decide +kernel) (Nat.le_trans (gh_wd _) (Nat.le_of_ble_eq_true rfl)) rfl (by decide +kernel) (by decide +kernel) (Ψ := fun v σ9 => σ9 = (gp_up (gp_up σ1 260 m (σ1 260 n)) 260 n (σ1 260 m)) ∧ (True)) (gz_swapS (d := 6) (by omega) (by omega) ⟨rfl, trivial⟩) gh_mono (fun v σ9 hv => ?_)
        obtain ⟨e9, hv⟩ := hv
        rw [e9, show gm_rc 229 = 0 by decide +kernel]
        show gp_ok _ _ _ _ _ _ _ [] (gp_up (gp_up σ1 260 m (σ1 260 n)) 260 n (σ1 260 m))
        have W2 := gm_swW W1 (m := m) (n := n) (by omega) (by omega)
        have Y2 : gm_Y f (gp_up (gp_up σ1 260 m (σ1 260 n)) 260 n (σ1 260 m)) := ⟨hf, gm_Xu (gm_Xu X1 rfl) rfl, gm_qsw Q1 hm hn⟩
        have F2 : gt_fr gs_uml σ (gp_up (gp_up σ1 260 m (σ1 260 n)) 260 n (σ1 260 m)) := gh_fu (gh_fu G1 (gb_mo_mem _ (by decide))) (gb_mo_mem _ (by decide))
        generalize (gp_up (gp_up σ1 260 m (σ1 260 n)) 260 n (σ1 260 m)) = σ2 at W2 Y2 F2 ⊢
        refine gh_aload_n (show gh_at (gm_me 56).1 41 = some (41, 1, .aload_n 0, 0, 0, []) from rfl) rfl rfl ?_
        refine gh_callV (r := 1891) (as := []) (t := []) (show gh_at (gm_me 56).1 42 = some (42, 3, .invokevirtual 420, 28, 0, [(0, 1806)]) from rfl) (by decide) rfl (by show 1 = _; decide +kernel) (Nat.le_trans (gh_wd _) (Nat.le_of_ble_eq_true rfl)) rfl (by decide +kernel) (by decide +kernel) (Ψ := fun v σ9 => σ9 = σ2 ∧ (gm_rc 28 = 0 ∨ gt_tv 34359738362 v)) (gh_u0 (cn_13 hb hf) (by decide) W2 Y2.2.1 ⟨Or.inr (Or.inl ⟨rfl, rfl⟩), trivial⟩) gh_mono (fun v σ9 hv => ?_)
        obtain ⟨e9, hv⟩ := hv
        rw [e9, show gm_rc 28 = 1 by decide +kernel]
        have hv := hv.resolve_left (by decide +kernel)
        obtain ⟨z, rfl, hz, -⟩ := gh_tvi (by decide) hv
        show gp_ok _ _ _ _ _ _ _ [.inl z] _
        refine gh_iret (show gh_at (gm_me 56).1 45 = some (45, 1, .ireturn, 0, 0, []) from rfl) ?_
        exact Or.inl ⟨rfl, W2, Y2, F2, gh_any hz⟩
      · refine gh_iconst (x := -1) (show gh_at (gm_me 56).1 21 = some (21, 1, .iconst (-1), 34359738360, 0, []) from rfl) (by decide) ?_
        refine gh_iret (show gh_at (gm_me 56).1 22 = some (22, 1, .ireturn, 0, 0, []) from rfl) ?_
        exact Or.inl ⟨rfl, hW, hY, gh_f0, gh_any (by unfold gh_r; omega)⟩
