/-! best -/
theorem gh_ldcw {sh : Nat → gp_T} {call : gp_K} {rc : Nat} {code : List ga_E} {Φ : gp_F} {pc ln a b : Nat} {ps : List (Nat × Nat)} {al sk : List gp_V} {σ : gp_S} {k : Nat} {x : Int} (hc : gh_at code pc = some (pc, ln, .ldc_w k, a, b, ps)) (hx : gp_li a = x) (h : gp_ok sh call rc code Φ (pc + ln) al (.inl x :: sk) σ) : gp_ok sh call rc code Φ pc al sk σ := gh_step hc (by subst hx; exact h)
theorem gm_sw2 {σ σ2 : gp_S} {m n : Nat} (h : (gp_up (gp_up σ 260 m (σ 260 n)) 260 n (σ 260 m)) = σ2) : (gp_up (gp_up σ2 260 m (σ2 260 n)) 260 n (σ2 260 m)) = σ := by
  have e : ∀ j, σ2 260 j = if j = n then σ 260 m else if j = m then σ 260 n else σ 260 j := by
    intro j
    rw [← h]
    by_cases h1 : j = n
    · subst h1; rw [gh_up_eq, if_pos rfl]
    · rw [gh_up_ne (fun q => h1 q.2), if_neg h1]
      by_cases h2 : j = m
      · subst h2; rw [gh_up_eq, if_pos rfl]
      · rw [gh_up_ne (fun q => h2 q.2), if_neg h2]
  funext c j
  by_cases hc : c = 260
  · subst hc
    by_cases h1 : j = n
    · subst h1
      rw [gh_up_eq, e m]
      by_cases h2 : m = j
      · rw [if_pos h2, h2]
      · rw [if_neg h2, if_pos rfl]
    · rw [gh_up_ne (fun q => h1 q.2)]
      by_cases h2 : j = m
      · subst h2
        rw [gh_up_eq, e n, if_pos rfl]
      · rw [gh_up_ne (fun q => h2 q.2), e j, if_neg h1, if_neg h2]
  · rw [gh_up_ne (fun q => hc q.1), gh_up_ne (fun q => hc q.1), ← h, gh_up_ne (fun q => hc q.1), gh_up_ne (fun q => hc q.1)]

theorem gz_best {b f : Nat} {σ : gp_S} {g x : Int} (hb : b < 2) (hW : gt_W (gs_wm b f) σ) (hY : gm_Y f σ) : gp_call gs_sh 8 78 [.inr 1891, .inl g, .inl x] σ (fun v σ' => σ' = σ ∧ gt_tv 34359738362 v) := by
  refine gh_call (al := [.inr 1891, .inl g, .inl x, .inr 7, .inr 7, .inr 7, .inr 7, .inr 7]) (by decide +kernel) (by show 3 = _; decide +kernel) (by rw [show (gm_me 78).2.1 = 5 by decide +kernel]; rfl) (by show 8 = _; decide +kernel) ?_
  rw [show gm_rc 78 = 1 by decide +kernel]
  have hf := hY.1
  have ht := (gh_tv (gh_Wg hW 260 24 (t := 8 * (2147483647 * 4294967296 + (2147483647 + f)) + 2) (by show ¬ 100 = 999; decide) (by show 24 < 29; decide) rfl (by omega))).2
  have loop : ∀ (m : Nat), m < f → ∀ (u n : Nat) (bs le : Int) (w : gp_V), f - n ≤ u → n ≤ f → gh_r bs → gh_r le → gp_ok gs_sh (gp_call gs_sh 7) 1 (gm_me 78).1 (fun v σ' => σ' = σ ∧ gt_tv 34359738362 v) 44 [.inr 1891, .inl g, .inl x, .inl bs, .inl le, .inl (m : Int), .inl (n : Int), w] [] σ := by
    intro m hm u
    induction u with
    | zero =>
      intro n bs le w hu hn hbs hle
      refine gh_iload (show gh_at (gm_me 78).1 44 = some (44, 2, .iload 6, 0, 0, []) from rfl) rfl ?_
      refine gh_aload_n (show gh_at (gm_me 78).1 46 = some (46, 1, .aload_n 0, 0, 0, []) from rfl) rfl rfl ?_
      refine gh_callV (r := 1891) (as := []) (t := [.inl (n : Int)]) (show gh_at (gm_me 78).1 47 = some (47, 3, .invokevirtual 338, 11, 0, [(0, 1399)]) from rfl) (by decide) rfl (by show 1 = _; decide +kernel) (Nat.le_trans (gh_wd _) (Nat.le_of_ble_eq_true rfl)) rfl (by decide +kernel) (by decide +kernel) (Ψ := fun v σ2 => σ2 = σ ∧ v = .inl (f : Int)) (gz_folk (d := 6) hb hW ⟨rfl, rfl⟩) gh_mono (fun v σ2 hv => ?_)
      obtain ⟨e2, rfl⟩ := hv
      rw [e2, show gm_rc 11 = 1 by decide +kernel]
      show gp_ok _ _ _ _ _ _ _ [.inl (f : Int), .inl (n : Int)] _
      refine gh_icmp (show gh_at (gm_me 78).1 50 = some (50, 3, .if_icmp .ge (48), 0, 98, []) from rfl) (fun hc => ?_) (fun hc => ?_)
      · refine gh_iload_n (show gh_at (gm_me 78).1 98 = some (98, 1, .iload_n 2, 0, 0, []) from rfl) rfl ?_
        refine gh_if (show gh_at (gm_me 78).1 99 = some (99, 3, .ifCond .ne (7), 0, 106, []) from rfl) (fun _ => ?_) (fun _ => ?_)
        · refine gh_iload (show gh_at (gm_me 78).1 106 = some (106, 2, .iload 4, 0, 0, []) from rfl) rfl ?_
          refine gh_iret (show gh_at (gm_me 78).1 108 = some (108, 1, .ireturn, 0, 0, []) from rfl) ?_
          exact Or.inl ⟨rfl, rfl, gh_any hle⟩
        · refine gh_iload_n (show gh_at (gm_me 78).1 102 = some (102, 1, .iload_n 3, 0, 0, []) from rfl) rfl ?_
          refine gh_goto (show gh_at (gm_me 78).1 103 = some (103, 3, .goto (5), 0, 108, []) from rfl) ?_
          refine gh_iret (show gh_at (gm_me 78).1 108 = some (108, 1, .ireturn, 0, 0, []) from rfl) ?_
          exact Or.inl ⟨rfl, rfl, gh_any hbs⟩
      · have hc : ¬ (f : Int) ≤ (n : Int) := hc
        omega
    | succ u ih =>
      intro n bs le w hu hn hbs hle
      refine gh_iload (show gh_at (gm_me 78).1 44 = some (44, 2, .iload 6, 0, 0, []) from rfl) rfl ?_
      refine gh_aload_n (show gh_at (gm_me 78).1 46 = some (46, 1, .aload_n 0, 0, 0, []) from rfl) rfl rfl ?_
      refine gh_callV (r := 1891) (as := []) (t := [.inl (n : Int)]) (show gh_at (gm_me 78).1 47 = some (47, 3, .invokevirtual 338, 11, 0, [(0, 1399)]) from rfl) (by decide) rfl (by show 1 = _; decide +kernel) (Nat.le_trans (gh_wd _) (Nat.le_of_ble_eq_true rfl)) rfl (by decide +kernel) (by decide +kernel) (Ψ := fun v σ2 => σ2 = σ ∧ v = .inl (f : Int)) (gz_folk (d := 6) hb hW ⟨rfl, rfl⟩) gh_mono (fun v σ2 hv => ?_)
      obtain ⟨e2, rfl⟩ := hv
      rw [e2, show gm_rc 11 = 1 by decide +kernel]
      show gp_ok _ _ _ _ _ _ _ [.inl (f : Int), .inl (n : Int)] _
      refine gh_icmp (show gh_at (gm_me 78).1 50 = some (50, 3, .if_icmp .ge (48), 0, 98, []) from rfl) (fun hc => ?_) (fun hc => ?_)
      · refine gh_iload_n (show gh_at (gm_me 78).1 98 = some (98, 1, .iload_n 2, 0, 0, []) from rfl) rfl ?_
        refine gh_if (show gh_at (gm_me 78).1 99 = some (99, 3, .ifCond .ne (7), 0, 106, []) from rfl) (fun _ => ?_) (fun _ => ?_)
        · refine gh_iload (show gh_at (gm_me 78).1 106 = some (106, 2, .iload 4, 0, 0, []) from rfl) rfl ?_
          refine gh_iret (show gh_at (gm_me 78).1 108 = some (108, 1, .ireturn, 0, 0, []) from rfl) ?_
          exact Or.inl ⟨rfl, rfl, gh_any hle⟩
        · refine gh_iload_n (show gh_at (gm_me 78).1 102 = some (102, 1, .iload_n 3, 0, 0, []) from rfl) rfl ?_
          refine gh_goto (show gh_at (gm_me 78).1 103 = some (103, 3, .goto (5), 0, 108, []) from rfl) ?_
          refine gh_iret (show gh_at (gm_me 78).1 108 = some (108, 1, .ireturn, 0, 0, []) from rfl) ?_
          exact Or.inl ⟨rfl, rfl, gh_any hbs⟩
      · have hc : ¬ (f : Int) ≤ (n : Int) := hc
        refine gh_aload_n (show gh_at (gm_me 78).1 53 = some (53, 1, .aload_n 0, 0, 0, []) from rfl) rfl rfl ?_
        refine gh_iload (show gh_at (gm_me 78).1 54 = some (54, 2, .iload 5, 0, 0, []) from rfl) rfl ?_
        refine gh_iload (show gh_at (gm_me 78).1 56 = some (56, 2, .iload 6, 0, 0, []) from rfl) rfl ?_
        refine gh_callV (r := 1891) (as := [.inl (m : Int), .inl (n : Int)]) (t := []) (show gh_at (gm_me 78).1 58 = some (58, 3, .invokevirtual 429, 229, 0, [(0, 1875)]) from rfl) (by decide) rfl (by show 3 = _; decide +kernel) (Nat.le_trans (gh_wd _) (Nat.le_of_ble_eq_true rfl)) rfl (by decide +kernel) (by decide +kernel) (Ψ := fun v σ9 => σ9 = (gp_up (gp_up σ 260 m (σ 260 n)) 260 n (σ 260 m)) ∧ (True)) (gz_swapS (d := 6) (by omega) (by omega) ⟨rfl, trivial⟩) gh_mono (fun v σ9 hv => ?_)
        obtain ⟨e9, hv⟩ := hv
        rw [e9, show gm_rc 229 = 0 by decide +kernel]
        show gp_ok _ _ _ _ _ _ _ [] (gp_up (gp_up σ 260 m (σ 260 n)) 260 n (σ 260 m))
        have W2 := gm_swW hW (m := m) (n := n) (by omega) (by omega)
        have X2 : gm_X f (gp_up (gp_up σ 260 m (σ 260 n)) 260 n (σ 260 m)) := gm_Xu (gm_Xu hY.2.1 rfl) rfl
        generalize hs : (gp_up (gp_up σ 260 m (σ 260 n)) 260 n (σ 260 m)) = σ2 at W2 X2 ⊢
        refine gh_aload_n (show gh_at (gm_me 78).1 61 = some (61, 1, .aload_n 0, 0, 0, []) from rfl) rfl rfl ?_
        refine gh_callV (r := 1891) (as := []) (t := []) (show gh_at (gm_me 78).1 62 = some (62, 3, .invokevirtual 420, 28, 0, [(0, 1806)]) from rfl) (by decide) rfl (by show 1 = _; decide +kernel) (Nat.le_trans (gh_wd _) (Nat.le_of_ble_eq_true rfl)) rfl (by decide +kernel) (by decide +kernel) (Ψ := fun v σ9 => σ9 = σ2 ∧ (gm_rc 28 = 0 ∨ gt_tv 34359738362 v)) (gh_u0 (cn_13 hb hf) (by decide) W2 X2 ⟨Or.inr (Or.inl ⟨rfl, rfl⟩), trivial⟩) gh_mono (fun v σ9 hv => ?_)
        obtain ⟨e9, hv⟩ := hv
        rw [e9, show gm_rc 28 = 1 by decide +kernel]
        have hv := hv.resolve_left (by decide +kernel)
        obtain ⟨z, rfl, hz, -⟩ := gh_tvi (by decide) hv
        show gp_ok _ _ _ _ _ _ _ [.inl z] _
        refine gh_istore (show gh_at (gm_me 78).1 65 = some (65, 2, .istore 7, 0, 0, []) from rfl) (fun c q => by cases q <;> decide) rfl ?_
        refine gh_aload_n (show gh_at (gm_me 78).1 67 = some (67, 1, .aload_n 0, 0, 0, []) from rfl) rfl rfl ?_
        refine gh_iload (show gh_at (gm_me 78).1 68 = some (68, 2, .iload 5, 0, 0, []) from rfl) rfl ?_
        refine gh_iload (show gh_at (gm_me 78).1 70 = some (70, 2, .iload 6, 0, 0, []) from rfl) rfl ?_
        refine gh_callV (r := 1891) (as := [.inl (m : Int), .inl (n : Int)]) (t := []) (show gh_at (gm_me 78).1 72 = some (72, 3, .invokevirtual 429, 229, 0, [(0, 1875)]) from rfl) (by decide) rfl (by show 3 = _; decide +kernel) (Nat.le_trans (gh_wd _) (Nat.le_of_ble_eq_true rfl)) rfl (by decide +kernel) (by decide +kernel) (Ψ := fun v σ9 => σ9 = (gp_up (gp_up σ2 260 m (σ2 260 n)) 260 n (σ2 260 m)) ∧ (True)) (gz_swapS (d := 6) (by omega) (by omega) ⟨rfl, trivial⟩) gh_mono (fun v σ9 hv => ?_)
        obtain ⟨e9, hv⟩ := hv
        rw [e9, show gm_rc 229 = 0 by decide +kernel]
        rw [gm_sw2 hs]
        show gp_ok _ _ _ _ _ _ _ [] σ
        refine gh_iload (show gh_at (gm_me 78).1 75 = some (75, 2, .iload 7, 0, 0, []) from rfl) rfl ?_
        refine gh_iload (show gh_at (gm_me 78).1 77 = some (77, 2, .iload 4, 0, 0, []) from rfl) rfl ?_
        refine gh_icmp (show gh_at (gm_me 78).1 79 = some (79, 3, .if_icmp .lt (6), 0, 85, []) from rfl) (fun _ => ?_) (fun _ => ?_)
        · refine gh_iload (show gh_at (gm_me 78).1 85 = some (85, 2, .iload 6, 0, 0, []) from rfl) rfl ?_
          refine gh_istore_n (show gh_at (gm_me 78).1 87 = some (87, 1, .istore_n 3, 0, 0, []) from rfl) (fun c q => by cases q <;> decide) rfl ?_
          refine gh_iload (show gh_at (gm_me 78).1 88 = some (88, 2, .iload 7, 0, 0, []) from rfl) rfl ?_
          refine gh_istore (show gh_at (gm_me 78).1 90 = some (90, 2, .istore 4, 0, 0, []) from rfl) (fun c q => by cases q <;> decide) rfl ?_
          refine gh_iinc (show gh_at (gm_me 78).1 92 = some (92, 3, .iinc 6 (1), 8, 0, []) from rfl) rfl (fun c q => by cases q <;> decide) (y := ((n + 1 : Nat) : Int)) (by rw [gh_add (by unfold gh_r; omega) (by show gh_r 1; unfold gh_r; omega) (by show gh_r ((n : Int) + 1); unfold gh_r; omega)]; show (n : Int) + 1 = _; omega) rfl ?_
          refine gh_goto (show gh_at (gm_me 78).1 95 = some (95, 3, .goto (-51), 0, 44, []) from rfl) ?_
          exact ih (n + 1) _ _ _ (by omega) (by omega) (by unfold gh_r; omega) hz
        · refine gh_goto (show gh_at (gm_me 78).1 82 = some (82, 3, .goto (10), 0, 92, []) from rfl) ?_
          refine gh_iinc (show gh_at (gm_me 78).1 92 = some (92, 3, .iinc 6 (1), 8, 0, []) from rfl) rfl (fun c q => by cases q <;> decide) (y := ((n + 1 : Nat) : Int)) (by rw [gh_add (by unfold gh_r; omega) (by show gh_r 1; unfold gh_r; omega) (by show gh_r ((n : Int) + 1); unfold gh_r; omega)]; show (n : Int) + 1 = _; omega) rfl ?_
          refine gh_goto (show gh_at (gm_me 78).1 95 = some (95, 3, .goto (-51), 0, 44, []) from rfl) ?_
          exact ih (n + 1) _ _ _ (by omega) (by omega) hbs hle
  refine gh_aload_n (show gh_at (gm_me 78).1 0 = some (0, 1, .aload_n 0, 0, 0, []) from rfl) rfl rfl ?_
  refine gh_iload_n (show gh_at (gm_me 78).1 1 = some (1, 1, .iload_n 1, 0, 0, []) from rfl) rfl ?_
  refine gh_callV (r := 1891) (as := [.inl g]) (t := []) (show gh_at (gm_me 78).1 2 = some (2, 3, .invokevirtual 364, 30, 0, [(0, 1411)]) from rfl) (by decide) rfl (by show 2 = _; decide +kernel) (Nat.le_trans (gh_wd _) (Nat.le_of_ble_eq_true rfl)) rfl (by decide +kernel) (by decide +kernel) (Ψ := fun v σ9 => σ9 = σ ∧ (v = .inl 0 ∨ (v = .inl 1 ∧ 0 ≤ σ 260 24 ∧ ∃ n : Nat, n < f ∧ σ 260 n = g))) (gz_behind (d := 4) hb hf hW ⟨rfl, Or.inl rfl⟩ (fun n q1 q2 q3 _ => ⟨rfl, Or.inr ⟨rfl, q3, n, q1, q2⟩⟩)) gh_mono (fun v σ9 hv => ?_)
  obtain ⟨e9, hv⟩ := hv
  rw [e9, show gm_rc 30 = 2 by decide +kernel]
  rcases hv with rfl | ⟨rfl, ha, ng, hg1, hg2⟩
  · refine gh_if (show gh_at (gm_me 78).1 5 = some (5, 3, .ifCond .eq (12), 0, 17, []) from rfl) (fun _ => ?_) (fun q => absurd rfl q)
    refine gh_iconst (x := -1) (show gh_at (gm_me 78).1 17 = some (17, 1, .iconst (-1), 34359738360, 0, []) from rfl) (by decide) ?_
    refine gh_iret (show gh_at (gm_me 78).1 18 = some (18, 1, .ireturn, 0, 0, []) from rfl) ?_
    exact Or.inl ⟨rfl, rfl, gh_any (by unfold gh_r; omega)⟩
  · refine gh_if (show gh_at (gm_me 78).1 5 = some (5, 3, .ifCond .eq (12), 0, 17, []) from rfl) (fun q => absurd (show (1 : Int) = 0 from q) (by decide)) (fun _ => ?_)
    refine gh_iload_n (show gh_at (gm_me 78).1 8 = some (8, 1, .iload_n 2, 0, 0, []) from rfl) rfl ?_
    refine gh_iconst (x := 0) (show gh_at (gm_me 78).1 9 = some (9, 1, .iconst 0, 0, 0, []) from rfl) (by decide) ?_
    refine gh_iconst (x := 1) (show gh_at (gm_me 78).1 10 = some (10, 1, .iconst 1, 8, 0, []) from rfl) (by decide) ?_
    refine gh_callS (as := [.inl x, .inl 0, .inl 1]) (t := []) (show gh_at (gm_me 78).1 11 = some (11, 3, .invokestatic 348, 9, 0, [(0, 1419)]) from rfl) (by decide) rfl (by show 3 = _; decide +kernel) (by decide) (Ψ := fun v σ2 => σ2 = σ ∧ ((v = .inl 1 ∧ 0 ≤ x ∧ x ≤ 1) ∨ (v = .inl 0 ∧ ¬ (0 ≤ x ∧ x ≤ 1)))) (gz_in (d := 6) (fun q => ⟨rfl, Or.inl ⟨rfl, q⟩⟩) (fun q => ⟨rfl, Or.inr ⟨rfl, q⟩⟩)) gh_mono (fun v σ2 hv => ?_)
    obtain ⟨e2, hv⟩ := hv
    rw [e2, show gm_rc 9 = 2 by decide +kernel]
    rcases hv with ⟨rfl, hl⟩ | ⟨rfl, hl⟩
    · refine gh_if (show gh_at (gm_me 78).1 14 = some (14, 3, .ifCond .ne (5), 0, 19, []) from rfl) (fun _ => ?_) (fun q => absurd (show ¬ (1 : Int) = 0 by decide) q)
      refine gh_iconst (x := -1) (show gh_at (gm_me 78).1 19 = some (19, 1, .iconst (-1), 34359738360, 0, []) from rfl) (by decide) ?_
      refine gh_istore_n (show gh_at (gm_me 78).1 20 = some (20, 1, .istore_n 3, 0, 0, []) from rfl) (fun c q => by cases q <;> decide) rfl ?_
      refine gh_ldcw (x := 100000) (show gh_at (gm_me 78).1 21 = some (21, 3, .ldc_w 480, 800000, 0, [(0, 2004)]) from rfl) (by decide) ?_
      refine gh_istore (show gh_at (gm_me 78).1 24 = some (24, 2, .istore 4, 0, 0, []) from rfl) (fun c q => by cases q <;> decide) rfl ?_
      refine gh_aload_n (show gh_at (gm_me 78).1 26 = some (26, 1, .aload_n 0, 0, 0, []) from rfl) rfl rfl ?_
      refine gh_iload_n (show gh_at (gm_me 78).1 27 = some (27, 1, .iload_n 1, 0, 0, []) from rfl) rfl ?_
      refine gh_callV (r := 1891) (as := [.inl g]) (t := []) (show gh_at (gm_me 78).1 28 = some (28, 3, .invokevirtual 361, 220, 0, [(0, 1426)]) from rfl) (by decide) rfl (by show 2 = _; decide +kernel) (Nat.le_trans (gh_wd _) (Nat.le_of_ble_eq_true rfl)) rfl (by decide +kernel) (by decide +kernel) (Ψ := fun v σ9 => σ9 = σ ∧ (∃ n : Nat, n < f ∧ v = .inl (n : Int))) (gz_seatOf (d := 5) hb hf hW (fun q => absurd hg2 (q ng hg1)) (fun n q1 _ => ⟨rfl, n, q1, rfl⟩)) gh_mono (fun v σ9 hv => ?_)
      obtain ⟨e9, hv⟩ := hv
      rw [e9, show gm_rc 220 = 1 by decide +kernel]
      obtain ⟨m, hm, rfl⟩ := hv
      show gp_ok _ _ _ _ _ _ _ [.inl (m : Int)] _
      obtain ⟨a, ea⟩ : ∃ a : Nat, σ 260 24 = (a : Int) := ⟨(σ 260 24).toNat, by omega⟩
      refine gh_istore (show gh_at (gm_me 78).1 31 = some (31, 2, .istore 5, 0, 0, []) from rfl) (fun c q => by cases q <;> decide) rfl ?_
      refine gh_aload_n (show gh_at (gm_me 78).1 33 = some (33, 1, .aload_n 0, 0, 0, []) from rfl) rfl rfl ?_
      refine gh_get (show gh_at (gm_me 78).1 34 = some (34, 3, .getfield 85, 1, 38, [(0, 1479)]) from rfl) rfl (by decide +kernel) (by decide +kernel) (gh_rdr (r := 2083) (by decide +kernel) rfl) ?_
      refine gh_bipush (x := 24) (show gh_at (gm_me 78).1 37 = some (37, 2, .bipush (24), 192, 0, []) from rfl) (by decide) ?_
      refine gh_iald (show gh_at (gm_me 78).1 39 = some (39, 1, .iaload, 0, 0, []) from rfl) rfl (by decide +kernel) (by decide +kernel) (gh_ix (N := 29) (by decide +kernel) (by decide) (by decide)) (gh_rd0 (gh_pk0 (by decide +kernel) _)) ?_
      show gp_ok _ _ _ _ _ _ _ [.inl (σ 260 24)] _
      rw [ea]
      refine gh_iconst (x := 1) (show gh_at (gm_me 78).1 40 = some (40, 1, .iconst 1, 8, 0, []) from rfl) (by decide) ?_
      refine gh_iadd (z := ((a + 1 : Nat) : Int)) (show gh_at (gm_me 78).1 41 = some (41, 1, .iadd, 0, 0, []) from rfl) (by rw [gh_add (by unfold gh_r; omega) (by unfold gh_r; omega) (by unfold gh_r; omega)]; omega) ?_
      refine gh_istore (show gh_at (gm_me 78).1 42 = some (42, 2, .istore 6, 0, 0, []) from rfl) (fun c q => by cases q <;> decide) rfl ?_
      exact loop m hm f (a + 1) _ _ _ (by omega) (by omega) (by unfold gh_r; omega) (by unfold gh_r; omega)
    · refine gh_if (show gh_at (gm_me 78).1 14 = some (14, 3, .ifCond .ne (5), 0, 19, []) from rfl) (fun q => absurd rfl q) (fun _ => ?_)
      refine gh_iconst (x := -1) (show gh_at (gm_me 78).1 17 = some (17, 1, .iconst (-1), 34359738360, 0, []) from rfl) (by decide) ?_
      refine gh_iret (show gh_at (gm_me 78).1 18 = some (18, 1, .ireturn, 0, 0, []) from rfl) ?_
      exact Or.inl ⟨rfl, rfl, gh_any (by unfold gh_r; omega)⟩
