/-! layFirst, bestOf -/
theorem gb_mo_c {c j : Nat} : ∀ {l : List (Nat × Nat)}, (∀ q ∈ l, ¬ q.1 = 99999) → gb_mo l c j = true → ∃ q ∈ l, q.1 = c ∧ (q.2 = j ∨ q.2 = 1048576)
  | [], _, h => by cases h
  | q :: l, hl, h => by
    have h1 : or (or (Nat.beq q.1 99999) (and (Nat.beq q.1 c) (or (Nat.beq q.2 j) (Nat.beq q.2 1048576)))) (gb_mo l c j) = true := h
    rw [Bool.or_eq_true, Bool.or_eq_true, Bool.and_eq_true, Bool.or_eq_true, ga_beq, ga_beq, ga_beq, ga_beq] at h1
    rcases h1 with (h1 | h3) | h1
    · exact absurd h1 (hl q List.mem_cons_self)
    · exact ⟨q, List.mem_cons_self, h3⟩
    · obtain ⟨r, hr, h2⟩ := gb_mo_c (fun q hq => hl q (List.mem_cons_of_mem _ hq)) h1
      exact ⟨r, List.mem_cons_of_mem _ hr, h2⟩
theorem gb_mo_sep {a b : List (Nat × Nat)} (h : (∀ q ∈ a, ¬ q.1 = 99999) ∧ (∀ q ∈ b, ¬ q.1 = 99999) ∧ ∀ q ∈ a, ∀ r ∈ b, ¬ q.1 = r.1) (c j : Nat) (hc : gb_mo a c j = true) : gb_mo b c j = false := by
  cases hb : gb_mo b c j with
  | false => rfl
  | true =>
    obtain ⟨q, hq, e1, -⟩ := gb_mo_c h.1 hc
    obtain ⟨r, hr, e2, -⟩ := gb_mo_c h.2.1 hb
    exact absurd (e1.trans e2.symm) (h.2.2 q hq r hr)
def gs_a29 : List (Nat × Nat) := [(260, 0), (260, 1), (260, 2), (260, 3), (260, 4), (260, 5), (260, 6), (260, 7), (260, 8), (260, 9), (260, 10), (260, 11), (260, 12), (260, 13), (260, 14), (260, 15), (260, 16), (260, 17), (260, 18), (260, 19), (260, 20), (260, 21), (260, 22), (260, 23), (260, 24), (260, 25), (260, 26), (260, 27), (260, 28)]
theorem gs_a29_ok {j : Nat} (h : j < 29) : gb_mo gs_a29 260 j = true := gs_all_ok (show gs_all (fun j => gb_mo gs_a29 260 j) 29 = true by decide +kernel) j h
theorem gs_a29_in {c j : Nat} (h : gb_mo gs_a29 c j = true) : c = 260 ∧ j < 29 := by
  have h1 := gb_mo_in (l := gs_a29) (by decide +kernel) h
  exact (show ∀ q ∈ gs_a29, q.1 = 260 ∧ q.2 < 29 by decide +kernel) _ h1
theorem gs_atq {f A : Nat} {σ : gp_S} (e : σ 260 24 = (A : Int)) (h : A < f) (hf : f < 8) : ∃ y : Int32, y.toInt = σ 260 24 ∧ gb_vr [] gt_o [] (gs_at f) (.int y) := by
  have h1 : gt_tv (gs_at f) (.inl (σ 260 24)) := gh_mk (by unfold gs_at; omega) (by unfold gh_r; omega) (by unfold gs_at; omega) (by unfold gs_at; omega)
  rcases h1 with ⟨-, y, q, hy⟩ | ⟨q, -⟩ | ⟨q, -⟩
  · injection q with q
    exact ⟨y, q.symm, hy⟩
  · unfold gs_at at q; omega
  · unfold gs_at at q; omega

theorem gz_behind2 {b f : Nat} {d : Nat} {σ : gp_S} {Φ : gp_F} {g : Int} (hb : b < 2) (hf : f < 8) (hW : gt_W (gs_wm b f) σ) (hQ : gv_q f (σ 260)) (h0 : (∀ n : Nat, n < f → σ 260 n = g → 0 ≤ σ 260 24 → σ 260 24 < (n : Int) → False) → Φ (.inl 0) σ) (h1 : Φ (.inl 1) σ) : gp_call gs_sh (d + 3) 30 [.inr 1891, .inl g] σ Φ := by
  refine gh_call (al := [.inr 1891, .inl g]) (by decide +kernel) (by show 2 = _; decide +kernel) (by rw [show (gm_me 30).2.1 = 0 by decide +kernel]; rfl) (by show 2 = _; decide +kernel) ?_
  rw [show gm_rc 30 = 2 by decide +kernel]
  refine gh_aload_n (show gh_at (gm_me 30).1 0 = some (0, 1, .aload_n 0, 0, 0, []) from rfl) rfl rfl ?_
  refine gh_iload_n (show gh_at (gm_me 30).1 1 = some (1, 1, .iload_n 1, 0, 0, []) from rfl) rfl ?_
  refine gh_callV (r := 1891) (as := [.inl g]) (t := []) (show gh_at (gm_me 30).1 2 = some (2, 3, .invokevirtual 355, 17, 0, [(0, 1415)]) from rfl) (by decide) rfl (by show 2 = _; decide +kernel) (Nat.le_trans (gh_wd _) (Nat.le_of_ble_eq_true rfl)) rfl (by decide +kernel) (by decide +kernel) (Ψ := fun v σ2 => σ2 = σ ∧ (v = .inl 1 ∨ (v = .inl 0 ∧ ¬ (0 ≤ g ∧ g < (f : Int))))) (gz_isGuest (d := d) hb hf hW (fun _ => ⟨rfl, Or.inl rfl⟩) (fun q => ⟨rfl, Or.inr ⟨rfl, q⟩⟩)) gh_mono (fun v σ2 hv => ?_)
  obtain ⟨e2, hv⟩ := hv
  rw [e2, show gm_rc 17 = 2 by decide +kernel]
  rcases hv with rfl | ⟨rfl, hg⟩
  · refine gh_if (show gh_at (gm_me 30).1 5 = some (5, 3, .ifCond .eq (29), 0, 34, []) from rfl) (fun q => absurd (show (1 : Int) = 0 from q) (by decide)) (fun _ => ?_)
    refine gh_aload_n (show gh_at (gm_me 30).1 8 = some (8, 1, .aload_n 0, 0, 0, []) from rfl) rfl rfl ?_
    refine gh_callV (r := 1891) (as := []) (t := []) (show gh_at (gm_me 30).1 9 = some (9, 3, .invokevirtual 358, 2, 0, [(0, 1422)]) from rfl) (by decide) rfl (by show 1 = _; decide +kernel) (Nat.le_trans (gh_wd _) (Nat.le_of_ble_eq_true rfl)) rfl (by decide +kernel) (by decide +kernel) (Ψ := fun v σ2 => σ2 = σ ∧ ((v = .inl 1 ∧ σ 260 24 < 0) ∨ (v = .inl 0 ∧ 0 ≤ σ 260 24))) (gz_over (d := d + 1) (fun q => ⟨rfl, Or.inl ⟨rfl, q⟩⟩) (fun q => ⟨rfl, Or.inr ⟨rfl, q⟩⟩)) gh_mono (fun v σ2 hv => ?_)
    obtain ⟨e2, hv⟩ := hv
    rw [e2, show gm_rc 2 = 2 by decide +kernel]
    rcases hv with ⟨rfl, ho⟩ | ⟨rfl, ho⟩
    · refine gh_if (show gh_at (gm_me 30).1 12 = some (12, 3, .ifCond .ne (22), 0, 34, []) from rfl) (fun _ => ?_) (fun q => absurd (show ¬ (1 : Int) = 0 by decide) q)
      refine gh_iconst (x := 0) (show gh_at (gm_me 30).1 34 = some (34, 1, .iconst 0, 0, 0, []) from rfl) (by decide) ?_
      refine gh_iret (show gh_at (gm_me 30).1 35 = some (35, 1, .ireturn, 0, 0, []) from rfl) ?_
      exact Or.inr ⟨rfl, Or.inl rfl, h0 (fun _ _ _ q _ => by omega)⟩
    · refine gh_if (show gh_at (gm_me 30).1 12 = some (12, 3, .ifCond .ne (22), 0, 34, []) from rfl) (fun q => absurd rfl q) (fun _ => ?_)
      refine gh_aload_n (show gh_at (gm_me 30).1 15 = some (15, 1, .aload_n 0, 0, 0, []) from rfl) rfl rfl ?_
      refine gh_iload_n (show gh_at (gm_me 30).1 16 = some (16, 1, .iload_n 1, 0, 0, []) from rfl) rfl ?_
      refine gh_callV (r := 1891) (as := [.inl g]) (t := []) (show gh_at (gm_me 30).1 17 = some (17, 3, .invokevirtual 361, 220, 0, [(0, 1426)]) from rfl) (by decide) rfl (by show 2 = _; decide +kernel) (Nat.le_trans (gh_wd _) (Nat.le_of_ble_eq_true rfl)) rfl (by decide +kernel) (by decide +kernel) (Ψ := fun v σ2 => σ2 = σ ∧ ((v = .inl (-1) ∧ ∀ i : Nat, i < f → ¬ σ 260 i = g) ∨ ∃ n : Nat, n < f ∧ σ 260 n = g ∧ v = .inl (n : Int))) (gz_seatOf (d := d) hb hf hW (fun q => ⟨rfl, Or.inl ⟨rfl, q⟩⟩) (fun n q1 q2 => ⟨rfl, Or.inr ⟨n, q1, q2, rfl⟩⟩)) gh_mono (fun v σ2 hv => ?_)
      obtain ⟨e2, hv⟩ := hv
      rw [e2, show gm_rc 220 = 1 by decide +kernel]
      rcases hv with ⟨rfl, hno⟩ | ⟨n, q1, q2, rfl⟩
      · show gp_ok _ _ _ _ _ _ _ [.inl (-1)] _
        refine gh_aload_n (show gh_at (gm_me 30).1 20 = some (20, 1, .aload_n 0, 0, 0, []) from rfl) rfl rfl ?_
        refine gh_get (show gh_at (gm_me 30).1 21 = some (21, 3, .getfield 85, 1, 38, [(0, 1479)]) from rfl) rfl (by decide +kernel) (by decide +kernel) (gh_rdr (r := 2083) (by decide +kernel) rfl) ?_
        refine gh_bipush (x := 24) (show gh_at (gm_me 30).1 24 = some (24, 2, .bipush (24), 192, 0, []) from rfl) (by decide) ?_
        refine gh_iald (show gh_at (gm_me 30).1 26 = some (26, 1, .iaload, 0, 0, []) from rfl) rfl (by decide +kernel) (by decide +kernel) (gh_ix (N := 29) (by decide +kernel) (by decide) (by decide)) (gh_rd0 (gh_pk0 (by decide +kernel) _)) ?_
        refine gh_icmp (show gh_at (gm_me 30).1 27 = some (27, 3, .if_icmp .le (7), 0, 34, []) from rfl) (fun hc => ?_) (fun hc => ?_)
        · have hc : (-1) ≤ σ 260 24 := hc
          refine gh_iconst (x := 0) (show gh_at (gm_me 30).1 34 = some (34, 1, .iconst 0, 0, 0, []) from rfl) (by decide) ?_
          refine gh_iret (show gh_at (gm_me 30).1 35 = some (35, 1, .ireturn, 0, 0, []) from rfl) ?_
          exact Or.inr ⟨rfl, Or.inl rfl, h0 (fun n q1 q2 _ _ => hno n q1 q2)⟩
        · have hc : ¬ (-1) ≤ σ 260 24 := hc
          omega
      · show gp_ok _ _ _ _ _ _ _ [.inl (n : Int)] _
        refine gh_aload_n (show gh_at (gm_me 30).1 20 = some (20, 1, .aload_n 0, 0, 0, []) from rfl) rfl rfl ?_
        refine gh_get (show gh_at (gm_me 30).1 21 = some (21, 3, .getfield 85, 1, 38, [(0, 1479)]) from rfl) rfl (by decide +kernel) (by decide +kernel) (gh_rdr (r := 2083) (by decide +kernel) rfl) ?_
        refine gh_bipush (x := 24) (show gh_at (gm_me 30).1 24 = some (24, 2, .bipush (24), 192, 0, []) from rfl) (by decide) ?_
        refine gh_iald (show gh_at (gm_me 30).1 26 = some (26, 1, .iaload, 0, 0, []) from rfl) rfl (by decide +kernel) (by decide +kernel) (gh_ix (N := 29) (by decide +kernel) (by decide) (by decide)) (gh_rd0 (gh_pk0 (by decide +kernel) _)) ?_
        refine gh_icmp (show gh_at (gm_me 30).1 27 = some (27, 3, .if_icmp .le (7), 0, 34, []) from rfl) (fun hc => ?_) (fun hc => ?_)
        · have hc : (n : Int) ≤ σ 260 24 := hc
          refine gh_iconst (x := 0) (show gh_at (gm_me 30).1 34 = some (34, 1, .iconst 0, 0, 0, []) from rfl) (by decide) ?_
          refine gh_iret (show gh_at (gm_me 30).1 35 = some (35, 1, .ireturn, 0, 0, []) from rfl) ?_
          exact Or.inr ⟨rfl, Or.inl rfl, h0 (fun s r1 r2 _ r4 => by rcases (show n < s ∨ s < n by omega) with w | w; (exact hQ.2 n s w r1 (q2.trans r2.symm)); exact hQ.2 s n w q1 (r2.trans q2.symm))⟩
        · have hc : ¬ (n : Int) ≤ σ 260 24 := hc
          refine gh_iconst (x := 1) (show gh_at (gm_me 30).1 30 = some (30, 1, .iconst 1, 8, 0, []) from rfl) (by decide) ?_
          refine gh_goto (show gh_at (gm_me 30).1 31 = some (31, 3, .goto (4), 0, 35, []) from rfl) ?_
          refine gh_iret (show gh_at (gm_me 30).1 35 = some (35, 1, .ireturn, 0, 0, []) from rfl) ?_
          exact Or.inr ⟨rfl, Or.inr rfl, h1⟩
  · refine gh_if (show gh_at (gm_me 30).1 5 = some (5, 3, .ifCond .eq (29), 0, 34, []) from rfl) (fun _ => ?_) (fun q => absurd rfl q)
    refine gh_iconst (x := 0) (show gh_at (gm_me 30).1 34 = some (34, 1, .iconst 0, 0, 0, []) from rfl) (by decide) ?_
    refine gh_iret (show gh_at (gm_me 30).1 35 = some (35, 1, .ireturn, 0, 0, []) from rfl) ?_
    exact Or.inr ⟨rfl, Or.inl rfl, h0 (fun n q1 q2 _ _ => by have u1 := hQ.1 n q1; have u2 := (gh_tv (gm_seat hW (n := n) (by omega))).2; omega)⟩
theorem gz_first {b f : Nat} {σ : gp_S} {A N : Nat} (hb : b < 2) (hf : f < 8) (hW : gt_W (gs_wm b f) σ) (hQ : gv_q f (σ 260)) (hA : σ 260 24 = (A : Int)) (hN : N + A + 1 = f) : gp_call gs_sh 4 231 [.inr 1891] σ (fun _ σ' => gt_W (gs_wm b f) σ' ∧ gt_fr gs_oml σ σ' ∧ gd_d N (σ' 266)) := by
  refine gh_call (al := [.inr 1891, .inr 7, .inr 7]) (by decide +kernel) (by show 1 = _; decide +kernel) (by rw [show (gm_me 231).2.1 = 2 by decide +kernel]; rfl) (by show 3 = _; decide +kernel) ?_
  rw [show gm_rc 231 = 0 by decide +kernel]
  have loop : ∀ (m c g : Nat) (σ1 : gp_S), f - g ≤ m → c ≤ g → g ≤ f → gt_W (gs_wm b f) σ1 → gt_fr gs_oml σ σ1 → (∀ i, i < c → σ1 266 i < (g : Int)) → (∀ i j, i < j → j < c → σ1 266 i < σ1 266 j) → (∀ s : Nat, A < s → s < f → σ 260 s < (g : Int) → ∃ o, o < c ∧ σ1 266 o = σ 260 s) → gp_ok gs_sh (gp_call gs_sh 3) 0 (gm_me 231).1 (fun _ σ' => gt_W (gs_wm b f) σ' ∧ gt_fr gs_oml σ σ' ∧ gd_d N (σ' 266)) 4 [.inr 1891, .inl (c : Int), .inl (g : Int)] [] σ1 := by
    intro m
    induction m with
    | zero =>
      intro c g σ1 hm hcg hgf W1 F1 hl hi hs
      refine gh_iload_n (show gh_at (gm_me 231).1 4 = some (4, 1, .iload_n 2, 0, 0, []) from rfl) rfl ?_
      refine gh_aload_n (show gh_at (gm_me 231).1 5 = some (5, 1, .aload_n 0, 0, 0, []) from rfl) rfl rfl ?_
      refine gh_callV (r := 1891) (as := []) (t := [.inl (g : Int)]) (show gh_at (gm_me 231).1 6 = some (6, 3, .invokevirtual 338, 11, 0, [(0, 1399)]) from rfl) (by decide) rfl (by show 1 = _; decide +kernel) (Nat.le_trans (gh_wd _) (Nat.le_of_ble_eq_true rfl)) rfl (by decide +kernel) (by decide +kernel) (Ψ := fun v σ9 => σ9 = σ1 ∧ v = .inl (f : Int)) (gz_folk (d := 2) hb W1 ⟨rfl, rfl⟩) gh_mono (fun v σ9 hv => ?_)
      obtain ⟨e9, rfl⟩ := hv
      rw [e9, show gm_rc 11 = 1 by decide +kernel]
      show gp_ok _ _ _ _ _ _ _ (.inl (f : Int) :: _) _
      refine gh_icmp (show gh_at (gm_me 231).1 9 = some (9, 3, .if_icmp .ge (30), 0, 39, []) from rfl) (fun hc => ?_) (fun hc => ?_)
      · have hc : (f : Int) ≤ (g : Int) := hc
        refine gh_ret (show gh_at (gm_me 231).1 39 = some (39, 1, .return_, 0, 0, []) from rfl) rfl ?_
        have hNc := gh_ph2 (σ1 266) c N (fun t => σ 260 (A + 1 + t)) (fun i j h1 h2 => hQ.2 _ _ (by omega) (by omega)) (fun t ht => hs (A + 1 + t) (by omega) (by omega) (by have := hQ.1 (A + 1 + t) (by omega); omega))
        exact ⟨W1, F1, fun i j h1 h2 => by have := hi i j h1 (by omega); omega⟩
      · have hc : ¬ (f : Int) ≤ (g : Int) := hc
        omega
    | succ m ih =>
      intro c g σ1 hm hcg hgf W1 F1 hl hi hs
      refine gh_iload_n (show gh_at (gm_me 231).1 4 = some (4, 1, .iload_n 2, 0, 0, []) from rfl) rfl ?_
      refine gh_aload_n (show gh_at (gm_me 231).1 5 = some (5, 1, .aload_n 0, 0, 0, []) from rfl) rfl rfl ?_
      refine gh_callV (r := 1891) (as := []) (t := [.inl (g : Int)]) (show gh_at (gm_me 231).1 6 = some (6, 3, .invokevirtual 338, 11, 0, [(0, 1399)]) from rfl) (by decide) rfl (by show 1 = _; decide +kernel) (Nat.le_trans (gh_wd _) (Nat.le_of_ble_eq_true rfl)) rfl (by decide +kernel) (by decide +kernel) (Ψ := fun v σ9 => σ9 = σ1 ∧ v = .inl (f : Int)) (gz_folk (d := 2) hb W1 ⟨rfl, rfl⟩) gh_mono (fun v σ9 hv => ?_)
      obtain ⟨e9, rfl⟩ := hv
      rw [e9, show gm_rc 11 = 1 by decide +kernel]
      show gp_ok _ _ _ _ _ _ _ (.inl (f : Int) :: _) _
      refine gh_icmp (show gh_at (gm_me 231).1 9 = some (9, 3, .if_icmp .ge (30), 0, 39, []) from rfl) (fun hc => ?_) (fun hc => ?_)
      · have hc : (f : Int) ≤ (g : Int) := hc
        refine gh_ret (show gh_at (gm_me 231).1 39 = some (39, 1, .return_, 0, 0, []) from rfl) rfl ?_
        have hNc := gh_ph2 (σ1 266) c N (fun t => σ 260 (A + 1 + t)) (fun i j h1 h2 => hQ.2 _ _ (by omega) (by omega)) (fun t ht => hs (A + 1 + t) (by omega) (by omega) (by have := hQ.1 (A + 1 + t) (by omega); omega))
        exact ⟨W1, F1, fun i j h1 h2 => by have := hi i j h1 (by omega); omega⟩
      · have hc : ¬ (f : Int) ≤ (g : Int) := hc
        have eA : σ1 260 24 = (A : Int) := (F1 260 24 rfl).trans hA
        refine gh_aload_n (show gh_at (gm_me 231).1 12 = some (12, 1, .aload_n 0, 0, 0, []) from rfl) rfl rfl ?_
        refine gh_iload_n (show gh_at (gm_me 231).1 13 = some (13, 1, .iload_n 2, 0, 0, []) from rfl) rfl ?_
        refine gh_callV (r := 1891) (as := [.inl (g : Int)]) (t := []) (show gh_at (gm_me 231).1 14 = some (14, 3, .invokevirtual 364, 30, 0, [(0, 1411)]) from rfl) (by decide) rfl (by show 2 = _; decide +kernel) (Nat.le_trans (gh_wd _) (Nat.le_of_ble_eq_true rfl)) rfl (by decide +kernel) (by decide +kernel) (Ψ := fun v σ9 => σ9 = σ1 ∧ ((v = .inl 0 ∧ ∀ n : Nat, n < f → σ1 260 n = (g : Int) → 0 ≤ σ1 260 24 → σ1 260 24 < (n : Int) → False) ∨ v = .inl 1)) (gz_behind2 (d := 0) hb hf W1 (gv_q_eq (fun j _ => F1 260 j rfl) hQ) (fun q => ⟨rfl, Or.inl ⟨rfl, q⟩⟩) ⟨rfl, Or.inr rfl⟩) gh_mono (fun v σ9 hv => ?_)
        rw [show gm_rc 30 = 2 by decide +kernel]
        obtain ⟨e9, hv⟩ := hv
        subst e9
        rcases hv with ⟨rfl, hno⟩ | rfl
        · refine gh_if (show gh_at (gm_me 231).1 17 = some (17, 3, .ifCond .ne (6), 0, 23, []) from rfl) (fun q => absurd rfl q) (fun _ => ?_)
          refine gh_goto (show gh_at (gm_me 231).1 20 = some (20, 3, .goto (13), 0, 33, []) from rfl) ?_
          refine gh_iinc (show gh_at (gm_me 231).1 33 = some (33, 3, .iinc 2 (1), 8, 0, []) from rfl) rfl (fun c q => by cases q <;> decide) (y := ((g + 1 : Nat) : Int)) (by rw [gh_add (by unfold gh_r; omega) (by show gh_r 1; unfold gh_r; omega) (by show gh_r ((g : Int) + 1); unfold gh_r; omega)]; show (g : Int) + 1 = _; omega) rfl ?_
          refine gh_goto (show gh_at (gm_me 231).1 36 = some (36, 3, .goto (-32), 0, 4, []) from rfl) ?_
          refine ih c (g + 1) σ9 (by omega) (by omega) (by omega) W1 F1 (fun i h => by have := hl i h; omega) hi (fun s h1 h2 h3 => ?_)
          by_cases e : σ 260 s = (g : Int)
          · exact (hno s h2 ((F1 260 s rfl).trans e) (by omega) (by omega)).elim
          · exact hs s h1 h2 (by omega)
        · refine gh_if (show gh_at (gm_me 231).1 17 = some (17, 3, .ifCond .ne (6), 0, 23, []) from rfl) (fun _ => ?_) (fun q => absurd (show ¬ (1 : Int) = 0 by decide) q)
          refine gh_aload_n (show gh_at (gm_me 231).1 23 = some (23, 1, .aload_n 0, 0, 0, []) from rfl) rfl rfl ?_
          refine gh_get (show gh_at (gm_me 231).1 24 = some (24, 3, .getfield 109, 1, 49, [(0, 1490)]) from rfl) rfl (by decide +kernel) (by decide +kernel) (gh_rdr (r := 2131) (by decide +kernel) rfl) ?_
          refine gh_iload_n (show gh_at (gm_me 231).1 27 = some (27, 1, .iload_n 1, 0, 0, []) from rfl) rfl ?_
          refine gh_iload_n (show gh_at (gm_me 231).1 28 = some (28, 1, .iload_n 2, 0, 0, []) from rfl) rfl ?_
          refine gh_iast (show gh_at (gm_me 231).1 29 = some (29, 1, .iastore, 0, 0, []) from rfl) rfl (by decide +kernel) (by decide +kernel) (gh_ix (N := 7) (by decide +kernel) (by omega) (by omega)) (gh_pk0 (by decide +kernel) _) ?_
          rw [show ((c : Int)).toNat = c by omega]
          show gp_ok _ _ _ _ _ _ _ [] (gp_up σ9 266 c (g : Int))
          have W4 : gt_W (gs_wm b f) (gp_up σ9 266 c (g : Int)) := gh_Wu W1 (c := 266) (j := c) (x := (g : Int)) (fun _ => show gt_tv 73786976312018075698 (.inl (g : Int)) from gh_mk (by decide) (by unfold gh_r; omega) (by omega) (by omega))
          have F4 : gt_fr gs_oml σ (gp_up σ9 266 c (g : Int)) := gh_fu F1 (gb_mo_mem _ (by decide))
          have h4 : (gp_up σ9 266 c (g : Int)) 266 c = (g : Int) := gh_up_eq _ _ _ _
          have n4 : ∀ i, ¬ i = c → (gp_up σ9 266 c (g : Int)) 266 i = σ9 266 i := fun i q => gh_up_ne (fun e => q e.2)
          generalize (gp_up σ9 266 c (g : Int)) = σ4 at W4 F4 h4 n4 ⊢
          refine gh_iinc (show gh_at (gm_me 231).1 30 = some (30, 3, .iinc 1 (1), 8, 0, []) from rfl) rfl (fun c q => by cases q <;> decide) (y := ((c + 1 : Nat) : Int)) (by rw [gh_add (by unfold gh_r; omega) (by show gh_r 1; unfold gh_r; omega) (by show gh_r ((c : Int) + 1); unfold gh_r; omega)]; show (c : Int) + 1 = _; omega) rfl ?_
          refine gh_iinc (show gh_at (gm_me 231).1 33 = some (33, 3, .iinc 2 (1), 8, 0, []) from rfl) rfl (fun c q => by cases q <;> decide) (y := ((g + 1 : Nat) : Int)) (by rw [gh_add (by unfold gh_r; omega) (by show gh_r 1; unfold gh_r; omega) (by show gh_r ((g : Int) + 1); unfold gh_r; omega)]; show (g : Int) + 1 = _; omega) rfl ?_
          refine gh_goto (show gh_at (gm_me 231).1 36 = some (36, 3, .goto (-32), 0, 4, []) from rfl) ?_
          refine ih (c + 1) (g + 1) σ4 (by omega) (by omega) (by omega) W4 F4 (fun i h => ?_) (fun i j h1 h2 => ?_) (fun s h1 h2 h3 => ?_)
          · by_cases e : i = c
            · subst e; omega
            · have := hl i (by omega); rw [n4 i e]; omega
          · by_cases e : j = c
            · subst e; have := hl i (by omega); rw [n4 i (by omega)]; omega
            · rw [n4 i (by omega), n4 j e]; exact hi i j h1 (by omega)
          · by_cases e : σ 260 s = (g : Int)
            · exact ⟨c, by omega, h4.trans e.symm⟩
            · obtain ⟨o, ho, eo⟩ := hs s h1 h2 (by omega)
              exact ⟨o, by omega, (n4 o (by omega)).trans eo⟩
  refine gh_iconst (x := 0) (show gh_at (gm_me 231).1 0 = some (0, 1, .iconst 0, 0, 0, []) from rfl) (by decide) ?_
  refine gh_istore_n (show gh_at (gm_me 231).1 1 = some (1, 1, .istore_n 1, 0, 0, []) from rfl) (fun c q => by cases q <;> decide) rfl ?_
  refine gh_iconst (x := 0) (show gh_at (gm_me 231).1 2 = some (2, 1, .iconst 0, 0, 0, []) from rfl) (by decide) ?_
  refine gh_istore_n (show gh_at (gm_me 231).1 3 = some (3, 1, .istore_n 2, 0, 0, []) from rfl) (fun c q => by cases q <;> decide) rfl ?_
  exact loop f 0 0 σ (by omega) (by omega) (by omega) hW gh_f0 (fun i h => absurd h (by omega)) (fun i j _ h => absurd h (by omega)) (fun s _ h2 h3 => absurd h3 (by have := (gh_tv (gm_seat hW (n := s) (by omega))).2; omega))
theorem gz_many {b f : Nat} {d : Nat} {σ : gp_S} {Φ : gp_F} {A N : Nat} (hb : b < 2) (hf : f < 8) (hW : gt_W (gs_wm b f) σ) (hA : σ 260 24 = (A : Int)) (hN : N + A + 1 = f) (h : Φ (.inl (N : Int)) σ) : gp_call gs_sh (d + 2) 230 [.inr 1891] σ Φ := by
  refine gh_call (al := [.inr 1891]) (by decide +kernel) (by show 1 = _; decide +kernel) (by rw [show (gm_me 230).2.1 = 0 by decide +kernel]; rfl) (by show 1 = _; decide +kernel) ?_
  rw [show gm_rc 230 = 1 by decide +kernel]
  refine gh_aload_n (show gh_at (gm_me 230).1 0 = some (0, 1, .aload_n 0, 0, 0, []) from rfl) rfl rfl ?_
  refine gh_callV (r := 1891) (as := []) (t := []) (show gh_at (gm_me 230).1 1 = some (1, 3, .invokevirtual 358, 2, 0, [(0, 1422)]) from rfl) (by decide) rfl (by show 1 = _; decide +kernel) (Nat.le_trans (gh_wd _) (Nat.le_of_ble_eq_true rfl)) rfl (by decide +kernel) (by decide +kernel) (Ψ := fun v σ9 => σ9 = σ ∧ v = .inl 0) (gz_over (d := d) (fun q => absurd q (by omega)) (fun q => ⟨rfl, rfl⟩)) gh_mono (fun v σ9 hv => ?_)
  rw [show gm_rc 2 = 2 by decide +kernel]
  obtain ⟨e9, rfl⟩ := hv
  rw [e9]
  clear e9
  refine gh_if (show gh_at (gm_me 230).1 4 = some (4, 3, .ifCond .eq (7), 0, 11, []) from rfl) (fun _ => ?_) (fun q => absurd rfl q)
  refine gh_aload_n (show gh_at (gm_me 230).1 11 = some (11, 1, .aload_n 0, 0, 0, []) from rfl) rfl rfl ?_
  refine gh_callV (r := 1891) (as := []) (t := []) (show gh_at (gm_me 230).1 12 = some (12, 3, .invokevirtual 338, 11, 0, [(0, 1399)]) from rfl) (by decide) rfl (by show 1 = _; decide +kernel) (Nat.le_trans (gh_wd _) (Nat.le_of_ble_eq_true rfl)) rfl (by decide +kernel) (by decide +kernel) (Ψ := fun v σ9 => σ9 = σ ∧ v = .inl (f : Int)) (gz_folk (d := d) hb hW ⟨rfl, rfl⟩) gh_mono (fun v σ9 hv => ?_)
  obtain ⟨e9, rfl⟩ := hv
  rw [e9, show gm_rc 11 = 1 by decide +kernel]
  show gp_ok _ _ _ _ _ _ _ (.inl (f : Int) :: _) _
  refine gh_iconst (x := 1) (show gh_at (gm_me 230).1 15 = some (15, 1, .iconst 1, 8, 0, []) from rfl) (by decide) ?_
  refine gh_isub (z := (f : Int) - 1) (show gh_at (gm_me 230).1 16 = some (16, 1, .isub, 0, 0, []) from rfl) (gh_sub (by unfold gh_r; omega) (by unfold gh_r; omega) (by unfold gh_r; omega)) ?_
  refine gh_aload_n (show gh_at (gm_me 230).1 17 = some (17, 1, .aload_n 0, 0, 0, []) from rfl) rfl rfl ?_
  refine gh_get (show gh_at (gm_me 230).1 18 = some (18, 3, .getfield 85, 1, 38, [(0, 1479)]) from rfl) rfl (by decide +kernel) (by decide +kernel) (gh_rdr (r := 2083) (by decide +kernel) rfl) ?_
  refine gh_bipush (x := 24) (show gh_at (gm_me 230).1 21 = some (21, 2, .bipush (24), 192, 0, []) from rfl) (by decide) ?_
  refine gh_iald (show gh_at (gm_me 230).1 23 = some (23, 1, .iaload, 0, 0, []) from rfl) rfl (by decide +kernel) (by decide +kernel) (gh_ix (N := 29) (by decide +kernel) (by decide) (by decide)) (gh_rd0 (gh_pk0 (by decide +kernel) _)) ?_
  show gp_ok _ _ _ _ _ _ _ [.inl (σ 260 24), .inl ((f : Int) - 1)] _
  rw [hA]
  refine gh_isub (z := (N : Int)) (show gh_at (gm_me 230).1 24 = some (24, 1, .isub, 0, 0, []) from rfl) (by rw [gh_sub (by unfold gh_r; omega) (by unfold gh_r; omega) (by unfold gh_r; omega)]; omega) ?_
  refine gh_iret (show gh_at (gm_me 230).1 25 = some (25, 1, .ireturn, 0, 0, []) from rfl) ?_
  exact Or.inl ⟨rfl, h⟩
theorem gz_keepN {b f : Nat} {d : Nat} {σ : gp_S} (hW : gt_W (gs_wm b f) σ) : gp_call gs_sh (d + 1) 29 [.inr 1891] σ (fun _ σ' => gt_W (gs_wm b f) σ' ∧ gt_fr [(261, 1048576)] σ σ' ∧ ∀ j : Nat, j < 29 → σ' 261 j = σ 260 j) := by
  refine gh_call (al := [.inr 1891, .inr 7]) (by decide +kernel) (by show 1 = _; decide +kernel) (by rw [show (gm_me 29).2.1 = 1 by decide +kernel]; rfl) (by show 2 = _; decide +kernel) ?_
  rw [show gm_rc 29 = 0 by decide +kernel]
  have loop : ∀ (m n : Nat) (σ1 : gp_S), 29 - n ≤ m → n ≤ 29 → gt_W (gs_wm b f) σ1 → gt_fr [(261, 1048576)] σ σ1 → (∀ j : Nat, j < n → σ1 261 j = σ 260 j) → gp_ok gs_sh (gp_call gs_sh d) 0 (gm_me 29).1 (fun _ σ' => gt_W (gs_wm b f) σ' ∧ gt_fr [(261, 1048576)] σ σ' ∧ ∀ j : Nat, j < 29 → σ' 261 j = σ 260 j) 2 [.inr 1891, .inl (n : Int)] [] σ1 := by
    intro m
    induction m with
    | zero =>
      intro n σ1 hm hn W1 F1 hl
      refine gh_iload_n (show gh_at (gm_me 29).1 2 = some (2, 1, .iload_n 1, 0, 0, []) from rfl) rfl ?_
      refine gh_bipush (x := 29) (show gh_at (gm_me 29).1 3 = some (3, 2, .bipush (29), 232, 0, []) from rfl) (by decide) ?_
      refine gh_icmp (show gh_at (gm_me 29).1 5 = some (5, 3, .if_icmp .ge (21), 0, 26, []) from rfl) (fun hc => ?_) (fun hc => ?_)
      · have hc : 29 ≤ (n : Int) := hc
        refine gh_ret (show gh_at (gm_me 29).1 26 = some (26, 1, .return_, 0, 0, []) from rfl) rfl ?_
        exact ⟨W1, F1, fun j hj => hl j (by omega)⟩
      · have hc : ¬ 29 ≤ (n : Int) := hc
        omega
    | succ m ih =>
      intro n σ1 hm hn W1 F1 hl
      refine gh_iload_n (show gh_at (gm_me 29).1 2 = some (2, 1, .iload_n 1, 0, 0, []) from rfl) rfl ?_
      refine gh_bipush (x := 29) (show gh_at (gm_me 29).1 3 = some (3, 2, .bipush (29), 232, 0, []) from rfl) (by decide) ?_
      refine gh_icmp (show gh_at (gm_me 29).1 5 = some (5, 3, .if_icmp .ge (21), 0, 26, []) from rfl) (fun hc => ?_) (fun hc => ?_)
      · have hc : 29 ≤ (n : Int) := hc
        refine gh_ret (show gh_at (gm_me 29).1 26 = some (26, 1, .return_, 0, 0, []) from rfl) rfl ?_
        exact ⟨W1, F1, fun j hj => hl j (by omega)⟩
      · have hc : ¬ 29 ≤ (n : Int) := hc
        refine gh_aload_n (show gh_at (gm_me 29).1 8 = some (8, 1, .aload_n 0, 0, 0, []) from rfl) rfl rfl ?_
        refine gh_get (show gh_at (gm_me 29).1 9 = some (9, 3, .getfield 88, 1, 39, [(0, 1480)]) from rfl) rfl (by decide +kernel) (by decide +kernel) (gh_rdr (r := 2091) (by decide +kernel) rfl) ?_
        refine gh_iload_n (show gh_at (gm_me 29).1 12 = some (12, 1, .iload_n 1, 0, 0, []) from rfl) rfl ?_
        refine gh_aload_n (show gh_at (gm_me 29).1 13 = some (13, 1, .aload_n 0, 0, 0, []) from rfl) rfl rfl ?_
        refine gh_get (show gh_at (gm_me 29).1 14 = some (14, 3, .getfield 85, 1, 38, [(0, 1479)]) from rfl) rfl (by decide +kernel) (by decide +kernel) (gh_rdr (r := 2083) (by decide +kernel) rfl) ?_
        refine gh_iload_n (show gh_at (gm_me 29).1 17 = some (17, 1, .iload_n 1, 0, 0, []) from rfl) rfl ?_
        refine gh_iald (show gh_at (gm_me 29).1 18 = some (18, 1, .iaload, 0, 0, []) from rfl) rfl (by decide +kernel) (by decide +kernel) (gh_ix (N := 29) (by decide +kernel) (by omega) (by omega)) (gh_rd0 (gh_pk0 (by decide +kernel) _)) ?_
        rw [show ((n : Int)).toNat = n by omega, show σ1 (2083 / 8) n = σ 260 n from F1 260 n rfl]
        refine gh_iast (show gh_at (gm_me 29).1 19 = some (19, 1, .iastore, 0, 0, []) from rfl) rfl (by decide +kernel) (by decide +kernel) (gh_ix (N := 29) (by decide +kernel) (by omega) (by omega)) (gh_pk0 (by decide +kernel) _) ?_
        rw [show ((n : Int)).toNat = n by omega]
        show gp_ok _ _ _ _ _ _ _ [] (gp_up σ1 261 n (σ 260 n))
        have W4 : gt_W (gs_wm b f) (gp_up σ1 261 n (σ 260 n)) := gh_Wu W1 (c := 261) (j := n) (x := σ 260 n) (fun _ => gh_any (gm_allr hW (by omega)))
        have F4 : gt_fr [(261, 1048576)] σ (gp_up σ1 261 n (σ 260 n)) := gh_fu F1 (gb_mo_mem _ (by decide))
        have l4 : ∀ j, j < n + 1 → (gp_up σ1 261 n (σ 260 n)) 261 j = σ 260 j := fun j hj => by
          by_cases e : j = n
          · subst e; exact gh_up_eq _ _ _ _
          · exact (gh_up_ne (fun q => e q.2)).trans (hl j (by omega))
        generalize (gp_up σ1 261 n (σ 260 n)) = σ4 at W4 F4 l4 ⊢
        refine gh_iinc (show gh_at (gm_me 29).1 20 = some (20, 3, .iinc 1 (1), 8, 0, []) from rfl) rfl (fun c q => by cases q <;> decide) (y := ((n + 1 : Nat) : Int)) (by rw [gh_add (by unfold gh_r; omega) (by show gh_r 1; unfold gh_r; omega) (by show gh_r ((n : Int) + 1); unfold gh_r; omega)]; show (n : Int) + 1 = _; omega) rfl ?_
        refine gh_goto (show gh_at (gm_me 29).1 23 = some (23, 3, .goto (-21), 0, 2, []) from rfl) ?_
        exact ih (n + 1) σ4 (by omega) (by omega) W4 F4 l4
  refine gh_iconst (x := 0) (show gh_at (gm_me 29).1 0 = some (0, 1, .iconst 0, 0, 0, []) from rfl) (by decide) ?_
  refine gh_istore_n (show gh_at (gm_me 29).1 1 = some (1, 1, .istore_n 1, 0, 0, []) from rfl) (fun c q => by cases q <;> decide) rfl ?_
  exact loop 29 0 σ (by omega) (by omega) hW gh_f0 (fun i h => absurd h (by omega))
theorem gz_bring {b f : Nat} {d : Nat} {σ : gp_S} (hW : gt_W (gs_wm b f) σ) (hT : ∀ j : Nat, j < 29 → gt_tv (gb_ty (gs_wm b f 260) j) (.inl (σ 261 j))) : gp_call gs_sh (d + 1) 25 [.inr 1891] σ (fun _ σ' => gt_W (gs_wm b f) σ' ∧ gt_fr gs_a29 σ σ' ∧ ∀ j : Nat, j < 29 → σ' 260 j = σ 261 j) := by
  refine gh_call (al := [.inr 1891, .inr 7]) (by decide +kernel) (by show 1 = _; decide +kernel) (by rw [show (gm_me 25).2.1 = 1 by decide +kernel]; rfl) (by show 2 = _; decide +kernel) ?_
  rw [show gm_rc 25 = 0 by decide +kernel]
  have loop : ∀ (m n : Nat) (σ1 : gp_S), 29 - n ≤ m → n ≤ 29 → gt_W (gs_wm b f) σ1 → gt_fr gs_a29 σ σ1 → (∀ j : Nat, j < n → σ1 260 j = σ 261 j) → gp_ok gs_sh (gp_call gs_sh d) 0 (gm_me 25).1 (fun _ σ' => gt_W (gs_wm b f) σ' ∧ gt_fr gs_a29 σ σ' ∧ ∀ j : Nat, j < 29 → σ' 260 j = σ 261 j) 2 [.inr 1891, .inl (n : Int)] [] σ1 := by
    intro m
    induction m with
    | zero =>
      intro n σ1 hm hn W1 F1 hl
      refine gh_iload_n (show gh_at (gm_me 25).1 2 = some (2, 1, .iload_n 1, 0, 0, []) from rfl) rfl ?_
      refine gh_bipush (x := 29) (show gh_at (gm_me 25).1 3 = some (3, 2, .bipush (29), 232, 0, []) from rfl) (by decide) ?_
      refine gh_icmp (show gh_at (gm_me 25).1 5 = some (5, 3, .if_icmp .ge (21), 0, 26, []) from rfl) (fun hc => ?_) (fun hc => ?_)
      · have hc : 29 ≤ (n : Int) := hc
        refine gh_ret (show gh_at (gm_me 25).1 26 = some (26, 1, .return_, 0, 0, []) from rfl) rfl ?_
        exact ⟨W1, F1, fun j hj => hl j (by omega)⟩
      · have hc : ¬ 29 ≤ (n : Int) := hc
        omega
    | succ m ih =>
      intro n σ1 hm hn W1 F1 hl
      refine gh_iload_n (show gh_at (gm_me 25).1 2 = some (2, 1, .iload_n 1, 0, 0, []) from rfl) rfl ?_
      refine gh_bipush (x := 29) (show gh_at (gm_me 25).1 3 = some (3, 2, .bipush (29), 232, 0, []) from rfl) (by decide) ?_
      refine gh_icmp (show gh_at (gm_me 25).1 5 = some (5, 3, .if_icmp .ge (21), 0, 26, []) from rfl) (fun hc => ?_) (fun hc => ?_)
      · have hc : 29 ≤ (n : Int) := hc
        refine gh_ret (show gh_at (gm_me 25).1 26 = some (26, 1, .return_, 0, 0, []) from rfl) rfl ?_
        exact ⟨W1, F1, fun j hj => hl j (by omega)⟩
      · have hc : ¬ 29 ≤ (n : Int) := hc
        refine gh_aload_n (show gh_at (gm_me 25).1 8 = some (8, 1, .aload_n 0, 0, 0, []) from rfl) rfl rfl ?_
        refine gh_get (show gh_at (gm_me 25).1 9 = some (9, 3, .getfield 85, 1, 38, [(0, 1479)]) from rfl) rfl (by decide +kernel) (by decide +kernel) (gh_rdr (r := 2083) (by decide +kernel) rfl) ?_
        refine gh_iload_n (show gh_at (gm_me 25).1 12 = some (12, 1, .iload_n 1, 0, 0, []) from rfl) rfl ?_
        refine gh_aload_n (show gh_at (gm_me 25).1 13 = some (13, 1, .aload_n 0, 0, 0, []) from rfl) rfl rfl ?_
        refine gh_get (show gh_at (gm_me 25).1 14 = some (14, 3, .getfield 88, 1, 39, [(0, 1480)]) from rfl) rfl (by decide +kernel) (by decide +kernel) (gh_rdr (r := 2091) (by decide +kernel) rfl) ?_
        refine gh_iload_n (show gh_at (gm_me 25).1 17 = some (17, 1, .iload_n 1, 0, 0, []) from rfl) rfl ?_
        refine gh_iald (show gh_at (gm_me 25).1 18 = some (18, 1, .iaload, 0, 0, []) from rfl) rfl (by decide +kernel) (by decide +kernel) (gh_ix (N := 29) (by decide +kernel) (by omega) (by omega)) (gh_rd0 (gh_pk0 (by decide +kernel) _)) ?_
        rw [show ((n : Int)).toNat = n by omega, show σ1 (2091 / 8) n = σ 261 n from F1 261 n rfl]
        refine gh_iast (show gh_at (gm_me 25).1 19 = some (19, 1, .iastore, 0, 0, []) from rfl) rfl (by decide +kernel) (by decide +kernel) (gh_ix (N := 29) (by decide +kernel) (by omega) (by omega)) (gh_pk0 (by decide +kernel) _) ?_
        rw [show ((n : Int)).toNat = n by omega]
        show gp_ok _ _ _ _ _ _ _ [] (gp_up σ1 260 n (σ 261 n))
        have W4 : gt_W (gs_wm b f) (gp_up σ1 260 n (σ 261 n)) := gh_Wu W1 (c := 260) (j := n) (x := σ 261 n) (fun _ => hT n (by omega))
        have F4 : gt_fr gs_a29 σ (gp_up σ1 260 n (σ 261 n)) := gh_fu F1 (gs_a29_ok (by omega))
        have l4 : ∀ j, j < n + 1 → (gp_up σ1 260 n (σ 261 n)) 260 j = σ 261 j := fun j hj => by
          by_cases e : j = n
          · subst e; exact gh_up_eq _ _ _ _
          · exact (gh_up_ne (fun q => e q.2)).trans (hl j (by omega))
        generalize (gp_up σ1 260 n (σ 261 n)) = σ4 at W4 F4 l4 ⊢
        refine gh_iinc (show gh_at (gm_me 25).1 20 = some (20, 3, .iinc 1 (1), 8, 0, []) from rfl) rfl (fun c q => by cases q <;> decide) (y := ((n + 1 : Nat) : Int)) (by rw [gh_add (by unfold gh_r; omega) (by show gh_r 1; unfold gh_r; omega) (by show gh_r ((n : Int) + 1); unfold gh_r; omega)]; show (n : Int) + 1 = _; omega) rfl ?_
        refine gh_goto (show gh_at (gm_me 25).1 23 = some (23, 3, .goto (-21), 0, 2, []) from rfl) ?_
        exact ih (n + 1) σ4 (by omega) (by omega) W4 F4 l4
  refine gh_iconst (x := 0) (show gh_at (gm_me 25).1 0 = some (0, 1, .iconst 0, 0, 0, []) from rfl) (by decide) ?_
  refine gh_istore_n (show gh_at (gm_me 25).1 1 = some (1, 1, .istore_n 1, 0, 0, []) from rfl) (fun c q => by cases q <;> decide) rfl ?_
  exact loop 29 0 σ (by omega) (by omega) hW gh_f0 (fun i h => absurd h (by omega))
theorem gz_sit {b f : Nat} {d : Nat} {σ : gp_S} {A N : Nat} (hf : f < 8) (hW : gt_W (gs_wm b f) σ) (hA : σ 260 24 = (A : Int)) (hN : N + A + 1 = f) : gp_call gs_sh (d + 1) 234 [.inr 1891, .inl (N : Int)] σ (fun _ σ' => gt_W (gs_wm b f) σ' ∧ gt_fr gs_a29 σ σ' ∧ σ' 260 24 = σ 260 24) := by
  refine gh_call (al := [.inr 1891, .inl (N : Int), .inr 7]) (by decide +kernel) (by show 2 = _; decide +kernel) (by rw [show (gm_me 234).2.1 = 1 by decide +kernel]; rfl) (by show 3 = _; decide +kernel) ?_
  rw [show gm_rc 234 = 0 by decide +kernel]
  have loop : ∀ (m n : Nat) (σ1 : gp_S), N - n ≤ m → n ≤ N → gt_W (gs_wm b f) σ1 → gt_fr gs_a29 σ σ1 → σ1 260 24 = σ 260 24 → gp_ok gs_sh (gp_call gs_sh d) 0 (gm_me 234).1 (fun _ σ' => gt_W (gs_wm b f) σ' ∧ gt_fr gs_a29 σ σ' ∧ σ' 260 24 = σ 260 24) 2 [.inr 1891, .inl (N : Int), .inl (n : Int)] [] σ1 := by
    intro m
    induction m with
    | zero =>
      intro n σ1 hm hn W1 F1 h1
      refine gh_iload_n (show gh_at (gm_me 234).1 2 = some (2, 1, .iload_n 2, 0, 0, []) from rfl) rfl ?_
      refine gh_iload_n (show gh_at (gm_me 234).1 3 = some (3, 1, .iload_n 1, 0, 0, []) from rfl) rfl ?_
      refine gh_icmp (show gh_at (gm_me 234).1 4 = some (4, 3, .if_icmp .ge (33), 0, 37, []) from rfl) (fun hc => ?_) (fun hc => ?_)
      · refine gh_ret (show gh_at (gm_me 234).1 37 = some (37, 1, .return_, 0, 0, []) from rfl) rfl ?_
        exact ⟨W1, F1, h1⟩
      · have hc : ¬ (N : Int) ≤ (n : Int) := hc
        omega
    | succ m ih =>
      intro n σ1 hm hn W1 F1 h1
      refine gh_iload_n (show gh_at (gm_me 234).1 2 = some (2, 1, .iload_n 2, 0, 0, []) from rfl) rfl ?_
      refine gh_iload_n (show gh_at (gm_me 234).1 3 = some (3, 1, .iload_n 1, 0, 0, []) from rfl) rfl ?_
      refine gh_icmp (show gh_at (gm_me 234).1 4 = some (4, 3, .if_icmp .ge (33), 0, 37, []) from rfl) (fun hc => ?_) (fun hc => ?_)
      · refine gh_ret (show gh_at (gm_me 234).1 37 = some (37, 1, .return_, 0, 0, []) from rfl) rfl ?_
        exact ⟨W1, F1, h1⟩
      · have hc : ¬ (N : Int) ≤ (n : Int) := hc
        refine gh_aload_n (show gh_at (gm_me 234).1 7 = some (7, 1, .aload_n 0, 0, 0, []) from rfl) rfl rfl ?_
        refine gh_get (show gh_at (gm_me 234).1 8 = some (8, 3, .getfield 85, 1, 38, [(0, 1479)]) from rfl) rfl (by decide +kernel) (by decide +kernel) (gh_rdr (r := 2083) (by decide +kernel) rfl) ?_
        refine gh_iconst (x := 0) (show gh_at (gm_me 234).1 11 = some (11, 1, .iconst 0, 0, 0, []) from rfl) (by decide) ?_
        refine gh_aload_n (show gh_at (gm_me 234).1 12 = some (12, 1, .aload_n 0, 0, 0, []) from rfl) rfl rfl ?_
        refine gh_get (show gh_at (gm_me 234).1 13 = some (13, 3, .getfield 85, 1, 38, [(0, 1479)]) from rfl) rfl (by decide +kernel) (by decide +kernel) (gh_rdr (r := 2083) (by decide +kernel) rfl) ?_
        refine gh_bipush (x := 24) (show gh_at (gm_me 234).1 16 = some (16, 2, .bipush (24), 192, 0, []) from rfl) (by decide) ?_
        refine gh_iald (show gh_at (gm_me 234).1 18 = some (18, 1, .iaload, 0, 0, []) from rfl) rfl (by decide +kernel) (by decide +kernel) (gh_ix (N := 29) (by decide +kernel) (by decide) (by decide)) (gh_rd0 (gh_pk0 (by decide +kernel) _)) ?_
        rw [show σ1 (2083 / 8) (Int.toNat 24) = (A : Int) from h1.trans hA]
        refine gh_iadd (z := (A : Int)) (show gh_at (gm_me 234).1 19 = some (19, 1, .iadd, 0, 0, []) from rfl) (by rw [gh_add (by unfold gh_r; omega) (by unfold gh_r; omega) (by unfold gh_r; omega)]; omega) ?_
        refine gh_iconst (x := 1) (show gh_at (gm_me 234).1 20 = some (20, 1, .iconst 1, 8, 0, []) from rfl) (by decide) ?_
        refine gh_iadd (z := ((A + 1 : Nat) : Int)) (show gh_at (gm_me 234).1 21 = some (21, 1, .iadd, 0, 0, []) from rfl) (by rw [gh_add (by unfold gh_r; omega) (by unfold gh_r; omega) (by unfold gh_r; omega)]; omega) ?_
        refine gh_iload_n (show gh_at (gm_me 234).1 22 = some (22, 1, .iload_n 2, 0, 0, []) from rfl) rfl ?_
        refine gh_iadd (z := ((A + 1 + n : Nat) : Int)) (show gh_at (gm_me 234).1 23 = some (23, 1, .iadd, 0, 0, []) from rfl) (by rw [gh_add (by unfold gh_r; omega) (by unfold gh_r; omega) (by unfold gh_r; omega)]; omega) ?_
        refine gh_aload_n (show gh_at (gm_me 234).1 24 = some (24, 1, .aload_n 0, 0, 0, []) from rfl) rfl rfl ?_
        refine gh_get (show gh_at (gm_me 234).1 25 = some (25, 3, .getfield 109, 1, 49, [(0, 1490)]) from rfl) rfl (by decide +kernel) (by decide +kernel) (gh_rdr (r := 2131) (by decide +kernel) rfl) ?_
        refine gh_iload_n (show gh_at (gm_me 234).1 28 = some (28, 1, .iload_n 2, 0, 0, []) from rfl) rfl ?_
        refine gh_iald (show gh_at (gm_me 234).1 29 = some (29, 1, .iaload, 0, 0, []) from rfl) rfl (by decide +kernel) (by decide +kernel) (gh_ix (N := 7) (by decide +kernel) (by omega) (by omega)) (gh_rd0 (gh_pk0 (by decide +kernel) _)) ?_
        rw [show ((n : Int)).toNat = n by omega, show σ1 (2131 / 8) n = σ 266 n from F1 266 n rfl]
        refine gh_iast (show gh_at (gm_me 234).1 30 = some (30, 1, .iastore, 0, 0, []) from rfl) rfl (by decide +kernel) (by decide +kernel) (gh_ix (N := 29) (by decide +kernel) (by omega) (by omega)) (gh_pk0 (by decide +kernel) _) ?_
        rw [show (((A + 1 + n : Nat) : Int)).toNat = A + 1 + n by omega]
        show gp_ok _ _ _ _ _ _ _ [] (gp_up σ1 260 (A + 1 + n) (σ 266 n))
        have W4 : gt_W (gs_wm b f) (gp_up σ1 260 (A + 1 + n) (σ 266 n)) := gh_Wu W1 (c := 260) (j := A + 1 + n) (x := σ 266 n) (fun _ => by rw [gm_sety (by omega)]; exact gh_Wg hW 266 n (by show ¬ 100 = 999; decide) (by show n < 7; omega) rfl (by decide))
        have F4 : gt_fr gs_a29 σ (gp_up σ1 260 (A + 1 + n) (σ 266 n)) := gh_fu F1 (gs_a29_ok (by omega))
        have h4 : (gp_up σ1 260 (A + 1 + n) (σ 266 n)) 260 24 = σ 260 24 := (gh_up_ne (fun q => by have := q.2; omega)).trans h1
        generalize (gp_up σ1 260 (A + 1 + n) (σ 266 n)) = σ4 at W4 F4 h4 ⊢
        refine gh_iinc (show gh_at (gm_me 234).1 31 = some (31, 3, .iinc 2 (1), 8, 0, []) from rfl) rfl (fun c q => by cases q <;> decide) (y := ((n + 1 : Nat) : Int)) (by rw [gh_add (by unfold gh_r; omega) (by show gh_r 1; unfold gh_r; omega) (by show gh_r ((n : Int) + 1); unfold gh_r; omega)]; show (n : Int) + 1 = _; omega) rfl ?_
        refine gh_goto (show gh_at (gm_me 234).1 34 = some (34, 3, .goto (-32), 0, 2, []) from rfl) ?_
        exact ih (n + 1) σ4 (by omega) (by omega) W4 F4 h4
  refine gh_iconst (x := 0) (show gh_at (gm_me 234).1 0 = some (0, 1, .iconst 0, 0, 0, []) from rfl) (by decide) ?_
  refine gh_istore_n (show gh_at (gm_me 234).1 1 = some (1, 1, .istore_n 2, 0, 0, []) from rfl) (fun c q => by cases q <;> decide) rfl ?_
  exact loop N 0 σ (by omega) (by omega) hW gh_f0 rfl
def gs_bml : List (Nat × Nat) := [(261, 1048576), (266, 1048576), (267, 1048576), (259, 1048576), (262, 1048576)]
def gs_cml : List (Nat × Nat) := gs_bml ++ gs_a29
theorem gz_bestOf {b f : Nat} {σ : gp_S} {x : Int} (hb : b < 2) (hW : gt_W (gs_wm b f) σ) (hY : gm_Y f σ) (hx : 0 ≤ x ∧ x ≤ 2) (hat : 0 ≤ σ 260 24) : gp_call gs_sh 11 238 [.inr 1891, .inl x] σ (fun v σ' => gt_W (gs_wm b f) σ' ∧ gm_Y f σ' ∧ gt_fr gs_bml σ σ' ∧ ∃ r : Int, v = .inl r ∧ gh_r r) := by
  refine gh_call (al := [.inr 1891, .inl x, .inr 7, .inr 7, .inr 7, .inr 7, .inr 7]) (by decide +kernel) (by show 2 = _; decide +kernel) (by rw [show (gm_me 238).2.1 = 5 by decide +kernel]; rfl) (by show 7 = _; decide +kernel) ?_
  rw [show gm_rc 238 = 1 by decide +kernel]
  have hf := hY.1
  have ht := (gh_tv (gh_Wg hW 260 24 (t := 8 * (2147483647 * 4294967296 + (2147483647 + f)) + 2) (by show ¬ 100 = 999; decide) (by show 24 < 29; decide) rfl (by omega))).2
  obtain ⟨A, hA⟩ : ∃ A : Nat, σ 260 24 = (A : Int) := ⟨(σ 260 24).toNat, by omega⟩
  obtain ⟨N, hN⟩ : ∃ N : Nat, N + A + 1 = f := ⟨f - 1 - A, by omega⟩
  have loop : ∀ (m : Nat) (σ1 : gp_S) (mo : Int) (y w : gp_V), 823543 - gd_v σ1 ≤ m → gh_r mo → gt_W (gs_wm b f) σ1 → gt_fr gs_bml σ σ1 → gd_d N (σ1 266) → (∀ c, y = .inr c → c = 7) → (∀ c, w = .inr c → c = 7) → gp_ok gs_sh (gp_call gs_sh 10) 1 (gm_me 238).1 (fun v σ' => gt_W (gs_wm b f) σ' ∧ gm_Y f σ' ∧ gt_fr gs_bml σ σ' ∧ ∃ r : Int, v = .inl r ∧ gh_r r) 16 [.inr 1891, .inl x, .inl (N : Int), .inl mo, .inl 1, y, w] [] σ1 := by
    intro m
    induction m with
    | zero =>
      intro σ1 mo y w hm hmo W1 F1 hD hy hw
      have b7 : gd_v σ1 < 823543 := by have a0 := gm_or W1 (j := 0) (by omega); have a1 := gm_or W1 (j := 1) (by omega); have a2 := gm_or W1 (j := 2) (by omega); have a3 := gm_or W1 (j := 3) (by omega); have a4 := gm_or W1 (j := 4) (by omega); have a5 := gm_or W1 (j := 5) (by omega); have a6 := gm_or W1 (j := 6) (by omega); unfold gd_v; omega
      omega
    | succ m ih =>
      intro σ1 mo y w hm hmo W1 F1 hD hy hw
      refine gh_iload (show gh_at (gm_me 238).1 16 = some (16, 2, .iload 4, 0, 0, []) from rfl) rfl ?_
      refine gh_if (show gh_at (gm_me 238).1 18 = some (18, 3, .ifCond .eq (71), 0, 89, []) from rfl) (fun q => absurd (show (1 : Int) = 0 from q) (by decide)) (fun _ => ?_)
      refine gh_aload_n (show gh_at (gm_me 238).1 21 = some (21, 1, .aload_n 0, 0, 0, []) from rfl) rfl rfl ?_
      refine gh_callV (r := 1891) (as := []) (t := []) (show gh_at (gm_me 238).1 22 = some (22, 3, .invokevirtual 439, 29, 0, [(0, 1915)]) from rfl) (by decide) rfl (by show 1 = _; decide +kernel) (Nat.le_trans (gh_wd _) (Nat.le_of_ble_eq_true rfl)) rfl (by decide +kernel) (by decide +kernel) (gz_keepN (d := 9) W1) gh_mono (fun v σ2 hv => ?_)
      rw [show gm_rc 29 = 0 by decide +kernel]
      obtain ⟨W2, F2, l2⟩ := hv
      show gp_ok _ _ _ _ _ _ _ [] σ2
      have a2 : ∀ j, σ2 260 j = σ 260 j := fun j => (F2 260 j rfl).trans (F1 260 j rfl)
      refine gh_aload_n (show gh_at (gm_me 238).1 25 = some (25, 1, .aload_n 0, 0, 0, []) from rfl) rfl rfl ?_
      refine gh_iload_n (show gh_at (gm_me 238).1 26 = some (26, 1, .iload_n 2, 0, 0, []) from rfl) rfl ?_
      refine gh_callV (r := 1891) (as := [.inl (N : Int)]) (t := []) (show gh_at (gm_me 238).1 27 = some (27, 3, .invokevirtual 464, 234, 0, [(0, 1964)]) from rfl) (by decide) rfl (by show 2 = _; decide +kernel) (Nat.le_trans (gh_wd _) (Nat.le_of_ble_eq_true rfl)) rfl (by decide +kernel) (by decide +kernel) (gz_sit (d := 9) hf W2 ((a2 24).trans hA) hN) gh_mono (fun v σ3 hv => ?_)
      rw [show gm_rc 234 = 0 by decide +kernel]
      obtain ⟨W3, F3, h3⟩ := hv
      show gp_ok _ _ _ _ _ _ _ [] σ3
      have e3 : σ3 260 24 = (A : Int) := (h3.trans (a2 24)).trans hA
      have G3 : gt_fr gs_cml σ σ3 := gh_ft (gh_ft (gh_ft gh_f0 F1 (by decide +kernel)) F2 (by decide +kernel)) F3 (by decide +kernel)
      have X3 : gm_X f σ3 := gm_hx σ σ3 (fun c j q => G3 c j (gb_mo_sep (by decide +kernel) c j q)) hY.2.1
      refine gh_aload_n (show gh_at (gm_me 238).1 30 = some (30, 1, .aload_n 0, 0, 0, []) from rfl) rfl rfl ?_
      refine gh_iload_n (show gh_at (gm_me 238).1 31 = some (31, 1, .iload_n 1, 0, 0, []) from rfl) rfl ?_
      refine gh_callV (r := 1891) (as := [.inl x]) (t := []) (show gh_at (gm_me 238).1 32 = some (32, 3, .invokevirtual 468, 237, 0, [(0, 1968)]) from rfl) (by decide) rfl (by show 2 = _; decide +kernel) (Nat.le_trans (gh_wd _) (Nat.le_of_ble_eq_true rfl)) rfl (by decide +kernel) (by decide +kernel) (cn_58 hb hf (by omega) [.inr 1891, .inl x] σ3 W3 X3 (fun p hp => by obtain rfl := List.mem_singleton.mp hp; exact gs_atq e3 (by omega) hf) ⟨Or.inr (Or.inl ⟨rfl, rfl⟩), gh_mk (by decide) (by unfold gh_r; omega) (by omega) (by omega), trivial⟩) gh_mono (fun v σ4 hv => ?_)
      rw [show gm_rc 237 = 1 by decide +kernel]
      obtain ⟨W4, X4, F4, hr⟩ := hv
      obtain ⟨z, rfl, hz, -⟩ := gh_tvi (t := 34359738362) (by decide) (hr.resolve_left (by show ¬ gm_rc 237 = 0; decide +kernel))
      have l4 : ∀ j : Nat, j < 29 → σ4 261 j = σ 260 j := fun j hj => (((F4 261 j rfl).trans (F3 261 j rfl)).trans (l2 j hj)).trans (F1 260 j rfl)
      show gp_ok _ _ _ _ _ _ _ [.inl z] σ4
      refine gh_istore (show gh_at (gm_me 238).1 35 = some (35, 2, .istore 5, 0, 0, []) from rfl) (fun c q => by first | (cases q <;> decide) | exact hy c q | exact hw c q) rfl ?_
      refine gh_aload_n (show gh_at (gm_me 238).1 37 = some (37, 1, .aload_n 0, 0, 0, []) from rfl) rfl rfl ?_
      refine gh_callV (r := 1891) (as := []) (t := []) (show gh_at (gm_me 238).1 38 = some (38, 3, .invokevirtual 442, 25, 0, [(0, 1919)]) from rfl) (by decide) rfl (by show 1 = _; decide +kernel) (Nat.le_trans (gh_wd _) (Nat.le_of_ble_eq_true rfl)) rfl (by decide +kernel) (by decide +kernel) (gz_bring (d := 9) W4 (fun j hj => by rw [l4 j hj]; exact gh_Wg hW 260 j (by show ¬ 100 = 999; decide) (by show j < 29; exact hj) rfl (gm_all2 j hj))) gh_mono (fun v σ5 hv => ?_)
      rw [show gm_rc 25 = 0 by decide +kernel]
      obtain ⟨W5, F5, l5⟩ := hv
      show gp_ok _ _ _ _ _ _ _ [] σ5
      have G5 : gt_fr gs_cml σ σ5 := gh_ft (gh_ft G3 F4 (by show gb_sbm gs_cml [(259, 1048576), (260, 7), (260, 8), (260, 9), (260, 10), (260, 11), (260, 12), (260, 13), (260, 14), (260, 15), (260, 16), (260, 17), (260, 18), (260, 19), (260, 20), (260, 21), (260, 22), (260, 23), (260, 24), (260, 25), (260, 27), (260, 28), (262, 1048576)] = true; decide +kernel)) F5 (by decide +kernel)
      have B5 : gt_fr gs_bml σ σ5 := fun c j q => by
        cases hm : gb_mo gs_a29 c j with
        | true => obtain ⟨rfl, hj⟩ := gs_a29_in hm; exact (l5 j hj).trans (l4 j hj)
        | false => exact G5 c j (by unfold gs_cml; rw [gb_mo_app, q, hm]; rfl)
      have o5 : ∀ j, σ5 266 j = σ1 266 j := fun j => (((F5 266 j rfl).trans (F4 266 j rfl)).trans (F3 266 j rfl)).trans (F2 266 j rfl)
      have D5 : gd_d N (σ5 266) := fun i j h1 h2 => by rw [o5, o5]; exact hD i j h1 h2
      have V5 : gd_v σ5 = gd_v σ1 := by unfold gd_v; simp only [o5]
      clear F5 l5 G5 l4 F4 hr X4 X3 G3 F3 W3 W4 F2 l2 W2
      have tail : ∀ (σ6 : gp_S) (mo : Int) (u : gp_V), gh_r mo → gt_W (gs_wm b f) σ6 → gt_fr gs_bml σ σ6 → (∀ j, σ6 266 j = σ5 266 j) → (∀ c, u = .inr c → c = 7) → gp_ok gs_sh (gp_call gs_sh 10) 1 (gm_me 238).1 (fun v σ' => gt_W (gs_wm b f) σ' ∧ gm_Y f σ' ∧ gt_fr gs_bml σ σ' ∧ ∃ r : Int, v = .inl r ∧ gh_r r) 79 [.inr 1891, .inl x, .inl (N : Int), .inl mo, .inl 1, .inl z, u] [] σ6 := by
        intro σ6 mo u hmo W6 F6 o6 hw
        have D6 : gd_d N (σ6 266) := fun i j h1 h2 => by rw [o6, o6]; exact D5 i j h1 h2
        have V6 : gd_v σ6 = gd_v σ1 := by unfold gd_v at V5 ⊢; simp only [o6]; exact V5
        refine gh_aload_n (show gh_at (gm_me 238).1 79 = some (79, 1, .aload_n 0, 0, 0, []) from rfl) rfl rfl ?_
        refine gh_iload_n (show gh_at (gm_me 238).1 80 = some (80, 1, .iload_n 2, 0, 0, []) from rfl) rfl ?_
        refine gh_callV (r := 1891) (as := [.inl (N : Int)]) (t := []) (show gh_at (gm_me 238).1 81 = some (81, 3, .invokevirtual 471, 232, 0, [(0, 1980)]) from rfl) (by decide) rfl (by show 2 = _; decide +kernel) (Nat.le_trans (gh_wd _) (Nat.le_of_ble_eq_true rfl)) rfl (by decide +kernel) (by decide +kernel) (gp_call_le (by show 2 ≤ 10; decide) (gz_next (by omega) W6 D6)) gh_mono (fun v σ7 hv => ?_)
        rw [show gm_rc 232 = 2 by decide +kernel]
        obtain ⟨W7, F7, D7, hv⟩ := hv
        have G7 : gt_fr gs_bml σ σ7 := gh_ft F6 F7 (by decide +kernel)
        have b7 : gd_v σ7 < 823543 := by have a0 := gm_or W7 (j := 0) (by omega); have a1 := gm_or W7 (j := 1) (by omega); have a2 := gm_or W7 (j := 2) (by omega); have a3 := gm_or W7 (j := 3) (by omega); have a4 := gm_or W7 (j := 4) (by omega); have a5 := gm_or W7 (j := 5) (by omega); have a6 := gm_or W7 (j := 6) (by omega); unfold gd_v; omega
        rcases hv with rfl | ⟨rfl, hv⟩
        · show gp_ok _ _ _ _ _ _ _ [.inl 0] σ7
          refine gh_istore (show gh_at (gm_me 238).1 84 = some (84, 2, .istore 4, 0, 0, []) from rfl) (fun c q => by cases q <;> decide) rfl ?_
          refine gh_goto (show gh_at (gm_me 238).1 86 = some (86, 3, .goto (-70), 0, 16, []) from rfl) ?_
          refine gh_iload (show gh_at (gm_me 238).1 16 = some (16, 2, .iload 4, 0, 0, []) from rfl) rfl ?_
          refine gh_if (show gh_at (gm_me 238).1 18 = some (18, 3, .ifCond .eq (71), 0, 89, []) from rfl) (fun _ => ?_) (fun q => absurd rfl q)
          refine gh_iload_n (show gh_at (gm_me 238).1 89 = some (89, 1, .iload_n 3, 0, 0, []) from rfl) rfl ?_
          refine gh_iret (show gh_at (gm_me 238).1 90 = some (90, 1, .ireturn, 0, 0, []) from rfl) ?_
          exact Or.inl ⟨rfl, W7, gm_hy σ σ7 (fun c j q => G7 c j (gb_mo_sep (by decide +kernel) c j q)) hY, G7, mo, rfl, hmo⟩
        · show gp_ok _ _ _ _ _ _ _ [.inl 1] σ7
          refine gh_istore (show gh_at (gm_me 238).1 84 = some (84, 2, .istore 4, 0, 0, []) from rfl) (fun c q => by cases q <;> decide) rfl ?_
          refine gh_goto (show gh_at (gm_me 238).1 86 = some (86, 3, .goto (-70), 0, 16, []) from rfl) ?_
          first | exact ih σ7 mo (.inl z) u (by omega) hmo W7 G7 D7 (fun c q => by cases q) hw | omega
      have copy : ∀ (m : Nat) (i : Nat) (σ6 : gp_S), N - i ≤ m → i ≤ N → gt_W (gs_wm b f) σ6 → gt_fr gs_bml σ σ6 → (∀ j, σ6 266 j = σ5 266 j) → gp_ok gs_sh (gp_call gs_sh 10) 1 (gm_me 238).1 (fun v σ' => gt_W (gs_wm b f) σ' ∧ gm_Y f σ' ∧ gt_fr gs_bml σ σ' ∧ ∃ r : Int, v = .inl r ∧ gh_r r) 53 [.inr 1891, .inl x, .inl (N : Int), .inl z, .inl 1, .inl z, .inl (i : Int)] [] σ6 := by
        intro m
        induction m with
        | zero =>
          intro i σ6 hm hi W6 F6 o6
          refine gh_iload (show gh_at (gm_me 238).1 53 = some (53, 2, .iload 6, 0, 0, []) from rfl) rfl ?_
          refine gh_iload_n (show gh_at (gm_me 238).1 55 = some (55, 1, .iload_n 2, 0, 0, []) from rfl) rfl ?_
          refine gh_icmp (show gh_at (gm_me 238).1 56 = some (56, 3, .if_icmp .ge (23), 0, 79, []) from rfl) (fun hc => ?_) (fun hc => ?_)
          · exact tail σ6 z _ hz W6 F6 o6 (fun c q => by cases q)
          · have hc : ¬ (N : Int) ≤ (i : Int) := hc
            omega
        | succ m ih2 =>
          intro i σ6 hm hi W6 F6 o6
          refine gh_iload (show gh_at (gm_me 238).1 53 = some (53, 2, .iload 6, 0, 0, []) from rfl) rfl ?_
          refine gh_iload_n (show gh_at (gm_me 238).1 55 = some (55, 1, .iload_n 2, 0, 0, []) from rfl) rfl ?_
          refine gh_icmp (show gh_at (gm_me 238).1 56 = some (56, 3, .if_icmp .ge (23), 0, 79, []) from rfl) (fun hc => ?_) (fun hc => ?_)
          · exact tail σ6 z _ hz W6 F6 o6 (fun c q => by cases q)
          · have hc : ¬ (N : Int) ≤ (i : Int) := hc
            refine gh_aload_n (show gh_at (gm_me 238).1 59 = some (59, 1, .aload_n 0, 0, 0, []) from rfl) rfl rfl ?_
            refine gh_get (show gh_at (gm_me 238).1 60 = some (60, 3, .getfield 112, 1, 50, [(0, 1491)]) from rfl) rfl (by decide +kernel) (by decide +kernel) (gh_rdr (r := 2139) (by decide +kernel) rfl) ?_
            refine gh_iload (show gh_at (gm_me 238).1 63 = some (63, 2, .iload 6, 0, 0, []) from rfl) rfl ?_
            refine gh_aload_n (show gh_at (gm_me 238).1 65 = some (65, 1, .aload_n 0, 0, 0, []) from rfl) rfl rfl ?_
            refine gh_get (show gh_at (gm_me 238).1 66 = some (66, 3, .getfield 109, 1, 49, [(0, 1490)]) from rfl) rfl (by decide +kernel) (by decide +kernel) (gh_rdr (r := 2131) (by decide +kernel) rfl) ?_
            refine gh_iload (show gh_at (gm_me 238).1 69 = some (69, 2, .iload 6, 0, 0, []) from rfl) rfl ?_
            refine gh_iald (show gh_at (gm_me 238).1 71 = some (71, 1, .iaload, 0, 0, []) from rfl) rfl (by decide +kernel) (by decide +kernel) (gh_ix (N := 7) (by decide +kernel) (by omega) (by omega)) (gh_rd0 (gh_pk0 (by decide +kernel) _)) ?_
            rw [show ((i : Int)).toNat = i by omega, show σ6 (2131 / 8) i = σ5 266 i from o6 i]
            refine gh_iast (show gh_at (gm_me 238).1 72 = some (72, 1, .iastore, 0, 0, []) from rfl) rfl (by decide +kernel) (by decide +kernel) (gh_ix (N := 7) (by decide +kernel) (by omega) (by omega)) (gh_pk0 (by decide +kernel) _) ?_
            rw [show ((i : Int)).toNat = i by omega]
            show gp_ok _ _ _ _ _ _ _ [] (gp_up σ6 267 i (σ5 266 i))
            have W8 : gt_W (gs_wm b f) (gp_up σ6 267 i (σ5 266 i)) := gh_Wu W6 (c := 267) (j := i) (x := σ5 266 i) (fun _ => show gt_tv 73786976312018075698 (.inl (σ5 266 i)) from gh_Wg W5 266 i (by show ¬ 100 = 999; decide) (by show i < 7; omega) rfl (by decide))
            have F8 : gt_fr gs_bml σ (gp_up σ6 267 i (σ5 266 i)) := gh_fu F6 (gb_mo_mem _ (by decide))
            have o8 : ∀ j, (gp_up σ6 267 i (σ5 266 i)) 266 j = σ5 266 j := fun j => (gh_up_ne (fun q => absurd q.1 (by decide))).trans (o6 j)
            generalize (gp_up σ6 267 i (σ5 266 i)) = σ8 at W8 F8 o8 ⊢
            refine gh_iinc (show gh_at (gm_me 238).1 73 = some (73, 3, .iinc 6 (1), 8, 0, []) from rfl) rfl (fun c q => by cases q <;> decide) (y := ((i + 1 : Nat) : Int)) (by rw [gh_add (by unfold gh_r; omega) (by show gh_r 1; unfold gh_r; omega) (by show gh_r ((i : Int) + 1); unfold gh_r; omega)]; show (i : Int) + 1 = _; omega) rfl ?_
            refine gh_goto (show gh_at (gm_me 238).1 76 = some (76, 3, .goto (-23), 0, 53, []) from rfl) ?_
            exact ih2 (i + 1) σ8 (by omega) (by omega) W8 F8 o8
      refine gh_iload (show gh_at (gm_me 238).1 41 = some (41, 2, .iload 5, 0, 0, []) from rfl) rfl ?_
      refine gh_iload_n (show gh_at (gm_me 238).1 43 = some (43, 1, .iload_n 3, 0, 0, []) from rfl) rfl ?_
      refine gh_icmp (show gh_at (gm_me 238).1 44 = some (44, 3, .if_icmp .le (35), 0, 79, []) from rfl) (fun _ => tail σ5 mo w hmo W5 B5 (fun _ => rfl) hw) (fun _ => ?_)
      refine gh_iload (show gh_at (gm_me 238).1 47 = some (47, 2, .iload 5, 0, 0, []) from rfl) rfl ?_
      refine gh_istore_n (show gh_at (gm_me 238).1 49 = some (49, 1, .istore_n 3, 0, 0, []) from rfl) (fun c q => by first | (cases q <;> decide) | exact hy c q | exact hw c q) rfl ?_
      refine gh_iconst (x := 0) (show gh_at (gm_me 238).1 50 = some (50, 1, .iconst 0, 0, 0, []) from rfl) (by decide) ?_
      refine gh_istore (show gh_at (gm_me 238).1 51 = some (51, 2, .istore 6, 0, 0, []) from rfl) (fun c q => by first | (cases q <;> decide) | exact hy c q | exact hw c q) rfl ?_
      exact copy N 0 σ5 (by omega) (by omega) W5 B5 (fun _ => rfl)
  refine gh_aload_n (show gh_at (gm_me 238).1 0 = some (0, 1, .aload_n 0, 0, 0, []) from rfl) rfl rfl ?_
  refine gh_callV (r := 1891) (as := []) (t := []) (show gh_at (gm_me 238).1 1 = some (1, 3, .invokevirtual 457, 230, 0, [(0, 1955)]) from rfl) (by decide) rfl (by show 1 = _; decide +kernel) (Nat.le_trans (gh_wd _) (Nat.le_of_ble_eq_true rfl)) rfl (by decide +kernel) (by decide +kernel) (Ψ := fun v σ9 => σ9 = σ ∧ v = .inl (N : Int)) (gz_many (d := 8) hb hf hW hA hN ⟨rfl, rfl⟩) gh_mono (fun v σ9 hv => ?_)
  rw [show gm_rc 230 = 1 by decide +kernel]
  obtain ⟨e9, rfl⟩ := hv
  rw [e9]
  show gp_ok _ _ _ _ _ _ _ [.inl (N : Int)] σ
  refine gh_istore_n (show gh_at (gm_me 238).1 4 = some (4, 1, .istore_n 2, 0, 0, []) from rfl) (fun c q => by cases q <;> decide) rfl ?_
  refine gh_ldcw (x := -100000) (show gh_at (gm_me 238).1 5 = some (5, 3, .ldc_w 460, 34358938368, 0, [(0, 1959)]) from rfl) (by decide) ?_
  refine gh_istore_n (show gh_at (gm_me 238).1 8 = some (8, 1, .istore_n 3, 0, 0, []) from rfl) (fun c q => by cases q <;> decide) rfl ?_
  refine gh_aload_n (show gh_at (gm_me 238).1 9 = some (9, 1, .aload_n 0, 0, 0, []) from rfl) rfl rfl ?_
  refine gh_callV (r := 1891) (as := []) (t := []) (show gh_at (gm_me 238).1 10 = some (10, 3, .invokevirtual 461, 231, 0, [(0, 1960)]) from rfl) (by decide) rfl (by show 1 = _; decide +kernel) (Nat.le_trans (gh_wd _) (Nat.le_of_ble_eq_true rfl)) rfl (by decide +kernel) (by decide +kernel) (gp_call_le (by show 4 ≤ 10; decide) (gz_first hb hf hW hY.2.2 hA hN)) gh_mono (fun v σ2 hv => ?_)
  rw [show gm_rc 231 = 0 by decide +kernel]
  obtain ⟨W2, F2, D2⟩ := hv
  show gp_ok _ _ _ _ _ _ _ [] σ2
  refine gh_iconst (x := 1) (show gh_at (gm_me 238).1 13 = some (13, 1, .iconst 1, 8, 0, []) from rfl) (by decide) ?_
  refine gh_istore (show gh_at (gm_me 238).1 14 = some (14, 2, .istore 4, 0, 0, []) from rfl) (fun c q => by cases q <;> decide) rfl ?_
  exact loop (823543 - gd_v σ2).toNat σ2 _ _ _ (by omega) (by unfold gh_r; omega) W2 (gh_ft gh_f0 F2 (by decide +kernel)) D2 (fun c q => by cases q; rfl) (fun c q => by cases q; rfl)
