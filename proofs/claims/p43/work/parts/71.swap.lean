/-! swapAll -/
theorem gm_sto {b f : Nat} {g : Nat → Int} (hf : f < 8) (hg : gv_sv f g) {n : Nat} (hn : n < 29) (hr : gh_r (g n)) : gt_tv (gb_ty (gs_wm b f 260) n) (.inl (g n)) := by
  obtain ⟨g1, g2, g3, -⟩ := hg
  by_cases e : n = 24
  · subst e
    rw [show gb_ty (gs_wm b f 260) 24 = 8 * (2147483647 * 4294967296 + (2147483647 + f)) + 2 from rfl]
    exact gh_mk (by omega) hr (by omega) (by omega)
  · by_cases h7 : n < 7
    · have h1 := g1 n h7
      rw [show gb_ty (gs_wm b f 260) n = 73786976312018075698 by rcases (show n = 0 ∨ n = 1 ∨ n = 2 ∨ n = 3 ∨ n = 4 ∨ n = 5 ∨ n = 6 by omega) with h | h | h | h | h | h | h <;> subst h <;> rfl]
      exact gh_mk (by decide) hr (by omega) (by omega)
    · rw [show gb_ty (gs_wm b f 260) n = 34359738362 by rcases (show n = 7 ∨ n = 8 ∨ n = 9 ∨ n = 10 ∨ n = 11 ∨ n = 12 ∨ n = 13 ∨ n = 14 ∨ n = 15 ∨ n = 16 ∨ n = 17 ∨ n = 18 ∨ n = 19 ∨ n = 20 ∨ n = 21 ∨ n = 22 ∨ n = 23 ∨ n = 25 ∨ n = 26 ∨ n = 27 ∨ n = 28 by omega) with h | h | h | h | h | h | h | h | h | h | h | h | h | h | h | h | h | h | h | h | h <;> subst h <;> rfl]
      exact gh_any hr
theorem gm_allr {b f : Nat} {σ : gp_S} (hW : gt_W (gs_wm b f) σ) {n : Nat} (hn : n < 29) : gh_r (σ 260 n) := by
  obtain ⟨y, e, -⟩ := hW 260 n (by show ¬ 100 = 999; decide) (by show n < 29; omega) (gm_all2 n hn)
  rw [← e]; exact ⟨Int32.le_toInt y, Int32.toInt_lt y⟩
theorem gm_wasr {b f : Nat} {σ : gp_S} (hW : gt_W (gs_wm b f) σ) {n : Nat} (hn : n < 1189) : gh_r (σ 264 n) := (gh_tv (gh_Wg hW 264 n (t := 34359738362) (by show ¬ 100 = 999; decide) (by show n < 1189; omega) rfl (by decide))).1

theorem gz_swap {b f : Nat} {d : Nat} (hf : f < 8) {σ : gp_S} (hW : gt_W (gs_wm b f) σ) {A : Nat} (hA : A ≤ 39) (eA : σ 236 46 = (A : Int)) (hS : gv_sv f (fun j => σ 264 (29 * A + j))) : gp_call gs_sh (d + 1) 228 [.inr 1891] σ (fun _ σ' => gt_W (gs_wm b f) σ' ∧ (∀ j : Nat, (j : Int) < (29 : Int) → σ' 260 j = σ 264 (29 * A + j) ∧ σ' 264 (29 * A + j) = σ 260 j) ∧ (∀ j : Nat, (29 : Int) ≤ j → σ' 260 j = σ 260 j ∧ σ' 264 (29 * A + j) = σ 264 (29 * A + j)) ∧ (∀ j : Nat, j < 29 * A → σ' 264 j = σ 264 j) ∧ (∀ j : Nat, 29 * A + 29 ≤ j → σ' 264 j = σ 264 j) ∧ (∀ c j, ¬ c = 260 → ¬ c = 264 → σ' c j = σ c j)) := by
  refine gh_call (al := [.inr 1891, .inr 7, .inr 7]) (by decide +kernel) (by show 1 = _; decide +kernel) (by rw [show (gm_me 228).2.1 = 2 by decide +kernel]; rfl) (by show 3 = _; decide +kernel) ?_
  rw [show gm_rc 228 = 0 by decide +kernel]
  have loop : ∀ (m : Nat) (σ1 : gp_S) (k : Int) (y : gp_V), 29 - k ≤ m → 0 ≤ k → k ≤ 29 → gt_W (gs_wm b f) σ1 → (∀ j : Nat, (j : Int) < k → σ1 260 j = σ 264 (29 * A + j) ∧ σ1 264 (29 * A + j) = σ 260 j) ∧ (∀ j : Nat, k ≤ j → σ1 260 j = σ 260 j ∧ σ1 264 (29 * A + j) = σ 264 (29 * A + j)) ∧ (∀ j : Nat, j < 29 * A → σ1 264 j = σ 264 j) ∧ (∀ j : Nat, 29 * A + 29 ≤ j → σ1 264 j = σ 264 j) ∧ (∀ c j, ¬ c = 260 → ¬ c = 264 → σ1 c j = σ c j) → gp_ok gs_sh (gp_call gs_sh d) 0 (gm_me 228).1 (fun _ σ' => gt_W (gs_wm b f) σ' ∧ (∀ j : Nat, (j : Int) < (29 : Int) → σ' 260 j = σ 264 (29 * A + j) ∧ σ' 264 (29 * A + j) = σ 260 j) ∧ (∀ j : Nat, (29 : Int) ≤ j → σ' 260 j = σ 260 j ∧ σ' 264 (29 * A + j) = σ 264 (29 * A + j)) ∧ (∀ j : Nat, j < 29 * A → σ' 264 j = σ 264 j) ∧ (∀ j : Nat, 29 * A + 29 ≤ j → σ' 264 j = σ 264 j) ∧ (∀ c j, ¬ c = 260 → ¬ c = 264 → σ' c j = σ c j)) 2 [.inr 1891, .inl k, y] [] σ1 := by
    intro m
    induction m with
    | zero =>
      intro σ1 k y hm h0 hk W1 ⟨l1, r1, u1, v1, o1⟩
      refine gh_iload_n (show gh_at (gm_me 228).1 2 = some (2, 1, .iload_n 1, 0, 0, []) from rfl) rfl ?_
      refine gh_bipush (x := 29) (show gh_at (gm_me 228).1 3 = some (3, 2, .bipush (29), 232, 0, []) from rfl) (by decide) ?_
      refine gh_icmp (show gh_at (gm_me 228).1 5 = some (5, 3, .if_icmp .ge (51), 0, 56, []) from rfl) (fun hc => ?_) (fun hc => ?_)
      · have hc : k = 29 := by have q : 29 ≤ k := hc; omega
        subst hc
        refine gh_ret (show gh_at (gm_me 228).1 56 = some (56, 1, .return_, 0, 0, []) from rfl) rfl ?_
        exact ⟨W1, l1, r1, u1, v1, o1⟩
      · have hc : ¬ 29 ≤ k := hc
        omega
    | succ m ih =>
      intro σ1 k y hm h0 hk W1 ⟨l1, r1, u1, v1, o1⟩
      refine gh_iload_n (show gh_at (gm_me 228).1 2 = some (2, 1, .iload_n 1, 0, 0, []) from rfl) rfl ?_
      refine gh_bipush (x := 29) (show gh_at (gm_me 228).1 3 = some (3, 2, .bipush (29), 232, 0, []) from rfl) (by decide) ?_
      refine gh_icmp (show gh_at (gm_me 228).1 5 = some (5, 3, .if_icmp .ge (51), 0, 56, []) from rfl) (fun hc => ?_) (fun hc => ?_)
      · have hc : k = 29 := by have q : 29 ≤ k := hc; omega
        subst hc
        refine gh_ret (show gh_at (gm_me 228).1 56 = some (56, 1, .return_, 0, 0, []) from rfl) rfl ?_
        exact ⟨W1, l1, r1, u1, v1, o1⟩
      · have hc : ¬ 29 ≤ k := hc
        obtain ⟨n, en, hn⟩ : ∃ n : Nat, k = (n : Int) ∧ n < 29 := ⟨k.toNat, by omega, by omega⟩
        have eA1 : σ1 236 46 = (A : Int) := (o1 236 46 (by decide) (by decide)).trans eA
        have t1 : (29 * (A : Int) + k).toNat = 29 * A + n := by omega
        have t2 : k.toNat = n := by omega
        refine gh_aload_n (show gh_at (gm_me 228).1 8 = some (8, 1, .aload_n 0, 0, 0, []) from rfl) rfl rfl ?_
        refine gh_get (show gh_at (gm_me 228).1 9 = some (9, 3, .getfield 103, 1, 45, [(0, 1486)]) from rfl) rfl (by decide +kernel) (by decide +kernel) (gh_rdr (r := 2115) (by decide +kernel) rfl) ?_
        refine gh_bipush (x := 29) (show gh_at (gm_me 228).1 12 = some (12, 2, .bipush (29), 232, 0, []) from rfl) (by decide) ?_
        refine gh_aload_n (show gh_at (gm_me 228).1 14 = some (14, 1, .aload_n 0, 0, 0, []) from rfl) rfl rfl ?_
        refine gh_get (show gh_at (gm_me 228).1 15 = some (15, 3, .getfield 380, 1, 46, [(0, 1487)]) from rfl) rfl (by decide +kernel) (by decide +kernel) (gh_rd0 (by decide +kernel)) ?_
        rw [eA1]
        refine gh_imul (z := 29 * (A : Int)) (show gh_at (gm_me 228).1 18 = some (18, 1, .imul, 0, 0, []) from rfl) (gh_mul (by unfold gh_r; omega) (by unfold gh_r; omega) (by unfold gh_r; omega)) ?_
        refine gh_iload_n (show gh_at (gm_me 228).1 19 = some (19, 1, .iload_n 1, 0, 0, []) from rfl) rfl ?_
        refine gh_iadd (z := 29 * (A : Int) + k) (show gh_at (gm_me 228).1 20 = some (20, 1, .iadd, 0, 0, []) from rfl) (gh_add (by unfold gh_r; omega) (by unfold gh_r; omega) (by unfold gh_r; omega)) ?_
        refine gh_iald (show gh_at (gm_me 228).1 21 = some (21, 1, .iaload, 0, 0, []) from rfl) rfl (by decide +kernel) (by decide +kernel) (gh_ix (N := 1189) (by decide +kernel) (by omega) (by omega)) (gh_rd0 (gh_pk0 (by decide +kernel) _)) ?_
        rw [t1, show σ1 (2115 / 8) (29 * A + n) = σ 264 (29 * A + n) from (r1 n (by omega)).2]
        refine gh_istore_n (show gh_at (gm_me 228).1 22 = some (22, 1, .istore_n 2, 0, 0, []) from rfl) (fun c q => by cases q <;> decide) rfl ?_
        refine gh_aload_n (show gh_at (gm_me 228).1 23 = some (23, 1, .aload_n 0, 0, 0, []) from rfl) rfl rfl ?_
        refine gh_get (show gh_at (gm_me 228).1 24 = some (24, 3, .getfield 103, 1, 45, [(0, 1486)]) from rfl) rfl (by decide +kernel) (by decide +kernel) (gh_rdr (r := 2115) (by decide +kernel) rfl) ?_
        refine gh_bipush (x := 29) (show gh_at (gm_me 228).1 27 = some (27, 2, .bipush (29), 232, 0, []) from rfl) (by decide) ?_
        refine gh_aload_n (show gh_at (gm_me 228).1 29 = some (29, 1, .aload_n 0, 0, 0, []) from rfl) rfl rfl ?_
        refine gh_get (show gh_at (gm_me 228).1 30 = some (30, 3, .getfield 380, 1, 46, [(0, 1487)]) from rfl) rfl (by decide +kernel) (by decide +kernel) (gh_rd0 (by decide +kernel)) ?_
        rw [eA1]
        refine gh_imul (z := 29 * (A : Int)) (show gh_at (gm_me 228).1 33 = some (33, 1, .imul, 0, 0, []) from rfl) (gh_mul (by unfold gh_r; omega) (by unfold gh_r; omega) (by unfold gh_r; omega)) ?_
        refine gh_iload_n (show gh_at (gm_me 228).1 34 = some (34, 1, .iload_n 1, 0, 0, []) from rfl) rfl ?_
        refine gh_iadd (z := 29 * (A : Int) + k) (show gh_at (gm_me 228).1 35 = some (35, 1, .iadd, 0, 0, []) from rfl) (gh_add (by unfold gh_r; omega) (by unfold gh_r; omega) (by unfold gh_r; omega)) ?_
        refine gh_aload_n (show gh_at (gm_me 228).1 36 = some (36, 1, .aload_n 0, 0, 0, []) from rfl) rfl rfl ?_
        refine gh_get (show gh_at (gm_me 228).1 37 = some (37, 3, .getfield 85, 1, 38, [(0, 1479)]) from rfl) rfl (by decide +kernel) (by decide +kernel) (gh_rdr (r := 2083) (by decide +kernel) rfl) ?_
        refine gh_iload_n (show gh_at (gm_me 228).1 40 = some (40, 1, .iload_n 1, 0, 0, []) from rfl) rfl ?_
        refine gh_iald (show gh_at (gm_me 228).1 41 = some (41, 1, .iaload, 0, 0, []) from rfl) rfl (by decide +kernel) (by decide +kernel) (gh_ix (N := 29) (by decide +kernel) (by omega) (by omega)) (gh_rd0 (gh_pk0 (by decide +kernel) _)) ?_
        rw [t2, show σ1 (2083 / 8) n = σ 260 n from (r1 n (by omega)).1]
        refine gh_iast (show gh_at (gm_me 228).1 42 = some (42, 1, .iastore, 0, 0, []) from rfl) rfl (by decide +kernel) (by decide +kernel) (gh_ix (N := 1189) (by decide +kernel) (by omega) (by omega)) (gh_pk0 (by decide +kernel) _) ?_
        rw [t1]
        show gp_ok _ _ _ _ _ _ _ [] (gp_up σ1 264 (29 * A + n) (σ 260 n))
        have W2 := gh_Wu W1 (c := 264) (j := 29 * A + n) (x := σ 260 n) (fun _ => gh_any (gm_allr hW hn))
        refine gh_aload_n (show gh_at (gm_me 228).1 43 = some (43, 1, .aload_n 0, 0, 0, []) from rfl) rfl rfl ?_
        refine gh_get (show gh_at (gm_me 228).1 44 = some (44, 3, .getfield 85, 1, 38, [(0, 1479)]) from rfl) rfl (by decide +kernel) (by decide +kernel) (gh_rdr (r := 2083) (by decide +kernel) rfl) ?_
        refine gh_iload_n (show gh_at (gm_me 228).1 47 = some (47, 1, .iload_n 1, 0, 0, []) from rfl) rfl ?_
        refine gh_iload_n (show gh_at (gm_me 228).1 48 = some (48, 1, .iload_n 2, 0, 0, []) from rfl) rfl ?_
        refine gh_iast (show gh_at (gm_me 228).1 49 = some (49, 1, .iastore, 0, 0, []) from rfl) rfl (by decide +kernel) (by decide +kernel) (gh_ix (N := 29) (by decide +kernel) (by omega) (by omega)) (gh_pk0 (by decide +kernel) _) ?_
        rw [t2]
        show gp_ok _ _ _ _ _ _ _ [] (gp_up (gp_up σ1 264 (29 * A + n) (σ 260 n)) 260 n (σ 264 (29 * A + n)))
        have W3 := gh_Wu W2 (c := 260) (j := n) (x := σ 264 (29 * A + n)) (fun _ => gm_sto (g := fun j => σ 264 (29 * A + j)) hf hS hn (gm_wasr hW (by omega)))
        have fa : ∀ j : Nat, ¬ j = n → (gp_up (gp_up σ1 264 (29 * A + n) (σ 260 n)) 260 n (σ 264 (29 * A + n))) 260 j = σ1 260 j := fun j q => (gh_up_ne (fun e => q e.2)).trans (gh_up_ne (fun e => absurd e.1 (by decide)))
        have fw : ∀ j : Nat, ¬ j = 29 * A + n → (gp_up (gp_up σ1 264 (29 * A + n) (σ 260 n)) 260 n (σ 264 (29 * A + n))) 264 j = σ1 264 j := fun j q => (gh_up_ne (fun e => absurd e.1 (by decide))).trans (gh_up_ne (fun e => q e.2))
        have ga : (gp_up (gp_up σ1 264 (29 * A + n) (σ 260 n)) 260 n (σ 264 (29 * A + n))) 260 n = σ 264 (29 * A + n) := gh_up_eq _ _ _ _
        have gw : (gp_up (gp_up σ1 264 (29 * A + n) (σ 260 n)) 260 n (σ 264 (29 * A + n))) 264 (29 * A + n) = σ 260 n := (gh_up_ne (fun e => absurd e.1 (by decide))).trans (gh_up_eq _ _ _ _)
        have fo : ∀ c j, ¬ c = 260 → ¬ c = 264 → (gp_up (gp_up σ1 264 (29 * A + n) (σ 260 n)) 260 n (σ 264 (29 * A + n))) c j = σ1 c j := fun c j q1 q2 => (gh_up_ne (fun e => q1 e.1)).trans (gh_up_ne (fun e => q2 e.1))
        generalize (gp_up (gp_up σ1 264 (29 * A + n) (σ 260 n)) 260 n (σ 264 (29 * A + n))) = σ3 at W3 fa fw ga gw fo ⊢
        refine gh_iinc (show gh_at (gm_me 228).1 50 = some (50, 3, .iinc 1 (1), 8, 0, []) from rfl) rfl (fun c q => by cases q <;> decide) (y := k + 1) (gh_add (by unfold gh_r; omega) (by show gh_r 1; unfold gh_r; omega) (by show gh_r (k + 1); unfold gh_r; omega)) rfl ?_
        refine gh_goto (show gh_at (gm_me 228).1 53 = some (53, 3, .goto (-51), 0, 2, []) from rfl) ?_
        refine ih σ3 (k + 1) _ (by omega) (by omega) (by omega) W3 ⟨fun j hj => ?_, fun j hj => ?_, fun j hj => ?_, fun j hj => ?_, fun c j q1 q2 => (fo c j q1 q2).trans (o1 c j q1 q2)⟩
        · by_cases e : j = n
          · subst e; exact ⟨ga, gw⟩
          · rw [fa j e, fw _ (by omega)]; exact l1 j (by omega)
        · rw [fa j (by omega), fw _ (by omega)]; exact r1 j (by omega)
        · rw [fw _ (by omega)]; exact u1 j hj
        · rw [fw _ (by omega)]; exact v1 j hj
  refine gh_iconst (x := 0) (show gh_at (gm_me 228).1 0 = some (0, 1, .iconst 0, 0, 0, []) from rfl) (by decide) ?_
  refine gh_istore_n (show gh_at (gm_me 228).1 1 = some (1, 1, .istore_n 1, 0, 0, []) from rfl) (fun c q => by cases q <;> decide) rfl ?_
  exact loop 29 σ 0 _ (by omega) (by omega) (by omega) hW ⟨fun j hj => absurd hj (by omega), fun j _ => ⟨rfl, rfl⟩, fun j _ => rfl, fun j _ => rfl, fun c j _ _ => rfl⟩
