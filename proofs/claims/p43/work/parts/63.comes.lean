/-! more rows for proofs by hand; comes -/
theorem gh_Wg {wt : Nat → gb_T} {σ : gp_S} (hW : gt_W wt σ) (c j : Nat) {t : Nat} (h9 : ¬ (wt c).1 = 999) (hj : j < (wt c).2.1) (ht : gb_ty (wt c) j = t) (h2 : t % 8 = 2) : gt_tv t (.inl (σ c j)) := by
  subst ht
  obtain ⟨y, e, hy⟩ := hW c j h9 hj h2
  exact Or.inl ⟨h2, y, by rw [e], hy⟩
theorem gh_Wu {wt : Nat → gb_T} {σ : gp_S} (hW : gt_W wt σ) {c j : Nat} {x : Int} (hx : gb_ty (wt c) j % 8 = 2 → gt_tv (gb_ty (wt c) j) (.inl x)) : gt_W wt (gp_up σ c j x) := by
  intro c' j' h9 hj h2
  unfold gp_up
  by_cases h : c' = c ∧ j' = j
  · obtain ⟨rfl, rfl⟩ := h
    rw [if_pos ⟨rfl, rfl⟩]
    rcases hx h2 with ⟨-, y, e, hy⟩ | ⟨q, -⟩ | ⟨q, -⟩
    · injection e with e
      exact ⟨y, e.symm, hy⟩
    · omega
    · omega
  · rw [if_neg h]
    exact hW c' j' h9 hj h2
theorem gh_up_eq (σ : gp_S) (c j : Nat) (x : Int) : gp_up σ c j x c j = x := by unfold gp_up; rw [if_pos ⟨rfl, rfl⟩]
theorem gh_up_ne {σ : gp_S} {c j : Nat} {x : Int} {c' j' : Nat} (h : ¬ (c' = c ∧ j' = j)) : gp_up σ c j x c' j' = σ c' j' := by unfold gp_up; rw [if_neg h]
/-- what a contract says that writes nothing -/
theorem gh_u0 {sh : Nat → gp_T} {wt : Nat → gb_T} {X : gp_S → Prop} {k d d' rt : Nat} {ts : List Nat} {as : List gp_V} {σ : gp_S} (hK : gt_KC sh wt X (k, d, ts, [], rt, [])) (hd : d ≤ d') (hW : gt_W wt σ) (hX : X σ) (ha : gt_ar ts as) : gp_call sh d' k as σ (fun x σ' => σ' = σ ∧ (gm_rc k = 0 ∨ gt_tv rt x)) :=
  gp_call_le hd (gp_call_post (fun v σ' h => ⟨funext fun c => funext fun j => h.2.2.1 c j rfl, h.2.2.2⟩) (hK as σ hW hX (fun p hp => by cases hp) ha))
theorem gh_tvi {t : Nat} {x : gp_V} (h2 : t % 8 = 2) (h : gt_tv t x) : ∃ z, x = .inl z ∧ gh_r z ∧ ((t / 8 / 4294967296 : Nat) : Int) ≤ z + 2147483648 ∧ z + 2147483648 ≤ ((t / 8 % 4294967296 : Nat) : Int) := by
  rcases h with ⟨h2, y, rfl, hy⟩ | ⟨q, -⟩ | ⟨q, -⟩
  · exact ⟨y.toInt, rfl, gh_tv (Or.inl ⟨h2, y, rfl, hy⟩)⟩
  · omega
  · omega
theorem gh_wd : ∀ t : List gp_V, gp_wd t ≤ 2 * t.length
  | [] => Nat.le_refl _
  | v :: r => by
    have := gh_wd r
    show (if gp_lng v = true then 2 else 1) + gp_wd r ≤ 2 * (r.length + 1)
    split <;> omega
theorem gm_bank {b f : Nat} {σ : gp_S} (hb : b < 2) (hW : gt_W (gs_wm b f) σ) : σ 236 32 = (b : Int) := by
  have h := (gh_tv (gh_Wg hW 236 32 (t := gs_lt b) (by show ¬ 1 = 999; decide) (by show 32 < 65; decide) rfl (by unfold gs_lt; omega))).2
  unfold gs_lt at h
  omega

theorem gz_letter {d : Nat} {c : Int} {σ : gp_S} {Φ : gp_F} (h1 : 97 ≤ c ∧ c ≤ 122 → Φ (.inl 1) σ) (h0 : ¬ (97 ≤ c ∧ c ≤ 122) → Φ (.inl 0) σ) : gp_call gs_sh (d + 1) 189 [.inl c] σ Φ := by
  refine gh_call (al := [.inl c]) (by decide +kernel) (by show 1 = _; decide +kernel) (by rw [show (gm_me 189).2.1 = 0 by decide +kernel]; rfl) (by show 1 = _; decide +kernel) ?_
  rw [show gm_rc 189 = 2 by decide +kernel]
  refine gh_iload_n (show gh_at (gm_me 189).1 0 = some (0, 1, .iload_n 0, 0, 0, []) from rfl) rfl ?_
  refine gh_bipush (x := 97) (show gh_at (gm_me 189).1 1 = some (1, 2, .bipush (97), 776, 0, []) from rfl) (by decide) ?_
  refine gh_icmp (show gh_at (gm_me 189).1 3 = some (3, 3, .if_icmp .lt (13), 0, 16, []) from rfl) (fun hc => ?_) (fun hc => ?_)
  · refine gh_iconst (x := 0) (show gh_at (gm_me 189).1 16 = some (16, 1, .iconst 0, 0, 0, []) from rfl) (by decide) ?_
    refine gh_iret (show gh_at (gm_me 189).1 17 = some (17, 1, .ireturn, 0, 0, []) from rfl) ?_
    exact Or.inr ⟨rfl, Or.inl rfl, h0 (by have q : c < 97 := hc; omega)⟩
  · refine gh_iload_n (show gh_at (gm_me 189).1 6 = some (6, 1, .iload_n 0, 0, 0, []) from rfl) rfl ?_
    refine gh_bipush (x := 122) (show gh_at (gm_me 189).1 7 = some (7, 2, .bipush (122), 976, 0, []) from rfl) (by decide) ?_
    refine gh_icmp (show gh_at (gm_me 189).1 9 = some (9, 3, .if_icmp .gt (7), 0, 16, []) from rfl) (fun hc2 => ?_) (fun hc2 => ?_)
    · refine gh_iconst (x := 0) (show gh_at (gm_me 189).1 16 = some (16, 1, .iconst 0, 0, 0, []) from rfl) (by decide) ?_
      refine gh_iret (show gh_at (gm_me 189).1 17 = some (17, 1, .ireturn, 0, 0, []) from rfl) ?_
      exact Or.inr ⟨rfl, Or.inl rfl, h0 (by have q : 122 < c := hc2; omega)⟩
    · refine gh_iconst (x := 1) (show gh_at (gm_me 189).1 12 = some (12, 1, .iconst 1, 8, 0, []) from rfl) (by decide) ?_
      refine gh_goto (show gh_at (gm_me 189).1 13 = some (13, 3, .goto (4), 0, 17, []) from rfl) ?_
      refine gh_iret (show gh_at (gm_me 189).1 17 = some (17, 1, .ireturn, 0, 0, []) from rfl) ?_
      exact Or.inr ⟨rfl, Or.inr rfl, h1 (by have q1 : ¬ c < 97 := hc; have q2 : ¬ 122 < c := hc2; omega)⟩
theorem gz_comes {b f : Nat} (hb : b < 2) (ha : gt_KC gs_sh (gs_wm b f) (gm_X f) (217, 3, [1891, 34359738362, 34359738362], [], 34359738362, [])) (ht : gt_KC gs_sh (gs_wm b f) (gm_X f) (216, 1, [34359738362, 34359738362, 34359738362], [], 34359738362, [])) {σ : gp_S} (hW : gt_W (gs_wm b f) σ) (hX : gm_X f σ) : gp_call gs_sh 4 218 [.inr 1891] σ (fun x σ' => gt_W (gs_wm b f) σ' ∧ (∀ c j, ¬ c = 259 → σ' c j = σ c j) ∧ gt_tv 34359738362 x) := by
  refine gh_call (al := [.inr 1891, .inr 7, .inr 7, .inr 7]) (by decide +kernel) (by show 1 = _; decide +kernel) (by rw [show (gm_me 218).2.1 = 3 by decide +kernel]; rfl) (by show 4 = _; decide +kernel) ?_
  rw [show gm_rc 218 = 1 by decide +kernel]
  have eb := gm_bank hb hW
  obtain ⟨r, t, er, et, hv⟩ : ∃ r t : Int, σ 252 b = r ∧ σ 253 b = t ∧ gv_ok σ r t := ⟨_, _, rfl, rfl, by rcases (show b = 0 ∨ b = 1 by omega) with e | e <;> subst e; exact hX.1; exact hX.2.1⟩
  obtain ⟨v1, v2, v3⟩ := hv
  have loop : ∀ (m : Nat) (σ1 : gp_S) (n : Int) (i : Nat) (y : gp_V), t - (r + i) ≤ m → gt_W (gs_wm b f) σ1 → (∀ c j, ¬ c = 259 → σ1 c j = σ c j) → n = gv_h σ r.toNat i → 0 ≤ n → n ≤ 60 → (∀ c, y = .inr c → c = 7) → gp_ok gs_sh (gp_call gs_sh 3) 1 (gm_me 218).1 (fun x σ' => gt_W (gs_wm b f) σ' ∧ (∀ c j, ¬ c = 259 → σ' c j = σ c j) ∧ gt_tv 34359738362 x) 12 [.inr 1891, .inl n, .inl (r + i), y] [] σ1 := by
    intro m
    induction m with
    | zero =>
      intro σ1 n i y hm hW1 hs1 hn hn0 hn6 hy
      have ebk := gm_bank hb hW1
      refine gh_iload_n (show gh_at (gm_me 218).1 12 = some (12, 1, .iload_n 2, 0, 0, []) from rfl) rfl ?_
      refine gh_aload_n (show gh_at (gm_me 218).1 13 = some (13, 1, .aload_n 0, 0, 0, []) from rfl) rfl rfl ?_
      refine gh_get (show gh_at (gm_me 218).1 14 = some (14, 3, .getfield 63, 1, 25, [(0, 1466)]) from rfl) rfl (by decide +kernel) (by decide +kernel) (gh_rdr (r := 2027) (by decide +kernel) rfl) ?_
      refine gh_aload_n (show gh_at (gm_me 218).1 17 = some (17, 1, .aload_n 0, 0, 0, []) from rfl) rfl rfl ?_
      refine gh_get (show gh_at (gm_me 218).1 18 = some (18, 3, .getfield 263, 1, 32, [(0, 1473)]) from rfl) rfl (by decide +kernel) (by decide +kernel) (gh_rd0 (by decide +kernel)) ?_
      rw [ebk]
      refine gh_iald (show gh_at (gm_me 218).1 21 = some (21, 1, .iaload, 0, 0, []) from rfl) rfl (by decide +kernel) (by decide +kernel) (gh_ix (N := 2) (by decide +kernel) (by omega) (by omega)) (gh_rd0 (gh_pk0 (by decide +kernel) _)) ?_
      rw [show ((b : Int)).toNat = b by omega, hs1 253 b (by decide), et]
      refine gh_icmp (show gh_at (gm_me 218).1 22 = some (22, 3, .if_icmp .ge (108), 0, 130, []) from rfl) (fun hc => ?_) (fun hc => ?_)
      · refine gh_aload_n (show gh_at (gm_me 218).1 130 = some (130, 1, .aload_n 0, 0, 0, []) from rfl) rfl rfl ?_
        refine gh_get (show gh_at (gm_me 218).1 131 = some (131, 3, .getfield 82, 1, 31, [(0, 1472)]) from rfl) rfl (by decide +kernel) (by decide +kernel) (gh_rdr (r := 2075) (by decide +kernel) rfl) ?_
        refine gh_iconst (x := 0) (show gh_at (gm_me 218).1 134 = some (134, 1, .iconst 0, 0, 0, []) from rfl) (by decide) ?_
        refine gh_iald (show gh_at (gm_me 218).1 135 = some (135, 1, .iaload, 0, 0, []) from rfl) rfl (by decide +kernel) (by decide +kernel) (gh_ix (N := 60) (by decide +kernel) (by decide) (by decide)) (gh_rd0 (gh_pk0 (by decide +kernel) _)) ?_
        have hp := gh_Wg hW1 259 0 (t := 34359738362) (by show ¬ 100 = 999; decide) (by show 0 < 60; decide) rfl (by decide)
        refine gh_iret (show gh_at (gm_me 218).1 136 = some (136, 1, .ireturn, 0, 0, []) from rfl) ?_
        exact Or.inl ⟨rfl, hW1, hs1, hp⟩
      · have hc : r + i < t := by have q : ¬ t ≤ r + i := hc; omega
        omega
    | succ m ih =>
      intro σ1 n i y hm hW1 hs1 hn hn0 hn6 hy
      have hX1 : gm_X f σ1 := gm_hx _ _ (fun c j q => hs1 c j (fun e => by subst e; cases (show false = true from q))) hX
      have ebk := gm_bank hb hW1
      refine gh_iload_n (show gh_at (gm_me 218).1 12 = some (12, 1, .iload_n 2, 0, 0, []) from rfl) rfl ?_
      refine gh_aload_n (show gh_at (gm_me 218).1 13 = some (13, 1, .aload_n 0, 0, 0, []) from rfl) rfl rfl ?_
      refine gh_get (show gh_at (gm_me 218).1 14 = some (14, 3, .getfield 63, 1, 25, [(0, 1466)]) from rfl) rfl (by decide +kernel) (by decide +kernel) (gh_rdr (r := 2027) (by decide +kernel) rfl) ?_
      refine gh_aload_n (show gh_at (gm_me 218).1 17 = some (17, 1, .aload_n 0, 0, 0, []) from rfl) rfl rfl ?_
      refine gh_get (show gh_at (gm_me 218).1 18 = some (18, 3, .getfield 263, 1, 32, [(0, 1473)]) from rfl) rfl (by decide +kernel) (by decide +kernel) (gh_rd0 (by decide +kernel)) ?_
      rw [ebk]
      refine gh_iald (show gh_at (gm_me 218).1 21 = some (21, 1, .iaload, 0, 0, []) from rfl) rfl (by decide +kernel) (by decide +kernel) (gh_ix (N := 2) (by decide +kernel) (by omega) (by omega)) (gh_rd0 (gh_pk0 (by decide +kernel) _)) ?_
      rw [show ((b : Int)).toNat = b by omega, hs1 253 b (by decide), et]
      refine gh_icmp (show gh_at (gm_me 218).1 22 = some (22, 3, .if_icmp .ge (108), 0, 130, []) from rfl) (fun hc => ?_) (fun hc => ?_)
      · refine gh_aload_n (show gh_at (gm_me 218).1 130 = some (130, 1, .aload_n 0, 0, 0, []) from rfl) rfl rfl ?_
        refine gh_get (show gh_at (gm_me 218).1 131 = some (131, 3, .getfield 82, 1, 31, [(0, 1472)]) from rfl) rfl (by decide +kernel) (by decide +kernel) (gh_rdr (r := 2075) (by decide +kernel) rfl) ?_
        refine gh_iconst (x := 0) (show gh_at (gm_me 218).1 134 = some (134, 1, .iconst 0, 0, 0, []) from rfl) (by decide) ?_
        refine gh_iald (show gh_at (gm_me 218).1 135 = some (135, 1, .iaload, 0, 0, []) from rfl) rfl (by decide +kernel) (by decide +kernel) (gh_ix (N := 60) (by decide +kernel) (by decide) (by decide)) (gh_rd0 (gh_pk0 (by decide +kernel) _)) ?_
        have hp := gh_Wg hW1 259 0 (t := 34359738362) (by show ¬ 100 = 999; decide) (by show 0 < 60; decide) rfl (by decide)
        refine gh_iret (show gh_at (gm_me 218).1 136 = some (136, 1, .ireturn, 0, 0, []) from rfl) ?_
        exact Or.inl ⟨rfl, hW1, hs1, hp⟩
      · have hc : r + i < t := by have q : ¬ t ≤ r + i := hc; omega
        obtain ⟨w1, w2, w3⟩ := v3 i hc
        have hcr : gh_r (σ 255 (r.toNat + i)) := (gh_tv (gh_Wg hW 255 (r.toNat + i) (t := 34359738362) (by show ¬ 100 = 999; decide) (by show _ < 1120; omega) rfl (by decide))).1
        rw [← hn] at w1 w2 w3
        refine gh_aload_n (show gh_at (gm_me 218).1 25 = some (25, 1, .aload_n 0, 0, 0, []) from rfl) rfl rfl ?_
        refine gh_get (show gh_at (gm_me 218).1 26 = some (26, 3, .getfield 70, 1, 27, [(0, 1468)]) from rfl) rfl (by decide +kernel) (by decide +kernel) (gh_rdr (r := 2043) (by decide +kernel) rfl) ?_
        refine gh_iload_n (show gh_at (gm_me 218).1 29 = some (29, 1, .iload_n 2, 0, 0, []) from rfl) rfl ?_
        refine gh_iald (show gh_at (gm_me 218).1 30 = some (30, 1, .iaload, 0, 0, []) from rfl) rfl (by decide +kernel) (by decide +kernel) (gh_ix (N := 1120) (by decide +kernel) (by omega) (by omega)) (gh_rd0 (gh_pk0 (by decide +kernel) _)) ?_
        rw [show (r + (i : Int)).toNat = r.toNat + i by omega, hs1 255 _ (by decide)]
        generalize hcc : σ 255 (r.toNat + i) = c at w1 w2 w3 hcr
        have hnx : ∀ n2, n2 = n + gv_w c → n2 = gv_h σ r.toNat (i + 1) := fun n2 q => by rw [q, hn, ← hcc]; rfl
        refine gh_istore_n (show gh_at (gm_me 218).1 31 = some (31, 1, .istore_n 3, 0, 0, []) from rfl) (fun c q => by cases q <;> decide) rfl ?_
        refine gh_iload_n (show gh_at (gm_me 218).1 32 = some (32, 1, .iload_n 3, 0, 0, []) from rfl) rfl ?_
        refine gh_bipush (x := 126) (show gh_at (gm_me 218).1 33 = some (33, 2, .bipush (126), 1008, 0, []) from rfl) (by decide) ?_
        refine gh_icmp (show gh_at (gm_me 218).1 35 = some (35, 3, .if_icmp .ne (30), 0, 65, []) from rfl) (fun hd => ?_) (fun hd => ?_)
        · have hd : ¬ c = 126 := hd
          refine gh_iload_n (show gh_at (gm_me 218).1 65 = some (65, 1, .iload_n 3, 0, 0, []) from rfl) rfl ?_
          refine gh_callS (as := [.inl c]) (t := []) (show gh_at (gm_me 218).1 66 = some (66, 3, .invokestatic 208, 189, 0, [(0, 1649)]) from rfl) (by decide) rfl (by show 1 = _; decide +kernel) (by decide) (Ψ := fun x σ2 => σ2 = σ1 ∧ ((x = .inl 1 ∧ 97 ≤ c ∧ c ≤ 122) ∨ (x = .inl 0 ∧ ¬ (97 ≤ c ∧ c ≤ 122)))) (gz_letter (d := 2) (fun q => ⟨rfl, Or.inl ⟨rfl, q⟩⟩) (fun q => ⟨rfl, Or.inr ⟨rfl, q⟩⟩)) gh_mono (fun v σ2 hv => ?_)
          obtain ⟨e2, hv⟩ := hv
          rw [e2, show gm_rc 189 = 2 by decide +kernel]
          rcases hv with ⟨rfl, hl⟩ | ⟨rfl, hl⟩
          · refine gh_if (show gh_at (gm_me 218).1 69 = some (69, 3, .ifCond .eq (26), 0, 95, []) from rfl) (fun q => absurd (show (1 : Int) = 0 from q) (by decide)) (fun _ => ?_)
            have w2 := w2 hl
            have hcn := gh_Wg hW1 256 (r.toNat + i) (t := 34359738362) (by show ¬ 100 = 999; decide) (by show _ < 1120; omega) rfl (by decide)
            refine gh_aload_n (show gh_at (gm_me 218).1 72 = some (72, 1, .aload_n 0, 0, 0, []) from rfl) rfl rfl ?_
            refine gh_get (show gh_at (gm_me 218).1 73 = some (73, 3, .getfield 82, 1, 31, [(0, 1472)]) from rfl) rfl (by decide +kernel) (by decide +kernel) (gh_rdr (r := 2075) (by decide +kernel) rfl) ?_
            refine gh_iload_n (show gh_at (gm_me 218).1 76 = some (76, 1, .iload_n 1, 0, 0, []) from rfl) rfl ?_
            refine gh_aload_n (show gh_at (gm_me 218).1 77 = some (77, 1, .aload_n 0, 0, 0, []) from rfl) rfl rfl ?_
            refine gh_iload_n (show gh_at (gm_me 218).1 78 = some (78, 1, .iload_n 3, 0, 0, []) from rfl) rfl ?_
            refine gh_aload_n (show gh_at (gm_me 218).1 79 = some (79, 1, .aload_n 0, 0, 0, []) from rfl) rfl rfl ?_
            refine gh_get (show gh_at (gm_me 218).1 80 = some (80, 3, .getfield 73, 1, 28, [(0, 1469)]) from rfl) rfl (by decide +kernel) (by decide +kernel) (gh_rdr (r := 2051) (by decide +kernel) rfl) ?_
            refine gh_iload_n (show gh_at (gm_me 218).1 83 = some (83, 1, .iload_n 2, 0, 0, []) from rfl) rfl ?_
            refine gh_iald (show gh_at (gm_me 218).1 84 = some (84, 1, .iaload, 0, 0, []) from rfl) rfl (by decide +kernel) (by decide +kernel) (gh_ix (N := 1120) (by decide +kernel) (by omega) (by omega)) (gh_rd0 (gh_pk0 (by decide +kernel) _)) ?_
            rw [show (r + (i : Int)).toNat = r.toNat + i by omega]
            refine gh_callV (r := 1891) (as := [.inl c, .inl (σ1 256 (r.toNat + i))]) (t := [.inl n, .inr 2075]) (show gh_at (gm_me 218).1 85 = some (85, 3, .invokevirtual 341, 217, 0, [(0, 1853)]) from rfl) (by decide) rfl (by show 3 = _; decide +kernel) (Nat.le_trans (gh_wd _) (Nat.le_of_ble_eq_true rfl)) rfl (by decide +kernel) (by decide +kernel) (gh_u0 ha (by decide) hW1 hX1 ⟨Or.inr (Or.inl ⟨rfl, rfl⟩), gh_any hcr, hcn, trivial⟩) gh_mono (fun v σ2 hv => ?_)
            obtain ⟨e2, hv⟩ := hv
            rw [e2]
            rw [show gm_rc 217 = 1 by decide +kernel] at hv ⊢
            obtain ⟨z, rfl, hz, -⟩ := gh_tvi (by decide) (hv.resolve_left (by decide))
            show gp_ok _ _ _ _ _ _ _ (.inl z :: _) _
            refine gh_iast (show gh_at (gm_me 218).1 88 = some (88, 1, .iastore, 0, 0, []) from rfl) rfl (by decide +kernel) (by decide +kernel) (gh_ix (N := 60) (by decide +kernel) (by omega) (by omega)) (gh_pk0 (by decide +kernel) _) ?_
            have hW2 := gh_Wu hW1 (c := 259) (j := (n).toNat) (x := z) (fun _ => gh_any hz)
            have hs2 : ∀ c j, ¬ c = 259 → gp_up σ1 259 (n).toNat z c j = σ c j := fun c j q => (gh_up_ne (fun q2 => q q2.1)).trans (hs1 c j q)
            refine gh_iinc (show gh_at (gm_me 218).1 89 = some (89, 3, .iinc 1 (1), 8, 0, []) from rfl) rfl (fun c q => by cases q <;> decide) (y := n + 1) (gh_add (by unfold gh_r; omega) (by show gh_r 1; unfold gh_r; omega) (by show gh_r (n + 1); unfold gh_r; omega)) rfl ?_
            refine gh_goto (show gh_at (gm_me 218).1 92 = some (92, 3, .goto (32), 0, 124, []) from rfl) ?_
            refine gh_iinc (show gh_at (gm_me 218).1 124 = some (124, 3, .iinc 2 (1), 8, 0, []) from rfl) rfl (fun c q => by cases q <;> decide) (y := r + (i + 1 : Nat)) (by rw [gh_add (by unfold gh_r; omega) (by show gh_r 1; unfold gh_r; omega) (by show gh_r (r + i + 1); unfold gh_r; omega)]; show r + i + 1 = _; omega) rfl ?_
            refine gh_goto (show gh_at (gm_me 218).1 127 = some (127, 3, .goto (-115), 0, 12, []) from rfl) ?_
            exact ih _ _ (i + 1) _ (by omega) hW2 hs2 (hnx _ (by rw [show gv_w c = 1 by unfold gv_w; rw [if_neg hd, if_pos hl]])) (by omega) (by omega) (fun c q => by cases q)
          · refine gh_if (show gh_at (gm_me 218).1 69 = some (69, 3, .ifCond .eq (26), 0, 95, []) from rfl) (fun _ => ?_) (fun q => absurd rfl q)
            have w3 := w3 hd hl
            refine gh_iinc (show gh_at (gm_me 218).1 95 = some (95, 3, .iinc 1 (-1), 34359738360, 0, []) from rfl) rfl (fun c q => by cases q <;> decide) (y := n - 1) (gh_add (by unfold gh_r; omega) (by show gh_r (-1); unfold gh_r; omega) (by show gh_r (n + -1); unfold gh_r; omega)) rfl ?_
            refine gh_aload_n (show gh_at (gm_me 218).1 98 = some (98, 1, .aload_n 0, 0, 0, []) from rfl) rfl rfl ?_
            refine gh_get (show gh_at (gm_me 218).1 99 = some (99, 3, .getfield 82, 1, 31, [(0, 1472)]) from rfl) rfl (by decide +kernel) (by decide +kernel) (gh_rdr (r := 2075) (by decide +kernel) rfl) ?_
            refine gh_iload_n (show gh_at (gm_me 218).1 102 = some (102, 1, .iload_n 1, 0, 0, []) from rfl) rfl ?_
            refine gh_iconst (x := 1) (show gh_at (gm_me 218).1 103 = some (103, 1, .iconst 1, 8, 0, []) from rfl) (by decide) ?_
            refine gh_isub (z := n - 1 - 1) (show gh_at (gm_me 218).1 104 = some (104, 1, .isub, 0, 0, []) from rfl) (gh_sub (by unfold gh_r; omega) (by unfold gh_r; omega) (by unfold gh_r; omega)) ?_
            refine gh_iload_n (show gh_at (gm_me 218).1 105 = some (105, 1, .iload_n 3, 0, 0, []) from rfl) rfl ?_
            refine gh_aload_n (show gh_at (gm_me 218).1 106 = some (106, 1, .aload_n 0, 0, 0, []) from rfl) rfl rfl ?_
            refine gh_get (show gh_at (gm_me 218).1 107 = some (107, 3, .getfield 82, 1, 31, [(0, 1472)]) from rfl) rfl (by decide +kernel) (by decide +kernel) (gh_rdr (r := 2075) (by decide +kernel) rfl) ?_
            refine gh_iload_n (show gh_at (gm_me 218).1 110 = some (110, 1, .iload_n 1, 0, 0, []) from rfl) rfl ?_
            refine gh_iconst (x := 1) (show gh_at (gm_me 218).1 111 = some (111, 1, .iconst 1, 8, 0, []) from rfl) (by decide) ?_
            refine gh_isub (z := n - 1 - 1) (show gh_at (gm_me 218).1 112 = some (112, 1, .isub, 0, 0, []) from rfl) (gh_sub (by unfold gh_r; omega) (by unfold gh_r; omega) (by unfold gh_r; omega)) ?_
            refine gh_iald (show gh_at (gm_me 218).1 113 = some (113, 1, .iaload, 0, 0, []) from rfl) rfl (by decide +kernel) (by decide +kernel) (gh_ix (N := 60) (by decide +kernel) (by omega) (by omega)) (gh_rd0 (gh_pk0 (by decide +kernel) _)) ?_
            have q1 := gh_Wg hW1 259 (n - 1 - 1).toNat (t := 34359738362) (by show ¬ 100 = 999; decide) (by show _ < 60; omega) rfl (by decide)
            refine gh_aload_n (show gh_at (gm_me 218).1 114 = some (114, 1, .aload_n 0, 0, 0, []) from rfl) rfl rfl ?_
            refine gh_get (show gh_at (gm_me 218).1 115 = some (115, 3, .getfield 82, 1, 31, [(0, 1472)]) from rfl) rfl (by decide +kernel) (by decide +kernel) (gh_rdr (r := 2075) (by decide +kernel) rfl) ?_
            refine gh_iload_n (show gh_at (gm_me 218).1 118 = some (118, 1, .iload_n 1, 0, 0, []) from rfl) rfl ?_
            refine gh_iald (show gh_at (gm_me 218).1 119 = some (119, 1, .iaload, 0, 0, []) from rfl) rfl (by decide +kernel) (by decide +kernel) (gh_ix (N := 60) (by decide +kernel) (by omega) (by omega)) (gh_rd0 (gh_pk0 (by decide +kernel) _)) ?_
            have q2 := gh_Wg hW1 259 (n - 1).toNat (t := 34359738362) (by show ¬ 100 = 999; decide) (by show _ < 60; omega) rfl (by decide)
            refine gh_callS (as := [.inl c, .inl (σ1 259 (n - 1 - 1).toNat), .inl (σ1 259 (n - 1).toNat)]) (t := [.inl (n - 1 - 1), .inr 2075]) (show gh_at (gm_me 218).1 120 = some (120, 3, .invokestatic 344, 216, 0, [(0, 1861)]) from rfl) (by decide) rfl (by show 3 = _; decide +kernel) (Nat.le_trans (gh_wd _) (Nat.le_of_ble_eq_true rfl)) (gh_u0 ht (by decide) hW1 hX1 ⟨gh_any hcr, q1, q2, trivial⟩) gh_mono (fun v σ2 hv => ?_)
            obtain ⟨e2, hv⟩ := hv
            rw [e2]
            rw [show gm_rc 216 = 1 by decide +kernel] at hv ⊢
            obtain ⟨z, rfl, hz, -⟩ := gh_tvi (by decide) (hv.resolve_left (by decide))
            show gp_ok _ _ _ _ _ _ _ (.inl z :: _) _
            refine gh_iast (show gh_at (gm_me 218).1 123 = some (123, 1, .iastore, 0, 0, []) from rfl) rfl (by decide +kernel) (by decide +kernel) (gh_ix (N := 60) (by decide +kernel) (by omega) (by omega)) (gh_pk0 (by decide +kernel) _) ?_
            have hW2 := gh_Wu hW1 (c := 259) (j := (n - 1 - 1).toNat) (x := z) (fun _ => gh_any hz)
            have hs2 : ∀ c j, ¬ c = 259 → gp_up σ1 259 (n - 1 - 1).toNat z c j = σ c j := fun c j q => (gh_up_ne (fun q2 => q q2.1)).trans (hs1 c j q)
            refine gh_iinc (show gh_at (gm_me 218).1 124 = some (124, 3, .iinc 2 (1), 8, 0, []) from rfl) rfl (fun c q => by cases q <;> decide) (y := r + (i + 1 : Nat)) (by rw [gh_add (by unfold gh_r; omega) (by show gh_r 1; unfold gh_r; omega) (by show gh_r (r + i + 1); unfold gh_r; omega)]; show r + i + 1 = _; omega) rfl ?_
            refine gh_goto (show gh_at (gm_me 218).1 127 = some (127, 3, .goto (-115), 0, 12, []) from rfl) ?_
            exact ih _ _ (i + 1) _ (by omega) hW2 hs2 (hnx _ (by rw [show gv_w c = -1 by unfold gv_w; rw [if_neg hd, if_neg hl]]; omega)) (by omega) (by omega) (fun c q => by cases q)
        · have hd : c = 126 := Decidable.not_not.mp hd
          have w1 := w1 hd
          refine gh_aload_n (show gh_at (gm_me 218).1 38 = some (38, 1, .aload_n 0, 0, 0, []) from rfl) rfl rfl ?_
          refine gh_get (show gh_at (gm_me 218).1 39 = some (39, 3, .getfield 82, 1, 31, [(0, 1472)]) from rfl) rfl (by decide +kernel) (by decide +kernel) (gh_rdr (r := 2075) (by decide +kernel) rfl) ?_
          refine gh_iload_n (show gh_at (gm_me 218).1 42 = some (42, 1, .iload_n 1, 0, 0, []) from rfl) rfl ?_
          refine gh_iconst (x := 1) (show gh_at (gm_me 218).1 43 = some (43, 1, .iconst 1, 8, 0, []) from rfl) (by decide) ?_
          refine gh_isub (z := n - 1) (show gh_at (gm_me 218).1 44 = some (44, 1, .isub, 0, 0, []) from rfl) (gh_sub (by unfold gh_r; omega) (by unfold gh_r; omega) (by unfold gh_r; omega)) ?_
          refine gh_aload_n (show gh_at (gm_me 218).1 45 = some (45, 1, .aload_n 0, 0, 0, []) from rfl) rfl rfl ?_
          refine gh_get (show gh_at (gm_me 218).1 46 = some (46, 3, .getfield 82, 1, 31, [(0, 1472)]) from rfl) rfl (by decide +kernel) (by decide +kernel) (gh_rdr (r := 2075) (by decide +kernel) rfl) ?_
          refine gh_iload_n (show gh_at (gm_me 218).1 49 = some (49, 1, .iload_n 1, 0, 0, []) from rfl) rfl ?_
          refine gh_iconst (x := 1) (show gh_at (gm_me 218).1 50 = some (50, 1, .iconst 1, 8, 0, []) from rfl) (by decide) ?_
          refine gh_isub (z := n - 1) (show gh_at (gm_me 218).1 51 = some (51, 1, .isub, 0, 0, []) from rfl) (gh_sub (by unfold gh_r; omega) (by unfold gh_r; omega) (by unfold gh_r; omega)) ?_
          refine gh_iald (show gh_at (gm_me 218).1 52 = some (52, 1, .iaload, 0, 0, []) from rfl) rfl (by decide +kernel) (by decide +kernel) (gh_ix (N := 60) (by decide +kernel) (by omega) (by omega)) (gh_rd0 (gh_pk0 (by decide +kernel) _)) ?_
          refine gh_if (show gh_at (gm_me 218).1 53 = some (53, 3, .ifCond .ne (7), 0, 60, []) from rfl) (fun hz => ?_) (fun hz => ?_)
          · refine gh_iconst (x := 0) (show gh_at (gm_me 218).1 60 = some (60, 1, .iconst 0, 0, 0, []) from rfl) (by decide) ?_
            refine gh_iast (show gh_at (gm_me 218).1 61 = some (61, 1, .iastore, 0, 0, []) from rfl) rfl (by decide +kernel) (by decide +kernel) (gh_ix (N := 60) (by decide +kernel) (by omega) (by omega)) (gh_pk0 (by decide +kernel) _) ?_
            have hW2 := gh_Wu hW1 (c := 259) (j := (n - 1).toNat) (x := 0) (fun _ => gh_any (by unfold gh_r; omega))
            have hs2 : ∀ c j, ¬ c = 259 → gp_up σ1 259 (n - 1).toNat 0 c j = σ c j := fun c j q => (gh_up_ne (fun q2 => q q2.1)).trans (hs1 c j q)
            refine gh_goto (show gh_at (gm_me 218).1 62 = some (62, 3, .goto (62), 0, 124, []) from rfl) ?_
            refine gh_iinc (show gh_at (gm_me 218).1 124 = some (124, 3, .iinc 2 (1), 8, 0, []) from rfl) rfl (fun c q => by cases q <;> decide) (y := r + (i + 1 : Nat)) (by rw [gh_add (by unfold gh_r; omega) (by show gh_r 1; unfold gh_r; omega) (by show gh_r (r + i + 1); unfold gh_r; omega)]; show r + i + 1 = _; omega) rfl ?_
            refine gh_goto (show gh_at (gm_me 218).1 127 = some (127, 3, .goto (-115), 0, 12, []) from rfl) ?_
            exact ih _ _ (i + 1) _ (by omega) hW2 hs2 (hnx n (by rw [hd]; show n = n + 0; omega)) hn0 hn6 (fun c q => by cases q)
          · refine gh_iconst (x := 1) (show gh_at (gm_me 218).1 56 = some (56, 1, .iconst 1, 8, 0, []) from rfl) (by decide) ?_
            refine gh_goto (show gh_at (gm_me 218).1 57 = some (57, 3, .goto (4), 0, 61, []) from rfl) ?_
            refine gh_iast (show gh_at (gm_me 218).1 61 = some (61, 1, .iastore, 0, 0, []) from rfl) rfl (by decide +kernel) (by decide +kernel) (gh_ix (N := 60) (by decide +kernel) (by omega) (by omega)) (gh_pk0 (by decide +kernel) _) ?_
            have hW2 := gh_Wu hW1 (c := 259) (j := (n - 1).toNat) (x := 1) (fun _ => gh_any (by unfold gh_r; omega))
            have hs2 : ∀ c j, ¬ c = 259 → gp_up σ1 259 (n - 1).toNat 1 c j = σ c j := fun c j q => (gh_up_ne (fun q2 => q q2.1)).trans (hs1 c j q)
            refine gh_goto (show gh_at (gm_me 218).1 62 = some (62, 3, .goto (62), 0, 124, []) from rfl) ?_
            refine gh_iinc (show gh_at (gm_me 218).1 124 = some (124, 3, .iinc 2 (1), 8, 0, []) from rfl) rfl (fun c q => by cases q <;> decide) (y := r + (i + 1 : Nat)) (by rw [gh_add (by unfold gh_r; omega) (by show gh_r 1; unfold gh_r; omega) (by show gh_r (r + i + 1); unfold gh_r; omega)]; show r + i + 1 = _; omega) rfl ?_
            refine gh_goto (show gh_at (gm_me 218).1 127 = some (127, 3, .goto (-115), 0, 12, []) from rfl) ?_
            exact ih _ _ (i + 1) _ (by omega) hW2 hs2 (hnx n (by rw [hd]; show n = n + 0; omega)) hn0 hn6 (fun c q => by cases q)
  refine gh_iconst (x := 0) (show gh_at (gm_me 218).1 0 = some (0, 1, .iconst 0, 0, 0, []) from rfl) (by decide) ?_
  refine gh_istore_n (show gh_at (gm_me 218).1 1 = some (1, 1, .istore_n 1, 0, 0, []) from rfl) (fun c q => by cases q <;> decide) rfl ?_
  refine gh_aload_n (show gh_at (gm_me 218).1 2 = some (2, 1, .aload_n 0, 0, 0, []) from rfl) rfl rfl ?_
  refine gh_get (show gh_at (gm_me 218).1 3 = some (3, 3, .getfield 60, 1, 24, [(0, 1465)]) from rfl) rfl (by decide +kernel) (by decide +kernel) (gh_rdr (r := 2019) (by decide +kernel) rfl) ?_
  refine gh_aload_n (show gh_at (gm_me 218).1 6 = some (6, 1, .aload_n 0, 0, 0, []) from rfl) rfl rfl ?_
  refine gh_get (show gh_at (gm_me 218).1 7 = some (7, 3, .getfield 263, 1, 32, [(0, 1473)]) from rfl) rfl (by decide +kernel) (by decide +kernel) (gh_rd0 (by decide +kernel)) ?_
  rw [eb]
  refine gh_iald (show gh_at (gm_me 218).1 10 = some (10, 1, .iaload, 0, 0, []) from rfl) rfl (by decide +kernel) (by decide +kernel) (gh_ix (N := 2) (by decide +kernel) (by omega) (by omega)) (gh_rd0 (gh_pk0 (by decide +kernel) _)) ?_
  rw [show ((b : Int)).toNat = b by omega, er]
  refine gh_istore_n (show gh_at (gm_me 218).1 11 = some (11, 1, .istore_n 2, 0, 0, []) from rfl) (fun c q => by cases q <;> decide) rfl ?_
  have := loop (t - r).toNat σ 0 0 (.inr 7) (by omega) hW (fun _ _ _ => rfl) rfl (by omega) (by omega) (fun c q => by cases q; rfl)
  rw [show r + ((0 : Nat) : Int) = r by omega] at this
  exact this
