/-! doesFit -/
def gf_p (σ : gp_S) (v k : Int) (n : Nat) : Prop := k < σ 274 n ∨ (0 ≤ σ 275 n ∧ σ 275 n ≤ k) ∨ (if σ 270 (41 * v + σ 271 n).toNat = σ 272 n then (1 : Int) else 0) = σ 273 n
def gf_f (σ : gp_S) (v k : Int) : Prop := ∀ n : Nat, (n : Int) < σ 236 61 → gf_p σ v k n
theorem gz_fit {b f : Nat} {d : Nat} {σ : gp_S} {v x : Int} {Φ : gp_F} (hW : gt_W (gs_wm b f) σ) (hv : 1 ≤ v ∧ v ≤ 20) (h1 : gf_f σ v x → Φ (.inl 1) σ) (h0 : ¬ gf_f σ v x → Φ (.inl 0) σ) : gp_call gs_sh (d + 1) 247 [.inr 1891, .inl v, .inl x] σ Φ := by
  refine gh_call (al := [.inr 1891, .inl v, .inl x, .inr 7, .inr 7]) (by decide +kernel) (by show 3 = _; decide +kernel) (by rw [show (gm_me 247).2.1 = 2 by decide +kernel]; rfl) (by show 5 = _; decide +kernel) ?_
  rw [show gm_rc 247 = 2 by decide +kernel]
  have ts := (gh_tv (gh_Wg hW 236 61 (t := 73786976312018075890) (by show ¬ 1 = 999; decide) (by show 61 < 65; decide) rfl (by decide))).2
  have loop : ∀ (m n : Nat) (w : gp_V), σ 236 61 - n ≤ m → (n : Int) ≤ σ 236 61 → (∀ i : Nat, i < n → gf_p σ v x i) → gp_ok gs_sh (gp_call gs_sh d) 2 (gm_me 247).1 Φ 2 [.inr 1891, .inl v, .inl x, .inl (n : Int), w] [] σ := by
    intro m
    induction m with
    | zero =>
      intro n w hm hn hp
      refine gh_iload_n (show gh_at (gm_me 247).1 2 = some (2, 1, .iload_n 3, 0, 0, []) from rfl) rfl ?_
      refine gh_aload_n (show gh_at (gm_me 247).1 3 = some (3, 1, .aload_n 0, 0, 0, []) from rfl) rfl rfl ?_
      refine gh_get (show gh_at (gm_me 247).1 4 = some (4, 3, .getfield 386, 1, 61, [(0, 1502)]) from rfl) rfl (by decide +kernel) (by decide +kernel) (gh_rd0 (by decide +kernel)) ?_
      refine gh_icmp (show gh_at (gm_me 247).1 7 = some (7, 3, .if_icmp .ge (86), 0, 93, []) from rfl) (fun hc => ?_) (fun hc => ?_)
      · have hc : σ 236 61 ≤ (n : Int) := hc
        refine gh_iconst (x := 1) (show gh_at (gm_me 247).1 93 = some (93, 1, .iconst 1, 8, 0, []) from rfl) (by decide) ?_
        refine gh_iret (show gh_at (gm_me 247).1 94 = some (94, 1, .ireturn, 0, 0, []) from rfl) ?_
        exact Or.inr ⟨rfl, Or.inr rfl, h1 (fun i hi => hp i (by omega))⟩
      · have hc : ¬ σ 236 61 ≤ (n : Int) := hc
        omega
    | succ m ih =>
      intro n w hm hn hp
      refine gh_iload_n (show gh_at (gm_me 247).1 2 = some (2, 1, .iload_n 3, 0, 0, []) from rfl) rfl ?_
      refine gh_aload_n (show gh_at (gm_me 247).1 3 = some (3, 1, .aload_n 0, 0, 0, []) from rfl) rfl rfl ?_
      refine gh_get (show gh_at (gm_me 247).1 4 = some (4, 3, .getfield 386, 1, 61, [(0, 1502)]) from rfl) rfl (by decide +kernel) (by decide +kernel) (gh_rd0 (by decide +kernel)) ?_
      refine gh_icmp (show gh_at (gm_me 247).1 7 = some (7, 3, .if_icmp .ge (86), 0, 93, []) from rfl) (fun hc => ?_) (fun hc => ?_)
      · have hc : σ 236 61 ≤ (n : Int) := hc
        refine gh_iconst (x := 1) (show gh_at (gm_me 247).1 93 = some (93, 1, .iconst 1, 8, 0, []) from rfl) (by decide) ?_
        refine gh_iret (show gh_at (gm_me 247).1 94 = some (94, 1, .ireturn, 0, 0, []) from rfl) ?_
        exact Or.inr ⟨rfl, Or.inr rfl, h1 (fun i hi => hp i (by omega))⟩
      · have hc : ¬ σ 236 61 ≤ (n : Int) := hc
        have tn : ((n : Int)).toNat = n := by omega
        refine gh_aload_n (show gh_at (gm_me 247).1 10 = some (10, 1, .aload_n 0, 0, 0, []) from rfl) rfl rfl ?_
        refine gh_get (show gh_at (gm_me 247).1 11 = some (11, 3, .getfield 133, 1, 58, [(0, 1499)]) from rfl) rfl (by decide +kernel) (by decide +kernel) (gh_rdr (r := 2195) (by decide +kernel) rfl) ?_
        refine gh_iload_n (show gh_at (gm_me 247).1 14 = some (14, 1, .iload_n 3, 0, 0, []) from rfl) rfl ?_
        refine gh_iald (show gh_at (gm_me 247).1 15 = some (15, 1, .iaload, 0, 0, []) from rfl) rfl (by decide +kernel) (by decide +kernel) (gh_ix (N := 30) (by decide +kernel) (by omega) (by omega)) (gh_rd0 (gh_pk0 (by decide +kernel) _)) ?_
        rw [tn]
        show gp_ok _ _ _ _ _ _ _ (.inl (σ 274 n) :: _) _
        refine gh_iload_n (show gh_at (gm_me 247).1 16 = some (16, 1, .iload_n 2, 0, 0, []) from rfl) rfl ?_
        refine gh_icmp (show gh_at (gm_me 247).1 17 = some (17, 3, .if_icmp .gt (70), 0, 87, []) from rfl) (fun hc2 => ?_) (fun hc2 => ?_)
        · refine gh_iinc (show gh_at (gm_me 247).1 87 = some (87, 3, .iinc 3 (1), 8, 0, []) from rfl) rfl (fun c q => by cases q <;> decide) (y := ((n + 1 : Nat) : Int)) (by rw [gh_add (by unfold gh_r; omega) (by show gh_r 1; unfold gh_r; omega) (by show gh_r ((n : Int) + 1); unfold gh_r; omega)]; show (n : Int) + 1 = _; omega) rfl ?_
          refine gh_goto (show gh_at (gm_me 247).1 90 = some (90, 3, .goto (-88), 0, 2, []) from rfl) ?_
          exact ih (n + 1) _ (by omega) (by omega) (fun i hi => by by_cases e : i = n; (subst e; exact Or.inl hc2); exact hp i (by omega))
        · refine gh_aload_n (show gh_at (gm_me 247).1 20 = some (20, 1, .aload_n 0, 0, 0, []) from rfl) rfl rfl ?_
          refine gh_get (show gh_at (gm_me 247).1 21 = some (21, 3, .getfield 136, 1, 59, [(0, 1500)]) from rfl) rfl (by decide +kernel) (by decide +kernel) (gh_rdr (r := 2203) (by decide +kernel) rfl) ?_
          refine gh_iload_n (show gh_at (gm_me 247).1 24 = some (24, 1, .iload_n 3, 0, 0, []) from rfl) rfl ?_
          refine gh_iald (show gh_at (gm_me 247).1 25 = some (25, 1, .iaload, 0, 0, []) from rfl) rfl (by decide +kernel) (by decide +kernel) (gh_ix (N := 30) (by decide +kernel) (by omega) (by omega)) (gh_rd0 (gh_pk0 (by decide +kernel) _)) ?_
          rw [tn]
          show gp_ok _ _ _ _ _ _ _ (.inl (σ 275 n) :: _) _
          refine gh_if (show gh_at (gm_me 247).1 26 = some (26, 3, .ifCond .lt (16), 0, 42, []) from rfl) (fun hc3 => ?_) (fun hc3 => ?_)
          · have hno : ¬ (0 ≤ σ 275 n ∧ σ 275 n ≤ x) := fun q => by have hc3 : σ 275 n < 0 := hc3; omega
            have tm := (gh_tv (gh_Wg hW 271 n (t := 73786976312018075970) (by show ¬ 100 = 999; decide) (by show n < 30; omega) rfl (by decide))).2
            refine gh_aload_n (show gh_at (gm_me 247).1 42 = some (42, 1, .aload_n 0, 0, 0, []) from rfl) rfl rfl ?_
            refine gh_get (show gh_at (gm_me 247).1 43 = some (43, 3, .getfield 121, 1, 54, [(0, 1495)]) from rfl) rfl (by decide +kernel) (by decide +kernel) (gh_rdr (r := 2163) (by decide +kernel) rfl) ?_
            refine gh_bipush (x := 41) (show gh_at (gm_me 247).1 46 = some (46, 2, .bipush (41), 328, 0, []) from rfl) (by decide) ?_
            refine gh_iload_n (show gh_at (gm_me 247).1 48 = some (48, 1, .iload_n 1, 0, 0, []) from rfl) rfl ?_
            refine gh_imul (z := 41 * v) (show gh_at (gm_me 247).1 49 = some (49, 1, .imul, 0, 0, []) from rfl) (gh_mul (by unfold gh_r; omega) (by unfold gh_r; omega) (by unfold gh_r; omega)) ?_
            refine gh_aload_n (show gh_at (gm_me 247).1 50 = some (50, 1, .aload_n 0, 0, 0, []) from rfl) rfl rfl ?_
            refine gh_get (show gh_at (gm_me 247).1 51 = some (51, 3, .getfield 124, 1, 55, [(0, 1496)]) from rfl) rfl (by decide +kernel) (by decide +kernel) (gh_rdr (r := 2171) (by decide +kernel) rfl) ?_
            refine gh_iload_n (show gh_at (gm_me 247).1 54 = some (54, 1, .iload_n 3, 0, 0, []) from rfl) rfl ?_
            refine gh_iald (show gh_at (gm_me 247).1 55 = some (55, 1, .iaload, 0, 0, []) from rfl) rfl (by decide +kernel) (by decide +kernel) (gh_ix (N := 30) (by decide +kernel) (by omega) (by omega)) (gh_rd0 (gh_pk0 (by decide +kernel) _)) ?_
            rw [tn]
            show gp_ok _ _ _ _ _ _ _ (.inl (σ 271 n) :: _) _
            refine gh_iadd (z := 41 * v + σ 271 n) (show gh_at (gm_me 247).1 56 = some (56, 1, .iadd, 0, 0, []) from rfl) (gh_add (by unfold gh_r; omega) (by unfold gh_r; omega) (by unfold gh_r; omega)) ?_
            refine gh_iald (show gh_at (gm_me 247).1 57 = some (57, 1, .iaload, 0, 0, []) from rfl) rfl (by decide +kernel) (by decide +kernel) (gh_ix (N := 861) (by decide +kernel) (by omega) (by omega)) (gh_rd0 (gh_pk0 (by decide +kernel) _)) ?_
            show gp_ok _ _ _ _ _ _ _ (.inl (σ 270 (41 * v + σ 271 n).toNat) :: _) _
            refine gh_aload_n (show gh_at (gm_me 247).1 58 = some (58, 1, .aload_n 0, 0, 0, []) from rfl) rfl rfl ?_
            refine gh_get (show gh_at (gm_me 247).1 59 = some (59, 3, .getfield 127, 1, 56, [(0, 1497)]) from rfl) rfl (by decide +kernel) (by decide +kernel) (gh_rdr (r := 2179) (by decide +kernel) rfl) ?_
            refine gh_iload_n (show gh_at (gm_me 247).1 62 = some (62, 1, .iload_n 3, 0, 0, []) from rfl) rfl ?_
            refine gh_iald (show gh_at (gm_me 247).1 63 = some (63, 1, .iaload, 0, 0, []) from rfl) rfl (by decide +kernel) (by decide +kernel) (gh_ix (N := 30) (by decide +kernel) (by omega) (by omega)) (gh_rd0 (gh_pk0 (by decide +kernel) _)) ?_
            rw [tn]
            show gp_ok _ _ _ _ _ _ _ (.inl (σ 272 n) :: _) _
            refine gh_icmp (show gh_at (gm_me 247).1 64 = some (64, 3, .if_icmp .ne (7), 0, 71, []) from rfl) (fun hd => ?_) (fun hd => ?_)
            · have ef : (if σ 270 (41 * v + σ 271 n).toNat = σ 272 n then (1 : Int) else 0) = 0 := if_neg hd
              refine gh_iconst (x := 0) (show gh_at (gm_me 247).1 71 = some (71, 1, .iconst 0, 0, 0, []) from rfl) (by decide) ?_
              refine gh_istore (show gh_at (gm_me 247).1 72 = some (72, 2, .istore 4, 0, 0, []) from rfl) (fun c q => by cases q <;> decide) rfl ?_
              refine gh_iload (show gh_at (gm_me 247).1 74 = some (74, 2, .iload 4, 0, 0, []) from rfl) rfl ?_
              refine gh_aload_n (show gh_at (gm_me 247).1 76 = some (76, 1, .aload_n 0, 0, 0, []) from rfl) rfl rfl ?_
              refine gh_get (show gh_at (gm_me 247).1 77 = some (77, 3, .getfield 130, 1, 57, [(0, 1498)]) from rfl) rfl (by decide +kernel) (by decide +kernel) (gh_rdr (r := 2187) (by decide +kernel) rfl) ?_
              refine gh_iload_n (show gh_at (gm_me 247).1 80 = some (80, 1, .iload_n 3, 0, 0, []) from rfl) rfl ?_
              refine gh_iald (show gh_at (gm_me 247).1 81 = some (81, 1, .iaload, 0, 0, []) from rfl) rfl (by decide +kernel) (by decide +kernel) (gh_ix (N := 30) (by decide +kernel) (by omega) (by omega)) (gh_rd0 (gh_pk0 (by decide +kernel) _)) ?_
              rw [tn]
              show gp_ok _ _ _ _ _ _ _ (.inl (σ 273 n) :: _) _
              refine gh_icmp (show gh_at (gm_me 247).1 82 = some (82, 3, .if_icmp .eq (5), 0, 87, []) from rfl) (fun he => ?_) (fun he => ?_)
              · refine gh_iinc (show gh_at (gm_me 247).1 87 = some (87, 3, .iinc 3 (1), 8, 0, []) from rfl) rfl (fun c q => by cases q <;> decide) (y := ((n + 1 : Nat) : Int)) (by rw [gh_add (by unfold gh_r; omega) (by show gh_r 1; unfold gh_r; omega) (by show gh_r ((n : Int) + 1); unfold gh_r; omega)]; show (n : Int) + 1 = _; omega) rfl ?_
                refine gh_goto (show gh_at (gm_me 247).1 90 = some (90, 3, .goto (-88), 0, 2, []) from rfl) ?_
                exact ih (n + 1) _ (by omega) (by omega) (fun i hi => by by_cases e : i = n; (subst e; exact Or.inr (Or.inr (ef.trans he))); exact hp i (by omega))
              · refine gh_iconst (x := 0) (show gh_at (gm_me 247).1 85 = some (85, 1, .iconst 0, 0, 0, []) from rfl) (by decide) ?_
                refine gh_iret (show gh_at (gm_me 247).1 86 = some (86, 1, .ireturn, 0, 0, []) from rfl) ?_
                refine Or.inr ⟨rfl, Or.inl rfl, h0 (fun q => ?_)⟩
                rcases q n (by omega) with r | r | r
                · exact hc2 r
                · exact hno r
                · exact he (ef.symm.trans r)
            · have ef : (if σ 270 (41 * v + σ 271 n).toNat = σ 272 n then (1 : Int) else 0) = 1 := if_pos (Decidable.not_not.mp hd)
              refine gh_iconst (x := 1) (show gh_at (gm_me 247).1 67 = some (67, 1, .iconst 1, 8, 0, []) from rfl) (by decide) ?_
              refine gh_goto (show gh_at (gm_me 247).1 68 = some (68, 3, .goto (4), 0, 72, []) from rfl) ?_
              refine gh_istore (show gh_at (gm_me 247).1 72 = some (72, 2, .istore 4, 0, 0, []) from rfl) (fun c q => by cases q <;> decide) rfl ?_
              refine gh_iload (show gh_at (gm_me 247).1 74 = some (74, 2, .iload 4, 0, 0, []) from rfl) rfl ?_
              refine gh_aload_n (show gh_at (gm_me 247).1 76 = some (76, 1, .aload_n 0, 0, 0, []) from rfl) rfl rfl ?_
              refine gh_get (show gh_at (gm_me 247).1 77 = some (77, 3, .getfield 130, 1, 57, [(0, 1498)]) from rfl) rfl (by decide +kernel) (by decide +kernel) (gh_rdr (r := 2187) (by decide +kernel) rfl) ?_
              refine gh_iload_n (show gh_at (gm_me 247).1 80 = some (80, 1, .iload_n 3, 0, 0, []) from rfl) rfl ?_
              refine gh_iald (show gh_at (gm_me 247).1 81 = some (81, 1, .iaload, 0, 0, []) from rfl) rfl (by decide +kernel) (by decide +kernel) (gh_ix (N := 30) (by decide +kernel) (by omega) (by omega)) (gh_rd0 (gh_pk0 (by decide +kernel) _)) ?_
              rw [tn]
              show gp_ok _ _ _ _ _ _ _ (.inl (σ 273 n) :: _) _
              refine gh_icmp (show gh_at (gm_me 247).1 82 = some (82, 3, .if_icmp .eq (5), 0, 87, []) from rfl) (fun he => ?_) (fun he => ?_)
              · refine gh_iinc (show gh_at (gm_me 247).1 87 = some (87, 3, .iinc 3 (1), 8, 0, []) from rfl) rfl (fun c q => by cases q <;> decide) (y := ((n + 1 : Nat) : Int)) (by rw [gh_add (by unfold gh_r; omega) (by show gh_r 1; unfold gh_r; omega) (by show gh_r ((n : Int) + 1); unfold gh_r; omega)]; show (n : Int) + 1 = _; omega) rfl ?_
                refine gh_goto (show gh_at (gm_me 247).1 90 = some (90, 3, .goto (-88), 0, 2, []) from rfl) ?_
                exact ih (n + 1) _ (by omega) (by omega) (fun i hi => by by_cases e : i = n; (subst e; exact Or.inr (Or.inr (ef.trans he))); exact hp i (by omega))
              · refine gh_iconst (x := 0) (show gh_at (gm_me 247).1 85 = some (85, 1, .iconst 0, 0, 0, []) from rfl) (by decide) ?_
                refine gh_iret (show gh_at (gm_me 247).1 86 = some (86, 1, .ireturn, 0, 0, []) from rfl) ?_
                refine Or.inr ⟨rfl, Or.inl rfl, h0 (fun q => ?_)⟩
                rcases q n (by omega) with r | r | r
                · exact hc2 r
                · exact hno r
                · exact he (ef.symm.trans r)
          · refine gh_aload_n (show gh_at (gm_me 247).1 29 = some (29, 1, .aload_n 0, 0, 0, []) from rfl) rfl rfl ?_
            refine gh_get (show gh_at (gm_me 247).1 30 = some (30, 3, .getfield 136, 1, 59, [(0, 1500)]) from rfl) rfl (by decide +kernel) (by decide +kernel) (gh_rdr (r := 2203) (by decide +kernel) rfl) ?_
            refine gh_iload_n (show gh_at (gm_me 247).1 33 = some (33, 1, .iload_n 3, 0, 0, []) from rfl) rfl ?_
            refine gh_iald (show gh_at (gm_me 247).1 34 = some (34, 1, .iaload, 0, 0, []) from rfl) rfl (by decide +kernel) (by decide +kernel) (gh_ix (N := 30) (by decide +kernel) (by omega) (by omega)) (gh_rd0 (gh_pk0 (by decide +kernel) _)) ?_
            rw [tn]
            show gp_ok _ _ _ _ _ _ _ (.inl (σ 275 n) :: _) _
            refine gh_iload_n (show gh_at (gm_me 247).1 35 = some (35, 1, .iload_n 2, 0, 0, []) from rfl) rfl ?_
            refine gh_icmp (show gh_at (gm_me 247).1 36 = some (36, 3, .if_icmp .gt (6), 0, 42, []) from rfl) (fun hc4 => ?_) (fun hc4 => ?_)
            · have hno : ¬ (0 ≤ σ 275 n ∧ σ 275 n ≤ x) := fun q => by have hc4 : x < σ 275 n := hc4; omega
              have tm := (gh_tv (gh_Wg hW 271 n (t := 73786976312018075970) (by show ¬ 100 = 999; decide) (by show n < 30; omega) rfl (by decide))).2
              refine gh_aload_n (show gh_at (gm_me 247).1 42 = some (42, 1, .aload_n 0, 0, 0, []) from rfl) rfl rfl ?_
              refine gh_get (show gh_at (gm_me 247).1 43 = some (43, 3, .getfield 121, 1, 54, [(0, 1495)]) from rfl) rfl (by decide +kernel) (by decide +kernel) (gh_rdr (r := 2163) (by decide +kernel) rfl) ?_
              refine gh_bipush (x := 41) (show gh_at (gm_me 247).1 46 = some (46, 2, .bipush (41), 328, 0, []) from rfl) (by decide) ?_
              refine gh_iload_n (show gh_at (gm_me 247).1 48 = some (48, 1, .iload_n 1, 0, 0, []) from rfl) rfl ?_
              refine gh_imul (z := 41 * v) (show gh_at (gm_me 247).1 49 = some (49, 1, .imul, 0, 0, []) from rfl) (gh_mul (by unfold gh_r; omega) (by unfold gh_r; omega) (by unfold gh_r; omega)) ?_
              refine gh_aload_n (show gh_at (gm_me 247).1 50 = some (50, 1, .aload_n 0, 0, 0, []) from rfl) rfl rfl ?_
              refine gh_get (show gh_at (gm_me 247).1 51 = some (51, 3, .getfield 124, 1, 55, [(0, 1496)]) from rfl) rfl (by decide +kernel) (by decide +kernel) (gh_rdr (r := 2171) (by decide +kernel) rfl) ?_
              refine gh_iload_n (show gh_at (gm_me 247).1 54 = some (54, 1, .iload_n 3, 0, 0, []) from rfl) rfl ?_
              refine gh_iald (show gh_at (gm_me 247).1 55 = some (55, 1, .iaload, 0, 0, []) from rfl) rfl (by decide +kernel) (by decide +kernel) (gh_ix (N := 30) (by decide +kernel) (by omega) (by omega)) (gh_rd0 (gh_pk0 (by decide +kernel) _)) ?_
              rw [tn]
              show gp_ok _ _ _ _ _ _ _ (.inl (σ 271 n) :: _) _
              refine gh_iadd (z := 41 * v + σ 271 n) (show gh_at (gm_me 247).1 56 = some (56, 1, .iadd, 0, 0, []) from rfl) (gh_add (by unfold gh_r; omega) (by unfold gh_r; omega) (by unfold gh_r; omega)) ?_
              refine gh_iald (show gh_at (gm_me 247).1 57 = some (57, 1, .iaload, 0, 0, []) from rfl) rfl (by decide +kernel) (by decide +kernel) (gh_ix (N := 861) (by decide +kernel) (by omega) (by omega)) (gh_rd0 (gh_pk0 (by decide +kernel) _)) ?_
              show gp_ok _ _ _ _ _ _ _ (.inl (σ 270 (41 * v + σ 271 n).toNat) :: _) _
              refine gh_aload_n (show gh_at (gm_me 247).1 58 = some (58, 1, .aload_n 0, 0, 0, []) from rfl) rfl rfl ?_
              refine gh_get (show gh_at (gm_me 247).1 59 = some (59, 3, .getfield 127, 1, 56, [(0, 1497)]) from rfl) rfl (by decide +kernel) (by decide +kernel) (gh_rdr (r := 2179) (by decide +kernel) rfl) ?_
              refine gh_iload_n (show gh_at (gm_me 247).1 62 = some (62, 1, .iload_n 3, 0, 0, []) from rfl) rfl ?_
              refine gh_iald (show gh_at (gm_me 247).1 63 = some (63, 1, .iaload, 0, 0, []) from rfl) rfl (by decide +kernel) (by decide +kernel) (gh_ix (N := 30) (by decide +kernel) (by omega) (by omega)) (gh_rd0 (gh_pk0 (by decide +kernel) _)) ?_
              rw [tn]
              show gp_ok _ _ _ _ _ _ _ (.inl (σ 272 n) :: _) _
              refine gh_icmp (show gh_at (gm_me 247).1 64 = some (64, 3, .if_icmp .ne (7), 0, 71, []) from rfl) (fun hd => ?_) (fun hd => ?_)
              · have ef : (if σ 270 (41 * v + σ 271 n).toNat = σ 272 n then (1 : Int) else 0) = 0 := if_neg hd
                refine gh_iconst (x := 0) (show gh_at (gm_me 247).1 71 = some (71, 1, .iconst 0, 0, 0, []) from rfl) (by decide) ?_
                refine gh_istore (show gh_at (gm_me 247).1 72 = some (72, 2, .istore 4, 0, 0, []) from rfl) (fun c q => by cases q <;> decide) rfl ?_
                refine gh_iload (show gh_at (gm_me 247).1 74 = some (74, 2, .iload 4, 0, 0, []) from rfl) rfl ?_
                refine gh_aload_n (show gh_at (gm_me 247).1 76 = some (76, 1, .aload_n 0, 0, 0, []) from rfl) rfl rfl ?_
                refine gh_get (show gh_at (gm_me 247).1 77 = some (77, 3, .getfield 130, 1, 57, [(0, 1498)]) from rfl) rfl (by decide +kernel) (by decide +kernel) (gh_rdr (r := 2187) (by decide +kernel) rfl) ?_
                refine gh_iload_n (show gh_at (gm_me 247).1 80 = some (80, 1, .iload_n 3, 0, 0, []) from rfl) rfl ?_
                refine gh_iald (show gh_at (gm_me 247).1 81 = some (81, 1, .iaload, 0, 0, []) from rfl) rfl (by decide +kernel) (by decide +kernel) (gh_ix (N := 30) (by decide +kernel) (by omega) (by omega)) (gh_rd0 (gh_pk0 (by decide +kernel) _)) ?_
                rw [tn]
                show gp_ok _ _ _ _ _ _ _ (.inl (σ 273 n) :: _) _
                refine gh_icmp (show gh_at (gm_me 247).1 82 = some (82, 3, .if_icmp .eq (5), 0, 87, []) from rfl) (fun he => ?_) (fun he => ?_)
                · refine gh_iinc (show gh_at (gm_me 247).1 87 = some (87, 3, .iinc 3 (1), 8, 0, []) from rfl) rfl (fun c q => by cases q <;> decide) (y := ((n + 1 : Nat) : Int)) (by rw [gh_add (by unfold gh_r; omega) (by show gh_r 1; unfold gh_r; omega) (by show gh_r ((n : Int) + 1); unfold gh_r; omega)]; show (n : Int) + 1 = _; omega) rfl ?_
                  refine gh_goto (show gh_at (gm_me 247).1 90 = some (90, 3, .goto (-88), 0, 2, []) from rfl) ?_
                  exact ih (n + 1) _ (by omega) (by omega) (fun i hi => by by_cases e : i = n; (subst e; exact Or.inr (Or.inr (ef.trans he))); exact hp i (by omega))
                · refine gh_iconst (x := 0) (show gh_at (gm_me 247).1 85 = some (85, 1, .iconst 0, 0, 0, []) from rfl) (by decide) ?_
                  refine gh_iret (show gh_at (gm_me 247).1 86 = some (86, 1, .ireturn, 0, 0, []) from rfl) ?_
                  refine Or.inr ⟨rfl, Or.inl rfl, h0 (fun q => ?_)⟩
                  rcases q n (by omega) with r | r | r
                  · exact hc2 r
                  · exact hno r
                  · exact he (ef.symm.trans r)
              · have ef : (if σ 270 (41 * v + σ 271 n).toNat = σ 272 n then (1 : Int) else 0) = 1 := if_pos (Decidable.not_not.mp hd)
                refine gh_iconst (x := 1) (show gh_at (gm_me 247).1 67 = some (67, 1, .iconst 1, 8, 0, []) from rfl) (by decide) ?_
                refine gh_goto (show gh_at (gm_me 247).1 68 = some (68, 3, .goto (4), 0, 72, []) from rfl) ?_
                refine gh_istore (show gh_at (gm_me 247).1 72 = some (72, 2, .istore 4, 0, 0, []) from rfl) (fun c q => by cases q <;> decide) rfl ?_
                refine gh_iload (show gh_at (gm_me 247).1 74 = some (74, 2, .iload 4, 0, 0, []) from rfl) rfl ?_
                refine gh_aload_n (show gh_at (gm_me 247).1 76 = some (76, 1, .aload_n 0, 0, 0, []) from rfl) rfl rfl ?_
                refine gh_get (show gh_at (gm_me 247).1 77 = some (77, 3, .getfield 130, 1, 57, [(0, 1498)]) from rfl) rfl (by decide +kernel) (by decide +kernel) (gh_rdr (r := 2187) (by decide +kernel) rfl) ?_
                refine gh_iload_n (show gh_at (gm_me 247).1 80 = some (80, 1, .iload_n 3, 0, 0, []) from rfl) rfl ?_
                refine gh_iald (show gh_at (gm_me 247).1 81 = some (81, 1, .iaload, 0, 0, []) from rfl) rfl (by decide +kernel) (by decide +kernel) (gh_ix (N := 30) (by decide +kernel) (by omega) (by omega)) (gh_rd0 (gh_pk0 (by decide +kernel) _)) ?_
                rw [tn]
                show gp_ok _ _ _ _ _ _ _ (.inl (σ 273 n) :: _) _
                refine gh_icmp (show gh_at (gm_me 247).1 82 = some (82, 3, .if_icmp .eq (5), 0, 87, []) from rfl) (fun he => ?_) (fun he => ?_)
                · refine gh_iinc (show gh_at (gm_me 247).1 87 = some (87, 3, .iinc 3 (1), 8, 0, []) from rfl) rfl (fun c q => by cases q <;> decide) (y := ((n + 1 : Nat) : Int)) (by rw [gh_add (by unfold gh_r; omega) (by show gh_r 1; unfold gh_r; omega) (by show gh_r ((n : Int) + 1); unfold gh_r; omega)]; show (n : Int) + 1 = _; omega) rfl ?_
                  refine gh_goto (show gh_at (gm_me 247).1 90 = some (90, 3, .goto (-88), 0, 2, []) from rfl) ?_
                  exact ih (n + 1) _ (by omega) (by omega) (fun i hi => by by_cases e : i = n; (subst e; exact Or.inr (Or.inr (ef.trans he))); exact hp i (by omega))
                · refine gh_iconst (x := 0) (show gh_at (gm_me 247).1 85 = some (85, 1, .iconst 0, 0, 0, []) from rfl) (by decide) ?_
                  refine gh_iret (show gh_at (gm_me 247).1 86 = some (86, 1, .ireturn, 0, 0, []) from rfl) ?_
                  refine Or.inr ⟨rfl, Or.inl rfl, h0 (fun q => ?_)⟩
                  rcases q n (by omega) with r | r | r
                  · exact hc2 r
                  · exact hno r
                  · exact he (ef.symm.trans r)
            · have hy : 0 ≤ σ 275 n ∧ σ 275 n ≤ x := by have hc3 : ¬ σ 275 n < 0 := hc3; have hc4 : ¬ x < σ 275 n := hc4; omega
              refine gh_goto (show gh_at (gm_me 247).1 39 = some (39, 3, .goto (48), 0, 87, []) from rfl) ?_
              refine gh_iinc (show gh_at (gm_me 247).1 87 = some (87, 3, .iinc 3 (1), 8, 0, []) from rfl) rfl (fun c q => by cases q <;> decide) (y := ((n + 1 : Nat) : Int)) (by rw [gh_add (by unfold gh_r; omega) (by show gh_r 1; unfold gh_r; omega) (by show gh_r ((n : Int) + 1); unfold gh_r; omega)]; show (n : Int) + 1 = _; omega) rfl ?_
              refine gh_goto (show gh_at (gm_me 247).1 90 = some (90, 3, .goto (-88), 0, 2, []) from rfl) ?_
              exact ih (n + 1) _ (by omega) (by omega) (fun i hi => by by_cases e : i = n; (subst e; exact Or.inr (Or.inl hy)); exact hp i (by omega))
  refine gh_iconst (x := 0) (show gh_at (gm_me 247).1 0 = some (0, 1, .iconst 0, 0, 0, []) from rfl) (by decide) ?_
  refine gh_istore_n (show gh_at (gm_me 247).1 1 = some (1, 1, .istore_n 3, 0, 0, []) from rfl) (fun c q => by cases q <;> decide) rfl ?_
  exact loop (σ 236 61).toNat 0 _ (by omega) (by omega) (fun i hi => absurd hi (by omega))
