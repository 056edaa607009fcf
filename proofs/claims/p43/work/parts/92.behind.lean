/-! behindUnit, e, readRule -/
theorem gr_ini {b r : Nat} {κ : Nat → Int} {σ σ' : gp_S} (h : gr_E b r 0 κ σ) (e33 : σ' 236 33 = σ 236 33) (e34 : σ' 236 34 = σ 236 34) (e35 : σ' 236 35 = 0) (e36 : σ' 236 36 = 1) (e37 : σ' 236 37 = 0) (e1 : ∀ j, σ' 255 j = σ 255 j) (e2 : ∀ j, σ' 241 j = σ 241 j) (e3 : σ' 257 0 = 8) : gr_J b r 1 0 κ 0 0 (gr_w σ' 1) σ' := by
  have hE := gr_Ee h e33 e34 e1 e2
  have ew : gr_w σ' 1 = 0 := by
    have := gr_w0 σ' 1
    have := gr_w1 e3 0
    rw [show (0 : Nat) + 1 = 1 by omega] at this
    omega
  have b8 := hE.2.2.2.2.2.2.2
  refine ⟨hE, by omega, by omega, e3, fun i h1 h2 => by omega, by omega, by omega, ?_, by omega, by omega, by omega⟩
  show (0 : Int) = _
  omega
theorem gr_X {b f r n : Nat} {κ : Nat → Int} {σ σ' : gp_S} (hb : b < 2) (hX : gm_X f σ) (hk : ∀ j, j < 560 * (1 - b) ∨ 560 * (1 - b) + 560 ≤ j → σ 255 j = κ j) (hE : gr_E b r n κ σ') (e1 : σ' 252 (1 - b) = (r : Int)) (e2 : σ' 253 (1 - b) = ((r + n : Nat) : Int)) (e3 : σ' 252 b = σ 252 b) (e4 : σ' 253 b = σ 253 b) (e5 : σ' 236 46 = σ 236 46) (e6 : σ' 236 47 = σ 236 47) (e7 : ∀ j, σ' 264 j = σ 264 j) (e8 : ∀ j, σ' 277 j = σ 277 j) (e9 : ∀ j, σ' 278 j = σ 278 j) : gm_X f σ' := by
  obtain ⟨x1, x2, x3, x4, x5, x6, x7, x8, x9⟩ := hX
  obtain ⟨a1, a2, a3, a4, a5, a6, a7, a8⟩ := hE
  have new : gv_ok σ' (r : Int) ((r + n : Nat) : Int) := by
    refine ⟨by omega, by omega, fun i hi => ?_⟩
    rw [show ((r : Int)).toNat = r by omega]
    exact a3 i (by omega)
  have old : ∀ R S : Int, gv_ok σ R S → (R < S → (b = 0 → S ≤ 560) ∧ (b = 1 → 560 ≤ R)) → gv_ok σ' R S := by
    intro R S h hR
    refine ⟨h.1, h.2.1, fun i hi => ?_⟩
    have h0 := h.1
    have hRS := hR (by omega)
    have ee : ∀ j : Nat, j ≤ i → σ' 255 (R.toNat + j) = σ 255 (R.toNat + j) := fun j hj => by
      have hj2 : R.toNat + j < 560 * (1 - b) ∨ 560 * (1 - b) + 560 ≤ R.toNat + j := by
        rcases (show b = 0 ∨ b = 1 by omega) with q | q
        · have := hRS.1 q; subst q; left; omega
        · have := hRS.2 q; subst q; right; omega
      rw [a4 _ hj2, hk _ hj2]
    rw [gr_he i (fun j hj => ee j (by omega)), ee i (Nat.le_refl _)]
    exact h.2.2 i hi
  rcases (show b = 0 ∨ b = 1 by omega) with q | q
  · subst q
    have e1 : σ' 252 1 = (r : Int) := e1
    have e2 : σ' 253 1 = ((r + n : Nat) : Int) := e2
    refine ⟨?_, ?_, ?_, ?_, ?_, ?_, ?_, fun i hi => ?_, fun i hi h1 => ?_⟩
    · rw [e3, e4]; exact old _ _ x1 (fun h => ⟨fun _ => x3 h, fun h => absurd h (by decide)⟩)
    · rw [e1, e2]; exact new
    · rw [e3, e4]; exact x3
    · rw [e1, e2]; intro _; omega
    · rw [e5]; exact x5
    · rw [e6]; exact x6
    · rw [e5, e6]; exact x7
    · rw [e5, e6] at hi; simp only [e7]; exact x8 i hi
    · rw [e9] at h1; simp only [e8]; exact x9 i hi h1
  · subst q
    have e1 : σ' 252 0 = (r : Int) := e1
    have e2 : σ' 253 0 = ((r + n : Nat) : Int) := e2
    refine ⟨?_, ?_, ?_, ?_, ?_, ?_, ?_, fun i hi => ?_, fun i hi h1 => ?_⟩
    · rw [e1, e2]; exact new
    · rw [e3, e4]; exact old _ _ x2 (fun h => ⟨fun h => absurd h (by decide), fun _ => x4 h⟩)
    · rw [e1, e2]; intro _; omega
    · rw [e3, e4]; exact x4
    · rw [e5]; exact x5
    · rw [e6]; exact x6
    · rw [e5, e6]; exact x7
    · rw [e5, e6] at hi; simp only [e7]; exact x8 i hi
    · rw [e9] at h1; simp only [e8]; exact x9 i hi h1

theorem gz_behindU {b f r p n : Nat} {κ : Nat → Int} {m : Int} {σ : gp_S} (hb : b < 2) (hf : f < 8) (hW : gt_W (gs_wm b f) σ) (hZ : gm_Z m σ) (hJ : gr_J b r p n κ 1 0 (-1) σ) : gp_call gs_sh 5 215 [.inr 1891] σ (gr_Q b f r κ σ) := by
  refine gh_call (al := [.inr 1891, .inr 7]) (by decide +kernel) (by show 1 = _; decide +kernel) (by rw [show (gm_me 215).2.1 = 1 by decide +kernel]; rfl) (by show 2 = _; decide +kernel) ?_
  rw [show gm_rc 215 = 2 by decide +kernel]
  have hZ1 : gm_Z (gn_rem σ) σ := ⟨hZ.1, hZ.2.1, Int.le_refl _⟩
  have hat := gm_atr hW
  have l138 : ∀ (rk : Int) (σ1 : gp_S) (q n : Nat) (y : Int), (1 ≤ rk ∧ rk ≤ 6 ∧ ¬ rk = 3) → ¬ σ 236 8 = 0 → gr_op y → gh_r y → gt_W (gs_wm b f) σ1 → gt_fr gs_pml σ σ1 → gr_J b r q n κ 1 0 (-1) σ1 → gp_ok gs_sh (gp_call gs_sh 4) 2 (gm_me 215).1 (gr_Q b f r κ σ) 138 [.inr 1891, .inl rk] [.inl y, .inl rk, .inr 1891] σ1 := by
    intro rk σ1 q n y hrk htok hy hyr W1 F1 J1
    have q38 := gr_p38 J1 (by omega) (by omega)
    refine gh_callV (r := 1891) (as := [.inl rk, .inl y]) (t := []) (show gh_at (gm_me 215).1 138 = some (138, 3, .invokevirtual 314, 209, 0, [(0, 1742)]) from rfl) (by decide) rfl (by show 3 = _; decide +kernel) (Nat.le_trans (gh_wd _) (Nat.le_of_ble_eq_true rfl)) rfl (by decide +kernel) (by decide +kernel) (Ψ := fun v σ9 => σ9 = (gp_up (gp_up (gp_up σ1 257 q rk) 258 q y) 236 36 ((q : Int) + 1))) (gz_push (d := 3) (by omega) J1.2.2.1 rfl) gh_mono (fun v σ9 hv => ?_)
    rw [show gm_rc 209 = 0 by decide +kernel]
    subst hv
    show gp_ok _ _ _ _ _ _ _ [] (gp_up (gp_up (gp_up σ1 257 q rk) 258 q y) 236 36 ((q : Int) + 1))
    have W5 : gt_W (gs_wm b f) (gp_up (gp_up (gp_up σ1 257 q rk) 258 q y) 236 36 ((q : Int) + 1)) := gh_Wu (c := 236) (j := 36) (x := (q : Int) + 1) (gh_Wu (c := 258) (j := q) (x := y) (gh_Wu W1 (c := 257) (j := q) (x := rk) (fun _ => gh_any (by unfold gh_r; omega))) (fun _ => gh_any hyr)) (fun _ => gh_any (by unfold gh_r; omega))
    have F5 : gt_fr gs_rml σ (gp_up (gp_up (gp_up σ1 257 q rk) 258 q y) 236 36 ((q : Int) + 1)) := gh_fu (gh_fu (gh_fu (gh_ft gh_f0 F1 (by decide +kernel)) (gb_mo_mem _ (by decide))) (gb_mo_mem _ (by decide))) (by decide +kernel)
    have J5 : gr_J b r (q + 1) n κ 0 0 (gr_w (gp_up (gp_up (gp_up σ1 257 q rk) 258 q y) 236 36 ((q : Int) + 1)) (q + 1)) (gp_up (gp_up (gp_up σ1 257 q rk) 258 q y) 236 36 ((q : Int) + 1)) := gr_lop (x := rk) (y := y) J1 hrk hy (fun j h1 h2 h3 => by rcases (show j = 33 ∨ j = 34 ∨ j = 35 ∨ j = 37 by omega) with e | e | e | e <;> subst e <;> simp [gp_up]) (by simp [gp_up]) (fun j => by simp [gp_up]) (fun j => by simp [gp_up]) (fun j hj => by simp [gp_up, hj]) (by simp [gp_up]) (fun j hj => by simp [gp_up, hj]) (by simp [gp_up])
    have E5 : gn_rem (gp_up (gp_up (gp_up σ1 257 q rk) 258 q y) 236 36 ((q : Int) + 1)) = gn_rem σ := (gn_reme (by simp [gp_up]) (by simp [gp_up]) (by simp [gp_up])).trans (gn_reme (F1 236 3 rfl) (F1 236 7 rfl) (F1 236 8 rfl))
    have Z5 : gm_Z (gn_rem σ) (gp_up (gp_up (gp_up σ1 257 q rk) 258 q y) 236 36 ((q : Int) + 1)) := gm_Zn (by simp [gp_up]) (by simp [gp_up]) (by simp [gp_up]) (gm_Zn (F1 236 3 rfl) (F1 236 7 rfl) (F1 236 8 rfl) hZ1)
    have t5 : (gp_up (gp_up (gp_up σ1 257 q rk) 258 q y) 236 36 ((q : Int) + 1)) 236 8 = σ 236 8 := (show (gp_up (gp_up (gp_up σ1 257 q rk) 258 q y) 236 36 ((q : Int) + 1)) 236 8 = σ1 236 8 by simp [gp_up]).trans (F1 236 8 rfl)
    generalize (gp_up (gp_up (gp_up σ1 257 q rk) 258 q y) 236 36 ((q : Int) + 1)) = σ5 at W5 F5 J5 E5 Z5 t5 ⊢
    refine gh_aload_n (show gh_at (gm_me 215).1 141 = some (141, 1, .aload_n 0, 0, 0, []) from rfl) rfl rfl ?_
    refine gh_callV (r := 1891) (as := []) (t := []) (show gh_at (gm_me 215).1 142 = some (142, 3, .invokevirtual 237, 179, 0, [(0, 1641)]) from rfl) (by decide) rfl (by show 1 = _; decide +kernel) (Nat.le_trans (gh_wd _) (Nat.le_of_ble_eq_true rfl)) rfl (by decide +kernel) (by decide +kernel) (gp_call_le (by show 3 ≤ 4; decide) (gz_goOn hb hf W5 Z5.1)) gh_mono (fun v σ2 hv => ?_)
    rw [show gm_rc 179 = 0 by decide +kernel]
    obtain ⟨W2, F2, h2, h3⟩ := hv
    show gp_ok _ _ _ _ _ _ _ [] σ2
    have hs := gn_step Z5 F2 h2 h3
    have Z2 := hs.1
    have R2 := hs.2 (by rw [t5]; exact htok)
    rw [E5] at Z2 R2
    have ew : gr_w σ2 (q + 1) = gr_w σ5 (q + 1) := gr_we _ (fun j _ => F2 257 j rfl)
    have J2 := gr_Jf (gh_ft gh_f0 F2 (by decide +kernel)) J5
    rw [← ew] at J2
    refine gh_iconst (x := 1) (show gh_at (gm_me 215).1 145 = some (145, 1, .iconst 1, 8, 0, []) from rfl) (by decide) ?_
    refine gh_iret (show gh_at (gm_me 215).1 146 = some (146, 1, .ireturn, 0, 0, []) from rfl) ?_
    exact Or.inr ⟨rfl, Or.inr rfl, W2, gh_ft F5 F2 (by decide +kernel), Z2, 1, rfl, Or.inr (Or.inl ⟨R2, Or.inl ⟨rfl, q + 1, n, J2⟩⟩)⟩
  have l104 : ∀ (rk : Int) (σ1 : gp_S) (q n : Nat), (rk = 0 ∨ ((rk = 1 ∨ rk = 2) ∧ ¬ σ 236 8 = 0) ∨ ((rk = 4 ∨ rk = 5 ∨ rk = 6) ∧ ¬ σ 236 8 = 0 ∧ gr_op (gn_sg σ (σ 236 6)))) → gt_W (gs_wm b f) σ1 → gt_fr gs_pml σ σ1 → gr_J b r q n κ 1 0 (-1) σ1 → (6 < σ1 257 (q - 1) ∨ σ1 257 (q - 1) < rk) → gp_ok gs_sh (gp_call gs_sh 4) 2 (gm_me 215).1 (gr_Q b f r κ σ) 104 [.inr 1891, .inl rk] [] σ1 := by
    intro rk σ1 q n hrk W1 F1 J1 htop
    have q38 := gr_p38 J1 (by omega) (by omega)
    have Q1 : σ1 236 36 = (q : Int) := J1.2.2.1
    have q1 := J1.2.1
    refine gh_iload_n (show gh_at (gm_me 215).1 104 = some (104, 1, .iload_n 1, 0, 0, []) from rfl) rfl ?_
    refine gh_if (show gh_at (gm_me 215).1 105 = some (105, 3, .ifCond .le (42), 0, 147, []) from rfl) (fun hc => ?_) (fun hc => ?_)
    · have hc : rk ≤ 0 := hc
      have hrk0 : rk = 0 := by omega
      obtain ⟨P, rfl⟩ : ∃ P : Nat, q = P + 1 := ⟨q - 1, by omega⟩
      rw [show P + 1 - 1 = P by omega] at htop
      refine gh_aload_n (show gh_at (gm_me 215).1 147 = some (147, 1, .aload_n 0, 0, 0, []) from rfl) rfl rfl ?_
      refine gh_dup (show gh_at (gm_me 215).1 148 = some (148, 1, .dup, 0, 0, []) from rfl) rfl ?_
      refine gh_get (show gh_at (gm_me 215).1 149 = some (149, 3, .getfield 308, 1, 36, [(0, 1477)]) from rfl) rfl (by decide +kernel) (by decide +kernel) (gh_rd0 (by decide +kernel)) ?_
      rw [show σ1 (1891 / 8) 36 = ((P + 1 : Nat) : Int) from Q1]
      refine gh_iconst (x := 1) (show gh_at (gm_me 215).1 152 = some (152, 1, .iconst 1, 8, 0, []) from rfl) (by decide) ?_
      refine gh_isub (z := (P : Int)) (show gh_at (gm_me 215).1 153 = some (153, 1, .isub, 0, 0, []) from rfl) (by rw [gh_sub (by unfold gh_r; omega) (by unfold gh_r; omega) (by unfold gh_r; omega)]; omega) ?_
      refine gh_put (show gh_at (gm_me 215).1 154 = some (154, 3, .putfield 308, 1, 36, [(0, 1477)]) from rfl) rfl (by decide +kernel) (by decide +kernel) (by decide +kernel) (Or.inl rfl) ?_
      show gp_ok _ _ _ _ _ _ _ [] (gp_up σ1 236 36 (P : Int))
      have e36 : (gp_up σ1 236 36 (P : Int)) 236 36 = (P : Int) := gh_up_eq _ _ _ _
      refine gh_aload_n (show gh_at (gm_me 215).1 157 = some (157, 1, .aload_n 0, 0, 0, []) from rfl) rfl rfl ?_
      refine gh_get (show gh_at (gm_me 215).1 158 = some (158, 3, .getfield 76, 1, 29, [(0, 1470)]) from rfl) rfl (by decide +kernel) (by decide +kernel) (gh_rdr (r := 2059) (by decide +kernel) rfl) ?_
      refine gh_aload_n (show gh_at (gm_me 215).1 161 = some (161, 1, .aload_n 0, 0, 0, []) from rfl) rfl rfl ?_
      refine gh_get (show gh_at (gm_me 215).1 162 = some (162, 3, .getfield 308, 1, 36, [(0, 1477)]) from rfl) rfl (by decide +kernel) (by decide +kernel) (gh_rd0 (by decide +kernel)) ?_
      rw [show (gp_up σ1 236 36 (P : Int)) (1891 / 8) 36 = (P : Int) from e36]
      refine gh_iald (show gh_at (gm_me 215).1 165 = some (165, 1, .iaload, 0, 0, []) from rfl) rfl (by decide +kernel) (by decide +kernel) (gh_ix (N := 90) (by decide +kernel) (by omega) (by omega)) (gh_rd0 (gh_pk0 (by decide +kernel) _)) ?_
      rw [show ((P : Int)).toNat = P by omega, show (gp_up σ1 236 36 (P : Int)) (2059 / 8) P = σ1 257 P from by simp [gp_up]]
      refine gh_bipush (x := 7) (show gh_at (gm_me 215).1 166 = some (166, 2, .bipush (7), 56, 0, []) from rfl) (by decide) ?_
      refine gh_icmp (show gh_at (gm_me 215).1 168 = some (168, 3, .if_icmp .ne (23), 0, 191, []) from rfl) (fun hd => ?_) (fun hd => ?_)
      · have hd : ¬ σ1 257 P = 7 := hd
        have hP0 : P = 0 := by
          rcases Nat.eq_zero_or_pos P with q | q
          · exact q
          · have := J1.2.2.2.2.1 P q (by omega); omega
        subst hP0
        have W5 : gt_W (gs_wm b f) (gp_up σ1 236 36 ((0 : Nat) : Int)) := gh_Wu W1 (c := 236) (j := 36) (x := ((0 : Nat) : Int)) (fun _ => gh_any (by unfold gh_r; omega))
        refine gh_iconst (x := 0) (show gh_at (gm_me 215).1 191 = some (191, 1, .iconst 0, 0, 0, []) from rfl) (by decide) ?_
        refine gh_iret (show gh_at (gm_me 215).1 192 = some (192, 1, .ireturn, 0, 0, []) from rfl) ?_
        exact Or.inr ⟨rfl, Or.inl rfl, W5, gh_fu (gh_ft gh_f0 F1 (by decide +kernel)) (by decide +kernel), gm_Zn (by simp [gp_up]) (by simp [gp_up]) (by simp [gp_up]) (gm_Zn (F1 236 3 rfl) (F1 236 7 rfl) (F1 236 8 rfl) hZ1), 0, rfl, Or.inr (Or.inr ⟨gh_up_eq _ _ _ _, n, gr_Ee J1.1 (by simp [gp_up]) (by simp [gp_up]) (fun j => by simp [gp_up]) (fun j => by simp [gp_up])⟩)⟩
      · have hd : σ1 257 P = 7 := Decidable.not_not.mp hd
        have hP1 : 1 ≤ P := by
          rcases Nat.eq_zero_or_pos P with q | q
          · subst q; have := J1.2.2.2.1; omega
          · exact q
        have e35 : (gp_up σ1 236 36 (P : Int)) 236 35 = σ1 236 35 := by simp [gp_up]
        refine gh_aload_n (show gh_at (gm_me 215).1 171 = some (171, 1, .aload_n 0, 0, 0, []) from rfl) rfl rfl ?_
        refine gh_dup (show gh_at (gm_me 215).1 172 = some (172, 1, .dup, 0, 0, []) from rfl) rfl ?_
        refine gh_get (show gh_at (gm_me 215).1 173 = some (173, 3, .getfield 311, 1, 35, [(0, 1476)]) from rfl) rfl (by decide +kernel) (by decide +kernel) (gh_rd0 (by decide +kernel)) ?_
        rw [show (gp_up σ1 236 36 (P : Int)) (1891 / 8) 35 = σ1 236 35 from e35]
        refine gh_iconst (x := 1) (show gh_at (gm_me 215).1 176 = some (176, 1, .iconst 1, 8, 0, []) from rfl) (by decide) ?_
        refine gh_isub (z := σ1 236 35 - 1) (show gh_at (gm_me 215).1 177 = some (177, 1, .isub, 0, 0, []) from rfl) (gh_sub (by unfold gh_r; omega) (by unfold gh_r; omega) (by unfold gh_r; omega)) ?_
        refine gh_put (show gh_at (gm_me 215).1 178 = some (178, 3, .putfield 311, 1, 35, [(0, 1476)]) from rfl) rfl (by decide +kernel) (by decide +kernel) (by decide +kernel) (Or.inl rfl) ?_
        show gp_ok _ _ _ _ _ _ _ [] (gp_up (gp_up σ1 236 36 (P : Int)) 236 35 (σ1 236 35 - 1))
        have W5 : gt_W (gs_wm b f) (gp_up (gp_up σ1 236 36 (P : Int)) 236 35 (σ1 236 35 - 1)) := gh_Wu (c := 236) (j := 35) (x := σ1 236 35 - 1) (gh_Wu W1 (c := 236) (j := 36) (x := (P : Int)) (fun _ => gh_any (by unfold gh_r; omega))) (fun _ => gh_any (by unfold gh_r; omega))
        have F5 : gt_fr gs_rml σ (gp_up (gp_up σ1 236 36 (P : Int)) 236 35 (σ1 236 35 - 1)) := gh_fu (gh_fu (gh_ft gh_f0 F1 (by decide +kernel)) (by decide +kernel)) (by decide +kernel)
        have J5 : gr_J b r P n κ 1 0 (-1) (gp_up (gp_up σ1 236 36 (P : Int)) 236 35 (σ1 236 35 - 1)) := gr_cls J1 hP1 hd (by simp [gp_up]) (by simp [gp_up]) (by simp [gp_up]) (by simp [gp_up]) (by simp [gp_up]) (fun j => by simp [gp_up]) (fun j => by simp [gp_up]) (fun j => by simp [gp_up]) (fun j => by simp [gp_up])
        have E5 : gn_rem (gp_up (gp_up σ1 236 36 (P : Int)) 236 35 (σ1 236 35 - 1)) = gn_rem σ := (gn_reme (by simp [gp_up]) (by simp [gp_up]) (by simp [gp_up])).trans (gn_reme (F1 236 3 rfl) (F1 236 7 rfl) (F1 236 8 rfl))
        have Z5 : gm_Z (gn_rem σ) (gp_up (gp_up σ1 236 36 (P : Int)) 236 35 (σ1 236 35 - 1)) := gm_Zn (by simp [gp_up]) (by simp [gp_up]) (by simp [gp_up]) (gm_Zn (F1 236 3 rfl) (F1 236 7 rfl) (F1 236 8 rfl) hZ1)
        generalize (gp_up (gp_up σ1 236 36 (P : Int)) 236 35 (σ1 236 35 - 1)) = σ5 at W5 F5 J5 E5 Z5 ⊢
        refine gh_aload_n (show gh_at (gm_me 215).1 181 = some (181, 1, .aload_n 0, 0, 0, []) from rfl) rfl rfl ?_
        refine gh_aload_n (show gh_at (gm_me 215).1 182 = some (182, 1, .aload_n 0, 0, 0, []) from rfl) rfl rfl ?_
        refine gh_bipush (x := 41) (show gh_at (gm_me 215).1 183 = some (183, 2, .bipush (41), 328, 0, []) from rfl) (by decide) ?_
        refine gh_callV (r := 1891) (as := [.inl 41]) (t := [.inr 1891]) (show gh_at (gm_me 215).1 185 = some (185, 3, .invokevirtual 289, 194, 0, [(0, 1750)]) from rfl) (by decide) rfl (by show 2 = _; decide +kernel) (Nat.le_trans (gh_wd _) (Nat.le_of_ble_eq_true rfl)) rfl (by decide +kernel) (by decide +kernel) (Ψ := fun v σ9 => σ9 = σ5 ∧ ((v = .inl 1 ∧ σ5 236 8 = 5 ∧ gn_sg σ5 (σ5 236 6) = 41) ∨ v = .inl 0)) (gz_sgh (d := 2) W5 (fun q w => ⟨rfl, Or.inl ⟨rfl, q, w⟩⟩) ⟨rfl, Or.inr rfl⟩) gh_mono (fun v σ9 hv => ?_)
        obtain ⟨e9, hv⟩ := hv
        rw [e9, show gm_rc 194 = 2 by decide +kernel]
        have hz : ∃ z : Int, v = .inl z ∧ (z = 0 ∨ (z = 1 ∧ ¬ σ5 236 8 = 0)) := by
          rcases hv with ⟨rfl, q, -⟩ | rfl
          · exact ⟨1, rfl, Or.inr ⟨rfl, by omega⟩⟩
          · exact ⟨0, rfl, Or.inl rfl⟩
        obtain ⟨z, rfl, hz⟩ := hz
        show gp_ok _ _ _ _ _ _ _ [.inl z, .inr 1891] _
        refine gh_callV (r := 1891) (as := [.inl z]) (t := []) (show gh_at (gm_me 215).1 188 = some (188, 3, .invokevirtual 246, 197, 0, [(0, 1714)]) from rfl) (by decide) rfl (by show 2 = _; decide +kernel) (Nat.le_trans (gh_wd _) (Nat.le_of_ble_eq_true rfl)) rfl (by decide +kernel) (by decide +kernel) (gz_must hb hf W5 Z5 hz) gh_mono (fun v σ2 hv => ?_)
        rw [show gm_rc 197 = 0 by decide +kernel]
        obtain ⟨W2, F2, Z2, R2⟩ := hv
        rw [E5] at Z2 R2
        show gp_ok _ _ _ _ _ _ _ [] σ2
        have J2 := gr_Jf F2 J5
        refine gh_iconst (x := 0) (show gh_at (gm_me 215).1 191 = some (191, 1, .iconst 0, 0, 0, []) from rfl) (by decide) ?_
        refine gh_iret (show gh_at (gm_me 215).1 192 = some (192, 1, .ireturn, 0, 0, []) from rfl) ?_
        refine Or.inr ⟨rfl, Or.inl rfl, W2, gh_ft F5 F2 (by decide +kernel), Z2, 0, rfl, ?_⟩
        by_cases hg : σ2 236 4 = 0
        · exact Or.inr (Or.inl ⟨R2 hg, Or.inr ⟨rfl, P, n, J2⟩⟩)
        · exact Or.inl ⟨hg, n, J2.1⟩
    · have hc : ¬ rk ≤ 0 := hc
      have htok : ¬ σ 236 8 = 0 := by rcases hrk with q | q | q; (omega); (exact q.2); exact q.2.1
      have hr6 : 1 ≤ rk ∧ rk ≤ 6 ∧ ¬ rk = 3 := by omega
      refine gh_aload_n (show gh_at (gm_me 215).1 108 = some (108, 1, .aload_n 0, 0, 0, []) from rfl) rfl rfl ?_
      refine gh_iload_n (show gh_at (gm_me 215).1 109 = some (109, 1, .iload_n 1, 0, 0, []) from rfl) rfl ?_
      refine gh_iload_n (show gh_at (gm_me 215).1 110 = some (110, 1, .iload_n 1, 0, 0, []) from rfl) rfl ?_
      refine gh_iconst (x := 2) (show gh_at (gm_me 215).1 111 = some (111, 1, .iconst 2, 16, 0, []) from rfl) (by decide) ?_
      refine gh_icmp (show gh_at (gm_me 215).1 112 = some (112, 3, .if_icmp .ne (8), 0, 120, []) from rfl) (fun hd => ?_) (fun hd => ?_)
      · have hd : ¬ rk = 2 := hd
        refine gh_iload_n (show gh_at (gm_me 215).1 120 = some (120, 1, .iload_n 1, 0, 0, []) from rfl) rfl ?_
        refine gh_iconst (x := 1) (show gh_at (gm_me 215).1 121 = some (121, 1, .iconst 1, 8, 0, []) from rfl) (by decide) ?_
        refine gh_icmp (show gh_at (gm_me 215).1 122 = some (122, 3, .if_icmp .ne (8), 0, 130, []) from rfl) (fun he => ?_) (fun he => ?_)
        · have he : ¬ rk = 1 := he
          have hgs : gr_op (gn_sg σ (σ 236 6)) := by rcases hrk with q | q | q; (omega); (omega); exact q.2.2
          refine gh_aload_n (show gh_at (gm_me 215).1 130 = some (130, 1, .aload_n 0, 0, 0, []) from rfl) rfl rfl ?_
          refine gh_aload_n (show gh_at (gm_me 215).1 131 = some (131, 1, .aload_n 0, 0, 0, []) from rfl) rfl rfl ?_
          refine gh_get (show gh_at (gm_me 215).1 132 = some (132, 3, .getfield 198, 1, 6, [(0, 1447)]) from rfl) rfl (by decide +kernel) (by decide +kernel) (gh_rd0 (by decide +kernel)) ?_
          rw [show σ1 (1891 / 8) 6 = σ 236 6 from (F1 236 6 rfl)]
          refine gh_callV (r := 1891) (as := [.inl (σ 236 6)]) (t := [.inl rk, .inr 1891]) (show gh_at (gm_me 215).1 135 = some (135, 3, .invokevirtual 201, 180, 0, [(0, 1645)]) from rfl) (by decide) rfl (by show 2 = _; decide +kernel) (Nat.le_trans (gh_wd _) (Nat.le_of_ble_eq_true rfl)) rfl (by decide +kernel) (by decide +kernel) (Ψ := fun v σ9 => σ9 = σ1 ∧ v = .inl (gn_sg σ (σ 236 6))) (gz_sign (d := 3) W1 hat.1 ⟨rfl, by unfold gn_sg; rw [F1 236 3 rfl, F1 238 _ rfl]⟩) gh_mono (fun v σ9 hv => ?_)
          rw [show gm_rc 180 = 1 by decide +kernel]
          obtain ⟨e9, rfl⟩ := hv
          rw [e9]
          exact l138 rk σ1 q n _ hr6 htok hgs (gn_sgr _ _) W1 F1 J1
        · refine gh_bipush (x := 124) (show gh_at (gm_me 215).1 125 = some (125, 2, .bipush (124), 992, 0, []) from rfl) (by decide) ?_
          refine gh_goto (show gh_at (gm_me 215).1 127 = some (127, 3, .goto (11), 0, 138, []) from rfl) ?_
          exact l138 rk σ1 q n 124 hr6 htok (by unfold gr_op; omega) (by unfold gh_r; omega) W1 F1 J1
      · refine gh_bipush (x := 38) (show gh_at (gm_me 215).1 115 = some (115, 2, .bipush (38), 304, 0, []) from rfl) (by decide) ?_
        refine gh_goto (show gh_at (gm_me 215).1 117 = some (117, 3, .goto (21), 0, 138, []) from rfl) ?_
        exact l138 rk σ1 q n 38 hr6 htok (by unfold gr_op; omega) (by unfold gh_r; omega) W1 F1 J1
  have loop : ∀ (rk : Int) (q n : Nat) (σ1 : gp_S), (rk = 0 ∨ ((rk = 1 ∨ rk = 2) ∧ ¬ σ 236 8 = 0) ∨ ((rk = 4 ∨ rk = 5 ∨ rk = 6) ∧ ¬ σ 236 8 = 0 ∧ gr_op (gn_sg σ (σ 236 6)))) → gt_W (gs_wm b f) σ1 → gt_fr gs_pml σ σ1 → gr_J b r (q + 1) n κ 1 0 (-1) σ1 → gp_ok gs_sh (gp_call gs_sh 4) 2 (gm_me 215).1 (gr_Q b f r κ σ) 23 [.inr 1891, .inl rk] [] σ1 := by
    intro rk q
    induction q with
    | zero =>
      intro n σ1 hrk W1 F1 J1
      have q38 := gr_p38 J1 (by omega) (by omega)
      have Q1 : σ1 236 36 = ((0 + 1 : Nat) : Int) := J1.2.2.1
      refine gh_aload_n (show gh_at (gm_me 215).1 23 = some (23, 1, .aload_n 0, 0, 0, []) from rfl) rfl rfl ?_
      refine gh_get (show gh_at (gm_me 215).1 24 = some (24, 3, .getfield 76, 1, 29, [(0, 1470)]) from rfl) rfl (by decide +kernel) (by decide +kernel) (gh_rdr (r := 2059) (by decide +kernel) rfl) ?_
      refine gh_aload_n (show gh_at (gm_me 215).1 27 = some (27, 1, .aload_n 0, 0, 0, []) from rfl) rfl rfl ?_
      refine gh_get (show gh_at (gm_me 215).1 28 = some (28, 3, .getfield 308, 1, 36, [(0, 1477)]) from rfl) rfl (by decide +kernel) (by decide +kernel) (gh_rd0 (by decide +kernel)) ?_
      rw [show σ1 (1891 / 8) 36 = ((0 + 1 : Nat) : Int) from Q1]
      refine gh_iconst (x := 1) (show gh_at (gm_me 215).1 31 = some (31, 1, .iconst 1, 8, 0, []) from rfl) (by decide) ?_
      refine gh_isub (z := ((0 : Nat) : Int)) (show gh_at (gm_me 215).1 32 = some (32, 1, .isub, 0, 0, []) from rfl) (by rw [gh_sub (by unfold gh_r; omega) (by unfold gh_r; omega) (by unfold gh_r; omega)]; omega) ?_
      refine gh_iald (show gh_at (gm_me 215).1 33 = some (33, 1, .iaload, 0, 0, []) from rfl) rfl (by decide +kernel) (by decide +kernel) (gh_ix (N := 90) (by decide +kernel) (by omega) (by omega)) (gh_rd0 (gh_pk0 (by decide +kernel) _)) ?_
      rw [show (((0 : Nat) : Int)).toNat = 0 by omega]
      show gp_ok _ _ _ _ _ _ _ (.inl (σ1 257 (0)) :: _) _
      refine gh_bipush (x := 6) (show gh_at (gm_me 215).1 34 = some (34, 2, .bipush (6), 48, 0, []) from rfl) (by decide) ?_
      refine gh_icmp (show gh_at (gm_me 215).1 36 = some (36, 3, .if_icmp .gt (68), 0, 104, []) from rfl) (fun hc => ?_) (fun hc => ?_)
      · have hc : 6 < σ1 257 (0) := hc
        exact l104 rk σ1 (0 + 1) n hrk W1 F1 J1 (Or.inl hc)
      · have hc : ¬ 6 < σ1 257 (0) := hc
        refine gh_aload_n (show gh_at (gm_me 215).1 39 = some (39, 1, .aload_n 0, 0, 0, []) from rfl) rfl rfl ?_
        refine gh_get (show gh_at (gm_me 215).1 40 = some (40, 3, .getfield 76, 1, 29, [(0, 1470)]) from rfl) rfl (by decide +kernel) (by decide +kernel) (gh_rdr (r := 2059) (by decide +kernel) rfl) ?_
        refine gh_aload_n (show gh_at (gm_me 215).1 43 = some (43, 1, .aload_n 0, 0, 0, []) from rfl) rfl rfl ?_
        refine gh_get (show gh_at (gm_me 215).1 44 = some (44, 3, .getfield 308, 1, 36, [(0, 1477)]) from rfl) rfl (by decide +kernel) (by decide +kernel) (gh_rd0 (by decide +kernel)) ?_
        rw [show σ1 (1891 / 8) 36 = ((0 + 1 : Nat) : Int) from Q1]
        refine gh_iconst (x := 1) (show gh_at (gm_me 215).1 47 = some (47, 1, .iconst 1, 8, 0, []) from rfl) (by decide) ?_
        refine gh_isub (z := ((0 : Nat) : Int)) (show gh_at (gm_me 215).1 48 = some (48, 1, .isub, 0, 0, []) from rfl) (by rw [gh_sub (by unfold gh_r; omega) (by unfold gh_r; omega) (by unfold gh_r; omega)]; omega) ?_
        refine gh_iald (show gh_at (gm_me 215).1 49 = some (49, 1, .iaload, 0, 0, []) from rfl) rfl (by decide +kernel) (by decide +kernel) (gh_ix (N := 90) (by decide +kernel) (by omega) (by omega)) (gh_rd0 (gh_pk0 (by decide +kernel) _)) ?_
        rw [show (((0 : Nat) : Int)).toNat = 0 by omega]
        show gp_ok _ _ _ _ _ _ _ (.inl (σ1 257 (0)) :: _) _
        refine gh_iload_n (show gh_at (gm_me 215).1 50 = some (50, 1, .iload_n 1, 0, 0, []) from rfl) rfl ?_
        refine gh_icmp (show gh_at (gm_me 215).1 51 = some (51, 3, .if_icmp .lt (53), 0, 104, []) from rfl) (fun hd => ?_) (fun hd => ?_)
        · have hd : σ1 257 (0) < rk := hd
          exact l104 rk σ1 (0 + 1) n hrk W1 F1 J1 (Or.inr hd)
        · have := J1.2.2.2.1
          omega
    | succ q ih =>
      intro n σ1 hrk W1 F1 J1
      have q38 := gr_p38 J1 (by omega) (by omega)
      have Q1 : σ1 236 36 = ((q + 1 + 1 : Nat) : Int) := J1.2.2.1
      refine gh_aload_n (show gh_at (gm_me 215).1 23 = some (23, 1, .aload_n 0, 0, 0, []) from rfl) rfl rfl ?_
      refine gh_get (show gh_at (gm_me 215).1 24 = some (24, 3, .getfield 76, 1, 29, [(0, 1470)]) from rfl) rfl (by decide +kernel) (by decide +kernel) (gh_rdr (r := 2059) (by decide +kernel) rfl) ?_
      refine gh_aload_n (show gh_at (gm_me 215).1 27 = some (27, 1, .aload_n 0, 0, 0, []) from rfl) rfl rfl ?_
      refine gh_get (show gh_at (gm_me 215).1 28 = some (28, 3, .getfield 308, 1, 36, [(0, 1477)]) from rfl) rfl (by decide +kernel) (by decide +kernel) (gh_rd0 (by decide +kernel)) ?_
      rw [show σ1 (1891 / 8) 36 = ((q + 1 + 1 : Nat) : Int) from Q1]
      refine gh_iconst (x := 1) (show gh_at (gm_me 215).1 31 = some (31, 1, .iconst 1, 8, 0, []) from rfl) (by decide) ?_
      refine gh_isub (z := ((q + 1 : Nat) : Int)) (show gh_at (gm_me 215).1 32 = some (32, 1, .isub, 0, 0, []) from rfl) (by rw [gh_sub (by unfold gh_r; omega) (by unfold gh_r; omega) (by unfold gh_r; omega)]; omega) ?_
      refine gh_iald (show gh_at (gm_me 215).1 33 = some (33, 1, .iaload, 0, 0, []) from rfl) rfl (by decide +kernel) (by decide +kernel) (gh_ix (N := 90) (by decide +kernel) (by omega) (by omega)) (gh_rd0 (gh_pk0 (by decide +kernel) _)) ?_
      rw [show (((q + 1 : Nat) : Int)).toNat = q + 1 by omega]
      show gp_ok _ _ _ _ _ _ _ (.inl (σ1 257 (q + 1)) :: _) _
      refine gh_bipush (x := 6) (show gh_at (gm_me 215).1 34 = some (34, 2, .bipush (6), 48, 0, []) from rfl) (by decide) ?_
      refine gh_icmp (show gh_at (gm_me 215).1 36 = some (36, 3, .if_icmp .gt (68), 0, 104, []) from rfl) (fun hc => ?_) (fun hc => ?_)
      · have hc : 6 < σ1 257 (q + 1) := hc
        exact l104 rk σ1 (q + 1 + 1) n hrk W1 F1 J1 (Or.inl hc)
      · have hc : ¬ 6 < σ1 257 (q + 1) := hc
        refine gh_aload_n (show gh_at (gm_me 215).1 39 = some (39, 1, .aload_n 0, 0, 0, []) from rfl) rfl rfl ?_
        refine gh_get (show gh_at (gm_me 215).1 40 = some (40, 3, .getfield 76, 1, 29, [(0, 1470)]) from rfl) rfl (by decide +kernel) (by decide +kernel) (gh_rdr (r := 2059) (by decide +kernel) rfl) ?_
        refine gh_aload_n (show gh_at (gm_me 215).1 43 = some (43, 1, .aload_n 0, 0, 0, []) from rfl) rfl rfl ?_
        refine gh_get (show gh_at (gm_me 215).1 44 = some (44, 3, .getfield 308, 1, 36, [(0, 1477)]) from rfl) rfl (by decide +kernel) (by decide +kernel) (gh_rd0 (by decide +kernel)) ?_
        rw [show σ1 (1891 / 8) 36 = ((q + 1 + 1 : Nat) : Int) from Q1]
        refine gh_iconst (x := 1) (show gh_at (gm_me 215).1 47 = some (47, 1, .iconst 1, 8, 0, []) from rfl) (by decide) ?_
        refine gh_isub (z := ((q + 1 : Nat) : Int)) (show gh_at (gm_me 215).1 48 = some (48, 1, .isub, 0, 0, []) from rfl) (by rw [gh_sub (by unfold gh_r; omega) (by unfold gh_r; omega) (by unfold gh_r; omega)]; omega) ?_
        refine gh_iald (show gh_at (gm_me 215).1 49 = some (49, 1, .iaload, 0, 0, []) from rfl) rfl (by decide +kernel) (by decide +kernel) (gh_ix (N := 90) (by decide +kernel) (by omega) (by omega)) (gh_rd0 (gh_pk0 (by decide +kernel) _)) ?_
        rw [show (((q + 1 : Nat) : Int)).toNat = q + 1 by omega]
        show gp_ok _ _ _ _ _ _ _ (.inl (σ1 257 (q + 1)) :: _) _
        refine gh_iload_n (show gh_at (gm_me 215).1 50 = some (50, 1, .iload_n 1, 0, 0, []) from rfl) rfl ?_
        refine gh_icmp (show gh_at (gm_me 215).1 51 = some (51, 3, .if_icmp .lt (53), 0, 104, []) from rfl) (fun hd => ?_) (fun hd => ?_)
        · have hd : σ1 257 (q + 1) < rk := hd
          exact l104 rk σ1 (q + 1 + 1) n hrk W1 F1 J1 (Or.inr hd)
        · refine gh_aload_n (show gh_at (gm_me 215).1 54 = some (54, 1, .aload_n 0, 0, 0, []) from rfl) rfl rfl ?_
          refine gh_dup (show gh_at (gm_me 215).1 55 = some (55, 1, .dup, 0, 0, []) from rfl) rfl ?_
          refine gh_get (show gh_at (gm_me 215).1 56 = some (56, 3, .getfield 308, 1, 36, [(0, 1477)]) from rfl) rfl (by decide +kernel) (by decide +kernel) (gh_rd0 (by decide +kernel)) ?_
          rw [show σ1 (1891 / 8) 36 = ((q + 1 + 1 : Nat) : Int) from Q1]
          refine gh_iconst (x := 1) (show gh_at (gm_me 215).1 59 = some (59, 1, .iconst 1, 8, 0, []) from rfl) (by decide) ?_
          refine gh_isub (z := ((q + 1 : Nat) : Int)) (show gh_at (gm_me 215).1 60 = some (60, 1, .isub, 0, 0, []) from rfl) (by rw [gh_sub (by unfold gh_r; omega) (by unfold gh_r; omega) (by unfold gh_r; omega)]; omega) ?_
          refine gh_put (show gh_at (gm_me 215).1 61 = some (61, 3, .putfield 308, 1, 36, [(0, 1477)]) from rfl) rfl (by decide +kernel) (by decide +kernel) (by decide +kernel) (Or.inl rfl) ?_
          show gp_ok _ _ _ _ _ _ _ [] (gp_up σ1 236 36 ((q + 1 : Nat) : Int))
          have e36 : (gp_up σ1 236 36 ((q + 1 : Nat) : Int)) 236 36 = ((q + 1 : Nat) : Int) := gh_up_eq _ _ _ _
          refine gh_aload_n (show gh_at (gm_me 215).1 64 = some (64, 1, .aload_n 0, 0, 0, []) from rfl) rfl rfl ?_
          refine gh_get (show gh_at (gm_me 215).1 65 = some (65, 3, .getfield 76, 1, 29, [(0, 1470)]) from rfl) rfl (by decide +kernel) (by decide +kernel) (gh_rdr (r := 2059) (by decide +kernel) rfl) ?_
          refine gh_aload_n (show gh_at (gm_me 215).1 68 = some (68, 1, .aload_n 0, 0, 0, []) from rfl) rfl rfl ?_
          refine gh_get (show gh_at (gm_me 215).1 69 = some (69, 3, .getfield 308, 1, 36, [(0, 1477)]) from rfl) rfl (by decide +kernel) (by decide +kernel) (gh_rd0 (by decide +kernel)) ?_
          rw [show (gp_up σ1 236 36 ((q + 1 : Nat) : Int)) (1891 / 8) 36 = ((q + 1 : Nat) : Int) from e36]
          refine gh_iald (show gh_at (gm_me 215).1 72 = some (72, 1, .iaload, 0, 0, []) from rfl) rfl (by decide +kernel) (by decide +kernel) (gh_ix (N := 90) (by decide +kernel) (by omega) (by omega)) (gh_rd0 (gh_pk0 (by decide +kernel) _)) ?_
          rw [show (((q + 1 : Nat) : Int)).toNat = q + 1 by omega, show (gp_up σ1 236 36 ((q + 1 : Nat) : Int)) (2059 / 8) (q + 1) = σ1 257 (q + 1) from by simp [gp_up]]
          refine gh_iconst (x := 3) (show gh_at (gm_me 215).1 73 = some (73, 1, .iconst 3, 24, 0, []) from rfl) (by decide) ?_
          refine gh_icmp (show gh_at (gm_me 215).1 74 = some (74, 3, .if_icmp .ne (13), 0, 87, []) from rfl) (fun ht => ?_) (fun ht => ?_)
          · have ht : ¬ σ1 257 (q + 1) = 3 := ht
            refine gh_aload_n (show gh_at (gm_me 215).1 87 = some (87, 1, .aload_n 0, 0, 0, []) from rfl) rfl rfl ?_
            refine gh_aload_n (show gh_at (gm_me 215).1 88 = some (88, 1, .aload_n 0, 0, 0, []) from rfl) rfl rfl ?_
            refine gh_get (show gh_at (gm_me 215).1 89 = some (89, 3, .getfield 79, 1, 30, [(0, 1471)]) from rfl) rfl (by decide +kernel) (by decide +kernel) (gh_rdr (r := 2067) (by decide +kernel) rfl) ?_
            refine gh_aload_n (show gh_at (gm_me 215).1 92 = some (92, 1, .aload_n 0, 0, 0, []) from rfl) rfl rfl ?_
            refine gh_get (show gh_at (gm_me 215).1 93 = some (93, 3, .getfield 308, 1, 36, [(0, 1477)]) from rfl) rfl (by decide +kernel) (by decide +kernel) (gh_rd0 (by decide +kernel)) ?_
            rw [show (gp_up σ1 236 36 ((q + 1 : Nat) : Int)) (1891 / 8) 36 = ((q + 1 : Nat) : Int) from e36]
            refine gh_iald (show gh_at (gm_me 215).1 96 = some (96, 1, .iaload, 0, 0, []) from rfl) rfl (by decide +kernel) (by decide +kernel) (gh_ix (N := 90) (by decide +kernel) (by omega) (by omega)) (gh_rd0 (gh_pk0 (by decide +kernel) _)) ?_
            rw [show (((q + 1 : Nat) : Int)).toNat = q + 1 by omega, show (gp_up σ1 236 36 ((q + 1 : Nat) : Int)) (2067 / 8) (q + 1) = σ1 258 (q + 1) from by simp [gp_up]]
            refine gh_iconst (x := 0) (show gh_at (gm_me 215).1 97 = some (97, 1, .iconst 0, 0, 0, []) from rfl) (by decide) ?_
            have C2 : (gp_up σ1 236 36 ((q + 1 : Nat) : Int)) 236 34 = ((r + n : Nat) : Int) := (show (gp_up σ1 236 36 ((q + 1 : Nat) : Int)) 236 34 = σ1 236 34 by simp [gp_up]).trans J1.1.2.1
            have bud := J1.2.2.2.2.2.2.2.2.2.2
            have bud2 := J1.1.2.2.2.2.2.2.1
            have hsr : gh_r (σ1 258 (q + 1)) := (gh_tv (gh_Wg W1 258 (q + 1) (t := 34359738362) (by show ¬ 100 = 999; decide) (by show q + 1 < 90; omega) rfl (by decide))).1
            refine gh_callV (r := 1891) (as := [.inl (σ1 258 (q + 1)), .inl 0]) (t := []) (show gh_at (gm_me 215).1 98 = some (98, 3, .invokevirtual 326, 208, 0, [(0, 1758)]) from rfl) (by decide) rfl (by show 3 = _; decide +kernel) (Nat.le_trans (gh_wd _) (Nat.le_of_ble_eq_true rfl)) rfl (by decide +kernel) (by decide +kernel) (Ψ := fun v σ9 => σ9 = (gp_up (gp_up (gp_up (gp_up σ1 236 36 ((q + 1 : Nat) : Int)) 255 (r + n) (σ1 258 (q + 1))) 256 (r + n) 0) 236 34 (((r + n : Nat) : Int) + 1))) (gz_emit (d := 3) (by omega) C2 rfl) gh_mono (fun v σ9 hv => ?_)
            rw [show gm_rc 208 = 0 by decide +kernel]
            subst hv
            show gp_ok _ _ _ _ _ _ _ [] (gp_up (gp_up (gp_up (gp_up σ1 236 36 ((q + 1 : Nat) : Int)) 255 (r + n) (σ1 258 (q + 1))) 256 (r + n) 0) 236 34 (((r + n : Nat) : Int) + 1))
            have W5 : gt_W (gs_wm b f) (gp_up (gp_up (gp_up (gp_up σ1 236 36 ((q + 1 : Nat) : Int)) 255 (r + n) (σ1 258 (q + 1))) 256 (r + n) 0) 236 34 (((r + n : Nat) : Int) + 1)) := gh_Wu (c := 236) (j := 34) (x := ((r + n : Nat) : Int) + 1) (gh_Wu (c := 256) (j := r + n) (x := 0) (gh_Wu (gh_Wu W1 (c := 236) (j := 36) (x := ((q + 1 : Nat) : Int)) (fun _ => gh_any (by unfold gh_r; omega))) (c := 255) (j := r + n) (x := σ1 258 (q + 1)) (fun _ => gh_any hsr)) (fun _ => gh_any (by unfold gh_r; omega))) (fun _ => gh_any (by unfold gh_r; omega))
            have F5 : gt_fr gs_pml σ (gp_up (gp_up (gp_up (gp_up σ1 236 36 ((q + 1 : Nat) : Int)) 255 (r + n) (σ1 258 (q + 1))) 256 (r + n) 0) 236 34 (((r + n : Nat) : Int) + 1)) := gh_fu (gh_fu (gh_fu (gh_fu F1 (by decide +kernel)) (gb_mo_mem _ (by decide))) (gb_mo_mem _ (by decide))) (by decide +kernel)
            have J5 : gr_J b r (q + 1) (n + 1) κ 1 0 (-1) (gp_up (gp_up (gp_up (gp_up σ1 236 36 ((q + 1 : Nat) : Int)) 255 (r + n) (σ1 258 (q + 1))) 256 (r + n) 0) 236 34 (((r + n : Nat) : Int) + 1)) := gr_pop J1 (by omega) (by omega) (by simp [gp_up]) (by simp [gp_up]) (by rw [if_neg ht]; simp [gp_up]) (by simp [gp_up]) (by simp [gp_up]) (fun j hj => by simp [gp_up, hj]) (by simp [gp_up]) (fun j => by simp [gp_up]) (fun j => by simp [gp_up]) (fun j => by simp [gp_up])
            generalize (gp_up (gp_up (gp_up (gp_up σ1 236 36 ((q + 1 : Nat) : Int)) 255 (r + n) (σ1 258 (q + 1))) 256 (r + n) 0) 236 34 (((r + n : Nat) : Int) + 1)) = σ5 at W5 F5 J5 ⊢
            refine gh_goto (show gh_at (gm_me 215).1 101 = some (101, 3, .goto (-78), 0, 23, []) from rfl) ?_
            exact ih (n + 1) σ5 hrk W5 F5 J5
          · have ht : σ1 257 (q + 1) = 3 := Decidable.not_not.mp ht
            have e35 : (gp_up σ1 236 36 ((q + 1 : Nat) : Int)) 236 35 = σ1 236 35 := by simp [gp_up]
            refine gh_aload_n (show gh_at (gm_me 215).1 77 = some (77, 1, .aload_n 0, 0, 0, []) from rfl) rfl rfl ?_
            refine gh_dup (show gh_at (gm_me 215).1 78 = some (78, 1, .dup, 0, 0, []) from rfl) rfl ?_
            refine gh_get (show gh_at (gm_me 215).1 79 = some (79, 3, .getfield 311, 1, 35, [(0, 1476)]) from rfl) rfl (by decide +kernel) (by decide +kernel) (gh_rd0 (by decide +kernel)) ?_
            rw [show (gp_up σ1 236 36 ((q + 1 : Nat) : Int)) (1891 / 8) 35 = σ1 236 35 from e35]
            refine gh_iconst (x := 1) (show gh_at (gm_me 215).1 82 = some (82, 1, .iconst 1, 8, 0, []) from rfl) (by decide) ?_
            refine gh_isub (z := σ1 236 35 - 1) (show gh_at (gm_me 215).1 83 = some (83, 1, .isub, 0, 0, []) from rfl) (gh_sub (by unfold gh_r; omega) (by unfold gh_r; omega) (by unfold gh_r; omega)) ?_
            refine gh_put (show gh_at (gm_me 215).1 84 = some (84, 3, .putfield 311, 1, 35, [(0, 1476)]) from rfl) rfl (by decide +kernel) (by decide +kernel) (by decide +kernel) (Or.inl rfl) ?_
            show gp_ok _ _ _ _ _ _ _ [] (gp_up (gp_up σ1 236 36 ((q + 1 : Nat) : Int)) 236 35 (σ1 236 35 - 1))
            have e36b : (gp_up (gp_up σ1 236 36 ((q + 1 : Nat) : Int)) 236 35 (σ1 236 35 - 1)) 236 36 = ((q + 1 : Nat) : Int) := by simp [gp_up]
            refine gh_aload_n (show gh_at (gm_me 215).1 87 = some (87, 1, .aload_n 0, 0, 0, []) from rfl) rfl rfl ?_
            refine gh_aload_n (show gh_at (gm_me 215).1 88 = some (88, 1, .aload_n 0, 0, 0, []) from rfl) rfl rfl ?_
            refine gh_get (show gh_at (gm_me 215).1 89 = some (89, 3, .getfield 79, 1, 30, [(0, 1471)]) from rfl) rfl (by decide +kernel) (by decide +kernel) (gh_rdr (r := 2067) (by decide +kernel) rfl) ?_
            refine gh_aload_n (show gh_at (gm_me 215).1 92 = some (92, 1, .aload_n 0, 0, 0, []) from rfl) rfl rfl ?_
            refine gh_get (show gh_at (gm_me 215).1 93 = some (93, 3, .getfield 308, 1, 36, [(0, 1477)]) from rfl) rfl (by decide +kernel) (by decide +kernel) (gh_rd0 (by decide +kernel)) ?_
            rw [show (gp_up (gp_up σ1 236 36 ((q + 1 : Nat) : Int)) 236 35 (σ1 236 35 - 1)) (1891 / 8) 36 = ((q + 1 : Nat) : Int) from e36b]
            refine gh_iald (show gh_at (gm_me 215).1 96 = some (96, 1, .iaload, 0, 0, []) from rfl) rfl (by decide +kernel) (by decide +kernel) (gh_ix (N := 90) (by decide +kernel) (by omega) (by omega)) (gh_rd0 (gh_pk0 (by decide +kernel) _)) ?_
            rw [show (((q + 1 : Nat) : Int)).toNat = q + 1 by omega, show (gp_up (gp_up σ1 236 36 ((q + 1 : Nat) : Int)) 236 35 (σ1 236 35 - 1)) (2067 / 8) (q + 1) = σ1 258 (q + 1) from by simp [gp_up]]
            refine gh_iconst (x := 0) (show gh_at (gm_me 215).1 97 = some (97, 1, .iconst 0, 0, 0, []) from rfl) (by decide) ?_
            have C2 : (gp_up (gp_up σ1 236 36 ((q + 1 : Nat) : Int)) 236 35 (σ1 236 35 - 1)) 236 34 = ((r + n : Nat) : Int) := (show (gp_up (gp_up σ1 236 36 ((q + 1 : Nat) : Int)) 236 35 (σ1 236 35 - 1)) 236 34 = σ1 236 34 by simp [gp_up]).trans J1.1.2.1
            have bud := J1.2.2.2.2.2.2.2.2.2.2
            have bud2 := J1.1.2.2.2.2.2.2.1
            have hsr : gh_r (σ1 258 (q + 1)) := (gh_tv (gh_Wg W1 258 (q + 1) (t := 34359738362) (by show ¬ 100 = 999; decide) (by show q + 1 < 90; omega) rfl (by decide))).1
            refine gh_callV (r := 1891) (as := [.inl (σ1 258 (q + 1)), .inl 0]) (t := []) (show gh_at (gm_me 215).1 98 = some (98, 3, .invokevirtual 326, 208, 0, [(0, 1758)]) from rfl) (by decide) rfl (by show 3 = _; decide +kernel) (Nat.le_trans (gh_wd _) (Nat.le_of_ble_eq_true rfl)) rfl (by decide +kernel) (by decide +kernel) (Ψ := fun v σ9 => σ9 = (gp_up (gp_up (gp_up (gp_up (gp_up σ1 236 36 ((q + 1 : Nat) : Int)) 236 35 (σ1 236 35 - 1)) 255 (r + n) (σ1 258 (q + 1))) 256 (r + n) 0) 236 34 (((r + n : Nat) : Int) + 1))) (gz_emit (d := 3) (by omega) C2 rfl) gh_mono (fun v σ9 hv => ?_)
            rw [show gm_rc 208 = 0 by decide +kernel]
            subst hv
            show gp_ok _ _ _ _ _ _ _ [] (gp_up (gp_up (gp_up (gp_up (gp_up σ1 236 36 ((q + 1 : Nat) : Int)) 236 35 (σ1 236 35 - 1)) 255 (r + n) (σ1 258 (q + 1))) 256 (r + n) 0) 236 34 (((r + n : Nat) : Int) + 1))
            have W5 : gt_W (gs_wm b f) (gp_up (gp_up (gp_up (gp_up (gp_up σ1 236 36 ((q + 1 : Nat) : Int)) 236 35 (σ1 236 35 - 1)) 255 (r + n) (σ1 258 (q + 1))) 256 (r + n) 0) 236 34 (((r + n : Nat) : Int) + 1)) := gh_Wu (c := 236) (j := 34) (x := ((r + n : Nat) : Int) + 1) (gh_Wu (c := 256) (j := r + n) (x := 0) (gh_Wu (gh_Wu (c := 236) (j := 35) (x := σ1 236 35 - 1) (gh_Wu W1 (c := 236) (j := 36) (x := ((q + 1 : Nat) : Int)) (fun _ => gh_any (by unfold gh_r; omega))) (fun _ => gh_any (by unfold gh_r; omega))) (c := 255) (j := r + n) (x := σ1 258 (q + 1)) (fun _ => gh_any hsr)) (fun _ => gh_any (by unfold gh_r; omega))) (fun _ => gh_any (by unfold gh_r; omega))
            have F5 : gt_fr gs_pml σ (gp_up (gp_up (gp_up (gp_up (gp_up σ1 236 36 ((q + 1 : Nat) : Int)) 236 35 (σ1 236 35 - 1)) 255 (r + n) (σ1 258 (q + 1))) 256 (r + n) 0) 236 34 (((r + n : Nat) : Int) + 1)) := gh_fu (gh_fu (gh_fu (gh_fu (gh_fu F1 (by decide +kernel)) (by decide +kernel)) (gb_mo_mem _ (by decide))) (gb_mo_mem _ (by decide))) (by decide +kernel)
            have J5 : gr_J b r (q + 1) (n + 1) κ 1 0 (-1) (gp_up (gp_up (gp_up (gp_up (gp_up σ1 236 36 ((q + 1 : Nat) : Int)) 236 35 (σ1 236 35 - 1)) 255 (r + n) (σ1 258 (q + 1))) 256 (r + n) 0) 236 34 (((r + n : Nat) : Int) + 1)) := gr_pop J1 (by omega) (by omega) (by simp [gp_up]) (by simp [gp_up]) (by rw [if_pos ht]; simp [gp_up]) (by simp [gp_up]) (by simp [gp_up]) (fun j hj => by simp [gp_up, hj]) (by simp [gp_up]) (fun j => by simp [gp_up]) (fun j => by simp [gp_up]) (fun j => by simp [gp_up])
            generalize (gp_up (gp_up (gp_up (gp_up (gp_up σ1 236 36 ((q + 1 : Nat) : Int)) 236 35 (σ1 236 35 - 1)) 255 (r + n) (σ1 258 (q + 1))) 256 (r + n) 0) 236 34 (((r + n : Nat) : Int) + 1)) = σ5 at W5 F5 J5 ⊢
            refine gh_goto (show gh_at (gm_me 215).1 101 = some (101, 3, .goto (-78), 0, 23, []) from rfl) ?_
            exact ih (n + 1) σ5 hrk W5 F5 J5
  have p38 := gr_p38 hJ (by omega) (by omega)
  have p1 := hJ.2.1
  have toloop : ∀ rk : Int, (rk = 0 ∨ ((rk = 1 ∨ rk = 2) ∧ ¬ σ 236 8 = 0) ∨ ((rk = 4 ∨ rk = 5 ∨ rk = 6) ∧ ¬ σ 236 8 = 0 ∧ gr_op (gn_sg σ (σ 236 6)))) → gp_ok gs_sh (gp_call gs_sh 4) 2 (gm_me 215).1 (gr_Q b f r κ σ) 23 [.inr 1891, .inl rk] [] σ := fun rk hrk => loop rk (p - 1) n σ hrk hW gh_f0 (by rw [show p - 1 + 1 = p by omega]; exact hJ)
  refine gh_aload_n (show gh_at (gm_me 215).1 0 = some (0, 1, .aload_n 0, 0, 0, []) from rfl) rfl rfl ?_
  refine gh_callV (r := 1891) (as := []) (t := []) (show gh_at (gm_me 215).1 1 = some (1, 3, .invokevirtual 329, 213, 0, [(0, 1766)]) from rfl) (by decide) rfl (by show 1 = _; decide +kernel) (Nat.le_trans (gh_wd _) (Nat.le_of_ble_eq_true rfl)) rfl (by decide +kernel) (by decide +kernel) (Ψ := fun v σ9 => σ9 = σ ∧ ∃ rk : Int, v = .inl rk ∧ (rk = 0 ∨ ((rk = 1 ∨ rk = 2) ∧ ¬ σ 236 8 = 0) ∨ ((rk = 4 ∨ rk = 5 ∨ rk = 6) ∧ ¬ σ 236 8 = 0 ∧ gr_op (gn_sg σ (σ 236 6))))) (gz_rank (d := 1) hW (fun rk q => ⟨rfl, rk, rfl, q⟩)) gh_mono (fun v σ9 hv => ?_)
  rw [show gm_rc 213 = 1 by decide +kernel]
  obtain ⟨e9, rk, rfl, hrk⟩ := hv
  rw [e9]
  show gp_ok _ _ _ _ _ _ _ [.inl rk] _
  refine gh_istore_n (show gh_at (gm_me 215).1 4 = some (4, 1, .istore_n 1, 0, 0, []) from rfl) (fun c q => by cases q <;> decide) rfl ?_
  refine gh_iload_n (show gh_at (gm_me 215).1 5 = some (5, 1, .iload_n 1, 0, 0, []) from rfl) rfl ?_
  refine gh_iconst (x := 4) (show gh_at (gm_me 215).1 6 = some (6, 1, .iconst 4, 32, 0, []) from rfl) (by decide) ?_
  refine gh_icmp (show gh_at (gm_me 215).1 7 = some (7, 3, .if_icmp .ne (16), 0, 23, []) from rfl) (fun _ => toloop rk hrk) (fun _ => ?_)
  refine gh_aload_n (show gh_at (gm_me 215).1 10 = some (10, 1, .aload_n 0, 0, 0, []) from rfl) rfl rfl ?_
  refine gh_callV (r := 1891) (as := []) (t := []) (show gh_at (gm_me 215).1 11 = some (11, 3, .invokevirtual 332, 214, 0, [(0, 1770)]) from rfl) (by decide) rfl (by show 1 = _; decide +kernel) (Nat.le_trans (gh_wd _) (Nat.le_of_ble_eq_true rfl)) rfl (by decide +kernel) (by decide +kernel) (Ψ := fun v σ9 => σ9 = σ ∧ ∃ z : Int, v = .inl z) (gz_cmpd (d := 3) (by omega) hJ.2.2.1 hJ.2.2.2.1 (fun z _ => ⟨rfl, z, rfl⟩)) gh_mono (fun v σ9 hv => ?_)
  rw [show gm_rc 214 = 2 by decide +kernel]
  obtain ⟨e9, z, rfl⟩ := hv
  rw [e9]
  refine gh_if (show gh_at (gm_me 215).1 14 = some (14, 3, .ifCond .eq (9), 0, 23, []) from rfl) (fun _ => toloop rk hrk) (fun _ => ?_)
  refine gh_aload_n (show gh_at (gm_me 215).1 17 = some (17, 1, .aload_n 0, 0, 0, []) from rfl) rfl rfl ?_
  refine gh_callV (r := 1891) (as := []) (t := []) (show gh_at (gm_me 215).1 18 = some (18, 3, .invokevirtual 240, 196, 0, [(0, 1698)]) from rfl) (by decide) rfl (by show 1 = _; decide +kernel) (Nat.le_trans (gh_wd _) (Nat.le_of_ble_eq_true rfl)) rfl (by decide +kernel) (by decide +kernel) (gz_mis (d := 2) hW) gh_mono (fun v σ1 hv => ?_)
  rw [show gm_rc 196 = 0 by decide +kernel]
  obtain ⟨W1, F1, hbad⟩ := hv
  show gp_ok _ _ _ _ _ _ _ [] σ1
  have G1 : gt_fr gs_tf σ σ1 := gh_ft gh_f0 F1 (by decide +kernel)
  refine gh_iconst (x := 1) (show gh_at (gm_me 215).1 21 = some (21, 1, .iconst 1, 8, 0, []) from rfl) (by decide) ?_
  refine gh_iret (show gh_at (gm_me 215).1 22 = some (22, 1, .ireturn, 0, 0, []) from rfl) ?_
  exact Or.inr ⟨rfl, Or.inr rfl, W1, gh_ft gh_f0 G1 (by decide +kernel), gm_Zn (F1 236 3 rfl) (F1 236 7 rfl) (F1 236 8 rfl) hZ1, 1, rfl, Or.inl ⟨hbad, n, gr_Ef G1 hJ.1⟩⟩
theorem gz_e {b f r : Nat} {κ : Nat → Int} {m : Int} {σ : gp_S} (hb : b < 2) (hf : f < 8) (hW : gt_W (gs_wm b f) σ) (hZ : gm_Z m σ) (hE : gr_E b r 0 κ σ) (hu : σ 236 37 = 0) : gp_call gs_sh 6 210 [.inr 1891] σ (fun _ σ' => gt_W (gs_wm b f) σ' ∧ gt_fr gs_rml σ σ' ∧ gm_Z (gn_rem σ) σ' ∧ ∃ n, gr_E b r n κ σ') := by
  refine gh_call (al := [.inr 1891, .inr 7]) (by decide +kernel) (by show 1 = _; decide +kernel) (by rw [show (gm_me 210).2.1 = 1 by decide +kernel]; rfl) (by show 2 = _; decide +kernel) ?_
  rw [show gm_rc 210 = 0 by decide +kernel]
  have fin : ∀ (σ1 : gp_S) (z : Int), gt_W (gs_wm b f) σ1 → gt_fr gs_rml σ σ1 → gm_Z (gn_rem σ) σ1 → (¬ σ1 236 4 = 0 ∨ σ1 236 36 = 0) → (∃ n, gr_E b r n κ σ1) → gp_ok gs_sh (gp_call gs_sh 5) 0 (gm_me 210).1 (fun _ σ' => gt_W (gs_wm b f) σ' ∧ gt_fr gs_rml σ σ' ∧ gm_Z (gn_rem σ) σ' ∧ ∃ n, gr_E b r n κ σ') 19 [.inr 1891, .inl z] [] σ1 := by
    intro σ1 z W1 F1 Z1 hC anyE
    refine gh_aload_n (show gh_at (gm_me 210).1 19 = some (19, 1, .aload_n 0, 0, 0, []) from rfl) rfl rfl ?_
    refine gh_callV (r := 1891) (as := []) (t := []) (show gh_at (gm_me 210).1 20 = some (20, 3, .invokevirtual 233, 88, 0, [(0, 1678)]) from rfl) (by decide) rfl (by show 1 = _; decide +kernel) (Nat.le_trans (gh_wd _) (Nat.le_of_ble_eq_true rfl)) rfl (by decide +kernel) (by decide +kernel) (Ψ := fun v σ9 => σ9 = σ1 ∧ ((v = .inl 1 ∧ σ1 236 4 = 0) ∨ (v = .inl 0 ∧ ¬ σ1 236 4 = 0))) (gz_good (d := 4) (fun q => ⟨rfl, Or.inl ⟨rfl, q⟩⟩) (fun q => ⟨rfl, Or.inr ⟨rfl, q⟩⟩)) gh_mono (fun v σ9 hv => ?_)
    rw [show gm_rc 88 = 2 by decide +kernel]
    obtain ⟨e9, hv⟩ := hv
    rw [e9]
    rcases hv with ⟨rfl, hg⟩ | ⟨rfl, hg⟩
    · refine gh_if (show gh_at (gm_me 210).1 23 = some (23, 3, .ifCond .eq (29), 0, 52, []) from rfl) (fun q => absurd (show (1 : Int) = 0 from q) (by decide)) (fun _ => ?_)
      refine gh_aload_n (show gh_at (gm_me 210).1 26 = some (26, 1, .aload_n 0, 0, 0, []) from rfl) rfl rfl ?_
      refine gh_get (show gh_at (gm_me 210).1 27 = some (27, 3, .getfield 308, 1, 36, [(0, 1477)]) from rfl) rfl (by decide +kernel) (by decide +kernel) (gh_rd0 (by decide +kernel)) ?_
      show gp_ok _ _ _ _ _ _ _ (.inl (σ1 236 36) :: _) _
      refine gh_if (show gh_at (gm_me 210).1 30 = some (30, 3, .ifCond .le (22), 0, 52, []) from rfl) (fun _ => ?_) (fun hp0 => absurd (show σ1 236 36 ≤ 0 by rcases hC with h | h; (exact absurd hg h); omega) hp0)
      refine gh_ret (show gh_at (gm_me 210).1 52 = some (52, 1, .return_, 0, 0, []) from rfl) rfl ?_
      exact ⟨W1, F1, Z1, anyE⟩
    · refine gh_if (show gh_at (gm_me 210).1 23 = some (23, 3, .ifCond .eq (29), 0, 52, []) from rfl) (fun _ => ?_) (fun q => absurd rfl q)
      refine gh_ret (show gh_at (gm_me 210).1 52 = some (52, 1, .return_, 0, 0, []) from rfl) rfl ?_
      exact ⟨W1, F1, Z1, anyE⟩
  have loop : ∀ (M : Nat) (σ1 : gp_S) (z : Int), gn_rem σ1 ≤ M → gt_W (gs_wm b f) σ1 → gt_fr gs_rml σ σ1 → gm_Z (gn_rem σ) σ1 → ((¬ σ1 236 4 = 0 ∧ ∃ n, gr_E b r n κ σ1) ∨ (z = 1 ∧ ∃ p n, gr_J b r p n κ 0 0 (gr_w σ1 p) σ1) ∨ (z = 0 ∧ ∃ p n, gr_J b r p n κ 1 0 (-1) σ1) ∨ (σ1 236 36 = 0 ∧ ∃ n, gr_E b r n κ σ1)) → gp_ok gs_sh (gp_call gs_sh 5) 0 (gm_me 210).1 (fun _ σ' => gt_W (gs_wm b f) σ' ∧ gt_fr gs_rml σ σ' ∧ gm_Z (gn_rem σ) σ' ∧ ∃ n, gr_E b r n κ σ') 19 [.inr 1891, .inl z] [] σ1 := by
    intro M
    induction M using Nat.strongRecOn with
    | ind M ih =>
      intro σ1 z hM W1 F1 Z1 hC
      have anyE : ∃ n, gr_E b r n κ σ1 := by
        rcases hC with ⟨-, h⟩ | ⟨-, p, n, h⟩ | ⟨-, p, n, h⟩ | ⟨-, h⟩
        · exact h
        · exact ⟨n, h.1⟩
        · exact ⟨n, h.1⟩
        · exact h
      refine gh_aload_n (show gh_at (gm_me 210).1 19 = some (19, 1, .aload_n 0, 0, 0, []) from rfl) rfl rfl ?_
      refine gh_callV (r := 1891) (as := []) (t := []) (show gh_at (gm_me 210).1 20 = some (20, 3, .invokevirtual 233, 88, 0, [(0, 1678)]) from rfl) (by decide) rfl (by show 1 = _; decide +kernel) (Nat.le_trans (gh_wd _) (Nat.le_of_ble_eq_true rfl)) rfl (by decide +kernel) (by decide +kernel) (Ψ := fun v σ9 => σ9 = σ1 ∧ ((v = .inl 1 ∧ σ1 236 4 = 0) ∨ (v = .inl 0 ∧ ¬ σ1 236 4 = 0))) (gz_good (d := 4) (fun q => ⟨rfl, Or.inl ⟨rfl, q⟩⟩) (fun q => ⟨rfl, Or.inr ⟨rfl, q⟩⟩)) gh_mono (fun v σ9 hv => ?_)
      rw [show gm_rc 88 = 2 by decide +kernel]
      obtain ⟨e9, hv⟩ := hv
      rw [e9]
      rcases hv with ⟨rfl, hg⟩ | ⟨rfl, hg⟩
      · refine gh_if (show gh_at (gm_me 210).1 23 = some (23, 3, .ifCond .eq (29), 0, 52, []) from rfl) (fun q => absurd (show (1 : Int) = 0 from q) (by decide)) (fun _ => ?_)
        refine gh_aload_n (show gh_at (gm_me 210).1 26 = some (26, 1, .aload_n 0, 0, 0, []) from rfl) rfl rfl ?_
        refine gh_get (show gh_at (gm_me 210).1 27 = some (27, 3, .getfield 308, 1, 36, [(0, 1477)]) from rfl) rfl (by decide +kernel) (by decide +kernel) (gh_rd0 (by decide +kernel)) ?_
        show gp_ok _ _ _ _ _ _ _ (.inl (σ1 236 36) :: _) _
        refine gh_if (show gh_at (gm_me 210).1 30 = some (30, 3, .ifCond .le (22), 0, 52, []) from rfl) (fun _ => ?_) (fun hp0 => ?_)
        · refine gh_ret (show gh_at (gm_me 210).1 52 = some (52, 1, .return_, 0, 0, []) from rfl) rfl ?_
          exact ⟨W1, F1, Z1, anyE⟩
        · have hp0 : ¬ σ1 236 36 ≤ 0 := hp0
          refine gh_iload_n (show gh_at (gm_me 210).1 33 = some (33, 1, .iload_n 1, 0, 0, []) from rfl) rfl ?_
          refine gh_if (show gh_at (gm_me 210).1 34 = some (34, 3, .ifCond .eq (10), 0, 44, []) from rfl) (fun hz => ?_) (fun hz => ?_)
          · have hz : z = 0 := hz
            have hJ : ∃ p n, gr_J b r p n κ 1 0 (-1) σ1 := by
              rcases hC with ⟨h, -⟩ | ⟨h, -⟩ | ⟨-, h⟩ | ⟨h, -⟩
              · exact absurd hg h
              · omega
              · exact h
              · omega
            obtain ⟨p, n, hJ⟩ := hJ
            refine gh_aload_n (show gh_at (gm_me 210).1 44 = some (44, 1, .aload_n 0, 0, 0, []) from rfl) rfl rfl ?_
            refine gh_callV (r := 1891) (as := []) (t := []) (show gh_at (gm_me 210).1 45 = some (45, 3, .invokevirtual 320, 215, 0, [(0, 1762)]) from rfl) (by decide) rfl (by show 1 = _; decide +kernel) (Nat.le_trans (gh_wd _) (Nat.le_of_ble_eq_true rfl)) rfl (by decide +kernel) (by decide +kernel) (gz_behindU hb hf W1 Z1 hJ) gh_mono (fun v σ2 hv => ?_)
            rw [show gm_rc 215 = 2 by decide +kernel]
            obtain ⟨W2, F2, Z2, y, rfl, hv⟩ := hv
            show gp_ok _ _ _ _ _ _ _ [.inl y] σ2
            have G2 : gt_fr gs_rml σ σ2 := gh_ft F1 F2 (by decide +kernel)
            have Z3 : gm_Z (gn_rem σ) σ2 := gm_Zle Z2 Z1.2.2
            have r2 := gn_rem0 Z2
            have r1 := gn_rem0 Z1
            refine gh_istore_n (show gh_at (gm_me 210).1 48 = some (48, 1, .istore_n 1, 0, 0, []) from rfl) (fun c q => by cases q <;> decide) rfl ?_
            refine gh_goto (show gh_at (gm_me 210).1 49 = some (49, 3, .goto (-30), 0, 19, []) from rfl) ?_
            rcases hv with ⟨h4, hE2⟩ | ⟨hlt, hv⟩ | ⟨h36, hE2⟩
            · exact fin σ2 y W2 G2 Z3 (Or.inl h4) hE2
            · exact ih (gn_rem σ2).toNat (by omega) σ2 y (by omega) W2 G2 Z3 (by rcases hv with h | h; (exact Or.inr (Or.inl h)); exact Or.inr (Or.inr (Or.inl h)))
            · exact fin σ2 y W2 G2 Z3 (Or.inr h36) hE2
          · have hz : ¬ z = 0 := hz
            have hJ : ∃ p n, gr_J b r p n κ 0 0 (gr_w σ1 p) σ1 := by
              rcases hC with ⟨h, -⟩ | ⟨-, h⟩ | ⟨h, -⟩ | ⟨h, -⟩
              · exact absurd hg h
              · exact h
              · omega
              · omega
            obtain ⟨p, n, hJ⟩ := hJ
            refine gh_aload_n (show gh_at (gm_me 210).1 37 = some (37, 1, .aload_n 0, 0, 0, []) from rfl) rfl rfl ?_
            refine gh_callV (r := 1891) (as := []) (t := []) (show gh_at (gm_me 210).1 38 = some (38, 3, .invokevirtual 317, 212, 0, [(0, 1746)]) from rfl) (by decide) rfl (by show 1 = _; decide +kernel) (Nat.le_trans (gh_wd _) (Nat.le_of_ble_eq_true rfl)) rfl (by decide +kernel) (by decide +kernel) (gp_call_le (by show 4 ≤ 5; decide) (gz_unit hb hf W1 Z1 hJ)) gh_mono (fun v σ2 hv => ?_)
            rw [show gm_rc 212 = 2 by decide +kernel]
            obtain ⟨W2, F2, Z2, y, rfl, hv⟩ := hv
            show gp_ok _ _ _ _ _ _ _ [.inl y] σ2
            have G2 : gt_fr gs_rml σ σ2 := gh_ft F1 F2 (by decide +kernel)
            have Z3 : gm_Z (gn_rem σ) σ2 := gm_Zle Z2 Z1.2.2
            have r2 := gn_rem0 Z2
            have r1 := gn_rem0 Z1
            refine gh_goto (show gh_at (gm_me 210).1 41 = some (41, 3, .goto (7), 0, 48, []) from rfl) ?_
            refine gh_istore_n (show gh_at (gm_me 210).1 48 = some (48, 1, .istore_n 1, 0, 0, []) from rfl) (fun c q => by cases q <;> decide) rfl ?_
            refine gh_goto (show gh_at (gm_me 210).1 49 = some (49, 3, .goto (-30), 0, 19, []) from rfl) ?_
            rcases hv with ⟨h4, hE2⟩ | ⟨hlt, hv⟩ | ⟨h36, hE2⟩
            · exact fin σ2 y W2 G2 Z3 (Or.inl h4) hE2
            · exact ih (gn_rem σ2).toNat (by omega) σ2 y (by omega) W2 G2 Z3 (by rcases hv with h | h; (exact Or.inr (Or.inl h)); exact Or.inr (Or.inr (Or.inl h)))
            · exact fin σ2 y W2 G2 Z3 (Or.inr h36) hE2
      · refine gh_if (show gh_at (gm_me 210).1 23 = some (23, 3, .ifCond .eq (29), 0, 52, []) from rfl) (fun _ => ?_) (fun q => absurd rfl q)
        refine gh_ret (show gh_at (gm_me 210).1 52 = some (52, 1, .return_, 0, 0, []) from rfl) rfl ?_
        exact ⟨W1, F1, Z1, anyE⟩
  refine gh_aload_n (show gh_at (gm_me 210).1 0 = some (0, 1, .aload_n 0, 0, 0, []) from rfl) rfl rfl ?_
  refine gh_iconst (x := 0) (show gh_at (gm_me 210).1 1 = some (1, 1, .iconst 0, 0, 0, []) from rfl) (by decide) ?_
  refine gh_put (show gh_at (gm_me 210).1 2 = some (2, 3, .putfield 308, 1, 36, [(0, 1477)]) from rfl) rfl (by decide +kernel) (by decide +kernel) (by decide +kernel) (Or.inl rfl) ?_
  show gp_ok _ _ _ _ _ _ _ [] (gp_up σ 236 36 0)
  refine gh_aload_n (show gh_at (gm_me 210).1 5 = some (5, 1, .aload_n 0, 0, 0, []) from rfl) rfl rfl ?_
  refine gh_iconst (x := 0) (show gh_at (gm_me 210).1 6 = some (6, 1, .iconst 0, 0, 0, []) from rfl) (by decide) ?_
  refine gh_put (show gh_at (gm_me 210).1 7 = some (7, 3, .putfield 311, 1, 35, [(0, 1476)]) from rfl) rfl (by decide +kernel) (by decide +kernel) (by decide +kernel) (Or.inl rfl) ?_
  show gp_ok _ _ _ _ _ _ _ [] (gp_up (gp_up σ 236 36 0) 236 35 0)
  refine gh_aload_n (show gh_at (gm_me 210).1 10 = some (10, 1, .aload_n 0, 0, 0, []) from rfl) rfl rfl ?_
  refine gh_bipush (x := 8) (show gh_at (gm_me 210).1 11 = some (11, 2, .bipush (8), 64, 0, []) from rfl) (by decide) ?_
  refine gh_iconst (x := 0) (show gh_at (gm_me 210).1 13 = some (13, 1, .iconst 0, 0, 0, []) from rfl) (by decide) ?_
  refine gh_callV (r := 1891) (as := [.inl 8, .inl 0]) (t := []) (show gh_at (gm_me 210).1 14 = some (14, 3, .invokevirtual 314, 209, 0, [(0, 1742)]) from rfl) (by decide) rfl (by show 3 = _; decide +kernel) (Nat.le_trans (gh_wd _) (Nat.le_of_ble_eq_true rfl)) rfl (by decide +kernel) (by decide +kernel) (Ψ := fun v σ9 => σ9 = (gp_up (gp_up (gp_up (gp_up (gp_up σ 236 36 0) 236 35 0) 257 0 8) 258 0 0) 236 36 (((0 : Nat) : Int) + 1))) (gz_push (d := 4) (by omega) (by simp [gp_up]) rfl) gh_mono (fun v σ9 hv => ?_)
  rw [show gm_rc 209 = 0 by decide +kernel]
  subst hv
  show gp_ok _ _ _ _ _ _ _ [] (gp_up (gp_up (gp_up (gp_up (gp_up σ 236 36 0) 236 35 0) 257 0 8) 258 0 0) 236 36 (((0 : Nat) : Int) + 1))
  have W5 : gt_W (gs_wm b f) (gp_up (gp_up (gp_up (gp_up (gp_up σ 236 36 0) 236 35 0) 257 0 8) 258 0 0) 236 36 (((0 : Nat) : Int) + 1)) := gh_Wu (c := 236) (j := 36) (x := ((0 : Nat) : Int) + 1) (gh_Wu (c := 258) (j := 0) (x := 0) (gh_Wu (c := 257) (j := 0) (x := 8) (gh_Wu (c := 236) (j := 35) (x := 0) (gh_Wu hW (c := 236) (j := 36) (x := 0) (fun _ => gh_any (by unfold gh_r; omega))) (fun _ => gh_any (by unfold gh_r; omega))) (fun _ => gh_any (by unfold gh_r; omega))) (fun _ => gh_any (by unfold gh_r; omega))) (fun _ => gh_any (by unfold gh_r; omega))
  have F5 : gt_fr gs_rml σ (gp_up (gp_up (gp_up (gp_up (gp_up σ 236 36 0) 236 35 0) 257 0 8) 258 0 0) 236 36 (((0 : Nat) : Int) + 1)) := gh_fu (gh_fu (gh_fu (gh_fu (gh_fu gh_f0 (by decide +kernel)) (by decide +kernel)) (gb_mo_mem _ (by decide))) (gb_mo_mem _ (by decide))) (by decide +kernel)
  have J5 : gr_J b r 1 0 κ 0 0 (gr_w (gp_up (gp_up (gp_up (gp_up (gp_up σ 236 36 0) 236 35 0) 257 0 8) 258 0 0) 236 36 (((0 : Nat) : Int) + 1)) 1) (gp_up (gp_up (gp_up (gp_up (gp_up σ 236 36 0) 236 35 0) 257 0 8) 258 0 0) 236 36 (((0 : Nat) : Int) + 1)) := gr_ini hE (by simp [gp_up]) (by simp [gp_up]) (by simp [gp_up]) (by simp [gp_up]) (by simp [gp_up]; exact hu) (fun j => by simp [gp_up]) (fun j => by simp [gp_up]) (by simp [gp_up])
  have Z5 : gm_Z (gn_rem σ) (gp_up (gp_up (gp_up (gp_up (gp_up σ 236 36 0) 236 35 0) 257 0 8) 258 0 0) 236 36 (((0 : Nat) : Int) + 1)) := gm_Zn (by simp [gp_up]) (by simp [gp_up]) (by simp [gp_up]) ⟨hZ.1, hZ.2.1, Int.le_refl _⟩
  generalize (gp_up (gp_up (gp_up (gp_up (gp_up σ 236 36 0) 236 35 0) 257 0 8) 258 0 0) 236 36 (((0 : Nat) : Int) + 1)) = σ5 at W5 F5 J5 Z5 ⊢
  refine gh_iconst (x := 1) (show gh_at (gm_me 210).1 17 = some (17, 1, .iconst 1, 8, 0, []) from rfl) (by decide) ?_
  refine gh_istore_n (show gh_at (gm_me 210).1 18 = some (18, 1, .istore_n 1, 0, 0, []) from rfl) (fun c q => by cases q <;> decide) rfl ?_
  exact loop (gn_rem σ5).toNat σ5 1 (by omega) W5 F5 Z5 (Or.inr (Or.inl ⟨rfl, 1, 0, J5⟩))
def gs_uml2 : List (Nat × Nat) := gs_rml ++ [(252, 1048576), (253, 1048576)]
theorem gz_rule {b f r : Nat} {κ : Nat → Int} {m : Int} {σ : gp_S} (hb : b < 2) (hf : f < 8) (hW : gt_W (gs_wm b f) σ) (hX : gm_X f σ) (hZ : gm_Z m σ) (hE : gr_E b r 0 κ σ) : gp_call gs_sh 7 207 [.inr 1891] σ (fun _ σ' => gt_W (gs_wm b f) σ' ∧ gm_X f σ' ∧ gt_fr gs_uml2 σ σ' ∧ gm_Z (gn_rem σ) σ' ∧ ∃ r, gr_E b r 0 κ σ') := by
  refine gh_call (al := [.inr 1891]) (by decide +kernel) (by show 1 = _; decide +kernel) (by rw [show (gm_me 207).2.1 = 0 by decide +kernel]; rfl) (by show 1 = _; decide +kernel) ?_
  rw [show gm_rc 207 = 0 by decide +kernel]
  have hr8 := hE.2.2.2.2.2.2
  refine gh_aload_n (show gh_at (gm_me 207).1 0 = some (0, 1, .aload_n 0, 0, 0, []) from rfl) rfl rfl ?_
  refine gh_iconst (x := 0) (show gh_at (gm_me 207).1 1 = some (1, 1, .iconst 0, 0, 0, []) from rfl) (by decide) ?_
  refine gh_put (show gh_at (gm_me 207).1 2 = some (2, 3, .putfield 302, 1, 37, [(0, 1478)]) from rfl) rfl (by decide +kernel) (by decide +kernel) (by decide +kernel) (Or.inl rfl) ?_
  show gp_ok _ _ _ _ _ _ _ [] (gp_up σ 236 37 0)
  have b1 : (gp_up σ 236 37 0) 236 33 = ((1 - b : Nat) : Int) := (show (gp_up σ 236 37 0) 236 33 = σ 236 33 by simp [gp_up]).trans hE.1
  have c1 : (gp_up σ 236 37 0) 236 34 = (r : Int) := (show (gp_up σ 236 37 0) 236 34 = σ 236 34 by simp [gp_up]).trans hE.2.1
  refine gh_aload_n (show gh_at (gm_me 207).1 5 = some (5, 1, .aload_n 0, 0, 0, []) from rfl) rfl rfl ?_
  refine gh_get (show gh_at (gm_me 207).1 6 = some (6, 3, .getfield 60, 1, 24, [(0, 1465)]) from rfl) rfl (by decide +kernel) (by decide +kernel) (gh_rdr (r := 2019) (by decide +kernel) rfl) ?_
  refine gh_aload_n (show gh_at (gm_me 207).1 9 = some (9, 1, .aload_n 0, 0, 0, []) from rfl) rfl rfl ?_
  refine gh_get (show gh_at (gm_me 207).1 10 = some (10, 3, .getfield 254, 1, 33, [(0, 1474)]) from rfl) rfl (by decide +kernel) (by decide +kernel) (gh_rd0 (by decide +kernel)) ?_
  rw [show (gp_up σ 236 37 0) (1891 / 8) 33 = ((1 - b : Nat) : Int) from b1]
  refine gh_aload_n (show gh_at (gm_me 207).1 13 = some (13, 1, .aload_n 0, 0, 0, []) from rfl) rfl rfl ?_
  refine gh_get (show gh_at (gm_me 207).1 14 = some (14, 3, .getfield 257, 1, 34, [(0, 1475)]) from rfl) rfl (by decide +kernel) (by decide +kernel) (gh_rd0 (by decide +kernel)) ?_
  rw [show (gp_up σ 236 37 0) (1891 / 8) 34 = (r : Int) from c1]
  refine gh_iast (show gh_at (gm_me 207).1 17 = some (17, 1, .iastore, 0, 0, []) from rfl) rfl (by decide +kernel) (by decide +kernel) (gh_ix (N := 2) (by decide +kernel) (by omega) (by omega)) (gh_pk0 (by decide +kernel) _) ?_
  rw [show (((1 - b : Nat) : Int)).toNat = 1 - b by omega]
  show gp_ok _ _ _ _ _ _ _ [] (gp_up (gp_up σ 236 37 0) 252 (1 - b) (r : Int))
  have W2 : gt_W (gs_wm b f) (gp_up (gp_up σ 236 37 0) 252 (1 - b) (r : Int)) := gh_Wu (c := 252) (j := 1 - b) (x := (r : Int)) (gh_Wu hW (c := 236) (j := 37) (x := 0) (fun _ => gh_any (by unfold gh_r; omega))) (fun _ => gh_any (by unfold gh_r; omega))
  have E2 : gr_E b r 0 κ (gp_up (gp_up σ 236 37 0) 252 (1 - b) (r : Int)) := gr_Ee hE (by simp [gp_up]) (by simp [gp_up]) (fun j => by simp [gp_up]) (fun j => by simp [gp_up])
  have Z2 : gm_Z (gn_rem σ) (gp_up (gp_up σ 236 37 0) 252 (1 - b) (r : Int)) := gm_Zn (by simp [gp_up]) (by simp [gp_up]) (by simp [gp_up]) ⟨hZ.1, hZ.2.1, Int.le_refl _⟩
  have R2 : gn_rem (gp_up (gp_up σ 236 37 0) 252 (1 - b) (r : Int)) = gn_rem σ := gn_reme (by simp [gp_up]) (by simp [gp_up]) (by simp [gp_up])
  have u2 : (gp_up (gp_up σ 236 37 0) 252 (1 - b) (r : Int)) 236 37 = 0 := by simp [gp_up]
  have f2 : (gp_up (gp_up σ 236 37 0) 252 (1 - b) (r : Int)) 252 (1 - b) = (r : Int) := gh_up_eq _ _ _ _
  have F2 : gt_fr [(236, 37), (252, 1048576)] σ (gp_up (gp_up σ 236 37 0) 252 (1 - b) (r : Int)) := gh_fu (gh_fu gh_f0 (by decide +kernel)) (gb_mo_mem _ (by decide))
  have g2 : (gp_up (gp_up σ 236 37 0) 252 (1 - b) (r : Int)) 252 b = σ 252 b := (gh_up_ne (fun q => by have := q.2; omega)).trans (gh_up_ne (fun q => absurd q.1 (by decide)))
  generalize (gp_up (gp_up σ 236 37 0) 252 (1 - b) (r : Int)) = σ2 at W2 E2 Z2 R2 u2 f2 F2 g2 ⊢
  refine gh_aload_n (show gh_at (gm_me 207).1 18 = some (18, 1, .aload_n 0, 0, 0, []) from rfl) rfl rfl ?_
  refine gh_callV (r := 1891) (as := []) (t := []) (show gh_at (gm_me 207).1 19 = some (19, 3, .invokevirtual 305, 210, 0, [(0, 1738)]) from rfl) (by decide) rfl (by show 1 = _; decide +kernel) (Nat.le_trans (gh_wd _) (Nat.le_of_ble_eq_true rfl)) rfl (by decide +kernel) (by decide +kernel) (gz_e hb hf W2 Z2 E2 u2) gh_mono (fun v σ3 hv => ?_)
  rw [show gm_rc 210 = 0 by decide +kernel]
  obtain ⟨W3, F3, Z3, n, E3⟩ := hv
  rw [R2] at Z3
  show gp_ok _ _ _ _ _ _ _ [] σ3
  have b3 := E3.1
  have c3 := E3.2.1
  have d3 := E3.2.2.2.2.2
  have d4 := E3.2.2.2.2.1
  refine gh_aload_n (show gh_at (gm_me 207).1 22 = some (22, 1, .aload_n 0, 0, 0, []) from rfl) rfl rfl ?_
  refine gh_get (show gh_at (gm_me 207).1 23 = some (23, 3, .getfield 63, 1, 25, [(0, 1466)]) from rfl) rfl (by decide +kernel) (by decide +kernel) (gh_rdr (r := 2027) (by decide +kernel) rfl) ?_
  refine gh_aload_n (show gh_at (gm_me 207).1 26 = some (26, 1, .aload_n 0, 0, 0, []) from rfl) rfl rfl ?_
  refine gh_get (show gh_at (gm_me 207).1 27 = some (27, 3, .getfield 254, 1, 33, [(0, 1474)]) from rfl) rfl (by decide +kernel) (by decide +kernel) (gh_rd0 (by decide +kernel)) ?_
  rw [show σ3 (1891 / 8) 33 = ((1 - b : Nat) : Int) from b3]
  refine gh_aload_n (show gh_at (gm_me 207).1 30 = some (30, 1, .aload_n 0, 0, 0, []) from rfl) rfl rfl ?_
  refine gh_get (show gh_at (gm_me 207).1 31 = some (31, 3, .getfield 257, 1, 34, [(0, 1475)]) from rfl) rfl (by decide +kernel) (by decide +kernel) (gh_rd0 (by decide +kernel)) ?_
  rw [show σ3 (1891 / 8) 34 = ((r + n : Nat) : Int) from c3]
  refine gh_iast (show gh_at (gm_me 207).1 34 = some (34, 1, .iastore, 0, 0, []) from rfl) rfl (by decide +kernel) (by decide +kernel) (gh_ix (N := 2) (by decide +kernel) (by omega) (by omega)) (gh_pk0 (by decide +kernel) _) ?_
  rw [show (((1 - b : Nat) : Int)).toNat = 1 - b by omega]
  show gp_ok _ _ _ _ _ _ _ [] (gp_up σ3 253 (1 - b) ((r + n : Nat) : Int))
  have W4 : gt_W (gs_wm b f) (gp_up σ3 253 (1 - b) ((r + n : Nat) : Int)) := gh_Wu W3 (c := 253) (j := 1 - b) (x := ((r + n : Nat) : Int)) (fun _ => gh_any (by unfold gh_r; omega))
  have F4 : gt_fr gs_uml2 σ (gp_up σ3 253 (1 - b) ((r + n : Nat) : Int)) := gh_fu (gh_ft (gh_ft gh_f0 F2 (by decide +kernel)) F3 (by decide +kernel)) (gb_mo_mem _ (by decide))
  have E4 : gr_E b r n κ (gp_up σ3 253 (1 - b) ((r + n : Nat) : Int)) := gr_Ee E3 (by simp [gp_up]) (by simp [gp_up]) (fun j => by simp [gp_up]) (fun j => by simp [gp_up])
  have Z4 : gm_Z (gn_rem σ) (gp_up σ3 253 (1 - b) ((r + n : Nat) : Int)) := gm_Zn (by simp [gp_up]) (by simp [gp_up]) (by simp [gp_up]) Z3
  have X4 : gm_X f (gp_up σ3 253 (1 - b) ((r + n : Nat) : Int)) := gr_X hb hX hE.2.2.2.1 E4 ((show (gp_up σ3 253 (1 - b) ((r + n : Nat) : Int)) 252 (1 - b) = σ3 252 (1 - b) by simp [gp_up]).trans ((F3 252 _ rfl).trans f2)) (gh_up_eq _ _ _ _) ((show (gp_up σ3 253 (1 - b) ((r + n : Nat) : Int)) 252 b = σ3 252 b by simp [gp_up]).trans ((F3 252 _ rfl).trans g2)) ((gh_up_ne (fun q => by have := q.2; omega)).trans ((F3 253 _ rfl).trans (F2 253 _ rfl))) (F4 _ _ rfl) (F4 _ _ rfl) (fun j => F4 _ j rfl) (fun j => F4 _ j rfl) (fun j => F4 _ j rfl)
  refine gh_ret (show gh_at (gm_me 207).1 35 = some (35, 1, .return_, 0, 0, []) from rfl) rfl ?_
  refine ⟨W4, X4, F4, Z4, r + n, ?_⟩
  obtain ⟨a1, a2, a3, a4, a5, a6, a7, a8⟩ := E4
  exact ⟨a1, a2, fun i hi => absurd hi (by omega), a4, by omega, a6, a7, a8⟩
