/-! unit, behindUnit, e, readRule -/
def gs_rml : List (Nat × Nat) := gs_tf ++ [(236, 34), (236, 35), (236, 36), (236, 37), (241, 1048576), (255, 1048576), (256, 1048576), (257, 1048576), (258, 1048576)]
def gs_pml : List (Nat × Nat) := [(236, 34), (236, 35), (236, 36), (255, 1048576), (256, 1048576)]
theorem gh_up_id {σ : gp_S} {c j : Nat} : gp_up σ c j (σ c j) = σ := by
  funext c' j'
  unfold gp_up
  split
  · next h => rw [h.1, h.2]
  · rfl
theorem gr_Jf {b r p n : Nat} {κ : Nat → Int} {ph q s : Int} {σ σ' : gp_S} (hF : gt_fr gs_tf σ σ') (h : gr_J b r p n κ ph q s σ) : gr_J b r p n κ ph q s σ' :=
  gr_Jc h (fun j h1 h2 => by
    rcases (show j = 33 ∨ j = 34 ∨ j = 35 ∨ j = 36 ∨ j = 37 by omega) with e | e | e | e | e <;> subst e <;> exact hF 236 _ rfl) (fun j => hF 255 j rfl) (fun j => hF 241 j rfl) (fun j => hF 257 j rfl) (fun j => hF 258 j rfl)
theorem gr_Ef {b r n : Nat} {κ : Nat → Int} {σ σ' : gp_S} (hF : gt_fr gs_tf σ σ') (h : gr_E b r n κ σ) : gr_E b r n κ σ' := gr_Ee h (hF 236 33 rfl) (hF 236 34 rfl) (fun j => hF 255 j rfl) (fun j => hF 241 j rfl)
theorem gr_p38 {b r p n : Nat} {κ : Nat → Int} {ph q s : Int} {σ : gp_S} (h : gr_J b r p n κ ph q s σ) (hp : 0 ≤ ph) (hq : 0 ≤ q) : p ≤ 38 ∧ 0 ≤ σ 236 35 ∧ σ 236 35 ≤ 7 ∧ σ 236 37 ≤ 30 ∧ 0 ≤ σ 236 37 := by
  obtain ⟨-, b1, b2, b3, b4, b5, b6, b7, b8, b9, b10⟩ := h
  have w0 := gr_w0 σ p
  have w1 := gr_w1 b3 (p - 1)
  rw [show p - 1 + 1 = p by omega] at w1
  omega
def gr_Q (b f r : Nat) (κ : Nat → Int) (σ : gp_S) (v : gp_V) (σ' : gp_S) : Prop := gt_W (gs_wm b f) σ' ∧ gt_fr gs_rml σ σ' ∧ gm_Z (gn_rem σ) σ' ∧ ∃ z : Int, v = .inl z ∧ ((¬ σ' 236 4 = 0 ∧ ∃ n, gr_E b r n κ σ') ∨ (gn_rem σ' < gn_rem σ ∧ ((z = 1 ∧ ∃ p n, gr_J b r p n κ 0 0 (gr_w σ' p) σ') ∨ (z = 0 ∧ ∃ p n, gr_J b r p n κ 1 0 (-1) σ'))) ∨ (σ' 236 36 = 0 ∧ ∃ n, gr_E b r n κ σ'))

theorem gz_unit {b f r p n : Nat} {κ : Nat → Int} {m : Int} {σ : gp_S} (hb : b < 2) (hf : f < 8) (hW : gt_W (gs_wm b f) σ) (hZ : gm_Z m σ) (hJ : gr_J b r p n κ 0 0 (gr_w σ p) σ) : gp_call gs_sh 4 212 [.inr 1891] σ (gr_Q b f r κ σ) := by
  refine gh_call (al := [.inr 1891, .inr 7, .inr 7, .inr 7, .inr 7, .inr 7, .inr 7]) (by decide +kernel) (by show 1 = _; decide +kernel) (by rw [show (gm_me 212).2.1 = 6 by decide +kernel]; rfl) (by show 7 = _; decide +kernel) ?_
  rw [show gm_rc 212 = 2 by decide +kernel]
  have hp38 := gr_p38 hJ (by omega) (by omega)
  have hP : σ 236 36 = (p : Int) := hJ.2.2.1
  have hB : σ 236 33 = ((1 - b : Nat) : Int) := hJ.1.1
  have hp1 := hJ.2.1
  have hu := hJ.1.2.2.2.2.2
  have hw0 : σ 236 35 = gr_w σ p := hJ.2.2.2.2.2.1
  have hZ1 : gm_Z (gn_rem σ) σ := ⟨hZ.1, hZ.2.1, Int.le_refl _⟩
  have bad : ∀ (σ1 : gp_S) (x1 nt br c fl : Int), gt_W (gs_wm b f) σ1 → gt_fr gs_ff σ σ1 → ¬ σ1 236 4 = 0 → gp_ok gs_sh (gp_call gs_sh 3) 2 (gm_me 212).1 (gr_Q b f r κ σ) 147 [.inr 1891, .inl x1, .inl nt, .inl br, .inl c, .inl fl, .inr 7] [] σ1 := by
    intro σ1 x1 nt br c fl W1 F1 hbad
    have G1 : gt_fr gs_tf σ σ1 := gh_ft gh_f0 F1 (by decide +kernel)
    refine gh_aload_n (show gh_at (gm_me 212).1 147 = some (147, 1, .aload_n 0, 0, 0, []) from rfl) rfl rfl ?_
    refine gh_callV (r := 1891) (as := []) (t := []) (show gh_at (gm_me 212).1 148 = some (148, 3, .invokevirtual 233, 88, 0, [(0, 1678)]) from rfl) (by decide) rfl (by show 1 = _; decide +kernel) (Nat.le_trans (gh_wd _) (Nat.le_of_ble_eq_true rfl)) rfl (by decide +kernel) (by decide +kernel) (Ψ := fun v σ9 => σ9 = σ1 ∧ ((v = .inl 1 ∧ σ1 236 4 = 0) ∨ (v = .inl 0 ∧ ¬ σ1 236 4 = 0))) (gz_good (d := 2) (fun q => ⟨rfl, Or.inl ⟨rfl, q⟩⟩) (fun q => ⟨rfl, Or.inr ⟨rfl, q⟩⟩)) gh_mono (fun v σ9 hv => ?_)
    rw [show gm_rc 88 = 2 by decide +kernel]
    obtain ⟨e9, hv⟩ := hv
    rw [e9]
    rcases hv with ⟨rfl, hg⟩ | ⟨rfl, hg⟩
    · refine gh_if (show gh_at (gm_me 212).1 151 = some (151, 3, .ifCond .ne (5), 0, 156, []) from rfl) (fun _ => ?_) (fun q => absurd (show ¬ (1 : Int) = 0 by decide) q)
      exact absurd hg hbad
    · refine gh_if (show gh_at (gm_me 212).1 151 = some (151, 3, .ifCond .ne (5), 0, 156, []) from rfl) (fun q => absurd rfl q) (fun _ => ?_)
      refine gh_iconst (x := 1) (show gh_at (gm_me 212).1 154 = some (154, 1, .iconst 1, 8, 0, []) from rfl) (by decide) ?_
      refine gh_iret (show gh_at (gm_me 212).1 155 = some (155, 1, .ireturn, 0, 0, []) from rfl) ?_
      exact Or.inr ⟨rfl, Or.inr rfl, W1, gh_ft gh_f0 G1 (by decide +kernel), gm_Zn (F1 236 3 rfl) (F1 236 7 rfl) (F1 236 8 rfl) hZ1, 1, rfl, Or.inl ⟨hbad, n, gr_Ef G1 hJ.1⟩⟩
  have well : ∀ (x1 nt br c fl : Int), (nt = 0 ∨ (nt = 1 ∧ σ 236 8 = 3)) → (br = 0 ∨ (br = 1 ∧ σ 236 8 = 5)) → (c = 0 ∨ (97 ≤ c ∧ c ≤ 122 ∧ σ 236 8 = 3)) → (nt = 1 ∨ (¬ σ 241 (1 - b) = 60 ∧ ¬ σ 236 37 = 30 ∧ (¬ c = 0 ∨ σ 236 8 = 4 ∨ br = 1))) → (nt = 1 ∨ br = 1 → ¬ σ 236 35 = 7) → gp_ok gs_sh (gp_call gs_sh 3) 2 (gm_me 212).1 (gr_Q b f r κ σ) 147 [.inr 1891, .inl x1, .inl nt, .inl br, .inl c, .inl fl, .inr 7] [] σ := by
    intro x1 nt br c fl hnt hbr hc hok h7
    have htok : ¬ σ 236 8 = 0 := by omega
    refine gh_aload_n (show gh_at (gm_me 212).1 147 = some (147, 1, .aload_n 0, 0, 0, []) from rfl) rfl rfl ?_
    refine gh_callV (r := 1891) (as := []) (t := []) (show gh_at (gm_me 212).1 148 = some (148, 3, .invokevirtual 233, 88, 0, [(0, 1678)]) from rfl) (by decide) rfl (by show 1 = _; decide +kernel) (Nat.le_trans (gh_wd _) (Nat.le_of_ble_eq_true rfl)) rfl (by decide +kernel) (by decide +kernel) (Ψ := fun v σ9 => σ9 = σ ∧ ((v = .inl 1 ∧ σ 236 4 = 0) ∨ (v = .inl 0 ∧ ¬ σ 236 4 = 0))) (gz_good (d := 2) (fun q => ⟨rfl, Or.inl ⟨rfl, q⟩⟩) (fun q => ⟨rfl, Or.inr ⟨rfl, q⟩⟩)) gh_mono (fun v σ9 hv => ?_)
    rw [show gm_rc 88 = 2 by decide +kernel]
    obtain ⟨e9, hv⟩ := hv
    rw [e9]
    rcases hv with ⟨rfl, hg⟩ | ⟨rfl, hg⟩
    · refine gh_if (show gh_at (gm_me 212).1 151 = some (151, 3, .ifCond .ne (5), 0, 156, []) from rfl) (fun _ => ?_) (fun q => absurd (show ¬ (1 : Int) = 0 by decide) q)
      rcases hnt with rfl | ⟨rfl, hnt⟩
      · obtain ⟨u, eu⟩ : ∃ u : Int, σ 241 (1 - b) = u := ⟨_, rfl⟩
        obtain ⟨w, ew⟩ : ∃ w : Int, σ 236 37 = w := ⟨_, rfl⟩
        refine gh_aload_n (show gh_at (gm_me 212).1 156 = some (156, 1, .aload_n 0, 0, 0, []) from rfl) rfl rfl ?_
        refine gh_get (show gh_at (gm_me 212).1 157 = some (157, 3, .getfield 27, 1, 13, [(0, 1454)]) from rfl) rfl (by decide +kernel) (by decide +kernel) (gh_rdr (r := 1931) (by decide +kernel) rfl) ?_
        refine gh_aload_n (show gh_at (gm_me 212).1 160 = some (160, 1, .aload_n 0, 0, 0, []) from rfl) rfl rfl ?_
        refine gh_get (show gh_at (gm_me 212).1 161 = some (161, 3, .getfield 254, 1, 33, [(0, 1474)]) from rfl) rfl (by decide +kernel) (by decide +kernel) (gh_rd0 (by decide +kernel)) ?_
        rw [show σ (1891 / 8) 33 = ((1 - b : Nat) : Int) from hB]
        refine gh_dup2 (show gh_at (gm_me 212).1 164 = some (164, 1, .dup2, 0, 0, []) from rfl) rfl rfl ?_
        refine gh_iald (show gh_at (gm_me 212).1 165 = some (165, 1, .iaload, 0, 0, []) from rfl) rfl (by decide +kernel) (by decide +kernel) (gh_ix (N := 2) (by decide +kernel) (by omega) (by omega)) (gh_rd0 (gh_pk0 (by decide +kernel) _)) ?_
        rw [show (((1 - b : Nat) : Int)).toNat = 1 - b by omega]
        show gp_ok _ _ _ _ _ _ _ (.inl (σ 241 (1 - b)) :: _) _
        refine gh_iload_n (show gh_at (gm_me 212).1 166 = some (166, 1, .iload_n 2, 0, 0, []) from rfl) rfl ?_
        refine gh_if (show gh_at (gm_me 212).1 167 = some (167, 3, .ifCond .eq (7), 0, 174, []) from rfl) (fun _ => ?_) (fun q => absurd rfl q)
        refine gh_iconst (x := 1) (show gh_at (gm_me 212).1 174 = some (174, 1, .iconst 1, 8, 0, []) from rfl) (by decide) ?_
        refine gh_iadd (z := σ 241 (1 - b) + 1) (show gh_at (gm_me 212).1 175 = some (175, 1, .iadd, 0, 0, []) from rfl) (gh_add (by unfold gh_r; omega) (by unfold gh_r; omega) (by unfold gh_r; omega)) ?_
        refine gh_iast (show gh_at (gm_me 212).1 176 = some (176, 1, .iastore, 0, 0, []) from rfl) rfl (by decide +kernel) (by decide +kernel) (gh_ix (N := 2) (by decide +kernel) (by omega) (by omega)) (gh_pk0 (by decide +kernel) _) ?_
        rw [show (((1 - b : Nat) : Int)).toNat = 1 - b by omega]
        show gp_ok _ _ _ _ _ _ _ [] (gp_up σ 241 (1 - b) (σ 241 (1 - b) + 1))
        have e37 : (gp_up σ 241 (1 - b) (σ 241 (1 - b) + 1)) 236 37 = σ 236 37 := by simp [gp_up]
        refine gh_aload_n (show gh_at (gm_me 212).1 177 = some (177, 1, .aload_n 0, 0, 0, []) from rfl) rfl rfl ?_
        refine gh_dup (show gh_at (gm_me 212).1 178 = some (178, 1, .dup, 0, 0, []) from rfl) rfl ?_
        refine gh_get (show gh_at (gm_me 212).1 179 = some (179, 3, .getfield 302, 1, 37, [(0, 1478)]) from rfl) rfl (by decide +kernel) (by decide +kernel) (gh_rd0 (by decide +kernel)) ?_
        rw [show (gp_up σ 241 (1 - b) (σ 241 (1 - b) + 1)) (1891 / 8) 37 = σ 236 37 from e37]
        refine gh_iload_n (show gh_at (gm_me 212).1 182 = some (182, 1, .iload_n 2, 0, 0, []) from rfl) rfl ?_
        refine gh_if (show gh_at (gm_me 212).1 183 = some (183, 3, .ifCond .eq (7), 0, 190, []) from rfl) (fun _ => ?_) (fun q => absurd rfl q)
        refine gh_iconst (x := 1) (show gh_at (gm_me 212).1 190 = some (190, 1, .iconst 1, 8, 0, []) from rfl) (by decide) ?_
        refine gh_iadd (z := σ 236 37 + 1) (show gh_at (gm_me 212).1 191 = some (191, 1, .iadd, 0, 0, []) from rfl) (gh_add (by unfold gh_r; omega) (by unfold gh_r; omega) (by unfold gh_r; omega)) ?_
        refine gh_put (show gh_at (gm_me 212).1 192 = some (192, 3, .putfield 302, 1, 37, [(0, 1478)]) from rfl) rfl (by decide +kernel) (by decide +kernel) (by decide +kernel) (Or.inl rfl) ?_
        show gp_ok _ _ _ _ _ _ _ [] (gp_up (gp_up σ 241 (1 - b) (σ 241 (1 - b) + 1)) 236 37 (σ 236 37 + 1))
        have WA : gt_W (gs_wm b f) (gp_up (gp_up σ 241 (1 - b) (σ 241 (1 - b) + 1)) 236 37 (σ 236 37 + 1)) := gh_Wu (c := 236) (j := 37) (x := σ 236 37 + 1) (gh_Wu hW (c := 241) (j := 1 - b) (x := σ 241 (1 - b) + 1) (fun _ => gh_any (by unfold gh_r; omega))) (fun _ => gh_any (by unfold gh_r; omega))
        have FA : gt_fr gs_rml σ (gp_up (gp_up σ 241 (1 - b) (σ 241 (1 - b) + 1)) 236 37 (σ 236 37 + 1)) := gh_fu (gh_fu gh_f0 (gb_mo_mem _ (by decide))) (by decide +kernel)
        have JA : gr_J b r p n κ 0 1 (gr_w (gp_up (gp_up σ 241 (1 - b) (σ 241 (1 - b) + 1)) 236 37 (σ 236 37 + 1)) p - 9) (gp_up (gp_up σ 241 (1 - b) (σ 241 (1 - b) + 1)) 236 37 (σ 236 37 + 1)) := gr_cnt hJ rfl (fun j h1 h2 => by rcases (show j = 33 ∨ j = 34 ∨ j = 35 ∨ j = 36 by omega) with e | e | e | e <;> subst e <;> simp [gp_up]) (by simp [gp_up]) (fun j => by simp [gp_up]) (by simp [gp_up]) (fun j => by simp [gp_up]) (fun j => by simp [gp_up]) (by omega) (by omega)
        have eA : gn_rem (gp_up (gp_up σ 241 (1 - b) (σ 241 (1 - b) + 1)) 236 37 (σ 236 37 + 1)) = gn_rem σ := gn_reme (by simp [gp_up]) (by simp [gp_up]) (by simp [gp_up])
        have ZA : gm_Z (gn_rem σ) (gp_up (gp_up σ 241 (1 - b) (σ 241 (1 - b) + 1)) 236 37 (σ 236 37 + 1)) := gm_Zn (by simp [gp_up]) (by simp [gp_up]) (by simp [gp_up]) hZ1
        have tA : ¬ (gp_up (gp_up σ 241 (1 - b) (σ 241 (1 - b) + 1)) 236 37 (σ 236 37 + 1)) 236 8 = 0 := by simp [gp_up]; exact htok
        have wA : (gp_up (gp_up σ 241 (1 - b) (σ 241 (1 - b) + 1)) 236 37 (σ 236 37 + 1)) 236 35 = gr_w (gp_up (gp_up σ 241 (1 - b) (σ 241 (1 - b) + 1)) 236 37 (σ 236 37 + 1)) p := JA.2.2.2.2.2.1
        have hA35 : (gp_up (gp_up σ 241 (1 - b) (σ 241 (1 - b) + 1)) 236 37 (σ 236 37 + 1)) 236 35 = σ 236 35 := by simp [gp_up]
        generalize (gp_up (gp_up σ 241 (1 - b) (σ 241 (1 - b) + 1)) 236 37 (σ 236 37 + 1)) = σA at WA FA JA ZA tA wA hA35 eA ⊢
        refine gh_iload (show gh_at (gm_me 212).1 195 = some (195, 2, .iload 4, 0, 0, []) from rfl) rfl ?_
        refine gh_if (show gh_at (gm_me 212).1 197 = some (197, 3, .ifCond .ne (10), 0, 207, []) from rfl) (fun hc0 => ?_) (fun hc0 => ?_)
        · refine gh_iconst (x := 0) (show gh_at (gm_me 212).1 207 = some (207, 1, .iconst 0, 0, 0, []) from rfl) (by decide) ?_
          refine gh_istore (show gh_at (gm_me 212).1 208 = some (208, 2, .istore 6, 0, 0, []) from rfl) (fun c q => by cases q <;> decide) rfl ?_
          refine gh_aload_n (show gh_at (gm_me 212).1 210 = some (210, 1, .aload_n 0, 0, 0, []) from rfl) rfl rfl ?_
          refine gh_callV (r := 1891) (as := []) (t := []) (show gh_at (gm_me 212).1 211 = some (211, 3, .invokevirtual 237, 179, 0, [(0, 1641)]) from rfl) (by decide) rfl (by show 1 = _; decide +kernel) (Nat.le_trans (gh_wd _) (Nat.le_of_ble_eq_true rfl)) rfl (by decide +kernel) (by decide +kernel) (gz_goOn hb hf WA ZA.1) gh_mono (fun v σ2 hv => ?_)
          rw [show gm_rc 179 = 0 by decide +kernel]
          obtain ⟨W2, F2, h2, h3⟩ := hv
          show gp_ok _ _ _ _ _ _ _ [] σ2
          have hs := gn_step ZA F2 h2 h3
          have Z2 := hs.1
          have R2 := hs.2 tA
          rw [eA] at Z2 R2
          have J2 := gr_Jf (gh_ft gh_f0 F2 (by decide +kernel)) JA
          have G2 : gt_fr gs_rml σ σ2 := gh_ft FA F2 (by decide +kernel)
          have w2 : gr_w σ2 p = gr_w σA p := gr_we p (fun j _ => F2 257 j rfl)
          have P2 : σ2 236 36 = (p : Int) := J2.2.2.1
          have x35 : σ2 236 35 = σA 236 35 := F2 236 35 rfl
          refine gh_iload_n (show gh_at (gm_me 212).1 214 = some (214, 1, .iload_n 2, 0, 0, []) from rfl) rfl ?_
          refine gh_if (show gh_at (gm_me 212).1 215 = some (215, 3, .ifCond .ne (7), 0, 222, []) from rfl) (fun q => absurd rfl q) (fun _ => ?_)
          refine gh_iload_n (show gh_at (gm_me 212).1 218 = some (218, 1, .iload_n 3, 0, 0, []) from rfl) rfl ?_
          refine gh_if (show gh_at (gm_me 212).1 219 = some (219, 3, .ifCond .eq (31), 0, 250, []) from rfl) (fun hb0 => ?_) (fun hb0 => ?_)
          · have hb0 : br = 0 := hb0
            refine gh_aload_n (show gh_at (gm_me 212).1 250 = some (250, 1, .aload_n 0, 0, 0, []) from rfl) rfl rfl ?_
            refine gh_iload (show gh_at (gm_me 212).1 251 = some (251, 2, .iload 4, 0, 0, []) from rfl) rfl ?_
            refine gh_if (show gh_at (gm_me 212).1 253 = some (253, 3, .ifCond .ne (8), 0, 261, []) from rfl) (fun hc1 => ?_) (fun hc1 => ?_)
            · have hc1 : ¬ c = 0 := hc1
              have hlet := hc.resolve_left hc1
              refine gh_iload (show gh_at (gm_me 212).1 261 = some (261, 2, .iload 4, 0, 0, []) from rfl) rfl ?_
              refine gh_iload (show gh_at (gm_me 212).1 263 = some (263, 2, .iload 6, 0, 0, []) from rfl) rfl ?_
              have C2 : σ2 236 34 = ((r + n : Nat) : Int) := J2.1.2.1
              have bud := J2.2.2.2.2.2.2.2.2.2.2
              have bud2 := J2.1.2.2.2.2.2.2.1
              have hnr : gh_r (0) := by first | (unfold gh_r; omega) | exact (gh_tv (gh_Wg WA 236 9 (t := 34359738362) (by show ¬ 1 = 999; decide) (by show 9 < 65; decide) rfl (by decide))).1
              refine gh_callV (r := 1891) (as := [.inl c, .inl (0)]) (t := []) (show gh_at (gm_me 212).1 265 = some (265, 3, .invokevirtual 326, 208, 0, [(0, 1758)]) from rfl) (by decide) rfl (by show 3 = _; decide +kernel) (Nat.le_trans (gh_wd _) (Nat.le_of_ble_eq_true rfl)) rfl (by decide +kernel) (by decide +kernel) (Ψ := fun v σ9 => σ9 = (gp_up (gp_up (gp_up σ2 255 (r + n) c) 256 (r + n) (0)) 236 34 (((r + n : Nat) : Int) + 1))) (gz_emit (d := 2) (by omega) C2 rfl) gh_mono (fun v σ9 hv => ?_)
              rw [show gm_rc 208 = 0 by decide +kernel]
              subst hv
              show gp_ok _ _ _ _ _ _ _ [] (gp_up (gp_up (gp_up σ2 255 (r + n) c) 256 (r + n) (0)) 236 34 (((r + n : Nat) : Int) + 1))
              have W5 : gt_W (gs_wm b f) (gp_up (gp_up (gp_up σ2 255 (r + n) c) 256 (r + n) (0)) 236 34 (((r + n : Nat) : Int) + 1)) := gh_Wu (c := 236) (j := 34) (x := ((r + n : Nat) : Int) + 1) (gh_Wu (c := 256) (j := r + n) (x := (0)) (gh_Wu W2 (c := 255) (j := r + n) (x := c) (fun _ => gh_any (by unfold gh_r; omega))) (fun _ => gh_any hnr)) (fun _ => gh_any (by unfold gh_r; omega))
              have F5 : gt_fr gs_rml σ (gp_up (gp_up (gp_up σ2 255 (r + n) c) 256 (r + n) (0)) 236 34 (((r + n : Nat) : Int) + 1)) := gh_fu (gh_fu (gh_fu G2 (gb_mo_mem _ (by decide))) (gb_mo_mem _ (by decide))) (by decide +kernel)
              have J5 : gr_J b r p (n + 1) κ 1 0 (-1) (gp_up (gp_up (gp_up σ2 255 (r + n) c) 256 (r + n) (0)) 236 34 (((r + n : Nat) : Int) + 1)) := gr_opd (x := c) (t := 9) (by rw [w2]; exact J2) rfl (⟨hlet.1, hlet.2.1⟩) (by simp [gp_up]) (by simp [gp_up]) (by simp [gp_up]) (by simp [gp_up]) (by simp [gp_up]) (fun j hj => by simp [gp_up, hj]) (by simp [gp_up]) (fun j => by simp [gp_up]) (fun j => by simp [gp_up]) (fun j => by simp [gp_up])
              have E5 : gn_rem (gp_up (gp_up (gp_up σ2 255 (r + n) c) 256 (r + n) (0)) 236 34 (((r + n : Nat) : Int) + 1)) = gn_rem σ2 := gn_reme (by simp [gp_up]) (by simp [gp_up]) (by simp [gp_up])
              have Z5 : gm_Z (gn_rem σ) (gp_up (gp_up (gp_up σ2 255 (r + n) c) 256 (r + n) (0)) 236 34 (((r + n : Nat) : Int) + 1)) := gm_Zn (by simp [gp_up]) (by simp [gp_up]) (by simp [gp_up]) Z2
              generalize (gp_up (gp_up (gp_up σ2 255 (r + n) c) 256 (r + n) (0)) 236 34 (((r + n : Nat) : Int) + 1)) = σ5 at W5 F5 J5 E5 Z5 ⊢
              refine gh_iconst (x := 0) (show gh_at (gm_me 212).1 268 = some (268, 1, .iconst 0, 0, 0, []) from rfl) (by decide) ?_
              refine gh_iret (show gh_at (gm_me 212).1 269 = some (269, 1, .ireturn, 0, 0, []) from rfl) ?_
              exact Or.inr ⟨rfl, Or.inl rfl, W5, F5, Z5, 0, rfl, Or.inr (Or.inl ⟨by omega, Or.inr ⟨rfl, p, n + 1, J5⟩⟩)⟩
            · refine gh_bipush (x := 110) (show gh_at (gm_me 212).1 256 = some (256, 2, .bipush (110), 880, 0, []) from rfl) (by decide) ?_
              refine gh_goto (show gh_at (gm_me 212).1 258 = some (258, 3, .goto (5), 0, 263, []) from rfl) ?_
              refine gh_iload (show gh_at (gm_me 212).1 263 = some (263, 2, .iload 6, 0, 0, []) from rfl) rfl ?_
              have C2 : σ2 236 34 = ((r + n : Nat) : Int) := J2.1.2.1
              have bud := J2.2.2.2.2.2.2.2.2.2.2
              have bud2 := J2.1.2.2.2.2.2.2.1
              have hnr : gh_r (0) := by first | (unfold gh_r; omega) | exact (gh_tv (gh_Wg WA 236 9 (t := 34359738362) (by show ¬ 1 = 999; decide) (by show 9 < 65; decide) rfl (by decide))).1
              refine gh_callV (r := 1891) (as := [.inl 110, .inl (0)]) (t := []) (show gh_at (gm_me 212).1 265 = some (265, 3, .invokevirtual 326, 208, 0, [(0, 1758)]) from rfl) (by decide) rfl (by show 3 = _; decide +kernel) (Nat.le_trans (gh_wd _) (Nat.le_of_ble_eq_true rfl)) rfl (by decide +kernel) (by decide +kernel) (Ψ := fun v σ9 => σ9 = (gp_up (gp_up (gp_up σ2 255 (r + n) 110) 256 (r + n) (0)) 236 34 (((r + n : Nat) : Int) + 1))) (gz_emit (d := 2) (by omega) C2 rfl) gh_mono (fun v σ9 hv => ?_)
              rw [show gm_rc 208 = 0 by decide +kernel]
              subst hv
              show gp_ok _ _ _ _ _ _ _ [] (gp_up (gp_up (gp_up σ2 255 (r + n) 110) 256 (r + n) (0)) 236 34 (((r + n : Nat) : Int) + 1))
              have W5 : gt_W (gs_wm b f) (gp_up (gp_up (gp_up σ2 255 (r + n) 110) 256 (r + n) (0)) 236 34 (((r + n : Nat) : Int) + 1)) := gh_Wu (c := 236) (j := 34) (x := ((r + n : Nat) : Int) + 1) (gh_Wu (c := 256) (j := r + n) (x := (0)) (gh_Wu W2 (c := 255) (j := r + n) (x := 110) (fun _ => gh_any (by unfold gh_r; omega))) (fun _ => gh_any hnr)) (fun _ => gh_any (by unfold gh_r; omega))
              have F5 : gt_fr gs_rml σ (gp_up (gp_up (gp_up σ2 255 (r + n) 110) 256 (r + n) (0)) 236 34 (((r + n : Nat) : Int) + 1)) := gh_fu (gh_fu (gh_fu G2 (gb_mo_mem _ (by decide))) (gb_mo_mem _ (by decide))) (by decide +kernel)
              have J5 : gr_J b r p (n + 1) κ 1 0 (-1) (gp_up (gp_up (gp_up σ2 255 (r + n) 110) 256 (r + n) (0)) 236 34 (((r + n : Nat) : Int) + 1)) := gr_opd (x := 110) (t := 9) (by rw [w2]; exact J2) rfl (by omega) (by simp [gp_up]) (by simp [gp_up]) (by simp [gp_up]) (by simp [gp_up]) (by simp [gp_up]) (fun j hj => by simp [gp_up, hj]) (by simp [gp_up]) (fun j => by simp [gp_up]) (fun j => by simp [gp_up]) (fun j => by simp [gp_up])
              have E5 : gn_rem (gp_up (gp_up (gp_up σ2 255 (r + n) 110) 256 (r + n) (0)) 236 34 (((r + n : Nat) : Int) + 1)) = gn_rem σ2 := gn_reme (by simp [gp_up]) (by simp [gp_up]) (by simp [gp_up])
              have Z5 : gm_Z (gn_rem σ) (gp_up (gp_up (gp_up σ2 255 (r + n) 110) 256 (r + n) (0)) 236 34 (((r + n : Nat) : Int) + 1)) := gm_Zn (by simp [gp_up]) (by simp [gp_up]) (by simp [gp_up]) Z2
              generalize (gp_up (gp_up (gp_up σ2 255 (r + n) 110) 256 (r + n) (0)) 236 34 (((r + n : Nat) : Int) + 1)) = σ5 at W5 F5 J5 E5 Z5 ⊢
              refine gh_iconst (x := 0) (show gh_at (gm_me 212).1 268 = some (268, 1, .iconst 0, 0, 0, []) from rfl) (by decide) ?_
              refine gh_iret (show gh_at (gm_me 212).1 269 = some (269, 1, .ireturn, 0, 0, []) from rfl) ?_
              exact Or.inr ⟨rfl, Or.inl rfl, W5, F5, Z5, 0, rfl, Or.inr (Or.inl ⟨by omega, Or.inr ⟨rfl, p, n + 1, J5⟩⟩)⟩
          · have hb1 : br = 1 := (hbr.resolve_left hb0).1
            refine gh_aload_n (show gh_at (gm_me 212).1 222 = some (222, 1, .aload_n 0, 0, 0, []) from rfl) rfl rfl ?_
            refine gh_iload_n (show gh_at (gm_me 212).1 223 = some (223, 1, .iload_n 2, 0, 0, []) from rfl) rfl ?_
            refine gh_if (show gh_at (gm_me 212).1 224 = some (224, 3, .ifCond .eq (7), 0, 231, []) from rfl) (fun _ => ?_) (fun q => absurd rfl q)
            refine gh_bipush (x := 7) (show gh_at (gm_me 212).1 231 = some (231, 2, .bipush (7), 56, 0, []) from rfl) (by decide) ?_
            refine gh_bipush (x := 126) (show gh_at (gm_me 212).1 233 = some (233, 2, .bipush (126), 1008, 0, []) from rfl) (by decide) ?_
            refine gh_callV (r := 1891) (as := [.inl 7, .inl 126]) (t := []) (show gh_at (gm_me 212).1 235 = some (235, 3, .invokevirtual 314, 209, 0, [(0, 1742)]) from rfl) (by decide) rfl (by show 3 = _; decide +kernel) (Nat.le_trans (gh_wd _) (Nat.le_of_ble_eq_true rfl)) rfl (by decide +kernel) (by decide +kernel) (Ψ := fun v σ9 => σ9 = (gp_up (gp_up (gp_up σ2 257 p 7) 258 p 126) 236 36 ((p : Int) + 1))) (gz_push (d := 2) (by omega) P2 rfl) gh_mono (fun v σ9 hv => ?_)
            rw [show gm_rc 209 = 0 by decide +kernel]
            subst hv
            show gp_ok _ _ _ _ _ _ _ [] (gp_up (gp_up (gp_up σ2 257 p 7) 258 p 126) 236 36 ((p : Int) + 1))
            have e35 : (gp_up (gp_up (gp_up σ2 257 p 7) 258 p 126) 236 36 ((p : Int) + 1)) 236 35 = σ2 236 35 := by simp [gp_up]
            refine gh_aload_n (show gh_at (gm_me 212).1 238 = some (238, 1, .aload_n 0, 0, 0, []) from rfl) rfl rfl ?_
            refine gh_dup (show gh_at (gm_me 212).1 239 = some (239, 1, .dup, 0, 0, []) from rfl) rfl ?_
            refine gh_get (show gh_at (gm_me 212).1 240 = some (240, 3, .getfield 311, 1, 35, [(0, 1476)]) from rfl) rfl (by decide +kernel) (by decide +kernel) (gh_rd0 (by decide +kernel)) ?_
            rw [show (gp_up (gp_up (gp_up σ2 257 p 7) 258 p 126) 236 36 ((p : Int) + 1)) (1891 / 8) 35 = σ2 236 35 from e35]
            refine gh_iconst (x := 1) (show gh_at (gm_me 212).1 243 = some (243, 1, .iconst 1, 8, 0, []) from rfl) (by decide) ?_
            refine gh_iadd (z := σ2 236 35 + 1) (show gh_at (gm_me 212).1 244 = some (244, 1, .iadd, 0, 0, []) from rfl) (gh_add (by unfold gh_r; omega) (by unfold gh_r; omega) (by unfold gh_r; omega)) ?_
            refine gh_put (show gh_at (gm_me 212).1 245 = some (245, 3, .putfield 311, 1, 35, [(0, 1476)]) from rfl) rfl (by decide +kernel) (by decide +kernel) (by decide +kernel) (Or.inl rfl) ?_
            show gp_ok _ _ _ _ _ _ _ [] (gp_up (gp_up (gp_up (gp_up σ2 257 p 7) 258 p 126) 236 36 ((p : Int) + 1)) 236 35 (σ2 236 35 + 1))
            have W5 : gt_W (gs_wm b f) (gp_up (gp_up (gp_up (gp_up σ2 257 p 7) 258 p 126) 236 36 ((p : Int) + 1)) 236 35 (σ2 236 35 + 1)) := gh_Wu (c := 236) (j := 35) (x := σ2 236 35 + 1) (gh_Wu (c := 236) (j := 36) (x := (p : Int) + 1) (gh_Wu (c := 258) (j := p) (x := 126) (gh_Wu W2 (c := 257) (j := p) (x := 7) (fun _ => gh_any (by unfold gh_r; omega))) (fun _ => gh_any (by unfold gh_r; omega))) (fun _ => gh_any (by unfold gh_r; omega))) (fun _ => gh_any (by unfold gh_r; omega))
            have F5 : gt_fr gs_rml σ (gp_up (gp_up (gp_up (gp_up σ2 257 p 7) 258 p 126) 236 36 ((p : Int) + 1)) 236 35 (σ2 236 35 + 1)) := gh_fu (gh_fu (gh_fu (gh_fu G2 (gb_mo_mem _ (by decide))) (gb_mo_mem _ (by decide))) (by decide +kernel)) (by decide +kernel)
            have J5 : gr_J b r (p + 1) n κ 0 0 (gr_w (gp_up (gp_up (gp_up (gp_up σ2 257 p 7) 258 p 126) 236 36 ((p : Int) + 1)) 236 35 (σ2 236 35 + 1)) (p + 1)) (gp_up (gp_up (gp_up (gp_up σ2 257 p 7) 258 p 126) 236 36 ((p : Int) + 1)) 236 35 (σ2 236 35 + 1)) := gr_lay (x := 7) J2 (by omega) (by omega) (by omega) (by omega) (by simp [gp_up]) (by simp [gp_up]) (by simp [gp_up]) (by simp [gp_up]) (by simp [gp_up]) (fun j => by simp [gp_up]) (fun j => by simp [gp_up]) (fun j hj => by simp [gp_up, hj]) (by simp [gp_up]) (fun j hj => by simp [gp_up, hj]) (by simp [gp_up])
            have E5 : gn_rem (gp_up (gp_up (gp_up (gp_up σ2 257 p 7) 258 p 126) 236 36 ((p : Int) + 1)) 236 35 (σ2 236 35 + 1)) = gn_rem σ2 := gn_reme (by simp [gp_up]) (by simp [gp_up]) (by simp [gp_up])
            have Z5 : gm_Z (gn_rem σ) (gp_up (gp_up (gp_up (gp_up σ2 257 p 7) 258 p 126) 236 36 ((p : Int) + 1)) 236 35 (σ2 236 35 + 1)) := gm_Zn (by simp [gp_up]) (by simp [gp_up]) (by simp [gp_up]) Z2
            generalize (gp_up (gp_up (gp_up (gp_up σ2 257 p 7) 258 p 126) 236 36 ((p : Int) + 1)) 236 35 (σ2 236 35 + 1)) = σ5 at W5 F5 J5 E5 Z5 ⊢
            refine gh_iconst (x := 1) (show gh_at (gm_me 212).1 248 = some (248, 1, .iconst 1, 8, 0, []) from rfl) (by decide) ?_
            refine gh_iret (show gh_at (gm_me 212).1 249 = some (249, 1, .ireturn, 0, 0, []) from rfl) ?_
            exact Or.inr ⟨rfl, Or.inr rfl, W5, F5, Z5, 1, rfl, Or.inr (Or.inl ⟨by omega, Or.inl ⟨rfl, p + 1, n, J5⟩⟩)⟩
        · have hc0 : c = 0 := Decidable.not_not.mp hc0
          refine gh_aload_n (show gh_at (gm_me 212).1 200 = some (200, 1, .aload_n 0, 0, 0, []) from rfl) rfl rfl ?_
          refine gh_get (show gh_at (gm_me 212).1 201 = some (201, 3, .getfield 223, 1, 9, [(0, 1450)]) from rfl) rfl (by decide +kernel) (by decide +kernel) (gh_rd0 (by decide +kernel)) ?_
          show gp_ok _ _ _ _ _ _ _ (.inl (σA 236 9) :: _) _
          refine gh_goto (show gh_at (gm_me 212).1 204 = some (204, 3, .goto (4), 0, 208, []) from rfl) ?_
          refine gh_istore (show gh_at (gm_me 212).1 208 = some (208, 2, .istore 6, 0, 0, []) from rfl) (fun c q => by cases q <;> decide) rfl ?_
          refine gh_aload_n (show gh_at (gm_me 212).1 210 = some (210, 1, .aload_n 0, 0, 0, []) from rfl) rfl rfl ?_
          refine gh_callV (r := 1891) (as := []) (t := []) (show gh_at (gm_me 212).1 211 = some (211, 3, .invokevirtual 237, 179, 0, [(0, 1641)]) from rfl) (by decide) rfl (by show 1 = _; decide +kernel) (Nat.le_trans (gh_wd _) (Nat.le_of_ble_eq_true rfl)) rfl (by decide +kernel) (by decide +kernel) (gz_goOn hb hf WA ZA.1) gh_mono (fun v σ2 hv => ?_)
          rw [show gm_rc 179 = 0 by decide +kernel]
          obtain ⟨W2, F2, h2, h3⟩ := hv
          show gp_ok _ _ _ _ _ _ _ [] σ2
          have hs := gn_step ZA F2 h2 h3
          have Z2 := hs.1
          have R2 := hs.2 tA
          rw [eA] at Z2 R2
          have J2 := gr_Jf (gh_ft gh_f0 F2 (by decide +kernel)) JA
          have G2 : gt_fr gs_rml σ σ2 := gh_ft FA F2 (by decide +kernel)
          have w2 : gr_w σ2 p = gr_w σA p := gr_we p (fun j _ => F2 257 j rfl)
          have P2 : σ2 236 36 = (p : Int) := J2.2.2.1
          have x35 : σ2 236 35 = σA 236 35 := F2 236 35 rfl
          refine gh_iload_n (show gh_at (gm_me 212).1 214 = some (214, 1, .iload_n 2, 0, 0, []) from rfl) rfl ?_
          refine gh_if (show gh_at (gm_me 212).1 215 = some (215, 3, .ifCond .ne (7), 0, 222, []) from rfl) (fun q => absurd rfl q) (fun _ => ?_)
          refine gh_iload_n (show gh_at (gm_me 212).1 218 = some (218, 1, .iload_n 3, 0, 0, []) from rfl) rfl ?_
          refine gh_if (show gh_at (gm_me 212).1 219 = some (219, 3, .ifCond .eq (31), 0, 250, []) from rfl) (fun hb0 => ?_) (fun hb0 => ?_)
          · have hb0 : br = 0 := hb0
            refine gh_aload_n (show gh_at (gm_me 212).1 250 = some (250, 1, .aload_n 0, 0, 0, []) from rfl) rfl rfl ?_
            refine gh_iload (show gh_at (gm_me 212).1 251 = some (251, 2, .iload 4, 0, 0, []) from rfl) rfl ?_
            refine gh_if (show gh_at (gm_me 212).1 253 = some (253, 3, .ifCond .ne (8), 0, 261, []) from rfl) (fun hc1 => ?_) (fun hc1 => ?_)
            · have hc1 : ¬ c = 0 := hc1
              have hlet := hc.resolve_left hc1
              refine gh_iload (show gh_at (gm_me 212).1 261 = some (261, 2, .iload 4, 0, 0, []) from rfl) rfl ?_
              refine gh_iload (show gh_at (gm_me 212).1 263 = some (263, 2, .iload 6, 0, 0, []) from rfl) rfl ?_
              have C2 : σ2 236 34 = ((r + n : Nat) : Int) := J2.1.2.1
              have bud := J2.2.2.2.2.2.2.2.2.2.2
              have bud2 := J2.1.2.2.2.2.2.2.1
              have hnr : gh_r (σA 236 9) := by first | (unfold gh_r; omega) | exact (gh_tv (gh_Wg WA 236 9 (t := 34359738362) (by show ¬ 1 = 999; decide) (by show 9 < 65; decide) rfl (by decide))).1
              refine gh_callV (r := 1891) (as := [.inl c, .inl (σA 236 9)]) (t := []) (show gh_at (gm_me 212).1 265 = some (265, 3, .invokevirtual 326, 208, 0, [(0, 1758)]) from rfl) (by decide) rfl (by show 3 = _; decide +kernel) (Nat.le_trans (gh_wd _) (Nat.le_of_ble_eq_true rfl)) rfl (by decide +kernel) (by decide +kernel) (Ψ := fun v σ9 => σ9 = (gp_up (gp_up (gp_up σ2 255 (r + n) c) 256 (r + n) (σA 236 9)) 236 34 (((r + n : Nat) : Int) + 1))) (gz_emit (d := 2) (by omega) C2 rfl) gh_mono (fun v σ9 hv => ?_)
              rw [show gm_rc 208 = 0 by decide +kernel]
              subst hv
              show gp_ok _ _ _ _ _ _ _ [] (gp_up (gp_up (gp_up σ2 255 (r + n) c) 256 (r + n) (σA 236 9)) 236 34 (((r + n : Nat) : Int) + 1))
              have W5 : gt_W (gs_wm b f) (gp_up (gp_up (gp_up σ2 255 (r + n) c) 256 (r + n) (σA 236 9)) 236 34 (((r + n : Nat) : Int) + 1)) := gh_Wu (c := 236) (j := 34) (x := ((r + n : Nat) : Int) + 1) (gh_Wu (c := 256) (j := r + n) (x := (σA 236 9)) (gh_Wu W2 (c := 255) (j := r + n) (x := c) (fun _ => gh_any (by unfold gh_r; omega))) (fun _ => gh_any hnr)) (fun _ => gh_any (by unfold gh_r; omega))
              have F5 : gt_fr gs_rml σ (gp_up (gp_up (gp_up σ2 255 (r + n) c) 256 (r + n) (σA 236 9)) 236 34 (((r + n : Nat) : Int) + 1)) := gh_fu (gh_fu (gh_fu G2 (gb_mo_mem _ (by decide))) (gb_mo_mem _ (by decide))) (by decide +kernel)
              have J5 : gr_J b r p (n + 1) κ 1 0 (-1) (gp_up (gp_up (gp_up σ2 255 (r + n) c) 256 (r + n) (σA 236 9)) 236 34 (((r + n : Nat) : Int) + 1)) := gr_opd (x := c) (t := 9) (by rw [w2]; exact J2) rfl (⟨hlet.1, hlet.2.1⟩) (by simp [gp_up]) (by simp [gp_up]) (by simp [gp_up]) (by simp [gp_up]) (by simp [gp_up]) (fun j hj => by simp [gp_up, hj]) (by simp [gp_up]) (fun j => by simp [gp_up]) (fun j => by simp [gp_up]) (fun j => by simp [gp_up])
              have E5 : gn_rem (gp_up (gp_up (gp_up σ2 255 (r + n) c) 256 (r + n) (σA 236 9)) 236 34 (((r + n : Nat) : Int) + 1)) = gn_rem σ2 := gn_reme (by simp [gp_up]) (by simp [gp_up]) (by simp [gp_up])
              have Z5 : gm_Z (gn_rem σ) (gp_up (gp_up (gp_up σ2 255 (r + n) c) 256 (r + n) (σA 236 9)) 236 34 (((r + n : Nat) : Int) + 1)) := gm_Zn (by simp [gp_up]) (by simp [gp_up]) (by simp [gp_up]) Z2
              generalize (gp_up (gp_up (gp_up σ2 255 (r + n) c) 256 (r + n) (σA 236 9)) 236 34 (((r + n : Nat) : Int) + 1)) = σ5 at W5 F5 J5 E5 Z5 ⊢
              refine gh_iconst (x := 0) (show gh_at (gm_me 212).1 268 = some (268, 1, .iconst 0, 0, 0, []) from rfl) (by decide) ?_
              refine gh_iret (show gh_at (gm_me 212).1 269 = some (269, 1, .ireturn, 0, 0, []) from rfl) ?_
              exact Or.inr ⟨rfl, Or.inl rfl, W5, F5, Z5, 0, rfl, Or.inr (Or.inl ⟨by omega, Or.inr ⟨rfl, p, n + 1, J5⟩⟩)⟩
            · refine gh_bipush (x := 110) (show gh_at (gm_me 212).1 256 = some (256, 2, .bipush (110), 880, 0, []) from rfl) (by decide) ?_
              refine gh_goto (show gh_at (gm_me 212).1 258 = some (258, 3, .goto (5), 0, 263, []) from rfl) ?_
              refine gh_iload (show gh_at (gm_me 212).1 263 = some (263, 2, .iload 6, 0, 0, []) from rfl) rfl ?_
              have C2 : σ2 236 34 = ((r + n : Nat) : Int) := J2.1.2.1
              have bud := J2.2.2.2.2.2.2.2.2.2.2
              have bud2 := J2.1.2.2.2.2.2.2.1
              have hnr : gh_r (σA 236 9) := by first | (unfold gh_r; omega) | exact (gh_tv (gh_Wg WA 236 9 (t := 34359738362) (by show ¬ 1 = 999; decide) (by show 9 < 65; decide) rfl (by decide))).1
              refine gh_callV (r := 1891) (as := [.inl 110, .inl (σA 236 9)]) (t := []) (show gh_at (gm_me 212).1 265 = some (265, 3, .invokevirtual 326, 208, 0, [(0, 1758)]) from rfl) (by decide) rfl (by show 3 = _; decide +kernel) (Nat.le_trans (gh_wd _) (Nat.le_of_ble_eq_true rfl)) rfl (by decide +kernel) (by decide +kernel) (Ψ := fun v σ9 => σ9 = (gp_up (gp_up (gp_up σ2 255 (r + n) 110) 256 (r + n) (σA 236 9)) 236 34 (((r + n : Nat) : Int) + 1))) (gz_emit (d := 2) (by omega) C2 rfl) gh_mono (fun v σ9 hv => ?_)
              rw [show gm_rc 208 = 0 by decide +kernel]
              subst hv
              show gp_ok _ _ _ _ _ _ _ [] (gp_up (gp_up (gp_up σ2 255 (r + n) 110) 256 (r + n) (σA 236 9)) 236 34 (((r + n : Nat) : Int) + 1))
              have W5 : gt_W (gs_wm b f) (gp_up (gp_up (gp_up σ2 255 (r + n) 110) 256 (r + n) (σA 236 9)) 236 34 (((r + n : Nat) : Int) + 1)) := gh_Wu (c := 236) (j := 34) (x := ((r + n : Nat) : Int) + 1) (gh_Wu (c := 256) (j := r + n) (x := (σA 236 9)) (gh_Wu W2 (c := 255) (j := r + n) (x := 110) (fun _ => gh_any (by unfold gh_r; omega))) (fun _ => gh_any hnr)) (fun _ => gh_any (by unfold gh_r; omega))
              have F5 : gt_fr gs_rml σ (gp_up (gp_up (gp_up σ2 255 (r + n) 110) 256 (r + n) (σA 236 9)) 236 34 (((r + n : Nat) : Int) + 1)) := gh_fu (gh_fu (gh_fu G2 (gb_mo_mem _ (by decide))) (gb_mo_mem _ (by decide))) (by decide +kernel)
              have J5 : gr_J b r p (n + 1) κ 1 0 (-1) (gp_up (gp_up (gp_up σ2 255 (r + n) 110) 256 (r + n) (σA 236 9)) 236 34 (((r + n : Nat) : Int) + 1)) := gr_opd (x := 110) (t := 9) (by rw [w2]; exact J2) rfl (by omega) (by simp [gp_up]) (by simp [gp_up]) (by simp [gp_up]) (by simp [gp_up]) (by simp [gp_up]) (fun j hj => by simp [gp_up, hj]) (by simp [gp_up]) (fun j => by simp [gp_up]) (fun j => by simp [gp_up]) (fun j => by simp [gp_up])
              have E5 : gn_rem (gp_up (gp_up (gp_up σ2 255 (r + n) 110) 256 (r + n) (σA 236 9)) 236 34 (((r + n : Nat) : Int) + 1)) = gn_rem σ2 := gn_reme (by simp [gp_up]) (by simp [gp_up]) (by simp [gp_up])
              have Z5 : gm_Z (gn_rem σ) (gp_up (gp_up (gp_up σ2 255 (r + n) 110) 256 (r + n) (σA 236 9)) 236 34 (((r + n : Nat) : Int) + 1)) := gm_Zn (by simp [gp_up]) (by simp [gp_up]) (by simp [gp_up]) Z2
              generalize (gp_up (gp_up (gp_up σ2 255 (r + n) 110) 256 (r + n) (σA 236 9)) 236 34 (((r + n : Nat) : Int) + 1)) = σ5 at W5 F5 J5 E5 Z5 ⊢
              refine gh_iconst (x := 0) (show gh_at (gm_me 212).1 268 = some (268, 1, .iconst 0, 0, 0, []) from rfl) (by decide) ?_
              refine gh_iret (show gh_at (gm_me 212).1 269 = some (269, 1, .ireturn, 0, 0, []) from rfl) ?_
              exact Or.inr ⟨rfl, Or.inl rfl, W5, F5, Z5, 0, rfl, Or.inr (Or.inl ⟨by omega, Or.inr ⟨rfl, p, n + 1, J5⟩⟩)⟩
          · have hb1 : br = 1 := (hbr.resolve_left hb0).1
            refine gh_aload_n (show gh_at (gm_me 212).1 222 = some (222, 1, .aload_n 0, 0, 0, []) from rfl) rfl rfl ?_
            refine gh_iload_n (show gh_at (gm_me 212).1 223 = some (223, 1, .iload_n 2, 0, 0, []) from rfl) rfl ?_
            refine gh_if (show gh_at (gm_me 212).1 224 = some (224, 3, .ifCond .eq (7), 0, 231, []) from rfl) (fun _ => ?_) (fun q => absurd rfl q)
            refine gh_bipush (x := 7) (show gh_at (gm_me 212).1 231 = some (231, 2, .bipush (7), 56, 0, []) from rfl) (by decide) ?_
            refine gh_bipush (x := 126) (show gh_at (gm_me 212).1 233 = some (233, 2, .bipush (126), 1008, 0, []) from rfl) (by decide) ?_
            refine gh_callV (r := 1891) (as := [.inl 7, .inl 126]) (t := []) (show gh_at (gm_me 212).1 235 = some (235, 3, .invokevirtual 314, 209, 0, [(0, 1742)]) from rfl) (by decide) rfl (by show 3 = _; decide +kernel) (Nat.le_trans (gh_wd _) (Nat.le_of_ble_eq_true rfl)) rfl (by decide +kernel) (by decide +kernel) (Ψ := fun v σ9 => σ9 = (gp_up (gp_up (gp_up σ2 257 p 7) 258 p 126) 236 36 ((p : Int) + 1))) (gz_push (d := 2) (by omega) P2 rfl) gh_mono (fun v σ9 hv => ?_)
            rw [show gm_rc 209 = 0 by decide +kernel]
            subst hv
            show gp_ok _ _ _ _ _ _ _ [] (gp_up (gp_up (gp_up σ2 257 p 7) 258 p 126) 236 36 ((p : Int) + 1))
            have e35 : (gp_up (gp_up (gp_up σ2 257 p 7) 258 p 126) 236 36 ((p : Int) + 1)) 236 35 = σ2 236 35 := by simp [gp_up]
            refine gh_aload_n (show gh_at (gm_me 212).1 238 = some (238, 1, .aload_n 0, 0, 0, []) from rfl) rfl rfl ?_
            refine gh_dup (show gh_at (gm_me 212).1 239 = some (239, 1, .dup, 0, 0, []) from rfl) rfl ?_
            refine gh_get (show gh_at (gm_me 212).1 240 = some (240, 3, .getfield 311, 1, 35, [(0, 1476)]) from rfl) rfl (by decide +kernel) (by decide +kernel) (gh_rd0 (by decide +kernel)) ?_
            rw [show (gp_up (gp_up (gp_up σ2 257 p 7) 258 p 126) 236 36 ((p : Int) + 1)) (1891 / 8) 35 = σ2 236 35 from e35]
            refine gh_iconst (x := 1) (show gh_at (gm_me 212).1 243 = some (243, 1, .iconst 1, 8, 0, []) from rfl) (by decide) ?_
            refine gh_iadd (z := σ2 236 35 + 1) (show gh_at (gm_me 212).1 244 = some (244, 1, .iadd, 0, 0, []) from rfl) (gh_add (by unfold gh_r; omega) (by unfold gh_r; omega) (by unfold gh_r; omega)) ?_
            refine gh_put (show gh_at (gm_me 212).1 245 = some (245, 3, .putfield 311, 1, 35, [(0, 1476)]) from rfl) rfl (by decide +kernel) (by decide +kernel) (by decide +kernel) (Or.inl rfl) ?_
            show gp_ok _ _ _ _ _ _ _ [] (gp_up (gp_up (gp_up (gp_up σ2 257 p 7) 258 p 126) 236 36 ((p : Int) + 1)) 236 35 (σ2 236 35 + 1))
            have W5 : gt_W (gs_wm b f) (gp_up (gp_up (gp_up (gp_up σ2 257 p 7) 258 p 126) 236 36 ((p : Int) + 1)) 236 35 (σ2 236 35 + 1)) := gh_Wu (c := 236) (j := 35) (x := σ2 236 35 + 1) (gh_Wu (c := 236) (j := 36) (x := (p : Int) + 1) (gh_Wu (c := 258) (j := p) (x := 126) (gh_Wu W2 (c := 257) (j := p) (x := 7) (fun _ => gh_any (by unfold gh_r; omega))) (fun _ => gh_any (by unfold gh_r; omega))) (fun _ => gh_any (by unfold gh_r; omega))) (fun _ => gh_any (by unfold gh_r; omega))
            have F5 : gt_fr gs_rml σ (gp_up (gp_up (gp_up (gp_up σ2 257 p 7) 258 p 126) 236 36 ((p : Int) + 1)) 236 35 (σ2 236 35 + 1)) := gh_fu (gh_fu (gh_fu (gh_fu G2 (gb_mo_mem _ (by decide))) (gb_mo_mem _ (by decide))) (by decide +kernel)) (by decide +kernel)
            have J5 : gr_J b r (p + 1) n κ 0 0 (gr_w (gp_up (gp_up (gp_up (gp_up σ2 257 p 7) 258 p 126) 236 36 ((p : Int) + 1)) 236 35 (σ2 236 35 + 1)) (p + 1)) (gp_up (gp_up (gp_up (gp_up σ2 257 p 7) 258 p 126) 236 36 ((p : Int) + 1)) 236 35 (σ2 236 35 + 1)) := gr_lay (x := 7) J2 (by omega) (by omega) (by omega) (by omega) (by simp [gp_up]) (by simp [gp_up]) (by simp [gp_up]) (by simp [gp_up]) (by simp [gp_up]) (fun j => by simp [gp_up]) (fun j => by simp [gp_up]) (fun j hj => by simp [gp_up, hj]) (by simp [gp_up]) (fun j hj => by simp [gp_up, hj]) (by simp [gp_up])
            have E5 : gn_rem (gp_up (gp_up (gp_up (gp_up σ2 257 p 7) 258 p 126) 236 36 ((p : Int) + 1)) 236 35 (σ2 236 35 + 1)) = gn_rem σ2 := gn_reme (by simp [gp_up]) (by simp [gp_up]) (by simp [gp_up])
            have Z5 : gm_Z (gn_rem σ) (gp_up (gp_up (gp_up (gp_up σ2 257 p 7) 258 p 126) 236 36 ((p : Int) + 1)) 236 35 (σ2 236 35 + 1)) := gm_Zn (by simp [gp_up]) (by simp [gp_up]) (by simp [gp_up]) Z2
            generalize (gp_up (gp_up (gp_up (gp_up σ2 257 p 7) 258 p 126) 236 36 ((p : Int) + 1)) 236 35 (σ2 236 35 + 1)) = σ5 at W5 F5 J5 E5 Z5 ⊢
            refine gh_iconst (x := 1) (show gh_at (gm_me 212).1 248 = some (248, 1, .iconst 1, 8, 0, []) from rfl) (by decide) ?_
            refine gh_iret (show gh_at (gm_me 212).1 249 = some (249, 1, .ireturn, 0, 0, []) from rfl) ?_
            exact Or.inr ⟨rfl, Or.inr rfl, W5, F5, Z5, 1, rfl, Or.inr (Or.inl ⟨by omega, Or.inl ⟨rfl, p + 1, n, J5⟩⟩)⟩
      · obtain ⟨u, eu⟩ : ∃ u : Int, σ 241 (1 - b) = u := ⟨_, rfl⟩
        obtain ⟨w, ew⟩ : ∃ w : Int, σ 236 37 = w := ⟨_, rfl⟩
        refine gh_aload_n (show gh_at (gm_me 212).1 156 = some (156, 1, .aload_n 0, 0, 0, []) from rfl) rfl rfl ?_
        refine gh_get (show gh_at (gm_me 212).1 157 = some (157, 3, .getfield 27, 1, 13, [(0, 1454)]) from rfl) rfl (by decide +kernel) (by decide +kernel) (gh_rdr (r := 1931) (by decide +kernel) rfl) ?_
        refine gh_aload_n (show gh_at (gm_me 212).1 160 = some (160, 1, .aload_n 0, 0, 0, []) from rfl) rfl rfl ?_
        refine gh_get (show gh_at (gm_me 212).1 161 = some (161, 3, .getfield 254, 1, 33, [(0, 1474)]) from rfl) rfl (by decide +kernel) (by decide +kernel) (gh_rd0 (by decide +kernel)) ?_
        rw [show σ (1891 / 8) 33 = ((1 - b : Nat) : Int) from hB]
        refine gh_dup2 (show gh_at (gm_me 212).1 164 = some (164, 1, .dup2, 0, 0, []) from rfl) rfl rfl ?_
        refine gh_iald (show gh_at (gm_me 212).1 165 = some (165, 1, .iaload, 0, 0, []) from rfl) rfl (by decide +kernel) (by decide +kernel) (gh_ix (N := 2) (by decide +kernel) (by omega) (by omega)) (gh_rd0 (gh_pk0 (by decide +kernel) _)) ?_
        rw [show (((1 - b : Nat) : Int)).toNat = 1 - b by omega]
        show gp_ok _ _ _ _ _ _ _ (.inl (σ 241 (1 - b)) :: _) _
        refine gh_iload_n (show gh_at (gm_me 212).1 166 = some (166, 1, .iload_n 2, 0, 0, []) from rfl) rfl ?_
        refine gh_if (show gh_at (gm_me 212).1 167 = some (167, 3, .ifCond .eq (7), 0, 174, []) from rfl) (fun q => absurd (show (1 : Int) = 0 from q) (by decide)) (fun _ => ?_)
        refine gh_iconst (x := 0) (show gh_at (gm_me 212).1 170 = some (170, 1, .iconst 0, 0, 0, []) from rfl) (by decide) ?_
        refine gh_goto (show gh_at (gm_me 212).1 171 = some (171, 3, .goto (4), 0, 175, []) from rfl) ?_
        refine gh_iadd (z := σ 241 (1 - b)) (show gh_at (gm_me 212).1 175 = some (175, 1, .iadd, 0, 0, []) from rfl) (by rw [gh_add (by unfold gh_r; omega) (by unfold gh_r; omega) (by unfold gh_r; omega)]; omega) ?_
        refine gh_iast (show gh_at (gm_me 212).1 176 = some (176, 1, .iastore, 0, 0, []) from rfl) rfl (by decide +kernel) (by decide +kernel) (gh_ix (N := 2) (by decide +kernel) (by omega) (by omega)) (gh_pk0 (by decide +kernel) _) ?_
        rw [show (((1 - b : Nat) : Int)).toNat = 1 - b by omega]
        show gp_ok _ _ _ _ _ _ _ [] (gp_up σ 241 (1 - b) (σ 241 (1 - b)))
        rw [gh_up_id]
        refine gh_aload_n (show gh_at (gm_me 212).1 177 = some (177, 1, .aload_n 0, 0, 0, []) from rfl) rfl rfl ?_
        refine gh_dup (show gh_at (gm_me 212).1 178 = some (178, 1, .dup, 0, 0, []) from rfl) rfl ?_
        refine gh_get (show gh_at (gm_me 212).1 179 = some (179, 3, .getfield 302, 1, 37, [(0, 1478)]) from rfl) rfl (by decide +kernel) (by decide +kernel) (gh_rd0 (by decide +kernel)) ?_
        show gp_ok _ _ _ _ _ _ _ (.inl (σ 236 37) :: _) _
        refine gh_iload_n (show gh_at (gm_me 212).1 182 = some (182, 1, .iload_n 2, 0, 0, []) from rfl) rfl ?_
        refine gh_if (show gh_at (gm_me 212).1 183 = some (183, 3, .ifCond .eq (7), 0, 190, []) from rfl) (fun q => absurd (show (1 : Int) = 0 from q) (by decide)) (fun _ => ?_)
        refine gh_iconst (x := 0) (show gh_at (gm_me 212).1 186 = some (186, 1, .iconst 0, 0, 0, []) from rfl) (by decide) ?_
        refine gh_goto (show gh_at (gm_me 212).1 187 = some (187, 3, .goto (4), 0, 191, []) from rfl) ?_
        refine gh_iadd (z := σ 236 37) (show gh_at (gm_me 212).1 191 = some (191, 1, .iadd, 0, 0, []) from rfl) (by rw [gh_add (by unfold gh_r; omega) (by unfold gh_r; omega) (by unfold gh_r; omega)]; omega) ?_
        refine gh_put (show gh_at (gm_me 212).1 192 = some (192, 3, .putfield 302, 1, 37, [(0, 1478)]) from rfl) rfl (by decide +kernel) (by decide +kernel) (by decide +kernel) (Or.inl rfl) ?_
        show gp_ok _ _ _ _ _ _ _ [] (gp_up σ 236 37 (σ 236 37))
        rw [gh_up_id]
        have WA := hW
        have FA : gt_fr gs_rml σ σ := gh_f0
        have JA := hJ
        have ZA := hZ1
        have tA := htok
        have wA := hw0
        have eA : gn_rem σ = gn_rem σ := rfl
        have sA : gr_w σ p ≤ gr_w σ p := Int.le_refl _
        refine gh_iload (show gh_at (gm_me 212).1 195 = some (195, 2, .iload 4, 0, 0, []) from rfl) rfl ?_
        refine gh_if (show gh_at (gm_me 212).1 197 = some (197, 3, .ifCond .ne (10), 0, 207, []) from rfl) (fun hc0 => ?_) (fun hc0 => ?_)
        · refine gh_iconst (x := 0) (show gh_at (gm_me 212).1 207 = some (207, 1, .iconst 0, 0, 0, []) from rfl) (by decide) ?_
          refine gh_istore (show gh_at (gm_me 212).1 208 = some (208, 2, .istore 6, 0, 0, []) from rfl) (fun c q => by cases q <;> decide) rfl ?_
          refine gh_aload_n (show gh_at (gm_me 212).1 210 = some (210, 1, .aload_n 0, 0, 0, []) from rfl) rfl rfl ?_
          refine gh_callV (r := 1891) (as := []) (t := []) (show gh_at (gm_me 212).1 211 = some (211, 3, .invokevirtual 237, 179, 0, [(0, 1641)]) from rfl) (by decide) rfl (by show 1 = _; decide +kernel) (Nat.le_trans (gh_wd _) (Nat.le_of_ble_eq_true rfl)) rfl (by decide +kernel) (by decide +kernel) (gz_goOn hb hf WA ZA.1) gh_mono (fun v σ2 hv => ?_)
          rw [show gm_rc 179 = 0 by decide +kernel]
          obtain ⟨W2, F2, h2, h3⟩ := hv
          show gp_ok _ _ _ _ _ _ _ [] σ2
          have hs := gn_step ZA F2 h2 h3
          have Z2 := hs.1
          have R2 := hs.2 tA
          rw [eA] at Z2 R2
          have J2 := gr_Jf (gh_ft gh_f0 F2 (by decide +kernel)) JA
          have G2 : gt_fr gs_rml σ σ2 := gh_ft FA F2 (by decide +kernel)
          have w2 : gr_w σ2 p = gr_w σ p := gr_we p (fun j _ => F2 257 j rfl)
          have P2 : σ2 236 36 = (p : Int) := J2.2.2.1
          have x35 : σ2 236 35 = σ 236 35 := F2 236 35 rfl
          refine gh_iload_n (show gh_at (gm_me 212).1 214 = some (214, 1, .iload_n 2, 0, 0, []) from rfl) rfl ?_
          refine gh_if (show gh_at (gm_me 212).1 215 = some (215, 3, .ifCond .ne (7), 0, 222, []) from rfl) (fun _ => ?_) (fun q => absurd (show ¬ (1 : Int) = 0 by decide) q)
          refine gh_aload_n (show gh_at (gm_me 212).1 222 = some (222, 1, .aload_n 0, 0, 0, []) from rfl) rfl rfl ?_
          refine gh_iload_n (show gh_at (gm_me 212).1 223 = some (223, 1, .iload_n 2, 0, 0, []) from rfl) rfl ?_
          refine gh_if (show gh_at (gm_me 212).1 224 = some (224, 3, .ifCond .eq (7), 0, 231, []) from rfl) (fun q => absurd (show (1 : Int) = 0 from q) (by decide)) (fun _ => ?_)
          refine gh_iconst (x := 3) (show gh_at (gm_me 212).1 227 = some (227, 1, .iconst 3, 24, 0, []) from rfl) (by decide) ?_
          refine gh_goto (show gh_at (gm_me 212).1 228 = some (228, 3, .goto (5), 0, 233, []) from rfl) ?_
          refine gh_bipush (x := 126) (show gh_at (gm_me 212).1 233 = some (233, 2, .bipush (126), 1008, 0, []) from rfl) (by decide) ?_
          refine gh_callV (r := 1891) (as := [.inl 3, .inl 126]) (t := []) (show gh_at (gm_me 212).1 235 = some (235, 3, .invokevirtual 314, 209, 0, [(0, 1742)]) from rfl) (by decide) rfl (by show 3 = _; decide +kernel) (Nat.le_trans (gh_wd _) (Nat.le_of_ble_eq_true rfl)) rfl (by decide +kernel) (by decide +kernel) (Ψ := fun v σ9 => σ9 = (gp_up (gp_up (gp_up σ2 257 p 3) 258 p 126) 236 36 ((p : Int) + 1))) (gz_push (d := 2) (by omega) P2 rfl) gh_mono (fun v σ9 hv => ?_)
          rw [show gm_rc 209 = 0 by decide +kernel]
          subst hv
          show gp_ok _ _ _ _ _ _ _ [] (gp_up (gp_up (gp_up σ2 257 p 3) 258 p 126) 236 36 ((p : Int) + 1))
          have e35 : (gp_up (gp_up (gp_up σ2 257 p 3) 258 p 126) 236 36 ((p : Int) + 1)) 236 35 = σ2 236 35 := by simp [gp_up]
          refine gh_aload_n (show gh_at (gm_me 212).1 238 = some (238, 1, .aload_n 0, 0, 0, []) from rfl) rfl rfl ?_
          refine gh_dup (show gh_at (gm_me 212).1 239 = some (239, 1, .dup, 0, 0, []) from rfl) rfl ?_
          refine gh_get (show gh_at (gm_me 212).1 240 = some (240, 3, .getfield 311, 1, 35, [(0, 1476)]) from rfl) rfl (by decide +kernel) (by decide +kernel) (gh_rd0 (by decide +kernel)) ?_
          rw [show (gp_up (gp_up (gp_up σ2 257 p 3) 258 p 126) 236 36 ((p : Int) + 1)) (1891 / 8) 35 = σ2 236 35 from e35]
          refine gh_iconst (x := 1) (show gh_at (gm_me 212).1 243 = some (243, 1, .iconst 1, 8, 0, []) from rfl) (by decide) ?_
          refine gh_iadd (z := σ2 236 35 + 1) (show gh_at (gm_me 212).1 244 = some (244, 1, .iadd, 0, 0, []) from rfl) (gh_add (by unfold gh_r; omega) (by unfold gh_r; omega) (by unfold gh_r; omega)) ?_
          refine gh_put (show gh_at (gm_me 212).1 245 = some (245, 3, .putfield 311, 1, 35, [(0, 1476)]) from rfl) rfl (by decide +kernel) (by decide +kernel) (by decide +kernel) (Or.inl rfl) ?_
          show gp_ok _ _ _ _ _ _ _ [] (gp_up (gp_up (gp_up (gp_up σ2 257 p 3) 258 p 126) 236 36 ((p : Int) + 1)) 236 35 (σ2 236 35 + 1))
          have W5 : gt_W (gs_wm b f) (gp_up (gp_up (gp_up (gp_up σ2 257 p 3) 258 p 126) 236 36 ((p : Int) + 1)) 236 35 (σ2 236 35 + 1)) := gh_Wu (c := 236) (j := 35) (x := σ2 236 35 + 1) (gh_Wu (c := 236) (j := 36) (x := (p : Int) + 1) (gh_Wu (c := 258) (j := p) (x := 126) (gh_Wu W2 (c := 257) (j := p) (x := 3) (fun _ => gh_any (by unfold gh_r; omega))) (fun _ => gh_any (by unfold gh_r; omega))) (fun _ => gh_any (by unfold gh_r; omega))) (fun _ => gh_any (by unfold gh_r; omega))
          have F5 : gt_fr gs_rml σ (gp_up (gp_up (gp_up (gp_up σ2 257 p 3) 258 p 126) 236 36 ((p : Int) + 1)) 236 35 (σ2 236 35 + 1)) := gh_fu (gh_fu (gh_fu (gh_fu G2 (gb_mo_mem _ (by decide))) (gb_mo_mem _ (by decide))) (by decide +kernel)) (by decide +kernel)
          have J5 : gr_J b r (p + 1) n κ 0 0 (gr_w (gp_up (gp_up (gp_up (gp_up σ2 257 p 3) 258 p 126) 236 36 ((p : Int) + 1)) 236 35 (σ2 236 35 + 1)) (p + 1)) (gp_up (gp_up (gp_up (gp_up σ2 257 p 3) 258 p 126) 236 36 ((p : Int) + 1)) 236 35 (σ2 236 35 + 1)) := gr_lay (x := 3) J2 (by omega) (by omega) (by omega) (by omega) (by simp [gp_up]) (by simp [gp_up]) (by simp [gp_up]) (by simp [gp_up]) (by simp [gp_up]) (fun j => by simp [gp_up]) (fun j => by simp [gp_up]) (fun j hj => by simp [gp_up, hj]) (by simp [gp_up]) (fun j hj => by simp [gp_up, hj]) (by simp [gp_up])
          have E5 : gn_rem (gp_up (gp_up (gp_up (gp_up σ2 257 p 3) 258 p 126) 236 36 ((p : Int) + 1)) 236 35 (σ2 236 35 + 1)) = gn_rem σ2 := gn_reme (by simp [gp_up]) (by simp [gp_up]) (by simp [gp_up])
          have Z5 : gm_Z (gn_rem σ) (gp_up (gp_up (gp_up (gp_up σ2 257 p 3) 258 p 126) 236 36 ((p : Int) + 1)) 236 35 (σ2 236 35 + 1)) := gm_Zn (by simp [gp_up]) (by simp [gp_up]) (by simp [gp_up]) Z2
          generalize (gp_up (gp_up (gp_up (gp_up σ2 257 p 3) 258 p 126) 236 36 ((p : Int) + 1)) 236 35 (σ2 236 35 + 1)) = σ5 at W5 F5 J5 E5 Z5 ⊢
          refine gh_iconst (x := 1) (show gh_at (gm_me 212).1 248 = some (248, 1, .iconst 1, 8, 0, []) from rfl) (by decide) ?_
          refine gh_iret (show gh_at (gm_me 212).1 249 = some (249, 1, .ireturn, 0, 0, []) from rfl) ?_
          exact Or.inr ⟨rfl, Or.inr rfl, W5, F5, Z5, 1, rfl, Or.inr (Or.inl ⟨by omega, Or.inl ⟨rfl, p + 1, n, J5⟩⟩)⟩
        · have hc0 : c = 0 := Decidable.not_not.mp hc0
          refine gh_aload_n (show gh_at (gm_me 212).1 200 = some (200, 1, .aload_n 0, 0, 0, []) from rfl) rfl rfl ?_
          refine gh_get (show gh_at (gm_me 212).1 201 = some (201, 3, .getfield 223, 1, 9, [(0, 1450)]) from rfl) rfl (by decide +kernel) (by decide +kernel) (gh_rd0 (by decide +kernel)) ?_
          show gp_ok _ _ _ _ _ _ _ (.inl (σ 236 9) :: _) _
          refine gh_goto (show gh_at (gm_me 212).1 204 = some (204, 3, .goto (4), 0, 208, []) from rfl) ?_
          refine gh_istore (show gh_at (gm_me 212).1 208 = some (208, 2, .istore 6, 0, 0, []) from rfl) (fun c q => by cases q <;> decide) rfl ?_
          refine gh_aload_n (show gh_at (gm_me 212).1 210 = some (210, 1, .aload_n 0, 0, 0, []) from rfl) rfl rfl ?_
          refine gh_callV (r := 1891) (as := []) (t := []) (show gh_at (gm_me 212).1 211 = some (211, 3, .invokevirtual 237, 179, 0, [(0, 1641)]) from rfl) (by decide) rfl (by show 1 = _; decide +kernel) (Nat.le_trans (gh_wd _) (Nat.le_of_ble_eq_true rfl)) rfl (by decide +kernel) (by decide +kernel) (gz_goOn hb hf WA ZA.1) gh_mono (fun v σ2 hv => ?_)
          rw [show gm_rc 179 = 0 by decide +kernel]
          obtain ⟨W2, F2, h2, h3⟩ := hv
          show gp_ok _ _ _ _ _ _ _ [] σ2
          have hs := gn_step ZA F2 h2 h3
          have Z2 := hs.1
          have R2 := hs.2 tA
          rw [eA] at Z2 R2
          have J2 := gr_Jf (gh_ft gh_f0 F2 (by decide +kernel)) JA
          have G2 : gt_fr gs_rml σ σ2 := gh_ft FA F2 (by decide +kernel)
          have w2 : gr_w σ2 p = gr_w σ p := gr_we p (fun j _ => F2 257 j rfl)
          have P2 : σ2 236 36 = (p : Int) := J2.2.2.1
          have x35 : σ2 236 35 = σ 236 35 := F2 236 35 rfl
          refine gh_iload_n (show gh_at (gm_me 212).1 214 = some (214, 1, .iload_n 2, 0, 0, []) from rfl) rfl ?_
          refine gh_if (show gh_at (gm_me 212).1 215 = some (215, 3, .ifCond .ne (7), 0, 222, []) from rfl) (fun _ => ?_) (fun q => absurd (show ¬ (1 : Int) = 0 by decide) q)
          refine gh_aload_n (show gh_at (gm_me 212).1 222 = some (222, 1, .aload_n 0, 0, 0, []) from rfl) rfl rfl ?_
          refine gh_iload_n (show gh_at (gm_me 212).1 223 = some (223, 1, .iload_n 2, 0, 0, []) from rfl) rfl ?_
          refine gh_if (show gh_at (gm_me 212).1 224 = some (224, 3, .ifCond .eq (7), 0, 231, []) from rfl) (fun q => absurd (show (1 : Int) = 0 from q) (by decide)) (fun _ => ?_)
          refine gh_iconst (x := 3) (show gh_at (gm_me 212).1 227 = some (227, 1, .iconst 3, 24, 0, []) from rfl) (by decide) ?_
          refine gh_goto (show gh_at (gm_me 212).1 228 = some (228, 3, .goto (5), 0, 233, []) from rfl) ?_
          refine gh_bipush (x := 126) (show gh_at (gm_me 212).1 233 = some (233, 2, .bipush (126), 1008, 0, []) from rfl) (by decide) ?_
          refine gh_callV (r := 1891) (as := [.inl 3, .inl 126]) (t := []) (show gh_at (gm_me 212).1 235 = some (235, 3, .invokevirtual 314, 209, 0, [(0, 1742)]) from rfl) (by decide) rfl (by show 3 = _; decide +kernel) (Nat.le_trans (gh_wd _) (Nat.le_of_ble_eq_true rfl)) rfl (by decide +kernel) (by decide +kernel) (Ψ := fun v σ9 => σ9 = (gp_up (gp_up (gp_up σ2 257 p 3) 258 p 126) 236 36 ((p : Int) + 1))) (gz_push (d := 2) (by omega) P2 rfl) gh_mono (fun v σ9 hv => ?_)
          rw [show gm_rc 209 = 0 by decide +kernel]
          subst hv
          show gp_ok _ _ _ _ _ _ _ [] (gp_up (gp_up (gp_up σ2 257 p 3) 258 p 126) 236 36 ((p : Int) + 1))
          have e35 : (gp_up (gp_up (gp_up σ2 257 p 3) 258 p 126) 236 36 ((p : Int) + 1)) 236 35 = σ2 236 35 := by simp [gp_up]
          refine gh_aload_n (show gh_at (gm_me 212).1 238 = some (238, 1, .aload_n 0, 0, 0, []) from rfl) rfl rfl ?_
          refine gh_dup (show gh_at (gm_me 212).1 239 = some (239, 1, .dup, 0, 0, []) from rfl) rfl ?_
          refine gh_get (show gh_at (gm_me 212).1 240 = some (240, 3, .getfield 311, 1, 35, [(0, 1476)]) from rfl) rfl (by decide +kernel) (by decide +kernel) (gh_rd0 (by decide +kernel)) ?_
          rw [show (gp_up (gp_up (gp_up σ2 257 p 3) 258 p 126) 236 36 ((p : Int) + 1)) (1891 / 8) 35 = σ2 236 35 from e35]
          refine gh_iconst (x := 1) (show gh_at (gm_me 212).1 243 = some (243, 1, .iconst 1, 8, 0, []) from rfl) (by decide) ?_
          refine gh_iadd (z := σ2 236 35 + 1) (show gh_at (gm_me 212).1 244 = some (244, 1, .iadd, 0, 0, []) from rfl) (gh_add (by unfold gh_r; omega) (by unfold gh_r; omega) (by unfold gh_r; omega)) ?_
          refine gh_put (show gh_at (gm_me 212).1 245 = some (245, 3, .putfield 311, 1, 35, [(0, 1476)]) from rfl) rfl (by decide +kernel) (by decide +kernel) (by decide +kernel) (Or.inl rfl) ?_
          show gp_ok _ _ _ _ _ _ _ [] (gp_up (gp_up (gp_up (gp_up σ2 257 p 3) 258 p 126) 236 36 ((p : Int) + 1)) 236 35 (σ2 236 35 + 1))
          have W5 : gt_W (gs_wm b f) (gp_up (gp_up (gp_up (gp_up σ2 257 p 3) 258 p 126) 236 36 ((p : Int) + 1)) 236 35 (σ2 236 35 + 1)) := gh_Wu (c := 236) (j := 35) (x := σ2 236 35 + 1) (gh_Wu (c := 236) (j := 36) (x := (p : Int) + 1) (gh_Wu (c := 258) (j := p) (x := 126) (gh_Wu W2 (c := 257) (j := p) (x := 3) (fun _ => gh_any (by unfold gh_r; omega))) (fun _ => gh_any (by unfold gh_r; omega))) (fun _ => gh_any (by unfold gh_r; omega))) (fun _ => gh_any (by unfold gh_r; omega))
          have F5 : gt_fr gs_rml σ (gp_up (gp_up (gp_up (gp_up σ2 257 p 3) 258 p 126) 236 36 ((p : Int) + 1)) 236 35 (σ2 236 35 + 1)) := gh_fu (gh_fu (gh_fu (gh_fu G2 (gb_mo_mem _ (by decide))) (gb_mo_mem _ (by decide))) (by decide +kernel)) (by decide +kernel)
          have J5 : gr_J b r (p + 1) n κ 0 0 (gr_w (gp_up (gp_up (gp_up (gp_up σ2 257 p 3) 258 p 126) 236 36 ((p : Int) + 1)) 236 35 (σ2 236 35 + 1)) (p + 1)) (gp_up (gp_up (gp_up (gp_up σ2 257 p 3) 258 p 126) 236 36 ((p : Int) + 1)) 236 35 (σ2 236 35 + 1)) := gr_lay (x := 3) J2 (by omega) (by omega) (by omega) (by omega) (by simp [gp_up]) (by simp [gp_up]) (by simp [gp_up]) (by simp [gp_up]) (by simp [gp_up]) (fun j => by simp [gp_up]) (fun j => by simp [gp_up]) (fun j hj => by simp [gp_up, hj]) (by simp [gp_up]) (fun j hj => by simp [gp_up, hj]) (by simp [gp_up])
          have E5 : gn_rem (gp_up (gp_up (gp_up (gp_up σ2 257 p 3) 258 p 126) 236 36 ((p : Int) + 1)) 236 35 (σ2 236 35 + 1)) = gn_rem σ2 := gn_reme (by simp [gp_up]) (by simp [gp_up]) (by simp [gp_up])
          have Z5 : gm_Z (gn_rem σ) (gp_up (gp_up (gp_up (gp_up σ2 257 p 3) 258 p 126) 236 36 ((p : Int) + 1)) 236 35 (σ2 236 35 + 1)) := gm_Zn (by simp [gp_up]) (by simp [gp_up]) (by simp [gp_up]) Z2
          generalize (gp_up (gp_up (gp_up (gp_up σ2 257 p 3) 258 p 126) 236 36 ((p : Int) + 1)) 236 35 (σ2 236 35 + 1)) = σ5 at W5 F5 J5 E5 Z5 ⊢
          refine gh_iconst (x := 1) (show gh_at (gm_me 212).1 248 = some (248, 1, .iconst 1, 8, 0, []) from rfl) (by decide) ?_
          refine gh_iret (show gh_at (gm_me 212).1 249 = some (249, 1, .ireturn, 0, 0, []) from rfl) ?_
          exact Or.inr ⟨rfl, Or.inr rfl, W5, F5, Z5, 1, rfl, Or.inr (Or.inl ⟨by omega, Or.inl ⟨rfl, p + 1, n, J5⟩⟩)⟩
    · refine gh_if (show gh_at (gm_me 212).1 151 = some (151, 3, .ifCond .ne (5), 0, 156, []) from rfl) (fun q => absurd rfl q) (fun _ => ?_)
      refine gh_iconst (x := 1) (show gh_at (gm_me 212).1 154 = some (154, 1, .iconst 1, 8, 0, []) from rfl) (by decide) ?_
      refine gh_iret (show gh_at (gm_me 212).1 155 = some (155, 1, .ireturn, 0, 0, []) from rfl) ?_
      exact Or.inr ⟨rfl, Or.inr rfl, hW, gh_f0, hZ1, 1, rfl, Or.inl ⟨hg, n, hJ.1⟩⟩
  have mis : ∀ (x1 nt br c fl : Int), gp_ok gs_sh (gp_call gs_sh 3) 2 (gm_me 212).1 (gr_Q b f r κ σ) 143 [.inr 1891, .inl x1, .inl nt, .inl br, .inl c, .inl fl, .inr 7] [] σ := by
    intro x1 nt br c fl
    refine gh_aload_n (show gh_at (gm_me 212).1 143 = some (143, 1, .aload_n 0, 0, 0, []) from rfl) rfl rfl ?_
    refine gh_callV (r := 1891) (as := []) (t := []) (show gh_at (gm_me 212).1 144 = some (144, 3, .invokevirtual 240, 196, 0, [(0, 1698)]) from rfl) (by decide) rfl (by show 1 = _; decide +kernel) (Nat.le_trans (gh_wd _) (Nat.le_of_ble_eq_true rfl)) rfl (by decide +kernel) (by decide +kernel) (gz_mis (d := 1) hW) gh_mono (fun v σ1 hv => ?_)
    rw [show gm_rc 196 = 0 by decide +kernel]
    obtain ⟨W1, F1, hbad⟩ := hv
    exact bad σ1 x1 nt br c fl W1 F1 hbad
  have l126 : ∀ (x1 nt br c fl : Int), (nt = 0 ∨ (nt = 1 ∧ σ 236 8 = 3)) → (br = 0 ∨ (br = 1 ∧ σ 236 8 = 5)) → (c = 0 ∨ (97 ≤ c ∧ c ≤ 122 ∧ σ 236 8 = 3)) → (nt = 1 ∨ (¬ σ 241 (1 - b) = 60 ∧ ¬ σ 236 37 = 30 ∧ (¬ c = 0 ∨ σ 236 8 = 4 ∨ br = 1))) → gp_ok gs_sh (gp_call gs_sh 3) 2 (gm_me 212).1 (gr_Q b f r κ σ) 126 [.inr 1891, .inl x1, .inl nt, .inl br, .inl c, .inl fl, .inr 7] [] σ := by
    intro x1 nt br c fl hnt hbr hc hok
    refine gh_iload_n (show gh_at (gm_me 212).1 126 = some (126, 1, .iload_n 2, 0, 0, []) from rfl) rfl ?_
    refine gh_if (show gh_at (gm_me 212).1 127 = some (127, 3, .ifCond .ne (7), 0, 134, []) from rfl) (fun _ => ?_) (fun hd => ?_)
    · refine gh_aload_n (show gh_at (gm_me 212).1 134 = some (134, 1, .aload_n 0, 0, 0, []) from rfl) rfl rfl ?_
      refine gh_get (show gh_at (gm_me 212).1 135 = some (135, 3, .getfield 311, 1, 35, [(0, 1476)]) from rfl) rfl (by decide +kernel) (by decide +kernel) (gh_rd0 (by decide +kernel)) ?_
      show gp_ok _ _ _ _ _ _ _ (.inl (σ 236 35) :: _) _
      refine gh_bipush (x := 7) (show gh_at (gm_me 212).1 138 = some (138, 2, .bipush (7), 56, 0, []) from rfl) (by decide) ?_
      refine gh_icmp (show gh_at (gm_me 212).1 140 = some (140, 3, .if_icmp .ne (7), 0, 147, []) from rfl) (fun hd => well x1 nt br c fl hnt hbr hc hok (fun _ => hd)) (fun _ => mis x1 nt br c fl)
    · have hd : nt = 0 := Decidable.not_not.mp hd
      refine gh_iload_n (show gh_at (gm_me 212).1 130 = some (130, 1, .iload_n 3, 0, 0, []) from rfl) rfl ?_
      refine gh_if (show gh_at (gm_me 212).1 131 = some (131, 3, .ifCond .eq (16), 0, 147, []) from rfl) (fun hd2 => ?_) (fun _ => ?_)
      · have hd2 : br = 0 := hd2
        exact well x1 nt br c fl hnt hbr hc hok (by omega)
      · refine gh_aload_n (show gh_at (gm_me 212).1 134 = some (134, 1, .aload_n 0, 0, 0, []) from rfl) rfl rfl ?_
        refine gh_get (show gh_at (gm_me 212).1 135 = some (135, 3, .getfield 311, 1, 35, [(0, 1476)]) from rfl) rfl (by decide +kernel) (by decide +kernel) (gh_rd0 (by decide +kernel)) ?_
        show gp_ok _ _ _ _ _ _ _ (.inl (σ 236 35) :: _) _
        refine gh_bipush (x := 7) (show gh_at (gm_me 212).1 138 = some (138, 2, .bipush (7), 56, 0, []) from rfl) (by decide) ?_
        refine gh_icmp (show gh_at (gm_me 212).1 140 = some (140, 3, .if_icmp .ne (7), 0, 147, []) from rfl) (fun hd => well x1 nt br c fl hnt hbr hc hok (fun _ => hd)) (fun _ => mis x1 nt br c fl)
  have l100 : ∀ (x1 nt br c fl : Int), (nt = 0 ∨ (nt = 1 ∧ σ 236 8 = 3)) → (br = 0 ∨ (br = 1 ∧ σ 236 8 = 5)) → (c = 0 ∨ (97 ≤ c ∧ c ≤ 122 ∧ σ 236 8 = 3)) → (fl = 1 ∨ (fl = 0 ∧ ¬ σ 241 (1 - b) = 60 ∧ ¬ σ 236 37 = 30)) → gp_ok gs_sh (gp_call gs_sh 3) 2 (gm_me 212).1 (gr_Q b f r κ σ) 100 [.inr 1891, .inl x1, .inl nt, .inl br, .inl c, .inl fl, .inr 7] [] σ := by
    intro x1 nt br c fl hnt hbr hc hfl
    refine gh_iload_n (show gh_at (gm_me 212).1 100 = some (100, 1, .iload_n 2, 0, 0, []) from rfl) rfl ?_
    refine gh_if (show gh_at (gm_me 212).1 101 = some (101, 3, .ifCond .ne (25), 0, 126, []) from rfl) (fun hd => ?_) (fun _ => ?_)
    · have hd : ¬ nt = 0 := hd
      exact l126 x1 nt br c fl hnt hbr hc (Or.inl (by omega))
    · refine gh_iload (show gh_at (gm_me 212).1 104 = some (104, 2, .iload 4, 0, 0, []) from rfl) rfl ?_
      refine gh_if (show gh_at (gm_me 212).1 106 = some (106, 3, .ifCond .ne (15), 0, 121, []) from rfl) (fun hc1 => ?_) (fun _ => ?_)
      · refine gh_iload (show gh_at (gm_me 212).1 121 = some (121, 2, .iload 5, 0, 0, []) from rfl) rfl ?_
        refine gh_if (show gh_at (gm_me 212).1 123 = some (123, 3, .ifCond .ne (20), 0, 143, []) from rfl) (fun _ => mis x1 nt br c fl) (fun hd => ?_)
        have hd : fl = 0 := Decidable.not_not.mp hd
        exact l126 x1 nt br c fl hnt hbr hc (Or.inr ⟨by omega, by omega, Or.inl hc1⟩)
      · refine gh_aload_n (show gh_at (gm_me 212).1 109 = some (109, 1, .aload_n 0, 0, 0, []) from rfl) rfl rfl ?_
        refine gh_get (show gh_at (gm_me 212).1 110 = some (110, 3, .getfield 205, 1, 8, [(0, 1449)]) from rfl) rfl (by decide +kernel) (by decide +kernel) (gh_rd0 (by decide +kernel)) ?_
        show gp_ok _ _ _ _ _ _ _ (.inl (σ 236 8) :: _) _
        refine gh_iconst (x := 4) (show gh_at (gm_me 212).1 113 = some (113, 1, .iconst 4, 32, 0, []) from rfl) (by decide) ?_
        refine gh_icmp (show gh_at (gm_me 212).1 114 = some (114, 3, .if_icmp .eq (7), 0, 121, []) from rfl) (fun ht => ?_) (fun _ => ?_)
        · refine gh_iload (show gh_at (gm_me 212).1 121 = some (121, 2, .iload 5, 0, 0, []) from rfl) rfl ?_
          refine gh_if (show gh_at (gm_me 212).1 123 = some (123, 3, .ifCond .ne (20), 0, 143, []) from rfl) (fun _ => mis x1 nt br c fl) (fun hd => ?_)
          have hd : fl = 0 := Decidable.not_not.mp hd
          exact l126 x1 nt br c fl hnt hbr hc (Or.inr ⟨by omega, by omega, Or.inr (Or.inl ht)⟩)
        · refine gh_iload_n (show gh_at (gm_me 212).1 117 = some (117, 1, .iload_n 3, 0, 0, []) from rfl) rfl ?_
          refine gh_if (show gh_at (gm_me 212).1 118 = some (118, 3, .ifCond .eq (25), 0, 143, []) from rfl) (fun _ => mis x1 nt br c fl) (fun hd => ?_)
          have hd : ¬ br = 0 := hd
          refine gh_iload (show gh_at (gm_me 212).1 121 = some (121, 2, .iload 5, 0, 0, []) from rfl) rfl ?_
          refine gh_if (show gh_at (gm_me 212).1 123 = some (123, 3, .ifCond .ne (20), 0, 143, []) from rfl) (fun _ => mis x1 nt br c fl) (fun hd => ?_)
          have hd : fl = 0 := Decidable.not_not.mp hd
          exact l126 x1 nt br c fl hnt hbr hc (Or.inr ⟨by omega, by omega, Or.inr (Or.inr (by omega))⟩)
  have l57 : ∀ (x1 nt : Int), (nt = 0 ∨ (nt = 1 ∧ σ 236 8 = 3)) → gp_ok gs_sh (gp_call gs_sh 3) 2 (gm_me 212).1 (gr_Q b f r κ σ) 57 [.inr 1891, .inl x1, .inl nt, .inr 7, .inr 7, .inr 7, .inr 7] [] σ := by
    intro x1 nt hnt
    refine gh_aload_n (show gh_at (gm_me 212).1 57 = some (57, 1, .aload_n 0, 0, 0, []) from rfl) rfl rfl ?_
    refine gh_bipush (x := 40) (show gh_at (gm_me 212).1 58 = some (58, 2, .bipush (40), 320, 0, []) from rfl) (by decide) ?_
    refine gh_callV (r := 1891) (as := [.inl 40]) (t := []) (show gh_at (gm_me 212).1 60 = some (60, 3, .invokevirtual 289, 194, 0, [(0, 1750)]) from rfl) (by decide) rfl (by show 2 = _; decide +kernel) (Nat.le_trans (gh_wd _) (Nat.le_of_ble_eq_true rfl)) rfl (by decide +kernel) (by decide +kernel) (Ψ := fun v σ9 => σ9 = σ ∧ ((v = .inl 1 ∧ σ 236 8 = 5 ∧ gn_sg σ (σ 236 6) = 40) ∨ v = .inl 0)) (gz_sgh (d := 1) hW (fun q w => ⟨rfl, Or.inl ⟨rfl, q, w⟩⟩) ⟨rfl, Or.inr rfl⟩) gh_mono (fun v σ9 hv => ?_)
    obtain ⟨e9, hv⟩ := hv
    rw [e9, show gm_rc 194 = 2 by decide +kernel]
    have hz : ∃ br : Int, v = .inl br ∧ (br = 0 ∨ (br = 1 ∧ σ 236 8 = 5)) := by
      rcases hv with ⟨rfl, q, -⟩ | rfl
      · exact ⟨1, rfl, Or.inr ⟨rfl, q⟩⟩
      · exact ⟨0, rfl, Or.inl rfl⟩
    obtain ⟨br, rfl, hbr⟩ := hz
    show gp_ok _ _ _ _ _ _ _ [.inl br] _
    refine gh_istore_n (show gh_at (gm_me 212).1 63 = some (63, 1, .istore_n 3, 0, 0, []) from rfl) (fun c q => by cases q <;> decide) rfl ?_
    refine gh_aload_n (show gh_at (gm_me 212).1 64 = some (64, 1, .aload_n 0, 0, 0, []) from rfl) rfl rfl ?_
    refine gh_callV (r := 1891) (as := []) (t := []) (show gh_at (gm_me 212).1 65 = some (65, 3, .invokevirtual 323, 211, 0, [(0, 1754)]) from rfl) (by decide) rfl (by show 1 = _; decide +kernel) (Nat.le_trans (gh_wd _) (Nat.le_of_ble_eq_true rfl)) rfl (by decide +kernel) (by decide +kernel) (Ψ := fun v σ9 => σ9 = σ ∧ ∃ c : Int, v = .inl c ∧ (c = 0 ∨ (97 ≤ c ∧ c ≤ 122 ∧ σ 236 8 = 3))) (gz_wrd (d := 1) (fun c q => ⟨rfl, c, rfl, q⟩)) gh_mono (fun v σ9 hv => ?_)
    rw [show gm_rc 211 = 1 by decide +kernel]
    obtain ⟨e9, c, rfl, hc⟩ := hv
    rw [e9]
    show gp_ok _ _ _ _ _ _ _ [.inl c] _
    refine gh_istore (show gh_at (gm_me 212).1 68 = some (68, 2, .istore 4, 0, 0, []) from rfl) (fun c q => by cases q <;> decide) rfl ?_
    refine gh_aload_n (show gh_at (gm_me 212).1 70 = some (70, 1, .aload_n 0, 0, 0, []) from rfl) rfl rfl ?_
    refine gh_get (show gh_at (gm_me 212).1 71 = some (71, 3, .getfield 27, 1, 13, [(0, 1454)]) from rfl) rfl (by decide +kernel) (by decide +kernel) (gh_rdr (r := 1931) (by decide +kernel) rfl) ?_
    refine gh_aload_n (show gh_at (gm_me 212).1 74 = some (74, 1, .aload_n 0, 0, 0, []) from rfl) rfl rfl ?_
    refine gh_get (show gh_at (gm_me 212).1 75 = some (75, 3, .getfield 254, 1, 33, [(0, 1474)]) from rfl) rfl (by decide +kernel) (by decide +kernel) (gh_rd0 (by decide +kernel)) ?_
    rw [show σ (1891 / 8) 33 = ((1 - b : Nat) : Int) from hB]
    refine gh_iald (show gh_at (gm_me 212).1 78 = some (78, 1, .iaload, 0, 0, []) from rfl) rfl (by decide +kernel) (by decide +kernel) (gh_ix (N := 2) (by decide +kernel) (by omega) (by omega)) (gh_rd0 (gh_pk0 (by decide +kernel) _)) ?_
    rw [show (((1 - b : Nat) : Int)).toNat = 1 - b by omega]
    show gp_ok _ _ _ _ _ _ _ (.inl (σ 241 (1 - b)) :: _) _
    refine gh_bipush (x := 60) (show gh_at (gm_me 212).1 79 = some (79, 2, .bipush (60), 480, 0, []) from rfl) (by decide) ?_
    refine gh_icmp (show gh_at (gm_me 212).1 81 = some (81, 3, .if_icmp .eq (12), 0, 93, []) from rfl) (fun _ => ?_) (fun hu0 => ?_)
    · refine gh_iconst (x := 1) (show gh_at (gm_me 212).1 93 = some (93, 1, .iconst 1, 8, 0, []) from rfl) (by decide) ?_
      refine gh_goto (show gh_at (gm_me 212).1 94 = some (94, 3, .goto (4), 0, 98, []) from rfl) ?_
      refine gh_istore (show gh_at (gm_me 212).1 98 = some (98, 2, .istore 5, 0, 0, []) from rfl) (fun c q => by cases q <;> decide) rfl ?_
      exact l100 x1 nt br c 1 hnt hbr hc (Or.inl rfl)
    · refine gh_aload_n (show gh_at (gm_me 212).1 84 = some (84, 1, .aload_n 0, 0, 0, []) from rfl) rfl rfl ?_
      refine gh_get (show gh_at (gm_me 212).1 85 = some (85, 3, .getfield 302, 1, 37, [(0, 1478)]) from rfl) rfl (by decide +kernel) (by decide +kernel) (gh_rd0 (by decide +kernel)) ?_
      show gp_ok _ _ _ _ _ _ _ (.inl (σ 236 37) :: _) _
      refine gh_bipush (x := 30) (show gh_at (gm_me 212).1 88 = some (88, 2, .bipush (30), 240, 0, []) from rfl) (by decide) ?_
      refine gh_icmp (show gh_at (gm_me 212).1 90 = some (90, 3, .if_icmp .ne (7), 0, 97, []) from rfl) (fun hi0 => ?_) (fun _ => ?_)
      · refine gh_iconst (x := 0) (show gh_at (gm_me 212).1 97 = some (97, 1, .iconst 0, 0, 0, []) from rfl) (by decide) ?_
        refine gh_istore (show gh_at (gm_me 212).1 98 = some (98, 2, .istore 5, 0, 0, []) from rfl) (fun c q => by cases q <;> decide) rfl ?_
        exact l100 x1 nt br c 0 hnt hbr hc (Or.inr ⟨rfl, hu0, hi0⟩)
      · refine gh_iconst (x := 1) (show gh_at (gm_me 212).1 93 = some (93, 1, .iconst 1, 8, 0, []) from rfl) (by decide) ?_
        refine gh_goto (show gh_at (gm_me 212).1 94 = some (94, 3, .goto (4), 0, 98, []) from rfl) ?_
        refine gh_istore (show gh_at (gm_me 212).1 98 = some (98, 2, .istore 5, 0, 0, []) from rfl) (fun c q => by cases q <;> decide) rfl ?_
        exact l100 x1 nt br c 1 hnt hbr hc (Or.inl rfl)
  have l37 : ∀ (x1 : Int), gp_ok gs_sh (gp_call gs_sh 3) 2 (gm_me 212).1 (gr_Q b f r κ σ) 37 [.inr 1891, .inl x1, .inr 7, .inr 7, .inr 7, .inr 7, .inr 7] [] σ := by
    intro x1
    refine gh_iload_n (show gh_at (gm_me 212).1 37 = some (37, 1, .iload_n 1, 0, 0, []) from rfl) rfl ?_
    refine gh_if (show gh_at (gm_me 212).1 38 = some (38, 3, .ifCond .eq (17), 0, 55, []) from rfl) (fun _ => ?_) (fun _ => ?_)
    · refine gh_iconst (x := 0) (show gh_at (gm_me 212).1 55 = some (55, 1, .iconst 0, 0, 0, []) from rfl) (by decide) ?_
      refine gh_istore_n (show gh_at (gm_me 212).1 56 = some (56, 1, .istore_n 2, 0, 0, []) from rfl) (fun c q => by cases q <;> decide) rfl ?_
      exact l57 x1 0 (Or.inl rfl)
    · refine gh_aload_n (show gh_at (gm_me 212).1 41 = some (41, 1, .aload_n 0, 0, 0, []) from rfl) rfl rfl ?_
      refine gh_ldc2 (show gh_at (gm_me 212).1 42 = some (42, 3, .ldc2_w 193, 57899941, 0, [(0, 1671)]) from rfl) ?_
      refine gh_callV (r := 1891) (as := [.inr 57899941]) (t := []) (show gh_at (gm_me 212).1 45 = some (45, 3, .invokevirtual 243, 195, 0, [(0, 1690)]) from rfl) (by decide) rfl (by show 2 = _; decide +kernel) (Nat.le_trans (gh_wd _) (Nat.le_of_ble_eq_true rfl)) rfl (by decide +kernel) (by decide +kernel) (Ψ := fun v σ9 => σ9 = σ ∧ ((v = .inl 1 ∧ σ 236 8 = 3 ∧ (σ 236 10).toNat = 57899941 / 8) ∨ (v = .inl 0 ∧ ¬ (σ 236 8 = 3 ∧ (σ 236 10).toNat = 57899941 / 8)))) (gz_isw (d := 2) (by decide) (fun q w => ⟨rfl, Or.inl ⟨rfl, q, w⟩⟩) (fun q => ⟨rfl, Or.inr ⟨rfl, q⟩⟩)) gh_mono (fun v σ9 hv => ?_)
      obtain ⟨e9, hv⟩ := hv
      rw [e9, show gm_rc 195 = 2 by decide +kernel]
      rcases hv with ⟨rfl, hw, -⟩ | ⟨rfl, -⟩
      · refine gh_if (show gh_at (gm_me 212).1 48 = some (48, 3, .ifCond .eq (7), 0, 55, []) from rfl) (fun q => absurd (show (1 : Int) = 0 from q) (by decide)) (fun _ => ?_)
        refine gh_iconst (x := 1) (show gh_at (gm_me 212).1 51 = some (51, 1, .iconst 1, 8, 0, []) from rfl) (by decide) ?_
        refine gh_goto (show gh_at (gm_me 212).1 52 = some (52, 3, .goto (4), 0, 56, []) from rfl) ?_
        refine gh_istore_n (show gh_at (gm_me 212).1 56 = some (56, 1, .istore_n 2, 0, 0, []) from rfl) (fun c q => by cases q <;> decide) rfl ?_
        exact l57 x1 1 (Or.inr ⟨rfl, hw⟩)
      · refine gh_if (show gh_at (gm_me 212).1 48 = some (48, 3, .ifCond .eq (7), 0, 55, []) from rfl) (fun _ => ?_) (fun q => absurd rfl q)
        refine gh_iconst (x := 0) (show gh_at (gm_me 212).1 55 = some (55, 1, .iconst 0, 0, 0, []) from rfl) (by decide) ?_
        refine gh_istore_n (show gh_at (gm_me 212).1 56 = some (56, 1, .istore_n 2, 0, 0, []) from rfl) (fun c q => by cases q <;> decide) rfl ?_
        exact l57 x1 0 (Or.inl rfl)
  refine gh_aload_n (show gh_at (gm_me 212).1 0 = some (0, 1, .aload_n 0, 0, 0, []) from rfl) rfl rfl ?_
  refine gh_get (show gh_at (gm_me 212).1 1 = some (1, 3, .getfield 76, 1, 29, [(0, 1470)]) from rfl) rfl (by decide +kernel) (by decide +kernel) (gh_rdr (r := 2059) (by decide +kernel) rfl) ?_
  refine gh_aload_n (show gh_at (gm_me 212).1 4 = some (4, 1, .aload_n 0, 0, 0, []) from rfl) rfl rfl ?_
  refine gh_get (show gh_at (gm_me 212).1 5 = some (5, 3, .getfield 308, 1, 36, [(0, 1477)]) from rfl) rfl (by decide +kernel) (by decide +kernel) (gh_rd0 (by decide +kernel)) ?_
  rw [show σ (1891 / 8) 36 = (p : Int) from hP]
  refine gh_iconst (x := 1) (show gh_at (gm_me 212).1 8 = some (8, 1, .iconst 1, 8, 0, []) from rfl) (by decide) ?_
  refine gh_isub (z := ((p - 1 : Nat) : Int)) (show gh_at (gm_me 212).1 9 = some (9, 1, .isub, 0, 0, []) from rfl) (by rw [gh_sub (by unfold gh_r; omega) (by unfold gh_r; omega) (by unfold gh_r; omega)]; omega) ?_
  refine gh_iald (show gh_at (gm_me 212).1 10 = some (10, 1, .iaload, 0, 0, []) from rfl) rfl (by decide +kernel) (by decide +kernel) (gh_ix (N := 90) (by decide +kernel) (by omega) (by omega)) (gh_rd0 (gh_pk0 (by decide +kernel) _)) ?_
  rw [show (((p - 1 : Nat) : Int)).toNat = p - 1 by omega]
  show gp_ok _ _ _ _ _ _ _ (.inl (σ 257 (p - 1)) :: _) _
  refine gh_iconst (x := 3) (show gh_at (gm_me 212).1 11 = some (11, 1, .iconst 3, 24, 0, []) from rfl) (by decide) ?_
  refine gh_icmp (show gh_at (gm_me 212).1 12 = some (12, 3, .if_icmp .le (19), 0, 31, []) from rfl) (fun _ => ?_) (fun _ => ?_)
  · refine gh_iconst (x := 1) (show gh_at (gm_me 212).1 31 = some (31, 1, .iconst 1, 8, 0, []) from rfl) (by decide) ?_
    refine gh_goto (show gh_at (gm_me 212).1 32 = some (32, 3, .goto (4), 0, 36, []) from rfl) ?_
    refine gh_istore_n (show gh_at (gm_me 212).1 36 = some (36, 1, .istore_n 1, 0, 0, []) from rfl) (fun c q => by cases q <;> decide) rfl ?_
    exact l37 1
  · refine gh_aload_n (show gh_at (gm_me 212).1 15 = some (15, 1, .aload_n 0, 0, 0, []) from rfl) rfl rfl ?_
    refine gh_get (show gh_at (gm_me 212).1 16 = some (16, 3, .getfield 76, 1, 29, [(0, 1470)]) from rfl) rfl (by decide +kernel) (by decide +kernel) (gh_rdr (r := 2059) (by decide +kernel) rfl) ?_
    refine gh_aload_n (show gh_at (gm_me 212).1 19 = some (19, 1, .aload_n 0, 0, 0, []) from rfl) rfl rfl ?_
    refine gh_get (show gh_at (gm_me 212).1 20 = some (20, 3, .getfield 308, 1, 36, [(0, 1477)]) from rfl) rfl (by decide +kernel) (by decide +kernel) (gh_rd0 (by decide +kernel)) ?_
    rw [show σ (1891 / 8) 36 = (p : Int) from hP]
    refine gh_iconst (x := 1) (show gh_at (gm_me 212).1 23 = some (23, 1, .iconst 1, 8, 0, []) from rfl) (by decide) ?_
    refine gh_isub (z := ((p - 1 : Nat) : Int)) (show gh_at (gm_me 212).1 24 = some (24, 1, .isub, 0, 0, []) from rfl) (by rw [gh_sub (by unfold gh_r; omega) (by unfold gh_r; omega) (by unfold gh_r; omega)]; omega) ?_
    refine gh_iald (show gh_at (gm_me 212).1 25 = some (25, 1, .iaload, 0, 0, []) from rfl) rfl (by decide +kernel) (by decide +kernel) (gh_ix (N := 90) (by decide +kernel) (by omega) (by omega)) (gh_rd0 (gh_pk0 (by decide +kernel) _)) ?_
    rw [show (((p - 1 : Nat) : Int)).toNat = p - 1 by omega]
    show gp_ok _ _ _ _ _ _ _ (.inl (σ 257 (p - 1)) :: _) _
    refine gh_bipush (x := 7) (show gh_at (gm_me 212).1 26 = some (26, 2, .bipush (7), 56, 0, []) from rfl) (by decide) ?_
    refine gh_icmp (show gh_at (gm_me 212).1 28 = some (28, 3, .if_icmp .lt (7), 0, 35, []) from rfl) (fun _ => ?_) (fun _ => ?_)
    · refine gh_iconst (x := 0) (show gh_at (gm_me 212).1 35 = some (35, 1, .iconst 0, 0, 0, []) from rfl) (by decide) ?_
      refine gh_istore_n (show gh_at (gm_me 212).1 36 = some (36, 1, .istore_n 1, 0, 0, []) from rfl) (fun c q => by cases q <;> decide) rfl ?_
      exact l37 0
    · refine gh_iconst (x := 1) (show gh_at (gm_me 212).1 31 = some (31, 1, .iconst 1, 8, 0, []) from rfl) (by decide) ?_
      refine gh_goto (show gh_at (gm_me 212).1 32 = some (32, 3, .goto (4), 0, 36, []) from rfl) ?_
      refine gh_istore_n (show gh_at (gm_me 212).1 36 = some (36, 1, .istore_n 1, 0, 0, []) from rfl) (fun c q => by cases q <;> decide) rfl ?_
      exact l37 1
