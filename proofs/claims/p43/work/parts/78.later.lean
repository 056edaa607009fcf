/-! later -/
theorem gm_Xt {f : Nat} {σ : gp_S} {v : Int} (hX : gm_X f σ) : gm_X f (gp_up σ 236 62 v) := by
  have e0 : ∀ c j, ¬ c = 236 → gp_up σ 236 62 v c j = σ c j := fun c j q => gh_up_ne (fun e => q e.1)
  have a0 : gp_up σ 236 62 v 236 46 = σ 236 46 := gh_up_ne (by decide)
  have u0 : gp_up σ 236 62 v 236 47 = σ 236 47 := gh_up_ne (by decide)
  generalize gp_up σ 236 62 v = σ' at e0 a0 u0 ⊢
  have e1 : ∀ j, σ' 255 j = σ 255 j := fun j => e0 _ _ (by decide)
  have e2 : ∀ j, σ' 252 j = σ 252 j := fun j => e0 _ _ (by decide)
  have e3 : ∀ j, σ' 253 j = σ 253 j := fun j => e0 _ _ (by decide)
  have e4 : ∀ j, σ' 264 j = σ 264 j := fun j => e0 _ _ (by decide)
  have e5 : ∀ j, σ' 277 j = σ 277 j := fun j => e0 _ _ (by decide)
  have e6 : ∀ j, σ' 278 j = σ 278 j := fun j => e0 _ _ (by decide)
  obtain ⟨x1, x2, x3, x4, x5, x6, x7, x8, x9⟩ := hX
  refine ⟨?_, ?_, ?_, ?_, ?_, ?_, ?_, fun i hi => ?_, fun i hi hb => ?_⟩
  · rw [e2, e3]; exact gv_ok_eq e1 x1
  · rw [e2, e3]; exact gv_ok_eq e1 x2
  · rw [e2, e3]; exact x3
  · rw [e2, e3]; exact x4
  · rw [a0]; exact x5
  · rw [u0]; exact x6
  · rw [a0, u0]; exact x7
  · rw [a0, u0] at hi
    simp only [e4]
    exact x8 i hi
  · rw [e6] at hb
    simp only [e5]
    exact x9 i hi hb

theorem gz_later {d : Nat} {σ : gp_S} {x : Int} {Φ : gp_F} (tt : 0 ≤ σ 236 62 ∧ σ 236 62 ≤ 100000) (h0 : ¬ (0 ≤ x ∧ x ≤ 1000 ∧ σ 236 62 + x ≤ 100000) → Φ (.inl (-1)) σ) (h1 : 0 ≤ x → x ≤ 1000 → σ 236 62 + x ≤ 100000 → Φ (.inl (σ 236 62 + x)) (gp_up σ 236 62 (σ 236 62 + x))) : gp_call gs_sh (d + 2) 47 [.inr 1891, .inl x] σ Φ := by
  refine gh_call (al := [.inr 1891, .inl x]) (by decide +kernel) (by show 2 = _; decide +kernel) (by rw [show (gm_me 47).2.1 = 0 by decide +kernel]; rfl) (by show 2 = _; decide +kernel) ?_
  rw [show gm_rc 47 = 1 by decide +kernel]
  refine gh_iload_n (show gh_at (gm_me 47).1 0 = some (0, 1, .iload_n 1, 0, 0, []) from rfl) rfl ?_
  refine gh_iconst (x := 0) (show gh_at (gm_me 47).1 1 = some (1, 1, .iconst 0, 0, 0, []) from rfl) (by decide) ?_
  refine gh_sipush (x := 1000) (show gh_at (gm_me 47).1 2 = some (2, 3, .sipush (1000), 8000, 0, []) from rfl) (by decide) ?_
  refine gh_callS (as := [.inl x, .inl 0, .inl 1000]) (t := []) (show gh_at (gm_me 47).1 5 = some (5, 3, .invokestatic 348, 9, 0, [(0, 1419)]) from rfl) (by decide) rfl (by show 3 = _; decide +kernel) (by decide) (Ψ := fun v σ2 => σ2 = σ ∧ ((v = .inl 1 ∧ 0 ≤ x ∧ x ≤ 1000) ∨ (v = .inl 0 ∧ ¬ (0 ≤ x ∧ x ≤ 1000)))) (gz_in (d := d) (fun q => ⟨rfl, Or.inl ⟨rfl, q⟩⟩) (fun q => ⟨rfl, Or.inr ⟨rfl, q⟩⟩)) gh_mono (fun v σ2 hv => ?_)
  obtain ⟨e2, hv⟩ := hv
  rw [e2, show gm_rc 9 = 2 by decide +kernel]
  rcases hv with ⟨rfl, hl⟩ | ⟨rfl, hl⟩
  · refine gh_if (show gh_at (gm_me 47).1 8 = some (8, 3, .ifCond .eq (15), 0, 23, []) from rfl) (fun q => absurd (show (1 : Int) = 0 from q) (by decide)) (fun _ => ?_)
    refine gh_aload_n (show gh_at (gm_me 47).1 11 = some (11, 1, .aload_n 0, 0, 0, []) from rfl) rfl rfl ?_
    refine gh_get (show gh_at (gm_me 47).1 12 = some (12, 3, .getfield 514, 1, 62, [(0, 1503)]) from rfl) rfl (by decide +kernel) (by decide +kernel) (gh_rd0 (by decide +kernel)) ?_
    refine gh_iload_n (show gh_at (gm_me 47).1 15 = some (15, 1, .iload_n 1, 0, 0, []) from rfl) rfl ?_
    refine gh_iadd (z := σ 236 62 + x) (show gh_at (gm_me 47).1 16 = some (16, 1, .iadd, 0, 0, []) from rfl) (by show gp_b2 _ (σ 236 62) x = _; exact gh_add (by unfold gh_r; omega) (by unfold gh_r; omega) (by unfold gh_r; omega)) ?_
    refine gh_ldcw (x := 100000) (show gh_at (gm_me 47).1 17 = some (17, 3, .ldc_w 480, 800000, 0, [(0, 2004)]) from rfl) (by decide) ?_
    refine gh_icmp (show gh_at (gm_me 47).1 20 = some (20, 3, .if_icmp .le (5), 0, 25, []) from rfl) (fun hc => ?_) (fun hc => ?_)
    · have hc : σ 236 62 + x ≤ 100000 := hc
      refine gh_aload_n (show gh_at (gm_me 47).1 25 = some (25, 1, .aload_n 0, 0, 0, []) from rfl) rfl rfl ?_
      refine gh_dup (show gh_at (gm_me 47).1 26 = some (26, 1, .dup, 0, 0, []) from rfl) rfl ?_
      refine gh_get (show gh_at (gm_me 47).1 27 = some (27, 3, .getfield 514, 1, 62, [(0, 1503)]) from rfl) rfl (by decide +kernel) (by decide +kernel) (gh_rd0 (by decide +kernel)) ?_
      refine gh_iload_n (show gh_at (gm_me 47).1 30 = some (30, 1, .iload_n 1, 0, 0, []) from rfl) rfl ?_
      refine gh_iadd (z := σ 236 62 + x) (show gh_at (gm_me 47).1 31 = some (31, 1, .iadd, 0, 0, []) from rfl) (by show gp_b2 _ (σ 236 62) x = _; exact gh_add (by unfold gh_r; omega) (by unfold gh_r; omega) (by unfold gh_r; omega)) ?_
      refine gh_put (show gh_at (gm_me 47).1 32 = some (32, 3, .putfield 514, 1, 62, [(0, 1503)]) from rfl) rfl (by decide +kernel) (by decide +kernel) (by decide +kernel) (Or.inl rfl) ?_
      show gp_ok _ _ _ _ _ _ _ [] (gp_up σ 236 62 (σ 236 62 + x))
      refine gh_aload_n (show gh_at (gm_me 47).1 35 = some (35, 1, .aload_n 0, 0, 0, []) from rfl) rfl rfl ?_
      refine gh_get (show gh_at (gm_me 47).1 36 = some (36, 3, .getfield 514, 1, 62, [(0, 1503)]) from rfl) rfl (by decide +kernel) (by decide +kernel) (gh_rd0 (by decide +kernel)) ?_
      rw [show gp_up σ 236 62 (σ 236 62 + x) (1891 / 8) 62 = σ 236 62 + x from gh_up_eq _ _ _ _]
      refine gh_iret (show gh_at (gm_me 47).1 39 = some (39, 1, .ireturn, 0, 0, []) from rfl) ?_
      exact Or.inl ⟨rfl, h1 hl.1 hl.2 hc⟩
    · refine gh_iconst (x := -1) (show gh_at (gm_me 47).1 23 = some (23, 1, .iconst (-1), 34359738360, 0, []) from rfl) (by decide) ?_
      refine gh_iret (show gh_at (gm_me 47).1 24 = some (24, 1, .ireturn, 0, 0, []) from rfl) ?_
      exact Or.inl ⟨rfl, h0 (fun q => hc q.2.2)⟩
  · refine gh_if (show gh_at (gm_me 47).1 8 = some (8, 3, .ifCond .eq (15), 0, 23, []) from rfl) (fun _ => ?_) (fun q => absurd rfl q)
    refine gh_iconst (x := -1) (show gh_at (gm_me 47).1 23 = some (23, 1, .iconst (-1), 34359738360, 0, []) from rfl) (by decide) ?_
    refine gh_iret (show gh_at (gm_me 47).1 24 = some (24, 1, .ireturn, 0, 0, []) from rfl) ?_
    exact Or.inl ⟨rfl, h0 (fun q => hl ⟨q.1, q.2.1⟩)⟩
