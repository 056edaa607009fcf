/-! undo, redo -/
def gs_uml : List (Nat × Nat) := [(260, 1048576), (264, 1048576), (236, 46), (236, 47)]
theorem gm_Xm {f : Nat} {σ σ' : gp_S} (hX : gm_X f σ) (hF : gt_fr gs_uml σ σ') (h1 : 0 ≤ σ' 236 46) (h2 : 0 ≤ σ' 236 47) (h3 : σ' 236 46 + σ' 236 47 ≤ 40) (h4 : ∀ i : Nat, (i : Int) < σ' 236 46 + σ' 236 47 → gv_sv f (fun j => σ' 264 (29 * i + j))) : gm_X f σ' := by
  have e1 : ∀ j, σ' 255 j = σ 255 j := fun j => hF _ _ rfl
  have e2 : ∀ j, σ' 252 j = σ 252 j := fun j => hF _ _ rfl
  have e3 : ∀ j, σ' 253 j = σ 253 j := fun j => hF _ _ rfl
  have e5 : ∀ j, σ' 277 j = σ 277 j := fun j => hF _ _ rfl
  have e6 : ∀ j, σ' 278 j = σ 278 j := fun j => hF _ _ rfl
  obtain ⟨x1, x2, x3, x4, -, -, -, -, x9⟩ := hX
  refine ⟨?_, ?_, ?_, ?_, h1, h2, h3, h4, fun i hi hb => ?_⟩
  · rw [e2, e3]; exact gv_ok_eq e1 x1
  · rw [e2, e3]; exact gv_ok_eq e1 x2
  · rw [e2, e3]; exact x3
  · rw [e2, e3]; exact x4
  · rw [e6] at hb
    simp only [e5]
    exact x9 i hi hb
theorem gm_fin {f A : Nat} {σ σ' : gp_S} (hY : gm_Y f σ) (sA : gv_sv f (σ 260)) (hS : gv_sv f (fun j => σ 264 (29 * A + j))) (hF : gt_fr gs_uml σ σ') (h1 : 0 ≤ σ' 236 46) (h2 : 0 ≤ σ' 236 47) (h3 : σ' 236 46 + σ' 236 47 = σ 236 46 + σ 236 47) (l : ∀ j : Nat, (j : Int) < 29 → σ' 260 j = σ 264 (29 * A + j) ∧ σ' 264 (29 * A + j) = σ 260 j) (u : ∀ j : Nat, j < 29 * A → σ' 264 j = σ 264 j) (v : ∀ j : Nat, 29 * A + 29 ≤ j → σ' 264 j = σ 264 j) : gm_Y f σ' := by
  have hf := hY.1
  have x7 := hY.2.1.2.2.2.2.2.2.1
  have x8 := hY.2.1.2.2.2.2.2.2.2.1
  refine ⟨hf, gm_Xm hY.2.1 hF h1 h2 (by omega) (fun i hi => ?_), gv_q_eq (fun j hj => (l j (by omega)).1) hS.2.2.2⟩
  by_cases e : i = A
  · subst e
    exact gv_sv_eq hf (fun j hj => (l j (by omega)).2) sA
  · refine gv_sv_eq hf (fun j hj => ?_) (x8 i (by omega))
    show σ' 264 (29 * i + j) = σ 264 (29 * i + j)
    rcases (show i < A ∨ A < i by omega) with q | q
    · exact u _ (by omega)
    · exact v _ (by omega)

theorem gz_undo {b f : Nat} {σ : gp_S} (hW : gt_W (gs_wm b f) σ) (hY : gm_Y f σ) : gp_call gs_sh 2 160 [.inr 1891] σ (fun x σ' => gt_W (gs_wm b f) σ' ∧ gm_Y f σ' ∧ gt_fr gs_uml σ σ' ∧ gt_tv 73786976312018075658 x) := by
  refine gh_call (al := [.inr 1891]) (by decide +kernel) (by show 1 = _; decide +kernel) (by rw [show (gm_me 160).2.1 = 0 by decide +kernel]; rfl) (by show 1 = _; decide +kernel) ?_
  rw [show gm_rc 160 = 2 by decide +kernel]
  have hf := hY.1
  have sA := gm_sv hf hW hY.2.2
  have x5 := hY.2.1.2.2.2.2.1
  have x6 := hY.2.1.2.2.2.2.2.1
  have x7 := hY.2.1.2.2.2.2.2.2.1
  have x8 := hY.2.1.2.2.2.2.2.2.2.1
  refine gh_aload_n (show gh_at (gm_me 160).1 0 = some (0, 1, .aload_n 0, 0, 0, []) from rfl) rfl rfl ?_
  refine gh_get (show gh_at (gm_me 160).1 1 = some (1, 3, .getfield 380, 1, 46, [(0, 1487)]) from rfl) rfl (by decide +kernel) (by decide +kernel) (gh_rd0 (by decide +kernel)) ?_
  refine gh_if (show gh_at (gm_me 160).1 4 = some (4, 3, .ifCond .ne (5), 0, 9, []) from rfl) (fun hc => ?_) (fun hc => ?_)
  · have hc : ¬ σ 236 46 = 0 := hc
    obtain ⟨A, eA⟩ : ∃ A : Nat, σ 236 46 = (A : Int) + 1 := ⟨(σ 236 46).toNat - 1, by omega⟩
    refine gh_aload_n (show gh_at (gm_me 160).1 9 = some (9, 1, .aload_n 0, 0, 0, []) from rfl) rfl rfl ?_
    refine gh_dup (show gh_at (gm_me 160).1 10 = some (10, 1, .dup, 0, 0, []) from rfl) rfl ?_
    refine gh_get (show gh_at (gm_me 160).1 11 = some (11, 3, .getfield 380, 1, 46, [(0, 1487)]) from rfl) rfl (by decide +kernel) (by decide +kernel) (gh_rd0 (by decide +kernel)) ?_
    refine gh_iconst (x := 1) (show gh_at (gm_me 160).1 14 = some (14, 1, .iconst 1, 8, 0, []) from rfl) (by decide) ?_
    refine gh_isub (z := (A : Int)) (show gh_at (gm_me 160).1 15 = some (15, 1, .isub, 0, 0, []) from rfl) (by rw [eA]; rw [gh_sub (by unfold gh_r; omega) (by unfold gh_r; omega) (by unfold gh_r; omega)]; omega) ?_
    refine gh_put (show gh_at (gm_me 160).1 16 = some (16, 3, .putfield 380, 1, 46, [(0, 1487)]) from rfl) rfl (by decide +kernel) (by decide +kernel) (by decide +kernel) (Or.inl rfl) ?_
    show gp_ok _ _ _ _ _ _ _ [] (gp_up σ 236 46 ((A : Int)))
    have W1 := gh_Wu hW (c := 236) (j := 46) (x := (A : Int)) (fun _ => show gt_tv 73786976312018075970 (.inl ((A : Int))) from gh_mk (by decide) (by unfold gh_r; omega) (by omega) (by omega))
    have u1 : gp_up σ 236 46 (A : Int) 236 47 = σ 236 47 := gh_up_ne (by decide)
    refine gh_aload_n (show gh_at (gm_me 160).1 19 = some (19, 1, .aload_n 0, 0, 0, []) from rfl) rfl rfl ?_
    refine gh_dup (show gh_at (gm_me 160).1 20 = some (20, 1, .dup, 0, 0, []) from rfl) rfl ?_
    refine gh_get (show gh_at (gm_me 160).1 21 = some (21, 3, .getfield 383, 1, 47, [(0, 1488)]) from rfl) rfl (by decide +kernel) (by decide +kernel) (gh_rd0 (by decide +kernel)) ?_
    refine gh_iconst (x := 1) (show gh_at (gm_me 160).1 24 = some (24, 1, .iconst 1, 8, 0, []) from rfl) (by decide) ?_
    refine gh_iadd (z := σ 236 47 + 1) (show gh_at (gm_me 160).1 25 = some (25, 1, .iadd, 0, 0, []) from rfl) (by show gp_b2 _ (gp_up σ 236 46 (A : Int) 236 47) 1 = _; rw [u1]; exact gh_add (by unfold gh_r; omega) (by unfold gh_r; omega) (by unfold gh_r; omega)) ?_
    refine gh_put (show gh_at (gm_me 160).1 26 = some (26, 3, .putfield 383, 1, 47, [(0, 1488)]) from rfl) rfl (by decide +kernel) (by decide +kernel) (by decide +kernel) (Or.inl rfl) ?_
    show gp_ok _ _ _ _ _ _ _ [] (gp_up (gp_up σ 236 46 (A : Int)) 236 47 (σ 236 47 + 1))
    have W2 := gh_Wu W1 (c := 236) (j := 47) (x := σ 236 47 + 1) (fun _ => show gt_tv 73786976312018075970 (.inl (σ 236 47 + 1)) from gh_mk (by decide) (by unfold gh_r; omega) (by omega) (by omega))
    have a2 : (gp_up (gp_up σ 236 46 (A : Int)) 236 47 (σ 236 47 + 1)) 236 46 = (A : Int) := (gh_up_ne (by decide)).trans (gh_up_eq _ _ _ _)
    have u2 : (gp_up (gp_up σ 236 46 (A : Int)) 236 47 (σ 236 47 + 1)) 236 47 = σ 236 47 + 1 := gh_up_eq _ _ _ _
    have o2 : ∀ c j, ¬ c = 236 → (gp_up (gp_up σ 236 46 (A : Int)) 236 47 (σ 236 47 + 1)) c j = σ c j := fun c j q => (gh_up_ne (fun e => q e.1)).trans (gh_up_ne (fun e => q e.1))
    have F2 : gt_fr gs_uml σ (gp_up (gp_up σ 236 46 (A : Int)) 236 47 (σ 236 47 + 1)) := gh_fu (gh_fu gh_f0 (by decide +kernel)) (by decide +kernel)
    generalize (gp_up (gp_up σ 236 46 (A : Int)) 236 47 (σ 236 47 + 1)) = σ2 at W2 a2 u2 o2 F2 ⊢
    refine gh_aload_n (show gh_at (gm_me 160).1 29 = some (29, 1, .aload_n 0, 0, 0, []) from rfl) rfl rfl ?_
    have hS := x8 A (by omega)
    refine gh_callV (r := 1891) (as := []) (t := []) (show gh_at (gm_me 160).1 30 = some (30, 3, .invokevirtual 436, 228, 0, [(0, 1903)]) from rfl) (by decide) rfl (by show 1 = _; decide +kernel) (Nat.le_trans (gh_wd _) (Nat.le_of_ble_eq_true rfl)) rfl (by decide +kernel) (by decide +kernel) (gz_swap (d := 0) hf W2 (A := A) (by omega) a2 (gv_sv_eq hf (fun j _ => o2 _ _ (by decide)) hS)) gh_mono (fun v σ3 hv => ?_)
    obtain ⟨W3, l3, r3, u3, v3, o3⟩ := hv
    rw [show gm_rc 228 = 0 by decide +kernel]
    show gp_ok _ _ _ _ _ _ _ [] σ3
    refine gh_iconst (x := 1) (show gh_at (gm_me 160).1 33 = some (33, 1, .iconst 1, 8, 0, []) from rfl) (by decide) ?_
    refine gh_iret (show gh_at (gm_me 160).1 34 = some (34, 1, .ireturn, 0, 0, []) from rfl) ?_
    refine Or.inr ⟨rfl, Or.inr rfl, W3, gm_fin (A := A) hY sA hS (fun c j q => ?_) (by rw [o3 236 46 (by decide) (by decide)]; omega) (by rw [o3 236 47 (by decide) (by decide)]; omega) (by rw [o3 236 46 (by decide) (by decide), o3 236 47 (by decide) (by decide)]; omega) (fun j hj => by rw [(l3 j hj).1, (l3 j hj).2]; exact ⟨o2 _ _ (by decide), o2 _ _ (by decide)⟩) (fun j hj => (u3 j hj).trans (o2 _ _ (by decide))) (fun j hj => (v3 j hj).trans (o2 _ _ (by decide))), fun c j q => ?_, gh_mk (by decide) (by unfold gh_r; omega) (by omega) (by omega)⟩
    · refine (o3 c j (fun e => ?_) (fun e => ?_)).trans (F2 c j q)
      · subst e; rw [show gb_mo gs_uml 260 j = true from gb_mo_mem j (by decide)] at q; cases q
      · subst e; rw [show gb_mo gs_uml 264 j = true from gb_mo_mem j (by decide)] at q; cases q
    · refine (o3 c j (fun e => ?_) (fun e => ?_)).trans (F2 c j q)
      · subst e; rw [show gb_mo gs_uml 260 j = true from gb_mo_mem j (by decide)] at q; cases q
      · subst e; rw [show gb_mo gs_uml 264 j = true from gb_mo_mem j (by decide)] at q; cases q
  · refine gh_iconst (x := 0) (show gh_at (gm_me 160).1 7 = some (7, 1, .iconst 0, 0, 0, []) from rfl) (by decide) ?_
    refine gh_iret (show gh_at (gm_me 160).1 8 = some (8, 1, .ireturn, 0, 0, []) from rfl) ?_
    exact Or.inr ⟨rfl, Or.inl rfl, hW, hY, gh_f0, gh_mk (by decide) (by unfold gh_r; omega) (by omega) (by omega)⟩
theorem gz_redo {b f : Nat} {σ : gp_S} (hW : gt_W (gs_wm b f) σ) (hY : gm_Y f σ) : gp_call gs_sh 2 157 [.inr 1891] σ (fun x σ' => gt_W (gs_wm b f) σ' ∧ gm_Y f σ' ∧ gt_fr gs_uml σ σ' ∧ gt_tv 73786976312018075658 x) := by
  refine gh_call (al := [.inr 1891]) (by decide +kernel) (by show 1 = _; decide +kernel) (by rw [show (gm_me 157).2.1 = 0 by decide +kernel]; rfl) (by show 1 = _; decide +kernel) ?_
  rw [show gm_rc 157 = 2 by decide +kernel]
  have hf := hY.1
  have sA := gm_sv hf hW hY.2.2
  have x5 := hY.2.1.2.2.2.2.1
  have x6 := hY.2.1.2.2.2.2.2.1
  have x7 := hY.2.1.2.2.2.2.2.2.1
  have x8 := hY.2.1.2.2.2.2.2.2.2.1
  refine gh_aload_n (show gh_at (gm_me 157).1 0 = some (0, 1, .aload_n 0, 0, 0, []) from rfl) rfl rfl ?_
  refine gh_get (show gh_at (gm_me 157).1 1 = some (1, 3, .getfield 383, 1, 47, [(0, 1488)]) from rfl) rfl (by decide +kernel) (by decide +kernel) (gh_rd0 (by decide +kernel)) ?_
  refine gh_if (show gh_at (gm_me 157).1 4 = some (4, 3, .ifCond .ne (5), 0, 9, []) from rfl) (fun hc => ?_) (fun hc => ?_)
  · have hc : ¬ σ 236 47 = 0 := hc
    obtain ⟨A, eA⟩ : ∃ A : Nat, σ 236 46 = (A : Int) := ⟨(σ 236 46).toNat, by omega⟩
    have hS := x8 A (by omega)
    refine gh_aload_n (show gh_at (gm_me 157).1 9 = some (9, 1, .aload_n 0, 0, 0, []) from rfl) rfl rfl ?_
    refine gh_callV (r := 1891) (as := []) (t := []) (show gh_at (gm_me 157).1 10 = some (10, 3, .invokevirtual 436, 228, 0, [(0, 1903)]) from rfl) (by decide) rfl (by show 1 = _; decide +kernel) (Nat.le_trans (gh_wd _) (Nat.le_of_ble_eq_true rfl)) rfl (by decide +kernel) (by decide +kernel) (gz_swap (d := 0) hf hW (A := A) (by omega) eA hS) gh_mono (fun v σ3 hv => ?_)
    obtain ⟨W3, l3, r3, u3, v3, o3⟩ := hv
    rw [show gm_rc 228 = 0 by decide +kernel]
    show gp_ok _ _ _ _ _ _ _ [] σ3
    have a3 : σ3 236 46 = (A : Int) := (o3 _ _ (by decide) (by decide)).trans eA
    have b3 : σ3 236 47 = σ 236 47 := o3 _ _ (by decide) (by decide)
    refine gh_aload_n (show gh_at (gm_me 157).1 13 = some (13, 1, .aload_n 0, 0, 0, []) from rfl) rfl rfl ?_
    refine gh_dup (show gh_at (gm_me 157).1 14 = some (14, 1, .dup, 0, 0, []) from rfl) rfl ?_
    refine gh_get (show gh_at (gm_me 157).1 15 = some (15, 3, .getfield 380, 1, 46, [(0, 1487)]) from rfl) rfl (by decide +kernel) (by decide +kernel) (gh_rd0 (by decide +kernel)) ?_
    refine gh_iconst (x := 1) (show gh_at (gm_me 157).1 18 = some (18, 1, .iconst 1, 8, 0, []) from rfl) (by decide) ?_
    refine gh_iadd (z := (A : Int) + 1) (show gh_at (gm_me 157).1 19 = some (19, 1, .iadd, 0, 0, []) from rfl) (by show gp_b2 _ (σ3 236 46) 1 = _; rw [a3]; exact gh_add (by unfold gh_r; omega) (by unfold gh_r; omega) (by unfold gh_r; omega)) ?_
    refine gh_put (show gh_at (gm_me 157).1 20 = some (20, 3, .putfield 380, 1, 46, [(0, 1487)]) from rfl) rfl (by decide +kernel) (by decide +kernel) (by decide +kernel) (Or.inl rfl) ?_
    show gp_ok _ _ _ _ _ _ _ [] (gp_up σ3 236 46 ((A : Int) + 1))
    have W4 := gh_Wu W3 (c := 236) (j := 46) (x := (A : Int) + 1) (fun _ => show gt_tv 73786976312018075970 (.inl ((A : Int) + 1)) from gh_mk (by decide) (by unfold gh_r; omega) (by omega) (by omega))
    have u4 : gp_up σ3 236 46 ((A : Int) + 1) 236 47 = σ 236 47 := (gh_up_ne (by decide)).trans b3
    refine gh_aload_n (show gh_at (gm_me 157).1 23 = some (23, 1, .aload_n 0, 0, 0, []) from rfl) rfl rfl ?_
    refine gh_dup (show gh_at (gm_me 157).1 24 = some (24, 1, .dup, 0, 0, []) from rfl) rfl ?_
    refine gh_get (show gh_at (gm_me 157).1 25 = some (25, 3, .getfield 383, 1, 47, [(0, 1488)]) from rfl) rfl (by decide +kernel) (by decide +kernel) (gh_rd0 (by decide +kernel)) ?_
    refine gh_iconst (x := 1) (show gh_at (gm_me 157).1 28 = some (28, 1, .iconst 1, 8, 0, []) from rfl) (by decide) ?_
    refine gh_isub (z := σ 236 47 - 1) (show gh_at (gm_me 157).1 29 = some (29, 1, .isub, 0, 0, []) from rfl) (by show gp_b2 _ (gp_up σ3 236 46 ((A : Int) + 1) 236 47) 1 = _; rw [u4]; exact gh_sub (by unfold gh_r; omega) (by unfold gh_r; omega) (by unfold gh_r; omega)) ?_
    refine gh_put (show gh_at (gm_me 157).1 30 = some (30, 3, .putfield 383, 1, 47, [(0, 1488)]) from rfl) rfl (by decide +kernel) (by decide +kernel) (by decide +kernel) (Or.inl rfl) ?_
    show gp_ok _ _ _ _ _ _ _ [] (gp_up (gp_up σ3 236 46 ((A : Int) + 1)) 236 47 (σ 236 47 - 1))
    have W5 := gh_Wu W4 (c := 236) (j := 47) (x := σ 236 47 - 1) (fun _ => show gt_tv 73786976312018075970 (.inl (σ 236 47 - 1)) from gh_mk (by decide) (by unfold gh_r; omega) (by omega) (by omega))
    have a5 : (gp_up (gp_up σ3 236 46 ((A : Int) + 1)) 236 47 (σ 236 47 - 1)) 236 46 = (A : Int) + 1 := (gh_up_ne (by decide)).trans (gh_up_eq _ _ _ _)
    have u5 : (gp_up (gp_up σ3 236 46 ((A : Int) + 1)) 236 47 (σ 236 47 - 1)) 236 47 = σ 236 47 - 1 := gh_up_eq _ _ _ _
    have o5 : ∀ c j, ¬ c = 236 → (gp_up (gp_up σ3 236 46 ((A : Int) + 1)) 236 47 (σ 236 47 - 1)) c j = σ3 c j := fun c j q => (gh_up_ne (fun e => q e.1)).trans (gh_up_ne (fun e => q e.1))
    have F3 : gt_fr gs_uml σ σ3 := fun c j q => o3 c j (fun e => by subst e; rw [show gb_mo gs_uml 260 j = true from gb_mo_mem j (by decide)] at q; cases q) (fun e => by subst e; rw [show gb_mo gs_uml 264 j = true from gb_mo_mem j (by decide)] at q; cases q)
    have F5 : gt_fr gs_uml σ (gp_up (gp_up σ3 236 46 ((A : Int) + 1)) 236 47 (σ 236 47 - 1)) := gh_fu (gh_fu F3 (by decide +kernel)) (by decide +kernel)
    generalize (gp_up (gp_up σ3 236 46 ((A : Int) + 1)) 236 47 (σ 236 47 - 1)) = σ5 at W5 a5 u5 o5 F5 ⊢
    refine gh_iconst (x := 1) (show gh_at (gm_me 157).1 33 = some (33, 1, .iconst 1, 8, 0, []) from rfl) (by decide) ?_
    refine gh_iret (show gh_at (gm_me 157).1 34 = some (34, 1, .ireturn, 0, 0, []) from rfl) ?_
    exact Or.inr ⟨rfl, Or.inr rfl, W5, gm_fin (A := A) hY sA hS F5 (by omega) (by omega) (by omega) (fun j hj => by rw [o5 260 _ (by decide), o5 264 _ (by decide)]; exact l3 j hj) (fun j hj => (o5 _ _ (by decide)).trans (u3 j hj)) (fun j hj => (o5 _ _ (by decide)).trans (v3 j hj)), F5, gh_mk (by decide) (by unfold gh_r; omega) (by omega) (by omega)⟩
  · refine gh_iconst (x := 0) (show gh_at (gm_me 157).1 7 = some (7, 1, .iconst 0, 0, 0, []) from rfl) (by decide) ?_
    refine gh_iret (show gh_at (gm_me 157).1 8 = some (8, 1, .ireturn, 0, 0, []) from rfl) ?_
    exact Or.inr ⟨rfl, Or.inl rfl, hW, hY, gh_f0, gh_mk (by decide) (by unfold gh_r; omega) (by omega) (by omega)⟩
