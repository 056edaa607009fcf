/-! keepAct -/
def gs_kml : List (Nat × Nat) := [(264, 1048576), (236, 46), (236, 47)]
theorem gm_Xk {f : Nat} {σ σ' : gp_S} (hX : gm_X f σ) (hF : gt_fr gs_kml σ σ') (h1 : 0 ≤ σ' 236 46) (h2 : 0 ≤ σ' 236 47) (h3 : σ' 236 46 + σ' 236 47 ≤ 40) (h4 : ∀ i : Nat, (i : Int) < σ' 236 46 + σ' 236 47 → gv_sv f (fun j => σ' 264 (29 * i + j))) : gm_X f σ' := by
  have e1 : ∀ j, σ' 255 j = σ 255 j := fun j => hF _ _ rfl
  have e2 : ∀ j, σ' 252 j = σ 252 j := fun j => hF _ _ rfl
  have e3 : ∀ j, σ' 253 j = σ 253 j := fun j => hF _ _ rfl
  have e5 : ∀ j, σ' 277 j = σ 277 j := fun j => hF _ _ rfl
  have e6 : ∀ j, σ' 278 j = σ 278 j := fun j => hF _ _ rfl
  obtain ⟨x1, x2, x3, x4, -, -, -, -, x9⟩ := hX
  refine ⟨?_, ?_, ?_, ?_, h1, h2, h3, h4, fun i hi hb => ?_⟩
  · rw [e2, e3]; exact gv_ok_eq e1 x1
  · rw [e2, e3]; exact gv_ok_eq e1 x2
  · rw [e2, e3]; exact x3
  · rw [e2, e3]; exact x4
  · rw [e6] at hb
    simp only [e5]
    exact x9 i hi hb
theorem gm_sv {b f : Nat} {σ : gp_S} (hf : f < 8) (hW : gt_W (gs_wm b f) σ) (hQ : gv_q f (σ 260)) : gv_sv f (σ 260) := by
  refine ⟨fun j hj => ?_, ?_, ?_, hQ⟩
  · have h := (gh_tv (gh_Wg hW 260 j (t := 73786976312018075698) (by show ¬ 100 = 999; decide) (by show j < 29; omega) (by
      rcases (show j = 0 ∨ j = 1 ∨ j = 2 ∨ j = 3 ∨ j = 4 ∨ j = 5 ∨ j = 6 by omega) with e | e | e | e | e | e | e <;> subst e <;> rfl) (by decide))).2
    omega
  · have ht := (gh_tv (gh_Wg hW 260 24 (t := 8 * (2147483647 * 4294967296 + (2147483647 + f)) + 2) (by show ¬ 100 = 999; decide) (by show 24 < 29; decide) rfl (by omega))).2
    omega
  · have ht := (gh_tv (gh_Wg hW 260 24 (t := 8 * (2147483647 * 4294967296 + (2147483647 + f)) + 2) (by show ¬ 100 = 999; decide) (by show 24 < 29; decide) rfl (by omega))).2
    omega
theorem gv_sv_eq {f : Nat} {g h : Nat → Int} (hf : f < 8) (e : ∀ j, j < 29 → h j = g j) (hg : gv_sv f g) : gv_sv f h := by
  obtain ⟨g1, g2, g3, g4, g5⟩ := hg
  refine ⟨fun j hj => ?_, ?_, ?_, fun j hj => ?_, fun i j hi hj => ?_⟩
  · rw [e j (by omega)]; exact g1 j hj
  · rw [e 24 (by omega)]; exact g2
  · rw [e 24 (by omega)]; exact g3
  · rw [e j (by omega)]; exact g4 j hj
  · rw [e i (by omega), e j (by omega)]; exact g5 i j hi hj

theorem gm_all2 {b f : Nat} : ∀ n, n < 29 → gb_ty (gs_wm b f 260) n % 8 = 2 := by
  intro n hn
  by_cases e : n = 24
  · subst e
    show (8 * (2147483647 * 4294967296 + (2147483647 + f)) + 2) % 8 = 2
    omega
  · by_cases h7 : n < 7
    · rcases (show n = 0 ∨ n = 1 ∨ n = 2 ∨ n = 3 ∨ n = 4 ∨ n = 5 ∨ n = 6 by omega) with h | h | h | h | h | h | h <;> subst h <;> exact (congrArg (fun t => t % 8) (show gb_ty (gs_wm b f 260) _ = 73786976312018075698 from rfl)).trans (by decide)
    · rcases (show n = 7 ∨ n = 8 ∨ n = 9 ∨ n = 10 ∨ n = 11 ∨ n = 12 ∨ n = 13 ∨ n = 14 ∨ n = 15 ∨ n = 16 ∨ n = 17 ∨ n = 18 ∨ n = 19 ∨ n = 20 ∨ n = 21 ∨ n = 22 ∨ n = 23 ∨ n = 25 ∨ n = 26 ∨ n = 27 ∨ n = 28 by omega) with h | h | h | h | h | h | h | h | h | h | h | h | h | h | h | h | h | h | h | h | h <;> subst h <;> exact (congrArg (fun t => t % 8) (show gb_ty (gs_wm b f 260) _ = 34359738362 from rfl)).trans (by decide)
theorem gz_keep {b f : Nat} (hf : f < 8) {σ : gp_S} (hW : gt_W (gs_wm b f) σ) (hX : gm_X f σ) (hQ : gv_q f (σ 260)) : gp_call gs_sh 1 82 [.inr 1891] σ (fun _ σ' => gt_W (gs_wm b f) σ' ∧ gm_X f σ' ∧ gt_fr gs_kml σ σ') := by
  refine gh_call (al := [.inr 1891, .inr 7]) (by decide +kernel) (by show 1 = _; decide +kernel) (by rw [show (gm_me 82).2.1 = 1 by decide +kernel]; rfl) (by show 2 = _; decide +kernel) ?_
  rw [show gm_rc 82 = 0 by decide +kernel]
  have sA := gm_sv hf hW hQ
  have hX0 := hX
  obtain ⟨-, -, -, -, x5, x6, x7, x8, -⟩ := hX
  have second : ∀ (σb : gp_S) (A : Nat) (y : gp_V), A ≤ 39 → gt_W (gs_wm b f) σb → gt_fr gs_kml σ σb → σb 236 46 = (A : Int) → (∀ i, i < A → gv_sv f (fun j => σb 264 (29 * i + j))) → (∀ c, y = .inr c → c = 7) → gp_ok gs_sh (gp_call gs_sh 0) 0 (gm_me 82).1 (fun _ σ' => gt_W (gs_wm b f) σ' ∧ gm_X f σ' ∧ gt_fr gs_kml σ σ') 49 [.inr 1891, y] [] σb := by
    intro σb A y hA Wb Fb eb sb hy
    have loop : ∀ (m : Nat) (σ2 : gp_S) (k : Int), 29 - k ≤ m → 0 ≤ k → k ≤ 29 → gt_W (gs_wm b f) σ2 → gt_fr gs_kml σ σ2 → σ2 236 46 = (A : Int) → (∀ j : Nat, j < 29 * A → σ2 264 j = σb 264 j) → (∀ j : Nat, (j : Int) < k → σ2 264 (29 * A + j) = σ 260 j) → gp_ok gs_sh (gp_call gs_sh 0) 0 (gm_me 82).1 (fun _ σ' => gt_W (gs_wm b f) σ' ∧ gm_X f σ' ∧ gt_fr gs_kml σ σ') 51 [.inr 1891, .inl k] [] σ2 := by
      intro m
      induction m with
      | zero =>
        intro σ2 k hm h0 h29 W2 F2 e2 o2 n2
        refine gh_iload_n (show gh_at (gm_me 82).1 51 = some (51, 1, .iload_n 1, 0, 0, []) from rfl) rfl ?_
        refine gh_bipush (x := 29) (show gh_at (gm_me 82).1 52 = some (52, 2, .bipush (29), 232, 0, []) from rfl) (by decide) ?_
        refine gh_icmp (show gh_at (gm_me 82).1 54 = some (54, 3, .if_icmp .ge (29), 0, 83, []) from rfl) (fun hc => ?_) (fun hc => ?_)
        · have hc : 29 ≤ k := hc
          refine gh_aload_n (show gh_at (gm_me 82).1 83 = some (83, 1, .aload_n 0, 0, 0, []) from rfl) rfl rfl ?_
          refine gh_dup (show gh_at (gm_me 82).1 84 = some (84, 1, .dup, 0, 0, []) from rfl) rfl ?_
          refine gh_get (show gh_at (gm_me 82).1 85 = some (85, 3, .getfield 380, 1, 46, [(0, 1487)]) from rfl) rfl (by decide +kernel) (by decide +kernel) (gh_rd0 (by decide +kernel)) ?_
          refine gh_iconst (x := 1) (show gh_at (gm_me 82).1 88 = some (88, 1, .iconst 1, 8, 0, []) from rfl) (by decide) ?_
          refine gh_iadd (z := (A : Int) + 1) (show gh_at (gm_me 82).1 89 = some (89, 1, .iadd, 0, 0, []) from rfl) (by rw [e2]; exact gh_add (by unfold gh_r; omega) (by unfold gh_r; omega) (by unfold gh_r; omega)) ?_
          refine gh_put (show gh_at (gm_me 82).1 90 = some (90, 3, .putfield 380, 1, 46, [(0, 1487)]) from rfl) rfl (by decide +kernel) (by decide +kernel) (by decide +kernel) (Or.inl rfl) ?_
          show gp_ok _ _ _ _ _ _ _ [] (gp_up σ2 236 46 ((A : Int) + 1))
          refine gh_aload_n (show gh_at (gm_me 82).1 93 = some (93, 1, .aload_n 0, 0, 0, []) from rfl) rfl rfl ?_
          refine gh_iconst (x := 0) (show gh_at (gm_me 82).1 94 = some (94, 1, .iconst 0, 0, 0, []) from rfl) (by decide) ?_
          refine gh_put (show gh_at (gm_me 82).1 95 = some (95, 3, .putfield 383, 1, 47, [(0, 1488)]) from rfl) rfl (by decide +kernel) (by decide +kernel) (by decide +kernel) (Or.inl rfl) ?_
          show gp_ok _ _ _ _ _ _ _ [] (gp_up (gp_up σ2 236 46 ((A : Int) + 1)) 236 47 0)
          refine gh_ret (show gh_at (gm_me 82).1 98 = some (98, 1, .return_, 0, 0, []) from rfl) rfl ?_
          have W4 := gh_Wu W2 (c := 236) (j := 46) (x := (A : Int) + 1) (fun _ => show gt_tv 73786976312018075970 (.inl ((A : Int) + 1)) from gh_mk (by decide) (by unfold gh_r; omega) (by omega) (by omega))
          have W5 := gh_Wu W4 (c := 236) (j := 47) (x := 0) (fun _ => show gt_tv 73786976312018075970 (.inl 0) from gh_mk (by decide) (by unfold gh_r; omega) (by omega) (by omega))
          have F5 : gt_fr gs_kml σ (gp_up (gp_up σ2 236 46 ((A : Int) + 1)) 236 47 0) := gh_fu (gh_fu F2 (by decide +kernel)) (by decide +kernel)
          have a5 : (gp_up (gp_up σ2 236 46 ((A : Int) + 1)) 236 47 0) 236 46 = (A : Int) + 1 := (gh_up_ne (by decide)).trans (gh_up_eq _ _ _ _)
          have u5 : (gp_up (gp_up σ2 236 46 ((A : Int) + 1)) 236 47 0) 236 47 = 0 := gh_up_eq _ _ _ _
          have w5 : ∀ j, (gp_up (gp_up σ2 236 46 ((A : Int) + 1)) 236 47 0) 264 j = σ2 264 j := fun j => (gh_up_ne (fun q => absurd q.1 (by decide))).trans (gh_up_ne (fun q => absurd q.1 (by decide)))
          generalize (gp_up (gp_up σ2 236 46 ((A : Int) + 1)) 236 47 0) = σ5 at W5 F5 a5 u5 w5 ⊢
          refine ⟨W5, gm_Xk hX0 F5 (by omega) (by omega) (by omega) (fun i hi => ?_), F5⟩
          rw [a5, u5] at hi
          by_cases e : i < A
          · exact gv_sv_eq hf (fun j hj => by show σ5 264 (29 * i + j) = σb 264 (29 * i + j); rw [w5]; exact o2 _ (by omega)) (sb i e)
          · have e : i = A := by omega
            subst e
            exact gv_sv_eq hf (fun j hj => by show σ5 264 (29 * i + j) = σ 260 j; rw [w5]; exact n2 j (by omega)) sA
        · have hc : ¬ 29 ≤ k := hc
          omega
      | succ m ih =>
        intro σ2 k hm h0 h29 W2 F2 e2 o2 n2
        refine gh_iload_n (show gh_at (gm_me 82).1 51 = some (51, 1, .iload_n 1, 0, 0, []) from rfl) rfl ?_
        refine gh_bipush (x := 29) (show gh_at (gm_me 82).1 52 = some (52, 2, .bipush (29), 232, 0, []) from rfl) (by decide) ?_
        refine gh_icmp (show gh_at (gm_me 82).1 54 = some (54, 3, .if_icmp .ge (29), 0, 83, []) from rfl) (fun hc => ?_) (fun hc => ?_)
        · have hc : 29 ≤ k := hc
          refine gh_aload_n (show gh_at (gm_me 82).1 83 = some (83, 1, .aload_n 0, 0, 0, []) from rfl) rfl rfl ?_
          refine gh_dup (show gh_at (gm_me 82).1 84 = some (84, 1, .dup, 0, 0, []) from rfl) rfl ?_
          refine gh_get (show gh_at (gm_me 82).1 85 = some (85, 3, .getfield 380, 1, 46, [(0, 1487)]) from rfl) rfl (by decide +kernel) (by decide +kernel) (gh_rd0 (by decide +kernel)) ?_
          refine gh_iconst (x := 1) (show gh_at (gm_me 82).1 88 = some (88, 1, .iconst 1, 8, 0, []) from rfl) (by decide) ?_
          refine gh_iadd (z := (A : Int) + 1) (show gh_at (gm_me 82).1 89 = some (89, 1, .iadd, 0, 0, []) from rfl) (by rw [e2]; exact gh_add (by unfold gh_r; omega) (by unfold gh_r; omega) (by unfold gh_r; omega)) ?_
          refine gh_put (show gh_at (gm_me 82).1 90 = some (90, 3, .putfield 380, 1, 46, [(0, 1487)]) from rfl) rfl (by decide +kernel) (by decide +kernel) (by decide +kernel) (Or.inl rfl) ?_
          show gp_ok _ _ _ _ _ _ _ [] (gp_up σ2 236 46 ((A : Int) + 1))
          refine gh_aload_n (show gh_at (gm_me 82).1 93 = some (93, 1, .aload_n 0, 0, 0, []) from rfl) rfl rfl ?_
          refine gh_iconst (x := 0) (show gh_at (gm_me 82).1 94 = some (94, 1, .iconst 0, 0, 0, []) from rfl) (by decide) ?_
          refine gh_put (show gh_at (gm_me 82).1 95 = some (95, 3, .putfield 383, 1, 47, [(0, 1488)]) from rfl) rfl (by decide +kernel) (by decide +kernel) (by decide +kernel) (Or.inl rfl) ?_
          show gp_ok _ _ _ _ _ _ _ [] (gp_up (gp_up σ2 236 46 ((A : Int) + 1)) 236 47 0)
          refine gh_ret (show gh_at (gm_me 82).1 98 = some (98, 1, .return_, 0, 0, []) from rfl) rfl ?_
          have W4 := gh_Wu W2 (c := 236) (j := 46) (x := (A : Int) + 1) (fun _ => show gt_tv 73786976312018075970 (.inl ((A : Int) + 1)) from gh_mk (by decide) (by unfold gh_r; omega) (by omega) (by omega))
          have W5 := gh_Wu W4 (c := 236) (j := 47) (x := 0) (fun _ => show gt_tv 73786976312018075970 (.inl 0) from gh_mk (by decide) (by unfold gh_r; omega) (by omega) (by omega))
          have F5 : gt_fr gs_kml σ (gp_up (gp_up σ2 236 46 ((A : Int) + 1)) 236 47 0) := gh_fu (gh_fu F2 (by decide +kernel)) (by decide +kernel)
          have a5 : (gp_up (gp_up σ2 236 46 ((A : Int) + 1)) 236 47 0) 236 46 = (A : Int) + 1 := (gh_up_ne (by decide)).trans (gh_up_eq _ _ _ _)
          have u5 : (gp_up (gp_up σ2 236 46 ((A : Int) + 1)) 236 47 0) 236 47 = 0 := gh_up_eq _ _ _ _
          have w5 : ∀ j, (gp_up (gp_up σ2 236 46 ((A : Int) + 1)) 236 47 0) 264 j = σ2 264 j := fun j => (gh_up_ne (fun q => absurd q.1 (by decide))).trans (gh_up_ne (fun q => absurd q.1 (by decide)))
          generalize (gp_up (gp_up σ2 236 46 ((A : Int) + 1)) 236 47 0) = σ5 at W5 F5 a5 u5 w5 ⊢
          refine ⟨W5, gm_Xk hX0 F5 (by omega) (by omega) (by omega) (fun i hi => ?_), F5⟩
          rw [a5, u5] at hi
          by_cases e : i < A
          · exact gv_sv_eq hf (fun j hj => by show σ5 264 (29 * i + j) = σb 264 (29 * i + j); rw [w5]; exact o2 _ (by omega)) (sb i e)
          · have e : i = A := by omega
            subst e
            exact gv_sv_eq hf (fun j hj => by show σ5 264 (29 * i + j) = σ 260 j; rw [w5]; exact n2 j (by omega)) sA
        · have hc : ¬ 29 ≤ k := hc
          refine gh_aload_n (show gh_at (gm_me 82).1 57 = some (57, 1, .aload_n 0, 0, 0, []) from rfl) rfl rfl ?_
          refine gh_get (show gh_at (gm_me 82).1 58 = some (58, 3, .getfield 103, 1, 45, [(0, 1486)]) from rfl) rfl (by decide +kernel) (by decide +kernel) (gh_rdr (r := 2115) (by decide +kernel) rfl) ?_
          refine gh_bipush (x := 29) (show gh_at (gm_me 82).1 61 = some (61, 2, .bipush (29), 232, 0, []) from rfl) (by decide) ?_
          refine gh_aload_n (show gh_at (gm_me 82).1 63 = some (63, 1, .aload_n 0, 0, 0, []) from rfl) rfl rfl ?_
          refine gh_get (show gh_at (gm_me 82).1 64 = some (64, 3, .getfield 380, 1, 46, [(0, 1487)]) from rfl) rfl (by decide +kernel) (by decide +kernel) (gh_rd0 (by decide +kernel)) ?_
          rw [e2]
          refine gh_imul (z := 29 * (A : Int)) (show gh_at (gm_me 82).1 67 = some (67, 1, .imul, 0, 0, []) from rfl) (gh_mul (by unfold gh_r; omega) (by unfold gh_r; omega) (by unfold gh_r; omega)) ?_
          refine gh_iload_n (show gh_at (gm_me 82).1 68 = some (68, 1, .iload_n 1, 0, 0, []) from rfl) rfl ?_
          refine gh_iadd (z := 29 * (A : Int) + k) (show gh_at (gm_me 82).1 69 = some (69, 1, .iadd, 0, 0, []) from rfl) (gh_add (by unfold gh_r; omega) (by unfold gh_r; omega) (by unfold gh_r; omega)) ?_
          refine gh_aload_n (show gh_at (gm_me 82).1 70 = some (70, 1, .aload_n 0, 0, 0, []) from rfl) rfl rfl ?_
          refine gh_get (show gh_at (gm_me 82).1 71 = some (71, 3, .getfield 85, 1, 38, [(0, 1479)]) from rfl) rfl (by decide +kernel) (by decide +kernel) (gh_rdr (r := 2083) (by decide +kernel) rfl) ?_
          refine gh_iload_n (show gh_at (gm_me 82).1 74 = some (74, 1, .iload_n 1, 0, 0, []) from rfl) rfl ?_
          refine gh_iald (show gh_at (gm_me 82).1 75 = some (75, 1, .iaload, 0, 0, []) from rfl) rfl (by decide +kernel) (by decide +kernel) (gh_ix (N := 29) (by decide +kernel) (by omega) (by omega)) (gh_rd0 (gh_pk0 (by decide +kernel) _)) ?_
          have ea : σ2 260 k.toNat = σ 260 k.toNat := F2 260 _ rfl
          have ra : gh_r (σ 260 k.toNat) := by
            obtain ⟨y, e, -⟩ := hW 260 k.toNat (by show ¬ 100 = 999; decide) (by show k.toNat < 29; omega) (by
              obtain ⟨n, en, hn⟩ : ∃ n : Nat, k.toNat = n ∧ n < 29 := ⟨_, rfl, by omega⟩
              rw [en]
              exact gm_all2 n hn)
            rw [← e]; exact ⟨Int32.le_toInt y, Int32.toInt_lt y⟩
          show gp_ok _ _ _ _ _ _ _ (.inl (σ2 260 k.toNat) :: _) _
          rw [ea]
          refine gh_iast (show gh_at (gm_me 82).1 76 = some (76, 1, .iastore, 0, 0, []) from rfl) rfl (by decide +kernel) (by decide +kernel) (gh_ix (N := 1189) (by decide +kernel) (by omega) (by omega)) (gh_pk0 (by decide +kernel) _) ?_
          show gp_ok _ _ _ _ _ _ _ [] (gp_up σ2 264 (29 * (A : Int) + k).toNat (σ 260 k.toNat))
          have W3 : gt_W (gs_wm b f) (gp_up σ2 264 (29 * (A : Int) + k).toNat (σ 260 k.toNat)) := gh_Wu W2 (fun _ => gh_any ra)
          have F3 : gt_fr gs_kml σ (gp_up σ2 264 (29 * (A : Int) + k).toNat (σ 260 k.toNat)) := gh_fu F2 (gb_mo_mem _ (by decide))
          have e3 : (gp_up σ2 264 (29 * (A : Int) + k).toNat (σ 260 k.toNat)) 236 46 = (A : Int) := (gh_up_ne (fun q => absurd q.1 (by decide))).trans e2
          have o3 : ∀ j : Nat, j < 29 * A → (gp_up σ2 264 (29 * (A : Int) + k).toNat (σ 260 k.toNat)) 264 j = σb 264 j := fun j hj => (gh_up_ne (fun q => by have := q.2; omega)).trans (o2 j hj)
          have n3 : ∀ j : Nat, (j : Int) < k + 1 → (gp_up σ2 264 (29 * (A : Int) + k).toNat (σ 260 k.toNat)) 264 (29 * A + j) = σ 260 j := fun j hj => by
            by_cases e : (j : Int) = k
            · rw [show 29 * A + j = (29 * (A : Int) + k).toNat by omega, gh_up_eq, show k.toNat = j by omega]
            · exact (gh_up_ne (fun q => by have := q.2; omega)).trans (n2 j (by omega))
          generalize (gp_up σ2 264 (29 * (A : Int) + k).toNat (σ 260 k.toNat)) = σ3 at W3 F3 e3 o3 n3 ⊢
          refine gh_iinc (show gh_at (gm_me 82).1 77 = some (77, 3, .iinc 1 (1), 8, 0, []) from rfl) rfl (fun c q => by cases q <;> decide) (y := k + 1) (gh_add (by unfold gh_r; omega) (by show gh_r 1; unfold gh_r; omega) (by show gh_r (k + 1); unfold gh_r; omega)) rfl ?_
          refine gh_goto (show gh_at (gm_me 82).1 80 = some (80, 3, .goto (-29), 0, 51, []) from rfl) ?_
          exact ih σ3 (k + 1) (by omega) (by omega) (by omega) W3 F3 e3 o3 n3
    refine gh_iconst (x := 0) (show gh_at (gm_me 82).1 49 = some (49, 1, .iconst 0, 0, 0, []) from rfl) (by decide) ?_
    refine gh_istore_n (show gh_at (gm_me 82).1 50 = some (50, 1, .istore_n 1, 0, 0, []) from rfl) (fun c q => by cases q <;> decide) rfl ?_
    exact loop 29 σb 0 (by omega) (by omega) (by omega) Wb Fb eb (fun j _ => rfl) (fun j hj => absurd hj (by omega))
  have first : σ 236 46 = 40 → ∀ (m : Nat) (σ1 : gp_S) (k : Int), 1160 - k ≤ m → 0 ≤ k → k ≤ 1160 → gt_W (gs_wm b f) σ1 → gt_fr gs_kml σ σ1 → σ1 236 46 = 40 → (∀ j : Nat, (j : Int) < k → σ1 264 j = σ 264 (j + 29)) → (∀ j : Nat, k ≤ j → σ1 264 j = σ 264 j) → gp_ok gs_sh (gp_call gs_sh 0) 0 (gm_me 82).1 (fun _ σ' => gt_W (gs_wm b f) σ' ∧ gm_X f σ' ∧ gt_fr gs_kml σ σ') 11 [.inr 1891, .inl k] [] σ1 := by
    intro h40 m
    induction m with
    | zero =>
      intro σ1 k hm h0 hk W1 F1 a1 l1 r1
      refine gh_iload_n (show gh_at (gm_me 82).1 11 = some (11, 1, .iload_n 1, 0, 0, []) from rfl) rfl ?_
      refine gh_sipush (x := 1160) (show gh_at (gm_me 82).1 12 = some (12, 3, .sipush (1160), 9280, 0, []) from rfl) (by decide) ?_
      refine gh_icmp (show gh_at (gm_me 82).1 15 = some (15, 3, .if_icmp .ge (24), 0, 39, []) from rfl) (fun hc => ?_) (fun hc => ?_)
      · have hc : 1160 ≤ k := hc
        refine gh_aload_n (show gh_at (gm_me 82).1 39 = some (39, 1, .aload_n 0, 0, 0, []) from rfl) rfl rfl ?_
        refine gh_dup (show gh_at (gm_me 82).1 40 = some (40, 1, .dup, 0, 0, []) from rfl) rfl ?_
        refine gh_get (show gh_at (gm_me 82).1 41 = some (41, 3, .getfield 380, 1, 46, [(0, 1487)]) from rfl) rfl (by decide +kernel) (by decide +kernel) (gh_rd0 (by decide +kernel)) ?_
        refine gh_iconst (x := 1) (show gh_at (gm_me 82).1 44 = some (44, 1, .iconst 1, 8, 0, []) from rfl) (by decide) ?_
        refine gh_isub (z := 39) (show gh_at (gm_me 82).1 45 = some (45, 1, .isub, 0, 0, []) from rfl) (by rw [a1]; exact gh_sub (by unfold gh_r; omega) (by unfold gh_r; omega) (by unfold gh_r; omega)) ?_
        refine gh_put (show gh_at (gm_me 82).1 46 = some (46, 3, .putfield 380, 1, 46, [(0, 1487)]) from rfl) rfl (by decide +kernel) (by decide +kernel) (by decide +kernel) (Or.inl rfl) ?_
        show gp_ok _ _ _ _ _ _ _ [] (gp_up σ1 236 46 39)
        refine second _ 39 _ (by omega) (gh_Wu W1 (c := 236) (j := 46) (x := 39) (fun _ => show gt_tv 73786976312018075970 (.inl 39) from gh_mk (by decide) (by unfold gh_r; omega) (by omega) (by omega))) (gh_fu F1 (by decide +kernel)) (gh_up_eq _ _ _ _) (fun i hi => ?_) (fun c q => by cases q)
        refine gv_sv_eq hf (fun j hj => ?_) (x8 (i + 1) (by omega))
        show gp_up σ1 236 46 39 264 (29 * i + j) = σ 264 (29 * (i + 1) + j)
        rw [gh_up_ne (fun q => absurd q.1 (by decide)), l1 _ (by omega), show 29 * i + j + 29 = 29 * (i + 1) + j by omega]
      · have hc : ¬ 1160 ≤ k := hc
        omega
    | succ m ih =>
      intro σ1 k hm h0 hk W1 F1 a1 l1 r1
      refine gh_iload_n (show gh_at (gm_me 82).1 11 = some (11, 1, .iload_n 1, 0, 0, []) from rfl) rfl ?_
      refine gh_sipush (x := 1160) (show gh_at (gm_me 82).1 12 = some (12, 3, .sipush (1160), 9280, 0, []) from rfl) (by decide) ?_
      refine gh_icmp (show gh_at (gm_me 82).1 15 = some (15, 3, .if_icmp .ge (24), 0, 39, []) from rfl) (fun hc => ?_) (fun hc => ?_)
      · have hc : 1160 ≤ k := hc
        refine gh_aload_n (show gh_at (gm_me 82).1 39 = some (39, 1, .aload_n 0, 0, 0, []) from rfl) rfl rfl ?_
        refine gh_dup (show gh_at (gm_me 82).1 40 = some (40, 1, .dup, 0, 0, []) from rfl) rfl ?_
        refine gh_get (show gh_at (gm_me 82).1 41 = some (41, 3, .getfield 380, 1, 46, [(0, 1487)]) from rfl) rfl (by decide +kernel) (by decide +kernel) (gh_rd0 (by decide +kernel)) ?_
        refine gh_iconst (x := 1) (show gh_at (gm_me 82).1 44 = some (44, 1, .iconst 1, 8, 0, []) from rfl) (by decide) ?_
        refine gh_isub (z := 39) (show gh_at (gm_me 82).1 45 = some (45, 1, .isub, 0, 0, []) from rfl) (by rw [a1]; exact gh_sub (by unfold gh_r; omega) (by unfold gh_r; omega) (by unfold gh_r; omega)) ?_
        refine gh_put (show gh_at (gm_me 82).1 46 = some (46, 3, .putfield 380, 1, 46, [(0, 1487)]) from rfl) rfl (by decide +kernel) (by decide +kernel) (by decide +kernel) (Or.inl rfl) ?_
        show gp_ok _ _ _ _ _ _ _ [] (gp_up σ1 236 46 39)
        refine second _ 39 _ (by omega) (gh_Wu W1 (c := 236) (j := 46) (x := 39) (fun _ => show gt_tv 73786976312018075970 (.inl 39) from gh_mk (by decide) (by unfold gh_r; omega) (by omega) (by omega))) (gh_fu F1 (by decide +kernel)) (gh_up_eq _ _ _ _) (fun i hi => ?_) (fun c q => by cases q)
        refine gv_sv_eq hf (fun j hj => ?_) (x8 (i + 1) (by omega))
        show gp_up σ1 236 46 39 264 (29 * i + j) = σ 264 (29 * (i + 1) + j)
        rw [gh_up_ne (fun q => absurd q.1 (by decide)), l1 _ (by omega), show 29 * i + j + 29 = 29 * (i + 1) + j by omega]
      · have hc : ¬ 1160 ≤ k := hc
        refine gh_aload_n (show gh_at (gm_me 82).1 18 = some (18, 1, .aload_n 0, 0, 0, []) from rfl) rfl rfl ?_
        refine gh_get (show gh_at (gm_me 82).1 19 = some (19, 3, .getfield 103, 1, 45, [(0, 1486)]) from rfl) rfl (by decide +kernel) (by decide +kernel) (gh_rdr (r := 2115) (by decide +kernel) rfl) ?_
        refine gh_iload_n (show gh_at (gm_me 82).1 22 = some (22, 1, .iload_n 1, 0, 0, []) from rfl) rfl ?_
        refine gh_aload_n (show gh_at (gm_me 82).1 23 = some (23, 1, .aload_n 0, 0, 0, []) from rfl) rfl rfl ?_
        refine gh_get (show gh_at (gm_me 82).1 24 = some (24, 3, .getfield 103, 1, 45, [(0, 1486)]) from rfl) rfl (by decide +kernel) (by decide +kernel) (gh_rdr (r := 2115) (by decide +kernel) rfl) ?_
        refine gh_iload_n (show gh_at (gm_me 82).1 27 = some (27, 1, .iload_n 1, 0, 0, []) from rfl) rfl ?_
        refine gh_bipush (x := 29) (show gh_at (gm_me 82).1 28 = some (28, 2, .bipush (29), 232, 0, []) from rfl) (by decide) ?_
        refine gh_iadd (z := k + 29) (show gh_at (gm_me 82).1 30 = some (30, 1, .iadd, 0, 0, []) from rfl) (gh_add (by unfold gh_r; omega) (by unfold gh_r; omega) (by unfold gh_r; omega)) ?_
        refine gh_iald (show gh_at (gm_me 82).1 31 = some (31, 1, .iaload, 0, 0, []) from rfl) rfl (by decide +kernel) (by decide +kernel) (gh_ix (N := 1189) (by decide +kernel) (by omega) (by omega)) (gh_rd0 (gh_pk0 (by decide +kernel) _)) ?_
        show gp_ok _ _ _ _ _ _ _ (.inl (σ1 264 (k + 29).toNat) :: _) _
        have ra := (gh_tv (gh_Wg W1 264 (k + 29).toNat (t := 34359738362) (by show ¬ 100 = 999; decide) (by show (k + 29).toNat < 1189; omega) rfl (by decide))).1
        have ea : σ1 264 (k + 29).toNat = σ 264 (k.toNat + 29) := by rw [show (k + 29).toNat = k.toNat + 29 by omega]; exact r1 _ (by omega)
        refine gh_iast (show gh_at (gm_me 82).1 32 = some (32, 1, .iastore, 0, 0, []) from rfl) rfl (by decide +kernel) (by decide +kernel) (gh_ix (N := 1189) (by decide +kernel) (by omega) (by omega)) (gh_pk0 (by decide +kernel) _) ?_
        show gp_ok _ _ _ _ _ _ _ [] (gp_up σ1 264 k.toNat (σ1 264 (k + 29).toNat))
        have W3 : gt_W (gs_wm b f) (gp_up σ1 264 k.toNat (σ1 264 (k + 29).toNat)) := gh_Wu W1 (fun _ => gh_any ra)
        have F3 : gt_fr gs_kml σ (gp_up σ1 264 k.toNat (σ1 264 (k + 29).toNat)) := gh_fu F1 (gb_mo_mem _ (by decide))
        have a3 : (gp_up σ1 264 k.toNat (σ1 264 (k + 29).toNat)) 236 46 = 40 := (gh_up_ne (fun q => absurd q.1 (by decide))).trans a1
        have l3 : ∀ j : Nat, (j : Int) < k + 1 → (gp_up σ1 264 k.toNat (σ1 264 (k + 29).toNat)) 264 j = σ 264 (j + 29) := fun j hj => by
          by_cases e : (j : Int) = k
          · rw [show j = k.toNat by omega, gh_up_eq, ea]
          · exact (gh_up_ne (fun q => by have := q.2; omega)).trans (l1 j (by omega))
        have r3 : ∀ j : Nat, k + 1 ≤ j → (gp_up σ1 264 k.toNat (σ1 264 (k + 29).toNat)) 264 j = σ 264 j := fun j hj => (gh_up_ne (fun q => by have := q.2; omega)).trans (r1 j (by omega))
        generalize (gp_up σ1 264 k.toNat (σ1 264 (k + 29).toNat)) = σ3 at W3 F3 a3 l3 r3 ⊢
        refine gh_iinc (show gh_at (gm_me 82).1 33 = some (33, 3, .iinc 1 (1), 8, 0, []) from rfl) rfl (fun c q => by cases q <;> decide) (y := k + 1) (gh_add (by unfold gh_r; omega) (by show gh_r 1; unfold gh_r; omega) (by show gh_r (k + 1); unfold gh_r; omega)) rfl ?_
        refine gh_goto (show gh_at (gm_me 82).1 36 = some (36, 3, .goto (-25), 0, 11, []) from rfl) ?_
        exact ih σ3 (k + 1) (by omega) (by omega) (by omega) W3 F3 a3 l3 r3
  refine gh_aload_n (show gh_at (gm_me 82).1 0 = some (0, 1, .aload_n 0, 0, 0, []) from rfl) rfl rfl ?_
  refine gh_get (show gh_at (gm_me 82).1 1 = some (1, 3, .getfield 380, 1, 46, [(0, 1487)]) from rfl) rfl (by decide +kernel) (by decide +kernel) (gh_rd0 (by decide +kernel)) ?_
  refine gh_bipush (x := 40) (show gh_at (gm_me 82).1 4 = some (4, 2, .bipush (40), 320, 0, []) from rfl) (by decide) ?_
  refine gh_icmp (show gh_at (gm_me 82).1 6 = some (6, 3, .if_icmp .ne (43), 0, 49, []) from rfl) (fun hc => ?_) (fun hc => ?_)
  · have hc : ¬ σ 236 46 = 40 := hc
    exact second σ (σ 236 46).toNat _ (by omega) hW gh_f0 (by omega) (fun i hi => x8 i (by omega)) (fun c q => by cases q; rfl)
  · have hc : σ 236 46 = 40 := Decidable.not_not.mp hc
    refine gh_iconst (x := 0) (show gh_at (gm_me 82).1 9 = some (9, 1, .iconst 0, 0, 0, []) from rfl) (by decide) ?_
    refine gh_istore_n (show gh_at (gm_me 82).1 10 = some (10, 1, .istore_n 1, 0, 0, []) from rfl) (fun c q => by cases q <;> decide) rfl ?_
    exact first hc 1160 σ 0 (by omega) (by omega) (by omega) hW gh_f0 hc (fun j hj => absurd hj (by omega)) (fun j _ => rfl)
