/-! another dinner is laid -/
theorem gh_up_cm {σ : gp_S} {c j c' j' : Nat} {x y : Int} (h : ¬ (c = c' ∧ j = j')) : gp_up (gp_up σ c j x) c' j' y = gp_up (gp_up σ c' j' y) c j x := by
  funext a b
  unfold gp_up
  by_cases h1 : a = c' ∧ b = j'
  · rw [if_pos h1, if_neg (fun q => h ⟨q.1.symm.trans h1.1, q.2.symm.trans h1.2⟩), if_pos h1]
  · rw [if_neg h1]
    by_cases h2 : a = c ∧ b = j
    · rw [if_pos h2, if_pos h2]
    · rw [if_neg h2, if_neg h2, if_neg h1]
theorem gh_up_up {σ : gp_S} {c j : Nat} {x y : Int} : gp_up (gp_up σ c j x) c j y = gp_up σ c j y := by
  funext a b
  unfold gp_up
  split <;> rfl
theorem gs_if0 (x y : gb_T) : ga_if false x y = y := rfl
theorem gs_if1 (x y : gb_T) : ga_if true x y = x := rfl
theorem gs_w6 (b f : Nat) : gs_wm b f 236 = gs_wm b 0 236 := by
  unfold gs_wm
  rw [show Nat.blt 236 236 = false by decide, show Nat.beq 236 236 = true by decide]
  simp only [gs_if0, gs_if1]
theorem gs_w60 (b f : Nat) : gs_wm b f 260 = gs_wm 0 f 260 := by
  unfold gs_wm
  rw [show Nat.blt 260 236 = false by decide, show Nat.beq 260 236 = false by decide, show Nat.beq 260 260 = true by decide]
  simp only [gs_if0, gs_if1]
theorem gs_re1 {b f B F : Nat} (hb : b < 2) (hB : B < 2) {j : Nat} (hj : j < 65) (h : ¬ j = 32) : gb_ty (gs_wm b f 236) j = gb_ty (gs_wm B F 236) j := by
  have h1 := gs_all_ok (gs_all_ok (show gs_all (fun i => gs_all (fun j => or (Nat.beq j 32) (Nat.beq (gb_ty (gs_wm (i / 2) 0 236) j) (gb_ty (gs_wm (i % 2) 0 236) j))) 65) 4 = true by decide +kernel) (2 * b + B) (by omega)) j hj
  rw [show (2 * b + B) / 2 = b by omega, show (2 * b + B) % 2 = B by omega, Bool.or_eq_true, ga_beq, ga_beq] at h1
  rw [gs_w6 b f, gs_w6 B F]
  exact h1.resolve_left h
theorem gs_re2 {b f B F : Nat} (hf : f < 8) (hF : F < 8) {j : Nat} (hj : j < 29) (h : ¬ j = 24) : gb_ty (gs_wm b f 260) j = gb_ty (gs_wm B F 260) j := by
  have h1 := gs_all_ok (gs_all_ok (show gs_all (fun i => gs_all (fun j => or (Nat.beq j 24) (Nat.beq (gb_ty (gs_wm 0 (i / 8) 260) j) (gb_ty (gs_wm 0 (i % 8) 260) j))) 29) 64 = true by decide +kernel) (8 * f + F) (by omega)) j hj
  rw [show (8 * f + F) / 8 = f by omega, show (8 * f + F) % 8 = F by omega, Bool.or_eq_true, ga_beq, ga_beq] at h1
  rw [gs_w60 b f, gs_w60 B F]
  exact h1.resolve_left h
theorem gs_re3 {b f B F c : Nat} (h1 : ¬ c = 236) (h2 : ¬ c = 260) (h3 : ¬ c = 239) : gs_wm b f c = gs_wm B F c := by
  unfold gs_wm
  have a1 : Nat.beq c 236 = false := by cases q : Nat.beq c 236 with | false => rfl | true => exact absurd (ga_beq.mp q) h1
  have a2 : Nat.beq c 260 = false := by cases q : Nat.beq c 260 with | false => rfl | true => exact absurd (ga_beq.mp q) h2
  have a3 : Nat.beq c 239 = false := by cases q : Nat.beq c 239 with | false => rfl | true => exact absurd (ga_beq.mp q) h3
  have hf : ∀ (x y : gb_T), ga_if false x y = y := fun _ _ => rfl
  rw [a1, a2, a3]
  simp only [hf]
theorem gm_tvy {t : Nat} {z : Int} (h : gt_tv t (.inl z)) (h2 : t % 8 = 2) : ∃ y : Int32, y.toInt = z ∧ gb_vr [] gt_o [] t (.int y) := by
  rcases h with ⟨-, y, q, hy⟩ | ⟨q, -⟩ | ⟨q, -⟩
  · injection q with q
    exact ⟨y, q.symm, hy⟩
  · omega
  · omega
theorem gm_re {b f B F : Nat} {σ : gp_S} (hb : b < 2) (hf : f < 8) (hB : B < 2) (hF : F < 8) (hne : ¬ B = b) (hW : gt_W (gs_wm b f) σ) (hg : σ 239 B = (F : Int)) : gt_W (gs_wm B F) (gp_up (gp_up σ 236 32 (B : Int)) 260 24 (-1)) := by
  intro c j h9 hj h2
  by_cases c1 : c = 236
  · subst c1
    have hj : j < 65 := hj
    by_cases j1 : j = 32
    · subst j1
      rw [gh_up_ne (by decide), gh_up_eq]
      exact gm_tvy (t := gs_lt B) (show gt_tv (gs_lt B) (.inl (B : Int)) from gh_mk (by unfold gs_lt; omega) (by unfold gh_r; omega) (by unfold gs_lt; omega) (by unfold gs_lt; omega)) (by unfold gs_lt; omega)
    · rw [gh_up_ne (fun q => absurd q.1 (by decide)), gh_up_ne (fun q => j1 q.2)]
      have e := gs_re1 (f := f) (F := F) hb hB hj j1
      rw [← e] at h2 ⊢
      exact hW 236 j (by show ¬ 1 = 999; decide) hj h2
  · by_cases c2 : c = 260
    · subst c2
      have hj : j < 29 := hj
      by_cases j1 : j = 24
      · subst j1
        rw [gh_up_eq]
        exact gm_tvy (t := 8 * (2147483647 * 4294967296 + (2147483647 + F)) + 2) (show gt_tv (8 * (2147483647 * 4294967296 + (2147483647 + F)) + 2) (.inl (-1)) from gh_mk (by omega) (by unfold gh_r; omega) (by omega) (by omega)) (by omega)
      · rw [gh_up_ne (fun q => j1 q.2), gh_up_ne (fun q => absurd q.1 (by decide))]
        have e := gs_re2 (b := b) (B := B) hf hF hj j1
        rw [← e] at h2 ⊢
        exact hW 260 j (by show ¬ 100 = 999; decide) hj h2
    · rw [gh_up_ne (fun q => c2 q.1), gh_up_ne (fun q => c1 q.1)]
      by_cases c3 : c = 239
      · subst c3
        have hj : j < 2 := hj
        by_cases j1 : j = B
        · subst j1
          rw [hg]
          have e : gb_ty (gs_wm j F 239) j = gs_lt F := by rcases (show j = 0 ∨ j = 1 by omega) with q | q <;> subst q <;> rfl
          rw [e]
          exact gm_tvy (gh_mk (by unfold gs_lt; omega) (by unfold gh_r; omega) (by unfold gs_lt; omega) (by unfold gs_lt; omega)) (by unfold gs_lt; omega)
        · have ej : j = b := by omega
          subst ej
          have e : gb_ty (gs_wm B F 239) j = 73786976312018075706 := by
            rcases (show j = 0 ∨ j = 1 by omega) with q | q <;> rcases (show B = 0 ∨ B = 1 by omega) with w | w <;> subst q <;> subst w <;> first | omega | rfl
          have ef := gm_folk hb hW
          rw [e, ef]
          exact gm_tvy (gh_mk (by decide) (by unfold gh_r; omega) (by omega) (by omega)) (by decide)
      · have e := gs_re3 (b := b) (f := f) (B := B) (F := F) c1 c2 c3
        rw [← e] at h9 hj h2 ⊢
        exact hW c j h9 hj h2

/-- waitOf0 -/
def cm_67 (_ : Nat) : gt_K := (225, 5, [1891, 73786976312018075650], [], 34359738362, [])
def cs_67 : List (Nat × List gb_N) := []
theorem cn_67 {b f : Nat} (hb : b < 2) (hf : f < 8) : gt_KC gs_sh (gs_wm b f) (fun _ => True) (cm_67 f) := by
  have h : gs_all (fun i => gt_chk gm_me (gs_wm (i / 8) (i % 8)) [] (gs_as cs_67) [] 3000 (cm_67 (i % 8))) 16 = true := by decide +kernel
  have h1 := gs_all_ok h (8 * b + f) (by omega)
  rw [show (8 * b + f) / 8 = b by omega, show (8 * b + f) % 8 = f by omega] at h1
  exact gt_chk_ok (gs_hm hb hf) (fun _ _ _ _ => trivial) gs_inc (fun _ h => absurd h List.not_mem_nil) (by show 0 < 5; decide) (fun p hp => by cases hp) h1

theorem gz_folk2 {B F d : Nat} {σ : gp_S} {Φ : gp_F} (hB : B < 2) (eb : σ 236 32 = (B : Int)) (ef : σ 239 B = (F : Int)) (h : Φ (.inl (F : Int)) σ) : gp_call gs_sh (d + 1) 11 [.inr 1891] σ Φ := by
  refine gh_call (al := [.inr 1891]) (by decide +kernel) (by show 1 = _; decide +kernel) (by rw [show (gm_me 11).2.1 = 0 by decide +kernel]; rfl) (by show 1 = _; decide +kernel) ?_
  rw [show gm_rc 11 = 1 by decide +kernel]
  refine gh_aload_n (show gh_at (gm_me 11).1 0 = some (0, 1, .aload_n 0, 0, 0, []) from rfl) rfl rfl ?_
  refine gh_get (show gh_at (gm_me 11).1 1 = some (1, 3, .getfield 20, 1, 11, [(0, 1452)]) from rfl) rfl (by decide +kernel) (by decide +kernel) (gh_rdr (r := 1915) (by decide +kernel) rfl) ?_
  refine gh_aload_n (show gh_at (gm_me 11).1 4 = some (4, 1, .aload_n 0, 0, 0, []) from rfl) rfl rfl ?_
  refine gh_get (show gh_at (gm_me 11).1 5 = some (5, 3, .getfield 263, 1, 32, [(0, 1473)]) from rfl) rfl (by decide +kernel) (by decide +kernel) (gh_rd0 (by decide +kernel)) ?_
  rw [show σ (1891 / 8) 32 = (B : Int) from eb]
  refine gh_iald (show gh_at (gm_me 11).1 8 = some (8, 1, .iaload, 0, 0, []) from rfl) rfl (by decide +kernel) (by decide +kernel) (gh_ix (N := 2) (by decide +kernel) (by omega) (by omega)) (gh_rd0 (gh_pk0 (by decide +kernel) _)) ?_
  rw [show ((B : Int)).toNat = B by omega, show σ (1915 / 8) B = (F : Int) from ef]
  refine gh_iret (show gh_at (gm_me 11).1 9 = some (9, 1, .ireturn, 0, 0, []) from rfl) ?_
  exact Or.inl ⟨rfl, h⟩
theorem gz_told {B F : Nat} {σ : gp_S} (hB : B < 2) (hF : F < 8) (hW : gt_W (gs_wm B F) (gp_up σ 260 24 (-1))) (eb : σ 236 32 = (B : Int)) (ef : σ 239 B = (F : Int)) : gp_call gs_sh 6 68 [.inr 1891] σ (fun _ σ' => gt_W (gs_wm B F) σ' ∧ gt_fr [(260, 1048576)] σ σ' ∧ ∀ j : Nat, j < F → σ' 260 j = (j : Int)) := by
  refine gh_call (al := [.inr 1891, .inr 7]) (by decide +kernel) (by show 1 = _; decide +kernel) (by rw [show (gm_me 68).2.1 = 1 by decide +kernel]; rfl) (by show 2 = _; decide +kernel) ?_
  rw [show gm_rc 68 = 0 by decide +kernel]
  have l46 : ∀ (σ1 : gp_S) (w : gp_V), gt_W (gs_wm B F) (gp_up σ1 260 24 (-1)) → gt_fr [(260, 1048576)] σ σ1 → (∀ j : Nat, j < F → σ1 260 j = (j : Int)) → gp_ok gs_sh (gp_call gs_sh 5) 0 (gm_me 68).1 (fun _ σ' => gt_W (gs_wm B F) σ' ∧ gt_fr [(260, 1048576)] σ σ' ∧ ∀ j : Nat, j < F → σ' 260 j = (j : Int)) 46 [.inr 1891, w] [] σ1 := by
    intro σ1 w W1 F1 s1
    have r242 : gh_r (σ 242 B) := (gh_tv (gh_Wg hW 242 B (t := 34359738362) (by show ¬ 100 = 999; decide) (by show B < 2; exact hB) rfl (by decide))).1
    have r243 : gh_r (σ 243 B) := (gh_tv (gh_Wg hW 243 B (t := 34359738362) (by show ¬ 100 = 999; decide) (by show B < 2; exact hB) rfl (by decide))).1
    have r246 : gh_r (σ 246 B) := (gh_tv (gh_Wg hW 246 B (t := 34359738362) (by show ¬ 100 = 999; decide) (by show B < 2; exact hB) rfl (by decide))).1
    refine gh_aload_n (show gh_at (gm_me 68).1 46 = some (46, 1, .aload_n 0, 0, 0, []) from rfl) rfl rfl ?_
    refine gh_get (show gh_at (gm_me 68).1 47 = some (47, 3, .getfield 85, 1, 38, [(0, 1479)]) from rfl) rfl (by decide +kernel) (by decide +kernel) (gh_rdr (r := 2083) (by decide +kernel) rfl) ?_
    refine gh_bipush (x := 22) (show gh_at (gm_me 68).1 50 = some (50, 2, .bipush (22), 176, 0, []) from rfl) (by decide) ?_
    refine gh_aload_n (show gh_at (gm_me 68).1 52 = some (52, 1, .aload_n 0, 0, 0, []) from rfl) rfl rfl ?_
    refine gh_get (show gh_at (gm_me 68).1 53 = some (53, 3, .getfield 30, 1, 14, [(0, 1455)]) from rfl) rfl (by decide +kernel) (by decide +kernel) (gh_rdr (r := 1939) (by decide +kernel) rfl) ?_
    refine gh_aload_n (show gh_at (gm_me 68).1 56 = some (56, 1, .aload_n 0, 0, 0, []) from rfl) rfl rfl ?_
    refine gh_get (show gh_at (gm_me 68).1 57 = some (57, 3, .getfield 263, 1, 32, [(0, 1473)]) from rfl) rfl (by decide +kernel) (by decide +kernel) (gh_rd0 (by decide +kernel)) ?_
    rw [show σ1 (1891 / 8) 32 = (B : Int) from ((F1 236 32 rfl).trans eb)]
    refine gh_iald (show gh_at (gm_me 68).1 60 = some (60, 1, .iaload, 0, 0, []) from rfl) rfl (by decide +kernel) (by decide +kernel) (gh_ix (N := 2) (by decide +kernel) (by omega) (by omega)) (gh_rd0 (gh_pk0 (by decide +kernel) _)) ?_
    rw [show ((B : Int)).toNat = B by omega, show σ1 (1939 / 8) B = σ 242 B from F1 242 B rfl]
    refine gh_iast (show gh_at (gm_me 68).1 61 = some (61, 1, .iastore, 0, 0, []) from rfl) rfl (by decide +kernel) (by decide +kernel) (gh_ix (N := 29) (by decide +kernel) (by decide) (by decide)) (gh_pk0 (by decide +kernel) _) ?_
    show gp_ok _ _ _ _ _ _ _ [] (gp_up σ1 260 22 (σ 242 B))
    have W2 : gt_W (gs_wm B F) (gp_up (gp_up σ1 260 22 (σ 242 B)) 260 24 (-1)) := by rw [gh_up_cm (by decide)]; exact gh_Wu W1 (c := 260) (j := 22) (x := (σ 242 B)) (fun _ => gh_any (r242))
    have F2 : gt_fr [(260, 1048576)] σ (gp_up σ1 260 22 (σ 242 B)) := gh_fu F1 (gb_mo_mem _ (by decide))
    have s2 : ∀ j : Nat, j < F → (gp_up σ1 260 22 (σ 242 B)) 260 j = (j : Int) := fun j hj => (gh_up_ne (fun q => by have := q.2; omega)).trans (s1 j hj)
    generalize (gp_up σ1 260 22 (σ 242 B)) = σ2 at W2 F2 s2 ⊢
    refine gh_aload_n (show gh_at (gm_me 68).1 62 = some (62, 1, .aload_n 0, 0, 0, []) from rfl) rfl rfl ?_
    refine gh_get (show gh_at (gm_me 68).1 63 = some (63, 3, .getfield 85, 1, 38, [(0, 1479)]) from rfl) rfl (by decide +kernel) (by decide +kernel) (gh_rdr (r := 2083) (by decide +kernel) rfl) ?_
    refine gh_bipush (x := 23) (show gh_at (gm_me 68).1 66 = some (66, 2, .bipush (23), 184, 0, []) from rfl) (by decide) ?_
    refine gh_aload_n (show gh_at (gm_me 68).1 68 = some (68, 1, .aload_n 0, 0, 0, []) from rfl) rfl rfl ?_
    refine gh_get (show gh_at (gm_me 68).1 69 = some (69, 3, .getfield 33, 1, 15, [(0, 1456)]) from rfl) rfl (by decide +kernel) (by decide +kernel) (gh_rdr (r := 1947) (by decide +kernel) rfl) ?_
    refine gh_aload_n (show gh_at (gm_me 68).1 72 = some (72, 1, .aload_n 0, 0, 0, []) from rfl) rfl rfl ?_
    refine gh_get (show gh_at (gm_me 68).1 73 = some (73, 3, .getfield 263, 1, 32, [(0, 1473)]) from rfl) rfl (by decide +kernel) (by decide +kernel) (gh_rd0 (by decide +kernel)) ?_
    rw [show σ2 (1891 / 8) 32 = (B : Int) from ((F2 236 32 rfl).trans eb)]
    refine gh_iald (show gh_at (gm_me 68).1 76 = some (76, 1, .iaload, 0, 0, []) from rfl) rfl (by decide +kernel) (by decide +kernel) (gh_ix (N := 2) (by decide +kernel) (by omega) (by omega)) (gh_rd0 (gh_pk0 (by decide +kernel) _)) ?_
    rw [show ((B : Int)).toNat = B by omega, show σ2 (1947 / 8) B = σ 243 B from F2 243 B rfl]
    refine gh_iast (show gh_at (gm_me 68).1 77 = some (77, 1, .iastore, 0, 0, []) from rfl) rfl (by decide +kernel) (by decide +kernel) (gh_ix (N := 29) (by decide +kernel) (by decide) (by decide)) (gh_pk0 (by decide +kernel) _) ?_
    show gp_ok _ _ _ _ _ _ _ [] (gp_up σ2 260 23 (σ 243 B))
    have W3 : gt_W (gs_wm B F) (gp_up (gp_up σ2 260 23 (σ 243 B)) 260 24 (-1)) := by rw [gh_up_cm (by decide)]; exact gh_Wu W2 (c := 260) (j := 23) (x := (σ 243 B)) (fun _ => gh_any (r243))
    have F3 : gt_fr [(260, 1048576)] σ (gp_up σ2 260 23 (σ 243 B)) := gh_fu F2 (gb_mo_mem _ (by decide))
    have s3 : ∀ j : Nat, j < F → (gp_up σ2 260 23 (σ 243 B)) 260 j = (j : Int) := fun j hj => (gh_up_ne (fun q => by have := q.2; omega)).trans (s2 j hj)
    generalize (gp_up σ2 260 23 (σ 243 B)) = σ3 at W3 F3 s3 ⊢
    refine gh_aload_n (show gh_at (gm_me 68).1 78 = some (78, 1, .aload_n 0, 0, 0, []) from rfl) rfl rfl ?_
    refine gh_get (show gh_at (gm_me 68).1 79 = some (79, 3, .getfield 85, 1, 38, [(0, 1479)]) from rfl) rfl (by decide +kernel) (by decide +kernel) (gh_rdr (r := 2083) (by decide +kernel) rfl) ?_
    refine gh_bipush (x := 24) (show gh_at (gm_me 68).1 82 = some (82, 2, .bipush (24), 192, 0, []) from rfl) (by decide) ?_
    refine gh_aload_n (show gh_at (gm_me 68).1 84 = some (84, 1, .aload_n 0, 0, 0, []) from rfl) rfl rfl ?_
    refine gh_callV (r := 1891) (as := []) (t := [.inl 24, .inr 2083]) (show gh_at (gm_me 68).1 85 = some (85, 3, .invokevirtual 338, 11, 0, [(0, 1399)]) from rfl) (by decide) rfl (by show 1 = _; decide +kernel) (Nat.le_trans (gh_wd _) (Nat.le_of_ble_eq_true rfl)) rfl (by decide +kernel) (by decide +kernel) (Ψ := fun v σ9 => σ9 = σ3 ∧ v = .inl (F : Int)) (gz_folk2 (d := 4) hB ((F3 236 32 rfl).trans eb) ((F3 239 B rfl).trans ef) ⟨rfl, rfl⟩) gh_mono (fun v σ9 hv => ?_)
    rw [show gm_rc 11 = 1 by decide +kernel]
    obtain ⟨e9, rfl⟩ := hv
    rw [e9]
    show gp_ok _ _ _ _ _ _ _ (.inl (F : Int) :: _) _
    refine gh_if (show gh_at (gm_me 68).1 88 = some (88, 3, .ifCond .ne (7), 0, 95, []) from rfl) (fun hc => ?_) (fun hc => ?_)
    · have hc : ¬ (F : Int) = 0 := hc
      refine gh_iconst (x := 0) (show gh_at (gm_me 68).1 95 = some (95, 1, .iconst 0, 0, 0, []) from rfl) (by decide) ?_
      refine gh_iast (show gh_at (gm_me 68).1 96 = some (96, 1, .iastore, 0, 0, []) from rfl) rfl (by decide +kernel) (by decide +kernel) (gh_ix (N := 29) (by decide +kernel) (by decide) (by decide)) (gh_pk0 (by decide +kernel) _) ?_
      show gp_ok _ _ _ _ _ _ _ [] (gp_up σ3 260 24 0)
      have W4 : gt_W (gs_wm B F) (gp_up σ3 260 24 0) := by
        have h := gh_Wu W3 (c := 260) (j := 24) (x := 0) (fun _ => show gt_tv (8 * (2147483647 * 4294967296 + (2147483647 + F)) + 2) (.inl 0) from gh_mk (by omega) (by unfold gh_r; omega) (by omega) (by omega))
        rw [gh_up_up] at h; exact h
      have F4 : gt_fr [(260, 1048576)] σ (gp_up σ3 260 24 0) := gh_fu F3 (gb_mo_mem _ (by decide))
      have s4 : ∀ j : Nat, j < F → (gp_up σ3 260 24 0) 260 j = (j : Int) := fun j hj => (gh_up_ne (fun q => by have := q.2; omega)).trans (s3 j hj)
      generalize (gp_up σ3 260 24 0) = σ4 at W4 F4 s4 ⊢
      refine gh_aload_n (show gh_at (gm_me 68).1 97 = some (97, 1, .aload_n 0, 0, 0, []) from rfl) rfl rfl ?_
      refine gh_get (show gh_at (gm_me 68).1 98 = some (98, 3, .getfield 85, 1, 38, [(0, 1479)]) from rfl) rfl (by decide +kernel) (by decide +kernel) (gh_rdr (r := 2083) (by decide +kernel) rfl) ?_
      refine gh_bipush (x := 25) (show gh_at (gm_me 68).1 101 = some (101, 2, .bipush (25), 200, 0, []) from rfl) (by decide) ?_
      refine gh_aload_n (show gh_at (gm_me 68).1 103 = some (103, 1, .aload_n 0, 0, 0, []) from rfl) rfl rfl ?_
      refine gh_callV (r := 1891) (as := []) (t := [.inl 25, .inr 2083]) (show gh_at (gm_me 68).1 104 = some (104, 3, .invokevirtual 338, 11, 0, [(0, 1399)]) from rfl) (by decide) rfl (by show 1 = _; decide +kernel) (Nat.le_trans (gh_wd _) (Nat.le_of_ble_eq_true rfl)) rfl (by decide +kernel) (by decide +kernel) (Ψ := fun v σ9 => σ9 = σ4 ∧ v = .inl (F : Int)) (gz_folk2 (d := 4) hB ((F4 236 32 rfl).trans eb) ((F4 239 B rfl).trans ef) ⟨rfl, rfl⟩) gh_mono (fun v σ9 hv => ?_)
      rw [show gm_rc 11 = 1 by decide +kernel]
      obtain ⟨e9, rfl⟩ := hv
      rw [e9]
      show gp_ok _ _ _ _ _ _ _ (.inl (F : Int) :: _) _
      refine gh_if (show gh_at (gm_me 68).1 107 = some (107, 3, .ifCond .ne (7), 0, 114, []) from rfl) (fun _ => ?_) (fun q => absurd hc q)
      refine gh_aload_n (show gh_at (gm_me 68).1 114 = some (114, 1, .aload_n 0, 0, 0, []) from rfl) rfl rfl ?_
      refine gh_iconst (x := 0) (show gh_at (gm_me 68).1 115 = some (115, 1, .iconst 0, 0, 0, []) from rfl) (by decide) ?_
      refine gh_callV (r := 1891) (as := [.inl 0]) (t := [.inl 25, .inr 2083]) (show gh_at (gm_me 68).1 116 = some (116, 3, .invokevirtual 392, 225, 0, [(0, 1403)]) from rfl) (by decide) rfl (by show 2 = _; decide +kernel) (Nat.le_trans (gh_wd _) (Nat.le_of_ble_eq_true rfl)) rfl (by decide +kernel) (by decide +kernel) (cn_67 hB hF [.inr 1891, .inl 0] σ4 W4 trivial (fun p hp => by cases hp) ⟨Or.inr (Or.inl ⟨rfl, rfl⟩), gh_mk (by decide) (by unfold gh_r; omega) (by omega) (by omega), trivial⟩) gh_mono (fun v σ9 hv => ?_)
      rw [show gm_rc 225 = 1 by decide +kernel]
      obtain ⟨-, -, F9, hr⟩ := hv
      have e9 := gh_fr0 F9
      obtain ⟨z, rfl, hz, -⟩ := gh_tvi (t := 34359738362) (by decide) (hr.resolve_left (by show ¬ gm_rc 225 = 0; decide +kernel))
      rw [e9]
      show gp_ok _ _ _ _ _ _ _ [.inl z, .inl 25, .inr 2083] _
      refine gh_iast (show gh_at (gm_me 68).1 119 = some (119, 1, .iastore, 0, 0, []) from rfl) rfl (by decide +kernel) (by decide +kernel) (gh_ix (N := 29) (by decide +kernel) (by decide) (by decide)) (gh_pk0 (by decide +kernel) _) ?_
      show gp_ok _ _ _ _ _ _ _ [] (gp_up σ4 260 25 z)
      have W5 : gt_W (gs_wm B F) (gp_up σ4 260 25 z) := gh_Wu W4 (c := 260) (j := 25) (x := z) (fun _ => gh_any (hz))
      have F5 : gt_fr [(260, 1048576)] σ (gp_up σ4 260 25 z) := gh_fu F4 (gb_mo_mem _ (by decide))
      have s5 : ∀ j : Nat, j < F → (gp_up σ4 260 25 z) 260 j = (j : Int) := fun j hj => (gh_up_ne (fun q => by have := q.2; omega)).trans (s4 j hj)
      generalize (gp_up σ4 260 25 z) = σ5 at W5 F5 s5 ⊢
      refine gh_aload_n (show gh_at (gm_me 68).1 120 = some (120, 1, .aload_n 0, 0, 0, []) from rfl) rfl rfl ?_
      refine gh_get (show gh_at (gm_me 68).1 121 = some (121, 3, .getfield 85, 1, 38, [(0, 1479)]) from rfl) rfl (by decide +kernel) (by decide +kernel) (gh_rdr (r := 2083) (by decide +kernel) rfl) ?_
      refine gh_bipush (x := 28) (show gh_at (gm_me 68).1 124 = some (124, 2, .bipush (28), 224, 0, []) from rfl) (by decide) ?_
      refine gh_aload_n (show gh_at (gm_me 68).1 126 = some (126, 1, .aload_n 0, 0, 0, []) from rfl) rfl rfl ?_
      refine gh_get (show gh_at (gm_me 68).1 127 = some (127, 3, .getfield 42, 1, 18, [(0, 1459)]) from rfl) rfl (by decide +kernel) (by decide +kernel) (gh_rdr (r := 1971) (by decide +kernel) rfl) ?_
      refine gh_aload_n (show gh_at (gm_me 68).1 130 = some (130, 1, .aload_n 0, 0, 0, []) from rfl) rfl rfl ?_
      refine gh_get (show gh_at (gm_me 68).1 131 = some (131, 3, .getfield 263, 1, 32, [(0, 1473)]) from rfl) rfl (by decide +kernel) (by decide +kernel) (gh_rd0 (by decide +kernel)) ?_
      rw [show σ5 (1891 / 8) 32 = (B : Int) from ((F5 236 32 rfl).trans eb)]
      refine gh_iald (show gh_at (gm_me 68).1 134 = some (134, 1, .iaload, 0, 0, []) from rfl) rfl (by decide +kernel) (by decide +kernel) (gh_ix (N := 2) (by decide +kernel) (by omega) (by omega)) (gh_rd0 (gh_pk0 (by decide +kernel) _)) ?_
      rw [show ((B : Int)).toNat = B by omega, show σ5 (1971 / 8) B = σ 246 B from F5 246 B rfl]
      refine gh_iast (show gh_at (gm_me 68).1 135 = some (135, 1, .iastore, 0, 0, []) from rfl) rfl (by decide +kernel) (by decide +kernel) (gh_ix (N := 29) (by decide +kernel) (by decide) (by decide)) (gh_pk0 (by decide +kernel) _) ?_
      show gp_ok _ _ _ _ _ _ _ [] (gp_up σ5 260 28 (σ 246 B))
      have W6 : gt_W (gs_wm B F) (gp_up σ5 260 28 (σ 246 B)) := gh_Wu W5 (c := 260) (j := 28) (x := (σ 246 B)) (fun _ => gh_any (r246))
      have F6 : gt_fr [(260, 1048576)] σ (gp_up σ5 260 28 (σ 246 B)) := gh_fu F5 (gb_mo_mem _ (by decide))
      have s6 : ∀ j : Nat, j < F → (gp_up σ5 260 28 (σ 246 B)) 260 j = (j : Int) := fun j hj => (gh_up_ne (fun q => by have := q.2; omega)).trans (s5 j hj)
      generalize (gp_up σ5 260 28 (σ 246 B)) = σ6 at W6 F6 s6 ⊢
      refine gh_ret (show gh_at (gm_me 68).1 136 = some (136, 1, .return_, 0, 0, []) from rfl) rfl ?_
      exact ⟨W6, F6, s6⟩
    · have hc : (F : Int) = 0 := Decidable.not_not.mp hc
      refine gh_iconst (x := -1) (show gh_at (gm_me 68).1 91 = some (91, 1, .iconst (-1), 34359738360, 0, []) from rfl) (by decide) ?_
      refine gh_goto (show gh_at (gm_me 68).1 92 = some (92, 3, .goto (4), 0, 96, []) from rfl) ?_
      refine gh_iast (show gh_at (gm_me 68).1 96 = some (96, 1, .iastore, 0, 0, []) from rfl) rfl (by decide +kernel) (by decide +kernel) (gh_ix (N := 29) (by decide +kernel) (by decide) (by decide)) (gh_pk0 (by decide +kernel) _) ?_
      show gp_ok _ _ _ _ _ _ _ [] (gp_up σ3 260 24 (-1))
      have W4 : gt_W (gs_wm B F) (gp_up σ3 260 24 (-1)) := by
        have h := gh_Wu W3 (c := 260) (j := 24) (x := (-1)) (fun _ => show gt_tv (8 * (2147483647 * 4294967296 + (2147483647 + F)) + 2) (.inl (-1)) from gh_mk (by omega) (by unfold gh_r; omega) (by omega) (by omega))
        rw [gh_up_up] at h; exact h
      have F4 : gt_fr [(260, 1048576)] σ (gp_up σ3 260 24 (-1)) := gh_fu F3 (gb_mo_mem _ (by decide))
      have s4 : ∀ j : Nat, j < F → (gp_up σ3 260 24 (-1)) 260 j = (j : Int) := fun j hj => (gh_up_ne (fun q => by have := q.2; omega)).trans (s3 j hj)
      generalize (gp_up σ3 260 24 (-1)) = σ4 at W4 F4 s4 ⊢
      refine gh_aload_n (show gh_at (gm_me 68).1 97 = some (97, 1, .aload_n 0, 0, 0, []) from rfl) rfl rfl ?_
      refine gh_get (show gh_at (gm_me 68).1 98 = some (98, 3, .getfield 85, 1, 38, [(0, 1479)]) from rfl) rfl (by decide +kernel) (by decide +kernel) (gh_rdr (r := 2083) (by decide +kernel) rfl) ?_
      refine gh_bipush (x := 25) (show gh_at (gm_me 68).1 101 = some (101, 2, .bipush (25), 200, 0, []) from rfl) (by decide) ?_
      refine gh_aload_n (show gh_at (gm_me 68).1 103 = some (103, 1, .aload_n 0, 0, 0, []) from rfl) rfl rfl ?_
      refine gh_callV (r := 1891) (as := []) (t := [.inl 25, .inr 2083]) (show gh_at (gm_me 68).1 104 = some (104, 3, .invokevirtual 338, 11, 0, [(0, 1399)]) from rfl) (by decide) rfl (by show 1 = _; decide +kernel) (Nat.le_trans (gh_wd _) (Nat.le_of_ble_eq_true rfl)) rfl (by decide +kernel) (by decide +kernel) (Ψ := fun v σ9 => σ9 = σ4 ∧ v = .inl (F : Int)) (gz_folk2 (d := 4) hB ((F4 236 32 rfl).trans eb) ((F4 239 B rfl).trans ef) ⟨rfl, rfl⟩) gh_mono (fun v σ9 hv => ?_)
      rw [show gm_rc 11 = 1 by decide +kernel]
      obtain ⟨e9, rfl⟩ := hv
      rw [e9]
      show gp_ok _ _ _ _ _ _ _ (.inl (F : Int) :: _) _
      refine gh_if (show gh_at (gm_me 68).1 107 = some (107, 3, .ifCond .ne (7), 0, 114, []) from rfl) (fun q => absurd hc q) (fun _ => ?_)
      refine gh_iconst (x := 0) (show gh_at (gm_me 68).1 110 = some (110, 1, .iconst 0, 0, 0, []) from rfl) (by decide) ?_
      refine gh_goto (show gh_at (gm_me 68).1 111 = some (111, 3, .goto (8), 0, 119, []) from rfl) ?_
      refine gh_iast (show gh_at (gm_me 68).1 119 = some (119, 1, .iastore, 0, 0, []) from rfl) rfl (by decide +kernel) (by decide +kernel) (gh_ix (N := 29) (by decide +kernel) (by decide) (by decide)) (gh_pk0 (by decide +kernel) _) ?_
      show gp_ok _ _ _ _ _ _ _ [] (gp_up σ4 260 25 0)
      have W5 : gt_W (gs_wm B F) (gp_up σ4 260 25 0) := gh_Wu W4 (c := 260) (j := 25) (x := 0) (fun _ => gh_any (by unfold gh_r; omega))
      have F5 : gt_fr [(260, 1048576)] σ (gp_up σ4 260 25 0) := gh_fu F4 (gb_mo_mem _ (by decide))
      have s5 : ∀ j : Nat, j < F → (gp_up σ4 260 25 0) 260 j = (j : Int) := fun j hj => (gh_up_ne (fun q => by have := q.2; omega)).trans (s4 j hj)
      generalize (gp_up σ4 260 25 0) = σ5 at W5 F5 s5 ⊢
      refine gh_aload_n (show gh_at (gm_me 68).1 120 = some (120, 1, .aload_n 0, 0, 0, []) from rfl) rfl rfl ?_
      refine gh_get (show gh_at (gm_me 68).1 121 = some (121, 3, .getfield 85, 1, 38, [(0, 1479)]) from rfl) rfl (by decide +kernel) (by decide +kernel) (gh_rdr (r := 2083) (by decide +kernel) rfl) ?_
      refine gh_bipush (x := 28) (show gh_at (gm_me 68).1 124 = some (124, 2, .bipush (28), 224, 0, []) from rfl) (by decide) ?_
      refine gh_aload_n (show gh_at (gm_me 68).1 126 = some (126, 1, .aload_n 0, 0, 0, []) from rfl) rfl rfl ?_
      refine gh_get (show gh_at (gm_me 68).1 127 = some (127, 3, .getfield 42, 1, 18, [(0, 1459)]) from rfl) rfl (by decide +kernel) (by decide +kernel) (gh_rdr (r := 1971) (by decide +kernel) rfl) ?_
      refine gh_aload_n (show gh_at (gm_me 68).1 130 = some (130, 1, .aload_n 0, 0, 0, []) from rfl) rfl rfl ?_
      refine gh_get (show gh_at (gm_me 68).1 131 = some (131, 3, .getfield 263, 1, 32, [(0, 1473)]) from rfl) rfl (by decide +kernel) (by decide +kernel) (gh_rd0 (by decide +kernel)) ?_
      rw [show σ5 (1891 / 8) 32 = (B : Int) from ((F5 236 32 rfl).trans eb)]
      refine gh_iald (show gh_at (gm_me 68).1 134 = some (134, 1, .iaload, 0, 0, []) from rfl) rfl (by decide +kernel) (by decide +kernel) (gh_ix (N := 2) (by decide +kernel) (by omega) (by omega)) (gh_rd0 (gh_pk0 (by decide +kernel) _)) ?_
      rw [show ((B : Int)).toNat = B by omega, show σ5 (1971 / 8) B = σ 246 B from F5 246 B rfl]
      refine gh_iast (show gh_at (gm_me 68).1 135 = some (135, 1, .iastore, 0, 0, []) from rfl) rfl (by decide +kernel) (by decide +kernel) (gh_ix (N := 29) (by decide +kernel) (by decide) (by decide)) (gh_pk0 (by decide +kernel) _) ?_
      show gp_ok _ _ _ _ _ _ _ [] (gp_up σ5 260 28 (σ 246 B))
      have W6 : gt_W (gs_wm B F) (gp_up σ5 260 28 (σ 246 B)) := gh_Wu W5 (c := 260) (j := 28) (x := (σ 246 B)) (fun _ => gh_any (r246))
      have F6 : gt_fr [(260, 1048576)] σ (gp_up σ5 260 28 (σ 246 B)) := gh_fu F5 (gb_mo_mem _ (by decide))
      have s6 : ∀ j : Nat, j < F → (gp_up σ5 260 28 (σ 246 B)) 260 j = (j : Int) := fun j hj => (gh_up_ne (fun q => by have := q.2; omega)).trans (s5 j hj)
      generalize (gp_up σ5 260 28 (σ 246 B)) = σ6 at W6 F6 s6 ⊢
      refine gh_ret (show gh_at (gm_me 68).1 136 = some (136, 1, .return_, 0, 0, []) from rfl) rfl ?_
      exact ⟨W6, F6, s6⟩
  have l23 : ∀ (m n : Nat) (σ1 : gp_S), F - n ≤ m → n ≤ F → gt_W (gs_wm B F) (gp_up σ1 260 24 (-1)) → gt_fr [(260, 1048576)] σ σ1 → (∀ j : Nat, j < n → σ1 260 j = (j : Int)) → gp_ok gs_sh (gp_call gs_sh 5) 0 (gm_me 68).1 (fun _ σ' => gt_W (gs_wm B F) σ' ∧ gt_fr [(260, 1048576)] σ σ' ∧ ∀ j : Nat, j < F → σ' 260 j = (j : Int)) 23 [.inr 1891, .inl (n : Int)] [] σ1 := by
    intro m
    induction m with
    | zero =>
      intro n σ1 hm hn W1 F1 hs
      refine gh_iload_n (show gh_at (gm_me 68).1 23 = some (23, 1, .iload_n 1, 0, 0, []) from rfl) rfl ?_
      refine gh_aload_n (show gh_at (gm_me 68).1 24 = some (24, 1, .aload_n 0, 0, 0, []) from rfl) rfl rfl ?_
      refine gh_callV (r := 1891) (as := []) (t := [.inl (n : Int)]) (show gh_at (gm_me 68).1 25 = some (25, 3, .invokevirtual 338, 11, 0, [(0, 1399)]) from rfl) (by decide) rfl (by show 1 = _; decide +kernel) (Nat.le_trans (gh_wd _) (Nat.le_of_ble_eq_true rfl)) rfl (by decide +kernel) (by decide +kernel) (Ψ := fun v σ9 => σ9 = σ1 ∧ v = .inl (F : Int)) (gz_folk2 (d := 4) hB ((F1 236 32 rfl).trans eb) ((F1 239 B rfl).trans ef) ⟨rfl, rfl⟩) gh_mono (fun v σ9 hv => ?_)
      rw [show gm_rc 11 = 1 by decide +kernel]
      obtain ⟨e9, rfl⟩ := hv
      rw [e9]
      show gp_ok _ _ _ _ _ _ _ (.inl (F : Int) :: _) _
      refine gh_icmp (show gh_at (gm_me 68).1 28 = some (28, 3, .if_icmp .ge (18), 0, 46, []) from rfl) (fun hc => ?_) (fun hc => ?_)
      · have hc : (F : Int) ≤ (n : Int) := hc
        exact l46 σ1 _ W1 F1 (fun j hj => hs j (by omega))
      · have hc : ¬ (F : Int) ≤ (n : Int) := hc
        omega
    | succ m ih =>
      intro n σ1 hm hn W1 F1 hs
      refine gh_iload_n (show gh_at (gm_me 68).1 23 = some (23, 1, .iload_n 1, 0, 0, []) from rfl) rfl ?_
      refine gh_aload_n (show gh_at (gm_me 68).1 24 = some (24, 1, .aload_n 0, 0, 0, []) from rfl) rfl rfl ?_
      refine gh_callV (r := 1891) (as := []) (t := [.inl (n : Int)]) (show gh_at (gm_me 68).1 25 = some (25, 3, .invokevirtual 338, 11, 0, [(0, 1399)]) from rfl) (by decide) rfl (by show 1 = _; decide +kernel) (Nat.le_trans (gh_wd _) (Nat.le_of_ble_eq_true rfl)) rfl (by decide +kernel) (by decide +kernel) (Ψ := fun v σ9 => σ9 = σ1 ∧ v = .inl (F : Int)) (gz_folk2 (d := 4) hB ((F1 236 32 rfl).trans eb) ((F1 239 B rfl).trans ef) ⟨rfl, rfl⟩) gh_mono (fun v σ9 hv => ?_)
      rw [show gm_rc 11 = 1 by decide +kernel]
      obtain ⟨e9, rfl⟩ := hv
      rw [e9]
      show gp_ok _ _ _ _ _ _ _ (.inl (F : Int) :: _) _
      refine gh_icmp (show gh_at (gm_me 68).1 28 = some (28, 3, .if_icmp .ge (18), 0, 46, []) from rfl) (fun hc => ?_) (fun hc => ?_)
      · have hc : (F : Int) ≤ (n : Int) := hc
        exact l46 σ1 _ W1 F1 (fun j hj => hs j (by omega))
      · have hc : ¬ (F : Int) ≤ (n : Int) := hc
        refine gh_aload_n (show gh_at (gm_me 68).1 31 = some (31, 1, .aload_n 0, 0, 0, []) from rfl) rfl rfl ?_
        refine gh_get (show gh_at (gm_me 68).1 32 = some (32, 3, .getfield 85, 1, 38, [(0, 1479)]) from rfl) rfl (by decide +kernel) (by decide +kernel) (gh_rdr (r := 2083) (by decide +kernel) rfl) ?_
        refine gh_iconst (x := 0) (show gh_at (gm_me 68).1 35 = some (35, 1, .iconst 0, 0, 0, []) from rfl) (by decide) ?_
        refine gh_iload_n (show gh_at (gm_me 68).1 36 = some (36, 1, .iload_n 1, 0, 0, []) from rfl) rfl ?_
        refine gh_iadd (z := (n : Int)) (show gh_at (gm_me 68).1 37 = some (37, 1, .iadd, 0, 0, []) from rfl) (by rw [gh_add (by unfold gh_r; omega) (by unfold gh_r; omega) (by unfold gh_r; omega)]; omega) ?_
        refine gh_iload_n (show gh_at (gm_me 68).1 38 = some (38, 1, .iload_n 1, 0, 0, []) from rfl) rfl ?_
        refine gh_iast (show gh_at (gm_me 68).1 39 = some (39, 1, .iastore, 0, 0, []) from rfl) rfl (by decide +kernel) (by decide +kernel) (gh_ix (N := 29) (by decide +kernel) (by omega) (by omega)) (gh_pk0 (by decide +kernel) _) ?_
        rw [show ((n : Int)).toNat = n by omega]
        show gp_ok _ _ _ _ _ _ _ [] (gp_up σ1 260 n (n : Int))
        have W2 : gt_W (gs_wm B F) (gp_up (gp_up σ1 260 n (n : Int)) 260 24 (-1)) := by rw [gh_up_cm (by omega)]; exact gh_Wu W1 (c := 260) (j := n) (x := (n : Int)) (fun _ => by rw [gm_sety (by omega)]; exact gh_mk (by decide) (by unfold gh_r; omega) (by omega) (by omega))
        have F2 : gt_fr [(260, 1048576)] σ (gp_up σ1 260 n (n : Int)) := gh_fu F1 (gb_mo_mem _ (by decide))
        have s2 : ∀ j : Nat, j < n + 1 → (gp_up σ1 260 n (n : Int)) 260 j = (j : Int) := fun j hj => by
          by_cases e : j = n
          · subst e; exact gh_up_eq _ _ _ _
          · exact (gh_up_ne (fun q => e q.2)).trans (hs j (by omega))
        generalize (gp_up σ1 260 n (n : Int)) = σ2 at W2 F2 s2 ⊢
        refine gh_iinc (show gh_at (gm_me 68).1 40 = some (40, 3, .iinc 1 (1), 8, 0, []) from rfl) rfl (fun c q => by cases q <;> decide) (y := ((n + 1 : Nat) : Int)) (by rw [gh_add (by unfold gh_r; omega) (by show gh_r 1; unfold gh_r; omega) (by show gh_r ((n : Int) + 1); unfold gh_r; omega)]; show (n : Int) + 1 = _; omega) rfl ?_
        refine gh_goto (show gh_at (gm_me 68).1 43 = some (43, 3, .goto (-20), 0, 23, []) from rfl) ?_
        exact ih (n + 1) σ2 (by omega) (by omega) W2 F2 s2
  have l2 : ∀ (m n : Nat) (σ1 : gp_S), 29 - n ≤ m → n ≤ 29 → gt_W (gs_wm B F) (gp_up σ1 260 24 (-1)) → gt_fr [(260, 1048576)] σ σ1 → gp_ok gs_sh (gp_call gs_sh 5) 0 (gm_me 68).1 (fun _ σ' => gt_W (gs_wm B F) σ' ∧ gt_fr [(260, 1048576)] σ σ' ∧ ∀ j : Nat, j < F → σ' 260 j = (j : Int)) 2 [.inr 1891, .inl (n : Int)] [] σ1 := by
    intro m
    induction m with
    | zero =>
      intro n σ1 hm hn W1 F1
      refine gh_iload_n (show gh_at (gm_me 68).1 2 = some (2, 1, .iload_n 1, 0, 0, []) from rfl) rfl ?_
      refine gh_bipush (x := 29) (show gh_at (gm_me 68).1 3 = some (3, 2, .bipush (29), 232, 0, []) from rfl) (by decide) ?_
      refine gh_icmp (show gh_at (gm_me 68).1 5 = some (5, 3, .if_icmp .ge (16), 0, 21, []) from rfl) (fun hc => ?_) (fun hc => ?_)
      · refine gh_iconst (x := 0) (show gh_at (gm_me 68).1 21 = some (21, 1, .iconst 0, 0, 0, []) from rfl) (by decide) ?_
        refine gh_istore_n (show gh_at (gm_me 68).1 22 = some (22, 1, .istore_n 1, 0, 0, []) from rfl) (fun c q => by cases q <;> decide) rfl ?_
        exact l23 F 0 σ1 (by omega) (by omega) W1 F1 (fun j hj => absurd hj (by omega))
      · have hc : ¬ 29 ≤ (n : Int) := hc
        omega
    | succ m ih =>
      intro n σ1 hm hn W1 F1
      refine gh_iload_n (show gh_at (gm_me 68).1 2 = some (2, 1, .iload_n 1, 0, 0, []) from rfl) rfl ?_
      refine gh_bipush (x := 29) (show gh_at (gm_me 68).1 3 = some (3, 2, .bipush (29), 232, 0, []) from rfl) (by decide) ?_
      refine gh_icmp (show gh_at (gm_me 68).1 5 = some (5, 3, .if_icmp .ge (16), 0, 21, []) from rfl) (fun hc => ?_) (fun hc => ?_)
      · refine gh_iconst (x := 0) (show gh_at (gm_me 68).1 21 = some (21, 1, .iconst 0, 0, 0, []) from rfl) (by decide) ?_
        refine gh_istore_n (show gh_at (gm_me 68).1 22 = some (22, 1, .istore_n 1, 0, 0, []) from rfl) (fun c q => by cases q <;> decide) rfl ?_
        exact l23 F 0 σ1 (by omega) (by omega) W1 F1 (fun j hj => absurd hj (by omega))
      · have hc : ¬ 29 ≤ (n : Int) := hc
        refine gh_aload_n (show gh_at (gm_me 68).1 8 = some (8, 1, .aload_n 0, 0, 0, []) from rfl) rfl rfl ?_
        refine gh_get (show gh_at (gm_me 68).1 9 = some (9, 3, .getfield 85, 1, 38, [(0, 1479)]) from rfl) rfl (by decide +kernel) (by decide +kernel) (gh_rdr (r := 2083) (by decide +kernel) rfl) ?_
        refine gh_iload_n (show gh_at (gm_me 68).1 12 = some (12, 1, .iload_n 1, 0, 0, []) from rfl) rfl ?_
        refine gh_iconst (x := 0) (show gh_at (gm_me 68).1 13 = some (13, 1, .iconst 0, 0, 0, []) from rfl) (by decide) ?_
        refine gh_iast (show gh_at (gm_me 68).1 14 = some (14, 1, .iastore, 0, 0, []) from rfl) rfl (by decide +kernel) (by decide +kernel) (gh_ix (N := 29) (by decide +kernel) (by omega) (by omega)) (gh_pk0 (by decide +kernel) _) ?_
        rw [show ((n : Int)).toNat = n by omega]
        show gp_ok _ _ _ _ _ _ _ [] (gp_up σ1 260 n 0)
        have W2 : gt_W (gs_wm B F) (gp_up (gp_up σ1 260 n 0) 260 24 (-1)) := by
          by_cases e : n = 24
          · subst e; rw [gh_up_up]; exact W1
          · rw [gh_up_cm (fun q => e q.2)]
            refine gh_Wu W1 (c := 260) (j := n) (x := 0) (fun _ => ?_)
            by_cases e7 : n < 7
            · rw [gm_sety e7]; exact gh_mk (by decide) (by unfold gh_r; omega) (by omega) (by omega)
            · have et : gb_ty (gs_wm B F 260) n = 34359738362 := by
                have h1 := gs_all_ok (show gs_all (fun j => or (or (Nat.blt j 7) (Nat.beq j 24)) (Nat.beq (gb_ty (gs_wm 0 0 260) j) 34359738362)) 29 = true by decide +kernel) n (by omega)
                rw [Bool.or_eq_true, Bool.or_eq_true, Nat.blt_eq, ga_beq, ga_beq] at h1
                rw [gs_re2 (f := F) (F := 0) (b := B) (B := 0) hF (by omega) (by omega) e]
                omega
              rw [et]; exact gh_any (by unfold gh_r; omega)
        have F2 : gt_fr [(260, 1048576)] σ (gp_up σ1 260 n 0) := gh_fu F1 (gb_mo_mem _ (by decide))
        generalize (gp_up σ1 260 n 0) = σ2 at W2 F2 ⊢
        refine gh_iinc (show gh_at (gm_me 68).1 15 = some (15, 3, .iinc 1 (1), 8, 0, []) from rfl) rfl (fun c q => by cases q <;> decide) (y := ((n + 1 : Nat) : Int)) (by rw [gh_add (by unfold gh_r; omega) (by show gh_r 1; unfold gh_r; omega) (by show gh_r ((n : Int) + 1); unfold gh_r; omega)]; show (n : Int) + 1 = _; omega) rfl ?_
        refine gh_goto (show gh_at (gm_me 68).1 18 = some (18, 3, .goto (-16), 0, 2, []) from rfl) ?_
        exact ih (n + 1) σ2 (by omega) (by omega) W2 F2
  refine gh_iconst (x := 0) (show gh_at (gm_me 68).1 0 = some (0, 1, .iconst 0, 0, 0, []) from rfl) (by decide) ?_
  refine gh_istore_n (show gh_at (gm_me 68).1 1 = some (1, 1, .istore_n 1, 0, 0, []) from rfl) (fun c q => by cases q <;> decide) rfl ?_
  exact l2 29 0 σ (by omega) (by omega) hW gh_f0
def gs_nsl : List (Nat × Nat) := [(260, 1048576), (236, 46), (236, 47), (236, 61), (236, 51), (278, 1048576)]
theorem gz_anew {B F : Nat} {σ : gp_S} (hB : B < 2) (hF : F < 8) (hW : gt_W (gs_wm B F) (gp_up σ 260 24 (-1))) (eb : σ 236 32 = (B : Int)) (ef : σ 239 B = (F : Int)) : gp_call gs_sh 7 67 [.inr 1891] σ (fun _ σ' => gt_W (gs_wm B F) σ' ∧ gt_fr gs_nsl σ σ' ∧ (∀ j : Nat, j < F → σ' 260 j = (j : Int)) ∧ σ' 236 46 = 0 ∧ σ' 236 47 = 0 ∧ ∀ i : Nat, i < 3 → σ' 278 i = 0) := by
  refine gh_call (al := [.inr 1891, .inr 7]) (by decide +kernel) (by show 1 = _; decide +kernel) (by rw [show (gm_me 67).2.1 = 1 by decide +kernel]; rfl) (by show 2 = _; decide +kernel) ?_
  rw [show gm_rc 67 = 0 by decide +kernel]
  have loop : ∀ (m n : Nat) (σ1 : gp_S), 3 - n ≤ m → n ≤ 3 → gt_W (gs_wm B F) σ1 → gt_fr gs_nsl σ σ1 → (∀ j : Nat, j < F → σ1 260 j = (j : Int)) → σ1 236 46 = 0 → σ1 236 47 = 0 → (∀ i : Nat, i < n → σ1 278 i = 0) → gp_ok gs_sh (gp_call gs_sh 6) 0 (gm_me 67).1 (fun _ σ' => gt_W (gs_wm B F) σ' ∧ gt_fr gs_nsl σ σ' ∧ (∀ j : Nat, j < F → σ' 260 j = (j : Int)) ∧ σ' 236 46 = 0 ∧ σ' 236 47 = 0 ∧ ∀ i : Nat, i < 3 → σ' 278 i = 0) 26 [.inr 1891, .inl (n : Int)] [] σ1 := by
    intro m
    induction m with
    | zero =>
      intro n σ1 hm hn W1 F1 s1 a1 u1 z1
      refine gh_iload_n (show gh_at (gm_me 67).1 26 = some (26, 1, .iload_n 1, 0, 0, []) from rfl) rfl ?_
      refine gh_iconst (x := 3) (show gh_at (gm_me 67).1 27 = some (27, 1, .iconst 3, 24, 0, []) from rfl) (by decide) ?_
      refine gh_icmp (show gh_at (gm_me 67).1 28 = some (28, 3, .if_icmp .ge (16), 0, 44, []) from rfl) (fun hc => ?_) (fun hc => ?_)
      · have hc : 3 ≤ (n : Int) := hc
        refine gh_ret (show gh_at (gm_me 67).1 44 = some (44, 1, .return_, 0, 0, []) from rfl) rfl ?_
        exact ⟨W1, F1, s1, a1, u1, fun i hi => z1 i (by omega)⟩
      · have hc : ¬ 3 ≤ (n : Int) := hc
        omega
    | succ m ih =>
      intro n σ1 hm hn W1 F1 s1 a1 u1 z1
      refine gh_iload_n (show gh_at (gm_me 67).1 26 = some (26, 1, .iload_n 1, 0, 0, []) from rfl) rfl ?_
      refine gh_iconst (x := 3) (show gh_at (gm_me 67).1 27 = some (27, 1, .iconst 3, 24, 0, []) from rfl) (by decide) ?_
      refine gh_icmp (show gh_at (gm_me 67).1 28 = some (28, 3, .if_icmp .ge (16), 0, 44, []) from rfl) (fun hc => ?_) (fun hc => ?_)
      · have hc : 3 ≤ (n : Int) := hc
        refine gh_ret (show gh_at (gm_me 67).1 44 = some (44, 1, .return_, 0, 0, []) from rfl) rfl ?_
        exact ⟨W1, F1, s1, a1, u1, fun i hi => z1 i (by omega)⟩
      · have hc : ¬ 3 ≤ (n : Int) := hc
        refine gh_aload_n (show gh_at (gm_me 67).1 31 = some (31, 1, .aload_n 0, 0, 0, []) from rfl) rfl rfl ?_
        refine gh_get (show gh_at (gm_me 67).1 32 = some (32, 3, .getfield 145, 1, 64, [(0, 1505)]) from rfl) rfl (by decide +kernel) (by decide +kernel) (gh_rdr (r := 2227) (by decide +kernel) rfl) ?_
        refine gh_iload_n (show gh_at (gm_me 67).1 35 = some (35, 1, .iload_n 1, 0, 0, []) from rfl) rfl ?_
        refine gh_iconst (x := 0) (show gh_at (gm_me 67).1 36 = some (36, 1, .iconst 0, 0, 0, []) from rfl) (by decide) ?_
        refine gh_bast (show gh_at (gm_me 67).1 37 = some (37, 1, .bastore, 104, 0, []) from rfl) rfl (by decide +kernel) (by decide +kernel) (gh_ix (N := 3) (by decide +kernel) (by omega) (by omega)) (gh_pk0 (by decide +kernel) _) (by decide) ?_
        rw [show ((n : Int)).toNat = n by omega]
        show gp_ok _ _ _ _ _ _ _ [] (gp_up σ1 278 n 0)
        have W2 : gt_W (gs_wm B F) (gp_up σ1 278 n 0) := gh_Wu W1 (c := 278) (j := n) (x := 0) (fun _ => show gt_tv 73786976312018075658 (.inl 0) from gh_mk (by decide) (by unfold gh_r; omega) (by omega) (by omega))
        have F2 : gt_fr gs_nsl σ (gp_up σ1 278 n 0) := gh_fu F1 (gb_mo_mem _ (by decide))
        have s2 : ∀ j : Nat, j < F → (gp_up σ1 278 n 0) 260 j = (j : Int) := fun j hj => (gh_up_ne (fun q => absurd q.1 (by decide))).trans (s1 j hj)
        have z2 : ∀ i : Nat, i < n + 1 → (gp_up σ1 278 n 0) 278 i = 0 := fun i hi => by
          by_cases e : i = n
          · subst e; exact gh_up_eq _ _ _ _
          · exact (gh_up_ne (fun q => e q.2)).trans (z1 i (by omega))
        have a2 : (gp_up σ1 278 n 0) 236 46 = 0 := (gh_up_ne (fun q => absurd q.1 (by decide))).trans a1
        have u2 : (gp_up σ1 278 n 0) 236 47 = 0 := (gh_up_ne (fun q => absurd q.1 (by decide))).trans u1
        generalize (gp_up σ1 278 n 0) = σ2 at W2 F2 s2 z2 a2 u2 ⊢
        refine gh_iinc (show gh_at (gm_me 67).1 38 = some (38, 3, .iinc 1 (1), 8, 0, []) from rfl) rfl (fun c q => by cases q <;> decide) (y := ((n + 1 : Nat) : Int)) (by rw [gh_add (by unfold gh_r; omega) (by show gh_r 1; unfold gh_r; omega) (by show gh_r ((n : Int) + 1); unfold gh_r; omega)]; show (n : Int) + 1 = _; omega) rfl ?_
        refine gh_goto (show gh_at (gm_me 67).1 41 = some (41, 3, .goto (-15), 0, 26, []) from rfl) ?_
        exact ih (n + 1) σ2 (by omega) (by omega) W2 F2 s2 a2 u2 z2
  refine gh_aload_n (show gh_at (gm_me 67).1 0 = some (0, 1, .aload_n 0, 0, 0, []) from rfl) rfl rfl ?_
  refine gh_callV (r := 1891) (as := []) (t := []) (show gh_at (gm_me 67).1 1 = some (1, 3, .invokevirtual 377, 68, 0, [(0, 1395)]) from rfl) (by decide) rfl (by show 1 = _; decide +kernel) (Nat.le_trans (gh_wd _) (Nat.le_of_ble_eq_true rfl)) rfl (by decide +kernel) (by decide +kernel) (gz_told hB hF hW eb ef) gh_mono (fun v σ1 hv => ?_)
  rw [show gm_rc 68 = 0 by decide +kernel]
  obtain ⟨W1, F1, s1⟩ := hv
  show gp_ok _ _ _ _ _ _ _ [] σ1
  have G1 : gt_fr gs_nsl σ σ1 := gh_ft gh_f0 F1 (by decide +kernel)
  refine gh_aload_n (show gh_at (gm_me 67).1 4 = some (4, 1, .aload_n 0, 0, 0, []) from rfl) rfl rfl ?_
  refine gh_iconst (x := 0) (show gh_at (gm_me 67).1 5 = some (5, 1, .iconst 0, 0, 0, []) from rfl) (by decide) ?_
  refine gh_put (show gh_at (gm_me 67).1 6 = some (6, 3, .putfield 380, 1, 46, [(0, 1487)]) from rfl) rfl (by decide +kernel) (by decide +kernel) (by decide +kernel) (Or.inl rfl) ?_
  have A_39 : ∀ c j, ¬ c = 236 → (gp_up σ1 236 46 0) c j = σ1 c j := fun c j q => (gh_up_ne (fun e => q e.1)).trans rfl
  show gp_ok _ _ _ _ _ _ _ _ (gp_up σ1 236 46 0)
  have W_39 : gt_W (gs_wm B F) (gp_up σ1 236 46 0) := gh_Wu W1 (c := 236) (j := 46) (x := 0) (fun _ => show gt_tv 73786976312018075970 (.inl (0)) from gh_mk (by decide) (by unfold gh_r; omega) (by omega) (by omega))
  have F_39 : gt_fr gs_nsl σ (gp_up σ1 236 46 0) := gh_fu G1 (by decide +kernel)
  have q_39 : (gp_up σ1 236 46 0) 236 46 = 0 := gh_up_eq _ _ _ _
  generalize (gp_up σ1 236 46 0) = σ_39 at W_39 F_39 q_39 A_39 ⊢
  refine gh_aload_n (show gh_at (gm_me 67).1 9 = some (9, 1, .aload_n 0, 0, 0, []) from rfl) rfl rfl ?_
  refine gh_iconst (x := 0) (show gh_at (gm_me 67).1 10 = some (10, 1, .iconst 0, 0, 0, []) from rfl) (by decide) ?_
  refine gh_put (show gh_at (gm_me 67).1 11 = some (11, 3, .putfield 383, 1, 47, [(0, 1488)]) from rfl) rfl (by decide +kernel) (by decide +kernel) (by decide +kernel) (Or.inl rfl) ?_
  have A_40 : ∀ c j, ¬ c = 236 → (gp_up σ_39 236 47 0) c j = σ1 c j := fun c j q => (gh_up_ne (fun e => q e.1)).trans (A_39 c j q)
  show gp_ok _ _ _ _ _ _ _ _ (gp_up σ_39 236 47 0)
  have W_40 : gt_W (gs_wm B F) (gp_up σ_39 236 47 0) := gh_Wu W_39 (c := 236) (j := 47) (x := 0) (fun _ => show gt_tv 73786976312018075970 (.inl (0)) from gh_mk (by decide) (by unfold gh_r; omega) (by omega) (by omega))
  have F_40 : gt_fr gs_nsl σ (gp_up σ_39 236 47 0) := gh_fu F_39 (by decide +kernel)
  have q_40_0 : (gp_up σ_39 236 47 0) 236 46 = 0 := (gh_up_ne (by decide)).trans q_39
  have q_40 : (gp_up σ_39 236 47 0) 236 47 = 0 := gh_up_eq _ _ _ _
  generalize (gp_up σ_39 236 47 0) = σ_40 at W_40 F_40 q_40_0 q_40 A_40 ⊢
  refine gh_aload_n (show gh_at (gm_me 67).1 14 = some (14, 1, .aload_n 0, 0, 0, []) from rfl) rfl rfl ?_
  refine gh_iconst (x := 0) (show gh_at (gm_me 67).1 15 = some (15, 1, .iconst 0, 0, 0, []) from rfl) (by decide) ?_
  refine gh_put (show gh_at (gm_me 67).1 16 = some (16, 3, .putfield 386, 1, 61, [(0, 1502)]) from rfl) rfl (by decide +kernel) (by decide +kernel) (by decide +kernel) (Or.inl rfl) ?_
  have A_41 : ∀ c j, ¬ c = 236 → (gp_up σ_40 236 61 0) c j = σ1 c j := fun c j q => (gh_up_ne (fun e => q e.1)).trans (A_40 c j q)
  show gp_ok _ _ _ _ _ _ _ _ (gp_up σ_40 236 61 0)
  have W_41 : gt_W (gs_wm B F) (gp_up σ_40 236 61 0) := gh_Wu W_40 (c := 236) (j := 61) (x := 0) (fun _ => show gt_tv 73786976312018075890 (.inl (0)) from gh_mk (by decide) (by unfold gh_r; omega) (by omega) (by omega))
  have F_41 : gt_fr gs_nsl σ (gp_up σ_40 236 61 0) := gh_fu F_40 (by decide +kernel)
  have q_41_0 : (gp_up σ_40 236 61 0) 236 46 = 0 := (gh_up_ne (by decide)).trans q_40_0
  have q_41_1 : (gp_up σ_40 236 61 0) 236 47 = 0 := (gh_up_ne (by decide)).trans q_40
  have q_41 : (gp_up σ_40 236 61 0) 236 61 = 0 := gh_up_eq _ _ _ _
  generalize (gp_up σ_40 236 61 0) = σ_41 at W_41 F_41 q_41_0 q_41_1 q_41 A_41 ⊢
  refine gh_aload_n (show gh_at (gm_me 67).1 19 = some (19, 1, .aload_n 0, 0, 0, []) from rfl) rfl rfl ?_
  refine gh_iconst (x := 0) (show gh_at (gm_me 67).1 20 = some (20, 1, .iconst 0, 0, 0, []) from rfl) (by decide) ?_
  refine gh_put (show gh_at (gm_me 67).1 21 = some (21, 3, .putfield 389, 1, 51, [(0, 1492)]) from rfl) rfl (by decide +kernel) (by decide +kernel) (by decide +kernel) (Or.inl rfl) ?_
  have A_42 : ∀ c j, ¬ c = 236 → (gp_up σ_41 236 51 0) c j = σ1 c j := fun c j q => (gh_up_ne (fun e => q e.1)).trans (A_41 c j q)
  show gp_ok _ _ _ _ _ _ _ _ (gp_up σ_41 236 51 0)
  have W_42 : gt_W (gs_wm B F) (gp_up σ_41 236 51 0) := gh_Wu W_41 (c := 236) (j := 51) (x := 0) (fun _ => show gt_tv 73786976312018075706 (.inl (0)) from gh_mk (by decide) (by unfold gh_r; omega) (by omega) (by omega))
  have F_42 : gt_fr gs_nsl σ (gp_up σ_41 236 51 0) := gh_fu F_41 (by decide +kernel)
  have q_42_0 : (gp_up σ_41 236 51 0) 236 46 = 0 := (gh_up_ne (by decide)).trans q_41_0
  have q_42_1 : (gp_up σ_41 236 51 0) 236 47 = 0 := (gh_up_ne (by decide)).trans q_41_1
  have q_42_2 : (gp_up σ_41 236 51 0) 236 61 = 0 := (gh_up_ne (by decide)).trans q_41
  have q_42 : (gp_up σ_41 236 51 0) 236 51 = 0 := gh_up_eq _ _ _ _
  generalize (gp_up σ_41 236 51 0) = σ_42 at W_42 F_42 q_42_0 q_42_1 q_42_2 q_42 A_42 ⊢
  refine gh_iconst (x := 0) (show gh_at (gm_me 67).1 24 = some (24, 1, .iconst 0, 0, 0, []) from rfl) (by decide) ?_
  refine gh_istore_n (show gh_at (gm_me 67).1 25 = some (25, 1, .istore_n 1, 0, 0, []) from rfl) (fun c q => by cases q <;> decide) rfl ?_
  exact loop 3 0 σ_42 (by omega) (by omega) W_42 F_42 (fun j hj => (A_42 260 j (by decide)).trans (s1 j hj)) q_42_0 q_42_1 (fun i hi => absurd hi (by omega))
