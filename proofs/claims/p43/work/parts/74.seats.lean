/-! folk, swapSeats -/
theorem gm_folk {b f : Nat} {σ : gp_S} (hb : b < 2) (hW : gt_W (gs_wm b f) σ) : σ 239 b = (f : Int) := by
  have h := (gh_tv (gh_Wg hW 239 b (t := gs_lt f) (by show ¬ 100 = 999; decide) (by show b < 2; omega) (by rcases (show b = 0 ∨ b = 1 by omega) with e | e <;> subst e <;> rfl) (by unfold gs_lt; omega))).2
  unfold gs_lt at h
  omega

theorem gz_folk {b f : Nat} {d : Nat} {σ : gp_S} {Φ : gp_F} (hb : b < 2) (hW : gt_W (gs_wm b f) σ) (h : Φ (.inl (f : Int)) σ) : gp_call gs_sh (d + 1) 11 [.inr 1891] σ Φ := by
  refine gh_call (al := [.inr 1891]) (by decide +kernel) (by show 1 = _; decide +kernel) (by rw [show (gm_me 11).2.1 = 0 by decide +kernel]; rfl) (by show 1 = _; decide +kernel) ?_
  rw [show gm_rc 11 = 1 by decide +kernel]
  have eb := gm_bank hb hW
  have ef := gm_folk hb hW
  refine gh_aload_n (show gh_at (gm_me 11).1 0 = some (0, 1, .aload_n 0, 0, 0, []) from rfl) rfl rfl ?_
  refine gh_get (show gh_at (gm_me 11).1 1 = some (1, 3, .getfield 20, 1, 11, [(0, 1452)]) from rfl) rfl (by decide +kernel) (by decide +kernel) (gh_rdr (r := 1915) (by decide +kernel) rfl) ?_
  refine gh_aload_n (show gh_at (gm_me 11).1 4 = some (4, 1, .aload_n 0, 0, 0, []) from rfl) rfl rfl ?_
  refine gh_get (show gh_at (gm_me 11).1 5 = some (5, 3, .getfield 263, 1, 32, [(0, 1473)]) from rfl) rfl (by decide +kernel) (by decide +kernel) (gh_rd0 (by decide +kernel)) ?_
  rw [eb]
  refine gh_iald (show gh_at (gm_me 11).1 8 = some (8, 1, .iaload, 0, 0, []) from rfl) rfl (by decide +kernel) (by decide +kernel) (gh_ix (N := 2) (by decide +kernel) (by omega) (by omega)) (gh_rd0 (gh_pk0 (by decide +kernel) _)) ?_
  rw [show ((b : Int)).toNat = b by omega, show σ (1915 / 8) b = (f : Int) from ef]
  refine gh_iret (show gh_at (gm_me 11).1 9 = some (9, 1, .ireturn, 0, 0, []) from rfl) ?_
  exact Or.inl ⟨rfl, h⟩
theorem gm_seat {b f : Nat} {σ : gp_S} (hW : gt_W (gs_wm b f) σ) {n : Nat} (hn : n < 7) : gt_tv 73786976312018075698 (.inl (σ 260 n)) := gh_Wg hW 260 n (by show ¬ 100 = 999; decide) (by show n < 29; omega) (by rcases (show n = 0 ∨ n = 1 ∨ n = 2 ∨ n = 3 ∨ n = 4 ∨ n = 5 ∨ n = 6 by omega) with h | h | h | h | h | h | h <;> subst h <;> rfl) (by decide)
theorem gm_sety {b f n : Nat} (hn : n < 7) : gb_ty (gs_wm b f 260) n = 73786976312018075698 := by rcases (show n = 0 ∨ n = 1 ∨ n = 2 ∨ n = 3 ∨ n = 4 ∨ n = 5 ∨ n = 6 by omega) with h | h | h | h | h | h | h <;> subst h <;> rfl
theorem gm_swW {b f : Nat} {σ : gp_S} (hW : gt_W (gs_wm b f) σ) {m n : Nat} (hm : m < 7) (hn : n < 7) : gt_W (gs_wm b f) (gp_up (gp_up σ 260 m (σ 260 n)) 260 n (σ 260 m)) := gh_Wu (gh_Wu hW (fun _ => by rw [gm_sety hm]; exact gm_seat hW hn)) (fun _ => by rw [gm_sety hn]; exact gm_seat hW hm)
theorem gz_swapS {d : Nat} {σ : gp_S} {Φ : gp_F} {m n : Nat} (hm : m < 7) (hn : n < 7) (h : Φ (.inr 7) (gp_up (gp_up σ 260 m (σ 260 n)) 260 n (σ 260 m))) : gp_call gs_sh (d + 1) 229 [.inr 1891, .inl (m : Int), .inl (n : Int)] σ Φ := by
  refine gh_call (al := [.inr 1891, .inl (m : Int), .inl (n : Int), .inr 7]) (by decide +kernel) (by show 3 = _; decide +kernel) (by rw [show (gm_me 229).2.1 = 1 by decide +kernel]; rfl) (by show 4 = _; decide +kernel) ?_
  rw [show gm_rc 229 = 0 by decide +kernel]
  have tm : ((m : Int)).toNat = m := by omega
  have tn : ((n : Int)).toNat = n := by omega
  refine gh_aload_n (show gh_at (gm_me 229).1 0 = some (0, 1, .aload_n 0, 0, 0, []) from rfl) rfl rfl ?_
  refine gh_get (show gh_at (gm_me 229).1 1 = some (1, 3, .getfield 85, 1, 38, [(0, 1479)]) from rfl) rfl (by decide +kernel) (by decide +kernel) (gh_rdr (r := 2083) (by decide +kernel) rfl) ?_
  refine gh_iconst (x := 0) (show gh_at (gm_me 229).1 4 = some (4, 1, .iconst 0, 0, 0, []) from rfl) (by decide) ?_
  refine gh_iload_n (show gh_at (gm_me 229).1 5 = some (5, 1, .iload_n 1, 0, 0, []) from rfl) rfl ?_
  refine gh_iadd (z := (m : Int)) (show gh_at (gm_me 229).1 6 = some (6, 1, .iadd, 0, 0, []) from rfl) (by rw [gh_add (by unfold gh_r; omega) (by unfold gh_r; omega) (by unfold gh_r; omega)]; omega) ?_
  refine gh_iald (show gh_at (gm_me 229).1 7 = some (7, 1, .iaload, 0, 0, []) from rfl) rfl (by decide +kernel) (by decide +kernel) (gh_ix (N := 29) (by decide +kernel) (by omega) (by omega)) (gh_rd0 (gh_pk0 (by decide +kernel) _)) ?_
  rw [tm]
  show gp_ok _ _ _ _ _ _ _ [.inl (σ 260 m)] _
  refine gh_istore_n (show gh_at (gm_me 229).1 8 = some (8, 1, .istore_n 3, 0, 0, []) from rfl) (fun c q => by cases q <;> decide) rfl ?_
  refine gh_aload_n (show gh_at (gm_me 229).1 9 = some (9, 1, .aload_n 0, 0, 0, []) from rfl) rfl rfl ?_
  refine gh_get (show gh_at (gm_me 229).1 10 = some (10, 3, .getfield 85, 1, 38, [(0, 1479)]) from rfl) rfl (by decide +kernel) (by decide +kernel) (gh_rdr (r := 2083) (by decide +kernel) rfl) ?_
  refine gh_iconst (x := 0) (show gh_at (gm_me 229).1 13 = some (13, 1, .iconst 0, 0, 0, []) from rfl) (by decide) ?_
  refine gh_iload_n (show gh_at (gm_me 229).1 14 = some (14, 1, .iload_n 1, 0, 0, []) from rfl) rfl ?_
  refine gh_iadd (z := (m : Int)) (show gh_at (gm_me 229).1 15 = some (15, 1, .iadd, 0, 0, []) from rfl) (by rw [gh_add (by unfold gh_r; omega) (by unfold gh_r; omega) (by unfold gh_r; omega)]; omega) ?_
  refine gh_aload_n (show gh_at (gm_me 229).1 16 = some (16, 1, .aload_n 0, 0, 0, []) from rfl) rfl rfl ?_
  refine gh_get (show gh_at (gm_me 229).1 17 = some (17, 3, .getfield 85, 1, 38, [(0, 1479)]) from rfl) rfl (by decide +kernel) (by decide +kernel) (gh_rdr (r := 2083) (by decide +kernel) rfl) ?_
  refine gh_iconst (x := 0) (show gh_at (gm_me 229).1 20 = some (20, 1, .iconst 0, 0, 0, []) from rfl) (by decide) ?_
  refine gh_iload_n (show gh_at (gm_me 229).1 21 = some (21, 1, .iload_n 2, 0, 0, []) from rfl) rfl ?_
  refine gh_iadd (z := (n : Int)) (show gh_at (gm_me 229).1 22 = some (22, 1, .iadd, 0, 0, []) from rfl) (by rw [gh_add (by unfold gh_r; omega) (by unfold gh_r; omega) (by unfold gh_r; omega)]; omega) ?_
  refine gh_iald (show gh_at (gm_me 229).1 23 = some (23, 1, .iaload, 0, 0, []) from rfl) rfl (by decide +kernel) (by decide +kernel) (gh_ix (N := 29) (by decide +kernel) (by omega) (by omega)) (gh_rd0 (gh_pk0 (by decide +kernel) _)) ?_
  rw [tn]
  refine gh_iast (show gh_at (gm_me 229).1 24 = some (24, 1, .iastore, 0, 0, []) from rfl) rfl (by decide +kernel) (by decide +kernel) (gh_ix (N := 29) (by decide +kernel) (by omega) (by omega)) (gh_pk0 (by decide +kernel) _) ?_
  rw [tm]
  show gp_ok _ _ _ _ _ _ _ [] (gp_up σ 260 m (σ 260 n))
  refine gh_aload_n (show gh_at (gm_me 229).1 25 = some (25, 1, .aload_n 0, 0, 0, []) from rfl) rfl rfl ?_
  refine gh_get (show gh_at (gm_me 229).1 26 = some (26, 3, .getfield 85, 1, 38, [(0, 1479)]) from rfl) rfl (by decide +kernel) (by decide +kernel) (gh_rdr (r := 2083) (by decide +kernel) rfl) ?_
  refine gh_iconst (x := 0) (show gh_at (gm_me 229).1 29 = some (29, 1, .iconst 0, 0, 0, []) from rfl) (by decide) ?_
  refine gh_iload_n (show gh_at (gm_me 229).1 30 = some (30, 1, .iload_n 2, 0, 0, []) from rfl) rfl ?_
  refine gh_iadd (z := (n : Int)) (show gh_at (gm_me 229).1 31 = some (31, 1, .iadd, 0, 0, []) from rfl) (by rw [gh_add (by unfold gh_r; omega) (by unfold gh_r; omega) (by unfold gh_r; omega)]; omega) ?_
  refine gh_iload_n (show gh_at (gm_me 229).1 32 = some (32, 1, .iload_n 3, 0, 0, []) from rfl) rfl ?_
  refine gh_iast (show gh_at (gm_me 229).1 33 = some (33, 1, .iastore, 0, 0, []) from rfl) rfl (by decide +kernel) (by decide +kernel) (gh_ix (N := 29) (by decide +kernel) (by omega) (by omega)) (gh_pk0 (by decide +kernel) _) ?_
  rw [tn]
  refine gh_ret (show gh_at (gm_me 229).1 34 = some (34, 1, .return_, 0, 0, []) from rfl) rfl ?_
  exact h
