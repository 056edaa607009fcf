/-! clearBank, dinner -/
theorem gb_low {ml : List (Nat × Nat)} (h : ∀ q ∈ ml, ¬ q.1 = 99999 ∧ 236 ≤ q.1) (c j : Nat) (hc : c < 236) : gb_mo ml c j = false := by
  cases hm : gb_mo ml c j with
  | false => rfl
  | true =>
    obtain ⟨q, hq, e, -⟩ := gb_mo_c (fun q hq => (h q hq).1) hm
    have := (h q hq).2
    omega

def gs_clr : List (Nat × Nat) := [(239, 1048576), (240, 1048576), (241, 1048576), (242, 1048576), (243, 1048576), (244, 1048576), (245, 1048576), (246, 1048576), (247, 1048576), (236, 34)]
def gs_pre : List (Nat × Nat) := [(236, 2), (236, 3), (236, 4), (236, 5), (236, 6), (236, 7), (236, 8), (236, 9), (236, 10), (236, 33), (236, 34), (238, 1048576), (239, 1048576), (240, 1048576), (241, 1048576), (242, 1048576), (243, 1048576), (244, 1048576), (245, 1048576), (246, 1048576), (247, 1048576)]
def gs_nml : List (Nat × Nat) := [(236, 2), (236, 3), (236, 4), (236, 5), (236, 6), (236, 7), (236, 8), (236, 9), (236, 10), (236, 33), (236, 34), (236, 35), (236, 36), (236, 37), (238, 1048576), (239, 1048576), (240, 1048576), (241, 1048576), (242, 1048576), (243, 1048576), (244, 1048576), (245, 1048576), (246, 1048576), (247, 1048576), (248, 1048576), (249, 1048576), (250, 1048576), (251, 1048576), (252, 1048576), (253, 1048576), (254, 1048576), (255, 1048576), (256, 1048576), (257, 1048576), (258, 1048576)]
theorem gz_clear {b f d : Nat} {σ : gp_S} (hb : b < 2) (hW : gt_W (gs_wm b f) σ) (hB : σ 236 33 = ((1 - b : Nat) : Int)) : gp_call gs_sh (d + 1) 66 [.inr 1891] σ (fun _ σ' => gt_W (gs_wm b f) σ' ∧ gt_fr gs_clr σ σ' ∧ σ' 241 (1 - b) = 0 ∧ σ' 236 34 = ((560 * (1 - b) : Nat) : Int)) := by
  refine gh_call (al := [.inr 1891]) (by decide +kernel) (by show 1 = _; decide +kernel) (by rw [show (gm_me 66).2.1 = 0 by decide +kernel]; rfl) (by show 1 = _; decide +kernel) ?_
  rw [show gm_rc 66 = 0 by decide +kernel]
  refine gh_aload_n (show gh_at (gm_me 66).1 0 = some (0, 1, .aload_n 0, 0, 0, []) from rfl) rfl rfl ?_
  refine gh_get (show gh_at (gm_me 66).1 1 = some (1, 3, .getfield 20, 1, 11, [(0, 1452)]) from rfl) rfl (by decide +kernel) (by decide +kernel) (gh_rdr (r := 1915) (by decide +kernel) rfl) ?_
  refine gh_aload_n (show gh_at (gm_me 66).1 4 = some (4, 1, .aload_n 0, 0, 0, []) from rfl) rfl rfl ?_
  refine gh_get (show gh_at (gm_me 66).1 5 = some (5, 3, .getfield 254, 1, 33, [(0, 1474)]) from rfl) rfl (by decide +kernel) (by decide +kernel) (gh_rd0 (by decide +kernel)) ?_
  rw [show σ (1891 / 8) 33 = ((1 - b : Nat) : Int) from hB]
  refine gh_iconst (x := 0) (show gh_at (gm_me 66).1 8 = some (8, 1, .iconst 0, 0, 0, []) from rfl) (by decide) ?_
  refine gh_iast (show gh_at (gm_me 66).1 9 = some (9, 1, .iastore, 0, 0, []) from rfl) rfl (by decide +kernel) (by decide +kernel) (gh_ix (N := 2) (by decide +kernel) (by omega) (by omega)) (gh_pk0 (by decide +kernel) _) ?_
  rw [show (((1 - b : Nat) : Int)).toNat = 1 - b by omega]
  show gp_ok _ _ _ _ _ _ _ [] (gp_up σ 239 (1 - b) 0)
  have W1 : gt_W (gs_wm b f) (gp_up σ 239 (1 - b) 0) := gh_Wu hW (c := 239) (j := 1 - b) (x := 0) (fun _ => by rw [show gb_ty (gs_wm b f 239) (1 - b) = 73786976312018075706 by rcases (show b = 0 ∨ b = 1 by omega) with q | q <;> subst q <;> rfl]; exact gh_mk (by decide) (by unfold gh_r; omega) (by omega) (by omega))
  have F1 : gt_fr gs_clr σ (gp_up σ 239 (1 - b) 0) := gh_fu (gh_f0 (ml := gs_clr)) (gb_mo_mem _ (by decide))
  have b1 : (gp_up σ 239 (1 - b) 0) 236 33 = ((1 - b : Nat) : Int) := (gh_up_ne (fun q => absurd q.1 (by decide))).trans hB
  generalize (gp_up σ 239 (1 - b) 0) = σ1 at W1 F1 b1 ⊢
  refine gh_aload_n (show gh_at (gm_me 66).1 10 = some (10, 1, .aload_n 0, 0, 0, []) from rfl) rfl rfl ?_
  refine gh_get (show gh_at (gm_me 66).1 11 = some (11, 3, .getfield 24, 1, 12, [(0, 1453)]) from rfl) rfl (by decide +kernel) (by decide +kernel) (gh_rdr (r := 1923) (by decide +kernel) rfl) ?_
  refine gh_aload_n (show gh_at (gm_me 66).1 14 = some (14, 1, .aload_n 0, 0, 0, []) from rfl) rfl rfl ?_
  refine gh_get (show gh_at (gm_me 66).1 15 = some (15, 3, .getfield 254, 1, 33, [(0, 1474)]) from rfl) rfl (by decide +kernel) (by decide +kernel) (gh_rd0 (by decide +kernel)) ?_
  rw [show σ1 (1891 / 8) 33 = ((1 - b : Nat) : Int) from b1]
  refine gh_iconst (x := 0) (show gh_at (gm_me 66).1 18 = some (18, 1, .iconst 0, 0, 0, []) from rfl) (by decide) ?_
  refine gh_iast (show gh_at (gm_me 66).1 19 = some (19, 1, .iastore, 0, 0, []) from rfl) rfl (by decide +kernel) (by decide +kernel) (gh_ix (N := 2) (by decide +kernel) (by omega) (by omega)) (gh_pk0 (by decide +kernel) _) ?_
  rw [show (((1 - b : Nat) : Int)).toNat = 1 - b by omega]
  show gp_ok _ _ _ _ _ _ _ [] (gp_up σ1 240 (1 - b) 0)
  have W2 : gt_W (gs_wm b f) (gp_up σ1 240 (1 - b) 0) := gh_Wu W1 (c := 240) (j := 1 - b) (x := 0) (fun _ => show gt_tv 73786976312018075730 (.inl 0) from gh_mk (by decide) (by unfold gh_r; omega) (by omega) (by omega))
  have F2 : gt_fr gs_clr σ (gp_up σ1 240 (1 - b) 0) := gh_fu F1 (gb_mo_mem _ (by decide))
  have b2 : (gp_up σ1 240 (1 - b) 0) 236 33 = ((1 - b : Nat) : Int) := (gh_up_ne (fun q => absurd q.1 (by decide))).trans b1
  generalize (gp_up σ1 240 (1 - b) 0) = σ2 at W2 F2 b2 ⊢
  refine gh_aload_n (show gh_at (gm_me 66).1 20 = some (20, 1, .aload_n 0, 0, 0, []) from rfl) rfl rfl ?_
  refine gh_get (show gh_at (gm_me 66).1 21 = some (21, 3, .getfield 27, 1, 13, [(0, 1454)]) from rfl) rfl (by decide +kernel) (by decide +kernel) (gh_rdr (r := 1931) (by decide +kernel) rfl) ?_
  refine gh_aload_n (show gh_at (gm_me 66).1 24 = some (24, 1, .aload_n 0, 0, 0, []) from rfl) rfl rfl ?_
  refine gh_get (show gh_at (gm_me 66).1 25 = some (25, 3, .getfield 254, 1, 33, [(0, 1474)]) from rfl) rfl (by decide +kernel) (by decide +kernel) (gh_rd0 (by decide +kernel)) ?_
  rw [show σ2 (1891 / 8) 33 = ((1 - b : Nat) : Int) from b2]
  refine gh_iconst (x := 0) (show gh_at (gm_me 66).1 28 = some (28, 1, .iconst 0, 0, 0, []) from rfl) (by decide) ?_
  refine gh_iast (show gh_at (gm_me 66).1 29 = some (29, 1, .iastore, 0, 0, []) from rfl) rfl (by decide +kernel) (by decide +kernel) (gh_ix (N := 2) (by decide +kernel) (by omega) (by omega)) (gh_pk0 (by decide +kernel) _) ?_
  rw [show (((1 - b : Nat) : Int)).toNat = 1 - b by omega]
  show gp_ok _ _ _ _ _ _ _ [] (gp_up σ2 241 (1 - b) 0)
  have W3 : gt_W (gs_wm b f) (gp_up σ2 241 (1 - b) 0) := gh_Wu W2 (c := 241) (j := 1 - b) (x := 0) (fun _ => gh_any (by unfold gh_r; omega))
  have F3 : gt_fr gs_clr σ (gp_up σ2 241 (1 - b) 0) := gh_fu F2 (gb_mo_mem _ (by decide))
  have b3 : (gp_up σ2 241 (1 - b) 0) 236 33 = ((1 - b : Nat) : Int) := (gh_up_ne (fun q => absurd q.1 (by decide))).trans b2
  have u3 : (gp_up σ2 241 (1 - b) 0) 241 (1 - b) = 0 := gh_up_eq _ _ _ _
  generalize (gp_up σ2 241 (1 - b) 0) = σ3 at W3 F3 b3 u3 ⊢
  refine gh_aload_n (show gh_at (gm_me 66).1 30 = some (30, 1, .aload_n 0, 0, 0, []) from rfl) rfl rfl ?_
  refine gh_get (show gh_at (gm_me 66).1 31 = some (31, 3, .getfield 30, 1, 14, [(0, 1455)]) from rfl) rfl (by decide +kernel) (by decide +kernel) (gh_rdr (r := 1939) (by decide +kernel) rfl) ?_
  refine gh_aload_n (show gh_at (gm_me 66).1 34 = some (34, 1, .aload_n 0, 0, 0, []) from rfl) rfl rfl ?_
  refine gh_get (show gh_at (gm_me 66).1 35 = some (35, 3, .getfield 254, 1, 33, [(0, 1474)]) from rfl) rfl (by decide +kernel) (by decide +kernel) (gh_rd0 (by decide +kernel)) ?_
  rw [show σ3 (1891 / 8) 33 = ((1 - b : Nat) : Int) from b3]
  refine gh_iconst (x := 0) (show gh_at (gm_me 66).1 38 = some (38, 1, .iconst 0, 0, 0, []) from rfl) (by decide) ?_
  refine gh_iast (show gh_at (gm_me 66).1 39 = some (39, 1, .iastore, 0, 0, []) from rfl) rfl (by decide +kernel) (by decide +kernel) (gh_ix (N := 2) (by decide +kernel) (by omega) (by omega)) (gh_pk0 (by decide +kernel) _) ?_
  rw [show (((1 - b : Nat) : Int)).toNat = 1 - b by omega]
  show gp_ok _ _ _ _ _ _ _ [] (gp_up σ3 242 (1 - b) 0)
  have W4 : gt_W (gs_wm b f) (gp_up σ3 242 (1 - b) 0) := gh_Wu W3 (c := 242) (j := 1 - b) (x := 0) (fun _ => gh_any (by unfold gh_r; omega))
  have F4 : gt_fr gs_clr σ (gp_up σ3 242 (1 - b) 0) := gh_fu F3 (gb_mo_mem _ (by decide))
  have b4 : (gp_up σ3 242 (1 - b) 0) 236 33 = ((1 - b : Nat) : Int) := (gh_up_ne (fun q => absurd q.1 (by decide))).trans b3
  have u4 : (gp_up σ3 242 (1 - b) 0) 241 (1 - b) = 0 := (gh_up_ne (fun q => absurd q.1 (by decide))).trans u3
  generalize (gp_up σ3 242 (1 - b) 0) = σ4 at W4 F4 b4 u4 ⊢
  refine gh_aload_n (show gh_at (gm_me 66).1 40 = some (40, 1, .aload_n 0, 0, 0, []) from rfl) rfl rfl ?_
  refine gh_get (show gh_at (gm_me 66).1 41 = some (41, 3, .getfield 33, 1, 15, [(0, 1456)]) from rfl) rfl (by decide +kernel) (by decide +kernel) (gh_rdr (r := 1947) (by decide +kernel) rfl) ?_
  refine gh_aload_n (show gh_at (gm_me 66).1 44 = some (44, 1, .aload_n 0, 0, 0, []) from rfl) rfl rfl ?_
  refine gh_get (show gh_at (gm_me 66).1 45 = some (45, 3, .getfield 254, 1, 33, [(0, 1474)]) from rfl) rfl (by decide +kernel) (by decide +kernel) (gh_rd0 (by decide +kernel)) ?_
  rw [show σ4 (1891 / 8) 33 = ((1 - b : Nat) : Int) from b4]
  refine gh_iconst (x := 0) (show gh_at (gm_me 66).1 48 = some (48, 1, .iconst 0, 0, 0, []) from rfl) (by decide) ?_
  refine gh_iast (show gh_at (gm_me 66).1 49 = some (49, 1, .iastore, 0, 0, []) from rfl) rfl (by decide +kernel) (by decide +kernel) (gh_ix (N := 2) (by decide +kernel) (by omega) (by omega)) (gh_pk0 (by decide +kernel) _) ?_
  rw [show (((1 - b : Nat) : Int)).toNat = 1 - b by omega]
  show gp_ok _ _ _ _ _ _ _ [] (gp_up σ4 243 (1 - b) 0)
  have W5 : gt_W (gs_wm b f) (gp_up σ4 243 (1 - b) 0) := gh_Wu W4 (c := 243) (j := 1 - b) (x := 0) (fun _ => gh_any (by unfold gh_r; omega))
  have F5 : gt_fr gs_clr σ (gp_up σ4 243 (1 - b) 0) := gh_fu F4 (gb_mo_mem _ (by decide))
  have b5 : (gp_up σ4 243 (1 - b) 0) 236 33 = ((1 - b : Nat) : Int) := (gh_up_ne (fun q => absurd q.1 (by decide))).trans b4
  have u5 : (gp_up σ4 243 (1 - b) 0) 241 (1 - b) = 0 := (gh_up_ne (fun q => absurd q.1 (by decide))).trans u4
  generalize (gp_up σ4 243 (1 - b) 0) = σ5 at W5 F5 b5 u5 ⊢
  refine gh_aload_n (show gh_at (gm_me 66).1 50 = some (50, 1, .aload_n 0, 0, 0, []) from rfl) rfl rfl ?_
  refine gh_get (show gh_at (gm_me 66).1 51 = some (51, 3, .getfield 36, 1, 16, [(0, 1457)]) from rfl) rfl (by decide +kernel) (by decide +kernel) (gh_rdr (r := 1955) (by decide +kernel) rfl) ?_
  refine gh_aload_n (show gh_at (gm_me 66).1 54 = some (54, 1, .aload_n 0, 0, 0, []) from rfl) rfl rfl ?_
  refine gh_get (show gh_at (gm_me 66).1 55 = some (55, 3, .getfield 254, 1, 33, [(0, 1474)]) from rfl) rfl (by decide +kernel) (by decide +kernel) (gh_rd0 (by decide +kernel)) ?_
  rw [show σ5 (1891 / 8) 33 = ((1 - b : Nat) : Int) from b5]
  refine gh_iconst (x := 3) (show gh_at (gm_me 66).1 58 = some (58, 1, .iconst 3, 24, 0, []) from rfl) (by decide) ?_
  refine gh_iast (show gh_at (gm_me 66).1 59 = some (59, 1, .iastore, 0, 0, []) from rfl) rfl (by decide +kernel) (by decide +kernel) (gh_ix (N := 2) (by decide +kernel) (by omega) (by omega)) (gh_pk0 (by decide +kernel) _) ?_
  rw [show (((1 - b : Nat) : Int)).toNat = 1 - b by omega]
  show gp_ok _ _ _ _ _ _ _ [] (gp_up σ5 244 (1 - b) 3)
  have W6 : gt_W (gs_wm b f) (gp_up σ5 244 (1 - b) 3) := gh_Wu W5 (c := 244) (j := 1 - b) (x := 3) (fun _ => gh_any (by unfold gh_r; omega))
  have F6 : gt_fr gs_clr σ (gp_up σ5 244 (1 - b) 3) := gh_fu F5 (gb_mo_mem _ (by decide))
  have b6 : (gp_up σ5 244 (1 - b) 3) 236 33 = ((1 - b : Nat) : Int) := (gh_up_ne (fun q => absurd q.1 (by decide))).trans b5
  have u6 : (gp_up σ5 244 (1 - b) 3) 241 (1 - b) = 0 := (gh_up_ne (fun q => absurd q.1 (by decide))).trans u5
  generalize (gp_up σ5 244 (1 - b) 3) = σ6 at W6 F6 b6 u6 ⊢
  refine gh_aload_n (show gh_at (gm_me 66).1 60 = some (60, 1, .aload_n 0, 0, 0, []) from rfl) rfl rfl ?_
  refine gh_get (show gh_at (gm_me 66).1 61 = some (61, 3, .getfield 39, 1, 17, [(0, 1458)]) from rfl) rfl (by decide +kernel) (by decide +kernel) (gh_rdr (r := 1963) (by decide +kernel) rfl) ?_
  refine gh_aload_n (show gh_at (gm_me 66).1 64 = some (64, 1, .aload_n 0, 0, 0, []) from rfl) rfl rfl ?_
  refine gh_get (show gh_at (gm_me 66).1 65 = some (65, 3, .getfield 254, 1, 33, [(0, 1474)]) from rfl) rfl (by decide +kernel) (by decide +kernel) (gh_rd0 (by decide +kernel)) ?_
  rw [show σ6 (1891 / 8) 33 = ((1 - b : Nat) : Int) from b6]
  refine gh_iconst (x := 0) (show gh_at (gm_me 66).1 68 = some (68, 1, .iconst 0, 0, 0, []) from rfl) (by decide) ?_
  refine gh_iast (show gh_at (gm_me 66).1 69 = some (69, 1, .iastore, 0, 0, []) from rfl) rfl (by decide +kernel) (by decide +kernel) (gh_ix (N := 2) (by decide +kernel) (by omega) (by omega)) (gh_pk0 (by decide +kernel) _) ?_
  rw [show (((1 - b : Nat) : Int)).toNat = 1 - b by omega]
  show gp_ok _ _ _ _ _ _ _ [] (gp_up σ6 245 (1 - b) 0)
  have W7 : gt_W (gs_wm b f) (gp_up σ6 245 (1 - b) 0) := gh_Wu W6 (c := 245) (j := 1 - b) (x := 0) (fun _ => show gt_tv 73786976312018076450 (.inl 0) from gh_mk (by decide) (by unfold gh_r; omega) (by omega) (by omega))
  have F7 : gt_fr gs_clr σ (gp_up σ6 245 (1 - b) 0) := gh_fu F6 (gb_mo_mem _ (by decide))
  have b7 : (gp_up σ6 245 (1 - b) 0) 236 33 = ((1 - b : Nat) : Int) := (gh_up_ne (fun q => absurd q.1 (by decide))).trans b6
  have u7 : (gp_up σ6 245 (1 - b) 0) 241 (1 - b) = 0 := (gh_up_ne (fun q => absurd q.1 (by decide))).trans u6
  generalize (gp_up σ6 245 (1 - b) 0) = σ7 at W7 F7 b7 u7 ⊢
  refine gh_aload_n (show gh_at (gm_me 66).1 70 = some (70, 1, .aload_n 0, 0, 0, []) from rfl) rfl rfl ?_
  refine gh_get (show gh_at (gm_me 66).1 71 = some (71, 3, .getfield 42, 1, 18, [(0, 1459)]) from rfl) rfl (by decide +kernel) (by decide +kernel) (gh_rdr (r := 1971) (by decide +kernel) rfl) ?_
  refine gh_aload_n (show gh_at (gm_me 66).1 74 = some (74, 1, .aload_n 0, 0, 0, []) from rfl) rfl rfl ?_
  refine gh_get (show gh_at (gm_me 66).1 75 = some (75, 3, .getfield 254, 1, 33, [(0, 1474)]) from rfl) rfl (by decide +kernel) (by decide +kernel) (gh_rd0 (by decide +kernel)) ?_
  rw [show σ7 (1891 / 8) 33 = ((1 - b : Nat) : Int) from b7]
  refine gh_iconst (x := 0) (show gh_at (gm_me 66).1 78 = some (78, 1, .iconst 0, 0, 0, []) from rfl) (by decide) ?_
  refine gh_iast (show gh_at (gm_me 66).1 79 = some (79, 1, .iastore, 0, 0, []) from rfl) rfl (by decide +kernel) (by decide +kernel) (gh_ix (N := 2) (by decide +kernel) (by omega) (by omega)) (gh_pk0 (by decide +kernel) _) ?_
  rw [show (((1 - b : Nat) : Int)).toNat = 1 - b by omega]
  show gp_ok _ _ _ _ _ _ _ [] (gp_up σ7 246 (1 - b) 0)
  have W8 : gt_W (gs_wm b f) (gp_up σ7 246 (1 - b) 0) := gh_Wu W7 (c := 246) (j := 1 - b) (x := 0) (fun _ => gh_any (by unfold gh_r; omega))
  have F8 : gt_fr gs_clr σ (gp_up σ7 246 (1 - b) 0) := gh_fu F7 (gb_mo_mem _ (by decide))
  have b8 : (gp_up σ7 246 (1 - b) 0) 236 33 = ((1 - b : Nat) : Int) := (gh_up_ne (fun q => absurd q.1 (by decide))).trans b7
  have u8 : (gp_up σ7 246 (1 - b) 0) 241 (1 - b) = 0 := (gh_up_ne (fun q => absurd q.1 (by decide))).trans u7
  generalize (gp_up σ7 246 (1 - b) 0) = σ8 at W8 F8 b8 u8 ⊢
  refine gh_aload_n (show gh_at (gm_me 66).1 80 = some (80, 1, .aload_n 0, 0, 0, []) from rfl) rfl rfl ?_
  refine gh_get (show gh_at (gm_me 66).1 81 = some (81, 3, .getfield 45, 1, 19, [(0, 1460)]) from rfl) rfl (by decide +kernel) (by decide +kernel) (gh_rdr (r := 1979) (by decide +kernel) rfl) ?_
  refine gh_aload_n (show gh_at (gm_me 66).1 84 = some (84, 1, .aload_n 0, 0, 0, []) from rfl) rfl rfl ?_
  refine gh_get (show gh_at (gm_me 66).1 85 = some (85, 3, .getfield 254, 1, 33, [(0, 1474)]) from rfl) rfl (by decide +kernel) (by decide +kernel) (gh_rd0 (by decide +kernel)) ?_
  rw [show σ8 (1891 / 8) 33 = ((1 - b : Nat) : Int) from b8]
  refine gh_iconst (x := 0) (show gh_at (gm_me 66).1 88 = some (88, 1, .iconst 0, 0, 0, []) from rfl) (by decide) ?_
  refine gh_iast (show gh_at (gm_me 66).1 89 = some (89, 1, .iastore, 0, 0, []) from rfl) rfl (by decide +kernel) (by decide +kernel) (gh_ix (N := 2) (by decide +kernel) (by omega) (by omega)) (gh_pk0 (by decide +kernel) _) ?_
  rw [show (((1 - b : Nat) : Int)).toNat = 1 - b by omega]
  show gp_ok _ _ _ _ _ _ _ [] (gp_up σ8 247 (1 - b) 0)
  have W9 : gt_W (gs_wm b f) (gp_up σ8 247 (1 - b) 0) := gh_Wu W8 (c := 247) (j := 1 - b) (x := 0) (fun _ => gh_any (by unfold gh_r; omega))
  have F9 : gt_fr gs_clr σ (gp_up σ8 247 (1 - b) 0) := gh_fu F8 (gb_mo_mem _ (by decide))
  have b9 : (gp_up σ8 247 (1 - b) 0) 236 33 = ((1 - b : Nat) : Int) := (gh_up_ne (fun q => absurd q.1 (by decide))).trans b8
  have u9 : (gp_up σ8 247 (1 - b) 0) 241 (1 - b) = 0 := (gh_up_ne (fun q => absurd q.1 (by decide))).trans u8
  generalize (gp_up σ8 247 (1 - b) 0) = σ9 at W9 F9 b9 u9 ⊢
  refine gh_aload_n (show gh_at (gm_me 66).1 90 = some (90, 1, .aload_n 0, 0, 0, []) from rfl) rfl rfl ?_
  refine gh_sipush (x := 560) (show gh_at (gm_me 66).1 91 = some (91, 3, .sipush (560), 4480, 0, []) from rfl) (by decide) ?_
  refine gh_aload_n (show gh_at (gm_me 66).1 94 = some (94, 1, .aload_n 0, 0, 0, []) from rfl) rfl rfl ?_
  refine gh_get (show gh_at (gm_me 66).1 95 = some (95, 3, .getfield 254, 1, 33, [(0, 1474)]) from rfl) rfl (by decide +kernel) (by decide +kernel) (gh_rd0 (by decide +kernel)) ?_
  rw [show σ9 (1891 / 8) 33 = ((1 - b : Nat) : Int) from b9]
  refine gh_imul (z := ((560 * (1 - b) : Nat) : Int)) (show gh_at (gm_me 66).1 98 = some (98, 1, .imul, 0, 0, []) from rfl) (by rw [gh_mul (by unfold gh_r; omega) (by unfold gh_r; omega) (by unfold gh_r; omega)]; omega) ?_
  refine gh_put (show gh_at (gm_me 66).1 99 = some (99, 3, .putfield 257, 1, 34, [(0, 1475)]) from rfl) rfl (by decide +kernel) (by decide +kernel) (by decide +kernel) (Or.inl rfl) ?_
  show gp_ok _ _ _ _ _ _ _ _ (gp_up σ9 236 34 (((560 * (1 - b) : Nat) : Int)))
  have W_43 : gt_W (gs_wm b f) (gp_up σ9 236 34 (((560 * (1 - b) : Nat) : Int))) := gh_Wu W9 (c := 236) (j := 34) (x := (((560 * (1 - b) : Nat) : Int))) (fun _ => gh_any (by unfold gh_r; omega))
  have F_43 : gt_fr gs_clr σ (gp_up σ9 236 34 (((560 * (1 - b) : Nat) : Int))) := gh_fu F9 (by decide +kernel)
  have q_43_0 : (gp_up σ9 236 34 (((560 * (1 - b) : Nat) : Int))) 236 33 = ((1 - b : Nat) : Int) := (gh_up_ne (by decide)).trans b9
  have q_43_1 : (gp_up σ9 236 34 (((560 * (1 - b) : Nat) : Int))) 241 (1 - b) = 0 := (gh_up_ne (fun q => absurd q.1 (by decide))).trans u9
  have q_43 : (gp_up σ9 236 34 (((560 * (1 - b) : Nat) : Int))) 236 34 = (((560 * (1 - b) : Nat) : Int)) := gh_up_eq _ _ _ _
  generalize (gp_up σ9 236 34 (((560 * (1 - b) : Nat) : Int))) = σ_43 at W_43 F_43 q_43_0 q_43_1 q_43 ⊢
  refine gh_ret (show gh_at (gm_me 66).1 102 = some (102, 1, .return_, 0, 0, []) from rfl) rfl ?_
  exact ⟨W_43, F_43, q_43_1, q_43⟩
theorem gm_byte {x : Int} : -128 ≤ gp_b1 (fun x => x.toInt8.toInt32) x ∧ gp_b1 (fun x => x.toInt8.toInt32) x ≤ 127 := by
  unfold gp_b1
  show -128 ≤ ((Int32.ofInt x).toInt8.toInt32).toInt ∧ ((Int32.ofInt x).toInt8.toInt32).toInt ≤ 127
  rw [Int8.toInt_toInt32]
  have h1 := Int8.le_toInt (Int32.ofInt x).toInt8
  have h2 := Int8.toInt_lt (Int32.ofInt x).toInt8
  omega
theorem gm_Xn {f F : Nat} {σ σ' : gp_S} (hX : gm_X f σ) (hF : gt_fr gs_nsl σ σ') (h1 : σ' 236 46 = 0) (h2 : σ' 236 47 = 0) (h3 : ∀ i : Nat, i < 3 → σ' 278 i = 0) : gm_X F σ' := by
  obtain ⟨x1, x2, x3, x4, -⟩ := hX
  have e1 : ∀ j, σ' 255 j = σ 255 j := fun j => hF _ _ rfl
  have e2 : ∀ j, σ' 252 j = σ 252 j := fun j => hF _ _ rfl
  have e3 : ∀ j, σ' 253 j = σ 253 j := fun j => hF _ _ rfl
  refine ⟨?_, ?_, ?_, ?_, by omega, by omega, by omega, fun i hi => by omega, fun i hi hb => by have := h3 i hi; omega⟩
  · rw [e2, e3]; exact gv_ok_eq e1 x1
  · rw [e2, e3]; exact gv_ok_eq e1 x2
  · rw [e2, e3]; exact x3
  · rw [e2, e3]; exact x4

theorem gz_dinner {b f : Nat} {σ : gp_S} (hb : b < 2) (hW : gt_W (gs_wm b f) σ) (hY : gm_Y f σ) : gp_call gs_sh 9 178 [.inr 1891] σ (fun v σ' => ∃ B F : Nat, B < 2 ∧ gt_W (gs_wm B F) σ' ∧ gm_Y F σ' ∧ σ' 236 62 = σ 236 62 ∧ (∀ c j, c < 236 → σ' c j = σ c j) ∧ gt_tv 34359738362 v) := by
  refine gh_call (al := [.inr 1891, .inr 7]) (by decide +kernel) (by show 1 = _; decide +kernel) (by rw [show (gm_me 178).2.1 = 1 by decide +kernel]; rfl) (by show 2 = _; decide +kernel) ?_
  rw [show gm_rc 178 = 1 by decide +kernel]
  have hf := hY.1
  have hX := hY.2.1
  have hbk := gm_bank hb hW
  have htp := (gh_tv (gh_Wg hW 236 2 (t := 73786976312018088450) (by show ¬ 1 = 999; decide) (by show 2 < 65; decide) rfl (by decide))).2
  have l95 : ∀ (σ1 : gp_S) (i : Int), gt_W (gs_wm b f) σ1 → gm_X f σ1 → gt_fr gs_nml σ σ1 → σ1 236 33 = ((1 - b : Nat) : Int) → gp_ok gs_sh (gp_call gs_sh 8) 1 (gm_me 178).1 (fun v σ' => ∃ B F : Nat, B < 2 ∧ gt_W (gs_wm B F) σ' ∧ gm_Y F σ' ∧ σ' 236 62 = σ 236 62 ∧ (∀ c j, c < 236 → σ' c j = σ c j) ∧ gt_tv 34359738362 v) 95 [.inr 1891, .inl i] [] σ1 := by
    intro σ1 i W1 X1 F1 b1
    refine gh_aload_n (show gh_at (gm_me 178).1 95 = some (95, 1, .aload_n 0, 0, 0, []) from rfl) rfl rfl ?_
    refine gh_callV (r := 1891) (as := []) (t := []) (show gh_at (gm_me 178).1 96 = some (96, 3, .invokevirtual 233, 88, 0, [(0, 1678)]) from rfl) (by decide) rfl (by show 1 = _; decide +kernel) (Nat.le_trans (gh_wd _) (Nat.le_of_ble_eq_true rfl)) rfl (by decide +kernel) (by decide +kernel) (Ψ := fun v σ9 => σ9 = σ1 ∧ ((v = .inl 1 ∧ σ1 236 4 = 0) ∨ (v = .inl 0 ∧ ¬ σ1 236 4 = 0))) (gz_good (d := 7) (fun q => ⟨rfl, Or.inl ⟨rfl, q⟩⟩) (fun q => ⟨rfl, Or.inr ⟨rfl, q⟩⟩)) gh_mono (fun v σ9 hv => ?_)
    rw [show gm_rc 88 = 2 by decide +kernel]
    obtain ⟨e9, hv⟩ := hv
    rw [e9]
    rcases hv with ⟨rfl, hg⟩ | ⟨rfl, hg⟩
    · refine gh_if (show gh_at (gm_me 178).1 99 = some (99, 3, .ifCond .ne (5), 0, 104, []) from rfl) (fun _ => ?_) (fun q => absurd (show ¬ (1 : Int) = 0 by decide) q)
      refine gh_aload_n (show gh_at (gm_me 178).1 104 = some (104, 1, .aload_n 0, 0, 0, []) from rfl) rfl rfl ?_
      refine gh_aload_n (show gh_at (gm_me 178).1 105 = some (105, 1, .aload_n 0, 0, 0, []) from rfl) rfl rfl ?_
      refine gh_get (show gh_at (gm_me 178).1 106 = some (106, 3, .getfield 254, 1, 33, [(0, 1474)]) from rfl) rfl (by decide +kernel) (by decide +kernel) (gh_rd0 (by decide +kernel)) ?_
      rw [show σ1 (1891 / 8) 33 = ((1 - b : Nat) : Int) from b1]
      refine gh_put (show gh_at (gm_me 178).1 109 = some (109, 3, .putfield 263, 1, 32, [(0, 1473)]) from rfl) rfl (by decide +kernel) (by decide +kernel) (by decide +kernel) (Or.inl rfl) ?_
      show gp_ok _ _ _ _ _ _ _ [] (gp_up σ1 236 32 ((1 - b : Nat) : Int))
      have ht := (gh_tv (gh_Wg W1 239 (1 - b) (t := 73786976312018075706) (by show ¬ 100 = 999; decide) (by show 1 - b < 2; omega) (by rcases (show b = 0 ∨ b = 1 by omega) with q | q <;> subst q <;> rfl) (by decide))).2
      obtain ⟨F, eF⟩ : ∃ F : Nat, σ1 239 (1 - b) = (F : Int) := ⟨(σ1 239 (1 - b)).toNat, by omega⟩
      have hF : F < 8 := by omega
      have W2 : gt_W (gs_wm (1 - b) F) (gp_up (gp_up σ1 236 32 ((1 - b : Nat) : Int)) 260 24 (-1)) := gm_re hb hf (by omega) hF (by omega) W1 eF
      have b2 : (gp_up σ1 236 32 ((1 - b : Nat) : Int)) 236 32 = ((1 - b : Nat) : Int) := gh_up_eq _ _ _ _
      have f2 : (gp_up σ1 236 32 ((1 - b : Nat) : Int)) 239 (1 - b) = (F : Int) := (gh_up_ne (fun q => absurd q.1 (by decide))).trans eF
      have t2 : (gp_up σ1 236 32 ((1 - b : Nat) : Int)) 236 62 = σ 236 62 := (gh_up_ne (by decide)).trans (F1 236 62 rfl)
      have X2 : gm_X f (gp_up σ1 236 32 ((1 - b : Nat) : Int)) := gm_Xe X1 (fun j => gh_up_ne (fun q => absurd q.1 (by decide))) (fun j => gh_up_ne (fun q => absurd q.1 (by decide))) (fun j => gh_up_ne (fun q => absurd q.1 (by decide))) (fun j => gh_up_ne (fun q => absurd q.1 (by decide))) (fun j => gh_up_ne (fun q => absurd q.1 (by decide))) (fun j => gh_up_ne (fun q => absurd q.1 (by decide))) (gh_up_ne (by decide)) (gh_up_ne (by decide))
      have lo2 : ∀ c j, c < 236 → (gp_up σ1 236 32 ((1 - b : Nat) : Int)) c j = σ c j := fun c j hc => (gh_up_ne (fun q => by have := q.1; omega)).trans (F1 c j (gb_low (by decide +kernel) c j hc))
      generalize (gp_up σ1 236 32 ((1 - b : Nat) : Int)) = σ2 at W2 b2 f2 t2 X2 lo2 ⊢
      refine gh_aload_n (show gh_at (gm_me 178).1 112 = some (112, 1, .aload_n 0, 0, 0, []) from rfl) rfl rfl ?_
      refine gh_callV (r := 1891) (as := []) (t := []) (show gh_at (gm_me 178).1 113 = some (113, 3, .invokevirtual 152, 67, 0, [(0, 1391)]) from rfl) (by decide) rfl (by show 1 = _; decide +kernel) (Nat.le_trans (gh_wd _) (Nat.le_of_ble_eq_true rfl)) rfl (by decide +kernel) (by decide +kernel) (gp_call_le (by show 7 ≤ 8; decide) (gz_anew (by omega) hF W2 b2 f2)) gh_mono (fun v σ3 hv => ?_)
      rw [show gm_rc 67 = 0 by decide +kernel]
      obtain ⟨W3, F3, s3, a3, u3, z3⟩ := hv
      show gp_ok _ _ _ _ _ _ _ [] σ3
      have b3 : σ3 236 32 = ((1 - b : Nat) : Int) := (F3 236 32 rfl).trans b2
      have f3 : σ3 239 (1 - b) = (F : Int) := (F3 239 _ rfl).trans f2
      refine gh_aload_n (show gh_at (gm_me 178).1 116 = some (116, 1, .aload_n 0, 0, 0, []) from rfl) rfl rfl ?_
      refine gh_get (show gh_at (gm_me 178).1 117 = some (117, 3, .getfield 20, 1, 11, [(0, 1452)]) from rfl) rfl (by decide +kernel) (by decide +kernel) (gh_rdr (r := 1915) (by decide +kernel) rfl) ?_
      refine gh_aload_n (show gh_at (gm_me 178).1 120 = some (120, 1, .aload_n 0, 0, 0, []) from rfl) rfl rfl ?_
      refine gh_get (show gh_at (gm_me 178).1 121 = some (121, 3, .getfield 263, 1, 32, [(0, 1473)]) from rfl) rfl (by decide +kernel) (by decide +kernel) (gh_rd0 (by decide +kernel)) ?_
      rw [show σ3 (1891 / 8) 32 = ((1 - b : Nat) : Int) from b3]
      refine gh_iald (show gh_at (gm_me 178).1 124 = some (124, 1, .iaload, 0, 0, []) from rfl) rfl (by decide +kernel) (by decide +kernel) (gh_ix (N := 2) (by decide +kernel) (by omega) (by omega)) (gh_rd0 (gh_pk0 (by decide +kernel) _)) ?_
      rw [show (((1 - b : Nat) : Int)).toNat = 1 - b by omega, show σ3 (1915 / 8) (1 - b) = (F : Int) from f3]
      refine gh_iret (show gh_at (gm_me 178).1 125 = some (125, 1, .ireturn, 0, 0, []) from rfl) ?_
      refine Or.inl ⟨rfl, 1 - b, F, by omega, W3, ⟨hF, gm_Xn X2 F3 a3 u3 z3, fun j hj => ?_, fun x y hx hy => ?_⟩, (F3 236 62 rfl).trans t2, fun c j hc => (F3 c j (gb_low (by decide +kernel) c j hc)).trans (lo2 c j hc), gh_any (by unfold gh_r; omega)⟩
      · rw [s3 j hj]; omega
      · rw [s3 x (by omega), s3 y hy]; omega
    · refine gh_if (show gh_at (gm_me 178).1 99 = some (99, 3, .ifCond .ne (5), 0, 104, []) from rfl) (fun q => absurd rfl q) (fun _ => ?_)
      refine gh_iconst (x := -1) (show gh_at (gm_me 178).1 102 = some (102, 1, .iconst (-1), 34359738360, 0, []) from rfl) (by decide) ?_
      refine gh_iret (show gh_at (gm_me 178).1 103 = some (103, 1, .ireturn, 0, 0, []) from rfl) ?_
      exact Or.inl ⟨rfl, b, f, hb, W1, ⟨hf, X1, gv_q_eq (fun j _ => F1 260 j rfl) hY.2.2⟩, F1 236 62 rfl, fun c j hc => F1 c j (gb_low (by decide +kernel) c j hc), gh_any (by unfold gh_r; omega)⟩
  have lbad : ∀ (σ1 : gp_S) (i : Int), gt_W (gs_wm b f) σ1 → gm_X f σ1 → gt_fr gs_nml σ σ1 → σ1 236 33 = ((1 - b : Nat) : Int) → ¬ σ1 236 4 = 0 → gp_ok gs_sh (gp_call gs_sh 8) 1 (gm_me 178).1 (fun v σ' => ∃ B F : Nat, B < 2 ∧ gt_W (gs_wm B F) σ' ∧ gm_Y F σ' ∧ σ' 236 62 = σ 236 62 ∧ (∀ c j, c < 236 → σ' c j = σ c j) ∧ gt_tv 34359738362 v) 74 [.inr 1891, .inl i] [] σ1 := by
    intro σ1 i W1 X1 F1 b1 hbad
    refine gh_aload_n (show gh_at (gm_me 178).1 74 = some (74, 1, .aload_n 0, 0, 0, []) from rfl) rfl rfl ?_
    refine gh_callV (r := 1891) (as := []) (t := []) (show gh_at (gm_me 178).1 75 = some (75, 3, .invokevirtual 233, 88, 0, [(0, 1678)]) from rfl) (by decide) rfl (by show 1 = _; decide +kernel) (Nat.le_trans (gh_wd _) (Nat.le_of_ble_eq_true rfl)) rfl (by decide +kernel) (by decide +kernel) (Ψ := fun v σ9 => σ9 = σ1 ∧ ((v = .inl 1 ∧ σ1 236 4 = 0) ∨ (v = .inl 0 ∧ ¬ σ1 236 4 = 0))) (gz_good (d := 7) (fun q => ⟨rfl, Or.inl ⟨rfl, q⟩⟩) (fun q => ⟨rfl, Or.inr ⟨rfl, q⟩⟩)) gh_mono (fun v σ9 hv => ?_)
    rw [show gm_rc 88 = 2 by decide +kernel]
    obtain ⟨e9, hv⟩ := hv
    rw [e9]
    rcases hv with ⟨rfl, hg⟩ | ⟨rfl, hg⟩
    · refine gh_if (show gh_at (gm_me 178).1 78 = some (78, 3, .ifCond .eq (17), 0, 95, []) from rfl) (fun q => absurd (show (1 : Int) = 0 from q) (by decide)) (fun _ => ?_)
      exact absurd hg hbad
    · refine gh_if (show gh_at (gm_me 178).1 78 = some (78, 3, .ifCond .eq (17), 0, 95, []) from rfl) (fun _ => ?_) (fun q => absurd rfl q)
      exact l95 σ1 i W1 X1 F1 b1
  have l74 : ∀ (M : Nat) (σ1 : gp_S) (i : Int), gn_rem σ1 ≤ M → gt_W (gs_wm b f) σ1 → gm_X f σ1 → gt_fr gs_nml σ σ1 → gm_Z (gn_rem σ1) σ1 → (∃ r, gr_E b r 0 (σ 255) σ1) → gp_ok gs_sh (gp_call gs_sh 8) 1 (gm_me 178).1 (fun v σ' => ∃ B F : Nat, B < 2 ∧ gt_W (gs_wm B F) σ' ∧ gm_Y F σ' ∧ σ' 236 62 = σ 236 62 ∧ (∀ c j, c < 236 → σ' c j = σ c j) ∧ gt_tv 34359738362 v) 74 [.inr 1891, .inl i] [] σ1 := by
    intro M
    induction M using Nat.strongRecOn with
    | ind M ih =>
      intro σ1 i hM W1 X1 F1 Z1 hE1
      obtain ⟨r1, E1⟩ := hE1
      refine gh_aload_n (show gh_at (gm_me 178).1 74 = some (74, 1, .aload_n 0, 0, 0, []) from rfl) rfl rfl ?_
      refine gh_callV (r := 1891) (as := []) (t := []) (show gh_at (gm_me 178).1 75 = some (75, 3, .invokevirtual 233, 88, 0, [(0, 1678)]) from rfl) (by decide) rfl (by show 1 = _; decide +kernel) (Nat.le_trans (gh_wd _) (Nat.le_of_ble_eq_true rfl)) rfl (by decide +kernel) (by decide +kernel) (Ψ := fun v σ9 => σ9 = σ1 ∧ ((v = .inl 1 ∧ σ1 236 4 = 0) ∨ (v = .inl 0 ∧ ¬ σ1 236 4 = 0))) (gz_good (d := 7) (fun q => ⟨rfl, Or.inl ⟨rfl, q⟩⟩) (fun q => ⟨rfl, Or.inr ⟨rfl, q⟩⟩)) gh_mono (fun v σ9 hv => ?_)
      rw [show gm_rc 88 = 2 by decide +kernel]
      obtain ⟨e9, hv⟩ := hv
      rw [e9]
      rcases hv with ⟨rfl, hg⟩ | ⟨rfl, hg⟩
      · refine gh_if (show gh_at (gm_me 178).1 78 = some (78, 3, .ifCond .eq (17), 0, 95, []) from rfl) (fun q => absurd (show (1 : Int) = 0 from q) (by decide)) (fun _ => ?_)
        refine gh_aload_n (show gh_at (gm_me 178).1 81 = some (81, 1, .aload_n 0, 0, 0, []) from rfl) rfl rfl ?_
        refine gh_get (show gh_at (gm_me 178).1 82 = some (82, 3, .getfield 205, 1, 8, [(0, 1449)]) from rfl) rfl (by decide +kernel) (by decide +kernel) (gh_rd0 (by decide +kernel)) ?_
        show gp_ok _ _ _ _ _ _ _ (.inl (σ1 236 8) :: _) _
        refine gh_if (show gh_at (gm_me 178).1 85 = some (85, 3, .ifCond .eq (10), 0, 95, []) from rfl) (fun _ => l95 σ1 i W1 X1 F1 E1.1) (fun _ => ?_)
        refine gh_aload_n (show gh_at (gm_me 178).1 88 = some (88, 1, .aload_n 0, 0, 0, []) from rfl) rfl rfl ?_
        refine gh_callV (r := 1891) (as := []) (t := []) (show gh_at (gm_me 178).1 89 = some (89, 3, .invokevirtual 266, 202, 0, [(0, 1682)]) from rfl) (by decide) rfl (by show 1 = _; decide +kernel) (Nat.le_trans (gh_wd _) (Nat.le_of_ble_eq_true rfl)) rfl (by decide +kernel) (by decide +kernel) (gz_line hb hf W1 X1 Z1 E1) gh_mono (fun v σ2 hv => ?_)
        rw [show gm_rc 202 = 0 by decide +kernel]
        obtain ⟨W2, X2, F2, Z2, E2, R2⟩ := hv
        show gp_ok _ _ _ _ _ _ _ [] σ2
        have G2 : gt_fr gs_nml σ σ2 := gh_ft F1 F2 (by decide +kernel)
        refine gh_goto (show gh_at (gm_me 178).1 92 = some (92, 3, .goto (-18), 0, 74, []) from rfl) ?_
        by_cases hg2 : σ2 236 4 = 0
        · have r2 := R2 hg2
          have r0 := gn_rem0 Z2
          exact ih (gn_rem σ2).toNat (by omega) σ2 i (by omega) W2 X2 G2 ⟨Z2.1, Z2.2.1, Int.le_refl _⟩ E2
        · obtain ⟨r2, E2⟩ := E2
          exact lbad σ2 i W2 X2 G2 E2.1 hg2
      · refine gh_if (show gh_at (gm_me 178).1 78 = some (78, 3, .ifCond .eq (17), 0, 95, []) from rfl) (fun _ => ?_) (fun q => absurd rfl q)
        exact l95 σ1 i W1 X1 F1 E1.1
  have l46 : ∀ (σ1 : gp_S) (i : Int), gt_W (gs_wm b f) σ1 → gt_fr gs_pre σ σ1 → gp_ok gs_sh (gp_call gs_sh 8) 1 (gm_me 178).1 (fun v σ' => ∃ B F : Nat, B < 2 ∧ gt_W (gs_wm B F) σ' ∧ gm_Y F σ' ∧ σ' 236 62 = σ 236 62 ∧ (∀ c j, c < 236 → σ' c j = σ c j) ∧ gt_tv 34359738362 v) 46 [.inr 1891, .inl i] [] σ1 := by
    intro σ1 i W1 F1
    have hb1 : σ1 236 32 = (b : Int) := (F1 236 32 rfl).trans hbk
    refine gh_aload_n (show gh_at (gm_me 178).1 46 = some (46, 1, .aload_n 0, 0, 0, []) from rfl) rfl rfl ?_
    refine gh_iconst (x := 0) (show gh_at (gm_me 178).1 47 = some (47, 1, .iconst 0, 0, 0, []) from rfl) (by decide) ?_
    refine gh_put (show gh_at (gm_me 178).1 48 = some (48, 3, .putfield 260, 1, 2, [(0, 1443)]) from rfl) rfl (by decide +kernel) (by decide +kernel) (by decide +kernel) (Or.inl rfl) ?_
    show gp_ok _ _ _ _ _ _ _ _ (gp_up σ1 236 2 0)
    have W_44 : gt_W (gs_wm b f) (gp_up σ1 236 2 0) := gh_Wu W1 (c := 236) (j := 2) (x := 0) (fun _ => show gt_tv 73786976312018088450 (.inl (0)) from gh_mk (by decide) (by unfold gh_r; omega) (by omega) (by omega))
    have F_44 : gt_fr gs_pre σ (gp_up σ1 236 2 0) := gh_fu F1 (by decide +kernel)
    have q_44_0 : (gp_up σ1 236 2 0) 236 32 = (b : Int) := (gh_up_ne (by decide)).trans hb1
    have q_44 : (gp_up σ1 236 2 0) 236 2 = 0 := gh_up_eq _ _ _ _
    generalize (gp_up σ1 236 2 0) = σ_44 at W_44 F_44 q_44_0 q_44 ⊢
    refine gh_aload_n (show gh_at (gm_me 178).1 51 = some (51, 1, .aload_n 0, 0, 0, []) from rfl) rfl rfl ?_
    refine gh_iconst (x := 0) (show gh_at (gm_me 178).1 52 = some (52, 1, .iconst 0, 0, 0, []) from rfl) (by decide) ?_
    refine gh_put (show gh_at (gm_me 178).1 53 = some (53, 3, .putfield 195, 1, 7, [(0, 1448)]) from rfl) rfl (by decide +kernel) (by decide +kernel) (by decide +kernel) (Or.inl rfl) ?_
    show gp_ok _ _ _ _ _ _ _ _ (gp_up σ_44 236 7 0)
    have W_45 : gt_W (gs_wm b f) (gp_up σ_44 236 7 0) := gh_Wu W_44 (c := 236) (j := 7) (x := 0) (fun _ => show gt_tv 73786976312018088458 (.inl (0)) from gh_mk (by decide) (by unfold gh_r; omega) (by omega) (by omega))
    have F_45 : gt_fr gs_pre σ (gp_up σ_44 236 7 0) := gh_fu F_44 (by decide +kernel)
    have q_45_0 : (gp_up σ_44 236 7 0) 236 32 = (b : Int) := (gh_up_ne (by decide)).trans q_44_0
    have q_45_1 : (gp_up σ_44 236 7 0) 236 2 = 0 := (gh_up_ne (by decide)).trans q_44
    have q_45 : (gp_up σ_44 236 7 0) 236 7 = 0 := gh_up_eq _ _ _ _
    generalize (gp_up σ_44 236 7 0) = σ_45 at W_45 F_45 q_45_0 q_45_1 q_45 ⊢
    refine gh_aload_n (show gh_at (gm_me 178).1 56 = some (56, 1, .aload_n 0, 0, 0, []) from rfl) rfl rfl ?_
    refine gh_iconst (x := 1) (show gh_at (gm_me 178).1 57 = some (57, 1, .iconst 1, 8, 0, []) from rfl) (by decide) ?_
    refine gh_aload_n (show gh_at (gm_me 178).1 58 = some (58, 1, .aload_n 0, 0, 0, []) from rfl) rfl rfl ?_
    refine gh_get (show gh_at (gm_me 178).1 59 = some (59, 3, .getfield 263, 1, 32, [(0, 1473)]) from rfl) rfl (by decide +kernel) (by decide +kernel) (gh_rd0 (by decide +kernel)) ?_
    rw [show σ_45 (1891 / 8) 32 = (b : Int) from q_45_0]
    refine gh_isub (z := ((1 - b : Nat) : Int)) (show gh_at (gm_me 178).1 62 = some (62, 1, .isub, 0, 0, []) from rfl) (by rw [gh_sub (by unfold gh_r; omega) (by unfold gh_r; omega) (by unfold gh_r; omega)]; omega) ?_
    refine gh_put (show gh_at (gm_me 178).1 63 = some (63, 3, .putfield 254, 1, 33, [(0, 1474)]) from rfl) rfl (by decide +kernel) (by decide +kernel) (by decide +kernel) (Or.inl rfl) ?_
    show gp_ok _ _ _ _ _ _ _ _ (gp_up σ_45 236 33 (((1 - b : Nat) : Int)))
    have W_46 : gt_W (gs_wm b f) (gp_up σ_45 236 33 (((1 - b : Nat) : Int))) := gh_Wu W_45 (c := 236) (j := 33) (x := (((1 - b : Nat) : Int))) (fun _ => show gt_tv 73786976312018075658 (.inl ((((1 - b : Nat) : Int)))) from gh_mk (by decide) (by unfold gh_r; omega) (by omega) (by omega))
    have F_46 : gt_fr gs_pre σ (gp_up σ_45 236 33 (((1 - b : Nat) : Int))) := gh_fu F_45 (by decide +kernel)
    have q_46_0 : (gp_up σ_45 236 33 (((1 - b : Nat) : Int))) 236 32 = (b : Int) := (gh_up_ne (by decide)).trans q_45_0
    have q_46_1 : (gp_up σ_45 236 33 (((1 - b : Nat) : Int))) 236 2 = 0 := (gh_up_ne (by decide)).trans q_45_1
    have q_46_2 : (gp_up σ_45 236 33 (((1 - b : Nat) : Int))) 236 7 = 0 := (gh_up_ne (by decide)).trans q_45
    have q_46 : (gp_up σ_45 236 33 (((1 - b : Nat) : Int))) 236 33 = (((1 - b : Nat) : Int)) := gh_up_eq _ _ _ _
    generalize (gp_up σ_45 236 33 (((1 - b : Nat) : Int))) = σ_46 at W_46 F_46 q_46_0 q_46_1 q_46_2 q_46 ⊢
    refine gh_aload_n (show gh_at (gm_me 178).1 66 = some (66, 1, .aload_n 0, 0, 0, []) from rfl) rfl rfl ?_
    refine gh_callV (r := 1891) (as := []) (t := []) (show gh_at (gm_me 178).1 67 = some (67, 3, .invokevirtual 149, 66, 0, [(0, 1387)]) from rfl) (by decide) rfl (by show 1 = _; decide +kernel) (Nat.le_trans (gh_wd _) (Nat.le_of_ble_eq_true rfl)) rfl (by decide +kernel) (by decide +kernel) (gz_clear (d := 7) hb W_46 q_46) gh_mono (fun v σ3 hv => ?_)
    rw [show gm_rc 66 = 0 by decide +kernel]
    obtain ⟨W3, F3, u3, c3⟩ := hv
    show gp_ok _ _ _ _ _ _ _ [] σ3
    have G3 : gt_fr gs_pre σ σ3 := gh_ft F_46 F3 (by decide +kernel)
    have b3 : σ3 236 33 = ((1 - b : Nat) : Int) := (F3 236 33 rfl).trans q_46
    have e3 : σ3 236 7 = 0 := (F3 236 7 rfl).trans q_46_2
    have z3 := gm_size W3
    refine gh_aload_n (show gh_at (gm_me 178).1 70 = some (70, 1, .aload_n 0, 0, 0, []) from rfl) rfl rfl ?_
    refine gh_callV (r := 1891) (as := []) (t := []) (show gh_at (gm_me 178).1 71 = some (71, 3, .invokevirtual 237, 179, 0, [(0, 1641)]) from rfl) (by decide) rfl (by show 1 = _; decide +kernel) (Nat.le_trans (gh_wd _) (Nat.le_of_ble_eq_true rfl)) rfl (by decide +kernel) (by decide +kernel) (gp_call_le (by show 3 ≤ 8; decide) (gz_goOn hb hf W3 (by omega))) gh_mono (fun v σ4 hv => ?_)
    rw [show gm_rc 179 = 0 by decide +kernel]
    obtain ⟨W4, F4, h4, h5⟩ := hv
    show gp_ok _ _ _ _ _ _ _ [] σ4
    have s4 : σ4 236 3 = σ3 236 3 := F4 236 3 rfl
    have Z4 : gm_Z (gn_rem σ4) σ4 := ⟨by omega, fun q => by omega, Int.le_refl _⟩
    have G4 : gt_fr gs_pre σ σ4 := gh_ft G3 F4 (by decide +kernel)
    have X1 := hX
    have E4 : gr_E b (560 * (1 - b)) 0 (σ 255) σ4 := ⟨(F4 236 33 rfl).trans b3, ((F4 236 34 rfl).trans c3).trans (by omega), fun i hi => absurd hi (by omega), fun j _ => G4 255 j rfl, Nat.le_refl _, by rw [F4 241 _ rfl, u3]; omega, by rw [F4 241 _ rfl, u3]; omega, by rw [F4 241 _ rfl, u3]; omega⟩
    exact l74 (gn_rem σ4).toNat σ4 i (by omega) W4 (gm_Xe X1 (fun j => G4 255 j rfl) (fun j => G4 252 j rfl) (fun j => G4 253 j rfl) (fun j => G4 264 j rfl) (fun j => G4 277 j rfl) (fun j => G4 278 j rfl) (G4 236 46 rfl) (G4 236 47 rfl)) (gh_ft gh_f0 G4 (by decide +kernel)) Z4 ⟨_, E4⟩
  have l20 : ∀ (m n : Nat) (σ1 : gp_S), σ 236 2 - n ≤ m → (n : Int) ≤ σ 236 2 → gt_W (gs_wm b f) σ1 → gt_fr gs_pre σ σ1 → σ1 236 3 = σ 236 2 → gp_ok gs_sh (gp_call gs_sh 8) 1 (gm_me 178).1 (fun v σ' => ∃ B F : Nat, B < 2 ∧ gt_W (gs_wm B F) σ' ∧ gm_Y F σ' ∧ σ' 236 62 = σ 236 62 ∧ (∀ c j, c < 236 → σ' c j = σ c j) ∧ gt_tv 34359738362 v) 20 [.inr 1891, .inl (n : Int)] [] σ1 := by
    intro m
    induction m with
    | zero =>
      intro n σ1 hm hn W1 F1 z1
      refine gh_iload_n (show gh_at (gm_me 178).1 20 = some (20, 1, .iload_n 1, 0, 0, []) from rfl) rfl ?_
      refine gh_aload_n (show gh_at (gm_me 178).1 21 = some (21, 1, .aload_n 0, 0, 0, []) from rfl) rfl rfl ?_
      refine gh_get (show gh_at (gm_me 178).1 22 = some (22, 3, .getfield 155, 1, 3, [(0, 1444)]) from rfl) rfl (by decide +kernel) (by decide +kernel) (gh_rd0 (by decide +kernel)) ?_
      rw [show σ1 (1891 / 8) 3 = σ 236 2 from z1]
      refine gh_icmp (show gh_at (gm_me 178).1 25 = some (25, 3, .if_icmp .ge (21), 0, 46, []) from rfl) (fun hc => ?_) (fun hc => ?_)
      · exact l46 σ1 (n : Int) W1 F1
      · have hc : ¬ σ 236 2 ≤ (n : Int) := hc
        omega
    | succ m ih =>
      intro n σ1 hm hn W1 F1 z1
      refine gh_iload_n (show gh_at (gm_me 178).1 20 = some (20, 1, .iload_n 1, 0, 0, []) from rfl) rfl ?_
      refine gh_aload_n (show gh_at (gm_me 178).1 21 = some (21, 1, .aload_n 0, 0, 0, []) from rfl) rfl rfl ?_
      refine gh_get (show gh_at (gm_me 178).1 22 = some (22, 3, .getfield 155, 1, 3, [(0, 1444)]) from rfl) rfl (by decide +kernel) (by decide +kernel) (gh_rd0 (by decide +kernel)) ?_
      rw [show σ1 (1891 / 8) 3 = σ 236 2 from z1]
      refine gh_icmp (show gh_at (gm_me 178).1 25 = some (25, 3, .if_icmp .ge (21), 0, 46, []) from rfl) (fun hc => ?_) (fun hc => ?_)
      · exact l46 σ1 (n : Int) W1 F1
      · have hc : ¬ σ 236 2 ≤ (n : Int) := hc
        refine gh_aload_n (show gh_at (gm_me 178).1 28 = some (28, 1, .aload_n 0, 0, 0, []) from rfl) rfl rfl ?_
        refine gh_get (show gh_at (gm_me 178).1 29 = some (29, 3, .getfield 13, 1, 1, [(0, 1442)]) from rfl) rfl (by decide +kernel) (by decide +kernel) (gh_rdr (r := 1907) (by decide +kernel) rfl) ?_
        refine gh_iload_n (show gh_at (gm_me 178).1 32 = some (32, 1, .iload_n 1, 0, 0, []) from rfl) rfl ?_
        refine gh_aload_n (show gh_at (gm_me 178).1 33 = some (33, 1, .aload_n 0, 0, 0, []) from rfl) rfl rfl ?_
        refine gh_get (show gh_at (gm_me 178).1 34 = some (34, 3, .getfield 7, 1, 0, [(0, 1441)]) from rfl) rfl (by decide +kernel) (by decide +kernel) (gh_rdr (r := 1899) (by decide +kernel) rfl) ?_
        refine gh_iload_n (show gh_at (gm_me 178).1 37 = some (37, 1, .iload_n 1, 0, 0, []) from rfl) rfl ?_
        refine gh_bald1 (show gh_at (gm_me 178).1 38 = some (38, 1, .baload, 101, 0, []) from rfl) rfl (by decide +kernel) (by decide +kernel) (gh_ix (N := 1620) (by decide +kernel) (by omega) (by omega)) (gh_rd0 (gh_pk0 (by decide +kernel) _)) ?_
        refine gh_bast1 (show gh_at (gm_me 178).1 39 = some (39, 1, .bastore, 101, 0, []) from rfl) rfl (by decide +kernel) (by decide +kernel) (gh_ix (N := 1600) (by decide +kernel) (by omega) (by omega)) (gh_pk0 (by decide +kernel) _) rfl ?_
        rw [show ((n : Int)).toNat = n by omega]
        show gp_ok _ _ _ _ _ _ _ [] (gp_up σ1 238 n (gp_b1 (fun x => x.toInt8.toInt32) (σ1 237 n)))
        have hby := gm_byte (x := σ1 237 n)
        have W2 : gt_W (gs_wm b f) (gp_up σ1 238 n (gp_b1 (fun x => x.toInt8.toInt32) (σ1 237 n))) := gh_Wu W1 (c := 238) (j := n) (x := gp_b1 (fun x => x.toInt8.toInt32) (σ1 237 n)) (fun _ => show gt_tv 73786971913971565562 (.inl (gp_b1 (fun x => x.toInt8.toInt32) (σ1 237 n))) from gh_mk (by decide) (by unfold gh_r; omega) (by omega) (by omega))
        have F2 : gt_fr gs_pre σ (gp_up σ1 238 n (gp_b1 (fun x => x.toInt8.toInt32) (σ1 237 n))) := gh_fu F1 (gb_mo_mem _ (by decide))
        have z2 : (gp_up σ1 238 n (gp_b1 (fun x => x.toInt8.toInt32) (σ1 237 n))) 236 3 = σ 236 2 := (gh_up_ne (fun q => absurd q.1 (by decide))).trans z1
        generalize (gp_up σ1 238 n (gp_b1 (fun x => x.toInt8.toInt32) (σ1 237 n))) = σ2 at W2 F2 z2 ⊢
        refine gh_iinc (show gh_at (gm_me 178).1 40 = some (40, 3, .iinc 1 (1), 8, 0, []) from rfl) rfl (fun c q => by cases q <;> decide) (y := ((n + 1 : Nat) : Int)) (by rw [gh_add (by unfold gh_r; omega) (by show gh_r 1; unfold gh_r; omega) (by show gh_r ((n : Int) + 1); unfold gh_r; omega)]; show (n : Int) + 1 = _; omega) rfl ?_
        refine gh_goto (show gh_at (gm_me 178).1 43 = some (43, 3, .goto (-23), 0, 20, []) from rfl) ?_
        exact ih (n + 1) σ2 (by omega) (by omega) W2 F2 z2
  have q2 : σ 236 2 = σ 236 2 := rfl
  refine gh_aload_n (show gh_at (gm_me 178).1 0 = some (0, 1, .aload_n 0, 0, 0, []) from rfl) rfl rfl ?_
  refine gh_iconst (x := 0) (show gh_at (gm_me 178).1 1 = some (1, 1, .iconst 0, 0, 0, []) from rfl) (by decide) ?_
  refine gh_put (show gh_at (gm_me 178).1 2 = some (2, 3, .putfield 158, 1, 4, [(0, 1445)]) from rfl) rfl (by decide +kernel) (by decide +kernel) (by decide +kernel) (Or.inl rfl) ?_
  show gp_ok _ _ _ _ _ _ _ _ (gp_up σ 236 4 0)
  have W_47 : gt_W (gs_wm b f) (gp_up σ 236 4 0) := gh_Wu hW (c := 236) (j := 4) (x := 0) (fun _ => gh_any (by unfold gh_r; omega))
  have F_47 : gt_fr gs_pre σ (gp_up σ 236 4 0) := gh_fu (gh_f0 (ml := gs_pre)) (by decide +kernel)
  have q_47_0 : (gp_up σ 236 4 0) 236 2 = σ 236 2 := (gh_up_ne (by decide)).trans (rfl : σ 236 2 = σ 236 2)
  have q_47 : (gp_up σ 236 4 0) 236 4 = 0 := gh_up_eq _ _ _ _
  generalize (gp_up σ 236 4 0) = σ_47 at W_47 F_47 q_47_0 q_47 ⊢
  refine gh_aload_n (show gh_at (gm_me 178).1 5 = some (5, 1, .aload_n 0, 0, 0, []) from rfl) rfl rfl ?_
  refine gh_iconst (x := -1) (show gh_at (gm_me 178).1 6 = some (6, 1, .iconst (-1), 34359738360, 0, []) from rfl) (by decide) ?_
  refine gh_put (show gh_at (gm_me 178).1 7 = some (7, 3, .putfield 16, 1, 5, [(0, 1446)]) from rfl) rfl (by decide +kernel) (by decide +kernel) (by decide +kernel) (Or.inl rfl) ?_
  show gp_ok _ _ _ _ _ _ _ _ (gp_up σ_47 236 5 (-1))
  have W_48 : gt_W (gs_wm b f) (gp_up σ_47 236 5 (-1)) := gh_Wu W_47 (c := 236) (j := 5) (x := (-1)) (fun _ => gh_any (by unfold gh_r; omega))
  have F_48 : gt_fr gs_pre σ (gp_up σ_47 236 5 (-1)) := gh_fu F_47 (by decide +kernel)
  have q_48_0 : (gp_up σ_47 236 5 (-1)) 236 2 = σ 236 2 := (gh_up_ne (by decide)).trans q_47_0
  have q_48_1 : (gp_up σ_47 236 5 (-1)) 236 4 = 0 := (gh_up_ne (by decide)).trans q_47
  have q_48 : (gp_up σ_47 236 5 (-1)) 236 5 = (-1) := gh_up_eq _ _ _ _
  generalize (gp_up σ_47 236 5 (-1)) = σ_48 at W_48 F_48 q_48_0 q_48_1 q_48 ⊢
  refine gh_aload_n (show gh_at (gm_me 178).1 10 = some (10, 1, .aload_n 0, 0, 0, []) from rfl) rfl rfl ?_
  refine gh_aload_n (show gh_at (gm_me 178).1 11 = some (11, 1, .aload_n 0, 0, 0, []) from rfl) rfl rfl ?_
  refine gh_get (show gh_at (gm_me 178).1 12 = some (12, 3, .getfield 260, 1, 2, [(0, 1443)]) from rfl) rfl (by decide +kernel) (by decide +kernel) (gh_rd0 (by decide +kernel)) ?_
  rw [show σ_48 (1891 / 8) 2 = σ 236 2 from q_48_0]
  refine gh_put (show gh_at (gm_me 178).1 15 = some (15, 3, .putfield 155, 1, 3, [(0, 1444)]) from rfl) rfl (by decide +kernel) (by decide +kernel) (by decide +kernel) (Or.inl rfl) ?_
  show gp_ok _ _ _ _ _ _ _ _ (gp_up σ_48 236 3 (σ 236 2))
  have W_49 : gt_W (gs_wm b f) (gp_up σ_48 236 3 (σ 236 2)) := gh_Wu W_48 (c := 236) (j := 3) (x := (σ 236 2)) (fun _ => show gt_tv 73786976312018088450 (.inl ((σ 236 2))) from gh_mk (by decide) (by unfold gh_r; omega) (by omega) (by omega))
  have F_49 : gt_fr gs_pre σ (gp_up σ_48 236 3 (σ 236 2)) := gh_fu F_48 (by decide +kernel)
  have q_49_0 : (gp_up σ_48 236 3 (σ 236 2)) 236 2 = σ 236 2 := (gh_up_ne (by decide)).trans q_48_0
  have q_49_1 : (gp_up σ_48 236 3 (σ 236 2)) 236 4 = 0 := (gh_up_ne (by decide)).trans q_48_1
  have q_49_2 : (gp_up σ_48 236 3 (σ 236 2)) 236 5 = (-1) := (gh_up_ne (by decide)).trans q_48
  have q_49 : (gp_up σ_48 236 3 (σ 236 2)) 236 3 = (σ 236 2) := gh_up_eq _ _ _ _
  generalize (gp_up σ_48 236 3 (σ 236 2)) = σ_49 at W_49 F_49 q_49_0 q_49_1 q_49_2 q_49 ⊢
  refine gh_iconst (x := 0) (show gh_at (gm_me 178).1 18 = some (18, 1, .iconst 0, 0, 0, []) from rfl) (by decide) ?_
  refine gh_istore_n (show gh_at (gm_me 178).1 19 = some (19, 1, .istore_n 1, 0, 0, []) from rfl) (fun c q => by cases q <;> decide) rfl ?_
  exact l20 (σ 236 2).toNat 0 σ_49 (by omega) (by omega) W_49 F_49 q_49
