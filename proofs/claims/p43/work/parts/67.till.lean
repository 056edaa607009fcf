/-! goMinute, goTillOver -/
theorem gm_Xu {f : Nat} {σ : gp_S} {c j : Nat} {x : Int} (hX : gm_X f σ) (h : gb_mo gm_xl c j = false) : gm_X f (gp_up σ c j x) :=
  gm_hx _ _ (fun c' j' q => gh_up_ne (fun e => by rw [e.1, e.2, h] at q; cases q)) hX
theorem gh_fu {ml : List (Nat × Nat)} {σ0 σ : gp_S} {c j : Nat} {x : Int} (hF : gt_fr ml σ0 σ) (h : gb_mo ml c j = true) : gt_fr ml σ0 (gp_up σ c j x) := fun c' j' q => (gh_up_ne (fun e => by rw [e.1, e.2, h] at q; cases q)).trans (hF c' j' q)
theorem gh_ft {ml ml' : List (Nat × Nat)} {σ0 σ σ' : gp_S} (hF : gt_fr ml σ0 σ) (hG : gt_fr ml' σ σ') (h : gb_sbm ml ml' = true) : gt_fr ml σ0 σ' := fun c j q => (hG c j (by
  cases hb : gb_mo ml' c j with
  | false => rfl
  | true => rw [gt_sbm_ok h c j hb] at q; cases q)).trans (hF c j q)
theorem gh_f0 {ml : List (Nat × Nat)} {σ : gp_S} : gt_fr ml σ σ := fun _ _ _ => rfl
def gs_gml : List (Nat × Nat) := [(260, 7), (260, 8), (260, 9), (260, 10), (260, 11), (260, 12), (260, 13), (260, 14), (260, 15), (260, 16), (260, 17), (260, 18), (260, 19), (260, 20), (260, 21), (260, 22), (260, 23), (260, 24), (260, 25), (260, 27), (260, 28), (259, 1048576)]

theorem gz_minute {b f : Nat} (hb : b < 2) (hf : f < 8) {a : Nat} (ha : a < f) {σ : gp_S} {z : Int} (hz : gt_tv 73786976312018075658 (.inl z)) (hW : gt_W (gs_wm b f) σ) (hX : gm_X f σ) (hat : σ 260 24 = (a : Int)) : gp_call gs_sh 7 227 [.inr 1891, .inl z] σ (fun x σ' => gt_W (gs_wm b f) σ' ∧ gm_X f σ' ∧ gt_fr gs_gml σ σ' ∧ gt_tv 73786976277658337330 x ∧ ((σ' 260 24 = (a : Int) ∧ σ' 260 25 = gp_b2 (fun x y => x - y) (σ 260 25) 1 ∧ ¬ σ' 260 25 = 0) ∨ σ' 260 24 = if a + 1 = f then -1 else ((a + 1 : Nat) : Int))) := by
  refine gh_call (al := [.inr 1891, .inl z, .inr 7]) (by decide +kernel) (by show 2 = _; decide +kernel) (by rw [show (gm_me 227).2.1 = 1 by decide +kernel]; rfl) (by show 3 = _; decide +kernel) ?_
  rw [show gm_rc 227 = 1 by decide +kernel]
  refine gh_aload_n (show gh_at (gm_me 227).1 0 = some (0, 1, .aload_n 0, 0, 0, []) from rfl) rfl rfl ?_
  refine gh_callV (r := 1891) (as := []) (t := []) (show gh_at (gm_me 227).1 1 = some (1, 3, .invokevirtual 404, 7, 0, [(0, 1845)]) from rfl) (by decide) rfl (by show 1 = _; decide +kernel) (Nat.le_trans (gh_wd _) (Nat.le_of_ble_eq_true rfl)) rfl (by decide +kernel) (by decide +kernel) (gp_call_le (by show 5 ≤ 6; decide) (cn_7 hb hf [.inr 1891] σ hW hX (fun p hp => by cases hp) ⟨Or.inr (Or.inl ⟨rfl, rfl⟩), trivial⟩)) gh_mono (fun v σ1 hv => ?_)
  obtain ⟨W1, X1, F1, -⟩ := hv
  rw [show gm_rc 7 = 0 by decide +kernel]
  show gp_ok _ _ _ _ _ _ _ [] _
  have e24 : σ1 260 24 = (a : Int) := (F1 260 24 rfl).trans hat
  have e25 : σ1 260 25 = σ 260 25 := F1 260 25 rfl
  have G1 : gt_fr gs_gml σ σ1 := gh_ft gh_f0 F1 (by show gb_sbm gs_gml [(259, 1048576), (260, 23)] = true; decide +kernel)
  refine gh_aload_n (show gh_at (gm_me 227).1 4 = some (4, 1, .aload_n 0, 0, 0, []) from rfl) rfl rfl ?_
  refine gh_get (show gh_at (gm_me 227).1 5 = some (5, 3, .getfield 85, 1, 38, [(0, 1479)]) from rfl) rfl (by decide +kernel) (by decide +kernel) (gh_rdr (r := 2083) (by decide +kernel) rfl) ?_
  refine gh_bipush (x := 25) (show gh_at (gm_me 227).1 8 = some (8, 2, .bipush (25), 200, 0, []) from rfl) (by decide) ?_
  refine gh_dup2 (show gh_at (gm_me 227).1 10 = some (10, 1, .dup2, 0, 0, []) from rfl) rfl rfl ?_
  refine gh_iald (show gh_at (gm_me 227).1 11 = some (11, 1, .iaload, 0, 0, []) from rfl) rfl (by decide +kernel) (by decide +kernel) (gh_ix (N := 29) (by decide +kernel) (by decide) (by decide)) (gh_rd0 (gh_pk0 (by decide +kernel) _)) ?_
  refine gh_iconst (x := 1) (show gh_at (gm_me 227).1 12 = some (12, 1, .iconst 1, 8, 0, []) from rfl) (by decide) ?_
  refine gh_isub (z := gp_b2 (fun x y => x - y) (σ1 260 25) 1) (show gh_at (gm_me 227).1 13 = some (13, 1, .isub, 0, 0, []) from rfl) (rfl) ?_
  refine gh_iast (show gh_at (gm_me 227).1 14 = some (14, 1, .iastore, 0, 0, []) from rfl) rfl (by decide +kernel) (by decide +kernel) (gh_ix (N := 29) (by decide +kernel) (by decide) (by decide)) (gh_pk0 (by decide +kernel) _) ?_
  show gp_ok _ _ _ _ _ _ _ [] (gp_up σ1 260 25 (gp_b2 (fun x y => x - y) (σ1 260 25) 1))
  have W2 := gh_Wu W1 (c := 260) (j := 25) (x := gp_b2 (fun x y => x - y) (σ1 260 25) 1) (fun _ => gh_any (gh_b2_r _ _ _))
  have X2 := gm_Xu X1 (c := 260) (j := 25) (x := gp_b2 (fun x y => x - y) (σ1 260 25) 1) rfl
  have G2 := gh_fu G1 (c := 260) (j := 25) (x := gp_b2 (fun x y => x - y) (σ1 260 25) 1) (by decide +kernel)
  have h24 : gp_up σ1 260 25 (gp_b2 (fun x y => x - y) (σ1 260 25) 1) 260 24 = (a : Int) := (gh_up_ne (by decide)).trans e24
  have h25 : gp_up σ1 260 25 (gp_b2 (fun x y => x - y) (σ1 260 25) 1) 260 25 = gp_b2 (fun x y => x - y) (σ 260 25) 1 := by rw [gh_up_eq, e25]
  generalize gp_up σ1 260 25 (gp_b2 (fun x y => x - y) (σ1 260 25) 1) = σ2 at W2 X2 G2 h24 h25 ⊢
  refine gh_aload_n (show gh_at (gm_me 227).1 15 = some (15, 1, .aload_n 0, 0, 0, []) from rfl) rfl rfl ?_
  refine gh_get (show gh_at (gm_me 227).1 16 = some (16, 3, .getfield 85, 1, 38, [(0, 1479)]) from rfl) rfl (by decide +kernel) (by decide +kernel) (gh_rdr (r := 2083) (by decide +kernel) rfl) ?_
  refine gh_bipush (x := 25) (show gh_at (gm_me 227).1 19 = some (19, 2, .bipush (25), 200, 0, []) from rfl) (by decide) ?_
  refine gh_iald (show gh_at (gm_me 227).1 21 = some (21, 1, .iaload, 0, 0, []) from rfl) rfl (by decide +kernel) (by decide +kernel) (gh_ix (N := 29) (by decide +kernel) (by decide) (by decide)) (gh_rd0 (gh_pk0 (by decide +kernel) _)) ?_
  refine gh_if (show gh_at (gm_me 227).1 22 = some (22, 3, .ifCond .ne (11), 0, 33, []) from rfl) (fun hc => ?_) (fun hc => ?_)
  · have hc : ¬ σ2 260 25 = 0 := hc
    refine gh_iconst (x := -1) (show gh_at (gm_me 227).1 33 = some (33, 1, .iconst (-1), 34359738360, 0, []) from rfl) (by decide) ?_
    refine gh_istore_n (show gh_at (gm_me 227).1 34 = some (34, 1, .istore_n 2, 0, 0, []) from rfl) (fun c q => by cases q <;> decide) rfl ?_
    refine gh_aload_n (show gh_at (gm_me 227).1 35 = some (35, 1, .aload_n 0, 0, 0, []) from rfl) rfl rfl ?_
    refine gh_get (show gh_at (gm_me 227).1 36 = some (36, 3, .getfield 85, 1, 38, [(0, 1479)]) from rfl) rfl (by decide +kernel) (by decide +kernel) (gh_rdr (r := 2083) (by decide +kernel) rfl) ?_
    refine gh_bipush (x := 27) (show gh_at (gm_me 227).1 39 = some (39, 2, .bipush (27), 216, 0, []) from rfl) (by decide) ?_
    refine gh_dup2 (show gh_at (gm_me 227).1 41 = some (41, 1, .dup2, 0, 0, []) from rfl) rfl rfl ?_
    refine gh_iald (show gh_at (gm_me 227).1 42 = some (42, 1, .iaload, 0, 0, []) from rfl) rfl (by decide +kernel) (by decide +kernel) (gh_ix (N := 29) (by decide +kernel) (by decide) (by decide)) (gh_rd0 (gh_pk0 (by decide +kernel) _)) ?_
    refine gh_iconst (x := 1) (show gh_at (gm_me 227).1 43 = some (43, 1, .iconst 1, 8, 0, []) from rfl) (by decide) ?_
    refine gh_iadd (z := gp_b2 (fun x y => x + y) (σ2 260 27) 1) (show gh_at (gm_me 227).1 44 = some (44, 1, .iadd, 0, 0, []) from rfl) (rfl) ?_
    refine gh_iast (show gh_at (gm_me 227).1 45 = some (45, 1, .iastore, 0, 0, []) from rfl) rfl (by decide +kernel) (by decide +kernel) (gh_ix (N := 29) (by decide +kernel) (by decide) (by decide)) (gh_pk0 (by decide +kernel) _) ?_
    show gp_ok _ _ _ _ _ _ _ [] (gp_up σ2 260 27 (gp_b2 (fun x y => x + y) (σ2 260 27) 1))
    refine gh_iload_n (show gh_at (gm_me 227).1 46 = some (46, 1, .iload_n 2, 0, 0, []) from rfl) rfl ?_
    refine gh_iret (show gh_at (gm_me 227).1 47 = some (47, 1, .ireturn, 0, 0, []) from rfl) ?_
    exact Or.inl ⟨rfl, gh_Wu W2 (fun _ => gh_any (gh_b2_r _ _ _)), gm_Xu X2 rfl, gh_fu G2 (by decide +kernel), gh_mk (by decide) (by unfold gh_r; omega) (by omega) (by omega), Or.inl ⟨(gh_up_ne (by decide)).trans h24, (gh_up_ne (by decide)).trans h25, fun q => hc ((gh_up_ne (by decide)).symm.trans q)⟩⟩
  · refine gh_aload_n (show gh_at (gm_me 227).1 25 = some (25, 1, .aload_n 0, 0, 0, []) from rfl) rfl rfl ?_
    refine gh_iload_n (show gh_at (gm_me 227).1 26 = some (26, 1, .iload_n 1, 0, 0, []) from rfl) rfl ?_
    refine gh_callV (r := 1891) (as := [.inl z]) (t := []) (show gh_at (gm_me 227).1 27 = some (27, 3, .invokevirtual 407, 226, 0, [(0, 1867)]) from rfl) (by decide) rfl (by show 2 = _; decide +kernel) (Nat.le_trans (gh_wd _) (Nat.le_of_ble_eq_true rfl)) rfl (by decide +kernel) (by decide +kernel) (gz_serve hb hf ha hz W2 X2 h24) gh_mono (fun v σ3 hv => ?_)
    obtain ⟨W3, X3, F3, hr, h3⟩ := hv
    rw [show gm_rc 226 = 1 by decide +kernel] at hr ⊢
    obtain ⟨g, rfl, hg, g1, g2⟩ := gh_tvi (by decide) (hr.resolve_left (by decide))
    show gp_ok _ _ _ _ _ _ _ [.inl g] _
    have G3 := gh_ft G2 F3 (by decide +kernel)
    refine gh_goto (show gh_at (gm_me 227).1 30 = some (30, 3, .goto (4), 0, 34, []) from rfl) ?_
    refine gh_istore_n (show gh_at (gm_me 227).1 34 = some (34, 1, .istore_n 2, 0, 0, []) from rfl) (fun c q => by cases q <;> decide) rfl ?_
    refine gh_aload_n (show gh_at (gm_me 227).1 35 = some (35, 1, .aload_n 0, 0, 0, []) from rfl) rfl rfl ?_
    refine gh_get (show gh_at (gm_me 227).1 36 = some (36, 3, .getfield 85, 1, 38, [(0, 1479)]) from rfl) rfl (by decide +kernel) (by decide +kernel) (gh_rdr (r := 2083) (by decide +kernel) rfl) ?_
    refine gh_bipush (x := 27) (show gh_at (gm_me 227).1 39 = some (39, 2, .bipush (27), 216, 0, []) from rfl) (by decide) ?_
    refine gh_dup2 (show gh_at (gm_me 227).1 41 = some (41, 1, .dup2, 0, 0, []) from rfl) rfl rfl ?_
    refine gh_iald (show gh_at (gm_me 227).1 42 = some (42, 1, .iaload, 0, 0, []) from rfl) rfl (by decide +kernel) (by decide +kernel) (gh_ix (N := 29) (by decide +kernel) (by decide) (by decide)) (gh_rd0 (gh_pk0 (by decide +kernel) _)) ?_
    refine gh_iconst (x := 1) (show gh_at (gm_me 227).1 43 = some (43, 1, .iconst 1, 8, 0, []) from rfl) (by decide) ?_
    refine gh_iadd (z := gp_b2 (fun x y => x + y) (σ3 260 27) 1) (show gh_at (gm_me 227).1 44 = some (44, 1, .iadd, 0, 0, []) from rfl) (rfl) ?_
    refine gh_iast (show gh_at (gm_me 227).1 45 = some (45, 1, .iastore, 0, 0, []) from rfl) rfl (by decide +kernel) (by decide +kernel) (gh_ix (N := 29) (by decide +kernel) (by decide) (by decide)) (gh_pk0 (by decide +kernel) _) ?_
    show gp_ok _ _ _ _ _ _ _ [] (gp_up σ3 260 27 (gp_b2 (fun x y => x + y) (σ3 260 27) 1))
    refine gh_iload_n (show gh_at (gm_me 227).1 46 = some (46, 1, .iload_n 2, 0, 0, []) from rfl) rfl ?_
    refine gh_iret (show gh_at (gm_me 227).1 47 = some (47, 1, .ireturn, 0, 0, []) from rfl) ?_
    exact Or.inl ⟨rfl, gh_Wu W3 (fun _ => gh_any (gh_b2_r _ _ _)), gm_Xu X3 rfl, gh_fu G3 (by decide +kernel), gh_mk (by decide) hg (by omega) (by omega), Or.inr ((gh_up_ne (by decide)).trans h3)⟩
