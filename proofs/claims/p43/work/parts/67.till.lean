/-! goMinute, goTillOver -/
theorem gm_Xu {f : Nat} {σ : gp_S} {c j : Nat} {x : Int} (hX : gm_X f σ) (h : gb_mo gm_xl c j = false) : gm_X f (gp_up σ c j x) :=
  gm_hx _ _ (fun c' j' q => gh_up_ne (fun e => by rw [e.1, e.2, h] at q; cases q)) hX
theorem gh_fu {ml : List (Nat × Nat)} {σ0 σ : gp_S} {c j : Nat} {x : Int} (hF : gt_fr ml σ0 σ) (h : gb_mo ml c j = true) : gt_fr ml σ0 (gp_up σ c j x) := fun c' j' q => (gh_up_ne (fun e => by rw [e.1, e.2, h] at q; cases q)).trans (hF c' j' q)
theorem gh_ft {ml ml' : List (Nat × Nat)} {σ0 σ σ' : gp_S} (hF : gt_fr ml σ0 σ) (hG : gt_fr ml' σ σ') (h : gb_sbm ml ml' = true) : gt_fr ml σ0 σ' := fun c j q => (hG c j (by
  cases hb : gb_mo ml' c j with
  | false => rfl
  | true => rw [gt_sbm_ok h c j hb] at q; cases q)).trans (hF c j q)
theorem gh_f0 {ml : List (Nat × Nat)} {σ : gp_S} : gt_fr ml σ σ := fun _ _ _ => rfl
def gs_gml : List (Nat × Nat) := [(260, 7), (260, 8), (260, 9), (260, 10), (260, 11), (260, 12), (260, 13), (260, 14), (260, 15), (260, 16), (260, 17), (260, 18), (260, 19), (260, 20), (260, 21), (260, 22), (260, 23), (260, 24), (260, 25), (260, 27), (260, 28), (259, 1048576)]

theorem gz_minute {b f : Nat} (hb : b < 2) (hf : f < 8) {a : Nat} (ha : a < f) {σ : gp_S} {z : Int} (hz : gt_tv 73786976312018075658 (.inl z)) (hW : gt_W (gs_wm b f) σ) (hX : gm_X f σ) (hat : σ 260 24 = (a : Int)) : gp_call gs_sh 7 227 [.inr 1891, .inl z] σ (fun x σ' => gt_W (gs_wm b f) σ' ∧ gm_X f σ' ∧ gt_fr gs_gml σ σ' ∧ gt_tv 73786976277658337330 x ∧ ((σ' 260 24 = (a : Int) ∧ σ' 260 25 = gp_b2 (fun x y => x - y) (σ 260 25) 1 ∧ ¬ σ' 260 25 = 0) ∨ σ' 260 24 = if a + 1 = f then -1 else ((a + 1 : Nat) : Int))) := by
  refine gh_call (al := [.inr 1891, .inl z, .inr 7]) (by decide +kernel) (by show 2 = _; decide +kernel) (by rw [show (gm_me 227).2.1 = 1 by decide +kernel]; rfl) (by show 3 = _; decide +kernel) ?_
  rw [show gm_rc 227 = 1 by decide +kernel]
  refine gh_aload_n (show gh_at (gm_me 227).1 0 = some (0, 1, .aload_n 0, 0, 0, []) from rfl) rfl rfl ?_
  refine gh_callV (r := 1891) (as := []) (t := []) (show gh_at (gm_me 227).1 1 = some (1, 3, .invokevirtual 404, 7, 0, [(0, 1845)]) from rfl) (by decide) rfl (by show 1 = _; decide +kernel) (Nat.le_trans (gh_wd _) (Nat.le_of_ble_eq_true rfl)) rfl (by decide +kernel) (by decide +kernel) (gp_call_le (by show 5 ≤ 6; decide) (cn_7 hb hf [.inr 1891] σ hW hX (fun p hp => by cases hp) ⟨Or.inr (Or.inl ⟨rfl, rfl⟩), trivial⟩)) gh_mono (fun v σ1 hv => ?_)
  obtain ⟨W1, X1, F1, -⟩ := hv
  rw [show gm_rc 7 = 0 by decide +kernel]
  show gp_ok _ _ _ _ _ _ _ [] _
  have e24 : σ1 260 24 = (a : Int) := (F1 260 24 rfl).trans hat
  have e25 : σ1 260 25 = σ 260 25 := F1 260 25 rfl
  have G1 : gt_fr gs_gml σ σ1 := gh_ft gh_f0 F1 (by show gb_sbm gs_gml [(259, 1048576), (260, 23)] = true; decide +kernel)
  refine gh_aload_n (show gh_at (gm_me 227).1 4 = some (4, 1, .aload_n 0, 0, 0, []) from rfl) rfl rfl ?_
  refine gh_get (show gh_at (gm_me 227).1 5 = some (5, 3, .getfield 85, 1, 38, [(0, 1479)]) from rfl) rfl (by decide +kernel) (by decide +kernel) (gh_rdr (r := 2083) (by decide +kernel) rfl) ?_
  refine gh_bipush (x := 25) (show gh_at (gm_me 227).1 8 = some (8, 2, .bipush (25), 200, 0, []) from rfl) (by decide) ?_
  refine gh_dup2 (show gh_at (gm_me 227).1 10 = some (10, 1, .dup2, 0, 0, []) from rfl) rfl rfl ?_
  refine gh_iald (show gh_at (gm_me 227).1 11 = some (11, 1, .iaload, 0, 0, []) from rfl) rfl (by decide +kernel) (by decide +kernel) (gh_ix (N := 29) (by decide +kernel) (by decide) (by decide)) (gh_rd0 (gh_pk0 (by decide +kernel) _)) ?_
  refine gh_iconst (x := 1) (show gh_at (gm_me 227).1 12 = some (12, 1, .iconst 1, 8, 0, []) from rfl) (by decide) ?_
  refine gh_isub (z := gp_b2 (fun x y => x - y) (σ1 260 25) 1) (show gh_at (gm_me 227).1 13 = some (13, 1, .isub, 0, 0, []) from rfl) (rfl) ?_
  refine gh_iast (show gh_at (gm_me 227).1 14 = some (14, 1, .iastore, 0, 0, []) from rfl) rfl (by decide +kernel) (by decide +kernel) (gh_ix (N := 29) (by decide +kernel) (by decide) (by decide)) (gh_pk0 (by decide +kernel) _) ?_
  show gp_ok _ _ _ _ _ _ _ [] (gp_up σ1 260 25 (gp_b2 (fun x y => x - y) (σ1 260 25) 1))
  have W2 := gh_Wu W1 (c := 260) (j := 25) (x := gp_b2 (fun x y => x - y) (σ1 260 25) 1) (fun _ => gh_any (gh_b2_r _ _ _))
  have X2 := gm_Xu X1 (c := 260) (j := 25) (x := gp_b2 (fun x y => x - y) (σ1 260 25) 1) rfl
  have G2 := gh_fu G1 (c := 260) (j := 25) (x := gp_b2 (fun x y => x - y) (σ1 260 25) 1) (by decide +kernel)
  have h24 : gp_up σ1 260 25 (gp_b2 (fun x y => x - y) (σ1 260 25) 1) 260 24 = (a : Int) := (gh_up_ne (by decide)).trans e24
  have h25 : gp_up σ1 260 25 (gp_b2 (fun x y => x - y) (σ1 260 25) 1) 260 25 = gp_b2 (fun x y => x - y) (σ 260 25) 1 := by rw [gh_up_eq, e25]
  generalize gp_up σ1 260 25 (gp_b2 (fun x y => x - y) (σ1 260 25) 1) = σ2 at W2 X2 G2 h24 h25 ⊢
  refine gh_aload_n (show gh_at (gm_me 227).1 15 = some (15, 1, .aload_n 0, 0, 0, []) from rfl) rfl rfl ?_
  refine gh_get (show gh_at (gm_me 227).1 16 = some (16, 3, .getfield 85, 1, 38, [(0, 1479)]) from rfl) rfl (by decide +kernel) (by decide +kernel) (gh_rdr (r := 2083) (by decide +kernel) rfl) ?_
  refine gh_bipush (x := 25) (show gh_at (gm_me 227).1 19 = some (19, 2, .bipush (25), 200, 0, []) from rfl) (by decide) ?_
  refine gh_iald (show gh_at (gm_me 227).1 21 = some (21, 1, .iaload, 0, 0, []) from rfl) rfl (by decide +kernel) (by decide +kernel) (gh_ix (N := 29) (by decide +kernel) (by decide) (by decide)) (gh_rd0 (gh_pk0 (by decide +kernel) _)) ?_
  refine gh_if (show gh_at (gm_me 227).1 22 = some (22, 3, .ifCond .ne (11), 0, 33, []) from rfl) (fun hc => ?_) (fun hc => ?_)
  · have hc : ¬ σ2 260 25 = 0 := hc
    refine gh_iconst (x := -1) (show gh_at (gm_me 227).1 33 = some (33, 1, .iconst (-1), 34359738360, 0, []) from rfl) (by decide) ?_
    refine gh_istore_n (show gh_at (gm_me 227).1 34 = some (34, 1, .istore_n 2, 0, 0, []) from rfl) (fun c q => by cases q <;> decide) rfl ?_
    refine gh_aload_n (show gh_at (gm_me 227).1 35 = some (35, 1, .aload_n 0, 0, 0, []) from rfl) rfl rfl ?_
    refine gh_get (show gh_at (gm_me 227).1 36 = some (36, 3, .getfield 85, 1, 38, [(0, 1479)]) from rfl) rfl (by decide +kernel) (by decide +kernel) (gh_rdr (r := 2083) (by decide +kernel) rfl) ?_
    refine gh_bipush (x := 27) (show gh_at (gm_me 227).1 39 = some (39, 2, .bipush (27), 216, 0, []) from rfl) (by decide) ?_
    refine gh_dup2 (show gh_at (gm_me 227).1 41 = some (41, 1, .dup2, 0, 0, []) from rfl) rfl rfl ?_
    refine gh_iald (show gh_at (gm_me 227).1 42 = some (42, 1, .iaload, 0, 0, []) from rfl) rfl (by decide +kernel) (by decide +kernel) (gh_ix (N := 29) (by decide +kernel) (by decide) (by decide)) (gh_rd0 (gh_pk0 (by decide +kernel) _)) ?_
    refine gh_iconst (x := 1) (show gh_at (gm_me 227).1 43 = some (43, 1, .iconst 1, 8, 0, []) from rfl) (by decide) ?_
    refine gh_iadd (z := gp_b2 (fun x y => x + y) (σ2 260 27) 1) (show gh_at (gm_me 227).1 44 = some (44, 1, .iadd, 0, 0, []) from rfl) (rfl) ?_
    refine gh_iast (show gh_at (gm_me 227).1 45 = some (45, 1, .iastore, 0, 0, []) from rfl) rfl (by decide +kernel) (by decide +kernel) (gh_ix (N := 29) (by decide +kernel) (by decide) (by decide)) (gh_pk0 (by decide +kernel) _) ?_
    show gp_ok _ _ _ _ _ _ _ [] (gp_up σ2 260 27 (gp_b2 (fun x y => x + y) (σ2 260 27) 1))
    refine gh_iload_n (show gh_at (gm_me 227).1 46 = some (46, 1, .iload_n 2, 0, 0, []) from rfl) rfl ?_
    refine gh_iret (show gh_at (gm_me 227).1 47 = some (47, 1, .ireturn, 0, 0, []) from rfl) ?_
    exact Or.inl ⟨rfl, gh_Wu W2 (fun _ => gh_any (gh_b2_r _ _ _)), gm_Xu X2 rfl, gh_fu G2 (by decide +kernel), gh_mk (by decide) (by unfold gh_r; omega) (by omega) (by omega), Or.inl ⟨(gh_up_ne (by decide)).trans h24, (gh_up_ne (by decide)).trans h25, fun q => hc ((gh_up_ne (by decide)).symm.trans q)⟩⟩
  · refine gh_aload_n (show gh_at (gm_me 227).1 25 = some (25, 1, .aload_n 0, 0, 0, []) from rfl) rfl rfl ?_
    refine gh_iload_n (show gh_at (gm_me 227).1 26 = some (26, 1, .iload_n 1, 0, 0, []) from rfl) rfl ?_
    refine gh_callV (r := 1891) (as := [.inl z]) (t := []) (show gh_at (gm_me 227).1 27 = some (27, 3, .invokevirtual 407, 226, 0, [(0, 1867)]) from rfl) (by decide) rfl (by show 2 = _; decide +kernel) (Nat.le_trans (gh_wd _) (Nat.le_of_ble_eq_true rfl)) rfl (by decide +kernel) (by decide +kernel) (gz_serve hb hf ha hz W2 X2 h24) gh_mono (fun v σ3 hv => ?_)
    obtain ⟨W3, X3, F3, hr, h3⟩ := hv
    rw [show gm_rc 226 = 1 by decide +kernel] at hr ⊢
    obtain ⟨g, rfl, hg, g1, g2⟩ := gh_tvi (by decide) (hr.resolve_left (by decide))
    show gp_ok _ _ _ _ _ _ _ [.inl g] _
    have G3 := gh_ft G2 F3 (by decide +kernel)
    refine gh_goto (show gh_at (gm_me 227).1 30 = some (30, 3, .goto (4), 0, 34, []) from rfl) ?_
    refine gh_istore_n (show gh_at (gm_me 227).1 34 = some (34, 1, .istore_n 2, 0, 0, []) from rfl) (fun c q => by cases q <;> decide) rfl ?_
    refine gh_aload_n (show gh_at (gm_me 227).1 35 = some (35, 1, .aload_n 0, 0, 0, []) from rfl) rfl rfl ?_
    refine gh_get (show gh_at (gm_me 227).1 36 = some (36, 3, .getfield 85, 1, 38, [(0, 1479)]) from rfl) rfl (by decide +kernel) (by decide +kernel) (gh_rdr (r := 2083) (by decide +kernel) rfl) ?_
    refine gh_bipush (x := 27) (show gh_at (gm_me 227).1 39 = some (39, 2, .bipush (27), 216, 0, []) from rfl) (by decide) ?_
    refine gh_dup2 (show gh_at (gm_me 227).1 41 = some (41, 1, .dup2, 0, 0, []) from rfl) rfl rfl ?_
    refine gh_iald (show gh_at (gm_me 227).1 42 = some (42, 1, .iaload, 0, 0, []) from rfl) rfl (by decide +kernel) (by decide +kernel) (gh_ix (N := 29) (by decide +kernel) (by decide) (by decide)) (gh_rd0 (gh_pk0 (by decide +kernel) _)) ?_
    refine gh_iconst (x := 1) (show gh_at (gm_me 227).1 43 = some (43, 1, .iconst 1, 8, 0, []) from rfl) (by decide) ?_
    refine gh_iadd (z := gp_b2 (fun x y => x + y) (σ3 260 27) 1) (show gh_at (gm_me 227).1 44 = some (44, 1, .iadd, 0, 0, []) from rfl) (rfl) ?_
    refine gh_iast (show gh_at (gm_me 227).1 45 = some (45, 1, .iastore, 0, 0, []) from rfl) rfl (by decide +kernel) (by decide +kernel) (gh_ix (N := 29) (by decide +kernel) (by decide) (by decide)) (gh_pk0 (by decide +kernel) _) ?_
    show gp_ok _ _ _ _ _ _ _ [] (gp_up σ3 260 27 (gp_b2 (fun x y => x + y) (σ3 260 27) 1))
    refine gh_iload_n (show gh_at (gm_me 227).1 46 = some (46, 1, .iload_n 2, 0, 0, []) from rfl) rfl ?_
    refine gh_iret (show gh_at (gm_me 227).1 47 = some (47, 1, .ireturn, 0, 0, []) from rfl) ?_
    exact Or.inl ⟨rfl, gh_Wu W3 (fun _ => gh_any (gh_b2_r _ _ _)), gm_Xu X3 rfl, gh_fu G3 (by decide +kernel), gh_mk (by decide) hg (by omega) (by omega), Or.inr ((gh_up_ne (by decide)).trans h3)⟩
theorem gz_over {d : Nat} {σ : gp_S} {Φ : gp_F} (h1 : σ 260 24 < 0 → Φ (.inl 1) σ) (h0 : 0 ≤ σ 260 24 → Φ (.inl 0) σ) : gp_call gs_sh (d + 1) 2 [.inr 1891] σ Φ := by
  refine gh_call (al := [.inr 1891]) (by decide +kernel) (by show 1 = _; decide +kernel) (by rw [show (gm_me 2).2.1 = 0 by decide +kernel]; rfl) (by show 1 = _; decide +kernel) ?_
  rw [show gm_rc 2 = 2 by decide +kernel]
  refine gh_aload_n (show gh_at (gm_me 2).1 0 = some (0, 1, .aload_n 0, 0, 0, []) from rfl) rfl rfl ?_
  refine gh_get (show gh_at (gm_me 2).1 1 = some (1, 3, .getfield 85, 1, 38, [(0, 1479)]) from rfl) rfl (by decide +kernel) (by decide +kernel) (gh_rdr (r := 2083) (by decide +kernel) rfl) ?_
  refine gh_bipush (x := 24) (show gh_at (gm_me 2).1 4 = some (4, 2, .bipush (24), 192, 0, []) from rfl) (by decide) ?_
  refine gh_iald (show gh_at (gm_me 2).1 6 = some (6, 1, .iaload, 0, 0, []) from rfl) rfl (by decide +kernel) (by decide +kernel) (gh_ix (N := 29) (by decide +kernel) (by decide) (by decide)) (gh_rd0 (gh_pk0 (by decide +kernel) _)) ?_
  refine gh_if (show gh_at (gm_me 2).1 7 = some (7, 3, .ifCond .ge (7), 0, 14, []) from rfl) (fun hc => ?_) (fun hc => ?_)
  · refine gh_iconst (x := 0) (show gh_at (gm_me 2).1 14 = some (14, 1, .iconst 0, 0, 0, []) from rfl) (by decide) ?_
    refine gh_iret (show gh_at (gm_me 2).1 15 = some (15, 1, .ireturn, 0, 0, []) from rfl) ?_
    exact Or.inr ⟨rfl, Or.inl rfl, h0 hc⟩
  · refine gh_iconst (x := 1) (show gh_at (gm_me 2).1 10 = some (10, 1, .iconst 1, 8, 0, []) from rfl) (by decide) ?_
    refine gh_goto (show gh_at (gm_me 2).1 11 = some (11, 3, .goto (4), 0, 15, []) from rfl) ?_
    refine gh_iret (show gh_at (gm_me 2).1 15 = some (15, 1, .ireturn, 0, 0, []) from rfl) ?_
    exact Or.inr ⟨rfl, Or.inr rfl, h1 (Int.not_le.mp hc)⟩
theorem gh_wait {w : Int} (hw : gh_r w) (h0 : ¬ gp_b2 (fun x y => x - y) w 1 = 0) : ((gp_b2 (fun x y => x - y) w 1 - 1) % 4294967296).toNat < ((w - 1) % 4294967296).toNat := by
  unfold gh_r at hw
  by_cases e : w = -2147483648
  · subst e
    have : gp_b2 (fun x y => x - y) (-2147483648) 1 = 2147483647 := by decide +kernel
    rw [this]
    decide
  · have : gp_b2 (fun x y => x - y) w 1 = w - 1 := gh_sub (by unfold gh_r; omega) (by unfold gh_r; omega) (by unfold gh_r; omega)
    rw [this] at h0 ⊢
    omega
def gs_tml : List (Nat × Nat) := gs_gml ++ [(262, 1048576)]

theorem gz_till {b f : Nat} (hb : b < 2) (hf : f < 8) {σ : gp_S} {z : Int} (hz : gt_tv 73786976312018075658 (.inl z)) (hW : gt_W (gs_wm b f) σ) (hX : gm_X f σ) : gp_call gs_sh 8 74 [.inr 1891, .inl z] σ (fun x σ' => gt_W (gs_wm b f) σ' ∧ gm_X f σ' ∧ gt_fr gs_tml σ σ' ∧ gt_tv 34359738362 x) := by
  refine gh_call (al := [.inr 1891, .inl z, .inr 7, .inr 7]) (by decide +kernel) (by show 2 = _; decide +kernel) (by rw [show (gm_me 74).2.1 = 2 by decide +kernel]; rfl) (by show 4 = _; decide +kernel) ?_
  rw [show gm_rc 74 = 1 by decide +kernel]
  have over : ∀ (σ1 : gp_S) (n : Int) (y : gp_V), gh_r n → gt_W (gs_wm b f) σ1 → gm_X f σ1 → gt_fr gs_tml σ σ1 → σ1 260 24 < 0 → (∀ c, y = .inr c → c = 7) → gp_ok gs_sh (gp_call gs_sh 7) 1 (gm_me 74).1 (fun x σ' => gt_W (gs_wm b f) σ' ∧ gm_X f σ' ∧ gt_fr gs_tml σ σ' ∧ gt_tv 34359738362 x) 23 [.inr 1891, .inl z, .inl n, y] [] σ1 := by
    intro σ1 n y hn W1 X1 F1 h24 hy
    refine gh_aload_n (show gh_at (gm_me 74).1 23 = some (23, 1, .aload_n 0, 0, 0, []) from rfl) rfl rfl ?_
    refine gh_callV (r := 1891) (as := []) (t := []) (show gh_at (gm_me 74).1 24 = some (24, 3, .invokevirtual 358, 2, 0, [(0, 1422)]) from rfl) (by decide) rfl (by show 1 = _; decide +kernel) (Nat.le_trans (gh_wd _) (Nat.le_of_ble_eq_true rfl)) rfl (by decide +kernel) (by decide +kernel) (Ψ := fun x σ2 => σ2 = σ1 ∧ x = .inl 1) (gz_over (d := 6) (fun q => ⟨rfl, rfl⟩) (fun q => absurd q (by omega))) gh_mono (fun v σ2 hv => ?_)
    obtain ⟨e2, rfl⟩ := hv
    rw [e2, show gm_rc 2 = 2 by decide +kernel]
    refine gh_if (show gh_at (gm_me 74).1 27 = some (27, 3, .ifCond .ne (26), 0, 53, []) from rfl) (fun _ => ?_) (fun q => absurd (show ¬ (1 : Int) = 0 by decide) q)
    refine gh_iload_n (show gh_at (gm_me 74).1 53 = some (53, 1, .iload_n 2, 0, 0, []) from rfl) rfl ?_
    refine gh_iret (show gh_at (gm_me 74).1 54 = some (54, 1, .ireturn, 0, 0, []) from rfl) ?_
    exact Or.inl ⟨rfl, W1, X1, F1, gh_any hn⟩
  have loop : ∀ (u m : Nat) (σ1 : gp_S) (n : Int) (y : gp_V) (a : Nat), f - a ≤ u → ((σ1 260 25 - 1) % 4294967296).toNat ≤ m → a < f → gh_r n → gt_W (gs_wm b f) σ1 → gm_X f σ1 → gt_fr gs_tml σ σ1 → σ1 260 24 = (a : Int) → (∀ c, y = .inr c → c = 7) → gp_ok gs_sh (gp_call gs_sh 7) 1 (gm_me 74).1 (fun x σ' => gt_W (gs_wm b f) σ' ∧ gm_X f σ' ∧ gt_fr gs_tml σ σ' ∧ gt_tv 34359738362 x) 23 [.inr 1891, .inl z, .inl n, y] [] σ1 := by
    intro u
    induction u with
    | zero => intro m σ1 n y a h1 h2 h3; omega
    | succ u ihu =>
      intro m
      induction m using Nat.strongRecOn with
      | ind m ihm =>
        intro σ1 n y a hu hm ha hn W1 X1 F1 h24 hy
        have hw := (gh_tv (gh_Wg W1 260 25 (t := 34359738362) (by show ¬ 100 = 999; decide) (by show 25 < 29; decide) rfl (by decide))).1
        refine gh_aload_n (show gh_at (gm_me 74).1 23 = some (23, 1, .aload_n 0, 0, 0, []) from rfl) rfl rfl ?_
        refine gh_callV (r := 1891) (as := []) (t := []) (show gh_at (gm_me 74).1 24 = some (24, 3, .invokevirtual 358, 2, 0, [(0, 1422)]) from rfl) (by decide) rfl (by show 1 = _; decide +kernel) (Nat.le_trans (gh_wd _) (Nat.le_of_ble_eq_true rfl)) rfl (by decide +kernel) (by decide +kernel) (Ψ := fun x σ2 => σ2 = σ1 ∧ x = .inl 0) (gz_over (d := 6) (fun q => absurd q (by omega)) (fun q => ⟨rfl, rfl⟩)) gh_mono (fun v σ2 hv => ?_)
        obtain ⟨e2, rfl⟩ := hv
        rw [e2, show gm_rc 2 = 2 by decide +kernel]
        refine gh_if (show gh_at (gm_me 74).1 27 = some (27, 3, .ifCond .ne (26), 0, 53, []) from rfl) (fun q => absurd rfl q) (fun _ => ?_)
        refine gh_aload_n (show gh_at (gm_me 74).1 30 = some (30, 1, .aload_n 0, 0, 0, []) from rfl) rfl rfl ?_
        refine gh_iload_n (show gh_at (gm_me 74).1 31 = some (31, 1, .iload_n 1, 0, 0, []) from rfl) rfl ?_
        refine gh_callV (r := 1891) (as := [.inl z]) (t := []) (show gh_at (gm_me 74).1 32 = some (32, 3, .invokevirtual 411, 227, 0, [(0, 1841)]) from rfl) (by decide) rfl (by show 2 = _; decide +kernel) (Nat.le_trans (gh_wd _) (Nat.le_of_ble_eq_true rfl)) rfl (by decide +kernel) (by decide +kernel) (gz_minute hb hf ha hz W1 X1 h24) gh_mono (fun v σ3 hv => ?_)
        obtain ⟨W3, X3, F3, hr, h3⟩ := hv
        rw [show gm_rc 227 = 1 by decide +kernel]
        obtain ⟨g, rfl, hg, g1, g2⟩ := gh_tvi (by decide) hr
        show gp_ok _ _ _ _ _ _ _ [.inl g] _
        have G3 : gt_fr gs_tml σ σ3 := gh_ft F1 F3 (by decide +kernel)
        have fin : ∀ (σ4 : gp_S), gt_W (gs_wm b f) σ4 → gm_X f σ4 → gt_fr gs_tml σ σ4 → σ4 260 24 = σ3 260 24 → σ4 260 25 = σ3 260 25 → gp_ok gs_sh (gp_call gs_sh 7) 1 (gm_me 74).1 (fun x σ' => gt_W (gs_wm b f) σ' ∧ gm_X f σ' ∧ gt_fr gs_tml σ σ' ∧ gt_tv 34359738362 x) 23 [.inr 1891, .inl z, .inl (gp_b2 (fun x y => x + y) n (gp_li 8)), .inl g] [] σ4 := by
          intro σ4 W4 X4 F4 j1 j2
          rcases h3 with ⟨i1, i2, i3⟩ | i1
          · rw [i2] at i3
            have := gh_wait hw i3
            exact ihm _ (Nat.lt_of_lt_of_le this hm) σ4 _ _ a hu (by rw [j2, i2]; exact Nat.le_refl _) ha (gh_b2_r _ _ _) W4 X4 F4 (j1.trans i1) (fun c q => by cases q)
          · by_cases e : a + 1 = f
            · rw [if_pos e] at i1
              exact over σ4 _ _ (gh_b2_r _ _ _) W4 X4 F4 (by omega) (fun c q => by cases q)
            · rw [if_neg e] at i1
              exact ihu _ σ4 _ _ (a + 1) (by omega) (Nat.le_refl _) (by omega) (gh_b2_r _ _ _) W4 X4 F4 (j1.trans i1) (fun c q => by cases q)
        refine gh_istore_n (show gh_at (gm_me 74).1 35 = some (35, 1, .istore_n 3, 0, 0, []) from rfl) (fun c q => by cases q <;> decide) rfl ?_
        refine gh_iinc (show gh_at (gm_me 74).1 36 = some (36, 3, .iinc 2 (1), 8, 0, []) from rfl) rfl (fun c q => by cases q <;> decide) (y := gp_b2 (fun x y => x + y) n (gp_li 8)) (rfl) rfl ?_
        refine gh_iload_n (show gh_at (gm_me 74).1 39 = some (39, 1, .iload_n 3, 0, 0, []) from rfl) rfl ?_
        refine gh_if (show gh_at (gm_me 74).1 40 = some (40, 3, .ifCond .lt (10), 0, 50, []) from rfl) (fun hc => ?_) (fun hc => ?_)
        · refine gh_goto (show gh_at (gm_me 74).1 50 = some (50, 3, .goto (-27), 0, 23, []) from rfl) ?_
          exact fin σ3 W3 X3 G3 rfl rfl
        · have hc : ¬ g < 0 := hc
          refine gh_aload_n (show gh_at (gm_me 74).1 43 = some (43, 1, .aload_n 0, 0, 0, []) from rfl) rfl rfl ?_
          refine gh_get (show gh_at (gm_me 74).1 44 = some (44, 3, .getfield 91, 1, 40, [(0, 1481)]) from rfl) rfl (by decide +kernel) (by decide +kernel) (gh_rdr (r := 2099) (by decide +kernel) rfl) ?_
          refine gh_iload_n (show gh_at (gm_me 74).1 47 = some (47, 1, .iload_n 3, 0, 0, []) from rfl) rfl ?_
          refine gh_iload_n (show gh_at (gm_me 74).1 48 = some (48, 1, .iload_n 2, 0, 0, []) from rfl) rfl ?_
          refine gh_iast (show gh_at (gm_me 74).1 49 = some (49, 1, .iastore, 0, 0, []) from rfl) rfl (by decide +kernel) (by decide +kernel) (gh_ix (N := 7) (by decide +kernel) (by omega) (by omega)) (gh_pk0 (by decide +kernel) _) ?_
          have W4 := gh_Wu W3 (c := 262) (j := g.toNat) (x := gp_b2 (fun x y => x + y) n (gp_li 8)) (fun _ => gh_any (gh_b2_r _ _ _))
          refine gh_goto (show gh_at (gm_me 74).1 50 = some (50, 3, .goto (-27), 0, 23, []) from rfl) ?_
          exact fin _ W4 (gm_Xu X3 rfl) (gh_fu G3 (gb_mo_mem _ (by decide))) (gh_up_ne (fun q => absurd q.1 (by decide))) (gh_up_ne (fun q => absurd q.1 (by decide)))
  have start : ∀ (m : Nat) (σ1 : gp_S) (g : Int), 7 - g ≤ m → 0 ≤ g → g ≤ 7 → gt_W (gs_wm b f) σ1 → gm_X f σ1 → gt_fr gs_tml σ σ1 → σ1 260 24 = σ 260 24 → gp_ok gs_sh (gp_call gs_sh 7) 1 (gm_me 74).1 (fun x σ' => gt_W (gs_wm b f) σ' ∧ gm_X f σ' ∧ gt_fr gs_tml σ σ' ∧ gt_tv 34359738362 x) 2 [.inr 1891, .inl z, .inl g, .inr 7] [] σ1 := by
    intro m
    induction m with
    | zero =>
      intro σ1 g hm h0 h7 W1 X1 F1 hA
      refine gh_iload_n (show gh_at (gm_me 74).1 2 = some (2, 1, .iload_n 2, 0, 0, []) from rfl) rfl ?_
      refine gh_bipush (x := 7) (show gh_at (gm_me 74).1 3 = some (3, 2, .bipush (7), 56, 0, []) from rfl) (by decide) ?_
      refine gh_icmp (show gh_at (gm_me 74).1 5 = some (5, 3, .if_icmp .ge (16), 0, 21, []) from rfl) (fun hc => ?_) (fun hc => ?_)
      · refine gh_iconst (x := 0) (show gh_at (gm_me 74).1 21 = some (21, 1, .iconst 0, 0, 0, []) from rfl) (by decide) ?_
        refine gh_istore_n (show gh_at (gm_me 74).1 22 = some (22, 1, .istore_n 2, 0, 0, []) from rfl) (fun c q => by cases q <;> decide) rfl ?_
        have ht := (gh_tv (gh_Wg W1 260 24 (t := 8 * (2147483647 * 4294967296 + (2147483647 + f)) + 2) (by show ¬ 100 = 999; decide) (by show 24 < 29; decide) rfl (by omega))).2
        by_cases e : σ1 260 24 < 0
        · exact over σ1 0 _ (by unfold gh_r; omega) W1 X1 F1 e (fun c q => by cases q; rfl)
        · exact loop _ _ σ1 0 _ (σ1 260 24).toNat (Nat.le_refl _) (Nat.le_refl _) (by omega) (by unfold gh_r; omega) W1 X1 F1 (by omega) (fun c q => by cases q; rfl)
      · have hc : ¬ 7 ≤ g := hc
        omega
    | succ m ih =>
      intro σ1 g hm h0 h7 W1 X1 F1 hA
      refine gh_iload_n (show gh_at (gm_me 74).1 2 = some (2, 1, .iload_n 2, 0, 0, []) from rfl) rfl ?_
      refine gh_bipush (x := 7) (show gh_at (gm_me 74).1 3 = some (3, 2, .bipush (7), 56, 0, []) from rfl) (by decide) ?_
      refine gh_icmp (show gh_at (gm_me 74).1 5 = some (5, 3, .if_icmp .ge (16), 0, 21, []) from rfl) (fun hc => ?_) (fun hc => ?_)
      · refine gh_iconst (x := 0) (show gh_at (gm_me 74).1 21 = some (21, 1, .iconst 0, 0, 0, []) from rfl) (by decide) ?_
        refine gh_istore_n (show gh_at (gm_me 74).1 22 = some (22, 1, .istore_n 2, 0, 0, []) from rfl) (fun c q => by cases q <;> decide) rfl ?_
        have ht := (gh_tv (gh_Wg W1 260 24 (t := 8 * (2147483647 * 4294967296 + (2147483647 + f)) + 2) (by show ¬ 100 = 999; decide) (by show 24 < 29; decide) rfl (by omega))).2
        by_cases e : σ1 260 24 < 0
        · exact over σ1 0 _ (by unfold gh_r; omega) W1 X1 F1 e (fun c q => by cases q; rfl)
        · exact loop _ _ σ1 0 _ (σ1 260 24).toNat (Nat.le_refl _) (Nat.le_refl _) (by omega) (by unfold gh_r; omega) W1 X1 F1 (by omega) (fun c q => by cases q; rfl)
      · have hc : ¬ 7 ≤ g := hc
        refine gh_aload_n (show gh_at (gm_me 74).1 8 = some (8, 1, .aload_n 0, 0, 0, []) from rfl) rfl rfl ?_
        refine gh_get (show gh_at (gm_me 74).1 9 = some (9, 3, .getfield 91, 1, 40, [(0, 1481)]) from rfl) rfl (by decide +kernel) (by decide +kernel) (gh_rdr (r := 2099) (by decide +kernel) rfl) ?_
        refine gh_iload_n (show gh_at (gm_me 74).1 12 = some (12, 1, .iload_n 2, 0, 0, []) from rfl) rfl ?_
        refine gh_iconst (x := 0) (show gh_at (gm_me 74).1 13 = some (13, 1, .iconst 0, 0, 0, []) from rfl) (by decide) ?_
        refine gh_iast (show gh_at (gm_me 74).1 14 = some (14, 1, .iastore, 0, 0, []) from rfl) rfl (by decide +kernel) (by decide +kernel) (gh_ix (N := 7) (by decide +kernel) (by omega) (by omega)) (gh_pk0 (by decide +kernel) _) ?_
        have W4 := gh_Wu W1 (c := 262) (j := g.toNat) (x := 0) (fun _ => gh_any (by unfold gh_r; omega))
        refine gh_iinc (show gh_at (gm_me 74).1 15 = some (15, 3, .iinc 2 (1), 8, 0, []) from rfl) rfl (fun c q => by cases q <;> decide) (y := g + 1) (gh_add (by unfold gh_r; omega) (by show gh_r 1; unfold gh_r; omega) (by show gh_r (g + 1); unfold gh_r; omega)) rfl ?_
        refine gh_goto (show gh_at (gm_me 74).1 18 = some (18, 3, .goto (-16), 0, 2, []) from rfl) ?_
        exact ih _ (g + 1) (by omega) (by omega) (by omega) W4 (gm_Xu X1 rfl) (gh_fu F1 (gb_mo_mem _ (by decide))) ((gh_up_ne (fun q => absurd q.1 (by decide))).trans hA)
  refine gh_iconst (x := 0) (show gh_at (gm_me 74).1 0 = some (0, 1, .iconst 0, 0, 0, []) from rfl) (by decide) ?_
  refine gh_istore_n (show gh_at (gm_me 74).1 1 = some (1, 1, .istore_n 2, 0, 0, []) from rfl) (fun c q => by cases q <;> decide) rfl ?_
  exact start 7 σ 0 (by omega) (by omega) (by omega) hW hX gh_f0 rfl
/-- goMinute -/
def cm_8 (f : Nat) : gt_K := (227, 7, [1891, 73786976312018075658], [(260, 24, gs_at f)], 73786976277658337330, [(260, 7), (260, 8), (260, 9), (260, 10), (260, 11), (260, 12), (260, 13), (260, 14), (260, 15), (260, 16), (260, 17), (260, 18), (260, 19), (260, 20), (260, 21), (260, 22), (260, 23), (260, 24), (260, 25), (260, 27), (260, 28), (259, 1048576)])
theorem cn_8 {b f : Nat} (hb : b < 2) (hf : f < 8) : gt_KC gs_sh (gs_wm b f) (gm_X f) (cm_8 f) := by
  intro pas σ hW hX hp har
  match pas, har with
  | [x, y], har =>
    rcases har.1 with ⟨q, -⟩ | ⟨-, rfl⟩ | ⟨q, -⟩
    · exact absurd q (by decide)
    · obtain ⟨z, rfl, -⟩ := gh_tvi (by decide) har.2.1
      obtain ⟨y, e, hy⟩ := hp (260, 24, gs_at f) (List.mem_singleton.mpr rfl)
      have e : y.toInt = σ 260 24 := e
      have ht := (gh_tv (gh_Wg hW 260 24 (t := 8 * (2147483647 * 4294967296 + (2147483647 + f)) + 2) (by show ¬ 100 = 999; decide) (by show 24 < 29; decide) rfl (by omega))).2
      have h2 : gs_at f % 8 = 2 := by unfold gs_at; omega
      have hq := (gh_tv (t := gs_at f) (z := σ 260 24) (Or.inl ⟨h2, y, by rw [e], hy⟩)).2
      unfold gs_at at hq
      refine gp_call_post (fun x σ' h => ⟨h.1, h.2.1, h.2.2.1, Or.inr h.2.2.2.1⟩) (gz_minute hb hf (a := (σ 260 24).toNat) (by omega) har.2.1 hW hX (by omega))
    · exact absurd q (by decide)

/-- goTillOver -/
def cm_9 (_ : Nat) : gt_K := (74, 8, [1891, 73786976312018075658], [], 34359738362, [(260, 7), (260, 8), (260, 9), (260, 10), (260, 11), (260, 12), (260, 13), (260, 14), (260, 15), (260, 16), (260, 17), (260, 18), (260, 19), (260, 20), (260, 21), (260, 22), (260, 23), (260, 24), (260, 25), (260, 27), (260, 28), (259, 1048576), (262, 1048576)])
theorem cn_9 {b f : Nat} (hb : b < 2) (hf : f < 8) : gt_KC gs_sh (gs_wm b f) (gm_X f) (cm_9 f) := by
  intro pas σ hW hX hp har
  match pas, har with
  | [x, y], har =>
    rcases har.1 with ⟨q, -⟩ | ⟨-, rfl⟩ | ⟨q, -⟩
    · exact absurd q (by decide)
    · obtain ⟨z, rfl, -⟩ := gh_tvi (by decide) har.2.1
      exact gp_call_post (fun x σ' h => ⟨h.1, h.2.1, h.2.2.1, Or.inr h.2.2.2⟩) (gz_till hb hf har.2.1 hW hX)
    · exact absurd q (by decide)

