/-! loops of the typed machine -/
theorem gt_get_app {α : Type} {a b : List α} {i : Nat} : (a ++ b)[i]? = if i < a.length then a[i]? else b[i - a.length]? := by
  by_cases h : i < a.length
  · rw [if_pos h, List.getElem?_append_left h]
  · rw [if_neg h, List.getElem?_append_right (by omega)]
theorem gt_ah {K : List Nat → gb_C → Bool} : ∀ {hv : List (Nat × Nat × Nat)} {al : List Nat} {cs : gb_C}, gb_ah false hv al cs K = true → ∃ al' cs', K al' cs' = true ∧ cs' = cs ++ hv.map (fun q => (q.2.1, q.2.2, 0, 0)) ∧ al'.length = al.length ∧
    (∀ (ρ : List Int32) (pal : List gp_V), gb_in ρ cs → gt_lr ρ al pal → ∃ ys : List Int32, ys.length = hv.length ∧ gb_in (ρ ++ ys) cs' ∧ gt_lr (ρ ++ ys) al' pal) ∧
    (∀ (i v : Nat), al'[i]? = some v → al[i]? = some v ∨ ∃ (j : Nat) (r : Nat × Nat × Nat), hv[j]? = some r ∧ r.1 = i ∧ v = 8 * (cs.length + j) + 1)
  | [], al, cs, h => ⟨al, cs, h, by simp, rfl, fun ρ pal hi hl => ⟨[], rfl, by rw [List.append_nil]; exact hi, by rw [List.append_nil]; exact hl⟩, fun i v q => Or.inl q⟩
  | q :: hv, al, cs, h => by
    have h1 : ga_f (ga_nth 7 al q.1) (fun v => ga_if (and (and (ga_int v) (Nat.blt q.2.2 4294967296)) (and (Nat.ble q.2.1 (gb_lo cs v)) (Nat.ble (gb_hi cs v) q.2.2))) (gb_new cs q.2.1 q.2.2 0 0 (fun v cs => ga_set al q.1 v (fun al => gb_ah false hv al cs K))) false) = true := h
    rw [ga_f_eq] at h1
    obtain ⟨h2, h3⟩ := gt_if h1
    simp only [Bool.and_eq_true, Nat.blt_eq, Nat.ble_eq] at h2
    obtain ⟨⟨h21, h22⟩, h23, h24⟩ := h2
    rw [gb_new_eq, ga_set_eq] at h3
    obtain ⟨al', cs', k1, k2, k3, k4, k5⟩ := gt_ah h3
    have hlen : (cs ++ [(q.2.1, q.2.2, 0, 0)]).length = cs.length + 1 := by rw [List.length_append]; rfl
    refine ⟨al', cs', k1, by rw [k2, List.append_assoc]; rfl, by rw [k3, List.length_set], fun ρ pal hi hl => ?_, fun i v hv' => ?_⟩
    · have h7 := ga_int7 h21
      obtain ⟨x, g1, g2⟩ := hl.2.1 q.1 _ (ga_nth_some rfl h7) h7
      obtain ⟨y, rfl, hy⟩ := gt_int h21 g2
      obtain ⟨b1, b2⟩ := gb_lohi hi hy
      have hi' := gb_in_new (y := y) (lo := q.2.1) (hi := q.2.2) (b := 0) (off := 0) hi (by omega) (by omega) h22 (Or.inl rfl)
      have hv := gb_vr_new (oa := gt_o) (ad := []) (y := y) hi
      have hl' : gt_lr (ρ ++ [y]) (al.set q.1 (8 * cs.length + 1)) pal := by
        have := gt_lr_set (i := q.1) (gt_lr_app (zs := [y]) hl) (gt_of hv) (fun c z => by cases z)
        have e : pal.set q.1 (.inl y.toInt) = pal := ga_set_self g1
        rw [e] at this
        exact this
      obtain ⟨ys, a1, a2, a3⟩ := k4 _ pal hi' hl'
      exact ⟨y :: ys, by rw [List.length_cons, List.length_cons, a1], by rw [List.append_assoc] at a2; exact a2, by rw [List.append_assoc] at a3; exact a3⟩
    · rcases k5 i v hv' with a | ⟨j, r, a1, a2, a3⟩
      · rcases ga_getset a with ⟨rfl, rfl⟩ | ⟨-, a⟩
        · exact Or.inr ⟨0, q, rfl, rfl, rfl⟩
        · exact Or.inl a
      · rw [hlen] at a3
        exact Or.inr ⟨j + 1, r, a1, a2, by rw [a3]; omega⟩
theorem gt_adl {K : List Nat → Bool} : ∀ {ds : List Nat} {al : List Nat}, gb_adl false ds al K = true → ∃ al', K al' = true ∧ al'.length = al.length ∧ (∀ (ρ : List Int32) (pal : List gp_V), gt_lr ρ al pal → gt_lr ρ al' pal) ∧ (∀ (i v : Nat), al'[i]? = some v → v = 7 ∨ al[i]? = some v)
  | [], al, h => ⟨al, h, rfl, fun _ _ q => q, fun _ _ q => Or.inr q⟩
  | i :: ds, al, h => by
    have h1 : ga_if (Nat.beq (ga_nth 7 al i % 8) 5) false (ga_set al i 7 (fun al => gb_adl false ds al K)) = true := h
    rw [ga_if_eq] at h1
    split at h1
    · cases h1
    · rename_i h5
      rw [ga_set_eq] at h1
      obtain ⟨al', k1, k2, k3, k4⟩ := gt_adl h1
      have h5' : ¬ al[i]? = some 5 := by
        intro q
        apply h5
        rw [ga_nth_eq, List.getD_eq_getElem?_getD, q]
        rfl
      refine ⟨al', k1, by rw [k2, List.length_set], fun ρ pal hl => k3 ρ pal (gt_lr_dead hl h5'), fun j v hj => ?_⟩
      rcases k4 j v hj with q | q
      · exact Or.inl q
      · rcases ga_getset q with ⟨rfl, rfl⟩ | ⟨-, q⟩
        · exact Or.inl rfl
        · exact Or.inr q
theorem gt_ak {sh : Nat → gp_T} {wt : Nat → gb_T} (Hs : gt_H sh wt) {K : gb_C → gb_V → Bool} : ∀ {kh : List (Nat × Nat × Nat × Nat)} {cs : gb_C} {ov : gb_V}, gb_ak wt false kh cs ov K = true → ∃ cs' ov', K cs' ov' = true ∧ cs' = cs ++ kh.map (fun q => (q.2.2.1, q.2.2.2, 0, 0)) ∧
    (∀ (ρ : List Int32) (σ : gp_S), gb_in ρ cs → gt_W wt σ → gt_or sh ρ ov σ → ∃ ys : List Int32, ys.length = kh.length ∧ gb_in (ρ ++ ys) cs' ∧ gt_or sh (ρ ++ ys) ov' σ) ∧
    (∀ q ∈ ov', q ∈ ov ∨ ∃ (j : Nat) (r : Nat × Nat × Nat × Nat), kh[j]? = some r ∧ q = (r.1, r.2.1, 8 * (cs.length + j) + 1) ∧ gp_pk sh r.1 r.2.1 = 0)
  | [], cs, ov, h => ⟨cs, ov, h, by simp, fun ρ σ hi hW ho => ⟨[], rfl, by rw [List.append_nil]; exact hi, by rw [List.append_nil]; exact ho⟩, fun q hq => Or.inl hq⟩
  | q :: kh, cs, ov, h => by
    have h1 : ga_f (gb_ty (wt q.1) q.2.1) (fun t => ga_if (and (and (and (Nat.beq (t % 8) 2) (Nat.blt q.2.1 (wt q.1).2.1)) (and (Nat.blt q.2.2.2 4294967296) (not (Nat.beq (wt q.1).1 999)))) (and (Nat.ble q.2.2.1 (t / 8 / 4294967296)) (Nat.ble (t / 8 % 4294967296) q.2.2.2))) (gb_new cs q.2.2.1 q.2.2.2 0 0 (fun v cs => gb_od ov q.1 q.2.1 (fun ov => gb_ak wt false kh cs ((q.1, q.2.1, v) :: ov) K))) false) = true := h
    rw [ga_f_eq] at h1
    obtain ⟨h2, h3⟩ := gt_if h1
    simp only [Bool.and_eq_true, Nat.blt_eq, Nat.ble_eq, ga_beq, Bool.not_eq_true'] at h2
    obtain ⟨⟨⟨h21, h22⟩, h23, h24⟩, h25, h26⟩ := h2
    rw [gb_new_eq] at h3
    unfold gb_od at h3
    rw [gb_flt_eq] at h3
    obtain ⟨cs', ov', k1, k2, k4, k5⟩ := gt_ak Hs h3
    have hlen : (cs ++ [(q.2.2.1, q.2.2.2, 0, 0)]).length = cs.length + 1 := by rw [List.length_append]; rfl
    have h9 : ¬ (wt q.1).1 = 999 := fun z => by rw [z] at h24; cases h24
    have hpk : gp_pk sh q.1 q.2.1 = 0 := by
      rcases (Hs q.1 h9).2.2.2 q.2.1 h22 with z | z
      · exact z.2
      · omega
    refine ⟨cs', ov', k1, by rw [k2, List.append_assoc]; rfl, fun ρ σ hi hW ho => ?_, fun p hp => ?_⟩
    · obtain ⟨y, hy, hv⟩ := hW q.1 q.2.1 h9 h22 h21
      obtain ⟨y', e, y1, y2⟩ := (gb_vr_2 h21).mp hv
      cases e
      have hi' := gb_in_new (y := y) (lo := q.2.2.1) (hi := q.2.2.2) (b := 0) (off := 0) hi (by omega) (by omega) h23 (Or.inl rfl)
      have hvn := gb_vr_new (oa := gt_o) (ad := []) (y := y) hi
      have ho' : gt_or sh (ρ ++ [y]) ((q.1, q.2.1, 8 * cs.length + 1) :: ov.filter (fun p => not (and (Nat.beq p.1 q.1) (Nat.beq p.2.1 q.2.1)))) σ := by
        intro p hp
        rcases List.mem_cons.mp hp with rfl | hp
        · exact ⟨hpk, y, hy, hvn⟩
        · exact gt_or_app ho p (List.mem_filter.mp hp).1
      obtain ⟨ys, a1, a2, a3⟩ := k4 _ σ hi' hW ho'
      exact ⟨y :: ys, by rw [List.length_cons, List.length_cons, a1], by rw [List.append_assoc] at a2; exact a2, by rw [List.append_assoc] at a3; exact a3⟩
    · rcases k5 p hp with a | ⟨j, r, a1, a2, a3⟩
      · rcases List.mem_cons.mp a with rfl | a
        · exact Or.inr ⟨0, q, rfl, rfl, hpk⟩
        · exact Or.inl (List.mem_filter.mp a).1
      · rw [hlen] at a2
        exact Or.inr ⟨j + 1, r, a1, by rw [a2, show cs.length + 1 + j = cs.length + (j + 1) by omega], a3⟩
theorem gt_fan {an : List gb_N} {pc : Nat} {q : gb_N} (h : gb_fan an pc = some q) : q.1 = pc := by
  induction an with
  | nil => cases h
  | cons a r ih =>
    have h1 : ga_if (Nat.beq a.1 pc) (some a) (gb_fan r pc) = some q := h
    rw [ga_if_eq] at h1
    split at h1
    · rename_i e
      cases h1
      exact Nat.eq_of_beq_eq_true e
    · exact ih h1
theorem gt_fop {opn : List gb_L} {pc : Nat} {q : gb_L} (h : gb_fop opn pc = some q) : q ∈ opn ∧ q.1.1 = pc := by
  induction opn with
  | nil => cases h
  | cons a r ih =>
    have h1 : ga_if (Nat.beq a.1.1 pc) (some a) (gb_fop r pc) = some q := h
    rw [ga_if_eq] at h1
    split at h1
    · rename_i e
      cases h1
      exact ⟨List.mem_cons_self, Nat.eq_of_beq_eq_true e⟩
    · exact ⟨List.mem_cons_of_mem _ (ih h1).1, (ih h1).2⟩
theorem gt_bl {n : Nat} : ∀ {a b : List Nat}, gb_bl n a b = true → a.length = b.length ∧ ∀ (i v : Nat), a[i]? = some v → (v % 8 = 7 ∧ ¬ b[i]? = some 5) ∨ (v % 8 = 1 ∧ n ≤ v / 8) ∨ (¬ v % 8 = 2 ∧ b[i]? = some v)
  | [], [], _ => ⟨rfl, fun i v q => by cases q⟩
  | [], _ :: _, h => by cases h
  | v :: a, [], h => by cases h
  | v :: a, w :: b, h => by
    have h1 : ga_if (or (and (Nat.beq (v % 8) 7) (not (Nat.beq w 5))) (ga_if (Nat.beq (v % 8) 1) (or (Nat.ble n (v / 8)) (Nat.beq v w)) (and (not (Nat.beq (v % 8) 2)) (Nat.beq v w)))) (gb_bl n a b) false = true := h
    obtain ⟨h2, h3⟩ := gt_if h1
    obtain ⟨k1, k2⟩ := gt_bl h3
    refine ⟨by rw [List.length_cons, List.length_cons, k1], fun i u hu => ?_⟩
    cases i with
    | succ i => exact k2 i u hu
    | zero =>
      cases hu
      simp only [ga_if_eq, Bool.or_eq_true, Bool.and_eq_true, Bool.not_eq_true', ga_beq] at h2
      rcases h2 with h2 | h2
      · refine Or.inl ⟨h2.1, fun z => ?_⟩
        cases z
        exact absurd h2.2 (by decide)
      · split at h2
        · rename_i h11
          simp only [Bool.or_eq_true, Nat.ble_eq, ga_beq] at h2
          rcases h2 with h2 | rfl
          · exact Or.inr (Or.inl ⟨h11, h2⟩)
          · exact Or.inr (Or.inr ⟨by omega, rfl⟩)
        · simp only [Bool.and_eq_true, Bool.not_eq_true', ga_beq] at h2
          obtain ⟨h21, rfl⟩ := h2
          exact Or.inr (Or.inr ⟨fun z => (by rw [z] at h21; cases h21), rfl⟩)
theorem gt_bs {n : Nat} : ∀ {a b : List Nat}, gb_bs n a b = true → a = b ∧ ∀ v ∈ a, (v % 8 = 1 → v / 8 < n) ∧ ¬ v % 8 = 2
  | [], [], _ => ⟨rfl, fun v q => by cases q⟩
  | [], _ :: _, h => by cases h
  | v :: a, [], h => by cases h
  | v :: a, w :: b, h => by
    have h1 : ga_if (and (Nat.beq v w) (ga_if (Nat.beq (v % 8) 1) (Nat.blt (v / 8) n) (not (Nat.beq (v % 8) 2)))) (gb_bs n a b) false = true := h
    obtain ⟨h2, h3⟩ := gt_if h1
    obtain ⟨k1, k2⟩ := gt_bs h3
    simp only [Bool.and_eq_true, ga_beq, ga_if_eq] at h2
    obtain ⟨rfl, h2⟩ := h2
    refine ⟨by rw [k1], fun u hu => ?_⟩
    rcases List.mem_cons.mp hu with rfl | hu
    · split at h2
      · rename_i h11
        rw [Nat.blt_eq] at h2
        exact ⟨fun _ => h2, by omega⟩
      · rename_i h11
        rw [Bool.not_eq_true'] at h2
        exact ⟨fun q => absurd q h11, fun z => by rw [z] at h2; cases h2⟩
    · exact k2 u hu
theorem gt_bo {n : Nat} {ov : gb_V} : ∀ {a : gb_V}, gb_bo n ov a = true → ∀ q ∈ a, (q.2.2 % 8 = 1 ∧ n ≤ q.2.2 / 8) ∨ (¬ q.2.2 % 8 = 2 ∧ ¬ q.2.2 % 8 = 7 ∧ gb_ol ov q.1 q.2.1 = q.2.2)
  | [], _, q, hq => by cases hq
  | p :: a, h, q, hq => by
    have h1 : ga_if (ga_if (Nat.beq (p.2.2 % 8) 1) (or (Nat.ble n (p.2.2 / 8)) (Nat.beq (gb_ol ov p.1 p.2.1) p.2.2)) (and (and (not (Nat.beq (p.2.2 % 8) 2)) (not (Nat.beq (p.2.2 % 8) 7))) (Nat.beq (gb_ol ov p.1 p.2.1) p.2.2))) (gb_bo n ov a) false = true := h
    obtain ⟨h2, h3⟩ := gt_if h1
    rcases List.mem_cons.mp hq with rfl | hq
    · rw [ga_if_eq] at h2
      split at h2
      · rename_i h11
        rw [ga_beq] at h11
        simp only [Bool.or_eq_true, Nat.ble_eq, ga_beq] at h2
        rcases h2 with h2 | h2
        · exact Or.inl ⟨h11, h2⟩
        · exact Or.inr ⟨by omega, by omega, h2⟩
      · simp only [Bool.and_eq_true, Bool.not_eq_true', ga_beq] at h2
        exact Or.inr ⟨fun z => (by rw [z] at h2; cases h2.1.1), fun z => (by rw [z] at h2; cases h2.1.2), h2.2⟩
    · exact gt_bo h3 q hq
theorem gt_bc {cs cs0 : gb_C} : ∀ {ws : List Nat} {n : Nat}, gb_bc cs cs0 n ws = true → ∀ (j w : Nat), ws[j]? = some w → ga_int w = true ∧ (gb_ent cs0 (n + j)).1 ≤ gb_lo cs w ∧ gb_hi cs w ≤ (gb_ent cs0 (n + j)).2.1
  | [], _, _, j, w, q => by cases q
  | u :: ws, n, h, j, w, q => by
    have h1 : ga_if (and (ga_int u) (and (Nat.ble (gb_ent cs0 n).1 (gb_lo cs u)) (Nat.ble (gb_hi cs u) (gb_ent cs0 n).2.1))) (gb_bc cs cs0 (n + 1) ws) false = true := h
    obtain ⟨h2, h3⟩ := gt_if h1
    simp only [Bool.and_eq_true, Nat.ble_eq] at h2
    cases j with
    | zero => cases q; exact h2
    | succ j =>
      have := gt_bc h3 j w q
      rw [show n + (j + 1) = n + 1 + j by omega]
      exact this
theorem gt_prog {ρ : List Int32} {cs : gb_C} {w s dir : Nat} {y z : Int32} (hi : gb_in ρ cs) (hw : gb_vr ρ gt_o [] w (.int y)) (hz : ρ[s]? = some z) (h : gb_prog cs w s dir = true) : gt_far dir y z := by
  obtain ⟨a1, a2⟩ := gb_lohi hi hw
  obtain ⟨e1, e2, -, -⟩ := gb_ent_ok hi hz
  unfold gb_prog at h
  unfold gt_far
  rw [ga_if_eq] at h
  have base : ∀ q : w % 8 = 1 ∧ (gb_ent cs (w / 8)).2.2.1 = s + 1, ga_kk y + 4294967296 = ga_kk z + (gb_ent cs (w / 8)).2.2.2 := by
    intro q
    obtain ⟨u, hu, eu⟩ := (gb_vr_1 q.1).mp hw
    cases eu
    obtain ⟨-, -, g, -⟩ := gb_ent_ok hi hu
    rcases g with g | ⟨t, g1, g2⟩
    · omega
    · rw [q.2, Nat.add_sub_cancel, hz] at g1
      cases g1
      exact g2
  split at h
  · rename_i hd
    rw [ga_beq] at hd
    rw [if_pos hd]
    simp only [Bool.or_eq_true, Bool.and_eq_true, ga_beq, Nat.blt_eq] at h
    rcases h with ⟨h1, h2, h3⟩ | h
    · have := base ⟨h1, h2⟩
      omega
    · omega
  · rename_i hd
    rw [if_neg (fun q => hd (by rw [q]; rfl))]
    simp only [Bool.or_eq_true, Bool.and_eq_true, ga_beq, Nat.blt_eq] at h
    rcases h with ⟨h1, h2, h3⟩ | h
    · have := base ⟨h1, h2⟩
      omega
    · omega
