/-! what the law keeps -/
theorem gs_wm_out {b f c : Nat} (h : ¬ (gs_wm b f c).1 = 999) : 236 ≤ c ∧ c < 279 := by
  rcases Nat.lt_or_ge c 236 with h1 | h1
  · exact absurd (by unfold gs_wm; rw [ga_if_eq, if_pos (by rw [Nat.blt_eq]; exact h1)]) h
  · rcases Nat.lt_or_ge c 279 with h2 | h2
    · exact ⟨h1, h2⟩
    · rcases Nat.lt_or_ge c 284 with h3 | h3
      · rcases (show c = 279 ∨ c = 280 ∨ c = 281 ∨ c = 282 ∨ c = 283 by omega) with e | e | e | e | e <;> subst e <;> exact absurd rfl h
      · refine absurd ?_ h
        unfold gs_wm
        rw [ga_if_eq, if_neg (by rw [Nat.blt_eq]; omega), ga_if_eq, if_neg (by rw [ga_beq]; omega), ga_if_eq, if_neg (by rw [ga_beq]; omega), ga_if_eq, if_neg (by rw [ga_beq]; omega), gs_out (by show 3 ≤ (c - 236) / 16; omega)]
theorem gs_wx_out {c : Nat} (h : ¬ (gs_wx c).1 = 999) : c < 236 := by
  rcases Nat.lt_or_ge c 236 with h1 | h1
  · exact h1
  · rcases Nat.lt_or_ge c 240 with h2 | h2
    · rcases (show c = 236 ∨ c = 237 ∨ c = 238 ∨ c = 239 by omega) with e | e | e | e <;> subst e <;> exact absurd rfl h
    · refine absurd ?_ h
      unfold gs_wx
      rw [gs_out (by show 15 ≤ c / 16; omega)]
theorem gx_in {c : Nat} (j : Nat) (h1 : 236 ≤ c) (h2 : c < 279) : gb_mo gx_xl c j = true := by
  have h := gs_all_ok (show gs_all (fun i => gb_mo gx_xl (236 + i) 1048577) 43 = true by decide +kernel) (c - 236) (by omega)
  rw [show 236 + (c - 236) = c by omega] at h
  obtain ⟨q, hq, e1, e2⟩ := gb_mo_c (by decide +kernel) h
  have h3 : ∀ q ∈ gx_xl, ¬ q.2 = 1048577 := by decide +kernel
  have e3 : q = (c, 1048576) := by
    rcases e2 with e2 | e2
    · exact absurd e2 (h3 q hq)
    · exact Prod.ext e1 e2
  exact gb_mo_mem j (by rw [← e3]; exact hq)
def gl_I (σ : gp_S) : Prop := gt_W gs_wx σ ∧ (∃ b f, b < 2 ∧ gt_W (gs_wm b f) σ ∧ gm_Y f σ) ∧ σ 216 9 = σ 236 62 ∧ 0 ≤ σ 236 62 ∧ σ 236 62 ≤ 100000
theorem gl_mod {b f : Nat} {σ σ' : gp_S} (hI : gl_I σ) (hb : b < 2) (hW : gt_W (gs_wm b f) σ') (hY : gm_Y f σ') (ht : σ' 236 62 = σ 236 62) (hlo : ∀ c j, c < 236 → σ' c j = σ c j) : gl_I σ' := by
  obtain ⟨i1, -, i3, i4, i5⟩ := hI
  refine ⟨fun c j h9 hj h2 => ?_, ⟨b, f, hb, hW, hY⟩, ?_, by rw [ht]; exact i4, by rw [ht]; exact i5⟩
  · rw [hlo c j (gs_wx_out h9)]; exact i1 c j h9 hj h2
  · rw [hlo 216 9 (by decide), ht]; exact i3
theorem gl_md2 {b f : Nat} {σ σ' : gp_S} (hW : gt_W (gs_wm b f) σ) (hY : gm_Y f σ) (h : ∀ c j, 236 ≤ c → c < 279 → σ' c j = σ c j) : gt_W (gs_wm b f) σ' ∧ gm_Y f σ' := by
  refine ⟨fun c j h9 hj h2 => ?_, gm_hy σ σ' (fun c j q => ?_) hY⟩
  · have := gs_wm_out h9
    rw [h c j this.1 this.2]; exact hW c j h9 hj h2
  · obtain ⟨r, hr, e, -⟩ := gb_mo_c (show ∀ q ∈ gm_yl, ¬ q.1 = 99999 by decide +kernel) q
    have := (show ∀ q ∈ gm_yl, 236 ≤ q.1 ∧ q.1 < 279 by decide +kernel) r hr
    exact h c j (by omega) (by omega)
theorem gl_cls {k d rt : Nat} {ts : List Nat} {ml : List (Nat × Nat)} {pas : List gp_V} {σ : gp_S} (hq : ∀ σr, gt_KC gs_sh gs_wx (gx_X σr) (k, d, ts, [], rt, ml)) (hrt : rt % 8 = 2) (hrc : ¬ gm_rc k = 0) (hd : d ≤ 100) (har : gt_ar ts pas) (hI : gl_I σ) : gp_call gs_sh 100 k pas σ (fun v σ' => gl_I σ' ∧ ∃ z : Int, v = .inl z) := by
  refine gp_call_le hd (gp_call_post (fun v σ' h => ?_) (hq σ pas σ hI.1 (fun _ _ _ => rfl) (fun p hp => by cases hp) har))
  obtain ⟨h1, h2, -, h4⟩ := h
  obtain ⟨z, rfl, -⟩ := gh_tvi hrt (h4.resolve_left hrc)
  obtain ⟨-, ⟨b, f, hb, hW, hY⟩, i3, i4, i5⟩ := hI
  have e : ∀ c j, 236 ≤ c → c < 279 → σ' c j = σ c j := fun c j q1 q2 => h2 c j (gx_in j q1 q2)
  obtain ⟨w1, w2⟩ := gl_md2 hW hY e
  have e1 : σ' 216 9 = σ 216 9 := h2 216 9 rfl
  have e2 : σ' 236 62 = σ 236 62 := e 236 62 (by decide) (by decide)
  exact ⟨⟨h1, ⟨b, f, hb, w1, w2⟩, by rw [e1, e2]; exact i3, by rw [e2]; exact i4, by rw [e2]; exact i5⟩, z, rfl⟩
def gl_ml (ml : List (Nat × Nat)) : Prop := (∀ q ∈ ml, ¬ q.1 = 99999 ∧ 236 ≤ q.1) ∧ gb_mo ml 236 62 = false
theorem gl_mF {b f d k rt : Nat} {ml : List (Nat × Nat)} {pas : List gp_V} {σ : gp_S} (hI : gl_I σ) (hb : b < 2) (hrt : rt % 8 = 2) (hml : gl_ml ml) (hd : d ≤ 100) (h : gp_call gs_sh d k pas σ (fun v σ' => gt_W (gs_wm b f) σ' ∧ gm_Y f σ' ∧ gt_fr ml σ σ' ∧ gt_tv rt v)) : gp_call gs_sh 100 k pas σ (fun v σ' => gl_I σ' ∧ ∃ z : Int, v = .inl z) := by
  refine gp_call_le hd (gp_call_post (fun v σ' q => ?_) h)
  obtain ⟨q1, q2, q3, q4⟩ := q
  obtain ⟨z, rfl, -⟩ := gh_tvi hrt q4
  exact ⟨gl_mod hI hb q1 q2 (q3 236 62 hml.2) (fun c j hc => q3 c j (gb_low hml.1 c j hc)), z, rfl⟩
theorem gl_mY {k d rt : Nat} {ts : List Nat} {ml : List (Nat × Nat)} {pas : List gp_V} {σ : gp_S} (hq : ∀ {b f : Nat}, b < 2 → f < 8 → gt_KC gs_sh (gs_wm b f) (gm_Y f) (k, d, ts, [], rt, ml)) (hrt : rt % 8 = 2) (hrc : ¬ gm_rc k = 0) (hd : d ≤ 100) (hml : gl_ml ml) (har : gt_ar ts pas) (hI : gl_I σ) : gp_call gs_sh 100 k pas σ (fun v σ' => gl_I σ' ∧ ∃ z : Int, v = .inl z) := by
  obtain ⟨-, ⟨b, f, hb, hW, hY⟩, -⟩ := id hI
  exact gl_mF hI hb hrt hml hd (gp_call_post (fun v σ' h => ⟨h.1, h.2.1, h.2.2.1, h.2.2.2.resolve_left hrc⟩) (hq hb hY.1 pas σ hW hY (fun p hp => by cases hp) har))
theorem gl_mX {k d rt : Nat} {ts : List Nat} {ml : List (Nat × Nat)} {pas : List gp_V} {σ : gp_S} (hq : ∀ {b f : Nat}, b < 2 → f < 8 → gt_KC gs_sh (gs_wm b f) (gm_X f) (k, d, ts, [], rt, ml)) (hs : gs_all (fun j => not (gb_mo ml 260 j)) 7 = true) (hrt : rt % 8 = 2) (hrc : ¬ gm_rc k = 0) (hd : d ≤ 100) (hml : gl_ml ml) (har : gt_ar ts pas) (hI : gl_I σ) : gp_call gs_sh 100 k pas σ (fun v σ' => gl_I σ' ∧ ∃ z : Int, v = .inl z) :=
  gl_mY (fun hb hf => gm_lift (hq hb hf) hs) hrt hrc hd hml har hI
theorem gl_mXf {b f d k rt : Nat} {ml : List (Nat × Nat)} {pas : List gp_V} {σ : gp_S} (hI : gl_I σ) (hb : b < 2) (hY : gm_Y f σ) (hs : gs_all (fun j => not (gb_mo ml 260 j)) 7 = true) (hrt : rt % 8 = 2) (hml : gl_ml ml) (hd : d ≤ 100) (h : gp_call gs_sh d k pas σ (fun v σ' => gt_W (gs_wm b f) σ' ∧ gm_X f σ' ∧ gt_fr ml σ σ' ∧ gt_tv rt v)) : gp_call gs_sh 100 k pas σ (fun v σ' => gl_I σ' ∧ ∃ z : Int, v = .inl z) :=
  gl_mF hI hb hrt hml hd (gp_call_post (fun v σ' q => ⟨q.1, ⟨hY.1, q.2.1, gv_q_eq (fun j hj => q.2.2.1 260 j (by
    have h1 := gs_all_ok hs j (by have := hY.1; omega)
    rw [Bool.not_eq_true'] at h1
    exact h1)) hY.2.2⟩, q.2.2⟩) h)
theorem gh_ldci {sh : Nat → gp_T} {call : gp_K} {rc : Nat} {code : List ga_E} {Φ : gp_F} {pc ln a b : Nat} {ps : List (Nat × Nat)} {al sk : List gp_V} {σ : gp_S} {k : Nat} {x : Int} (hc : gh_at code pc = some (pc, ln, .ldc k, a, b, ps)) (h8 : a % 8 = 0) (hx : gp_li a = x) (h : gp_ok sh call rc code Φ (pc + ln) al (.inl x :: sk) σ) : gp_ok sh call rc code Φ pc al sk σ := gh_step hc (Or.inl ⟨h8, by subst hx; exact h⟩)

theorem gz_goon {d : Nat} {σ : gp_S} {x : Int} {Φ : gp_F} (tt : 0 ≤ σ 216 9 ∧ σ 216 9 ≤ 100000) (h0 : ¬ (0 ≤ x ∧ x ≤ 1000 ∧ σ 216 9 + x ≤ 100000) → Φ (.inl (-1)) σ) (h1 : 0 ≤ x → x ≤ 1000 → σ 216 9 + x ≤ 100000 → Φ (.inl (σ 216 9 + x)) (gp_up σ 216 9 (σ 216 9 + x))) : gp_call gs_sh (d + 1) 109 [.inr 1731, .inl x] σ Φ := by
  refine gh_call (al := [.inr 1731, .inl x]) (by decide +kernel) (by show 2 = _; decide +kernel) (by rw [show (gm_me 109).2.1 = 0 by decide +kernel]; rfl) (by show 2 = _; decide +kernel) ?_
  rw [show gm_rc 109 = 1 by decide +kernel]
  refine gh_iload_n (show gh_at (gm_me 109).1 0 = some (0, 1, .iload_n 1, 0, 0, []) from rfl) rfl ?_
  refine gh_if (show gh_at (gm_me 109).1 1 = some (1, 3, .ifCond .lt (21), 0, 22, []) from rfl) (fun hc => ?_) (fun hc => ?_)
  · have hc : x < 0 := hc
    refine gh_iconst (x := -1) (show gh_at (gm_me 109).1 22 = some (22, 1, .iconst (-1), 34359738360, 0, []) from rfl) (by decide) ?_
    refine gh_iret (show gh_at (gm_me 109).1 23 = some (23, 1, .ireturn, 0, 0, []) from rfl) ?_
    exact Or.inl ⟨rfl, h0 (by omega)⟩
  · have hc : ¬ x < 0 := hc
    refine gh_iload_n (show gh_at (gm_me 109).1 4 = some (4, 1, .iload_n 1, 0, 0, []) from rfl) rfl ?_
    refine gh_sipush (x := 1000) (show gh_at (gm_me 109).1 5 = some (5, 3, .sipush (1000), 8000, 0, []) from rfl) (by decide) ?_
    refine gh_icmp (show gh_at (gm_me 109).1 8 = some (8, 3, .if_icmp .gt (14), 0, 22, []) from rfl) (fun hd => ?_) (fun hd => ?_)
    · have hd : 1000 < x := hd
      refine gh_iconst (x := -1) (show gh_at (gm_me 109).1 22 = some (22, 1, .iconst (-1), 34359738360, 0, []) from rfl) (by decide) ?_
      refine gh_iret (show gh_at (gm_me 109).1 23 = some (23, 1, .ireturn, 0, 0, []) from rfl) ?_
      exact Or.inl ⟨rfl, h0 (by omega)⟩
    · have hd : ¬ 1000 < x := hd
      refine gh_aload_n (show gh_at (gm_me 109).1 11 = some (11, 1, .aload_n 0, 0, 0, []) from rfl) rfl rfl ?_
      refine gh_get (show gh_at (gm_me 109).1 12 = some (12, 3, .getfield 57, 10, 9, [(0, 588)]) from rfl) rfl (by decide +kernel) (by decide +kernel) (gh_rd0 (by decide +kernel)) ?_
      show gp_ok _ _ _ _ _ _ _ (.inl (σ 216 9) :: _) _
      refine gh_iload_n (show gh_at (gm_me 109).1 15 = some (15, 1, .iload_n 1, 0, 0, []) from rfl) rfl ?_
      refine gh_iadd (z := σ 216 9 + x) (show gh_at (gm_me 109).1 16 = some (16, 1, .iadd, 0, 0, []) from rfl) (gh_add (by unfold gh_r; omega) (by unfold gh_r; omega) (by unfold gh_r; omega)) ?_
      refine gh_ldci (x := 100000) (show gh_at (gm_me 109).1 17 = some (17, 2, .ldc 60, 800000, 0, [(0, 1328)]) from rfl) (by decide) (by decide) ?_
      refine gh_icmp (show gh_at (gm_me 109).1 19 = some (19, 3, .if_icmp .le (5), 0, 24, []) from rfl) (fun he => ?_) (fun he => ?_)
      · have he : σ 216 9 + x ≤ 100000 := he
        refine gh_aload_n (show gh_at (gm_me 109).1 24 = some (24, 1, .aload_n 0, 0, 0, []) from rfl) rfl rfl ?_
        refine gh_dup (show gh_at (gm_me 109).1 25 = some (25, 1, .dup, 0, 0, []) from rfl) rfl ?_
        refine gh_get (show gh_at (gm_me 109).1 26 = some (26, 3, .getfield 57, 10, 9, [(0, 588)]) from rfl) rfl (by decide +kernel) (by decide +kernel) (gh_rd0 (by decide +kernel)) ?_
        show gp_ok _ _ _ _ _ _ _ (.inl (σ 216 9) :: _) _
        refine gh_iload_n (show gh_at (gm_me 109).1 29 = some (29, 1, .iload_n 1, 0, 0, []) from rfl) rfl ?_
        refine gh_iadd (z := σ 216 9 + x) (show gh_at (gm_me 109).1 30 = some (30, 1, .iadd, 0, 0, []) from rfl) (gh_add (by unfold gh_r; omega) (by unfold gh_r; omega) (by unfold gh_r; omega)) ?_
        refine gh_put (show gh_at (gm_me 109).1 31 = some (31, 3, .putfield 57, 10, 9, [(0, 588)]) from rfl) rfl (by decide +kernel) (by decide +kernel) (by decide +kernel) (Or.inl rfl) ?_
        show gp_ok _ _ _ _ _ _ _ [] (gp_up σ 216 9 (σ 216 9 + x))
        have e9 : (gp_up σ 216 9 (σ 216 9 + x)) 216 9 = σ 216 9 + x := gh_up_eq _ _ _ _
        refine gh_aload_n (show gh_at (gm_me 109).1 34 = some (34, 1, .aload_n 0, 0, 0, []) from rfl) rfl rfl ?_
        refine gh_get (show gh_at (gm_me 109).1 35 = some (35, 3, .getfield 57, 10, 9, [(0, 588)]) from rfl) rfl (by decide +kernel) (by decide +kernel) (gh_rd0 (by decide +kernel)) ?_
        rw [show (gp_up σ 216 9 (σ 216 9 + x)) (1731 / 8) 9 = σ 216 9 + x from e9]
        refine gh_iret (show gh_at (gm_me 109).1 38 = some (38, 1, .ireturn, 0, 0, []) from rfl) ?_
        exact Or.inl ⟨rfl, h1 (by omega) (by omega) he⟩
      · have he : ¬ σ 216 9 + x ≤ 100000 := he
        refine gh_iconst (x := -1) (show gh_at (gm_me 109).1 22 = some (22, 1, .iconst (-1), 34359738360, 0, []) from rfl) (by decide) ?_
        refine gh_iret (show gh_at (gm_me 109).1 23 = some (23, 1, .ireturn, 0, 0, []) from rfl) ?_
        exact Or.inl ⟨rfl, h0 (by omega)⟩
theorem gz_laterX {d : Nat} {σ : gp_S} {x : Int} {Φ : gp_F} (tt : 0 ≤ σ 216 9 ∧ σ 216 9 ≤ 100000) (h0 : ¬ (0 ≤ x ∧ x ≤ 1000 ∧ σ 216 9 + x ≤ 100000) → Φ (.inl (-1)) σ) (h1 : 0 ≤ x → x ≤ 1000 → σ 216 9 + x ≤ 100000 → Φ (.inl (σ 216 9 + x)) (gp_up σ 216 9 (σ 216 9 + x))) : gp_call gs_sh (d + 2) 108 [.inr 3, .inl x] σ Φ := by
  refine gh_call (al := [.inr 3, .inl x]) (by decide +kernel) (by show 2 = _; decide +kernel) (by rw [show (gm_me 108).2.1 = 0 by decide +kernel]; rfl) (by show 2 = _; decide +kernel) ?_
  rw [show gm_rc 108 = 1 by decide +kernel]
  refine gh_aload_n (show gh_at (gm_me 108).1 0 = some (0, 1, .aload_n 0, 0, 0, []) from rfl) rfl rfl ?_
  refine gh_get (show gh_at (gm_me 108).1 1 = some (1, 3, .getfield 90, 0, 16, [(0, 679)]) from rfl) rfl (by decide +kernel) (by decide +kernel) (gh_rdr (r := 1731) (by decide +kernel) rfl) ?_
  refine gh_iload_n (show gh_at (gm_me 108).1 4 = some (4, 1, .iload_n 1, 0, 0, []) from rfl) rfl ?_
  refine gh_callV (r := 1731) (as := [.inl x]) (t := []) (show gh_at (gm_me 108).1 5 = some (5, 3, .invokevirtual 320, 109, 0, [(0, 1324)]) from rfl) (by decide) rfl (by show 2 = _; decide +kernel) (Nat.le_trans (gh_wd _) (Nat.le_of_ble_eq_true rfl)) rfl (by decide +kernel) (by decide +kernel) (Ψ := fun v σ9 => (v = .inl (-1) ∧ σ9 = σ ∧ ¬ (0 ≤ x ∧ x ≤ 1000 ∧ σ 216 9 + x ≤ 100000)) ∨ (v = .inl (σ 216 9 + x) ∧ σ9 = gp_up σ 216 9 (σ 216 9 + x) ∧ 0 ≤ x ∧ x ≤ 1000 ∧ σ 216 9 + x ≤ 100000)) (gz_goon (d := d) tt (fun q => Or.inl ⟨rfl, rfl, q⟩) (fun q1 q2 q3 => Or.inr ⟨rfl, rfl, q1, q2, q3⟩)) gh_mono (fun v σ9 hv => ?_)
  rw [show gm_rc 109 = 1 by decide +kernel]
  rcases hv with ⟨rfl, rfl, hq⟩ | ⟨rfl, rfl, q1, q2, q3⟩
  · show gp_ok _ _ _ _ _ _ _ [.inl (-1)] _
    refine gh_iret (show gh_at (gm_me 108).1 8 = some (8, 1, .ireturn, 0, 0, []) from rfl) ?_
    exact Or.inl ⟨rfl, h0 hq⟩
  · show gp_ok _ _ _ _ _ _ _ [.inl (σ 216 9 + x)] _
    refine gh_iret (show gh_at (gm_me 108).1 8 = some (8, 1, .ireturn, 0, 0, []) from rfl) ?_
    exact Or.inl ⟨rfl, h1 q1 q2 q3⟩
