/-! arrays, copies, calls of the typed machine -/
section HD
variable {sh : Nat → gp_T} {wt : Nat → gb_T} {ml xl : List (Nat × Nat)} {X : gp_S → Prop} {σ0 : gp_S} {ρ0 : List Int32} {d rc : Nat} {code : List ga_E} {Φ : gp_F}
variable {go : gt_G} {opn : List gb_L} {nx : List ga_E} {al sk : List Nat} {cs : gb_C} {ov : gb_V} {zs : List Int32} {pal psk : List gp_V} {σ : gp_S} {z : Nat}
theorem gt_rdty {ρ : List Int32} (Hs : gt_H sh wt) (hW : gt_W wt σ) {c j : Nat} (h9 : ¬ (wt c).1 = 999) (hj : j < (wt c).2.1) : gt_vr ρ (gb_ty (wt c) j) (gp_rd sh σ c j) := by
  rcases (Hs c h9).2.2.2 j hj with ⟨h2, hpk⟩ | ⟨h3, hpk⟩
  · obtain ⟨y, hy, hv⟩ := hW c j h9 hj h2
    have hrd : gp_rd sh σ c j = .inl y.toInt := by unfold gp_rd; rw [hpk, ← hy]; rfl
    rw [hrd]
    exact gt_of (gb_vr_swap (n := 0) (fun q => by omega) (fun i hi => absurd hi (Nat.not_lt_zero i)) hv)
  · exact gt_rdl h3 hpk
theorem gt_ald_ok (Hs : gt_H sh wt) {kind : Nat} (S : gt_S sh wt ml X σ0 ρ0 d rc code Φ go) (hnx : ∀ e2 nx2, nx = e2 :: nx2 → e2.1 = z ∧ ga_jmp code e2.1 = e2 :: nx2) (hk : kind ≤ 104) (h : gt_ald wt kind sk cs ov (fun sk cs ov => go opn nx al sk cs ov) = true) (hop : ∀ L ∈ opn, gt_Lp sh wt ml X σ0 (gp_ok sh (gp_call sh d) rc code Φ) (ρ0 ++ zs) L) (hat : gt_At sh wt ml X σ0 (ρ0 ++ zs) al sk cs ov pal psk σ) : gp_ald sh kind (fun sk => gp_ok sh (gp_call sh d) rc code Φ z pal sk σ) psk σ := by
  obtain ⟨hi, hW, hX, ho, hfr, hl, hs⟩ := hat
  unfold gt_ald at h
  split at h
  · rename_i i r s
    obtain ⟨h1, h2⟩ := gt_if h
    rw [Bool.and_eq_true] at h1
    obtain ⟨vi, t1, rfl, g1, hs1⟩ := gt_sr_cons hs
    obtain ⟨vx, t2, rfl, g2, hs2⟩ := gt_sr_cons hs1
    obtain ⟨rfl, h3⟩ := gt_ref h1.1 g2
    obtain ⟨I, rfl, hI⟩ := gt_int h1.2 g1
    rcases hcell : wt (r / 8) with ⟨c, m, dd, vs, nm⟩
    rw [hcell] at h2
    simp only [ga_f_eq] at h2
    obtain ⟨h4, h5⟩ := gt_if h2
    simp only [Bool.and_eq_true, ga_beq, Nat.ble_eq, Nat.blt_eq] at h4
    obtain ⟨⟨rfl, hl0⟩, hlh, hhm, hmb⟩ := h4
    have e1' : (wt (r / 8)).1 = c := by rw [hcell]
    have e2' : (wt (r / 8)).2.1 = m := by rw [hcell]
    have h9 : ¬ (wt (r / 8)).1 = 999 := by omega
    obtain ⟨q1, q2, -, -⟩ := Hs _ h9
    obtain ⟨i1, i2, i3, i4⟩ := gt_idx hi hI hl0 hhm
    refine ⟨h3, by rw [q1, e1'], i1, by rw [q2, e2']; exact i2, by rw [q2, e2']; exact hmb, ?_⟩
    generalize hj : I.toInt.toNat = j at i2 i3 i4 ⊢
    have hjm : j < (wt (r / 8)).2.1 := by rw [e2']; exact i2
    have hty := gt_rdty (ρ := ρ0 ++ zs) Hs hW h9 hjm
    have hj2 : gb_lo cs i - 2147483648 + (j - (gb_lo cs i - 2147483648)) = j := by omega
    have hj3 : j - (gb_lo cs i - 2147483648) ≤ gb_hi cs i - gb_lo cs i := by omega
    rw [ga_if_eq] at h5
    split at h5
    · rename_i hlq
      rw [ga_beq] at hlq
      have ej : gb_lo cs i - 2147483648 = j := by omega
      rw [ej, ← hcell] at h5
      obtain ⟨ys, v', cs', ov', k1, k2, k3, k4⟩ := gt_pick Hs hW hi ho h9 hjm
      rw [k1] at h5
      obtain ⟨-, h6⟩ := gt_p_ok h5
      exact gt_k S hnx h6 ys hop ⟨k2, hW, hX, k3, hfr, gt_lr_app hl, k4, gt_sr_app hs2⟩
    · rw [ga_if_eq] at h5
      split at h5
      · have h6 := gt_ways_ok _ h5 hj3
        rw [hj2, ← hcell] at h6
        obtain ⟨-, h6⟩ := gt_p_ok h6
        exact gt_k0 S hnx h6 hop ⟨hi, hW, hX, ho, hfr, hl, hty, hs2⟩
      · split at h5
        · obtain ⟨-, h6⟩ := gt_p_ok h5
          have ed : gb_ty (wt (r / 8)) j = dd := by
            rw [hcell]
            unfold gb_ty
            rw [ga_nth_eq]
            rfl
          rw [ed] at hty
          exact gt_k0 S hnx h6 hop ⟨hi, hW, hX, ho, hfr, hl, hty, hs2⟩
        · rename_i v0 vs'
          obtain ⟨ht2, h6⟩ := gt_if h5
          have h2' := gt_t2_ok _ _ _ _ ht2 hj3
          rw [hj2] at h2'
          obtain ⟨j1, j2, -, -⟩ := gt_jl_ok (c, m, dd, v0 :: vs', nm) (gb_lo cs i - 2147483648) _ _ hj3
          rw [hj2] at j1 j2
          rw [hcell] at hty
          have hint : ga_int (gb_ty (c, m, dd, v0 :: vs', nm) j) = true := by
            unfold ga_int
            rw [Nat.ble_eq]
            omega
          obtain ⟨y, ey, hy⟩ := gt_int hint hty
          obtain ⟨y', e', y1, y2⟩ := (gb_vr_2 h2').mp hy
          cases e'
          rw [ey]
          exact gt_k0 S hnx h6 hop ⟨hi, hW, hX, ho, hfr, hl, ⟨y, rfl, gb_tv_ok (Nat.le_trans j1 y1) (Nat.le_trans y2 j2) (gt_jh_lt _ _ _)⟩, hs2⟩
  · cases h
/-- the world behind a store anywhere in a cell -/
theorem gt_W_cell {c : Nat} {σ' : gp_S} (hW : gt_W wt σ) (h1 : ∀ k, ¬ k = c → ∀ j, σ' k j = σ k j) (h2 : ∀ j, ¬ (wt c).1 = 999 → j < (wt c).2.1 → gb_ty (wt c) j % 8 = 2 → ∃ y : Int32, y.toInt = σ' c j ∧ gb_vr [] gt_o [] (gb_ty (wt c) j) (.int y)) : gt_W wt σ' := by
  intro k j h9 hj ht
  by_cases hk : k = c
  · subst hk; exact h2 j h9 hj ht
  · rw [h1 k hk]; exact hW k j h9 hj ht
theorem gt_ast_ok (Hs : gt_H sh wt) (HX : ∀ σ σ', (∀ c j, gb_mo xl c j = true → σ' c j = σ c j) → X σ → X σ') {kind v : Nat} {s : List Nat} {t : List gp_V} {z0 : Int} {y : Int32} {f : Int → Int} {ok : Int → Prop} (S : gt_S sh wt ml X σ0 ρ0 d rc code Φ go) (hnx : ∀ e2 nx2, nx = e2 :: nx2 → e2.1 = z ∧ ga_jmp code e2.1 = e2 :: nx2) (hk : kind = 100 ∨ kind = 101 ∨ kind = 104)
    (h : gt_ast wt ml xl kind (v :: s) cs ov (fun sk cs ov => go opn nx al sk cs ov) = true) (hop : ∀ L ∈ opn, gt_Lp sh wt ml X σ0 (gp_ok sh (gp_call sh d) rc code Φ) (ρ0 ++ zs) L)
    (hi : gb_in (ρ0 ++ zs) cs) (hW : gt_W wt σ) (hX : X σ) (ho : gt_or sh (ρ0 ++ zs) ov σ) (hfr : gt_fr ml σ0 σ) (hl : gt_lr (ρ0 ++ zs) al pal) (hs : gt_sr (ρ0 ++ zs) s t) (hv : gb_vr (ρ0 ++ zs) gt_o [] v (.int y)) (hf : f z0 = y.toInt) (hok : ok z0) : gp_ast sh kind f ok (fun sk σ => gp_ok sh (gp_call sh d) rc code Φ z pal sk σ) (.inl z0 :: t) σ := by
  unfold gt_ast at h
  split at h
  · rename_i v1 i r s1 heq
    obtain ⟨rfl, rfl⟩ := List.cons.inj heq
    obtain ⟨h1, h2⟩ := gt_if h
    simp only [Bool.and_eq_true] at h1
    obtain ⟨⟨h11, h12⟩, h13⟩ := h1
    obtain ⟨vi, t1, rfl, g1, hs1⟩ := gt_sr_cons hs
    obtain ⟨vx, t2, rfl, g2, hs2⟩ := gt_sr_cons hs1
    obtain ⟨rfl, h3⟩ := gt_ref h11 g2
    obtain ⟨I, rfl, hI⟩ := gt_int h12 g1
    rcases hcell : wt (r / 8) with ⟨c, m, dd, vs, nm⟩
    rw [hcell] at h2
    simp only [ga_f_eq] at h2
    obtain ⟨h4, h5⟩ := gt_if h2
    simp only [Bool.and_eq_true, ga_beq, Nat.ble_eq, Nat.blt_eq] at h4
    obtain ⟨⟨rfl, hl0⟩, hlh, hhm, hmb⟩ := h4
    have e1' : (wt (r / 8)).1 = c := by rw [hcell]
    have e2' : (wt (r / 8)).2.1 = m := by rw [hcell]
    have h9 : ¬ (wt (r / 8)).1 = 999 := by omega
    obtain ⟨q1, q2, -, q4⟩ := Hs _ h9
    obtain ⟨i1, i2, i3, i4⟩ := gt_idx hi hI hl0 hhm
    generalize hj : I.toInt.toNat = j at i2 i3 i4
    have hjm : j < (wt (r / 8)).2.1 := by rw [e2']; exact i2
    have hj2 : gb_lo cs i - 2147483648 + (j - (gb_lo cs i - 2147483648)) = j := by omega
    have hj3 : j - (gb_lo cs i - 2147483648) ≤ gb_hi cs i - gb_lo cs i := by omega
    have fin : gp_pk sh (r / 8) j = 0 → gp_ok sh (gp_call sh d) rc code Φ z pal t2 (gp_up σ (r / 8) j (f z0)) → gp_ast sh c f ok (fun sk σ => gp_ok sh (gp_call sh d) rc code Φ z pal sk σ) (.inl z0 :: .inl I.toInt :: .inr r :: t2) σ := by
      intro hpk hgo
      exact ⟨hok, h3, by rw [q1, e1'], i1, by rw [hj, q2, e2']; exact i2, by rw [q2, e2']; exact hmb, by rw [hj]; exact hpk, by rw [hj]; exact hgo⟩
    have hint : ga_int v = true := by
      unfold ga_int
      rw [Nat.ble_eq]
      by_cases q : v % 8 ≤ 2
      · exact q
      · exact (gt_nin q (gt_of hv)).elim
    rw [hf] at fin
    rw [ga_if_eq] at h5
    split at h5
    · rename_i hlq
      rw [ga_beq] at hlq
      have ej : gb_lo cs i - 2147483648 = j := by omega
      rw [ej] at h5
      obtain ⟨h6, h7⟩ := gt_if h5
      rw [Bool.and_eq_true] at h6
      obtain ⟨h61, h62⟩ := h6
      unfold gt_wr at h62
      rw [Bool.and_eq_true, Bool.not_eq_true'] at h62
      rw [← hcell] at h61
      rcases gt_fit hi h61 (gt_of hv) with ⟨k2, y', ey, k3⟩ | ⟨-, ⟨-, q⟩ | ⟨-, c9, q, -⟩⟩
      · have eyy : y = y' := Int32.toInt_inj.mp (by injection ey)
        subst eyy
        have hpk : gp_pk sh (r / 8) j = 0 := by
          rcases q4 j hjm with q | q
          · exact q.2
          · omega
        obtain ⟨ys, cs', ov', k5, k6, k7⟩ := gt_lay (c, m, dd, vs, nm) hi ho hv hpk
        rw [k5] at h7
        exact fin hpk (gt_k S hnx h7 ys hop ⟨k6, gt_W_up hW k3, gt_X_up HX hX h62.2, k7, gt_fr_up hfr h62.1, gt_lr_app hl, gt_sr_app hs2⟩)
      · cases q
      · cases q
    · obtain ⟨h6, h7⟩ := gt_if h5
      rw [Bool.and_eq_true] at h6
      obtain ⟨h61, h62⟩ := h6
      obtain ⟨w1, w2⟩ := gt_wc_ok h61
      unfold gb_oc at h7
      rw [gb_flt_eq] at h7
      have hty : gb_ty (wt (r / 8)) j % 8 = 2 ∧ gb_vr [] gt_o [] (gb_ty (wt (r / 8)) j) (.int y) := by
        split at h62
        · have ed : gb_ty (wt (r / 8)) j = dd := by
            rw [hcell]
            unfold gb_ty
            rw [ga_nth_eq]
            rfl
          rw [ed]
          rcases gt_fit hi h62 (gt_of hv) with ⟨k2, y', ey, k3⟩ | ⟨-, ⟨-, q⟩ | ⟨-, c9, q, -⟩⟩
          · have eyy : y = y' := Int32.toInt_inj.mp (by injection ey)
            subst eyy
            exact ⟨k2, k3⟩
          · cases q
          · cases q
        · rename_i v2 vs'
          simp only [Bool.and_eq_true, Nat.ble_eq] at h62
          have h2' := gt_t2_ok _ _ _ _ h62.1.2 hj3
          rw [hj2] at h2'
          obtain ⟨-, -, j1, j2⟩ := gt_jl_ok (c, m, dd, v2 :: vs', nm) (gb_lo cs i - 2147483648) _ _ hj3
          rw [hj2] at j1 j2
          obtain ⟨c1, c2⟩ := gb_lohi hi hv
          rw [hcell]
          exact ⟨h2', (gb_vr_2 h2').mpr ⟨y, rfl, Nat.le_trans j1 (Nat.le_trans h62.2.1 c1), Nat.le_trans c2 (Nat.le_trans h62.2.2 j2)⟩⟩
      have hpk : gp_pk sh (r / 8) j = 0 := by
        rcases q4 j hjm with q | q
        · exact q.2
        · omega
      exact fin hpk (gt_k0 S hnx h7 hop ⟨hi, gt_W_up hW hty.2, gt_X_up HX hX (w2 j), gt_or_up ho (fun q hq => gt_oc_mem hq), gt_fr_up hfr (w1 j), hl, hs2⟩)
  · cases h
theorem gt_asl_ok (Hs : gt_H sh wt) (HX : ∀ σ σ', (∀ c j, gb_mo xl c j = true → σ' c j = σ c j) → X σ → X σ') (S : gt_S sh wt ml X σ0 ρ0 d rc code Φ go) (hnx : ∀ e2 nx2, nx = e2 :: nx2 → e2.1 = z ∧ ga_jmp code e2.1 = e2 :: nx2) (h : gt_ast wt ml xl 102 sk cs ov (fun sk cs ov => go opn nx al sk cs ov) = true) (hop : ∀ L ∈ opn, gt_Lp sh wt ml X σ0 (gp_ok sh (gp_call sh d) rc code Φ) (ρ0 ++ zs) L) (hat : gt_At sh wt ml X σ0 (ρ0 ++ zs) al sk cs ov pal psk σ) : gp_asl sh (fun sk σ => gp_ok sh (gp_call sh d) rc code Φ z pal sk σ) psk σ := by
  obtain ⟨hi, hW, hX, ho, hfr, hl, hs⟩ := hat
  unfold gt_ast at h
  split at h
  · rename_i v i r s
    obtain ⟨h1, h2⟩ := gt_if h
    simp only [Bool.and_eq_true] at h1
    obtain ⟨⟨h11, h12⟩, h13⟩ := h1
    have h5 : v % 8 = 5 := by simpa [ga_lng, ga_beq] using (show ga_lng v = true from h13)
    obtain ⟨vv, t0, rfl, g0, hs0⟩ := gt_sr_cons hs
    obtain ⟨vi, t1, rfl, g1, hs1⟩ := gt_sr_cons hs0
    obtain ⟨vx, t2, rfl, g2, hs2⟩ := gt_sr_cons hs1
    obtain ⟨rfl, h3⟩ := gt_ref h11 g2
    obtain ⟨I, rfl, hI⟩ := gt_int h12 g1
    obtain ⟨⟨c5, rfl, hc5⟩, rfl⟩ := gt_lng h5 g0
    rcases hcell : wt (r / 8) with ⟨c, m, dd, vs, nm⟩
    rw [hcell] at h2
    simp only [ga_f_eq] at h2
    obtain ⟨h4, h5⟩ := gt_if h2
    simp only [Bool.and_eq_true, ga_beq, Nat.ble_eq, Nat.blt_eq] at h4
    obtain ⟨⟨rfl, hl0⟩, hlh, hhm, hmb⟩ := h4
    have e1' : (wt (r / 8)).1 = 102 := by rw [hcell]
    have e2' : (wt (r / 8)).2.1 = m := by rw [hcell]
    have h9 : ¬ (wt (r / 8)).1 = 999 := by omega
    obtain ⟨q1, q2, -, q4⟩ := Hs _ h9
    obtain ⟨i1, i2, i3, i4⟩ := gt_idx hi hI hl0 hhm
    generalize hj : I.toInt.toNat = j at i2 i3 i4
    have hjm : j < (wt (r / 8)).2.1 := by rw [e2']; exact i2
    have fin : gp_pk sh (r / 8) j = 5 → gp_ok sh (gp_call sh d) rc code Φ z pal t2 (gp_up σ (r / 8) j ((c5 / 8 : Nat) : Int)) → gp_asl sh (fun sk σ => gp_ok sh (gp_call sh d) rc code Φ z pal sk σ) (.inr c5 :: .inl I.toInt :: .inr r :: t2) σ := by
      intro hpk hgo
      exact ⟨hc5, h3, by rw [q1, e1'], i1, by rw [hj, q2, e2']; exact i2, by rw [q2, e2']; exact hmb, by rw [hj]; exact hpk, by rw [hj]; exact hgo⟩
    have hni : ∀ t, gb_fit cs 5 t = true → t = 5 := by
      intro t ht
      rcases gt_fit (ρ := ρ0 ++ zs) (x := .inr c5) hi ht g0 with ⟨-, y, q, -⟩ | ⟨q, -⟩
      · cases q
      · exact q.symm
    rw [ga_if_eq] at h5
    split at h5
    · rename_i hlq
      rw [ga_beq] at hlq
      have ej : gb_lo cs i - 2147483648 = j := by omega
      rw [ej] at h5
      obtain ⟨h6, h7⟩ := gt_if h5
      rw [Bool.and_eq_true] at h6
      have ht5 := hni _ h6.1
      have h62 := h6.2
      unfold gt_wr at h62
      rw [Bool.and_eq_true, Bool.not_eq_true'] at h62
      rw [← hcell] at ht5
      have hpk : gp_pk sh (r / 8) j = 5 := by
        rcases q4 j hjm with q | q
        · omega
        · rw [q.2]; exact ht5
      obtain ⟨ov', k5, k7⟩ := gt_layl (c := r / 8) (j := j) (z := ((c5 / 8 : Nat) : Int)) (cs := cs) (v := 5) (102, m, dd, vs, nm) ho rfl
      rw [k5] at h7
      exact fin hpk (gt_k0 S hnx h7 hop ⟨hi, gt_W_upl Hs hW hpk, gt_X_up HX hX h62.2, k7, gt_fr_up hfr h62.1, hl, hs2⟩)
    · obtain ⟨h6, h7⟩ := gt_if h5
      rw [Bool.and_eq_true] at h6
      obtain ⟨h61, h62⟩ := h6
      obtain ⟨w1, w2⟩ := gt_wc_ok h61
      unfold gb_oc at h7
      rw [gb_flt_eq] at h7
      split at h62
      · have ed : gb_ty (wt (r / 8)) j = dd := by
          rw [hcell]
          unfold gb_ty
          rw [ga_nth_eq]
          rfl
        have ht5 := hni _ h62
        have hpk : gp_pk sh (r / 8) j = 5 := by
          rcases q4 j hjm with q | q
          · omega
          · rw [q.2, ed]; exact ht5
        exact fin hpk (gt_k0 S hnx h7 hop ⟨hi, gt_W_upl Hs hW hpk, gt_X_up HX hX (w2 j), gt_or_up ho (fun q hq => gt_oc_mem hq), gt_fr_up hfr (w1 j), hl, hs2⟩)
      · simp only [Bool.and_eq_true] at h62
        exact absurd h62.1.1 (by decide)
  · cases h
theorem gt_acp_ok (Hs : gt_H sh wt) (HX : ∀ σ σ', (∀ c j, gb_mo xl c j = true → σ' c j = σ c j) → X σ → X σ') (S : gt_S sh wt ml X σ0 ρ0 d rc code Φ go) (hnx : ∀ e2 nx2, nx = e2 :: nx2 → e2.1 = z ∧ ga_jmp code e2.1 = e2 :: nx2) (h : gt_acp wt ml xl sk ov (fun sk ov => go opn nx al sk cs ov) = true) (hop : ∀ L ∈ opn, gt_Lp sh wt ml X σ0 (gp_ok sh (gp_call sh d) rc code Φ) (ρ0 ++ zs) L) (hat : gt_At sh wt ml X σ0 (ρ0 ++ zs) al sk cs ov pal psk σ) : gp_acp sh (fun sk σ => gp_ok sh (gp_call sh d) rc code Φ z pal sk σ) psk σ := by
  obtain ⟨hi, hW, hX, ho, hfr, hl, hs⟩ := hat
  unfold gt_acp at h
  split at h
  · rename_i m dp b sp a t
    obtain ⟨h1, h2⟩ := gt_if h
    simp only [Bool.and_eq_true, ga_beq, Nat.ble_eq] at h1
    obtain ⟨⟨⟨hm8, hdp⟩, hsp⟩, ⟨hra, hrb⟩, hwd, hwc⟩ := h1
    subst hdp; subst hsp
    obtain ⟨v0, t0, rfl, g0, hs0⟩ := gt_sr_cons hs
    obtain ⟨v1, t1, rfl, g1, hs1⟩ := gt_sr_cons hs0
    obtain ⟨v2, t2, rfl, g2, hs2⟩ := gt_sr_cons hs1
    obtain ⟨v3, t3, rfl, g3, hs3⟩ := gt_sr_cons hs2
    obtain ⟨v4, t4, rfl, g4, hs4⟩ := gt_sr_cons hs3
    obtain ⟨rfl, ha3⟩ := gt_ref hra g4
    obtain ⟨rfl, hb3⟩ := gt_ref hrb g2
    have z0 : ∀ v : gp_V, gt_vr (ρ0 ++ zs) 0 v → v = .inl 0 := by
      intro v hv
      obtain ⟨y, rfl, hy⟩ := gt_int (show ga_int 0 = true from rfl) hv
      obtain ⟨-, e⟩ := (gb_vr_0 (show 0 % 8 = 0 from rfl)).mp hy
      cases e
      rfl
    obtain rfl := z0 _ g1
    obtain rfl := z0 _ g3
    obtain ⟨M, rfl, hM⟩ := gt_int (show ga_int m = true by unfold ga_int; rw [Nat.ble_eq]; omega) g0
    obtain ⟨hm32, eM⟩ := (gb_vr_0 (show m % 8 = 0 by omega)).mp hM
    cases eM
    rcases hca : wt (a / 8) with ⟨ka, la, da, va, na⟩
    rcases hcb : wt (b / 8) with ⟨kb, lb, db, vb, nb⟩
    rw [hca, hcb] at h2
    obtain ⟨h3, h4⟩ := gt_if h2
    simp only [Bool.and_eq_true, Bool.or_eq_true, ga_beq, Nat.ble_eq, Nat.blt_eq] at h3
    obtain ⟨⟨rfl, hkd⟩, ⟨hla, hlb⟩, hmb, rfl, hvv⟩ := h3
    have hva : va = [] ∧ vb = [] := by
      split at hvv
      · exact ⟨rfl, rfl⟩
      · cases hvv
    obtain ⟨rfl, rfl⟩ := hva
    have hka : ka = 100 ∨ ka = 102 := by rcases hkd with q | q <;> omega
    obtain ⟨a1, a2, a3, a4⟩ := Hs (a / 8) (by rw [hca]; show ¬ ka = 999; omega)
    obtain ⟨b1, b2, b3, b4⟩ := Hs (b / 8) (by rw [hcb]; show ¬ ka = 999; omega)
    rw [hca] at a1 a2 a3
    rw [hcb] at b1 b2 b3
    have a3' := a3 rfl
    have b3' := b3 rfl
    obtain ⟨w1, w2⟩ := gt_wc_ok hwc
    unfold gb_oc at h4
    rw [gb_flt_eq] at h4
    have hmi : (nI (m / 8)).toInt = ((m / 8 : Nat) : Int) := nI_toInt (by omega)
    have hmt : (nI (m / 8)).toInt.toNat = m / 8 := by rw [hmi]; rfl
    refine ⟨by rw [gt_wd_ok hs4]; exact hwd, rfl, rfl, by omega, by omega, ha3, hb3, by rw [hmt, a2]; exact hla, by rw [hmt, b2]; exact hlb, ?_⟩
    rw [hmt]
    rcases hkd with ⟨rfl, hd2⟩ | ⟨rfl, rfl⟩
    · left
      refine ⟨a1, b1, by rw [a3', if_pos hd2], by rw [b3', if_pos hd2], gt_k0 S hnx h4 hop ⟨hi, ?_, ?_, ?_, ?_, hl, hs4⟩⟩
      · refine gt_W_cell (c := b / 8) hW (fun k hk j => ?_) (fun j h9 hj ht => ?_)
        · unfold gp_cp
          rw [if_neg (fun q => hk q.1)]
        · unfold gp_cp
          by_cases hjm : j < m / 8
          · rw [if_pos ⟨rfl, hjm⟩]
            have e1 : gb_ty (wt (b / 8)) j = da := by rw [hcb]; unfold gb_ty; rw [ga_nth_eq]; rfl
            have e2 : gb_ty (wt (a / 8)) j = da := by rw [hca]; unfold gb_ty; rw [ga_nth_eq]; rfl
            have := hW (a / 8) j (by rw [hca]; show ¬ 100 = 999; omega) (by rw [hca]; show j < la; omega) (by rw [e2]; exact hd2)
            rw [e2] at this
            rw [e1]
            exact this
          · rw [if_neg (fun q => hjm q.2)]
            exact hW (b / 8) j h9 hj ht
      · refine HX σ _ (fun c j hq => ?_) hX
        unfold gp_cp
        rw [if_neg (fun q => by rw [q.1, w2 j] at hq; cases hq)]
      · intro q hq
        obtain ⟨q1, q2⟩ := gt_oc_mem (j := q.2.1) hq
        have : gp_cp σ (b / 8) (a / 8) (m / 8) q.1 q.2.1 = σ q.1 q.2.1 := by unfold gp_cp; rw [if_neg (fun z => q2 ⟨z.1, rfl⟩)]
        rw [this]
        exact ho q q1
      · intro c j hq
        unfold gp_cp
        rw [if_neg (fun z => by rw [z.1, w1 j] at hq; cases hq)]
        exact hfr c j hq
    · right
      refine ⟨a1, b1, by rw [a3']; rfl, by rw [b3']; rfl, gt_k0 S hnx h4 hop ⟨hi, ?_, ?_, ?_, ?_, hl, hs4⟩⟩
      · refine gt_W_cell (c := b / 8) hW (fun k hk j => ?_) (fun j h9 hj ht => ?_)
        · unfold gp_cp
          rw [if_neg (fun q => hk q.1)]
        · have e1 : gb_ty (wt (b / 8)) j = 5 := by rw [hcb]; unfold gb_ty; rw [ga_nth_eq]; rfl
          rw [e1] at ht
          exact absurd ht (by decide)
      · refine HX σ _ (fun c j hq => ?_) hX
        unfold gp_cp
        rw [if_neg (fun q => by rw [q.1, w2 j] at hq; cases hq)]
      · intro q hq
        obtain ⟨q1, q2⟩ := gt_oc_mem (j := q.2.1) hq
        have : gp_cp σ (b / 8) (a / 8) (m / 8) q.1 q.2.1 = σ q.1 q.2.1 := by unfold gp_cp; rw [if_neg (fun z => q2 ⟨z.1, rfl⟩)]
        rw [this]
        exact ho q q1
      · intro c j hq
        unfold gp_cp
        rw [if_neg (fun z => by rw [z.1, w1 j] at hq; cases hq)]
        exact hfr c j hq
  · cases h
theorem gt_take_some {na : Nat} {sk : List Nat} {K : List Nat → List Nat → Bool} (h : ga_take na [] sk K false = true) : ∃ as t, sk = as.reverse ++ t ∧ as.length = na ∧ K as t = true := by
  rcases ga_take_eq (z := false) na [] sk K with hz | ⟨as, t, h1, h2, h3⟩
  · rw [hz] at h; cases h
  · rw [List.append_nil] at h3
    exact ⟨as, t, h1, h2, h3.symm.trans h⟩
theorem gt_inv_ok (Hs : gt_H sh wt) {call : Nat → List Nat → gb_C → gb_V → gt_R → Bool} (HC : gt_CS sh wt ml X σ0 d call) {k : Nat} {virt : Bool} (S : gt_S sh wt ml X σ0 ρ0 d rc code Φ go) (hnx : ∀ e2 nx2, nx = e2 :: nx2 → e2.1 = z ∧ ga_jmp code e2.1 = e2 :: nx2) (h : gt_inv gm_me wt call k virt sk cs ov (fun sk cs ov => go opn nx al sk cs ov) = true) (hop : ∀ L ∈ opn, gt_Lp sh wt ml X σ0 (gp_ok sh (gp_call sh d) rc code Φ) (ρ0 ++ zs) L) (hat : gt_At sh wt ml X σ0 (ρ0 ++ zs) al sk cs ov pal psk σ) : gp_inv sh (gp_call sh d) k virt (fun sk σ => gp_ok sh (gp_call sh d) rc code Φ z pal sk σ) psk σ := by
  obtain ⟨hi, hW, hX, ho, hfr, hl, hs⟩ := hat
  unfold gt_inv at h
  rcases hme : gm_me k with ⟨mcode, pad, nl, na, mc, ms, rck, ci⟩
  rw [hme] at h
  obtain ⟨as, t, rfl, hlen, h1⟩ := gt_take_some h
  obtain ⟨h2, h3⟩ := gt_if h1
  simp only [Bool.and_eq_true, Nat.ble_eq, ga_beq] at h2
  obtain ⟨⟨hwd, hmc, hms⟩, hvr⟩ := h2
  obtain ⟨x, y, rfl, hx, hy⟩ := gt_sr_tk hs
  have hx2 := gt_sr_rv hx
  rw [List.reverse_reverse] at hx2
  have erc : gm_rc k = rck := by unfold gm_rc; rw [hme]
  have eci : gm_ci k = ci := by unfold gm_ci; rw [hme]
  have ena : gm_na k = na := by unfold gm_na; rw [hme]
  refine ⟨x.reverse, y, by rw [List.reverse_reverse], by rw [ena, ← gt_sr_ln hx2]; exact hlen, by rw [gt_wd_ok hy]; exact hwd, fun hv => ?_, ?_⟩
  · rw [hv, ga_if_t] at hvr
    cases as with
    | nil => cases hvr
    | cons r as' =>
      simp only [Bool.and_eq_true, ga_beq, Nat.blt_eq] at hvr
      obtain ⟨hr, hk1, hk2⟩ := hvr
      cases hxr : x.reverse with
      | nil => rw [hxr] at hx2; exact hx2.elim
      | cons w xs =>
        rw [hxr] at hx2
        obtain ⟨rfl, h3r⟩ := gt_ref hr hx2.1
        refine ⟨r, xs, rfl, h3r, ?_, by rw [eci]; exact hk2⟩
        rw [(Hs (r / 8) (by omega)).1, eci]
        exact hk1
  · refine HC k as cs ov _ h3 (ρ0 ++ zs) x.reverse σ hi hW hX ho hfr hx2 _ (fun ys v cs' ov' w σ' k1 k2 k3 k4 k5 k6 k7 => ?_)
    refine gt_k S hnx k7 ys hop ⟨k1, k2, k3, k4, k5, gt_lr_app hl, ?_⟩
    have e1 : ga_ret rck v t = if rck = 0 then t else v :: t := by
      unfold ga_ret
      rw [ga_if_eq]
      by_cases q : rck = 0
      · rw [if_pos q, if_pos (by rw [q]; rfl)]
      · rw [if_neg q, if_neg (fun w => q (Nat.eq_of_beq_eq_true w))]
    unfold gp_ret
    rw [erc, e1]
    by_cases q : rck = 0
    · rw [if_pos q, if_pos q]
      exact gt_sr_app hy
    · rw [if_neg q, if_neg q]
      rcases k6 with k6 | k6
      · rw [erc] at k6; exact absurd k6 q
      · exact ⟨k6, gt_sr_app hy⟩
end HD
