/-! isIn, image -/
section GHb
variable {sh : Nat → gp_T} {call : gp_K} {rc : Nat} {code : List ga_E} {Φ : gp_F} {pc ln b : Nat} {ps : List (Nat × Nat)} {al sk : List gp_V} {σ : gp_S}
theorem gh_bald {r : Nat} {i : Int} {v : gp_V} (hc : gh_at code pc = some (pc, ln, .baload, 104, b, ps)) (h3 : r % 8 = 3) (hk : (sh (r / 8)).1 = 104) (hn : (sh (r / 8)).2.1 < 1048577) (hi : 0 ≤ i ∧ i.toNat < (sh (r / 8)).2.1) (hv : gp_rd sh σ (r / 8) i.toNat = v) (h : gp_ok sh call rc code Φ (pc + ln) al (v :: sk) σ) : gp_ok sh call rc code Φ pc al (.inl i :: .inr r :: sk) σ := gh_step hc ⟨h3, hk, hi.1, hi.2, hn, by subst hv; exact h⟩
theorem gh_bast {r : Nat} {i x : Int} (hc : gh_at code pc = some (pc, ln, .bastore, 104, b, ps)) (h3 : r % 8 = 3) (hk : (sh (r / 8)).1 = 104) (hn : (sh (r / 8)).2.1 < 1048577) (hi : 0 ≤ i ∧ i.toNat < (sh (r / 8)).2.1) (hp : gp_pk sh (r / 8) i.toNat = 0) (hx : x = 0 ∨ x = 1) (h : gp_ok sh call rc code Φ (pc + ln) al sk (gp_up σ (r / 8) i.toNat x)) : gp_ok sh call rc code Φ pc al (.inl x :: .inl i :: .inr r :: sk) σ := gh_step hc (show gp_ast sh 104 id (fun x => x = 0 ∨ x = 1) (fun sk σ => gp_ok sh call rc code Φ (pc + ln) al sk σ) (.inl x :: .inl i :: .inr r :: sk) σ from ⟨hx, h3, hk, hi.1, hi.2, hn, hp, h⟩)
end GHb
def gs_iml : List (Nat × Nat) := [(277, 1048576), (278, 1048576)]
theorem gm_Xb {f : Nat} {σ σ' : gp_S} (hX : gm_X f σ) (hF : gt_fr gs_iml σ σ') (h9 : ∀ i : Nat, i < 3 → σ' 278 i = 1 → gv_sv f (fun j => σ' 277 (29 * i + j))) : gm_X f σ' := by
  have e1 : ∀ j, σ' 255 j = σ 255 j := fun j => hF _ _ rfl
  have e2 : ∀ j, σ' 252 j = σ 252 j := fun j => hF _ _ rfl
  have e3 : ∀ j, σ' 253 j = σ 253 j := fun j => hF _ _ rfl
  have e4 : ∀ j, σ' 264 j = σ 264 j := fun j => hF _ _ rfl
  have e7 : ∀ j, σ' 236 j = σ 236 j := fun j => hF _ _ rfl
  obtain ⟨x1, x2, x3, x4, x5, x6, x7, x8, -⟩ := hX
  refine ⟨?_, ?_, ?_, ?_, ?_, ?_, ?_, fun i hi => ?_, h9⟩
  · rw [e2, e3]; exact gv_ok_eq e1 x1
  · rw [e2, e3]; exact gv_ok_eq e1 x2
  · rw [e2, e3]; exact x3
  · rw [e2, e3]; exact x4
  · rw [e7]; exact x5
  · rw [e7]; exact x6
  · rw [e7, e7]; exact x7
  · rw [e7, e7] at hi
    simp only [e4]
    exact x8 i hi

theorem gz_in {d : Nat} {c l m : Int} {σ : gp_S} {Φ : gp_F} (h1 : l ≤ c ∧ c ≤ m → Φ (.inl 1) σ) (h0 : ¬ (l ≤ c ∧ c ≤ m) → Φ (.inl 0) σ) : gp_call gs_sh (d + 1) 9 [.inl c, .inl l, .inl m] σ Φ := by
  refine gh_call (al := [.inl c, .inl l, .inl m]) (by decide +kernel) (by show 3 = _; decide +kernel) (by rw [show (gm_me 9).2.1 = 0 by decide +kernel]; rfl) (by show 3 = _; decide +kernel) ?_
  rw [show gm_rc 9 = 2 by decide +kernel]
  refine gh_iload_n (show gh_at (gm_me 9).1 0 = some (0, 1, .iload_n 0, 0, 0, []) from rfl) rfl ?_
  refine gh_iload_n (show gh_at (gm_me 9).1 1 = some (1, 1, .iload_n 1, 0, 0, []) from rfl) rfl ?_
  refine gh_icmp (show gh_at (gm_me 9).1 2 = some (2, 3, .if_icmp .lt (12), 0, 14, []) from rfl) (fun hc => ?_) (fun hc => ?_)
  · refine gh_iconst (x := 0) (show gh_at (gm_me 9).1 14 = some (14, 1, .iconst 0, 0, 0, []) from rfl) (by decide) ?_
    refine gh_iret (show gh_at (gm_me 9).1 15 = some (15, 1, .ireturn, 0, 0, []) from rfl) ?_
    exact Or.inr ⟨rfl, Or.inl rfl, h0 (by have q : c < l := hc; omega)⟩
  · refine gh_iload_n (show gh_at (gm_me 9).1 5 = some (5, 1, .iload_n 0, 0, 0, []) from rfl) rfl ?_
    refine gh_iload_n (show gh_at (gm_me 9).1 6 = some (6, 1, .iload_n 2, 0, 0, []) from rfl) rfl ?_
    refine gh_icmp (show gh_at (gm_me 9).1 7 = some (7, 3, .if_icmp .gt (7), 0, 14, []) from rfl) (fun hc2 => ?_) (fun hc2 => ?_)
    · refine gh_iconst (x := 0) (show gh_at (gm_me 9).1 14 = some (14, 1, .iconst 0, 0, 0, []) from rfl) (by decide) ?_
      refine gh_iret (show gh_at (gm_me 9).1 15 = some (15, 1, .ireturn, 0, 0, []) from rfl) ?_
      exact Or.inr ⟨rfl, Or.inl rfl, h0 (by have q : m < c := hc2; omega)⟩
    · refine gh_iconst (x := 1) (show gh_at (gm_me 9).1 10 = some (10, 1, .iconst 1, 8, 0, []) from rfl) (by decide) ?_
      refine gh_goto (show gh_at (gm_me 9).1 11 = some (11, 3, .goto (4), 0, 15, []) from rfl) ?_
      refine gh_iret (show gh_at (gm_me 9).1 15 = some (15, 1, .ireturn, 0, 0, []) from rfl) ?_
      exact Or.inr ⟨rfl, Or.inr rfl, h1 (by have q1 : ¬ c < l := hc; have q2 : ¬ m < c := hc2; omega)⟩
theorem gz_image {b f : Nat} {σ : gp_S} {x : Int} (hx : gh_r x) (hW : gt_W (gs_wm b f) σ) (hY : gm_Y f σ) : gp_call gs_sh 2 26 [.inr 1891, .inl x] σ (fun v σ' => gt_W (gs_wm b f) σ' ∧ gm_Y f σ' ∧ gt_fr gs_iml σ σ' ∧ gt_tv 34359738362 v) := by
  refine gh_call (al := [.inr 1891, .inl x, .inr 7]) (by decide +kernel) (by show 2 = _; decide +kernel) (by rw [show (gm_me 26).2.1 = 1 by decide +kernel]; rfl) (by show 3 = _; decide +kernel) ?_
  rw [show gm_rc 26 = 1 by decide +kernel]
  have hf := hY.1
  have sA := gm_sv hf hW hY.2.2
  have x9 := hY.2.1.2.2.2.2.2.2.2.2
  have loop : ∀ (X : Nat), x = (X : Int) → X < 3 → ∀ (m : Nat) (σ1 : gp_S) (k : Int), 29 - k ≤ m → 0 ≤ k → k ≤ 29 → gt_W (gs_wm b f) σ1 → gt_fr gs_iml σ σ1 → (∀ j : Nat, (j : Int) < k → σ1 277 (29 * X + j) = σ 260 j) → (∀ j : Nat, j < 29 * X ∨ 29 * X + 29 ≤ j → σ1 277 j = σ 277 j) → (∀ j, σ1 278 j = σ 278 j) → gp_ok gs_sh (gp_call gs_sh 1) 1 (gm_me 26).1 (fun v σ' => gt_W (gs_wm b f) σ' ∧ gm_Y f σ' ∧ gt_fr gs_iml σ σ' ∧ gt_tv 34359738362 v) 13 [.inr 1891, .inl x, .inl k] [] σ1 := by
    intro X eX hX3 m
    induction m with
    | zero =>
      intro σ1 k hm h0 hk W1 F1 l1 r1 i1
      refine gh_iload_n (show gh_at (gm_me 26).1 13 = some (13, 1, .iload_n 2, 0, 0, []) from rfl) rfl ?_
      refine gh_bipush (x := 29) (show gh_at (gm_me 26).1 14 = some (14, 2, .bipush (29), 232, 0, []) from rfl) (by decide) ?_
      refine gh_icmp (show gh_at (gm_me 26).1 16 = some (16, 3, .if_icmp .ge (26), 0, 42, []) from rfl) (fun hc => ?_) (fun hc => ?_)
      · have hc : 29 ≤ k := hc
        refine gh_aload_n (show gh_at (gm_me 26).1 42 = some (42, 1, .aload_n 0, 0, 0, []) from rfl) rfl rfl ?_
        refine gh_get (show gh_at (gm_me 26).1 43 = some (43, 3, .getfield 145, 1, 64, [(0, 1505)]) from rfl) rfl (by decide +kernel) (by decide +kernel) (gh_rdr (r := 2227) (by decide +kernel) rfl) ?_
        refine gh_iload_n (show gh_at (gm_me 26).1 46 = some (46, 1, .iload_n 1, 0, 0, []) from rfl) rfl ?_
        refine gh_iconst (x := 1) (show gh_at (gm_me 26).1 47 = some (47, 1, .iconst 1, 8, 0, []) from rfl) (by decide) ?_
        refine gh_bast (show gh_at (gm_me 26).1 48 = some (48, 1, .bastore, 104, 0, []) from rfl) rfl (by decide +kernel) (by decide +kernel) (gh_ix (N := 3) (by decide +kernel) (by omega) (by omega)) (gh_pk0 (by decide +kernel) _) (by decide) ?_
        show gp_ok _ _ _ _ _ _ _ [] (gp_up σ1 278 x.toNat 1)
        have W2 : gt_W (gs_wm b f) (gp_up σ1 278 x.toNat 1) := gh_Wu W1 (c := 278) (j := x.toNat) (x := 1) (fun _ => show gt_tv 73786976312018075658 (.inl 1) from gh_mk (by decide) (by unfold gh_r; omega) (by omega) (by omega))
        have F2 : gt_fr gs_iml σ (gp_up σ1 278 x.toNat 1) := gh_fu F1 (gb_mo_mem _ (by decide))
        have i2 : ∀ j, ¬ j = X → (gp_up σ1 278 x.toNat 1) 278 j = σ 278 j := fun j q => (gh_up_ne (fun e => by have := e.2; omega)).trans (i1 j)
        have w2 : ∀ j, (gp_up σ1 278 x.toNat 1) 277 j = σ1 277 j := fun j => gh_up_ne (fun e => absurd e.1 (by decide))
        generalize (gp_up σ1 278 x.toNat 1) = σ2 at W2 F2 i2 w2 ⊢
        refine gh_aload_n (show gh_at (gm_me 26).1 49 = some (49, 1, .aload_n 0, 0, 0, []) from rfl) rfl rfl ?_
        refine gh_get (show gh_at (gm_me 26).1 50 = some (50, 3, .getfield 85, 1, 38, [(0, 1479)]) from rfl) rfl (by decide +kernel) (by decide +kernel) (gh_rdr (r := 2083) (by decide +kernel) rfl) ?_
        refine gh_bipush (x := 27) (show gh_at (gm_me 26).1 53 = some (53, 2, .bipush (27), 216, 0, []) from rfl) (by decide) ?_
        refine gh_iald (show gh_at (gm_me 26).1 55 = some (55, 1, .iaload, 0, 0, []) from rfl) rfl (by decide +kernel) (by decide +kernel) (gh_ix (N := 29) (by decide +kernel) (by decide) (by decide)) (gh_rd0 (gh_pk0 (by decide +kernel) _)) ?_
        refine gh_iret (show gh_at (gm_me 26).1 56 = some (56, 1, .ireturn, 0, 0, []) from rfl) ?_
        refine Or.inl ⟨rfl, W2, ⟨hf, gm_Xb hY.2.1 F2 (fun i hi h1 => ?_), gv_q_eq (fun j _ => F2 260 j rfl) hY.2.2⟩, F2, gh_any (gm_allr W2 (n := 27) (by decide))⟩
        by_cases e : i = X
        · subst e
          exact gv_sv_eq hf (fun j hj => (w2 _).trans (l1 j (by omega))) sA
        · rw [i2 i e] at h1
          exact gv_sv_eq hf (fun j hj => (w2 _).trans (r1 _ (by omega))) (x9 i hi h1)
      · have hc : ¬ 29 ≤ k := hc
        omega
    | succ m ih =>
      intro σ1 k hm h0 hk W1 F1 l1 r1 i1
      refine gh_iload_n (show gh_at (gm_me 26).1 13 = some (13, 1, .iload_n 2, 0, 0, []) from rfl) rfl ?_
      refine gh_bipush (x := 29) (show gh_at (gm_me 26).1 14 = some (14, 2, .bipush (29), 232, 0, []) from rfl) (by decide) ?_
      refine gh_icmp (show gh_at (gm_me 26).1 16 = some (16, 3, .if_icmp .ge (26), 0, 42, []) from rfl) (fun hc => ?_) (fun hc => ?_)
      · have hc : 29 ≤ k := hc
        refine gh_aload_n (show gh_at (gm_me 26).1 42 = some (42, 1, .aload_n 0, 0, 0, []) from rfl) rfl rfl ?_
        refine gh_get (show gh_at (gm_me 26).1 43 = some (43, 3, .getfield 145, 1, 64, [(0, 1505)]) from rfl) rfl (by decide +kernel) (by decide +kernel) (gh_rdr (r := 2227) (by decide +kernel) rfl) ?_
        refine gh_iload_n (show gh_at (gm_me 26).1 46 = some (46, 1, .iload_n 1, 0, 0, []) from rfl) rfl ?_
        refine gh_iconst (x := 1) (show gh_at (gm_me 26).1 47 = some (47, 1, .iconst 1, 8, 0, []) from rfl) (by decide) ?_
        refine gh_bast (show gh_at (gm_me 26).1 48 = some (48, 1, .bastore, 104, 0, []) from rfl) rfl (by decide +kernel) (by decide +kernel) (gh_ix (N := 3) (by decide +kernel) (by omega) (by omega)) (gh_pk0 (by decide +kernel) _) (by decide) ?_
        show gp_ok _ _ _ _ _ _ _ [] (gp_up σ1 278 x.toNat 1)
        have W2 : gt_W (gs_wm b f) (gp_up σ1 278 x.toNat 1) := gh_Wu W1 (c := 278) (j := x.toNat) (x := 1) (fun _ => show gt_tv 73786976312018075658 (.inl 1) from gh_mk (by decide) (by unfold gh_r; omega) (by omega) (by omega))
        have F2 : gt_fr gs_iml σ (gp_up σ1 278 x.toNat 1) := gh_fu F1 (gb_mo_mem _ (by decide))
        have i2 : ∀ j, ¬ j = X → (gp_up σ1 278 x.toNat 1) 278 j = σ 278 j := fun j q => (gh_up_ne (fun e => by have := e.2; omega)).trans (i1 j)
        have w2 : ∀ j, (gp_up σ1 278 x.toNat 1) 277 j = σ1 277 j := fun j => gh_up_ne (fun e => absurd e.1 (by decide))
        generalize (gp_up σ1 278 x.toNat 1) = σ2 at W2 F2 i2 w2 ⊢
        refine gh_aload_n (show gh_at (gm_me 26).1 49 = some (49, 1, .aload_n 0, 0, 0, []) from rfl) rfl rfl ?_
        refine gh_get (show gh_at (gm_me 26).1 50 = some (50, 3, .getfield 85, 1, 38, [(0, 1479)]) from rfl) rfl (by decide +kernel) (by decide +kernel) (gh_rdr (r := 2083) (by decide +kernel) rfl) ?_
        refine gh_bipush (x := 27) (show gh_at (gm_me 26).1 53 = some (53, 2, .bipush (27), 216, 0, []) from rfl) (by decide) ?_
        refine gh_iald (show gh_at (gm_me 26).1 55 = some (55, 1, .iaload, 0, 0, []) from rfl) rfl (by decide +kernel) (by decide +kernel) (gh_ix (N := 29) (by decide +kernel) (by decide) (by decide)) (gh_rd0 (gh_pk0 (by decide +kernel) _)) ?_
        refine gh_iret (show gh_at (gm_me 26).1 56 = some (56, 1, .ireturn, 0, 0, []) from rfl) ?_
        refine Or.inl ⟨rfl, W2, ⟨hf, gm_Xb hY.2.1 F2 (fun i hi h1 => ?_), gv_q_eq (fun j _ => F2 260 j rfl) hY.2.2⟩, F2, gh_any (gm_allr W2 (n := 27) (by decide))⟩
        by_cases e : i = X
        · subst e
          exact gv_sv_eq hf (fun j hj => (w2 _).trans (l1 j (by omega))) sA
        · rw [i2 i e] at h1
          exact gv_sv_eq hf (fun j hj => (w2 _).trans (r1 _ (by omega))) (x9 i hi h1)
      · have hc : ¬ 29 ≤ k := hc
        obtain ⟨n, en, hn⟩ : ∃ n : Nat, k = (n : Int) ∧ n < 29 := ⟨k.toNat, by omega, by omega⟩
        have t1 : (29 * x + k).toNat = 29 * X + n := by omega
        have t2 : k.toNat = n := by omega
        refine gh_aload_n (show gh_at (gm_me 26).1 19 = some (19, 1, .aload_n 0, 0, 0, []) from rfl) rfl rfl ?_
        refine gh_get (show gh_at (gm_me 26).1 20 = some (20, 3, .getfield 142, 1, 63, [(0, 1504)]) from rfl) rfl (by decide +kernel) (by decide +kernel) (gh_rdr (r := 2219) (by decide +kernel) rfl) ?_
        refine gh_bipush (x := 29) (show gh_at (gm_me 26).1 23 = some (23, 2, .bipush (29), 232, 0, []) from rfl) (by decide) ?_
        refine gh_iload_n (show gh_at (gm_me 26).1 25 = some (25, 1, .iload_n 1, 0, 0, []) from rfl) rfl ?_
        refine gh_imul (z := 29 * x) (show gh_at (gm_me 26).1 26 = some (26, 1, .imul, 0, 0, []) from rfl) (gh_mul (by unfold gh_r; omega) (by unfold gh_r; omega) (by unfold gh_r; omega)) ?_
        refine gh_iload_n (show gh_at (gm_me 26).1 27 = some (27, 1, .iload_n 2, 0, 0, []) from rfl) rfl ?_
        refine gh_iadd (z := 29 * x + k) (show gh_at (gm_me 26).1 28 = some (28, 1, .iadd, 0, 0, []) from rfl) (gh_add (by unfold gh_r; omega) (by unfold gh_r; omega) (by unfold gh_r; omega)) ?_
        refine gh_aload_n (show gh_at (gm_me 26).1 29 = some (29, 1, .aload_n 0, 0, 0, []) from rfl) rfl rfl ?_
        refine gh_get (show gh_at (gm_me 26).1 30 = some (30, 3, .getfield 85, 1, 38, [(0, 1479)]) from rfl) rfl (by decide +kernel) (by decide +kernel) (gh_rdr (r := 2083) (by decide +kernel) rfl) ?_
        refine gh_iload_n (show gh_at (gm_me 26).1 33 = some (33, 1, .iload_n 2, 0, 0, []) from rfl) rfl ?_
        refine gh_iald (show gh_at (gm_me 26).1 34 = some (34, 1, .iaload, 0, 0, []) from rfl) rfl (by decide +kernel) (by decide +kernel) (gh_ix (N := 29) (by decide +kernel) (by omega) (by omega)) (gh_rd0 (gh_pk0 (by decide +kernel) _)) ?_
        rw [t2, show σ1 (2083 / 8) n = σ 260 n from F1 260 n rfl]
        refine gh_iast (show gh_at (gm_me 26).1 35 = some (35, 1, .iastore, 0, 0, []) from rfl) rfl (by decide +kernel) (by decide +kernel) (gh_ix (N := 87) (by decide +kernel) (by omega) (by omega)) (gh_pk0 (by decide +kernel) _) ?_
        rw [t1]
        show gp_ok _ _ _ _ _ _ _ [] (gp_up σ1 277 (29 * X + n) (σ 260 n))
        have W3 : gt_W (gs_wm b f) (gp_up σ1 277 (29 * X + n) (σ 260 n)) := gh_Wu W1 (c := 277) (j := 29 * X + n) (x := σ 260 n) (fun _ => gh_any (gm_allr hW hn))
        have F3 : gt_fr gs_iml σ (gp_up σ1 277 (29 * X + n) (σ 260 n)) := gh_fu F1 (gb_mo_mem _ (by decide))
        have l3 : ∀ j : Nat, (j : Int) < k + 1 → (gp_up σ1 277 (29 * X + n) (σ 260 n)) 277 (29 * X + j) = σ 260 j := fun j hj => by
          by_cases e : j = n
          · subst e; exact gh_up_eq _ _ _ _
          · exact (gh_up_ne (fun q => by have := q.2; omega)).trans (l1 j (by omega))
        have r3 : ∀ j : Nat, j < 29 * X ∨ 29 * X + 29 ≤ j → (gp_up σ1 277 (29 * X + n) (σ 260 n)) 277 j = σ 277 j := fun j hj => (gh_up_ne (fun q => by have := q.2; omega)).trans (r1 j hj)
        have i3 : ∀ j, (gp_up σ1 277 (29 * X + n) (σ 260 n)) 278 j = σ 278 j := fun j => (gh_up_ne (fun e => absurd e.1 (by decide))).trans (i1 j)
        generalize (gp_up σ1 277 (29 * X + n) (σ 260 n)) = σ3 at W3 F3 l3 r3 i3 ⊢
        refine gh_iinc (show gh_at (gm_me 26).1 36 = some (36, 3, .iinc 2 (1), 8, 0, []) from rfl) rfl (fun c q => by cases q <;> decide) (y := k + 1) (gh_add (by unfold gh_r; omega) (by show gh_r 1; unfold gh_r; omega) (by show gh_r (k + 1); unfold gh_r; omega)) rfl ?_
        refine gh_goto (show gh_at (gm_me 26).1 39 = some (39, 3, .goto (-26), 0, 13, []) from rfl) ?_
        exact ih σ3 (k + 1) (by omega) (by omega) (by omega) W3 F3 l3 r3 i3
  refine gh_iload_n (show gh_at (gm_me 26).1 0 = some (0, 1, .iload_n 1, 0, 0, []) from rfl) rfl ?_
  refine gh_iconst (x := 0) (show gh_at (gm_me 26).1 1 = some (1, 1, .iconst 0, 0, 0, []) from rfl) (by decide) ?_
  refine gh_iconst (x := 2) (show gh_at (gm_me 26).1 2 = some (2, 1, .iconst 2, 16, 0, []) from rfl) (by decide) ?_
  refine gh_callS (as := [.inl x, .inl 0, .inl 2]) (t := []) (show gh_at (gm_me 26).1 3 = some (3, 3, .invokestatic 348, 9, 0, [(0, 1419)]) from rfl) (by decide) rfl (by show 3 = _; decide +kernel) (by decide) (Ψ := fun v σ2 => σ2 = σ ∧ ((v = .inl 1 ∧ 0 ≤ x ∧ x ≤ 2) ∨ (v = .inl 0 ∧ ¬ (0 ≤ x ∧ x ≤ 2)))) (gz_in (d := 0) (fun q => ⟨rfl, Or.inl ⟨rfl, q⟩⟩) (fun q => ⟨rfl, Or.inr ⟨rfl, q⟩⟩)) gh_mono (fun v σ2 hv => ?_)
  obtain ⟨e2, hv⟩ := hv
  rw [e2, show gm_rc 9 = 2 by decide +kernel]
  rcases hv with ⟨rfl, hl⟩ | ⟨rfl, hl⟩
  · refine gh_if (show gh_at (gm_me 26).1 6 = some (6, 3, .ifCond .ne (5), 0, 11, []) from rfl) (fun _ => ?_) (fun q => absurd (show ¬ (1 : Int) = 0 by decide) q)
    refine gh_iconst (x := 0) (show gh_at (gm_me 26).1 11 = some (11, 1, .iconst 0, 0, 0, []) from rfl) (by decide) ?_
    refine gh_istore_n (show gh_at (gm_me 26).1 12 = some (12, 1, .istore_n 2, 0, 0, []) from rfl) (fun c q => by cases q <;> decide) rfl ?_
    exact loop x.toNat (by omega) (by omega) 29 σ 0 (by omega) (by omega) (by omega) hW gh_f0 (fun j hj => absurd hj (by omega)) (fun _ _ => rfl) (fun _ => rfl)
  · refine gh_if (show gh_at (gm_me 26).1 6 = some (6, 3, .ifCond .ne (5), 0, 11, []) from rfl) (fun q => absurd rfl q) (fun _ => ?_)
    refine gh_iconst (x := -1) (show gh_at (gm_me 26).1 9 = some (9, 1, .iconst (-1), 34359738360, 0, []) from rfl) (by decide) ?_
    refine gh_iret (show gh_at (gm_me 26).1 10 = some (10, 1, .ireturn, 0, 0, []) from rfl) ?_
    exact Or.inl ⟨rfl, hW, hY, gh_f0, gh_any (by unfold gh_r; omega)⟩
theorem gz_back {b f : Nat} {σ : gp_S} {x : Int} (hx : gh_r x) (hW : gt_W (gs_wm b f) σ) (hY : gm_Y f σ) : gp_call gs_sh 2 44 [.inr 1891, .inl x] σ (fun v σ' => gt_W (gs_wm b f) σ' ∧ gm_Y f σ' ∧ gt_fr gs_uml σ σ' ∧ gt_tv 34359738362 v) := by
  refine gh_call (al := [.inr 1891, .inl x, .inr 7]) (by decide +kernel) (by show 2 = _; decide +kernel) (by rw [show (gm_me 44).2.1 = 1 by decide +kernel]; rfl) (by show 3 = _; decide +kernel) ?_
  rw [show gm_rc 44 = 1 by decide +kernel]
  have hf := hY.1
  have x9 := hY.2.1.2.2.2.2.2.2.2.2
  have loop : ∀ (X : Nat), x = (X : Int) → X < 3 → gv_sv f (fun j => σ 277 (29 * X + j)) → ∀ (m : Nat) (σ1 : gp_S) (k : Int), 29 - k ≤ m → 0 ≤ k → k ≤ 29 → gt_W (gs_wm b f) σ1 → gt_fr gs_uml σ σ1 → (∀ j : Nat, (j : Int) < k → σ1 260 j = σ 277 (29 * X + j)) → gp_ok gs_sh (gp_call gs_sh 1) 1 (gm_me 44).1 (fun v σ' => gt_W (gs_wm b f) σ' ∧ gm_Y f σ' ∧ gt_fr gs_uml σ σ' ∧ gt_tv 34359738362 v) 22 [.inr 1891, .inl x, .inl k] [] σ1 := by
    intro X eX hX3 hS m
    induction m with
    | zero =>
      intro σ1 k hm h0 hk W1 F1 l1
      refine gh_iload_n (show gh_at (gm_me 44).1 22 = some (22, 1, .iload_n 2, 0, 0, []) from rfl) rfl ?_
      refine gh_bipush (x := 29) (show gh_at (gm_me 44).1 23 = some (23, 2, .bipush (29), 232, 0, []) from rfl) (by decide) ?_
      refine gh_icmp (show gh_at (gm_me 44).1 25 = some (25, 3, .if_icmp .ge (26), 0, 51, []) from rfl) (fun hc => ?_) (fun hc => ?_)
      · have hc : 29 ≤ k := hc
        refine gh_aload_n (show gh_at (gm_me 44).1 51 = some (51, 1, .aload_n 0, 0, 0, []) from rfl) rfl rfl ?_
        refine gh_iconst (x := 0) (show gh_at (gm_me 44).1 52 = some (52, 1, .iconst 0, 0, 0, []) from rfl) (by decide) ?_
        refine gh_put (show gh_at (gm_me 44).1 53 = some (53, 3, .putfield 380, 1, 46, [(0, 1487)]) from rfl) rfl (by decide +kernel) (by decide +kernel) (by decide +kernel) (Or.inl rfl) ?_
        show gp_ok _ _ _ _ _ _ _ [] (gp_up σ1 236 46 (0))
        have W2 := gh_Wu W1 (c := 236) (j := 46) (x := 0) (fun _ => show gt_tv 73786976312018075970 (.inl (0)) from gh_mk (by decide) (by unfold gh_r; omega) (by omega) (by omega))
        refine gh_aload_n (show gh_at (gm_me 44).1 56 = some (56, 1, .aload_n 0, 0, 0, []) from rfl) rfl rfl ?_
        refine gh_iconst (x := 0) (show gh_at (gm_me 44).1 57 = some (57, 1, .iconst 0, 0, 0, []) from rfl) (by decide) ?_
        refine gh_put (show gh_at (gm_me 44).1 58 = some (58, 3, .putfield 383, 1, 47, [(0, 1488)]) from rfl) rfl (by decide +kernel) (by decide +kernel) (by decide +kernel) (Or.inl rfl) ?_
        show gp_ok _ _ _ _ _ _ _ [] (gp_up (gp_up σ1 236 46 0) 236 47 (0))
        have W3 := gh_Wu W2 (c := 236) (j := 47) (x := 0) (fun _ => show gt_tv 73786976312018075970 (.inl (0)) from gh_mk (by decide) (by unfold gh_r; omega) (by omega) (by omega))
        have a3 : (gp_up (gp_up σ1 236 46 0) 236 47 0) 236 46 = 0 := (gh_up_ne (by decide)).trans (gh_up_eq _ _ _ _)
        have u3 : (gp_up (gp_up σ1 236 46 0) 236 47 0) 236 47 = 0 := gh_up_eq _ _ _ _
        have o3 : ∀ j, (gp_up (gp_up σ1 236 46 0) 236 47 0) 260 j = σ1 260 j := fun j => (gh_up_ne (fun e => absurd e.1 (by decide))).trans (gh_up_ne (fun e => absurd e.1 (by decide)))
        have F3 : gt_fr gs_uml σ (gp_up (gp_up σ1 236 46 0) 236 47 0) := gh_fu (gh_fu F1 (by decide +kernel)) (by decide +kernel)
        generalize (gp_up (gp_up σ1 236 46 0) 236 47 0) = σ3 at W3 a3 u3 o3 F3 ⊢
        refine gh_aload_n (show gh_at (gm_me 44).1 61 = some (61, 1, .aload_n 0, 0, 0, []) from rfl) rfl rfl ?_
        refine gh_get (show gh_at (gm_me 44).1 62 = some (62, 3, .getfield 85, 1, 38, [(0, 1479)]) from rfl) rfl (by decide +kernel) (by decide +kernel) (gh_rdr (r := 2083) (by decide +kernel) rfl) ?_
        refine gh_bipush (x := 27) (show gh_at (gm_me 44).1 65 = some (65, 2, .bipush (27), 216, 0, []) from rfl) (by decide) ?_
        refine gh_iald (show gh_at (gm_me 44).1 67 = some (67, 1, .iaload, 0, 0, []) from rfl) rfl (by decide +kernel) (by decide +kernel) (gh_ix (N := 29) (by decide +kernel) (by decide) (by decide)) (gh_rd0 (gh_pk0 (by decide +kernel) _)) ?_
        refine gh_iret (show gh_at (gm_me 44).1 68 = some (68, 1, .ireturn, 0, 0, []) from rfl) ?_
        exact Or.inl ⟨rfl, W3, ⟨hf, gm_Xm hY.2.1 F3 (by omega) (by omega) (by omega) (fun i hi => absurd hi (by omega)), gv_q_eq (fun j hj => (o3 j).trans (l1 j (by omega))) hS.2.2.2⟩, F3, gh_any (gm_allr W3 (n := 27) (by decide))⟩
      · have hc : ¬ 29 ≤ k := hc
        omega
    | succ m ih =>
      intro σ1 k hm h0 hk W1 F1 l1
      refine gh_iload_n (show gh_at (gm_me 44).1 22 = some (22, 1, .iload_n 2, 0, 0, []) from rfl) rfl ?_
      refine gh_bipush (x := 29) (show gh_at (gm_me 44).1 23 = some (23, 2, .bipush (29), 232, 0, []) from rfl) (by decide) ?_
      refine gh_icmp (show gh_at (gm_me 44).1 25 = some (25, 3, .if_icmp .ge (26), 0, 51, []) from rfl) (fun hc => ?_) (fun hc => ?_)
      · have hc : 29 ≤ k := hc
        refine gh_aload_n (show gh_at (gm_me 44).1 51 = some (51, 1, .aload_n 0, 0, 0, []) from rfl) rfl rfl ?_
        refine gh_iconst (x := 0) (show gh_at (gm_me 44).1 52 = some (52, 1, .iconst 0, 0, 0, []) from rfl) (by decide) ?_
        refine gh_put (show gh_at (gm_me 44).1 53 = some (53, 3, .putfield 380, 1, 46, [(0, 1487)]) from rfl) rfl (by decide +kernel) (by decide +kernel) (by decide +kernel) (Or.inl rfl) ?_
        show gp_ok _ _ _ _ _ _ _ [] (gp_up σ1 236 46 (0))
        have W2 := gh_Wu W1 (c := 236) (j := 46) (x := 0) (fun _ => show gt_tv 73786976312018075970 (.inl (0)) from gh_mk (by decide) (by unfold gh_r; omega) (by omega) (by omega))
        refine gh_aload_n (show gh_at (gm_me 44).1 56 = some (56, 1, .aload_n 0, 0, 0, []) from rfl) rfl rfl ?_
        refine gh_iconst (x := 0) (show gh_at (gm_me 44).1 57 = some (57, 1, .iconst 0, 0, 0, []) from rfl) (by decide) ?_
        refine gh_put (show gh_at (gm_me 44).1 58 = some (58, 3, .putfield 383, 1, 47, [(0, 1488)]) from rfl) rfl (by decide +kernel) (by decide +kernel) (by decide +kernel) (Or.inl rfl) ?_
        show gp_ok _ _ _ _ _ _ _ [] (gp_up (gp_up σ1 236 46 0) 236 47 (0))
        have W3 := gh_Wu W2 (c := 236) (j := 47) (x := 0) (fun _ => show gt_tv 73786976312018075970 (.inl (0)) from gh_mk (by decide) (by unfold gh_r; omega) (by omega) (by omega))
        have a3 : (gp_up (gp_up σ1 236 46 0) 236 47 0) 236 46 = 0 := (gh_up_ne (by decide)).trans (gh_up_eq _ _ _ _)
        have u3 : (gp_up (gp_up σ1 236 46 0) 236 47 0) 236 47 = 0 := gh_up_eq _ _ _ _
        have o3 : ∀ j, (gp_up (gp_up σ1 236 46 0) 236 47 0) 260 j = σ1 260 j := fun j => (gh_up_ne (fun e => absurd e.1 (by decide))).trans (gh_up_ne (fun e => absurd e.1 (by decide)))
        have F3 : gt_fr gs_uml σ (gp_up (gp_up σ1 236 46 0) 236 47 0) := gh_fu (gh_fu F1 (by decide +kernel)) (by decide +kernel)
        generalize (gp_up (gp_up σ1 236 46 0) 236 47 0) = σ3 at W3 a3 u3 o3 F3 ⊢
        refine gh_aload_n (show gh_at (gm_me 44).1 61 = some (61, 1, .aload_n 0, 0, 0, []) from rfl) rfl rfl ?_
        refine gh_get (show gh_at (gm_me 44).1 62 = some (62, 3, .getfield 85, 1, 38, [(0, 1479)]) from rfl) rfl (by decide +kernel) (by decide +kernel) (gh_rdr (r := 2083) (by decide +kernel) rfl) ?_
        refine gh_bipush (x := 27) (show gh_at (gm_me 44).1 65 = some (65, 2, .bipush (27), 216, 0, []) from rfl) (by decide) ?_
        refine gh_iald (show gh_at (gm_me 44).1 67 = some (67, 1, .iaload, 0, 0, []) from rfl) rfl (by decide +kernel) (by decide +kernel) (gh_ix (N := 29) (by decide +kernel) (by decide) (by decide)) (gh_rd0 (gh_pk0 (by decide +kernel) _)) ?_
        refine gh_iret (show gh_at (gm_me 44).1 68 = some (68, 1, .ireturn, 0, 0, []) from rfl) ?_
        exact Or.inl ⟨rfl, W3, ⟨hf, gm_Xm hY.2.1 F3 (by omega) (by omega) (by omega) (fun i hi => absurd hi (by omega)), gv_q_eq (fun j hj => (o3 j).trans (l1 j (by omega))) hS.2.2.2⟩, F3, gh_any (gm_allr W3 (n := 27) (by decide))⟩
      · have hc : ¬ 29 ≤ k := hc
        obtain ⟨n, en, hn⟩ : ∃ n : Nat, k = (n : Int) ∧ n < 29 := ⟨k.toNat, by omega, by omega⟩
        have t1 : (29 * x + k).toNat = 29 * X + n := by omega
        have t2 : k.toNat = n := by omega
        refine gh_aload_n (show gh_at (gm_me 44).1 28 = some (28, 1, .aload_n 0, 0, 0, []) from rfl) rfl rfl ?_
        refine gh_get (show gh_at (gm_me 44).1 29 = some (29, 3, .getfield 85, 1, 38, [(0, 1479)]) from rfl) rfl (by decide +kernel) (by decide +kernel) (gh_rdr (r := 2083) (by decide +kernel) rfl) ?_
        refine gh_iload_n (show gh_at (gm_me 44).1 32 = some (32, 1, .iload_n 2, 0, 0, []) from rfl) rfl ?_
        refine gh_aload_n (show gh_at (gm_me 44).1 33 = some (33, 1, .aload_n 0, 0, 0, []) from rfl) rfl rfl ?_
        refine gh_get (show gh_at (gm_me 44).1 34 = some (34, 3, .getfield 142, 1, 63, [(0, 1504)]) from rfl) rfl (by decide +kernel) (by decide +kernel) (gh_rdr (r := 2219) (by decide +kernel) rfl) ?_
        refine gh_bipush (x := 29) (show gh_at (gm_me 44).1 37 = some (37, 2, .bipush (29), 232, 0, []) from rfl) (by decide) ?_
        refine gh_iload_n (show gh_at (gm_me 44).1 39 = some (39, 1, .iload_n 1, 0, 0, []) from rfl) rfl ?_
        refine gh_imul (z := 29 * x) (show gh_at (gm_me 44).1 40 = some (40, 1, .imul, 0, 0, []) from rfl) (gh_mul (by unfold gh_r; omega) (by unfold gh_r; omega) (by unfold gh_r; omega)) ?_
        refine gh_iload_n (show gh_at (gm_me 44).1 41 = some (41, 1, .iload_n 2, 0, 0, []) from rfl) rfl ?_
        refine gh_iadd (z := 29 * x + k) (show gh_at (gm_me 44).1 42 = some (42, 1, .iadd, 0, 0, []) from rfl) (gh_add (by unfold gh_r; omega) (by unfold gh_r; omega) (by unfold gh_r; omega)) ?_
        refine gh_iald (show gh_at (gm_me 44).1 43 = some (43, 1, .iaload, 0, 0, []) from rfl) rfl (by decide +kernel) (by decide +kernel) (gh_ix (N := 87) (by decide +kernel) (by omega) (by omega)) (gh_rd0 (gh_pk0 (by decide +kernel) _)) ?_
        rw [t1, show σ1 (2219 / 8) (29 * X + n) = σ 277 (29 * X + n) from F1 277 _ rfl]
        refine gh_iast (show gh_at (gm_me 44).1 44 = some (44, 1, .iastore, 0, 0, []) from rfl) rfl (by decide +kernel) (by decide +kernel) (gh_ix (N := 29) (by decide +kernel) (by omega) (by omega)) (gh_pk0 (by decide +kernel) _) ?_
        rw [t2]
        show gp_ok _ _ _ _ _ _ _ [] (gp_up σ1 260 n (σ 277 (29 * X + n)))
        have rb := (gh_tv (gh_Wg hW 277 (29 * X + n) (t := 34359738362) (by show ¬ 100 = 999; decide) (by show _ < 87; omega) rfl (by decide))).1
        have W3 : gt_W (gs_wm b f) (gp_up σ1 260 n (σ 277 (29 * X + n))) := gh_Wu W1 (c := 260) (j := n) (x := σ 277 (29 * X + n)) (fun _ => gm_sto (g := fun j => σ 277 (29 * X + j)) hf hS hn rb)
        have F3 : gt_fr gs_uml σ (gp_up σ1 260 n (σ 277 (29 * X + n))) := gh_fu F1 (gb_mo_mem _ (by decide))
        have l3 : ∀ j : Nat, (j : Int) < k + 1 → (gp_up σ1 260 n (σ 277 (29 * X + n))) 260 j = σ 277 (29 * X + j) := fun j hj => by
          by_cases e : j = n
          · subst e; exact gh_up_eq _ _ _ _
          · exact (gh_up_ne (fun q => e q.2)).trans (l1 j (by omega))
        generalize (gp_up σ1 260 n (σ 277 (29 * X + n))) = σ3 at W3 F3 l3 ⊢
        refine gh_iinc (show gh_at (gm_me 44).1 45 = some (45, 3, .iinc 2 (1), 8, 0, []) from rfl) rfl (fun c q => by cases q <;> decide) (y := k + 1) (gh_add (by unfold gh_r; omega) (by show gh_r 1; unfold gh_r; omega) (by show gh_r (k + 1); unfold gh_r; omega)) rfl ?_
        refine gh_goto (show gh_at (gm_me 44).1 48 = some (48, 3, .goto (-26), 0, 22, []) from rfl) ?_
        exact ih σ3 (k + 1) (by omega) (by omega) (by omega) W3 F3 l3
  refine gh_iload_n (show gh_at (gm_me 44).1 0 = some (0, 1, .iload_n 1, 0, 0, []) from rfl) rfl ?_
  refine gh_iconst (x := 0) (show gh_at (gm_me 44).1 1 = some (1, 1, .iconst 0, 0, 0, []) from rfl) (by decide) ?_
  refine gh_iconst (x := 2) (show gh_at (gm_me 44).1 2 = some (2, 1, .iconst 2, 16, 0, []) from rfl) (by decide) ?_
  refine gh_callS (as := [.inl x, .inl 0, .inl 2]) (t := []) (show gh_at (gm_me 44).1 3 = some (3, 3, .invokestatic 348, 9, 0, [(0, 1419)]) from rfl) (by decide) rfl (by show 3 = _; decide +kernel) (by decide) (Ψ := fun v σ2 => σ2 = σ ∧ ((v = .inl 1 ∧ 0 ≤ x ∧ x ≤ 2) ∨ (v = .inl 0 ∧ ¬ (0 ≤ x ∧ x ≤ 2)))) (gz_in (d := 0) (fun q => ⟨rfl, Or.inl ⟨rfl, q⟩⟩) (fun q => ⟨rfl, Or.inr ⟨rfl, q⟩⟩)) gh_mono (fun v σ2 hv => ?_)
  obtain ⟨e2, hv⟩ := hv
  rw [e2, show gm_rc 9 = 2 by decide +kernel]
  rcases hv with ⟨rfl, hl⟩ | ⟨rfl, hl⟩
  · refine gh_if (show gh_at (gm_me 44).1 6 = some (6, 3, .ifCond .eq (12), 0, 18, []) from rfl) (fun q => absurd (show (1 : Int) = 0 from q) (by decide)) (fun _ => ?_)
    refine gh_aload_n (show gh_at (gm_me 44).1 9 = some (9, 1, .aload_n 0, 0, 0, []) from rfl) rfl rfl ?_
    refine gh_get (show gh_at (gm_me 44).1 10 = some (10, 3, .getfield 145, 1, 64, [(0, 1505)]) from rfl) rfl (by decide +kernel) (by decide +kernel) (gh_rdr (r := 2227) (by decide +kernel) rfl) ?_
    refine gh_iload_n (show gh_at (gm_me 44).1 13 = some (13, 1, .iload_n 1, 0, 0, []) from rfl) rfl ?_
    refine gh_bald (show gh_at (gm_me 44).1 14 = some (14, 1, .baload, 104, 0, []) from rfl) rfl (by decide +kernel) (by decide +kernel) (gh_ix (N := 3) (by decide +kernel) (by omega) (by omega)) (gh_rd0 (gh_pk0 (by decide +kernel) _)) ?_
    have tb := (gh_tv (gh_Wg hW 278 x.toNat (t := 73786976312018075658) (by show ¬ 104 = 999; decide) (by show _ < 3; omega) rfl (by decide))).2
    show gp_ok _ _ _ _ _ _ _ [.inl (σ 278 x.toNat)] _
    refine gh_if (show gh_at (gm_me 44).1 15 = some (15, 3, .ifCond .ne (5), 0, 20, []) from rfl) (fun hc => ?_) (fun hc => ?_)
    · have hc : ¬ σ 278 x.toNat = 0 := hc
      refine gh_iconst (x := 0) (show gh_at (gm_me 44).1 20 = some (20, 1, .iconst 0, 0, 0, []) from rfl) (by decide) ?_
      refine gh_istore_n (show gh_at (gm_me 44).1 21 = some (21, 1, .istore_n 2, 0, 0, []) from rfl) (fun c q => by cases q <;> decide) rfl ?_
      exact loop x.toNat (by omega) (by omega) (x9 x.toNat (by omega) (by omega)) 29 σ 0 (by omega) (by omega) (by omega) hW gh_f0 (fun j hj => absurd hj (by omega))
    · refine gh_iconst (x := -1) (show gh_at (gm_me 44).1 18 = some (18, 1, .iconst (-1), 34359738360, 0, []) from rfl) (by decide) ?_
      refine gh_iret (show gh_at (gm_me 44).1 19 = some (19, 1, .ireturn, 0, 0, []) from rfl) ?_
      exact Or.inl ⟨rfl, hW, hY, gh_f0, gh_any (by unfold gh_r; omega)⟩
  · refine gh_if (show gh_at (gm_me 44).1 6 = some (6, 3, .ifCond .eq (12), 0, 18, []) from rfl) (fun _ => ?_) (fun q => absurd rfl q)
    refine gh_iconst (x := -1) (show gh_at (gm_me 44).1 18 = some (18, 1, .iconst (-1), 34359738360, 0, []) from rfl) (by decide) ?_
    refine gh_iret (show gh_at (gm_me 44).1 19 = some (19, 1, .ireturn, 0, 0, []) from rfl) ?_
    exact Or.inl ⟨rfl, hW, hY, gh_f0, gh_any (by unfold gh_r; omega)⟩
