/-! bestOf -/
def gd_d (n : Nat) (r : Nat → Int) : Prop := ∀ i j, i < j → j < n → ¬ r i = r j
theorem gd_ne {n : Nat} {r : Nat → Int} (h : gd_d n r) {i j : Nat} (hi : i < n) (hj : j < n) (hij : ¬ i = j) : ¬ r i = r j := by
  rcases (show i < j ∨ j < i by omega) with q | q
  · exact h i j q hj
  · exact fun e => h j i q hi e.symm
def gd_v (σ : gp_S) : Int := 117649 * σ 266 0 + 16807 * σ 266 1 + 2401 * σ 266 2 + 343 * σ 266 3 + 49 * σ 266 4 + 7 * σ 266 5 + σ 266 6
theorem gm_or {b f : Nat} {σ : gp_S} (hW : gt_W (gs_wm b f) σ) {j : Nat} (hj : j < 7) : 0 ≤ σ 266 j ∧ σ 266 j ≤ 6 := by
  have h := (gh_tv (gh_Wg hW 266 j (t := 73786976312018075698) (by show ¬ 100 = 999; decide) (by show j < 7; exact hj) rfl (by decide))).2
  omega
theorem gd_lt {σ σ' : gp_S} {k : Nat} (hk : k < 6) (h : ∀ j, j < 7 → 0 ≤ σ 266 j ∧ σ 266 j ≤ 6) (h' : ∀ j, j < 7 → 0 ≤ σ' 266 j ∧ σ' 266 j ≤ 6) (e : ∀ i, i < k → σ' 266 i = σ 266 i) (hl : σ 266 k < σ' 266 k) : gd_v σ < gd_v σ' := by
  have a0 := h 0 (by omega); have a1 := h 1 (by omega); have a2 := h 2 (by omega); have a3 := h 3 (by omega); have a4 := h 4 (by omega); have a5 := h 5 (by omega); have a6 := h 6 (by omega)
  have b0 := h' 0 (by omega); have b1 := h' 1 (by omega); have b2 := h' 2 (by omega); have b3 := h' 3 (by omega); have b4 := h' 4 (by omega); have b5 := h' 5 (by omega); have b6 := h' 6 (by omega)
  unfold gd_v
  rcases (show k = 0 ∨ k = 1 ∨ k = 2 ∨ k = 3 ∨ k = 4 ∨ k = 5 by omega) with q | q | q | q | q | q <;> subst q
  · omega
  · have c0 := e 0 (by omega); omega
  · have c0 := e 0 (by omega); have c1 := e 1 (by omega); omega
  · have c0 := e 0 (by omega); have c1 := e 1 (by omega); have c2 := e 2 (by omega); omega
  · have c0 := e 0 (by omega); have c1 := e 1 (by omega); have c2 := e 2 (by omega); have c3 := e 3 (by omega); omega
  · have c0 := e 0 (by omega); have c1 := e 1 (by omega); have c2 := e 2 (by omega); have c3 := e 3 (by omega); have c4 := e 4 (by omega); omega
theorem gd_sw {σ : gp_S} {m n : Nat} (j : Nat) : (gp_up (gp_up σ 266 m (σ 266 n)) 266 n (σ 266 m)) 266 j = if j = n then σ 266 m else if j = m then σ 266 n else σ 266 j := by
  by_cases h1 : j = n
  · subst h1; rw [gh_up_eq, if_pos rfl]
  · rw [gh_up_ne (fun q => h1 q.2), if_neg h1]
    by_cases h2 : j = m
    · subst h2; rw [gh_up_eq, if_pos rfl]
    · rw [gh_up_ne (fun q => h2 q.2), if_neg h2]
theorem gd_dsw {N m n : Nat} {σ : gp_S} (h : gd_d N (σ 266)) (hm : m < N) (hn : n < N) : gd_d N ((gp_up (gp_up σ 266 m (σ 266 n)) 266 n (σ 266 m)) 266) := by
  intro i j hi hj
  rw [gd_sw i, gd_sw j]
  split <;> split <;> first | (split <;> first | (split <;> (apply gd_ne h <;> omega)) | (apply gd_ne h <;> omega)) | (apply gd_ne h <;> omega) | omega
theorem gd_swW {b f : Nat} {σ : gp_S} (hW : gt_W (gs_wm b f) σ) {m n : Nat} (hm : m < 7) (hn : n < 7) : gt_W (gs_wm b f) (gp_up (gp_up σ 266 m (σ 266 n)) 266 n (σ 266 m)) := gh_Wu (c := 266) (j := n) (x := σ 266 m) (gh_Wu hW (c := 266) (j := m) (x := σ 266 n) (fun _ => show gt_tv 73786976312018075698 (.inl (σ 266 n)) from gh_Wg hW 266 n (by show ¬ 100 = 999; decide) (by show n < 7; exact hn) rfl (by decide))) (fun _ => show gt_tv 73786976312018075698 (.inl (σ 266 m)) from gh_Wg hW 266 m (by show ¬ 100 = 999; decide) (by show m < 7; exact hm) rfl (by decide))
theorem gh_ph2 (r : Nat → Int) : ∀ (g n : Nat) (q : Nat → Int), (∀ i j, i < j → j < n → ¬ q i = q j) → (∀ t : Nat, t < n → ∃ o : Nat, o < g ∧ r o = q t) → n ≤ g := by
  intro g
  induction g generalizing r with
  | zero =>
    intro n q _ h
    cases n with
    | zero => exact Nat.le_refl _
    | succ n => obtain ⟨o, ho, -⟩ := h 0 (by omega); omega
  | succ g ih =>
    intro n q hq h
    cases n with
    | zero => omega
    | succ n =>
      have h2 := ih (fun i => if r i = q n then r g else r i) n q (fun i j hi hj => hq i j hi (by omega)) (fun t ht => by
        obtain ⟨o, ho, he⟩ := h t (by omega)
        obtain ⟨w, hw, hn⟩ := h n (by omega)
        have hd := hq t n ht (by omega)
        by_cases e : o = g
        · subst e
          have : ¬ w = o := fun q => by subst q; exact hd (he.symm.trans hn)
          exact ⟨w, by omega, by show (if r w = q n then r o else r w) = _; rw [if_pos hn]; exact he⟩
        · exact ⟨o, by omega, by show (if r o = q n then r g else r o) = _; rw [if_neg (fun q => hd (he.symm.trans q))]; exact he⟩)
      omega
def gs_oml : List (Nat × Nat) := [(266, 1048576)]

theorem gz_swapO {d : Nat} {σ : gp_S} {Φ : gp_F} {m n : Nat} (hm : m < 7) (hn : n < 7) (h : Φ (.inr 7) (gp_up (gp_up σ 266 m (σ 266 n)) 266 n (σ 266 m))) : gp_call gs_sh (d + 1) 233 [.inr 1891, .inl (m : Int), .inl (n : Int)] σ Φ := by
  refine gh_call (al := [.inr 1891, .inl (m : Int), .inl (n : Int), .inr 7]) (by decide +kernel) (by show 3 = _; decide +kernel) (by rw [show (gm_me 233).2.1 = 1 by decide +kernel]; rfl) (by show 4 = _; decide +kernel) ?_
  rw [show gm_rc 233 = 0 by decide +kernel]
  have tm : ((m : Int)).toNat = m := by omega
  have tn : ((n : Int)).toNat = n := by omega
  refine gh_aload_n (show gh_at (gm_me 233).1 0 = some (0, 1, .aload_n 0, 0, 0, []) from rfl) rfl rfl ?_
  refine gh_get (show gh_at (gm_me 233).1 1 = some (1, 3, .getfield 109, 1, 49, [(0, 1490)]) from rfl) rfl (by decide +kernel) (by decide +kernel) (gh_rdr (r := 2131) (by decide +kernel) rfl) ?_
  refine gh_iload_n (show gh_at (gm_me 233).1 4 = some (4, 1, .iload_n 1, 0, 0, []) from rfl) rfl ?_
  refine gh_iald (show gh_at (gm_me 233).1 5 = some (5, 1, .iaload, 0, 0, []) from rfl) rfl (by decide +kernel) (by decide +kernel) (gh_ix (N := 7) (by decide +kernel) (by omega) (by omega)) (gh_rd0 (gh_pk0 (by decide +kernel) _)) ?_
  rw [tm]
  show gp_ok _ _ _ _ _ _ _ [.inl (σ 266 m)] _
  refine gh_istore_n (show gh_at (gm_me 233).1 6 = some (6, 1, .istore_n 3, 0, 0, []) from rfl) (fun c q => by cases q <;> decide) rfl ?_
  refine gh_aload_n (show gh_at (gm_me 233).1 7 = some (7, 1, .aload_n 0, 0, 0, []) from rfl) rfl rfl ?_
  refine gh_get (show gh_at (gm_me 233).1 8 = some (8, 3, .getfield 109, 1, 49, [(0, 1490)]) from rfl) rfl (by decide +kernel) (by decide +kernel) (gh_rdr (r := 2131) (by decide +kernel) rfl) ?_
  refine gh_iload_n (show gh_at (gm_me 233).1 11 = some (11, 1, .iload_n 1, 0, 0, []) from rfl) rfl ?_
  refine gh_aload_n (show gh_at (gm_me 233).1 12 = some (12, 1, .aload_n 0, 0, 0, []) from rfl) rfl rfl ?_
  refine gh_get (show gh_at (gm_me 233).1 13 = some (13, 3, .getfield 109, 1, 49, [(0, 1490)]) from rfl) rfl (by decide +kernel) (by decide +kernel) (gh_rdr (r := 2131) (by decide +kernel) rfl) ?_
  refine gh_iload_n (show gh_at (gm_me 233).1 16 = some (16, 1, .iload_n 2, 0, 0, []) from rfl) rfl ?_
  refine gh_iald (show gh_at (gm_me 233).1 17 = some (17, 1, .iaload, 0, 0, []) from rfl) rfl (by decide +kernel) (by decide +kernel) (gh_ix (N := 7) (by decide +kernel) (by omega) (by omega)) (gh_rd0 (gh_pk0 (by decide +kernel) _)) ?_
  rw [tn]
  refine gh_iast (show gh_at (gm_me 233).1 18 = some (18, 1, .iastore, 0, 0, []) from rfl) rfl (by decide +kernel) (by decide +kernel) (gh_ix (N := 7) (by decide +kernel) (by omega) (by omega)) (gh_pk0 (by decide +kernel) _) ?_
  rw [tm]
  show gp_ok _ _ _ _ _ _ _ [] (gp_up σ 266 m (σ 266 n))
  refine gh_aload_n (show gh_at (gm_me 233).1 19 = some (19, 1, .aload_n 0, 0, 0, []) from rfl) rfl rfl ?_
  refine gh_get (show gh_at (gm_me 233).1 20 = some (20, 3, .getfield 109, 1, 49, [(0, 1490)]) from rfl) rfl (by decide +kernel) (by decide +kernel) (gh_rdr (r := 2131) (by decide +kernel) rfl) ?_
  refine gh_iload_n (show gh_at (gm_me 233).1 23 = some (23, 1, .iload_n 2, 0, 0, []) from rfl) rfl ?_
  refine gh_iload_n (show gh_at (gm_me 233).1 24 = some (24, 1, .iload_n 3, 0, 0, []) from rfl) rfl ?_
  refine gh_iast (show gh_at (gm_me 233).1 25 = some (25, 1, .iastore, 0, 0, []) from rfl) rfl (by decide +kernel) (by decide +kernel) (gh_ix (N := 7) (by decide +kernel) (by omega) (by omega)) (gh_pk0 (by decide +kernel) _) ?_
  rw [tn]
  refine gh_ret (show gh_at (gm_me 233).1 26 = some (26, 1, .return_, 0, 0, []) from rfl) rfl ?_
  exact h
theorem gz_next {b f : Nat} {σ : gp_S} {n : Nat} (hn : n ≤ 6) (hW : gt_W (gs_wm b f) σ) (hD : gd_d n (σ 266)) : gp_call gs_sh 2 232 [.inr 1891, .inl (n : Int)] σ (fun v σ' => gt_W (gs_wm b f) σ' ∧ gt_fr gs_oml σ σ' ∧ gd_d n (σ' 266) ∧ (v = .inl 0 ∨ (v = .inl 1 ∧ gd_v σ < gd_v σ'))) := by
  refine gh_call (al := [.inr 1891, .inl (n : Int), .inr 7, .inr 7, .inr 7]) (by decide +kernel) (by show 2 = _; decide +kernel) (by rw [show (gm_me 232).2.1 = 3 by decide +kernel]; rfl) (by show 5 = _; decide +kernel) ?_
  rw [show gm_rc 232 = 2 by decide +kernel]
  have third : ∀ (K E : Nat) (σ2 : gp_S), K + 1 < n → gd_v σ < gd_v σ2 → (∀ j, j < 7 → 0 ≤ σ 266 j ∧ σ 266 j ≤ 6) → (∀ i, i < K → σ2 266 i = σ 266 i) → σ 266 K < σ2 266 K → ∀ (m i : Nat) (σ3 : gp_S), n - i ≤ m → 1 ≤ i → i ≤ n → gt_W (gs_wm b f) σ3 → gt_fr gs_oml σ σ3 → gd_d n (σ3 266) → (∀ j, j ≤ K → σ3 266 j = σ2 266 j) → gp_ok gs_sh (gp_call gs_sh 1) 2 (gm_me 232).1 (fun v σ' => gt_W (gs_wm b f) σ' ∧ gt_fr gs_oml σ σ' ∧ gd_d n (σ' 266) ∧ (v = .inl 0 ∨ (v = .inl 1 ∧ gd_v σ < gd_v σ'))) 71 [.inr 1891, .inl (n : Int), .inl (K : Int), .inl (E : Int), .inl (i : Int)] [] σ3 := by
    intro K E σ2 hK _ b0 p2 l2 m
    induction m with
    | zero =>
      intro i σ3 hm hi hin W3 F3 D3 p3
      refine gh_iload_n (show gh_at (gm_me 232).1 71 = some (71, 1, .iload_n 2, 0, 0, []) from rfl) rfl ?_
      refine gh_iload (show gh_at (gm_me 232).1 72 = some (72, 2, .iload 4, 0, 0, []) from rfl) rfl ?_
      refine gh_iadd (z := (K : Int) + (i : Int)) (show gh_at (gm_me 232).1 74 = some (74, 1, .iadd, 0, 0, []) from rfl) (gh_add (by unfold gh_r; omega) (by unfold gh_r; omega) (by unfold gh_r; omega)) ?_
      refine gh_iload_n (show gh_at (gm_me 232).1 75 = some (75, 1, .iload_n 1, 0, 0, []) from rfl) rfl ?_
      refine gh_iload (show gh_at (gm_me 232).1 76 = some (76, 2, .iload 4, 0, 0, []) from rfl) rfl ?_
      refine gh_isub (z := (n : Int) - (i : Int)) (show gh_at (gm_me 232).1 78 = some (78, 1, .isub, 0, 0, []) from rfl) (gh_sub (by unfold gh_r; omega) (by unfold gh_r; omega) (by unfold gh_r; omega)) ?_
      refine gh_icmp (show gh_at (gm_me 232).1 79 = some (79, 3, .if_icmp .ge (21), 0, 100, []) from rfl) (fun hc => ?_) (fun hc => ?_)
      · refine gh_iconst (x := 1) (show gh_at (gm_me 232).1 100 = some (100, 1, .iconst 1, 8, 0, []) from rfl) (by decide) ?_
        refine gh_iret (show gh_at (gm_me 232).1 101 = some (101, 1, .ireturn, 0, 0, []) from rfl) ?_
        exact Or.inr ⟨rfl, Or.inr rfl, W3, F3, D3, Or.inr ⟨rfl, gd_lt (k := K) (by omega) b0 (fun j hj => gm_or W3 hj) (fun i hi => (p3 i (by omega)).trans (p2 i hi)) (by rw [p3 K (Nat.le_refl _)]; exact l2)⟩⟩
      · have hc : ¬ (n : Int) - (i : Int) ≤ (K : Int) + (i : Int) := hc
        omega
    | succ m ih =>
      intro i σ3 hm hi hin W3 F3 D3 p3
      refine gh_iload_n (show gh_at (gm_me 232).1 71 = some (71, 1, .iload_n 2, 0, 0, []) from rfl) rfl ?_
      refine gh_iload (show gh_at (gm_me 232).1 72 = some (72, 2, .iload 4, 0, 0, []) from rfl) rfl ?_
      refine gh_iadd (z := (K : Int) + (i : Int)) (show gh_at (gm_me 232).1 74 = some (74, 1, .iadd, 0, 0, []) from rfl) (gh_add (by unfold gh_r; omega) (by unfold gh_r; omega) (by unfold gh_r; omega)) ?_
      refine gh_iload_n (show gh_at (gm_me 232).1 75 = some (75, 1, .iload_n 1, 0, 0, []) from rfl) rfl ?_
      refine gh_iload (show gh_at (gm_me 232).1 76 = some (76, 2, .iload 4, 0, 0, []) from rfl) rfl ?_
      refine gh_isub (z := (n : Int) - (i : Int)) (show gh_at (gm_me 232).1 78 = some (78, 1, .isub, 0, 0, []) from rfl) (gh_sub (by unfold gh_r; omega) (by unfold gh_r; omega) (by unfold gh_r; omega)) ?_
      refine gh_icmp (show gh_at (gm_me 232).1 79 = some (79, 3, .if_icmp .ge (21), 0, 100, []) from rfl) (fun hc => ?_) (fun hc => ?_)
      · refine gh_iconst (x := 1) (show gh_at (gm_me 232).1 100 = some (100, 1, .iconst 1, 8, 0, []) from rfl) (by decide) ?_
        refine gh_iret (show gh_at (gm_me 232).1 101 = some (101, 1, .ireturn, 0, 0, []) from rfl) ?_
        exact Or.inr ⟨rfl, Or.inr rfl, W3, F3, D3, Or.inr ⟨rfl, gd_lt (k := K) (by omega) b0 (fun j hj => gm_or W3 hj) (fun i hi => (p3 i (by omega)).trans (p2 i hi)) (by rw [p3 K (Nat.le_refl _)]; exact l2)⟩⟩
      · have hc : ¬ (n : Int) - (i : Int) ≤ (K : Int) + (i : Int) := hc
        refine gh_aload_n (show gh_at (gm_me 232).1 82 = some (82, 1, .aload_n 0, 0, 0, []) from rfl) rfl rfl ?_
        refine gh_iload_n (show gh_at (gm_me 232).1 83 = some (83, 1, .iload_n 2, 0, 0, []) from rfl) rfl ?_
        refine gh_iload (show gh_at (gm_me 232).1 84 = some (84, 2, .iload 4, 0, 0, []) from rfl) rfl ?_
        refine gh_iadd (z := ((K + i : Nat) : Int)) (show gh_at (gm_me 232).1 86 = some (86, 1, .iadd, 0, 0, []) from rfl) (by rw [gh_add (by unfold gh_r; omega) (by unfold gh_r; omega) (by unfold gh_r; omega)]; omega) ?_
        refine gh_iload_n (show gh_at (gm_me 232).1 87 = some (87, 1, .iload_n 1, 0, 0, []) from rfl) rfl ?_
        refine gh_iload (show gh_at (gm_me 232).1 88 = some (88, 2, .iload 4, 0, 0, []) from rfl) rfl ?_
        refine gh_isub (z := ((n - i : Nat) : Int)) (show gh_at (gm_me 232).1 90 = some (90, 1, .isub, 0, 0, []) from rfl) (by rw [gh_sub (by unfold gh_r; omega) (by unfold gh_r; omega) (by unfold gh_r; omega)]; omega) ?_
        refine gh_callV (r := 1891) (as := [.inl ((K + i : Nat) : Int), .inl ((n - i : Nat) : Int)]) (t := []) (show gh_at (gm_me 232).1 91 = some (91, 3, .invokevirtual 448, 233, 0, [(0, 1984)]) from rfl) (by decide) rfl (by show 3 = _; decide +kernel) (Nat.le_trans (gh_wd _) (Nat.le_of_ble_eq_true rfl)) rfl (by decide +kernel) (by decide +kernel) (Ψ := fun v σ9 => σ9 = (gp_up (gp_up σ3 266 (K + i) (σ3 266 (n - i))) 266 (n - i) (σ3 266 (K + i)))) (gz_swapO (d := 0) (by omega) (by omega) rfl) gh_mono (fun v σ9 hv => ?_)
        rw [show gm_rc 233 = 0 by decide +kernel]
        subst hv
        show gp_ok _ _ _ _ _ _ _ [] (gp_up (gp_up σ3 266 (K + i) (σ3 266 (n - i))) 266 (n - i) (σ3 266 (K + i)))
        have W4 : gt_W (gs_wm b f) (gp_up (gp_up σ3 266 (K + i) (σ3 266 (n - i))) 266 (n - i) (σ3 266 (K + i))) := gd_swW W3 (by omega) (by omega)
        have F4 : gt_fr gs_oml σ (gp_up (gp_up σ3 266 (K + i) (σ3 266 (n - i))) 266 (n - i) (σ3 266 (K + i))) := gh_fu (gh_fu F3 (gb_mo_mem _ (by decide))) (gb_mo_mem _ (by decide))
        have D4 : gd_d n ((gp_up (gp_up σ3 266 (K + i) (σ3 266 (n - i))) 266 (n - i) (σ3 266 (K + i))) 266) := gd_dsw D3 (by omega) (by omega)
        have p4 : ∀ j, j ≤ K → (gp_up (gp_up σ3 266 (K + i) (σ3 266 (n - i))) 266 (n - i) (σ3 266 (K + i))) 266 j = σ2 266 j := fun j hj => by rw [gd_sw, if_neg (by omega), if_neg (by omega)]; exact p3 j hj
        generalize (gp_up (gp_up σ3 266 (K + i) (σ3 266 (n - i))) 266 (n - i) (σ3 266 (K + i))) = σ4 at W4 F4 D4 p4 ⊢
        refine gh_iinc (show gh_at (gm_me 232).1 94 = some (94, 3, .iinc 4 (1), 8, 0, []) from rfl) rfl (fun c q => by cases q <;> decide) (y := ((i + 1 : Nat) : Int)) (by rw [gh_add (by unfold gh_r; omega) (by show gh_r 1; unfold gh_r; omega) (by show gh_r ((i : Int) + 1); unfold gh_r; omega)]; show (i : Int) + 1 = _; omega) rfl ?_
        refine gh_goto (show gh_at (gm_me 232).1 97 = some (97, 3, .goto (-26), 0, 71, []) from rfl) ?_
        exact ih (i + 1) σ4 (by omega) (by omega) (by omega) W4 F4 D4 p4
  have second : ∀ (K : Nat), K + 1 < n → σ 266 K < σ 266 (K + 1) → ∀ (m E : Nat), E ≤ m + K + 1 → K + 1 ≤ E → E < n → gp_ok gs_sh (gp_call gs_sh 1) 2 (gm_me 232).1 (fun v σ' => gt_W (gs_wm b f) σ' ∧ gt_fr gs_oml σ σ' ∧ gd_d n (σ' 266) ∧ (v = .inl 0 ∨ (v = .inl 1 ∧ gd_v σ < gd_v σ'))) 41 [.inr 1891, .inl (n : Int), .inl (K : Int), .inl (E : Int), .inr 7] [] σ := by
    intro K hK hl m
    induction m with
    | zero =>
      intro E hm h1 h2
      refine gh_aload_n (show gh_at (gm_me 232).1 41 = some (41, 1, .aload_n 0, 0, 0, []) from rfl) rfl rfl ?_
      refine gh_get (show gh_at (gm_me 232).1 42 = some (42, 3, .getfield 109, 1, 49, [(0, 1490)]) from rfl) rfl (by decide +kernel) (by decide +kernel) (gh_rdr (r := 2131) (by decide +kernel) rfl) ?_
      refine gh_iload_n (show gh_at (gm_me 232).1 45 = some (45, 1, .iload_n 3, 0, 0, []) from rfl) rfl ?_
      refine gh_iald (show gh_at (gm_me 232).1 46 = some (46, 1, .iaload, 0, 0, []) from rfl) rfl (by decide +kernel) (by decide +kernel) (gh_ix (N := 7) (by decide +kernel) (by omega) (by omega)) (gh_rd0 (gh_pk0 (by decide +kernel) _)) ?_
      rw [show ((E : Int)).toNat = E by omega]
      show gp_ok _ _ _ _ _ _ _ [.inl (σ 266 E)] _
      refine gh_aload_n (show gh_at (gm_me 232).1 47 = some (47, 1, .aload_n 0, 0, 0, []) from rfl) rfl rfl ?_
      refine gh_get (show gh_at (gm_me 232).1 48 = some (48, 3, .getfield 109, 1, 49, [(0, 1490)]) from rfl) rfl (by decide +kernel) (by decide +kernel) (gh_rdr (r := 2131) (by decide +kernel) rfl) ?_
      refine gh_iload_n (show gh_at (gm_me 232).1 51 = some (51, 1, .iload_n 2, 0, 0, []) from rfl) rfl ?_
      refine gh_iald (show gh_at (gm_me 232).1 52 = some (52, 1, .iaload, 0, 0, []) from rfl) rfl (by decide +kernel) (by decide +kernel) (gh_ix (N := 7) (by decide +kernel) (by omega) (by omega)) (gh_rd0 (gh_pk0 (by decide +kernel) _)) ?_
      rw [show ((K : Int)).toNat = K by omega]
      show gp_ok _ _ _ _ _ _ _ [.inl (σ 266 K), .inl (σ 266 E)] _
      refine gh_icmp (show gh_at (gm_me 232).1 53 = some (53, 3, .if_icmp .ge (9), 0, 62, []) from rfl) (fun hc => ?_) (fun hc => ?_)
      · have hc : σ 266 K ≤ σ 266 E := hc
        have hne := hD K E (by omega) (by omega)
        refine gh_aload_n (show gh_at (gm_me 232).1 62 = some (62, 1, .aload_n 0, 0, 0, []) from rfl) rfl rfl ?_
        refine gh_iload_n (show gh_at (gm_me 232).1 63 = some (63, 1, .iload_n 2, 0, 0, []) from rfl) rfl ?_
        refine gh_iload_n (show gh_at (gm_me 232).1 64 = some (64, 1, .iload_n 3, 0, 0, []) from rfl) rfl ?_
        refine gh_callV (r := 1891) (as := [.inl (K : Int), .inl (E : Int)]) (t := []) (show gh_at (gm_me 232).1 65 = some (65, 3, .invokevirtual 448, 233, 0, [(0, 1984)]) from rfl) (by decide) rfl (by show 3 = _; decide +kernel) (Nat.le_trans (gh_wd _) (Nat.le_of_ble_eq_true rfl)) rfl (by decide +kernel) (by decide +kernel) (Ψ := fun v σ9 => σ9 = (gp_up (gp_up σ 266 K (σ 266 E)) 266 E (σ 266 K))) (gz_swapO (d := 0) (by omega) (by omega) rfl) gh_mono (fun v σ9 hv => ?_)
        rw [show gm_rc 233 = 0 by decide +kernel]
        subst hv
        show gp_ok _ _ _ _ _ _ _ [] (gp_up (gp_up σ 266 K (σ 266 E)) 266 E (σ 266 K))
        have W4 : gt_W (gs_wm b f) (gp_up (gp_up σ 266 K (σ 266 E)) 266 E (σ 266 K)) := gd_swW hW (by omega) (by omega)
        have F4 : gt_fr gs_oml σ (gp_up (gp_up σ 266 K (σ 266 E)) 266 E (σ 266 K)) := gh_fu (gh_fu gh_f0 (gb_mo_mem _ (by decide))) (gb_mo_mem _ (by decide))
        have D4 : gd_d n ((gp_up (gp_up σ 266 K (σ 266 E)) 266 E (σ 266 K)) 266) := gd_dsw hD (by omega) (by omega)
        have p4 : ∀ j, j < K → (gp_up (gp_up σ 266 K (σ 266 E)) 266 E (σ 266 K)) 266 j = σ 266 j := fun j hj => by rw [gd_sw, if_neg (by omega), if_neg (by omega)]
        have l4 : σ 266 K < (gp_up (gp_up σ 266 K (σ 266 E)) 266 E (σ 266 K)) 266 K := by rw [gd_sw, if_neg (by omega), if_pos rfl]; omega
        generalize (gp_up (gp_up σ 266 K (σ 266 E)) 266 E (σ 266 K)) = σ4 at W4 F4 D4 p4 l4 ⊢
        refine gh_iconst (x := 1) (show gh_at (gm_me 232).1 68 = some (68, 1, .iconst 1, 8, 0, []) from rfl) (by decide) ?_
        refine gh_istore (show gh_at (gm_me 232).1 69 = some (69, 2, .istore 4, 0, 0, []) from rfl) (fun c q => by cases q <;> decide) rfl ?_
        exact third K E σ4 hK (gd_lt (k := K) (by omega) (fun j hj => gm_or hW hj) (fun j hj => gm_or W4 hj) p4 l4) (fun j hj => gm_or hW hj) p4 l4 n 1 σ4 (by omega) (by omega) (by omega) W4 F4 D4 (fun _ _ => rfl)
      · have hc : ¬ σ 266 K ≤ σ 266 E := hc
        have hne : ¬ E = K + 1 := fun q => by subst q; omega
        omega
    | succ m ih =>
      intro E hm h1 h2
      refine gh_aload_n (show gh_at (gm_me 232).1 41 = some (41, 1, .aload_n 0, 0, 0, []) from rfl) rfl rfl ?_
      refine gh_get (show gh_at (gm_me 232).1 42 = some (42, 3, .getfield 109, 1, 49, [(0, 1490)]) from rfl) rfl (by decide +kernel) (by decide +kernel) (gh_rdr (r := 2131) (by decide +kernel) rfl) ?_
      refine gh_iload_n (show gh_at (gm_me 232).1 45 = some (45, 1, .iload_n 3, 0, 0, []) from rfl) rfl ?_
      refine gh_iald (show gh_at (gm_me 232).1 46 = some (46, 1, .iaload, 0, 0, []) from rfl) rfl (by decide +kernel) (by decide +kernel) (gh_ix (N := 7) (by decide +kernel) (by omega) (by omega)) (gh_rd0 (gh_pk0 (by decide +kernel) _)) ?_
      rw [show ((E : Int)).toNat = E by omega]
      show gp_ok _ _ _ _ _ _ _ [.inl (σ 266 E)] _
      refine gh_aload_n (show gh_at (gm_me 232).1 47 = some (47, 1, .aload_n 0, 0, 0, []) from rfl) rfl rfl ?_
      refine gh_get (show gh_at (gm_me 232).1 48 = some (48, 3, .getfield 109, 1, 49, [(0, 1490)]) from rfl) rfl (by decide +kernel) (by decide +kernel) (gh_rdr (r := 2131) (by decide +kernel) rfl) ?_
      refine gh_iload_n (show gh_at (gm_me 232).1 51 = some (51, 1, .iload_n 2, 0, 0, []) from rfl) rfl ?_
      refine gh_iald (show gh_at (gm_me 232).1 52 = some (52, 1, .iaload, 0, 0, []) from rfl) rfl (by decide +kernel) (by decide +kernel) (gh_ix (N := 7) (by decide +kernel) (by omega) (by omega)) (gh_rd0 (gh_pk0 (by decide +kernel) _)) ?_
      rw [show ((K : Int)).toNat = K by omega]
      show gp_ok _ _ _ _ _ _ _ [.inl (σ 266 K), .inl (σ 266 E)] _
      refine gh_icmp (show gh_at (gm_me 232).1 53 = some (53, 3, .if_icmp .ge (9), 0, 62, []) from rfl) (fun hc => ?_) (fun hc => ?_)
      · have hc : σ 266 K ≤ σ 266 E := hc
        have hne := hD K E (by omega) (by omega)
        refine gh_aload_n (show gh_at (gm_me 232).1 62 = some (62, 1, .aload_n 0, 0, 0, []) from rfl) rfl rfl ?_
        refine gh_iload_n (show gh_at (gm_me 232).1 63 = some (63, 1, .iload_n 2, 0, 0, []) from rfl) rfl ?_
        refine gh_iload_n (show gh_at (gm_me 232).1 64 = some (64, 1, .iload_n 3, 0, 0, []) from rfl) rfl ?_
        refine gh_callV (r := 1891) (as := [.inl (K : Int), .inl (E : Int)]) (t := []) (show gh_at (gm_me 232).1 65 = some (65, 3, .invokevirtual 448, 233, 0, [(0, 1984)]) from rfl) (by decide) rfl (by show 3 = _; decide +kernel) (Nat.le_trans (gh_wd _) (Nat.le_of_ble_eq_true rfl)) rfl (by decide +kernel) (by decide +kernel) (Ψ := fun v σ9 => σ9 = (gp_up (gp_up σ 266 K (σ 266 E)) 266 E (σ 266 K))) (gz_swapO (d := 0) (by omega) (by omega) rfl) gh_mono (fun v σ9 hv => ?_)
        rw [show gm_rc 233 = 0 by decide +kernel]
        subst hv
        show gp_ok _ _ _ _ _ _ _ [] (gp_up (gp_up σ 266 K (σ 266 E)) 266 E (σ 266 K))
        have W4 : gt_W (gs_wm b f) (gp_up (gp_up σ 266 K (σ 266 E)) 266 E (σ 266 K)) := gd_swW hW (by omega) (by omega)
        have F4 : gt_fr gs_oml σ (gp_up (gp_up σ 266 K (σ 266 E)) 266 E (σ 266 K)) := gh_fu (gh_fu gh_f0 (gb_mo_mem _ (by decide))) (gb_mo_mem _ (by decide))
        have D4 : gd_d n ((gp_up (gp_up σ 266 K (σ 266 E)) 266 E (σ 266 K)) 266) := gd_dsw hD (by omega) (by omega)
        have p4 : ∀ j, j < K → (gp_up (gp_up σ 266 K (σ 266 E)) 266 E (σ 266 K)) 266 j = σ 266 j := fun j hj => by rw [gd_sw, if_neg (by omega), if_neg (by omega)]
        have l4 : σ 266 K < (gp_up (gp_up σ 266 K (σ 266 E)) 266 E (σ 266 K)) 266 K := by rw [gd_sw, if_neg (by omega), if_pos rfl]; omega
        generalize (gp_up (gp_up σ 266 K (σ 266 E)) 266 E (σ 266 K)) = σ4 at W4 F4 D4 p4 l4 ⊢
        refine gh_iconst (x := 1) (show gh_at (gm_me 232).1 68 = some (68, 1, .iconst 1, 8, 0, []) from rfl) (by decide) ?_
        refine gh_istore (show gh_at (gm_me 232).1 69 = some (69, 2, .istore 4, 0, 0, []) from rfl) (fun c q => by cases q <;> decide) rfl ?_
        exact third K E σ4 hK (gd_lt (k := K) (by omega) (fun j hj => gm_or hW hj) (fun j hj => gm_or W4 hj) p4 l4) (fun j hj => gm_or hW hj) p4 l4 n 1 σ4 (by omega) (by omega) (by omega) W4 F4 D4 (fun _ _ => rfl)
      · have hc : ¬ σ 266 K ≤ σ 266 E := hc
        have hne : ¬ E = K + 1 := fun q => by subst q; omega
        refine gh_iinc (show gh_at (gm_me 232).1 56 = some (56, 3, .iinc 3 (-1), 34359738360, 0, []) from rfl) rfl (fun c q => by cases q <;> decide) (y := ((E - 1 : Nat) : Int)) (by rw [gh_add (by unfold gh_r; omega) (by show gh_r (-1); unfold gh_r; omega) (by show gh_r ((E : Int) + -1); unfold gh_r; omega)]; show (E : Int) + -1 = _; omega) rfl ?_
        refine gh_goto (show gh_at (gm_me 232).1 59 = some (59, 3, .goto (-18), 0, 41, []) from rfl) ?_
        exact ih (E - 1) (by omega) (by omega) (by omega)
  have none : ∀ (x : Int), x < 0 → gp_ok gs_sh (gp_call gs_sh 1) 2 (gm_me 232).1 (fun v σ' => gt_W (gs_wm b f) σ' ∧ gt_fr gs_oml σ σ' ∧ gd_d n (σ' 266) ∧ (v = .inl 0 ∨ (v = .inl 1 ∧ gd_v σ < gd_v σ'))) 31 [.inr 1891, .inl (n : Int), .inl x, .inr 7, .inr 7] [] σ := by
    intro x hx
    refine gh_iload_n (show gh_at (gm_me 232).1 31 = some (31, 1, .iload_n 2, 0, 0, []) from rfl) rfl ?_
    refine gh_if (show gh_at (gm_me 232).1 32 = some (32, 3, .ifCond .ge (5), 0, 37, []) from rfl) (fun hc => absurd (show 0 ≤ x from hc) (by omega)) (fun hc => ?_)
    refine gh_iconst (x := 0) (show gh_at (gm_me 232).1 35 = some (35, 1, .iconst 0, 0, 0, []) from rfl) (by decide) ?_
    refine gh_iret (show gh_at (gm_me 232).1 36 = some (36, 1, .ireturn, 0, 0, []) from rfl) ?_
    exact Or.inr ⟨rfl, Or.inl rfl, hW, gh_f0, hD, Or.inl rfl⟩
  have first : ∀ (m : Nat) (x : Int), x + 1 ≤ m → -2 ≤ x → x + 2 ≤ n → gp_ok gs_sh (gp_call gs_sh 1) 2 (gm_me 232).1 (fun v σ' => gt_W (gs_wm b f) σ' ∧ gt_fr gs_oml σ σ' ∧ gd_d n (σ' 266) ∧ (v = .inl 0 ∨ (v = .inl 1 ∧ gd_v σ < gd_v σ'))) 4 [.inr 1891, .inl (n : Int), .inl x, .inr 7, .inr 7] [] σ := by
    intro m
    induction m with
    | zero =>
      intro x hm h1 h2
      refine gh_iload_n (show gh_at (gm_me 232).1 4 = some (4, 1, .iload_n 2, 0, 0, []) from rfl) rfl ?_
      refine gh_if (show gh_at (gm_me 232).1 5 = some (5, 3, .ifCond .lt (26), 0, 31, []) from rfl) (fun hc => none x hc) (fun hc => ?_)
      have hc : ¬ x < 0 := hc
      omega
    | succ m ih =>
      intro x hm h1 h2
      refine gh_iload_n (show gh_at (gm_me 232).1 4 = some (4, 1, .iload_n 2, 0, 0, []) from rfl) rfl ?_
      refine gh_if (show gh_at (gm_me 232).1 5 = some (5, 3, .ifCond .lt (26), 0, 31, []) from rfl) (fun hc => none x hc) (fun hc => ?_)
      have hc : ¬ x < 0 := hc
      obtain ⟨K, rfl⟩ : ∃ K : Nat, x = (K : Int) := ⟨x.toNat, by omega⟩
      refine gh_aload_n (show gh_at (gm_me 232).1 8 = some (8, 1, .aload_n 0, 0, 0, []) from rfl) rfl rfl ?_
      refine gh_get (show gh_at (gm_me 232).1 9 = some (9, 3, .getfield 109, 1, 49, [(0, 1490)]) from rfl) rfl (by decide +kernel) (by decide +kernel) (gh_rdr (r := 2131) (by decide +kernel) rfl) ?_
      refine gh_iload_n (show gh_at (gm_me 232).1 12 = some (12, 1, .iload_n 2, 0, 0, []) from rfl) rfl ?_
      refine gh_iald (show gh_at (gm_me 232).1 13 = some (13, 1, .iaload, 0, 0, []) from rfl) rfl (by decide +kernel) (by decide +kernel) (gh_ix (N := 7) (by decide +kernel) (by omega) (by omega)) (gh_rd0 (gh_pk0 (by decide +kernel) _)) ?_
      rw [show ((K : Int)).toNat = K by omega]
      show gp_ok _ _ _ _ _ _ _ [.inl (σ 266 K)] _
      refine gh_aload_n (show gh_at (gm_me 232).1 14 = some (14, 1, .aload_n 0, 0, 0, []) from rfl) rfl rfl ?_
      refine gh_get (show gh_at (gm_me 232).1 15 = some (15, 3, .getfield 109, 1, 49, [(0, 1490)]) from rfl) rfl (by decide +kernel) (by decide +kernel) (gh_rdr (r := 2131) (by decide +kernel) rfl) ?_
      refine gh_iload_n (show gh_at (gm_me 232).1 18 = some (18, 1, .iload_n 2, 0, 0, []) from rfl) rfl ?_
      refine gh_iconst (x := 1) (show gh_at (gm_me 232).1 19 = some (19, 1, .iconst 1, 8, 0, []) from rfl) (by decide) ?_
      refine gh_iadd (z := ((K + 1 : Nat) : Int)) (show gh_at (gm_me 232).1 20 = some (20, 1, .iadd, 0, 0, []) from rfl) (by rw [gh_add (by unfold gh_r; omega) (by unfold gh_r; omega) (by unfold gh_r; omega)]; omega) ?_
      refine gh_iald (show gh_at (gm_me 232).1 21 = some (21, 1, .iaload, 0, 0, []) from rfl) rfl (by decide +kernel) (by decide +kernel) (gh_ix (N := 7) (by decide +kernel) (by omega) (by omega)) (gh_rd0 (gh_pk0 (by decide +kernel) _)) ?_
      rw [show (((K + 1 : Nat) : Int)).toNat = K + 1 by omega]
      show gp_ok _ _ _ _ _ _ _ [.inl (σ 266 (K + 1)), .inl (σ 266 K)] _
      refine gh_icmp (show gh_at (gm_me 232).1 22 = some (22, 3, .if_icmp .le (9), 0, 31, []) from rfl) (fun hd => ?_) (fun hd => ?_)
      · have hd : σ 266 K ≤ σ 266 (K + 1) := hd
        have hne := hD K (K + 1) (by omega) (by omega)
        refine gh_iload_n (show gh_at (gm_me 232).1 31 = some (31, 1, .iload_n 2, 0, 0, []) from rfl) rfl ?_
        refine gh_if (show gh_at (gm_me 232).1 32 = some (32, 3, .ifCond .ge (5), 0, 37, []) from rfl) (fun _ => ?_) (fun hc => absurd (show 0 ≤ (K : Int) by omega) hc)
        refine gh_iload_n (show gh_at (gm_me 232).1 37 = some (37, 1, .iload_n 1, 0, 0, []) from rfl) rfl ?_
        refine gh_iconst (x := 1) (show gh_at (gm_me 232).1 38 = some (38, 1, .iconst 1, 8, 0, []) from rfl) (by decide) ?_
        refine gh_isub (z := ((n - 1 : Nat) : Int)) (show gh_at (gm_me 232).1 39 = some (39, 1, .isub, 0, 0, []) from rfl) (by rw [gh_sub (by unfold gh_r; omega) (by unfold gh_r; omega) (by unfold gh_r; omega)]; omega) ?_
        refine gh_istore_n (show gh_at (gm_me 232).1 40 = some (40, 1, .istore_n 3, 0, 0, []) from rfl) (fun c q => by cases q <;> decide) rfl ?_
        exact second K (by omega) (by omega) n (n - 1) (by omega) (by omega) (by omega)
      · refine gh_iinc (show gh_at (gm_me 232).1 25 = some (25, 3, .iinc 2 (-1), 34359738360, 0, []) from rfl) rfl (fun c q => by cases q <;> decide) (y := (K : Int) + -1) (gh_add (by unfold gh_r; omega) (by show gh_r (-1); unfold gh_r; omega) (by show gh_r ((K : Int) + -1); unfold gh_r; omega)) rfl ?_
        refine gh_goto (show gh_at (gm_me 232).1 28 = some (28, 3, .goto (-24), 0, 4, []) from rfl) ?_
        exact ih _ (by omega) (by omega) (by omega)
  refine gh_iload_n (show gh_at (gm_me 232).1 0 = some (0, 1, .iload_n 1, 0, 0, []) from rfl) rfl ?_
  refine gh_iconst (x := 2) (show gh_at (gm_me 232).1 1 = some (1, 1, .iconst 2, 16, 0, []) from rfl) (by decide) ?_
  refine gh_isub (z := (n : Int) - 2) (show gh_at (gm_me 232).1 2 = some (2, 1, .isub, 0, 0, []) from rfl) (gh_sub (by unfold gh_r; omega) (by unfold gh_r; omega) (by unfold gh_r; omega)) ?_
  refine gh_istore_n (show gh_at (gm_me 232).1 3 = some (3, 1, .istore_n 2, 0, 0, []) from rfl) (fun c q => by cases q <;> decide) rfl ?_
  exact first n _ (by omega) (by omega) (by omega)
