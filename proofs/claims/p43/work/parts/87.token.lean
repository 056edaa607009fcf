/-! sign, goOn -/
section GHc
variable {sh : Nat → gp_T} {call : gp_K} {rc : Nat} {code : List ga_E} {Φ : gp_F} {pc ln a b : Nat} {ps : List (Nat × Nat)} {al sk : List gp_V} {σ : gp_S}
theorem gh_putl {k r t c : Nat} (hc : gh_at code pc = some (pc, ln, .putfield k, a, b, (2, t) :: ps)) (h3 : r % 8 = 3) (hk : (sh (r / 8)).1 = a) (hb : b < (sh (r / 8)).2.1) (hp : gp_pk sh (r / 8) b = 5) (h5 : c % 8 = 5) (h : gp_ok sh call rc code Φ (pc + ln) al sk (gp_up σ (r / 8) b ((c / 8 : Nat) : Int))) : gp_ok sh call rc code Φ pc al (.inr c :: .inr r :: sk) σ := gh_step hc ⟨h3, hk, hb, h5, hp, rfl, h⟩
theorem gh_lconst {k : Fin 2} (hc : gh_at code pc = some (pc, ln, .lconst k, a, b, ps)) (h : gp_ok sh call rc code Φ (pc + ln) al (.inr a :: sk) σ) : gp_ok sh call rc code Φ pc al sk σ := gh_step hc h
theorem gh_i2l {x : Int} (hc : gh_at code pc = some (pc, ln, .i2l, a, b, ps)) (h : ∀ L : Nat, gp_ok sh call rc code Φ (pc + ln) al (.inr (8 * L + 5) :: sk) σ) : gp_ok sh call rc code Φ pc al (.inl x :: sk) σ := gh_step hc (fun L _ => h L)
theorem gh_lor {x y : Nat} (hc : gh_at code pc = some (pc, ln, .lor, a, b, ps)) (hx : x % 8 = 5) (hy : y % 8 = 5) (h : ∀ L : Nat, gp_ok sh call rc code Φ (pc + ln) al (.inr (8 * L + 5) :: sk) σ) : gp_ok sh call rc code Φ pc al (.inr y :: .inr x :: sk) σ := gh_step hc ⟨gp_lng_of hy, gp_lng_of hx, fun L _ => h L⟩
theorem gh_lshl {x : Nat} {n : Int} (hc : gh_at code pc = some (pc, ln, .lshl, a, b, ps)) (hx : x % 8 = 5) (h : ∀ L : Nat, gp_ok sh call rc code Φ (pc + ln) al (.inr (8 * L + 5) :: sk) σ) : gp_ok sh call rc code Φ pc al (.inl n :: .inr x :: sk) σ := gh_step hc ⟨gp_lng_of hx, fun L _ => h L⟩
theorem gh_bald1 {r : Nat} {i : Int} {v : gp_V} (hc : gh_at code pc = some (pc, ln, .baload, 101, b, ps)) (h3 : r % 8 = 3) (hk : (sh (r / 8)).1 = 101) (hn : (sh (r / 8)).2.1 < 1048577) (hi : 0 ≤ i ∧ i.toNat < (sh (r / 8)).2.1) (hv : gp_rd sh σ (r / 8) i.toNat = v) (h : gp_ok sh call rc code Φ (pc + ln) al (v :: sk) σ) : gp_ok sh call rc code Φ pc al (.inl i :: .inr r :: sk) σ := gh_step hc ⟨h3, hk, hi.1, hi.2, hn, by subst hv; exact h⟩
theorem gh_bast1 {r : Nat} {i x y : Int} (hc : gh_at code pc = some (pc, ln, .bastore, 101, b, ps)) (h3 : r % 8 = 3) (hk : (sh (r / 8)).1 = 101) (hn : (sh (r / 8)).2.1 < 1048577) (hi : 0 ≤ i ∧ i.toNat < (sh (r / 8)).2.1) (hp : gp_pk sh (r / 8) i.toNat = 0) (hy : gp_b1 (fun x => x.toInt8.toInt32) x = y) (h : gp_ok sh call rc code Φ (pc + ln) al sk (gp_up σ (r / 8) i.toNat y)) : gp_ok sh call rc code Φ pc al (.inl x :: .inl i :: .inr r :: sk) σ := gh_step hc (show gp_ast sh 101 (gp_b1 (fun x => x.toInt8.toInt32)) (fun _ => True) (fun sk σ => gp_ok sh call rc code Φ (pc + ln) al sk σ) (.inl x :: .inl i :: .inr r :: sk) σ from ⟨trivial, h3, hk, hi.1, hi.2, hn, hp, by subst hy; exact h⟩)
end GHc
/-- the sign that stands there -/
def gn_sg (σ : gp_S) (k : Int) : Int := if k < σ 236 3 then gp_b2 (fun x y => x &&& y) (σ 238 k.toNat) 255 else 0
theorem gn_sgr (σ : gp_S) (k : Int) : gh_r (gn_sg σ k) := by
  unfold gn_sg
  split
  · exact gh_b2_r _ _ _
  · unfold gh_r; omega
def gs_tok : List (Nat × Nat) := [(236, 6), (236, 7), (236, 8), (236, 9), (236, 10)]
theorem gn_sge {σ σ' : gp_S} (h : gt_fr gs_tok σ σ') (k : Int) : gn_sg σ' k = gn_sg σ k := by
  unfold gn_sg
  rw [h 236 3 rfl, h 238 k.toNat rfl]
theorem gm_size {b f : Nat} {σ : gp_S} (hW : gt_W (gs_wm b f) σ) : 0 ≤ σ 236 3 ∧ σ 236 3 ≤ 1600 := by
  have h := (gh_tv (gh_Wg hW 236 3 (t := 73786976312018088450) (by show ¬ 1 = 999; decide) (by show 3 < 65; decide) rfl (by decide))).2
  omega
theorem gm_end {b f : Nat} {σ : gp_S} (hW : gt_W (gs_wm b f) σ) : 0 ≤ σ 236 7 := by
  have h := (gh_tv (gh_Wg hW 236 7 (t := 73786976312018088458) (by show ¬ 1 = 999; decide) (by show 7 < 65; decide) rfl (by decide))).2
  omega
theorem gm_atr {b f : Nat} {σ : gp_S} (hW : gt_W (gs_wm b f) σ) : 0 ≤ σ 236 6 ∧ σ 236 6 ≤ 1600 := by
  have h := (gh_tv (gh_Wg hW 236 6 (t := 73786976312018088450) (by show ¬ 1 = 999; decide) (by show 6 < 65; decide) rfl (by decide))).2
  omega
theorem gz_sign {b f d : Nat} {σ : gp_S} {Φ : gp_F} {k : Int} (hW : gt_W (gs_wm b f) σ) (h0 : 0 ≤ k) (h : Φ (.inl (gn_sg σ k)) σ) : gp_call gs_sh (d + 1) 180 [.inr 1891, .inl k] σ Φ := by
  refine gh_call (al := [.inr 1891, .inl k]) (by decide +kernel) (by show 2 = _; decide +kernel) (by rw [show (gm_me 180).2.1 = 0 by decide +kernel]; rfl) (by show 2 = _; decide +kernel) ?_
  rw [show gm_rc 180 = 1 by decide +kernel]
  have hs := gm_size hW
  refine gh_iload_n (show gh_at (gm_me 180).1 0 = some (0, 1, .iload_n 1, 0, 0, []) from rfl) rfl ?_
  refine gh_aload_n (show gh_at (gm_me 180).1 1 = some (1, 1, .aload_n 0, 0, 0, []) from rfl) rfl rfl ?_
  refine gh_get (show gh_at (gm_me 180).1 2 = some (2, 3, .getfield 155, 1, 3, [(0, 1444)]) from rfl) rfl (by decide +kernel) (by decide +kernel) (gh_rd0 (by decide +kernel)) ?_
  show gp_ok _ _ _ _ _ _ _ (.inl (σ 236 3) :: _) _
  refine gh_icmp (show gh_at (gm_me 180).1 5 = some (5, 3, .if_icmp .ge (16), 0, 21, []) from rfl) (fun hc => ?_) (fun hc => ?_)
  · have hc : σ 236 3 ≤ k := hc
    refine gh_iconst (x := 0) (show gh_at (gm_me 180).1 21 = some (21, 1, .iconst 0, 0, 0, []) from rfl) (by decide) ?_
    refine gh_iret (show gh_at (gm_me 180).1 22 = some (22, 1, .ireturn, 0, 0, []) from rfl) ?_
    exact Or.inl ⟨rfl, by have e : gn_sg σ k = 0 := if_neg (by omega); rw [e] at h; exact h⟩
  · have hc : ¬ σ 236 3 ≤ k := hc
    refine gh_aload_n (show gh_at (gm_me 180).1 8 = some (8, 1, .aload_n 0, 0, 0, []) from rfl) rfl rfl ?_
    refine gh_get (show gh_at (gm_me 180).1 9 = some (9, 3, .getfield 13, 1, 1, [(0, 1442)]) from rfl) rfl (by decide +kernel) (by decide +kernel) (gh_rdr (r := 1907) (by decide +kernel) rfl) ?_
    refine gh_iload_n (show gh_at (gm_me 180).1 12 = some (12, 1, .iload_n 1, 0, 0, []) from rfl) rfl ?_
    refine gh_bald1 (show gh_at (gm_me 180).1 13 = some (13, 1, .baload, 101, 0, []) from rfl) rfl (by decide +kernel) (by decide +kernel) (gh_ix (N := 1600) (by decide +kernel) (by omega) (by omega)) (gh_rd0 (gh_pk0 (by decide +kernel) _)) ?_
    show gp_ok _ _ _ _ _ _ _ [.inl (σ 238 k.toNat)] σ
    refine gh_sipush (x := 255) (show gh_at (gm_me 180).1 14 = some (14, 3, .sipush (255), 2040, 0, []) from rfl) (by decide) ?_
    refine gh_iand (z := gp_b2 (fun x y => x &&& y) (σ 238 k.toNat) 255) (show gh_at (gm_me 180).1 17 = some (17, 1, .iand, 0, 0, []) from rfl) (rfl) ?_
    refine gh_goto (show gh_at (gm_me 180).1 18 = some (18, 3, .goto (4), 0, 22, []) from rfl) ?_
    refine gh_iret (show gh_at (gm_me 180).1 22 = some (22, 1, .ireturn, 0, 0, []) from rfl) ?_
    exact Or.inl ⟨rfl, by have e : gn_sg σ k = gp_b2 (fun x y => x &&& y) (σ 238 k.toNat) 255 := if_pos (by omega); rw [e] at h; exact h⟩
theorem gz_digit {d : Nat} {c : Int} {σ : gp_S} {Φ : gp_F} (h1 : 48 ≤ c ∧ c ≤ 57 → Φ (.inl 1) σ) (h0 : ¬ (48 ≤ c ∧ c ≤ 57) → Φ (.inl 0) σ) : gp_call gs_sh (d + 1) 190 [.inl c] σ Φ := by
  refine gh_call (al := [.inl c]) (by decide +kernel) (by show 1 = _; decide +kernel) (by rw [show (gm_me 190).2.1 = 0 by decide +kernel]; rfl) (by show 1 = _; decide +kernel) ?_
  rw [show gm_rc 190 = 2 by decide +kernel]
  refine gh_iload_n (show gh_at (gm_me 190).1 0 = some (0, 1, .iload_n 0, 0, 0, []) from rfl) rfl ?_
  refine gh_bipush (x := 48) (show gh_at (gm_me 190).1 1 = some (1, 2, .bipush (48), 384, 0, []) from rfl) (by decide) ?_
  refine gh_icmp (show gh_at (gm_me 190).1 3 = some (3, 3, .if_icmp .lt (13), 0, 16, []) from rfl) (fun hc => ?_) (fun hc => ?_)
  · refine gh_iconst (x := 0) (show gh_at (gm_me 190).1 16 = some (16, 1, .iconst 0, 0, 0, []) from rfl) (by decide) ?_
    refine gh_iret (show gh_at (gm_me 190).1 17 = some (17, 1, .ireturn, 0, 0, []) from rfl) ?_
    exact Or.inr ⟨rfl, Or.inl rfl, h0 (by have q : c < 48 := hc; omega)⟩
  · refine gh_iload_n (show gh_at (gm_me 190).1 6 = some (6, 1, .iload_n 0, 0, 0, []) from rfl) rfl ?_
    refine gh_bipush (x := 57) (show gh_at (gm_me 190).1 7 = some (7, 2, .bipush (57), 456, 0, []) from rfl) (by decide) ?_
    refine gh_icmp (show gh_at (gm_me 190).1 9 = some (9, 3, .if_icmp .gt (7), 0, 16, []) from rfl) (fun hc2 => ?_) (fun hc2 => ?_)
    · refine gh_iconst (x := 0) (show gh_at (gm_me 190).1 16 = some (16, 1, .iconst 0, 0, 0, []) from rfl) (by decide) ?_
      refine gh_iret (show gh_at (gm_me 190).1 17 = some (17, 1, .ireturn, 0, 0, []) from rfl) ?_
      exact Or.inr ⟨rfl, Or.inl rfl, h0 (by have q : 57 < c := hc2; omega)⟩
    · refine gh_iconst (x := 1) (show gh_at (gm_me 190).1 12 = some (12, 1, .iconst 1, 8, 0, []) from rfl) (by decide) ?_
      refine gh_goto (show gh_at (gm_me 190).1 13 = some (13, 3, .goto (4), 0, 17, []) from rfl) ?_
      refine gh_iret (show gh_at (gm_me 190).1 17 = some (17, 1, .ireturn, 0, 0, []) from rfl) ?_
      exact Or.inr ⟨rfl, Or.inr rfl, h1 (by have q1 : ¬ c < 48 := hc; have q2 : ¬ 57 < c := hc2; omega)⟩
/-- isSign -/
def cm_60 (_ : Nat) : gt_K := (193, 1, [34359738362], [], 73786976312018075658, [])
def cs_60 : List (Nat × List gb_N) := []
theorem cn_60 {b f : Nat} (hb : b < 2) (hf : f < 8) : gt_KC gs_sh (gs_wm b f) (fun _ => True) (cm_60 f) := by
  have h : gs_all (fun i => gt_chk gm_me (gs_wm (i / 8) (i % 8)) [] (gs_as cs_60) [] 3000 (cm_60 (i % 8))) 16 = true := by decide +kernel
  have h1 := gs_all_ok h (8 * b + f) (by omega)
  rw [show (8 * b + f) / 8 = b by omega, show (8 * b + f) % 8 = f by omega] at h1
  exact gt_chk_ok (gs_hm hb hf) (fun _ _ _ _ => trivial) gs_inc (fun _ h => absurd h List.not_mem_nil) (by show 0 < 1; decide) (fun p hp => by cases hp) h1

theorem gh_lload_n {sh : Nat → gp_T} {call : gp_K} {rc : Nat} {code : List ga_E} {Φ : gp_F} {pc ln a b : Nat} {ps : List (Nat × Nat)} {al sk : List gp_V} {σ : gp_S} {k : Fin 4} {c : Nat} (hc : gh_at code pc = some (pc, ln, .lload_n k, a, b, ps)) (hv : al[k.val]? = some (.inr c)) (h5 : c % 8 = 5) (h : gp_ok sh call rc code Φ (pc + ln) al (.inr c :: sk) σ) : gp_ok sh call rc code Φ pc al sk σ := by
  refine gh_step hc ?_
  show gp_ld gp_lng k.val (fun v => gp_ok sh call rc code Φ (pc + ln) al (v :: sk) σ) al
  unfold gp_ld
  rw [hv]
  exact ⟨gp_lng_of h5, h⟩
theorem gz_kept {d : Nat} {c : Nat} {σ : gp_S} {Φ : gp_F} (h5 : c % 8 = 5) (h : ∀ z : Int, z = 0 ∨ z = 1 → Φ (.inl z) σ) : gp_call gs_sh (d + 1) 192 [.inr c] σ Φ := by
  refine gh_call (al := [.inr c, .inr 7, .inr 7]) (by decide +kernel) (by show 1 = _; decide +kernel) (by rw [show (gm_me 192).2.1 = 1 by decide +kernel]; show gp_ly [.inr c] _ = _; unfold gp_ly; rw [if_pos (gp_lng_of h5)]; rfl) (by show 3 = _; decide +kernel) ?_
  rw [show gm_rc 192 = 2 by decide +kernel]
  have l146 : ∀ w : gp_V, gp_ok gs_sh (gp_call gs_sh d) 2 (gm_me 192).1 Φ 146 [.inr c, .inr 7, w] [] σ := by
    intro w
    refine gh_iconst (x := 1) (show gh_at (gm_me 192).1 146 = some (146, 1, .iconst 1, 8, 0, []) from rfl) (by decide) ?_
    refine gh_goto (show gh_at (gm_me 192).1 147 = some (147, 3, .goto (4), 0, 151, []) from rfl) ?_
    refine gh_iret (show gh_at (gm_me 192).1 151 = some (151, 1, .ireturn, 0, 0, []) from rfl) ?_
    exact Or.inr ⟨rfl, Or.inr rfl, h 1 (Or.inr rfl)⟩
  have l72 : gp_ok gs_sh (gp_call gs_sh d) 2 (gm_me 192).1 Φ 72 [.inr c, .inr 7, .inr 7] [] σ := by
    refine gh_iconst (x := 1) (show gh_at (gm_me 192).1 72 = some (72, 1, .iconst 1, 8, 0, []) from rfl) (by decide) ?_
    refine gh_goto (show gh_at (gm_me 192).1 73 = some (73, 3, .goto (4), 0, 77, []) from rfl) ?_
    refine gh_istore_n (show gh_at (gm_me 192).1 77 = some (77, 1, .istore_n 2, 0, 0, []) from rfl) (fun c q => by cases q <;> decide) rfl ?_
    refine gh_iload_n (show gh_at (gm_me 192).1 78 = some (78, 1, .iload_n 2, 0, 0, []) from rfl) rfl ?_
    refine gh_if (show gh_at (gm_me 192).1 79 = some (79, 3, .ifCond .ne (67), 0, 146, []) from rfl) (fun _ => ?_) (fun q => absurd (show ¬ (1 : Int) = 0 by decide) q)
    exact l146 _
  refine gh_lload_n (show gh_at (gm_me 192).1 0 = some (0, 1, .lload_n 0, 0, 0, []) from rfl) rfl h5 ?_
  refine gh_ldc2 (show gh_at (gm_me 192).1 1 = some (1, 3, .ldc2_w 161, 3554809715621, 0, [(0, 1655)]) from rfl) ?_
  refine gh_lcmp (show gh_at (gm_me 192).1 4 = some (4, 1, .lcmp, 0, 0, []) from rfl) h5 (by decide) (fun z _ _ _ => ?_)
  refine gh_if (show gh_at (gm_me 192).1 5 = some (5, 3, .ifCond .eq (67), 0, 72, []) from rfl) (fun _ => l72) (fun _ => ?_)
  refine gh_lload_n (show gh_at (gm_me 192).1 8 = some (8, 1, .lload_n 0, 0, 0, []) from rfl) rfl h5 ?_
  refine gh_ldc2 (show gh_at (gm_me 192).1 9 = some (9, 3, .ldc2_w 163, 3998805076893, 0, [(0, 1656)]) from rfl) ?_
  refine gh_lcmp (show gh_at (gm_me 192).1 12 = some (12, 1, .lcmp, 0, 0, []) from rfl) h5 (by decide) (fun z _ _ _ => ?_)
  refine gh_if (show gh_at (gm_me 192).1 13 = some (13, 3, .ifCond .eq (59), 0, 72, []) from rfl) (fun _ => l72) (fun _ => ?_)
  refine gh_lload_n (show gh_at (gm_me 192).1 16 = some (16, 1, .lload_n 0, 0, 0, []) from rfl) rfl h5 ?_
  refine gh_ldc2 (show gh_at (gm_me 192).1 17 = some (17, 3, .ldc2_w 165, 15491890109, 0, [(0, 1657)]) from rfl) ?_
  refine gh_lcmp (show gh_at (gm_me 192).1 20 = some (20, 1, .lcmp, 0, 0, []) from rfl) h5 (by decide) (fun z _ _ _ => ?_)
  refine gh_if (show gh_at (gm_me 192).1 21 = some (21, 3, .ifCond .eq (51), 0, 72, []) from rfl) (fun _ => l72) (fun _ => ?_)
  refine gh_lload_n (show gh_at (gm_me 192).1 24 = some (24, 1, .lload_n 0, 0, 0, []) from rfl) rfl h5 ?_
  refine gh_ldc2 (show gh_at (gm_me 192).1 25 = some (25, 3, .ldc2_w 167, 13743401765, 0, [(0, 1658)]) from rfl) ?_
  refine gh_lcmp (show gh_at (gm_me 192).1 28 = some (28, 1, .lcmp, 0, 0, []) from rfl) h5 (by decide) (fun z _ _ _ => ?_)
  refine gh_if (show gh_at (gm_me 192).1 29 = some (29, 3, .ifCond .eq (43), 0, 72, []) from rfl) (fun _ => l72) (fun _ => ?_)
  refine gh_lload_n (show gh_at (gm_me 192).1 32 = some (32, 1, .lload_n 0, 0, 0, []) from rfl) rfl h5 ?_
  refine gh_ldc2 (show gh_at (gm_me 192).1 33 = some (33, 3, .ldc2_w 169, 13211732901, 0, [(0, 1659)]) from rfl) ?_
  refine gh_lcmp (show gh_at (gm_me 192).1 36 = some (36, 1, .lcmp, 0, 0, []) from rfl) h5 (by decide) (fun z _ _ _ => ?_)
  refine gh_if (show gh_at (gm_me 192).1 37 = some (37, 3, .ifCond .eq (35), 0, 72, []) from rfl) (fun _ => l72) (fun _ => ?_)
  refine gh_lload_n (show gh_at (gm_me 192).1 40 = some (40, 1, .lload_n 0, 0, 0, []) from rfl) rfl h5 ?_
  refine gh_ldc2 (show gh_at (gm_me 192).1 41 = some (41, 3, .ldc2_w 171, 14011796389, 0, [(0, 1660)]) from rfl) ?_
  refine gh_lcmp (show gh_at (gm_me 192).1 44 = some (44, 1, .lcmp, 0, 0, []) from rfl) h5 (by decide) (fun z _ _ _ => ?_)
  refine gh_if (show gh_at (gm_me 192).1 45 = some (45, 3, .ifCond .eq (27), 0, 72, []) from rfl) (fun _ => l72) (fun _ => ?_)
  refine gh_lload_n (show gh_at (gm_me 192).1 48 = some (48, 1, .lload_n 0, 0, 0, []) from rfl) rfl h5 ?_
  refine gh_ldc2 (show gh_at (gm_me 192).1 49 = some (49, 3, .ldc2_w 173, 856637996506013, 0, [(0, 1661)]) from rfl) ?_
  refine gh_lcmp (show gh_at (gm_me 192).1 52 = some (52, 1, .lcmp, 0, 0, []) from rfl) h5 (by decide) (fun z _ _ _ => ?_)
  refine gh_if (show gh_at (gm_me 192).1 53 = some (53, 3, .ifCond .eq (19), 0, 72, []) from rfl) (fun _ => l72) (fun _ => ?_)
  refine gh_lload_n (show gh_at (gm_me 192).1 56 = some (56, 1, .lload_n 0, 0, 0, []) from rfl) rfl h5 ?_
  refine gh_ldc2 (show gh_at (gm_me 192).1 57 = some (57, 3, .ldc2_w 175, 3416570684317, 0, [(0, 1662)]) from rfl) ?_
  refine gh_lcmp (show gh_at (gm_me 192).1 60 = some (60, 1, .lcmp, 0, 0, []) from rfl) h5 (by decide) (fun z _ _ _ => ?_)
  refine gh_if (show gh_at (gm_me 192).1 61 = some (61, 3, .ifCond .eq (11), 0, 72, []) from rfl) (fun _ => l72) (fun _ => ?_)
  refine gh_lload_n (show gh_at (gm_me 192).1 64 = some (64, 1, .lload_n 0, 0, 0, []) from rfl) rfl h5 ?_
  refine gh_ldc2 (show gh_at (gm_me 192).1 65 = some (65, 3, .ldc2_w 177, 3724458816413, 0, [(0, 1663)]) from rfl) ?_
  refine gh_lcmp (show gh_at (gm_me 192).1 68 = some (68, 1, .lcmp, 0, 0, []) from rfl) h5 (by decide) (fun z _ _ _ => ?_)
  refine gh_if (show gh_at (gm_me 192).1 69 = some (69, 3, .ifCond .ne (7), 0, 76, []) from rfl) (fun _ => ?_) (fun _ => l72)
  refine gh_iconst (x := 0) (show gh_at (gm_me 192).1 76 = some (76, 1, .iconst 0, 0, 0, []) from rfl) (by decide) ?_
  refine gh_istore_n (show gh_at (gm_me 192).1 77 = some (77, 1, .istore_n 2, 0, 0, []) from rfl) (fun c q => by cases q <;> decide) rfl ?_
  refine gh_iload_n (show gh_at (gm_me 192).1 78 = some (78, 1, .iload_n 2, 0, 0, []) from rfl) rfl ?_
  refine gh_if (show gh_at (gm_me 192).1 79 = some (79, 3, .ifCond .ne (67), 0, 146, []) from rfl) (fun q => absurd rfl q) (fun _ => ?_)
  refine gh_lload_n (show gh_at (gm_me 192).1 82 = some (82, 1, .lload_n 0, 0, 0, []) from rfl) rfl h5 ?_
  refine gh_ldc2 (show gh_at (gm_me 192).1 83 = some (83, 3, .ldc2_w 179, 13481741245, 0, [(0, 1664)]) from rfl) ?_
  refine gh_lcmp (show gh_at (gm_me 192).1 86 = some (86, 1, .lcmp, 0, 0, []) from rfl) h5 (by decide) (fun z _ _ _ => ?_)
  refine gh_if (show gh_at (gm_me 192).1 87 = some (87, 3, .ifCond .eq (59), 0, 146, []) from rfl) (fun _ => l146 _) (fun _ => ?_)
  refine gh_lload_n (show gh_at (gm_me 192).1 90 = some (90, 1, .lload_n 0, 0, 0, []) from rfl) rfl h5 ?_
  refine gh_ldc2 (show gh_at (gm_me 192).1 91 = some (91, 3, .ldc2_w 181, 14548677541, 0, [(0, 1665)]) from rfl) ?_
  refine gh_lcmp (show gh_at (gm_me 192).1 94 = some (94, 1, .lcmp, 0, 0, []) from rfl) h5 (by decide) (fun z _ _ _ => ?_)
  refine gh_if (show gh_at (gm_me 192).1 95 = some (95, 3, .ifCond .eq (51), 0, 146, []) from rfl) (fun _ => l146 _) (fun _ => ?_)
  refine gh_lload_n (show gh_at (gm_me 192).1 98 = some (98, 1, .lload_n 0, 0, 0, []) from rfl) rfl h5 ?_
  refine gh_ldc2 (show gh_at (gm_me 192).1 99 = some (99, 3, .ldc2_w 183, 962396737479469, 0, [(0, 1666)]) from rfl) ?_
  refine gh_lcmp (show gh_at (gm_me 192).1 102 = some (102, 1, .lcmp, 0, 0, []) from rfl) h5 (by decide) (fun z _ _ _ => ?_)
  refine gh_if (show gh_at (gm_me 192).1 103 = some (103, 3, .ifCond .eq (43), 0, 146, []) from rfl) (fun _ => l146 _) (fun _ => ?_)
  refine gh_lload_n (show gh_at (gm_me 192).1 106 = some (106, 1, .lload_n 0, 0, 0, []) from rfl) rfl h5 ?_
  refine gh_ldc2 (show gh_at (gm_me 192).1 107 = some (107, 3, .ldc2_w 185, 15488191397, 0, [(0, 1667)]) from rfl) ?_
  refine gh_lcmp (show gh_at (gm_me 192).1 110 = some (110, 1, .lcmp, 0, 0, []) from rfl) h5 (by decide) (fun z _ _ _ => ?_)
  refine gh_if (show gh_at (gm_me 192).1 111 = some (111, 3, .ifCond .eq (35), 0, 146, []) from rfl) (fun _ => l146 _) (fun _ => ?_)
  refine gh_lload_n (show gh_at (gm_me 192).1 114 = some (114, 1, .lload_n 0, 0, 0, []) from rfl) rfl h5 ?_
  refine gh_ldc2 (show gh_at (gm_me 192).1 115 = some (115, 3, .ldc2_w 187, 910031287198621, 0, [(0, 1668)]) from rfl) ?_
  refine gh_lcmp (show gh_at (gm_me 192).1 118 = some (118, 1, .lcmp, 0, 0, []) from rfl) h5 (by decide) (fun z _ _ _ => ?_)
  refine gh_if (show gh_at (gm_me 192).1 119 = some (119, 3, .ifCond .eq (27), 0, 146, []) from rfl) (fun _ => l146 _) (fun _ => ?_)
  refine gh_lload_n (show gh_at (gm_me 192).1 122 = some (122, 1, .lload_n 0, 0, 0, []) from rfl) rfl h5 ?_
  refine gh_ldc2 (show gh_at (gm_me 192).1 123 = some (123, 3, .ldc2_w 189, 228245, 0, [(0, 1669)]) from rfl) ?_
  refine gh_lcmp (show gh_at (gm_me 192).1 126 = some (126, 1, .lcmp, 0, 0, []) from rfl) h5 (by decide) (fun z _ _ _ => ?_)
  refine gh_if (show gh_at (gm_me 192).1 127 = some (127, 3, .ifCond .eq (19), 0, 146, []) from rfl) (fun _ => l146 _) (fun _ => ?_)
  refine gh_lload_n (show gh_at (gm_me 192).1 130 = some (130, 1, .lload_n 0, 0, 0, []) from rfl) rfl h5 ?_
  refine gh_ldc2 (show gh_at (gm_me 192).1 131 = some (131, 3, .ldc2_w 191, 51082021, 0, [(0, 1670)]) from rfl) ?_
  refine gh_lcmp (show gh_at (gm_me 192).1 134 = some (134, 1, .lcmp, 0, 0, []) from rfl) h5 (by decide) (fun z _ _ _ => ?_)
  refine gh_if (show gh_at (gm_me 192).1 135 = some (135, 3, .ifCond .eq (11), 0, 146, []) from rfl) (fun _ => l146 _) (fun _ => ?_)
  refine gh_lload_n (show gh_at (gm_me 192).1 138 = some (138, 1, .lload_n 0, 0, 0, []) from rfl) rfl h5 ?_
  refine gh_ldc2 (show gh_at (gm_me 192).1 139 = some (139, 3, .ldc2_w 193, 57899941, 0, [(0, 1671)]) from rfl) ?_
  refine gh_lcmp (show gh_at (gm_me 192).1 142 = some (142, 1, .lcmp, 0, 0, []) from rfl) h5 (by decide) (fun z _ _ _ => ?_)
  refine gh_if (show gh_at (gm_me 192).1 143 = some (143, 3, .ifCond .ne (7), 0, 150, []) from rfl) (fun _ => ?_) (fun _ => l146 _)
  refine gh_iconst (x := 0) (show gh_at (gm_me 192).1 150 = some (150, 1, .iconst 0, 0, 0, []) from rfl) (by decide) ?_
  refine gh_iret (show gh_at (gm_me 192).1 151 = some (151, 1, .ireturn, 0, 0, []) from rfl) ?_
  exact Or.inr ⟨rfl, Or.inl rfl, h 0 (Or.inl rfl)⟩
theorem gz_goOn {b f : Nat} {σ : gp_S} (hb : b < 2) (hf : f < 8) (hW : gt_W (gs_wm b f) σ) (hE : σ 236 7 ≤ σ 236 3) : gp_call gs_sh 3 179 [.inr 1891] σ (fun _ σ' => gt_W (gs_wm b f) σ' ∧ gt_fr gs_tok σ σ' ∧ σ' 236 7 ≤ σ 236 3 ∧ ((σ' 236 8 = 0 ∧ σ' 236 7 = σ 236 3) ∨ (¬ σ' 236 8 = 0 ∧ σ 236 7 < σ' 236 7))) := by
  refine gh_call (al := [.inr 1891, .inr 7, .inr 7]) (by decide +kernel) (by show 1 = _; decide +kernel) (by rw [show (gm_me 179).2.1 = 2 by decide +kernel]; rfl) (by show 3 = _; decide +kernel) ?_
  rw [show gm_rc 179 = 0 by decide +kernel]
  have hs := gm_size hW
  have he := gm_end hW
  obtain ⟨s, es⟩ : ∃ s : Int, σ 236 3 = s := ⟨_, rfl⟩
  obtain ⟨e0, ee⟩ : ∃ e0 : Int, σ 236 7 = e0 := ⟨_, rfl⟩
  rw [es] at hs hE
  rw [ee] at he hE
  have named : ∀ (a e : Int) (c : Int), e0 ≤ a → a < e → e ≤ s → ∀ (m : Nat) (σ1 : gp_S) (i : Int), e - i ≤ m → a ≤ i → i ≤ e → gt_W (gs_wm b f) σ1 → gt_fr gs_tok σ σ1 → σ1 236 6 = a → σ1 236 7 = e → gp_ok gs_sh (gp_call gs_sh 2) 0 (gm_me 179).1 (fun _ σ' => gt_W (gs_wm b f) σ' ∧ gt_fr gs_tok σ σ' ∧ σ' 236 7 ≤ σ 236 3 ∧ ((σ' 236 8 = 0 ∧ σ' 236 7 = σ 236 3) ∨ (¬ σ' 236 8 = 0 ∧ σ 236 7 < σ' 236 7))) 156 [.inr 1891, .inl c, .inl i] [] σ1 := by
    intro a e c ha hae hes m
    induction m with
    | zero =>
      intro σ1 i hm h1 h2 W1 F1 a1 e1
      have s1 : σ1 236 3 = s := (F1 236 3 rfl).trans es
      refine gh_iload_n (show gh_at (gm_me 179).1 156 = some (156, 1, .iload_n 2, 0, 0, []) from rfl) rfl ?_
      refine gh_aload_n (show gh_at (gm_me 179).1 157 = some (157, 1, .aload_n 0, 0, 0, []) from rfl) rfl rfl ?_
      refine gh_get (show gh_at (gm_me 179).1 158 = some (158, 3, .getfield 195, 1, 7, [(0, 1448)]) from rfl) rfl (by decide +kernel) (by decide +kernel) (gh_rd0 (by decide +kernel)) ?_
      rw [show σ1 (1891 / 8) 7 = e from e1]
      refine gh_icmp (show gh_at (gm_me 179).1 161 = some (161, 3, .if_icmp .ge (38), 0, 199, []) from rfl) (fun hc => ?_) (fun hc => ?_)
      · refine gh_aload_n (show gh_at (gm_me 179).1 199 = some (199, 1, .aload_n 0, 0, 0, []) from rfl) rfl rfl ?_
        refine gh_aload_n (show gh_at (gm_me 179).1 200 = some (200, 1, .aload_n 0, 0, 0, []) from rfl) rfl rfl ?_
        refine gh_get (show gh_at (gm_me 179).1 201 = some (201, 3, .getfield 195, 1, 7, [(0, 1448)]) from rfl) rfl (by decide +kernel) (by decide +kernel) (gh_rd0 (by decide +kernel)) ?_
        rw [show σ1 (1891 / 8) 7 = e from e1]
        refine gh_aload_n (show gh_at (gm_me 179).1 204 = some (204, 1, .aload_n 0, 0, 0, []) from rfl) rfl rfl ?_
        refine gh_get (show gh_at (gm_me 179).1 205 = some (205, 3, .getfield 198, 1, 6, [(0, 1447)]) from rfl) rfl (by decide +kernel) (by decide +kernel) (gh_rd0 (by decide +kernel)) ?_
        rw [show σ1 (1891 / 8) 6 = a from a1]
        refine gh_isub (z := e - a) (show gh_at (gm_me 179).1 208 = some (208, 1, .isub, 0, 0, []) from rfl) (gh_sub (by unfold gh_r; omega) (by unfold gh_r; omega) (by unfold gh_r; omega)) ?_
        refine gh_bipush (x := 8) (show gh_at (gm_me 179).1 209 = some (209, 2, .bipush (8), 64, 0, []) from rfl) (by decide) ?_
        refine gh_icmp (show gh_at (gm_me 179).1 211 = some (211, 3, .if_icmp .le (7), 0, 218, []) from rfl) (fun _ => ?_) (fun _ => ?_)
        · refine gh_aload_n (show gh_at (gm_me 179).1 218 = some (218, 1, .aload_n 0, 0, 0, []) from rfl) rfl rfl ?_
          refine gh_get (show gh_at (gm_me 179).1 219 = some (219, 3, .getfield 212, 1, 10, [(0, 1451)]) from rfl) rfl (by decide +kernel) (by decide +kernel) (gh_rdl (by decide +kernel)) ?_
          refine gh_callS (as := [.inr (8 * (σ1 236 10).toNat + 5)]) (t := [.inr 1891]) (show gh_at (gm_me 179).1 222 = some (222, 3, .invokestatic 216, 192, 0, [(0, 1652)]) from rfl) (by decide) rfl (by show 1 = _; decide +kernel) (by decide) (Ψ := fun v σ9 => σ9 = σ1 ∧ ∃ z : Int, v = .inl z) (gz_kept (d := 1) (by omega) (fun z _ => ⟨rfl, z, rfl⟩)) gh_mono (fun v σ9 hv => ?_)
          obtain ⟨e9, z, rfl⟩ := hv
          rw [e9, show gm_rc 192 = 2 by decide +kernel]
          refine gh_if (show gh_at (gm_me 179).1 225 = some (225, 3, .ifCond .eq (7), 0, 232, []) from rfl) (fun _ => ?_) (fun _ => ?_)
          · refine gh_iconst (x := 2) (show gh_at (gm_me 179).1 232 = some (232, 1, .iconst 2, 16, 0, []) from rfl) (by decide) ?_
            refine gh_put (show gh_at (gm_me 179).1 233 = some (233, 3, .putfield 205, 1, 8, [(0, 1449)]) from rfl) rfl (by decide +kernel) (by decide +kernel) (by decide +kernel) (Or.inl rfl) ?_
            show gp_ok _ _ _ _ _ _ _ _ (gp_up σ1 236 8 2)
            have W_1 : gt_W (gs_wm b f) (gp_up σ1 236 8 2) := gh_Wu W1 (c := 236) (j := 8) (x := 2) (fun _ => gh_any (by unfold gh_r; omega))
            have F_1 : gt_fr gs_tok σ (gp_up σ1 236 8 2) := gh_fu F1 (by decide +kernel)
            have q_1_0 : (gp_up σ1 236 8 2) 236 6 = a := (gh_up_ne (by decide)).trans a1
            have q_1_1 : (gp_up σ1 236 8 2) 236 7 = e := (gh_up_ne (by decide)).trans e1
            have q_1_2 : (gp_up σ1 236 8 2) 236 3 = s := (gh_up_ne (by decide)).trans s1
            have q_1 : (gp_up σ1 236 8 2) 236 8 = 2 := gh_up_eq _ _ _ _
            generalize (gp_up σ1 236 8 2) = σ_1 at W_1 F_1 q_1_0 q_1_1 q_1_2 q_1 ⊢
            refine gh_goto (show gh_at (gm_me 179).1 236 = some (236, 3, .goto (141), 0, 377, []) from rfl) ?_
            refine gh_ret (show gh_at (gm_me 179).1 377 = some (377, 1, .return_, 0, 0, []) from rfl) rfl ?_
            exact ⟨W_1, F_1, by rw [es, q_1_1]; omega, Or.inr ⟨fun q => absurd (q_1.symm.trans q) (by decide), by rw [ee, q_1_1]; omega⟩⟩
          · refine gh_iconst (x := 3) (show gh_at (gm_me 179).1 228 = some (228, 1, .iconst 3, 24, 0, []) from rfl) (by decide) ?_
            refine gh_goto (show gh_at (gm_me 179).1 229 = some (229, 3, .goto (4), 0, 233, []) from rfl) ?_
            refine gh_put (show gh_at (gm_me 179).1 233 = some (233, 3, .putfield 205, 1, 8, [(0, 1449)]) from rfl) rfl (by decide +kernel) (by decide +kernel) (by decide +kernel) (Or.inl rfl) ?_
            show gp_ok _ _ _ _ _ _ _ _ (gp_up σ1 236 8 3)
            have W_2 : gt_W (gs_wm b f) (gp_up σ1 236 8 3) := gh_Wu W1 (c := 236) (j := 8) (x := 3) (fun _ => gh_any (by unfold gh_r; omega))
            have F_2 : gt_fr gs_tok σ (gp_up σ1 236 8 3) := gh_fu F1 (by decide +kernel)
            have q_2_0 : (gp_up σ1 236 8 3) 236 6 = a := (gh_up_ne (by decide)).trans a1
            have q_2_1 : (gp_up σ1 236 8 3) 236 7 = e := (gh_up_ne (by decide)).trans e1
            have q_2_2 : (gp_up σ1 236 8 3) 236 3 = s := (gh_up_ne (by decide)).trans s1
            have q_2 : (gp_up σ1 236 8 3) 236 8 = 3 := gh_up_eq _ _ _ _
            generalize (gp_up σ1 236 8 3) = σ_2 at W_2 F_2 q_2_0 q_2_1 q_2_2 q_2 ⊢
            refine gh_goto (show gh_at (gm_me 179).1 236 = some (236, 3, .goto (141), 0, 377, []) from rfl) ?_
            refine gh_ret (show gh_at (gm_me 179).1 377 = some (377, 1, .return_, 0, 0, []) from rfl) rfl ?_
            exact ⟨W_2, F_2, by rw [es, q_2_1]; omega, Or.inr ⟨fun q => absurd (q_2.symm.trans q) (by decide), by rw [ee, q_2_1]; omega⟩⟩
        · refine gh_iconst (x := 1) (show gh_at (gm_me 179).1 214 = some (214, 1, .iconst 1, 8, 0, []) from rfl) (by decide) ?_
          refine gh_goto (show gh_at (gm_me 179).1 215 = some (215, 3, .goto (18), 0, 233, []) from rfl) ?_
          refine gh_put (show gh_at (gm_me 179).1 233 = some (233, 3, .putfield 205, 1, 8, [(0, 1449)]) from rfl) rfl (by decide +kernel) (by decide +kernel) (by decide +kernel) (Or.inl rfl) ?_
          show gp_ok _ _ _ _ _ _ _ _ (gp_up σ1 236 8 1)
          have W_3 : gt_W (gs_wm b f) (gp_up σ1 236 8 1) := gh_Wu W1 (c := 236) (j := 8) (x := 1) (fun _ => gh_any (by unfold gh_r; omega))
          have F_3 : gt_fr gs_tok σ (gp_up σ1 236 8 1) := gh_fu F1 (by decide +kernel)
          have q_3_0 : (gp_up σ1 236 8 1) 236 6 = a := (gh_up_ne (by decide)).trans a1
          have q_3_1 : (gp_up σ1 236 8 1) 236 7 = e := (gh_up_ne (by decide)).trans e1
          have q_3_2 : (gp_up σ1 236 8 1) 236 3 = s := (gh_up_ne (by decide)).trans s1
          have q_3 : (gp_up σ1 236 8 1) 236 8 = 1 := gh_up_eq _ _ _ _
          generalize (gp_up σ1 236 8 1) = σ_3 at W_3 F_3 q_3_0 q_3_1 q_3_2 q_3 ⊢
          refine gh_goto (show gh_at (gm_me 179).1 236 = some (236, 3, .goto (141), 0, 377, []) from rfl) ?_
          refine gh_ret (show gh_at (gm_me 179).1 377 = some (377, 1, .return_, 0, 0, []) from rfl) rfl ?_
          exact ⟨W_3, F_3, by rw [es, q_3_1]; omega, Or.inr ⟨fun q => absurd (q_3.symm.trans q) (by decide), by rw [ee, q_3_1]; omega⟩⟩
      · have hc : ¬ e ≤ i := hc
        refine gh_iload_n (show gh_at (gm_me 179).1 164 = some (164, 1, .iload_n 2, 0, 0, []) from rfl) rfl ?_
        refine gh_aload_n (show gh_at (gm_me 179).1 165 = some (165, 1, .aload_n 0, 0, 0, []) from rfl) rfl rfl ?_
        refine gh_get (show gh_at (gm_me 179).1 166 = some (166, 3, .getfield 198, 1, 6, [(0, 1447)]) from rfl) rfl (by decide +kernel) (by decide +kernel) (gh_rd0 (by decide +kernel)) ?_
        rw [show σ1 (1891 / 8) 6 = a from a1]
        refine gh_bipush (x := 8) (show gh_at (gm_me 179).1 169 = some (169, 2, .bipush (8), 64, 0, []) from rfl) (by decide) ?_
        refine gh_iadd (z := a + 8) (show gh_at (gm_me 179).1 171 = some (171, 1, .iadd, 0, 0, []) from rfl) (gh_add (by unfold gh_r; omega) (by unfold gh_r; omega) (by unfold gh_r; omega)) ?_
        refine gh_icmp (show gh_at (gm_me 179).1 172 = some (172, 3, .if_icmp .ge (27), 0, 199, []) from rfl) (fun _ => ?_) (fun _ => ?_)
        · refine gh_aload_n (show gh_at (gm_me 179).1 199 = some (199, 1, .aload_n 0, 0, 0, []) from rfl) rfl rfl ?_
          refine gh_aload_n (show gh_at (gm_me 179).1 200 = some (200, 1, .aload_n 0, 0, 0, []) from rfl) rfl rfl ?_
          refine gh_get (show gh_at (gm_me 179).1 201 = some (201, 3, .getfield 195, 1, 7, [(0, 1448)]) from rfl) rfl (by decide +kernel) (by decide +kernel) (gh_rd0 (by decide +kernel)) ?_
          rw [show σ1 (1891 / 8) 7 = e from e1]
          refine gh_aload_n (show gh_at (gm_me 179).1 204 = some (204, 1, .aload_n 0, 0, 0, []) from rfl) rfl rfl ?_
          refine gh_get (show gh_at (gm_me 179).1 205 = some (205, 3, .getfield 198, 1, 6, [(0, 1447)]) from rfl) rfl (by decide +kernel) (by decide +kernel) (gh_rd0 (by decide +kernel)) ?_
          rw [show σ1 (1891 / 8) 6 = a from a1]
          refine gh_isub (z := e - a) (show gh_at (gm_me 179).1 208 = some (208, 1, .isub, 0, 0, []) from rfl) (gh_sub (by unfold gh_r; omega) (by unfold gh_r; omega) (by unfold gh_r; omega)) ?_
          refine gh_bipush (x := 8) (show gh_at (gm_me 179).1 209 = some (209, 2, .bipush (8), 64, 0, []) from rfl) (by decide) ?_
          refine gh_icmp (show gh_at (gm_me 179).1 211 = some (211, 3, .if_icmp .le (7), 0, 218, []) from rfl) (fun _ => ?_) (fun _ => ?_)
          · refine gh_aload_n (show gh_at (gm_me 179).1 218 = some (218, 1, .aload_n 0, 0, 0, []) from rfl) rfl rfl ?_
            refine gh_get (show gh_at (gm_me 179).1 219 = some (219, 3, .getfield 212, 1, 10, [(0, 1451)]) from rfl) rfl (by decide +kernel) (by decide +kernel) (gh_rdl (by decide +kernel)) ?_
            refine gh_callS (as := [.inr (8 * (σ1 236 10).toNat + 5)]) (t := [.inr 1891]) (show gh_at (gm_me 179).1 222 = some (222, 3, .invokestatic 216, 192, 0, [(0, 1652)]) from rfl) (by decide) rfl (by show 1 = _; decide +kernel) (by decide) (Ψ := fun v σ9 => σ9 = σ1 ∧ ∃ z : Int, v = .inl z) (gz_kept (d := 1) (by omega) (fun z _ => ⟨rfl, z, rfl⟩)) gh_mono (fun v σ9 hv => ?_)
            obtain ⟨e9, z, rfl⟩ := hv
            rw [e9, show gm_rc 192 = 2 by decide +kernel]
            refine gh_if (show gh_at (gm_me 179).1 225 = some (225, 3, .ifCond .eq (7), 0, 232, []) from rfl) (fun _ => ?_) (fun _ => ?_)
            · refine gh_iconst (x := 2) (show gh_at (gm_me 179).1 232 = some (232, 1, .iconst 2, 16, 0, []) from rfl) (by decide) ?_
              refine gh_put (show gh_at (gm_me 179).1 233 = some (233, 3, .putfield 205, 1, 8, [(0, 1449)]) from rfl) rfl (by decide +kernel) (by decide +kernel) (by decide +kernel) (Or.inl rfl) ?_
              show gp_ok _ _ _ _ _ _ _ _ (gp_up σ1 236 8 2)
              have W_4 : gt_W (gs_wm b f) (gp_up σ1 236 8 2) := gh_Wu W1 (c := 236) (j := 8) (x := 2) (fun _ => gh_any (by unfold gh_r; omega))
              have F_4 : gt_fr gs_tok σ (gp_up σ1 236 8 2) := gh_fu F1 (by decide +kernel)
              have q_4_0 : (gp_up σ1 236 8 2) 236 6 = a := (gh_up_ne (by decide)).trans a1
              have q_4_1 : (gp_up σ1 236 8 2) 236 7 = e := (gh_up_ne (by decide)).trans e1
              have q_4_2 : (gp_up σ1 236 8 2) 236 3 = s := (gh_up_ne (by decide)).trans s1
              have q_4 : (gp_up σ1 236 8 2) 236 8 = 2 := gh_up_eq _ _ _ _
              generalize (gp_up σ1 236 8 2) = σ_4 at W_4 F_4 q_4_0 q_4_1 q_4_2 q_4 ⊢
              refine gh_goto (show gh_at (gm_me 179).1 236 = some (236, 3, .goto (141), 0, 377, []) from rfl) ?_
              refine gh_ret (show gh_at (gm_me 179).1 377 = some (377, 1, .return_, 0, 0, []) from rfl) rfl ?_
              exact ⟨W_4, F_4, by rw [es, q_4_1]; omega, Or.inr ⟨fun q => absurd (q_4.symm.trans q) (by decide), by rw [ee, q_4_1]; omega⟩⟩
            · refine gh_iconst (x := 3) (show gh_at (gm_me 179).1 228 = some (228, 1, .iconst 3, 24, 0, []) from rfl) (by decide) ?_
              refine gh_goto (show gh_at (gm_me 179).1 229 = some (229, 3, .goto (4), 0, 233, []) from rfl) ?_
              refine gh_put (show gh_at (gm_me 179).1 233 = some (233, 3, .putfield 205, 1, 8, [(0, 1449)]) from rfl) rfl (by decide +kernel) (by decide +kernel) (by decide +kernel) (Or.inl rfl) ?_
              show gp_ok _ _ _ _ _ _ _ _ (gp_up σ1 236 8 3)
              have W_5 : gt_W (gs_wm b f) (gp_up σ1 236 8 3) := gh_Wu W1 (c := 236) (j := 8) (x := 3) (fun _ => gh_any (by unfold gh_r; omega))
              have F_5 : gt_fr gs_tok σ (gp_up σ1 236 8 3) := gh_fu F1 (by decide +kernel)
              have q_5_0 : (gp_up σ1 236 8 3) 236 6 = a := (gh_up_ne (by decide)).trans a1
              have q_5_1 : (gp_up σ1 236 8 3) 236 7 = e := (gh_up_ne (by decide)).trans e1
              have q_5_2 : (gp_up σ1 236 8 3) 236 3 = s := (gh_up_ne (by decide)).trans s1
              have q_5 : (gp_up σ1 236 8 3) 236 8 = 3 := gh_up_eq _ _ _ _
              generalize (gp_up σ1 236 8 3) = σ_5 at W_5 F_5 q_5_0 q_5_1 q_5_2 q_5 ⊢
              refine gh_goto (show gh_at (gm_me 179).1 236 = some (236, 3, .goto (141), 0, 377, []) from rfl) ?_
              refine gh_ret (show gh_at (gm_me 179).1 377 = some (377, 1, .return_, 0, 0, []) from rfl) rfl ?_
              exact ⟨W_5, F_5, by rw [es, q_5_1]; omega, Or.inr ⟨fun q => absurd (q_5.symm.trans q) (by decide), by rw [ee, q_5_1]; omega⟩⟩
          · refine gh_iconst (x := 1) (show gh_at (gm_me 179).1 214 = some (214, 1, .iconst 1, 8, 0, []) from rfl) (by decide) ?_
            refine gh_goto (show gh_at (gm_me 179).1 215 = some (215, 3, .goto (18), 0, 233, []) from rfl) ?_
            refine gh_put (show gh_at (gm_me 179).1 233 = some (233, 3, .putfield 205, 1, 8, [(0, 1449)]) from rfl) rfl (by decide +kernel) (by decide +kernel) (by decide +kernel) (Or.inl rfl) ?_
            show gp_ok _ _ _ _ _ _ _ _ (gp_up σ1 236 8 1)
            have W_6 : gt_W (gs_wm b f) (gp_up σ1 236 8 1) := gh_Wu W1 (c := 236) (j := 8) (x := 1) (fun _ => gh_any (by unfold gh_r; omega))
            have F_6 : gt_fr gs_tok σ (gp_up σ1 236 8 1) := gh_fu F1 (by decide +kernel)
            have q_6_0 : (gp_up σ1 236 8 1) 236 6 = a := (gh_up_ne (by decide)).trans a1
            have q_6_1 : (gp_up σ1 236 8 1) 236 7 = e := (gh_up_ne (by decide)).trans e1
            have q_6_2 : (gp_up σ1 236 8 1) 236 3 = s := (gh_up_ne (by decide)).trans s1
            have q_6 : (gp_up σ1 236 8 1) 236 8 = 1 := gh_up_eq _ _ _ _
            generalize (gp_up σ1 236 8 1) = σ_6 at W_6 F_6 q_6_0 q_6_1 q_6_2 q_6 ⊢
            refine gh_goto (show gh_at (gm_me 179).1 236 = some (236, 3, .goto (141), 0, 377, []) from rfl) ?_
            refine gh_ret (show gh_at (gm_me 179).1 377 = some (377, 1, .return_, 0, 0, []) from rfl) rfl ?_
            exact ⟨W_6, F_6, by rw [es, q_6_1]; omega, Or.inr ⟨fun q => absurd (q_6.symm.trans q) (by decide), by rw [ee, q_6_1]; omega⟩⟩
        · omega
    | succ m ih =>
      intro σ1 i hm h1 h2 W1 F1 a1 e1
      have s1 : σ1 236 3 = s := (F1 236 3 rfl).trans es
      refine gh_iload_n (show gh_at (gm_me 179).1 156 = some (156, 1, .iload_n 2, 0, 0, []) from rfl) rfl ?_
      refine gh_aload_n (show gh_at (gm_me 179).1 157 = some (157, 1, .aload_n 0, 0, 0, []) from rfl) rfl rfl ?_
      refine gh_get (show gh_at (gm_me 179).1 158 = some (158, 3, .getfield 195, 1, 7, [(0, 1448)]) from rfl) rfl (by decide +kernel) (by decide +kernel) (gh_rd0 (by decide +kernel)) ?_
      rw [show σ1 (1891 / 8) 7 = e from e1]
      refine gh_icmp (show gh_at (gm_me 179).1 161 = some (161, 3, .if_icmp .ge (38), 0, 199, []) from rfl) (fun hc => ?_) (fun hc => ?_)
      · refine gh_aload_n (show gh_at (gm_me 179).1 199 = some (199, 1, .aload_n 0, 0, 0, []) from rfl) rfl rfl ?_
        refine gh_aload_n (show gh_at (gm_me 179).1 200 = some (200, 1, .aload_n 0, 0, 0, []) from rfl) rfl rfl ?_
        refine gh_get (show gh_at (gm_me 179).1 201 = some (201, 3, .getfield 195, 1, 7, [(0, 1448)]) from rfl) rfl (by decide +kernel) (by decide +kernel) (gh_rd0 (by decide +kernel)) ?_
        rw [show σ1 (1891 / 8) 7 = e from e1]
        refine gh_aload_n (show gh_at (gm_me 179).1 204 = some (204, 1, .aload_n 0, 0, 0, []) from rfl) rfl rfl ?_
        refine gh_get (show gh_at (gm_me 179).1 205 = some (205, 3, .getfield 198, 1, 6, [(0, 1447)]) from rfl) rfl (by decide +kernel) (by decide +kernel) (gh_rd0 (by decide +kernel)) ?_
        rw [show σ1 (1891 / 8) 6 = a from a1]
        refine gh_isub (z := e - a) (show gh_at (gm_me 179).1 208 = some (208, 1, .isub, 0, 0, []) from rfl) (gh_sub (by unfold gh_r; omega) (by unfold gh_r; omega) (by unfold gh_r; omega)) ?_
        refine gh_bipush (x := 8) (show gh_at (gm_me 179).1 209 = some (209, 2, .bipush (8), 64, 0, []) from rfl) (by decide) ?_
        refine gh_icmp (show gh_at (gm_me 179).1 211 = some (211, 3, .if_icmp .le (7), 0, 218, []) from rfl) (fun _ => ?_) (fun _ => ?_)
        · refine gh_aload_n (show gh_at (gm_me 179).1 218 = some (218, 1, .aload_n 0, 0, 0, []) from rfl) rfl rfl ?_
          refine gh_get (show gh_at (gm_me 179).1 219 = some (219, 3, .getfield 212, 1, 10, [(0, 1451)]) from rfl) rfl (by decide +kernel) (by decide +kernel) (gh_rdl (by decide +kernel)) ?_
          refine gh_callS (as := [.inr (8 * (σ1 236 10).toNat + 5)]) (t := [.inr 1891]) (show gh_at (gm_me 179).1 222 = some (222, 3, .invokestatic 216, 192, 0, [(0, 1652)]) from rfl) (by decide) rfl (by show 1 = _; decide +kernel) (by decide) (Ψ := fun v σ9 => σ9 = σ1 ∧ ∃ z : Int, v = .inl z) (gz_kept (d := 1) (by omega) (fun z _ => ⟨rfl, z, rfl⟩)) gh_mono (fun v σ9 hv => ?_)
          obtain ⟨e9, z, rfl⟩ := hv
          rw [e9, show gm_rc 192 = 2 by decide +kernel]
          refine gh_if (show gh_at (gm_me 179).1 225 = some (225, 3, .ifCond .eq (7), 0, 232, []) from rfl) (fun _ => ?_) (fun _ => ?_)
          · refine gh_iconst (x := 2) (show gh_at (gm_me 179).1 232 = some (232, 1, .iconst 2, 16, 0, []) from rfl) (by decide) ?_
            refine gh_put (show gh_at (gm_me 179).1 233 = some (233, 3, .putfield 205, 1, 8, [(0, 1449)]) from rfl) rfl (by decide +kernel) (by decide +kernel) (by decide +kernel) (Or.inl rfl) ?_
            show gp_ok _ _ _ _ _ _ _ _ (gp_up σ1 236 8 2)
            have W_7 : gt_W (gs_wm b f) (gp_up σ1 236 8 2) := gh_Wu W1 (c := 236) (j := 8) (x := 2) (fun _ => gh_any (by unfold gh_r; omega))
            have F_7 : gt_fr gs_tok σ (gp_up σ1 236 8 2) := gh_fu F1 (by decide +kernel)
            have q_7_0 : (gp_up σ1 236 8 2) 236 6 = a := (gh_up_ne (by decide)).trans a1
            have q_7_1 : (gp_up σ1 236 8 2) 236 7 = e := (gh_up_ne (by decide)).trans e1
            have q_7_2 : (gp_up σ1 236 8 2) 236 3 = s := (gh_up_ne (by decide)).trans s1
            have q_7 : (gp_up σ1 236 8 2) 236 8 = 2 := gh_up_eq _ _ _ _
            generalize (gp_up σ1 236 8 2) = σ_7 at W_7 F_7 q_7_0 q_7_1 q_7_2 q_7 ⊢
            refine gh_goto (show gh_at (gm_me 179).1 236 = some (236, 3, .goto (141), 0, 377, []) from rfl) ?_
            refine gh_ret (show gh_at (gm_me 179).1 377 = some (377, 1, .return_, 0, 0, []) from rfl) rfl ?_
            exact ⟨W_7, F_7, by rw [es, q_7_1]; omega, Or.inr ⟨fun q => absurd (q_7.symm.trans q) (by decide), by rw [ee, q_7_1]; omega⟩⟩
          · refine gh_iconst (x := 3) (show gh_at (gm_me 179).1 228 = some (228, 1, .iconst 3, 24, 0, []) from rfl) (by decide) ?_
            refine gh_goto (show gh_at (gm_me 179).1 229 = some (229, 3, .goto (4), 0, 233, []) from rfl) ?_
            refine gh_put (show gh_at (gm_me 179).1 233 = some (233, 3, .putfield 205, 1, 8, [(0, 1449)]) from rfl) rfl (by decide +kernel) (by decide +kernel) (by decide +kernel) (Or.inl rfl) ?_
            show gp_ok _ _ _ _ _ _ _ _ (gp_up σ1 236 8 3)
            have W_8 : gt_W (gs_wm b f) (gp_up σ1 236 8 3) := gh_Wu W1 (c := 236) (j := 8) (x := 3) (fun _ => gh_any (by unfold gh_r; omega))
            have F_8 : gt_fr gs_tok σ (gp_up σ1 236 8 3) := gh_fu F1 (by decide +kernel)
            have q_8_0 : (gp_up σ1 236 8 3) 236 6 = a := (gh_up_ne (by decide)).trans a1
            have q_8_1 : (gp_up σ1 236 8 3) 236 7 = e := (gh_up_ne (by decide)).trans e1
            have q_8_2 : (gp_up σ1 236 8 3) 236 3 = s := (gh_up_ne (by decide)).trans s1
            have q_8 : (gp_up σ1 236 8 3) 236 8 = 3 := gh_up_eq _ _ _ _
            generalize (gp_up σ1 236 8 3) = σ_8 at W_8 F_8 q_8_0 q_8_1 q_8_2 q_8 ⊢
            refine gh_goto (show gh_at (gm_me 179).1 236 = some (236, 3, .goto (141), 0, 377, []) from rfl) ?_
            refine gh_ret (show gh_at (gm_me 179).1 377 = some (377, 1, .return_, 0, 0, []) from rfl) rfl ?_
            exact ⟨W_8, F_8, by rw [es, q_8_1]; omega, Or.inr ⟨fun q => absurd (q_8.symm.trans q) (by decide), by rw [ee, q_8_1]; omega⟩⟩
        · refine gh_iconst (x := 1) (show gh_at (gm_me 179).1 214 = some (214, 1, .iconst 1, 8, 0, []) from rfl) (by decide) ?_
          refine gh_goto (show gh_at (gm_me 179).1 215 = some (215, 3, .goto (18), 0, 233, []) from rfl) ?_
          refine gh_put (show gh_at (gm_me 179).1 233 = some (233, 3, .putfield 205, 1, 8, [(0, 1449)]) from rfl) rfl (by decide +kernel) (by decide +kernel) (by decide +kernel) (Or.inl rfl) ?_
          show gp_ok _ _ _ _ _ _ _ _ (gp_up σ1 236 8 1)
          have W_9 : gt_W (gs_wm b f) (gp_up σ1 236 8 1) := gh_Wu W1 (c := 236) (j := 8) (x := 1) (fun _ => gh_any (by unfold gh_r; omega))
          have F_9 : gt_fr gs_tok σ (gp_up σ1 236 8 1) := gh_fu F1 (by decide +kernel)
          have q_9_0 : (gp_up σ1 236 8 1) 236 6 = a := (gh_up_ne (by decide)).trans a1
          have q_9_1 : (gp_up σ1 236 8 1) 236 7 = e := (gh_up_ne (by decide)).trans e1
          have q_9_2 : (gp_up σ1 236 8 1) 236 3 = s := (gh_up_ne (by decide)).trans s1
          have q_9 : (gp_up σ1 236 8 1) 236 8 = 1 := gh_up_eq _ _ _ _
          generalize (gp_up σ1 236 8 1) = σ_9 at W_9 F_9 q_9_0 q_9_1 q_9_2 q_9 ⊢
          refine gh_goto (show gh_at (gm_me 179).1 236 = some (236, 3, .goto (141), 0, 377, []) from rfl) ?_
          refine gh_ret (show gh_at (gm_me 179).1 377 = some (377, 1, .return_, 0, 0, []) from rfl) rfl ?_
          exact ⟨W_9, F_9, by rw [es, q_9_1]; omega, Or.inr ⟨fun q => absurd (q_9.symm.trans q) (by decide), by rw [ee, q_9_1]; omega⟩⟩
      · have hc : ¬ e ≤ i := hc
        refine gh_iload_n (show gh_at (gm_me 179).1 164 = some (164, 1, .iload_n 2, 0, 0, []) from rfl) rfl ?_
        refine gh_aload_n (show gh_at (gm_me 179).1 165 = some (165, 1, .aload_n 0, 0, 0, []) from rfl) rfl rfl ?_
        refine gh_get (show gh_at (gm_me 179).1 166 = some (166, 3, .getfield 198, 1, 6, [(0, 1447)]) from rfl) rfl (by decide +kernel) (by decide +kernel) (gh_rd0 (by decide +kernel)) ?_
        rw [show σ1 (1891 / 8) 6 = a from a1]
        refine gh_bipush (x := 8) (show gh_at (gm_me 179).1 169 = some (169, 2, .bipush (8), 64, 0, []) from rfl) (by decide) ?_
        refine gh_iadd (z := a + 8) (show gh_at (gm_me 179).1 171 = some (171, 1, .iadd, 0, 0, []) from rfl) (gh_add (by unfold gh_r; omega) (by unfold gh_r; omega) (by unfold gh_r; omega)) ?_
        refine gh_icmp (show gh_at (gm_me 179).1 172 = some (172, 3, .if_icmp .ge (27), 0, 199, []) from rfl) (fun _ => ?_) (fun _ => ?_)
        · refine gh_aload_n (show gh_at (gm_me 179).1 199 = some (199, 1, .aload_n 0, 0, 0, []) from rfl) rfl rfl ?_
          refine gh_aload_n (show gh_at (gm_me 179).1 200 = some (200, 1, .aload_n 0, 0, 0, []) from rfl) rfl rfl ?_
          refine gh_get (show gh_at (gm_me 179).1 201 = some (201, 3, .getfield 195, 1, 7, [(0, 1448)]) from rfl) rfl (by decide +kernel) (by decide +kernel) (gh_rd0 (by decide +kernel)) ?_
          rw [show σ1 (1891 / 8) 7 = e from e1]
          refine gh_aload_n (show gh_at (gm_me 179).1 204 = some (204, 1, .aload_n 0, 0, 0, []) from rfl) rfl rfl ?_
          refine gh_get (show gh_at (gm_me 179).1 205 = some (205, 3, .getfield 198, 1, 6, [(0, 1447)]) from rfl) rfl (by decide +kernel) (by decide +kernel) (gh_rd0 (by decide +kernel)) ?_
          rw [show σ1 (1891 / 8) 6 = a from a1]
          refine gh_isub (z := e - a) (show gh_at (gm_me 179).1 208 = some (208, 1, .isub, 0, 0, []) from rfl) (gh_sub (by unfold gh_r; omega) (by unfold gh_r; omega) (by unfold gh_r; omega)) ?_
          refine gh_bipush (x := 8) (show gh_at (gm_me 179).1 209 = some (209, 2, .bipush (8), 64, 0, []) from rfl) (by decide) ?_
          refine gh_icmp (show gh_at (gm_me 179).1 211 = some (211, 3, .if_icmp .le (7), 0, 218, []) from rfl) (fun _ => ?_) (fun _ => ?_)
          · refine gh_aload_n (show gh_at (gm_me 179).1 218 = some (218, 1, .aload_n 0, 0, 0, []) from rfl) rfl rfl ?_
            refine gh_get (show gh_at (gm_me 179).1 219 = some (219, 3, .getfield 212, 1, 10, [(0, 1451)]) from rfl) rfl (by decide +kernel) (by decide +kernel) (gh_rdl (by decide +kernel)) ?_
            refine gh_callS (as := [.inr (8 * (σ1 236 10).toNat + 5)]) (t := [.inr 1891]) (show gh_at (gm_me 179).1 222 = some (222, 3, .invokestatic 216, 192, 0, [(0, 1652)]) from rfl) (by decide) rfl (by show 1 = _; decide +kernel) (by decide) (Ψ := fun v σ9 => σ9 = σ1 ∧ ∃ z : Int, v = .inl z) (gz_kept (d := 1) (by omega) (fun z _ => ⟨rfl, z, rfl⟩)) gh_mono (fun v σ9 hv => ?_)
            obtain ⟨e9, z, rfl⟩ := hv
            rw [e9, show gm_rc 192 = 2 by decide +kernel]
            refine gh_if (show gh_at (gm_me 179).1 225 = some (225, 3, .ifCond .eq (7), 0, 232, []) from rfl) (fun _ => ?_) (fun _ => ?_)
            · refine gh_iconst (x := 2) (show gh_at (gm_me 179).1 232 = some (232, 1, .iconst 2, 16, 0, []) from rfl) (by decide) ?_
              refine gh_put (show gh_at (gm_me 179).1 233 = some (233, 3, .putfield 205, 1, 8, [(0, 1449)]) from rfl) rfl (by decide +kernel) (by decide +kernel) (by decide +kernel) (Or.inl rfl) ?_
              show gp_ok _ _ _ _ _ _ _ _ (gp_up σ1 236 8 2)
              have W_10 : gt_W (gs_wm b f) (gp_up σ1 236 8 2) := gh_Wu W1 (c := 236) (j := 8) (x := 2) (fun _ => gh_any (by unfold gh_r; omega))
              have F_10 : gt_fr gs_tok σ (gp_up σ1 236 8 2) := gh_fu F1 (by decide +kernel)
              have q_10_0 : (gp_up σ1 236 8 2) 236 6 = a := (gh_up_ne (by decide)).trans a1
              have q_10_1 : (gp_up σ1 236 8 2) 236 7 = e := (gh_up_ne (by decide)).trans e1
              have q_10_2 : (gp_up σ1 236 8 2) 236 3 = s := (gh_up_ne (by decide)).trans s1
              have q_10 : (gp_up σ1 236 8 2) 236 8 = 2 := gh_up_eq _ _ _ _
              generalize (gp_up σ1 236 8 2) = σ_10 at W_10 F_10 q_10_0 q_10_1 q_10_2 q_10 ⊢
              refine gh_goto (show gh_at (gm_me 179).1 236 = some (236, 3, .goto (141), 0, 377, []) from rfl) ?_
              refine gh_ret (show gh_at (gm_me 179).1 377 = some (377, 1, .return_, 0, 0, []) from rfl) rfl ?_
              exact ⟨W_10, F_10, by rw [es, q_10_1]; omega, Or.inr ⟨fun q => absurd (q_10.symm.trans q) (by decide), by rw [ee, q_10_1]; omega⟩⟩
            · refine gh_iconst (x := 3) (show gh_at (gm_me 179).1 228 = some (228, 1, .iconst 3, 24, 0, []) from rfl) (by decide) ?_
              refine gh_goto (show gh_at (gm_me 179).1 229 = some (229, 3, .goto (4), 0, 233, []) from rfl) ?_
              refine gh_put (show gh_at (gm_me 179).1 233 = some (233, 3, .putfield 205, 1, 8, [(0, 1449)]) from rfl) rfl (by decide +kernel) (by decide +kernel) (by decide +kernel) (Or.inl rfl) ?_
              show gp_ok _ _ _ _ _ _ _ _ (gp_up σ1 236 8 3)
              have W_11 : gt_W (gs_wm b f) (gp_up σ1 236 8 3) := gh_Wu W1 (c := 236) (j := 8) (x := 3) (fun _ => gh_any (by unfold gh_r; omega))
              have F_11 : gt_fr gs_tok σ (gp_up σ1 236 8 3) := gh_fu F1 (by decide +kernel)
              have q_11_0 : (gp_up σ1 236 8 3) 236 6 = a := (gh_up_ne (by decide)).trans a1
              have q_11_1 : (gp_up σ1 236 8 3) 236 7 = e := (gh_up_ne (by decide)).trans e1
              have q_11_2 : (gp_up σ1 236 8 3) 236 3 = s := (gh_up_ne (by decide)).trans s1
              have q_11 : (gp_up σ1 236 8 3) 236 8 = 3 := gh_up_eq _ _ _ _
              generalize (gp_up σ1 236 8 3) = σ_11 at W_11 F_11 q_11_0 q_11_1 q_11_2 q_11 ⊢
              refine gh_goto (show gh_at (gm_me 179).1 236 = some (236, 3, .goto (141), 0, 377, []) from rfl) ?_
              refine gh_ret (show gh_at (gm_me 179).1 377 = some (377, 1, .return_, 0, 0, []) from rfl) rfl ?_
              exact ⟨W_11, F_11, by rw [es, q_11_1]; omega, Or.inr ⟨fun q => absurd (q_11.symm.trans q) (by decide), by rw [ee, q_11_1]; omega⟩⟩
          · refine gh_iconst (x := 1) (show gh_at (gm_me 179).1 214 = some (214, 1, .iconst 1, 8, 0, []) from rfl) (by decide) ?_
            refine gh_goto (show gh_at (gm_me 179).1 215 = some (215, 3, .goto (18), 0, 233, []) from rfl) ?_
            refine gh_put (show gh_at (gm_me 179).1 233 = some (233, 3, .putfield 205, 1, 8, [(0, 1449)]) from rfl) rfl (by decide +kernel) (by decide +kernel) (by decide +kernel) (Or.inl rfl) ?_
            show gp_ok _ _ _ _ _ _ _ _ (gp_up σ1 236 8 1)
            have W_12 : gt_W (gs_wm b f) (gp_up σ1 236 8 1) := gh_Wu W1 (c := 236) (j := 8) (x := 1) (fun _ => gh_any (by unfold gh_r; omega))
            have F_12 : gt_fr gs_tok σ (gp_up σ1 236 8 1) := gh_fu F1 (by decide +kernel)
            have q_12_0 : (gp_up σ1 236 8 1) 236 6 = a := (gh_up_ne (by decide)).trans a1
            have q_12_1 : (gp_up σ1 236 8 1) 236 7 = e := (gh_up_ne (by decide)).trans e1
            have q_12_2 : (gp_up σ1 236 8 1) 236 3 = s := (gh_up_ne (by decide)).trans s1
            have q_12 : (gp_up σ1 236 8 1) 236 8 = 1 := gh_up_eq _ _ _ _
            generalize (gp_up σ1 236 8 1) = σ_12 at W_12 F_12 q_12_0 q_12_1 q_12_2 q_12 ⊢
            refine gh_goto (show gh_at (gm_me 179).1 236 = some (236, 3, .goto (141), 0, 377, []) from rfl) ?_
            refine gh_ret (show gh_at (gm_me 179).1 377 = some (377, 1, .return_, 0, 0, []) from rfl) rfl ?_
            exact ⟨W_12, F_12, by rw [es, q_12_1]; omega, Or.inr ⟨fun q => absurd (q_12.symm.trans q) (by decide), by rw [ee, q_12_1]; omega⟩⟩
        · refine gh_aload_n (show gh_at (gm_me 179).1 175 = some (175, 1, .aload_n 0, 0, 0, []) from rfl) rfl rfl ?_
          refine gh_aload_n (show gh_at (gm_me 179).1 176 = some (176, 1, .aload_n 0, 0, 0, []) from rfl) rfl rfl ?_
          refine gh_get (show gh_at (gm_me 179).1 177 = some (177, 3, .getfield 212, 1, 10, [(0, 1451)]) from rfl) rfl (by decide +kernel) (by decide +kernel) (gh_rdl (by decide +kernel)) ?_
          refine gh_bipush (x := 8) (show gh_at (gm_me 179).1 180 = some (180, 2, .bipush (8), 64, 0, []) from rfl) (by decide) ?_
          refine gh_lshl (show gh_at (gm_me 179).1 182 = some (182, 1, .lshl, 0, 0, []) from rfl) (by omega) (fun L1 => ?_)
          refine gh_aload_n (show gh_at (gm_me 179).1 183 = some (183, 1, .aload_n 0, 0, 0, []) from rfl) rfl rfl ?_
          refine gh_iload_n (show gh_at (gm_me 179).1 184 = some (184, 1, .iload_n 2, 0, 0, []) from rfl) rfl ?_
          refine gh_callV (r := 1891) (as := [.inl i]) (t := [.inr (8 * L1 + 5), .inr 1891]) (show gh_at (gm_me 179).1 185 = some (185, 3, .invokevirtual 201, 180, 0, [(0, 1645)]) from rfl) (by decide) rfl (by show 2 = _; decide +kernel) (Nat.le_trans (gh_wd _) (Nat.le_of_ble_eq_true rfl)) rfl (by decide +kernel) (by decide +kernel) (Ψ := fun v σ9 => σ9 = σ1 ∧ v = .inl (gn_sg σ i)) (gz_sign (d := 1) W1 (by omega) ⟨rfl, by rw [gn_sge F1]⟩) gh_mono (fun v σ9 hv => ?_)
          obtain ⟨e9, rfl⟩ := hv
          rw [e9, show gm_rc 180 = 1 by decide +kernel]
          show gp_ok _ _ _ _ _ _ _ (.inl (gn_sg σ i) :: _) _
          refine gh_i2l (show gh_at (gm_me 179).1 188 = some (188, 1, .i2l, 0, 0, []) from rfl) (fun L2 => ?_)
          refine gh_lor (show gh_at (gm_me 179).1 189 = some (189, 1, .lor, 0, 0, []) from rfl) (by omega) (by omega) (fun L3 => ?_)
          refine gh_putl (show gh_at (gm_me 179).1 190 = some (190, 3, .putfield 212, 1, 10, [(2, 1451)]) from rfl) rfl (by decide +kernel) (by decide +kernel) (by decide +kernel) (by omega) ?_
          show gp_ok _ _ _ _ _ _ _ _ (gp_up σ1 236 10 (((8 * L3 + 5) / 8 : Nat) : Int))
          have W_13 : gt_W (gs_wm b f) (gp_up σ1 236 10 (((8 * L3 + 5) / 8 : Nat) : Int)) := gh_Wu W1 (c := 236) (j := 10) (x := (((8 * L3 + 5) / 8 : Nat) : Int)) (fun q => absurd (show 5 % 8 = 2 from q) (by decide))
          have F_13 : gt_fr gs_tok σ (gp_up σ1 236 10 (((8 * L3 + 5) / 8 : Nat) : Int)) := gh_fu F1 (by decide +kernel)
          have q_13_0 : (gp_up σ1 236 10 (((8 * L3 + 5) / 8 : Nat) : Int)) 236 6 = a := (gh_up_ne (by decide)).trans a1
          have q_13_1 : (gp_up σ1 236 10 (((8 * L3 + 5) / 8 : Nat) : Int)) 236 7 = e := (gh_up_ne (by decide)).trans e1
          have q_13_2 : (gp_up σ1 236 10 (((8 * L3 + 5) / 8 : Nat) : Int)) 236 3 = s := (gh_up_ne (by decide)).trans s1
          generalize (gp_up σ1 236 10 (((8 * L3 + 5) / 8 : Nat) : Int)) = σ_13 at W_13 F_13 q_13_0 q_13_1 q_13_2 ⊢
          refine gh_iinc (show gh_at (gm_me 179).1 193 = some (193, 3, .iinc 2 (1), 8, 0, []) from rfl) rfl (fun c q => by cases q <;> decide) (y := i + 1) (gh_add (by unfold gh_r; omega) (by show gh_r 1; unfold gh_r; omega) (by show gh_r (i + 1); unfold gh_r; omega)) rfl ?_
          refine gh_goto (show gh_at (gm_me 179).1 196 = some (196, 3, .goto (-40), 0, 156, []) from rfl) ?_
          exact ih σ_13 (i + 1) (by omega) (by omega) (by omega) W_13 F_13 q_13_0 q_13_1
  have word : ∀ (a : Int) (c : Int), e0 ≤ a → ∀ (m : Nat) (σ1 : gp_S) (e : Int), s - e ≤ m → a < e → e ≤ s → gt_W (gs_wm b f) σ1 → gt_fr gs_tok σ σ1 → σ1 236 6 = a → σ1 236 7 = e → gp_ok gs_sh (gp_call gs_sh 2) 0 (gm_me 179).1 (fun _ σ' => gt_W (gs_wm b f) σ' ∧ gt_fr gs_tok σ σ' ∧ σ' 236 7 ≤ σ 236 3 ∧ ((σ' 236 8 = 0 ∧ σ' 236 7 = σ 236 3) ∨ (¬ σ' 236 8 = 0 ∧ σ 236 7 < σ' 236 7))) 119 [.inr 1891, .inl c, .inr 7] [] σ1 := by
    intro a c ha m
    induction m with
    | zero =>
      intro σ1 e hm h1 h2 W1 F1 a1 e1
      have s1 : σ1 236 3 = s := (F1 236 3 rfl).trans es
      refine gh_aload_n (show gh_at (gm_me 179).1 119 = some (119, 1, .aload_n 0, 0, 0, []) from rfl) rfl rfl ?_
      refine gh_aload_n (show gh_at (gm_me 179).1 120 = some (120, 1, .aload_n 0, 0, 0, []) from rfl) rfl rfl ?_
      refine gh_get (show gh_at (gm_me 179).1 121 = some (121, 3, .getfield 195, 1, 7, [(0, 1448)]) from rfl) rfl (by decide +kernel) (by decide +kernel) (gh_rd0 (by decide +kernel)) ?_
      rw [show σ1 (1891 / 8) 7 = e from e1]
      refine gh_callV (r := 1891) (as := [.inl e]) (t := []) (show gh_at (gm_me 179).1 124 = some (124, 3, .invokevirtual 201, 180, 0, [(0, 1645)]) from rfl) (by decide) rfl (by show 2 = _; decide +kernel) (Nat.le_trans (gh_wd _) (Nat.le_of_ble_eq_true rfl)) rfl (by decide +kernel) (by decide +kernel) (Ψ := fun v σ9 => σ9 = σ1 ∧ v = .inl (gn_sg σ e)) (gz_sign (d := 1) W1 (by omega) ⟨rfl, by rw [gn_sge F1]⟩) gh_mono (fun v σ9 hv => ?_)
      obtain ⟨e9, rfl⟩ := hv
      rw [e9, show gm_rc 180 = 1 by decide +kernel]
      show gp_ok _ _ _ _ _ _ _ (.inl (gn_sg σ e) :: _) _
      refine gh_callS (as := [.inl (gn_sg σ e)]) (t := []) (show gh_at (gm_me 179).1 127 = some (127, 3, .invokestatic 208, 189, 0, [(0, 1649)]) from rfl) (by decide) rfl (by show 1 = _; decide +kernel) (by decide) (Ψ := fun v σ9 => σ9 = σ1 ∧ ((v = .inl 1 ∧ (97 ≤ (gn_sg σ e) ∧ (gn_sg σ e) ≤ 122)) ∨ (v = .inl 0 ∧ ¬ (97 ≤ (gn_sg σ e) ∧ (gn_sg σ e) ≤ 122)))) (gz_letter (d := 1) (fun q => ⟨rfl, Or.inl ⟨rfl, q⟩⟩) (fun q => ⟨rfl, Or.inr ⟨rfl, q⟩⟩)) gh_mono (fun v σ9 hv => ?_)
      obtain ⟨e9, hv⟩ := hv
      rw [e9, show gm_rc 189 = 2 by decide +kernel]
      rcases hv with ⟨rfl, hl⟩ | ⟨rfl, hl⟩
      · refine gh_if (show gh_at (gm_me 179).1 130 = some (130, 3, .ifCond .eq (16), 0, 146, []) from rfl) (fun q => absurd (show (1 : Int) = 0 from q) (by decide)) (fun _ => ?_)
        have hlt : e < s := by
          rcases Int.lt_or_le e s with q | q
          · exact q
          · have : gn_sg σ e = 0 := if_neg (by rw [es]; omega)
            omega
        omega
      · refine gh_if (show gh_at (gm_me 179).1 130 = some (130, 3, .ifCond .eq (16), 0, 146, []) from rfl) (fun _ => ?_) (fun q => absurd rfl q)
        refine gh_aload_n (show gh_at (gm_me 179).1 146 = some (146, 1, .aload_n 0, 0, 0, []) from rfl) rfl rfl ?_
        refine gh_lconst (show gh_at (gm_me 179).1 147 = some (147, 1, .lconst 0, 5, 0, []) from rfl) ?_
        refine gh_putl (show gh_at (gm_me 179).1 148 = some (148, 3, .putfield 212, 1, 10, [(2, 1451)]) from rfl) rfl (by decide +kernel) (by decide +kernel) (by decide +kernel) (by decide) ?_
        show gp_ok _ _ _ _ _ _ _ _ (gp_up σ1 236 10 ((5 / 8 : Nat) : Int))
        have W_14 : gt_W (gs_wm b f) (gp_up σ1 236 10 ((5 / 8 : Nat) : Int)) := gh_Wu W1 (c := 236) (j := 10) (x := ((5 / 8 : Nat) : Int)) (fun q => absurd (show 5 % 8 = 2 from q) (by decide))
        have F_14 : gt_fr gs_tok σ (gp_up σ1 236 10 ((5 / 8 : Nat) : Int)) := gh_fu F1 (by decide +kernel)
        have q_14_0 : (gp_up σ1 236 10 ((5 / 8 : Nat) : Int)) 236 6 = a := (gh_up_ne (by decide)).trans a1
        have q_14_1 : (gp_up σ1 236 10 ((5 / 8 : Nat) : Int)) 236 7 = e := (gh_up_ne (by decide)).trans e1
        have q_14_2 : (gp_up σ1 236 10 ((5 / 8 : Nat) : Int)) 236 3 = s := (gh_up_ne (by decide)).trans s1
        generalize (gp_up σ1 236 10 ((5 / 8 : Nat) : Int)) = σ_14 at W_14 F_14 q_14_0 q_14_1 q_14_2 ⊢
        refine gh_aload_n (show gh_at (gm_me 179).1 151 = some (151, 1, .aload_n 0, 0, 0, []) from rfl) rfl rfl ?_
        refine gh_get (show gh_at (gm_me 179).1 152 = some (152, 3, .getfield 198, 1, 6, [(0, 1447)]) from rfl) rfl (by decide +kernel) (by decide +kernel) (gh_rd0 (by decide +kernel)) ?_
        rw [show σ_14 (1891 / 8) 6 = a from q_14_0]
        refine gh_istore_n (show gh_at (gm_me 179).1 155 = some (155, 1, .istore_n 2, 0, 0, []) from rfl) (fun c q => by cases q <;> decide) rfl ?_
        exact named a e c ha (by omega) (by omega) (e - a).toNat σ_14 a (by omega) (by omega) (by omega) W_14 F_14 q_14_0 q_14_1
    | succ m ih =>
      intro σ1 e hm h1 h2 W1 F1 a1 e1
      have s1 : σ1 236 3 = s := (F1 236 3 rfl).trans es
      refine gh_aload_n (show gh_at (gm_me 179).1 119 = some (119, 1, .aload_n 0, 0, 0, []) from rfl) rfl rfl ?_
      refine gh_aload_n (show gh_at (gm_me 179).1 120 = some (120, 1, .aload_n 0, 0, 0, []) from rfl) rfl rfl ?_
      refine gh_get (show gh_at (gm_me 179).1 121 = some (121, 3, .getfield 195, 1, 7, [(0, 1448)]) from rfl) rfl (by decide +kernel) (by decide +kernel) (gh_rd0 (by decide +kernel)) ?_
      rw [show σ1 (1891 / 8) 7 = e from e1]
      refine gh_callV (r := 1891) (as := [.inl e]) (t := []) (show gh_at (gm_me 179).1 124 = some (124, 3, .invokevirtual 201, 180, 0, [(0, 1645)]) from rfl) (by decide) rfl (by show 2 = _; decide +kernel) (Nat.le_trans (gh_wd _) (Nat.le_of_ble_eq_true rfl)) rfl (by decide +kernel) (by decide +kernel) (Ψ := fun v σ9 => σ9 = σ1 ∧ v = .inl (gn_sg σ e)) (gz_sign (d := 1) W1 (by omega) ⟨rfl, by rw [gn_sge F1]⟩) gh_mono (fun v σ9 hv => ?_)
      obtain ⟨e9, rfl⟩ := hv
      rw [e9, show gm_rc 180 = 1 by decide +kernel]
      show gp_ok _ _ _ _ _ _ _ (.inl (gn_sg σ e) :: _) _
      refine gh_callS (as := [.inl (gn_sg σ e)]) (t := []) (show gh_at (gm_me 179).1 127 = some (127, 3, .invokestatic 208, 189, 0, [(0, 1649)]) from rfl) (by decide) rfl (by show 1 = _; decide +kernel) (by decide) (Ψ := fun v σ9 => σ9 = σ1 ∧ ((v = .inl 1 ∧ (97 ≤ (gn_sg σ e) ∧ (gn_sg σ e) ≤ 122)) ∨ (v = .inl 0 ∧ ¬ (97 ≤ (gn_sg σ e) ∧ (gn_sg σ e) ≤ 122)))) (gz_letter (d := 1) (fun q => ⟨rfl, Or.inl ⟨rfl, q⟩⟩) (fun q => ⟨rfl, Or.inr ⟨rfl, q⟩⟩)) gh_mono (fun v σ9 hv => ?_)
      obtain ⟨e9, hv⟩ := hv
      rw [e9, show gm_rc 189 = 2 by decide +kernel]
      rcases hv with ⟨rfl, hl⟩ | ⟨rfl, hl⟩
      · refine gh_if (show gh_at (gm_me 179).1 130 = some (130, 3, .ifCond .eq (16), 0, 146, []) from rfl) (fun q => absurd (show (1 : Int) = 0 from q) (by decide)) (fun _ => ?_)
        have hlt : e < s := by
          rcases Int.lt_or_le e s with q | q
          · exact q
          · have : gn_sg σ e = 0 := if_neg (by rw [es]; omega)
            omega
        refine gh_aload_n (show gh_at (gm_me 179).1 133 = some (133, 1, .aload_n 0, 0, 0, []) from rfl) rfl rfl ?_
        refine gh_dup (show gh_at (gm_me 179).1 134 = some (134, 1, .dup, 0, 0, []) from rfl) rfl ?_
        refine gh_get (show gh_at (gm_me 179).1 135 = some (135, 3, .getfield 195, 1, 7, [(0, 1448)]) from rfl) rfl (by decide +kernel) (by decide +kernel) (gh_rd0 (by decide +kernel)) ?_
        rw [show σ1 (1891 / 8) 7 = e from e1]
        refine gh_iconst (x := 1) (show gh_at (gm_me 179).1 138 = some (138, 1, .iconst 1, 8, 0, []) from rfl) (by decide) ?_
        refine gh_iadd (z := e + 1) (show gh_at (gm_me 179).1 139 = some (139, 1, .iadd, 0, 0, []) from rfl) (gh_add (by unfold gh_r; omega) (by unfold gh_r; omega) (by unfold gh_r; omega)) ?_
        refine gh_put (show gh_at (gm_me 179).1 140 = some (140, 3, .putfield 195, 1, 7, [(0, 1448)]) from rfl) rfl (by decide +kernel) (by decide +kernel) (by decide +kernel) (Or.inl rfl) ?_
        show gp_ok _ _ _ _ _ _ _ _ (gp_up σ1 236 7 (e + 1))
        have W_15 : gt_W (gs_wm b f) (gp_up σ1 236 7 (e + 1)) := gh_Wu W1 (c := 236) (j := 7) (x := (e + 1)) (fun _ => show gt_tv 73786976312018088458 (.inl ((e + 1))) from gh_mk (by decide) (by unfold gh_r; omega) (by omega) (by omega))
        have F_15 : gt_fr gs_tok σ (gp_up σ1 236 7 (e + 1)) := gh_fu F1 (by decide +kernel)
        have q_15_0 : (gp_up σ1 236 7 (e + 1)) 236 6 = a := (gh_up_ne (by decide)).trans a1
        have q_15_2 : (gp_up σ1 236 7 (e + 1)) 236 3 = s := (gh_up_ne (by decide)).trans s1
        have q_15 : (gp_up σ1 236 7 (e + 1)) 236 7 = (e + 1) := gh_up_eq _ _ _ _
        generalize (gp_up σ1 236 7 (e + 1)) = σ_15 at W_15 F_15 q_15_0 q_15_2 q_15 ⊢
        refine gh_goto (show gh_at (gm_me 179).1 143 = some (143, 3, .goto (-24), 0, 119, []) from rfl) ?_
        exact ih σ_15 (e + 1) (by omega) (by omega) (by omega) W_15 F_15 q_15_0 q_15
      · refine gh_if (show gh_at (gm_me 179).1 130 = some (130, 3, .ifCond .eq (16), 0, 146, []) from rfl) (fun _ => ?_) (fun q => absurd rfl q)
        refine gh_aload_n (show gh_at (gm_me 179).1 146 = some (146, 1, .aload_n 0, 0, 0, []) from rfl) rfl rfl ?_
        refine gh_lconst (show gh_at (gm_me 179).1 147 = some (147, 1, .lconst 0, 5, 0, []) from rfl) ?_
        refine gh_putl (show gh_at (gm_me 179).1 148 = some (148, 3, .putfield 212, 1, 10, [(2, 1451)]) from rfl) rfl (by decide +kernel) (by decide +kernel) (by decide +kernel) (by decide) ?_
        show gp_ok _ _ _ _ _ _ _ _ (gp_up σ1 236 10 ((5 / 8 : Nat) : Int))
        have W_16 : gt_W (gs_wm b f) (gp_up σ1 236 10 ((5 / 8 : Nat) : Int)) := gh_Wu W1 (c := 236) (j := 10) (x := ((5 / 8 : Nat) : Int)) (fun q => absurd (show 5 % 8 = 2 from q) (by decide))
        have F_16 : gt_fr gs_tok σ (gp_up σ1 236 10 ((5 / 8 : Nat) : Int)) := gh_fu F1 (by decide +kernel)
        have q_16_0 : (gp_up σ1 236 10 ((5 / 8 : Nat) : Int)) 236 6 = a := (gh_up_ne (by decide)).trans a1
        have q_16_1 : (gp_up σ1 236 10 ((5 / 8 : Nat) : Int)) 236 7 = e := (gh_up_ne (by decide)).trans e1
        have q_16_2 : (gp_up σ1 236 10 ((5 / 8 : Nat) : Int)) 236 3 = s := (gh_up_ne (by decide)).trans s1
        generalize (gp_up σ1 236 10 ((5 / 8 : Nat) : Int)) = σ_16 at W_16 F_16 q_16_0 q_16_1 q_16_2 ⊢
        refine gh_aload_n (show gh_at (gm_me 179).1 151 = some (151, 1, .aload_n 0, 0, 0, []) from rfl) rfl rfl ?_
        refine gh_get (show gh_at (gm_me 179).1 152 = some (152, 3, .getfield 198, 1, 6, [(0, 1447)]) from rfl) rfl (by decide +kernel) (by decide +kernel) (gh_rd0 (by decide +kernel)) ?_
        rw [show σ_16 (1891 / 8) 6 = a from q_16_0]
        refine gh_istore_n (show gh_at (gm_me 179).1 155 = some (155, 1, .istore_n 2, 0, 0, []) from rfl) (fun c q => by cases q <;> decide) rfl ?_
        exact named a e c ha (by omega) (by omega) (e - a).toNat σ_16 a (by omega) (by omega) (by omega) W_16 F_16 q_16_0 q_16_1
  have numb : ∀ (a : Int) (c : Int), e0 ≤ a → (48 ≤ gn_sg σ a ∧ gn_sg σ a ≤ 57) → ∀ (m : Nat) (σ1 : gp_S) (e : Int), s - e ≤ m → a ≤ e → e ≤ s → gt_W (gs_wm b f) σ1 → gt_fr gs_tok σ σ1 → σ1 236 6 = a → σ1 236 7 = e → gp_ok gs_sh (gp_call gs_sh 2) 0 (gm_me 179).1 (fun _ σ' => gt_W (gs_wm b f) σ' ∧ gt_fr gs_tok σ σ' ∧ σ' 236 7 ≤ σ 236 3 ∧ ((σ' 236 8 = 0 ∧ σ' 236 7 = σ 236 3) ∨ (¬ σ' 236 8 = 0 ∧ σ 236 7 < σ' 236 7))) 259 [.inr 1891, .inl c, .inr 7] [] σ1 := by
    intro a c ha hd m
    induction m with
    | zero =>
      intro σ1 e hm h1 h2 W1 F1 a1 e1
      have s1 : σ1 236 3 = s := (F1 236 3 rfl).trans es
      refine gh_aload_n (show gh_at (gm_me 179).1 259 = some (259, 1, .aload_n 0, 0, 0, []) from rfl) rfl rfl ?_
      refine gh_aload_n (show gh_at (gm_me 179).1 260 = some (260, 1, .aload_n 0, 0, 0, []) from rfl) rfl rfl ?_
      refine gh_get (show gh_at (gm_me 179).1 261 = some (261, 3, .getfield 195, 1, 7, [(0, 1448)]) from rfl) rfl (by decide +kernel) (by decide +kernel) (gh_rd0 (by decide +kernel)) ?_
      rw [show σ1 (1891 / 8) 7 = e from e1]
      refine gh_callV (r := 1891) (as := [.inl e]) (t := []) (show gh_at (gm_me 179).1 264 = some (264, 3, .invokevirtual 201, 180, 0, [(0, 1645)]) from rfl) (by decide) rfl (by show 2 = _; decide +kernel) (Nat.le_trans (gh_wd _) (Nat.le_of_ble_eq_true rfl)) rfl (by decide +kernel) (by decide +kernel) (Ψ := fun v σ9 => σ9 = σ1 ∧ v = .inl (gn_sg σ e)) (gz_sign (d := 1) W1 (by omega) ⟨rfl, by rw [gn_sge F1]⟩) gh_mono (fun v σ9 hv => ?_)
      obtain ⟨e9, rfl⟩ := hv
      rw [e9, show gm_rc 180 = 1 by decide +kernel]
      show gp_ok _ _ _ _ _ _ _ (.inl (gn_sg σ e) :: _) _
      refine gh_callS (as := [.inl (gn_sg σ e)]) (t := []) (show gh_at (gm_me 179).1 267 = some (267, 3, .invokestatic 220, 190, 0, [(0, 1672)]) from rfl) (by decide) rfl (by show 1 = _; decide +kernel) (by decide) (Ψ := fun v σ9 => σ9 = σ1 ∧ ((v = .inl 1 ∧ (48 ≤ (gn_sg σ e) ∧ (gn_sg σ e) ≤ 57)) ∨ (v = .inl 0 ∧ ¬ (48 ≤ (gn_sg σ e) ∧ (gn_sg σ e) ≤ 57)))) (gz_digit (d := 1) (fun q => ⟨rfl, Or.inl ⟨rfl, q⟩⟩) (fun q => ⟨rfl, Or.inr ⟨rfl, q⟩⟩)) gh_mono (fun v σ9 hv => ?_)
      obtain ⟨e9, hv⟩ := hv
      rw [e9, show gm_rc 190 = 2 by decide +kernel]
      rcases hv with ⟨rfl, hl⟩ | ⟨rfl, hl⟩
      · refine gh_if (show gh_at (gm_me 179).1 270 = some (270, 3, .ifCond .eq (52), 0, 322, []) from rfl) (fun q => absurd (show (1 : Int) = 0 from q) (by decide)) (fun _ => ?_)
        have hlt : e < s := by
          rcases Int.lt_or_le e s with q | q
          · exact q
          · have : gn_sg σ e = 0 := if_neg (by rw [es]; omega)
            omega
        omega
      · refine gh_if (show gh_at (gm_me 179).1 270 = some (270, 3, .ifCond .eq (52), 0, 322, []) from rfl) (fun _ => ?_) (fun q => absurd rfl q)
        have hae : a < e := by
          rcases Int.lt_or_le a e with q | q
          · exact q
          · exact absurd (by rw [show e = a by omega]; exact hd) hl
        refine gh_aload_n (show gh_at (gm_me 179).1 322 = some (322, 1, .aload_n 0, 0, 0, []) from rfl) rfl rfl ?_
        refine gh_aload_n (show gh_at (gm_me 179).1 323 = some (323, 1, .aload_n 0, 0, 0, []) from rfl) rfl rfl ?_
        refine gh_get (show gh_at (gm_me 179).1 324 = some (324, 3, .getfield 195, 1, 7, [(0, 1448)]) from rfl) rfl (by decide +kernel) (by decide +kernel) (gh_rd0 (by decide +kernel)) ?_
        rw [show σ1 (1891 / 8) 7 = e from e1]
        refine gh_aload_n (show gh_at (gm_me 179).1 327 = some (327, 1, .aload_n 0, 0, 0, []) from rfl) rfl rfl ?_
        refine gh_get (show gh_at (gm_me 179).1 328 = some (328, 3, .getfield 198, 1, 6, [(0, 1447)]) from rfl) rfl (by decide +kernel) (by decide +kernel) (gh_rd0 (by decide +kernel)) ?_
        rw [show σ1 (1891 / 8) 6 = a from a1]
        refine gh_isub (z := e - a) (show gh_at (gm_me 179).1 331 = some (331, 1, .isub, 0, 0, []) from rfl) (gh_sub (by unfold gh_r; omega) (by unfold gh_r; omega) (by unfold gh_r; omega)) ?_
        refine gh_iconst (x := 4) (show gh_at (gm_me 179).1 332 = some (332, 1, .iconst 4, 32, 0, []) from rfl) (by decide) ?_
        refine gh_icmp (show gh_at (gm_me 179).1 333 = some (333, 3, .if_icmp .gt (17), 0, 350, []) from rfl) (fun _ => ?_) (fun _ => ?_)
        · refine gh_iconst (x := 1) (show gh_at (gm_me 179).1 350 = some (350, 1, .iconst 1, 8, 0, []) from rfl) (by decide) ?_
          refine gh_goto (show gh_at (gm_me 179).1 351 = some (351, 3, .goto (4), 0, 355, []) from rfl) ?_
          refine gh_put (show gh_at (gm_me 179).1 355 = some (355, 3, .putfield 205, 1, 8, [(0, 1449)]) from rfl) rfl (by decide +kernel) (by decide +kernel) (by decide +kernel) (Or.inl rfl) ?_
          show gp_ok _ _ _ _ _ _ _ _ (gp_up σ1 236 8 1)
          have W_17 : gt_W (gs_wm b f) (gp_up σ1 236 8 1) := gh_Wu W1 (c := 236) (j := 8) (x := 1) (fun _ => gh_any (by unfold gh_r; omega))
          have F_17 : gt_fr gs_tok σ (gp_up σ1 236 8 1) := gh_fu F1 (by decide +kernel)
          have q_17_0 : (gp_up σ1 236 8 1) 236 6 = a := (gh_up_ne (by decide)).trans a1
          have q_17_1 : (gp_up σ1 236 8 1) 236 7 = e := (gh_up_ne (by decide)).trans e1
          have q_17_2 : (gp_up σ1 236 8 1) 236 3 = s := (gh_up_ne (by decide)).trans s1
          have q_17 : (gp_up σ1 236 8 1) 236 8 = 1 := gh_up_eq _ _ _ _
          generalize (gp_up σ1 236 8 1) = σ_17 at W_17 F_17 q_17_0 q_17_1 q_17_2 q_17 ⊢
          refine gh_goto (show gh_at (gm_me 179).1 358 = some (358, 3, .goto (19), 0, 377, []) from rfl) ?_
          refine gh_ret (show gh_at (gm_me 179).1 377 = some (377, 1, .return_, 0, 0, []) from rfl) rfl ?_
          exact ⟨W_17, F_17, by rw [es, q_17_1]; omega, Or.inr ⟨fun q => absurd (q_17.symm.trans q) (by decide), by rw [ee, q_17_1]; omega⟩⟩
        · refine gh_aload_n (show gh_at (gm_me 179).1 336 = some (336, 1, .aload_n 0, 0, 0, []) from rfl) rfl rfl ?_
          refine gh_aload_n (show gh_at (gm_me 179).1 337 = some (337, 1, .aload_n 0, 0, 0, []) from rfl) rfl rfl ?_
          refine gh_get (show gh_at (gm_me 179).1 338 = some (338, 3, .getfield 195, 1, 7, [(0, 1448)]) from rfl) rfl (by decide +kernel) (by decide +kernel) (gh_rd0 (by decide +kernel)) ?_
          rw [show σ1 (1891 / 8) 7 = e from e1]
          refine gh_callV (r := 1891) (as := [.inl e]) (t := [.inr 1891]) (show gh_at (gm_me 179).1 341 = some (341, 3, .invokevirtual 201, 180, 0, [(0, 1645)]) from rfl) (by decide) rfl (by show 2 = _; decide +kernel) (Nat.le_trans (gh_wd _) (Nat.le_of_ble_eq_true rfl)) rfl (by decide +kernel) (by decide +kernel) (Ψ := fun v σ9 => σ9 = σ1 ∧ v = .inl (gn_sg σ e)) (gz_sign (d := 1) W1 (by omega) ⟨rfl, by rw [gn_sge F1]⟩) gh_mono (fun v σ9 hv => ?_)
          obtain ⟨e9, rfl⟩ := hv
          rw [e9, show gm_rc 180 = 1 by decide +kernel]
          show gp_ok _ _ _ _ _ _ _ (.inl (gn_sg σ e) :: _) _
          refine gh_callS (as := [.inl (gn_sg σ e)]) (t := [.inr 1891]) (show gh_at (gm_me 179).1 344 = some (344, 3, .invokestatic 208, 189, 0, [(0, 1649)]) from rfl) (by decide) rfl (by show 1 = _; decide +kernel) (by decide) (Ψ := fun v σ9 => σ9 = σ1 ∧ ((v = .inl 1 ∧ (97 ≤ (gn_sg σ e) ∧ (gn_sg σ e) ≤ 122)) ∨ (v = .inl 0 ∧ ¬ (97 ≤ (gn_sg σ e) ∧ (gn_sg σ e) ≤ 122)))) (gz_letter (d := 1) (fun q => ⟨rfl, Or.inl ⟨rfl, q⟩⟩) (fun q => ⟨rfl, Or.inr ⟨rfl, q⟩⟩)) gh_mono (fun v σ9 hv => ?_)
          obtain ⟨e9, hv⟩ := hv
          rw [e9, show gm_rc 189 = 2 by decide +kernel]
          rcases hv with ⟨rfl, hl2⟩ | ⟨rfl, hl2⟩
          · refine gh_if (show gh_at (gm_me 179).1 347 = some (347, 3, .ifCond .eq (7), 0, 354, []) from rfl) (fun q => absurd (show (1 : Int) = 0 from q) (by decide)) (fun _ => ?_)
            refine gh_iconst (x := 1) (show gh_at (gm_me 179).1 350 = some (350, 1, .iconst 1, 8, 0, []) from rfl) (by decide) ?_
            refine gh_goto (show gh_at (gm_me 179).1 351 = some (351, 3, .goto (4), 0, 355, []) from rfl) ?_
            refine gh_put (show gh_at (gm_me 179).1 355 = some (355, 3, .putfield 205, 1, 8, [(0, 1449)]) from rfl) rfl (by decide +kernel) (by decide +kernel) (by decide +kernel) (Or.inl rfl) ?_
            show gp_ok _ _ _ _ _ _ _ _ (gp_up σ1 236 8 1)
            have W_18 : gt_W (gs_wm b f) (gp_up σ1 236 8 1) := gh_Wu W1 (c := 236) (j := 8) (x := 1) (fun _ => gh_any (by unfold gh_r; omega))
            have F_18 : gt_fr gs_tok σ (gp_up σ1 236 8 1) := gh_fu F1 (by decide +kernel)
            have q_18_0 : (gp_up σ1 236 8 1) 236 6 = a := (gh_up_ne (by decide)).trans a1
            have q_18_1 : (gp_up σ1 236 8 1) 236 7 = e := (gh_up_ne (by decide)).trans e1
            have q_18_2 : (gp_up σ1 236 8 1) 236 3 = s := (gh_up_ne (by decide)).trans s1
            have q_18 : (gp_up σ1 236 8 1) 236 8 = 1 := gh_up_eq _ _ _ _
            generalize (gp_up σ1 236 8 1) = σ_18 at W_18 F_18 q_18_0 q_18_1 q_18_2 q_18 ⊢
            refine gh_goto (show gh_at (gm_me 179).1 358 = some (358, 3, .goto (19), 0, 377, []) from rfl) ?_
            refine gh_ret (show gh_at (gm_me 179).1 377 = some (377, 1, .return_, 0, 0, []) from rfl) rfl ?_
            exact ⟨W_18, F_18, by rw [es, q_18_1]; omega, Or.inr ⟨fun q => absurd (q_18.symm.trans q) (by decide), by rw [ee, q_18_1]; omega⟩⟩
          · refine gh_if (show gh_at (gm_me 179).1 347 = some (347, 3, .ifCond .eq (7), 0, 354, []) from rfl) (fun _ => ?_) (fun q => absurd rfl q)
            refine gh_iconst (x := 4) (show gh_at (gm_me 179).1 354 = some (354, 1, .iconst 4, 32, 0, []) from rfl) (by decide) ?_
            refine gh_put (show gh_at (gm_me 179).1 355 = some (355, 3, .putfield 205, 1, 8, [(0, 1449)]) from rfl) rfl (by decide +kernel) (by decide +kernel) (by decide +kernel) (Or.inl rfl) ?_
            show gp_ok _ _ _ _ _ _ _ _ (gp_up σ1 236 8 4)
            have W_19 : gt_W (gs_wm b f) (gp_up σ1 236 8 4) := gh_Wu W1 (c := 236) (j := 8) (x := 4) (fun _ => gh_any (by unfold gh_r; omega))
            have F_19 : gt_fr gs_tok σ (gp_up σ1 236 8 4) := gh_fu F1 (by decide +kernel)
            have q_19_0 : (gp_up σ1 236 8 4) 236 6 = a := (gh_up_ne (by decide)).trans a1
            have q_19_1 : (gp_up σ1 236 8 4) 236 7 = e := (gh_up_ne (by decide)).trans e1
            have q_19_2 : (gp_up σ1 236 8 4) 236 3 = s := (gh_up_ne (by decide)).trans s1
            have q_19 : (gp_up σ1 236 8 4) 236 8 = 4 := gh_up_eq _ _ _ _
            generalize (gp_up σ1 236 8 4) = σ_19 at W_19 F_19 q_19_0 q_19_1 q_19_2 q_19 ⊢
            refine gh_goto (show gh_at (gm_me 179).1 358 = some (358, 3, .goto (19), 0, 377, []) from rfl) ?_
            refine gh_ret (show gh_at (gm_me 179).1 377 = some (377, 1, .return_, 0, 0, []) from rfl) rfl ?_
            exact ⟨W_19, F_19, by rw [es, q_19_1]; omega, Or.inr ⟨fun q => absurd (q_19.symm.trans q) (by decide), by rw [ee, q_19_1]; omega⟩⟩
    | succ m ih =>
      intro σ1 e hm h1 h2 W1 F1 a1 e1
      have s1 : σ1 236 3 = s := (F1 236 3 rfl).trans es
      refine gh_aload_n (show gh_at (gm_me 179).1 259 = some (259, 1, .aload_n 0, 0, 0, []) from rfl) rfl rfl ?_
      refine gh_aload_n (show gh_at (gm_me 179).1 260 = some (260, 1, .aload_n 0, 0, 0, []) from rfl) rfl rfl ?_
      refine gh_get (show gh_at (gm_me 179).1 261 = some (261, 3, .getfield 195, 1, 7, [(0, 1448)]) from rfl) rfl (by decide +kernel) (by decide +kernel) (gh_rd0 (by decide +kernel)) ?_
      rw [show σ1 (1891 / 8) 7 = e from e1]
      refine gh_callV (r := 1891) (as := [.inl e]) (t := []) (show gh_at (gm_me 179).1 264 = some (264, 3, .invokevirtual 201, 180, 0, [(0, 1645)]) from rfl) (by decide) rfl (by show 2 = _; decide +kernel) (Nat.le_trans (gh_wd _) (Nat.le_of_ble_eq_true rfl)) rfl (by decide +kernel) (by decide +kernel) (Ψ := fun v σ9 => σ9 = σ1 ∧ v = .inl (gn_sg σ e)) (gz_sign (d := 1) W1 (by omega) ⟨rfl, by rw [gn_sge F1]⟩) gh_mono (fun v σ9 hv => ?_)
      obtain ⟨e9, rfl⟩ := hv
      rw [e9, show gm_rc 180 = 1 by decide +kernel]
      show gp_ok _ _ _ _ _ _ _ (.inl (gn_sg σ e) :: _) _
      refine gh_callS (as := [.inl (gn_sg σ e)]) (t := []) (show gh_at (gm_me 179).1 267 = some (267, 3, .invokestatic 220, 190, 0, [(0, 1672)]) from rfl) (by decide) rfl (by show 1 = _; decide +kernel) (by decide) (Ψ := fun v σ9 => σ9 = σ1 ∧ ((v = .inl 1 ∧ (48 ≤ (gn_sg σ e) ∧ (gn_sg σ e) ≤ 57)) ∨ (v = .inl 0 ∧ ¬ (48 ≤ (gn_sg σ e) ∧ (gn_sg σ e) ≤ 57)))) (gz_digit (d := 1) (fun q => ⟨rfl, Or.inl ⟨rfl, q⟩⟩) (fun q => ⟨rfl, Or.inr ⟨rfl, q⟩⟩)) gh_mono (fun v σ9 hv => ?_)
      obtain ⟨e9, hv⟩ := hv
      rw [e9, show gm_rc 190 = 2 by decide +kernel]
      rcases hv with ⟨rfl, hl⟩ | ⟨rfl, hl⟩
      · refine gh_if (show gh_at (gm_me 179).1 270 = some (270, 3, .ifCond .eq (52), 0, 322, []) from rfl) (fun q => absurd (show (1 : Int) = 0 from q) (by decide)) (fun _ => ?_)
        have hlt : e < s := by
          rcases Int.lt_or_le e s with q | q
          · exact q
          · have : gn_sg σ e = 0 := if_neg (by rw [es]; omega)
            omega
        refine gh_aload_n (show gh_at (gm_me 179).1 273 = some (273, 1, .aload_n 0, 0, 0, []) from rfl) rfl rfl ?_
        refine gh_get (show gh_at (gm_me 179).1 274 = some (274, 3, .getfield 195, 1, 7, [(0, 1448)]) from rfl) rfl (by decide +kernel) (by decide +kernel) (gh_rd0 (by decide +kernel)) ?_
        rw [show σ1 (1891 / 8) 7 = e from e1]
        refine gh_aload_n (show gh_at (gm_me 179).1 277 = some (277, 1, .aload_n 0, 0, 0, []) from rfl) rfl rfl ?_
        refine gh_get (show gh_at (gm_me 179).1 278 = some (278, 3, .getfield 198, 1, 6, [(0, 1447)]) from rfl) rfl (by decide +kernel) (by decide +kernel) (gh_rd0 (by decide +kernel)) ?_
        rw [show σ1 (1891 / 8) 6 = a from a1]
        refine gh_isub (z := e - a) (show gh_at (gm_me 179).1 281 = some (281, 1, .isub, 0, 0, []) from rfl) (gh_sub (by unfold gh_r; omega) (by unfold gh_r; omega) (by unfold gh_r; omega)) ?_
        refine gh_iconst (x := 4) (show gh_at (gm_me 179).1 282 = some (282, 1, .iconst 4, 32, 0, []) from rfl) (by decide) ?_
        refine gh_icmp (show gh_at (gm_me 179).1 283 = some (283, 3, .if_icmp .ge (26), 0, 309, []) from rfl) (fun _ => ?_) (fun _ => ?_)
        · refine gh_aload_n (show gh_at (gm_me 179).1 309 = some (309, 1, .aload_n 0, 0, 0, []) from rfl) rfl rfl ?_
          refine gh_dup (show gh_at (gm_me 179).1 310 = some (310, 1, .dup, 0, 0, []) from rfl) rfl ?_
          refine gh_get (show gh_at (gm_me 179).1 311 = some (311, 3, .getfield 195, 1, 7, [(0, 1448)]) from rfl) rfl (by decide +kernel) (by decide +kernel) (gh_rd0 (by decide +kernel)) ?_
          rw [show σ1 (1891 / 8) 7 = e from e1]
          refine gh_iconst (x := 1) (show gh_at (gm_me 179).1 314 = some (314, 1, .iconst 1, 8, 0, []) from rfl) (by decide) ?_
          refine gh_iadd (z := e + 1) (show gh_at (gm_me 179).1 315 = some (315, 1, .iadd, 0, 0, []) from rfl) (gh_add (by unfold gh_r; omega) (by unfold gh_r; omega) (by unfold gh_r; omega)) ?_
          refine gh_put (show gh_at (gm_me 179).1 316 = some (316, 3, .putfield 195, 1, 7, [(0, 1448)]) from rfl) rfl (by decide +kernel) (by decide +kernel) (by decide +kernel) (Or.inl rfl) ?_
          show gp_ok _ _ _ _ _ _ _ _ (gp_up σ1 236 7 (e + 1))
          have W_20 : gt_W (gs_wm b f) (gp_up σ1 236 7 (e + 1)) := gh_Wu W1 (c := 236) (j := 7) (x := (e + 1)) (fun _ => show gt_tv 73786976312018088458 (.inl ((e + 1))) from gh_mk (by decide) (by unfold gh_r; omega) (by omega) (by omega))
          have F_20 : gt_fr gs_tok σ (gp_up σ1 236 7 (e + 1)) := gh_fu F1 (by decide +kernel)
          have q_20_0 : (gp_up σ1 236 7 (e + 1)) 236 6 = a := (gh_up_ne (by decide)).trans a1
          have q_20_2 : (gp_up σ1 236 7 (e + 1)) 236 3 = s := (gh_up_ne (by decide)).trans s1
          have q_20 : (gp_up σ1 236 7 (e + 1)) 236 7 = (e + 1) := gh_up_eq _ _ _ _
          generalize (gp_up σ1 236 7 (e + 1)) = σ_20 at W_20 F_20 q_20_0 q_20_2 q_20 ⊢
          refine gh_goto (show gh_at (gm_me 179).1 319 = some (319, 3, .goto (-60), 0, 259, []) from rfl) ?_
          exact ih σ_20 (e + 1) (by omega) (by omega) (by omega) W_20 F_20 q_20_0 q_20
        · refine gh_aload_n (show gh_at (gm_me 179).1 286 = some (286, 1, .aload_n 0, 0, 0, []) from rfl) rfl rfl ?_
          refine gh_bipush (x := 10) (show gh_at (gm_me 179).1 287 = some (287, 2, .bipush (10), 80, 0, []) from rfl) (by decide) ?_
          refine gh_aload_n (show gh_at (gm_me 179).1 289 = some (289, 1, .aload_n 0, 0, 0, []) from rfl) rfl rfl ?_
          refine gh_get (show gh_at (gm_me 179).1 290 = some (290, 3, .getfield 223, 1, 9, [(0, 1450)]) from rfl) rfl (by decide +kernel) (by decide +kernel) (gh_rd0 (by decide +kernel)) ?_
          show gp_ok _ _ _ _ _ _ _ (.inl (σ1 236 9) :: _) _
          refine gh_imul (z := gp_b2 (fun x y => x * y) 10 (σ1 236 9)) (show gh_at (gm_me 179).1 293 = some (293, 1, .imul, 0, 0, []) from rfl) (rfl) ?_
          refine gh_aload_n (show gh_at (gm_me 179).1 294 = some (294, 1, .aload_n 0, 0, 0, []) from rfl) rfl rfl ?_
          refine gh_aload_n (show gh_at (gm_me 179).1 295 = some (295, 1, .aload_n 0, 0, 0, []) from rfl) rfl rfl ?_
          refine gh_get (show gh_at (gm_me 179).1 296 = some (296, 3, .getfield 195, 1, 7, [(0, 1448)]) from rfl) rfl (by decide +kernel) (by decide +kernel) (gh_rd0 (by decide +kernel)) ?_
          rw [show σ1 (1891 / 8) 7 = e from e1]
          refine gh_callV (r := 1891) (as := [.inl e]) (t := [.inl (gp_b2 (fun x y => x * y) 10 (σ1 236 9)), .inr 1891]) (show gh_at (gm_me 179).1 299 = some (299, 3, .invokevirtual 201, 180, 0, [(0, 1645)]) from rfl) (by decide) rfl (by show 2 = _; decide +kernel) (Nat.le_trans (gh_wd _) (Nat.le_of_ble_eq_true rfl)) rfl (by decide +kernel) (by decide +kernel) (Ψ := fun v σ9 => σ9 = σ1 ∧ v = .inl (gn_sg σ e)) (gz_sign (d := 1) W1 (by omega) ⟨rfl, by rw [gn_sge F1]⟩) gh_mono (fun v σ9 hv => ?_)
          obtain ⟨e9, rfl⟩ := hv
          rw [e9, show gm_rc 180 = 1 by decide +kernel]
          show gp_ok _ _ _ _ _ _ _ (.inl (gn_sg σ e) :: _) _
          refine gh_iadd (z := gp_b2 (fun x y => x + y) (gp_b2 (fun x y => x * y) 10 (σ1 236 9)) (gn_sg σ e)) (show gh_at (gm_me 179).1 302 = some (302, 1, .iadd, 0, 0, []) from rfl) (rfl) ?_
          refine gh_bipush (x := 48) (show gh_at (gm_me 179).1 303 = some (303, 2, .bipush (48), 384, 0, []) from rfl) (by decide) ?_
          refine gh_isub (z := gp_b2 (fun x y => x - y) (gp_b2 (fun x y => x + y) (gp_b2 (fun x y => x * y) 10 (σ1 236 9)) (gn_sg σ e)) 48) (show gh_at (gm_me 179).1 305 = some (305, 1, .isub, 0, 0, []) from rfl) (rfl) ?_
          refine gh_put (show gh_at (gm_me 179).1 306 = some (306, 3, .putfield 223, 1, 9, [(0, 1450)]) from rfl) rfl (by decide +kernel) (by decide +kernel) (by decide +kernel) (Or.inl rfl) ?_
          show gp_ok _ _ _ _ _ _ _ _ (gp_up σ1 236 9 (gp_b2 (fun x y => x - y) (gp_b2 (fun x y => x + y) (gp_b2 (fun x y => x * y) 10 (σ1 236 9)) (gn_sg σ e)) 48))
          have W_21 : gt_W (gs_wm b f) (gp_up σ1 236 9 (gp_b2 (fun x y => x - y) (gp_b2 (fun x y => x + y) (gp_b2 (fun x y => x * y) 10 (σ1 236 9)) (gn_sg σ e)) 48)) := gh_Wu W1 (c := 236) (j := 9) (x := (gp_b2 (fun x y => x - y) (gp_b2 (fun x y => x + y) (gp_b2 (fun x y => x * y) 10 (σ1 236 9)) (gn_sg σ e)) 48)) (fun _ => gh_any (gh_b2_r _ _ _))
          have F_21 : gt_fr gs_tok σ (gp_up σ1 236 9 (gp_b2 (fun x y => x - y) (gp_b2 (fun x y => x + y) (gp_b2 (fun x y => x * y) 10 (σ1 236 9)) (gn_sg σ e)) 48)) := gh_fu F1 (by decide +kernel)
          have q_21_0 : (gp_up σ1 236 9 (gp_b2 (fun x y => x - y) (gp_b2 (fun x y => x + y) (gp_b2 (fun x y => x * y) 10 (σ1 236 9)) (gn_sg σ e)) 48)) 236 6 = a := (gh_up_ne (by decide)).trans a1
          have q_21_1 : (gp_up σ1 236 9 (gp_b2 (fun x y => x - y) (gp_b2 (fun x y => x + y) (gp_b2 (fun x y => x * y) 10 (σ1 236 9)) (gn_sg σ e)) 48)) 236 7 = e := (gh_up_ne (by decide)).trans e1
          have q_21_2 : (gp_up σ1 236 9 (gp_b2 (fun x y => x - y) (gp_b2 (fun x y => x + y) (gp_b2 (fun x y => x * y) 10 (σ1 236 9)) (gn_sg σ e)) 48)) 236 3 = s := (gh_up_ne (by decide)).trans s1
          have q_21 : (gp_up σ1 236 9 (gp_b2 (fun x y => x - y) (gp_b2 (fun x y => x + y) (gp_b2 (fun x y => x * y) 10 (σ1 236 9)) (gn_sg σ e)) 48)) 236 9 = (gp_b2 (fun x y => x - y) (gp_b2 (fun x y => x + y) (gp_b2 (fun x y => x * y) 10 (σ1 236 9)) (gn_sg σ e)) 48) := gh_up_eq _ _ _ _
          generalize (gp_up σ1 236 9 (gp_b2 (fun x y => x - y) (gp_b2 (fun x y => x + y) (gp_b2 (fun x y => x * y) 10 (σ1 236 9)) (gn_sg σ e)) 48)) = σ_21 at W_21 F_21 q_21_0 q_21_1 q_21_2 q_21 ⊢
          refine gh_aload_n (show gh_at (gm_me 179).1 309 = some (309, 1, .aload_n 0, 0, 0, []) from rfl) rfl rfl ?_
          refine gh_dup (show gh_at (gm_me 179).1 310 = some (310, 1, .dup, 0, 0, []) from rfl) rfl ?_
          refine gh_get (show gh_at (gm_me 179).1 311 = some (311, 3, .getfield 195, 1, 7, [(0, 1448)]) from rfl) rfl (by decide +kernel) (by decide +kernel) (gh_rd0 (by decide +kernel)) ?_
          rw [show σ_21 (1891 / 8) 7 = e from q_21_1]
          refine gh_iconst (x := 1) (show gh_at (gm_me 179).1 314 = some (314, 1, .iconst 1, 8, 0, []) from rfl) (by decide) ?_
          refine gh_iadd (z := e + 1) (show gh_at (gm_me 179).1 315 = some (315, 1, .iadd, 0, 0, []) from rfl) (gh_add (by unfold gh_r; omega) (by unfold gh_r; omega) (by unfold gh_r; omega)) ?_
          refine gh_put (show gh_at (gm_me 179).1 316 = some (316, 3, .putfield 195, 1, 7, [(0, 1448)]) from rfl) rfl (by decide +kernel) (by decide +kernel) (by decide +kernel) (Or.inl rfl) ?_
          show gp_ok _ _ _ _ _ _ _ _ (gp_up σ_21 236 7 (e + 1))
          have W_22 : gt_W (gs_wm b f) (gp_up σ_21 236 7 (e + 1)) := gh_Wu W_21 (c := 236) (j := 7) (x := (e + 1)) (fun _ => show gt_tv 73786976312018088458 (.inl ((e + 1))) from gh_mk (by decide) (by unfold gh_r; omega) (by omega) (by omega))
          have F_22 : gt_fr gs_tok σ (gp_up σ_21 236 7 (e + 1)) := gh_fu F_21 (by decide +kernel)
          have q_22_0 : (gp_up σ_21 236 7 (e + 1)) 236 6 = a := (gh_up_ne (by decide)).trans q_21_0
          have q_22_2 : (gp_up σ_21 236 7 (e + 1)) 236 3 = s := (gh_up_ne (by decide)).trans q_21_2
          have q_22_3 : (gp_up σ_21 236 7 (e + 1)) 236 9 = (gp_b2 (fun x y => x - y) (gp_b2 (fun x y => x + y) (gp_b2 (fun x y => x * y) 10 (σ1 236 9)) (gn_sg σ e)) 48) := (gh_up_ne (by decide)).trans q_21
          have q_22 : (gp_up σ_21 236 7 (e + 1)) 236 7 = (e + 1) := gh_up_eq _ _ _ _
          generalize (gp_up σ_21 236 7 (e + 1)) = σ_22 at W_22 F_22 q_22_0 q_22_2 q_22_3 q_22 ⊢
          refine gh_goto (show gh_at (gm_me 179).1 319 = some (319, 3, .goto (-60), 0, 259, []) from rfl) ?_
          exact ih σ_22 (e + 1) (by omega) (by omega) (by omega) W_22 F_22 q_22_0 q_22
      · refine gh_if (show gh_at (gm_me 179).1 270 = some (270, 3, .ifCond .eq (52), 0, 322, []) from rfl) (fun _ => ?_) (fun q => absurd rfl q)
        have hae : a < e := by
          rcases Int.lt_or_le a e with q | q
          · exact q
          · exact absurd (by rw [show e = a by omega]; exact hd) hl
        refine gh_aload_n (show gh_at (gm_me 179).1 322 = some (322, 1, .aload_n 0, 0, 0, []) from rfl) rfl rfl ?_
        refine gh_aload_n (show gh_at (gm_me 179).1 323 = some (323, 1, .aload_n 0, 0, 0, []) from rfl) rfl rfl ?_
        refine gh_get (show gh_at (gm_me 179).1 324 = some (324, 3, .getfield 195, 1, 7, [(0, 1448)]) from rfl) rfl (by decide +kernel) (by decide +kernel) (gh_rd0 (by decide +kernel)) ?_
        rw [show σ1 (1891 / 8) 7 = e from e1]
        refine gh_aload_n (show gh_at (gm_me 179).1 327 = some (327, 1, .aload_n 0, 0, 0, []) from rfl) rfl rfl ?_
        refine gh_get (show gh_at (gm_me 179).1 328 = some (328, 3, .getfield 198, 1, 6, [(0, 1447)]) from rfl) rfl (by decide +kernel) (by decide +kernel) (gh_rd0 (by decide +kernel)) ?_
        rw [show σ1 (1891 / 8) 6 = a from a1]
        refine gh_isub (z := e - a) (show gh_at (gm_me 179).1 331 = some (331, 1, .isub, 0, 0, []) from rfl) (gh_sub (by unfold gh_r; omega) (by unfold gh_r; omega) (by unfold gh_r; omega)) ?_
        refine gh_iconst (x := 4) (show gh_at (gm_me 179).1 332 = some (332, 1, .iconst 4, 32, 0, []) from rfl) (by decide) ?_
        refine gh_icmp (show gh_at (gm_me 179).1 333 = some (333, 3, .if_icmp .gt (17), 0, 350, []) from rfl) (fun _ => ?_) (fun _ => ?_)
        · refine gh_iconst (x := 1) (show gh_at (gm_me 179).1 350 = some (350, 1, .iconst 1, 8, 0, []) from rfl) (by decide) ?_
          refine gh_goto (show gh_at (gm_me 179).1 351 = some (351, 3, .goto (4), 0, 355, []) from rfl) ?_
          refine gh_put (show gh_at (gm_me 179).1 355 = some (355, 3, .putfield 205, 1, 8, [(0, 1449)]) from rfl) rfl (by decide +kernel) (by decide +kernel) (by decide +kernel) (Or.inl rfl) ?_
          show gp_ok _ _ _ _ _ _ _ _ (gp_up σ1 236 8 1)
          have W_23 : gt_W (gs_wm b f) (gp_up σ1 236 8 1) := gh_Wu W1 (c := 236) (j := 8) (x := 1) (fun _ => gh_any (by unfold gh_r; omega))
          have F_23 : gt_fr gs_tok σ (gp_up σ1 236 8 1) := gh_fu F1 (by decide +kernel)
          have q_23_0 : (gp_up σ1 236 8 1) 236 6 = a := (gh_up_ne (by decide)).trans a1
          have q_23_1 : (gp_up σ1 236 8 1) 236 7 = e := (gh_up_ne (by decide)).trans e1
          have q_23_2 : (gp_up σ1 236 8 1) 236 3 = s := (gh_up_ne (by decide)).trans s1
          have q_23 : (gp_up σ1 236 8 1) 236 8 = 1 := gh_up_eq _ _ _ _
          generalize (gp_up σ1 236 8 1) = σ_23 at W_23 F_23 q_23_0 q_23_1 q_23_2 q_23 ⊢
          refine gh_goto (show gh_at (gm_me 179).1 358 = some (358, 3, .goto (19), 0, 377, []) from rfl) ?_
          refine gh_ret (show gh_at (gm_me 179).1 377 = some (377, 1, .return_, 0, 0, []) from rfl) rfl ?_
          exact ⟨W_23, F_23, by rw [es, q_23_1]; omega, Or.inr ⟨fun q => absurd (q_23.symm.trans q) (by decide), by rw [ee, q_23_1]; omega⟩⟩
        · refine gh_aload_n (show gh_at (gm_me 179).1 336 = some (336, 1, .aload_n 0, 0, 0, []) from rfl) rfl rfl ?_
          refine gh_aload_n (show gh_at (gm_me 179).1 337 = some (337, 1, .aload_n 0, 0, 0, []) from rfl) rfl rfl ?_
          refine gh_get (show gh_at (gm_me 179).1 338 = some (338, 3, .getfield 195, 1, 7, [(0, 1448)]) from rfl) rfl (by decide +kernel) (by decide +kernel) (gh_rd0 (by decide +kernel)) ?_
          rw [show σ1 (1891 / 8) 7 = e from e1]
          refine gh_callV (r := 1891) (as := [.inl e]) (t := [.inr 1891]) (show gh_at (gm_me 179).1 341 = some (341, 3, .invokevirtual 201, 180, 0, [(0, 1645)]) from rfl) (by decide) rfl (by show 2 = _; decide +kernel) (Nat.le_trans (gh_wd _) (Nat.le_of_ble_eq_true rfl)) rfl (by decide +kernel) (by decide +kernel) (Ψ := fun v σ9 => σ9 = σ1 ∧ v = .inl (gn_sg σ e)) (gz_sign (d := 1) W1 (by omega) ⟨rfl, by rw [gn_sge F1]⟩) gh_mono (fun v σ9 hv => ?_)
          obtain ⟨e9, rfl⟩ := hv
          rw [e9, show gm_rc 180 = 1 by decide +kernel]
          show gp_ok _ _ _ _ _ _ _ (.inl (gn_sg σ e) :: _) _
          refine gh_callS (as := [.inl (gn_sg σ e)]) (t := [.inr 1891]) (show gh_at (gm_me 179).1 344 = some (344, 3, .invokestatic 208, 189, 0, [(0, 1649)]) from rfl) (by decide) rfl (by show 1 = _; decide +kernel) (by decide) (Ψ := fun v σ9 => σ9 = σ1 ∧ ((v = .inl 1 ∧ (97 ≤ (gn_sg σ e) ∧ (gn_sg σ e) ≤ 122)) ∨ (v = .inl 0 ∧ ¬ (97 ≤ (gn_sg σ e) ∧ (gn_sg σ e) ≤ 122)))) (gz_letter (d := 1) (fun q => ⟨rfl, Or.inl ⟨rfl, q⟩⟩) (fun q => ⟨rfl, Or.inr ⟨rfl, q⟩⟩)) gh_mono (fun v σ9 hv => ?_)
          obtain ⟨e9, hv⟩ := hv
          rw [e9, show gm_rc 189 = 2 by decide +kernel]
          rcases hv with ⟨rfl, hl2⟩ | ⟨rfl, hl2⟩
          · refine gh_if (show gh_at (gm_me 179).1 347 = some (347, 3, .ifCond .eq (7), 0, 354, []) from rfl) (fun q => absurd (show (1 : Int) = 0 from q) (by decide)) (fun _ => ?_)
            refine gh_iconst (x := 1) (show gh_at (gm_me 179).1 350 = some (350, 1, .iconst 1, 8, 0, []) from rfl) (by decide) ?_
            refine gh_goto (show gh_at (gm_me 179).1 351 = some (351, 3, .goto (4), 0, 355, []) from rfl) ?_
            refine gh_put (show gh_at (gm_me 179).1 355 = some (355, 3, .putfield 205, 1, 8, [(0, 1449)]) from rfl) rfl (by decide +kernel) (by decide +kernel) (by decide +kernel) (Or.inl rfl) ?_
            show gp_ok _ _ _ _ _ _ _ _ (gp_up σ1 236 8 1)
            have W_24 : gt_W (gs_wm b f) (gp_up σ1 236 8 1) := gh_Wu W1 (c := 236) (j := 8) (x := 1) (fun _ => gh_any (by unfold gh_r; omega))
            have F_24 : gt_fr gs_tok σ (gp_up σ1 236 8 1) := gh_fu F1 (by decide +kernel)
            have q_24_0 : (gp_up σ1 236 8 1) 236 6 = a := (gh_up_ne (by decide)).trans a1
            have q_24_1 : (gp_up σ1 236 8 1) 236 7 = e := (gh_up_ne (by decide)).trans e1
            have q_24_2 : (gp_up σ1 236 8 1) 236 3 = s := (gh_up_ne (by decide)).trans s1
            have q_24 : (gp_up σ1 236 8 1) 236 8 = 1 := gh_up_eq _ _ _ _
            generalize (gp_up σ1 236 8 1) = σ_24 at W_24 F_24 q_24_0 q_24_1 q_24_2 q_24 ⊢
            refine gh_goto (show gh_at (gm_me 179).1 358 = some (358, 3, .goto (19), 0, 377, []) from rfl) ?_
            refine gh_ret (show gh_at (gm_me 179).1 377 = some (377, 1, .return_, 0, 0, []) from rfl) rfl ?_
            exact ⟨W_24, F_24, by rw [es, q_24_1]; omega, Or.inr ⟨fun q => absurd (q_24.symm.trans q) (by decide), by rw [ee, q_24_1]; omega⟩⟩
          · refine gh_if (show gh_at (gm_me 179).1 347 = some (347, 3, .ifCond .eq (7), 0, 354, []) from rfl) (fun _ => ?_) (fun q => absurd rfl q)
            refine gh_iconst (x := 4) (show gh_at (gm_me 179).1 354 = some (354, 1, .iconst 4, 32, 0, []) from rfl) (by decide) ?_
            refine gh_put (show gh_at (gm_me 179).1 355 = some (355, 3, .putfield 205, 1, 8, [(0, 1449)]) from rfl) rfl (by decide +kernel) (by decide +kernel) (by decide +kernel) (Or.inl rfl) ?_
            show gp_ok _ _ _ _ _ _ _ _ (gp_up σ1 236 8 4)
            have W_25 : gt_W (gs_wm b f) (gp_up σ1 236 8 4) := gh_Wu W1 (c := 236) (j := 8) (x := 4) (fun _ => gh_any (by unfold gh_r; omega))
            have F_25 : gt_fr gs_tok σ (gp_up σ1 236 8 4) := gh_fu F1 (by decide +kernel)
            have q_25_0 : (gp_up σ1 236 8 4) 236 6 = a := (gh_up_ne (by decide)).trans a1
            have q_25_1 : (gp_up σ1 236 8 4) 236 7 = e := (gh_up_ne (by decide)).trans e1
            have q_25_2 : (gp_up σ1 236 8 4) 236 3 = s := (gh_up_ne (by decide)).trans s1
            have q_25 : (gp_up σ1 236 8 4) 236 8 = 4 := gh_up_eq _ _ _ _
            generalize (gp_up σ1 236 8 4) = σ_25 at W_25 F_25 q_25_0 q_25_1 q_25_2 q_25 ⊢
            refine gh_goto (show gh_at (gm_me 179).1 358 = some (358, 3, .goto (19), 0, 377, []) from rfl) ?_
            refine gh_ret (show gh_at (gm_me 179).1 377 = some (377, 1, .return_, 0, 0, []) from rfl) rfl ?_
            exact ⟨W_25, F_25, by rw [es, q_25_1]; omega, Or.inr ⟨fun q => absurd (q_25.symm.trans q) (by decide), by rw [ee, q_25_1]; omega⟩⟩
  have tail : ∀ (σ1 : gp_S) (a : Int), e0 ≤ a → a ≤ s → gt_W (gs_wm b f) σ1 → gt_fr gs_tok σ σ1 → σ1 236 6 = a → gp_ok gs_sh (gp_call gs_sh 2) 0 (gm_me 179).1 (fun _ σ' => gt_W (gs_wm b f) σ' ∧ gt_fr gs_tok σ σ' ∧ σ' 236 7 ≤ σ 236 3 ∧ ((σ' 236 8 = 0 ∧ σ' 236 7 = σ 236 3) ∨ (¬ σ' 236 8 = 0 ∧ σ 236 7 < σ' 236 7))) 58 [.inr 1891, .inr 7, .inr 7] [] σ1 := by
    intro σ1 a h1 h2 W1 F1 a1
    have s1 : σ1 236 3 = s := (F1 236 3 rfl).trans es
    refine gh_aload_n (show gh_at (gm_me 179).1 58 = some (58, 1, .aload_n 0, 0, 0, []) from rfl) rfl rfl ?_
    refine gh_aload_n (show gh_at (gm_me 179).1 59 = some (59, 1, .aload_n 0, 0, 0, []) from rfl) rfl rfl ?_
    refine gh_get (show gh_at (gm_me 179).1 60 = some (60, 3, .getfield 198, 1, 6, [(0, 1447)]) from rfl) rfl (by decide +kernel) (by decide +kernel) (gh_rd0 (by decide +kernel)) ?_
    rw [show σ1 (1891 / 8) 6 = a from a1]
    refine gh_callV (r := 1891) (as := [.inl a]) (t := []) (show gh_at (gm_me 179).1 63 = some (63, 3, .invokevirtual 201, 180, 0, [(0, 1645)]) from rfl) (by decide) rfl (by show 2 = _; decide +kernel) (Nat.le_trans (gh_wd _) (Nat.le_of_ble_eq_true rfl)) rfl (by decide +kernel) (by decide +kernel) (Ψ := fun v σ9 => σ9 = σ1 ∧ v = .inl (gn_sg σ a)) (gz_sign (d := 1) W1 (by omega) ⟨rfl, by rw [gn_sge F1]⟩) gh_mono (fun v σ9 hv => ?_)
    obtain ⟨e9, rfl⟩ := hv
    rw [e9, show gm_rc 180 = 1 by decide +kernel]
    show gp_ok _ _ _ _ _ _ _ (.inl (gn_sg σ a) :: _) _
    obtain ⟨c, ec⟩ : ∃ c : Int, gn_sg σ a = c := ⟨_, rfl⟩
    have hcr := gn_sgr σ a
    rw [ec] at hcr ⊢
    refine gh_istore_n (show gh_at (gm_me 179).1 66 = some (66, 1, .istore_n 1, 0, 0, []) from rfl) (fun c q => by cases q <;> decide) rfl ?_
    refine gh_aload_n (show gh_at (gm_me 179).1 67 = some (67, 1, .aload_n 0, 0, 0, []) from rfl) rfl rfl ?_
    refine gh_aload_n (show gh_at (gm_me 179).1 68 = some (68, 1, .aload_n 0, 0, 0, []) from rfl) rfl rfl ?_
    refine gh_get (show gh_at (gm_me 179).1 69 = some (69, 3, .getfield 198, 1, 6, [(0, 1447)]) from rfl) rfl (by decide +kernel) (by decide +kernel) (gh_rd0 (by decide +kernel)) ?_
    rw [show σ1 (1891 / 8) 6 = a from a1]
    refine gh_iconst (x := 1) (show gh_at (gm_me 179).1 72 = some (72, 1, .iconst 1, 8, 0, []) from rfl) (by decide) ?_
    refine gh_iadd (z := a + 1) (show gh_at (gm_me 179).1 73 = some (73, 1, .iadd, 0, 0, []) from rfl) (gh_add (by unfold gh_r; omega) (by unfold gh_r; omega) (by unfold gh_r; omega)) ?_
    refine gh_put (show gh_at (gm_me 179).1 74 = some (74, 3, .putfield 195, 1, 7, [(0, 1448)]) from rfl) rfl (by decide +kernel) (by decide +kernel) (by decide +kernel) (Or.inl rfl) ?_
    show gp_ok _ _ _ _ _ _ _ _ (gp_up σ1 236 7 (a + 1))
    have W_26 : gt_W (gs_wm b f) (gp_up σ1 236 7 (a + 1)) := gh_Wu W1 (c := 236) (j := 7) (x := (a + 1)) (fun _ => show gt_tv 73786976312018088458 (.inl ((a + 1))) from gh_mk (by decide) (by unfold gh_r; omega) (by omega) (by omega))
    have F_26 : gt_fr gs_tok σ (gp_up σ1 236 7 (a + 1)) := gh_fu F1 (by decide +kernel)
    have q_26_0 : (gp_up σ1 236 7 (a + 1)) 236 6 = a := (gh_up_ne (by decide)).trans a1
    have q_26_1 : (gp_up σ1 236 7 (a + 1)) 236 3 = s := (gh_up_ne (by decide)).trans s1
    have q_26 : (gp_up σ1 236 7 (a + 1)) 236 7 = (a + 1) := gh_up_eq _ _ _ _
    generalize (gp_up σ1 236 7 (a + 1)) = σ_26 at W_26 F_26 q_26_0 q_26_1 q_26 ⊢
    refine gh_aload_n (show gh_at (gm_me 179).1 77 = some (77, 1, .aload_n 0, 0, 0, []) from rfl) rfl rfl ?_
    refine gh_get (show gh_at (gm_me 179).1 78 = some (78, 3, .getfield 198, 1, 6, [(0, 1447)]) from rfl) rfl (by decide +kernel) (by decide +kernel) (gh_rd0 (by decide +kernel)) ?_
    rw [show σ_26 (1891 / 8) 6 = a from q_26_0]
    refine gh_aload_n (show gh_at (gm_me 179).1 81 = some (81, 1, .aload_n 0, 0, 0, []) from rfl) rfl rfl ?_
    refine gh_get (show gh_at (gm_me 179).1 82 = some (82, 3, .getfield 155, 1, 3, [(0, 1444)]) from rfl) rfl (by decide +kernel) (by decide +kernel) (gh_rd0 (by decide +kernel)) ?_
    rw [show σ_26 (1891 / 8) 3 = s from q_26_1]
    refine gh_icmp (show gh_at (gm_me 179).1 85 = some (85, 3, .if_icmp .lt (27), 0, 112, []) from rfl) (fun hc => ?_) (fun hc => ?_)
    · have hc : a < s := hc
      refine gh_iload_n (show gh_at (gm_me 179).1 112 = some (112, 1, .iload_n 1, 0, 0, []) from rfl) rfl ?_
      refine gh_callS (as := [.inl c]) (t := []) (show gh_at (gm_me 179).1 113 = some (113, 3, .invokestatic 208, 189, 0, [(0, 1649)]) from rfl) (by decide) rfl (by show 1 = _; decide +kernel) (by decide) (Ψ := fun v σ9 => σ9 = σ_26 ∧ ((v = .inl 1 ∧ (97 ≤ c ∧ c ≤ 122)) ∨ (v = .inl 0 ∧ ¬ (97 ≤ c ∧ c ≤ 122)))) (gz_letter (d := 1) (fun q => ⟨rfl, Or.inl ⟨rfl, q⟩⟩) (fun q => ⟨rfl, Or.inr ⟨rfl, q⟩⟩)) gh_mono (fun v σ9 hv => ?_)
      obtain ⟨e9, hv⟩ := hv
      rw [e9, show gm_rc 189 = 2 by decide +kernel]
      rcases hv with ⟨rfl, hl⟩ | ⟨rfl, hl⟩
      · refine gh_if (show gh_at (gm_me 179).1 116 = some (116, 3, .ifCond .eq (123), 0, 239, []) from rfl) (fun q => absurd (show (1 : Int) = 0 from q) (by decide)) (fun _ => ?_)
        exact word a c h1 (s - (a + 1)).toNat σ_26 (a + 1) (by omega) (by omega) (by omega) W_26 F_26 q_26_0 q_26
      · refine gh_if (show gh_at (gm_me 179).1 116 = some (116, 3, .ifCond .eq (123), 0, 239, []) from rfl) (fun _ => ?_) (fun q => absurd rfl q)
        refine gh_iload_n (show gh_at (gm_me 179).1 239 = some (239, 1, .iload_n 1, 0, 0, []) from rfl) rfl ?_
        refine gh_callS (as := [.inl c]) (t := []) (show gh_at (gm_me 179).1 240 = some (240, 3, .invokestatic 220, 190, 0, [(0, 1672)]) from rfl) (by decide) rfl (by show 1 = _; decide +kernel) (by decide) (Ψ := fun v σ9 => σ9 = σ_26 ∧ ((v = .inl 1 ∧ (48 ≤ c ∧ c ≤ 57)) ∨ (v = .inl 0 ∧ ¬ (48 ≤ c ∧ c ≤ 57)))) (gz_digit (d := 1) (fun q => ⟨rfl, Or.inl ⟨rfl, q⟩⟩) (fun q => ⟨rfl, Or.inr ⟨rfl, q⟩⟩)) gh_mono (fun v σ9 hv => ?_)
        obtain ⟨e9, hv⟩ := hv
        rw [e9, show gm_rc 190 = 2 by decide +kernel]
        rcases hv with ⟨rfl, hd⟩ | ⟨rfl, hd⟩
        · refine gh_if (show gh_at (gm_me 179).1 243 = some (243, 3, .ifCond .eq (118), 0, 361, []) from rfl) (fun q => absurd (show (1 : Int) = 0 from q) (by decide)) (fun _ => ?_)
          refine gh_aload_n (show gh_at (gm_me 179).1 246 = some (246, 1, .aload_n 0, 0, 0, []) from rfl) rfl rfl ?_
          refine gh_iconst (x := 0) (show gh_at (gm_me 179).1 247 = some (247, 1, .iconst 0, 0, 0, []) from rfl) (by decide) ?_
          refine gh_put (show gh_at (gm_me 179).1 248 = some (248, 3, .putfield 223, 1, 9, [(0, 1450)]) from rfl) rfl (by decide +kernel) (by decide +kernel) (by decide +kernel) (Or.inl rfl) ?_
          show gp_ok _ _ _ _ _ _ _ _ (gp_up σ_26 236 9 0)
          have W_27 : gt_W (gs_wm b f) (gp_up σ_26 236 9 0) := gh_Wu W_26 (c := 236) (j := 9) (x := 0) (fun _ => gh_any (by unfold gh_r; omega))
          have F_27 : gt_fr gs_tok σ (gp_up σ_26 236 9 0) := gh_fu F_26 (by decide +kernel)
          have q_27_0 : (gp_up σ_26 236 9 0) 236 6 = a := (gh_up_ne (by decide)).trans q_26_0
          have q_27_1 : (gp_up σ_26 236 9 0) 236 3 = s := (gh_up_ne (by decide)).trans q_26_1
          have q_27_2 : (gp_up σ_26 236 9 0) 236 7 = (a + 1) := (gh_up_ne (by decide)).trans q_26
          have q_27 : (gp_up σ_26 236 9 0) 236 9 = 0 := gh_up_eq _ _ _ _
          generalize (gp_up σ_26 236 9 0) = σ_27 at W_27 F_27 q_27_0 q_27_1 q_27_2 q_27 ⊢
          refine gh_aload_n (show gh_at (gm_me 179).1 251 = some (251, 1, .aload_n 0, 0, 0, []) from rfl) rfl rfl ?_
          refine gh_aload_n (show gh_at (gm_me 179).1 252 = some (252, 1, .aload_n 0, 0, 0, []) from rfl) rfl rfl ?_
          refine gh_get (show gh_at (gm_me 179).1 253 = some (253, 3, .getfield 198, 1, 6, [(0, 1447)]) from rfl) rfl (by decide +kernel) (by decide +kernel) (gh_rd0 (by decide +kernel)) ?_
          rw [show σ_27 (1891 / 8) 6 = a from q_27_0]
          refine gh_put (show gh_at (gm_me 179).1 256 = some (256, 3, .putfield 195, 1, 7, [(0, 1448)]) from rfl) rfl (by decide +kernel) (by decide +kernel) (by decide +kernel) (Or.inl rfl) ?_
          show gp_ok _ _ _ _ _ _ _ _ (gp_up σ_27 236 7 (a))
          have W_28 : gt_W (gs_wm b f) (gp_up σ_27 236 7 (a)) := gh_Wu W_27 (c := 236) (j := 7) (x := (a)) (fun _ => show gt_tv 73786976312018088458 (.inl ((a))) from gh_mk (by decide) (by unfold gh_r; omega) (by omega) (by omega))
          have F_28 : gt_fr gs_tok σ (gp_up σ_27 236 7 (a)) := gh_fu F_27 (by decide +kernel)
          have q_28_0 : (gp_up σ_27 236 7 (a)) 236 6 = a := (gh_up_ne (by decide)).trans q_27_0
          have q_28_1 : (gp_up σ_27 236 7 (a)) 236 3 = s := (gh_up_ne (by decide)).trans q_27_1
          have q_28_3 : (gp_up σ_27 236 7 (a)) 236 9 = 0 := (gh_up_ne (by decide)).trans q_27
          have q_28 : (gp_up σ_27 236 7 (a)) 236 7 = (a) := gh_up_eq _ _ _ _
          generalize (gp_up σ_27 236 7 (a)) = σ_28 at W_28 F_28 q_28_0 q_28_1 q_28_3 q_28 ⊢
          exact numb a c h1 (by rw [ec]; exact hd) (s - a).toNat σ_28 a (by omega) (by omega) (by omega) W_28 F_28 q_28_0 q_28
        · refine gh_if (show gh_at (gm_me 179).1 243 = some (243, 3, .ifCond .eq (118), 0, 361, []) from rfl) (fun _ => ?_) (fun q => absurd rfl q)
          refine gh_aload_n (show gh_at (gm_me 179).1 361 = some (361, 1, .aload_n 0, 0, 0, []) from rfl) rfl rfl ?_
          refine gh_iload_n (show gh_at (gm_me 179).1 362 = some (362, 1, .iload_n 1, 0, 0, []) from rfl) rfl ?_
          refine gh_callS (as := [.inl c]) (t := [.inr 1891]) (show gh_at (gm_me 179).1 363 = some (363, 3, .invokestatic 226, 193, 0, [(0, 1675)]) from rfl) (by decide) rfl (by show 1 = _; decide +kernel) (by decide) (gp_call_le (by show 1 ≤ 2; decide) (cn_60 hb hf [.inl c] σ_26 W_26 trivial (fun p hp => by cases hp) ⟨gh_any hcr, trivial⟩)) gh_mono (fun v σ9 hv => ?_)
          obtain ⟨-, -, F9, hr⟩ := hv
          have e9 := gh_fr0 F9
          obtain ⟨z, rfl, -⟩ := gh_tvi (t := 73786976312018075658) (by decide) (hr.resolve_left (by show ¬ gm_rc 193 = 0; decide +kernel))
          rw [e9, show gm_rc 193 = 2 by decide +kernel]
          refine gh_if (show gh_at (gm_me 179).1 366 = some (366, 3, .ifCond .eq (7), 0, 373, []) from rfl) (fun _ => ?_) (fun _ => ?_)
          · refine gh_iconst (x := 1) (show gh_at (gm_me 179).1 373 = some (373, 1, .iconst 1, 8, 0, []) from rfl) (by decide) ?_
            refine gh_put (show gh_at (gm_me 179).1 374 = some (374, 3, .putfield 205, 1, 8, [(0, 1449)]) from rfl) rfl (by decide +kernel) (by decide +kernel) (by decide +kernel) (Or.inl rfl) ?_
            show gp_ok _ _ _ _ _ _ _ _ (gp_up σ_26 236 8 1)
            have W_29 : gt_W (gs_wm b f) (gp_up σ_26 236 8 1) := gh_Wu W_26 (c := 236) (j := 8) (x := 1) (fun _ => gh_any (by unfold gh_r; omega))
            have F_29 : gt_fr gs_tok σ (gp_up σ_26 236 8 1) := gh_fu F_26 (by decide +kernel)
            have q_29_0 : (gp_up σ_26 236 8 1) 236 6 = a := (gh_up_ne (by decide)).trans q_26_0
            have q_29_1 : (gp_up σ_26 236 8 1) 236 3 = s := (gh_up_ne (by decide)).trans q_26_1
            have q_29_2 : (gp_up σ_26 236 8 1) 236 7 = (a + 1) := (gh_up_ne (by decide)).trans q_26
            have q_29 : (gp_up σ_26 236 8 1) 236 8 = 1 := gh_up_eq _ _ _ _
            generalize (gp_up σ_26 236 8 1) = σ_29 at W_29 F_29 q_29_0 q_29_1 q_29_2 q_29 ⊢
            refine gh_ret (show gh_at (gm_me 179).1 377 = some (377, 1, .return_, 0, 0, []) from rfl) rfl ?_
            exact ⟨W_29, F_29, by rw [es, q_29_2]; omega, Or.inr ⟨fun q => absurd (q_29.symm.trans q) (by decide), by rw [ee, q_29_2]; omega⟩⟩
          · refine gh_iconst (x := 5) (show gh_at (gm_me 179).1 369 = some (369, 1, .iconst 5, 40, 0, []) from rfl) (by decide) ?_
            refine gh_goto (show gh_at (gm_me 179).1 370 = some (370, 3, .goto (4), 0, 374, []) from rfl) ?_
            refine gh_put (show gh_at (gm_me 179).1 374 = some (374, 3, .putfield 205, 1, 8, [(0, 1449)]) from rfl) rfl (by decide +kernel) (by decide +kernel) (by decide +kernel) (Or.inl rfl) ?_
            show gp_ok _ _ _ _ _ _ _ _ (gp_up σ_26 236 8 5)
            have W_30 : gt_W (gs_wm b f) (gp_up σ_26 236 8 5) := gh_Wu W_26 (c := 236) (j := 8) (x := 5) (fun _ => gh_any (by unfold gh_r; omega))
            have F_30 : gt_fr gs_tok σ (gp_up σ_26 236 8 5) := gh_fu F_26 (by decide +kernel)
            have q_30_0 : (gp_up σ_26 236 8 5) 236 6 = a := (gh_up_ne (by decide)).trans q_26_0
            have q_30_1 : (gp_up σ_26 236 8 5) 236 3 = s := (gh_up_ne (by decide)).trans q_26_1
            have q_30_2 : (gp_up σ_26 236 8 5) 236 7 = (a + 1) := (gh_up_ne (by decide)).trans q_26
            have q_30 : (gp_up σ_26 236 8 5) 236 8 = 5 := gh_up_eq _ _ _ _
            generalize (gp_up σ_26 236 8 5) = σ_30 at W_30 F_30 q_30_0 q_30_1 q_30_2 q_30 ⊢
            refine gh_ret (show gh_at (gm_me 179).1 377 = some (377, 1, .return_, 0, 0, []) from rfl) rfl ?_
            exact ⟨W_30, F_30, by rw [es, q_30_2]; omega, Or.inr ⟨fun q => absurd (q_30.symm.trans q) (by decide), by rw [ee, q_30_2]; omega⟩⟩
    · refine gh_aload_n (show gh_at (gm_me 179).1 88 = some (88, 1, .aload_n 0, 0, 0, []) from rfl) rfl rfl ?_
      refine gh_iconst (x := 0) (show gh_at (gm_me 179).1 89 = some (89, 1, .iconst 0, 0, 0, []) from rfl) (by decide) ?_
      refine gh_put (show gh_at (gm_me 179).1 90 = some (90, 3, .putfield 205, 1, 8, [(0, 1449)]) from rfl) rfl (by decide +kernel) (by decide +kernel) (by decide +kernel) (Or.inl rfl) ?_
      show gp_ok _ _ _ _ _ _ _ _ (gp_up σ_26 236 8 0)
      have W_31 : gt_W (gs_wm b f) (gp_up σ_26 236 8 0) := gh_Wu W_26 (c := 236) (j := 8) (x := 0) (fun _ => gh_any (by unfold gh_r; omega))
      have F_31 : gt_fr gs_tok σ (gp_up σ_26 236 8 0) := gh_fu F_26 (by decide +kernel)
      have q_31_0 : (gp_up σ_26 236 8 0) 236 6 = a := (gh_up_ne (by decide)).trans q_26_0
      have q_31_1 : (gp_up σ_26 236 8 0) 236 3 = s := (gh_up_ne (by decide)).trans q_26_1
      have q_31_2 : (gp_up σ_26 236 8 0) 236 7 = (a + 1) := (gh_up_ne (by decide)).trans q_26
      have q_31 : (gp_up σ_26 236 8 0) 236 8 = 0 := gh_up_eq _ _ _ _
      generalize (gp_up σ_26 236 8 0) = σ_31 at W_31 F_31 q_31_0 q_31_1 q_31_2 q_31 ⊢
      refine gh_aload_n (show gh_at (gm_me 179).1 93 = some (93, 1, .aload_n 0, 0, 0, []) from rfl) rfl rfl ?_
      refine gh_aload_n (show gh_at (gm_me 179).1 94 = some (94, 1, .aload_n 0, 0, 0, []) from rfl) rfl rfl ?_
      refine gh_get (show gh_at (gm_me 179).1 95 = some (95, 3, .getfield 155, 1, 3, [(0, 1444)]) from rfl) rfl (by decide +kernel) (by decide +kernel) (gh_rd0 (by decide +kernel)) ?_
      rw [show σ_31 (1891 / 8) 3 = s from q_31_1]
      refine gh_put (show gh_at (gm_me 179).1 98 = some (98, 3, .putfield 198, 1, 6, [(0, 1447)]) from rfl) rfl (by decide +kernel) (by decide +kernel) (by decide +kernel) (Or.inl rfl) ?_
      show gp_ok _ _ _ _ _ _ _ _ (gp_up σ_31 236 6 (s))
      have W_32 : gt_W (gs_wm b f) (gp_up σ_31 236 6 (s)) := gh_Wu W_31 (c := 236) (j := 6) (x := (s)) (fun _ => show gt_tv 73786976312018088450 (.inl ((s))) from gh_mk (by decide) (by unfold gh_r; omega) (by omega) (by omega))
      have F_32 : gt_fr gs_tok σ (gp_up σ_31 236 6 (s)) := gh_fu F_31 (by decide +kernel)
      have q_32_1 : (gp_up σ_31 236 6 (s)) 236 3 = s := (gh_up_ne (by decide)).trans q_31_1
      have q_32_2 : (gp_up σ_31 236 6 (s)) 236 7 = (a + 1) := (gh_up_ne (by decide)).trans q_31_2
      have q_32_3 : (gp_up σ_31 236 6 (s)) 236 8 = 0 := (gh_up_ne (by decide)).trans q_31
      have q_32 : (gp_up σ_31 236 6 (s)) 236 6 = (s) := gh_up_eq _ _ _ _
      generalize (gp_up σ_31 236 6 (s)) = σ_32 at W_32 F_32 q_32_1 q_32_2 q_32_3 q_32 ⊢
      refine gh_aload_n (show gh_at (gm_me 179).1 101 = some (101, 1, .aload_n 0, 0, 0, []) from rfl) rfl rfl ?_
      refine gh_aload_n (show gh_at (gm_me 179).1 102 = some (102, 1, .aload_n 0, 0, 0, []) from rfl) rfl rfl ?_
      refine gh_get (show gh_at (gm_me 179).1 103 = some (103, 3, .getfield 155, 1, 3, [(0, 1444)]) from rfl) rfl (by decide +kernel) (by decide +kernel) (gh_rd0 (by decide +kernel)) ?_
      rw [show σ_32 (1891 / 8) 3 = s from q_32_1]
      refine gh_put (show gh_at (gm_me 179).1 106 = some (106, 3, .putfield 195, 1, 7, [(0, 1448)]) from rfl) rfl (by decide +kernel) (by decide +kernel) (by decide +kernel) (Or.inl rfl) ?_
      show gp_ok _ _ _ _ _ _ _ _ (gp_up σ_32 236 7 (s))
      have W_33 : gt_W (gs_wm b f) (gp_up σ_32 236 7 (s)) := gh_Wu W_32 (c := 236) (j := 7) (x := (s)) (fun _ => show gt_tv 73786976312018088458 (.inl ((s))) from gh_mk (by decide) (by unfold gh_r; omega) (by omega) (by omega))
      have F_33 : gt_fr gs_tok σ (gp_up σ_32 236 7 (s)) := gh_fu F_32 (by decide +kernel)
      have q_33_0 : (gp_up σ_32 236 7 (s)) 236 3 = s := (gh_up_ne (by decide)).trans q_32_1
      have q_33_2 : (gp_up σ_32 236 7 (s)) 236 8 = 0 := (gh_up_ne (by decide)).trans q_32_3
      have q_33_3 : (gp_up σ_32 236 7 (s)) 236 6 = (s) := (gh_up_ne (by decide)).trans q_32
      have q_33 : (gp_up σ_32 236 7 (s)) 236 7 = (s) := gh_up_eq _ _ _ _
      generalize (gp_up σ_32 236 7 (s)) = σ_33 at W_33 F_33 q_33_0 q_33_2 q_33_3 q_33 ⊢
      refine gh_goto (show gh_at (gm_me 179).1 109 = some (109, 3, .goto (268), 0, 377, []) from rfl) ?_
      refine gh_ret (show gh_at (gm_me 179).1 377 = some (377, 1, .return_, 0, 0, []) from rfl) rfl ?_
      exact ⟨W_33, F_33, by rw [es, q_33]; omega, Or.inl ⟨q_33_2, by rw [es]; exact q_33⟩⟩
  have blank : ∀ (m : Nat) (σ1 : gp_S) (a : Int), s - a ≤ m → e0 ≤ a → a ≤ s → gt_W (gs_wm b f) σ1 → gt_fr gs_tok σ σ1 → σ1 236 6 = a → gp_ok gs_sh (gp_call gs_sh 2) 0 (gm_me 179).1 (fun _ σ' => gt_W (gs_wm b f) σ' ∧ gt_fr gs_tok σ σ' ∧ σ' 236 7 ≤ σ 236 3 ∧ ((σ' 236 8 = 0 ∧ σ' 236 7 = σ 236 3) ∨ (¬ σ' 236 8 = 0 ∧ σ 236 7 < σ' 236 7))) 8 [.inr 1891, .inr 7, .inr 7] [] σ1 := by
    intro m
    induction m with
    | zero =>
      intro σ1 a hm h1 h2 W1 F1 a1
      have s1 : σ1 236 3 = s := (F1 236 3 rfl).trans es
      refine gh_aload_n (show gh_at (gm_me 179).1 8 = some (8, 1, .aload_n 0, 0, 0, []) from rfl) rfl rfl ?_
      refine gh_get (show gh_at (gm_me 179).1 9 = some (9, 3, .getfield 198, 1, 6, [(0, 1447)]) from rfl) rfl (by decide +kernel) (by decide +kernel) (gh_rd0 (by decide +kernel)) ?_
      rw [show σ1 (1891 / 8) 6 = a from a1]
      refine gh_aload_n (show gh_at (gm_me 179).1 12 = some (12, 1, .aload_n 0, 0, 0, []) from rfl) rfl rfl ?_
      refine gh_get (show gh_at (gm_me 179).1 13 = some (13, 3, .getfield 155, 1, 3, [(0, 1444)]) from rfl) rfl (by decide +kernel) (by decide +kernel) (gh_rd0 (by decide +kernel)) ?_
      rw [show σ1 (1891 / 8) 3 = s from s1]
      refine gh_icmp (show gh_at (gm_me 179).1 16 = some (16, 3, .if_icmp .ge (42), 0, 58, []) from rfl) (fun hc => ?_) (fun hc => ?_)
      · exact tail σ1 a h1 h2 W1 F1 a1
      · have hc : ¬ s ≤ a := hc
        omega
    | succ m ih =>
      intro σ1 a hm h1 h2 W1 F1 a1
      have s1 : σ1 236 3 = s := (F1 236 3 rfl).trans es
      refine gh_aload_n (show gh_at (gm_me 179).1 8 = some (8, 1, .aload_n 0, 0, 0, []) from rfl) rfl rfl ?_
      refine gh_get (show gh_at (gm_me 179).1 9 = some (9, 3, .getfield 198, 1, 6, [(0, 1447)]) from rfl) rfl (by decide +kernel) (by decide +kernel) (gh_rd0 (by decide +kernel)) ?_
      rw [show σ1 (1891 / 8) 6 = a from a1]
      refine gh_aload_n (show gh_at (gm_me 179).1 12 = some (12, 1, .aload_n 0, 0, 0, []) from rfl) rfl rfl ?_
      refine gh_get (show gh_at (gm_me 179).1 13 = some (13, 3, .getfield 155, 1, 3, [(0, 1444)]) from rfl) rfl (by decide +kernel) (by decide +kernel) (gh_rd0 (by decide +kernel)) ?_
      rw [show σ1 (1891 / 8) 3 = s from s1]
      refine gh_icmp (show gh_at (gm_me 179).1 16 = some (16, 3, .if_icmp .ge (42), 0, 58, []) from rfl) (fun hc => ?_) (fun hc => ?_)
      · exact tail σ1 a h1 h2 W1 F1 a1
      · have hc : ¬ s ≤ a := hc
        refine gh_aload_n (show gh_at (gm_me 179).1 19 = some (19, 1, .aload_n 0, 0, 0, []) from rfl) rfl rfl ?_
        refine gh_aload_n (show gh_at (gm_me 179).1 20 = some (20, 1, .aload_n 0, 0, 0, []) from rfl) rfl rfl ?_
        refine gh_get (show gh_at (gm_me 179).1 21 = some (21, 3, .getfield 198, 1, 6, [(0, 1447)]) from rfl) rfl (by decide +kernel) (by decide +kernel) (gh_rd0 (by decide +kernel)) ?_
        rw [show σ1 (1891 / 8) 6 = a from a1]
        refine gh_callV (r := 1891) (as := [.inl a]) (t := []) (show gh_at (gm_me 179).1 24 = some (24, 3, .invokevirtual 201, 180, 0, [(0, 1645)]) from rfl) (by decide) rfl (by show 2 = _; decide +kernel) (Nat.le_trans (gh_wd _) (Nat.le_of_ble_eq_true rfl)) rfl (by decide +kernel) (by decide +kernel) (Ψ := fun v σ9 => σ9 = σ1 ∧ v = .inl (gn_sg σ a)) (gz_sign (d := 1) W1 (by omega) ⟨rfl, by rw [gn_sge F1]⟩) gh_mono (fun v σ9 hv => ?_)
        obtain ⟨e9, rfl⟩ := hv
        rw [e9, show gm_rc 180 = 1 by decide +kernel]
        show gp_ok _ _ _ _ _ _ _ (.inl (gn_sg σ a) :: _) _
        refine gh_bipush (x := 32) (show gh_at (gm_me 179).1 27 = some (27, 2, .bipush (32), 256, 0, []) from rfl) (by decide) ?_
        refine gh_icmp (show gh_at (gm_me 179).1 29 = some (29, 3, .if_icmp .eq (16), 0, 45, []) from rfl) (fun _ => ?_) (fun _ => ?_)
        · refine gh_aload_n (show gh_at (gm_me 179).1 45 = some (45, 1, .aload_n 0, 0, 0, []) from rfl) rfl rfl ?_
          refine gh_dup (show gh_at (gm_me 179).1 46 = some (46, 1, .dup, 0, 0, []) from rfl) rfl ?_
          refine gh_get (show gh_at (gm_me 179).1 47 = some (47, 3, .getfield 198, 1, 6, [(0, 1447)]) from rfl) rfl (by decide +kernel) (by decide +kernel) (gh_rd0 (by decide +kernel)) ?_
          rw [show σ1 (1891 / 8) 6 = a from a1]
          refine gh_iconst (x := 1) (show gh_at (gm_me 179).1 50 = some (50, 1, .iconst 1, 8, 0, []) from rfl) (by decide) ?_
          refine gh_iadd (z := a + 1) (show gh_at (gm_me 179).1 51 = some (51, 1, .iadd, 0, 0, []) from rfl) (gh_add (by unfold gh_r; omega) (by unfold gh_r; omega) (by unfold gh_r; omega)) ?_
          refine gh_put (show gh_at (gm_me 179).1 52 = some (52, 3, .putfield 198, 1, 6, [(0, 1447)]) from rfl) rfl (by decide +kernel) (by decide +kernel) (by decide +kernel) (Or.inl rfl) ?_
          show gp_ok _ _ _ _ _ _ _ _ (gp_up σ1 236 6 (a + 1))
          have W_34 : gt_W (gs_wm b f) (gp_up σ1 236 6 (a + 1)) := gh_Wu W1 (c := 236) (j := 6) (x := (a + 1)) (fun _ => show gt_tv 73786976312018088450 (.inl ((a + 1))) from gh_mk (by decide) (by unfold gh_r; omega) (by omega) (by omega))
          have F_34 : gt_fr gs_tok σ (gp_up σ1 236 6 (a + 1)) := gh_fu F1 (by decide +kernel)
          have q_34_1 : (gp_up σ1 236 6 (a + 1)) 236 3 = s := (gh_up_ne (by decide)).trans s1
          have q_34 : (gp_up σ1 236 6 (a + 1)) 236 6 = (a + 1) := gh_up_eq _ _ _ _
          generalize (gp_up σ1 236 6 (a + 1)) = σ_34 at W_34 F_34 q_34_1 q_34 ⊢
          refine gh_goto (show gh_at (gm_me 179).1 55 = some (55, 3, .goto (-47), 0, 8, []) from rfl) ?_
          exact ih σ_34 (a + 1) (by omega) (by omega) (by omega) W_34 F_34 q_34
        · refine gh_aload_n (show gh_at (gm_me 179).1 32 = some (32, 1, .aload_n 0, 0, 0, []) from rfl) rfl rfl ?_
          refine gh_aload_n (show gh_at (gm_me 179).1 33 = some (33, 1, .aload_n 0, 0, 0, []) from rfl) rfl rfl ?_
          refine gh_get (show gh_at (gm_me 179).1 34 = some (34, 3, .getfield 198, 1, 6, [(0, 1447)]) from rfl) rfl (by decide +kernel) (by decide +kernel) (gh_rd0 (by decide +kernel)) ?_
          rw [show σ1 (1891 / 8) 6 = a from a1]
          refine gh_callV (r := 1891) (as := [.inl a]) (t := []) (show gh_at (gm_me 179).1 37 = some (37, 3, .invokevirtual 201, 180, 0, [(0, 1645)]) from rfl) (by decide) rfl (by show 2 = _; decide +kernel) (Nat.le_trans (gh_wd _) (Nat.le_of_ble_eq_true rfl)) rfl (by decide +kernel) (by decide +kernel) (Ψ := fun v σ9 => σ9 = σ1 ∧ v = .inl (gn_sg σ a)) (gz_sign (d := 1) W1 (by omega) ⟨rfl, by rw [gn_sge F1]⟩) gh_mono (fun v σ9 hv => ?_)
          obtain ⟨e9, rfl⟩ := hv
          rw [e9, show gm_rc 180 = 1 by decide +kernel]
          show gp_ok _ _ _ _ _ _ _ (.inl (gn_sg σ a) :: _) _
          refine gh_bipush (x := 10) (show gh_at (gm_me 179).1 40 = some (40, 2, .bipush (10), 80, 0, []) from rfl) (by decide) ?_
          refine gh_icmp (show gh_at (gm_me 179).1 42 = some (42, 3, .if_icmp .ne (16), 0, 58, []) from rfl) (fun _ => ?_) (fun _ => ?_)
          · exact tail σ1 a h1 h2 W1 F1 a1
          · refine gh_aload_n (show gh_at (gm_me 179).1 45 = some (45, 1, .aload_n 0, 0, 0, []) from rfl) rfl rfl ?_
            refine gh_dup (show gh_at (gm_me 179).1 46 = some (46, 1, .dup, 0, 0, []) from rfl) rfl ?_
            refine gh_get (show gh_at (gm_me 179).1 47 = some (47, 3, .getfield 198, 1, 6, [(0, 1447)]) from rfl) rfl (by decide +kernel) (by decide +kernel) (gh_rd0 (by decide +kernel)) ?_
            rw [show σ1 (1891 / 8) 6 = a from a1]
            refine gh_iconst (x := 1) (show gh_at (gm_me 179).1 50 = some (50, 1, .iconst 1, 8, 0, []) from rfl) (by decide) ?_
            refine gh_iadd (z := a + 1) (show gh_at (gm_me 179).1 51 = some (51, 1, .iadd, 0, 0, []) from rfl) (gh_add (by unfold gh_r; omega) (by unfold gh_r; omega) (by unfold gh_r; omega)) ?_
            refine gh_put (show gh_at (gm_me 179).1 52 = some (52, 3, .putfield 198, 1, 6, [(0, 1447)]) from rfl) rfl (by decide +kernel) (by decide +kernel) (by decide +kernel) (Or.inl rfl) ?_
            show gp_ok _ _ _ _ _ _ _ _ (gp_up σ1 236 6 (a + 1))
            have W_35 : gt_W (gs_wm b f) (gp_up σ1 236 6 (a + 1)) := gh_Wu W1 (c := 236) (j := 6) (x := (a + 1)) (fun _ => show gt_tv 73786976312018088450 (.inl ((a + 1))) from gh_mk (by decide) (by unfold gh_r; omega) (by omega) (by omega))
            have F_35 : gt_fr gs_tok σ (gp_up σ1 236 6 (a + 1)) := gh_fu F1 (by decide +kernel)
            have q_35_1 : (gp_up σ1 236 6 (a + 1)) 236 3 = s := (gh_up_ne (by decide)).trans s1
            have q_35 : (gp_up σ1 236 6 (a + 1)) 236 6 = (a + 1) := gh_up_eq _ _ _ _
            generalize (gp_up σ1 236 6 (a + 1)) = σ_35 at W_35 F_35 q_35_1 q_35 ⊢
            refine gh_goto (show gh_at (gm_me 179).1 55 = some (55, 3, .goto (-47), 0, 8, []) from rfl) ?_
            exact ih σ_35 (a + 1) (by omega) (by omega) (by omega) W_35 F_35 q_35
  refine gh_aload_n (show gh_at (gm_me 179).1 0 = some (0, 1, .aload_n 0, 0, 0, []) from rfl) rfl rfl ?_
  refine gh_aload_n (show gh_at (gm_me 179).1 1 = some (1, 1, .aload_n 0, 0, 0, []) from rfl) rfl rfl ?_
  refine gh_get (show gh_at (gm_me 179).1 2 = some (2, 3, .getfield 195, 1, 7, [(0, 1448)]) from rfl) rfl (by decide +kernel) (by decide +kernel) (gh_rd0 (by decide +kernel)) ?_
  show gp_ok _ _ _ _ _ _ _ (.inl (σ 236 7) :: _) _
  refine gh_put (show gh_at (gm_me 179).1 5 = some (5, 3, .putfield 198, 1, 6, [(0, 1447)]) from rfl) rfl (by decide +kernel) (by decide +kernel) (by decide +kernel) (Or.inl rfl) ?_
  show gp_ok _ _ _ _ _ _ _ _ (gp_up σ 236 6 (σ 236 7))
  have W_36 : gt_W (gs_wm b f) (gp_up σ 236 6 (σ 236 7)) := gh_Wu hW (c := 236) (j := 6) (x := (σ 236 7)) (fun _ => show gt_tv 73786976312018088450 (.inl ((σ 236 7))) from gh_mk (by decide) (by unfold gh_r; omega) (by omega) (by omega))
  have F_36 : gt_fr gs_tok σ (gp_up σ 236 6 (σ 236 7)) := gh_fu (gh_f0 (ml := gs_tok)) (by decide +kernel)
  have q_36 : (gp_up σ 236 6 (σ 236 7)) 236 6 = (σ 236 7) := gh_up_eq _ _ _ _
  generalize (gp_up σ 236 6 (σ 236 7)) = σ_36 at W_36 F_36 q_36 ⊢
  exact blank (s - e0).toNat σ_36 e0 (by omega) (by omega) (by omega) W_36 F_36 (q_36.trans ee)
