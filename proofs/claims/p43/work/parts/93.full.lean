/-! isFull, readLine -/
section GHd
variable {sh : Nat → gp_T} {call : gp_K} {rc : Nat} {code : List ga_E} {Φ : gp_F} {pc ln a b : Nat} {ps : List (Nat × Nat)} {al sk : List gp_V} {σ : gp_S}
theorem gh_ior {x y z : Int} (hc : gh_at code pc = some (pc, ln, .ior, a, b, ps)) (hz : gp_b2 (fun x y => x ||| y) x y = z) (h : gp_ok sh call rc code Φ (pc + ln) al (.inl z :: sk) σ) : gp_ok sh call rc code Φ pc al (.inl y :: .inl x :: sk) σ := gh_step hc (by subst hz; exact h)
theorem gh_ishl {x y z : Int} (hc : gh_at code pc = some (pc, ln, .ishl, a, b, ps)) (hz : gp_b2 (fun x y => x <<< (y &&& 31)) x y = z) (h : gp_ok sh call rc code Φ (pc + ln) al (.inl z :: sk) σ) : gp_ok sh call rc code Φ pc al (.inl y :: .inl x :: sk) σ := gh_step hc (by subst hz; exact h)
theorem gh_ishr {x y z : Int} (hc : gh_at code pc = some (pc, ln, .ishr, a, b, ps)) (hz : gp_b2 (fun x y => x >>> (y &&& 31)) x y = z) (h : gp_ok sh call rc code Φ (pc + ln) al (.inl z :: sk) σ) : gp_ok sh call rc code Φ pc al (.inl y :: .inl x :: sk) σ := gh_step hc (by subst hz; exact h)
theorem gh_lstore_n {k : Fin 4} {c : Nat} {al' : List gp_V} (hc : gh_at code pc = some (pc, ln, .lstore_n k, a, b, ps)) (h5 : c % 8 = 5) (ha : gp_ah al k.val) (hs : (al.set k.val (.inr c)).set (k.val + 1) (.inr 7) = al') (h : gp_ok sh call rc code Φ (pc + ln) al' sk σ) : gp_ok sh call rc code Φ pc al (.inr c :: sk) σ := gh_step hc (by subst hs; exact ⟨gp_lng_of h5, ha, h⟩)
end GHd
theorem gm_Xe {f : Nat} {σ σ' : gp_S} (hX : gm_X f σ) (e1 : ∀ j, σ' 255 j = σ 255 j) (e2 : ∀ j, σ' 252 j = σ 252 j) (e3 : ∀ j, σ' 253 j = σ 253 j) (e4 : ∀ j, σ' 264 j = σ 264 j) (e5 : ∀ j, σ' 277 j = σ 277 j) (e6 : ∀ j, σ' 278 j = σ 278 j) (e7 : σ' 236 46 = σ 236 46) (e8 : σ' 236 47 = σ 236 47) : gm_X f σ' := by
  obtain ⟨h1, h2, h3, h4, h5, h6, h7, h8, h9⟩ := hX
  refine ⟨?_, ?_, ?_, ?_, ?_, ?_, ?_, fun i hi => ?_, fun i hi hb => ?_⟩
  · rw [e2, e3]; exact gv_ok_eq e1 h1
  · rw [e2, e3]; exact gv_ok_eq e1 h2
  · rw [e2, e3]; exact h3
  · rw [e2, e3]; exact h4
  · rw [e7]; exact h5
  · rw [e8]; exact h6
  · rw [e7, e8]; exact h7
  · rw [e7, e8] at hi; simp only [e4]; exact h8 i hi
  · rw [e6] at hb; simp only [e5]; exact h9 i hi hb
def gs_dml : List (Nat × Nat) := gs_uml2 ++ [(239, 0), (239, 1), (240, 0), (240, 1), (242, 1048576), (243, 1048576), (244, 1048576), (245, 1048576), (246, 1048576), (247, 1048576), (248, 1048576), (249, 1048576), (250, 1048576), (251, 1048576), (254, 1048576)]
theorem gm_rbq {b : Nat} {σ : gp_S} (hb : b < 2) (e : σ 236 33 = ((1 - b : Nat) : Int)) : ∃ y : Int32, y.toInt = σ 236 33 ∧ gb_vr [] gt_o [] (gs_lt (1 - b)) (.int y) := by
  have h1 : gt_tv (gs_lt (1 - b)) (.inl (σ 236 33)) := gh_mk (by unfold gs_lt; omega) (by unfold gh_r; omega) (by unfold gs_lt; omega) (by unfold gs_lt; omega)
  rcases h1 with ⟨-, y, q, hy⟩ | ⟨q, -⟩ | ⟨q, -⟩
  · injection q with q
    exact ⟨y, q.symm, hy⟩
  · unfold gs_lt at q; omega
  · unfold gs_lt at q; omega
theorem gm_ivq {z : Int} {t : Nat} (ht : t % 8 = 2) (h1 : ((t / 8 / 4294967296 : Nat) : Int) ≤ z + 2147483648) (h2 : z + 2147483648 ≤ ((t / 8 % 4294967296 : Nat) : Int)) : ∃ y : Int32, y.toInt = z ∧ gb_vr [] gt_o [] t (.int y) := by
  have h3 : gt_tv t (.inl z) := gh_mk ht (by unfold gh_r; omega) h1 h2
  rcases h3 with ⟨-, y, q, hy⟩ | ⟨q, -⟩ | ⟨q, -⟩
  · injection q with q
    exact ⟨y, q.symm, hy⟩
  · omega
  · omega

theorem gz_bit {d : Nat} {x y : Int} {σ : gp_S} {Φ : gp_F} (h : ∀ z : Int, z = 0 ∨ z = 1 → Φ (.inl z) σ) : gp_call gs_sh (d + 1) 8 [.inl x, .inl y] σ Φ := by
  refine gh_call (al := [.inl x, .inl y]) (by decide +kernel) (by show 2 = _; decide +kernel) (by rw [show (gm_me 8).2.1 = 0 by decide +kernel]; rfl) (by show 2 = _; decide +kernel) ?_
  rw [show gm_rc 8 = 2 by decide +kernel]
  refine gh_iload_n (show gh_at (gm_me 8).1 0 = some (0, 1, .iload_n 0, 0, 0, []) from rfl) rfl ?_
  refine gh_iload_n (show gh_at (gm_me 8).1 1 = some (1, 1, .iload_n 1, 0, 0, []) from rfl) rfl ?_
  refine gh_ishr (z := gp_b2 (fun x y => x >>> (y &&& 31)) x y) (show gh_at (gm_me 8).1 2 = some (2, 1, .ishr, 0, 0, []) from rfl) (rfl) ?_
  refine gh_iconst (x := 1) (show gh_at (gm_me 8).1 3 = some (3, 1, .iconst 1, 8, 0, []) from rfl) (by decide) ?_
  refine gh_iand (z := gp_b2 (fun x y => x &&& y) (gp_b2 (fun x y => x >>> (y &&& 31)) x y) 1) (show gh_at (gm_me 8).1 4 = some (4, 1, .iand, 0, 0, []) from rfl) (rfl) ?_
  refine gh_iconst (x := 1) (show gh_at (gm_me 8).1 5 = some (5, 1, .iconst 1, 8, 0, []) from rfl) (by decide) ?_
  refine gh_icmp (show gh_at (gm_me 8).1 6 = some (6, 3, .if_icmp .ne (7), 0, 13, []) from rfl) (fun _ => ?_) (fun _ => ?_)
  · refine gh_iconst (x := 0) (show gh_at (gm_me 8).1 13 = some (13, 1, .iconst 0, 0, 0, []) from rfl) (by decide) ?_
    refine gh_iret (show gh_at (gm_me 8).1 14 = some (14, 1, .ireturn, 0, 0, []) from rfl) ?_
    exact Or.inr ⟨rfl, Or.inl rfl, h 0 (Or.inl rfl)⟩
  · refine gh_iconst (x := 1) (show gh_at (gm_me 8).1 9 = some (9, 1, .iconst 1, 8, 0, []) from rfl) (by decide) ?_
    refine gh_goto (show gh_at (gm_me 8).1 10 = some (10, 3, .goto (4), 0, 14, []) from rfl) ?_
    refine gh_iret (show gh_at (gm_me 8).1 14 = some (14, 1, .ireturn, 0, 0, []) from rfl) ?_
    exact Or.inr ⟨rfl, Or.inr rfl, h 1 (Or.inr rfl)⟩
theorem gz_full {b f : Nat} {m : Int} {σ : gp_S} {Φ : gp_F} (hb : b < 2) (hf : f < 8) (hW : gt_W (gs_wm b f) σ) (hZ : gm_Z m σ) (hB : σ 236 33 = ((1 - b : Nat) : Int)) (h1 : Φ (.inl 1) σ) (h0 : ((¬ (σ 236 8 = 3 ∧ (σ 236 10).toNat = 3554809715621 / 8) ∨ ¬ σ 239 (1 - b) = 7) ∧ (¬ (σ 236 8 = 3 ∧ (σ 236 10).toNat = 13743401765 / 8) ∨ ¬ σ 240 (1 - b) = 10)) → Φ (.inl 0) σ) : gp_call gs_sh 4 201 [.inr 1891] σ Φ := by
  refine gh_call (al := [.inr 1891]) (by decide +kernel) (by show 1 = _; decide +kernel) (by rw [show (gm_me 201).2.1 = 0 by decide +kernel]; rfl) (by show 1 = _; decide +kernel) ?_
  rw [show gm_rc 201 = 2 by decide +kernel]
  refine gh_aload_n (show gh_at (gm_me 201).1 0 = some (0, 1, .aload_n 0, 0, 0, []) from rfl) rfl rfl ?_
  refine gh_ldc2 (show gh_at (gm_me 201).1 1 = some (1, 3, .ldc2_w 161, 3554809715621, 0, [(0, 1655)]) from rfl) ?_
  refine gh_callV (r := 1891) (as := [.inr 3554809715621]) (t := []) (show gh_at (gm_me 201).1 4 = some (4, 3, .invokevirtual 243, 195, 0, [(0, 1690)]) from rfl) (by decide) rfl (by show 2 = _; decide +kernel) (Nat.le_trans (gh_wd _) (Nat.le_of_ble_eq_true rfl)) rfl (by decide +kernel) (by decide +kernel) (Ψ := fun v σ9 => σ9 = σ ∧ ((v = .inl 1 ∧ σ 236 8 = 3 ∧ (σ 236 10).toNat = 3554809715621 / 8) ∨ (v = .inl 0 ∧ ¬ (σ 236 8 = 3 ∧ (σ 236 10).toNat = 3554809715621 / 8)))) (gz_isw (d := 2) (by decide) (fun q w => ⟨rfl, Or.inl ⟨rfl, q, w⟩⟩) (fun q => ⟨rfl, Or.inr ⟨rfl, q⟩⟩)) gh_mono (fun v σ9 hv => ?_)
  obtain ⟨e9, hv⟩ := hv
  rw [e9, show gm_rc 195 = 2 by decide +kernel]
  rcases hv with ⟨rfl, hg1, hg2⟩ | ⟨rfl, hgn⟩
  · refine gh_if (show gh_at (gm_me 201).1 7 = some (7, 3, .ifCond .eq (23), 0, 30, []) from rfl) (fun q => absurd (show (1 : Int) = 0 from q) (by decide)) (fun _ => ?_)
    refine gh_aload_n (show gh_at (gm_me 201).1 10 = some (10, 1, .aload_n 0, 0, 0, []) from rfl) rfl rfl ?_
    refine gh_get (show gh_at (gm_me 201).1 11 = some (11, 3, .getfield 20, 1, 11, [(0, 1452)]) from rfl) rfl (by decide +kernel) (by decide +kernel) (gh_rdr (r := 1915) (by decide +kernel) rfl) ?_
    refine gh_aload_n (show gh_at (gm_me 201).1 14 = some (14, 1, .aload_n 0, 0, 0, []) from rfl) rfl rfl ?_
    refine gh_get (show gh_at (gm_me 201).1 15 = some (15, 3, .getfield 254, 1, 33, [(0, 1474)]) from rfl) rfl (by decide +kernel) (by decide +kernel) (gh_rd0 (by decide +kernel)) ?_
    rw [show σ (1891 / 8) 33 = ((1 - b : Nat) : Int) from hB]
    refine gh_iald (show gh_at (gm_me 201).1 18 = some (18, 1, .iaload, 0, 0, []) from rfl) rfl (by decide +kernel) (by decide +kernel) (gh_ix (N := 2) (by decide +kernel) (by omega) (by omega)) (gh_rd0 (gh_pk0 (by decide +kernel) _)) ?_
    rw [show (((1 - b : Nat) : Int)).toNat = 1 - b by omega]
    show gp_ok _ _ _ _ _ _ _ (.inl (σ 239 (1 - b)) :: _) _
    refine gh_bipush (x := 7) (show gh_at (gm_me 201).1 19 = some (19, 2, .bipush (7), 56, 0, []) from rfl) (by decide) ?_
    refine gh_icmp (show gh_at (gm_me 201).1 21 = some (21, 3, .if_icmp .ne (7), 0, 28, []) from rfl) (fun hc => ?_) (fun hc => ?_)
    · have hc : ¬ σ 239 (1 - b) = 7 := hc
      refine gh_iconst (x := 0) (show gh_at (gm_me 201).1 28 = some (28, 1, .iconst 0, 0, 0, []) from rfl) (by decide) ?_
      refine gh_iret (show gh_at (gm_me 201).1 29 = some (29, 1, .ireturn, 0, 0, []) from rfl) ?_
      exact Or.inr ⟨rfl, Or.inl rfl, h0 (⟨Or.inr hc, Or.inl (fun q => by have := hg2.symm.trans q.2; omega)⟩)⟩
    · refine gh_iconst (x := 1) (show gh_at (gm_me 201).1 24 = some (24, 1, .iconst 1, 8, 0, []) from rfl) (by decide) ?_
      refine gh_goto (show gh_at (gm_me 201).1 25 = some (25, 3, .goto (4), 0, 29, []) from rfl) ?_
      refine gh_iret (show gh_at (gm_me 201).1 29 = some (29, 1, .ireturn, 0, 0, []) from rfl) ?_
      exact Or.inr ⟨rfl, Or.inr rfl, h1⟩
  · refine gh_if (show gh_at (gm_me 201).1 7 = some (7, 3, .ifCond .eq (23), 0, 30, []) from rfl) (fun _ => ?_) (fun q => absurd rfl q)
    refine gh_aload_n (show gh_at (gm_me 201).1 30 = some (30, 1, .aload_n 0, 0, 0, []) from rfl) rfl rfl ?_
    refine gh_ldc2 (show gh_at (gm_me 201).1 31 = some (31, 3, .ldc2_w 167, 13743401765, 0, [(0, 1658)]) from rfl) ?_
    refine gh_callV (r := 1891) (as := [.inr 13743401765]) (t := []) (show gh_at (gm_me 201).1 34 = some (34, 3, .invokevirtual 243, 195, 0, [(0, 1690)]) from rfl) (by decide) rfl (by show 2 = _; decide +kernel) (Nat.le_trans (gh_wd _) (Nat.le_of_ble_eq_true rfl)) rfl (by decide +kernel) (by decide +kernel) (Ψ := fun v σ9 => σ9 = σ ∧ ((v = .inl 1 ∧ σ 236 8 = 3 ∧ (σ 236 10).toNat = 13743401765 / 8) ∨ (v = .inl 0 ∧ ¬ (σ 236 8 = 3 ∧ (σ 236 10).toNat = 13743401765 / 8)))) (gz_isw (d := 2) (by decide) (fun q w => ⟨rfl, Or.inl ⟨rfl, q, w⟩⟩) (fun q => ⟨rfl, Or.inr ⟨rfl, q⟩⟩)) gh_mono (fun v σ9 hv => ?_)
    obtain ⟨e9, hv⟩ := hv
    rw [e9, show gm_rc 195 = 2 by decide +kernel]
    rcases hv with ⟨rfl, hh1, hh2⟩ | ⟨rfl, hhn⟩
    · refine gh_if (show gh_at (gm_me 201).1 37 = some (37, 3, .ifCond .eq (23), 0, 60, []) from rfl) (fun q => absurd (show (1 : Int) = 0 from q) (by decide)) (fun _ => ?_)
      refine gh_aload_n (show gh_at (gm_me 201).1 40 = some (40, 1, .aload_n 0, 0, 0, []) from rfl) rfl rfl ?_
      refine gh_get (show gh_at (gm_me 201).1 41 = some (41, 3, .getfield 24, 1, 12, [(0, 1453)]) from rfl) rfl (by decide +kernel) (by decide +kernel) (gh_rdr (r := 1923) (by decide +kernel) rfl) ?_
      refine gh_aload_n (show gh_at (gm_me 201).1 44 = some (44, 1, .aload_n 0, 0, 0, []) from rfl) rfl rfl ?_
      refine gh_get (show gh_at (gm_me 201).1 45 = some (45, 3, .getfield 254, 1, 33, [(0, 1474)]) from rfl) rfl (by decide +kernel) (by decide +kernel) (gh_rd0 (by decide +kernel)) ?_
      rw [show σ (1891 / 8) 33 = ((1 - b : Nat) : Int) from hB]
      refine gh_iald (show gh_at (gm_me 201).1 48 = some (48, 1, .iaload, 0, 0, []) from rfl) rfl (by decide +kernel) (by decide +kernel) (gh_ix (N := 2) (by decide +kernel) (by omega) (by omega)) (gh_rd0 (gh_pk0 (by decide +kernel) _)) ?_
      rw [show (((1 - b : Nat) : Int)).toNat = 1 - b by omega]
      show gp_ok _ _ _ _ _ _ _ (.inl (σ 240 (1 - b)) :: _) _
      refine gh_bipush (x := 10) (show gh_at (gm_me 201).1 49 = some (49, 2, .bipush (10), 80, 0, []) from rfl) (by decide) ?_
      refine gh_icmp (show gh_at (gm_me 201).1 51 = some (51, 3, .if_icmp .ne (7), 0, 58, []) from rfl) (fun hc => ?_) (fun hc => ?_)
      · have hc : ¬ σ 240 (1 - b) = 10 := hc
        refine gh_iconst (x := 0) (show gh_at (gm_me 201).1 58 = some (58, 1, .iconst 0, 0, 0, []) from rfl) (by decide) ?_
        refine gh_iret (show gh_at (gm_me 201).1 59 = some (59, 1, .ireturn, 0, 0, []) from rfl) ?_
        exact Or.inr ⟨rfl, Or.inl rfl, h0 (⟨Or.inl hgn, Or.inr hc⟩)⟩
      · refine gh_iconst (x := 1) (show gh_at (gm_me 201).1 54 = some (54, 1, .iconst 1, 8, 0, []) from rfl) (by decide) ?_
        refine gh_goto (show gh_at (gm_me 201).1 55 = some (55, 3, .goto (4), 0, 59, []) from rfl) ?_
        refine gh_iret (show gh_at (gm_me 201).1 59 = some (59, 1, .ireturn, 0, 0, []) from rfl) ?_
        exact Or.inr ⟨rfl, Or.inr rfl, h1⟩
    · refine gh_if (show gh_at (gm_me 201).1 37 = some (37, 3, .ifCond .eq (23), 0, 60, []) from rfl) (fun _ => ?_) (fun q => absurd rfl q)
      refine gh_aload_n (show gh_at (gm_me 201).1 60 = some (60, 1, .aload_n 0, 0, 0, []) from rfl) rfl rfl ?_
      refine gh_callV (r := 1891) (as := []) (t := []) (show gh_at (gm_me 201).1 61 = some (61, 3, .invokevirtual 269, 200, 0, [(0, 1694)]) from rfl) (by decide) rfl (by show 1 = _; decide +kernel) (Nat.le_trans (gh_wd _) (Nat.le_of_ble_eq_true rfl)) rfl (by decide +kernel) (by decide +kernel) (gp_call_le (by show 2 ≤ 3; decide) (cn_66 (m := m) hb hf [.inr 1891] σ hW hZ (fun p hp => by cases hp) ⟨Or.inr (Or.inl ⟨rfl, rfl⟩), trivial⟩)) gh_mono (fun v σ9 hv => ?_)
      obtain ⟨-, -, F9, hr⟩ := hv
      have e9 := gh_fr0 F9
      obtain ⟨z, rfl, hz1, hz2, hz3⟩ := gh_tvi (t := 73786976277658337322) (by decide) (hr.resolve_left (by show ¬ gm_rc 200 = 0; decide +kernel))
      rw [e9, show gm_rc 200 = 1 by decide +kernel]
      clear hr F9 e9
      show gp_ok _ _ _ _ _ _ _ (.inl z :: _) _
      refine gh_if (show gh_at (gm_me 201).1 64 = some (64, 3, .ifCond .lt (22), 0, 86, []) from rfl) (fun _ => ?_) (fun _ => ?_)
      · refine gh_iconst (x := 1) (show gh_at (gm_me 201).1 86 = some (86, 1, .iconst 1, 8, 0, []) from rfl) (by decide) ?_
        refine gh_goto (show gh_at (gm_me 201).1 87 = some (87, 3, .goto (4), 0, 91, []) from rfl) ?_
        refine gh_iret (show gh_at (gm_me 201).1 91 = some (91, 1, .ireturn, 0, 0, []) from rfl) ?_
        exact Or.inr ⟨rfl, Or.inr rfl, h1⟩
      · refine gh_aload_n (show gh_at (gm_me 201).1 67 = some (67, 1, .aload_n 0, 0, 0, []) from rfl) rfl rfl ?_
        refine gh_get (show gh_at (gm_me 201).1 68 = some (68, 3, .getfield 45, 1, 19, [(0, 1460)]) from rfl) rfl (by decide +kernel) (by decide +kernel) (gh_rdr (r := 1979) (by decide +kernel) rfl) ?_
        refine gh_aload_n (show gh_at (gm_me 201).1 71 = some (71, 1, .aload_n 0, 0, 0, []) from rfl) rfl rfl ?_
        refine gh_get (show gh_at (gm_me 201).1 72 = some (72, 3, .getfield 254, 1, 33, [(0, 1474)]) from rfl) rfl (by decide +kernel) (by decide +kernel) (gh_rd0 (by decide +kernel)) ?_
        rw [show σ (1891 / 8) 33 = ((1 - b : Nat) : Int) from hB]
        refine gh_iald (show gh_at (gm_me 201).1 75 = some (75, 1, .iaload, 0, 0, []) from rfl) rfl (by decide +kernel) (by decide +kernel) (gh_ix (N := 2) (by decide +kernel) (by omega) (by omega)) (gh_rd0 (gh_pk0 (by decide +kernel) _)) ?_
        rw [show (((1 - b : Nat) : Int)).toNat = 1 - b by omega]
        show gp_ok _ _ _ _ _ _ _ (.inl (σ 247 (1 - b)) :: _) _
        refine gh_aload_n (show gh_at (gm_me 201).1 76 = some (76, 1, .aload_n 0, 0, 0, []) from rfl) rfl rfl ?_
        refine gh_callV (r := 1891) (as := []) (t := [.inl (σ 247 (1 - b))]) (show gh_at (gm_me 201).1 77 = some (77, 3, .invokevirtual 269, 200, 0, [(0, 1694)]) from rfl) (by decide) rfl (by show 1 = _; decide +kernel) (Nat.le_trans (gh_wd _) (Nat.le_of_ble_eq_true rfl)) rfl (by decide +kernel) (by decide +kernel) (gp_call_le (by show 2 ≤ 3; decide) (cn_66 (m := m) hb hf [.inr 1891] σ hW hZ (fun p hp => by cases hp) ⟨Or.inr (Or.inl ⟨rfl, rfl⟩), trivial⟩)) gh_mono (fun v σ9 hv => ?_)
        obtain ⟨-, -, F9, hr⟩ := hv
        have e9 := gh_fr0 F9
        obtain ⟨z, rfl, hz1, hz2, hz3⟩ := gh_tvi (t := 73786976277658337322) (by decide) (hr.resolve_left (by show ¬ gm_rc 200 = 0; decide +kernel))
        rw [e9, show gm_rc 200 = 1 by decide +kernel]
        clear hr F9 e9
        show gp_ok _ _ _ _ _ _ _ (.inl z :: _) _
        refine gh_callS (as := [.inl (σ 247 (1 - b)), .inl z]) (t := []) (show gh_at (gm_me 201).1 80 = some (80, 3, .invokestatic 273, 8, 0, [(0, 1438)]) from rfl) (by decide) rfl (by show 2 = _; decide +kernel) (by decide) (Ψ := fun v σ9 => σ9 = σ ∧ ∃ y : Int, v = .inl y) (gz_bit (d := 2) (fun y _ => ⟨rfl, y, rfl⟩)) gh_mono (fun v σ9 hv => ?_)
        obtain ⟨e9, y, rfl⟩ := hv
        rw [e9, show gm_rc 8 = 2 by decide +kernel]
        refine gh_if (show gh_at (gm_me 201).1 83 = some (83, 3, .ifCond .eq (7), 0, 90, []) from rfl) (fun _ => ?_) (fun _ => ?_)
        · refine gh_iconst (x := 0) (show gh_at (gm_me 201).1 90 = some (90, 1, .iconst 0, 0, 0, []) from rfl) (by decide) ?_
          refine gh_iret (show gh_at (gm_me 201).1 91 = some (91, 1, .ireturn, 0, 0, []) from rfl) ?_
          exact Or.inr ⟨rfl, Or.inl rfl, h0 (⟨Or.inl hgn, Or.inl hhn⟩)⟩
        · refine gh_iconst (x := 1) (show gh_at (gm_me 201).1 86 = some (86, 1, .iconst 1, 8, 0, []) from rfl) (by decide) ?_
          refine gh_goto (show gh_at (gm_me 201).1 87 = some (87, 3, .goto (4), 0, 91, []) from rfl) ?_
          refine gh_iret (show gh_at (gm_me 201).1 91 = some (91, 1, .ireturn, 0, 0, []) from rfl) ?_
          exact Or.inr ⟨rfl, Or.inr rfl, h1⟩
