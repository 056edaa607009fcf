/-! serve: where the boat stands behind it -/
noncomputable def gt_fp (c j t : Nat) (_ : gb_V) (cs' : gb_C) (ov' : gb_V) : Bool := gb_fit cs' (gb_ol ov' c j) t
theorem gt_fp_ok {sh : Nat → gp_T} {ρ zs : List Int32} {ov ov' : gb_V} {cs' : gb_C} {σ' : gp_S} {c j t : Nat} (h2 : t % 8 = 2) (hi : gb_in (ρ ++ zs) cs') (ho' : gt_or sh (ρ ++ zs) ov' σ') (h : gt_fp c j t ov cs' ov' = true) : gt_tv t (.inl (σ' c j)) := by
  unfold gt_fp at h
  have h7 : ¬ gb_ol ov' c j % 8 = 7 := by
    intro e
    unfold gb_fit at h
    rw [ga_if_eq, if_pos ((ga_beq).mpr h2)] at h
    rw [Bool.and_eq_true] at h
    have h3 := h.1
    unfold ga_int at h3
    rw [Nat.ble_eq] at h3
    omega
  have m := gt_ol_mem (ov := ov') (c := c) (j := j) rfl h7
  rcases gt_fit hi h (ho' _ m).2 with q | ⟨-, q | q⟩
  · exact Or.inl q
  · exact Or.inr (Or.inl q)
  · exact Or.inr (Or.inr q)
def gs_sml : List (Nat × Nat) := [(260, 7), (260, 8), (260, 9), (260, 10), (260, 11), (260, 12), (260, 13), (260, 14), (260, 15), (260, 16), (260, 17), (260, 18), (260, 19), (260, 20), (260, 21), (260, 22), (260, 24), (260, 25), (260, 28)]
noncomputable def gs_sr (b f a g : Nat) : Bool := ga_if (Nat.blt a f) (gt_chkP gm_me (gs_wm b f) gm_xl (gs_as []) [cm_4 f, cm_5 f] 3000 (226, 6, [1891, 73786976312018075658], [(260, 24, gs_lt a), (260, a, gs_lt g)], 73786976312018075698, gs_sml) (gt_fp 260 24 (ga_if (Nat.beq (a + 1) f) 73786976277658337274 (gs_lt (a + 1))))) true
theorem gs_sr0 : gs_all (fun i => gs_sr (i / 49) 0 (i / 7 % 7) (i % 7)) 98 = true := by decide +kernel
theorem gs_sr1 : gs_all (fun i => gs_sr (i / 49) 1 (i / 7 % 7) (i % 7)) 98 = true := by decide +kernel
theorem gs_sr2 : gs_all (fun i => gs_sr (i / 49) 2 (i / 7 % 7) (i % 7)) 98 = true := by decide +kernel
theorem gs_sr3 : gs_all (fun i => gs_sr (i / 49) 3 (i / 7 % 7) (i % 7)) 98 = true := by decide +kernel
theorem gs_sr4 : gs_all (fun i => gs_sr (i / 49) 4 (i / 7 % 7) (i % 7)) 98 = true := by decide +kernel
theorem gs_sr5 : gs_all (fun i => gs_sr (i / 49) 5 (i / 7 % 7) (i % 7)) 98 = true := by decide +kernel
theorem gs_sr6 : gs_all (fun i => gs_sr (i / 49) 6 (i / 7 % 7) (i % 7)) 98 = true := by decide +kernel
theorem gs_sr7 : gs_all (fun i => gs_sr (i / 49) 7 (i / 7 % 7) (i % 7)) 98 = true := by decide +kernel
theorem gs_sr_all {b f a g : Nat} (hb : b < 2) (hf : f < 8) (ha : a < 7) (hg : g < 7) : gs_sr b f a g = true := by
  have e1 : (49 * b + 7 * a + g) / 49 = b := by omega
  have e2 : (49 * b + 7 * a + g) / 7 % 7 = a := by omega
  have e3 : (49 * b + 7 * a + g) % 7 = g := by omega
  have hl : 49 * b + 7 * a + g < 98 := by omega
  rcases (show f = 0 ∨ f = 1 ∨ f = 2 ∨ f = 3 ∨ f = 4 ∨ f = 5 ∨ f = 6 ∨ f = 7 by omega) with e | e | e | e | e | e | e | e <;> subst e
  · have h := gs_all_ok gs_sr0 _ hl
    rw [e1, e2, e3] at h
    exact h
  · have h := gs_all_ok gs_sr1 _ hl
    rw [e1, e2, e3] at h
    exact h
  · have h := gs_all_ok gs_sr2 _ hl
    rw [e1, e2, e3] at h
    exact h
  · have h := gs_all_ok gs_sr3 _ hl
    rw [e1, e2, e3] at h
    exact h
  · have h := gs_all_ok gs_sr4 _ hl
    rw [e1, e2, e3] at h
    exact h
  · have h := gs_all_ok gs_sr5 _ hl
    rw [e1, e2, e3] at h
    exact h
  · have h := gs_all_ok gs_sr6 _ hl
    rw [e1, e2, e3] at h
    exact h
  · have h := gs_all_ok gs_sr7 _ hl
    rw [e1, e2, e3] at h
    exact h
theorem gz_serve {b f : Nat} (hb : b < 2) (hf : f < 8) {a : Nat} (ha : a < f) {σ : gp_S} {z : Int} (hz : gt_tv 73786976312018075658 (.inl z)) (hW : gt_W (gs_wm b f) σ) (hX : gm_X f σ) (hat : σ 260 24 = (a : Int)) : gp_call gs_sh 6 226 [.inr 1891, .inl z] σ (fun x σ' => gt_W (gs_wm b f) σ' ∧ gm_X f σ' ∧ gt_fr gs_sml σ σ' ∧ (gm_rc 226 = 0 ∨ gt_tv 73786976312018075698 x) ∧ σ' 260 24 = if a + 1 = f then -1 else ((a + 1 : Nat) : Int)) := by
  have hg0 : gt_tv 73786976312018075698 (.inl (σ 260 a)) := gh_Wg hW 260 a (by show ¬ 100 = 999; decide) (by show a < 29; omega) (by
    rcases (show a = 0 ∨ a = 1 ∨ a = 2 ∨ a = 3 ∨ a = 4 ∨ a = 5 ∨ a = 6 by omega) with e | e | e | e | e | e | e <;> subst e <;> rfl) (by decide)
  have hg1 := (gh_tv hg0).2
  obtain ⟨g, eg, hg⟩ : ∃ g : Nat, σ 260 a = (g : Int) ∧ g < 7 := ⟨(σ 260 a).toNat, by omega, by omega⟩
  have h := gs_sr_all hb hf (by omega) hg (a := a)
  unfold gs_sr at h
  rw [ga_if_eq, if_pos (Nat.blt_eq.mpr ha)] at h
  have ht2 : (ga_if (Nat.beq (a + 1) f) 73786976277658337274 (gs_lt (a + 1))) % 8 = 2 := by
    rw [ga_if_eq]; split
    · rfl
    · unfold gs_lt; omega
  have one : ∀ (n : Nat) (c j : Nat), n < 8 → σ c j = (n : Int) → ∃ y : Int32, y.toInt = σ c j ∧ gb_vr [] gt_o [] (gs_lt n) (.int y) := by
    intro n c j hn e
    rcases gh_mk (t := gs_lt n) (z := σ c j) (by unfold gs_lt; omega) (by unfold gh_r; omega) (by unfold gs_lt; omega) (by unfold gs_lt; omega) with ⟨-, y, q, hy⟩ | ⟨q, -⟩ | ⟨q, -⟩
    · injection q with q
      exact ⟨y, q.symm, hy⟩
    · unfold gs_lt at q; omega
    · unfold gs_lt at q; omega
  refine gp_call_post (fun x σ' hp => ?_) (gt_chkP_ok (gs_hm hb hf) gm_hx gs_inc (List.forall_mem_cons.mpr ⟨cn_4 hb hf, List.forall_mem_cons.mpr ⟨cn_5 hb hf, fun _ h => absurd h List.not_mem_nil⟩⟩) (by decide) (fun p hp => ?_) (PP := fun _ σ' => gt_tv (ga_if (Nat.beq (a + 1) f) 73786976277658337274 (gs_lt (a + 1))) (.inl (σ' 260 24))) (fun ρ zs ov cs' ov' σ σ' _ a2 a3 a4 => gt_fp_ok ht2 a2 a3 a4) h hW hX (fun p hp => ?_) ⟨Or.inr (Or.inl ⟨rfl, rfl⟩), hz, trivial⟩)
  · obtain ⟨b1, b2, b3, b4, b5⟩ := hp
    refine ⟨b1, b2, b3, b4, ?_⟩
    have b6 := (gh_tv b5).2
    rw [ga_if_eq] at b6
    by_cases e : a + 1 = f
    · rw [if_pos ((ga_beq).mpr e)] at b6
      rw [if_pos e]
      omega
    · rw [if_neg (fun q => e ((ga_beq).mp q))] at b6
      rw [if_neg e]
      unfold gs_lt at b6
      omega
  · rcases List.mem_cons.mp hp with rfl | hp
    · exact ⟨by show gp_pk gs_sh 260 24 = 0; decide +kernel, by show gs_lt a % 8 = 2; unfold gs_lt; omega⟩
    · rw [List.mem_singleton] at hp
      subst hp
      exact ⟨show gp_pk gs_sh 260 a = 0 from gh_pk0 (by decide +kernel) _, by show gs_lt g % 8 = 2; unfold gs_lt; omega⟩
  · rcases List.mem_cons.mp hp with rfl | hp
    · exact one a 260 24 (by omega) hat
    · rw [List.mem_singleton] at hp
      subst hp
      exact one g 260 a (by omega) eg
