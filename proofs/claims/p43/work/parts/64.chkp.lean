/-! contracts of which more is said: what stands behind them -/
noncomputable def gt_chkP (me : Nat → ga_M) (wt : Nat → gb_T) (xl : List (Nat × Nat)) (anm : Nat → List gb_N) (us : List gt_K) (fuel : Nat) (q : gt_K) (pst : gb_V → gb_C → gb_V → Bool) : Bool :=
  match q with
  | (k, d, ts, ps, rt, ml) => gt_ovs ps [] [] (fun cs ov => gt_body me wt ml xl anm (gt_call me wt ml xl anm us fuel (d - 1)) fuel k ts cs ov (fun v cs' ov' => ga_if (gt_rt me k cs' v rt) (pst ov cs' ov') false))
def gt_prc (ps : List (Nat × Nat × Nat)) (σ : gp_S) : Prop := ∀ p ∈ ps, ∃ y : Int32, y.toInt = σ p.1 p.2.1 ∧ gb_vr [] gt_o [] p.2.2 (.int y)
section HP
variable {sh : Nat → gp_T} {wt : Nat → gb_T} {ml xl : List (Nat × Nat)} {X : gp_S → Prop}
theorem gt_chkP_ok (Hs : gt_H sh wt) (HX : ∀ σ σ', (∀ c j, gb_mo xl c j = true → σ' c j = σ c j) → X σ → X σ') (HI : ∀ k, k < 313 → gt_inc (gm_me k).1 = true) {anm : Nat → List gb_N} {fuel : Nat} {us : List gt_K} (HU : ∀ q ∈ us, gt_KC sh wt X q) {k d rt : Nat} {ts : List Nat} {ps : List (Nat × Nat × Nat)} (hd : 0 < d) (hps : ∀ p ∈ ps, gp_pk sh p.1 p.2.1 = 0 ∧ p.2.2 % 8 = 2) {pst : gb_V → gb_C → gb_V → Bool} {PP : gp_S → gp_S → Prop} (hP : ∀ ρ zs ov cs' ov' σ σ', gt_or sh ρ ov σ → gb_in (ρ ++ zs) cs' → gt_or sh (ρ ++ zs) ov' σ' → pst ov cs' ov' = true → PP σ σ') (h : gt_chkP gm_me wt xl anm us fuel (k, d, ts, ps, rt, ml) pst = true)
    {pas : List gp_V} {σ : gp_S} (hW : gt_W wt σ) (hX : X σ) (hpre : gt_prc ps σ) (har : gt_ar ts pas) : gp_call sh d k pas σ (fun x σ' => gt_W wt σ' ∧ X σ' ∧ gt_fr ml σ σ' ∧ (gm_rc k = 0 ∨ gt_tv rt x) ∧ PP σ σ') := by
  have h0 : gt_ovs ps [] [] (fun cs ov => gt_body gm_me wt ml xl anm (gt_call gm_me wt ml xl anm us fuel (d - 1)) fuel k ts cs ov (fun v cs' ov' => ga_if (gt_rt gm_me k cs' v rt) (pst ov cs' ov') false)) = true := h
  obtain ⟨ρ, cs, ov, h1, hi, ho⟩ := gt_ovs_ok (sh := sh) (σ := σ) (ρ := []) (fun p hp => by
    obtain ⟨y, e, hy⟩ := hpre p hp
    exact ⟨(hps p hp).1, y, e, hy, (hps p hp).2⟩) ⟨rfl, fun i q hq => by cases hq⟩ (fun p hp => by cases hp) h0
  have hs : gt_sr ρ ts pas := gt_ar_sr har
  have key := gt_body_ok (σ0 := σ) (ml := ml) Hs HX HI (gt_call_ok Hs HX HI HU (d - 1)) h1 ρ pas σ hi hW hX ho (fun c j _ => rfl) hs (fun x σ' => gt_W wt σ' ∧ X σ' ∧ gt_fr ml σ σ' ∧ (gm_rc k = 0 ∨ gt_tv rt x) ∧ PP σ σ') (fun zs v cs' ov' x σ' a1 a2 a3 a4 a5 a6 a7 => ?_)
  · rw [show d - 1 + 1 = d by omega] at key
    exact key
  · obtain ⟨h2, h9⟩ := gt_if a7
    refine ⟨a2, a3, a5, ?_, hP ρ zs ov cs' ov' σ σ' ho a1 a4 h9⟩
    rcases a6 with a6 | a6
    · exact Or.inl a6
    · unfold gt_rt at h2
      rcases hme : gm_me k with ⟨code, pad, nl, na, mc, ms, rck, ci⟩
      rw [hme] at h2
      have erc : gm_rc k = rck := by unfold gm_rc; rw [hme]
      have h3 : ga_if (Nat.beq rck 0) true (gb_fit cs' v rt) = true := h2
      rw [ga_if_eq] at h3
      split at h3
      · rename_i q
        rw [erc]
        exact Or.inl (Nat.eq_of_beq_eq_true q)
      · rcases gt_fit a1 h3 a6 with q | ⟨-, q⟩
        · exact Or.inr (Or.inl q)
        · exact Or.inr (Or.inr q)
/-- places that hold behind it what they held ahead of it -/
noncomputable def gt_kp (l : List (Nat × Nat)) (ov : gb_V) (_ : gb_C) (ov' : gb_V) : Bool := List.rec true (fun q _ ih => ga_if (and (Nat.ble (gb_ol ov q.1 q.2 % 8) 1) (Nat.beq (gb_ol ov q.1 q.2) (gb_ol ov' q.1 q.2))) ih false) l
theorem gt_kp_ok {ρ zs : List Int32} {ov ov' : gb_V} {cs' : gb_C} {σ σ' : gp_S} (ho : gt_or sh ρ ov σ) (ho' : gt_or sh (ρ ++ zs) ov' σ') : ∀ {l : List (Nat × Nat)}, gt_kp l ov cs' ov' = true → ∀ q ∈ l, σ' q.1 q.2 = σ q.1 q.2
  | [], _, _, hq => by cases hq
  | p :: l, h, q, hq => by
    have h1 : ga_if (and (Nat.ble (gb_ol ov p.1 p.2 % 8) 1) (Nat.beq (gb_ol ov p.1 p.2) (gb_ol ov' p.1 p.2))) (gt_kp l ov cs' ov') false = true := h
    obtain ⟨h2, h3⟩ := gt_if h1
    rcases List.mem_cons.mp hq with rfl | hq
    · rw [Bool.and_eq_true, Nat.ble_eq, ga_beq] at h2
      obtain ⟨h4, h5⟩ := h2
      have m1 := gt_ol_mem (ov := ov) (c := q.1) (j := q.2) rfl (by omega)
      have m2 := gt_ol_mem (ov := ov') h5.symm (by omega)
      obtain ⟨-, y, e, hy⟩ := ho _ m1
      obtain ⟨-, y', e', hy'⟩ := ho' _ m2
      show σ' q.1 q.2 = σ q.1 q.2
      have e : y.toInt = σ q.1 q.2 := e
      have e' : y'.toInt = σ' q.1 q.2 := e'
      have hy : gb_vr ρ gt_o [] (gb_ol ov q.1 q.2) (.int y) := hy
      have hy' : gb_vr (ρ ++ zs) gt_o [] (gb_ol ov q.1 q.2) (.int y') := hy'
      rw [← e, ← e']
      generalize gb_ol ov q.1 q.2 = v at hy hy' h4
      unfold gb_vr at hy hy'
      rcases (show v % 8 = 0 ∨ v % 8 = 1 by omega) with hv | hv
      · rw [hv] at hy hy'
        have a := hy.2
        have b := hy'.2
        rw [← a] at b
        cases b
        rfl
      · rw [hv] at hy hy'
        obtain ⟨z, a1, a2⟩ := hy
        obtain ⟨z', b1, b2⟩ := hy'
        cases a2
        cases b2
        have hl : v / 8 < ρ.length := by
          rcases Nat.lt_or_ge (v / 8) ρ.length with q | q
          · exact q
          · rw [List.getElem?_eq_none q] at a1; cases a1
        rw [List.getElem?_append_left hl, a1] at b1
        cases b1
        rfl
    · exact gt_kp_ok ho ho' h3 q hq
theorem gb_mo_app {a b : List (Nat × Nat)} {c j : Nat} : gb_mo (a ++ b) c j = or (gb_mo a c j) (gb_mo b c j) := by
  induction a with
  | nil => rfl
  | cons q a ih =>
    show or (or (Nat.beq q.1 99999) (and (Nat.beq q.1 c) (or (Nat.beq q.2 j) (Nat.beq q.2 1048576)))) (gb_mo (a ++ b) c j) = or (or (or (Nat.beq q.1 99999) (and (Nat.beq q.1 c) (or (Nat.beq q.2 j) (Nat.beq q.2 1048576)))) (gb_mo a c j)) (gb_mo b c j)
    rw [ih]; simp only [Bool.or_assoc]
theorem gb_mo_in {c j : Nat} : ∀ {l : List (Nat × Nat)}, (∀ q ∈ l, ¬ q.1 = 99999 ∧ ¬ q.2 = 1048576) → gb_mo l c j = true → (c, j) ∈ l
  | [], _, h => by cases h
  | q :: l, hl, h => by
    have h1 : or (or (Nat.beq q.1 99999) (and (Nat.beq q.1 c) (or (Nat.beq q.2 j) (Nat.beq q.2 1048576)))) (gb_mo l c j) = true := h
    have h2 := hl q List.mem_cons_self
    rw [Bool.or_eq_true, Bool.or_eq_true, Bool.and_eq_true, Bool.or_eq_true, ga_beq, ga_beq, ga_beq, ga_beq] at h1
    rcases h1 with (h1 | ⟨h3, h4 | h4⟩) | h1
    · exact absurd h1 h2.1
    · rw [← h3, ← h4]; exact List.mem_cons_self
    · exact absurd h4 h2.2
    · exact List.mem_cons_of_mem _ (gb_mo_in (fun q hq => hl q (List.mem_cons_of_mem _ hq)) h1)
/-- the places ahead are of their types -/
noncomputable def gt_pw (wt : Nat → gb_T) (l : List (Nat × Nat × Nat)) : Bool := List.rec true (fun q _ ih => ga_if (and (and (not (Nat.beq (wt q.1).1 999)) (Nat.blt q.2.1 (wt q.1).2.1)) (and (Nat.beq (gb_ty (wt q.1) q.2.1) q.2.2) (Nat.beq (q.2.2 % 8) 2))) ih false) l
theorem gt_pw_ok {σ : gp_S} (hW : gt_W wt σ) : ∀ {l : List (Nat × Nat × Nat)}, gt_pw wt l = true → gt_prc l σ
  | [], _, _, hq => by cases hq
  | p :: l, h, q, hq => by
    have h1 : ga_if (and (and (not (Nat.beq (wt p.1).1 999)) (Nat.blt p.2.1 (wt p.1).2.1)) (and (Nat.beq (gb_ty (wt p.1) p.2.1) p.2.2) (Nat.beq (p.2.2 % 8) 2))) (gt_pw wt l) false = true := h
    obtain ⟨h2, h3⟩ := gt_if h1
    rcases List.mem_cons.mp hq with rfl | hq
    · rw [Bool.and_eq_true, Bool.and_eq_true, Bool.and_eq_true, Bool.not_eq_true', ga_beq, ga_beq, Nat.blt_eq] at h2
      obtain ⟨⟨a1, a2⟩, a3, a4⟩ := h2
      have a1 : ¬ (wt q.1).1 = 999 := fun e => by rw [e] at a1; cases a1
      obtain ⟨y, e, hy⟩ := hW q.1 q.2.1 a1 a2 (by rw [a3]; exact a4)
      exact ⟨y, e, by rw [← a3]; exact hy⟩
    · exact gt_pw_ok hW h3 q hq
/-- a contract that leaves some places as they were -/
theorem gt_keep_ok (Hs : gt_H sh wt) (HX : ∀ σ σ', (∀ c j, gb_mo xl c j = true → σ' c j = σ c j) → X σ → X σ') (HI : ∀ k, k < 313 → gt_inc (gm_me k).1 = true) {anm : Nat → List gb_N} {fuel : Nat} {us : List gt_K} (HU : ∀ q ∈ us, gt_KC sh wt X q) {k d rt : Nat} {ts : List Nat} {ps p2 : List (Nat × Nat × Nat)} {l : List (Nat × Nat)} (hd : 0 < d) (hps : ∀ p ∈ p2 ++ ps, gp_pk sh p.1 p.2.1 = 0 ∧ p.2.2 % 8 = 2) (hl : ∀ q ∈ l, ¬ q.1 = 99999 ∧ ¬ q.2 = 1048576) (hpw : gt_pw wt p2 = true) (h : gt_chkP gm_me wt xl anm us fuel (k, d, ts, p2 ++ ps, rt, ml ++ l) (gt_kp l) = true) : gt_KC sh wt X (k, d, ts, ps, rt, ml) := by
  intro pas σ hW hX hpre har
  refine gp_call_post (fun x σ' hp => ?_) (gt_chkP_ok (ml := ml ++ l) Hs HX HI HU hd hps (PP := fun σ σ' => ∀ q ∈ l, σ' q.1 q.2 = σ q.1 q.2) (fun ρ zs ov cs' ov' σ σ' a1 _ a3 a4 => gt_kp_ok a1 a3 a4) h hW hX (fun p hp => ?_) har)
  · obtain ⟨b1, b2, b3, b4, b5⟩ := hp
    refine ⟨b1, b2, fun c j hm => ?_, b4⟩
    cases hb : gb_mo l c j with
    | false => exact b3 c j (by rw [gb_mo_app, hm, hb]; rfl)
    | true => exact b5 _ (gb_mo_in hl hb)
  · rcases List.mem_append.mp hp with q | q
    · exact gt_pw_ok hW hpw p q
    · exact hpre p q
end HP
