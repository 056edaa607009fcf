/-! reading: how much is left -/
def gn_rem (σ : gp_S) : Int := if σ 236 8 = 0 then 0 else σ 236 3 - σ 236 7 + 1
def gm_Z (m : Int) (σ : gp_S) : Prop := σ 236 7 ≤ σ 236 3 ∧ (σ 236 8 = 0 → σ 236 7 = σ 236 3) ∧ gn_rem σ ≤ m
def gm_zl : List (Nat × Nat) := [(236, 3), (236, 7), (236, 8)]
theorem gn_reme {σ σ' : gp_S} (e1 : σ' 236 3 = σ 236 3) (e2 : σ' 236 7 = σ 236 7) (e3 : σ' 236 8 = σ 236 8) : gn_rem σ' = gn_rem σ := by
  unfold gn_rem; rw [e1, e2, e3]
theorem gm_hz {m : Int} : ∀ σ σ', (∀ c j, gb_mo gm_zl c j = true → σ' c j = σ c j) → gm_Z m σ → gm_Z m σ' := by
  intro σ σ' h hZ
  have e1 : σ' 236 3 = σ 236 3 := h _ _ rfl
  have e2 : σ' 236 7 = σ 236 7 := h _ _ rfl
  have e3 : σ' 236 8 = σ 236 8 := h _ _ rfl
  unfold gm_Z
  rw [gn_reme e1 e2 e3, e1, e2, e3]
  exact hZ
theorem gm_Zn {m : Int} {σ σ' : gp_S} (e1 : σ' 236 3 = σ 236 3) (e2 : σ' 236 7 = σ 236 7) (e3 : σ' 236 8 = σ 236 8) (hZ : gm_Z m σ) : gm_Z m σ' := by
  unfold gm_Z
  rw [gn_reme e1 e2 e3, e1, e2, e3]
  exact hZ
theorem gn_rem0 {m : Int} {σ : gp_S} (hZ : gm_Z m σ) : 0 ≤ gn_rem σ := by
  unfold gn_rem
  split
  · omega
  · have := hZ.1; omega
/-- what goOn does to what is left -/
theorem gn_step {m : Int} {σ σ' : gp_S} (hZ : gm_Z m σ) (hF : gt_fr gs_tok σ σ') (h1 : σ' 236 7 ≤ σ 236 3) (h2 : (σ' 236 8 = 0 ∧ σ' 236 7 = σ 236 3) ∨ (¬ σ' 236 8 = 0 ∧ σ 236 7 < σ' 236 7)) : gm_Z (gn_rem σ) σ' ∧ (¬ σ 236 8 = 0 → gn_rem σ' < gn_rem σ) := by
  have e1 : σ' 236 3 = σ 236 3 := hF _ _ rfl
  have r0 := gn_rem0 hZ
  obtain ⟨z1, z2, -⟩ := hZ
  unfold gm_Z gn_rem at *
  rcases h2 with ⟨a, c⟩ | ⟨a, c⟩
  · rw [if_pos a, e1, c]
    refine ⟨⟨Int.le_refl _, fun _ => rfl, r0⟩, fun q => ?_⟩
    rw [if_neg q]; omega
  · rw [if_neg a, e1]
    by_cases q : σ 236 8 = 0
    · have := z2 q; omega
    · rw [if_neg q]
      exact ⟨⟨h1, fun w => absurd w a, by omega⟩, fun _ => by omega⟩
theorem gm_Zle {m m' : Int} {σ : gp_S} (h : gm_Z m σ) (hm : m ≤ m') : gm_Z m' σ := ⟨h.1, h.2.1, Int.le_trans h.2.2 hm⟩

/-- goOn -/
def cm_61 (_ : Nat) : gt_K := (179, 3, [1891], [], 0, [(236, 6), (236, 7), (236, 8), (236, 9), (236, 10)])
theorem cn_61 {b f : Nat} {m : Int} (hb : b < 2) (hf : f < 8) : gt_KC gs_sh (gs_wm b f) (gm_Z m) (cm_61 f) := by
  intro pas σ hW hZ hp har
  match pas, har with
  | [x], har =>
    rcases har.1 with ⟨q, -⟩ | ⟨-, rfl⟩ | ⟨q, -⟩
    · exact absurd q (by decide)
    · exact gp_call_post (fun x σ' h => ⟨h.1, gm_Zle (gn_step hZ h.2.1 h.2.2.1 h.2.2.2).1 hZ.2.2, h.2.1, Or.inl (by show gm_rc 179 = 0; decide +kernel)⟩) (gz_goOn hb hf hW hZ.1)
    · exact absurd q (by decide)

theorem gs_all2p {b : Nat} {ps : Nat → List (Nat × Nat × Nat)} (hb : b < 2) (h : ∀ b, b < 2 → ∀ p ∈ ps b, gp_pk gs_sh p.1 p.2.1 = 0 ∧ p.2.2 % 8 = 2) : ∀ p ∈ ps b, gp_pk gs_sh p.1 p.2.1 = 0 ∧ p.2.2 % 8 = 2 := h b hb
/-- numLeans -/
def cm_62 (_ : Nat) : gt_K := (198, 4, [1891, 73786976312018075650, 73786979747991913250], [], 73786976312018076450, [(236, 4), (236, 5), (236, 6), (236, 7), (236, 8), (236, 9), (236, 10)])
def cs_62 : List (Nat × List gb_N) := []
theorem cn_62 {b f : Nat} {m : Int} (hb : b < 2) (hf : f < 8) : gt_KC gs_sh (gs_wm b f) (gm_Z m) (cm_62 b) := by
  have h : gs_all (fun i => gt_chk gm_me (gs_wm (i / 8) (i % 8)) gm_zl (gs_as cs_62) [cm_61 (i % 8)] 3000 (cm_62 (i / 8))) 16 = true := by decide +kernel
  have h1 := gs_all_ok h (8 * b + f) (by omega)
  rw [show (8 * b + f) / 8 = b by omega, show (8 * b + f) % 8 = f by omega] at h1
  exact gt_chk_ok (gs_hm hb hf) gm_hz gs_inc (List.forall_mem_cons.mpr ⟨cn_61 hb hf, fun _ h => absurd h List.not_mem_nil⟩) (by show 0 < 4; decide) (fun p hp => by cases hp) h1

/-- numeral -/
def cm_63 (_ : Nat) : gt_K := (198, 4, [1891, 34359738362, 34359738362], [], 34359738362, [(236, 4), (236, 5), (236, 6), (236, 7), (236, 8), (236, 9), (236, 10)])
def cs_63 : List (Nat × List gb_N) := []
theorem cn_63 {b f : Nat} {m : Int} (hb : b < 2) (hf : f < 8) : gt_KC gs_sh (gs_wm b f) (gm_Z m) (cm_63 b) := by
  have h : gs_all (fun i => gt_chk gm_me (gs_wm (i / 8) (i % 8)) gm_zl (gs_as cs_63) [cm_61 (i % 8)] 3000 (cm_63 (i / 8))) 16 = true := by decide +kernel
  have h1 := gs_all_ok h (8 * b + f) (by omega)
  rw [show (8 * b + f) / 8 = b by omega, show (8 * b + f) % 8 = f by omega] at h1
  exact gt_chk_ok (gs_hm hb hf) gm_hz gs_inc (List.forall_mem_cons.mpr ⟨cn_61 hb hf, fun _ h => absurd h List.not_mem_nil⟩) (by show 0 < 4; decide) (fun p hp => by cases hp) h1

/-- readGuest -/
noncomputable def cm_64 (b : Nat) : gt_K := (204, 6, [1891], [(236, 33, gs_lt (1 - b)), (239, 1 - b, 73786976312018075698)], 0, [(236, 4), (236, 5), (236, 6), (236, 7), (236, 8), (236, 9), (236, 10), (239, 0), (239, 1), (248, 1048576), (249, 1048576), (254, 1048576)])
def cs_64 : List (Nat × List gb_N) := [(203, [(2, [(1, 2147483648, 2147483654)], [], [], [], 0, 0)])]
theorem cn_64 {b f : Nat} {m : Int} (hb : b < 2) (hf : f < 8) : gt_KC gs_sh (gs_wm b f) (gm_Z m) (cm_64 b) := by
  have h : gs_all (fun i => gt_chk gm_me (gs_wm (i / 8) (i % 8)) gm_zl (gs_as cs_64) [cm_61 (i % 8)] 3000 (cm_64 (i / 8))) 16 = true := by decide +kernel
  have h1 := gs_all_ok h (8 * b + f) (by omega)
  rw [show (8 * b + f) / 8 = b by omega, show (8 * b + f) % 8 = f by omega] at h1
  exact gt_chk_ok (gs_hm hb hf) gm_hz gs_inc (List.forall_mem_cons.mpr ⟨cn_61 hb hf, fun _ h => absurd h List.not_mem_nil⟩) (by show 0 < 6; decide) (gs_all2p hb (show ∀ b, b < 2 → ∀ p ∈ [(236, 33, gs_lt (1 - b)), (239, 1 - b, 73786976312018075698)], gp_pk gs_sh p.1 p.2.1 = 0 ∧ p.2.2 % 8 = 2 by decide +kernel)) h1

/-- readFeud -/
noncomputable def cm_65 (b : Nat) : gt_K := (206, 5, [1891], [(236, 33, gs_lt (1 - b)), (240, 1 - b, 73786976312018075722)], 0, [(236, 4), (236, 5), (236, 6), (236, 7), (236, 8), (236, 9), (236, 10), (240, 0), (240, 1), (250, 1048576), (251, 1048576)])
def cs_65 : List (List (Nat × List gb_N)) := [[(203, [(2, [(1, 2147483648, 2147483655)], [], [], [], 0, 0)]), (206, [(57, [(4, 2147483648, 2147483649), (5, 2147483658, 2147483668)], [], [], [], 1, 0)])],
  [(203, [(2, [(1, 2147483648, 2147483655)], [], [], [], 0, 0)]), (206, [(57, [(4, 2147483648, 2147483649), (5, 2147483658, 2147483668)], [], [], [], 1, 0)])],
  [(203, [(2, [(1, 2147483648, 2147483655)], [], [], [], 0, 0)]), (206, [(57, [(4, 2147483648, 2147483649), (5, 2147483658, 2147483668)], [], [], [], 1, 0)])],
  [(203, [(2, [(1, 2147483648, 2147483655)], [], [], [], 0, 0)]), (206, [(57, [(4, 2147483648, 2147483649), (5, 2147483658, 2147483668)], [], [], [], 1, 0)])],
  [(203, [(2, [(1, 2147483648, 2147483655)], [], [], [], 0, 0)]), (206, [(57, [(4, 2147483648, 2147483649), (5, 2147483658, 2147483668)], [], [], [], 1, 0)])],
  [(203, [(2, [(1, 2147483648, 2147483655)], [], [], [], 0, 0)]), (206, [(57, [(4, 2147483648, 2147483649), (5, 2147483658, 2147483668)], [], [], [], 1, 0)])],
  [(203, [(2, [(1, 2147483648, 2147483655)], [], [], [], 0, 0)]), (206, [(57, [(4, 2147483648, 2147483649), (5, 2147483658, 2147483668)], [], [], [], 1, 0)])],
  [(203, [(2, [(1, 2147483648, 2147483655)], [], [], [], 0, 0)]), (206, [(57, [(4, 2147483648, 2147483649), (5, 2147483658, 2147483668)], [], [], [], 1, 0)])],
  [(203, [(2, [(1, 2147483648, 2147483655)], [], [], [], 0, 0)]), (206, [(57, [(4, 2147483648, 2147483649), (5, 2147483648, 2147483657)], [], [], [], 1, 0)])],
  [(203, [(2, [(1, 2147483648, 2147483655)], [], [], [], 0, 0)]), (206, [(57, [(4, 2147483648, 2147483649), (5, 2147483648, 2147483657)], [], [], [], 1, 0)])],
  [(203, [(2, [(1, 2147483648, 2147483655)], [], [], [], 0, 0)]), (206, [(57, [(4, 2147483648, 2147483649), (5, 2147483648, 2147483657)], [], [], [], 1, 0)])],
  [(203, [(2, [(1, 2147483648, 2147483655)], [], [], [], 0, 0)]), (206, [(57, [(4, 2147483648, 2147483649), (5, 2147483648, 2147483657)], [], [], [], 1, 0)])],
  [(203, [(2, [(1, 2147483648, 2147483655)], [], [], [], 0, 0)]), (206, [(57, [(4, 2147483648, 2147483649), (5, 2147483648, 2147483657)], [], [], [], 1, 0)])],
  [(203, [(2, [(1, 2147483648, 2147483655)], [], [], [], 0, 0)]), (206, [(57, [(4, 2147483648, 2147483649), (5, 2147483648, 2147483657)], [], [], [], 1, 0)])],
  [(203, [(2, [(1, 2147483648, 2147483655)], [], [], [], 0, 0)]), (206, [(57, [(4, 2147483648, 2147483649), (5, 2147483648, 2147483657)], [], [], [], 1, 0)])],
  [(203, [(2, [(1, 2147483648, 2147483655)], [], [], [], 0, 0)]), (206, [(57, [(4, 2147483648, 2147483649), (5, 2147483648, 2147483657)], [], [], [], 1, 0)])]]
theorem cn_65 {b f : Nat} {m : Int} (hb : b < 2) (hf : f < 8) : gt_KC gs_sh (gs_wm b f) (gm_Z m) (cm_65 b) := by
  have h : gs_all (fun i => gt_chk gm_me (gs_wm (i / 8) (i % 8)) gm_zl (gs_as (ga_nth [] cs_65 i)) [cm_61 (i % 8)] 3000 (cm_65 (i / 8))) 16 = true := by decide +kernel
  have h1 := gs_all_ok h (8 * b + f) (by omega)
  rw [show (8 * b + f) / 8 = b by omega, show (8 * b + f) % 8 = f by omega] at h1
  exact gt_chk_ok (gs_hm hb hf) gm_hz gs_inc (List.forall_mem_cons.mpr ⟨cn_61 hb hf, fun _ h => absurd h List.not_mem_nil⟩) (by show 0 < 5; decide) (gs_all2p hb (show ∀ b, b < 2 → ∀ p ∈ [(236, 33, gs_lt (1 - b)), (240, 1 - b, 73786976312018075722)], gp_pk gs_sh p.1 p.2.1 = 0 ∧ p.2.2 % 8 = 2 by decide +kernel)) h1

/-- onceHere -/
def cm_66 (_ : Nat) : gt_K := (200, 2, [1891], [], 73786976277658337322, [])
def cs_66 : List (Nat × List gb_N) := []
theorem cn_66 {b f : Nat} {m : Int} (hb : b < 2) (hf : f < 8) : gt_KC gs_sh (gs_wm b f) (gm_Z m) (cm_66 b) := by
  have h : gs_all (fun i => gt_chk gm_me (gs_wm (i / 8) (i % 8)) gm_zl (gs_as cs_66) [] 3000 (cm_66 (i / 8))) 16 = true := by decide +kernel
  have h1 := gs_all_ok h (8 * b + f) (by omega)
  rw [show (8 * b + f) / 8 = b by omega, show (8 * b + f) % 8 = f by omega] at h1
  exact gt_chk_ok (gs_hm hb hf) gm_hz gs_inc (fun _ h => absurd h List.not_mem_nil) (by show 0 < 2; decide) (fun p hp => by cases hp) h1

