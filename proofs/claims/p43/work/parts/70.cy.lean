/-! contracts that want to know who sits where -/
theorem gv_q_eq {f : Nat} {g h : Nat → Int} (e : ∀ j, j < f → h j = g j) (hg : gv_q f g) : gv_q f h := by
  refine ⟨fun j hj => ?_, fun i j hi hj => ?_⟩
  · rw [e j hj]; exact hg.1 j hj
  · rw [e i (by omega), e j hj]; exact hg.2 i j hi hj
def gm_Y (f : Nat) (σ : gp_S) : Prop := f < 8 ∧ gm_X f σ ∧ gv_q f (σ 260)
def gm_yl : List (Nat × Nat) := gm_xl ++ gs_se
theorem gm_hy {f : Nat} : ∀ σ σ', (∀ c j, gb_mo gm_yl c j = true → σ' c j = σ c j) → gm_Y f σ → gm_Y f σ' := by
  intro σ σ' h hY
  refine ⟨hY.1, gm_hx σ σ' (fun c j q => h c j (by unfold gm_yl; rw [gb_mo_app, q]; rfl)) hY.2.1, gv_q_eq (fun j hj => h 260 j ?_) hY.2.2⟩
  have := hY.1
  rcases (show j = 0 ∨ j = 1 ∨ j = 2 ∨ j = 3 ∨ j = 4 ∨ j = 5 ∨ j = 6 by omega) with e | e | e | e | e | e | e <;> subst e <;> decide +kernel
theorem gm_lift {b f : Nat} {q : gt_K} (h : gt_KC gs_sh (gs_wm b f) (gm_X f) q) (hq : gs_all (fun j => not (gb_mo q.2.2.2.2.2 260 j)) 7 = true) : gt_KC gs_sh (gs_wm b f) (gm_Y f) q := by
  intro pas σ hW hY hp har
  refine gp_call_post (fun x σ' hv => ⟨hv.1, ⟨hY.1, hv.2.1, gv_q_eq (fun j hj => hv.2.2.1 260 j ?_) hY.2.2⟩, hv.2.2⟩) (h pas σ hW hY.2.1 hp har)
  have h1 := gs_all_ok hq j (by have := hY.1; omega)
  rw [Bool.not_eq_true'] at h1
  exact h1
/-- keepAct -/
def cm_50 (_ : Nat) : gt_K := (82, 1, [1891], [], 0, [(264, 1048576), (236, 46), (236, 47)])
theorem cn_50 {b f : Nat} (_ : b < 2) (hf : f < 8) : gt_KC gs_sh (gs_wm b f) (gm_Y f) (cm_50 f) := by
  intro pas σ hW hY hp har
  match pas, har with
  | [x], har =>
    rcases har.1 with ⟨q, -⟩ | ⟨-, rfl⟩ | ⟨q, -⟩
    · exact absurd q (by decide)
    · exact gp_call_post (fun x σ' h => ⟨h.1, ⟨hf, h.2.1, gv_q_eq (fun j _ => h.2.2 260 j rfl) hY.2.2⟩, h.2.2, Or.inl (by show gm_rc 82 = 0; decide +kernel)⟩) (gz_keep hf hW hY.2.1 hY.2.2)
    · exact absurd q (by decide)
/-- minute -/
def cm_51 (_ : Nat) : gt_K := (167, 8, [1891], [], 73786976243298598962, [(236, 46), (236, 47), (259, 1048576), (260, 7), (260, 8), (260, 9), (260, 10), (260, 11), (260, 12), (260, 13), (260, 14), (260, 15), (260, 16), (260, 17), (260, 18), (260, 19), (260, 20), (260, 21), (260, 22), (260, 23), (260, 24), (260, 25), (260, 27), (260, 28), (264, 1048576)])
def cs_51 : List (Nat × List gb_N) := []
theorem cn_51 {b f : Nat} (hb : b < 2) (hf : f < 8) : gt_KC gs_sh (gs_wm b f) (gm_Y f) (cm_51 f) := by
  have h : gs_all (fun i => gt_chk gm_me (gs_wm (i / 8) (i % 8)) gm_yl (gs_as cs_51) [cm_50 (i % 8), cm_8 (i % 8)] 3000 (cm_51 (i % 8))) 16 = true := by decide +kernel
  have h1 := gs_all_ok h (8 * b + f) (by omega)
  rw [show (8 * b + f) / 8 = b by omega, show (8 * b + f) % 8 = f by omega] at h1
  exact gt_chk_ok (gs_hm hb hf) gm_hy gs_inc (List.forall_mem_cons.mpr ⟨cn_50 hb hf, List.forall_mem_cons.mpr ⟨gm_lift (cn_8 hb hf) (by show gs_all (fun j => not (gb_mo [(260, 7), (260, 8), (260, 9), (260, 10), (260, 11), (260, 12), (260, 13), (260, 14), (260, 15), (260, 16), (260, 17), (260, 18), (260, 19), (260, 20), (260, 21), (260, 22), (260, 23), (260, 24), (260, 25), (260, 27), (260, 28), (259, 1048576)] 260 j)) 7 = true; decide +kernel), fun _ h => absurd h List.not_mem_nil⟩⟩) (by show 0 < 8; decide) (fun p hp => by cases hp) h1
/-- makeUp -/
def cm_52 (_ : Nat) : gt_K := (84, 8, [1891, 34359738362], [], 34359738362, [(236, 46), (236, 47), (260, 26), (264, 1048576)])
def cs_52 : List (Nat × List gb_N) := []
theorem cn_52 {b f : Nat} (hb : b < 2) (hf : f < 8) : gt_KC gs_sh (gs_wm b f) (gm_Y f) (cm_52 f) := by
  have h : gs_all (fun i => gt_chk gm_me (gs_wm (i / 8) (i % 8)) gm_yl (gs_as cs_52) [cm_50 (i % 8), cm_13 (i % 8)] 3000 (cm_52 (i % 8))) 16 = true := by decide +kernel
  have h1 := gs_all_ok h (8 * b + f) (by omega)
  rw [show (8 * b + f) / 8 = b by omega, show (8 * b + f) % 8 = f by omega] at h1
  exact gt_chk_ok (gs_hm hb hf) gm_hy gs_inc (List.forall_mem_cons.mpr ⟨cn_50 hb hf, List.forall_mem_cons.mpr ⟨gm_lift (cn_13 hb hf) (by show gs_all (fun j => not (gb_mo [] 260 j)) 7 = true; decide +kernel), fun _ h => absurd h List.not_mem_nil⟩⟩) (by show 0 < 8; decide) (fun p hp => by cases hp) h1
/-- fallOut -/
def cm_53 (_ : Nat) : gt_K := (83, 8, [1891, 34359738362], [], 34359738362, [(236, 46), (236, 47), (260, 26), (264, 1048576)])
def cs_53 : List (Nat × List gb_N) := []
theorem cn_53 {b f : Nat} (hb : b < 2) (hf : f < 8) : gt_KC gs_sh (gs_wm b f) (gm_Y f) (cm_53 f) := by
  have h : gs_all (fun i => gt_chk gm_me (gs_wm (i / 8) (i % 8)) gm_yl (gs_as cs_53) [cm_50 (i % 8), cm_13 (i % 8)] 3000 (cm_53 (i % 8))) 16 = true := by decide +kernel
  have h1 := gs_all_ok h (8 * b + f) (by omega)
  rw [show (8 * b + f) / 8 = b by omega, show (8 * b + f) % 8 = f by omega] at h1
  exact gt_chk_ok (gs_hm hb hf) gm_hy gs_inc (List.forall_mem_cons.mpr ⟨cn_50 hb hf, List.forall_mem_cons.mpr ⟨gm_lift (cn_13 hb hf) (by show gs_all (fun j => not (gb_mo [] 260 j)) 7 = true; decide +kernel), fun _ h => absurd h List.not_mem_nil⟩⟩) (by show 0 < 8; decide) (fun p hp => by cases hp) h1
/-- pour -/
def cm_54 (_ : Nat) : gt_K := (55, 2, [1891, 34359738362], [], 73786976277658338074, [(236, 46), (236, 47), (260, 22), (264, 1048576)])
def cs_54 : List (Nat × List gb_N) := []
theorem cn_54 {b f : Nat} (hb : b < 2) (hf : f < 8) : gt_KC gs_sh (gs_wm b f) (gm_Y f) (cm_54 f) := by
  have h : gs_all (fun i => gt_chk gm_me (gs_wm (i / 8) (i % 8)) gm_yl (gs_as cs_54) [cm_50 (i % 8)] 3000 (cm_54 (i % 8))) 16 = true := by decide +kernel
  have h1 := gs_all_ok h (8 * b + f) (by omega)
  rw [show (8 * b + f) / 8 = b by omega, show (8 * b + f) % 8 = f by omega] at h1
  exact gt_chk_ok (gs_hm hb hf) gm_hy gs_inc (List.forall_mem_cons.mpr ⟨cn_50 hb hf, fun _ h => absurd h List.not_mem_nil⟩) (by show 0 < 2; decide) (fun p hp => by cases hp) h1
/-- warm -/
def cm_55 (_ : Nat) : gt_K := (54, 2, [1891, 34359738362], [], 73786976277658338074, [(236, 46), (236, 47), (260, 23), (264, 1048576)])
def cs_55 : List (Nat × List gb_N) := []
theorem cn_55 {b f : Nat} (hb : b < 2) (hf : f < 8) : gt_KC gs_sh (gs_wm b f) (gm_Y f) (cm_55 f) := by
  have h : gs_all (fun i => gt_chk gm_me (gs_wm (i / 8) (i % 8)) gm_yl (gs_as cs_55) [cm_50 (i % 8)] 3000 (cm_55 (i % 8))) 16 = true := by decide +kernel
  have h1 := gs_all_ok h (8 * b + f) (by omega)
  rw [show (8 * b + f) / 8 = b by omega, show (8 * b + f) % 8 = f by omega] at h1
  exact gt_chk_ok (gs_hm hb hf) gm_hy gs_inc (List.forall_mem_cons.mpr ⟨cn_50 hb hf, fun _ h => absurd h List.not_mem_nil⟩) (by show 0 < 2; decide) (fun p hp => by cases hp) h1
