/-! the model's contracts, checked by the kernel for all banks and guests -/
def gs_at (f : Nat) : Nat := 8 * (2147483648 * 4294967296 + (2147483648 + (f - 1))) + 2
theorem gs_atp {f : Nat} : ∀ p ∈ [(260, 24, gs_at f)], gp_pk gs_sh p.1 p.2.1 = 0 ∧ p.2.2 % 8 = 2 := by
  intro p hp
  rw [List.mem_singleton] at hp
  subst hp
  exact ⟨by show gp_pk gs_sh 260 24 = 0; decide +kernel, by show gs_at f % 8 = 2; unfold gs_at; omega⟩
/-- two -/
def cm_0 (_ : Nat) : gt_K := (216, 1, [34359738362, 34359738362, 34359738362], [], 34359738362, [])
def cs_0 : List (Nat × List gb_N) := []
theorem cn_0 {b f : Nat} (hb : b < 2) (hf : f < 8) : gt_KC gs_sh (gs_wm b f) (gm_X f) (cm_0 f) := by
  have h : gs_all (fun i => gt_chk gm_me (gs_wm (i / 8) (i % 8)) gm_xl (gs_as cs_0) [] 3000 (cm_0 (i % 8))) 16 = true := by decide +kernel
  have h1 := gs_all_ok h (8 * b + f) (by omega)
  rw [show (8 * b + f) / 8 = b by omega, show (8 * b + f) % 8 = f by omega] at h1
  exact gt_chk_ok (gs_hm hb hf) gm_hx gs_inc (fun _ h => absurd h List.not_mem_nil) (by show 0 < 1; decide) (fun p hp => by cases hp) h1
/-- asked -/
def cm_1 (_ : Nat) : gt_K := (217, 3, [1891, 34359738362, 34359738362], [], 34359738362, [])
def cs_1 : List (Nat × List gb_N) := []
theorem cn_1 {b f : Nat} (hb : b < 2) (hf : f < 8) : gt_KC gs_sh (gs_wm b f) (gm_X f) (cm_1 f) := by
  have h : gs_all (fun i => gt_chk gm_me (gs_wm (i / 8) (i % 8)) gm_xl (gs_as cs_1) [] 3000 (cm_1 (i % 8))) 16 = true := by decide +kernel
  have h1 := gs_all_ok h (8 * b + f) (by omega)
  rw [show (8 * b + f) / 8 = b by omega, show (8 * b + f) % 8 = f by omega] at h1
  exact gt_chk_ok (gs_hm hb hf) gm_hx gs_inc (fun _ h => absurd h List.not_mem_nil) (by show 0 < 3; decide) (fun p hp => by cases hp) h1
/-- isAtOdds -/
def cm_2 (_ : Nat) : gt_K := (223, 2, [1891, 73786976312018075698, 73786976312018075698], [], 73786976312018075658, [])
def cs_2 : List (Nat × List gb_N) := [(223, [(2, [(3, 2147483648, 2147483658)], [], [], [], 0, 0)])]
theorem cn_2 {b f : Nat} (hb : b < 2) (hf : f < 8) : gt_KC gs_sh (gs_wm b f) (gm_X f) (cm_2 f) := by
  have h : gs_all (fun i => gt_chk gm_me (gs_wm (i / 8) (i % 8)) gm_xl (gs_as cs_2) [] 3000 (cm_2 (i % 8))) 16 = true := by decide +kernel
  have h1 := gs_all_ok h (8 * b + f) (by omega)
  rw [show (8 * b + f) / 8 = b by omega, show (8 * b + f) % 8 = f by omega] at h1
  exact gt_chk_ok (gs_hm hb hf) gm_hx gs_inc (fun _ h => absurd h List.not_mem_nil) (by show 0 < 2; decide) (fun p hp => by cases hp) h1
/-- slowOf -/
def cm_3 (_ : Nat) : gt_K := (221, 4, [1891, 73786976312018075698], [], 34359738362, [])
def cs_3 : List (List (Nat × List gb_N)) := [[],
  [(220, [(2, [(2, 2147483648, 2147483649)], [], [], [], 0, 0)])],
  [(220, [(2, [(2, 2147483648, 2147483650)], [], [], [], 0, 0)])],
  [(220, [(2, [(2, 2147483648, 2147483654)], [], [], [], 0, 0)])],
  [(220, [(2, [(2, 2147483648, 2147483654)], [], [], [], 0, 0)])],
  [(220, [(2, [(2, 2147483648, 2147483654)], [], [], [], 0, 0)])],
  [(220, [(2, [(2, 2147483648, 2147483654)], [], [], [], 0, 0)])],
  [(220, [(2, [(2, 2147483648, 2147483655)], [], [], [], 0, 0)])],
  [],
  [(220, [(2, [(2, 2147483648, 2147483649)], [], [], [], 0, 0)])],
  [(220, [(2, [(2, 2147483648, 2147483650)], [], [], [], 0, 0)])],
  [(220, [(2, [(2, 2147483648, 2147483654)], [], [], [], 0, 0)])],
  [(220, [(2, [(2, 2147483648, 2147483654)], [], [], [], 0, 0)])],
  [(220, [(2, [(2, 2147483648, 2147483654)], [], [], [], 0, 0)])],
  [(220, [(2, [(2, 2147483648, 2147483654)], [], [], [], 0, 0)])],
  [(220, [(2, [(2, 2147483648, 2147483655)], [], [], [], 0, 0)])]]
theorem cn_3 {b f : Nat} (hb : b < 2) (hf : f < 8) : gt_KC gs_sh (gs_wm b f) (gm_X f) (cm_3 f) := by
  have h : gs_all (fun i => gt_chk gm_me (gs_wm (i / 8) (i % 8)) gm_xl (gs_as (ga_nth [] cs_3 i)) [] 3000 (cm_3 (i % 8))) 16 = true := by decide +kernel
  have h1 := gs_all_ok h (8 * b + f) (by omega)
  rw [show (8 * b + f) / 8 = b by omega, show (8 * b + f) % 8 = f by omega] at h1
  exact gt_chk_ok (gs_hm hb hf) gm_hx gs_inc (fun _ h => absurd h List.not_mem_nil) (by show 0 < 4; decide) (fun p hp => by cases hp) h1
/-- takesOf -/
def cm_4 (_ : Nat) : gt_K := (222, 1, [1891, 73786976312018075698], [], 34359738362, [])
def cs_4 : List (Nat × List gb_N) := []
theorem cn_4 {b f : Nat} (hb : b < 2) (hf : f < 8) : gt_KC gs_sh (gs_wm b f) (gm_X f) (cm_4 f) := by
  have h : gs_all (fun i => gt_chk gm_me (gs_wm (i / 8) (i % 8)) gm_xl (gs_as cs_4) [] 3000 (cm_4 (i % 8))) 16 = true := by decide +kernel
  have h1 := gs_all_ok h (8 * b + f) (by omega)
  rw [show (8 * b + f) / 8 = b by omega, show (8 * b + f) % 8 = f by omega] at h1
  exact gt_chk_ok (gs_hm hb hf) gm_hx gs_inc (fun _ h => absurd h List.not_mem_nil) (by show 0 < 1; decide) (fun p hp => by cases hp) h1
/-- waitOf -/
def cm_5 (_ : Nat) : gt_K := (225, 5, [1891, 73786976312018075698], [], 34359738362, [])
def cs_5 : List (Nat × List gb_N) := []
theorem cn_5 {b f : Nat} (hb : b < 2) (hf : f < 8) : gt_KC gs_sh (gs_wm b f) (gm_X f) (cm_5 f) := by
  have h : gs_all (fun i => gt_chk gm_me (gs_wm (i / 8) (i % 8)) gm_xl (gs_as cs_5) [cm_3 (i % 8), cm_2 (i % 8)] 3000 (cm_5 (i % 8))) 16 = true := by decide +kernel
  have h1 := gs_all_ok h (8 * b + f) (by omega)
  rw [show (8 * b + f) / 8 = b by omega, show (8 * b + f) % 8 = f by omega] at h1
  exact gt_chk_ok (gs_hm hb hf) gm_hx gs_inc (List.forall_mem_cons.mpr ⟨cn_3 hb hf, List.forall_mem_cons.mpr ⟨cn_2 hb hf, fun _ h => absurd h List.not_mem_nil⟩⟩) (by show 0 < 5; decide) (fun p hp => by cases hp) h1
/-- comes -/
def cm_6 (_ : Nat) : gt_K := (218, 4, [1891], [], 34359738362, [(259, 1048576)])
theorem gk_comes {b f : Nat} (hb : b < 2) (ha : gt_KC gs_sh (gs_wm b f) (gm_X f) (cm_1 f)) (ht : gt_KC gs_sh (gs_wm b f) (gm_X f) (cm_0 f)) : gt_KC gs_sh (gs_wm b f) (gm_X f) (cm_6 f) := by
  intro pas σ hW hX _ har
  match pas, har with
  | [x], har =>
    rcases har.1 with ⟨q, -⟩ | ⟨-, rfl⟩ | ⟨q, -⟩
    · exact absurd q (by decide)
    · refine gp_call_post (fun x σ' h => ?_) (gz_comes hb ha ht hW hX)
      exact ⟨h.1, gm_hx _ _ (fun c j q => h.2.1 c j (fun e => by subst e; cases (show false = true from q))) hX, fun c j q => h.2.1 c j (fun e => by subst e; rw [show gb_mo (cm_6 f).2.2.2.2.2 259 j = true from gb_mo_mem j (List.mem_singleton.mpr rfl)] at q; cases q), Or.inr h.2.2⟩
    · exact absurd q (by decide)
theorem cn_6 {b f : Nat} (hb : b < 2) (hf : f < 8) : gt_KC gs_sh (gs_wm b f) (gm_X f) (cm_6 f) := gk_comes hb (cn_1 hb hf) (cn_0 hb hf)
/-- goCool -/
def cm_7 (_ : Nat) : gt_K := (7, 5, [1891], [], 0, [(259, 1048576), (260, 23)])
def cs_7 : List (Nat × List gb_N) := []
theorem cn_7 {b f : Nat} (hb : b < 2) (hf : f < 8) : gt_KC gs_sh (gs_wm b f) (gm_X f) (cm_7 f) := by
  have h : gs_all (fun i => gt_chk gm_me (gs_wm (i / 8) (i % 8)) gm_xl (gs_as cs_7) [cm_6 (i % 8)] 3000 (cm_7 (i % 8))) 16 = true := by decide +kernel
  have h1 := gs_all_ok h (8 * b + f) (by omega)
  rw [show (8 * b + f) / 8 = b by omega, show (8 * b + f) % 8 = f by omega] at h1
  exact gt_chk_ok (gs_hm hb hf) gm_hx gs_inc (List.forall_mem_cons.mpr ⟨cn_6 hb hf, fun _ h => absurd h List.not_mem_nil⟩) (by show 0 < 5; decide) (fun p hp => by cases hp) h1
