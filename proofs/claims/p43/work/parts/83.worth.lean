/-! sitInOrder, worthOf, layBest, where there is a guest -/
/-- sitInOrder -/
def cm_57 (f : Nat) : gt_K := (234, 1, [1891, 73786976312018075698], [(260, 24, gs_at f)], 0, [(260, 1048576)])
def cs_57 : List (List (Nat × List gb_N)) := [[],
  [(234, [(2, [(2, 2147483648, 2147483654)], [], [(260, 24)], [], 0, 0)])],
  [(234, [(2, [(2, 2147483648, 2147483654)], [], [(260, 24)], [], 0, 0)])],
  [(234, [(2, [(2, 2147483648, 2147483654)], [], [(260, 24)], [], 0, 0)])],
  [(234, [(2, [(2, 2147483648, 2147483654)], [], [(260, 24)], [], 0, 0)])],
  [(234, [(2, [(2, 2147483648, 2147483654)], [], [(260, 24)], [], 0, 0)])],
  [(234, [(2, [(2, 2147483648, 2147483654)], [], [(260, 24)], [], 0, 0)])],
  [(234, [(2, [(2, 2147483648, 2147483654)], [], [(260, 24)], [], 0, 0)])],
  [],
  [(234, [(2, [(2, 2147483648, 2147483654)], [], [(260, 24)], [], 0, 0)])],
  [(234, [(2, [(2, 2147483648, 2147483654)], [], [(260, 24)], [], 0, 0)])],
  [(234, [(2, [(2, 2147483648, 2147483654)], [], [(260, 24)], [], 0, 0)])],
  [(234, [(2, [(2, 2147483648, 2147483654)], [], [(260, 24)], [], 0, 0)])],
  [(234, [(2, [(2, 2147483648, 2147483654)], [], [(260, 24)], [], 0, 0)])],
  [(234, [(2, [(2, 2147483648, 2147483654)], [], [(260, 24)], [], 0, 0)])],
  [(234, [(2, [(2, 2147483648, 2147483654)], [], [(260, 24)], [], 0, 0)])]]
theorem cn_57 {b f : Nat} (hb : b < 2) (hf : f < 8) (h0 : 0 < f) : gt_KC gs_sh (gs_wm b f) (gm_X f) (cm_57 f) := by
  have h : gs_all (fun i => ga_if (Nat.beq (i % 8) 0) true (gt_chk gm_me (gs_wm (i / 8) (i % 8)) gm_xl (gs_as (ga_nth [] cs_57 i)) [] 3000 (cm_57 (i % 8)))) 16 = true := by decide +kernel
  have h1 := gs_all_ok h (8 * b + f) (by omega)
  rw [show (8 * b + f) / 8 = b by omega, show (8 * b + f) % 8 = f by omega, ga_if_eq, if_neg (fun q => absurd (ga_beq.mp q) (by omega))] at h1
  exact gt_chk_ok (gs_hm hb hf) gm_hx gs_inc (fun _ h => absurd h List.not_mem_nil) (by show 0 < 1; decide) (gs_atp) h1

/-- worthOf -/
def cm_58 (f : Nat) : gt_K := (237, 10, [1891, 73786976312018075666], [(260, 24, gs_at f)], 34359738362, [(259, 1048576), (260, 7), (260, 8), (260, 9), (260, 10), (260, 11), (260, 12), (260, 13), (260, 14), (260, 15), (260, 16), (260, 17), (260, 18), (260, 19), (260, 20), (260, 21), (260, 22), (260, 23), (260, 24), (260, 25), (260, 27), (260, 28), (262, 1048576)])
def cs_58 : List (Nat × List gb_N) := []
theorem cn_58 {b f : Nat} (hb : b < 2) (hf : f < 8) (h0 : 0 < f) : gt_KC gs_sh (gs_wm b f) (gm_X f) (cm_58 f) := by
  have h : gs_all (fun i => ga_if (Nat.beq (i % 8) 0) true (gt_chk gm_me (gs_wm (i / 8) (i % 8)) gm_xl (gs_as cs_58) [cm_13 (i % 8), cm_9 (i % 8), cm_17 (i % 8)] 3000 (cm_58 (i % 8)))) 16 = true := by decide +kernel
  have h1 := gs_all_ok h (8 * b + f) (by omega)
  rw [show (8 * b + f) / 8 = b by omega, show (8 * b + f) % 8 = f by omega, ga_if_eq, if_neg (fun q => absurd (ga_beq.mp q) (by omega))] at h1
  exact gt_chk_ok (gs_hm hb hf) gm_hx gs_inc (List.forall_mem_cons.mpr ⟨cn_13 hb hf, List.forall_mem_cons.mpr ⟨cn_9 hb hf, List.forall_mem_cons.mpr ⟨cn_17 hb hf, fun _ h => absurd h List.not_mem_nil⟩⟩⟩) (by show 0 < 10; decide) (gs_atp) h1

/-- layBest -/
def cm_59 (f : Nat) : gt_K := (239, 3, [1891], [(260, 24, gs_at f)], 0, [(236, 51), (265, 1048576)])
def cs_59 : List (List (Nat × List gb_N)) := [[],
  [],
  [(239, [(10, [(1, 2147483648, 2147483649)], [], [], [], 0, 0)])],
  [(239, [(10, [(1, 2147483648, 2147483650)], [], [], [], 0, 0)])],
  [(239, [(10, [(1, 2147483648, 2147483654)], [], [], [], 0, 0)])],
  [(239, [(10, [(1, 2147483648, 2147483654)], [], [], [], 0, 0)])],
  [(239, [(10, [(1, 2147483648, 2147483654)], [], [], [], 0, 0)])],
  [(239, [(10, [(1, 2147483648, 2147483654)], [], [], [], 0, 0)])],
  [],
  [],
  [(239, [(10, [(1, 2147483648, 2147483649)], [], [], [], 0, 0)])],
  [(239, [(10, [(1, 2147483648, 2147483650)], [], [], [], 0, 0)])],
  [(239, [(10, [(1, 2147483648, 2147483654)], [], [], [], 0, 0)])],
  [(239, [(10, [(1, 2147483648, 2147483654)], [], [], [], 0, 0)])],
  [(239, [(10, [(1, 2147483648, 2147483654)], [], [], [], 0, 0)])],
  [(239, [(10, [(1, 2147483648, 2147483654)], [], [], [], 0, 0)])]]
theorem cn_59 {b f : Nat} (hb : b < 2) (hf : f < 8) (h0 : 0 < f) : gt_KC gs_sh (gs_wm b f) (gm_X f) (cm_59 f) := by
  have h : gs_all (fun i => ga_if (Nat.beq (i % 8) 0) true (gt_chk gm_me (gs_wm (i / 8) (i % 8)) gm_xl (gs_as (ga_nth [] cs_59 i)) [] 3000 (cm_59 (i % 8)))) 16 = true := by decide +kernel
  have h1 := gs_all_ok h (8 * b + f) (by omega)
  rw [show (8 * b + f) / 8 = b by omega, show (8 * b + f) % 8 = f by omega, ga_if_eq, if_neg (fun q => absurd (ga_beq.mp q) (by omega))] at h1
  exact gt_chk_ok (gs_hm hb hf) gm_hx gs_inc (fun _ h => absurd h List.not_mem_nil) (by show 0 < 3; decide) (gs_atp) h1

