/-! the class's contracts, checked by the kernel -/
/-- GravyRound.change -/
def cx_126 : gt_K := (165, 5, [3, 34359738362, 34359738362], [], 34359738362, [(99999, 0)])
theorem cy_126 (σr : gp_S) : gt_KC gs_sh gs_wx (gx_X σr) cx_126 := gt_chk_ok gs_hx (gx_hx σr) gs_inc (anm := gs_as [(299, [(2, [(2, 2147483648, 2147483655)], [], [], [], 0, 0)])]) (fuel := 3000) (us := [cx_123, cx_125]) (List.forall_mem_cons.mpr ⟨cy_123 σr, List.forall_mem_cons.mpr ⟨cy_125 σr, fun _ h => absurd h List.not_mem_nil⟩⟩) (by decide) (fun p hp => by cases hp) (by decide +kernel)
/-- GravyRound.makeUp -/
def cx_127 : gt_K := (164, 6, [3, 34359738362], [], 34359738362, [(99999, 0)])
theorem cy_127 (σr : gp_S) : gt_KC gs_sh gs_wx (gx_X σr) cx_127 := gt_chk_ok gs_hx (gx_hx σr) gs_inc (anm := gs_as []) (fuel := 3000) (us := [cx_123, cx_125]) (List.forall_mem_cons.mpr ⟨cy_123 σr, List.forall_mem_cons.mpr ⟨cy_125 σr, fun _ h => absurd h List.not_mem_nil⟩⟩) (by decide) (fun p hp => by cases hp) (by decide +kernel)
/-- GravyRound.fallOut -/
def cx_128 : gt_K := (163, 6, [3, 34359738362], [], 34359738362, [(99999, 0)])
theorem cy_128 (σr : gp_S) : gt_KC gs_sh gs_wx (gx_X σr) cx_128 := gt_chk_ok gs_hx (gx_hx σr) gs_inc (anm := gs_as []) (fuel := 3000) (us := [cx_123, cx_125]) (List.forall_mem_cons.mpr ⟨cy_123 σr, List.forall_mem_cons.mpr ⟨cy_125 σr, fun _ h => absurd h List.not_mem_nil⟩⟩) (by decide) (fun p hp => by cases hp) (by decide +kernel)
/-- GravyRound.pour -/
def cx_129 : gt_K := (162, 4, [3, 34359738362], [], 34359738362, [(99999, 0)])
theorem cy_129 (σr : gp_S) : gt_KC gs_sh gs_wx (gx_X σr) cx_129 := gt_chk_ok gs_hx (gx_hx σr) gs_inc (anm := gs_as []) (fuel := 3000) (us := [cx_123]) (List.forall_mem_cons.mpr ⟨cy_123 σr, fun _ h => absurd h List.not_mem_nil⟩) (by decide) (fun p hp => by cases hp) (by decide +kernel)
/-- GravyRound.warm -/
def cx_130 : gt_K := (161, 4, [3, 34359738362], [], 34359738362, [(99999, 0)])
theorem cy_130 (σr : gp_S) : gt_KC gs_sh gs_wx (gx_X σr) cx_130 := gt_chk_ok gs_hx (gx_hx σr) gs_inc (anm := gs_as []) (fuel := 3000) (us := [cx_123]) (List.forall_mem_cons.mpr ⟨cy_123 σr, fun _ h => absurd h List.not_mem_nil⟩) (by decide) (fun p hp => by cases hp) (by decide +kernel)
/-- GravyRound$Table.copyFrom -/
def cx_131 : gt_K := (20, 1, [203, 283], [], 0, [(99999, 0)])
theorem cy_131 (σr : gp_S) : gt_KC gs_sh gs_wx (gx_X σr) cx_131 := gt_chk_ok gs_hx (gx_hx σr) gs_inc (anm := gs_as []) (fuel := 3000) (us := []) (fun _ h => absurd h List.not_mem_nil) (by decide) (fun p hp => by cases hp) (by decide +kernel)
/-- GravyRound$Table.copyFrom -/
def cx_132 : gt_K := (20, 1, [203, 315], [], 0, [(99999, 0)])
theorem cy_132 (σr : gp_S) : gt_KC gs_sh gs_wx (gx_X σr) cx_132 := gt_chk_ok gs_hx (gx_hx σr) gs_inc (anm := gs_as []) (fuel := 3000) (us := []) (fun _ h => absurd h List.not_mem_nil) (by decide) (fun p hp => by cases hp) (by decide +kernel)
/-- GravyRound$Table.copyFrom -/
def cx_133 : gt_K := (20, 1, [203, 347], [], 0, [(99999, 0)])
theorem cy_133 (σr : gp_S) : gt_KC gs_sh gs_wx (gx_X σr) cx_133 := gt_chk_ok gs_hx (gx_hx σr) gs_inc (anm := gs_as []) (fuel := 3000) (us := []) (fun _ h => absurd h List.not_mem_nil) (by decide) (fun p hp => by cases hp) (by decide +kernel)
/-- GravyRound$Table.copyFrom -/
def cx_134 : gt_K := (20, 1, [203, 379], [], 0, [(99999, 0)])
theorem cy_134 (σr : gp_S) : gt_KC gs_sh gs_wx (gx_X σr) cx_134 := gt_chk_ok gs_hx (gx_hx σr) gs_inc (anm := gs_as []) (fuel := 3000) (us := []) (fun _ h => absurd h List.not_mem_nil) (by decide) (fun p hp => by cases hp) (by decide +kernel)
/-- GravyRound$Table.copyFrom -/
def cx_135 : gt_K := (20, 1, [203, 411], [], 0, [(99999, 0)])
theorem cy_135 (σr : gp_S) : gt_KC gs_sh gs_wx (gx_X σr) cx_135 := gt_chk_ok gs_hx (gx_hx σr) gs_inc (anm := gs_as []) (fuel := 3000) (us := []) (fun _ h => absurd h List.not_mem_nil) (by decide) (fun p hp => by cases hp) (by decide +kernel)
/-- GravyRound$Table.copyFrom -/
def cx_136 : gt_K := (20, 1, [203, 443], [], 0, [(99999, 0)])
theorem cy_136 (σr : gp_S) : gt_KC gs_sh gs_wx (gx_X σr) cx_136 := gt_chk_ok gs_hx (gx_hx σr) gs_inc (anm := gs_as []) (fuel := 3000) (us := []) (fun _ h => absurd h List.not_mem_nil) (by decide) (fun p hp => by cases hp) (by decide +kernel)
/-- GravyRound$Table.copyFrom -/
def cx_137 : gt_K := (20, 1, [203, 475], [], 0, [(99999, 0)])
theorem cy_137 (σr : gp_S) : gt_KC gs_sh gs_wx (gx_X σr) cx_137 := gt_chk_ok gs_hx (gx_hx σr) gs_inc (anm := gs_as []) (fuel := 3000) (us := []) (fun _ h => absurd h List.not_mem_nil) (by decide) (fun p hp => by cases hp) (by decide +kernel)
/-- GravyRound$Table.copyFrom -/
def cx_138 : gt_K := (20, 1, [203, 507], [], 0, [(99999, 0)])
theorem cy_138 (σr : gp_S) : gt_KC gs_sh gs_wx (gx_X σr) cx_138 := gt_chk_ok gs_hx (gx_hx σr) gs_inc (anm := gs_as []) (fuel := 3000) (us := []) (fun _ h => absurd h List.not_mem_nil) (by decide) (fun p hp => by cases hp) (by decide +kernel)
/-- GravyRound$Table.copyFrom -/
def cx_139 : gt_K := (20, 1, [203, 539], [], 0, [(99999, 0)])
theorem cy_139 (σr : gp_S) : gt_KC gs_sh gs_wx (gx_X σr) cx_139 := gt_chk_ok gs_hx (gx_hx σr) gs_inc (anm := gs_as []) (fuel := 3000) (us := []) (fun _ h => absurd h List.not_mem_nil) (by decide) (fun p hp => by cases hp) (by decide +kernel)
/-- GravyRound$Table.copyFrom -/
def cx_140 : gt_K := (20, 1, [203, 571], [], 0, [(99999, 0)])
theorem cy_140 (σr : gp_S) : gt_KC gs_sh gs_wx (gx_X σr) cx_140 := gt_chk_ok gs_hx (gx_hx σr) gs_inc (anm := gs_as []) (fuel := 3000) (us := []) (fun _ h => absurd h List.not_mem_nil) (by decide) (fun p hp => by cases hp) (by decide +kernel)
/-- GravyRound$Table.copyFrom -/
def cx_141 : gt_K := (20, 1, [203, 603], [], 0, [(99999, 0)])
theorem cy_141 (σr : gp_S) : gt_KC gs_sh gs_wx (gx_X σr) cx_141 := gt_chk_ok gs_hx (gx_hx σr) gs_inc (anm := gs_as []) (fuel := 3000) (us := []) (fun _ h => absurd h List.not_mem_nil) (by decide) (fun p hp => by cases hp) (by decide +kernel)
/-- GravyRound$Table.copyFrom -/
def cx_142 : gt_K := (20, 1, [203, 635], [], 0, [(99999, 0)])
theorem cy_142 (σr : gp_S) : gt_KC gs_sh gs_wx (gx_X σr) cx_142 := gt_chk_ok gs_hx (gx_hx σr) gs_inc (anm := gs_as []) (fuel := 3000) (us := []) (fun _ h => absurd h List.not_mem_nil) (by decide) (fun p hp => by cases hp) (by decide +kernel)
/-- GravyRound$Table.copyFrom -/
def cx_143 : gt_K := (20, 1, [203, 667], [], 0, [(99999, 0)])
theorem cy_143 (σr : gp_S) : gt_KC gs_sh gs_wx (gx_X σr) cx_143 := gt_chk_ok gs_hx (gx_hx σr) gs_inc (anm := gs_as []) (fuel := 3000) (us := []) (fun _ h => absurd h List.not_mem_nil) (by decide) (fun p hp => by cases hp) (by decide +kernel)
/-- GravyRound$Table.copyFrom -/
def cx_144 : gt_K := (20, 1, [203, 699], [], 0, [(99999, 0)])
theorem cy_144 (σr : gp_S) : gt_KC gs_sh gs_wx (gx_X σr) cx_144 := gt_chk_ok gs_hx (gx_hx σr) gs_inc (anm := gs_as []) (fuel := 3000) (us := []) (fun _ h => absurd h List.not_mem_nil) (by decide) (fun p hp => by cases hp) (by decide +kernel)
/-- GravyRound$Table.copyFrom -/
def cx_145 : gt_K := (20, 1, [203, 731], [], 0, [(99999, 0)])
theorem cy_145 (σr : gp_S) : gt_KC gs_sh gs_wx (gx_X σr) cx_145 := gt_chk_ok gs_hx (gx_hx σr) gs_inc (anm := gs_as []) (fuel := 3000) (us := []) (fun _ h => absurd h List.not_mem_nil) (by decide) (fun p hp => by cases hp) (by decide +kernel)
/-- GravyRound$Table.copyFrom -/
def cx_146 : gt_K := (20, 1, [203, 763], [], 0, [(99999, 0)])
theorem cy_146 (σr : gp_S) : gt_KC gs_sh gs_wx (gx_X σr) cx_146 := gt_chk_ok gs_hx (gx_hx σr) gs_inc (anm := gs_as []) (fuel := 3000) (us := []) (fun _ h => absurd h List.not_mem_nil) (by decide) (fun p hp => by cases hp) (by decide +kernel)
/-- GravyRound$Table.copyFrom -/
def cx_147 : gt_K := (20, 1, [203, 795], [], 0, [(99999, 0)])
theorem cy_147 (σr : gp_S) : gt_KC gs_sh gs_wx (gx_X σr) cx_147 := gt_chk_ok gs_hx (gx_hx σr) gs_inc (anm := gs_as []) (fuel := 3000) (us := []) (fun _ h => absurd h List.not_mem_nil) (by decide) (fun p hp => by cases hp) (by decide +kernel)
/-- GravyRound$Table.copyFrom -/
def cx_148 : gt_K := (20, 1, [203, 827], [], 0, [(99999, 0)])
theorem cy_148 (σr : gp_S) : gt_KC gs_sh gs_wx (gx_X σr) cx_148 := gt_chk_ok gs_hx (gx_hx σr) gs_inc (anm := gs_as []) (fuel := 3000) (us := []) (fun _ h => absurd h List.not_mem_nil) (by decide) (fun p hp => by cases hp) (by decide +kernel)
/-- GravyRound$Table.copyFrom -/
def cx_149 : gt_K := (20, 1, [203, 859], [], 0, [(99999, 0)])
theorem cy_149 (σr : gp_S) : gt_KC gs_sh gs_wx (gx_X σr) cx_149 := gt_chk_ok gs_hx (gx_hx σr) gs_inc (anm := gs_as []) (fuel := 3000) (us := []) (fun _ h => absurd h List.not_mem_nil) (by decide) (fun p hp => by cases hp) (by decide +kernel)
/-- GravyRound$Table.copyFrom -/
def cx_150 : gt_K := (20, 1, [203, 891], [], 0, [(99999, 0)])
theorem cy_150 (σr : gp_S) : gt_KC gs_sh gs_wx (gx_X σr) cx_150 := gt_chk_ok gs_hx (gx_hx σr) gs_inc (anm := gs_as []) (fuel := 3000) (us := []) (fun _ h => absurd h List.not_mem_nil) (by decide) (fun p hp => by cases hp) (by decide +kernel)
/-- GravyRound$Table.copyFrom -/
def cx_151 : gt_K := (20, 1, [203, 923], [], 0, [(99999, 0)])
theorem cy_151 (σr : gp_S) : gt_KC gs_sh gs_wx (gx_X σr) cx_151 := gt_chk_ok gs_hx (gx_hx σr) gs_inc (anm := gs_as []) (fuel := 3000) (us := []) (fun _ h => absurd h List.not_mem_nil) (by decide) (fun p hp => by cases hp) (by decide +kernel)
/-- GravyRound$Table.copyFrom -/
def cx_152 : gt_K := (20, 1, [203, 955], [], 0, [(99999, 0)])
theorem cy_152 (σr : gp_S) : gt_KC gs_sh gs_wx (gx_X σr) cx_152 := gt_chk_ok gs_hx (gx_hx σr) gs_inc (anm := gs_as []) (fuel := 3000) (us := []) (fun _ h => absurd h List.not_mem_nil) (by decide) (fun p hp => by cases hp) (by decide +kernel)
/-- GravyRound$Table.copyFrom -/
def cx_153 : gt_K := (20, 1, [203, 987], [], 0, [(99999, 0)])
theorem cy_153 (σr : gp_S) : gt_KC gs_sh gs_wx (gx_X σr) cx_153 := gt_chk_ok gs_hx (gx_hx σr) gs_inc (anm := gs_as []) (fuel := 3000) (us := []) (fun _ h => absurd h List.not_mem_nil) (by decide) (fun p hp => by cases hp) (by decide +kernel)
/-- GravyRound$Table.copyFrom -/
def cx_154 : gt_K := (20, 1, [203, 1019], [], 0, [(99999, 0)])
theorem cy_154 (σr : gp_S) : gt_KC gs_sh gs_wx (gx_X σr) cx_154 := gt_chk_ok gs_hx (gx_hx σr) gs_inc (anm := gs_as []) (fuel := 3000) (us := []) (fun _ h => absurd h List.not_mem_nil) (by decide) (fun p hp => by cases hp) (by decide +kernel)
/-- GravyRound$Table.copyFrom -/
def cx_155 : gt_K := (20, 1, [203, 1051], [], 0, [(99999, 0)])
theorem cy_155 (σr : gp_S) : gt_KC gs_sh gs_wx (gx_X σr) cx_155 := gt_chk_ok gs_hx (gx_hx σr) gs_inc (anm := gs_as []) (fuel := 3000) (us := []) (fun _ h => absurd h List.not_mem_nil) (by decide) (fun p hp => by cases hp) (by decide +kernel)
/-- GravyRound$Table.copyFrom -/
def cx_156 : gt_K := (20, 1, [203, 1083], [], 0, [(99999, 0)])
theorem cy_156 (σr : gp_S) : gt_KC gs_sh gs_wx (gx_X σr) cx_156 := gt_chk_ok gs_hx (gx_hx σr) gs_inc (anm := gs_as []) (fuel := 3000) (us := []) (fun _ h => absurd h List.not_mem_nil) (by decide) (fun p hp => by cases hp) (by decide +kernel)
/-- GravyRound$Table.copyFrom -/
def cx_157 : gt_K := (20, 1, [203, 1115], [], 0, [(99999, 0)])
theorem cy_157 (σr : gp_S) : gt_KC gs_sh gs_wx (gx_X σr) cx_157 := gt_chk_ok gs_hx (gx_hx σr) gs_inc (anm := gs_as []) (fuel := 3000) (us := []) (fun _ h => absurd h List.not_mem_nil) (by decide) (fun p hp => by cases hp) (by decide +kernel)
/-- GravyRound$Table.copyFrom -/
def cx_158 : gt_K := (20, 1, [203, 1147], [], 0, [(99999, 0)])
theorem cy_158 (σr : gp_S) : gt_KC gs_sh gs_wx (gx_X σr) cx_158 := gt_chk_ok gs_hx (gx_hx σr) gs_inc (anm := gs_as []) (fuel := 3000) (us := []) (fun _ h => absurd h List.not_mem_nil) (by decide) (fun p hp => by cases hp) (by decide +kernel)
/-- GravyRound$Table.copyFrom -/
def cx_159 : gt_K := (20, 1, [203, 1179], [], 0, [(99999, 0)])
theorem cy_159 (σr : gp_S) : gt_KC gs_sh gs_wx (gx_X σr) cx_159 := gt_chk_ok gs_hx (gx_hx σr) gs_inc (anm := gs_as []) (fuel := 3000) (us := []) (fun _ h => absurd h List.not_mem_nil) (by decide) (fun p hp => by cases hp) (by decide +kernel)
/-- GravyRound$Table.copyFrom -/
def cx_160 : gt_K := (20, 1, [203, 1211], [], 0, [(99999, 0)])
theorem cy_160 (σr : gp_S) : gt_KC gs_sh gs_wx (gx_X σr) cx_160 := gt_chk_ok gs_hx (gx_hx σr) gs_inc (anm := gs_as []) (fuel := 3000) (us := []) (fun _ h => absurd h List.not_mem_nil) (by decide) (fun p hp => by cases hp) (by decide +kernel)
/-- GravyRound$Table.copyFrom -/
def cx_161 : gt_K := (20, 1, [203, 1243], [], 0, [(99999, 0)])
theorem cy_161 (σr : gp_S) : gt_KC gs_sh gs_wx (gx_X σr) cx_161 := gt_chk_ok gs_hx (gx_hx σr) gs_inc (anm := gs_as []) (fuel := 3000) (us := []) (fun _ h => absurd h List.not_mem_nil) (by decide) (fun p hp => by cases hp) (by decide +kernel)
/-- GravyRound$Table.copyFrom -/
def cx_162 : gt_K := (20, 1, [203, 1275], [], 0, [(99999, 0)])
theorem cy_162 (σr : gp_S) : gt_KC gs_sh gs_wx (gx_X σr) cx_162 := gt_chk_ok gs_hx (gx_hx σr) gs_inc (anm := gs_as []) (fuel := 3000) (us := []) (fun _ h => absurd h List.not_mem_nil) (by decide) (fun p hp => by cases hp) (by decide +kernel)
/-- GravyRound$Table.copyFrom -/
def cx_163 : gt_K := (20, 1, [203, 1307], [], 0, [(99999, 0)])
theorem cy_163 (σr : gp_S) : gt_KC gs_sh gs_wx (gx_X σr) cx_163 := gt_chk_ok gs_hx (gx_hx σr) gs_inc (anm := gs_as []) (fuel := 3000) (us := []) (fun _ h => absurd h List.not_mem_nil) (by decide) (fun p hp => by cases hp) (by decide +kernel)
/-- GravyRound$Table.copyFrom -/
def cx_164 : gt_K := (20, 1, [203, 1339], [], 0, [(99999, 0)])
theorem cy_164 (σr : gp_S) : gt_KC gs_sh gs_wx (gx_X σr) cx_164 := gt_chk_ok gs_hx (gx_hx σr) gs_inc (anm := gs_as []) (fuel := 3000) (us := []) (fun _ h => absurd h List.not_mem_nil) (by decide) (fun p hp => by cases hp) (by decide +kernel)
/-- GravyRound$Table.copyFrom -/
def cx_165 : gt_K := (20, 1, [203, 1371], [], 0, [(99999, 0)])
theorem cy_165 (σr : gp_S) : gt_KC gs_sh gs_wx (gx_X σr) cx_165 := gt_chk_ok gs_hx (gx_hx σr) gs_inc (anm := gs_as []) (fuel := 3000) (us := []) (fun _ h => absurd h List.not_mem_nil) (by decide) (fun p hp => by cases hp) (by decide +kernel)
/-- GravyRound$Table.copyFrom -/
def cx_166 : gt_K := (20, 1, [203, 1403], [], 0, [(99999, 0)])
theorem cy_166 (σr : gp_S) : gt_KC gs_sh gs_wx (gx_X σr) cx_166 := gt_chk_ok gs_hx (gx_hx σr) gs_inc (anm := gs_as []) (fuel := 3000) (us := []) (fun _ h => absurd h List.not_mem_nil) (by decide) (fun p hp => by cases hp) (by decide +kernel)
/-- GravyRound$Table.copyFrom -/
def cx_167 : gt_K := (20, 1, [203, 1435], [], 0, [(99999, 0)])
theorem cy_167 (σr : gp_S) : gt_KC gs_sh gs_wx (gx_X σr) cx_167 := gt_chk_ok gs_hx (gx_hx σr) gs_inc (anm := gs_as []) (fuel := 3000) (us := []) (fun _ h => absurd h List.not_mem_nil) (by decide) (fun p hp => by cases hp) (by decide +kernel)
/-- GravyRound$Table.copyFrom -/
def cx_168 : gt_K := (20, 1, [203, 1467], [], 0, [(99999, 0)])
theorem cy_168 (σr : gp_S) : gt_KC gs_sh gs_wx (gx_X σr) cx_168 := gt_chk_ok gs_hx (gx_hx σr) gs_inc (anm := gs_as []) (fuel := 3000) (us := []) (fun _ h => absurd h List.not_mem_nil) (by decide) (fun p hp => by cases hp) (by decide +kernel)
/-- GravyRound$Table.copyFrom -/
def cx_169 : gt_K := (20, 1, [203, 1499], [], 0, [(99999, 0)])
theorem cy_169 (σr : gp_S) : gt_KC gs_sh gs_wx (gx_X σr) cx_169 := gt_chk_ok gs_hx (gx_hx σr) gs_inc (anm := gs_as []) (fuel := 3000) (us := []) (fun _ h => absurd h List.not_mem_nil) (by decide) (fun p hp => by cases hp) (by decide +kernel)
/-- GravyRound$Table.copyFrom -/
def cx_170 : gt_K := (20, 1, [203, 1531], [], 0, [(99999, 0)])
theorem cy_170 (σr : gp_S) : gt_KC gs_sh gs_wx (gx_X σr) cx_170 := gt_chk_ok gs_hx (gx_hx σr) gs_inc (anm := gs_as []) (fuel := 3000) (us := []) (fun _ h => absurd h List.not_mem_nil) (by decide) (fun p hp => by cases hp) (by decide +kernel)
/-- GravyRound$Table.copyFrom -/
def cx_171 : gt_K := (20, 1, [203, 1563], [], 0, [(99999, 0)])
theorem cy_171 (σr : gp_S) : gt_KC gs_sh gs_wx (gx_X σr) cx_171 := gt_chk_ok gs_hx (gx_hx σr) gs_inc (anm := gs_as []) (fuel := 3000) (us := []) (fun _ h => absurd h List.not_mem_nil) (by decide) (fun p hp => by cases hp) (by decide +kernel)
/-- GravyRound.undo -/
def cx_172 : gt_K := (158, 4, [3], [], 73786976312018075658, [(99999, 0)])
theorem cy_172 (σr : gp_S) : gt_KC gs_sh gs_wx (gx_X σr) cx_172 := gt_chk_ok gs_hx (gx_hx σr) gs_inc (anm := gs_as []) (fuel := 3000) (us := [cx_131, cx_132, cx_133, cx_134, cx_135, cx_136, cx_137, cx_138, cx_139, cx_140, cx_141, cx_142, cx_143, cx_144, cx_145, cx_146, cx_147, cx_148, cx_149, cx_150, cx_151, cx_152, cx_153, cx_154, cx_155, cx_156, cx_157, cx_158, cx_159, cx_160, cx_161, cx_162, cx_163, cx_164, cx_165, cx_166, cx_167, cx_168, cx_169, cx_170, cx_171]) (List.forall_mem_cons.mpr ⟨cy_131 σr, List.forall_mem_cons.mpr ⟨cy_132 σr, List.forall_mem_cons.mpr ⟨cy_133 σr, List.forall_mem_cons.mpr ⟨cy_134 σr, List.forall_mem_cons.mpr ⟨cy_135 σr, List.forall_mem_cons.mpr ⟨cy_136 σr, List.forall_mem_cons.mpr ⟨cy_137 σr, List.forall_mem_cons.mpr ⟨cy_138 σr, List.forall_mem_cons.mpr ⟨cy_139 σr, List.forall_mem_cons.mpr ⟨cy_140 σr, List.forall_mem_cons.mpr ⟨cy_141 σr, List.forall_mem_cons.mpr ⟨cy_142 σr, List.forall_mem_cons.mpr ⟨cy_143 σr, List.forall_mem_cons.mpr ⟨cy_144 σr, List.forall_mem_cons.mpr ⟨cy_145 σr, List.forall_mem_cons.mpr ⟨cy_146 σr, List.forall_mem_cons.mpr ⟨cy_147 σr, List.forall_mem_cons.mpr ⟨cy_148 σr, List.forall_mem_cons.mpr ⟨cy_149 σr, List.forall_mem_cons.mpr ⟨cy_150 σr, List.forall_mem_cons.mpr ⟨cy_151 σr, List.forall_mem_cons.mpr ⟨cy_152 σr, List.forall_mem_cons.mpr ⟨cy_153 σr, List.forall_mem_cons.mpr ⟨cy_154 σr, List.forall_mem_cons.mpr ⟨cy_155 σr, List.forall_mem_cons.mpr ⟨cy_156 σr, List.forall_mem_cons.mpr ⟨cy_157 σr, List.forall_mem_cons.mpr ⟨cy_158 σr, List.forall_mem_cons.mpr ⟨cy_159 σr, List.forall_mem_cons.mpr ⟨cy_160 σr, List.forall_mem_cons.mpr ⟨cy_161 σr, List.forall_mem_cons.mpr ⟨cy_162 σr, List.forall_mem_cons.mpr ⟨cy_163 σr, List.forall_mem_cons.mpr ⟨cy_164 σr, List.forall_mem_cons.mpr ⟨cy_165 σr, List.forall_mem_cons.mpr ⟨cy_166 σr, List.forall_mem_cons.mpr ⟨cy_167 σr, List.forall_mem_cons.mpr ⟨cy_168 σr, List.forall_mem_cons.mpr ⟨cy_169 σr, List.forall_mem_cons.mpr ⟨cy_170 σr, List.forall_mem_cons.mpr ⟨cy_171 σr, fun _ h => absurd h List.not_mem_nil⟩⟩⟩⟩⟩⟩⟩⟩⟩⟩⟩⟩⟩⟩⟩⟩⟩⟩⟩⟩⟩⟩⟩⟩⟩⟩⟩⟩⟩⟩⟩⟩⟩⟩⟩⟩⟩⟩⟩⟩⟩) (by decide) (fun p hp => by cases hp) (by decide +kernel)
/-- GravyRound.redo -/
def cx_173 : gt_K := (155, 4, [3], [], 73786976312018075658, [(99999, 0)])
theorem cy_173 (σr : gp_S) : gt_KC gs_sh gs_wx (gx_X σr) cx_173 := gt_chk_ok gs_hx (gx_hx σr) gs_inc (anm := gs_as []) (fuel := 3000) (us := [cx_131, cx_132, cx_133, cx_134, cx_135, cx_136, cx_137, cx_138, cx_139, cx_140, cx_141, cx_142, cx_143, cx_144, cx_145, cx_146, cx_147, cx_148, cx_149, cx_150, cx_151, cx_152, cx_153, cx_154, cx_155, cx_156, cx_157, cx_158, cx_159, cx_160, cx_161, cx_162, cx_163, cx_164, cx_165, cx_166, cx_167, cx_168, cx_169, cx_170, cx_171]) (List.forall_mem_cons.mpr ⟨cy_131 σr, List.forall_mem_cons.mpr ⟨cy_132 σr, List.forall_mem_cons.mpr ⟨cy_133 σr, List.forall_mem_cons.mpr ⟨cy_134 σr, List.forall_mem_cons.mpr ⟨cy_135 σr, List.forall_mem_cons.mpr ⟨cy_136 σr, List.forall_mem_cons.mpr ⟨cy_137 σr, List.forall_mem_cons.mpr ⟨cy_138 σr, List.forall_mem_cons.mpr ⟨cy_139 σr, List.forall_mem_cons.mpr ⟨cy_140 σr, List.forall_mem_cons.mpr ⟨cy_141 σr, List.forall_mem_cons.mpr ⟨cy_142 σr, List.forall_mem_cons.mpr ⟨cy_143 σr, List.forall_mem_cons.mpr ⟨cy_144 σr, List.forall_mem_cons.mpr ⟨cy_145 σr, List.forall_mem_cons.mpr ⟨cy_146 σr, List.forall_mem_cons.mpr ⟨cy_147 σr, List.forall_mem_cons.mpr ⟨cy_148 σr, List.forall_mem_cons.mpr ⟨cy_149 σr, List.forall_mem_cons.mpr ⟨cy_150 σr, List.forall_mem_cons.mpr ⟨cy_151 σr, List.forall_mem_cons.mpr ⟨cy_152 σr, List.forall_mem_cons.mpr ⟨cy_153 σr, List.forall_mem_cons.mpr ⟨cy_154 σr, List.forall_mem_cons.mpr ⟨cy_155 σr, List.forall_mem_cons.mpr ⟨cy_156 σr, List.forall_mem_cons.mpr ⟨cy_157 σr, List.forall_mem_cons.mpr ⟨cy_158 σr, List.forall_mem_cons.mpr ⟨cy_159 σr, List.forall_mem_cons.mpr ⟨cy_160 σr, List.forall_mem_cons.mpr ⟨cy_161 σr, List.forall_mem_cons.mpr ⟨cy_162 σr, List.forall_mem_cons.mpr ⟨cy_163 σr, List.forall_mem_cons.mpr ⟨cy_164 σr, List.forall_mem_cons.mpr ⟨cy_165 σr, List.forall_mem_cons.mpr ⟨cy_166 σr, List.forall_mem_cons.mpr ⟨cy_167 σr, List.forall_mem_cons.mpr ⟨cy_168 σr, List.forall_mem_cons.mpr ⟨cy_169 σr, List.forall_mem_cons.mpr ⟨cy_170 σr, List.forall_mem_cons.mpr ⟨cy_171 σr, fun _ h => absurd h List.not_mem_nil⟩⟩⟩⟩⟩⟩⟩⟩⟩⟩⟩⟩⟩⟩⟩⟩⟩⟩⟩⟩⟩⟩⟩⟩⟩⟩⟩⟩⟩⟩⟩⟩⟩⟩⟩⟩⟩⟩⟩⟩⟩) (by decide) (fun p hp => by cases hp) (by decide +kernel)
/-- GravyRound.round -/
def cx_174 : gt_K := (153, 5, [3], [], 34359738362, [(99999, 0)])
theorem cy_174 (σr : gp_S) : gt_KC gs_sh gs_wx (gx_X σr) cx_174 := gt_chk_ok gs_hx (gx_hx σr) gs_inc (anm := gs_as []) (fuel := 3000) (us := [cx_125]) (List.forall_mem_cons.mpr ⟨cy_125 σr, fun _ h => absurd h List.not_mem_nil⟩) (by decide) (fun p hp => by cases hp) (by decide +kernel)
/-- GravyRound.stands -/
def cx_175 : gt_K := (151, 5, [3, 34359738362], [], 73786976277658337330, [(99999, 0)])
theorem cy_175 (σr : gp_S) : gt_KC gs_sh gs_wx (gx_X σr) cx_175 := gt_chk_ok gs_hx (gx_hx σr) gs_inc (anm := gs_as [(152, [(12, [(2, 0, 4294967295), (3, 2147483648, 2147483655)], [], [(25, 6), (25, 7)], [], 1, 0)])]) (fuel := 3000) (us := [cx_69]) (List.forall_mem_cons.mpr ⟨cy_69 σr, fun _ h => absurd h List.not_mem_nil⟩) (by decide) (fun p hp => by cases hp) (by decide +kernel)
/-- GravyRound$Table.copyFrom -/
def cx_176 : gt_K := (20, 1, [235, 203], [], 0, [(99999, 0)])
theorem cy_176 (σr : gp_S) : gt_KC gs_sh gs_wx (gx_X σr) cx_176 := gt_chk_ok gs_hx (gx_hx σr) gs_inc (anm := gs_as []) (fuel := 3000) (us := []) (fun _ h => absurd h List.not_mem_nil) (by decide) (fun p hp => by cases hp) (by decide +kernel)
/-- GravyRound$Table.waitAt -/
def cx_177 : gt_K := (63, 3, [235, 73786976346377814074], [], 34359738362, [(99999, 0)])
theorem cy_177 (σr : gp_S) : gt_KC gs_sh gs_wx (gx_X σr) cx_177 := gt_chk_ok gs_hx (gx_hx σr) gs_inc (anm := gs_as [(255, [(5, [(3, 0, 4294967295), (4, 2147483648, 2147483658)], [], [], [], 1, 0)])]) (fuel := 3000) (us := []) (fun _ h => absurd h List.not_mem_nil) (by decide) (fun p hp => by cases hp) (by decide +kernel)
/-- GravyRound$Table.pass -/
def cx_178 : gt_K := (305, 6, [235, 73786976312018075658], [], 73786976277658337330, [(99999, 0)])
theorem cy_178 (σr : gp_S) : gt_KC gs_sh gs_wx (gx_X σr) cx_178 := gt_chk_ok gs_hx (gx_hx σr) gs_inc (anm := gs_as []) (fuel := 3000) (us := [cx_81, cx_177]) (List.forall_mem_cons.mpr ⟨cy_81 σr, List.forall_mem_cons.mpr ⟨cy_177 σr, fun _ h => absurd h List.not_mem_nil⟩⟩) (by decide) (fun p hp => by cases hp) (by decide +kernel)
/-- GravyRound.will -/
def cx_179 : gt_K := (150, 7, [3, 34359738362, 34359738362, 34359738362], [], 34359738362, [(99999, 0)])
theorem cy_179 (σr : gp_S) : gt_KC gs_sh gs_wx (gx_X σr) cx_179 := gt_chk_ok gs_hx (gx_hx σr) gs_inc (anm := gs_as [(150, [(45, [(4, 2147483648, 2147483848), (5, 2147483649, 2147483849)], [], [], [], 1, 0)])]) (fuel := 3000) (us := [cx_176, cx_178]) (List.forall_mem_cons.mpr ⟨cy_176 σr, List.forall_mem_cons.mpr ⟨cy_178 σr, fun _ h => absurd h List.not_mem_nil⟩⟩) (by decide) (fun p hp => by cases hp) (by decide +kernel)
/-- GravyRound$Orders.layCheap -/
def cx_180 : gt_K := (263, 2, [1619, 73786976552536244282, 73786976312018075698, 34359738362, 34359738362], [], 0, [(99999, 0)])
theorem cy_180 (σr : gp_S) : gt_KC gs_sh gs_wx (gx_X σr) cx_180 := gt_chk_ok gs_hx (gx_hx σr) gs_inc (anm := gs_as []) (fuel := 3000) (us := []) (fun _ h => absurd h List.not_mem_nil) (by decide) (fun p hp => by cases hp) (by decide +kernel)
/-- GravyRound$Orders.layCheap -/
def cx_181 : gt_K := (263, 3, [1619, 73786976518176505906, 73786976312018075698, 34359738362, 34359738362], [], 0, [(99999, 0)])
theorem cy_181 (σr : gp_S) : gt_KC gs_sh gs_wx (gx_X σr) cx_181 := gt_chk_ok gs_hx (gx_hx σr) gs_inc (anm := gs_as [(263, [(32, [(5, 2147483648, 2147483655)], [], [(202, 8), (202, 10)], [], 0, 0)])]) (fuel := 3000) (us := [cx_180]) (List.forall_mem_cons.mpr ⟨cy_180 σr, fun _ h => absurd h List.not_mem_nil⟩) (by decide) (fun p hp => by cases hp) (by decide +kernel)
/-- GravyRound$Orders.layCheap -/
def cx_182 : gt_K := (263, 4, [1619, 73786976483816767530, 73786976312018075698, 34359738362, 34359738362], [], 0, [(99999, 0)])
theorem cy_182 (σr : gp_S) : gt_KC gs_sh gs_wx (gx_X σr) cx_182 := gt_chk_ok gs_hx (gx_hx σr) gs_inc (anm := gs_as [(263, [(32, [(5, 2147483648, 2147483655)], [], [(202, 8), (202, 10)], [], 0, 0)])]) (fuel := 3000) (us := [cx_181]) (List.forall_mem_cons.mpr ⟨cy_181 σr, fun _ h => absurd h List.not_mem_nil⟩) (by decide) (fun p hp => by cases hp) (by decide +kernel)
/-- GravyRound$Orders.layCheap -/
def cx_183 : gt_K := (263, 5, [1619, 73786976449457029154, 73786976312018075698, 34359738362, 34359738362], [], 0, [(99999, 0)])
theorem cy_183 (σr : gp_S) : gt_KC gs_sh gs_wx (gx_X σr) cx_183 := gt_chk_ok gs_hx (gx_hx σr) gs_inc (anm := gs_as [(263, [(32, [(5, 2147483648, 2147483655)], [], [(202, 8), (202, 10)], [], 0, 0)])]) (fuel := 3000) (us := [cx_182]) (List.forall_mem_cons.mpr ⟨cy_182 σr, fun _ h => absurd h List.not_mem_nil⟩) (by decide) (fun p hp => by cases hp) (by decide +kernel)
/-- GravyRound$Orders.layCheap -/
def cx_184 : gt_K := (263, 6, [1619, 73786976415097290778, 73786976312018075698, 34359738362, 34359738362], [], 0, [(99999, 0)])
theorem cy_184 (σr : gp_S) : gt_KC gs_sh gs_wx (gx_X σr) cx_184 := gt_chk_ok gs_hx (gx_hx σr) gs_inc (anm := gs_as [(263, [(32, [(5, 2147483648, 2147483655)], [], [(202, 8), (202, 10)], [], 0, 0)])]) (fuel := 3000) (us := [cx_183]) (List.forall_mem_cons.mpr ⟨cy_183 σr, fun _ h => absurd h List.not_mem_nil⟩) (by decide) (fun p hp => by cases hp) (by decide +kernel)
/-- GravyRound$Orders.layCheap -/
def cx_185 : gt_K := (263, 7, [1619, 73786976380737552402, 73786976312018075698, 34359738362, 34359738362], [], 0, [(99999, 0)])
theorem cy_185 (σr : gp_S) : gt_KC gs_sh gs_wx (gx_X σr) cx_185 := gt_chk_ok gs_hx (gx_hx σr) gs_inc (anm := gs_as [(263, [(32, [(5, 2147483648, 2147483655)], [], [(202, 8), (202, 10)], [], 0, 0)])]) (fuel := 3000) (us := [cx_184]) (List.forall_mem_cons.mpr ⟨cy_184 σr, fun _ h => absurd h List.not_mem_nil⟩) (by decide) (fun p hp => by cases hp) (by decide +kernel)
/-- GravyRound$Orders.layCheap -/
def cx_186 : gt_K := (263, 8, [1619, 73786976346377814026, 73786976312018075698, 34359738362, 34359738362], [], 0, [(99999, 0)])
theorem cy_186 (σr : gp_S) : gt_KC gs_sh gs_wx (gx_X σr) cx_186 := gt_chk_ok gs_hx (gx_hx σr) gs_inc (anm := gs_as [(263, [(32, [(5, 2147483648, 2147483655)], [], [(202, 8), (202, 10)], [], 0, 0)])]) (fuel := 3000) (us := [cx_185]) (List.forall_mem_cons.mpr ⟨cy_185 σr, fun _ h => absurd h List.not_mem_nil⟩) (by decide) (fun p hp => by cases hp) (by decide +kernel)
/-- GravyRound$Orders.layCheap -/
def cx_187 : gt_K := (263, 9, [1619, 73786976312018075650, 73786976312018075698, 34359738362, 73786976312018075650], [], 0, [(99999, 0)])
theorem cy_187 (σr : gp_S) : gt_KC gs_sh gs_wx (gx_X σr) cx_187 := gt_chk_ok gs_hx (gx_hx σr) gs_inc (anm := gs_as [(263, [(32, [(5, 2147483648, 2147483655)], [], [(202, 8), (202, 10)], [], 0, 0)])]) (fuel := 3000) (us := [cx_186]) (List.forall_mem_cons.mpr ⟨cy_186 σr, fun _ h => absurd h List.not_mem_nil⟩) (by decide) (fun p hp => by cases hp) (by decide +kernel)
/-- GravyRound$Table.slownessBehind -/
def cx_188 : gt_K := (303, 1, [203], [], 34359738362, [(99999, 0)])
theorem cy_188 (σr : gp_S) : gt_KC gs_sh gs_wx (gx_X σr) cx_188 := gt_chk_ok gs_hx (gx_hx σr) gs_inc (anm := gs_as [(303, [(9, [(1, 0, 4294967295), (2, 2147483649, 2147483656)], [], [], [], 1, 0)])]) (fuel := 3000) (us := []) (fun _ h => absurd h List.not_mem_nil) (by decide) (fun p hp => by cases hp) (by decide +kernel)
