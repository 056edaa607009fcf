/-! the class's contracts, checked by the kernel -/
/-- GravyRound.soonest -/
def cx_189 : gt_K := (148, 11, [3], [], 34359738362, [(99999, 0)])
theorem cy_189 (σr : gp_S) : gt_KC gs_sh gs_wx (gx_X σr) cx_189 := gt_chk_ok gs_hx (gx_hx σr) gs_inc (anm := gs_as [(186, [(2, [(1, 2147483648, 2147483655)], [], [], [], 0, 0)]), (255, [(5, [(3, 0, 4294967295), (4, 2147483648, 2147483658)], [], [], [], 1, 0)]), (262, [(40, [(2, 2147483649, 2147483655)], [], [(202, 6)], [], 0, 0), (76, [(2, 2147483648, 2147483655)], [], [], [], 0, 0)])]) (fuel := 3000) (us := [cx_187, cx_188]) (List.forall_mem_cons.mpr ⟨cy_187 σr, List.forall_mem_cons.mpr ⟨cy_188 σr, fun _ h => absurd h List.not_mem_nil⟩⟩) (by decide) (fun p hp => by cases hp) (by decide +kernel)
/-- GravyRound$Orders.cooledFor -/
def cx_190 : gt_K := (267, 5, [1619, 34359738362, 34359738362, 34359738362, 34359738362, 73786976312018075810], [], 34359738362, [(99999, 0)])
theorem cy_190 (σr : gp_S) : gt_KC gs_sh gs_wx (gx_X σr) cx_190 := gt_chk_ok gs_hx (gx_hx σr) gs_inc (anm := gs_as [(267, [(6, [(6, 0, 4294967295), (7, 2147483648, 4294967295)], [], [], [], 1, 0)])]) (fuel := 3000) (us := [cx_81]) (List.forall_mem_cons.mpr ⟨cy_81 σr, fun _ h => absurd h List.not_mem_nil⟩) (by decide) (fun p hp => by cases hp) (by decide +kernel)
/-- GravyRound$Orders.layWarm -/
def cx_191 : gt_K := (264, 2, [1619, 73786976552536244282, 73786976312018075698, 34359738362, 34359738362], [], 0, [(99999, 0)])
theorem cy_191 (σr : gp_S) : gt_KC gs_sh gs_wx (gx_X σr) cx_191 := gt_chk_ok gs_hx (gx_hx σr) gs_inc (anm := gs_as []) (fuel := 3000) (us := []) (fun _ h => absurd h List.not_mem_nil) (by decide) (fun p hp => by cases hp) (by decide +kernel)
/-- GravyRound$Orders.layWarm -/
def cx_192 : gt_K := (264, 6, [1619, 73786976518176505906, 73786976312018075698, 34359738362, 34359738362], [], 0, [(99999, 0)])
theorem cy_192 (σr : gp_S) : gt_KC gs_sh gs_wx (gx_X σr) cx_192 := gt_chk_ok gs_hx (gx_hx σr) gs_inc (anm := gs_as [(264, [(40, [(5, 2147483648, 2147483655)], [], [(202, 8), (202, 10), (205, 6)], [], 0, 0)])]) (fuel := 3000) (us := [cx_190, cx_191]) (List.forall_mem_cons.mpr ⟨cy_190 σr, List.forall_mem_cons.mpr ⟨cy_191 σr, fun _ h => absurd h List.not_mem_nil⟩⟩) (by decide) (fun p hp => by cases hp) (by decide +kernel)
/-- GravyRound$Orders.layWarm -/
def cx_193 : gt_K := (264, 7, [1619, 73786976483816767530, 73786976312018075698, 34359738362, 34359738362], [], 0, [(99999, 0)])
theorem cy_193 (σr : gp_S) : gt_KC gs_sh gs_wx (gx_X σr) cx_193 := gt_chk_ok gs_hx (gx_hx σr) gs_inc (anm := gs_as [(264, [(40, [(5, 2147483648, 2147483655)], [], [(202, 8), (202, 10), (205, 5)], [], 0, 0)])]) (fuel := 3000) (us := [cx_190, cx_192]) (List.forall_mem_cons.mpr ⟨cy_190 σr, List.forall_mem_cons.mpr ⟨cy_192 σr, fun _ h => absurd h List.not_mem_nil⟩⟩) (by decide) (fun p hp => by cases hp) (by decide +kernel)
/-- GravyRound$Orders.layWarm -/
def cx_194 : gt_K := (264, 8, [1619, 73786976449457029154, 73786976312018075698, 34359738362, 34359738362], [], 0, [(99999, 0)])
theorem cy_194 (σr : gp_S) : gt_KC gs_sh gs_wx (gx_X σr) cx_194 := gt_chk_ok gs_hx (gx_hx σr) gs_inc (anm := gs_as [(264, [(40, [(5, 2147483648, 2147483655)], [], [(202, 8), (202, 10), (205, 4)], [], 0, 0)])]) (fuel := 3000) (us := [cx_190, cx_193]) (List.forall_mem_cons.mpr ⟨cy_190 σr, List.forall_mem_cons.mpr ⟨cy_193 σr, fun _ h => absurd h List.not_mem_nil⟩⟩) (by decide) (fun p hp => by cases hp) (by decide +kernel)
/-- GravyRound$Orders.layWarm -/
def cx_195 : gt_K := (264, 9, [1619, 73786976415097290778, 73786976312018075698, 34359738362, 34359738362], [], 0, [(99999, 0)])
theorem cy_195 (σr : gp_S) : gt_KC gs_sh gs_wx (gx_X σr) cx_195 := gt_chk_ok gs_hx (gx_hx σr) gs_inc (anm := gs_as [(264, [(40, [(5, 2147483648, 2147483655)], [], [(202, 8), (202, 10), (205, 3)], [], 0, 0)])]) (fuel := 3000) (us := [cx_190, cx_194]) (List.forall_mem_cons.mpr ⟨cy_190 σr, List.forall_mem_cons.mpr ⟨cy_194 σr, fun _ h => absurd h List.not_mem_nil⟩⟩) (by decide) (fun p hp => by cases hp) (by decide +kernel)
/-- GravyRound$Orders.layWarm -/
def cx_196 : gt_K := (264, 10, [1619, 73786976380737552402, 73786976312018075698, 34359738362, 34359738362], [], 0, [(99999, 0)])
theorem cy_196 (σr : gp_S) : gt_KC gs_sh gs_wx (gx_X σr) cx_196 := gt_chk_ok gs_hx (gx_hx σr) gs_inc (anm := gs_as [(264, [(40, [(5, 2147483648, 2147483655)], [], [(202, 8), (202, 10), (205, 2)], [], 0, 0)])]) (fuel := 3000) (us := [cx_190, cx_195]) (List.forall_mem_cons.mpr ⟨cy_190 σr, List.forall_mem_cons.mpr ⟨cy_195 σr, fun _ h => absurd h List.not_mem_nil⟩⟩) (by decide) (fun p hp => by cases hp) (by decide +kernel)
/-- GravyRound$Orders.layWarm -/
def cx_197 : gt_K := (264, 11, [1619, 73786976346377814026, 73786976312018075698, 34359738362, 34359738362], [], 0, [(99999, 0)])
theorem cy_197 (σr : gp_S) : gt_KC gs_sh gs_wx (gx_X σr) cx_197 := gt_chk_ok gs_hx (gx_hx σr) gs_inc (anm := gs_as [(264, [(40, [(5, 2147483648, 2147483655)], [], [(202, 8), (202, 10), (205, 1)], [], 0, 0)])]) (fuel := 3000) (us := [cx_190, cx_196]) (List.forall_mem_cons.mpr ⟨cy_190 σr, List.forall_mem_cons.mpr ⟨cy_196 σr, fun _ h => absurd h List.not_mem_nil⟩⟩) (by decide) (fun p hp => by cases hp) (by decide +kernel)
/-- GravyRound$Orders.layWarm -/
def cx_198 : gt_K := (264, 12, [1619, 73786976312018075650, 73786976312018075698, 34359738362, 34359738362], [], 0, [(99999, 0)])
theorem cy_198 (σr : gp_S) : gt_KC gs_sh gs_wx (gx_X σr) cx_198 := gt_chk_ok gs_hx (gx_hx σr) gs_inc (anm := gs_as [(264, [(40, [(5, 2147483648, 2147483655)], [], [(202, 8), (202, 10), (205, 0)], [], 0, 0)])]) (fuel := 3000) (us := [cx_190, cx_197]) (List.forall_mem_cons.mpr ⟨cy_190 σr, List.forall_mem_cons.mpr ⟨cy_197 σr, fun _ h => absurd h List.not_mem_nil⟩⟩) (by decide) (fun p hp => by cases hp) (by decide +kernel)
/-- GravyRound.warmest -/
def cx_199 : gt_K := (146, 14, [3], [], 34359738362, [(99999, 0)])
theorem cy_199 (σr : gp_S) : gt_KC gs_sh gs_wx (gx_X σr) cx_199 := gt_chk_ok gs_hx (gx_hx σr) gs_inc (anm := gs_as [(186, [(2, [(1, 2147483648, 2147483655)], [], [], [], 0, 0)]), (255, [(5, [(3, 0, 4294967295), (4, 2147483648, 2147483658)], [], [], [], 1, 0)]), (262, [(40, [(2, 2147483649, 2147483655)], [], [(202, 6)], [], 0, 0), (76, [(2, 2147483648, 2147483655)], [], [], [], 0, 0)])]) (fuel := 3000) (us := [cx_190, cx_198]) (List.forall_mem_cons.mpr ⟨cy_190 σr, List.forall_mem_cons.mpr ⟨cy_198 σr, fun _ h => absurd h List.not_mem_nil⟩⟩) (by decide) (fun p hp => by cases hp) (by decide +kernel)
/-- GravyRound.peace -/
def cx_200 : gt_K := (144, 11, [3], [], 34359738362, [(99999, 0)])
theorem cy_200 (σr : gp_S) : gt_KC gs_sh gs_wx (gx_X σr) cx_200 := gt_chk_ok gs_hx (gx_hx σr) gs_inc (anm := gs_as [(255, [(5, [(3, 0, 4294967295), (4, 2147483648, 2147483658)], [], [], [], 1, 0)]), (262, [(40, [(2, 2147483649, 2147483655)], [], [(202, 6)], [], 0, 0), (76, [(2, 2147483648, 2147483655)], [], [], [], 0, 0)])]) (fuel := 3000) (us := [cx_187]) (List.forall_mem_cons.mpr ⟨cy_187 σr, fun _ h => absurd h List.not_mem_nil⟩) (by decide) (fun p hp => by cases hp) (by decide +kernel)
/-- GravyRound.liesOnTheWay -/
def cx_201 : gt_K := (185, 2, [3, 73786976312018075722], [], 73786976312018075658, [(99999, 0)])
theorem cy_201 (σr : gp_S) : gt_KC gs_sh gs_wx (gx_X σr) cx_201 := gt_chk_ok gs_hx (gx_hx σr) gs_inc (anm := gs_as [(299, [(2, [(2, 2147483648, 2147483655)], [], [], [], 0, 0)])]) (fuel := 3000) (us := []) (fun _ h => absurd h List.not_mem_nil) (by decide) (fun p hp => by cases hp) (by decide +kernel)
/-- GravyRound.treaty -/
def cx_202 : gt_K := (143, 5, [3, 34359738362, 34359738362], [], 73786976294838206458, [(99999, 0)])
theorem cy_202 (σr : gp_S) : gt_KC gs_sh gs_wx (gx_X σr) cx_202 := gt_chk_ok gs_hx (gx_hx σr) gs_inc (anm := gs_as [(143, [(38, [(3, 0, 4294967295), (4, 2147483648, 4294967295), (5, 2147483648, 2147483658)], [], [], [], 2, 0)])]) (fuel := 3000) (us := [cx_125, cx_201]) (List.forall_mem_cons.mpr ⟨cy_125 σr, List.forall_mem_cons.mpr ⟨cy_201 σr, fun _ h => absurd h List.not_mem_nil⟩⟩) (by decide) (fun p hp => by cases hp) (by decide +kernel)
/-- GravyRound$Company.look -/
def cx_203 : gt_K := (50, 3, [1707, 203], [], 0, [(99999, 0)])
theorem cy_203 (σr : gp_S) : gt_KC gs_sh gs_wx (gx_X σr) cx_203 := gt_chk_ok gs_hx (gx_hx σr) gs_inc (anm := gs_as [(50, [(13, [(2, 2147483648, 2147483655)], [], [], [], 0, 0)]), (255, [(5, [(3, 0, 4294967295), (4, 2147483648, 2147483658)], [], [], [], 1, 0)])]) (fuel := 3000) (us := []) (fun _ h => absurd h List.not_mem_nil) (by decide) (fun p hp => by cases hp) (by decide +kernel)
/-- GravyRound$Company.allSpeakWithout -/
def cx_204 : gt_K := (249, 1, [1707, 73786976312018076674], [], 73786976312018075658, [(99999, 0)])
theorem cy_204 (σr : gp_S) : gt_KC gs_sh gs_wx (gx_X σr) cx_204 := gt_chk_ok gs_hx (gx_hx σr) gs_inc (anm := gs_as [(249, [(2, [(2, 2147483648, 2147483655)], [], [], [], 0, 0)])]) (fuel := 3000) (us := []) (fun _ h => absurd h List.not_mem_nil) (by decide) (fun p hp => by cases hp) (by decide +kernel)
/-- GravyRound.leave -/
def cx_205 : gt_K := (141, 4, [3, 34359738362], [], 73786976277658338298, [(99999, 0)])
theorem cy_205 (σr : gp_S) : gt_KC gs_sh gs_wx (gx_X σr) cx_205 := gt_chk_ok gs_hx (gx_hx σr) gs_inc (anm := gs_as [(142, [(13, [(2, 2147483648, 2147483775), (3, 2147483648, 2147483776)], [], [(213, 1)], [], 1, 0)])]) (fuel := 3000) (us := [cx_203, cx_204]) (List.forall_mem_cons.mpr ⟨cy_203 σr, List.forall_mem_cons.mpr ⟨cy_204 σr, fun _ h => absurd h List.not_mem_nil⟩⟩) (by decide) (fun p hp => by cases hp) (by decide +kernel)
/-- GravyRound$Company.canSit -/
def cx_206 : gt_K := (138, 1, [1707, 73786976552536244282, 73786976346377814074], [], 73786976346377814026, [(99999, 0)])
theorem cy_206 (σr : gp_S) : gt_KC gs_sh gs_wx (gx_X σr) cx_206 := gt_chk_ok gs_hx (gx_hx σr) gs_inc (anm := gs_as []) (fuel := 3000) (us := []) (fun _ h => absurd h List.not_mem_nil) (by decide) (fun p hp => by cases hp) (by decide +kernel)
/-- GravyRound$Company.canSit -/
def cx_207 : gt_K := (138, 2, [1707, 73786976518176505906, 73786976346377814074], [], 73786976312018075658, [(99999, 0)])
theorem cy_207 (σr : gp_S) : gt_KC gs_sh gs_wx (gx_X σr) cx_207 := gt_chk_ok gs_hx (gx_hx σr) gs_inc (anm := gs_as [(138, [(12, [(3, 2147483648, 2147483655)], [], [], [], 0, 0)]), (250, [(2, [(2, 2147483648, 2147483654)], [], [], [], 0, 0)])]) (fuel := 3000) (us := [cx_206]) (List.forall_mem_cons.mpr ⟨cy_206 σr, fun _ h => absurd h List.not_mem_nil⟩) (by decide) (fun p hp => by cases hp) (by decide +kernel)
/-- GravyRound$Company.canSit -/
def cx_208 : gt_K := (138, 3, [1707, 73786976483816767530, 73786976346377814074], [], 73786976312018075658, [(99999, 0)])
theorem cy_208 (σr : gp_S) : gt_KC gs_sh gs_wx (gx_X σr) cx_208 := gt_chk_ok gs_hx (gx_hx σr) gs_inc (anm := gs_as [(138, [(12, [(3, 2147483648, 2147483655)], [], [(213, 1)], [], 0, 0)]), (250, [(2, [(2, 2147483648, 2147483654)], [], [], [], 0, 0)])]) (fuel := 3000) (us := [cx_207]) (List.forall_mem_cons.mpr ⟨cy_207 σr, fun _ h => absurd h List.not_mem_nil⟩) (by decide) (fun p hp => by cases hp) (by decide +kernel)
/-- GravyRound$Company.canSit -/
def cx_209 : gt_K := (138, 4, [1707, 73786976449457029154, 73786976346377814074], [], 73786976312018075658, [(99999, 0)])
theorem cy_209 (σr : gp_S) : gt_KC gs_sh gs_wx (gx_X σr) cx_209 := gt_chk_ok gs_hx (gx_hx σr) gs_inc (anm := gs_as [(138, [(12, [(3, 2147483648, 2147483655)], [], [(213, 1)], [], 0, 0)]), (250, [(2, [(2, 2147483648, 2147483654)], [], [], [], 0, 0)])]) (fuel := 3000) (us := [cx_208]) (List.forall_mem_cons.mpr ⟨cy_208 σr, fun _ h => absurd h List.not_mem_nil⟩) (by decide) (fun p hp => by cases hp) (by decide +kernel)
/-- GravyRound$Company.canSit -/
def cx_210 : gt_K := (138, 5, [1707, 73786976415097290778, 73786976346377814074], [], 73786976312018075658, [(99999, 0)])
theorem cy_210 (σr : gp_S) : gt_KC gs_sh gs_wx (gx_X σr) cx_210 := gt_chk_ok gs_hx (gx_hx σr) gs_inc (anm := gs_as [(138, [(12, [(3, 2147483648, 2147483655)], [], [(213, 1)], [], 0, 0)]), (250, [(2, [(2, 2147483648, 2147483654)], [], [], [], 0, 0)])]) (fuel := 3000) (us := [cx_209]) (List.forall_mem_cons.mpr ⟨cy_209 σr, fun _ h => absurd h List.not_mem_nil⟩) (by decide) (fun p hp => by cases hp) (by decide +kernel)
/-- GravyRound$Company.canSit -/
def cx_211 : gt_K := (138, 6, [1707, 73786976380737552402, 73786976346377814074], [], 73786976312018075658, [(99999, 0)])
theorem cy_211 (σr : gp_S) : gt_KC gs_sh gs_wx (gx_X σr) cx_211 := gt_chk_ok gs_hx (gx_hx σr) gs_inc (anm := gs_as [(138, [(12, [(3, 2147483648, 2147483655)], [], [(213, 1)], [], 0, 0)]), (250, [(2, [(2, 2147483648, 2147483650)], [], [], [], 0, 0)])]) (fuel := 3000) (us := [cx_210]) (List.forall_mem_cons.mpr ⟨cy_210 σr, fun _ h => absurd h List.not_mem_nil⟩) (by decide) (fun p hp => by cases hp) (by decide +kernel)
/-- GravyRound$Company.canSit -/
def cx_212 : gt_K := (138, 7, [1707, 73786976346377814026, 73786976346377814074], [], 73786976312018075658, [(99999, 0)])
theorem cy_212 (σr : gp_S) : gt_KC gs_sh gs_wx (gx_X σr) cx_212 := gt_chk_ok gs_hx (gx_hx σr) gs_inc (anm := gs_as [(138, [(12, [(3, 2147483648, 2147483655)], [], [(213, 1)], [], 0, 0)]), (250, [(2, [(2, 2147483648, 2147483649)], [], [], [], 0, 0)])]) (fuel := 3000) (us := [cx_211]) (List.forall_mem_cons.mpr ⟨cy_211 σr, fun _ h => absurd h List.not_mem_nil⟩) (by decide) (fun p hp => by cases hp) (by decide +kernel)
/-- GravyRound$Company.canSit -/
def cx_213 : gt_K := (138, 8, [1707, 73786976312018075650, 73786976312018075706], [], 73786976312018075658, [(99999, 0)])
theorem cy_213 (σr : gp_S) : gt_KC gs_sh gs_wx (gx_X σr) cx_213 := gt_chk_ok gs_hx (gx_hx σr) gs_inc (anm := gs_as [(138, [(12, [(3, 2147483648, 2147483655)], [], [(213, 1)], [], 0, 0)])]) (fuel := 3000) (us := [cx_212]) (List.forall_mem_cons.mpr ⟨cy_212 σr, fun _ h => absurd h List.not_mem_nil⟩) (by decide) (fun p hp => by cases hp) (by decide +kernel)
/-- GravyRound.tables -/
def cx_214 : gt_K := (136, 10, [3], [], 73786976312018075706, [(99999, 0)])
theorem cy_214 (σr : gp_S) : gt_KC gs_sh gs_wx (gx_X σr) cx_214 := gt_chk_ok gs_hx (gx_hx σr) gs_inc (anm := gs_as [(136, [(28, [(2, 2147483648, 2147483655)], [], [(200, 1)], [], 0, 0)]), (137, [(2, [(1, 2147483648, 2147483655)], [], [], [], 0, 0)])]) (fuel := 3000) (us := [cx_203, cx_213]) (List.forall_mem_cons.mpr ⟨cy_203 σr, List.forall_mem_cons.mpr ⟨cy_213 σr, fun _ h => absurd h List.not_mem_nil⟩⟩) (by decide) (fun p hp => by cases hp) (by decide +kernel)
/-- GravyRound$Shares.hand -/
def cx_215 : gt_K := (73, 2, [1667, 203], [], 34359738362, [(99999, 0)])
theorem cy_215 (σr : gp_S) : gt_KC gs_sh gs_wx (gx_X σr) cx_215 := gt_chk_ok gs_hx (gx_hx σr) gs_inc (anm := gs_as [(73, [(10, [(2, 0, 4294967295), (3, 0, 4294967295), (4, 2147483648, 2147483655)], [], [], [], 2, 0)])]) (fuel := 3000) (us := []) (fun _ h => absurd h List.not_mem_nil) (by decide) (fun p hp => by cases hp) (by decide +kernel)
/-- GravyRound$Shares.takeAtMost -/
def cx_216 : gt_K := (72, 2, [1667, 203, 73786976312018075810], [], 0, [(99999, 0)])
theorem cy_216 (σr : gp_S) : gt_KC gs_sh gs_wx (gx_X σr) cx_216 := gt_chk_ok gs_hx (gx_hx σr) gs_inc (anm := gs_as [(72, [(2, [(3, 2147483648, 2147483655)], [], [], [], 0, 0)])]) (fuel := 3000) (us := []) (fun _ h => absurd h List.not_mem_nil) (by decide) (fun p hp => by cases hp) (by decide +kernel)
/-- GravyRound.limit -/
def cx_217 : gt_K := (134, 3, [3], [], 73786976277658337442, [(99999, 0)])
theorem cy_217 (σr : gp_S) : gt_KC gs_sh gs_wx (gx_X σr) cx_217 := gt_chk_ok gs_hx (gx_hx σr) gs_inc (anm := gs_as [(134, [(15, [(1, 2147483647, 2147483668)], [], [(2, 0), (25, 6)], [], 0, 1)])]) (fuel := 3000) (us := [cx_215, cx_216]) (List.forall_mem_cons.mpr ⟨cy_215 σr, List.forall_mem_cons.mpr ⟨cy_216 σr, fun _ h => absurd h List.not_mem_nil⟩⟩) (by decide) (fun p hp => by cases hp) (by decide +kernel)
/-- GravyRound$Table.minutesToGo -/
def cx_218 : gt_K := (79, 4, [235], [], 34359738362, [(99999, 0)])
theorem cy_218 (σr : gp_S) : gt_KC gs_sh gs_wx (gx_X σr) cx_218 := gt_chk_ok gs_hx (gx_hx σr) gs_inc (anm := gs_as [(79, [(12, [(1, 0, 4294967295), (2, 2147483649, 2147483656)], [], [(29, 6), (29, 7)], [], 1, 0)])]) (fuel := 3000) (us := [cx_177]) (List.forall_mem_cons.mpr ⟨cy_177 σr, fun _ h => absurd h List.not_mem_nil⟩) (by decide) (fun p hp => by cases hp) (by decide +kernel)
/-- GravyRound.best -/
def cx_219 : gt_K := (133, 5, [3, 34359738362, 34359738362], [], 34359738362, [(99999, 0)])
theorem cy_219 (σr : gp_S) : gt_KC gs_sh gs_wx (gx_X σr) cx_219 := gt_chk_ok gs_hx (gx_hx σr) gs_inc (anm := gs_as [(133, [(56, [(4, 2147483647, 2147483654), (5, 0, 4294967295), (6, 2147483649, 2147483656)], [], [(25, 6)], [], 2, 0)]), (299, [(2, [(2, 2147483648, 2147483655)], [], [], [], 0, 0)])]) (fuel := 3000) (us := [cx_176, cx_218]) (List.forall_mem_cons.mpr ⟨cy_176 σr, List.forall_mem_cons.mpr ⟨cy_218 σr, fun _ h => absurd h List.not_mem_nil⟩⟩) (by decide) (fun p hp => by cases hp) (by decide +kernel)
/-- GravyRound.skin -/
def cx_220 : gt_K := (132, 8, [3, 34359738362], [], 73786976277658338882, [(99999, 0)])
theorem cy_220 (σr : gp_S) : gt_KC gs_sh gs_wx (gx_X σr) cx_220 := gt_chk_ok gs_hx (gx_hx σr) gs_inc (anm := gs_as [(132, [(25, [(2, 2147483648, 2147483849)], [], [], [], 0, 0)])]) (fuel := 3000) (us := [cx_81, cx_176, cx_178]) (List.forall_mem_cons.mpr ⟨cy_81 σr, List.forall_mem_cons.mpr ⟨cy_176 σr, List.forall_mem_cons.mpr ⟨cy_178 σr, fun _ h => absurd h List.not_mem_nil⟩⟩⟩) (by decide) (fun p hp => by cases hp) (by decide +kernel)
/-- GravyRound.greed -/
def cx_221 : gt_K := (130, 5, [3, 34359738362, 34359738362], [], 34359738362, [(99999, 0)])
theorem cy_221 (σr : gp_S) : gt_KC gs_sh gs_wx (gx_X σr) cx_221 := gt_chk_ok gs_hx (gx_hx σr) gs_inc (anm := gs_as [(291, [(13, [(4, 0, 4294967295), (5, 2147483648, 2147483654)], [], [], [], 1, 0), (23, [(4, 0, 4294967295), (6, 2147483648, 2147483654)], [], [], [], 1, 0)]), (292, [(10, [(4, 2147483648, 2147483654)], [], [], [], 0, 0), (20, [(5, 2147483648, 2147483654)], [], [], [], 0, 0)]), (293, [(10, [(4, 2147483648, 2147483654)], [], [], [], 0, 0)]), (299, [(2, [(2, 2147483648, 2147483655)], [], [], [], 0, 0)])]) (fuel := 3000) (us := [cx_215, cx_216]) (List.forall_mem_cons.mpr ⟨cy_215 σr, List.forall_mem_cons.mpr ⟨cy_216 σr, fun _ h => absurd h List.not_mem_nil⟩⟩) (by decide) (fun p hp => by cases hp) (by decide +kernel)
/-- GravyRound.clan -/
def cx_222 : gt_K := (129, 4, [3, 34359738362], [], 73786976294838206458, [(99999, 0)])
theorem cy_222 (σr : gp_S) : gt_KC gs_sh gs_wx (gx_X σr) cx_222 := gt_chk_ok gs_hx (gx_hx σr) gs_inc (anm := gs_as [(251, [(16, [(3, 2147483648, 4294967295), (4, 2147483648, 2147483655)], [], [], [], 1, 0), (28, [(3, 2147483648, 4294967295), (5, 2147483648, 2147483655)], [], [], [], 1, 0)])]) (fuel := 3000) (us := [cx_203]) (List.forall_mem_cons.mpr ⟨cy_203 σr, fun _ h => absurd h List.not_mem_nil⟩) (by decide) (fun p hp => by cases hp) (by decide +kernel)
/-- GravyRound.clans -/
def cx_223 : gt_K := (126, 4, [3], [], 34359738362, [(99999, 0)])
theorem cy_223 (σr : gp_S) : gt_KC gs_sh gs_wx (gx_X σr) cx_223 := gt_chk_ok gs_hx (gx_hx σr) gs_inc (anm := gs_as [(127, [(4, [(1, 0, 4294967295), (2, 2147483648, 2147483655)], [], [], [], 1, 0)]), (251, [(16, [(3, 2147483648, 4294967295), (4, 2147483648, 2147483655)], [], [], [], 1, 0), (28, [(3, 2147483648, 4294967295), (5, 2147483648, 2147483655)], [], [], [], 1, 0)])]) (fuel := 3000) (us := [cx_203]) (List.forall_mem_cons.mpr ⟨cy_203 σr, fun _ h => absurd h List.not_mem_nil⟩) (by decide) (fun p hp => by cases hp) (by decide +kernel)
/-- GravyRound.blame -/
def cx_224 : gt_K := (125, 3, [3, 34359738362], [], 34359738362, [(99999, 0)])
theorem cy_224 (σr : gp_S) : gt_KC gs_sh gs_wx (gx_X σr) cx_224 := gt_chk_ok gs_hx (gx_hx σr) gs_inc (anm := gs_as []) (fuel := 3000) (us := [cx_201]) (List.forall_mem_cons.mpr ⟨cy_201 σr, fun _ h => absurd h List.not_mem_nil⟩) (by decide) (fun p hp => by cases hp) (by decide +kernel)
/-- GravyRound.sourest -/
def cx_225 : gt_K := (123, 3, [3], [], 73786976277658337330, [(99999, 0)])
theorem cy_225 (σr : gp_S) : gt_KC gs_sh gs_wx (gx_X σr) cx_225 := gt_chk_ok gs_hx (gx_hx σr) gs_inc (anm := gs_as [(123, [(6, [(1, 2147483647, 2147483654), (2, 2147483647, 2147483712), (3, 2147483648, 2147483655)], [], [], [], 2, 0)]), (255, [(5, [(3, 0, 4294967295), (4, 2147483648, 2147483658)], [], [], [], 1, 0)])]) (fuel := 3000) (us := []) (fun _ h => absurd h List.not_mem_nil) (by decide) (fun p hp => by cases hp) (by decide +kernel)
/-- GravyRound.luckiest -/
def cx_226 : gt_K := (121, 3, [3], [], 73786976277658337330, [(99999, 0)])
theorem cy_226 (σr : gp_S) : gt_KC gs_sh gs_wx (gx_X σr) cx_226 := gt_chk_ok gs_hx (gx_hx σr) gs_inc (anm := gs_as [(121, [(6, [(1, 2147483647, 2147483654), (2, 0, 4294967295), (3, 2147483648, 2147483655)], [], [], [], 2, 0)]), (299, [(2, [(2, 2147483648, 2147483655)], [], [], [], 0, 0)])]) (fuel := 3000) (us := []) (fun _ h => absurd h List.not_mem_nil) (by decide) (fun p hp => by cases hp) (by decide +kernel)
/-- GravyRound.lacking -/
def cx_227 : gt_K := (119, 4, [3], [], 34359738362, [(99999, 0)])
theorem cy_227 (σr : gp_S) : gt_KC gs_sh gs_wx (gx_X σr) cx_227 := gt_chk_ok gs_hx (gx_hx σr) gs_inc (anm := gs_as [(119, [(8, [(1, 0, 4294967295), (2, 2147483648, 2147483655)], [], [], [], 1, 0)])]) (fuel := 3000) (us := [cx_215, cx_216]) (List.forall_mem_cons.mpr ⟨cy_215 σr, List.forall_mem_cons.mpr ⟨cy_216 σr, fun _ h => absurd h List.not_mem_nil⟩⟩) (by decide) (fun p hp => by cases hp) (by decide +kernel)
/-- GravyRound.hungry -/
def cx_228 : gt_K := (117, 4, [3], [], 73786976329197944826, [(99999, 0)])
theorem cy_228 (σr : gp_S) : gt_KC gs_sh gs_wx (gx_X σr) cx_228 := gt_chk_ok gs_hx (gx_hx σr) gs_inc (anm := gs_as [(117, [(8, [(1, 2147483648, 4294967295), (2, 2147483648, 2147483655)], [], [], [], 1, 0)])]) (fuel := 3000) (us := [cx_215, cx_216]) (List.forall_mem_cons.mpr ⟨cy_215 σr, List.forall_mem_cons.mpr ⟨cy_216 σr, fun _ h => absurd h List.not_mem_nil⟩⟩) (by decide) (fun p hp => by cases hp) (by decide +kernel)
/-- GravyRound.slowest -/
def cx_229 : gt_K := (116, 4, [3, 34359738362], [], 73786976294838206458, [(99999, 0)])
theorem cy_229 (σr : gp_S) : gt_KC gs_sh gs_wx (gx_X σr) cx_229 := gt_chk_ok gs_hx (gx_hx σr) gs_inc (anm := gs_as [(116, [(26, [(2, 2147483647, 2147483654), (3, 2147483647, 4294967295), (4, 2147483649, 2147483656)], [], [(25, 6)], [], 2, 0)])]) (fuel := 3000) (us := [cx_69]) (List.forall_mem_cons.mpr ⟨cy_69 σr, fun _ h => absurd h List.not_mem_nil⟩) (by decide) (fun p hp => by cases hp) (by decide +kernel)
/-- GravyRound.law -/
def cx_230 : gt_K := (115, 5, [3, 34359738362], [], 34359738362, [(99999, 0)])
theorem cy_230 (σr : gp_S) : gt_KC gs_sh gs_wx (gx_X σr) cx_230 := gt_chk_ok gs_hx (gx_hx σr) gs_inc (anm := gs_as []) (fuel := 3000) (us := [cx_125, cx_188]) (List.forall_mem_cons.mpr ⟨cy_125 σr, List.forall_mem_cons.mpr ⟨cy_188 σr, fun _ h => absurd h List.not_mem_nil⟩⟩) (by decide) (fun p hp => by cases hp) (by decide +kernel)
/-- GravyRound.odds -/
def cx_231 : gt_K := (113, 2, [3, 34359738362, 34359738362], [], 34359738362, [(99999, 0)])
theorem cy_231 (σr : gp_S) : gt_KC gs_sh gs_wx (gx_X σr) cx_231 := gt_chk_ok gs_hx (gx_hx σr) gs_inc (anm := gs_as [(113, [(64, [(6, 0, 4294967295), (7, 2147483648, 2147483654)], [], [], [], 1, 0)]), (114, [(7, [(2, 0, 4294967295), (3, 0, 4294967295), (4, 2147483648, 2147483712)], [], [], [], 2, 0)])]) (fuel := 3000) (us := []) (fun _ h => absurd h List.not_mem_nil) (by decide) (fun p hp => by cases hp) (by decide +kernel)
/-- GravyRound.lies -/
def cx_232 : gt_K := (112, 1, [3, 34359738362], [], 34359738362, [(99999, 0)])
theorem cy_232 (σr : gp_S) : gt_KC gs_sh gs_wx (gx_X σr) cx_232 := gt_chk_ok gs_hx (gx_hx σr) gs_inc (anm := gs_as []) (fuel := 3000) (us := []) (fun _ h => absurd h List.not_mem_nil) (by decide) (fun p hp => by cases hp) (by decide +kernel)
/-- GravyRound.seen -/
def cx_233 : gt_K := (48, 2, [3, 34359738362, 34359738362, 73786976312018075658], [], 73786976277658337514, [(99999, 0)])
theorem cy_233 (σr : gp_S) : gt_KC gs_sh gs_wx (gx_X σr) cx_233 := gt_chk_ok gs_hx (gx_hx σr) gs_inc (anm := gs_as []) (fuel := 3000) (us := []) (fun _ h => absurd h List.not_mem_nil) (by decide) (fun p hp => by cases hp) (by decide +kernel)
/-- GravyRound.untell -/
def cx_234 : gt_K := (110, 2, [3, 34359738362], [], 73786976312018075658, [(99999, 0)])
theorem cy_234 (σr : gp_S) : gt_KC gs_sh gs_wx (gx_X σr) cx_234 := gt_chk_ok gs_hx (gx_hx σr) gs_inc (anm := gs_as []) (fuel := 3000) (us := []) (fun _ h => absurd h List.not_mem_nil) (by decide) (fun p hp => by cases hp) (by decide +kernel)
/-- GravyRound$Sights.fitting -/
def cx_235 : gt_K := (45, 3, [1731, 34359738362], [], 73786976329197944826, [(99999, 0)])
theorem cy_235 (σr : gp_S) : gt_KC gs_sh gs_wx (gx_X σr) cx_235 := gt_chk_ok gs_hx (gx_hx σr) gs_inc (anm := gs_as [(45, [(4, [(2, 2147483648, 4294967295), (3, 2147483649, 2147483669)], [], [], [], 1, 0)]), (295, [(2, [(3, 2147483648, 2147483678)], [], [], [], 0, 0)]), (296, [(7, [(3, 0, 4294967295), (4, 2147483648, 2147483655)], [], [], [], 1, 0)])]) (fuel := 3000) (us := []) (fun _ h => absurd h List.not_mem_nil) (by decide) (fun p hp => by cases hp) (by decide +kernel)
/-- GravyRound.fits -/
def cx_236 : gt_K := (107, 4, [3, 34359738362], [], 73786976312018076154, [(99999, 0)])
theorem cy_236 (σr : gp_S) : gt_KC gs_sh gs_wx (gx_X σr) cx_236 := gt_chk_ok gs_hx (gx_hx σr) gs_inc (anm := gs_as []) (fuel := 3000) (us := [cx_235]) (List.forall_mem_cons.mpr ⟨cy_235 σr, fun _ h => absurd h List.not_mem_nil⟩) (by decide) (fun p hp => by cases hp) (by decide +kernel)
/-- GravyRound.sure -/
def cx_237 : gt_K := (105, 4, [3, 34359738362, 34359738362], [], 73786976277658337530, [(99999, 0)])
theorem cy_237 (σr : gp_S) : gt_KC gs_sh gs_wx (gx_X σr) cx_237 := gt_chk_ok gs_hx (gx_hx σr) gs_inc (anm := gs_as [(187, [(2, [(1, 2147483648, 2147483680)], [], [], [], 0, 0)]), (188, [(3, [(1, 2147483647, 2147483679)], [], [], [], 0, 1)])]) (fuel := 3000) (us := [cx_235]) (List.forall_mem_cons.mpr ⟨cy_235 σr, fun _ h => absurd h List.not_mem_nil⟩) (by decide) (fun p hp => by cases hp) (by decide +kernel)
/-- GravyRound$Sights.leftAtMost -/
def cx_238 : gt_K := (298, 2, [1731, 73786976363557683194, 73786976312018075970], [], 73786976329197944826, [(99999, 0)])
theorem cy_238 (σr : gp_S) : gt_KC gs_sh gs_wx (gx_X σr) cx_238 := gt_chk_ok gs_hx (gx_hx σr) gs_inc (anm := gs_as [(296, [(7, [(3, 0, 4294967295), (4, 2147483648, 2147483655)], [], [], [], 1, 0)]), (298, [(2, [(3, 2147483648, 2147483656)], [], [], [], 0, 0), (31, [(3, 2147483648, 4294967295), (4, 2147483649, 2147483669)], [], [], [], 1, 0)])]) (fuel := 3000) (us := []) (fun _ h => absurd h List.not_mem_nil) (by decide) (fun p hp => by cases hp) (by decide +kernel)
/-- GravyRound.ask -/
def cx_239 : gt_K := (103, 4, [3, 34359738362, 34359738362], [], 73786976294838206458, [(99999, 0)])
theorem cy_239 (σr : gp_S) : gt_KC gs_sh gs_wx (gx_X σr) cx_239 := gt_chk_ok gs_hx (gx_hx σr) gs_inc (anm := gs_as [(297, [(8, [(2, 2147483648, 2147483688), (3, 2147483648, 2147483669), (4, 2147483648, 2147483689)], [], [], [], 2, 0)])]) (fuel := 3000) (us := [cx_235, cx_238]) (List.forall_mem_cons.mpr ⟨cy_235 σr, List.forall_mem_cons.mpr ⟨cy_238 σr, fun _ h => absurd h List.not_mem_nil⟩⟩) (by decide) (fun p hp => by cases hp) (by decide +kernel)
/-- GravyRound$Table.copyFrom -/
def cx_240 : gt_K := (20, 1, [1795, 203], [], 0, [(99999, 0)])
theorem cy_240 (σr : gp_S) : gt_KC gs_sh gs_wx (gx_X σr) cx_240 := gt_chk_ok gs_hx (gx_hx σr) gs_inc (anm := gs_as []) (fuel := 3000) (us := []) (fun _ h => absurd h List.not_mem_nil) (by decide) (fun p hp => by cases hp) (by decide +kernel)
/-- GravyRound$Table.copyFrom -/
def cx_241 : gt_K := (20, 1, [1859, 203], [], 0, [(99999, 0)])
theorem cy_241 (σr : gp_S) : gt_KC gs_sh gs_wx (gx_X σr) cx_241 := gt_chk_ok gs_hx (gx_hx σr) gs_inc (anm := gs_as []) (fuel := 3000) (us := []) (fun _ h => absurd h List.not_mem_nil) (by decide) (fun p hp => by cases hp) (by decide +kernel)
/-- GravyRound$Table.copyFrom -/
def cx_242 : gt_K := (20, 1, [1827, 203], [], 0, [(99999, 0)])
theorem cy_242 (σr : gp_S) : gt_KC gs_sh gs_wx (gx_X σr) cx_242 := gt_chk_ok gs_hx (gx_hx σr) gs_inc (anm := gs_as []) (fuel := 3000) (us := []) (fun _ h => absurd h List.not_mem_nil) (by decide) (fun p hp => by cases hp) (by decide +kernel)
/-- GravyRound.image -/
def cx_243 : gt_K := (102, 2, [3, 34359738362], [], 34359738362, [(99999, 0)])
theorem cy_243 (σr : gp_S) : gt_KC gs_sh gs_wx (gx_X σr) cx_243 := gt_chk_ok gs_hx (gx_hx σr) gs_inc (anm := gs_as []) (fuel := 3000) (us := [cx_240, cx_241, cx_242]) (List.forall_mem_cons.mpr ⟨cy_240 σr, List.forall_mem_cons.mpr ⟨cy_241 σr, List.forall_mem_cons.mpr ⟨cy_242 σr, fun _ h => absurd h List.not_mem_nil⟩⟩⟩) (by decide) (fun p hp => by cases hp) (by decide +kernel)
/-- GravyRound$Table.copyFrom -/
def cx_244 : gt_K := (20, 1, [203, 1795], [], 0, [(99999, 0)])
theorem cy_244 (σr : gp_S) : gt_KC gs_sh gs_wx (gx_X σr) cx_244 := gt_chk_ok gs_hx (gx_hx σr) gs_inc (anm := gs_as []) (fuel := 3000) (us := []) (fun _ h => absurd h List.not_mem_nil) (by decide) (fun p hp => by cases hp) (by decide +kernel)
/-- GravyRound$Table.copyFrom -/
def cx_245 : gt_K := (20, 1, [203, 1859], [], 0, [(99999, 0)])
theorem cy_245 (σr : gp_S) : gt_KC gs_sh gs_wx (gx_X σr) cx_245 := gt_chk_ok gs_hx (gx_hx σr) gs_inc (anm := gs_as []) (fuel := 3000) (us := []) (fun _ h => absurd h List.not_mem_nil) (by decide) (fun p hp => by cases hp) (by decide +kernel)
/-- GravyRound$Table.copyFrom -/
def cx_246 : gt_K := (20, 1, [203, 1827], [], 0, [(99999, 0)])
theorem cy_246 (σr : gp_S) : gt_KC gs_sh gs_wx (gx_X σr) cx_246 := gt_chk_ok gs_hx (gx_hx σr) gs_inc (anm := gs_as []) (fuel := 3000) (us := []) (fun _ h => absurd h List.not_mem_nil) (by decide) (fun p hp => by cases hp) (by decide +kernel)
/-- GravyRound.back -/
def cx_247 : gt_K := (101, 4, [3, 34359738362], [], 34359738362, [(99999, 0)])
theorem cy_247 (σr : gp_S) : gt_KC gs_sh gs_wx (gx_X σr) cx_247 := gt_chk_ok gs_hx (gx_hx σr) gs_inc (anm := gs_as []) (fuel := 3000) (us := [cx_72, cx_244, cx_245, cx_246]) (List.forall_mem_cons.mpr ⟨cy_72 σr, List.forall_mem_cons.mpr ⟨cy_244 σr, List.forall_mem_cons.mpr ⟨cy_245 σr, List.forall_mem_cons.mpr ⟨cy_246 σr, fun _ h => absurd h List.not_mem_nil⟩⟩⟩⟩) (by decide) (fun p hp => by cases hp) (by decide +kernel)
/-- GravyRound.about -/
def cx_248 : gt_K := (100, 2, [3, 34359738362], [], 34359738362, [(99999, 0)])
theorem cy_248 (σr : gp_S) : gt_KC gs_sh gs_wx (gx_X σr) cx_248 := gt_chk_ok gs_hx (gx_hx σr) gs_inc (anm := gs_as []) (fuel := 3000) (us := []) (fun _ h => absurd h List.not_mem_nil) (by decide) (fun p hp => by cases hp) (by decide +kernel)
