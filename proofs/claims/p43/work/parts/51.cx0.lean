/-! the class's contracts, checked by the kernel -/
/-- GravyRound.putOnTape -/
def cx_0 : gt_K := (33, 1, [3, 34359738362], [], 0, [(99999, 0)])
theorem cy_0 (σr : gp_S) : gt_KC gs_sh gs_wx (gx_X σr) cx_0 := gt_chk_ok gs_hx (gx_hx σr) gs_inc (anm := gs_as [(33, [(3, [(2, 2147482648, 2147483672)], [], [], [], 0, 1)])]) (fuel := 3000) (us := []) (fun _ h => absurd h List.not_mem_nil) (by decide) (fun p hp => by cases hp) (by decide +kernel)
/-- GravyRound.feed -/
def cx_1 : gt_K := (182, 2, [3, 34359738362, 34359738362, 34359738362, 34359738362, 34359738362], [], 73786976277658350082, [(99999, 0)])
theorem cy_1 (σr : gp_S) : gt_KC gs_sh gs_wx (gx_X σr) cx_1 := gt_chk_ok gs_hx (gx_hx σr) gs_inc (anm := gs_as []) (fuel := 3000) (us := [cx_0]) (List.forall_mem_cons.mpr ⟨cy_0 σr, fun _ h => absurd h List.not_mem_nil⟩) (by decide) (fun p hp => by cases hp) (by decide +kernel)
/-- GravyRound.end -/
def cx_2 : gt_K := (181, 1, [3, 34359738362], [], 73786976277658350082, [(99999, 0)])
theorem cy_2 (σr : gp_S) : gt_KC gs_sh gs_wx (gx_X σr) cx_2 := gt_chk_ok gs_hx (gx_hx σr) gs_inc (anm := gs_as []) (fuel := 3000) (us := []) (fun _ h => absurd h List.not_mem_nil) (by decide) (fun p hp => by cases hp) (by decide +kernel)
/-- GravyRound$Tokens.readNumber -/
def cx_3 : gt_K := (309, 2, [187], [], 0, [(99999, 0)])
theorem cy_3 (σr : gp_S) : gt_KC gs_sh gs_wx (gx_X σr) cx_3 := gt_chk_ok gs_hx (gx_hx σr) gs_inc (anm := gs_as [(309, [(5, [], [], [(23, 6)], [(23, 3, 2147483648, 2147485248)], 0, 0)])]) (fuel := 3000) (us := []) (fun _ h => absurd h List.not_mem_nil) (by decide) (fun p hp => by cases hp) (by decide +kernel)
/-- GravyRound$Tokens.readWord -/
def cx_4 : gt_K := (307, 2, [187], [], 0, [(99999, 0)])
theorem cy_4 (σr : gp_S) : gt_KC gs_sh gs_wx (gx_X σr) cx_4 := gt_chk_ok gs_hx (gx_hx σr) gs_inc (anm := gs_as [(307, [(5, [], [], [], [(23, 3, 2147483648, 2147485248)], 0, 0)]), (308, [(2, [(1, 2147483648, 2147483668)], [], [], [], 0, 0)])]) (fuel := 3000) (us := []) (fun _ h => absurd h List.not_mem_nil) (by decide) (fun p hp => by cases hp) (by decide +kernel)
/-- GravyRound$Tokens.step -/
def cx_5 : gt_K := (175, 3, [187], [], 0, [(99999, 0)])
theorem cy_5 (σr : gp_S) : gt_KC gs_sh gs_wx (gx_X σr) cx_5 := gt_chk_ok gs_hx (gx_hx σr) gs_inc (anm := gs_as [(175, [(0, [], [], [], [(23, 3, 2147483648, 2147485248)], 0, 0)])]) (fuel := 3000) (us := [cx_3, cx_4]) (List.forall_mem_cons.mpr ⟨cy_3 σr, List.forall_mem_cons.mpr ⟨cy_4 σr, fun _ h => absurd h List.not_mem_nil⟩⟩) (by decide) (fun p hp => by cases hp) (by decide +kernel)
/-- GravyRound$Dinner.guestNamed -/
def cx_6 : gt_K := (254, 1, [99, 5], [], 73786976277658337330, [(99999, 0)])
theorem cy_6 (σr : gp_S) : gt_KC gs_sh gs_wx (gx_X σr) cx_6 := gt_chk_ok gs_hx (gx_hx σr) gs_inc (anm := gs_as [(254, [(2, [(3, 2147483648, 2147483655)], [], [], [], 0, 0)])]) (fuel := 3000) (us := []) (fun _ h => absurd h List.not_mem_nil) (by decide) (fun p hp => by cases hp) (by decide +kernel)
/-- GravyRound$Reader.readGuest -/
def cx_7 : gt_K := (270, 5, [179], [], 73786976312018075658, [(99999, 0)])
theorem cy_7 (σr : gp_S) : gt_KC gs_sh gs_wx (gx_X σr) cx_7 := gt_chk_ok gs_hx (gx_hx σr) gs_inc (anm := gs_as []) (fuel := 3000) (us := [cx_5, cx_6]) (List.forall_mem_cons.mpr ⟨cy_5 σr, List.forall_mem_cons.mpr ⟨cy_6 σr, fun _ h => absurd h List.not_mem_nil⟩⟩) (by decide) (fun p hp => by cases hp) (by decide +kernel)
/-- GravyRound$Reader.readInBrackets -/
def cx_8 : gt_K := (281, 2, [179, 73786976552536244282], [], 73786976312018075650, [(99999, 0)])
theorem cy_8 (σr : gp_S) : gt_KC gs_sh gs_wx (gx_X σr) cx_8 := gt_chk_ok gs_hx (gx_hx σr) gs_inc (anm := gs_as []) (fuel := 3000) (us := []) (fun _ h => absurd h List.not_mem_nil) (by decide) (fun p hp => by cases hp) (by decide +kernel)
/-- GravyRound$Reader.readUnit -/
def cx_9 : gt_K := (280, 4, [179, 73786976552536244282], [], 73786976312018075658, [(99999, 0)])
theorem cy_9 (σr : gp_S) : gt_KC gs_sh gs_wx (gx_X σr) cx_9 := gt_chk_ok gs_hx (gx_hx σr) gs_inc (anm := gs_as []) (fuel := 3000) (us := [cx_5, cx_8]) (List.forall_mem_cons.mpr ⟨cy_5 σr, List.forall_mem_cons.mpr ⟨cy_8 σr, fun _ h => absurd h List.not_mem_nil⟩⟩) (by decide) (fun p hp => by cases hp) (by decide +kernel)
/-- GravyRound$Reader.readTerm -/
def cx_10 : gt_K := (279, 5, [179, 73786976552536244282], [], 73786976312018075658, [(99999, 0)])
theorem cy_10 (σr : gp_S) : gt_KC gs_sh gs_wx (gx_X σr) cx_10 := gt_chk_ok gs_hx (gx_hx σr) gs_inc (anm := gs_as [(279, [(12, [(2, 2147483648, 2147485248)], [], [], [], 0, 0)])]) (fuel := 3000) (us := [cx_5, cx_9]) (List.forall_mem_cons.mpr ⟨cy_5 σr, List.forall_mem_cons.mpr ⟨cy_9 σr, fun _ h => absurd h List.not_mem_nil⟩⟩) (by decide) (fun p hp => by cases hp) (by decide +kernel)
/-- GravyRound$Reader.readSum -/
def cx_11 : gt_K := (278, 6, [179, 73786976552536244282], [], 73786976312018075658, [(99999, 0)])
theorem cy_11 (σr : gp_S) : gt_KC gs_sh gs_wx (gx_X σr) cx_11 := gt_chk_ok gs_hx (gx_hx σr) gs_inc (anm := gs_as [(278, [(12, [(2, 2147483648, 2147485248)], [], [], [], 0, 0)])]) (fuel := 3000) (us := [cx_5, cx_10]) (List.forall_mem_cons.mpr ⟨cy_5 σr, List.forall_mem_cons.mpr ⟨cy_10 σr, fun _ h => absurd h List.not_mem_nil⟩⟩) (by decide) (fun p hp => by cases hp) (by decide +kernel)
/-- GravyRound$Reader.readOne -/
def cx_12 : gt_K := (277, 7, [179, 73786976552536244282], [], 73786976312018075658, [(99999, 0)])
theorem cy_12 (σr : gp_S) : gt_KC gs_sh gs_wx (gx_X σr) cx_12 := gt_chk_ok gs_hx (gx_hx σr) gs_inc (anm := gs_as []) (fuel := 3000) (us := [cx_5, cx_11]) (List.forall_mem_cons.mpr ⟨cy_5 σr, List.forall_mem_cons.mpr ⟨cy_11 σr, fun _ h => absurd h List.not_mem_nil⟩⟩) (by decide) (fun p hp => by cases hp) (by decide +kernel)
/-- GravyRound$Reader.readBoth -/
def cx_13 : gt_K := (276, 8, [179, 73786976552536244282], [], 73786976312018075658, [(99999, 0)])
theorem cy_13 (σr : gp_S) : gt_KC gs_sh gs_wx (gx_X σr) cx_13 := gt_chk_ok gs_hx (gx_hx σr) gs_inc (anm := gs_as [(276, [(12, [(2, 2147483648, 2147485248)], [], [], [], 0, 0)])]) (fuel := 3000) (us := [cx_5, cx_12]) (List.forall_mem_cons.mpr ⟨cy_5 σr, List.forall_mem_cons.mpr ⟨cy_12 σr, fun _ h => absurd h List.not_mem_nil⟩⟩) (by decide) (fun p hp => by cases hp) (by decide +kernel)
/-- GravyRound$Reader.readEither -/
def cx_14 : gt_K := (275, 9, [179, 73786976552536244282], [], 73786976312018075658, [(99999, 0)])
theorem cy_14 (σr : gp_S) : gt_KC gs_sh gs_wx (gx_X σr) cx_14 := gt_chk_ok gs_hx (gx_hx σr) gs_inc (anm := gs_as [(275, [(12, [(2, 2147483648, 2147485248)], [], [], [], 0, 0)])]) (fuel := 3000) (us := [cx_5, cx_13]) (List.forall_mem_cons.mpr ⟨cy_5 σr, List.forall_mem_cons.mpr ⟨cy_13 σr, fun _ h => absurd h List.not_mem_nil⟩⟩) (by decide) (fun p hp => by cases hp) (by decide +kernel)
/-- GravyRound$Reader.readInBrackets -/
def cx_15 : gt_K := (281, 10, [179, 73786976518176505906], [], 73786976312018075658, [(99999, 0)])
theorem cy_15 (σr : gp_S) : gt_KC gs_sh gs_wx (gx_X σr) cx_15 := gt_chk_ok gs_hx (gx_hx σr) gs_inc (anm := gs_as []) (fuel := 3000) (us := [cx_5, cx_14]) (List.forall_mem_cons.mpr ⟨cy_5 σr, List.forall_mem_cons.mpr ⟨cy_14 σr, fun _ h => absurd h List.not_mem_nil⟩⟩) (by decide) (fun p hp => by cases hp) (by decide +kernel)
/-- GravyRound$Reader.readUnit -/
def cx_16 : gt_K := (280, 11, [179, 73786976518176505906], [], 73786976312018075658, [(99999, 0)])
theorem cy_16 (σr : gp_S) : gt_KC gs_sh gs_wx (gx_X σr) cx_16 := gt_chk_ok gs_hx (gx_hx σr) gs_inc (anm := gs_as []) (fuel := 3000) (us := [cx_5, cx_15]) (List.forall_mem_cons.mpr ⟨cy_5 σr, List.forall_mem_cons.mpr ⟨cy_15 σr, fun _ h => absurd h List.not_mem_nil⟩⟩) (by decide) (fun p hp => by cases hp) (by decide +kernel)
/-- GravyRound$Reader.readTerm -/
def cx_17 : gt_K := (279, 12, [179, 73786976518176505906], [], 73786976312018075658, [(99999, 0)])
theorem cy_17 (σr : gp_S) : gt_KC gs_sh gs_wx (gx_X σr) cx_17 := gt_chk_ok gs_hx (gx_hx σr) gs_inc (anm := gs_as [(279, [(12, [(2, 2147483648, 2147485248)], [], [], [], 0, 0)])]) (fuel := 3000) (us := [cx_5, cx_16]) (List.forall_mem_cons.mpr ⟨cy_5 σr, List.forall_mem_cons.mpr ⟨cy_16 σr, fun _ h => absurd h List.not_mem_nil⟩⟩) (by decide) (fun p hp => by cases hp) (by decide +kernel)
/-- GravyRound$Reader.readSum -/
def cx_18 : gt_K := (278, 13, [179, 73786976518176505906], [], 73786976312018075658, [(99999, 0)])
theorem cy_18 (σr : gp_S) : gt_KC gs_sh gs_wx (gx_X σr) cx_18 := gt_chk_ok gs_hx (gx_hx σr) gs_inc (anm := gs_as [(278, [(12, [(2, 2147483648, 2147485248)], [], [], [], 0, 0)])]) (fuel := 3000) (us := [cx_5, cx_17]) (List.forall_mem_cons.mpr ⟨cy_5 σr, List.forall_mem_cons.mpr ⟨cy_17 σr, fun _ h => absurd h List.not_mem_nil⟩⟩) (by decide) (fun p hp => by cases hp) (by decide +kernel)
/-- GravyRound$Reader.readOne -/
def cx_19 : gt_K := (277, 14, [179, 73786976518176505906], [], 73786976312018075658, [(99999, 0)])
theorem cy_19 (σr : gp_S) : gt_KC gs_sh gs_wx (gx_X σr) cx_19 := gt_chk_ok gs_hx (gx_hx σr) gs_inc (anm := gs_as []) (fuel := 3000) (us := [cx_5, cx_12, cx_18]) (List.forall_mem_cons.mpr ⟨cy_5 σr, List.forall_mem_cons.mpr ⟨cy_12 σr, List.forall_mem_cons.mpr ⟨cy_18 σr, fun _ h => absurd h List.not_mem_nil⟩⟩⟩) (by decide) (fun p hp => by cases hp) (by decide +kernel)
/-- GravyRound$Reader.readBoth -/
def cx_20 : gt_K := (276, 15, [179, 73786976518176505906], [], 73786976312018075658, [(99999, 0)])
theorem cy_20 (σr : gp_S) : gt_KC gs_sh gs_wx (gx_X σr) cx_20 := gt_chk_ok gs_hx (gx_hx σr) gs_inc (anm := gs_as [(276, [(12, [(2, 2147483648, 2147485248)], [], [], [], 0, 0)])]) (fuel := 3000) (us := [cx_5, cx_19]) (List.forall_mem_cons.mpr ⟨cy_5 σr, List.forall_mem_cons.mpr ⟨cy_19 σr, fun _ h => absurd h List.not_mem_nil⟩⟩) (by decide) (fun p hp => by cases hp) (by decide +kernel)
/-- GravyRound$Reader.readEither -/
def cx_21 : gt_K := (275, 16, [179, 73786976518176505906], [], 73786976312018075658, [(99999, 0)])
theorem cy_21 (σr : gp_S) : gt_KC gs_sh gs_wx (gx_X σr) cx_21 := gt_chk_ok gs_hx (gx_hx σr) gs_inc (anm := gs_as [(275, [(12, [(2, 2147483648, 2147485248)], [], [], [], 0, 0)])]) (fuel := 3000) (us := [cx_5, cx_20]) (List.forall_mem_cons.mpr ⟨cy_5 σr, List.forall_mem_cons.mpr ⟨cy_20 σr, fun _ h => absurd h List.not_mem_nil⟩⟩) (by decide) (fun p hp => by cases hp) (by decide +kernel)
/-- GravyRound$Reader.readInBrackets -/
def cx_22 : gt_K := (281, 17, [179, 73786976483816767530], [], 73786976312018075658, [(99999, 0)])
theorem cy_22 (σr : gp_S) : gt_KC gs_sh gs_wx (gx_X σr) cx_22 := gt_chk_ok gs_hx (gx_hx σr) gs_inc (anm := gs_as []) (fuel := 3000) (us := [cx_5, cx_21]) (List.forall_mem_cons.mpr ⟨cy_5 σr, List.forall_mem_cons.mpr ⟨cy_21 σr, fun _ h => absurd h List.not_mem_nil⟩⟩) (by decide) (fun p hp => by cases hp) (by decide +kernel)
/-- GravyRound$Reader.readUnit -/
def cx_23 : gt_K := (280, 18, [179, 73786976483816767530], [], 73786976312018075658, [(99999, 0)])
theorem cy_23 (σr : gp_S) : gt_KC gs_sh gs_wx (gx_X σr) cx_23 := gt_chk_ok gs_hx (gx_hx σr) gs_inc (anm := gs_as []) (fuel := 3000) (us := [cx_5, cx_22]) (List.forall_mem_cons.mpr ⟨cy_5 σr, List.forall_mem_cons.mpr ⟨cy_22 σr, fun _ h => absurd h List.not_mem_nil⟩⟩) (by decide) (fun p hp => by cases hp) (by decide +kernel)
/-- GravyRound$Reader.readTerm -/
def cx_24 : gt_K := (279, 19, [179, 73786976483816767530], [], 73786976312018075658, [(99999, 0)])
theorem cy_24 (σr : gp_S) : gt_KC gs_sh gs_wx (gx_X σr) cx_24 := gt_chk_ok gs_hx (gx_hx σr) gs_inc (anm := gs_as [(279, [(12, [(2, 2147483648, 2147485248)], [], [], [], 0, 0)])]) (fuel := 3000) (us := [cx_5, cx_23]) (List.forall_mem_cons.mpr ⟨cy_5 σr, List.forall_mem_cons.mpr ⟨cy_23 σr, fun _ h => absurd h List.not_mem_nil⟩⟩) (by decide) (fun p hp => by cases hp) (by decide +kernel)
/-- GravyRound$Reader.readSum -/
def cx_25 : gt_K := (278, 20, [179, 73786976483816767530], [], 73786976312018075658, [(99999, 0)])
theorem cy_25 (σr : gp_S) : gt_KC gs_sh gs_wx (gx_X σr) cx_25 := gt_chk_ok gs_hx (gx_hx σr) gs_inc (anm := gs_as [(278, [(12, [(2, 2147483648, 2147485248)], [], [], [], 0, 0)])]) (fuel := 3000) (us := [cx_5, cx_24]) (List.forall_mem_cons.mpr ⟨cy_5 σr, List.forall_mem_cons.mpr ⟨cy_24 σr, fun _ h => absurd h List.not_mem_nil⟩⟩) (by decide) (fun p hp => by cases hp) (by decide +kernel)
/-- GravyRound$Reader.readOne -/
def cx_26 : gt_K := (277, 21, [179, 73786976483816767530], [], 73786976312018075658, [(99999, 0)])
theorem cy_26 (σr : gp_S) : gt_KC gs_sh gs_wx (gx_X σr) cx_26 := gt_chk_ok gs_hx (gx_hx σr) gs_inc (anm := gs_as []) (fuel := 3000) (us := [cx_5, cx_19, cx_25]) (List.forall_mem_cons.mpr ⟨cy_5 σr, List.forall_mem_cons.mpr ⟨cy_19 σr, List.forall_mem_cons.mpr ⟨cy_25 σr, fun _ h => absurd h List.not_mem_nil⟩⟩⟩) (by decide) (fun p hp => by cases hp) (by decide +kernel)
/-- GravyRound$Reader.readBoth -/
def cx_27 : gt_K := (276, 22, [179, 73786976483816767530], [], 73786976312018075658, [(99999, 0)])
theorem cy_27 (σr : gp_S) : gt_KC gs_sh gs_wx (gx_X σr) cx_27 := gt_chk_ok gs_hx (gx_hx σr) gs_inc (anm := gs_as [(276, [(12, [(2, 2147483648, 2147485248)], [], [], [], 0, 0)])]) (fuel := 3000) (us := [cx_5, cx_26]) (List.forall_mem_cons.mpr ⟨cy_5 σr, List.forall_mem_cons.mpr ⟨cy_26 σr, fun _ h => absurd h List.not_mem_nil⟩⟩) (by decide) (fun p hp => by cases hp) (by decide +kernel)
/-- GravyRound$Reader.readEither -/
def cx_28 : gt_K := (275, 23, [179, 73786976483816767530], [], 73786976312018075658, [(99999, 0)])
theorem cy_28 (σr : gp_S) : gt_KC gs_sh gs_wx (gx_X σr) cx_28 := gt_chk_ok gs_hx (gx_hx σr) gs_inc (anm := gs_as [(275, [(12, [(2, 2147483648, 2147485248)], [], [], [], 0, 0)])]) (fuel := 3000) (us := [cx_5, cx_27]) (List.forall_mem_cons.mpr ⟨cy_5 σr, List.forall_mem_cons.mpr ⟨cy_27 σr, fun _ h => absurd h List.not_mem_nil⟩⟩) (by decide) (fun p hp => by cases hp) (by decide +kernel)
/-- GravyRound$Reader.readInBrackets -/
def cx_29 : gt_K := (281, 24, [179, 73786976449457029154], [], 73786976312018075658, [(99999, 0)])
theorem cy_29 (σr : gp_S) : gt_KC gs_sh gs_wx (gx_X σr) cx_29 := gt_chk_ok gs_hx (gx_hx σr) gs_inc (anm := gs_as []) (fuel := 3000) (us := [cx_5, cx_28]) (List.forall_mem_cons.mpr ⟨cy_5 σr, List.forall_mem_cons.mpr ⟨cy_28 σr, fun _ h => absurd h List.not_mem_nil⟩⟩) (by decide) (fun p hp => by cases hp) (by decide +kernel)
/-- GravyRound$Reader.readUnit -/
def cx_30 : gt_K := (280, 25, [179, 73786976449457029154], [], 73786976312018075658, [(99999, 0)])
theorem cy_30 (σr : gp_S) : gt_KC gs_sh gs_wx (gx_X σr) cx_30 := gt_chk_ok gs_hx (gx_hx σr) gs_inc (anm := gs_as []) (fuel := 3000) (us := [cx_5, cx_29]) (List.forall_mem_cons.mpr ⟨cy_5 σr, List.forall_mem_cons.mpr ⟨cy_29 σr, fun _ h => absurd h List.not_mem_nil⟩⟩) (by decide) (fun p hp => by cases hp) (by decide +kernel)
/-- GravyRound$Reader.readTerm -/
def cx_31 : gt_K := (279, 26, [179, 73786976449457029154], [], 73786976312018075658, [(99999, 0)])
theorem cy_31 (σr : gp_S) : gt_KC gs_sh gs_wx (gx_X σr) cx_31 := gt_chk_ok gs_hx (gx_hx σr) gs_inc (anm := gs_as [(279, [(12, [(2, 2147483648, 2147485248)], [], [], [], 0, 0)])]) (fuel := 3000) (us := [cx_5, cx_30]) (List.forall_mem_cons.mpr ⟨cy_5 σr, List.forall_mem_cons.mpr ⟨cy_30 σr, fun _ h => absurd h List.not_mem_nil⟩⟩) (by decide) (fun p hp => by cases hp) (by decide +kernel)
/-- GravyRound$Reader.readSum -/
def cx_32 : gt_K := (278, 27, [179, 73786976449457029154], [], 73786976312018075658, [(99999, 0)])
theorem cy_32 (σr : gp_S) : gt_KC gs_sh gs_wx (gx_X σr) cx_32 := gt_chk_ok gs_hx (gx_hx σr) gs_inc (anm := gs_as [(278, [(12, [(2, 2147483648, 2147485248)], [], [], [], 0, 0)])]) (fuel := 3000) (us := [cx_5, cx_31]) (List.forall_mem_cons.mpr ⟨cy_5 σr, List.forall_mem_cons.mpr ⟨cy_31 σr, fun _ h => absurd h List.not_mem_nil⟩⟩) (by decide) (fun p hp => by cases hp) (by decide +kernel)
/-- GravyRound$Reader.readOne -/
def cx_33 : gt_K := (277, 28, [179, 73786976449457029154], [], 73786976312018075658, [(99999, 0)])
theorem cy_33 (σr : gp_S) : gt_KC gs_sh gs_wx (gx_X σr) cx_33 := gt_chk_ok gs_hx (gx_hx σr) gs_inc (anm := gs_as []) (fuel := 3000) (us := [cx_5, cx_26, cx_32]) (List.forall_mem_cons.mpr ⟨cy_5 σr, List.forall_mem_cons.mpr ⟨cy_26 σr, List.forall_mem_cons.mpr ⟨cy_32 σr, fun _ h => absurd h List.not_mem_nil⟩⟩⟩) (by decide) (fun p hp => by cases hp) (by decide +kernel)
/-- GravyRound$Reader.readBoth -/
def cx_34 : gt_K := (276, 29, [179, 73786976449457029154], [], 73786976312018075658, [(99999, 0)])
theorem cy_34 (σr : gp_S) : gt_KC gs_sh gs_wx (gx_X σr) cx_34 := gt_chk_ok gs_hx (gx_hx σr) gs_inc (anm := gs_as [(276, [(12, [(2, 2147483648, 2147485248)], [], [], [], 0, 0)])]) (fuel := 3000) (us := [cx_5, cx_33]) (List.forall_mem_cons.mpr ⟨cy_5 σr, List.forall_mem_cons.mpr ⟨cy_33 σr, fun _ h => absurd h List.not_mem_nil⟩⟩) (by decide) (fun p hp => by cases hp) (by decide +kernel)
/-- GravyRound$Reader.readEither -/
def cx_35 : gt_K := (275, 30, [179, 73786976449457029154], [], 73786976312018075658, [(99999, 0)])
theorem cy_35 (σr : gp_S) : gt_KC gs_sh gs_wx (gx_X σr) cx_35 := gt_chk_ok gs_hx (gx_hx σr) gs_inc (anm := gs_as [(275, [(12, [(2, 2147483648, 2147485248)], [], [], [], 0, 0)])]) (fuel := 3000) (us := [cx_5, cx_34]) (List.forall_mem_cons.mpr ⟨cy_5 σr, List.forall_mem_cons.mpr ⟨cy_34 σr, fun _ h => absurd h List.not_mem_nil⟩⟩) (by decide) (fun p hp => by cases hp) (by decide +kernel)
/-- GravyRound$Reader.readInBrackets -/
def cx_36 : gt_K := (281, 31, [179, 73786976415097290778], [], 73786976312018075658, [(99999, 0)])
theorem cy_36 (σr : gp_S) : gt_KC gs_sh gs_wx (gx_X σr) cx_36 := gt_chk_ok gs_hx (gx_hx σr) gs_inc (anm := gs_as []) (fuel := 3000) (us := [cx_5, cx_35]) (List.forall_mem_cons.mpr ⟨cy_5 σr, List.forall_mem_cons.mpr ⟨cy_35 σr, fun _ h => absurd h List.not_mem_nil⟩⟩) (by decide) (fun p hp => by cases hp) (by decide +kernel)
/-- GravyRound$Reader.readUnit -/
def cx_37 : gt_K := (280, 32, [179, 73786976415097290778], [], 73786976312018075658, [(99999, 0)])
theorem cy_37 (σr : gp_S) : gt_KC gs_sh gs_wx (gx_X σr) cx_37 := gt_chk_ok gs_hx (gx_hx σr) gs_inc (anm := gs_as []) (fuel := 3000) (us := [cx_5, cx_36]) (List.forall_mem_cons.mpr ⟨cy_5 σr, List.forall_mem_cons.mpr ⟨cy_36 σr, fun _ h => absurd h List.not_mem_nil⟩⟩) (by decide) (fun p hp => by cases hp) (by decide +kernel)
/-- GravyRound$Reader.readTerm -/
def cx_38 : gt_K := (279, 33, [179, 73786976415097290778], [], 73786976312018075658, [(99999, 0)])
theorem cy_38 (σr : gp_S) : gt_KC gs_sh gs_wx (gx_X σr) cx_38 := gt_chk_ok gs_hx (gx_hx σr) gs_inc (anm := gs_as [(279, [(12, [(2, 2147483648, 2147485248)], [], [], [], 0, 0)])]) (fuel := 3000) (us := [cx_5, cx_37]) (List.forall_mem_cons.mpr ⟨cy_5 σr, List.forall_mem_cons.mpr ⟨cy_37 σr, fun _ h => absurd h List.not_mem_nil⟩⟩) (by decide) (fun p hp => by cases hp) (by decide +kernel)
/-- GravyRound$Reader.readSum -/
def cx_39 : gt_K := (278, 34, [179, 73786976415097290778], [], 73786976312018075658, [(99999, 0)])
theorem cy_39 (σr : gp_S) : gt_KC gs_sh gs_wx (gx_X σr) cx_39 := gt_chk_ok gs_hx (gx_hx σr) gs_inc (anm := gs_as [(278, [(12, [(2, 2147483648, 2147485248)], [], [], [], 0, 0)])]) (fuel := 3000) (us := [cx_5, cx_38]) (List.forall_mem_cons.mpr ⟨cy_5 σr, List.forall_mem_cons.mpr ⟨cy_38 σr, fun _ h => absurd h List.not_mem_nil⟩⟩) (by decide) (fun p hp => by cases hp) (by decide +kernel)
/-- GravyRound$Reader.readOne -/
def cx_40 : gt_K := (277, 35, [179, 73786976415097290778], [], 73786976312018075658, [(99999, 0)])
theorem cy_40 (σr : gp_S) : gt_KC gs_sh gs_wx (gx_X σr) cx_40 := gt_chk_ok gs_hx (gx_hx σr) gs_inc (anm := gs_as []) (fuel := 3000) (us := [cx_5, cx_33, cx_39]) (List.forall_mem_cons.mpr ⟨cy_5 σr, List.forall_mem_cons.mpr ⟨cy_33 σr, List.forall_mem_cons.mpr ⟨cy_39 σr, fun _ h => absurd h List.not_mem_nil⟩⟩⟩) (by decide) (fun p hp => by cases hp) (by decide +kernel)
/-- GravyRound$Reader.readBoth -/
def cx_41 : gt_K := (276, 36, [179, 73786976415097290778], [], 73786976312018075658, [(99999, 0)])
theorem cy_41 (σr : gp_S) : gt_KC gs_sh gs_wx (gx_X σr) cx_41 := gt_chk_ok gs_hx (gx_hx σr) gs_inc (anm := gs_as [(276, [(12, [(2, 2147483648, 2147485248)], [], [], [], 0, 0)])]) (fuel := 3000) (us := [cx_5, cx_40]) (List.forall_mem_cons.mpr ⟨cy_5 σr, List.forall_mem_cons.mpr ⟨cy_40 σr, fun _ h => absurd h List.not_mem_nil⟩⟩) (by decide) (fun p hp => by cases hp) (by decide +kernel)
/-- GravyRound$Reader.readEither -/
def cx_42 : gt_K := (275, 37, [179, 73786976415097290778], [], 73786976312018075658, [(99999, 0)])
theorem cy_42 (σr : gp_S) : gt_KC gs_sh gs_wx (gx_X σr) cx_42 := gt_chk_ok gs_hx (gx_hx σr) gs_inc (anm := gs_as [(275, [(12, [(2, 2147483648, 2147485248)], [], [], [], 0, 0)])]) (fuel := 3000) (us := [cx_5, cx_41]) (List.forall_mem_cons.mpr ⟨cy_5 σr, List.forall_mem_cons.mpr ⟨cy_41 σr, fun _ h => absurd h List.not_mem_nil⟩⟩) (by decide) (fun p hp => by cases hp) (by decide +kernel)
/-- GravyRound$Reader.readInBrackets -/
def cx_43 : gt_K := (281, 38, [179, 73786976380737552402], [], 73786976312018075658, [(99999, 0)])
theorem cy_43 (σr : gp_S) : gt_KC gs_sh gs_wx (gx_X σr) cx_43 := gt_chk_ok gs_hx (gx_hx σr) gs_inc (anm := gs_as []) (fuel := 3000) (us := [cx_5, cx_42]) (List.forall_mem_cons.mpr ⟨cy_5 σr, List.forall_mem_cons.mpr ⟨cy_42 σr, fun _ h => absurd h List.not_mem_nil⟩⟩) (by decide) (fun p hp => by cases hp) (by decide +kernel)
/-- GravyRound$Reader.readUnit -/
def cx_44 : gt_K := (280, 39, [179, 73786976380737552402], [], 73786976312018075658, [(99999, 0)])
theorem cy_44 (σr : gp_S) : gt_KC gs_sh gs_wx (gx_X σr) cx_44 := gt_chk_ok gs_hx (gx_hx σr) gs_inc (anm := gs_as []) (fuel := 3000) (us := [cx_5, cx_43]) (List.forall_mem_cons.mpr ⟨cy_5 σr, List.forall_mem_cons.mpr ⟨cy_43 σr, fun _ h => absurd h List.not_mem_nil⟩⟩) (by decide) (fun p hp => by cases hp) (by decide +kernel)
/-- GravyRound$Reader.readTerm -/
def cx_45 : gt_K := (279, 40, [179, 73786976380737552402], [], 73786976312018075658, [(99999, 0)])
theorem cy_45 (σr : gp_S) : gt_KC gs_sh gs_wx (gx_X σr) cx_45 := gt_chk_ok gs_hx (gx_hx σr) gs_inc (anm := gs_as [(279, [(12, [(2, 2147483648, 2147485248)], [], [], [], 0, 0)])]) (fuel := 3000) (us := [cx_5, cx_44]) (List.forall_mem_cons.mpr ⟨cy_5 σr, List.forall_mem_cons.mpr ⟨cy_44 σr, fun _ h => absurd h List.not_mem_nil⟩⟩) (by decide) (fun p hp => by cases hp) (by decide +kernel)
/-- GravyRound$Reader.readSum -/
def cx_46 : gt_K := (278, 41, [179, 73786976380737552402], [], 73786976312018075658, [(99999, 0)])
theorem cy_46 (σr : gp_S) : gt_KC gs_sh gs_wx (gx_X σr) cx_46 := gt_chk_ok gs_hx (gx_hx σr) gs_inc (anm := gs_as [(278, [(12, [(2, 2147483648, 2147485248)], [], [], [], 0, 0)])]) (fuel := 3000) (us := [cx_5, cx_45]) (List.forall_mem_cons.mpr ⟨cy_5 σr, List.forall_mem_cons.mpr ⟨cy_45 σr, fun _ h => absurd h List.not_mem_nil⟩⟩) (by decide) (fun p hp => by cases hp) (by decide +kernel)
/-- GravyRound$Reader.readOne -/
def cx_47 : gt_K := (277, 42, [179, 73786976380737552402], [], 73786976312018075658, [(99999, 0)])
theorem cy_47 (σr : gp_S) : gt_KC gs_sh gs_wx (gx_X σr) cx_47 := gt_chk_ok gs_hx (gx_hx σr) gs_inc (anm := gs_as []) (fuel := 3000) (us := [cx_5, cx_40, cx_46]) (List.forall_mem_cons.mpr ⟨cy_5 σr, List.forall_mem_cons.mpr ⟨cy_40 σr, List.forall_mem_cons.mpr ⟨cy_46 σr, fun _ h => absurd h List.not_mem_nil⟩⟩⟩) (by decide) (fun p hp => by cases hp) (by decide +kernel)
/-- GravyRound$Reader.readBoth -/
def cx_48 : gt_K := (276, 43, [179, 73786976380737552402], [], 73786976312018075658, [(99999, 0)])
theorem cy_48 (σr : gp_S) : gt_KC gs_sh gs_wx (gx_X σr) cx_48 := gt_chk_ok gs_hx (gx_hx σr) gs_inc (anm := gs_as [(276, [(12, [(2, 2147483648, 2147485248)], [], [], [], 0, 0)])]) (fuel := 3000) (us := [cx_5, cx_47]) (List.forall_mem_cons.mpr ⟨cy_5 σr, List.forall_mem_cons.mpr ⟨cy_47 σr, fun _ h => absurd h List.not_mem_nil⟩⟩) (by decide) (fun p hp => by cases hp) (by decide +kernel)
/-- GravyRound$Reader.readEither -/
def cx_49 : gt_K := (275, 44, [179, 73786976380737552402], [], 73786976312018075658, [(99999, 0)])
theorem cy_49 (σr : gp_S) : gt_KC gs_sh gs_wx (gx_X σr) cx_49 := gt_chk_ok gs_hx (gx_hx σr) gs_inc (anm := gs_as [(275, [(12, [(2, 2147483648, 2147485248)], [], [], [], 0, 0)])]) (fuel := 3000) (us := [cx_5, cx_48]) (List.forall_mem_cons.mpr ⟨cy_5 σr, List.forall_mem_cons.mpr ⟨cy_48 σr, fun _ h => absurd h List.not_mem_nil⟩⟩) (by decide) (fun p hp => by cases hp) (by decide +kernel)
/-- GravyRound$Reader.readInBrackets -/
def cx_50 : gt_K := (281, 45, [179, 73786976346377814026], [], 73786976312018075658, [(99999, 0)])
theorem cy_50 (σr : gp_S) : gt_KC gs_sh gs_wx (gx_X σr) cx_50 := gt_chk_ok gs_hx (gx_hx σr) gs_inc (anm := gs_as []) (fuel := 3000) (us := [cx_5, cx_49]) (List.forall_mem_cons.mpr ⟨cy_5 σr, List.forall_mem_cons.mpr ⟨cy_49 σr, fun _ h => absurd h List.not_mem_nil⟩⟩) (by decide) (fun p hp => by cases hp) (by decide +kernel)
/-- GravyRound$Reader.readUnit -/
def cx_51 : gt_K := (280, 46, [179, 73786976346377814026], [], 73786976312018075658, [(99999, 0)])
theorem cy_51 (σr : gp_S) : gt_KC gs_sh gs_wx (gx_X σr) cx_51 := gt_chk_ok gs_hx (gx_hx σr) gs_inc (anm := gs_as []) (fuel := 3000) (us := [cx_5, cx_50]) (List.forall_mem_cons.mpr ⟨cy_5 σr, List.forall_mem_cons.mpr ⟨cy_50 σr, fun _ h => absurd h List.not_mem_nil⟩⟩) (by decide) (fun p hp => by cases hp) (by decide +kernel)
/-- GravyRound$Reader.readTerm -/
def cx_52 : gt_K := (279, 47, [179, 73786976346377814026], [], 73786976312018075658, [(99999, 0)])
theorem cy_52 (σr : gp_S) : gt_KC gs_sh gs_wx (gx_X σr) cx_52 := gt_chk_ok gs_hx (gx_hx σr) gs_inc (anm := gs_as [(279, [(12, [(2, 2147483648, 2147485248)], [], [], [], 0, 0)])]) (fuel := 3000) (us := [cx_5, cx_51]) (List.forall_mem_cons.mpr ⟨cy_5 σr, List.forall_mem_cons.mpr ⟨cy_51 σr, fun _ h => absurd h List.not_mem_nil⟩⟩) (by decide) (fun p hp => by cases hp) (by decide +kernel)
/-- GravyRound$Reader.readSum -/
def cx_53 : gt_K := (278, 48, [179, 73786976346377814026], [], 73786976312018075658, [(99999, 0)])
theorem cy_53 (σr : gp_S) : gt_KC gs_sh gs_wx (gx_X σr) cx_53 := gt_chk_ok gs_hx (gx_hx σr) gs_inc (anm := gs_as [(278, [(12, [(2, 2147483648, 2147485248)], [], [], [], 0, 0)])]) (fuel := 3000) (us := [cx_5, cx_52]) (List.forall_mem_cons.mpr ⟨cy_5 σr, List.forall_mem_cons.mpr ⟨cy_52 σr, fun _ h => absurd h List.not_mem_nil⟩⟩) (by decide) (fun p hp => by cases hp) (by decide +kernel)
/-- GravyRound$Reader.readOne -/
def cx_54 : gt_K := (277, 49, [179, 73786976346377814026], [], 73786976312018075658, [(99999, 0)])
theorem cy_54 (σr : gp_S) : gt_KC gs_sh gs_wx (gx_X σr) cx_54 := gt_chk_ok gs_hx (gx_hx σr) gs_inc (anm := gs_as []) (fuel := 3000) (us := [cx_5, cx_47, cx_53]) (List.forall_mem_cons.mpr ⟨cy_5 σr, List.forall_mem_cons.mpr ⟨cy_47 σr, List.forall_mem_cons.mpr ⟨cy_53 σr, fun _ h => absurd h List.not_mem_nil⟩⟩⟩) (by decide) (fun p hp => by cases hp) (by decide +kernel)
/-- GravyRound$Reader.readBoth -/
def cx_55 : gt_K := (276, 50, [179, 73786976346377814026], [], 73786976312018075658, [(99999, 0)])
theorem cy_55 (σr : gp_S) : gt_KC gs_sh gs_wx (gx_X σr) cx_55 := gt_chk_ok gs_hx (gx_hx σr) gs_inc (anm := gs_as [(276, [(12, [(2, 2147483648, 2147485248)], [], [], [], 0, 0)])]) (fuel := 3000) (us := [cx_5, cx_54]) (List.forall_mem_cons.mpr ⟨cy_5 σr, List.forall_mem_cons.mpr ⟨cy_54 σr, fun _ h => absurd h List.not_mem_nil⟩⟩) (by decide) (fun p hp => by cases hp) (by decide +kernel)
/-- GravyRound$Reader.readEither -/
def cx_56 : gt_K := (275, 51, [179, 73786976346377814026], [], 73786976312018075658, [(99999, 0)])
theorem cy_56 (σr : gp_S) : gt_KC gs_sh gs_wx (gx_X σr) cx_56 := gt_chk_ok gs_hx (gx_hx σr) gs_inc (anm := gs_as [(275, [(12, [(2, 2147483648, 2147485248)], [], [], [], 0, 0)])]) (fuel := 3000) (us := [cx_5, cx_55]) (List.forall_mem_cons.mpr ⟨cy_5 σr, List.forall_mem_cons.mpr ⟨cy_55 σr, fun _ h => absurd h List.not_mem_nil⟩⟩) (by decide) (fun p hp => by cases hp) (by decide +kernel)
/-- GravyRound$Reader.readInBrackets -/
def cx_57 : gt_K := (281, 52, [179, 73786976312018075650], [], 73786976312018075658, [(99999, 0)])
theorem cy_57 (σr : gp_S) : gt_KC gs_sh gs_wx (gx_X σr) cx_57 := gt_chk_ok gs_hx (gx_hx σr) gs_inc (anm := gs_as []) (fuel := 3000) (us := [cx_5, cx_56]) (List.forall_mem_cons.mpr ⟨cy_5 σr, List.forall_mem_cons.mpr ⟨cy_56 σr, fun _ h => absurd h List.not_mem_nil⟩⟩) (by decide) (fun p hp => by cases hp) (by decide +kernel)
/-- GravyRound$Reader.readUnit -/
def cx_58 : gt_K := (280, 53, [179, 73786976312018075650], [], 73786976312018075658, [(99999, 0)])
theorem cy_58 (σr : gp_S) : gt_KC gs_sh gs_wx (gx_X σr) cx_58 := gt_chk_ok gs_hx (gx_hx σr) gs_inc (anm := gs_as []) (fuel := 3000) (us := [cx_5, cx_57]) (List.forall_mem_cons.mpr ⟨cy_5 σr, List.forall_mem_cons.mpr ⟨cy_57 σr, fun _ h => absurd h List.not_mem_nil⟩⟩) (by decide) (fun p hp => by cases hp) (by decide +kernel)
/-- GravyRound$Reader.readTerm -/
def cx_59 : gt_K := (279, 54, [179, 73786976312018075650], [], 73786976312018075658, [(99999, 0)])
theorem cy_59 (σr : gp_S) : gt_KC gs_sh gs_wx (gx_X σr) cx_59 := gt_chk_ok gs_hx (gx_hx σr) gs_inc (anm := gs_as [(279, [(12, [(2, 2147483648, 2147485248)], [], [], [], 0, 0)])]) (fuel := 3000) (us := [cx_5, cx_58]) (List.forall_mem_cons.mpr ⟨cy_5 σr, List.forall_mem_cons.mpr ⟨cy_58 σr, fun _ h => absurd h List.not_mem_nil⟩⟩) (by decide) (fun p hp => by cases hp) (by decide +kernel)
/-- GravyRound$Reader.readSum -/
def cx_60 : gt_K := (278, 55, [179, 73786976312018075650], [], 73786976312018075658, [(99999, 0)])
theorem cy_60 (σr : gp_S) : gt_KC gs_sh gs_wx (gx_X σr) cx_60 := gt_chk_ok gs_hx (gx_hx σr) gs_inc (anm := gs_as [(278, [(12, [(2, 2147483648, 2147485248)], [], [], [], 0, 0)])]) (fuel := 3000) (us := [cx_5, cx_59]) (List.forall_mem_cons.mpr ⟨cy_5 σr, List.forall_mem_cons.mpr ⟨cy_59 σr, fun _ h => absurd h List.not_mem_nil⟩⟩) (by decide) (fun p hp => by cases hp) (by decide +kernel)
/-- GravyRound$Reader.readOne -/
def cx_61 : gt_K := (277, 56, [179, 73786976312018075650], [], 73786976312018075658, [(99999, 0)])
theorem cy_61 (σr : gp_S) : gt_KC gs_sh gs_wx (gx_X σr) cx_61 := gt_chk_ok gs_hx (gx_hx σr) gs_inc (anm := gs_as []) (fuel := 3000) (us := [cx_5, cx_54, cx_60]) (List.forall_mem_cons.mpr ⟨cy_5 σr, List.forall_mem_cons.mpr ⟨cy_54 σr, List.forall_mem_cons.mpr ⟨cy_60 σr, fun _ h => absurd h List.not_mem_nil⟩⟩⟩) (by decide) (fun p hp => by cases hp) (by decide +kernel)
/-- GravyRound$Reader.readBoth -/
def cx_62 : gt_K := (276, 57, [179, 73786976312018075650], [], 73786976312018075658, [(99999, 0)])
theorem cy_62 (σr : gp_S) : gt_KC gs_sh gs_wx (gx_X σr) cx_62 := gt_chk_ok gs_hx (gx_hx σr) gs_inc (anm := gs_as [(276, [(12, [(2, 2147483648, 2147485248)], [], [], [], 0, 0)])]) (fuel := 3000) (us := [cx_5, cx_61]) (List.forall_mem_cons.mpr ⟨cy_5 σr, List.forall_mem_cons.mpr ⟨cy_61 σr, fun _ h => absurd h List.not_mem_nil⟩⟩) (by decide) (fun p hp => by cases hp) (by decide +kernel)
