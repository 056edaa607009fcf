/-! the class's contracts, checked by the kernel -/
/-- GravyRound$Reader.readEither -/
def cx_63 : gt_K := (275, 58, [179, 73786976312018075650], [], 73786976312018075658, [(99999, 0)])
theorem cy_63 (σr : gp_S) : gt_KC gs_sh gs_wx (gx_X σr) cx_63 := gt_chk_ok gs_hx (gx_hx σr) gs_inc (anm := gs_as [(275, [(12, [(2, 2147483648, 2147485248)], [], [], [], 0, 0)])]) (fuel := 3000) (us := [cx_5, cx_62]) (List.forall_mem_cons.mpr ⟨cy_5 σr, List.forall_mem_cons.mpr ⟨cy_62 σr, fun _ h => absurd h List.not_mem_nil⟩⟩) (by decide) (fun p hp => by cases hp) (by decide +kernel)
/-- GravyRound$Reader.readCools -/
def cx_64 : gt_K := (274, 59, [179], [], 73786976312018075658, [(99999, 0)])
theorem cy_64 (σr : gp_S) : gt_KC gs_sh gs_wx (gx_X σr) cx_64 := gt_chk_ok gs_hx (gx_hx σr) gs_inc (anm := gs_as []) (fuel := 3000) (us := [cx_5, cx_63]) (List.forall_mem_cons.mpr ⟨cy_5 σr, List.forall_mem_cons.mpr ⟨cy_63 σr, fun _ h => absurd h List.not_mem_nil⟩⟩) (by decide) (fun p hp => by cases hp) (by decide +kernel)
/-- GravyRound$Reader.readSetting -/
def cx_65 : gt_K := (272, 5, [179, 73786976621255728954], [], 73786976312018075658, [(99999, 0)])
theorem cy_65 (σr : gp_S) : gt_KC gs_sh gs_wx (gx_X σr) cx_65 := gt_chk_ok gs_hx (gx_hx σr) gs_inc (anm := gs_as []) (fuel := 3000) (us := [cx_5]) (List.forall_mem_cons.mpr ⟨cy_5 σr, fun _ h => absurd h List.not_mem_nil⟩) (by decide) (fun p hp => by cases hp) (by decide +kernel)
/-- GravyRound$Reader.readFeud -/
def cx_66 : gt_K := (271, 5, [179], [], 73786976312018075658, [(99999, 0)])
theorem cy_66 (σr : gp_S) : gt_KC gs_sh gs_wx (gx_X σr) cx_66 := gt_chk_ok gs_hx (gx_hx σr) gs_inc (anm := gs_as [(255, [(5, [(3, 0, 4294967295), (4, 2147483648, 2147483658)], [], [], [], 1, 0)])]) (fuel := 3000) (us := [cx_5, cx_6]) (List.forall_mem_cons.mpr ⟨cy_5 σr, List.forall_mem_cons.mpr ⟨cy_6 σr, fun _ h => absurd h List.not_mem_nil⟩⟩) (by decide) (fun p hp => by cases hp) (by decide +kernel)
/-- GravyRound$Reader.read -/
def cx_67 : gt_K := (173, 61, [179, 73786976312018088450], [], 73786976312018075658, [(99999, 0)])
theorem cy_67 (σr : gp_S) : gt_KC gs_sh gs_wx (gx_X σr) cx_67 := gt_chk_ok gs_hx (gx_hx σr) gs_inc (anm := gs_as [(173, [(32, [(2, 2147483648, 2147485248)], [], [], [], 0, 0)])]) (fuel := 3000) (us := [cx_5, cx_7, cx_64, cx_65, cx_66]) (List.forall_mem_cons.mpr ⟨cy_5 σr, List.forall_mem_cons.mpr ⟨cy_7 σr, List.forall_mem_cons.mpr ⟨cy_64 σr, List.forall_mem_cons.mpr ⟨cy_65 σr, List.forall_mem_cons.mpr ⟨cy_66 σr, fun _ h => absurd h List.not_mem_nil⟩⟩⟩⟩⟩) (by decide) (fun p hp => by cases hp) (by decide +kernel)
/-- GravyRound$Dinner.copyFrom -/
def cx_68 : gt_K := (176, 2, [19, 99], [], 0, [(99999, 0)])
theorem cy_68 (σr : gp_S) : gt_KC gs_sh gs_wx (gx_X σr) cx_68 := gt_chk_ok gs_hx (gx_hx σr) gs_inc (anm := gs_as []) (fuel := 3000) (us := []) (fun _ h => absurd h List.not_mem_nil) (by decide) (fun p hp => by cases hp) (by decide +kernel)
/-- GravyRound$Table.waitAt -/
def cx_69 : gt_K := (63, 3, [203, 73786976312018075706], [], 34359738362, [(99999, 0)])
theorem cy_69 (σr : gp_S) : gt_KC gs_sh gs_wx (gx_X σr) cx_69 := gt_chk_ok gs_hx (gx_hx σr) gs_inc (anm := gs_as [(255, [(5, [(3, 0, 4294967295), (4, 2147483648, 2147483658)], [], [], [], 1, 0)])]) (fuel := 3000) (us := []) (fun _ h => absurd h List.not_mem_nil) (by decide) (fun p hp => by cases hp) (by decide +kernel)
/-- GravyRound$Table.begin -/
def cx_70 : gt_K := (61, 5, [203], [], 0, [(99999, 0)])
theorem cy_70 (σr : gp_S) : gt_KC gs_sh gs_wx (gx_X σr) cx_70 := gt_chk_ok gs_hx (gx_hx σr) gs_inc (anm := gs_as [(61, [(2, [(1, 2147483648, 2147483655)], [], [], [], 0, 0)])]) (fuel := 3000) (us := [cx_69]) (List.forall_mem_cons.mpr ⟨cy_69 σr, fun _ h => absurd h List.not_mem_nil⟩) (by decide) (fun p hp => by cases hp) (by decide +kernel)
/-- GravyRound$Table.copyFrom -/
def cx_71 : gt_K := (20, 1, [283, 203], [], 0, [(99999, 0)])
theorem cy_71 (σr : gp_S) : gt_KC gs_sh gs_wx (gx_X σr) cx_71 := gt_chk_ok gs_hx (gx_hx σr) gs_inc (anm := gs_as []) (fuel := 3000) (us := []) (fun _ h => absurd h List.not_mem_nil) (by decide) (fun p hp => by cases hp) (by decide +kernel)
/-- GravyRound$Acts.begin -/
def cx_72 : gt_K := (64, 3, [267, 203], [], 0, [(99999, 0)])
theorem cy_72 (σr : gp_S) : gt_KC gs_sh gs_wx (gx_X σr) cx_72 := gt_chk_ok gs_hx (gx_hx σr) gs_inc (anm := gs_as []) (fuel := 3000) (us := [cx_71]) (List.forall_mem_cons.mpr ⟨cy_71 σr, fun _ h => absurd h List.not_mem_nil⟩) (by decide) (fun p hp => by cases hp) (by decide +kernel)
/-- GravyRound$Sights.begin -/
def cx_73 : gt_K := (65, 2, [1731], [], 0, [(99999, 0)])
theorem cy_73 (σr : gp_S) : gt_KC gs_sh gs_wx (gx_X σr) cx_73 := gt_chk_ok gs_hx (gx_hx σr) gs_inc (anm := gs_as [(65, [(7, [(1, 2147483649, 2147483655)], [], [], [], 0, 0)]), (255, [(5, [(3, 0, 4294967295), (4, 2147483648, 2147483658)], [], [], [], 1, 0)])]) (fuel := 3000) (us := []) (fun _ h => absurd h List.not_mem_nil) (by decide) (fun p hp => by cases hp) (by decide +kernel)
/-- GravyRound.beginAsTold -/
def cx_74 : gt_K := (60, 6, [3], [], 0, [(99999, 0)])
theorem cy_74 (σr : gp_S) : gt_KC gs_sh gs_wx (gx_X σr) cx_74 := gt_chk_ok gs_hx (gx_hx σr) gs_inc (anm := gs_as []) (fuel := 3000) (us := [cx_70, cx_72, cx_73]) (List.forall_mem_cons.mpr ⟨cy_70 σr, List.forall_mem_cons.mpr ⟨cy_72 σr, List.forall_mem_cons.mpr ⟨cy_73 σr, fun _ h => absurd h List.not_mem_nil⟩⟩⟩) (by decide) (fun p hp => by cases hp) (by decide +kernel)
/-- GravyRound.dinner -/
def cx_75 : gt_K := (172, 62, [3], [], 73786976277658337338, [(99999, 0)])
theorem cy_75 (σr : gp_S) : gt_KC gs_sh gs_wx (gx_X σr) cx_75 := gt_chk_ok gs_hx (gx_hx σr) gs_inc (anm := gs_as []) (fuel := 3000) (us := [cx_67, cx_68, cx_74]) (List.forall_mem_cons.mpr ⟨cy_67 σr, List.forall_mem_cons.mpr ⟨cy_68 σr, List.forall_mem_cons.mpr ⟨cy_74 σr, fun _ h => absurd h List.not_mem_nil⟩⟩⟩) (by decide) (fun p hp => by cases hp) (by decide +kernel)
/-- GravyRound.fault -/
def cx_76 : gt_K := (171, 1, [3, 34359738362], [], 34359738362, [(99999, 0)])
theorem cy_76 (σr : gp_S) : gt_KC gs_sh gs_wx (gx_X σr) cx_76 := gt_chk_ok gs_hx (gx_hx σr) gs_inc (anm := gs_as []) (fuel := 3000) (us := []) (fun _ h => absurd h List.not_mem_nil) (by decide) (fun p hp => by cases hp) (by decide +kernel)
/-- GravyRound.guest -/
def cx_77 : gt_K := (170, 3, [3, 34359738362, 34359738362], [], 34359738362, [(99999, 0)])
theorem cy_77 (σr : gp_S) : gt_KC gs_sh gs_wx (gx_X σr) cx_77 := gt_chk_ok gs_hx (gx_hx σr) gs_inc (anm := gs_as [(255, [(5, [(3, 0, 4294967295), (4, 2147483648, 2147483658)], [], [], [], 1, 0)]), (299, [(2, [(2, 2147483648, 2147483655)], [], [], [], 0, 0)])]) (fuel := 3000) (us := []) (fun _ h => absurd h List.not_mem_nil) (by decide) (fun p hp => by cases hp) (by decide +kernel)
/-- GravyRound.seat -/
def cx_78 : gt_K := (169, 2, [3, 34359738362], [], 73786976277658337330, [(99999, 0)])
theorem cy_78 (σr : gp_S) : gt_KC gs_sh gs_wx (gx_X σr) cx_78 := gt_chk_ok gs_hx (gx_hx σr) gs_inc (anm := gs_as []) (fuel := 3000) (us := []) (fun _ h => absurd h List.not_mem_nil) (by decide) (fun p hp => by cases hp) (by decide +kernel)
/-- GravyRound.feud -/
def cx_79 : gt_K := (168, 2, [3, 34359738362, 34359738362], [], 73786976277658337330, [(99999, 0)])
theorem cy_79 (σr : gp_S) : gt_KC gs_sh gs_wx (gx_X σr) cx_79 := gt_chk_ok gs_hx (gx_hx σr) gs_inc (anm := gs_as []) (fuel := 3000) (us := []) (fun _ h => absurd h List.not_mem_nil) (by decide) (fun p hp => by cases hp) (by decide +kernel)
/-- GravyRound$Formula.worth -/
def cx_80 : gt_K := (257, 3, [67, 34359738362, 34359738362, 34359738362, 73786976312018075810, 73786976312018075706], [], 34359738362, [(99999, 0)])
theorem cy_80 (σr : gp_S) : gt_KC gs_sh gs_wx (gx_X σr) cx_80 := gt_chk_ok gs_hx (gx_hx σr) gs_inc (anm := gs_as [(257, [(43, [(6, 2147483648, 2147483680), (7, 2147483648, 2147483948)], [], [], [], 1, 0)])]) (fuel := 3000) (us := []) (fun _ h => absurd h List.not_mem_nil) (by decide) (fun p hp => by cases hp) (by decide +kernel)
/-- GravyRound$Dinner.cooled -/
def cx_81 : gt_K := (6, 4, [19, 34359738362, 34359738362, 34359738362, 73786976312018075810], [], 73786976329197944826, [(99999, 0)])
theorem cy_81 (σr : gp_S) : gt_KC gs_sh gs_wx (gx_X σr) cx_81 := gt_chk_ok gs_hx (gx_hx σr) gs_inc (anm := gs_as []) (fuel := 3000) (us := [cx_80]) (List.forall_mem_cons.mpr ⟨cy_80 σr, fun _ h => absurd h List.not_mem_nil⟩) (by decide) (fun p hp => by cases hp) (by decide +kernel)
/-- GravyRound$Table.pass -/
def cx_82 : gt_K := (305, 6, [203, 73786976346377814026], [], 73786976277658337330, [(99999, 0)])
theorem cy_82 (σr : gp_S) : gt_KC gs_sh gs_wx (gx_X σr) cx_82 := gt_chk_ok gs_hx (gx_hx σr) gs_inc (anm := gs_as []) (fuel := 3000) (us := [cx_69, cx_81]) (List.forall_mem_cons.mpr ⟨cy_69 σr, List.forall_mem_cons.mpr ⟨cy_81 σr, fun _ h => absurd h List.not_mem_nil⟩⟩) (by decide) (fun p hp => by cases hp) (by decide +kernel)
/-- GravyRound$Table.copyFrom -/
def cx_83 : gt_K := (20, 1, [315, 203], [], 0, [(99999, 0)])
theorem cy_83 (σr : gp_S) : gt_KC gs_sh gs_wx (gx_X σr) cx_83 := gt_chk_ok gs_hx (gx_hx σr) gs_inc (anm := gs_as []) (fuel := 3000) (us := []) (fun _ h => absurd h List.not_mem_nil) (by decide) (fun p hp => by cases hp) (by decide +kernel)
/-- GravyRound$Table.copyFrom -/
def cx_84 : gt_K := (20, 1, [347, 203], [], 0, [(99999, 0)])
theorem cy_84 (σr : gp_S) : gt_KC gs_sh gs_wx (gx_X σr) cx_84 := gt_chk_ok gs_hx (gx_hx σr) gs_inc (anm := gs_as []) (fuel := 3000) (us := []) (fun _ h => absurd h List.not_mem_nil) (by decide) (fun p hp => by cases hp) (by decide +kernel)
/-- GravyRound$Table.copyFrom -/
def cx_85 : gt_K := (20, 1, [379, 203], [], 0, [(99999, 0)])
theorem cy_85 (σr : gp_S) : gt_KC gs_sh gs_wx (gx_X σr) cx_85 := gt_chk_ok gs_hx (gx_hx σr) gs_inc (anm := gs_as []) (fuel := 3000) (us := []) (fun _ h => absurd h List.not_mem_nil) (by decide) (fun p hp => by cases hp) (by decide +kernel)
/-- GravyRound$Table.copyFrom -/
def cx_86 : gt_K := (20, 1, [411, 203], [], 0, [(99999, 0)])
theorem cy_86 (σr : gp_S) : gt_KC gs_sh gs_wx (gx_X σr) cx_86 := gt_chk_ok gs_hx (gx_hx σr) gs_inc (anm := gs_as []) (fuel := 3000) (us := []) (fun _ h => absurd h List.not_mem_nil) (by decide) (fun p hp => by cases hp) (by decide +kernel)
/-- GravyRound$Table.copyFrom -/
def cx_87 : gt_K := (20, 1, [443, 203], [], 0, [(99999, 0)])
theorem cy_87 (σr : gp_S) : gt_KC gs_sh gs_wx (gx_X σr) cx_87 := gt_chk_ok gs_hx (gx_hx σr) gs_inc (anm := gs_as []) (fuel := 3000) (us := []) (fun _ h => absurd h List.not_mem_nil) (by decide) (fun p hp => by cases hp) (by decide +kernel)
/-- GravyRound$Table.copyFrom -/
def cx_88 : gt_K := (20, 1, [475, 203], [], 0, [(99999, 0)])
theorem cy_88 (σr : gp_S) : gt_KC gs_sh gs_wx (gx_X σr) cx_88 := gt_chk_ok gs_hx (gx_hx σr) gs_inc (anm := gs_as []) (fuel := 3000) (us := []) (fun _ h => absurd h List.not_mem_nil) (by decide) (fun p hp => by cases hp) (by decide +kernel)
/-- GravyRound$Table.copyFrom -/
def cx_89 : gt_K := (20, 1, [507, 203], [], 0, [(99999, 0)])
theorem cy_89 (σr : gp_S) : gt_KC gs_sh gs_wx (gx_X σr) cx_89 := gt_chk_ok gs_hx (gx_hx σr) gs_inc (anm := gs_as []) (fuel := 3000) (us := []) (fun _ h => absurd h List.not_mem_nil) (by decide) (fun p hp => by cases hp) (by decide +kernel)
/-- GravyRound$Table.copyFrom -/
def cx_90 : gt_K := (20, 1, [539, 203], [], 0, [(99999, 0)])
theorem cy_90 (σr : gp_S) : gt_KC gs_sh gs_wx (gx_X σr) cx_90 := gt_chk_ok gs_hx (gx_hx σr) gs_inc (anm := gs_as []) (fuel := 3000) (us := []) (fun _ h => absurd h List.not_mem_nil) (by decide) (fun p hp => by cases hp) (by decide +kernel)
/-- GravyRound$Table.copyFrom -/
def cx_91 : gt_K := (20, 1, [571, 203], [], 0, [(99999, 0)])
theorem cy_91 (σr : gp_S) : gt_KC gs_sh gs_wx (gx_X σr) cx_91 := gt_chk_ok gs_hx (gx_hx σr) gs_inc (anm := gs_as []) (fuel := 3000) (us := []) (fun _ h => absurd h List.not_mem_nil) (by decide) (fun p hp => by cases hp) (by decide +kernel)
/-- GravyRound$Table.copyFrom -/
def cx_92 : gt_K := (20, 1, [603, 203], [], 0, [(99999, 0)])
theorem cy_92 (σr : gp_S) : gt_KC gs_sh gs_wx (gx_X σr) cx_92 := gt_chk_ok gs_hx (gx_hx σr) gs_inc (anm := gs_as []) (fuel := 3000) (us := []) (fun _ h => absurd h List.not_mem_nil) (by decide) (fun p hp => by cases hp) (by decide +kernel)
/-- GravyRound$Table.copyFrom -/
def cx_93 : gt_K := (20, 1, [635, 203], [], 0, [(99999, 0)])
theorem cy_93 (σr : gp_S) : gt_KC gs_sh gs_wx (gx_X σr) cx_93 := gt_chk_ok gs_hx (gx_hx σr) gs_inc (anm := gs_as []) (fuel := 3000) (us := []) (fun _ h => absurd h List.not_mem_nil) (by decide) (fun p hp => by cases hp) (by decide +kernel)
/-- GravyRound$Table.copyFrom -/
def cx_94 : gt_K := (20, 1, [667, 203], [], 0, [(99999, 0)])
theorem cy_94 (σr : gp_S) : gt_KC gs_sh gs_wx (gx_X σr) cx_94 := gt_chk_ok gs_hx (gx_hx σr) gs_inc (anm := gs_as []) (fuel := 3000) (us := []) (fun _ h => absurd h List.not_mem_nil) (by decide) (fun p hp => by cases hp) (by decide +kernel)
/-- GravyRound$Table.copyFrom -/
def cx_95 : gt_K := (20, 1, [699, 203], [], 0, [(99999, 0)])
theorem cy_95 (σr : gp_S) : gt_KC gs_sh gs_wx (gx_X σr) cx_95 := gt_chk_ok gs_hx (gx_hx σr) gs_inc (anm := gs_as []) (fuel := 3000) (us := []) (fun _ h => absurd h List.not_mem_nil) (by decide) (fun p hp => by cases hp) (by decide +kernel)
/-- GravyRound$Table.copyFrom -/
def cx_96 : gt_K := (20, 1, [731, 203], [], 0, [(99999, 0)])
theorem cy_96 (σr : gp_S) : gt_KC gs_sh gs_wx (gx_X σr) cx_96 := gt_chk_ok gs_hx (gx_hx σr) gs_inc (anm := gs_as []) (fuel := 3000) (us := []) (fun _ h => absurd h List.not_mem_nil) (by decide) (fun p hp => by cases hp) (by decide +kernel)
/-- GravyRound$Table.copyFrom -/
def cx_97 : gt_K := (20, 1, [763, 203], [], 0, [(99999, 0)])
theorem cy_97 (σr : gp_S) : gt_KC gs_sh gs_wx (gx_X σr) cx_97 := gt_chk_ok gs_hx (gx_hx σr) gs_inc (anm := gs_as []) (fuel := 3000) (us := []) (fun _ h => absurd h List.not_mem_nil) (by decide) (fun p hp => by cases hp) (by decide +kernel)
/-- GravyRound$Table.copyFrom -/
def cx_98 : gt_K := (20, 1, [795, 203], [], 0, [(99999, 0)])
theorem cy_98 (σr : gp_S) : gt_KC gs_sh gs_wx (gx_X σr) cx_98 := gt_chk_ok gs_hx (gx_hx σr) gs_inc (anm := gs_as []) (fuel := 3000) (us := []) (fun _ h => absurd h List.not_mem_nil) (by decide) (fun p hp => by cases hp) (by decide +kernel)
/-- GravyRound$Table.copyFrom -/
def cx_99 : gt_K := (20, 1, [827, 203], [], 0, [(99999, 0)])
theorem cy_99 (σr : gp_S) : gt_KC gs_sh gs_wx (gx_X σr) cx_99 := gt_chk_ok gs_hx (gx_hx σr) gs_inc (anm := gs_as []) (fuel := 3000) (us := []) (fun _ h => absurd h List.not_mem_nil) (by decide) (fun p hp => by cases hp) (by decide +kernel)
/-- GravyRound$Table.copyFrom -/
def cx_100 : gt_K := (20, 1, [859, 203], [], 0, [(99999, 0)])
theorem cy_100 (σr : gp_S) : gt_KC gs_sh gs_wx (gx_X σr) cx_100 := gt_chk_ok gs_hx (gx_hx σr) gs_inc (anm := gs_as []) (fuel := 3000) (us := []) (fun _ h => absurd h List.not_mem_nil) (by decide) (fun p hp => by cases hp) (by decide +kernel)
/-- GravyRound$Table.copyFrom -/
def cx_101 : gt_K := (20, 1, [891, 203], [], 0, [(99999, 0)])
theorem cy_101 (σr : gp_S) : gt_KC gs_sh gs_wx (gx_X σr) cx_101 := gt_chk_ok gs_hx (gx_hx σr) gs_inc (anm := gs_as []) (fuel := 3000) (us := []) (fun _ h => absurd h List.not_mem_nil) (by decide) (fun p hp => by cases hp) (by decide +kernel)
/-- GravyRound$Table.copyFrom -/
def cx_102 : gt_K := (20, 1, [923, 203], [], 0, [(99999, 0)])
theorem cy_102 (σr : gp_S) : gt_KC gs_sh gs_wx (gx_X σr) cx_102 := gt_chk_ok gs_hx (gx_hx σr) gs_inc (anm := gs_as []) (fuel := 3000) (us := []) (fun _ h => absurd h List.not_mem_nil) (by decide) (fun p hp => by cases hp) (by decide +kernel)
/-- GravyRound$Table.copyFrom -/
def cx_103 : gt_K := (20, 1, [955, 203], [], 0, [(99999, 0)])
theorem cy_103 (σr : gp_S) : gt_KC gs_sh gs_wx (gx_X σr) cx_103 := gt_chk_ok gs_hx (gx_hx σr) gs_inc (anm := gs_as []) (fuel := 3000) (us := []) (fun _ h => absurd h List.not_mem_nil) (by decide) (fun p hp => by cases hp) (by decide +kernel)
/-- GravyRound$Table.copyFrom -/
def cx_104 : gt_K := (20, 1, [987, 203], [], 0, [(99999, 0)])
theorem cy_104 (σr : gp_S) : gt_KC gs_sh gs_wx (gx_X σr) cx_104 := gt_chk_ok gs_hx (gx_hx σr) gs_inc (anm := gs_as []) (fuel := 3000) (us := []) (fun _ h => absurd h List.not_mem_nil) (by decide) (fun p hp => by cases hp) (by decide +kernel)
/-- GravyRound$Table.copyFrom -/
def cx_105 : gt_K := (20, 1, [1019, 203], [], 0, [(99999, 0)])
theorem cy_105 (σr : gp_S) : gt_KC gs_sh gs_wx (gx_X σr) cx_105 := gt_chk_ok gs_hx (gx_hx σr) gs_inc (anm := gs_as []) (fuel := 3000) (us := []) (fun _ h => absurd h List.not_mem_nil) (by decide) (fun p hp => by cases hp) (by decide +kernel)
/-- GravyRound$Table.copyFrom -/
def cx_106 : gt_K := (20, 1, [1051, 203], [], 0, [(99999, 0)])
theorem cy_106 (σr : gp_S) : gt_KC gs_sh gs_wx (gx_X σr) cx_106 := gt_chk_ok gs_hx (gx_hx σr) gs_inc (anm := gs_as []) (fuel := 3000) (us := []) (fun _ h => absurd h List.not_mem_nil) (by decide) (fun p hp => by cases hp) (by decide +kernel)
/-- GravyRound$Table.copyFrom -/
def cx_107 : gt_K := (20, 1, [1083, 203], [], 0, [(99999, 0)])
theorem cy_107 (σr : gp_S) : gt_KC gs_sh gs_wx (gx_X σr) cx_107 := gt_chk_ok gs_hx (gx_hx σr) gs_inc (anm := gs_as []) (fuel := 3000) (us := []) (fun _ h => absurd h List.not_mem_nil) (by decide) (fun p hp => by cases hp) (by decide +kernel)
/-- GravyRound$Table.copyFrom -/
def cx_108 : gt_K := (20, 1, [1115, 203], [], 0, [(99999, 0)])
theorem cy_108 (σr : gp_S) : gt_KC gs_sh gs_wx (gx_X σr) cx_108 := gt_chk_ok gs_hx (gx_hx σr) gs_inc (anm := gs_as []) (fuel := 3000) (us := []) (fun _ h => absurd h List.not_mem_nil) (by decide) (fun p hp => by cases hp) (by decide +kernel)
/-- GravyRound$Table.copyFrom -/
def cx_109 : gt_K := (20, 1, [1147, 203], [], 0, [(99999, 0)])
theorem cy_109 (σr : gp_S) : gt_KC gs_sh gs_wx (gx_X σr) cx_109 := gt_chk_ok gs_hx (gx_hx σr) gs_inc (anm := gs_as []) (fuel := 3000) (us := []) (fun _ h => absurd h List.not_mem_nil) (by decide) (fun p hp => by cases hp) (by decide +kernel)
/-- GravyRound$Table.copyFrom -/
def cx_110 : gt_K := (20, 1, [1179, 203], [], 0, [(99999, 0)])
theorem cy_110 (σr : gp_S) : gt_KC gs_sh gs_wx (gx_X σr) cx_110 := gt_chk_ok gs_hx (gx_hx σr) gs_inc (anm := gs_as []) (fuel := 3000) (us := []) (fun _ h => absurd h List.not_mem_nil) (by decide) (fun p hp => by cases hp) (by decide +kernel)
/-- GravyRound$Table.copyFrom -/
def cx_111 : gt_K := (20, 1, [1211, 203], [], 0, [(99999, 0)])
theorem cy_111 (σr : gp_S) : gt_KC gs_sh gs_wx (gx_X σr) cx_111 := gt_chk_ok gs_hx (gx_hx σr) gs_inc (anm := gs_as []) (fuel := 3000) (us := []) (fun _ h => absurd h List.not_mem_nil) (by decide) (fun p hp => by cases hp) (by decide +kernel)
/-- GravyRound$Table.copyFrom -/
def cx_112 : gt_K := (20, 1, [1243, 203], [], 0, [(99999, 0)])
theorem cy_112 (σr : gp_S) : gt_KC gs_sh gs_wx (gx_X σr) cx_112 := gt_chk_ok gs_hx (gx_hx σr) gs_inc (anm := gs_as []) (fuel := 3000) (us := []) (fun _ h => absurd h List.not_mem_nil) (by decide) (fun p hp => by cases hp) (by decide +kernel)
/-- GravyRound$Table.copyFrom -/
def cx_113 : gt_K := (20, 1, [1275, 203], [], 0, [(99999, 0)])
theorem cy_113 (σr : gp_S) : gt_KC gs_sh gs_wx (gx_X σr) cx_113 := gt_chk_ok gs_hx (gx_hx σr) gs_inc (anm := gs_as []) (fuel := 3000) (us := []) (fun _ h => absurd h List.not_mem_nil) (by decide) (fun p hp => by cases hp) (by decide +kernel)
/-- GravyRound$Table.copyFrom -/
def cx_114 : gt_K := (20, 1, [1307, 203], [], 0, [(99999, 0)])
theorem cy_114 (σr : gp_S) : gt_KC gs_sh gs_wx (gx_X σr) cx_114 := gt_chk_ok gs_hx (gx_hx σr) gs_inc (anm := gs_as []) (fuel := 3000) (us := []) (fun _ h => absurd h List.not_mem_nil) (by decide) (fun p hp => by cases hp) (by decide +kernel)
/-- GravyRound$Table.copyFrom -/
def cx_115 : gt_K := (20, 1, [1339, 203], [], 0, [(99999, 0)])
theorem cy_115 (σr : gp_S) : gt_KC gs_sh gs_wx (gx_X σr) cx_115 := gt_chk_ok gs_hx (gx_hx σr) gs_inc (anm := gs_as []) (fuel := 3000) (us := []) (fun _ h => absurd h List.not_mem_nil) (by decide) (fun p hp => by cases hp) (by decide +kernel)
/-- GravyRound$Table.copyFrom -/
def cx_116 : gt_K := (20, 1, [1371, 203], [], 0, [(99999, 0)])
theorem cy_116 (σr : gp_S) : gt_KC gs_sh gs_wx (gx_X σr) cx_116 := gt_chk_ok gs_hx (gx_hx σr) gs_inc (anm := gs_as []) (fuel := 3000) (us := []) (fun _ h => absurd h List.not_mem_nil) (by decide) (fun p hp => by cases hp) (by decide +kernel)
/-- GravyRound$Table.copyFrom -/
def cx_117 : gt_K := (20, 1, [1403, 203], [], 0, [(99999, 0)])
theorem cy_117 (σr : gp_S) : gt_KC gs_sh gs_wx (gx_X σr) cx_117 := gt_chk_ok gs_hx (gx_hx σr) gs_inc (anm := gs_as []) (fuel := 3000) (us := []) (fun _ h => absurd h List.not_mem_nil) (by decide) (fun p hp => by cases hp) (by decide +kernel)
/-- GravyRound$Table.copyFrom -/
def cx_118 : gt_K := (20, 1, [1435, 203], [], 0, [(99999, 0)])
theorem cy_118 (σr : gp_S) : gt_KC gs_sh gs_wx (gx_X σr) cx_118 := gt_chk_ok gs_hx (gx_hx σr) gs_inc (anm := gs_as []) (fuel := 3000) (us := []) (fun _ h => absurd h List.not_mem_nil) (by decide) (fun p hp => by cases hp) (by decide +kernel)
/-- GravyRound$Table.copyFrom -/
def cx_119 : gt_K := (20, 1, [1467, 203], [], 0, [(99999, 0)])
theorem cy_119 (σr : gp_S) : gt_KC gs_sh gs_wx (gx_X σr) cx_119 := gt_chk_ok gs_hx (gx_hx σr) gs_inc (anm := gs_as []) (fuel := 3000) (us := []) (fun _ h => absurd h List.not_mem_nil) (by decide) (fun p hp => by cases hp) (by decide +kernel)
/-- GravyRound$Table.copyFrom -/
def cx_120 : gt_K := (20, 1, [1499, 203], [], 0, [(99999, 0)])
theorem cy_120 (σr : gp_S) : gt_KC gs_sh gs_wx (gx_X σr) cx_120 := gt_chk_ok gs_hx (gx_hx σr) gs_inc (anm := gs_as []) (fuel := 3000) (us := []) (fun _ h => absurd h List.not_mem_nil) (by decide) (fun p hp => by cases hp) (by decide +kernel)
/-- GravyRound$Table.copyFrom -/
def cx_121 : gt_K := (20, 1, [1531, 203], [], 0, [(99999, 0)])
theorem cy_121 (σr : gp_S) : gt_KC gs_sh gs_wx (gx_X σr) cx_121 := gt_chk_ok gs_hx (gx_hx σr) gs_inc (anm := gs_as []) (fuel := 3000) (us := []) (fun _ h => absurd h List.not_mem_nil) (by decide) (fun p hp => by cases hp) (by decide +kernel)
/-- GravyRound$Table.copyFrom -/
def cx_122 : gt_K := (20, 1, [1563, 203], [], 0, [(99999, 0)])
theorem cy_122 (σr : gp_S) : gt_KC gs_sh gs_wx (gx_X σr) cx_122 := gt_chk_ok gs_hx (gx_hx σr) gs_inc (anm := gs_as []) (fuel := 3000) (us := []) (fun _ h => absurd h List.not_mem_nil) (by decide) (fun p hp => by cases hp) (by decide +kernel)
/-- GravyRound$Acts.add -/
def cx_123 : gt_K := (81, 3, [267, 203], [], 0, [(99999, 0)])
theorem cy_123 (σr : gp_S) : gt_KC gs_sh gs_wx (gx_X σr) cx_123 := gt_chk_ok gs_hx (gx_hx σr) gs_inc (anm := gs_as []) (fuel := 3000) (us := [cx_71, cx_83, cx_84, cx_85, cx_86, cx_87, cx_88, cx_89, cx_90, cx_91, cx_92, cx_93, cx_94, cx_95, cx_96, cx_97, cx_98, cx_99, cx_100, cx_101, cx_102, cx_103, cx_104, cx_105, cx_106, cx_107, cx_108, cx_109, cx_110, cx_111, cx_112, cx_113, cx_114, cx_115, cx_116, cx_117, cx_118, cx_119, cx_120, cx_121, cx_122]) (List.forall_mem_cons.mpr ⟨cy_71 σr, List.forall_mem_cons.mpr ⟨cy_83 σr, List.forall_mem_cons.mpr ⟨cy_84 σr, List.forall_mem_cons.mpr ⟨cy_85 σr, List.forall_mem_cons.mpr ⟨cy_86 σr, List.forall_mem_cons.mpr ⟨cy_87 σr, List.forall_mem_cons.mpr ⟨cy_88 σr, List.forall_mem_cons.mpr ⟨cy_89 σr, List.forall_mem_cons.mpr ⟨cy_90 σr, List.forall_mem_cons.mpr ⟨cy_91 σr, List.forall_mem_cons.mpr ⟨cy_92 σr, List.forall_mem_cons.mpr ⟨cy_93 σr, List.forall_mem_cons.mpr ⟨cy_94 σr, List.forall_mem_cons.mpr ⟨cy_95 σr, List.forall_mem_cons.mpr ⟨cy_96 σr, List.forall_mem_cons.mpr ⟨cy_97 σr, List.forall_mem_cons.mpr ⟨cy_98 σr, List.forall_mem_cons.mpr ⟨cy_99 σr, List.forall_mem_cons.mpr ⟨cy_100 σr, List.forall_mem_cons.mpr ⟨cy_101 σr, List.forall_mem_cons.mpr ⟨cy_102 σr, List.forall_mem_cons.mpr ⟨cy_103 σr, List.forall_mem_cons.mpr ⟨cy_104 σr, List.forall_mem_cons.mpr ⟨cy_105 σr, List.forall_mem_cons.mpr ⟨cy_106 σr, List.forall_mem_cons.mpr ⟨cy_107 σr, List.forall_mem_cons.mpr ⟨cy_108 σr, List.forall_mem_cons.mpr ⟨cy_109 σr, List.forall_mem_cons.mpr ⟨cy_110 σr, List.forall_mem_cons.mpr ⟨cy_111 σr, List.forall_mem_cons.mpr ⟨cy_112 σr, List.forall_mem_cons.mpr ⟨cy_113 σr, List.forall_mem_cons.mpr ⟨cy_114 σr, List.forall_mem_cons.mpr ⟨cy_115 σr, List.forall_mem_cons.mpr ⟨cy_116 σr, List.forall_mem_cons.mpr ⟨cy_117 σr, List.forall_mem_cons.mpr ⟨cy_118 σr, List.forall_mem_cons.mpr ⟨cy_119 σr, List.forall_mem_cons.mpr ⟨cy_120 σr, List.forall_mem_cons.mpr ⟨cy_121 σr, List.forall_mem_cons.mpr ⟨cy_122 σr, fun _ h => absurd h List.not_mem_nil⟩⟩⟩⟩⟩⟩⟩⟩⟩⟩⟩⟩⟩⟩⟩⟩⟩⟩⟩⟩⟩⟩⟩⟩⟩⟩⟩⟩⟩⟩⟩⟩⟩⟩⟩⟩⟩⟩⟩⟩⟩) (by decide) (fun p hp => by cases hp) (by decide +kernel)
/-- GravyRound.minute -/
def cx_124 : gt_K := (166, 7, [3], [], 73786976243298598962, [(99999, 0)])
theorem cy_124 (σr : gp_S) : gt_KC gs_sh gs_wx (gx_X σr) cx_124 := gt_chk_ok gs_hx (gx_hx σr) gs_inc (anm := gs_as []) (fuel := 3000) (us := [cx_82, cx_123]) (List.forall_mem_cons.mpr ⟨cy_82 σr, List.forall_mem_cons.mpr ⟨cy_123 σr, fun _ h => absurd h List.not_mem_nil⟩⟩) (by decide) (fun p hp => by cases hp) (by decide +kernel)
/-- GravyRound$Table.minutesToGo -/
def cx_125 : gt_K := (79, 4, [203], [], 34359738362, [(99999, 0)])
theorem cy_125 (σr : gp_S) : gt_KC gs_sh gs_wx (gx_X σr) cx_125 := gt_chk_ok gs_hx (gx_hx σr) gs_inc (anm := gs_as [(79, [(12, [(1, 0, 4294967295), (2, 2147483649, 2147483656)], [], [(25, 6), (25, 7)], [], 1, 0)])]) (fuel := 3000) (us := [cx_69]) (List.forall_mem_cons.mpr ⟨cy_69 σr, fun _ h => absurd h List.not_mem_nil⟩) (by decide) (fun p hp => by cases hp) (by decide +kernel)
