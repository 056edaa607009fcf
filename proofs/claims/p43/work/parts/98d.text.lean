/-! the signs' text: String.indexOf(int) on it -/
def gx_tx : String := ";()<>=+-*/%"
def gx_sg : List Nat := [59, 40, 41, 60, 62, 61, 43, 45, 42, 47, 37]
def gx_by : List Int32 := gx_sg.map nI
def ty_F (oa : Nat → Nat) (n0 : Nat) (U : State) : Prop := vk_S 1 [11] [gx_by] (fun _ => oa 3) (fun _ => oa 4) (fun q => n0 ≤ q) U U.heap ∧ va_Z "java/lang/String" "COMPACT_STRINGS" "Z" (.int 1) (fun q => n0 ≤ q) U U.heap ∧ va_Zq "jdk/internal/util/Preconditions" "SIOOBE_FORMATTER" "Ljava/util/function/BiFunction;" (fun q => n0 ≤ q) U U.heap
def ty_P (oa : Nat → Nat) (n0 : Nat) (vs : List Value) : Array Value → State → Prop := fun v U => v = vs.toArray ∧ ty_F oa n0 U

theorem ty_F.tr {oa : Nat → Nat} {n0 : Nat} {s U : State} {H : Heap} {locs : List Loc} (ho : ty_F oa n0 s) (hS : va_S (fun q => n0 ≤ q) s.heap H locs) (hU : U.heap = H) (hW : s.WarmedH U.vm) : ty_F oa n0 U := by
  obtain ⟨h1, h2, h3⟩ := ho
  refine ⟨?_, ?_, ?_⟩
  · rw [hU]; exact vk_S.moved hW.alike (h1.kept hS.2.1)
  · rw [hU]; exact va_Z.moved hW.alike (h2.kept hS.2.1)
  · rw [hU]; exact va_Zq.moved hW.alike (h3.kept hS.2.1)
theorem ty_blind {oa : Nat → Nat} {n0 : Nat} {vs : List Value} : FrameBlind (ty_P oa n0 vs) := by
  intro a U g mk hp
  obtain ⟨h0, h1, h2, h3⟩ := hp
  exact ⟨h0, vk_S.moved (u := U) (U := U.calling g mk a) (Vm.Alike.refl U.vm) h1, va_Z.moved (u := U) (U := U.calling g mk a) (Vm.Alike.refl U.vm) h2, va_Zq.moved (u := U) (U := U.calling g mk a) (Vm.Alike.refl U.vm) h3⟩

set_option maxHeartbeats 1000000 in
theorem d_cdr (l : Launch) (oa : Nat → Nat) (n0 : Nat) : Met l y_cdr tw_cdr (tx_rm 1) (ty_P oa n0 [.ref (oa 3)]) (tx_Qi 0) 0 0 (fun _ => False) := by
  refine Met_ofWF (cc := prog_18_method_152_code) (maxL := 1) (ret := some .byte) (by decide +kernel) rfl ?_
  intro p e s m args below meth c s₁ B hml hv
  obtain ⟨rfl, hT, hZ, hZq⟩ := hv
  have hx := B.exec
  have hb := B.bytes
  have hr := B.returns
  have hts0 := atoms_spec (ws := tw_cdr) B.pre
  have hts : ∀ w ∈ gw_tbl, w.before [Value.ref (oa 3)].toArray s = true := fun w hw => hts0 w (List.mem_cons_of_mem _ hw)
  have hown : s.vm.findClass "java/lang/String" = some m.cls := findClass_of_methodNamed B.named
  have hlocks := B.notSynchronized
  have hS : va_S (fun q => n0 ≤ q) s.heap s.heap [] := va_S.rf
  have hl := lv_entry ([.ref (oa 3)]) (n := 1) (Nat.le_of_ble_eq_true rfl)
  rw [lg_entry_eq]
  generalize (lg_sl ([.ref (oa 3)]) ++ List.replicate (1 - (lg_sl ([.ref (oa 3)])).length) Slot.unset).toArray = ls at hl ⊢
  have hl : lv_has ls 1 [(0, .ref (oa 3))] := hl
  refine va_gets hx hb hZ hS hown (hts _ tf_cs) (fun _ q => q) (show decode prog_18_method_152_code 0 = .ok (.getstatic 38, 3) by decide +kernel) ?_
  refine lv_if_eq (tgt := 13) hx hb (show decode prog_18_method_152_code 3 = .ok (.ifCond .eq 10, 3) by decide +kernel) (by decide) (fun q => absurd q (by decide)) (fun _ => ?_)
  refine lv_aload_n hx hb (show decode prog_18_method_152_code 6 = .ok (.aload_n 0, 1) by decide +kernel) rfl (lv_at hl 0 rfl) ?_
  refine vk_getf hx hb (hT.1 0 (by decide)).2.1 hS hown (hts _ tf_cdr) (fun _ q => q) (show decode prog_18_method_152_code 7 = .ok (.getfield 15, 3) by decide +kernel) ?_
  refine lv_goto (tgt := 14) hx hb (show decode prog_18_method_152_code 10 = .ok (.goto 4, 3) by decide +kernel) (by decide) ?_
  exact W.zret hx hb hr (by decide +kernel) (fun t ht hW => ⟨rfl, ht⟩) (fun q hq => by cases hq) (show decode prog_18_method_152_code 14 = .ok (.ireturn, 1) by decide +kernel) hlocks
set_option maxHeartbeats 1000000 in
theorem d_lat (l : Launch) (oa : Nat → Nat) (n0 : Nat) : Met l y_lat tw_lat (tx_rm 1) (ty_P oa n0 [.ref (oa 3)]) (tx_Qi 1) 0 0 (fun _ => False) := by
  refine Met_ofWF (cc := prog_18_method_154_code) (maxL := 1) (ret := some .boolean) (by decide +kernel) rfl ?_
  intro p e s m args below meth c s₁ B hml hv
  obtain ⟨rfl, hT, hZ, hZq⟩ := hv
  have hx := B.exec
  have hb := B.bytes
  have hr := B.returns
  have hts0 := atoms_spec (ws := tw_lat) B.pre
  have hts : ∀ w ∈ gw_tbl, w.before [Value.ref (oa 3)].toArray s = true := fun w hw => hts0 w (List.mem_cons_of_mem _ hw)
  have hown : s.vm.findClass "java/lang/String" = some m.cls := findClass_of_methodNamed B.named
  have hlocks := B.notSynchronized
  have hS : va_S (fun q => n0 ≤ q) s.heap s.heap [] := va_S.rf
  have hl := lv_entry ([.ref (oa 3)]) (n := 1) (Nat.le_of_ble_eq_true rfl)
  rw [lg_entry_eq]
  generalize (lg_sl ([.ref (oa 3)]) ++ List.replicate (1 - (lg_sl ([.ref (oa 3)])).length) Slot.unset).toArray = ls at hl ⊢
  have hl : lv_has ls 1 [(0, .ref (oa 3))] := hl
  refine va_gets hx hb hZ hS hown (hts _ tf_cs) (fun _ q => q) (show decode prog_18_method_154_code 0 = .ok (.getstatic 38, 3) by decide +kernel) ?_
  refine lv_if_eq (tgt := 17) hx hb (show decode prog_18_method_154_code 3 = .ok (.ifCond .eq 14, 3) by decide +kernel) (by decide) (fun q => absurd q (by decide)) (fun _ => ?_)
  refine lv_aload_n hx hb (show decode prog_18_method_154_code 6 = .ok (.aload_n 0, 1) by decide +kernel) rfl (lv_at hl 0 rfl) ?_
  refine vk_getf hx hb (hT.1 0 (by decide)).2.1 hS hown (hts _ tf_cdr) (fun _ q => q) (show decode prog_18_method_154_code 7 = .ok (.getfield 15, 3) by decide +kernel) ?_
  refine lv_if_ne (tgt := 17) hx hb (show decode prog_18_method_154_code 10 = .ok (.ifCond .ne 7, 3) by decide +kernel) (by decide) (fun q => absurd rfl q) (fun _ => ?_)
  refine lv_iconst (v := 1) hx hb (show decode prog_18_method_154_code 13 = .ok (.iconst 1, 1) by decide +kernel) (by decide) ?_
  refine lv_goto (tgt := 18) hx hb (show decode prog_18_method_154_code 14 = .ok (.goto 4, 3) by decide +kernel) (by decide) ?_
  exact W.zret hx hb hr (by decide +kernel) (fun t ht hW => ⟨rfl, ht⟩) (fun q hq => by cases hq) (show decode prog_18_method_154_code 18 = .ok (.ireturn, 1) by decide +kernel) hlocks
set_option maxHeartbeats 1000000 in
theorem d_len (l : Launch) (oa : Nat → Nat) (n0 : Nat) : Met l ga_yLen tw_len (tx_rm 2) (ty_P oa n0 [.ref (oa 3)]) (tx_Qi (nI 11)) 0 0 (fun _ => False) := by
  refine Met_ofWF (cc := prog_18_method_54_code) (maxL := 1) (ret := some .int) (by decide +kernel) rfl ?_
  intro p e s m args below meth c s₁ B hml hv
  obtain ⟨rfl, hT, hZ, hZq⟩ := hv
  have hx := B.exec
  have hb := B.bytes
  have hr := B.returns
  have hts0 := atoms_spec (ws := tw_len) B.pre
  have hts : ∀ w ∈ gw_tbl, w.before [Value.ref (oa 3)].toArray s = true := fun w hw => hts0 w (List.mem_cons_of_mem _ hw)
  have hown : s.vm.findClass "java/lang/String" = some m.cls := findClass_of_methodNamed B.named
  have hlocks := B.notSynchronized
  have hS : va_S (fun q => n0 ≤ q) s.heap s.heap [] := va_S.rf
  have hl := lv_entry ([.ref (oa 3)]) (n := 1) (Nat.le_of_ble_eq_true rfl)
  rw [lg_entry_eq]
  generalize (lg_sl ([.ref (oa 3)]) ++ List.replicate (1 - (lg_sl ([.ref (oa 3)])).length) Slot.unset).toArray = ls at hl ⊢
  have hl : lv_has ls 1 [(0, .ref (oa 3))] := hl
  refine lv_aload_n hx hb (show decode prog_18_method_54_code 0 = .ok (.aload_n 0, 1) by decide +kernel) rfl (lv_at hl 0 rfl) ?_
  refine vk_getf hx hb (hT.1 0 (by decide)).2.2.1 hS hown (hts _ tf_val) (fun _ q => q) (show decode prog_18_method_54_code 1 = .ok (.getfield 9, 3) by decide +kernel) ?_
  refine va_tlen (v := nI 11) hx hb (hT.1 0 (by decide)).2.2.2 hS rfl (show decode prog_18_method_54_code 4 = .ok (.arraylength, 1) by decide +kernel) ?_
  refine lv_aload_n hx hb (show decode prog_18_method_54_code 5 = .ok (.aload_n 0, 1) by decide +kernel) rfl (lv_at hl 0 rfl) ?_
  refine tx_ci (va_runV (As := []) (rest := [.int (nI 11)]) (C := "java/lang/String") (bytes := prog_18_method_152_code) (maxL := 1) (ret := some .byte) (n := 0) ⟨hx, hb, hml, hown, hts⟩ (d_cdr l oa n0) ⟨callB_of 0 hts (tw_good 292 (by decide +kernel)) rfl rfl rfl (hts _ ti_str) (hts _ tm_cdr) ⟨by decide, by decide, by decide +kernel⟩ ⟨Nat.le_of_ble_eq_true rfl, Nat.le_of_ble_eq_true rfl⟩, hts _ (gw_mem (i := 290) (by decide +kernel)), hts _ (gw_mem (i := 291) (by decide +kernel))⟩ ⟨ty_blind, vk_recv (i := 0) hT (by decide) hS, fun U hU hW => ⟨rfl, ty_F.tr ⟨hT, hZ, hZq⟩ hS hU hW⟩⟩ rfl rfl hl.1 rfl (lv_room (Nat.le_of_ble_eq_true rfl)) (show decode prog_18_method_54_code 6 = .ok (.invokevirtual 335, 3) by decide +kernel) ⟨Nat.le_refl _, Nat.le_refl _⟩) ?_
  refine lv_ishr hx hb (show decode prog_18_method_54_code 9 = .ok (.ishr, 1) by decide +kernel) ?_
  rw [show nI 11 >>> ((0 : Int32) &&& 31) = nI 11 by decide +kernel]
  exact W.iret hx hb hr (fun t ht hW => ⟨rfl, ht⟩) (fun q hq => by cases hq) (show decode prog_18_method_54_code 10 = .ok (.ireturn, 1) by decide +kernel) hlocks

def ty_Qe : Array Value → State → Outcome → State → Prop := fun _ st oc t => ∃ r : Int32, oc = .returned (some (.int r)) ∧ t.heap = st.heap
section TYS
variable {p : Program} {l : Launch} {e : Env} {R : Room} {s : State} {m : MethodId} {args : Array Value} {below : List Frame} {meth : Method} {c : Code} {Q : State → Prop} {H : Heap} {locs : List Loc} {cells slots : Nat} {pc : Nat} {ls : Array Slot} {st0 rest : List Value}
theorem ty_ce {a : Array Value} (hr : va_Run p l e R s m args below meth c H locs cells slots 0 0 (F0 m pc ls st0) rest (ty_Qe a) (fun _ => False)) (k : ∀ r : Int32, W p l e R s m args below meth c H locs cells slots Q (F0 m (pc + 3) ls (.int r :: rest))) : W p l e R s m args below meth c H locs cells slots Q (F0 m pc ls st0) := by
  intro T hT X
  obtain ⟨v, st₀, t, T', L, h0, X', hL, e1, e2, ⟨r, hv, hh⟩, st⟩ := hr T hT X
  cases hv
  have hL0 : L = [] := by
    cases L with
    | nil => rfl
    | cons q r => exact (hL q List.mem_cons_self).elim
  subst hL0
  rw [List.append_nil] at X'
  obtain ⟨t2, a1, b1⟩ := k r T' (by rw [e1, hh, h0]) X'
  exact ⟨t2, st t2 a1, b1⟩
end TYS
def yy_enc : MethodName := ⟨"java/lang/StringLatin1", "canEncode", "(I)Z"⟩
def ty_wenc : List Cond := Cond.code yy_enc prog_19_method_4_code 1 (some .boolean) :: gw_tbl
def yy_max : MethodName := ⟨"java/lang/Math", "max", "(II)I"⟩
def ty_wmax : List Cond := Cond.code yy_max prog_17_method_65_code 2 (some .int) :: gw_tbl
def yy_min : MethodName := ⟨"java/lang/Math", "min", "(II)I"⟩
def ty_wmin : List Cond := Cond.code yy_min prog_17_method_69_code 2 (some .int) :: gw_tbl
def yy_ioc : MethodName := ⟨"java/lang/StringLatin1", "indexOfChar", "([BIII)I"⟩
def ty_wioc : List Cond := Cond.code yy_ioc prog_19_method_23_code 6 (some .int) :: gw_tbl
def yy_l1i : MethodName := ⟨"java/lang/StringLatin1", "indexOf", "([BIII)I"⟩
def ty_wl1i : List Cond := Cond.code yy_l1i prog_19_method_22_code 4 (some .int) :: gw_tbl
def yy_ix2 : MethodName := ⟨"java/lang/String", "indexOf", "(II)I"⟩
def ty_wix2 : List Cond := Cond.code yy_ix2 prog_18_method_80_code 3 (some .int) :: gw_tbl
def ty_wix1 : List Cond := Cond.code ga_yIdx prog_18_method_79_code 2 (some .int) :: gw_tbl
theorem ti_math : Cond.initialized "java/lang/Math" ∈ gw_tbl := gw_mem (i := 138) (by decide +kernel)
set_option maxHeartbeats 1000000 in
theorem d_enc (l : Launch) (oa : Nat → Nat) (n0 : Nat) {I : Int32} : Met l yy_enc ty_wenc (tx_rm 1) (ty_P oa n0 [.int I]) ty_Qe 0 0 (fun _ => False) := by
  refine Met_ofWF (cc := prog_19_method_4_code) (maxL := 1) (ret := some .boolean) (by decide +kernel) rfl ?_
  intro p e s m args below meth c s₁ B hml hv
  obtain ⟨rfl, hT, hZ, hZq⟩ := hv
  have hx := B.exec
  have hb := B.bytes
  have hr := B.returns
  have hts0 := atoms_spec (ws := ty_wenc) B.pre
  have hts : ∀ w ∈ gw_tbl, w.before ([.int I] : List Value).toArray s = true := fun w hw => hts0 w (List.mem_cons_of_mem _ hw)
  have hown : s.vm.findClass "java/lang/StringLatin1" = some m.cls := findClass_of_methodNamed B.named
  have hlocks := B.notSynchronized
  have hS : va_S (fun q => n0 ≤ q) s.heap s.heap [] := va_S.rf
  have hl := lv_entry ([.int I]) (n := 1) (Nat.le_of_ble_eq_true rfl)
  rw [lg_entry_eq]
  generalize (lg_sl ([.int I]) ++ List.replicate (1 - (lg_sl ([.int I])).length) Slot.unset).toArray = ls at hl ⊢
  have hl : lv_has ls 1 [(0, .int I)] := hl
  refine lv_iload_n hx hb (show decode prog_19_method_4_code 0 = .ok (.iload_n 0, 1) by decide +kernel) rfl (lv_at hl 0 rfl) ?_
  have no : W p l e (headSpec ty_wenc (tx_rm 1)).room s m ([.int I] : List Value).toArray below meth c s.heap [] 0 0 (MQ below ty_Qe ([.int I] : List Value).toArray s 0 0 fun _ => False) (F0 m 15 ls []) := by
    refine lv_iconst (v := 0) hx hb (show decode prog_19_method_4_code 15 = .ok (.iconst 0, 1) by decide +kernel) (by decide) ?_
    exact W.zret hx hb hr (by decide +kernel) (fun t ht hW => ⟨_, rfl, ht⟩) (fun q hq => by cases hq) (show decode prog_19_method_4_code 16 = .ok (.ireturn, 1) by decide +kernel) hlocks
  refine lv_if_lt (tgt := 15) hx hb (show decode prog_19_method_4_code 1 = .ok (.ifCond .lt 14, 3) by decide +kernel) (by decide) (fun _ => no) (fun _ => ?_)
  refine lv_iload_n hx hb (show decode prog_19_method_4_code 4 = .ok (.iload_n 0, 1) by decide +kernel) rfl (lv_at hl 0 rfl) ?_
  refine lv_sipush (v := 255) hx hb (show decode prog_19_method_4_code 5 = .ok (.sipush 255, 3) by decide +kernel) (by decide) ?_
  refine lv_icmp_gt (tgt := 15) hx hb (show decode prog_19_method_4_code 8 = .ok (.if_icmp .gt 7, 3) by decide +kernel) (by decide) (fun _ => no) (fun _ => ?_)
  refine lv_iconst (v := 1) hx hb (show decode prog_19_method_4_code 11 = .ok (.iconst 1, 1) by decide +kernel) (by decide) ?_
  refine lv_goto (tgt := 16) hx hb (show decode prog_19_method_4_code 12 = .ok (.goto 4, 3) by decide +kernel) (by decide) ?_
  exact W.zret hx hb hr (by decide +kernel) (fun t ht hW => ⟨_, rfl, ht⟩) (fun q hq => by cases hq) (show decode prog_19_method_4_code 16 = .ok (.ireturn, 1) by decide +kernel) hlocks
set_option maxHeartbeats 1000000 in
theorem d_max (l : Launch) (oa : Nat → Nat) (n0 : Nat) : Met l yy_max ty_wmax (tx_rm 1) (ty_P oa n0 [.int (nI 0), .int (nI 0)]) (tx_Qi (nI 0)) 0 0 (fun _ => False) := by
  refine Met_ofWF (cc := prog_17_method_65_code) (maxL := 2) (ret := some .int) (by decide +kernel) rfl ?_
  intro p e s m args below meth c s₁ B hml hv
  obtain ⟨rfl, hT, hZ, hZq⟩ := hv
  have hx := B.exec
  have hb := B.bytes
  have hr := B.returns
  have hts0 := atoms_spec (ws := ty_wmax) B.pre
  have hts : ∀ w ∈ gw_tbl, w.before ([.int (nI 0), .int (nI 0)] : List Value).toArray s = true := fun w hw => hts0 w (List.mem_cons_of_mem _ hw)
  have hown : s.vm.findClass "java/lang/Math" = some m.cls := findClass_of_methodNamed B.named
  have hlocks := B.notSynchronized
  have hS : va_S (fun q => n0 ≤ q) s.heap s.heap [] := va_S.rf
  have hl := lv_entry ([.int (nI 0), .int (nI 0)]) (n := 2) (Nat.le_of_ble_eq_true rfl)
  rw [lg_entry_eq]
  generalize (lg_sl ([.int (nI 0), .int (nI 0)]) ++ List.replicate (2 - (lg_sl ([.int (nI 0), .int (nI 0)])).length) Slot.unset).toArray = ls at hl ⊢
  have hl : lv_has ls 2 [(0, .int (nI 0)), (1, .int (nI 0))] := hl
  refine lv_iload_n hx hb (show decode prog_17_method_65_code 0 = .ok (.iload_n 0, 1) by decide +kernel) rfl (lv_at hl 0 rfl) ?_
  refine lv_iload_n hx hb (show decode prog_17_method_65_code 1 = .ok (.iload_n 1, 1) by decide +kernel) rfl (lv_at hl 1 rfl) ?_
  refine lv_icmp_lt (tgt := 9) hx hb (show decode prog_17_method_65_code 2 = .ok (.if_icmp .lt 7, 3) by decide +kernel) (by decide) (fun q => absurd q (by decide)) (fun _ => ?_)
  refine lv_iload_n hx hb (show decode prog_17_method_65_code 5 = .ok (.iload_n 0, 1) by decide +kernel) rfl (lv_at hl 0 rfl) ?_
  refine lv_goto (tgt := 10) hx hb (show decode prog_17_method_65_code 6 = .ok (.goto 4, 3) by decide +kernel) (by decide) ?_
  exact W.iret hx hb hr (fun t ht hW => ⟨rfl, ht⟩) (fun q hq => by cases hq) (show decode prog_17_method_65_code 10 = .ok (.ireturn, 1) by decide +kernel) hlocks
set_option maxHeartbeats 1000000 in
theorem d_min (l : Launch) (oa : Nat → Nat) (n0 : Nat) : Met l yy_min ty_wmin (tx_rm 1) (ty_P oa n0 [.int (nI 11), .int (nI 11)]) (tx_Qi (nI 11)) 0 0 (fun _ => False) := by
  refine Met_ofWF (cc := prog_17_method_69_code) (maxL := 2) (ret := some .int) (by decide +kernel) rfl ?_
  intro p e s m args below meth c s₁ B hml hv
  obtain ⟨rfl, hT, hZ, hZq⟩ := hv
  have hx := B.exec
  have hb := B.bytes
  have hr := B.returns
  have hts0 := atoms_spec (ws := ty_wmin) B.pre
  have hts : ∀ w ∈ gw_tbl, w.before ([.int (nI 11), .int (nI 11)] : List Value).toArray s = true := fun w hw => hts0 w (List.mem_cons_of_mem _ hw)
  have hown : s.vm.findClass "java/lang/Math" = some m.cls := findClass_of_methodNamed B.named
  have hlocks := B.notSynchronized
  have hS : va_S (fun q => n0 ≤ q) s.heap s.heap [] := va_S.rf
  have hl := lv_entry ([.int (nI 11), .int (nI 11)]) (n := 2) (Nat.le_of_ble_eq_true rfl)
  rw [lg_entry_eq]
  generalize (lg_sl ([.int (nI 11), .int (nI 11)]) ++ List.replicate (2 - (lg_sl ([.int (nI 11), .int (nI 11)])).length) Slot.unset).toArray = ls at hl ⊢
  have hl : lv_has ls 2 [(0, .int (nI 11)), (1, .int (nI 11))] := hl
  refine lv_iload_n hx hb (show decode prog_17_method_69_code 0 = .ok (.iload_n 0, 1) by decide +kernel) rfl (lv_at hl 0 rfl) ?_
  refine lv_iload_n hx hb (show decode prog_17_method_69_code 1 = .ok (.iload_n 1, 1) by decide +kernel) rfl (lv_at hl 1 rfl) ?_
  refine lv_icmp_gt (tgt := 9) hx hb (show decode prog_17_method_69_code 2 = .ok (.if_icmp .gt 7, 3) by decide +kernel) (by decide) (fun q => absurd q (by decide)) (fun _ => ?_)
  refine lv_iload_n hx hb (show decode prog_17_method_69_code 5 = .ok (.iload_n 0, 1) by decide +kernel) rfl (lv_at hl 0 rfl) ?_
  refine lv_goto (tgt := 10) hx hb (show decode prog_17_method_69_code 6 = .ok (.goto 4, 3) by decide +kernel) (by decide) ?_
  exact W.iret hx hb hr (fun t ht hW => ⟨rfl, ht⟩) (fun q hq => by cases hq) (show decode prog_17_method_69_code 10 = .ok (.ireturn, 1) by decide +kernel) hlocks
theorem ty_inc {j : Nat} (h : j < 1000) : nI j + Int32.ofInt 1 = nI (j + 1) := by
  apply Int32.toInt_inj.mp
  unfold nI
  rw [Int32.toInt_add, Int32.toInt_ofNat', Int32.toInt_ofNat']
  simp only [Int.bmod, Int32.size]
  have : (Int32.ofInt 1).toInt = 1 := by decide
  rw [this]
  split <;> split <;> split <;> omega
set_option maxHeartbeats 1000000 in
theorem d_ioc (l : Launch) (oa : Nat → Nat) (n0 : Nat) {I : Int32} : Met l yy_ioc ty_wioc (tx_rm 1) (ty_P oa n0 [.ref (oa 4), .int I, .int (nI 0), .int (nI 11)]) ty_Qe 0 0 (fun _ => False) := by
  refine Met_ofWF (cc := prog_19_method_23_code) (maxL := 6) (ret := some .int) (by decide +kernel) rfl ?_
  intro p e s m args below meth c s₁ B hml hv
  obtain ⟨rfl, hT, hZ, hZq⟩ := hv
  have hx := B.exec
  have hb := B.bytes
  have hr := B.returns
  have hts0 := atoms_spec (ws := ty_wioc) B.pre
  have hts : ∀ w ∈ gw_tbl, w.before ([.ref (oa 4), .int I, .int (nI 0), .int (nI 11)] : List Value).toArray s = true := fun w hw => hts0 w (List.mem_cons_of_mem _ hw)
  have hown : s.vm.findClass "java/lang/StringLatin1" = some m.cls := findClass_of_methodNamed B.named
  have hlocks := B.notSynchronized
  have hS : va_S (fun q => n0 ≤ q) s.heap s.heap [] := va_S.rf
  have hl := lv_entry ([.ref (oa 4), .int I, .int (nI 0), .int (nI 11)]) (n := 6) (Nat.le_of_ble_eq_true rfl)
  rw [lg_entry_eq]
  generalize (lg_sl ([.ref (oa 4), .int I, .int (nI 0), .int (nI 11)]) ++ List.replicate (6 - (lg_sl ([.ref (oa 4), .int I, .int (nI 0), .int (nI 11)])).length) Slot.unset).toArray = ls at hl ⊢
  have hl : lv_has ls 6 [(0, .ref (oa 4)), (1, .int I), (2, .int (nI 0)), (3, .int (nI 11))] := hl
  have loop : ∀ (k j : Nat) (ls : Array Slot), 11 - j ≤ k → j ≤ 11 → lv_has ls 6 [(5, .int (nI j)), (4, .int I.toInt8.toInt32), (0, .ref (oa 4)), (1, .int I), (2, .int (nI 0)), (3, .int (nI 11))] → W p l e (headSpec ty_wioc (tx_rm 1)).room s m ([.ref (oa 4), .int I, .int (nI 0), .int (nI 11)] : List Value).toArray below meth c s.heap [] 0 0 (MQ below ty_Qe ([.ref (oa 4), .int I, .int (nI 0), .int (nI 11)] : List Value).toArray s 0 0 fun _ => False) (F0 m 7 ls []) := by
    intro k
    induction k with
    | zero =>
      intro j ls hk hj hl
      refine lv_iload hx hb (show decode prog_19_method_23_code 7 = .ok (.iload 5, 2) by decide +kernel) (lv_at hl 0 rfl) ?_
      refine lv_iload_n hx hb (show decode prog_19_method_23_code 9 = .ok (.iload_n 3, 1) by decide +kernel) rfl (lv_at hl 5 rfl) ?_
      refine lv_icmp_ge (tgt := 31) hx hb (show decode prog_19_method_23_code 10 = .ok (.if_icmp .ge 21, 3) by decide +kernel) (by decide) (fun _ => ?_) (fun q => ?_)
      · refine lv_iconst (v := -1) hx hb (show decode prog_19_method_23_code 31 = .ok (.iconst (-1), 1) by decide +kernel) (by decide) ?_
        exact W.iret hx hb hr (fun t ht hW => ⟨_, rfl, ht⟩) (fun q hq => by cases hq) (show decode prog_19_method_23_code 32 = .ok (.ireturn, 1) by decide +kernel) hlocks
      · have hj2 : j < 11 := by
          rcases Nat.lt_or_ge j 11 with w | w
          · exact w
          · exact absurd (by rw [show j = 11 by omega]; decide) q
        omega
    | succ k ih =>
      intro j ls hk hj hl
      refine lv_iload hx hb (show decode prog_19_method_23_code 7 = .ok (.iload 5, 2) by decide +kernel) (lv_at hl 0 rfl) ?_
      refine lv_iload_n hx hb (show decode prog_19_method_23_code 9 = .ok (.iload_n 3, 1) by decide +kernel) rfl (lv_at hl 5 rfl) ?_
      refine lv_icmp_ge (tgt := 31) hx hb (show decode prog_19_method_23_code 10 = .ok (.if_icmp .ge 21, 3) by decide +kernel) (by decide) (fun _ => ?_) (fun q => ?_)
      · refine lv_iconst (v := -1) hx hb (show decode prog_19_method_23_code 31 = .ok (.iconst (-1), 1) by decide +kernel) (by decide) ?_
        exact W.iret hx hb hr (fun t ht hW => ⟨_, rfl, ht⟩) (fun q hq => by cases hq) (show decode prog_19_method_23_code 32 = .ok (.ireturn, 1) by decide +kernel) hlocks
      · have hj2 : j < 11 := by
          rcases Nat.lt_or_ge j 11 with w | w
          · exact w
          · exact absurd (by rw [show j = 11 by omega]; decide) q
        refine lv_aload_n hx hb (show decode prog_19_method_23_code 13 = .ok (.aload_n 0, 1) by decide +kernel) rfl (lv_at hl 2 rfl) ?_
        refine lv_iload hx hb (show decode prog_19_method_23_code 14 = .ok (.iload 5, 2) by decide +kernel) (lv_at hl 0 rfl) ?_
        refine va_tb (v := .int (gx_by.getD j 0)) hx hb (hT.1 0 (by decide)).2.2.2 hS (vp_in_nI hj2 (by decide)) (by rw [nI_clamp (by omega)]; rfl) (show decode prog_19_method_23_code 16 = .ok (.baload, 1) by decide +kernel) ?_
        refine lv_iload hx hb (show decode prog_19_method_23_code 17 = .ok (.iload 4, 2) by decide +kernel) (lv_at hl 1 rfl) ?_
        refine lv_icmp_ne (tgt := 25) hx hb (show decode prog_19_method_23_code 19 = .ok (.if_icmp .ne 6, 3) by decide +kernel) (by decide) (fun _ => ?_) (fun _ => ?_)
        · refine lv_iinc (v := nI (j + 1)) hx hb (show decode prog_19_method_23_code 25 = .ok (.iinc 5 1, 3) by decide +kernel) hl (k := 0) rfl (ty_inc (by omega)) (by decide) rfl (fun ls1 hl1 => ?_)
          refine lv_goto (tgt := 7) hx hb (show decode prog_19_method_23_code 28 = .ok (.goto (-21), 3) by decide +kernel) (by decide) ?_
          exact ih (j + 1) ls1 (by omega) (by omega) hl1
        · refine lv_iload hx hb (show decode prog_19_method_23_code 22 = .ok (.iload 5, 2) by decide +kernel) (lv_at hl 0 rfl) ?_
          exact W.iret hx hb hr (fun t ht hW => ⟨_, rfl, ht⟩) (fun q hq => by cases hq) (show decode prog_19_method_23_code 24 = .ok (.ireturn, 1) by decide +kernel) hlocks
  refine lv_iload_n hx hb (show decode prog_19_method_23_code 0 = .ok (.iload_n 1, 1) by decide +kernel) rfl (lv_at hl 1 rfl) ?_
  refine lv_i2b (v := I.toInt8.toInt32) hx hb (show decode prog_19_method_23_code 1 = .ok (.i2b, 1) by decide +kernel) rfl ?_
  refine lv_istore hx hb (show decode prog_19_method_23_code 2 = .ok (.istore 4, 2) by decide +kernel) hl (by decide) rfl (fun ls1 hl1 => ?_)
  refine lv_iload_n hx hb (show decode prog_19_method_23_code 4 = .ok (.iload_n 2, 1) by decide +kernel) rfl (lv_at hl1 3 rfl) ?_
  refine lv_istore hx hb (show decode prog_19_method_23_code 5 = .ok (.istore 5, 2) by decide +kernel) hl1 (by decide) rfl (fun ls2 hl2 => ?_)
  exact loop 11 0 ls2 (by omega) (by omega) hl2
set_option maxHeartbeats 1000000 in
theorem d_l1i (l : Launch) (oa : Nat → Nat) (n0 : Nat) {I : Int32} : Met l yy_l1i ty_wl1i (tx_rm 2) (ty_P oa n0 [.ref (oa 4), .int I, .int (nI 0), .int (nI 11)]) ty_Qe 0 0 (fun _ => False) := by
  refine Met_ofWF (cc := prog_19_method_22_code) (maxL := 4) (ret := some .int) (by decide +kernel) rfl ?_
  intro p e s m args below meth c s₁ B hml hv
  obtain ⟨rfl, hT, hZ, hZq⟩ := hv
  have hx := B.exec
  have hb := B.bytes
  have hr := B.returns
  have hts0 := atoms_spec (ws := ty_wl1i) B.pre
  have hts : ∀ w ∈ gw_tbl, w.before ([.ref (oa 4), .int I, .int (nI 0), .int (nI 11)] : List Value).toArray s = true := fun w hw => hts0 w (List.mem_cons_of_mem _ hw)
  have hown : s.vm.findClass "java/lang/StringLatin1" = some m.cls := findClass_of_methodNamed B.named
  have hlocks := B.notSynchronized
  have hS : va_S (fun q => n0 ≤ q) s.heap s.heap [] := va_S.rf
  have hl := lv_entry ([.ref (oa 4), .int I, .int (nI 0), .int (nI 11)]) (n := 4) (Nat.le_of_ble_eq_true rfl)
  rw [lg_entry_eq]
  generalize (lg_sl ([.ref (oa 4), .int I, .int (nI 0), .int (nI 11)]) ++ List.replicate (4 - (lg_sl ([.ref (oa 4), .int I, .int (nI 0), .int (nI 11)])).length) Slot.unset).toArray = ls at hl ⊢
  have hl : lv_has ls 4 [(0, .ref (oa 4)), (1, .int I), (2, .int (nI 0)), (3, .int (nI 11))] := hl
  refine lv_iload_n hx hb (show decode prog_19_method_22_code 0 = .ok (.iload_n 1, 1) by decide +kernel) rfl (lv_at hl 1 rfl) ?_
  refine ty_ce (va_runS (As := [.int I]) (rest := []) (bytes := prog_19_method_4_code) (maxL := 1) (ret := some .boolean) (n := 1) ⟨hx, hb, hml, hown, hts⟩ (d_enc l oa n0) ⟨callB_of 1 hts (tw_good 783 (by decide +kernel)) rfl rfl rfl (hts _ ti_l1) (hts _ (gw_mem (i := 781) (by decide +kernel))) ⟨by decide, by decide, by decide +kernel⟩ ⟨Nat.le_of_ble_eq_true rfl, Nat.le_of_ble_eq_true rfl⟩, hts _ (gw_mem (i := 782) (by decide +kernel))⟩ ⟨ty_blind, fun U hU hW => ⟨rfl, ty_F.tr ⟨hT, hZ, hZq⟩ hS hU hW⟩⟩ rfl rfl hl.1 rfl (lv_room (Nat.le_of_ble_eq_true rfl)) (show decode prog_19_method_22_code 1 = .ok (.invokestatic 88, 3) by decide +kernel) ⟨Nat.le_refl _, Nat.le_refl _⟩) (fun r => ?_)
  refine lv_if_ne (tgt := 9) hx hb (show decode prog_19_method_22_code 4 = .ok (.ifCond .ne 5, 3) by decide +kernel) (by decide) (fun _ => ?_) (fun _ => ?_)
  · refine lv_iload_n hx hb (show decode prog_19_method_22_code 9 = .ok (.iload_n 2, 1) by decide +kernel) rfl (lv_at hl 2 rfl) ?_
    refine lv_iconst (v := nI 0) hx hb (show decode prog_19_method_22_code 10 = .ok (.iconst 0, 1) by decide +kernel) (by decide) ?_
    refine tx_ci (va_runS (As := [.int (nI 0), .int (nI 0)]) (rest := []) (bytes := prog_17_method_65_code) (maxL := 2) (ret := some .int) (n := 2) ⟨hx, hb, hml, hown, hts⟩ (d_max l oa n0) ⟨callB_of 2 hts (tw_good 745 (by decide +kernel)) rfl rfl rfl (hts _ ti_math) (hts _ (gw_mem (i := 784) (by decide +kernel))) ⟨by decide, by decide, by decide +kernel⟩ ⟨Nat.le_of_ble_eq_true rfl, Nat.le_of_ble_eq_true rfl⟩, hts _ (gw_mem (i := 744) (by decide +kernel))⟩ ⟨ty_blind, fun U hU hW => ⟨rfl, ty_F.tr ⟨hT, hZ, hZq⟩ hS hU hW⟩⟩ rfl rfl hl.1 rfl (lv_room (Nat.le_of_ble_eq_true rfl)) (show decode prog_19_method_22_code 11 = .ok (.invokestatic 92, 3) by decide +kernel) ⟨Nat.le_refl _, Nat.le_refl _⟩) ?_
    refine lv_istore_n hx hb (show decode prog_19_method_22_code 14 = .ok (.istore_n 2, 1) by decide +kernel) rfl hl (by decide) rfl (fun ls1 hl1 => ?_)
    refine lv_iload_n hx hb (show decode prog_19_method_22_code 15 = .ok (.iload_n 3, 1) by decide +kernel) rfl (lv_at hl1 3 rfl) ?_
    refine lv_aload_n hx hb (show decode prog_19_method_22_code 16 = .ok (.aload_n 0, 1) by decide +kernel) rfl (lv_at hl1 1 rfl) ?_
    refine va_tlen (v := nI 11) hx hb (hT.1 0 (by decide)).2.2.2 hS rfl (show decode prog_19_method_22_code 17 = .ok (.arraylength, 1) by decide +kernel) ?_
    refine tx_ci (va_runS (As := [.int (nI 11), .int (nI 11)]) (rest := []) (bytes := prog_17_method_69_code) (maxL := 2) (ret := some .int) (n := 2) ⟨hx, hb, hml, hown, hts⟩ (d_min l oa n0) ⟨callB_of 2 hts (tw_good 742 (by decide +kernel)) rfl rfl rfl (hts _ ti_math) (hts _ (gw_mem (i := 785) (by decide +kernel))) ⟨by decide, by decide, by decide +kernel⟩ ⟨Nat.le_of_ble_eq_true rfl, Nat.le_of_ble_eq_true rfl⟩, hts _ (gw_mem (i := 741) (by decide +kernel))⟩ ⟨ty_blind, fun U hU hW => ⟨rfl, ty_F.tr ⟨hT, hZ, hZq⟩ hS hU hW⟩⟩ rfl rfl hl1.1 rfl (lv_room (Nat.le_of_ble_eq_true rfl)) (show decode prog_19_method_22_code 18 = .ok (.invokestatic 38, 3) by decide +kernel) ⟨Nat.le_refl _, Nat.le_refl _⟩) ?_
    refine lv_istore_n hx hb (show decode prog_19_method_22_code 21 = .ok (.istore_n 3, 1) by decide +kernel) rfl hl1 (by decide) rfl (fun ls2 hl2 => ?_)
    refine lv_iload_n hx hb (show decode prog_19_method_22_code 22 = .ok (.iload_n 2, 1) by decide +kernel) rfl (lv_at hl2 1 rfl) ?_
    refine lv_iload_n hx hb (show decode prog_19_method_22_code 23 = .ok (.iload_n 3, 1) by decide +kernel) rfl (lv_at hl2 0 rfl) ?_
    refine lv_icmp_lt (tgt := 29) hx hb (show decode prog_19_method_22_code 24 = .ok (.if_icmp .lt 5, 3) by decide +kernel) (by decide) (fun _ => ?_) (fun q => absurd (by decide) q)
    refine lv_aload_n hx hb (show decode prog_19_method_22_code 29 = .ok (.aload_n 0, 1) by decide +kernel) rfl (lv_at hl2 2 rfl) ?_
    refine lv_iload_n hx hb (show decode prog_19_method_22_code 30 = .ok (.iload_n 1, 1) by decide +kernel) rfl (lv_at hl2 3 rfl) ?_
    refine lv_iload_n hx hb (show decode prog_19_method_22_code 31 = .ok (.iload_n 2, 1) by decide +kernel) rfl (lv_at hl2 1 rfl) ?_
    refine lv_iload_n hx hb (show decode prog_19_method_22_code 32 = .ok (.iload_n 3, 1) by decide +kernel) rfl (lv_at hl2 0 rfl) ?_
    refine ty_ce (va_runS (As := [.ref (oa 4), .int I, .int (nI 0), .int (nI 11)]) (rest := []) (bytes := prog_19_method_23_code) (maxL := 6) (ret := some .int) (n := 4) ⟨hx, hb, hml, hown, hts⟩ (d_ioc l oa n0) ⟨callB_of 4 hts (tw_good 788 (by decide +kernel)) rfl rfl rfl (hts _ ti_l1) (hts _ (gw_mem (i := 786) (by decide +kernel))) ⟨by decide, by decide, by decide +kernel⟩ ⟨Nat.le_of_ble_eq_true rfl, Nat.le_of_ble_eq_true rfl⟩, hts _ (gw_mem (i := 787) (by decide +kernel))⟩ ⟨ty_blind, fun U hU hW => ⟨rfl, ty_F.tr ⟨hT, hZ, hZq⟩ hS hU hW⟩⟩ rfl rfl hl2.1 rfl (lv_room (Nat.le_of_ble_eq_true rfl)) (show decode prog_19_method_22_code 33 = .ok (.invokestatic 95, 3) by decide +kernel) ⟨Nat.le_refl _, Nat.le_refl _⟩) (fun r => ?_)
    exact W.iret hx hb hr (fun t ht hW => ⟨_, rfl, ht⟩) (fun q hq => by cases hq) (show decode prog_19_method_22_code 36 = .ok (.ireturn, 1) by decide +kernel) hlocks
  · refine lv_iconst (v := -1) hx hb (show decode prog_19_method_22_code 7 = .ok (.iconst (-1), 1) by decide +kernel) (by decide) ?_
    exact W.iret hx hb hr (fun t ht hW => ⟨_, rfl, ht⟩) (fun q hq => by cases hq) (show decode prog_19_method_22_code 8 = .ok (.ireturn, 1) by decide +kernel) hlocks
set_option maxHeartbeats 1000000 in
theorem d_ix2 (l : Launch) (oa : Nat → Nat) (n0 : Nat) {I : Int32} : Met l yy_ix2 ty_wix2 (tx_rm 3) (ty_P oa n0 [.ref (oa 3), .int I, .int (nI 0)]) ty_Qe 0 0 (fun _ => False) := by
  refine Met_ofWF (cc := prog_18_method_80_code) (maxL := 3) (ret := some .int) (by decide +kernel) rfl ?_
  intro p e s m args below meth c s₁ B hml hv
  obtain ⟨rfl, hT, hZ, hZq⟩ := hv
  have hx := B.exec
  have hb := B.bytes
  have hr := B.returns
  have hts0 := atoms_spec (ws := ty_wix2) B.pre
  have hts : ∀ w ∈ gw_tbl, w.before ([.ref (oa 3), .int I, .int (nI 0)] : List Value).toArray s = true := fun w hw => hts0 w (List.mem_cons_of_mem _ hw)
  have hown : s.vm.findClass "java/lang/String" = some m.cls := findClass_of_methodNamed B.named
  have hlocks := B.notSynchronized
  have hS : va_S (fun q => n0 ≤ q) s.heap s.heap [] := va_S.rf
  have hl := lv_entry ([.ref (oa 3), .int I, .int (nI 0)]) (n := 3) (Nat.le_of_ble_eq_true rfl)
  rw [lg_entry_eq]
  generalize (lg_sl ([.ref (oa 3), .int I, .int (nI 0)]) ++ List.replicate (3 - (lg_sl ([.ref (oa 3), .int I, .int (nI 0)])).length) Slot.unset).toArray = ls at hl ⊢
  have hl : lv_has ls 3 [(0, .ref (oa 3)), (1, .int I), (2, .int (nI 0))] := hl
  refine lv_aload_n hx hb (show decode prog_18_method_80_code 0 = .ok (.aload_n 0, 1) by decide +kernel) rfl (lv_at hl 0 rfl) ?_
  refine tx_ci (va_runV (As := []) (rest := []) (C := "java/lang/String") (bytes := prog_18_method_154_code) (maxL := 1) (ret := some .boolean) (n := 0) ⟨hx, hb, hml, hown, hts⟩ (d_lat l oa n0) ⟨callB_of 0 hts (tw_good 302 (by decide +kernel)) rfl rfl rfl (hts _ ti_str) (hts _ tm_lat) ⟨by decide, by decide, by decide +kernel⟩ ⟨Nat.le_of_ble_eq_true rfl, Nat.le_of_ble_eq_true rfl⟩, hts _ (gw_mem (i := 300) (by decide +kernel)), hts _ (gw_mem (i := 301) (by decide +kernel))⟩ ⟨ty_blind, vk_recv (i := 0) hT (by decide) hS, fun U hU hW => ⟨rfl, ty_F.tr ⟨hT, hZ, hZq⟩ hS hU hW⟩⟩ rfl rfl hl.1 rfl (lv_room (Nat.le_of_ble_eq_true rfl)) (show decode prog_18_method_80_code 1 = .ok (.invokevirtual 492, 3) by decide +kernel) ⟨Nat.le_refl _, Nat.le_refl _⟩) ?_
  refine lv_if_eq (tgt := 23) hx hb (show decode prog_18_method_80_code 4 = .ok (.ifCond .eq 19, 3) by decide +kernel) (by decide) (fun q => absurd q (by decide)) (fun _ => ?_)
  refine lv_aload_n hx hb (show decode prog_18_method_80_code 7 = .ok (.aload_n 0, 1) by decide +kernel) rfl (lv_at hl 0 rfl) ?_
  refine vk_getf hx hb (hT.1 0 (by decide)).2.2.1 hS hown (hts _ tf_val) (fun _ q => q) (show decode prog_18_method_80_code 8 = .ok (.getfield 9, 3) by decide +kernel) ?_
  refine lv_iload_n hx hb (show decode prog_18_method_80_code 11 = .ok (.iload_n 1, 1) by decide +kernel) rfl (lv_at hl 1 rfl) ?_
  refine lv_iload_n hx hb (show decode prog_18_method_80_code 12 = .ok (.iload_n 2, 1) by decide +kernel) rfl (lv_at hl 2 rfl) ?_
  refine lv_aload_n hx hb (show decode prog_18_method_80_code 13 = .ok (.aload_n 0, 1) by decide +kernel) rfl (lv_at hl 0 rfl) ?_
  refine tx_ci (va_runV (As := []) (rest := [.int (nI 0), .int I, .ref (oa 4)]) (C := "java/lang/String") (bytes := prog_18_method_54_code) (maxL := 1) (ret := some .int) (n := 0) ⟨hx, hb, hml, hown, hts⟩ (d_len l oa n0) ⟨callB_of 0 hts (tw_good 288 (by decide +kernel)) rfl rfl rfl (hts _ ti_str) (hts _ (gw_mem (i := 777) (by decide +kernel))) ⟨by decide, by decide, by decide +kernel⟩ ⟨Nat.le_of_ble_eq_true rfl, Nat.le_of_ble_eq_true rfl⟩, hts _ (gw_mem (i := 286) (by decide +kernel)), hts _ (gw_mem (i := 287) (by decide +kernel))⟩ ⟨ty_blind, vk_recv (i := 0) hT (by decide) hS, fun U hU hW => ⟨rfl, ty_F.tr ⟨hT, hZ, hZq⟩ hS hU hW⟩⟩ rfl rfl hl.1 rfl (lv_room (Nat.le_of_ble_eq_true rfl)) (show decode prog_18_method_80_code 14 = .ok (.invokevirtual 505, 3) by decide +kernel) ⟨Nat.le_refl _, Nat.le_refl _⟩) ?_
  refine ty_ce (va_runS (As := [.ref (oa 4), .int I, .int (nI 0), .int (nI 11)]) (rest := []) (bytes := prog_19_method_22_code) (maxL := 4) (ret := some .int) (n := 4) ⟨hx, hb, hml, hown, hts⟩ (d_l1i l oa n0) ⟨callB_of 4 hts (tw_good 780 (by decide +kernel)) rfl rfl rfl (hts _ ti_l1) (hts _ (gw_mem (i := 778) (by decide +kernel))) ⟨by decide, by decide, by decide +kernel⟩ ⟨Nat.le_of_ble_eq_true rfl, Nat.le_of_ble_eq_true rfl⟩, hts _ (gw_mem (i := 779) (by decide +kernel))⟩ ⟨ty_blind, fun U hU hW => ⟨rfl, ty_F.tr ⟨hT, hZ, hZq⟩ hS hU hW⟩⟩ rfl rfl hl.1 rfl (lv_room (Nat.le_of_ble_eq_true rfl)) (show decode prog_18_method_80_code 17 = .ok (.invokestatic 637, 3) by decide +kernel) ⟨Nat.le_refl _, Nat.le_refl _⟩) (fun r => ?_)
  refine lv_goto (tgt := 36) hx hb (show decode prog_18_method_80_code 20 = .ok (.goto 16, 3) by decide +kernel) (by decide) ?_
  exact W.iret hx hb hr (fun t ht hW => ⟨_, rfl, ht⟩) (fun q hq => by cases hq) (show decode prog_18_method_80_code 36 = .ok (.ireturn, 1) by decide +kernel) hlocks
set_option maxHeartbeats 1000000 in
theorem d_ix1 (l : Launch) (oa : Nat → Nat) (n0 : Nat) {I : Int32} : Met l ga_yIdx ty_wix1 (tx_rm 4) (ty_P oa n0 [.ref (oa 3), .int I]) ty_Qe 0 0 (fun _ => False) := by
  refine Met_ofWF (cc := prog_18_method_79_code) (maxL := 2) (ret := some .int) (by decide +kernel) rfl ?_
  intro p e s m args below meth c s₁ B hml hv
  obtain ⟨rfl, hT, hZ, hZq⟩ := hv
  have hx := B.exec
  have hb := B.bytes
  have hr := B.returns
  have hts0 := atoms_spec (ws := ty_wix1) B.pre
  have hts : ∀ w ∈ gw_tbl, w.before ([.ref (oa 3), .int I] : List Value).toArray s = true := fun w hw => hts0 w (List.mem_cons_of_mem _ hw)
  have hown : s.vm.findClass "java/lang/String" = some m.cls := findClass_of_methodNamed B.named
  have hlocks := B.notSynchronized
  have hS : va_S (fun q => n0 ≤ q) s.heap s.heap [] := va_S.rf
  have hl := lv_entry ([.ref (oa 3), .int I]) (n := 2) (Nat.le_of_ble_eq_true rfl)
  rw [lg_entry_eq]
  generalize (lg_sl ([.ref (oa 3), .int I]) ++ List.replicate (2 - (lg_sl ([.ref (oa 3), .int I])).length) Slot.unset).toArray = ls at hl ⊢
  have hl : lv_has ls 2 [(0, .ref (oa 3)), (1, .int I)] := hl
  refine lv_aload_n hx hb (show decode prog_18_method_79_code 0 = .ok (.aload_n 0, 1) by decide +kernel) rfl (lv_at hl 0 rfl) ?_
  refine lv_iload_n hx hb (show decode prog_18_method_79_code 1 = .ok (.iload_n 1, 1) by decide +kernel) rfl (lv_at hl 1 rfl) ?_
  refine lv_iconst (v := nI 0) hx hb (show decode prog_18_method_79_code 2 = .ok (.iconst 0, 1) by decide +kernel) (by decide) ?_
  refine ty_ce (va_runV (As := [.int I, .int (nI 0)]) (rest := []) (C := "java/lang/String") (bytes := prog_18_method_80_code) (maxL := 3) (ret := some .int) (n := 2) ⟨hx, hb, hml, hown, hts⟩ (d_ix2 l oa n0) ⟨callB_of 2 hts (tw_good 776 (by decide +kernel)) rfl rfl rfl (hts _ ti_str) (hts _ (gw_mem (i := 773) (by decide +kernel))) ⟨by decide, by decide, by decide +kernel⟩ ⟨Nat.le_of_ble_eq_true rfl, Nat.le_of_ble_eq_true rfl⟩, hts _ (gw_mem (i := 774) (by decide +kernel)), hts _ (gw_mem (i := 775) (by decide +kernel))⟩ ⟨ty_blind, vk_recv (i := 0) hT (by decide) hS, fun U hU hW => ⟨rfl, ty_F.tr ⟨hT, hZ, hZq⟩ hS hU hW⟩⟩ rfl rfl hl.1 rfl (lv_room (Nat.le_of_ble_eq_true rfl)) (show decode prog_18_method_79_code 3 = .ok (.invokevirtual 633, 3) by decide +kernel) ⟨Nat.le_refl _, Nat.le_refl _⟩) (fun r => ?_)
  exact W.iret hx hb hr (fun t ht hW => ⟨_, rfl, ht⟩) (fun q hq => by cases hq) (show decode prog_18_method_79_code 6 = .ok (.ireturn, 1) by decide +kernel) hlocks
def gp_old (ρ : Nat → Int32) (oa : Nat → Nat) (n0 L : Nat) (U : State) : Prop :=
  (oa 0 < n0 ∧ va_X (oa 0) L ρ U U.heap) ∧ (∀ w ∈ gw_nest, va_Nw w U) ∧ vk_R "GravyRound$Tokens" 75 gx_tx (oa 3) U ∧ ty_F oa n0 U
theorem gp_old_ol {ρ : Nat → Int32} {oa : Nat → Nat} {n0 L : Nat} : gp_OL n0 (gp_old ρ oa n0 L) := by
  refine ⟨fun U h => h.2.1, ?_, ?_⟩
  · intro s U H locs ho hS hn0 hU hW
    obtain ⟨⟨h0, hX⟩, hN, hR, hF⟩ := ho
    refine ⟨⟨h0, ?_⟩, fun w hw => ?_, vk_R.warm hW hR, ty_F.tr hF hS hU hW⟩
    · rw [hU]
      exact va_X.moved hW.alike (hX.kept (hS.2.1 _ (by omega) (by omega)))
    · have h1 := hN w hw
      have h2 := (List.mem_filter.mp hw).2
      cases w <;> first | exact va_Nw.warmF hW h1 | exact va_Nw.warmM hW h1 | (exact absurd h2 (by simp [gw_isN]))
  · intro s U ho hU hv
    obtain ⟨⟨h0, hX⟩, hN, hR, hT, hZ, hZq⟩ := ho
    have al : s.vm.Alike U.vm := by rw [hv]; exact Vm.Alike.refl s.vm
    refine ⟨⟨h0, ?_⟩, fun w hw => ?_, vk_R.same hv hR, ?_, ?_, ?_⟩
    · rw [hU]; exact va_X.moved al hX
    · have h2 := (List.mem_filter.mp hw).2
      have ht : w.onTables = true := by cases w <;> first | rfl | (exact absurd h2 (by simp [gw_isN]))
      exact va_Nw.same ht hv.symm (hN w hw)
    · rw [hU]; exact vk_S.moved al hT
    · rw [hU]; exact va_Z.moved al hZ
    · rw [hU]; exact va_Zq.moved al hZq
theorem gp_old_tx (l : Launch) (ρ : Nat → Int32) (oa : Nat → Nat) (n0 L : Nat) : gp_TXA l oa n0 (gp_old ρ oa n0 L) := by
  intro p e R s m args below meth c Q nL own cc nc ns hx hb hml hown hts hn0 hold hRf hRl hft
  have hF : ty_F oa n0 s := hold.2.2.2
  refine ⟨fun H locs ls st pc ho hdg hS k => ?_, fun H locs ls st idx pc I hw hdg hsz hwd hS k => ?_⟩
  · subst ho
    exact va_ldcS hx hb hown hold.2.2.1 hdg k
  · exact ty_ce (va_runV (As := [.int I]) (rest := st) (C := "java/lang/String") (bytes := prog_18_method_79_code) (maxL := 2) (ret := some .int) (n := 1) ⟨hx, hb, hml, hown, hts⟩ (d_ix1 l oa n0) ⟨callB_of 1 hts (tw_good 772 (by decide +kernel)) rfl rfl rfl (hts _ ti_str) (hts _ hw) ⟨by decide, by decide, by decide +kernel⟩ ⟨by show 4 + 1 ≤ R.frames; omega, by show 8 + (2 + 11) + 400 ≤ R.locals; omega⟩, hts _ (gw_mem (i := 770) (by decide +kernel)), hts _ (gw_mem (i := 771) (by decide +kernel))⟩ ⟨ty_blind, vk_recv (i := 0) hF.1 (by decide) hS, fun U hU hW => ⟨rfl, ty_F.tr hF hS hU hW⟩⟩ rfl rfl hsz rfl (by show 2 * 0 + _ ≤ 8; omega) hdg hft) k
