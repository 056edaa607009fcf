/-! the one text: String.length() and String.charAt(int) on it -/
def tx_F (oa : Nat → Nat) (n0 : Nat) (U : State) : Prop := vk_S 1 [91] [ga_by] (fun _ => oa 1) (fun _ => oa 2) (fun q => n0 ≤ q) U U.heap ∧ va_Z "java/lang/String" "COMPACT_STRINGS" "Z" (.int 1) (fun q => n0 ≤ q) U U.heap ∧ va_Zq "jdk/internal/util/Preconditions" "SIOOBE_FORMATTER" "Ljava/util/function/BiFunction;" (fun q => n0 ≤ q) U U.heap
def tx_P (oa : Nat → Nat) (n0 : Nat) (vs : List Value) : Array Value → State → Prop := fun v U => v = vs.toArray ∧ tx_F oa n0 U
def tx_Qi (r : Int32) : Array Value → State → Outcome → State → Prop := fun _ st oc t => oc = .returned (some (.int r)) ∧ t.heap = st.heap
def tx_Qv : Array Value → State → Outcome → State → Prop := fun _ st oc t => oc = .returned none ∧ t.heap = st.heap
def tx_rm (f : Nat) : Room := { frames := f, cells := 0, slots := 0, locals := 100 * f }
theorem tx_F.tr {oa : Nat → Nat} {n0 : Nat} {s U : State} {H : Heap} {locs : List Loc} (ho : tx_F oa n0 s) (hS : va_S (fun q => n0 ≤ q) s.heap H locs) (hU : U.heap = H) (hW : s.WarmedH U.vm) : tx_F oa n0 U := by
  obtain ⟨h1, h2, h3⟩ := ho
  refine ⟨?_, ?_, ?_⟩
  · rw [hU]; exact vk_S.moved hW.alike (h1.kept hS.2.1)
  · rw [hU]; exact va_Z.moved hW.alike (h2.kept hS.2.1)
  · rw [hU]; exact va_Zq.moved hW.alike (h3.kept hS.2.1)
theorem tx_blind {oa : Nat → Nat} {n0 : Nat} {vs : List Value} : FrameBlind (tx_P oa n0 vs) := by
  intro a U g mk hp
  obtain ⟨h0, h1, h2, h3⟩ := hp
  exact ⟨h0, vk_S.moved (u := U) (U := U.calling g mk a) (Vm.Alike.refl U.vm) h1, va_Z.moved (u := U) (U := U.calling g mk a) (Vm.Alike.refl U.vm) h2, va_Zq.moved (u := U) (U := U.calling g mk a) (Vm.Alike.refl U.vm) h3⟩
section TXS
variable {p : Program} {l : Launch} {e : Env} {R : Room} {s : State} {m : MethodId} {args : Array Value} {below : List Frame} {meth : Method} {c : Code} {Q : State → Prop} {H : Heap} {locs : List Loc} {cells slots : Nat} {pc : Nat} {ls : Array Slot} {st0 rest : List Value}
theorem tx_ci {r : Int32} {a : Array Value} (hr : va_Run p l e R s m args below meth c H locs cells slots 0 0 (F0 m pc ls st0) rest (tx_Qi r a) (fun _ => False)) (k : W p l e R s m args below meth c H locs cells slots Q (F0 m (pc + 3) ls (.int r :: rest))) : W p l e R s m args below meth c H locs cells slots Q (F0 m pc ls st0) := by
  intro T hT X
  obtain ⟨v, st₀, t, T', L, h0, X', hL, e1, e2, ⟨hv, hh⟩, st⟩ := hr T hT X
  cases hv
  have hL0 : L = [] := by
    cases L with
    | nil => rfl
    | cons q r => exact (hL q List.mem_cons_self).elim
  subst hL0
  rw [List.append_nil] at X'
  obtain ⟨t2, a1, b1⟩ := k T' (by rw [e1, hh, h0]) X'
  exact ⟨t2, st t2 a1, b1⟩
theorem tx_cv {a : Array Value} (hr : va_Run p l e R s m args below meth c H locs cells slots 0 0 (F0 m pc ls st0) rest (tx_Qv a) (fun _ => False)) (k : W p l e R s m args below meth c H locs cells slots Q (F0 m (pc + 3) ls rest)) : W p l e R s m args below meth c H locs cells slots Q (F0 m pc ls st0) := by
  intro T hT X
  obtain ⟨v, st₀, t, T', L, h0, X', hL, e1, e2, ⟨hv, hh⟩, st⟩ := hr T hT X
  cases hv
  have hL0 : L = [] := by
    cases L with
    | nil => rfl
    | cons q r => exact (hL q List.mem_cons_self).elim
  subst hL0
  rw [List.append_nil] at X'
  obtain ⟨t2, a1, b1⟩ := k T' (by rw [e1, hh, h0]) X'
  exact ⟨t2, st t2 a1, b1⟩
end TXS
def y_cdr : MethodName := ⟨"java/lang/String", "coder", "()B"⟩
def y_lat : MethodName := ⟨"java/lang/String", "isLatin1", "()Z"⟩
def y_pre : MethodName := ⟨"jdk/internal/util/Preconditions", "checkIndex", "(IILjava/util/function/BiFunction;)I"⟩
def y_chk : MethodName := ⟨"java/lang/String", "checkIndex", "(II)V"⟩
def y_l1c : MethodName := ⟨"java/lang/StringLatin1", "charAt", "([BI)C"⟩
def tw_cdr : List Cond := Cond.code y_cdr prog_18_method_152_code 1 (some .byte) :: gw_tbl
def tw_len : List Cond := Cond.code ga_yLen prog_18_method_54_code 1 (some .int) :: gw_tbl
def tw_lat : List Cond := Cond.code y_lat prog_18_method_154_code 1 (some .boolean) :: gw_tbl
def tw_pre : List Cond := Cond.code y_pre prog_22_method_11_code 3 (some .int) :: gw_tbl
def tw_chk : List Cond := Cond.code y_chk prog_18_method_155_code 2 none :: gw_tbl
def tw_l1c : List Cond := Cond.code y_l1c prog_19_method_2_code 2 (some .char) :: gw_tbl
def tw_chr : List Cond := Cond.code ga_yChr prog_18_method_56_code 2 (some .char) :: gw_tbl
theorem tw_good {y : MethodName} {b : ByteArray} {n : Nat} {r : Option FieldType} (i : Nat) (h : gw_ok i (.code y b n r) = true) : GoodIn gw_tbl (Cond.code y b n r :: gw_tbl) := by
  intro w hw
  rcases List.mem_cons.mp hw with rfl | hw
  · exact gw_good _ (gw_mem h)
  · exact gw_good w hw
theorem ti_str : Cond.initialized "java/lang/String" ∈ gw_tbl := gw_mem (i := 127) (by decide +kernel)
theorem ti_l1 : Cond.initialized "java/lang/StringLatin1" ∈ gw_tbl := gw_mem (i := 128) (by decide +kernel)
theorem ti_pre : Cond.initialized "jdk/internal/util/Preconditions" ∈ gw_tbl := gw_mem (i := 129) (by decide +kernel)
theorem tf_cs : Cond.fieldLink "java/lang/String" 38 "java/lang/String" "COMPACT_STRINGS" "Z" ∈ gw_tbl := gw_mem (i := 293) (by decide +kernel)
theorem tf_val : Cond.fieldLink "java/lang/String" 9 "java/lang/String" "value" "[B" ∈ gw_tbl := gw_mem (i := 2134) (by decide +kernel)
theorem tf_cdr : Cond.fieldLink "java/lang/String" 15 "java/lang/String" "coder" "B" ∈ gw_tbl := gw_mem (i := 2135) (by decide +kernel)
theorem tf_sio : Cond.fieldLink "java/lang/String" 1053 "jdk/internal/util/Preconditions" "SIOOBE_FORMATTER" "Ljava/util/function/BiFunction;" ∈ gw_tbl := gw_mem (i := 309) (by decide +kernel)
theorem tm_cdr : Cond.methodLink "java/lang/String" 335 y_cdr ∈ gw_tbl := gw_mem (i := 289) (by decide +kernel)
theorem tm_lat : Cond.methodLink "java/lang/String" 492 y_lat ∈ gw_tbl := gw_mem (i := 299) (by decide +kernel)
theorem tm_pre : Cond.methodLink "java/lang/String" 1059 y_pre ∈ gw_tbl := gw_mem (i := 311) (by decide +kernel)
theorem tm_chk : Cond.methodLink "java/lang/StringLatin1" 9 y_chk ∈ gw_tbl := gw_mem (i := 306) (by decide +kernel)
theorem tm_l1c : Cond.methodLink "java/lang/String" 495 y_l1c ∈ gw_tbl := gw_mem (i := 303) (by decide +kernel)
set_option maxHeartbeats 1000000 in
theorem c_cdr (l : Launch) (oa : Nat → Nat) (n0 : Nat) : Met l y_cdr tw_cdr (tx_rm 1) (tx_P oa n0 [.ref (oa 1)]) (tx_Qi 0) 0 0 (fun _ => False) := by
  refine Met_ofWF (cc := prog_18_method_152_code) (maxL := 1) (ret := some .byte) (by decide +kernel) rfl ?_
  intro p e s m args below meth c s₁ B hml hv
  obtain ⟨rfl, hT, hZ, hZq⟩ := hv
  have hx := B.exec
  have hb := B.bytes
  have hr := B.returns
  have hts0 := atoms_spec (ws := tw_cdr) B.pre
  have hts : ∀ w ∈ gw_tbl, w.before [Value.ref (oa 1)].toArray s = true := fun w hw => hts0 w (List.mem_cons_of_mem _ hw)
  have hown : s.vm.findClass "java/lang/String" = some m.cls := findClass_of_methodNamed B.named
  have hlocks := B.notSynchronized
  have hS : va_S (fun q => n0 ≤ q) s.heap s.heap [] := va_S.rf
  have hl := lv_entry ([.ref (oa 1)]) (n := 1) (Nat.le_of_ble_eq_true rfl)
  rw [lg_entry_eq]
  generalize (lg_sl ([.ref (oa 1)]) ++ List.replicate (1 - (lg_sl ([.ref (oa 1)])).length) Slot.unset).toArray = ls at hl ⊢
  have hl : lv_has ls 1 [(0, .ref (oa 1))] := hl
  refine va_gets hx hb hZ hS hown (hts _ tf_cs) (fun _ q => q) (show decode prog_18_method_152_code 0 = .ok (.getstatic 38, 3) by decide +kernel) ?_
  refine lv_if_eq (tgt := 13) hx hb (show decode prog_18_method_152_code 3 = .ok (.ifCond .eq 10, 3) by decide +kernel) (by decide) (fun q => absurd q (by decide)) (fun _ => ?_)
  refine lv_aload_n hx hb (show decode prog_18_method_152_code 6 = .ok (.aload_n 0, 1) by decide +kernel) rfl (lv_at hl 0 rfl) ?_
  refine vk_getf hx hb (hT.1 0 (by decide)).2.1 hS hown (hts _ tf_cdr) (fun _ q => q) (show decode prog_18_method_152_code 7 = .ok (.getfield 15, 3) by decide +kernel) ?_
  refine lv_goto (tgt := 14) hx hb (show decode prog_18_method_152_code 10 = .ok (.goto 4, 3) by decide +kernel) (by decide) ?_
  exact W.zret hx hb hr (by decide +kernel) (fun t ht hW => ⟨rfl, ht⟩) (fun q hq => by cases hq) (show decode prog_18_method_152_code 14 = .ok (.ireturn, 1) by decide +kernel) hlocks
set_option maxHeartbeats 1000000 in
theorem c_lat (l : Launch) (oa : Nat → Nat) (n0 : Nat) : Met l y_lat tw_lat (tx_rm 1) (tx_P oa n0 [.ref (oa 1)]) (tx_Qi 1) 0 0 (fun _ => False) := by
  refine Met_ofWF (cc := prog_18_method_154_code) (maxL := 1) (ret := some .boolean) (by decide +kernel) rfl ?_
  intro p e s m args below meth c s₁ B hml hv
  obtain ⟨rfl, hT, hZ, hZq⟩ := hv
  have hx := B.exec
  have hb := B.bytes
  have hr := B.returns
  have hts0 := atoms_spec (ws := tw_lat) B.pre
  have hts : ∀ w ∈ gw_tbl, w.before [Value.ref (oa 1)].toArray s = true := fun w hw => hts0 w (List.mem_cons_of_mem _ hw)
  have hown : s.vm.findClass "java/lang/String" = some m.cls := findClass_of_methodNamed B.named
  have hlocks := B.notSynchronized
  have hS : va_S (fun q => n0 ≤ q) s.heap s.heap [] := va_S.rf
  have hl := lv_entry ([.ref (oa 1)]) (n := 1) (Nat.le_of_ble_eq_true rfl)
  rw [lg_entry_eq]
  generalize (lg_sl ([.ref (oa 1)]) ++ List.replicate (1 - (lg_sl ([.ref (oa 1)])).length) Slot.unset).toArray = ls at hl ⊢
  have hl : lv_has ls 1 [(0, .ref (oa 1))] := hl
  refine va_gets hx hb hZ hS hown (hts _ tf_cs) (fun _ q => q) (show decode prog_18_method_154_code 0 = .ok (.getstatic 38, 3) by decide +kernel) ?_
  refine lv_if_eq (tgt := 17) hx hb (show decode prog_18_method_154_code 3 = .ok (.ifCond .eq 14, 3) by decide +kernel) (by decide) (fun q => absurd q (by decide)) (fun _ => ?_)
  refine lv_aload_n hx hb (show decode prog_18_method_154_code 6 = .ok (.aload_n 0, 1) by decide +kernel) rfl (lv_at hl 0 rfl) ?_
  refine vk_getf hx hb (hT.1 0 (by decide)).2.1 hS hown (hts _ tf_cdr) (fun _ q => q) (show decode prog_18_method_154_code 7 = .ok (.getfield 15, 3) by decide +kernel) ?_
  refine lv_if_ne (tgt := 17) hx hb (show decode prog_18_method_154_code 10 = .ok (.ifCond .ne 7, 3) by decide +kernel) (by decide) (fun q => absurd rfl q) (fun _ => ?_)
  refine lv_iconst (v := 1) hx hb (show decode prog_18_method_154_code 13 = .ok (.iconst 1, 1) by decide +kernel) (by decide) ?_
  refine lv_goto (tgt := 18) hx hb (show decode prog_18_method_154_code 14 = .ok (.goto 4, 3) by decide +kernel) (by decide) ?_
  exact W.zret hx hb hr (by decide +kernel) (fun t ht hW => ⟨rfl, ht⟩) (fun q hq => by cases hq) (show decode prog_18_method_154_code 18 = .ok (.ireturn, 1) by decide +kernel) hlocks
set_option maxHeartbeats 1000000 in
theorem c_len (l : Launch) (oa : Nat → Nat) (n0 : Nat) : Met l ga_yLen tw_len (tx_rm 2) (tx_P oa n0 [.ref (oa 1)]) (tx_Qi (nI 91)) 0 0 (fun _ => False) := by
  refine Met_ofWF (cc := prog_18_method_54_code) (maxL := 1) (ret := some .int) (by decide +kernel) rfl ?_
  intro p e s m args below meth c s₁ B hml hv
  obtain ⟨rfl, hT, hZ, hZq⟩ := hv
  have hx := B.exec
  have hb := B.bytes
  have hr := B.returns
  have hts0 := atoms_spec (ws := tw_len) B.pre
  have hts : ∀ w ∈ gw_tbl, w.before [Value.ref (oa 1)].toArray s = true := fun w hw => hts0 w (List.mem_cons_of_mem _ hw)
  have hown : s.vm.findClass "java/lang/String" = some m.cls := findClass_of_methodNamed B.named
  have hlocks := B.notSynchronized
  have hS : va_S (fun q => n0 ≤ q) s.heap s.heap [] := va_S.rf
  have hl := lv_entry ([.ref (oa 1)]) (n := 1) (Nat.le_of_ble_eq_true rfl)
  rw [lg_entry_eq]
  generalize (lg_sl ([.ref (oa 1)]) ++ List.replicate (1 - (lg_sl ([.ref (oa 1)])).length) Slot.unset).toArray = ls at hl ⊢
  have hl : lv_has ls 1 [(0, .ref (oa 1))] := hl
  refine lv_aload_n hx hb (show decode prog_18_method_54_code 0 = .ok (.aload_n 0, 1) by decide +kernel) rfl (lv_at hl 0 rfl) ?_
  refine vk_getf hx hb (hT.1 0 (by decide)).2.2.1 hS hown (hts _ tf_val) (fun _ q => q) (show decode prog_18_method_54_code 1 = .ok (.getfield 9, 3) by decide +kernel) ?_
  refine va_tlen (v := nI 91) hx hb (hT.1 0 (by decide)).2.2.2 hS rfl (show decode prog_18_method_54_code 4 = .ok (.arraylength, 1) by decide +kernel) ?_
  refine lv_aload_n hx hb (show decode prog_18_method_54_code 5 = .ok (.aload_n 0, 1) by decide +kernel) rfl (lv_at hl 0 rfl) ?_
  refine tx_ci (va_runV (As := []) (rest := [.int (nI 91)]) (C := "java/lang/String") (bytes := prog_18_method_152_code) (maxL := 1) (ret := some .byte) (n := 0) ⟨hx, hb, hml, hown, hts⟩ (c_cdr l oa n0) ⟨callB_of 0 hts (tw_good 292 (by decide +kernel)) rfl rfl rfl (hts _ ti_str) (hts _ tm_cdr) ⟨by decide, by decide, by decide +kernel⟩ ⟨Nat.le_of_ble_eq_true rfl, Nat.le_of_ble_eq_true rfl⟩, hts _ (gw_mem (i := 290) (by decide +kernel)), hts _ (gw_mem (i := 291) (by decide +kernel))⟩ ⟨tx_blind, vk_recv hT (by decide) hS, fun U hU hW => ⟨rfl, tx_F.tr ⟨hT, hZ, hZq⟩ hS hU hW⟩⟩ rfl rfl hl.1 rfl (lv_room (Nat.le_of_ble_eq_true rfl)) (show decode prog_18_method_54_code 6 = .ok (.invokevirtual 335, 3) by decide +kernel) ⟨Nat.le_refl _, Nat.le_refl _⟩) ?_
  refine lv_ishr hx hb (show decode prog_18_method_54_code 9 = .ok (.ishr, 1) by decide +kernel) ?_
  rw [show nI 91 >>> ((0 : Int32) &&& 31) = nI 91 by decide +kernel]
  exact W.iret hx hb hr (fun t ht hW => ⟨rfl, ht⟩) (fun q hq => by cases hq) (show decode prog_18_method_54_code 10 = .ok (.ireturn, 1) by decide +kernel) hlocks
