/-! the one text: String.length() and String.charAt(int) on it -/
def tx_F (oa : Nat → Nat) (n0 : Nat) (U : State) : Prop := vk_S 1 [91] [ga_by] (fun _ => oa 1) (fun _ => oa 2) (fun q => n0 ≤ q) U U.heap ∧ va_Z "java/lang/String" "COMPACT_STRINGS" "Z" (.int 1) (fun q => n0 ≤ q) U U.heap ∧ va_Zq "jdk/internal/util/Preconditions" "SIOOBE_FORMATTER" "Ljava/util/function/BiFunction;" (fun q => n0 ≤ q) U U.heap
def tx_P (oa : Nat → Nat) (n0 : Nat) (vs : List Value) : Array Value → State → Prop := fun v U => v = vs.toArray ∧ tx_F oa n0 U
def tx_Qi (r : Int32) : Array Value → State → Outcome → State → Prop := fun _ st oc t => oc = .returned (some (.int r)) ∧ t.heap = st.heap
def tx_Qv : Array Value → State → Outcome → State → Prop := fun _ st oc t => oc = .returned none ∧ t.heap = st.heap
def tx_rm (f : Nat) : Room := { frames := f, cells := 0, slots := 0, locals := 100 * f }
theorem tx_F.tr {oa : Nat → Nat} {n0 : Nat} {s U : State} {H : Heap} {locs : List Loc} (ho : tx_F oa n0 s) (hS : va_S (fun q => n0 ≤ q) s.heap H locs) (hU : U.heap = H) (hW : s.WarmedH U.vm) : tx_F oa n0 U := by
  obtain ⟨h1, h2, h3⟩ := ho
  refine ⟨?_, ?_, ?_⟩
  · rw [hU]; exact vk_S.moved hW.alike (h1.kept hS.2.1)
  · rw [hU]; exact va_Z.moved hW.alike (h2.kept hS.2.1)
  · rw [hU]; exact va_Zq.moved hW.alike (h3.kept hS.2.1)
theorem tx_blind {oa : Nat → Nat} {n0 : Nat} {vs : List Value} : FrameBlind (tx_P oa n0 vs) := by
  intro a U g mk hp
  obtain ⟨h0, h1, h2, h3⟩ := hp
  exact ⟨h0, vk_S.moved (u := U) (U := U.calling g mk a) (Vm.Alike.refl U.vm) h1, va_Z.moved (u := U) (U := U.calling g mk a) (Vm.Alike.refl U.vm) h2, va_Zq.moved (u := U) (U := U.calling g mk a) (Vm.Alike.refl U.vm) h3⟩
section TXS
variable {p : Program} {l : Launch} {e : Env} {R : Room} {s : State} {m : MethodId} {args : Array Value} {below : List Frame} {meth : Method} {c : Code} {Q : State → Prop} {H : Heap} {locs : List Loc} {cells slots : Nat} {pc : Nat} {ls : Array Slot} {st0 rest : List Value}
theorem tx_ci {r : Int32} {a : Array Value} (hr : va_Run p l e R s m args below meth c H locs cells slots 0 0 (F0 m pc ls st0) rest (tx_Qi r a) (fun _ => False)) (k : W p l e R s m args below meth c H locs cells slots Q (F0 m (pc + 3) ls (.int r :: rest))) : W p l e R s m args below meth c H locs cells slots Q (F0 m pc ls st0) := by
  intro T hT X
  obtain ⟨v, st₀, t, T', L, h0, X', hL, e1, e2, ⟨hv, hh⟩, st⟩ := hr T hT X
  cases hv
  have hL0 : L = [] := by
    cases L with
    | nil => rfl
    | cons q r => exact (hL q List.mem_cons_self).elim
  subst hL0
  rw [List.append_nil] at X'
  obtain ⟨t2, a1, b1⟩ := k T' (by rw [e1, hh, h0]) X'
  exact ⟨t2, st t2 a1, b1⟩
theorem tx_cv {a : Array Value} (hr : va_Run p l e R s m args below meth c H locs cells slots 0 0 (F0 m pc ls st0) rest (tx_Qv a) (fun _ => False)) (k : W p l e R s m args below meth c H locs cells slots Q (F0 m (pc + 3) ls rest)) : W p l e R s m args below meth c H locs cells slots Q (F0 m pc ls st0) := by
  intro T hT X
  obtain ⟨v, st₀, t, T', L, h0, X', hL, e1, e2, ⟨hv, hh⟩, st⟩ := hr T hT X
  cases hv
  have hL0 : L = [] := by
    cases L with
    | nil => rfl
    | cons q r => exact (hL q List.mem_cons_self).elim
  subst hL0
  rw [List.append_nil] at X'
  obtain ⟨t2, a1, b1⟩ := k T' (by rw [e1, hh, h0]) X'
  exact ⟨t2, st t2 a1, b1⟩
end TXS
def y_cdr : MethodName := ⟨"java/lang/String", "coder", "()B"⟩
def y_lat : MethodName := ⟨"java/lang/String", "isLatin1", "()Z"⟩
def y_pre : MethodName := ⟨"jdk/internal/util/Preconditions", "checkIndex", "(IILjava/util/function/BiFunction;)I"⟩
def y_chk : MethodName := ⟨"java/lang/String", "checkIndex", "(II)V"⟩
def y_l1c : MethodName := ⟨"java/lang/StringLatin1", "charAt", "([BI)C"⟩
def tw_cdr : List Cond := Cond.code y_cdr prog_18_method_152_code 1 (some .byte) :: gw_tbl
def tw_len : List Cond := Cond.code ga_yLen prog_18_method_54_code 1 (some .int) :: gw_tbl
def tw_lat : List Cond := Cond.code y_lat prog_18_method_154_code 1 (some .boolean) :: gw_tbl
def tw_pre : List Cond := Cond.code y_pre prog_22_method_11_code 3 (some .int) :: gw_tbl
def tw_chk : List Cond := Cond.code y_chk prog_18_method_155_code 2 none :: gw_tbl
def tw_l1c : List Cond := Cond.code y_l1c prog_19_method_2_code 2 (some .char) :: gw_tbl
def tw_chr : List Cond := Cond.code ga_yChr prog_18_method_56_code 2 (some .char) :: gw_tbl
theorem tw_good {y : MethodName} {b : ByteArray} {n : Nat} {r : Option FieldType} (i : Nat) (h : gw_ok i (.code y b n r) = true) : GoodIn gw_tbl (Cond.code y b n r :: gw_tbl) := by
  intro w hw
  rcases List.mem_cons.mp hw with rfl | hw
  · exact gw_good _ (gw_mem h)
  · exact gw_good w hw
theorem ti_str : Cond.initialized "java/lang/String" ∈ gw_tbl := gw_mem (i := 127) (by decide +kernel)
theorem ti_l1 : Cond.initialized "java/lang/StringLatin1" ∈ gw_tbl := gw_mem (i := 128) (by decide +kernel)
theorem ti_pre : Cond.initialized "jdk/internal/util/Preconditions" ∈ gw_tbl := gw_mem (i := 129) (by decide +kernel)
theorem tf_cs : Cond.fieldLink "java/lang/String" 38 "java/lang/String" "COMPACT_STRINGS" "Z" ∈ gw_tbl := gw_mem (i := 293) (by decide +kernel)
theorem tf_val : Cond.fieldLink "java/lang/String" 9 "java/lang/String" "value" "[B" ∈ gw_tbl := gw_mem (i := 2134) (by decide +kernel)
theorem tf_cdr : Cond.fieldLink "java/lang/String" 15 "java/lang/String" "coder" "B" ∈ gw_tbl := gw_mem (i := 2135) (by decide +kernel)
theorem tf_sio : Cond.fieldLink "java/lang/String" 1053 "jdk/internal/util/Preconditions" "SIOOBE_FORMATTER" "Ljava/util/function/BiFunction;" ∈ gw_tbl := gw_mem (i := 309) (by decide +kernel)
theorem tm_cdr : Cond.methodLink "java/lang/String" 335 y_cdr ∈ gw_tbl := gw_mem (i := 289) (by decide +kernel)
theorem tm_lat : Cond.methodLink "java/lang/String" 492 y_lat ∈ gw_tbl := gw_mem (i := 299) (by decide +kernel)
theorem tm_pre : Cond.methodLink "java/lang/String" 1059 y_pre ∈ gw_tbl := gw_mem (i := 311) (by decide +kernel)
theorem tm_chk : Cond.methodLink "java/lang/StringLatin1" 9 y_chk ∈ gw_tbl := gw_mem (i := 306) (by decide +kernel)
theorem tm_l1c : Cond.methodLink "java/lang/String" 495 y_l1c ∈ gw_tbl := gw_mem (i := 303) (by decide +kernel)
set_option maxHeartbeats 1000000 in
theorem c_cdr (l : Launch) (oa : Nat → Nat) (n0 : Nat) : Met l y_cdr tw_cdr (tx_rm 1) (tx_P oa n0 [.ref (oa 1)]) (tx_Qi 0) 0 0 (fun _ => False) := by
  refine Met_ofWF (cc := prog_18_method_152_code) (maxL := 1) (ret := some .byte) (by decide +kernel) rfl ?_
  intro p e s m args below meth c s₁ B hml hv
  obtain ⟨rfl, hT, hZ, hZq⟩ := hv
  have hx := B.exec
  have hb := B.bytes
  have hr := B.returns
  have hts0 := atoms_spec (ws := tw_cdr) B.pre
  have hts : ∀ w ∈ gw_tbl, w.before [Value.ref (oa 1)].toArray s = true := fun w hw => hts0 w (List.mem_cons_of_mem _ hw)
  have hown : s.vm.findClass "java/lang/String" = some m.cls := findClass_of_methodNamed B.named
  have hlocks := B.notSynchronized
  have hS : va_S (fun q => n0 ≤ q) s.heap s.heap [] := va_S.rf
  have hl := lv_entry ([.ref (oa 1)]) (n := 1) (Nat.le_of_ble_eq_true rfl)
  rw [lg_entry_eq]
  generalize (lg_sl ([.ref (oa 1)]) ++ List.replicate (1 - (lg_sl ([.ref (oa 1)])).length) Slot.unset).toArray = ls at hl ⊢
  have hl : lv_has ls 1 [(0, .ref (oa 1))] := hl
  refine va_gets hx hb hZ hS hown (hts _ tf_cs) (fun _ q => q) (show decode prog_18_method_152_code 0 = .ok (.getstatic 38, 3) by decide +kernel) ?_
  refine lv_if_eq (tgt := 13) hx hb (show decode prog_18_method_152_code 3 = .ok (.ifCond .eq 10, 3) by decide +kernel) (by decide) (fun q => absurd q (by decide)) (fun _ => ?_)
  refine lv_aload_n hx hb (show decode prog_18_method_152_code 6 = .ok (.aload_n 0, 1) by decide +kernel) rfl (lv_at hl 0 rfl) ?_
  refine vk_getf hx hb (hT.1 0 (by decide)).2.1 hS hown (hts _ tf_cdr) (fun _ q => q) (show decode prog_18_method_152_code 7 = .ok (.getfield 15, 3) by decide +kernel) ?_
  refine lv_goto (tgt := 14) hx hb (show decode prog_18_method_152_code 10 = .ok (.goto 4, 3) by decide +kernel) (by decide) ?_
  exact W.zret hx hb hr (by decide +kernel) (fun t ht hW => ⟨rfl, ht⟩) (fun q hq => by cases hq) (show decode prog_18_method_152_code 14 = .ok (.ireturn, 1) by decide +kernel) hlocks
set_option maxHeartbeats 1000000 in
theorem c_lat (l : Launch) (oa : Nat → Nat) (n0 : Nat) : Met l y_lat tw_lat (tx_rm 1) (tx_P oa n0 [.ref (oa 1)]) (tx_Qi 1) 0 0 (fun _ => False) := by
  refine Met_ofWF (cc := prog_18_method_154_code) (maxL := 1) (ret := some .boolean) (by decide +kernel) rfl ?_
  intro p e s m args below meth c s₁ B hml hv
  obtain ⟨rfl, hT, hZ, hZq⟩ := hv
  have hx := B.exec
  have hb := B.bytes
  have hr := B.returns
  have hts0 := atoms_spec (ws := tw_lat) B.pre
  have hts : ∀ w ∈ gw_tbl, w.before [Value.ref (oa 1)].toArray s = true := fun w hw => hts0 w (List.mem_cons_of_mem _ hw)
  have hown : s.vm.findClass "java/lang/String" = some m.cls := findClass_of_methodNamed B.named
  have hlocks := B.notSynchronized
  have hS : va_S (fun q => n0 ≤ q) s.heap s.heap [] := va_S.rf
  have hl := lv_entry ([.ref (oa 1)]) (n := 1) (Nat.le_of_ble_eq_true rfl)
  rw [lg_entry_eq]
  generalize (lg_sl ([.ref (oa 1)]) ++ List.replicate (1 - (lg_sl ([.ref (oa 1)])).length) Slot.unset).toArray = ls at hl ⊢
  have hl : lv_has ls 1 [(0, .ref (oa 1))] := hl
  refine va_gets hx hb hZ hS hown (hts _ tf_cs) (fun _ q => q) (show decode prog_18_method_154_code 0 = .ok (.getstatic 38, 3) by decide +kernel) ?_
  refine lv_if_eq (tgt := 17) hx hb (show decode prog_18_method_154_code 3 = .ok (.ifCond .eq 14, 3) by decide +kernel) (by decide) (fun q => absurd q (by decide)) (fun _ => ?_)
  refine lv_aload_n hx hb (show decode prog_18_method_154_code 6 = .ok (.aload_n 0, 1) by decide +kernel) rfl (lv_at hl 0 rfl) ?_
  refine vk_getf hx hb (hT.1 0 (by decide)).2.1 hS hown (hts _ tf_cdr) (fun _ q => q) (show decode prog_18_method_154_code 7 = .ok (.getfield 15, 3) by decide +kernel) ?_
  refine lv_if_ne (tgt := 17) hx hb (show decode prog_18_method_154_code 10 = .ok (.ifCond .ne 7, 3) by decide +kernel) (by decide) (fun q => absurd rfl q) (fun _ => ?_)
  refine lv_iconst (v := 1) hx hb (show decode prog_18_method_154_code 13 = .ok (.iconst 1, 1) by decide +kernel) (by decide) ?_
  refine lv_goto (tgt := 18) hx hb (show decode prog_18_method_154_code 14 = .ok (.goto 4, 3) by decide +kernel) (by decide) ?_
  exact W.zret hx hb hr (by decide +kernel) (fun t ht hW => ⟨rfl, ht⟩) (fun q hq => by cases hq) (show decode prog_18_method_154_code 18 = .ok (.ireturn, 1) by decide +kernel) hlocks
set_option maxHeartbeats 1000000 in
theorem c_len (l : Launch) (oa : Nat → Nat) (n0 : Nat) : Met l ga_yLen tw_len (tx_rm 2) (tx_P oa n0 [.ref (oa 1)]) (tx_Qi (nI 91)) 0 0 (fun _ => False) := by
  refine Met_ofWF (cc := prog_18_method_54_code) (maxL := 1) (ret := some .int) (by decide +kernel) rfl ?_
  intro p e s m args below meth c s₁ B hml hv
  obtain ⟨rfl, hT, hZ, hZq⟩ := hv
  have hx := B.exec
  have hb := B.bytes
  have hr := B.returns
  have hts0 := atoms_spec (ws := tw_len) B.pre
  have hts : ∀ w ∈ gw_tbl, w.before [Value.ref (oa 1)].toArray s = true := fun w hw => hts0 w (List.mem_cons_of_mem _ hw)
  have hown : s.vm.findClass "java/lang/String" = some m.cls := findClass_of_methodNamed B.named
  have hlocks := B.notSynchronized
  have hS : va_S (fun q => n0 ≤ q) s.heap s.heap [] := va_S.rf
  have hl := lv_entry ([.ref (oa 1)]) (n := 1) (Nat.le_of_ble_eq_true rfl)
  rw [lg_entry_eq]
  generalize (lg_sl ([.ref (oa 1)]) ++ List.replicate (1 - (lg_sl ([.ref (oa 1)])).length) Slot.unset).toArray = ls at hl ⊢
  have hl : lv_has ls 1 [(0, .ref (oa 1))] := hl
  refine lv_aload_n hx hb (show decode prog_18_method_54_code 0 = .ok (.aload_n 0, 1) by decide +kernel) rfl (lv_at hl 0 rfl) ?_
  refine vk_getf hx hb (hT.1 0 (by decide)).2.2.1 hS hown (hts _ tf_val) (fun _ q => q) (show decode prog_18_method_54_code 1 = .ok (.getfield 9, 3) by decide +kernel) ?_
  refine va_tlen (v := nI 91) hx hb (hT.1 0 (by decide)).2.2.2 hS rfl (show decode prog_18_method_54_code 4 = .ok (.arraylength, 1) by decide +kernel) ?_
  refine lv_aload_n hx hb (show decode prog_18_method_54_code 5 = .ok (.aload_n 0, 1) by decide +kernel) rfl (lv_at hl 0 rfl) ?_
  refine tx_ci (va_runV (As := []) (rest := [.int (nI 91)]) (C := "java/lang/String") (bytes := prog_18_method_152_code) (maxL := 1) (ret := some .byte) (n := 0) ⟨hx, hb, hml, hown, hts⟩ (c_cdr l oa n0) ⟨callB_of 0 hts (tw_good 292 (by decide +kernel)) rfl rfl rfl (hts _ ti_str) (hts _ tm_cdr) ⟨by decide, by decide, by decide +kernel⟩ ⟨Nat.le_of_ble_eq_true rfl, Nat.le_of_ble_eq_true rfl⟩, hts _ (gw_mem (i := 290) (by decide +kernel)), hts _ (gw_mem (i := 291) (by decide +kernel))⟩ ⟨tx_blind, vk_recv (i := 0) hT (by decide) hS, fun U hU hW => ⟨rfl, tx_F.tr ⟨hT, hZ, hZq⟩ hS hU hW⟩⟩ rfl rfl hl.1 rfl (lv_room (Nat.le_of_ble_eq_true rfl)) (show decode prog_18_method_54_code 6 = .ok (.invokevirtual 335, 3) by decide +kernel) ⟨Nat.le_refl _, Nat.le_refl _⟩) ?_
  refine lv_ishr hx hb (show decode prog_18_method_54_code 9 = .ok (.ishr, 1) by decide +kernel) ?_
  rw [show nI 91 >>> ((0 : Int32) &&& 31) = nI 91 by decide +kernel]
  exact W.iret hx hb hr (fun t ht hW => ⟨rfl, ht⟩) (fun q hq => by cases hq) (show decode prog_18_method_54_code 10 = .ok (.ireturn, 1) by decide +kernel) hlocks
set_option maxHeartbeats 1000000 in
theorem c_pre (l : Launch) (oa : Nat → Nat) (n0 : Nat) {j : Nat} (hj : j < 91) {va : Value} (hva : va = .null ∨ ∃ q, va = .ref q) : Met l y_pre tw_pre (tx_rm 1) (tx_P oa n0 [.int (nI j), .int (nI 91), va]) (tx_Qi (nI j)) 0 0 (fun _ => False) := by
  refine Met_ofWF (cc := prog_22_method_11_code) (maxL := 3) (ret := some .int) (by decide +kernel) rfl ?_
  intro p e s m args below meth c s₁ B hml hv
  obtain ⟨rfl, hT, hZ, hZq⟩ := hv
  have hx := B.exec
  have hb := B.bytes
  have hr := B.returns
  have hts0 := atoms_spec (ws := tw_pre) B.pre
  have hts : ∀ w ∈ gw_tbl, w.before ([.int (nI j), .int (nI 91), va] : List Value).toArray s = true := fun w hw => hts0 w (List.mem_cons_of_mem _ hw)
  have hown : s.vm.findClass "jdk/internal/util/Preconditions" = some m.cls := findClass_of_methodNamed B.named
  have hlocks := B.notSynchronized
  have hS : va_S (fun q => n0 ≤ q) s.heap s.heap [] := va_S.rf
  have hle : (lg_sl [.int (nI j), .int (nI 91), va]).length ≤ 3 := by rcases hva with rfl | ⟨q, rfl⟩ <;> exact Nat.le_of_ble_eq_true rfl
  have hl := lv_entry ([.int (nI j), .int (nI 91), va]) (n := 3) (hle)
  rw [lg_entry_eq]
  generalize (lg_sl ([.int (nI j), .int (nI 91), va]) ++ List.replicate (3 - (lg_sl ([.int (nI j), .int (nI 91), va])).length) Slot.unset).toArray = ls at hl ⊢
  have hl : lv_has ls 3 [(0, .int (nI j)), (1, .int (nI 91)), (2, va)] := hl
  refine lv_iload_n hx hb (show decode prog_22_method_11_code 0 = .ok (.iload_n 0, 1) by decide +kernel) rfl (lv_at hl 0 rfl) ?_
  refine lv_if_lt (tgt := 9) hx hb (show decode prog_22_method_11_code 1 = .ok (.ifCond .lt 8, 3) by decide +kernel) (by decide) (fun q => absurd q (nI_pos (by omega))) (fun _ => ?_)
  refine lv_iload_n hx hb (show decode prog_22_method_11_code 4 = .ok (.iload_n 0, 1) by decide +kernel) rfl (lv_at hl 0 rfl) ?_
  refine lv_iload_n hx hb (show decode prog_22_method_11_code 5 = .ok (.iload_n 1, 1) by decide +kernel) rfl (lv_at hl 1 rfl) ?_
  refine lv_icmp_lt (tgt := 16) hx hb (show decode prog_22_method_11_code 6 = .ok (.if_icmp .lt 10, 3) by decide +kernel) (by decide) (fun _ => ?_) (fun q => absurd (nI_lt hj (by decide)) q)
  refine lv_iload_n hx hb (show decode prog_22_method_11_code 16 = .ok (.iload_n 0, 1) by decide +kernel) rfl (lv_at hl 0 rfl) ?_
  exact W.iret hx hb hr (fun t ht hW => ⟨rfl, ht⟩) (fun q hq => by cases hq) (show decode prog_22_method_11_code 17 = .ok (.ireturn, 1) by decide +kernel) hlocks
set_option maxHeartbeats 1000000 in
theorem c_chk (l : Launch) (oa : Nat → Nat) (n0 : Nat) {j : Nat} (hj : j < 91) : Met l y_chk tw_chk (tx_rm 2) (tx_P oa n0 [.int (nI j), .int (nI 91)]) tx_Qv 0 0 (fun _ => False) := by
  refine Met_ofWF (cc := prog_18_method_155_code) (maxL := 2) (ret := none) (by decide +kernel) rfl ?_
  intro p e s m args below meth c s₁ B hml hv
  obtain ⟨rfl, hT, hZ, hZq⟩ := hv
  have hx := B.exec
  have hb := B.bytes
  have hr := B.returns
  have hts0 := atoms_spec (ws := tw_chk) B.pre
  have hts : ∀ w ∈ gw_tbl, w.before ([.int (nI j), .int (nI 91)] : List Value).toArray s = true := fun w hw => hts0 w (List.mem_cons_of_mem _ hw)
  have hown : s.vm.findClass "java/lang/String" = some m.cls := findClass_of_methodNamed B.named
  have hlocks := B.notSynchronized
  have hS : va_S (fun q => n0 ≤ q) s.heap s.heap [] := va_S.rf
  have hl := lv_entry ([.int (nI j), .int (nI 91)]) (n := 2) (Nat.le_of_ble_eq_true rfl)
  rw [lg_entry_eq]
  generalize (lg_sl ([.int (nI j), .int (nI 91)]) ++ List.replicate (2 - (lg_sl ([.int (nI j), .int (nI 91)])).length) Slot.unset).toArray = ls at hl ⊢
  have hl : lv_has ls 2 [(0, .int (nI j)), (1, .int (nI 91))] := hl
  refine lv_iload_n hx hb (show decode prog_18_method_155_code 0 = .ok (.iload_n 0, 1) by decide +kernel) rfl (lv_at hl 0 rfl) ?_
  refine lv_iload_n hx hb (show decode prog_18_method_155_code 1 = .ok (.iload_n 1, 1) by decide +kernel) rfl (lv_at hl 1 rfl) ?_
  have go : ∀ va : Value, (va = .null ∨ ∃ q, va = .ref q) → va_Z "jdk/internal/util/Preconditions" "SIOOBE_FORMATTER" "Ljava/util/function/BiFunction;" va (fun q => n0 ≤ q) s s.heap → W p l e (headSpec tw_chk (tx_rm 2)).room s m ([.int (nI j), .int (nI 91)] : List Value).toArray below meth c s.heap [] 0 0 (MQ below tx_Qv ([.int (nI j), .int (nI 91)] : List Value).toArray s 0 0 fun _ => False) (F0 m 2 ls [.int (nI 91), .int (nI j)]) := by
    intro va hva hZv
    refine va_gets hx hb hZv hS hown (hts _ tf_sio) (fun _ q => q) (show decode prog_18_method_155_code 2 = .ok (.getstatic 1053, 3) by decide +kernel) ?_
    refine tx_ci (va_runS (As := [.int (nI j), .int (nI 91), va]) (rest := []) (bytes := prog_22_method_11_code) (maxL := 3) (ret := some .int) (n := 3) ⟨hx, hb, hml, hown, hts⟩ (c_pre l oa n0 hj hva) ⟨callB_of 3 hts (tw_good 313 (by decide +kernel)) rfl rfl rfl (hts _ ti_pre) (hts _ tm_pre) ⟨by decide, by decide, by decide +kernel⟩ ⟨Nat.le_of_ble_eq_true rfl, Nat.le_of_ble_eq_true rfl⟩, hts _ (gw_mem (i := 312) (by decide +kernel))⟩ ⟨tx_blind, fun U hU hW => ⟨rfl, tx_F.tr ⟨hT, hZ, hZq⟩ hS hU hW⟩⟩ rfl rfl hl.1 rfl (lv_room (Nat.le_of_ble_eq_true rfl)) (show decode prog_18_method_155_code 5 = .ok (.invokestatic 1059, 3) by decide +kernel) ⟨Nat.le_refl _, Nat.le_refl _⟩) ?_
    refine lv_pop hx hb (show decode prog_18_method_155_code 8 = .ok (.pop, 1) by decide +kernel) rfl ?_
    exact W.vret hx hb hr (fun t ht hW => ⟨rfl, ht⟩) (fun q hq => by cases hq) (show decode prog_18_method_155_code 9 = .ok (.return_, 1) by decide +kernel) hlocks
  rcases hZq with hz | ⟨q, hz⟩
  · exact go .null (Or.inl rfl) hz
  · exact go (.ref q) (Or.inr ⟨q, rfl⟩) hz
theorem tx_ch : ∀ j, j < 91 → ((((ga_by.getD j 0) &&& 255).toUInt32 % 65536).toInt32 = nI (gm_tx.getD j 0) ∧ narrow .char (.int (nI (gm_tx.getD j 0))) = .int (nI (gm_tx.getD j 0))) := by decide +kernel
set_option maxHeartbeats 1000000 in
theorem c_l1c (l : Launch) (oa : Nat → Nat) (n0 : Nat) {j : Nat} (hj : j < 91) : Met l y_l1c tw_l1c (tx_rm 3) (tx_P oa n0 [.ref (oa 2), .int (nI j)]) (tx_Qi (nI (gm_tx.getD j 0))) 0 0 (fun _ => False) := by
  refine Met_ofWF (cc := prog_19_method_2_code) (maxL := 2) (ret := some .char) (by decide +kernel) rfl ?_
  intro p e s m args below meth c s₁ B hml hv
  obtain ⟨rfl, hT, hZ, hZq⟩ := hv
  have hx := B.exec
  have hb := B.bytes
  have hr := B.returns
  have hts0 := atoms_spec (ws := tw_l1c) B.pre
  have hts : ∀ w ∈ gw_tbl, w.before ([.ref (oa 2), .int (nI j)] : List Value).toArray s = true := fun w hw => hts0 w (List.mem_cons_of_mem _ hw)
  have hown : s.vm.findClass "java/lang/StringLatin1" = some m.cls := findClass_of_methodNamed B.named
  have hlocks := B.notSynchronized
  have hS : va_S (fun q => n0 ≤ q) s.heap s.heap [] := va_S.rf
  have hl := lv_entry ([.ref (oa 2), .int (nI j)]) (n := 2) (Nat.le_of_ble_eq_true rfl)
  rw [lg_entry_eq]
  generalize (lg_sl ([.ref (oa 2), .int (nI j)]) ++ List.replicate (2 - (lg_sl ([.ref (oa 2), .int (nI j)])).length) Slot.unset).toArray = ls at hl ⊢
  have hl : lv_has ls 2 [(0, .ref (oa 2)), (1, .int (nI j))] := hl
  refine lv_iload_n hx hb (show decode prog_19_method_2_code 0 = .ok (.iload_n 1, 1) by decide +kernel) rfl (lv_at hl 1 rfl) ?_
  refine lv_aload_n hx hb (show decode prog_19_method_2_code 1 = .ok (.aload_n 0, 1) by decide +kernel) rfl (lv_at hl 0 rfl) ?_
  refine va_tlen (v := nI 91) hx hb (hT.1 0 (by decide)).2.2.2 hS rfl (show decode prog_19_method_2_code 2 = .ok (.arraylength, 1) by decide +kernel) ?_
  refine tx_cv (va_runS (As := [.int (nI j), .int (nI 91)]) (rest := []) (bytes := prog_18_method_155_code) (maxL := 2) (ret := none) (n := 2) ⟨hx, hb, hml, hown, hts⟩ (c_chk l oa n0 hj) ⟨callB_of 2 hts (tw_good 308 (by decide +kernel)) rfl rfl rfl (hts _ ti_str) (hts _ tm_chk) ⟨by decide, by decide, by decide +kernel⟩ ⟨Nat.le_of_ble_eq_true rfl, Nat.le_of_ble_eq_true rfl⟩, hts _ (gw_mem (i := 307) (by decide +kernel))⟩ ⟨tx_blind, fun U hU hW => ⟨rfl, tx_F.tr ⟨hT, hZ, hZq⟩ hS hU hW⟩⟩ rfl rfl hl.1 rfl (lv_room (Nat.le_of_ble_eq_true rfl)) (show decode prog_19_method_2_code 3 = .ok (.invokestatic 9, 3) by decide +kernel) ⟨Nat.le_refl _, Nat.le_refl _⟩) ?_
  refine lv_aload_n hx hb (show decode prog_19_method_2_code 6 = .ok (.aload_n 0, 1) by decide +kernel) rfl (lv_at hl 0 rfl) ?_
  refine lv_iload_n hx hb (show decode prog_19_method_2_code 7 = .ok (.iload_n 1, 1) by decide +kernel) rfl (lv_at hl 1 rfl) ?_
  refine va_tb (v := .int (ga_by.getD j 0)) hx hb (hT.1 0 (by decide)).2.2.2 hS (vp_in_nI hj (by decide)) (by rw [nI_clamp (by omega)]; rfl) (show decode prog_19_method_2_code 8 = .ok (.baload, 1) by decide +kernel) ?_
  refine lv_sipush (v := 255) hx hb (show decode prog_19_method_2_code 9 = .ok (.sipush 255, 3) by decide +kernel) (by decide) ?_
  refine lv_iand hx hb (show decode prog_19_method_2_code 12 = .ok (.iand, 1) by decide +kernel) ?_
  refine lv_i2c (v := nI (gm_tx.getD j 0)) hx hb (show decode prog_19_method_2_code 13 = .ok (.i2c, 1) by decide +kernel) (tx_ch j hj).1 ?_
  exact W.zret hx hb hr (tx_ch j hj).2 (fun t ht hW => ⟨rfl, ht⟩) (fun q hq => by cases hq) (show decode prog_19_method_2_code 14 = .ok (.ireturn, 1) by decide +kernel) hlocks
set_option maxHeartbeats 1000000 in
theorem c_chr (l : Launch) (oa : Nat → Nat) (n0 : Nat) {j : Nat} (hj : j < 91) : Met l ga_yChr tw_chr (tx_rm 4) (tx_P oa n0 [.ref (oa 1), .int (nI j)]) (tx_Qi (nI (gm_tx.getD j 0))) 0 0 (fun _ => False) := by
  refine Met_ofWF (cc := prog_18_method_56_code) (maxL := 2) (ret := some .char) (by decide +kernel) rfl ?_
  intro p e s m args below meth c s₁ B hml hv
  obtain ⟨rfl, hT, hZ, hZq⟩ := hv
  have hx := B.exec
  have hb := B.bytes
  have hr := B.returns
  have hts0 := atoms_spec (ws := tw_chr) B.pre
  have hts : ∀ w ∈ gw_tbl, w.before ([.ref (oa 1), .int (nI j)] : List Value).toArray s = true := fun w hw => hts0 w (List.mem_cons_of_mem _ hw)
  have hown : s.vm.findClass "java/lang/String" = some m.cls := findClass_of_methodNamed B.named
  have hlocks := B.notSynchronized
  have hS : va_S (fun q => n0 ≤ q) s.heap s.heap [] := va_S.rf
  have hl := lv_entry ([.ref (oa 1), .int (nI j)]) (n := 2) (Nat.le_of_ble_eq_true rfl)
  rw [lg_entry_eq]
  generalize (lg_sl ([.ref (oa 1), .int (nI j)]) ++ List.replicate (2 - (lg_sl ([.ref (oa 1), .int (nI j)])).length) Slot.unset).toArray = ls at hl ⊢
  have hl : lv_has ls 2 [(0, .ref (oa 1)), (1, .int (nI j))] := hl
  refine lv_aload_n hx hb (show decode prog_18_method_56_code 0 = .ok (.aload_n 0, 1) by decide +kernel) rfl (lv_at hl 0 rfl) ?_
  refine tx_ci (va_runV (As := []) (rest := []) (C := "java/lang/String") (bytes := prog_18_method_154_code) (maxL := 1) (ret := some .boolean) (n := 0) ⟨hx, hb, hml, hown, hts⟩ (c_lat l oa n0) ⟨callB_of 0 hts (tw_good 302 (by decide +kernel)) rfl rfl rfl (hts _ ti_str) (hts _ tm_lat) ⟨by decide, by decide, by decide +kernel⟩ ⟨Nat.le_of_ble_eq_true rfl, Nat.le_of_ble_eq_true rfl⟩, hts _ (gw_mem (i := 300) (by decide +kernel)), hts _ (gw_mem (i := 301) (by decide +kernel))⟩ ⟨tx_blind, vk_recv (i := 0) hT (by decide) hS, fun U hU hW => ⟨rfl, tx_F.tr ⟨hT, hZ, hZq⟩ hS hU hW⟩⟩ rfl rfl hl.1 rfl (lv_room (Nat.le_of_ble_eq_true rfl)) (show decode prog_18_method_56_code 1 = .ok (.invokevirtual 492, 3) by decide +kernel) ⟨Nat.le_refl _, Nat.le_refl _⟩) ?_
  refine lv_if_eq (tgt := 16) hx hb (show decode prog_18_method_56_code 4 = .ok (.ifCond .eq 12, 3) by decide +kernel) (by decide) (fun q => absurd q (by decide)) (fun _ => ?_)
  refine lv_aload_n hx hb (show decode prog_18_method_56_code 7 = .ok (.aload_n 0, 1) by decide +kernel) rfl (lv_at hl 0 rfl) ?_
  refine vk_getf hx hb (hT.1 0 (by decide)).2.2.1 hS hown (hts _ tf_val) (fun _ q => q) (show decode prog_18_method_56_code 8 = .ok (.getfield 9, 3) by decide +kernel) ?_
  refine lv_iload_n hx hb (show decode prog_18_method_56_code 11 = .ok (.iload_n 1, 1) by decide +kernel) rfl (lv_at hl 1 rfl) ?_
  refine tx_ci (va_runS (As := [.ref (oa 2), .int (nI j)]) (rest := []) (bytes := prog_19_method_2_code) (maxL := 2) (ret := some .char) (n := 2) ⟨hx, hb, hml, hown, hts⟩ (c_l1c l oa n0 hj) ⟨callB_of 2 hts (tw_good 305 (by decide +kernel)) rfl rfl rfl (hts _ ti_l1) (hts _ tm_l1c) ⟨by decide, by decide, by decide +kernel⟩ ⟨Nat.le_of_ble_eq_true rfl, Nat.le_of_ble_eq_true rfl⟩, hts _ (gw_mem (i := 304) (by decide +kernel))⟩ ⟨tx_blind, fun U hU hW => ⟨rfl, tx_F.tr ⟨hT, hZ, hZq⟩ hS hU hW⟩⟩ rfl rfl hl.1 rfl (lv_room (Nat.le_of_ble_eq_true rfl)) (show decode prog_18_method_56_code 12 = .ok (.invokestatic 495, 3) by decide +kernel) ⟨Nat.le_refl _, Nat.le_refl _⟩) ?_
  exact W.zret hx hb hr (tx_ch j hj).2 (fun t ht hW => ⟨rfl, ht⟩) (fun q hq => by cases hq) (show decode prog_18_method_56_code 15 = .ok (.ireturn, 1) by decide +kernel) hlocks
theorem tx_all (l : Launch) (oa : Nat → Nat) (n0 : Nat) : ga_TXA l oa n0 := by
  intro p e R s m args below meth c Q ρ L nL own cc hx hb hml hown hts hn0 hold hRf hRl
  have hF : tx_F oa n0 s := hold.2.2.2.2.2
  refine ⟨fun H locs ls st cs ss idx pc hw hdg hsz hwd hc1 hc2 hS k => ?_, fun H locs ls st cs ss idx pc j hw hdg hsz hwd hc1 hc2 hj hS k => ?_⟩
  · exact tx_ci (va_runV (As := []) (rest := st) (C := "java/lang/String") (bytes := prog_18_method_54_code) (maxL := 1) (ret := some .int) (n := 0) ⟨hx, hb, hml, hown, hts⟩ (c_len l oa n0) ⟨callB_of 0 hts (tw_good 288 (by decide +kernel)) rfl rfl rfl (hts _ ti_str) (hts _ hw) ⟨by decide, by decide, by decide +kernel⟩ ⟨by show 2 + 1 ≤ R.frames; omega, by show 8 + (1 + 11) + 200 ≤ R.locals; omega⟩, hts _ (gw_mem (i := 286) (by decide +kernel)), hts _ (gw_mem (i := 287) (by decide +kernel))⟩ ⟨tx_blind, vk_recv (i := 0) hF.1 (by decide) hS, fun U hU hW => ⟨rfl, tx_F.tr hF hS hU hW⟩⟩ rfl rfl hsz rfl (by show 2 * 0 + _ ≤ 8; omega) hdg ⟨hc1, hc2⟩) k
  · exact tx_ci (va_runV (As := [.int (nI j)]) (rest := st) (C := "java/lang/String") (bytes := prog_18_method_56_code) (maxL := 2) (ret := some .char) (n := 1) ⟨hx, hb, hml, hown, hts⟩ (c_chr l oa n0 hj) ⟨callB_of 1 hts (tw_good 298 (by decide +kernel)) rfl rfl rfl (hts _ ti_str) (hts _ hw) ⟨by decide, by decide, by decide +kernel⟩ ⟨by show 4 + 1 ≤ R.frames; omega, by show 8 + (2 + 11) + 400 ≤ R.locals; omega⟩, hts _ (gw_mem (i := 296) (by decide +kernel)), hts _ (gw_mem (i := 297) (by decide +kernel))⟩ ⟨tx_blind, vk_recv (i := 0) hF.1 (by decide) hS, fun U hU hW => ⟨rfl, tx_F.tr hF hS hU hW⟩⟩ rfl rfl hsz rfl (by show 2 * 0 + _ ≤ 8; omega) hdg ⟨hc1, hc2⟩) k
