/-! calls of the world's own methods -/
theorem ga_old_tr {ρ : Nat → Int32} {oa : Nat → Nat} {n0 L : Nat} {s U : State} {H : Heap} {locs : List Loc} (ho : ga_old ρ oa n0 L s) (hS : va_S (fun q => n0 ≤ q) s.heap H locs) (hn0 : n0 ≤ s.heap.size) (hU : U.heap = H) (hW : s.WarmedH U.vm) : ga_old ρ oa n0 L U := by
  obtain ⟨h0, hX, hN, hA, hR, hT, hZ, hZq⟩ := ho
  refine ⟨h0, ?_, fun w hw => ?_, va_AO.moved hW.alike hA, vk_R.warm hW hR, ?_, ?_, ?_⟩
  · rw [hU]
    exact va_X.moved hW.alike (hX.kept (hS.2.1 _ (by omega) (by omega)))
  · have h1 := hN w hw
    have h2 := (List.mem_filter.mp hw).2
    cases w <;> first | exact va_Nw.warmF hW h1 | exact va_Nw.warmM hW h1 | (exact absurd h2 (by simp [gw_isN]))
  · rw [hU]
    exact vk_S.moved hW.alike (hT.kept hS.2.1)
  · rw [hU]
    exact va_Z.moved hW.alike (hZ.kept hS.2.1)
  · rw [hU]
    exact va_Zq.moved hW.alike (hZq.kept hS.2.1)
theorem ga_old_vm {ρ : Nat → Int32} {oa : Nat → Nat} {n0 L : Nat} {s U : State} (ho : ga_old ρ oa n0 L s) (hU : U.heap = s.heap) (hv : U.vm = s.vm) : ga_old ρ oa n0 L U := by
  obtain ⟨h0, hX, hN, hA, hR, hT, hZ, hZq⟩ := ho
  have al : s.vm.Alike U.vm := by rw [hv]; exact Vm.Alike.refl s.vm
  refine ⟨h0, ?_, fun w hw => ?_, va_AO.moved al hA, vk_R.same hv hR, ?_, ?_, ?_⟩
  · rw [hU]; exact va_X.moved al hX
  · have h2 := (List.mem_filter.mp hw).2
    have ht : w.onTables = true := by cases w <;> first | rfl | (exact absurd h2 (by simp [gw_isN]))
    exact va_Nw.same ht hv.symm (hN w hw)
  · rw [hU]; exact vk_S.moved al hT
  · rw [hU]; exact va_Z.moved al hZ
  · rw [hU]; exact va_Zq.moved al hZq
theorem ga_Pc_blind {ρ : Nat → Int32} {oa : Nat → Nat} {ta : Nat → ClassId} {D : va_G} {n0 L : Nat} {ad as : List Nat} {iv : ga_I} {n : Nat} {h : ga_H} : FrameBlind (ga_Pc ρ oa ta D n0 (ga_old ρ oa n0 L) ad as iv n h) := by
  intro a U g mk hp
  obtain ⟨h1, h2, h3, h4, h5, h6⟩ := hp
  exact ⟨h1, h2, h3, va_K.moved (u := U) (U := U.calling g mk a) (Vm.Alike.refl U.vm) h4, h5, ga_old_vm h6 rfl rfl⟩
theorem gw_code {k : Nat} (hk : gm_okm k = true) : GoodIn gw_tbl (gw_m k) := by
  intro w hw
  rcases List.mem_cons.mp hw with rfl | hw
  · have : Cond.code (gm_i k).1 (gm_i k).2.1 (gm_i k).2.2.1 (gm_i k).2.2.2 ∈ gw_tbl := by
      unfold gm_okm at hk
      split at hk
      · rename_i e1 e2 e3
        rw [e2]
        simp only [Bool.and_eq_true] at hk
        exact gw_mem hk.1.1.1.1.1.1.1.1
      · cases hk
    exact gw_good _ this
  · exact gw_good w hw
/-- what the certificate of a method says -/
theorem gm_facts {k : Nat} (hk : gm_okm k = true) : Cond.initialized (gm_i k).1.cls ∈ gw_tbl ∧ plainFor (gm_i k).1 = true ∧ ((gm_i k).1.cls ≠ "java/lang/invoke/MethodHandle" ∧ (gm_i k).1.cls ≠ "java/lang/invoke/VarHandle") ∧ (gm_me k).2.2.1 = (gm_i k).2.2.1 ∧ (gm_i k).2.2.1 ≤ 80 ∧
    (gm_ci k = 999 → Cond.static (gm_i k).1 ∈ gw_tbl ∧ (parseMethodDescriptor (gm_i k).1.desc).map (fun d => d.parameters.length) = some (gm_na k)) ∧
    (¬ gm_ci k = 999 → Cond.instanceMethod (gm_i k).1 ∈ gw_tbl ∧ (parseMethodDescriptor (gm_i k).1.desc).map (fun d => d.parameters.length + 1) = some (gm_na k) ∧ (gm_cl[gm_ci k]?).map (·.1) = some (gm_i k).1.cls ∧ ((gm_i k).1.name = "<init>" → (gm_i k).2.2.2 = none) ∧ (¬ (gm_i k).1.name = "<init>" → Cond.selects (gm_i k).1.cls (gm_i k).1 (gm_i k).1 ∈ gw_tbl)) ∧
    (match (gm_i k).2.2.2 with | none => Nat.beq (gm_rc k) 0 | some .int => Nat.beq (gm_rc k) 1 | some .boolean => Nat.beq (gm_rc k) 2 | some .long => Nat.beq (gm_rc k) 4 | some (.object _) => Nat.beq (gm_rc k) 5 | _ => false) = true ∧
    ga_okc (gm_i k).1.cls (gm_i k).2.1 (decide ((gm_i k).1.name = "<init>")) (gm_i k).2.2.1 (gm_me k).1 := by
  unfold gm_okm at hk
  unfold gm_ci gm_na gm_rc
  split at hk
  · rename_i e1 e2 e3
    rw [e1, e2]
    simp only [Bool.and_eq_true, decide_eq_true_eq] at hk
    obtain ⟨⟨⟨⟨⟨⟨⟨⟨k1, k2⟩, k3⟩, k4⟩, k5⟩, k6⟩, k7⟩, k8⟩, k9⟩ := hk
    refine ⟨gw_mem k2, k3, k4, Nat.eq_of_beq_eq_true k5, Nat.le_of_ble_eq_true k6, fun hc => ?_, fun hc => ?_, k8, ga_okb_ok k9⟩
    · rw [if_pos hc] at k7
      simp only [Bool.and_eq_true, decide_eq_true_eq] at k7
      exact ⟨gw_mem k7.1.1, k7.1.2⟩
    · rw [if_neg hc] at k7
      simp only [Bool.and_eq_true, decide_eq_true_eq] at k7
      refine ⟨gw_mem k7.1.1.1, k7.1.1.2, k7.1.2, fun hi => ?_, fun hi => ?_⟩
      · have := k7.2
        rw [if_pos hi] at this
        exact of_decide_eq_true this
      · have := k7.2
        rw [if_neg hi] at this
        exact gw_mem this
  · cases hk
theorem ga_if_some {b : Bool} {t : Option (List ga_O)} {os : List ga_O} (h : ga_if b t none = some os) : b = true ∧ t = some os := by
  cases b with
  | true => exact ⟨rfl, h⟩
  | false => cases h
theorem ga_take_some {na : Nat} {sk : List Nat} {K : List Nat → List Nat → Option (List ga_O)} {os : List ga_O} (h : ga_take na [] sk K none = some os) : ∃ as t, sk = as.reverse ++ t ∧ as.length = na ∧ K as t = some os := by
  rcases ga_take_eq (z := (none : Option (List ga_O))) na [] sk K with hz | ⟨as, t, h1, h2, h3⟩
  · rw [hz] at h; cases h
  · rw [List.append_nil] at h3
    exact ⟨as, t, h1, h2, h3.symm.trans h⟩
section GY
variable {p : Program} {l : Launch} {e : Env} {R : Room} {s : State} {m : MethodId} {args : Array Value} {below : List Frame} {meth : Method} {c : Code} {Q : State → Prop}
variable {ρ : Nat → Int32} {oa : Nat → Nat} {ta : Nat → ClassId} {D : va_G} {n0 nL L d : Nat} {own : String} {cc : ByteArray} {ini : Bool} {cm sm : Nat} {pc z : Nat} {nx cds code : List ga_E} {al sk : List Nat} {cs ss : Nat} {iv : ga_I} {n : Nat} {h : ga_H} {go : ga_G} {os : List ga_O} {ev : ga_E}
theorem gg_call2 {as t : List Nat} {mc ms rc : Nat} {os : List ga_A} (hc : ga_pc cds = pc) (hn : ∀ o ∈ os, ga_pc nx = pc + 3)
    (hrun : ∀ (H : Heap) (locs : List Loc) (ls : Array Slot) (ad : List Nat) (ws : va_W) (vs st : List Value), ga_in ρ iv → va_S (fun q => n0 ≤ q) s.heap H locs → ga_Ws ρ oa ta D n0 n h ad ws H → ls.size = nL → ga_sr ρ oa ad as vs → ga_sr ρ oa ad t st →
      va_Run p l e R s m args below meth c H locs cs ss mc ms (F0 m pc ls (vs.reverse ++ st)) st (ga_Qc ρ oa ta D n0 rc ad os vs.toArray) (fun q => n0 ≤ q))
    (k : ∀ o ∈ os, ga_Go p l e R s m args below meth c Q ρ oa ta D n0 nL nx al (ga_ret rc o.1 t) (cs + mc) (ss + ms) o.2.1 o.2.2.1 o.2.2.2) : ga_Go p l e R s m args below meth c Q ρ oa ta D n0 nL cds al (as.reverse ++ t) cs ss iv n h := by
  intro H locs ls st hat
  obtain ⟨hi, hS, ad, ws, hw, hl, hs⟩ := hat
  obtain ⟨x, y, rfl, hx, hy⟩ := ga_sr_app hs
  have hx2 := ga_sr_rev hx
  rw [List.reverse_reverse] at hx2
  have hr := hrun H locs ls ad ws x.reverse y hi hS hw hl.1 hx2 hy
  rw [List.reverse_reverse] at hr
  rw [hc]
  intro T hT X
  obtain ⟨v, st₀, t', T', L, h0, X', hL, e1, e2, ⟨⟨o, ho, hin, ad', ws', hex, hw', hret⟩, hz, hk⟩, st⟩ := hr T hT X
  rw [h0] at hz hk
  have hS' : va_S (fun q => n0 ≤ q) s.heap T'.heap (locs ++ L) := by
    refine ⟨Nat.le_trans hS.1 (by rw [e1]; exact hz), fun q h1 h2 => ?_, fun q hq => ?_⟩
    · rw [e1, hk q (Nat.lt_of_lt_of_le h1 hS.1) h2]
      exact hS.2.1 q h1 h2
    · rcases List.mem_append.mp hq with h | h
      · exact hS.2.2 q h
      · exact hL q h
  have hstk : ga_sr ρ oa ad' (ga_ret rc o.1 t) (v.toList ++ y) := by
    unfold ga_ret
    simp only [ga_if_eq, ga_beq]
    rcases hret with ⟨h1, h2⟩ | ⟨h1, z, h2, h3⟩
    · rw [if_pos h1]
      cases h2
      exact ga_sr_ex hex hy
    · rw [if_neg h1]
      cases h2
      exact ⟨h3, ga_sr_ex hex hy⟩
  have kk := k o ho T'.heap (locs ++ L) ls (v.toList ++ y) ⟨hin, hS', ad', ws', by rw [e1]; exact hw', ga_lr_ex hex hl, hstk⟩
  obtain ⟨t2, a1, b1⟩ := kk T' rfl X'
  refine ⟨t2, st t2 ?_, b1⟩
  rw [hn o ho] at a1
  exact a1
/-- a call of kind 0 (virtual), 1 (special), 2 (special, of a nest mate), 3 (static) -/
def ga_lnk (own : String) (idx k kind : Nat) (args : Array Value) (s : State) : Prop :=
  (kind = 0 ∧ (Cond.methodLink own idx (gm_i k).1).before args s = true) ∨ (kind = 1 ∧ (Cond.methodLink own idx (gm_i k).1).before args s = true) ∨ (kind = 2 ∧ va_Nw (.methodLinkNest own idx (gm_i k).1 "GravyRound") s) ∨ (kind = 3 ∧ (Cond.methodLink own idx (gm_i k).1).before args s = true)
theorem sx_inv {call : Nat → List Nat → ga_I → Nat → ga_H → Option (List ga_A)} {k idx kind : Nat} {virt : Bool} (hx : p.tables.exec = Jvm.exec) (hb : c.code = cc) (hml : c.maxLocals = nL) (hown : s.vm.findClass own = some m.cls) (hts : ∀ w ∈ gw_tbl, w.before args s = true) (hK : va_K D gm_cl (ga_tys ta) s) (hn0 : n0 ≤ s.heap.size) (hold : ga_old ρ oa n0 L s)
    (hRf : d + 11 ≤ R.frames) (hRl : 100 * (d + 11) ≤ R.locals) (hRc : cm ≤ R.cells) (hRs : sm ≤ R.slots) (HC : ga_CS l ρ oa ta D n0 L d call)
    (S : ga_Sd p l e R s m args below meth c Q ρ oa ta D n0 nL own cc ini cm sm go) (hO : ∀ o ∈ os, ga_GoO p l e R s m args below meth c Q ρ oa ta D n0 nL own cc ini o) (okn : ga_okc own cc ini nL nx) (hnx : nx = [] ∨ ga_pc nx = pc + 3) (hc : ga_pc cds = pc) (hlk : k < 998 → ga_lnk own idx k kind args s) (hvk : virt = true ↔ ¬ kind = 3)
    (hd0 : kind = 0 → decode cc pc = .ok (.invokevirtual idx, 3)) (hd1 : kind = 1 ∨ kind = 2 → decode cc pc = .ok (.invokespecial idx, 3)) (hd3 : kind = 3 → decode cc pc = .ok (.invokestatic idx, 3))
    (hst3 : k < 998 → kind = 3 → gm_ci k = 999) (hns3 : k < 998 → ¬ kind = 3 → ¬ gm_ci k = 999) (hnm0 : k < 998 → kind = 0 → ¬ (gm_i k).1.name = "<init>") (hnm1 : k < 998 → kind = 1 ∨ kind = 2 → (gm_i k).1.name = "<init>")
    (ho : ga_inv gm_me call k virt cm sm go nx al sk cs ss iv n h = some os) : ga_Go p l e R s m args below meth c Q ρ oa ta D n0 nL cds al sk cs ss iv n h := by
  unfold ga_inv at ho
  rcases hme : gm_me k with ⟨mcode, pad, nl, na, mc, ms, rc, ci⟩
  rw [hme] at ho
  simp only at ho
  obtain ⟨as, t, hsk, hlen, ho1⟩ := ga_take_some ho
  obtain ⟨hq, ho2⟩ := ga_if_some ho1
  simp only [Bool.and_eq_true, Nat.ble_eq] at hq
  obtain ⟨hwd, hvr⟩ := hq
  rw [ga_f_eq, ga_f_eq] at ho2
  obtain ⟨hcs2, ho3⟩ := ga_if_some ho2
  simp only [Bool.and_eq_true, Nat.ble_eq] at hcs2
  cases hcall : call k as iv n h with
  | none => rw [hcall] at ho3; cases ho3
  | some oa' =>
    rw [hcall] at ho3
    simp only at ho3
    obtain ⟨hk184, hna, hM⟩ := HC k as iv n h oa' hcall
    have hok := gk_all k hk184
    obtain ⟨f1, f2, f3, f4, f5, f6, f7, f8, f9⟩ := gm_facts hok
    have emc : gm_mc k = mc := by unfold gm_mc; rw [hme]
    have ems : gm_ms k = ms := by unfold gm_ms; rw [hme]
    have erc : gm_rc k = rc := by unfold gm_rc; rw [hme]
    have eci : gm_ci k = ci := by unfold gm_ci; rw [hme]
    have ena : gm_na k = na := by unfold gm_na; rw [hme]
    have hlk' := hlk (by omega)
    subst hsk
    have hroom : (ga_rm d k).frames + 1 ≤ R.frames ∧ 8 + ((gm_i k).2.2.1 + 11) + (ga_rm d k).locals ≤ R.locals := by
      show d + 10 + 1 ≤ R.frames ∧ 8 + ((gm_i k).2.2.1 + 11) + 100 * (d + 10) ≤ R.locals
      omega
    refine gg_call2 (nx := nx) (rc := rc) (os := oa') (mc := mc) (ms := ms) hc (fun o hoo => ?_) (fun H locs ls ad ws vs st hi hS hw hsz hvs hst => ?_) (fun o hoo => ?_)
    · obtain ⟨o1, g1, g2⟩ := ga_all_mem ho3 hoo
      rcases hnx with rfl | hnx
      · exact absurd g1 (S.1 _ _ _ _ _ _ _ _)
      · exact hnx
    · have hPU : ∀ U : State, U.heap = H → s.WarmedH U.vm → ga_Pc ρ oa ta D n0 (ga_old ρ oa n0 L) ad as iv n h vs.toArray U := by
        intro U hU hWm
        exact ⟨⟨vs, rfl, hvs⟩, hi, ⟨ws, by rw [hU]; exact hw⟩, va_K.moved hWm.alike hK, by rw [hU]; exact Nat.le_trans hn0 hS.1, ga_old_tr hold hS hn0 hU hWm⟩
      have hMk := hM ad
      rw [emc, ems, erc] at hMk
      have hwd2 : 2 * (F0 m pc ls (vs.reverse ++ st)).monitorRoom + (st.map fun v => v.category).sum ≤ 8 := by
        rw [ga_sr_wd hst]
        show 2 * 0 + _ ≤ 8
        omega
      have hini : (Cond.initialized (gm_i k).1.cls).before args s = true := hts _ f1
      have hfit : cs + mc ≤ R.cells ∧ ss + ms ≤ R.slots := ⟨by omega, by omega⟩
      have hlen2 := ga_sr_len hvs
      by_cases hk3 : kind = 3
      · have hl : (Cond.methodLink own idx (gm_i k).1).before args s = true := by
          rcases hlk' with ⟨q, -⟩ | ⟨q, -⟩ | ⟨q, -⟩ | ⟨-, q⟩
          · omega
          · omega
          · omega
          · exact q
        obtain ⟨f61, f62⟩ := f6 (hst3 (by omega) hk3)
        exact va_runS (bytes := (gm_i k).2.1) (maxL := (gm_i k).2.2.1) (ret := (gm_i k).2.2.2) (n := na) ⟨hx, hb, hml, hown, hts⟩ hMk ⟨callB_of na hts (gw_code hok) rfl emc ems hini hl ⟨f3.1, f3.2, by rw [f62, ena]⟩ hroom, hts _ f61⟩ ⟨ga_Pc_blind, hPU⟩ rfl (by rw [← hlen2]; exact hlen) hsz rfl hwd2 (hd3 hk3) hfit
      · have hvt : virt = true := hvk.mpr hk3
        rw [hvt, ga_if_t] at hvr
        cases as with
        | nil => simp at hvr
        | cons r as' =>
          simp only [Bool.and_eq_true, ga_beq] at hvr
          obtain ⟨hrr, hrc⟩ := hvr
          obtain ⟨f71, f72, f73, f74, f75⟩ := f7 (hns3 (by omega) hk3)
          rw [eci] at f73
          obtain ⟨q, hq, hq1⟩ : ∃ q, gm_cl[ci]? = some q ∧ q.1 = (gm_i k).1.cls := by
            cases hqq : gm_cl[ci]? with
            | none => rw [hqq] at f73; cases f73
            | some q => rw [hqq] at f73; exact ⟨q, rfl, Option.some.inj f73⟩
          have hg := gn_all ci q hq
          have hci : ci < 100 := hg.2.2.2.2.2.1
          obtain ⟨x, vs', rfl, hxr, hvs'⟩ := ga_sr_cons hvs
          obtain ⟨b, eb, rfl, heb, hcr⟩ := ga_Ws_at hw hrr hxr (by rw [hrc]; omega)
          have hev : ∃ fs, eb = .inr (ci, fs) := by
            rcases hcr with ⟨-, fs, e1, -⟩ | ⟨q1, -⟩ | ⟨q1, -⟩ | ⟨q1, -⟩
            · exact ⟨fs, by rw [e1, hrc]⟩
            · rw [hrc] at q1; omega
            · rw [hrc] at q1; omega
            · rw [hrc] at q1; omega
          obtain ⟨fs, rfl⟩ := hev
          have hrecv := va_recv hK hw.1 hq heb
          rw [hq1] at hrecv
          have hparm : (parseMethodDescriptor (gm_i k).1.desc).map (fun d => d.parameters.length) = some (na - 1) := by
            rw [ena] at f72
            cases hpd : parseMethodDescriptor (gm_i k).1.desc with
            | none => rw [hpd] at f72; cases f72
            | some sg =>
              rw [hpd] at f72
              have := Option.some.inj f72
              show some sg.parameters.length = some (na - 1)
              have h2 : sg.parameters.length + 1 = na := this
              rw [← h2]; rfl
          have hlen3 : vs'.length = na - 1 := by
            have := ga_sr_len hvs'
            simp only [List.length_cons] at hlen
            omega
          have hstk : (F0 m pc ls ((Value.ref b :: vs').reverse ++ st)).stack = vs'.reverse ++ .ref b :: st := by
            show (Value.ref b :: vs').reverse ++ st = vs'.reverse ++ .ref b :: st
            rw [List.reverse_cons, List.append_assoc]; rfl
          rcases hlk' with ⟨q0, hl⟩ | ⟨q0, hl⟩ | ⟨q0, hl⟩ | ⟨q0, -⟩
          · exact va_runV (bytes := (gm_i k).2.1) (maxL := (gm_i k).2.2.1) (ret := (gm_i k).2.2.2) (n := na - 1) (C := (gm_i k).1.cls) ⟨hx, hb, hml, hown, hts⟩ hMk ⟨callB_of (na - 1) hts (gw_code hok) rfl emc ems hini hl ⟨f3.1, f3.2, hparm⟩ hroom, hts _ f71, hts _ (f75 (hnm0 (by omega) q0))⟩ ⟨ga_Pc_blind, hrecv, hPU⟩ rfl hlen3 hsz hstk hwd2 (hd0 q0) hfit
          · have hnm := hnm1 (by omega) (Or.inl q0)
            have hMk2 := hMk
            exact va_runI (bytes := (gm_i k).2.1) (maxL := (gm_i k).2.2.1) (n := na - 1) ⟨hx, hb, hml, hown, hts⟩ hMk ⟨callB_of (na - 1) hts (gw_code hok) (by rw [← f74 hnm]; rfl) emc ems hini hl ⟨f3.1, f3.2, hparm⟩ hroom, hnm, hts _ f71⟩ ⟨ga_Pc_blind, hPU⟩ rfl hlen3 hsz hstk hwd2 (hd1 (Or.inl q0)) hfit
          · have hnm := hnm1 (by omega) (Or.inr q0)
            exact va_runIN (bytes := (gm_i k).2.1) (maxL := (gm_i k).2.2.1) (n := na - 1) (host := "GravyRound") ⟨hx, hb, hml, hown, hts⟩ hMk ⟨va_cnB (na - 1) hts (gw_code hok) (by rw [← f74 hnm]; rfl) emc ems hl hini ⟨f3.1, f3.2, hparm⟩ hroom, hnm, hts _ f71⟩ ⟨ga_Pc_blind, hPU⟩ rfl hlen3 hsz hstk hwd2 (hd1 (Or.inr q0)) hfit
          · exact absurd q0 hk3
    · obtain ⟨o1, g1, g2⟩ := ga_all_mem ho3 hoo
      exact S.2 _ _ _ _ _ _ _ _ _ okn hcs2 g1 (sd_sub hO g2)
end GY
