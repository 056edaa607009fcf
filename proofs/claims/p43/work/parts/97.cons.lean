/-! the constructors' machine: no script there -/
def gq_old (_ : Nat → Int32) (oa : Nat → Nat) (n0 _ : Nat) (U : State) : Prop :=
  True ∧ True ∧ (∀ w ∈ gw_nest, va_Nw w U) ∧ va_AO "GravyRound$Table" U ∧ vk_R "GravyRound$Tokens" 20 ga_tx (oa 1) U ∧ vk_S 1 [91] [ga_by] (fun _ => oa 1) (fun _ => oa 2) (fun q => n0 ≤ q) U U.heap ∧ va_Z "java/lang/String" "COMPACT_STRINGS" "Z" (.int 1) (fun q => n0 ≤ q) U U.heap ∧ va_Zq "jdk/internal/util/Preconditions" "SIOOBE_FORMATTER" "Ljava/util/function/BiFunction;" (fun q => n0 ≤ q) U U.heap
noncomputable def ga_no6 (e : ga_E) (sk : List Nat) : Bool := match e with
  | (_, _, .arraylength, _, _, _) => (match sk with | r :: _ => Nat.beq r 6 | [] => false)
  | _ => false
noncomputable def gq_run (me : Nat → ga_M) (dfl : Nat → List Nat) (L : Nat) (tx : List Nat) (call : Nat → List Nat → ga_I → Nat → ga_H → Option (List ga_A)) (cm sm : Nat) (stop : Nat) (code : List ga_E) (fuel : Nat) : ga_G :=
  Nat.rec (fun _ _ _ _ _ _ _ _ => none) (fun _ go cds al sk cs ss iv n h => match cds with
    | [] => none
    | e :: nx => ga_if (Nat.beq e.1 stop) (some [(e :: nx, al, sk, cs, ss, iv, n, h)]) (ga_if (ga_no6 e sk) none (ga_step me dfl L tx call cm sm code go e nx al sk cs ss iv n h))) fuel
noncomputable def gq_call (me : Nat → ga_M) (dfl : Nat → List Nat) (L : Nat) (tx : List Nat) (fuel : Nat) (d : Nat) : Nat → List Nat → ga_I → Nat → ga_H → Option (List ga_A) :=
  Nat.rec (fun _ _ _ _ _ => none) (fun _ call k as iv n h => match me k with
    | (code, pad, nl, na, mc, ms, rc, _) => ga_pad pad (fun p => ga_lay as p (fun al => ga_if (and (Nat.blt k 313) (and (Nat.beq (List.length al) nl) (Nat.beq (List.length as) na)))
        (match gq_run me dfl L tx call mc ms 100000 code fuel code al [] 0 0 iv n h with
        | none => none
        | some os => ga_anss rc mc ms os) none))) d
def gq_CS (l : Launch) (ρ : Nat → Int32) (oa : Nat → Nat) (ta : Nat → ClassId) (D : va_G) (n0 L d : Nat) (call : Nat → List Nat → ga_I → Nat → ga_H → Option (List ga_A)) : Prop :=
  ∀ k as iv n h os, call k as iv n h = some os → k < 313 ∧ as.length = gm_na k ∧ ∀ ad, Met l (gm_i k).1 (gw_m k) (ga_rm d k) (ga_Pc ρ oa ta D n0 (gq_old ρ oa n0 L) ad as iv n h) (ga_Qc ρ oa ta D n0 (gm_rc k) ad os) (gm_mc k) (gm_ms k) (fun q => n0 ≤ q)
theorem gq_old_tr {ρ : Nat → Int32} {oa : Nat → Nat} {n0 L : Nat} {s U : State} {H : Heap} {locs : List Loc} (ho : gq_old ρ oa n0 L s) (hS : va_S (fun q => n0 ≤ q) s.heap H locs) (hn0 : n0 ≤ s.heap.size) (hU : U.heap = H) (hW : s.WarmedH U.vm) : gq_old ρ oa n0 L U := by
  obtain ⟨h0, hX, hN, hA, hR, hT, hZ, hZq⟩ := ho
  refine ⟨h0, ?_, fun w hw => ?_, va_AO.moved hW.alike hA, vk_R.warm hW hR, ?_, ?_, ?_⟩
  · trivial
  · have h1 := hN w hw
    have h2 := (List.mem_filter.mp hw).2
    cases w <;> first | exact va_Nw.warmF hW h1 | exact va_Nw.warmM hW h1 | (exact absurd h2 (by simp [gw_isN]))
  · rw [hU]
    exact vk_S.moved hW.alike (hT.kept hS.2.1)
  · rw [hU]
    exact va_Z.moved hW.alike (hZ.kept hS.2.1)
  · rw [hU]
    exact va_Zq.moved hW.alike (hZq.kept hS.2.1)
theorem gq_old_vm {ρ : Nat → Int32} {oa : Nat → Nat} {n0 L : Nat} {s U : State} (ho : gq_old ρ oa n0 L s) (hU : U.heap = s.heap) (hv : U.vm = s.vm) : gq_old ρ oa n0 L U := by
  obtain ⟨h0, hX, hN, hA, hR, hT, hZ, hZq⟩ := ho
  have al : s.vm.Alike U.vm := by rw [hv]; exact Vm.Alike.refl s.vm
  refine ⟨h0, ?_, fun w hw => ?_, va_AO.moved al hA, vk_R.same hv hR, ?_, ?_, ?_⟩
  · trivial
  · have h2 := (List.mem_filter.mp hw).2
    have ht : w.onTables = true := by cases w <;> first | rfl | (exact absurd h2 (by simp [gw_isN]))
    exact va_Nw.same ht hv.symm (hN w hw)
  · rw [hU]; exact vk_S.moved al hT
  · rw [hU]; exact va_Z.moved al hZ
  · rw [hU]; exact va_Zq.moved al hZq
theorem gq_Pc_blind {ρ : Nat → Int32} {oa : Nat → Nat} {ta : Nat → ClassId} {D : va_G} {n0 L : Nat} {ad as : List Nat} {iv : ga_I} {n : Nat} {h : ga_H} : FrameBlind (ga_Pc ρ oa ta D n0 (gq_old ρ oa n0 L) ad as iv n h) := by
  intro a U g mk hp
  obtain ⟨h1, h2, h3, h4, h5, h6⟩ := hp
  exact ⟨h1, h2, h3, va_K.moved (u := U) (U := U.calling g mk a) (Vm.Alike.refl U.vm) h4, h5, gq_old_vm h6 rfl rfl⟩
section GYq
variable {p : Program} {l : Launch} {e : Env} {R : Room} {s : State} {m : MethodId} {args : Array Value} {below : List Frame} {meth : Method} {c : Code} {Q : State → Prop}
variable {ρ : Nat → Int32} {oa : Nat → Nat} {ta : Nat → ClassId} {D : va_G} {n0 nL L d : Nat} {own : String} {cc : ByteArray} {ini : Bool} {cm sm : Nat} {pc z : Nat} {nx cds code : List ga_E} {al sk : List Nat} {cs ss : Nat} {iv : ga_I} {n : Nat} {h : ga_H} {go : ga_G} {os : List ga_O} {ev : ga_E}
theorem gq_inv {call : Nat → List Nat → ga_I → Nat → ga_H → Option (List ga_A)} {k idx kind : Nat} {virt : Bool} (hx : p.tables.exec = Jvm.exec) (hb : c.code = cc) (hml : c.maxLocals = nL) (hown : s.vm.findClass own = some m.cls) (hts : ∀ w ∈ gw_tbl, w.before args s = true) (hK : va_K D gm_cl (ga_tys ta) s) (hn0 : n0 ≤ s.heap.size) (hold : gq_old ρ oa n0 L s)
    (hRf : d + 11 ≤ R.frames) (hRl : 100 * (d + 11) ≤ R.locals) (hRc : cm ≤ R.cells) (hRs : sm ≤ R.slots) (HC : gq_CS l ρ oa ta D n0 L d call)
    (S : ga_Sd p l e R s m args below meth c Q ρ oa ta D n0 nL own cc ini cm sm go) (hO : ∀ o ∈ os, ga_GoO p l e R s m args below meth c Q ρ oa ta D n0 nL own cc ini o) (okn : ga_okc own cc ini nL nx) (hnx : nx = [] ∨ ga_pc nx = pc + 3) (hc : ga_pc cds = pc) (hlk : k < 998 → ga_lnk own idx k kind args s) (hvk : virt = true ↔ ¬ kind = 3)
    (hd0 : kind = 0 → decode cc pc = .ok (.invokevirtual idx, 3)) (hd1 : kind = 1 ∨ kind = 2 → decode cc pc = .ok (.invokespecial idx, 3)) (hd3 : kind = 3 → decode cc pc = .ok (.invokestatic idx, 3))
    (hst3 : k < 998 → kind = 3 → gm_ci k = 999) (hns3 : k < 998 → ¬ kind = 3 → ¬ gm_ci k = 999) (hnm0 : k < 998 → kind = 0 → ¬ (gm_i k).1.name = "<init>") (hnm1 : k < 998 → kind = 1 ∨ kind = 2 → (gm_i k).1.name = "<init>")
    (ho : ga_inv gm_me call k virt cm sm go nx al sk cs ss iv n h = some os) : ga_Go p l e R s m args below meth c Q ρ oa ta D n0 nL cds al sk cs ss iv n h := by
  unfold ga_inv at ho
  rcases hme : gm_me k with ⟨mcode, pad, nl, na, mc, ms, rc, ci⟩
  rw [hme] at ho
  simp only at ho
  obtain ⟨as, t, hsk, hlen, ho1⟩ := ga_take_some ho
  obtain ⟨hq, ho2⟩ := ga_if_some ho1
  simp only [Bool.and_eq_true, Nat.ble_eq] at hq
  obtain ⟨hwd, hvr⟩ := hq
  rw [ga_f_eq, ga_f_eq] at ho2
  obtain ⟨hcs2, ho3⟩ := ga_if_some ho2
  simp only [Bool.and_eq_true, Nat.ble_eq] at hcs2
  cases hcall : call k as iv n h with
  | none => rw [hcall] at ho3; cases ho3
  | some oa' =>
    rw [hcall] at ho3
    simp only at ho3
    obtain ⟨hk184, hna, hM⟩ := HC k as iv n h oa' hcall
    have hok := gk_all k hk184
    obtain ⟨f1, f2, f3, f4, f5, f6, f7, f8, f9⟩ := gm_facts hok
    have emc : gm_mc k = mc := by unfold gm_mc; rw [hme]
    have ems : gm_ms k = ms := by unfold gm_ms; rw [hme]
    have erc : gm_rc k = rc := by unfold gm_rc; rw [hme]
    have eci : gm_ci k = ci := by unfold gm_ci; rw [hme]
    have ena : gm_na k = na := by unfold gm_na; rw [hme]
    have hlk' := hlk (by omega)
    subst hsk
    have hroom : (ga_rm d k).frames + 1 ≤ R.frames ∧ 8 + ((gm_i k).2.2.1 + 11) + (ga_rm d k).locals ≤ R.locals := by
      show d + 10 + 1 ≤ R.frames ∧ 8 + ((gm_i k).2.2.1 + 11) + 100 * (d + 10) ≤ R.locals
      omega
    refine gg_call2 (nx := nx) (rc := rc) (os := oa') (mc := mc) (ms := ms) hc (fun o hoo => ?_) (fun H locs ls ad ws vs st hi hS hw hsz hvs hst => ?_) (fun o hoo => ?_)
    · obtain ⟨o1, g1, g2⟩ := ga_all_mem ho3 hoo
      rcases hnx with rfl | hnx
      · exact absurd g1 (S.1 _ _ _ _ _ _ _ _)
      · exact hnx
    · have hPU : ∀ U : State, U.heap = H → s.WarmedH U.vm → ga_Pc ρ oa ta D n0 (gq_old ρ oa n0 L) ad as iv n h vs.toArray U := by
        intro U hU hWm
        exact ⟨⟨vs, rfl, hvs⟩, hi, ⟨ws, by rw [hU]; exact hw⟩, va_K.moved hWm.alike hK, by rw [hU]; exact Nat.le_trans hn0 hS.1, gq_old_tr hold hS hn0 hU hWm⟩
      have hMk := hM ad
      rw [emc, ems, erc] at hMk
      have hwd2 : 2 * (F0 m pc ls (vs.reverse ++ st)).monitorRoom + (st.map fun v => v.category).sum ≤ 8 := by
        rw [ga_sr_wd hst]
        show 2 * 0 + _ ≤ 8
        omega
      have hini : (Cond.initialized (gm_i k).1.cls).before args s = true := hts _ f1
      have hfit : cs + mc ≤ R.cells ∧ ss + ms ≤ R.slots := ⟨by omega, by omega⟩
      have hlen2 := ga_sr_len hvs
      by_cases hk3 : kind = 3
      · have hl : (Cond.methodLink own idx (gm_i k).1).before args s = true := by
          rcases hlk' with ⟨q, -⟩ | ⟨q, -⟩ | ⟨q, -⟩ | ⟨-, q⟩
          · omega
          · omega
          · omega
          · exact q
        obtain ⟨f61, f62⟩ := f6 (hst3 (by omega) hk3)
        exact va_runS (bytes := (gm_i k).2.1) (maxL := (gm_i k).2.2.1) (ret := (gm_i k).2.2.2) (n := na) ⟨hx, hb, hml, hown, hts⟩ hMk ⟨callB_of na hts (gw_code hok) rfl emc ems hini hl ⟨f3.1, f3.2, by rw [f62, ena]⟩ hroom, hts _ f61⟩ ⟨gq_Pc_blind, hPU⟩ rfl (by rw [← hlen2]; exact hlen) hsz rfl hwd2 (hd3 hk3) hfit
      · have hvt : virt = true := hvk.mpr hk3
        rw [hvt, ga_if_t] at hvr
        cases as with
        | nil => simp at hvr
        | cons r as' =>
          simp only [Bool.and_eq_true, ga_beq] at hvr
          obtain ⟨hrr, hrc⟩ := hvr
          obtain ⟨f71, f72, f73, f74, f75⟩ := f7 (hns3 (by omega) hk3)
          rw [eci] at f73
          obtain ⟨q, hq, hq1⟩ : ∃ q, gm_cl[ci]? = some q ∧ q.1 = (gm_i k).1.cls := by
            cases hqq : gm_cl[ci]? with
            | none => rw [hqq] at f73; cases f73
            | some q => rw [hqq] at f73; exact ⟨q, rfl, Option.some.inj f73⟩
          have hg := gn_all ci q hq
          have hci : ci < 100 := hg.2.2.2.2.2.1
          obtain ⟨x, vs', rfl, hxr, hvs'⟩ := ga_sr_cons hvs
          obtain ⟨b, eb, rfl, heb, hcr⟩ := ga_Ws_at hw hrr hxr (by rw [hrc]; omega)
          have hev : ∃ fs, eb = .inr (ci, fs) := by
            rcases hcr with ⟨-, fs, e1, -⟩ | ⟨q1, -⟩ | ⟨q1, -⟩ | ⟨q1, -⟩
            · exact ⟨fs, by rw [e1, hrc]⟩
            · rw [hrc] at q1; omega
            · rw [hrc] at q1; omega
            · rw [hrc] at q1; omega
          obtain ⟨fs, rfl⟩ := hev
          have hrecv := va_recv hK hw.1 hq heb
          rw [hq1] at hrecv
          have hparm : (parseMethodDescriptor (gm_i k).1.desc).map (fun d => d.parameters.length) = some (na - 1) := by
            rw [ena] at f72
            cases hpd : parseMethodDescriptor (gm_i k).1.desc with
            | none => rw [hpd] at f72; cases f72
            | some sg =>
              rw [hpd] at f72
              have := Option.some.inj f72
              show some sg.parameters.length = some (na - 1)
              have h2 : sg.parameters.length + 1 = na := this
              rw [← h2]; rfl
          have hlen3 : vs'.length = na - 1 := by
            have := ga_sr_len hvs'
            simp only [List.length_cons] at hlen
            omega
          have hstk : (F0 m pc ls ((Value.ref b :: vs').reverse ++ st)).stack = vs'.reverse ++ .ref b :: st := by
            show (Value.ref b :: vs').reverse ++ st = vs'.reverse ++ .ref b :: st
            rw [List.reverse_cons, List.append_assoc]; rfl
          rcases hlk' with ⟨q0, hl⟩ | ⟨q0, hl⟩ | ⟨q0, hl⟩ | ⟨q0, -⟩
          · exact va_runV (bytes := (gm_i k).2.1) (maxL := (gm_i k).2.2.1) (ret := (gm_i k).2.2.2) (n := na - 1) (C := (gm_i k).1.cls) ⟨hx, hb, hml, hown, hts⟩ hMk ⟨callB_of (na - 1) hts (gw_code hok) rfl emc ems hini hl ⟨f3.1, f3.2, hparm⟩ hroom, hts _ f71, hts _ (f75 (hnm0 (by omega) q0))⟩ ⟨gq_Pc_blind, hrecv, hPU⟩ rfl hlen3 hsz hstk hwd2 (hd0 q0) hfit
          · have hnm := hnm1 (by omega) (Or.inl q0)
            have hMk2 := hMk
            exact va_runI (bytes := (gm_i k).2.1) (maxL := (gm_i k).2.2.1) (n := na - 1) ⟨hx, hb, hml, hown, hts⟩ hMk ⟨callB_of (na - 1) hts (gw_code hok) (by rw [← f74 hnm]; rfl) emc ems hini hl ⟨f3.1, f3.2, hparm⟩ hroom, hnm, hts _ f71⟩ ⟨gq_Pc_blind, hPU⟩ rfl hlen3 hsz hstk hwd2 (hd1 (Or.inl q0)) hfit
          · have hnm := hnm1 (by omega) (Or.inr q0)
            exact va_runIN (bytes := (gm_i k).2.1) (maxL := (gm_i k).2.2.1) (n := na - 1) (host := "GravyRound") ⟨hx, hb, hml, hown, hts⟩ hMk ⟨va_cnB (na - 1) hts (gw_code hok) (by rw [← f74 hnm]; rfl) emc ems hl hini ⟨f3.1, f3.2, hparm⟩ hroom, hnm, hts _ f71⟩ ⟨gq_Pc_blind, hPU⟩ rfl hlen3 hsz hstk hwd2 (hd1 (Or.inr q0)) hfit
          · exact absurd q0 hk3
    · obtain ⟨o1, g1, g2⟩ := ga_all_mem ho3 hoo
      exact S.2 _ _ _ _ _ _ _ _ _ okn hcs2 g1 (sd_sub hO g2)
end GYq
section GZq
variable {p : Program} {l : Launch} {e : Env} {R : Room} {s : State} {m : MethodId} {args : Array Value} {below : List Frame} {meth : Method} {c : Code} {Q : State → Prop}
variable {ρ : Nat → Int32} {oa : Nat → Nat} {ta : Nat → ClassId} {D : va_G} {n0 nL L d : Nat} {own : String} {cc : ByteArray} {ini : Bool} {cm sm : Nat} {nx code : List ga_E} {al sk : List Nat} {cs ss : Nat} {iv : ga_I} {n : Nat} {h : ga_H} {go : ga_G} {os : List ga_O} {ev : ga_E}
set_option maxHeartbeats 4000000 in
set_option maxRecDepth 100000 in
theorem gq_step_ok {call : Nat → List Nat → ga_I → Nat → ga_H → Option (List ga_A)} (hx : p.tables.exec = Jvm.exec) (hb : c.code = cc) (hml : c.maxLocals = nL) (hown : s.vm.findClass own = some m.cls) (hts : ∀ w ∈ gw_tbl, w.before args s = true) (hK : va_K D gm_cl (ga_tys ta) s) (hn0 : n0 ≤ s.heap.size) (hold : gq_old ρ oa n0 L s) (hinit : ini = true → meth.name = "<init>") (hρ6 : ρ 6 = ρ 0 &&& 63) (hρ7 : ρ 7 = 0 - ρ 1) (hL : L = 0) (h6 : ga_no6 ev sk = false)
    (hRf : d + 11 ≤ R.frames) (hRl : 100 * (d + 11) ≤ R.locals) (hRc : cm ≤ R.cells) (hRs : sm ≤ R.slots) (HC : gq_CS l ρ oa ta D n0 L d call) (TX : ga_TX p l e R s m args below meth c Q oa n0 nL own cc)
    (okc : ga_okc own cc ini nL code) (oke : ga_okc own cc ini nL (ev :: nx)) (S : ga_Sd p l e R s m args below meth c Q ρ oa ta D n0 nL own cc ini cm sm go) (hcs : cs ≤ cm ∧ ss ≤ sm) (hO : ∀ o ∈ os, ga_GoO p l e R s m args below meth c Q ρ oa ta D n0 nL own cc ini o)
    (ho : ga_step gm_me gm_df L gm_tx call cm sm code go ev nx al sk cs ss iv n h = some os) : ga_Go p l e R s m args below meth c Q ρ oa ta D n0 nL (ev :: nx) al sk cs ss iv n h := by
  obtain ⟨pc, ln, i, a, b, ps⟩ := ev
  have oe := oke.1
  unfold ga_oe at oe
  simp only [Bool.and_eq_true, decide_eq_true_eq] at oe
  obtain ⟨⟨hdg, hln⟩, hwb⟩ := oe
  have hnx : nx = [] ∨ ga_pc nx = pc + ln := oke.2.1
  have okn := oke.2.2
  have hA : ∀ q : Nat, s.heap.size ≤ q → (fun q => n0 ≤ q) q := fun q hq => Nat.le_trans hn0 hq
  have op2 : ∀ {f : Nat → Nat → Nat} {g : Int32 → Int32 → Int32} {z : Nat}, (∀ ad, ga_O2 ρ oa ad f g) → (nx = [] ∨ ga_pc nx = z) → (∀ (H : Heap) (locs : List Loc) (ls : Array Slot) (st : List Value) (X Y : Int32), W p l e R s m args below meth c H locs cs ss Q (F0 m z ls (.int (g X Y) :: st)) → W p l e R s m args below meth c H locs cs ss Q (F0 m pc ls (.int Y :: .int X :: st))) → ga_op2 f go nx al sk cs ss iv n h = some os → ga_Go p l e R s m args below meth c Q ρ oa ta D n0 nL ((pc, ln, i, a, b, ps) :: nx) al sk cs ss iv n h := by
    intro f g z hf hz hr ho'
    exact sx_op2 S hcs hO okn hz rfl ho' (fun H locs ls st ad x y vx vy a1 a2 a3 => by
      obtain ⟨X, Y, rfl, rfl, g1⟩ := hf ad x y vx vy a1 a2 a3
      exact ⟨_, g1, hr H locs ls st X Y⟩)
  have stop : ∀ {x : Option (List ga_O)}, x = some os → x = some [((pc, ln, i, a, b, ps) :: nx, al, sk, cs, ss, iv, n, h)] → ga_Go p l e R s m args below meth c Q ρ oa ta D n0 nL ((pc, ln, i, a, b, ps) :: nx) al sk cs ss iv n h := by
    intro x h1 h2
    rw [h2] at h1
    have := Option.some.inj h1
    exact hO ((pc, ln, i, a, b, ps) :: nx, al, sk, cs, ss, iv, n, h) (by rw [← this]; exact List.mem_singleton.mpr rfl) oke
  cases i with
  | ireturn => exact stop ho rfl
  | return_ => exact stop ho rfl
  | areturn => exact stop ho rfl
  | lreturn => exact stop ho rfl
  | aload_n k =>
    obtain rfl : ln = 1 := Nat.eq_of_beq_eq_true hln
    exact sx_load (ok := ga_adr) (i := k.val) S hcs hO okn hnx rfl ho (fun v hv => ga_adr7 hv) (fun H locs ls st ad v x hk hv hl w => by
      obtain ⟨y, rfl⟩ := ga_vr_adr hk hv
      exact lv_aload_n hx hb hdg rfl hl w)
  | iload_n k =>
    obtain rfl : ln = 1 := Nat.eq_of_beq_eq_true hln
    exact sx_load (ok := ga_int) (i := k.val) S hcs hO okn hnx rfl ho (fun v hv => ga_int7 hv) (fun H locs ls st ad v x hk hv hl w => by
      obtain ⟨y, rfl⟩ := ga_vr_int hk hv
      exact lv_iload_n hx hb hdg rfl hl w)
  | lload_n k =>
    obtain rfl : ln = 1 := Nat.eq_of_beq_eq_true hln
    exact sx_load (ok := ga_lng) (i := k.val) S hcs hO okn hnx rfl ho (fun v hv => ga_lng7 hv) (fun H locs ls st ad v x hk hv hl w => by
      obtain ⟨y, rfl⟩ := ga_vr_lng hk hv
      exact lv_lload_n hx hb hdg rfl hl w)
  | iload k =>
    obtain rfl : ln = 2 := Nat.eq_of_beq_eq_true hln
    exact sx_load (ok := ga_int) (i := k) S hcs hO okn hnx rfl ho (fun v hv => ga_int7 hv) (fun H locs ls st ad v x hk hv hl w => by
      obtain ⟨y, rfl⟩ := ga_vr_int hk hv
      exact lv_iload hx hb hdg hl w)
  | iconst k =>
    obtain rfl : ln = 1 := Nat.eq_of_beq_eq_true hln
    have hw : (ga_lb a && decide (Int32.ofInt k = nI (a / 8))) = true := hwb
    simp only [Bool.and_eq_true, decide_eq_true_eq] at hw
    have hl := ga_lb_ok hw.1
    exact sx_push (v := a) (x := .int (nI (a / 8))) S hcs hO okn hnx rfl ho (fun ad => (ga_vr_0 hl.1).mpr ⟨hl.2, rfl⟩) (fun H locs ls st w => lv_iconst hx hb hdg hw.2 w)
  | bipush k =>
    obtain rfl : ln = 2 := Nat.eq_of_beq_eq_true hln
    have hw : (ga_lb a && decide ((Int8.ofInt k).toInt32 = nI (a / 8))) = true := hwb
    simp only [Bool.and_eq_true, decide_eq_true_eq] at hw
    have hl := ga_lb_ok hw.1
    exact sx_push (v := a) (x := .int (nI (a / 8))) S hcs hO okn hnx rfl ho (fun ad => (ga_vr_0 hl.1).mpr ⟨hl.2, rfl⟩) (fun H locs ls st w => lv_bipush hx hb hdg hw.2 w)
  | sipush k =>
    obtain rfl : ln = 3 := Nat.eq_of_beq_eq_true hln
    have hw : (ga_lb a && decide ((Int16.ofInt k).toInt32 = nI (a / 8))) = true := hwb
    simp only [Bool.and_eq_true, decide_eq_true_eq] at hw
    have hl := ga_lb_ok hw.1
    exact sx_push (v := a) (x := .int (nI (a / 8))) S hcs hO okn hnx rfl ho (fun ad => (ga_vr_0 hl.1).mpr ⟨hl.2, rfl⟩) (fun H locs ls st w => lv_sipush hx hb hdg hw.2 w)
  | lconst k =>
    obtain rfl : ln = 1 := Nat.eq_of_beq_eq_true hln
    have hw : (Nat.beq (a % 8) 5 && Nat.blt (a / 8) 18446744073709551616 && decide (Int64.ofNat k.val = lN (a / 8))) = true := hwb
    simp only [Bool.and_eq_true, decide_eq_true_eq, ga_beq, Nat.blt_eq] at hw
    exact sx_push (v := a) (x := .long (lN (a / 8))) S hcs hO okn hnx rfl ho (fun ad => (ga_vr_5 hw.1.1).mpr ⟨hw.1.2, rfl⟩) (fun H locs ls st w => lv_lconst hx hb hdg hw.2 w)
  | ldc2_w k =>
    obtain rfl : ln = 3 := Nat.eq_of_beq_eq_true hln
    have hw : (Nat.beq (a % 8) 5 && Nat.blt (a / 8) 18446744073709551616 && ga_w1 ps (fun q => gw_ok q.2 (.constantLong own k (lN (a / 8))))) = true := hwb
    simp only [Bool.and_eq_true, ga_beq, Nat.blt_eq] at hw
    obtain ⟨q, r, -, hq⟩ := ga_w1_ok hw.2
    exact sx_push (v := a) (x := .long (lN (a / 8))) S hcs hO okn hnx rfl ho (fun ad => (ga_vr_5 hw.1.1).mpr ⟨hw.1.2, rfl⟩) (fun H locs ls st w => lv_ldc2 hx hb hown (hts _ (gw_mem hq)) hdg w)
  | ldc_w k =>
    obtain rfl : ln = 3 := Nat.eq_of_beq_eq_true hln
    have hw : (ga_lb a && ga_w1 ps (fun q => gw_ok q.2 (.constant own k (nI (a / 8))))) = true := hwb
    simp only [Bool.and_eq_true] at hw
    obtain ⟨q, r, -, hq⟩ := ga_w1_ok hw.2
    have hl := ga_lb_ok hw.1
    exact sx_push (v := a) (x := .int (nI (a / 8))) S hcs hO okn hnx rfl ho (fun ad => (ga_vr_0 hl.1).mpr ⟨hl.2, rfl⟩) (fun H locs ls st w => lv_ldcw hx hb hown (hts _ (gw_mem hq)) hdg w)
  | ldc k =>
    obtain rfl : ln = 2 := Nat.eq_of_beq_eq_true hln
    have ho2 : ga_if (or (Nat.beq (a % 8) 0) (Nat.beq a 14)) (go nx al (a :: sk) cs ss iv n h) none = some os := ho
    have hw : (if a % 8 = 0 then ga_lb a && ga_w1 ps (fun q => gw_ok q.2 (.constant own k (nI (a / 8)))) else if a = 14 then decide (own = "GravyRound$Tokens") && Nat.beq k 20 else if a = 30 then decide (own = "GravyRound$Tokens") && Nat.beq k 75 else true) = true := hwb
    simp only [ga_if_eq, Bool.or_eq_true, ga_beq] at ho2
    split at ho2
    · by_cases h0 : a % 8 = 0
      · rw [if_pos h0] at hw
        simp only [Bool.and_eq_true] at hw
        obtain ⟨q, r, -, hq⟩ := ga_w1_ok hw.2
        have hl := ga_lb_ok hw.1
        exact sx_push (v := a) (x := .int (nI (a / 8))) S hcs hO okn hnx rfl ho2 (fun ad => (ga_vr_0 hl.1).mpr ⟨hl.2, rfl⟩) (fun H locs ls st w => lv_ldc hx hb hown (hts _ (gw_mem hq)) hdg w)
      · rename_i h14
        have ha : a = 14 := by rcases h14 with q | q; exact absurd q h0; exact q
        rw [if_neg h0, if_pos ha] at hw
        simp only [Bool.and_eq_true, decide_eq_true_eq, ga_beq] at hw
        obtain ⟨rfl, rfl⟩ := hw
        subst ha
        exact sx_push (v := 14) (x := .ref (oa 1)) S hcs hO okn hnx rfl ho2 (fun ad => (ga_vr_6 (by decide)).mpr rfl) (fun H locs ls st w => va_ldcS hx hb hown hold.2.2.2.2.1 hdg w)
    · cases ho2
  | iadd => obtain rfl : ln = 1 := Nat.eq_of_beq_eq_true hln; exact op2 (f := ga_add) (fun ad => ga_add_ok) hnx (fun H locs ls st X Y w => lv_iadd hx hb hdg w) ho
  | imul => obtain rfl : ln = 1 := Nat.eq_of_beq_eq_true hln; exact op2 (f := ga_mul) (fun ad => ga_mul_ok) hnx (fun H locs ls st X Y w => lv_imul hx hb hdg w) ho
  | iand => obtain rfl : ln = 1 := Nat.eq_of_beq_eq_true hln; exact op2 (f := ga_and) (fun ad => ga_and_ok hρ6) hnx (fun H locs ls st X Y w => lv_iand hx hb hdg w) ho
  | ior => obtain rfl : ln = 1 := Nat.eq_of_beq_eq_true hln; exact op2 (f := ga_or) (fun ad => ga_or_ok) hnx (fun H locs ls st X Y w => lv_ior hx hb hdg w) ho
  | ixor => obtain rfl : ln = 1 := Nat.eq_of_beq_eq_true hln; exact op2 (f := ga_xor) (fun ad => ga_xor_ok) hnx (fun H locs ls st X Y w => lv_ixor hx hb hdg w) ho
  | ishl => obtain rfl : ln = 1 := Nat.eq_of_beq_eq_true hln; exact op2 (f := ga_shl) (fun ad => ga_shl_ok) hnx (fun H locs ls st X Y w => lv_ishl hx hb hdg w) ho
  | ishr => obtain rfl : ln = 1 := Nat.eq_of_beq_eq_true hln; exact op2 (f := ga_shr) (fun ad => ga_shr_ok) hnx (fun H locs ls st X Y w => lv_ishr hx hb hdg w) ho
  | iushr => obtain rfl : ln = 1 := Nat.eq_of_beq_eq_true hln; exact op2 (f := ga_ush) (fun ad => ga_ush_ok) hnx (fun H locs ls st X Y w => lv_iushr hx hb hdg rfl w) ho
  | isub => obtain rfl : ln = 1 := Nat.eq_of_beq_eq_true hln; exact sx_isb hρ7 hx hb S hcs hO okn hnx rfl hdg ho
  | idiv =>
    obtain rfl : ln = 1 := Nat.eq_of_beq_eq_true hln
    exact sx_op2 (f := ga_div) S hcs hO okn hnx rfl ho (fun H locs ls st ad x y vx vy a1 a2 a3 => by
      obtain ⟨X, Y, rfl, rfl, h0, g1⟩ := ga_div_ok x y vx vy a1 a2 a3
      exact ⟨_, g1, fun w => lv_idiv hx hb hdg h0 w⟩)
  | irem =>
    obtain rfl : ln = 1 := Nat.eq_of_beq_eq_true hln
    exact sx_op2 (f := ga_rem) S hcs hO okn hnx rfl ho (fun H locs ls st ad x y vx vy a1 a2 a3 => by
      obtain ⟨X, Y, rfl, rfl, h0, g1⟩ := ga_rem_ok x y vx vy a1 a2 a3
      exact ⟨_, g1, fun w => lv_irem hx hb hdg h0 w⟩)
  | ladd =>
    obtain rfl : ln = 1 := Nat.eq_of_beq_eq_true hln
    exact sx_op2 (f := ga_lad) S hcs hO okn hnx rfl ho (fun H locs ls st ad x y vx vy a1 a2 a3 => by
      obtain ⟨X, Y, rfl, rfl, g1⟩ := ga_lad_ok x y vx vy a1 a2 a3
      exact ⟨_, g1, fun w => lv_ladd hx hb hdg w⟩)
  | lmul =>
    obtain rfl : ln = 1 := Nat.eq_of_beq_eq_true hln
    exact sx_op2 (f := ga_lmu) S hcs hO okn hnx rfl ho (fun H locs ls st ad x y vx vy a1 a2 a3 => by
      obtain ⟨X, Y, rfl, rfl, g1⟩ := ga_lmu_ok x y vx vy a1 a2 a3
      exact ⟨_, g1, fun w => lv_lmul hx hb hdg w⟩)
  | i2b =>
    obtain rfl : ln = 1 := Nat.eq_of_beq_eq_true hln
    exact sx_op1 (f := ga_i2b) S hcs hO okn hnx rfl ho (fun H locs ls st ad x vx a1 a3 => by
      obtain ⟨X, rfl, g1⟩ := ga_i2b_ok x vx a1 a3
      exact ⟨_, g1, fun w => lv_i2b hx hb hdg rfl w⟩)
  | i2l =>
    obtain rfl : ln = 1 := Nat.eq_of_beq_eq_true hln
    exact sx_op1 (f := ga_i2l) S hcs hO okn hnx rfl ho (fun H locs ls st ad x vx a1 a3 => by
      obtain ⟨X, rfl, g1⟩ := ga_i2l_ok x vx a1 a3
      exact ⟨_, g1, fun w => lv_i2l hx hb hdg rfl w⟩)
  | goto off =>
    obtain rfl : ln = 3 := Nat.eq_of_beq_eq_true hln
    have ht : (pc : Int) + off = (b : Int) := of_decide_eq_true hwb
    have ho2 : go (ga_jmp code b) al sk cs ss iv n h = some os := ho
    have hj := ga_okc_jmp (t := b) okc
    obtain ⟨e1, k⟩ := sd_nx S hcs hO hj.1 hj.2 ho2
    exact gg_goto (nx := ga_jmp code b) rfl (fun H locs ls st w => lv_goto hx hb hdg ht (by rw [← e1]; exact w)) k
  | if_icmp cnd off =>
    obtain rfl : ln = 3 := Nat.eq_of_beq_eq_true hln
    have ht : (pc : Int) + off = (b : Int) := of_decide_eq_true hwb
    cases sk with
    | nil => exact absurd (show (none : Option (List ga_O)) = some os from ho) (by simp)
    | cons y sk =>
      cases sk with
      | nil => exact absurd (show (none : Option (List ga_O)) = some os from ho) (by simp)
      | cons x r =>
        have ho2 : ga_if (ga_i2 x y) (ga_cnd cnd iv x y (fun iv => go (ga_jmp code b) al r cs ss iv n h) (fun iv => go nx al r cs ss iv n h)) none = some os := ho
        rw [ga_if_eq] at ho2
        split at ho2
        · rename_i hi2
          obtain ⟨ix, iy⟩ := ga_i2_ok hi2
          exact sx_icmp hx hb S hcs hO okn hnx okc rfl ix iy hdg ht ho2
        · cases ho2
  | ifCond cnd off =>
    obtain rfl : ln = 3 := Nat.eq_of_beq_eq_true hln
    have ht : (pc : Int) + off = (b : Int) := of_decide_eq_true hwb
    cases sk with
    | nil => exact absurd (show (none : Option (List ga_O)) = some os from ho) (by simp)
    | cons x r =>
      have ho2 : ga_if (ga_int x) (ga_cnd cnd iv x 0 (fun iv => go (ga_jmp code b) al r cs ss iv n h) (fun iv => go nx al r cs ss iv n h)) none = some os := ho
      rw [ga_if_eq] at ho2
      split at ho2
      · rename_i ix
        exact sx_if hx hb S hcs hO okn hnx okc rfl ix hdg ht ho2
      · cases ho2
  | istore k =>
    obtain rfl : ln = 2 := Nat.eq_of_beq_eq_true hln
    have hlt : k < nL := by simpa using (show Nat.blt k nL = true from hwb)
    exact sx_store (ok := ga_int) (i := k) S hcs hO okn hnx rfl ho (fun H locs ls st ad v x hk hv hh w => by
      obtain ⟨y, rfl⟩ := ga_vr_int hk hv
      exact lv_istore hx hb hdg hh hlt rfl w)
  | istore_n k =>
    obtain rfl : ln = 1 := Nat.eq_of_beq_eq_true hln
    have hlt : k.val < nL := by simpa using (show Nat.blt k.val nL = true from hwb)
    exact sx_store (ok := ga_int) (i := k.val) S hcs hO okn hnx rfl ho (fun H locs ls st ad v x hk hv hh w => by
      obtain ⟨y, rfl⟩ := ga_vr_int hk hv
      exact lv_istore_n hx hb hdg rfl hh hlt rfl w)
  | astore_n k =>
    obtain rfl : ln = 1 := Nat.eq_of_beq_eq_true hln
    have hlt : k.val < nL := by simpa using (show Nat.blt k.val nL = true from hwb)
    exact sx_store (ok := ga_adr) (i := k.val) S hcs hO okn hnx rfl ho (fun H locs ls st ad v x hk hv hh w => by
      obtain ⟨y, rfl⟩ := ga_vr_adr hk hv
      exact lv_astore_n hx hb hdg rfl hh hlt rfl w)
  | lstore_n k =>
    obtain rfl : ln = 1 := Nat.eq_of_beq_eq_true hln
    have hlt : k.val + 1 < nL := by simpa using (show Nat.blt (k.val + 1) nL = true from hwb)
    cases sk with
    | nil => exact absurd (show (none : Option (List ga_O)) = some os from ho) (by simp)
    | cons v r => exact sx_lst hx hb S hcs hO okn hnx rfl hdg hlt ho
  | iinc k nn =>
    obtain rfl : ln = 3 := Nat.eq_of_beq_eq_true hln
    have hw : (ga_lb a && decide (Int32.ofInt nn = nI (a / 8)) && Nat.blt k nL) = true := hwb
    simp only [Bool.and_eq_true, decide_eq_true_eq, Nat.blt_eq] at hw
    exact sx_iinc hx hb S hcs hO okn hnx rfl hdg (ga_lb_ok hw.1.1).1 hw.2 hw.1.2 ho
  | getfield idx =>
    obtain rfl : ln = 3 := Nat.eq_of_beq_eq_true hln
    have hw : (match gm_cl[a]? with
      | some q => Nat.blt b q.2.2 && ga_w1 ps (fun w => if w.1 = 0 then gw_ok w.2 (.fieldLink own idx (q.2.1 b).1 (q.2.1 b).2.1 (q.2.1 b).2.2.1) else gw_nk w.2 (.fieldLinkNest own idx (q.2.1 b).1 (q.2.1 b).2.1 (q.2.1 b).2.2.1 "GravyRound"))
      | none => false) = true := hwb
    cases hq : gm_cl[a]? with
    | none => rw [hq] at hw; cases hw
    | some q =>
      rw [hq] at hw
      simp only [Bool.and_eq_true, Nat.blt_eq] at hw
      obtain ⟨w0, r0, -, hw0⟩ := ga_w1_ok hw.2
      refine sx_get hx hb hown hts hK S hcs hO okn hnx rfl hdg hq hw.1 ?_ ho
      split at hw0
      · exact Or.inl (hts _ (gw_mem hw0))
      · exact Or.inr (va_Nw.use rfl (hold.2.2.1 _ (gw_nmem hw0)))
  | putfield idx =>
    obtain rfl : ln = 3 := Nat.eq_of_beq_eq_true hln
    have hw : (match gm_cl[a]? with
      | some q => Nat.blt b q.2.2 && ga_w1 ps (fun w => gw_ok w.2 (.fieldLink own idx (q.2.1 b).1 (q.2.1 b).2.1 (q.2.1 b).2.2.1) && ga_tc w.1 (q.2.1 b).2.2.1) && (!(q.2.1 b).2.2.2 || (ini && decide ((q.2.1 b).1 = own)))
      | none => false) = true := hwb
    cases hq : gm_cl[a]? with
    | none => rw [hq] at hw; cases hw
    | some q =>
      rw [hq] at hw
      simp only [Bool.and_eq_true, Nat.blt_eq, Bool.or_eq_true, Bool.not_eq_true', decide_eq_true_eq] at hw
      obtain ⟨⟨h1, h2⟩, h3⟩ := hw
      obtain ⟨w0, r0, hps, hw0⟩ := ga_w1_ok h2
      simp only [Bool.and_eq_true] at hw0
      refine sx_put hx hb hown hts hK S hcs hO okn hnx rfl hdg hq h1 (hts _ (gw_mem hw0.1)) (fun w hw => ?_) ?_ ho
      · rw [hps] at hw
        have : w0 = w := by simpa using hw
        rw [← this]
        exact hw0.2
      · rcases h3 with h3 | ⟨h3, h4⟩
        · exact Or.inl h3
        · exact Or.inr ⟨hinit h3, h4⟩
  | dup =>
    obtain rfl : ln = 1 := Nat.eq_of_beq_eq_true hln
    cases sk with
    | nil => exact absurd (show (none : Option (List ga_O)) = some os from ho) (by simp)
    | cons v r =>
      have ho2 : ga_if (ga_one v) (go nx al (v :: v :: r) cs ss iv n h) none = some os := ho
      rw [ga_if_eq] at ho2
      split at ho2
      · rename_i hv1
        exact sx_stk S hcs hO okn hnx rfl ho2 (fun H locs ls st ad hsz hst => by
          obtain ⟨x, t, rfl, h1, h2⟩ := ga_sr_cons hst
          exact ⟨x :: x :: t, ⟨h1, h1, h2⟩, fun w => lv_dup hx hb hdg (ga_one1 hv1 h1) w⟩)
      · cases ho2
  | dup2 =>
    obtain rfl : ln = 1 := Nat.eq_of_beq_eq_true hln
    cases sk with
    | nil => exact absurd (show (none : Option (List ga_O)) = some os from ho) (by simp)
    | cons v sk =>
      cases sk with
      | nil => exact absurd (show (none : Option (List ga_O)) = some os from ho) (by simp)
      | cons w r =>
        have ho2 : ga_if (and (ga_one v) (ga_one w)) (go nx al (v :: w :: v :: w :: r) cs ss iv n h) none = some os := ho
        rw [ga_if_eq] at ho2
        split at ho2
        · rename_i hv1
          simp only [Bool.and_eq_true] at hv1
          exact sx_stk S hcs hO okn hnx rfl ho2 (fun H locs ls st ad hsz hst => by
            obtain ⟨x, t, rfl, h1, h2⟩ := ga_sr_cons hst
            obtain ⟨y, t, rfl, h3, h4⟩ := ga_sr_cons h2
            exact ⟨x :: y :: x :: y :: t, ⟨h1, h3, h1, h3, h4⟩, fun w => lv_dup2_11 hx hb hdg (ga_one1 hv1.1 h1) (ga_one1 hv1.2 h3) w⟩)
        · cases ho2
  | pop =>
    obtain rfl : ln = 1 := Nat.eq_of_beq_eq_true hln
    cases sk with
    | nil => exact absurd (show (none : Option (List ga_O)) = some os from ho) (by simp)
    | cons v r =>
      have ho2 : ga_if (ga_one v) (go nx al r cs ss iv n h) none = some os := ho
      rw [ga_if_eq] at ho2
      split at ho2
      · rename_i hv1
        exact sx_stk S hcs hO okn hnx rfl ho2 (fun H locs ls st ad hsz hst => by
          obtain ⟨x, t, rfl, h1, h2⟩ := ga_sr_cons hst
          exact ⟨t, h2, fun w => lv_pop hx hb hdg (ga_one1 hv1 h1) w⟩)
      · cases ho2
  | iaload =>
    obtain rfl : ln = 1 := Nat.eq_of_beq_eq_true hln
    cases sk with
    | nil => exact absurd (show (none : Option (List ga_O)) = some os from ho) (by simp)
    | cons i0 sk =>
      cases sk with
      | nil => exact absurd (show (none : Option (List ga_O)) = some os from ho) (by simp)
      | cons r t =>
        have ho2 : ga_if (Nat.beq r 6) (ga_idx iv i0 (fun _ => none) (fun j => ga_if (Nat.blt j L) (ga_f (8 * j + 1) (fun v => go nx al (v :: t) cs ss iv n h)) none)) (ga_ald 100 go (pc, 1, .iaload, a, b, ps) nx al (i0 :: r :: t) cs ss iv n h) = some os := ho
        rw [ga_if_eq] at ho2
        split at ho2
        · rename_i hr6
          rw [ga_beq] at hr6
          subst hr6
          refine gg_idx ho2 (fun h0 o1 g1 g2 => ?_) (fun iv' o1 g1 g2 => by cases g1)
          simp only [ga_if_eq, ga_f_eq, Nat.blt_eq] at g1
          split at g1
          · rename_i hjL
            omega
          · cases g1
        · exact sx_aldi (kind := 100) (Or.inl rfl) S hcs hO oke hnx rfl (fun H locs ls st ws q0 a1 j mm f hj1 hj2 hP he w => va_iald hx hb hK hP q0 0 he rfl (ga_vpin hj1 hj2) hdg (by rw [ga_clamp hj1]; exact w)) ho2
  | baload =>
    obtain rfl : ln = 1 := Nat.eq_of_beq_eq_true hln
    have ho2 : ga_if (Nat.beq a 104) (ga_ald 104 go (pc, 1, .baload, a, b, ps) nx al sk cs ss iv n h) (ga_ald 101 go (pc, 1, .baload, a, b, ps) nx al sk cs ss iv n h) = some os := ho
    rw [ga_if_eq] at ho2
    split at ho2
    · exact sx_aldi (kind := 104) (Or.inr (Or.inr rfl)) S hcs hO oke hnx rfl (fun H locs ls st ws q0 a1 j mm f hj1 hj2 hP he w => va_zald hx hb hK hP q0 4 he rfl (ga_vpin hj1 hj2) hdg (by rw [ga_clamp hj1]; exact w)) ho2
    · exact sx_aldi (kind := 101) (Or.inr (Or.inl rfl)) S hcs hO oke hnx rfl (fun H locs ls st ws q0 a1 j mm f hj1 hj2 hP he w => va_bald hx hb hK hP q0 1 he rfl (ga_vpin hj1 hj2) hdg (by rw [ga_clamp hj1]; exact w)) ho2
  | aaload =>
    obtain rfl : ln = 1 := Nat.eq_of_beq_eq_true hln
    exact sx_aldr S hcs hO oke hnx rfl (fun H locs ls st ws q0 a1 j mm f hj1 hj2 hP he w => va_aldq hx hb hK hP q0 3 he rfl (ga_vpin hj1 hj2) hdg (by rw [ga_clamp hj1]; exact w)) ho
  | iastore =>
    obtain rfl : ln = 1 := Nat.eq_of_beq_eq_true hln
    refine sx_asti (kind := 100) (f := ga_fi) (Or.inl rfl) S hcs hO oke hnx rfl (fun H locs ls st ad ws q0 a1 j mm v g x hj1 hj2 h7 hP hD hS he hv => ?_) ho
    have hfi : ga_int v = true ∧ ga_fi v = v := by
      unfold ga_fi at h7 ⊢
      rw [ga_if_eq] at h7 ⊢
      split at h7
      · rename_i q; exact ⟨q, if_pos q⟩
      · exact absurd rfl h7
    obtain ⟨y, rfl⟩ := ga_vr_int hfi.1 hv
    refine ⟨y, by rw [hfi.2]; exact hv, fun kk => ?_⟩
    refine va_iast hx hb hK hP hD hS q0 0 he rfl (ga_vpin hj1 hj2) hdg ?_
    rw [ga_clamp hj1]
    exact kk
  | bastore =>
    obtain rfl : ln = 1 := Nat.eq_of_beq_eq_true hln
    have ho2 : ga_if (Nat.beq a 104) (ga_ast 104 ga_fz go (pc, 1, .bastore, a, b, ps) nx al sk cs ss iv n h) (ga_ast 101 ga_i2b go (pc, 1, .bastore, a, b, ps) nx al sk cs ss iv n h) = some os := ho
    rw [ga_if_eq] at ho2
    split at ho2
    · refine sx_asti (kind := 104) (f := ga_fz) (Or.inr (Or.inr rfl)) S hcs hO oke hnx rfl (fun H locs ls st ad ws q0 a1 j mm v g x hj1 hj2 h7 hP hD hS he hv => ?_) ho2
      have hfz : (v = 0 ∨ v = 8) ∧ ga_fz v = v := by
        unfold ga_fz at h7 ⊢
        simp only [ga_if_eq, Bool.or_eq_true, ga_beq] at h7 ⊢
        split at h7
        · rename_i q; exact ⟨q, if_pos q⟩
        · exact absurd rfl h7
      have hxx : ∃ y : Int32, x = .int y ∧ vp_nar .boolean y = y := by
        rcases hfz.1 with rfl | rfl
        · exact ⟨_, ((ga_vr_0 (by decide)).mp hv).2, by decide +kernel⟩
        · exact ⟨_, ((ga_vr_0 (by decide)).mp hv).2, by decide +kernel⟩
      obtain ⟨y, rfl, hy⟩ := hxx
      refine ⟨y, by rw [hfz.2]; exact hv, fun kk => ?_⟩
      refine va_zast hx hb hK hP hD hS q0 4 he rfl (ga_vpin hj1 hj2) hdg ?_
      rw [ga_clamp hj1, hy]
      exact kk
    · refine sx_asti (kind := 101) (f := ga_i2b) (Or.inr (Or.inl rfl)) S hcs hO oke hnx rfl (fun H locs ls st ad ws q0 a1 j mm v g x hj1 hj2 h7 hP hD hS he hv => ?_) ho2
      obtain ⟨y, rfl, hy⟩ := ga_i2b_ok v x hv h7
      refine ⟨_, hy, fun kk => ?_⟩
      refine va_bast hx hb hK hP hD hS q0 1 he rfl (ga_vpin hj1 hj2) hdg ?_
      rw [ga_clamp hj1, vp_nar_byte]
      exact kk
  | lastore =>
    obtain rfl : ln = 1 := Nat.eq_of_beq_eq_true hln
    exact sx_astl S hcs hO oke hnx rfl (fun H locs ls st ws q0 a1 j mm f x hj1 hj2 hP hD hS he kk => by
      refine va_last hx hb hK hP hD hS q0 2 he rfl (ga_vpin hj1 hj2) hdg ?_
      rw [ga_clamp hj1]
      exact kk) ho
  | aastore =>
    obtain rfl : ln = 1 := Nat.eq_of_beq_eq_true hln
    have hw : (match gm_cl[a]? with | some q => decide (q.1 = "GravyRound$Table") | none => false) = true := hwb
    cases hq : gm_cl[a]? with
    | none => rw [hq] at hw; cases hw
    | some q =>
      rw [hq] at hw
      have hq1 : q.1 = "GravyRound$Table" := of_decide_eq_true hw
      have hg := gn_all a q hq
      exact sx_astr (ci := a) hg.2.2.2.2.2.1 S hcs hO oke hnx rfl (fun H locs ls st ws q0 qk a1 x j mm f fs hj1 hj2 hP hD hS he hev kk => by
        refine va_astq hx hb hK hP hD hS q0 3 qk a he (by rw [hq1]; rfl) hev hq (ga_vpin hj1 hj2) hdg ?_
        rw [ga_clamp hj1]
        exact kk) ho
  | arraylength =>
    obtain rfl : ln = 1 := Nat.eq_of_beq_eq_true hln
    cases sk with
    | nil => exact absurd (show (none : Option (List ga_O)) = some os from ho) (by simp)
    | cons r t =>
      have ho2 : ga_if (Nat.beq r 6) (go nx al (8 * L :: t) cs ss iv n h) (ga_if (ga_ref r) (match ga_hg h (r / 8) with | (k, m, _) => ga_if (and (and (Nat.ble 100 k) (Nat.ble k 104)) (Nat.blt m 4294967296)) (ga_f (8 * m) (fun v => go nx al (v :: t) cs ss iv n h)) none) none) = some os := ho
      rw [ga_if_eq] at ho2
      split at ho2
      · rename_i hr6
        rw [ga_beq] at hr6
        subst hr6
        exact absurd h6 (by show ¬ Nat.beq 6 6 = false; decide)
      · rw [ga_if_eq] at ho2
        split at ho2
        · rename_i hr
          rcases hcell : ga_hg h (r / 8) with ⟨c1, mm, vs⟩
          rw [hcell] at ho2
          simp only [ga_if_eq, ga_f_eq, Bool.and_eq_true, Nat.ble_eq, Nat.blt_eq] at ho2
          split at ho2
          · rename_i hq
            obtain ⟨e1, k⟩ := sd_nx S hcs hO okn hnx ho2
            have htk : ∃ (t0 : Nat) (ty : FieldType), (ga_tys ta)[t0]? = some (ta c1, ty) := by
              have : c1 = 100 ∨ c1 = 101 ∨ c1 = 102 ∨ c1 = 103 ∨ c1 = 104 := by omega
              rcases this with rfl | rfl | rfl | rfl | rfl
              · exact ⟨0, _, rfl⟩
              · exact ⟨1, _, rfl⟩
              · exact ⟨2, _, rfl⟩
              · exact ⟨3, _, rfl⟩
              · exact ⟨4, _, rfl⟩
            obtain ⟨t0, ty, ht0⟩ := htk
            exact gg_alen (pc := pc) rfl hr hcell hq.1.1 hq.1.2 hq.2 (fun H locs ls st ws q0 a1 x hP he hx1 w => va_alen (v := nI mm) hx hb hK hP q0 t0 he ht0 (by rw [hx1]; rfl) hdg (by rw [e1] at w; exact w)) k
          · cases ho2
        · cases ho2
  | new idx =>
    obtain rfl : ln = 3 := Nat.eq_of_beq_eq_true hln
    have hw : (match gm_cl[a]? with | some q => Nat.beq b q.2.2 && ga_w1 ps (fun w => gw_ok w.2 (.classLink own idx q.1)) | none => false) = true := hwb
    cases hq : gm_cl[a]? with
    | none => rw [hq] at hw; cases hw
    | some q =>
      rw [hq] at hw
      simp only [Bool.and_eq_true, ga_beq] at hw
      obtain ⟨hb2, hw2⟩ := hw
      obtain ⟨w0, r0, -, hw0⟩ := ga_w1_ok hw2
      have hg := gn_all a q hq
      obtain ⟨ty, hty, hdv⟩ := hg.2.2.1
      subst hb2
      refine sx_new (cK := a) (mm := 0) (vs := gm_df a) (sz := q.2.2) (sk' := sk) S hO okn hnx rfl (fun H locs ls st ad ws hc1 hc2 hP hD hS hi hs => ⟨.inr (a, (gm_df a).map ga_cv), st, fun qq => Or.inl ⟨hg.2.2.2.2.2.1, _, rfl, by simp, fun j v hv => ⟨ga_cv v, by rw [List.getElem?_map, show (gm_df a)[j]? = some v from hv]; rfl, ?_⟩⟩, hs, fun kk => ?_⟩) ho
      · rcases hg.2.2.2.2.2.2.2 v (List.mem_of_getElem? hv) with rfl | rfl | rfl
        · exact ga_z0
        · exact (ga_vr_4 (by decide)).mpr rfl
        · exact (ga_vr_5 (by decide)).mpr ⟨by decide, rfl⟩
      · obtain ⟨C, T, N⟩ := q
        exact va_new hx hb hts hg.1 ty hty hown (hts _ (gw_mem hw0)) (hts _ hg.2.2.2.1) (hts _ hg.2.2.2.2.1) hK hP hD hS hA hq hdv (Nat.le_trans hc1 hRc) (Nat.le_trans hc2 hRs) hdg kk
  | newarray t =>
    obtain rfl : ln = 2 := Nat.eq_of_beq_eq_true hln
    cases sk with
    | nil => exact absurd (show (none : Option (List ga_O)) = some os from ho) (by simp)
    | cons mq r =>
      have ho2 : ga_if (and (Nat.beq (mq % 8) 0) (Nat.blt (mq / 8) 1048576)) (ga_f (mq / 8) (fun m => ga_new a m [] m cm sm go nx al r cs ss iv n h)) none = some os := ho
      simp only [ga_if_eq, ga_f_eq, Bool.and_eq_true, ga_beq, Nat.blt_eq] at ho2
      split at ho2
      · rename_i hm
        have hnn : ¬ nI (mq / 8) < 0 := nI_pos (by omega)
        have arr : ∀ {kk0 t0 : Nat} {ty : FieldType} {at0 : ArrayType} (i0 : Nat), a = kk0 → (kk0 = 100 ∨ kk0 = 101 ∨ kk0 = 104) → t = at0 → newarray.typeOf at0 = ty → (∀ (N' : Nat) (cA : ClassId), vp_cell cA (N', .inl (fun _ => 0)) = arrV cA N' (fun _ => defaultValue ty)) → componentBytes ty ≤ 8 → (ga_tys ta)[i0]? = some (ta kk0, ty) → Cond.arrayClass (newarray.typeOf at0) ∈ gw_tbl → ga_Go p l e R s m args below meth c Q ρ oa ta D n0 nL ((pc, 2, .newarray t, a, b, ps) :: nx) al (mq :: r) cs ss iv n h := by
          intro kk0 t0 ty at0 i0 ha hk0 ht hty hcell hby hti hwd
          subst ha; subst ht
          refine sx_new (cK := a) (mm := mq / 8) (vs := []) (sz := mq / 8) (sk' := r) S hO okn hnx rfl (fun H locs ls st ad ws hc1 hc2 hP hD hS hi hs => ?_) ho2
          obtain ⟨x, st1, rfl, hx1, hs1⟩ := ga_sr_cons hs
          have ex := ((ga_vr_0 hm.1).mp hx1).2
          subst ex
          refine ⟨.inl (ta a, mq / 8, .inl (fun _ => 0)), st1, fun q => Or.inr (Or.inl ⟨hk0, _, rfl, fun j _ => ga_z0⟩), hs1, fun kk => ?_⟩
          refine va_newa hx hb (hts _ hwd) hty hK hP hD hS hA (hcell (mq / 8)) hnn (ga_clamp hm.2) ?_ (Nat.le_trans hc1 hRc) (Nat.le_trans hc2 hRs) hdg (fun q cA H1 hK2 hP1 hD1 hS1 => ?_)
          · have : mq / 8 * componentBytes ty ≤ mq / 8 * 8 := Nat.mul_le_mul_left _ hby
            omega
          · have ec := ga_ta hK hti hK2
            subst ec
            exact kk q H1 hP1 hD1 hS1
        cases t with
        | int =>
          have hw : (Nat.beq a 100 && ga_w1 ps (fun w => gw_ok w.2 (.arrayClass .int))) = true := hwb
          simp only [Bool.and_eq_true, ga_beq] at hw
          obtain ⟨w0, r0, -, hw0⟩ := ga_w1_ok hw.2
          exact arr (at0 := .int) (t0 := 0) 0 hw.1 (Or.inl rfl) rfl rfl (fun _ _ => rfl) (by decide) rfl (gw_mem hw0)
        | byte =>
          have hw : (Nat.beq a 101 && ga_w1 ps (fun w => gw_ok w.2 (.arrayClass .byte))) = true := hwb
          simp only [Bool.and_eq_true, ga_beq] at hw
          obtain ⟨w0, r0, -, hw0⟩ := ga_w1_ok hw.2
          exact arr (at0 := .byte) (t0 := 0) 1 hw.1 (Or.inr (Or.inl rfl)) rfl rfl (fun _ _ => rfl) (by decide) rfl (gw_mem hw0)
        | boolean =>
          have hw : (Nat.beq a 104 && ga_w1 ps (fun w => gw_ok w.2 (.arrayClass .boolean))) = true := hwb
          simp only [Bool.and_eq_true, ga_beq] at hw
          obtain ⟨w0, r0, -, hw0⟩ := ga_w1_ok hw.2
          exact arr (at0 := .boolean) (t0 := 0) 4 hw.1 (Or.inr (Or.inr rfl)) rfl rfl (fun _ _ => rfl) (by decide) rfl (gw_mem hw0)
        | long =>
          have hw : (Nat.beq a 102 && ga_w1 ps (fun w => gw_ok w.2 (.arrayClass .long))) = true := hwb
          simp only [Bool.and_eq_true, ga_beq] at hw
          obtain ⟨ha, hw2⟩ := hw
          obtain ⟨w0, r0, -, hw0⟩ := ga_w1_ok hw2
          subst ha
          refine sx_new (cK := 102) (mm := mq / 8) (vs := []) (sz := mq / 8) (sk' := r) S hO okn hnx rfl (fun H locs ls st ad ws hc1 hc2 hP hD hS hi hs => ?_) ho2
          obtain ⟨x, st1, rfl, hx1, hs1⟩ := ga_sr_cons hs
          have ex := ((ga_vr_0 hm.1).mp hx1).2
          subst ex
          refine ⟨.inl (ta 102, mq / 8, .inr (.inl (fun _ => 0))), st1, fun q => Or.inr (Or.inr (Or.inl ⟨rfl, _, rfl, fun j _ => (show ga_vr ρ oa (ad ++ [q]) 5 (.long 0) from (ga_vr_5 (by decide)).mpr ⟨by decide, rfl⟩)⟩)), hs1, fun kk => ?_⟩
          refine va_newa (atype := .long) (ty := .long) (a0 := (mq / 8, .inr (.inl (fun _ => 0)))) hx hb (hts _ (gw_mem hw0)) rfl hK hP hD hS hA (fun _ => rfl) hnn (ga_clamp hm.2) ?_ (Nat.le_trans hc1 hRc) (Nat.le_trans hc2 hRs) hdg (fun q cA H1 hK2 hP1 hD1 hS1 => ?_)
          · show mq / 8 * 8 ≤ _
            omega
          · have ec := ga_ta (k := 2) (t := 102) hK rfl hK2
            subst ec
            exact kk q H1 hP1 hD1 hS1
        | _ => exact absurd (show false = true from hwb) (by simp)
      · cases ho2
  | anewarray idx =>
    obtain rfl : ln = 3 := Nat.eq_of_beq_eq_true hln
    cases sk with
    | nil => exact absurd (show (none : Option (List ga_O)) = some os from ho) (by simp)
    | cons mq r =>
      have ho2 : ga_if (and (Nat.beq (mq % 8) 0) (Nat.blt (mq / 8) 1048576)) (ga_f (mq / 8) (fun m => ga_new 103 m [] m cm sm go nx al r cs ss iv n h)) none = some os := ho
      have hw : ga_w1 ps (fun w => gw_ok w.2 (.classLink own idx "GravyRound$Table")) = true := hwb
      obtain ⟨w0, r0, -, hw0⟩ := ga_w1_ok hw
      simp only [ga_if_eq, ga_f_eq, Bool.and_eq_true, ga_beq, Nat.blt_eq] at ho2
      split at ho2
      · rename_i hm
        have hnn : ¬ nI (mq / 8) < 0 := nI_pos (by omega)
        refine sx_new (cK := 103) (mm := mq / 8) (vs := []) (sz := mq / 8) (sk' := r) S hO okn hnx rfl (fun H locs ls st ad ws hc1 hc2 hP hD hS hi hs => ?_) ho2
        obtain ⟨x, st1, rfl, hx1, hs1⟩ := ga_sr_cons hs
        have ex := ((ga_vr_0 hm.1).mp hx1).2
        subst ex
        refine ⟨.inl (ta 103, mq / 8, .inr (.inr (.inr (.inr (fun _ => none))))), st1, fun q => Or.inr (Or.inr (Or.inr ⟨rfl, _, rfl, fun j _ => (show ga_vr ρ oa (ad ++ [q]) 4 .null from (ga_vr_4 (by decide)).mpr rfl)⟩)), hs1, fun kk => ?_⟩
        refine va_newq hx hb hown (hts _ (gw_mem hw0)) hold.2.2.2.1 hK hP hD hS hA hnn (ga_clamp hm.2) (by omega) (Nat.le_trans hc1 hRc) (Nat.le_trans hc2 hRs) hdg (fun q cA H1 hK2 hP1 hD1 hS1 => ?_)
        have ec := ga_ta (k := 3) (t := 103) hK rfl hK2
        subst ec
        exact kk q H1 hP1 hD1 hS1
      · cases ho2
  | invokestatic idx =>
    obtain rfl : ln = 3 := Nat.eq_of_beq_eq_true hln
    have ho2 : ga_if (Nat.beq a 1001) (ga_acp go nx al sk cs ss iv n h) (ga_inv gm_me call a false cm sm go nx al sk cs ss iv n h) = some os := ho
    have hw : (if a = 1001 then ga_w1 ps (fun w => gw_ok w.2 (.methodLink own idx arraycopyName)) else if a < 998 then ga_w1 ps (fun w => gw_ok w.2 (.methodLink own idx (gm_i a).1)) && Nat.beq (gm_me a).2.2.2.2.2.2.2 999 else true) = true := hwb
    rw [ga_if_eq] at ho2
    split at ho2
    · rename_i h1001
      rw [ga_beq] at h1001
      rw [if_pos h1001] at hw
      obtain ⟨w0, r0, -, hw0⟩ := ga_w1_ok hw
      have hnf : nativeFrameWords "java/lang/System" "arraycopy" 5 ≤ 100 := by decide +kernel
      refine sx_acp hx hb S hcs hO okn hnx rfl (fun H locs ls st ws q0 q1 A B sp dp mm la lb f g hsz hwd hb1 hb2 hb3 hs1 hs2 hP hD hS hA1 hB1 kk => ?_) (fun H locs ls st ws q0 q1 A B sp dp mm la lb f g hsz hwd hb1 hb2 hb3 hs1 hs2 hP hD hS hA1 hB1 kk => ?_) ho2
      · refine va_copyi (ty := .int) hx hb (hml.trans hsz.symm) hown (hts _ (gw_mem hw0)) (hts _ (gw_mem (i := 653) (by decide +kernel))) (hts _ (gw_mem (i := 652) (by decide +kernel))) (hts _ (gw_mem (i := 139) (by decide +kernel))) hK hP hD hS q0 q1 0 0 hA1 hB1 rfl rfl rfl (nI_pos (by omega)) (nI_pos (by omega)) (nI_pos (by omega)) (by rw [ga_clamp hb1, ga_clamp hb3]; exact hs1) (by rw [ga_clamp hb2, ga_clamp hb3]; exact hs2) (fun _ _ => rfl) (by omega) (by omega) hdg ?_
        rw [ga_clamp hb1, ga_clamp hb2, ga_clamp hb3]
        exact kk
      · refine va_copyl (ty := .long) hx hb (hml.trans hsz.symm) hown (hts _ (gw_mem hw0)) (hts _ (gw_mem (i := 653) (by decide +kernel))) (hts _ (gw_mem (i := 652) (by decide +kernel))) (hts _ (gw_mem (i := 139) (by decide +kernel))) hK hP hD hS q0 q1 2 2 hA1 hB1 rfl rfl rfl (nI_pos (by omega)) (nI_pos (by omega)) (nI_pos (by omega)) (by rw [ga_clamp hb1, ga_clamp hb3]; exact hs1) (by rw [ga_clamp hb2, ga_clamp hb3]; exact hs2) (fun _ _ => rfl) (by omega) (by omega) hdg ?_
        rw [ga_clamp hb1, ga_clamp hb2, ga_clamp hb3]
        exact kk
    · rename_i h1001
      have hn1 : ¬ a = 1001 := fun q => h1001 (by rw [q]; rfl)
      rw [if_neg hn1] at hw
      have hw2 : a < 998 → Cond.methodLink own idx (gm_i a).1 ∈ gw_tbl ∧ gm_ci a = 999 := by
        intro hlt
        rw [if_pos hlt] at hw
        simp only [Bool.and_eq_true, ga_beq] at hw
        obtain ⟨w0, r0, -, hw0⟩ := ga_w1_ok hw.1
        exact ⟨gw_mem hw0, hw.2⟩
      exact gq_inv (kind := 3) (idx := idx) (virt := false) hx hb hml hown hts hK hn0 hold hRf hRl hRc hRs HC S hO okn hnx rfl (fun hlt => Or.inr (Or.inr (Or.inr ⟨rfl, hts _ (hw2 hlt).1⟩))) (by simp) (by omega) (by omega) (fun _ => hdg) (fun hlt _ => (hw2 hlt).2) (fun _ q => absurd rfl q) (fun _ q => absurd q (by decide)) (fun _ q => absurd q (by decide)) ho2
  | invokevirtual idx =>
    obtain rfl : ln = 3 := Nat.eq_of_beq_eq_true hln
    have ho2 : ga_if (Nat.ble a 999) (ga_inv gm_me call a true cm sm go nx al sk cs ss iv n h) (ga_if (Nat.beq a 1004) none (ga_txt gm_tx a go nx al sk cs ss iv n h)) = some os := ho
    have hw : (if a < 998 then ga_w1 ps (fun w => gw_ok w.2 (.methodLink own idx (gm_i a).1)) && decide (¬ (gm_i a).1.name = "<init>" ∧ ¬ (gm_me a).2.2.2.2.2.2.2 = 999) else if a = 1002 then ga_w1 ps (fun w => gw_ok w.2 (.methodLink own idx ga_yLen)) else if a = 1003 then ga_w1 ps (fun w => gw_ok w.2 (.methodLink own idx ga_yChr)) else if a = 1004 then ga_w1 ps (fun w => gw_ok w.2 (.methodLink own idx ga_yIdx)) else Nat.beq a 998) = true := hwb
    rw [ga_if_eq] at ho2
    split at ho2
    · rename_i hle
      have hw2 : a < 998 → Cond.methodLink own idx (gm_i a).1 ∈ gw_tbl ∧ ¬ (gm_i a).1.name = "<init>" ∧ ¬ gm_ci a = 999 := by
        intro hlt
        rw [if_pos hlt] at hw
        simp only [Bool.and_eq_true, decide_eq_true_eq] at hw
        obtain ⟨w0, r0, -, hw0⟩ := ga_w1_ok hw.1
        exact ⟨gw_mem hw0, hw.2⟩
      exact gq_inv (kind := 0) (idx := idx) (virt := true) hx hb hml hown hts hK hn0 hold hRf hRl hRc hRs HC S hO okn hnx rfl (fun hlt => Or.inl ⟨rfl, hts _ (hw2 hlt).1⟩) (by simp) (fun _ => hdg) (by omega) (by omega) (fun _ q => absurd q (by decide)) (fun hlt _ => (hw2 hlt).2.2) (fun hlt _ => (hw2 hlt).2.1) (fun _ q => absurd q (by decide)) ho2
    · rename_i hle
      have hgt : ¬ a ≤ 999 := fun q => hle (Nat.ble_eq.mpr q)
      rw [if_neg (by omega)] at hw
      rw [ga_if_eq] at ho2
      have h4 : ¬ a = 1004 := by
        intro q
        rw [if_pos (by rw [q]; rfl)] at ho2
        cases ho2
      rw [if_neg (by rw [ga_beq]; exact h4)] at ho2
      unfold ga_txt at ho2
      rw [ga_if_eq] at ho2
      split at ho2
      · rename_i ha
        rw [ga_beq] at ha
        rw [if_pos ha] at hw
        obtain ⟨w0, r0, -, hw0⟩ := ga_w1_ok hw
        cases sk with
        | nil => cases ho2
        | cons r t =>
          simp only [ga_if_eq, ga_f_eq, Bool.and_eq_true, ga_beq, Nat.ble_eq] at ho2
          split at ho2
          · rename_i hq
            obtain ⟨rfl, hwd⟩ := hq
            obtain ⟨e1, k⟩ := sd_nx S hcs hO okn hnx ho2
            intro H locs ls st hat
            obtain ⟨hi, hS, ad, ws, hw1, hl, hs⟩ := hat
            obtain ⟨x, st0, rfl, hx0, hs0⟩ := ga_sr_cons hs
            have ey := (ga_vr_6 (by decide)).mp hx0
            subst ey
            have kk := k H locs ls (.int (nI 91) :: st0) ⟨hi, hS, ad, ws, hw1, hl, ga_lit 91 (by decide), hs0⟩
            rw [e1] at kk
            exact TX.1 H locs ls st0 cs ss idx pc (gw_mem hw0) hdg hl.1 (by rw [ga_sr_wd hs0]; exact hwd) (Nat.le_trans hcs.1 hRc) (Nat.le_trans hcs.2 hRs) hS kk
          · cases ho2
      · rename_i ha
        have hna : ¬ a = 1002 := fun q => ha (by rw [q]; rfl)
        rw [if_neg hna] at hw
        split at hw
        · obtain ⟨w0, r0, -, hw0⟩ := ga_w1_ok hw
          cases sk with
          | nil => cases ho2
          | cons i0 sk =>
            cases sk with
            | nil => cases ho2
            | cons r t =>
              simp only [ga_if_eq, ga_f_eq, Bool.and_eq_true, ga_beq, Nat.ble_eq, Nat.blt_eq] at ho2
              split at ho2
              · rename_i hq
                obtain ⟨⟨rfl, hi8⟩, hwd, hjl⟩ := hq
                obtain ⟨e1, k⟩ := sd_nx S hcs hO okn hnx ho2
                intro H locs ls st hat
                obtain ⟨hi, hS, ad, ws, hw1, hl, hs⟩ := hat
                obtain ⟨x, st0, rfl, hx0, hs0⟩ := ga_sr_cons hs
                obtain ⟨y, st1, rfl, hy0, hs1⟩ := ga_sr_cons hs0
                have ex := ((ga_vr_0 hi8).mp hx0).2
                have ey := (ga_vr_6 (by decide)).mp hy0
                subst ex; subst ey
                have hjl2 : i0 / 8 < 91 := hjl
                rw [ga_nth_eq] at k
                have hch : gm_tx.getD (i0 / 8) 0 < 4294967296 := by
                  have : ∀ j, j < 91 → gm_tx.getD j 0 < 4294967296 := by decide +kernel
                  exact this _ hjl2
                have kk := k H locs ls (.int (nI (gm_tx.getD (i0 / 8) 0)) :: st1) ⟨hi, hS, ad, ws, hw1, hl, ga_lit _ hch, hs1⟩
                rw [e1] at kk
                exact TX.2 H locs ls st1 cs ss idx pc (i0 / 8) (gw_mem hw0) hdg hl.1 (by rw [ga_sr_wd hs1]; exact hwd) (Nat.le_trans hcs.1 hRc) (Nat.le_trans hcs.2 hRs) hjl2 hS kk
              · cases ho2
        · rw [ga_beq] at hw
          omega
  | invokespecial idx =>
    obtain rfl : ln = 3 := Nat.eq_of_beq_eq_true hln
    have hw : (if a = 1000 then ga_w1 ps (fun w => gw_ok w.2 (.methodLink own idx objectInit)) else if a < 998 then ga_w1 ps (fun w => if w.1 = 0 then gw_ok w.2 (.methodLink own idx (gm_i a).1) else gw_nk w.2 (.methodLinkNest own idx (gm_i a).1 "GravyRound")) && decide ((gm_i a).1.name = "<init>" ∧ ¬ (gm_me a).2.2.2.2.2.2.2 = 999) else true) = true := hwb
    by_cases h1000 : a = 1000
    · rw [if_pos h1000] at hw
      obtain ⟨w0, r0, -, hw0⟩ := ga_w1_ok hw
      have hbt : Nat.beq a 1000 = true := by rw [h1000]; rfl
      cases sk with
      | nil =>
        have ho2 : ga_if (Nat.beq a 1000) none (ga_inv gm_me call a true cm sm go nx al [] cs ss iv n h) = some os := ho
        rw [hbt] at ho2
        cases ho2
      | cons r t =>
        have ho2 : ga_if (Nat.beq a 1000) (ga_if (and (ga_ref r) (Nat.ble (ga_wd t) 8)) (go nx al t cs ss iv n h) none) (ga_inv gm_me call a true cm sm go nx al (r :: t) cs ss iv n h) = some os := ho
        rw [hbt, ga_if_t] at ho2
        simp only [ga_if_eq, Bool.and_eq_true, Nat.ble_eq] at ho2
        split at ho2
        · rename_i hq
          exact sx_stk S hcs hO okn hnx rfl ho2 (fun H locs ls st ad hsz hst => by
            obtain ⟨x, st0, rfl, h1, h2⟩ := ga_sr_cons hst
            have h3 : r % 8 = 3 := by simpa [ga_ref, ga_beq] using hq.1
            obtain ⟨y, -, rfl⟩ := (ga_vr_3 h3).mp h1
            refine ⟨st0, h2, fun w => W.objInit hx hb hown (hts _ (gw_mem hw0)) (hts _ (gw_mem (i := 149) (by decide +kernel))) (hts _ (gw_mem (i := 150) (by decide +kernel))) rfl (by rw [hml]; exact hsz) rfl hdg (by omega) ?_ w⟩
            rw [ga_sr_wd h2]
            show 2 * 0 + _ + 12 ≤ _
            omega)
        · cases ho2
    · have hn1 : ¬ a = 1000 := h1000
      have hbf : Nat.beq a 1000 = false := by
        cases hbb : Nat.beq a 1000 with
        | false => rfl
        | true => exact absurd (Nat.eq_of_beq_eq_true hbb) hn1
      have ho1 : ga_if (Nat.beq a 1000) _ (ga_inv gm_me call a true cm sm go nx al sk cs ss iv n h) = some os := ho
      rw [hbf] at ho1
      have ho2 : ga_inv gm_me call a true cm sm go nx al sk cs ss iv n h = some os := ho1
      rw [if_neg hn1] at hw
      by_cases hlt : a < 998
      · rw [if_pos hlt] at hw
        simp only [Bool.and_eq_true, decide_eq_true_eq] at hw
        obtain ⟨w0, r0, -, hw0⟩ := ga_w1_ok hw.1
        by_cases hk0 : w0.1 = 0
        · rw [if_pos hk0] at hw0
          exact gq_inv (kind := 1) (idx := idx) (virt := true) hx hb hml hown hts hK hn0 hold hRf hRl hRc hRs HC S hO okn hnx rfl (fun _ => Or.inr (Or.inl ⟨rfl, hts _ (gw_mem hw0)⟩)) (by simp) (by omega) (fun _ => hdg) (by omega) (fun _ q => absurd q (by decide)) (fun _ _ => hw.2.2) (fun _ q => absurd q (by decide)) (fun _ _ => hw.2.1) ho2
        · rw [if_neg hk0] at hw0
          exact gq_inv (kind := 2) (idx := idx) (virt := true) hx hb hml hown hts hK hn0 hold hRf hRl hRc hRs HC S hO okn hnx rfl (fun _ => Or.inr (Or.inr (Or.inl ⟨rfl, hold.2.2.1 _ (gw_nmem hw0)⟩))) (by simp) (by omega) (fun _ => hdg) (by omega) (fun _ q => absurd q (by decide)) (fun _ _ => hw.2.2) (fun _ q => absurd q (by decide)) (fun _ _ => hw.2.1) ho2
      · exact gq_inv (kind := 1) (idx := idx) (virt := true) hx hb hml hown hts hK hn0 hold hRf hRl hRc hRs HC S hO okn hnx rfl (fun q => absurd q hlt) (by simp) (by omega) (fun _ => hdg) (by omega) (fun q => absurd q hlt) (fun q => absurd q hlt) (fun q => absurd q hlt) (fun q => absurd q hlt) ho2
  | _ => exact absurd (show (none : Option (List ga_O)) = some os from ho) (by simp)
end GZq
def gq_TXA (l : Launch) (oa : Nat → Nat) (n0 : Nat) : Prop := ∀ (p : Program) (e : Env) (R : Room) (s : State) (m : MethodId) (args : Array Value) (below : List Frame) (meth : Method) (c : Code) (Q : State → Prop) (ρ : Nat → Int32) (L nL : Nat) (own : String) (cc : ByteArray),
  p.tables.exec = Jvm.exec → c.code = cc → c.maxLocals = nL → s.vm.findClass own = some m.cls → (∀ w ∈ gw_tbl, w.before args s = true) → n0 ≤ s.heap.size → gq_old ρ oa n0 L s → 11 ≤ R.frames → 1100 ≤ R.locals → ga_TX p l e R s m args below meth c Q oa n0 nL own cc
section GRq
variable {p : Program} {l : Launch} {e : Env} {R : Room} {s : State} {m : MethodId} {args : Array Value} {below : List Frame} {meth : Method} {c : Code} {Q : State → Prop}
variable {ρ : Nat → Int32} {oa : Nat → Nat} {ta : Nat → ClassId} {D : va_G} {n0 nL L d : Nat} {own : String} {cc : ByteArray} {ini : Bool} {cm sm : Nat} {code : List ga_E}
theorem gq_run_ok {call : Nat → List Nat → ga_I → Nat → ga_H → Option (List ga_A)} (stop : Nat) (hx : p.tables.exec = Jvm.exec) (hb : c.code = cc) (hml : c.maxLocals = nL) (hown : s.vm.findClass own = some m.cls) (hts : ∀ w ∈ gw_tbl, w.before args s = true) (hK : va_K D gm_cl (ga_tys ta) s) (hn0 : n0 ≤ s.heap.size) (hold : gq_old ρ oa n0 L s) (hinit : ini = true → meth.name = "<init>") (hρ6 : ρ 6 = ρ 0 &&& 63) (hρ7 : ρ 7 = 0 - ρ 1) (hL : L = 0)
    (hRf : d + 11 ≤ R.frames) (hRl : 100 * (d + 11) ≤ R.locals) (hRc : cm ≤ R.cells) (hRs : sm ≤ R.slots) (HC : gq_CS l ρ oa ta D n0 L d call) (HT : gq_TXA l oa n0)
    (okc : ga_okc own cc ini nL code) : ∀ fuel : Nat, ga_Sd p l e R s m args below meth c Q ρ oa ta D n0 nL own cc ini cm sm (gq_run gm_me gm_df L gm_tx call cm sm stop code fuel) := by
  have TX : ga_TX p l e R s m args below meth c Q oa n0 nL own cc := HT p e R s m args below meth c Q ρ L nL own cc hx hb hml hown hts hn0 hold (by omega) (by omega)
  intro fuel
  induction fuel with
  | zero => exact ⟨fun al sk cs ss iv n h os hq => (by cases hq), fun cds al sk cs ss iv n h os _ _ hq => (by cases hq)⟩
  | succ f ih =>
    refine ⟨fun al sk cs ss iv n h os hq => (by cases hq), fun cds al sk cs ss iv n h os okd hcs hq hO => ?_⟩
    cases cds with
    | nil => cases hq
    | cons ev nx =>
      have hq2 : ga_if (Nat.beq ev.1 stop) (some [(ev :: nx, al, sk, cs, ss, iv, n, h)]) (ga_if (ga_no6 ev sk) none (ga_step gm_me gm_df L gm_tx call cm sm code (gq_run gm_me gm_df L gm_tx call cm sm stop code f) ev nx al sk cs ss iv n h)) = some os := hq
      rw [ga_if_eq] at hq2
      split at hq2
      · have := Option.some.inj hq2
        exact hO (ev :: nx, al, sk, cs, ss, iv, n, h) (by rw [← this]; exact List.mem_singleton.mpr rfl) okd
      · cases h6 : ga_no6 ev sk with
        | true => rw [h6] at hq2; exact absurd hq2 (by show ¬ (none : Option (List ga_O)) = some os; simp)
        | false =>
          rw [h6] at hq2
          exact gq_step_ok hx hb hml hown hts hK hn0 hold hinit hρ6 hρ7 hL h6 hRf hRl hRc hRs HC TX okc okd ih hcs hO hq2
end GRq
set_option maxHeartbeats 2000000 in
theorem gq_call_ok {l : Launch} {ρ : Nat → Int32} {oa : Nat → Nat} {D : va_G} {n0 L : Nat} (fuel : Nat) (hρ6 : ρ 6 = ρ 0 &&& 63) (hρ7 : ρ 7 = 0 - ρ 1) (hL : L = 0) (HT : gq_TXA l oa n0) : ∀ (d : Nat) (ta : Nat → ClassId), gq_CS l ρ oa ta D n0 L d (gq_call gm_me gm_df L gm_tx fuel d) := by
  intro d
  induction d with
  | zero => intro ta k as iv n h os hq; cases hq
  | succ d ih =>
    intro ta k as iv n h os hq
    rcases hme : gm_me k with ⟨code, pad, nl, na, mc, ms, rc, ci⟩
    have hq2 : (match gm_me k with
      | (code, pad, nl, na, mc, ms, rc, _) => ga_pad pad (fun p => ga_lay as p (fun al => ga_if (and (Nat.blt k 313) (and (Nat.beq (List.length al) nl) (Nat.beq (List.length as) na)))
        (match gq_run gm_me gm_df L gm_tx (gq_call gm_me gm_df L gm_tx fuel d) mc ms 100000 code fuel code al [] 0 0 iv n h with
        | none => none
        | some os => ga_anss rc mc ms os) none))) = some os := hq
    rw [hme] at hq2
    simp only [ga_pad_eq, ga_lay_eq, ga_if_eq, Bool.and_eq_true, ga_beq, Nat.blt_eq] at hq2
    split at hq2
    · rename_i hc
      obtain ⟨hk184, hal, has⟩ := hc
      have hok := gk_all k hk184
      obtain ⟨f1, f2, f3, f4, f5, f6, f7, f8, f9⟩ := gm_facts hok
      have emc : gm_mc k = mc := by unfold gm_mc; rw [hme]
      have ems : gm_ms k = ms := by unfold gm_ms; rw [hme]
      have erc : gm_rc k = rc := by unfold gm_rc; rw [hme]
      have ena : gm_na k = na := by unfold gm_na; rw [hme]
      have hpc0 : ga_pc code = 0 := by have := gk_pc hk184; rw [hme] at this; exact this
      rw [hme] at f4 f9
      have f4' : nl = (gm_i k).2.2.1 := f4
      have f9' : ga_okc (gm_i k).1.cls (gm_i k).2.1 (decide ((gm_i k).1.name = "<init>")) (gm_i k).2.2.1 code := f9
      rw [erc] at f8
      refine ⟨hk184, by rw [ena]; exact has, fun ad => ?_⟩
      cases hrun : gq_run gm_me gm_df L gm_tx (gq_call gm_me gm_df L gm_tx fuel d) mc ms 100000 code fuel code (ga_ly as (List.replicate pad 7)) [] 0 0 iv n h with
      | none => rw [hrun] at hq2; cases hq2
      | some os0 =>
        rw [hrun] at hq2
        have hans := ga_anss_mem (show ga_anss rc mc ms os0 = some os from hq2)
        refine Met_ofWF (cc := (gm_i k).2.1) (maxL := (gm_i k).2.2.1) (ret := (gm_i k).2.2.2) f2 rfl ?_
        intro p e s m args below meth c s₁ B hml hv
        obtain ⟨⟨vs, rfl, hvs⟩, hin, ⟨ws, hw⟩, hK, hn0, hold⟩ := hv
        have hx := B.exec
        have hb := B.bytes
        have hr := B.returns
        have hts0 := atoms_spec (ws := gw_m k) B.pre
        have hts : ∀ w ∈ gw_tbl, w.before vs.toArray s = true := fun w hw => hts0 w (List.mem_cons_of_mem _ hw)
        have hown : s.vm.findClass (gm_i k).1.cls = some m.cls := findClass_of_methodNamed B.named
        have hlocks := B.notSynchronized
        have hin2 : meth.name = (gm_i k).1.name := (name_of_methodNamed B.named B.method).1
        have hlen := ga_ly_len (r := List.replicate pad 7) hvs
        rw [hal, List.length_replicate, f4'] at hlen
        have hle : (lg_sl vs).length ≤ (gm_i k).2.2.1 := by omega
        have hl := lv_entry vs (n := (gm_i k).2.2.1) hle
        rw [lg_entry_eq]
        generalize (lg_sl vs ++ List.replicate ((gm_i k).2.2.1 - (lg_sl vs).length) Slot.unset).toArray = ls at hl ⊢
        have hlr : ga_lr ρ oa ad (gm_i k).2.2.1 (ga_ly as (List.replicate pad 7)) ls := ⟨hl.1, hl.2.1, by rw [hal, f4'], fun i v hi h7 => by
          obtain ⟨x, g1, g2⟩ := ga_ly_at 0 hvs i v hi h7
          rw [Nat.zero_add] at g2
          exact ⟨x, g1, hl.2.2 _ g2⟩⟩
        have hS0 : va_S (fun q => n0 ≤ q) s.heap s.heap [] := va_S.rf
        have hK1 : va_K D gm_cl (ga_tys (ga_tn ta ad)) s := by rw [ga_tn_tys]; exact hK
        have hrk := gq_run_ok (p := p) (l := l) (e := e) (R := ga_rm (d + 1) k) (s := s) (m := m) (args := vs.toArray) (below := below) (meth := meth) (c := c) (Q := MQ below (ga_Qc ρ oa ta D n0 (gm_rc k) ad os) vs.toArray s (gm_mc k) (gm_ms k) (fun q => n0 ≤ q)) (ρ := ρ) (oa := oa) (ta := ga_tn ta ad) (D := D) (n0 := n0) (L := L) (d := d) (ini := decide ((gm_i k).1.name = "<init>")) (cm := mc) (sm := ms) 100000 hx hb hml hown hts hK1 hn0 hold (fun q => by rw [hin2]; exact of_decide_eq_true q) hρ6 hρ7 hL (by show d + 11 ≤ d + 1 + 10; omega) (by show 100 * (d + 11) ≤ 100 * (d + 1 + 10); omega) (by show mc ≤ gm_mc k; rw [emc]; exact Nat.le_refl _) (by show ms ≤ gm_ms k; rw [ems]; exact Nat.le_refl _) (ih (ga_tn ta ad)) HT f9' fuel
        have key := hrk.2 code (ga_ly as (List.replicate pad 7)) [] 0 0 iv n h os0 f9' ⟨Nat.zero_le _, Nat.zero_le _⟩ hrun (fun o ho hok2 => ?_)
        · have kk := key s.heap [] ls [] ⟨hin, hS0, ad, ws, ga_Ws_tn hw, hlr, trivial⟩
          rw [hpc0] at kk
          exact kk
        · obtain ⟨h7, hcs, hss, hmem⟩ := hans o ho
          obtain ⟨cds, al', sk', cs', ss', iv', n', h'⟩ := o
          cases cds with
          | nil => exact absurd rfl h7
          | cons ev nx =>
            obtain ⟨pc, ln, i, a, b, ps⟩ := ev
            have oe := hok2.1
            unfold ga_oe at oe
            simp only [Bool.and_eq_true, decide_eq_true_eq] at oe
            obtain ⟨⟨hdg, hln⟩, -⟩ := oe
            intro H locs ls' st hat
            obtain ⟨hi, hS, ad', ws', hw', hl', hs'⟩ := hat
            obtain ⟨hex, hw2⟩ := ga_Ws_bk hw.2.2.1.2 hw'
            refine W.widen (k := gm_mc k) (n := gm_ms k) (by rw [emc]; exact hcs) (by rw [ems]; exact hss) ?_
            show W p l e _ s m vs.toArray below meth c H locs (gm_mc k) (gm_ms k) _ (F0 m pc ls' st)
            rw [erc]
            have fin : ∀ (oc : Outcome) (t : State), t.heap = H → ((rc = 0 ∧ oc = .returned none) ∨ (¬ rc = 0 ∧ ∃ x, oc = .returned (some x) ∧ ga_vr ρ oa ad' (ga_ans rc ((pc, ln, i, a, b, ps) :: nx, al', sk', cs', ss', iv', n', h')) x)) → ga_Qc ρ oa ta D n0 rc ad os vs.toArray s oc t := by
              intro oc t ht hoc
              exact ⟨⟨_, hmem, hi, ad', ws', hex, by rw [ht]; exact hw2, hoc⟩, hS.F ht⟩
            cases i with
            | return_ =>
              obtain rfl : ln = 1 := Nat.eq_of_beq_eq_true hln
              have h7' : ¬ (match sk' with | [] => ga_if (Nat.beq rc 0) 0 7 | _ => 7) % 8 = 7 := h7
              cases sk' with
              | cons v r => exact absurd rfl h7'
              | nil =>
                simp only [ga_if_eq, ga_beq] at h7'
                split at h7'
                · rename_i hrc
                  subst hrc
                  obtain rfl := ga_sr_nil hs'
                  have hrn : (gm_i k).2.2.2 = none := by
                    split at f8
                    · rename_i q; exact q
                    all_goals first | (exact absurd f8 (by decide)) | cases f8
                  exact W.vret hx hb (hr.trans hrn) (fun t ht hW => fin _ t ht (Or.inl ⟨rfl, rfl⟩)) hS.2.2 hdg hlocks
                · exact absurd rfl h7'
            | ireturn =>
              obtain rfl : ln = 1 := Nat.eq_of_beq_eq_true hln
              cases sk' with
              | nil => exact absurd rfl h7
              | cons v r =>
                cases r with
                | cons w r => exact absurd rfl h7
                | nil =>
                  have e7 : ga_ans rc ((pc, 1, .ireturn, a, b, ps) :: nx, al', [v], cs', ss', iv', n', h') = ga_if (Nat.beq rc 1) (ga_if (ga_int v) v 7) (ga_if (Nat.beq rc 2) (ga_if (or (Nat.beq v 0) (Nat.beq v 8)) v 7) 7) := rfl
                  rw [e7] at h7 fin
                  simp only [ga_if_eq, ga_beq, Bool.or_eq_true] at h7 fin
                  obtain ⟨x, st1, rfl, hx1, hs1⟩ := ga_sr_cons hs'
                  obtain rfl := ga_sr_nil hs1
                  split at h7
                  · rename_i hrc
                    subst hrc
                    split at h7
                    · rename_i hv1
                      obtain ⟨y, rfl⟩ := ga_vr_int hv1 hx1
                      have hrn : (gm_i k).2.2.2 = some .int := by
                        split at f8
                        all_goals first | assumption | (exact absurd f8 (by decide)) | cases f8
                      refine W.iret hx hb (hr.trans hrn) (fun t ht hW => fin _ t ht (Or.inr ⟨by decide, _, rfl, ?_⟩)) hS.2.2 hdg hlocks
                      rw [if_pos rfl, if_pos hv1]
                      exact hx1
                    · exact absurd rfl h7
                  · rename_i hrc1
                    split at h7
                    · rename_i hrc
                      subst hrc
                      split at h7
                      · rename_i hv1
                        have hxx : ∃ y : Int32, x = .int y ∧ narrow .boolean (.int y) = .int y := by
                          rcases hv1 with rfl | rfl
                          · exact ⟨_, ((ga_vr_0 (by decide)).mp hx1).2, by decide +kernel⟩
                          · exact ⟨_, ((ga_vr_0 (by decide)).mp hx1).2, by decide +kernel⟩
                        obtain ⟨y, rfl, hy⟩ := hxx
                        have hrn : (gm_i k).2.2.2 = some .boolean := by
                          split at f8
                          all_goals first | assumption | (exact absurd f8 (by decide)) | cases f8
                        refine W.zret hx hb (hr.trans hrn) hy (fun t ht hW => fin _ t ht (Or.inr ⟨by decide, _, rfl, ?_⟩)) hS.2.2 hdg hlocks
                        rw [if_neg (by decide), if_pos rfl, if_pos hv1]
                        exact hx1
                      · exact absurd rfl h7
                    · exact absurd rfl h7
            | lreturn =>
              obtain rfl : ln = 1 := Nat.eq_of_beq_eq_true hln
              cases sk' with
              | nil => exact absurd rfl h7
              | cons v r =>
                cases r with
                | cons w r => exact absurd rfl h7
                | nil =>
                  have e7 : ga_ans rc ((pc, 1, .lreturn, a, b, ps) :: nx, al', [v], cs', ss', iv', n', h') = ga_if (and (Nat.beq rc 4) (ga_lng v)) v 7 := rfl
                  rw [e7] at h7 fin
                  simp only [ga_if_eq, ga_beq, Bool.and_eq_true] at h7 fin
                  obtain ⟨x, st1, rfl, hx1, hs1⟩ := ga_sr_cons hs'
                  obtain rfl := ga_sr_nil hs1
                  split at h7
                  · rename_i hrc
                    obtain ⟨rfl, hv1⟩ := hrc
                    obtain ⟨y, rfl⟩ := ga_vr_lng hv1 hx1
                    have hrn : (gm_i k).2.2.2 = some .long := by
                      split at f8
                      all_goals first | assumption | (exact absurd f8 (by decide)) | cases f8
                    refine W.lret hx hb (hr.trans hrn) (fun t ht hW => fin _ t ht (Or.inr ⟨by decide, _, rfl, ?_⟩)) hS.2.2 hdg hlocks
                    rw [if_pos ⟨rfl, hv1⟩]
                    exact hx1
                  · exact absurd rfl h7
            | areturn =>
              obtain rfl : ln = 1 := Nat.eq_of_beq_eq_true hln
              cases sk' with
              | nil => exact absurd rfl h7
              | cons v r =>
                cases r with
                | cons w r => exact absurd rfl h7
                | nil =>
                  have e7 : ga_ans rc ((pc, 1, .areturn, a, b, ps) :: nx, al', [v], cs', ss', iv', n', h') = ga_if (and (Nat.beq rc 5) (ga_ref v)) v 7 := rfl
                  rw [e7] at h7 fin
                  simp only [ga_if_eq, ga_beq, Bool.and_eq_true] at h7 fin
                  obtain ⟨x, st1, rfl, hx1, hs1⟩ := ga_sr_cons hs'
                  obtain rfl := ga_sr_nil hs1
                  split at h7
                  · rename_i hrc
                    obtain ⟨rfl, hv1⟩ := hrc
                    have h3 : v % 8 = 3 := by simpa [ga_ref, ga_beq] using hv1
                    obtain ⟨y, -, rfl⟩ := (ga_vr_3 h3).mp hx1
                    have hrn : ∃ nm, (gm_i k).2.2.2 = some (.object nm) := by
                      split at f8
                      all_goals first | (exact ⟨_, by assumption⟩) | (exact absurd f8 (by decide)) | cases f8
                    obtain ⟨nm, hrn⟩ := hrn
                    refine W.aret hx hb (hr.trans hrn) (Or.inl ⟨nm, rfl⟩) (Or.inr ⟨y, rfl⟩) (fun t ht hW => fin _ t ht (Or.inr ⟨by decide, _, rfl, ?_⟩)) hS.2.2 hdg hlocks
                    rw [if_pos ⟨rfl, hv1⟩]
                    exact hx1
                  · exact absurd rfl h7
            | _ => exact absurd rfl h7
    · cases hq2

theorem gq_all (l : Launch) (oa : Nat → Nat) (n0 : Nat) : gq_TXA l oa n0 := by
  intro p e R s m args below meth c Q ρ L nL own cc hx hb hml hown hts hn0 hold hRf hRl
  have hF : tx_F oa n0 s := hold.2.2.2.2.2
  refine ⟨fun H locs ls st cs ss idx pc hw hdg hsz hwd hc1 hc2 hS k => ?_, fun H locs ls st cs ss idx pc j hw hdg hsz hwd hc1 hc2 hj hS k => ?_⟩
  · exact tx_ci (va_runV (As := []) (rest := st) (C := "java/lang/String") (bytes := prog_18_method_54_code) (maxL := 1) (ret := some .int) (n := 0) ⟨hx, hb, hml, hown, hts⟩ (c_len l oa n0) ⟨callB_of 0 hts (tw_good 288 (by decide +kernel)) rfl rfl rfl (hts _ ti_str) (hts _ hw) ⟨by decide, by decide, by decide +kernel⟩ ⟨by show 2 + 1 ≤ R.frames; omega, by show 8 + (1 + 11) + 200 ≤ R.locals; omega⟩, hts _ (gw_mem (i := 286) (by decide +kernel)), hts _ (gw_mem (i := 287) (by decide +kernel))⟩ ⟨tx_blind, vk_recv (i := 0) hF.1 (by decide) hS, fun U hU hW => ⟨rfl, tx_F.tr hF hS hU hW⟩⟩ rfl rfl hsz rfl (by show 2 * 0 + _ ≤ 8; omega) hdg ⟨hc1, hc2⟩) k
  · exact tx_ci (va_runV (As := [.int (nI j)]) (rest := st) (C := "java/lang/String") (bytes := prog_18_method_56_code) (maxL := 2) (ret := some .char) (n := 1) ⟨hx, hb, hml, hown, hts⟩ (c_chr l oa n0 hj) ⟨callB_of 1 hts (tw_good 298 (by decide +kernel)) rfl rfl rfl (hts _ ti_str) (hts _ hw) ⟨by decide, by decide, by decide +kernel⟩ ⟨by show 4 + 1 ≤ R.frames; omega, by show 8 + (2 + 11) + 400 ≤ R.locals; omega⟩, hts _ (gw_mem (i := 296) (by decide +kernel)), hts _ (gw_mem (i := 297) (by decide +kernel))⟩ ⟨tx_blind, vk_recv (i := 0) hF.1 (by decide) hS, fun U hU hW => ⟨rfl, tx_F.tr hF hS hU hW⟩⟩ rfl rfl hsz rfl (by show 2 * 0 + _ ≤ 8; omega) hdg ⟨hc1, hc2⟩) k

