/-! a run of the machine is a run of the JVM; a call of depth d is right -/
def ga_TXA (l : Launch) (oa : Nat → Nat) (n0 : Nat) : Prop := ∀ (p : Program) (e : Env) (R : Room) (s : State) (m : MethodId) (args : Array Value) (below : List Frame) (meth : Method) (c : Code) (Q : State → Prop) (ρ : Nat → Int32) (L nL : Nat) (own : String) (cc : ByteArray),
  p.tables.exec = Jvm.exec → c.code = cc → c.maxLocals = nL → s.vm.findClass own = some m.cls → (∀ w ∈ gw_tbl, w.before args s = true) → n0 ≤ s.heap.size → ga_old ρ oa n0 L s → 11 ≤ R.frames → 1100 ≤ R.locals → ga_TX p l e R s m args below meth c Q oa n0 nL own cc
theorem Met_ofWF {l : Launch} {y : MethodName} {ws ws' : List Cond} {rm : Room} {Pc : Array Value → State → Prop} {Qc : Array Value → State → Outcome → State → Prop} {mc ms : Nat} {free : Addr → Prop} {cc : ByteArray} {maxL : Nat} {ret : Option FieldType}
    (hy : plainFor y = true) (hw : ws = Cond.code y cc maxL ret :: ws')
    (body : ∀ p e s m args below meth c s₁, BodyLoose p l y (headSpec ws rm) cc maxL ret e s m args below meth c s₁ → c.maxLocals = maxL → Pc args s →
      W p l e (headSpec ws rm).room s m args below meth c s.heap [] 0 0 (MQ below Qc args s mc ms free) (entryFrame m args maxL)) : Met l y ws rm Pc Qc mc ms free := by
  refine MetFree.of_bodySF (code := cc) (maxLocals := maxL) (ret := ret) hy ?_ ?_
  · intro args s m h hn
    obtain ⟨meth, c, h1, h2, h3, h4, h5, h6, -, -⟩ := Cond.code_spec hn (atoms_spec (ws := ws) h _ (by rw [hw]; exact List.mem_cons_self))
    exact ⟨meth, c, h1, h2, h3, h4, h5, h6⟩
  · intro p e s m args below meth c s₁ B hml hP _
    have hh0 : s₁.heap = s.heap := by rw [B.state]; rfl
    obtain ⟨t, a1, o, b1, b2, b3⟩ := body p e s m args below meth c s₁ B hml hP s₁ hh0 (Stand.of_body B)
    exact ⟨t, o, a1, b1, b2, ⟨b3.1, b3.2⟩⟩
section GR
variable {p : Program} {l : Launch} {e : Env} {R : Room} {s : State} {m : MethodId} {args : Array Value} {below : List Frame} {meth : Method} {c : Code} {Q : State → Prop}
variable {ρ : Nat → Int32} {oa : Nat → Nat} {ta : Nat → ClassId} {D : va_G} {n0 nL L d : Nat} {own : String} {cc : ByteArray} {ini : Bool} {cm sm : Nat} {code : List ga_E}
theorem ga_run_ok {call : Nat → List Nat → ga_I → Nat → ga_H → Option (List ga_A)} (stop : Nat) (hx : p.tables.exec = Jvm.exec) (hb : c.code = cc) (hml : c.maxLocals = nL) (hown : s.vm.findClass own = some m.cls) (hts : ∀ w ∈ gw_tbl, w.before args s = true) (hK : va_K D gm_cl (ga_tys ta) s) (hn0 : n0 ≤ s.heap.size) (hold : ga_old ρ oa n0 L s) (hinit : ini = true → meth.name = "<init>") (hρ6 : ρ 6 = ρ 0 &&& 63) (hρ7 : ρ 7 = 0 - ρ 1) (hL : L ≤ 6)
    (hRf : d + 11 ≤ R.frames) (hRl : 100 * (d + 11) ≤ R.locals) (hRc : cm ≤ R.cells) (hRs : sm ≤ R.slots) (HC : ga_CS l ρ oa ta D n0 L d call) (HT : ga_TXA l oa n0)
    (okc : ga_okc own cc ini nL code) : ∀ fuel : Nat, ga_Sd p l e R s m args below meth c Q ρ oa ta D n0 nL own cc ini cm sm (ga_run gm_me gm_df L gm_tx call cm sm stop code fuel) := by
  have TX : ga_TX p l e R s m args below meth c Q oa n0 nL own cc := HT p e R s m args below meth c Q ρ L nL own cc hx hb hml hown hts hn0 hold (by omega) (by omega)
  intro fuel
  induction fuel with
  | zero => exact ⟨fun al sk cs ss iv n h os hq => (by cases hq), fun cds al sk cs ss iv n h os _ _ hq => (by cases hq)⟩
  | succ f ih =>
    refine ⟨fun al sk cs ss iv n h os hq => (by cases hq), fun cds al sk cs ss iv n h os okd hcs hq hO => ?_⟩
    cases cds with
    | nil => cases hq
    | cons ev nx =>
      have hq2 : ga_if (Nat.beq ev.1 stop) (some [(ev :: nx, al, sk, cs, ss, iv, n, h)]) (ga_step gm_me gm_df L gm_tx call cm sm code (ga_run gm_me gm_df L gm_tx call cm sm stop code f) ev nx al sk cs ss iv n h) = some os := hq
      rw [ga_if_eq] at hq2
      split at hq2
      · have := Option.some.inj hq2
        exact hO (ev :: nx, al, sk, cs, ss, iv, n, h) (by rw [← this]; exact List.mem_singleton.mpr rfl) okd
      · exact ga_step_ok hx hb hml hown hts hK hn0 hold hinit hρ6 hρ7 hL hRf hRl hRc hRs HC TX okc okd ih hcs hO hq2
end GR
theorem ga_pad_eq {β : Type} : ∀ (m : Nat) (K : List Nat → β), ga_pad m K = K (List.replicate m 7)
  | 0, _ => rfl
  | m + 1, K => ga_pad_eq m (fun r => K (7 :: r))
/-- arguments laid into locals -/
def ga_ly : List Nat → List Nat → List Nat
  | [], r => r
  | v :: as, r => if v % 8 = 5 then v :: 7 :: ga_ly as r else v :: ga_ly as r
theorem ga_ly_cons (v : Nat) (as r : List Nat) : ga_ly (v :: as) r = if v % 8 = 5 then v :: 7 :: ga_ly as r else v :: ga_ly as r := rfl
theorem ga_lay_eq {β : Type} : ∀ (as r : List Nat) (K : List Nat → β), ga_lay as r K = K (ga_ly as r)
  | [], _, _ => rfl
  | v :: as, r, K => by
    have e : ga_lay (v :: as) r K = ga_lay as r (fun t => ga_if (Nat.beq (v % 8) 5) (K (v :: 7 :: t)) (K (v :: t))) := rfl
    rw [e, ga_lay_eq as r]
    simp only [ga_if_eq, ga_beq]
    rw [ga_ly_cons]
    split <;> rfl
theorem ga_ly_len {ρ : Nat → Int32} {oa : Nat → Nat} {ad : List Nat} {r : List Nat} : ∀ {as : List Nat} {vs : List Value}, ga_sr ρ oa ad as vs → (ga_ly as r).length = (lg_sl vs).length + r.length
  | [], [], _ => by simp [ga_ly, lg_sl]
  | v :: as, x :: vs, h => by
    have h1 := ga_vr_cat h.1
    have h2 := ga_ly_len (r := r) h.2
    have e : lg_sl (x :: vs) = (if x.category = 2 then [.val x, .second] else [.val x]) ++ lg_sl vs := rfl
    rw [ga_ly_cons, e, h1]
    by_cases h5 : v % 8 = 5
    · rw [if_pos h5, if_pos h5, if_pos rfl]
      simp only [List.length_cons, List.length_append, List.length_nil, h2]
      omega
    · rw [if_neg h5, if_neg h5, if_neg (by decide)]
      simp only [List.length_cons, List.length_append, List.length_nil, h2]
      omega
  | [], _ :: _, h => h.elim
  | _ :: _, [], h => h.elim
theorem ga_ly_at {ρ : Nat → Int32} {oa : Nat → Nat} {ad : List Nat} {m : Nat} : ∀ {as : List Nat} {vs : List Value} (k0 : Nat), ga_sr ρ oa ad as vs → ∀ (i v : Nat), (ga_ly as (List.replicate m 7))[i]? = some v → ¬ v % 8 = 7 → ∃ x, ga_vr ρ oa ad v x ∧ (k0 + i, x) ∈ lv_args k0 vs
  | [], [], k0, _, i, v, hi, h7 => by
    have h1 : (List.replicate m 7)[i]? = some v := hi
    rw [List.getElem?_replicate] at h1
    split at h1
    · cases h1; exact absurd rfl h7
    · cases h1
  | w :: as, x :: vs, k0, h, i, v, hi, h7 => by
    have h1 := ga_vr_cat h.1
    rw [ga_ly_cons] at hi
    have e : lv_args k0 (x :: vs) = (k0, x) :: lv_args (if x.category = 2 then k0 + 2 else k0 + 1) vs := rfl
    rw [e, h1]
    by_cases h5 : w % 8 = 5
    · rw [if_pos h5] at hi
      rw [if_pos h5, if_pos rfl]
      match i, hi with
      | 0, hi => cases hi; exact ⟨x, h.1, List.mem_cons_self⟩
      | 1, hi => cases hi; exact absurd rfl h7
      | i + 2, hi =>
        obtain ⟨y, g1, g2⟩ := ga_ly_at (k0 + 2) h.2 i v hi h7
        exact ⟨y, g1, List.mem_cons_of_mem _ (by rw [show k0 + (i + 2) = k0 + 2 + i by omega]; exact g2)⟩
    · rw [if_neg h5] at hi
      rw [if_neg h5, if_neg (by decide)]
      match i, hi with
      | 0, hi => cases hi; exact ⟨x, h.1, List.mem_cons_self⟩
      | i + 1, hi =>
        obtain ⟨y, g1, g2⟩ := ga_ly_at (k0 + 1) h.2 i v hi h7
        exact ⟨y, g1, List.mem_cons_of_mem _ (by rw [show k0 + (i + 1) = k0 + 1 + i by omega]; exact g2)⟩
  | [], _ :: _, _, h, _, _, _, _ => h.elim
  | _ :: _, [], _, h, _, _, _, _ => h.elim
theorem ga_anss_mem {rc mc ms : Nat} : ∀ {os0 : List ga_O} {os : List ga_A}, ga_anss rc mc ms os0 = some os → ∀ o ∈ os0, ¬ ga_ans rc o % 8 = 7 ∧ o.2.2.2.1 ≤ mc ∧ o.2.2.2.2.1 ≤ ms ∧ (ga_ans rc o, o.2.2.2.2.2) ∈ os
  | [], os, h, o, ho => by cases ho
  | x :: r, os, h, o, ho => by
    have h1 : ga_f (ga_ans rc x) (fun v => ga_if (or (Nat.beq (v % 8) 7) (not (and (Nat.ble x.2.2.2.1 mc) (Nat.ble x.2.2.2.2.1 ms)))) none (match ga_anss rc mc ms r with | none => none | some t => some ((v, x.2.2.2.2.2) :: t))) = some os := h
    rw [ga_f_eq, ga_if_eq] at h1
    split at h1
    · cases h1
    · rename_i hc
      simp only [Bool.or_eq_true, ga_beq, Bool.not_eq_true', Bool.and_eq_false_iff, not_or] at hc
      obtain ⟨c1, c2, c3⟩ := hc
      have d2 : x.2.2.2.1 ≤ mc := Nat.le_of_ble_eq_true (by simpa using c2)
      have d3 : x.2.2.2.2.1 ≤ ms := Nat.le_of_ble_eq_true (by simpa using c3)
      cases hr : ga_anss rc mc ms r with
      | none => rw [hr] at h1; cases h1
      | some t =>
        rw [hr] at h1
        have e := Option.some.inj h1
        rcases List.mem_cons.mp ho with rfl | ho
        · exact ⟨c1, d2, d3, by rw [← e]; exact List.mem_cons_self⟩
        · obtain ⟨q1, q2, q3, q4⟩ := ga_anss_mem hr o ho
          exact ⟨q1, q2, q3, by rw [← e]; exact List.mem_cons_of_mem _ q4⟩
/-- the addresses at a method's start, written into ta -/
def ga_tn (ta : Nat → ClassId) (ad : List Nat) : Nat → ClassId := fun k => if k = 1000 then ad.length else if 1000 < k then ad.getD (k - 1001) 0 else ta k
theorem ga_tn_lo {ta : Nat → ClassId} {ad : List Nat} {k : Nat} (h : k < 1000) : ga_tn ta ad k = ta k := by
  unfold ga_tn
  rw [if_neg (by omega), if_neg (by omega)]
theorem ga_tn_tys {ta : Nat → ClassId} {ad : List Nat} : ga_tys (ga_tn ta ad) = ga_tys ta := by
  unfold ga_tys
  rw [ga_tn_lo (by omega), ga_tn_lo (by omega), ga_tn_lo (by omega), ga_tn_lo (by omega), ga_tn_lo (by omega)]
theorem ga_cr_ta {ρ : Nat → Int32} {oa : Nat → Nat} {ta tb : Nat → ClassId} {ad : List Nat} {c : ga_C} {ev : va_E} (ht : ∀ k, k < 1000 → ta k = tb k) (h : ga_cr ρ oa ta ad c ev) : ga_cr ρ oa tb ad c ev := by
  rcases h with h | ⟨hk, f, h1, h2⟩ | ⟨hk, f, h1, h2⟩ | ⟨hk, f, h1, h2⟩
  · exact Or.inl h
  · exact Or.inr (Or.inl ⟨hk, f, by rw [← ht _ (by omega)]; exact h1, h2⟩)
  · exact Or.inr (Or.inr (Or.inl ⟨hk, f, by rw [← ht _ (by omega)]; exact h1, h2⟩))
  · exact Or.inr (Or.inr (Or.inr ⟨hk, f, by rw [← ht _ (by omega)]; exact h1, h2⟩))
theorem ga_Ws_tn {ρ : Nat → Int32} {oa : Nat → Nat} {ta : Nat → ClassId} {D : va_G} {n0 n : Nat} {h : ga_H} {ad : List Nat} {ws : va_W} {H : Heap} (hw : ga_Ws ρ oa ta D n0 n h ad ws H) : ga_Ws ρ oa (ga_tn ta ad) D n0 n h ad ws H := by
  obtain ⟨h1, h2, ⟨h3, h4⟩, h5, h6⟩ := hw
  refine ⟨h1, h2, ⟨h3, fun k hk => ?_⟩, h5, fun k hk => ?_⟩
  · have hk2 : k < ad.length := hk
    have e : ga_tn ta ad (1001 + k) = ad.getD k 0 := by
      unfold ga_tn
      rw [if_neg (by omega), if_pos (by omega), show 1001 + k - 1001 = k by omega]
    rw [e, List.getD_eq_getElem?_getD, List.getElem?_eq_getElem hk2]
    rfl
  · obtain ⟨a, ev, g1, g2⟩ := h6 k hk
    exact ⟨a, ev, g1, ga_cr_ta (fun k hk => (ga_tn_lo hk).symm) g2⟩
theorem ga_Ws_bk {ρ : Nat → Int32} {oa : Nat → Nat} {ta : Nat → ClassId} {D : va_G} {n0 n : Nat} {h : ga_H} {ad ad' : List Nat} {ws : va_W} {H : Heap} (hx : ga_xt ta ad) (hw : ga_Ws ρ oa (ga_tn ta ad) D n0 n h ad' ws H) : ga_ex ad ad' ∧ ga_Ws ρ oa ta D n0 n h ad' ws H := by
  obtain ⟨h1, h2, ⟨h3, h4⟩, h5, h6⟩ := hw
  have hex : ga_ex ad ad' := by
    intro k a hk
    have hl : k < ad.length := by
      rcases Nat.lt_or_ge k ad.length with z | z
      · exact z
      · rw [List.getElem?_eq_none z] at hk; cases hk
    have := h4 k hl
    have e : ga_tn ta ad (1001 + k) = ad.getD k 0 := by
      unfold ga_tn
      rw [if_neg (by omega), if_pos (by omega), show 1001 + k - 1001 = k by omega]
    rw [this, e, List.getD_eq_getElem?_getD, hk]
    rfl
  refine ⟨hex, h1, h2, ⟨h3, fun k hk => hex _ _ (hx k hk)⟩, h5, fun k hk => ?_⟩
  obtain ⟨a, ev, g1, g2⟩ := h6 k hk
  exact ⟨a, ev, g1, ga_cr_ta (fun k hk => ga_tn_lo hk) g2⟩
set_option maxHeartbeats 2000000 in
theorem ga_call_ok {l : Launch} {ρ : Nat → Int32} {oa : Nat → Nat} {D : va_G} {n0 L : Nat} (fuel : Nat) (hρ6 : ρ 6 = ρ 0 &&& 63) (hρ7 : ρ 7 = 0 - ρ 1) (hL : L ≤ 6) (HT : ga_TXA l oa n0) : ∀ (d : Nat) (ta : Nat → ClassId), ga_CS l ρ oa ta D n0 L d (ga_call gm_me gm_df L gm_tx fuel d) := by
  intro d
  induction d with
  | zero => intro ta k as iv n h os hq; cases hq
  | succ d ih =>
    intro ta k as iv n h os hq
    rcases hme : gm_me k with ⟨code, pad, nl, na, mc, ms, rc, ci⟩
    have hq2 : (match gm_me k with
      | (code, pad, nl, na, mc, ms, rc, _) => ga_pad pad (fun p => ga_lay as p (fun al => ga_if (and (Nat.blt k 313) (and (Nat.beq (List.length al) nl) (Nat.beq (List.length as) na)))
        (match ga_run gm_me gm_df L gm_tx (ga_call gm_me gm_df L gm_tx fuel d) mc ms 100000 code fuel code al [] 0 0 iv n h with
        | none => none
        | some os => ga_anss rc mc ms os) none))) = some os := hq
    rw [hme] at hq2
    simp only [ga_pad_eq, ga_lay_eq, ga_if_eq, Bool.and_eq_true, ga_beq, Nat.blt_eq] at hq2
    split at hq2
    · rename_i hc
      obtain ⟨hk184, hal, has⟩ := hc
      have hok := gk_all k hk184
      obtain ⟨f1, f2, f3, f4, f5, f6, f7, f8, f9⟩ := gm_facts hok
      have emc : gm_mc k = mc := by unfold gm_mc; rw [hme]
      have ems : gm_ms k = ms := by unfold gm_ms; rw [hme]
      have erc : gm_rc k = rc := by unfold gm_rc; rw [hme]
      have ena : gm_na k = na := by unfold gm_na; rw [hme]
      have hpc0 : ga_pc code = 0 := by have := gk_pc hk184; rw [hme] at this; exact this
      rw [hme] at f4 f9
      have f4' : nl = (gm_i k).2.2.1 := f4
      have f9' : ga_okc (gm_i k).1.cls (gm_i k).2.1 (decide ((gm_i k).1.name = "<init>")) (gm_i k).2.2.1 code := f9
      rw [erc] at f8
      refine ⟨hk184, by rw [ena]; exact has, fun ad => ?_⟩
      cases hrun : ga_run gm_me gm_df L gm_tx (ga_call gm_me gm_df L gm_tx fuel d) mc ms 100000 code fuel code (ga_ly as (List.replicate pad 7)) [] 0 0 iv n h with
      | none => rw [hrun] at hq2; cases hq2
      | some os0 =>
        rw [hrun] at hq2
        have hans := ga_anss_mem (show ga_anss rc mc ms os0 = some os from hq2)
        refine Met_ofWF (cc := (gm_i k).2.1) (maxL := (gm_i k).2.2.1) (ret := (gm_i k).2.2.2) f2 rfl ?_
        intro p e s m args below meth c s₁ B hml hv
        obtain ⟨⟨vs, rfl, hvs⟩, hin, ⟨ws, hw⟩, hK, hn0, hold⟩ := hv
        have hx := B.exec
        have hb := B.bytes
        have hr := B.returns
        have hts0 := atoms_spec (ws := gw_m k) B.pre
        have hts : ∀ w ∈ gw_tbl, w.before vs.toArray s = true := fun w hw => hts0 w (List.mem_cons_of_mem _ hw)
        have hown : s.vm.findClass (gm_i k).1.cls = some m.cls := findClass_of_methodNamed B.named
        have hlocks := B.notSynchronized
        have hin2 : meth.name = (gm_i k).1.name := (name_of_methodNamed B.named B.method).1
        have hlen := ga_ly_len (r := List.replicate pad 7) hvs
        rw [hal, List.length_replicate, f4'] at hlen
        have hle : (lg_sl vs).length ≤ (gm_i k).2.2.1 := by omega
        have hl := lv_entry vs (n := (gm_i k).2.2.1) hle
        rw [lg_entry_eq]
        generalize (lg_sl vs ++ List.replicate ((gm_i k).2.2.1 - (lg_sl vs).length) Slot.unset).toArray = ls at hl ⊢
        have hlr : ga_lr ρ oa ad (gm_i k).2.2.1 (ga_ly as (List.replicate pad 7)) ls := ⟨hl.1, hl.2.1, by rw [hal, f4'], fun i v hi h7 => by
          obtain ⟨x, g1, g2⟩ := ga_ly_at 0 hvs i v hi h7
          rw [Nat.zero_add] at g2
          exact ⟨x, g1, hl.2.2 _ g2⟩⟩
        have hS0 : va_S (fun q => n0 ≤ q) s.heap s.heap [] := va_S.rf
        have hK1 : va_K D gm_cl (ga_tys (ga_tn ta ad)) s := by rw [ga_tn_tys]; exact hK
        have hrk := ga_run_ok (p := p) (l := l) (e := e) (R := ga_rm (d + 1) k) (s := s) (m := m) (args := vs.toArray) (below := below) (meth := meth) (c := c) (Q := MQ below (ga_Qc ρ oa ta D n0 (gm_rc k) ad os) vs.toArray s (gm_mc k) (gm_ms k) (fun q => n0 ≤ q)) (ρ := ρ) (oa := oa) (ta := ga_tn ta ad) (D := D) (n0 := n0) (L := L) (d := d) (ini := decide ((gm_i k).1.name = "<init>")) (cm := mc) (sm := ms) 100000 hx hb hml hown hts hK1 hn0 hold (fun q => by rw [hin2]; exact of_decide_eq_true q) hρ6 hρ7 hL (by show d + 11 ≤ d + 1 + 10; omega) (by show 100 * (d + 11) ≤ 100 * (d + 1 + 10); omega) (by show mc ≤ gm_mc k; rw [emc]; exact Nat.le_refl _) (by show ms ≤ gm_ms k; rw [ems]; exact Nat.le_refl _) (ih (ga_tn ta ad)) HT f9' fuel
        have key := hrk.2 code (ga_ly as (List.replicate pad 7)) [] 0 0 iv n h os0 f9' ⟨Nat.zero_le _, Nat.zero_le _⟩ hrun (fun o ho hok2 => ?_)
        · have kk := key s.heap [] ls [] ⟨hin, hS0, ad, ws, ga_Ws_tn hw, hlr, trivial⟩
          rw [hpc0] at kk
          exact kk
        · obtain ⟨h7, hcs, hss, hmem⟩ := hans o ho
          obtain ⟨cds, al', sk', cs', ss', iv', n', h'⟩ := o
          cases cds with
          | nil => exact absurd rfl h7
          | cons ev nx =>
            obtain ⟨pc, ln, i, a, b, ps⟩ := ev
            have oe := hok2.1
            unfold ga_oe at oe
            simp only [Bool.and_eq_true, decide_eq_true_eq] at oe
            obtain ⟨⟨hdg, hln⟩, -⟩ := oe
            intro H locs ls' st hat
            obtain ⟨hi, hS, ad', ws', hw', hl', hs'⟩ := hat
            obtain ⟨hex, hw2⟩ := ga_Ws_bk hw.2.2.1.2 hw'
            refine W.widen (k := gm_mc k) (n := gm_ms k) (by rw [emc]; exact hcs) (by rw [ems]; exact hss) ?_
            show W p l e _ s m vs.toArray below meth c H locs (gm_mc k) (gm_ms k) _ (F0 m pc ls' st)
            rw [erc]
            have fin : ∀ (oc : Outcome) (t : State), t.heap = H → ((rc = 0 ∧ oc = .returned none) ∨ (¬ rc = 0 ∧ ∃ x, oc = .returned (some x) ∧ ga_vr ρ oa ad' (ga_ans rc ((pc, ln, i, a, b, ps) :: nx, al', sk', cs', ss', iv', n', h')) x)) → ga_Qc ρ oa ta D n0 rc ad os vs.toArray s oc t := by
              intro oc t ht hoc
              exact ⟨⟨_, hmem, hi, ad', ws', hex, by rw [ht]; exact hw2, hoc⟩, hS.F ht⟩
            cases i with
            | return_ =>
              obtain rfl : ln = 1 := Nat.eq_of_beq_eq_true hln
              have h7' : ¬ (match sk' with | [] => ga_if (Nat.beq rc 0) 0 7 | _ => 7) % 8 = 7 := h7
              cases sk' with
              | cons v r => exact absurd rfl h7'
              | nil =>
                simp only [ga_if_eq, ga_beq] at h7'
                split at h7'
                · rename_i hrc
                  subst hrc
                  obtain rfl := ga_sr_nil hs'
                  have hrn : (gm_i k).2.2.2 = none := by
                    split at f8
                    · rename_i q; exact q
                    all_goals first | (exact absurd f8 (by decide)) | cases f8
                  exact W.vret hx hb (hr.trans hrn) (fun t ht hW => fin _ t ht (Or.inl ⟨rfl, rfl⟩)) hS.2.2 hdg hlocks
                · exact absurd rfl h7'
            | ireturn =>
              obtain rfl : ln = 1 := Nat.eq_of_beq_eq_true hln
              cases sk' with
              | nil => exact absurd rfl h7
              | cons v r =>
                cases r with
                | cons w r => exact absurd rfl h7
                | nil =>
                  have e7 : ga_ans rc ((pc, 1, .ireturn, a, b, ps) :: nx, al', [v], cs', ss', iv', n', h') = ga_if (Nat.beq rc 1) (ga_if (ga_int v) v 7) (ga_if (Nat.beq rc 2) (ga_if (or (Nat.beq v 0) (Nat.beq v 8)) v 7) 7) := rfl
                  rw [e7] at h7 fin
                  simp only [ga_if_eq, ga_beq, Bool.or_eq_true] at h7 fin
                  obtain ⟨x, st1, rfl, hx1, hs1⟩ := ga_sr_cons hs'
                  obtain rfl := ga_sr_nil hs1
                  split at h7
                  · rename_i hrc
                    subst hrc
                    split at h7
                    · rename_i hv1
                      obtain ⟨y, rfl⟩ := ga_vr_int hv1 hx1
                      have hrn : (gm_i k).2.2.2 = some .int := by
                        split at f8
                        all_goals first | assumption | (exact absurd f8 (by decide)) | cases f8
                      refine W.iret hx hb (hr.trans hrn) (fun t ht hW => fin _ t ht (Or.inr ⟨by decide, _, rfl, ?_⟩)) hS.2.2 hdg hlocks
                      rw [if_pos rfl, if_pos hv1]
                      exact hx1
                    · exact absurd rfl h7
                  · rename_i hrc1
                    split at h7
                    · rename_i hrc
                      subst hrc
                      split at h7
                      · rename_i hv1
                        have hxx : ∃ y : Int32, x = .int y ∧ narrow .boolean (.int y) = .int y := by
                          rcases hv1 with rfl | rfl
                          · exact ⟨_, ((ga_vr_0 (by decide)).mp hx1).2, by decide +kernel⟩
                          · exact ⟨_, ((ga_vr_0 (by decide)).mp hx1).2, by decide +kernel⟩
                        obtain ⟨y, rfl, hy⟩ := hxx
                        have hrn : (gm_i k).2.2.2 = some .boolean := by
                          split at f8
                          all_goals first | assumption | (exact absurd f8 (by decide)) | cases f8
                        refine W.zret hx hb (hr.trans hrn) hy (fun t ht hW => fin _ t ht (Or.inr ⟨by decide, _, rfl, ?_⟩)) hS.2.2 hdg hlocks
                        rw [if_neg (by decide), if_pos rfl, if_pos hv1]
                        exact hx1
                      · exact absurd rfl h7
                    · exact absurd rfl h7
            | lreturn =>
              obtain rfl : ln = 1 := Nat.eq_of_beq_eq_true hln
              cases sk' with
              | nil => exact absurd rfl h7
              | cons v r =>
                cases r with
                | cons w r => exact absurd rfl h7
                | nil =>
                  have e7 : ga_ans rc ((pc, 1, .lreturn, a, b, ps) :: nx, al', [v], cs', ss', iv', n', h') = ga_if (and (Nat.beq rc 4) (ga_lng v)) v 7 := rfl
                  rw [e7] at h7 fin
                  simp only [ga_if_eq, ga_beq, Bool.and_eq_true] at h7 fin
                  obtain ⟨x, st1, rfl, hx1, hs1⟩ := ga_sr_cons hs'
                  obtain rfl := ga_sr_nil hs1
                  split at h7
                  · rename_i hrc
                    obtain ⟨rfl, hv1⟩ := hrc
                    obtain ⟨y, rfl⟩ := ga_vr_lng hv1 hx1
                    have hrn : (gm_i k).2.2.2 = some .long := by
                      split at f8
                      all_goals first | assumption | (exact absurd f8 (by decide)) | cases f8
                    refine W.lret hx hb (hr.trans hrn) (fun t ht hW => fin _ t ht (Or.inr ⟨by decide, _, rfl, ?_⟩)) hS.2.2 hdg hlocks
                    rw [if_pos ⟨rfl, hv1⟩]
                    exact hx1
                  · exact absurd rfl h7
            | areturn =>
              obtain rfl : ln = 1 := Nat.eq_of_beq_eq_true hln
              cases sk' with
              | nil => exact absurd rfl h7
              | cons v r =>
                cases r with
                | cons w r => exact absurd rfl h7
                | nil =>
                  have e7 : ga_ans rc ((pc, 1, .areturn, a, b, ps) :: nx, al', [v], cs', ss', iv', n', h') = ga_if (and (Nat.beq rc 5) (ga_ref v)) v 7 := rfl
                  rw [e7] at h7 fin
                  simp only [ga_if_eq, ga_beq, Bool.and_eq_true] at h7 fin
                  obtain ⟨x, st1, rfl, hx1, hs1⟩ := ga_sr_cons hs'
                  obtain rfl := ga_sr_nil hs1
                  split at h7
                  · rename_i hrc
                    obtain ⟨rfl, hv1⟩ := hrc
                    have h3 : v % 8 = 3 := by simpa [ga_ref, ga_beq] using hv1
                    obtain ⟨y, -, rfl⟩ := (ga_vr_3 h3).mp hx1
                    have hrn : ∃ nm, (gm_i k).2.2.2 = some (.object nm) := by
                      split at f8
                      all_goals first | (exact ⟨_, by assumption⟩) | (exact absurd f8 (by decide)) | cases f8
                    obtain ⟨nm, hrn⟩ := hrn
                    refine W.aret hx hb (hr.trans hrn) (Or.inl ⟨nm, rfl⟩) (Or.inr ⟨y, rfl⟩) (fun t ht hW => fin _ t ht (Or.inr ⟨by decide, _, rfl, ?_⟩)) hS.2.2 hdg hlocks
                    rw [if_pos ⟨rfl, hv1⟩]
                    exact hx1
                  · exact absurd rfl h7
            | _ => exact absurd rfl h7
    · cases hq2
