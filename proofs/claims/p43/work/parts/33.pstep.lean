/-! the step theorem of the plain machine: fields, copies, calls, branches -/
section PY
variable {p : Program} {l : Launch} {e : Env} {R : Room} {s : State} {m : MethodId} {args : Array Value} {below : List Frame} {meth : Method} {c : Code} {Q : State → Prop}
variable {oa : Nat → Nat} {ta : Nat → ClassId} {D : va_G} {n0 nL d nc ns : Nat} {ad : List Nat} {sh : Nat → gp_T} {old : State → Prop} {own : String} {cc : ByteArray} {ini : Bool} {pc : Nat} {al sk : List gp_V} {σ : gp_S} {C : gp_K} {G : gp_G}
theorem gp_getx {a b idx : Nat} {q : vw_C} (hx : p.tables.exec = Jvm.exec) (hb : c.code = cc) (hown : s.vm.findClass own = some m.cls) (hts : ∀ w ∈ gw_tbl, w.before args s = true) (hK : va_K D gm_cl (ga_tys ta) s) (HG : ∀ pc al sk σ, G pc al sk σ → gp_Go p l e R s m args below meth c Q oa ta D n0 nL ad sh nc ns pc al sk σ)
    (hdg : decode cc pc = .ok (.getfield idx, 3)) (hq : gm_cl[a]? = some q) (hbl : b < q.2.2) (hlk : (Cond.fieldLink own idx (q.2.1 b).1 (q.2.1 b).2.1 (q.2.1 b).2.2.1).before args s = true ∨ (Cond.fieldLinkNest own idx (q.2.1 b).1 (q.2.1 b).2.1 (q.2.1 b).2.2.1 "GravyRound").before args s = true)
    (h : gp_get sh a b (fun sk => G (pc + 3) al sk σ) sk σ) : gp_Go p l e R s m args below meth c Q oa ta D n0 nL ad sh nc ns pc al sk σ := by
  intro H locs ls st hat
  obtain ⟨hS, ws, hw, hl, hs⟩ := hat
  unfold gp_get at h
  split at h
  · rename_i r t
    obtain ⟨h3, hkd, hlt, h⟩ := h
    have hg := gn_all a q hq
    have hci : a < 100 := hg.2.2.2.2.2.1
    obtain ⟨vr, t2, rfl, g1, hs2⟩ := gp_sr_cons hs
    obtain ⟨a1, ev, rfl, he, hct⟩ := gp_Wr_at hw h3 g1 (by omega)
    obtain ⟨x, x1, x2⟩ := gp_rd_ok hct hlt
    have hev : ∃ fs : List Value, ev = .inr (a, fs) := by
      have h1 := hct.1
      unfold gp_shp at h1
      rw [hkd] at h1
      rcases h1 with ⟨-, fs, q, -⟩ | ⟨q, -⟩ | ⟨q, -⟩ | ⟨q, -⟩
      · exact ⟨fs, q⟩
      · omega
      · omega
      · omega
    obtain ⟨fs, rfl⟩ := hev
    have hv : fs[b]? = some x := x1
    have w := HG _ _ _ _ h H locs ls (x :: t2) ⟨hS, ws, hw, hl, x2, hs2⟩
    obtain ⟨CN, T, N⟩ := q
    rcases hlk with hlk | hlk
    · exact va_get hx hb hts hg.1 hown hK hw.1 _ he hq b hbl hlk (fun _ q => q) hv hdg w
    · exact va_getN hx hb hts hg.1 hown hK hw.1 _ he hq b hbl hlk (fun _ q => q) hv hdg w
  · exact h.elim
theorem gp_putx {a b idx tc : Nat} {q : vw_C} (hx : p.tables.exec = Jvm.exec) (hb : c.code = cc) (hown : s.vm.findClass own = some m.cls) (hts : ∀ w ∈ gw_tbl, w.before args s = true) (hK : va_K D gm_cl (ga_tys ta) s) (HG : ∀ pc al sk σ, G pc al sk σ → gp_Go p l e R s m args below meth c Q oa ta D n0 nL ad sh nc ns pc al sk σ)
    (hdg : decode cc pc = .ok (.putfield idx, 3)) (hq : gm_cl[a]? = some q) (hbl : b < q.2.2) (hlk : (Cond.fieldLink own idx (q.2.1 b).1 (q.2.1 b).2.1 (q.2.1 b).2.2.1).before args s = true) (htc : ga_tc tc (q.2.1 b).2.2.1 = true) (hfin : (q.2.1 b).2.2.2 = false ∨ (meth.name = "<init>" ∧ (q.2.1 b).1 = own))
    (h : gp_put sh a b tc (fun sk σ => G (pc + 3) al sk σ) sk σ) : gp_Go p l e R s m args below meth c Q oa ta D n0 nL ad sh nc ns pc al sk σ := by
  intro H locs ls st hat
  obtain ⟨hS, ws, hw, hl, hs⟩ := hat
  unfold gp_put at h
  split at h
  · rename_i v r t
    obtain ⟨h3, hkd, hlt, h⟩ := h
    have hg := gn_all a q hq
    have hci : a < 100 := hg.2.2.2.2.2.1
    obtain ⟨vv, t1, rfl, g0, hs1⟩ := gp_sr_cons hs
    obtain ⟨vr, t2, rfl, g1, hs2⟩ := gp_sr_cons hs1
    obtain ⟨a1, ev, rfl, he, hct⟩ := gp_Wr_at hw h3 g1 (by omega)
    have hev : ∃ fs : List Value, ev = .inr (a, fs) ∧ fs.length = (sh (r / 8)).2.1 := by
      have h1 := hct.1
      unfold gp_shp at h1
      rw [hkd] at h1
      rcases h1 with ⟨-, fs, q, q2⟩ | ⟨q, -⟩ | ⟨q, -⟩ | ⟨q, -⟩
      · exact ⟨fs, q, q2⟩
      · omega
      · omega
      · omega
    obtain ⟨fs, rfl, hlen⟩ := hev
    have hsl : ∀ x i, gp_sl (.inr (a, fs.set b x)) i = if i = b then some x else gp_sl (.inr (a, fs)) i := by
      intro x i
      show (fs.set b x)[i]? = if i = b then some x else fs[i]?
      rw [List.getElem?_set]
      by_cases hib : b = i
      · rw [if_pos hib, if_pos (by omega), if_pos hib.symm]
      · rw [if_neg hib, if_neg (fun z => hib z.symm)]
    have hshp : ∀ x, gp_shp ta (sh (r / 8)) (.inr (a, fs.set b x)) := by
      intro x
      unfold gp_shp
      rw [hkd]
      exact Or.inl ⟨hci, _, rfl, by rw [List.length_set]; exact hlen⟩
    obtain ⟨CN, T, N⟩ := q
    obtain ⟨ty, hty, -⟩ := hg.2.2.1
    have fin : ∀ {tyf : FieldType} {x : Value}, parseFieldDescriptor (T b).2.2.1 = some tyf → narrow tyf x = x → fits tyf x = true → (∀ (H1 : Heap) (locs1 : List Loc), va_P D gm_cl (ws.set (r / 8) (a1, .inr (a, fs.set b x))) H1 → va_D (fun q => n0 ≤ q) (ws.set (r / 8) (a1, .inr (a, fs.set b x))) → va_S (fun q => n0 ≤ q) s.heap H1 locs1 → W p l e R s m args below meth c H1 locs1 nc ns Q (F0 m (pc + 3) ls t2)) → W p l e R s m args below meth c H locs nc ns Q (F0 m pc ls (x :: .ref a1 :: t2)) := by
      intro tyf x f1 f2 f3 kk
      rcases hfin with hfin | ⟨hini, hdecl⟩
      · exact va_put hx hb hts hg.1 ty hty hg.2.1 hown hK hw.1 hw.2.1 hS _ he hq b hbl hlk (fun _ q => q) hfin f1 f2 f3 (by omega) hdg kk
      · cases hfb : (T b).2.2.2 with
        | false => exact va_put hx hb hts hg.1 ty hty hg.2.1 hown hK hw.1 hw.2.1 hS _ he hq b hbl hlk (fun _ q => q) hfb f1 f2 f3 (by omega) hdg kk
        | true => exact va_putF hx hb hts hg.1 ty hty hg.2.1 hown hK hw.1 hw.2.1 hS _ he hq b hbl hlk (fun _ q => q) hfb hini hdecl f1 f2 f3 (by omega) hdg kk
    cases v with
    | inl x =>
      obtain ⟨hpk, htcx, h⟩ := h
      obtain ⟨X, hX, rfl⟩ := gp_vr_i g0
      have hfit : ∃ tyf, parseFieldDescriptor (T b).2.2.1 = some tyf ∧ narrow tyf (.int X) = .int X ∧ fits tyf (.int X) = true := by
        unfold ga_tc at htc
        split at htc
        · rename_i hd
          exact ⟨_, hd, rfl, rfl⟩
        · rename_i hd
          rw [ga_beq] at htc
          rcases htcx with q | ⟨-, hX01⟩
          · omega
          · have h01 : X = 0 ∨ X = 1 := by
              rcases hX01 with q | q
              · exact Or.inl (Int32.toInt_inj.mp (by rw [hX, q]; rfl))
              · exact Or.inr (Int32.toInt_inj.mp (by rw [hX, q]; rfl))
            rcases h01 with rfl | rfl
            · exact ⟨_, hd, by decide +kernel, by decide +kernel⟩
            · exact ⟨_, hd, by decide +kernel, by decide +kernel⟩
        all_goals first | (rw [ga_beq] at htc; omega) | cases htc
      obtain ⟨tyf, f1, f2, f3⟩ := hfit
      refine fin f1 f2 f3 (fun H1 locs1 hP1 hD1 hS1 => ?_)
      exact HG _ _ _ _ h H1 locs1 ls t2 ⟨hS1, _, gp_Wr_set hw he (fun k hk j => gp_up_ne hk) hP1 hD1 (gp_ct_set hct (hshp _) (hsl _) hpk ⟨X, hX, rfl⟩), hl, hs2⟩
    | inr c5 =>
      obtain ⟨h5, hpk, rfl, h⟩ := h
      obtain ⟨hL, rfl⟩ := gp_vr_l h5 g0
      have hfit : ∃ tyf, parseFieldDescriptor (T b).2.2.1 = some tyf ∧ narrow tyf (.long (lN (c5 / 8))) = .long (lN (c5 / 8)) ∧ fits tyf (.long (lN (c5 / 8))) = true := by
        unfold ga_tc at htc
        split at htc
        all_goals first | (rename_i hd; exact ⟨_, hd, rfl, rfl⟩) | (rw [ga_beq] at htc; omega) | cases htc
      obtain ⟨tyf, f1, f2, f3⟩ := hfit
      refine fin f1 f2 f3 (fun H1 locs1 hP1 hD1 hS1 => ?_)
      exact HG _ _ _ _ h H1 locs1 ls t2 ⟨hS1, _, gp_Wr_set hw he (fun k hk j => gp_up_ne hk) hP1 hD1 (gp_ct_setl hct (hshp _) hL (hsl _) hpk), hl, hs2⟩
  · exact h.elim
theorem gp_brx {cnd : Jvm.ClassFile.Cond} {b z : Nat} {P : Int32 → Int32 → Prop} (HG : ∀ pc al sk σ, G pc al sk σ → gp_Go p l e R s m args below meth c Q oa ta D n0 nL ad sh nc ns pc al sk σ) (hP : ∀ X Y : Int32, P X Y ↔ gp_cnd cnd X.toInt Y.toInt)
    (hrow : ∀ (H : Heap) (locs : List Loc) (ls : Array Slot) (st : List Value) (X Y : Int32), (P X Y → W p l e R s m args below meth c H locs nc ns Q (F0 m b ls st)) → (¬ P X Y → W p l e R s m args below meth c H locs nc ns Q (F0 m z ls st)) → W p l e R s m args below meth c H locs nc ns Q (F0 m pc ls (.int Y :: .int X :: st)))
    (h : match sk with | .inl y :: .inl x :: r => (gp_cnd cnd x y → G b al r σ) ∧ (¬ gp_cnd cnd x y → G z al r σ) | _ => False) : gp_Go p l e R s m args below meth c Q oa ta D n0 nL ad sh nc ns pc al sk σ := by
  intro H locs ls st hat
  obtain ⟨hS, ws, hw, hl, hs⟩ := hat
  split at h
  · rename_i y x r
    obtain ⟨vy, t1, rfl, ⟨Y, hy, rfl⟩, hs1⟩ := gp_sr_cons hs
    obtain ⟨vx, t2, rfl, ⟨X, hx, rfl⟩, hs2⟩ := gp_sr_cons hs1
    subst hx; subst hy
    exact hrow H locs ls t2 X Y (fun q => HG _ _ _ _ (h.1 ((hP X Y).mp q)) H locs ls _ ⟨hS, ws, hw, hl, hs2⟩) (fun q => HG _ _ _ _ (h.2 (fun w => q ((hP X Y).mpr w))) H locs ls _ ⟨hS, ws, hw, hl, hs2⟩)
  · exact h.elim
theorem gp_br0x {cnd : Jvm.ClassFile.Cond} {b z : Nat} {P : Int32 → Prop} (HG : ∀ pc al sk σ, G pc al sk σ → gp_Go p l e R s m args below meth c Q oa ta D n0 nL ad sh nc ns pc al sk σ) (hP : ∀ X : Int32, P X ↔ gp_cnd cnd X.toInt 0)
    (hrow : ∀ (H : Heap) (locs : List Loc) (ls : Array Slot) (st : List Value) (X : Int32), (P X → W p l e R s m args below meth c H locs nc ns Q (F0 m b ls st)) → (¬ P X → W p l e R s m args below meth c H locs nc ns Q (F0 m z ls st)) → W p l e R s m args below meth c H locs nc ns Q (F0 m pc ls (.int X :: st)))
    (h : match sk with | .inl x :: r => (gp_cnd cnd x 0 → G b al r σ) ∧ (¬ gp_cnd cnd x 0 → G z al r σ) | _ => False) : gp_Go p l e R s m args below meth c Q oa ta D n0 nL ad sh nc ns pc al sk σ := by
  intro H locs ls st hat
  obtain ⟨hS, ws, hw, hl, hs⟩ := hat
  split at h
  · rename_i x r
    obtain ⟨vx, t2, rfl, ⟨X, hx, rfl⟩, hs2⟩ := gp_sr_cons hs
    subst hx
    exact hrow H locs ls t2 X (fun q => HG _ _ _ _ (h.1 ((hP X).mp q)) H locs ls _ ⟨hS, ws, hw, hl, hs2⟩) (fun q => HG _ _ _ _ (h.2 (fun w => q ((hP X).mpr w))) H locs ls _ ⟨hS, ws, hw, hl, hs2⟩)
  · exact h.elim
theorem gp_swx {ps : List (Nat × Nat)} {b : Nat} (HG : ∀ pc al sk σ, G pc al sk σ → gp_Go p l e R s m args below meth c Q oa ta D n0 nL ad sh nc ns pc al sk σ) (hps : ∀ q ∈ ps, q.1 / 8 < 4294967296)
    (hin : ∀ (H : Heap) (locs : List Loc) (ls : Array Slot) (st : List Value) (X : Int32) (q : Nat × Nat), q ∈ ps → X = nI (q.1 / 8) → W p l e R s m args below meth c H locs nc ns Q (F0 m q.2 ls st) → W p l e R s m args below meth c H locs nc ns Q (F0 m pc ls (.int X :: st)))
    (hout : ∀ (H : Heap) (locs : List Loc) (ls : Array Slot) (st : List Value) (X : Int32), (∀ q ∈ ps, ¬ X = nI (q.1 / 8)) → W p l e R s m args below meth c H locs nc ns Q (F0 m b ls st) → W p l e R s m args below meth c H locs nc ns Q (F0 m pc ls (.int X :: st)))
    (h : match sk with | .inl v :: r => (∃ q ∈ ps, v = gp_li q.1 ∧ G q.2 al r σ) ∨ ((∀ q ∈ ps, ¬ v = gp_li q.1) ∧ G b al r σ) | _ => False) : gp_Go p l e R s m args below meth c Q oa ta D n0 nL ad sh nc ns pc al sk σ := by
  intro H locs ls st hat
  obtain ⟨hS, ws, hw, hl, hs⟩ := hat
  split at h
  · rename_i x r
    obtain ⟨vx, t2, rfl, ⟨X, hx, rfl⟩, hs2⟩ := gp_sr_cons hs
    subst hx
    rcases h with ⟨q, hq1, hq2, h⟩ | ⟨hn, h⟩
    · exact hin H locs ls t2 X q hq1 (Int32.toInt_inj.mp (by rw [hq2, gp_li_i (hps q hq1)])) (HG _ _ _ _ h H locs ls _ ⟨hS, ws, hw, hl, hs2⟩)
    · exact hout H locs ls t2 X (fun q hq1 hq2 => hn q hq1 (by rw [gp_li_i (hps q hq1), hq2])) (HG _ _ _ _ h H locs ls _ ⟨hS, ws, hw, hl, hs2⟩)
  · exact h.elim
theorem gp_callx {z rc : Nat} {as t : List gp_V} {Φ : gp_F} (hΦ : ∀ v σ', Φ v σ' → gp_Go p l e R s m args below meth c Q oa ta D n0 nL ad sh nc ns z al (gp_ret rc v t) σ')
    (hrun : ∀ (H : Heap) (locs : List Loc) (ls : Array Slot) (ws : va_W) (vs st : List Value), va_S (fun q => n0 ≤ q) s.heap H locs → gp_Wr oa ta D n0 ad sh σ ws H → ls.size = nL → gp_sr oa ad as vs → gp_sr oa ad t st →
      va_Run p l e R s m args below meth c H locs nc ns 0 0 (F0 m pc ls (vs.reverse ++ st)) st (gp_Qc oa ta D n0 sh rc ad Φ vs.toArray) (fun q => n0 ≤ q)) (hz : z = pc + 3) : gp_Go p l e R s m args below meth c Q oa ta D n0 nL ad sh nc ns pc al (as.reverse ++ t) σ := by
  intro H locs ls st hat
  obtain ⟨hS, ws, hw, hl, hs⟩ := hat
  obtain ⟨x, y, rfl, hx, hy⟩ := gp_sr_app hs
  have hx2 := gp_sr_rev hx
  rw [List.reverse_reverse] at hx2
  have hr := hrun H locs ls ws x.reverse y hS hw hl.1 hx2 hy
  rw [List.reverse_reverse] at hr
  intro T hT X
  obtain ⟨v, st₀, t', T', L, h0, X', hL, e1, e2, ⟨⟨o, σ', ho, ⟨ws', hw'⟩, hret⟩, hzz, hk⟩, st⟩ := hr T hT X
  rw [h0] at hzz hk
  have hS' : va_S (fun q => n0 ≤ q) s.heap T'.heap (locs ++ L) := by
    refine ⟨Nat.le_trans hS.1 (by rw [e1]; exact hzz), fun q h1 h2 => ?_, fun q hq => ?_⟩
    · rw [e1, hk q (Nat.lt_of_lt_of_le h1 hS.1) h2]
      exact hS.2.1 q h1 h2
    · rcases List.mem_append.mp hq with h | h
      · exact hS.2.2 q h
      · exact hL q h
  have hstk : gp_sr oa ad (gp_ret rc o t) (v.toList ++ y) := by
    unfold gp_ret
    rcases hret with ⟨h1, h2⟩ | ⟨h1, z, h2, h3⟩
    · rw [if_pos h1]
      cases h2
      exact hy
    · rw [if_neg h1]
      cases h2
      exact ⟨h3, hy⟩
  have kk := hΦ o σ' ho T'.heap (locs ++ L) ls (v.toList ++ y) ⟨hS', ws', by rw [e1]; exact hw', hl, hstk⟩
  obtain ⟨t2, a1, b1⟩ := kk T' rfl X'
  refine ⟨t2, st t2 ?_, b1⟩
  rw [hz] at a1
  exact a1
/-- a call of kind 0 (virtual) or 3 (static) -/
theorem gp_invx {k idx kind : Nat} {virt : Bool} (hx : p.tables.exec = Jvm.exec) (hb : c.code = cc) (hml : c.maxLocals = nL) (hown : s.vm.findClass own = some m.cls) (hts : ∀ w ∈ gw_tbl, w.before args s = true) (hK : va_K D gm_cl (ga_tys ta) s) (hn0 : n0 ≤ s.heap.size) (hold : old s) (HO : gp_OL n0 old)
    (hRf : d + 11 ≤ R.frames) (hRl : 100 * (d + 11) ≤ R.locals) (hft : nc ≤ R.cells ∧ ns ≤ R.slots) (HC : gp_CS l oa ta D n0 old sh ad d C) (HG : ∀ pc al sk σ, G pc al sk σ → gp_Go p l e R s m args below meth c Q oa ta D n0 nL ad sh nc ns pc al sk σ)
    (hlk : k < 998 → Cond.methodLink own idx (gm_i k).1 ∈ gw_tbl) (hvk : virt = true ↔ kind = 0)
    (hd0 : kind = 0 → decode cc pc = .ok (.invokevirtual idx, 3)) (hd3 : kind = 3 → decode cc pc = .ok (.invokestatic idx, 3)) (hkk : kind = 0 ∨ kind = 3)
    (hst3 : k < 998 → kind = 3 → gm_ci k = 999) (hns3 : k < 998 → kind = 0 → ¬ gm_ci k = 999) (hnm0 : k < 998 → kind = 0 → ¬ (gm_i k).1.name = "<init>")
    (h : gp_inv sh C k virt (fun sk σ => G (pc + 3) al sk σ) sk σ) : gp_Go p l e R s m args below meth c Q oa ta D n0 nL ad sh nc ns pc al sk σ := by
  obtain ⟨as, t, rfl, hlen, hwd, hvr, h⟩ := h
  obtain ⟨hk313, hna, hMk⟩ := HC k as σ _ h
  have hok := gk_all k hk313
  obtain ⟨f1, f2, f3, f4, f5, f6, f7, f8, f9⟩ := gm_facts hok
  have hlk' := hts _ (hlk (by omega))
  have hroom : (gp_rm d).frames + 1 ≤ R.frames ∧ 8 + ((gm_i k).2.2.1 + 11) + (gp_rm d).locals ≤ R.locals := by
    show d + 10 + 1 ≤ R.frames ∧ 8 + ((gm_i k).2.2.1 + 11) + 100 * (d + 10) ≤ R.locals
    omega
  refine gp_callx (rc := gm_rc k) (fun v σ' q => HG _ _ _ _ q) (fun H locs ls ws vs st hS hw hsz hvs hst => ?_) rfl
  have hPU : ∀ U : State, U.heap = H → s.WarmedH U.vm → gp_Pc oa ta D n0 old sh ad as σ vs.toArray U := by
    intro U hU hWm
    exact ⟨⟨vs, rfl, hvs⟩, ⟨ws, by rw [hU]; exact hw⟩, va_K.moved hWm.alike hK, by rw [hU]; exact Nat.le_trans hn0 hS.1, HO.2.1 s U H locs hold hS hn0 hU hWm⟩
  have hwd2 : 2 * (F0 m pc ls (vs.reverse ++ st)).monitorRoom + (st.map fun v => v.category).sum ≤ 8 := by
    rw [gp_sr_wd hst]
    show 2 * 0 + _ ≤ 8
    omega
  have hini : (Cond.initialized (gm_i k).1.cls).before args s = true := hts _ f1
  have hfit : nc + 0 ≤ R.cells ∧ ns + 0 ≤ R.slots := hft
  have hlen2 := gp_sr_len hvs
  rcases hkk with hk0 | hk3
  · obtain ⟨r, as', rfl, h3, hrc, hci⟩ := hvr (hvk.mpr hk0)
    obtain ⟨f71, f72, f73, f74, f75⟩ := f7 (hns3 (by omega) hk0)
    obtain ⟨q, hq, hq1⟩ : ∃ q, gm_cl[gm_ci k]? = some q ∧ q.1 = (gm_i k).1.cls := by
      cases hqq : gm_cl[gm_ci k]? with
      | none => rw [hqq] at f73; cases f73
      | some q => rw [hqq] at f73; exact ⟨q, rfl, Option.some.inj f73⟩
    obtain ⟨x, vs', rfl, hxr, hvs'⟩ := gp_sr_cons hvs
    obtain ⟨b, eb, rfl, heb, hct⟩ := gp_Wr_at hw h3 hxr (by omega)
    have hev : ∃ fs, eb = .inr (gm_ci k, fs) := by
      have h1 := hct.1
      unfold gp_shp at h1
      rw [hrc] at h1
      rcases h1 with ⟨-, fs, e1, -⟩ | ⟨q1, -⟩ | ⟨q1, -⟩ | ⟨q1, -⟩
      · exact ⟨fs, e1⟩
      · omega
      · omega
      · omega
    obtain ⟨fs, rfl⟩ := hev
    have hrecv := va_recv hK hw.1 hq heb
    rw [hq1] at hrecv
    have hparm : (parseMethodDescriptor (gm_i k).1.desc).map (fun d => d.parameters.length) = some (gm_na k - 1) := by
      cases hpd : parseMethodDescriptor (gm_i k).1.desc with
      | none => rw [hpd] at f72; cases f72
      | some sg =>
        rw [hpd] at f72
        have := Option.some.inj f72
        show some sg.parameters.length = some (gm_na k - 1)
        have h2 : sg.parameters.length + 1 = gm_na k := this
        rw [← h2]; rfl
    have hlen3 : vs'.length = gm_na k - 1 := by
      have := gp_sr_len hvs'
      simp only [List.length_cons] at hlen
      omega
    have hstk : (F0 m pc ls ((Value.ref b :: vs').reverse ++ st)).stack = vs'.reverse ++ .ref b :: st := by
      show (Value.ref b :: vs').reverse ++ st = vs'.reverse ++ .ref b :: st
      rw [List.reverse_cons, List.append_assoc]; rfl
    exact va_runV (bytes := (gm_i k).2.1) (maxL := (gm_i k).2.2.1) (ret := (gm_i k).2.2.2) (n := gm_na k - 1) (C := (gm_i k).1.cls) ⟨hx, hb, hml, hown, hts⟩ hMk ⟨callB_of (gm_na k - 1) hts (gw_code hok) rfl rfl rfl hini hlk' ⟨f3.1, f3.2, hparm⟩ hroom, hts _ f71, hts _ (f75 (hnm0 (by omega) hk0))⟩ ⟨gp_Pc_blind HO, hrecv, hPU⟩ rfl hlen3 hsz hstk hwd2 (hd0 hk0) hfit
  · obtain ⟨f61, f62⟩ := f6 (hst3 (by omega) hk3)
    exact va_runS (bytes := (gm_i k).2.1) (maxL := (gm_i k).2.2.1) (ret := (gm_i k).2.2.2) (n := gm_na k) ⟨hx, hb, hml, hown, hts⟩ hMk ⟨callB_of (gm_na k) hts (gw_code hok) rfl rfl rfl hini hlk' ⟨f3.1, f3.2, by rw [f62]⟩ hroom, hts _ f61⟩ ⟨gp_Pc_blind HO, hPU⟩ rfl (by rw [← hlen2]; exact hlen) hsz rfl hwd2 (hd3 hk3) hfit
end PY
