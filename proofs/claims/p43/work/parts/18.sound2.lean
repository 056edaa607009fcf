theorem ga_nth_some {vs : List Nat} {b v : Nat} (hv : ga_nth 7 vs b = v) (h7 : ¬ v % 8 = 7) : vs[b]? = some v := by
  rw [ga_nth_eq, List.getD_eq_getElem?_getD] at hv
  cases hq : vs[b]? with
  | none => rw [hq] at hv; exact absurd (by rw [← hv]; rfl) h7
  | some w => rw [hq] at hv; exact congrArg some hv
section GT
variable {p : Program} {l : Launch} {e : Env} {R : Room} {s : State} {m : MethodId} {args : Array Value} {below : List Frame} {meth : Method} {c : Code} {Q : State → Prop}
variable {ρ : Nat → Int32} {oa : Nat → Nat} {ta : Nat → ClassId} {D : va_G} {n0 nL : Nat} {own : String} {cc : ByteArray} {ini : Bool} {cm sm : Nat} {pc z : Nat} {nx cds code : List ga_E} {al sk : List Nat} {cs ss : Nat} {iv : ga_I} {n : Nat} {h : ga_H} {go : ga_G} {os : List ga_O}
theorem sx_get {a b idx : Nat} {q : vw_C} (hx : p.tables.exec = Jvm.exec) (hb : c.code = cc) (hown : s.vm.findClass own = some m.cls) (hts : ∀ w ∈ gw_tbl, w.before args s = true) (hK : va_K D gm_cl (ga_tys ta) s) (S : ga_Sd p l e R s m args below meth c Q ρ oa ta D n0 nL own cc ini cm sm go) (hcs : cs ≤ cm ∧ ss ≤ sm) (hO : ∀ o ∈ os, ga_GoO p l e R s m args below meth c Q ρ oa ta D n0 nL own cc ini o) (okn : ga_okc own cc ini nL nx) (hnx : nx = [] ∨ ga_pc nx = pc + 3) (hc : ga_pc cds = pc)
    (hdg : decode cc pc = .ok (.getfield idx, 3)) (hq : gm_cl[a]? = some q) (hbl : b < q.2.2) (hlk : (Cond.fieldLink own idx (q.2.1 b).1 (q.2.1 b).2.1 (q.2.1 b).2.2.1).before args s = true ∨ (Cond.fieldLinkNest own idx (q.2.1 b).1 (q.2.1 b).2.1 (q.2.1 b).2.2.1 "GravyRound").before args s = true)
    (ho : ga_get a b go nx al sk cs ss iv n h = some os) : ga_Go p l e R s m args below meth c Q ρ oa ta D n0 nL cds al sk cs ss iv n h := by
  unfold ga_get at ho
  split at ho
  · rename_i r t
    rw [ga_if_eq] at ho
    split at ho
    · rename_i hr
      rcases hcell : ga_hg h (r / 8) with ⟨c1, mm, vs⟩
      rw [hcell] at ho
      simp only [ga_if_eq, ga_beq] at ho
      split at ho
      · rename_i hca
        subst hca
        obtain ⟨h7, ho⟩ := ga_p_eq ho
        obtain ⟨e1, k⟩ := sd_nx S hcs hO okn hnx ho
        have hg := gn_all c1 q hq
        obtain ⟨C, T, N⟩ := q
        refine gg_get hc hr hcell hg.2.2.2.2.2.1 (ga_nth_some rfl h7) (fun H locs ls st ws q0 a1 fs x hP he hv w => ?_) k
        rw [e1] at w
        rcases hlk with hlk | hlk
        · exact va_get hx hb hts hg.1 hown hK hP q0 he hq b hbl hlk (fun _ q => q) hv hdg w
        · exact va_getN hx hb hts hg.1 hown hK hP q0 he hq b hbl hlk (fun _ q => q) hv hdg w
      · cases ho
    · cases ho
  · cases ho
theorem sx_put {a b idx : Nat} {q : vw_C} {ps : List (Nat × Nat)} (hx : p.tables.exec = Jvm.exec) (hb : c.code = cc) (hown : s.vm.findClass own = some m.cls) (hts : ∀ w ∈ gw_tbl, w.before args s = true) (hK : va_K D gm_cl (ga_tys ta) s) (S : ga_Sd p l e R s m args below meth c Q ρ oa ta D n0 nL own cc ini cm sm go) (hcs : cs ≤ cm ∧ ss ≤ sm) (hO : ∀ o ∈ os, ga_GoO p l e R s m args below meth c Q ρ oa ta D n0 nL own cc ini o) (okn : ga_okc own cc ini nL nx) (hnx : nx = [] ∨ ga_pc nx = pc + 3) (hc : ga_pc cds = pc)
    (hdg : decode cc pc = .ok (.putfield idx, 3)) (hq : gm_cl[a]? = some q) (hbl : b < q.2.2) (hlk : (Cond.fieldLink own idx (q.2.1 b).1 (q.2.1 b).2.1 (q.2.1 b).2.2.1).before args s = true) (htc : ∀ w ∈ ps.head?, ga_tc w.1 (q.2.1 b).2.2.1 = true) (hfin : (q.2.1 b).2.2.2 = false ∨ (meth.name = "<init>" ∧ (q.2.1 b).1 = own))
    (ho : ga_ptf a b ps go nx al sk cs ss iv n h = some os) : ga_Go p l e R s m args below meth c Q ρ oa ta D n0 nL cds al sk cs ss iv n h := by
  unfold ga_ptf at ho
  split at ho
  · rename_i v r t w0 ps'
    rw [ga_if_eq] at ho
    split at ho
    · rename_i hr
      simp only [Bool.and_eq_true] at hr
      rcases hcell : ga_hg h (r / 8) with ⟨c1, mm, vs⟩
      rw [hcell] at ho
      simp only [ga_if_eq, ga_beq, Bool.and_eq_true, Nat.blt_eq] at ho
      split at ho
      · rename_i hca
        obtain ⟨hca, hvs⟩ := hca
        subst hca
        rw [ga_set_eq] at ho
        obtain ⟨h', g1, g2⟩ := ga_hs_at h (r / 8) (c1, mm, vs.set b v) (fun h => go nx al t cs ss iv n h)
        rw [g1] at ho
        obtain ⟨e1, k⟩ := sd_nx S hcs hO okn hnx ho
        have hg := gn_all c1 q hq
        have htc0 := htc w0 (by simp)
        obtain ⟨C, T, N⟩ := q
        obtain ⟨ty, hty, -⟩ := hg.2.2.1
        · refine gg_put hc hr.1 hcell hg.2.2.2.2.2.1 hvs g2 (fun H locs ls st ad ws q0 a1 fs x hP hD hS he hl hv kk => ?_) k
          have hfit : ∃ tyf, parseFieldDescriptor (T b).2.2.1 = some tyf ∧ narrow tyf x = x ∧ fits tyf x = true := by
            have hf := hr.2
            unfold ga_tc at htc0
            unfold ga_fit at hf
            simp only [ga_if_eq, ga_beq] at hf
            split at htc0
            · rename_i hd
              rw [ga_beq] at htc0
              rw [if_pos htc0] at hf
              obtain ⟨X, rfl⟩ := ga_vr_int hf hv
              exact ⟨_, hd, rfl, rfl⟩
            · rename_i hd
              rw [ga_beq] at htc0
              rw [if_neg (by omega), if_pos htc0] at hf
              simp only [Bool.or_eq_true, ga_beq] at hf
              rcases hf with rfl | rfl
              · have := ((ga_vr_0 (by decide)).mp hv).2
                subst this
                exact ⟨_, hd, by decide +kernel, by decide +kernel⟩
              · have := ((ga_vr_0 (by decide)).mp hv).2
                subst this
                exact ⟨_, hd, by decide +kernel, by decide +kernel⟩
            · rename_i hd
              rw [ga_beq] at htc0
              rw [if_neg (by omega), if_neg (by omega), if_pos htc0] at hf
              have h5 : v % 8 = 5 := by simpa [ga_lng, ga_beq] using hf
              obtain ⟨-, rfl⟩ := (ga_vr_5 h5).mp hv
              exact ⟨_, hd, rfl, rfl⟩
            · rename_i hd
              rw [ga_beq] at htc0
              rw [if_neg (by omega), if_neg (by omega), if_neg (by omega)] at hf
              have h3 : v % 8 = 3 := by simpa [ga_ref, ga_beq] using hf
              obtain ⟨y, -, rfl⟩ := (ga_vr_3 h3).mp hv
              exact ⟨_, hd, rfl, rfl⟩
            · rename_i hd
              rw [ga_beq] at htc0
              rw [if_neg (by omega), if_neg (by omega), if_neg (by omega)] at hf
              have h3 : v % 8 = 3 := by simpa [ga_ref, ga_beq] using hf
              obtain ⟨y, -, rfl⟩ := (ga_vr_3 h3).mp hv
              exact ⟨_, hd, rfl, rfl⟩
            · cases htc0
          obtain ⟨tyf, f1, f2, f3⟩ := hfit
          rw [e1] at kk
          rcases hfin with hfin | ⟨hfin, hdecl⟩
          · exact va_put hx hb hts hg.1 ty hty hg.2.1 hown hK hP hD hS q0 he hq b hbl hlk (fun _ q => q) hfin f1 f2 f3 hl hdg kk
          · cases hfb : (T b).2.2.2 with
            | false => exact va_put hx hb hts hg.1 ty hty hg.2.1 hown hK hP hD hS q0 he hq b hbl hlk (fun _ q => q) hfb f1 f2 f3 hl hdg kk
            | true => exact va_putF hx hb hts hg.1 ty hty hg.2.1 hown hK hP hD hS q0 he hq b hbl hlk (fun _ q => q) hfb hfin hdecl f1 f2 f3 hl hdg kk
      · cases ho
    · cases ho
  · cases ho
end GT
