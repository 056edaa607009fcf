theorem ga_cpy_eq {β : Type} (d : Nat) (a : List Nat) (sp dp : Nat) : ∀ (m : Nat) (b : List Nat) (K : List Nat → β), ∃ b' : List Nat, ga_cpy d a sp dp m b K = K b' ∧ ∀ j, b'.getD j d = if dp ≤ j ∧ j < dp + m then a.getD (sp + (j - dp)) d else b.getD j d := by
  intro m
  induction m with
  | zero => exact fun b K => ⟨b, rfl, fun j => by rw [if_neg (by omega)]⟩
  | succ m ih =>
    intro b K
    have e : ga_cpy d a sp dp (m + 1) b K = ga_f (ga_nth d a (sp + m)) (fun v => ga_if (Nat.beq v (ga_nth d b (dp + m))) (ga_cpy d a sp dp m b K) (ga_put d b (dp + m) v (fun b => ga_cpy d a sp dp m b K))) := rfl
    rw [e, ga_f_eq]
    simp only [ga_if_eq, ga_beq, ga_nth_eq]
    split
    · rename_i hq
      obtain ⟨b', h1, h2⟩ := ih b K
      refine ⟨b', h1, fun j => ?_⟩
      rw [h2 j]
      by_cases hj : j = dp + m
      · subst hj
        rw [if_neg (by omega), if_pos (by omega), ← hq]
        congr 1
        omega
      · by_cases hk : dp ≤ j ∧ j < dp + m
        · rw [if_pos hk, if_pos (by omega)]
        · rw [if_neg hk, if_neg (by omega)]
    · obtain ⟨b1, g1, g2⟩ := ga_put_eq d b (dp + m) (a.getD (sp + m) d) (fun b => ga_cpy d a sp dp m b K)
      obtain ⟨b', h1, h2⟩ := ih b1 K
      refine ⟨b', g1.trans h1, fun j => ?_⟩
      rw [h2 j]
      by_cases hj : j = dp + m
      · subst hj
        rw [if_neg (by omega), if_pos (by omega), g2, if_pos rfl]
        congr 1
        omega
      · by_cases hk : dp ≤ j ∧ j < dp + m
        · rw [if_pos hk, if_pos (by omega)]
        · rw [if_neg hk, if_neg (by omega), g2, if_neg hj]
section GJ
variable {p : Program} {l : Launch} {e : Env} {R : Room} {s : State} {m : MethodId} {args : Array Value} {below : List Frame} {meth : Method} {c : Code} {Q : State → Prop}
variable {ρ : Nat → Int32} {oa : Nat → Nat} {ta : Nat → ClassId} {D : va_G} {n0 nL : Nat} {cc : ByteArray} {pc : Nat} {nx cds : List ga_E} {al sk : List Nat} {cs ss : Nat} {iv : ga_I} {n : Nat} {h h' : ga_H}
/-- a store in an array of ints, bytes or booleans: w is what comes there of v -/
theorem gg_asti {kind i r j mm v w : Nat} {vs vs' t : List Nat} (hc : ga_pc cds = pc) (hi0 : ga_sm iv i % 8 = 0) (hj : ga_sm iv i / 8 = j) (hr : ga_ref r = true) (hcell : ga_hg h (r / 8) = (kind, mm, vs)) (hk : kind = 100 ∨ kind = 101 ∨ kind = 104) (hjm : j < mm)
    (hvs : ∀ q, vs'.getD q 0 = if q = j then w else vs.getD q 0)
    (hh : ∀ q, (q = r / 8 → ga_hg h' q = (kind, mm, vs') ∨ (ga_hg h' q).1 = 999) ∧ (¬ q = r / 8 → ga_hg h' q = ga_hg h q))
    (hrow : ∀ (H : Heap) (locs : List Loc) (ls : Array Slot) (st : List Value) (ad : List Nat) (ws : va_W) (q0 a : Nat) (f : Nat → Int32) (x : Value), va_P D gm_cl ws H → va_D (fun q => n0 ≤ q) ws → va_S (fun q => n0 ≤ q) s.heap H locs → ws[q0]? = some (a, .inl (ta kind, mm, .inl f)) → ga_vr ρ oa ad v x →
      ∃ z : Int32, ga_vr ρ oa ad w (.int z) ∧ ((∀ (H1 : Heap) (locs1 : List Loc), va_P D gm_cl (ws.set q0 (a, .inl (ta kind, mm, .inl (upd f j z)))) H1 → va_D (fun q => n0 ≤ q) (ws.set q0 (a, .inl (ta kind, mm, .inl (upd f j z)))) → va_S (fun q => n0 ≤ q) s.heap H1 locs1 → W p l e R s m args below meth c H1 locs1 cs ss Q (F0 m (ga_pc nx) ls st)) → W p l e R s m args below meth c H locs cs ss Q (F0 m pc ls (x :: .int (nI j) :: .ref a :: st))))
    (k : ga_Go p l e R s m args below meth c Q ρ oa ta D n0 nL nx al t cs ss iv n h') : ga_Go p l e R s m args below meth c Q ρ oa ta D n0 nL cds al (v :: i :: r :: t) cs ss iv n h := by
  intro H locs ls st hat
  obtain ⟨hi, hS, ad, ws, hw, hl, hs⟩ := hat
  obtain ⟨x, st0, rfl, hx, hs0⟩ := ga_sr_cons hs
  obtain ⟨y, st1, rfl, hy, hs1⟩ := ga_sr_cons hs0
  obtain ⟨z, st2, rfl, hz, hs2⟩ := ga_sr_cons hs1
  have e1 := ga_lit_of hi hi0 hy
  rw [hj] at e1
  subst e1
  obtain ⟨a, e, rfl, he, hcr⟩ := ga_Ws_at hw hr hz (by rw [hcell]; show ¬ kind = 999; omega)
  rw [hcell] at hcr
  rcases hcr with ⟨q, -⟩ | ⟨-, f, rfl, h3⟩ | ⟨q, -⟩ | ⟨q, -⟩
  · exact absurd q (show ¬ kind < 100 by omega)
  · obtain ⟨z, g1, g2⟩ := hrow H locs ls st2 ad ws (r / 8) a f x hw.1 hw.2.1 hS he hx
    rw [hc]
    refine g2 (fun H1 locs1 hP1 hD1 hS1 => k H1 locs1 ls st2 ⟨hi, hS1, ad, _, ga_Ws_set hw he hP1 hD1 (Or.inr (Or.inl ⟨hk, upd f j z, rfl, fun q hq => ?_⟩)) hh, hl, hs2⟩)
    show ga_vr ρ oa ad (vs'.getD q 0) (.int (upd f j z q))
    rw [hvs q]
    unfold upd
    by_cases hqj : q = j
    · rw [if_pos hqj, if_pos hqj]; exact g1
    · rw [if_neg hqj, if_neg hqj]; exact h3 q hq
  · exact absurd q (show ¬ kind = 102 by omega)
  · exact absurd q (show ¬ kind = 103 by omega)
theorem gg_astl {i r j mm v : Nat} {vs vs' t : List Nat} (hc : ga_pc cds = pc) (hi0 : ga_sm iv i % 8 = 0) (hj : ga_sm iv i / 8 = j) (hr : ga_ref r = true) (hcell : ga_hg h (r / 8) = (102, mm, vs)) (hjm : j < mm) (hv5 : v % 8 = 5)
    (hvs : ∀ q, vs'.getD q 5 = if q = j then v else vs.getD q 5)
    (hh : ∀ q, (q = r / 8 → ga_hg h' q = (102, mm, vs') ∨ (ga_hg h' q).1 = 999) ∧ (¬ q = r / 8 → ga_hg h' q = ga_hg h q))
    (hrow : ∀ (H : Heap) (locs : List Loc) (ls : Array Slot) (st : List Value) (ws : va_W) (q0 a : Nat) (f : Nat → Int64) (x : Int64), va_P D gm_cl ws H → va_D (fun q => n0 ≤ q) ws → va_S (fun q => n0 ≤ q) s.heap H locs → ws[q0]? = some (a, .inl (ta 102, mm, .inr (.inl f))) →
      (∀ (H1 : Heap) (locs1 : List Loc), va_P D gm_cl (ws.set q0 (a, .inl (ta 102, mm, .inr (.inl (vp_updL f j x))))) H1 → va_D (fun q => n0 ≤ q) (ws.set q0 (a, .inl (ta 102, mm, .inr (.inl (vp_updL f j x))))) → va_S (fun q => n0 ≤ q) s.heap H1 locs1 → W p l e R s m args below meth c H1 locs1 cs ss Q (F0 m (ga_pc nx) ls st)) → W p l e R s m args below meth c H locs cs ss Q (F0 m pc ls (.long x :: .int (nI j) :: .ref a :: st)))
    (k : ga_Go p l e R s m args below meth c Q ρ oa ta D n0 nL nx al t cs ss iv n h') : ga_Go p l e R s m args below meth c Q ρ oa ta D n0 nL cds al (v :: i :: r :: t) cs ss iv n h := by
  intro H locs ls st hat
  obtain ⟨hi, hS, ad, ws, hw, hl, hs⟩ := hat
  obtain ⟨x, st0, rfl, hx, hs0⟩ := ga_sr_cons hs
  obtain ⟨y, st1, rfl, hy, hs1⟩ := ga_sr_cons hs0
  obtain ⟨z, st2, rfl, hz, hs2⟩ := ga_sr_cons hs1
  have e1 := ga_lit_of hi hi0 hy
  rw [hj] at e1
  subst e1
  obtain ⟨-, rfl⟩ := (ga_vr_5 hv5).mp hx
  obtain ⟨a, e, rfl, he, hcr⟩ := ga_Ws_at hw hr hz (by rw [hcell]; show ¬ 102 = 999; omega)
  rw [hcell] at hcr
  rcases hcr with ⟨q, -⟩ | ⟨q, -⟩ | ⟨-, f, rfl, h3⟩ | ⟨q, -⟩
  · exact absurd q (show ¬ 102 < 100 by omega)
  · exact absurd q (show ¬ (102 = 100 ∨ 102 = 101 ∨ 102 = 104) by omega)
  · rw [hc]
    refine hrow H locs ls st2 ws (r / 8) a f _ hw.1 hw.2.1 hS he (fun H1 locs1 hP1 hD1 hS1 => k H1 locs1 ls st2 ⟨hi, hS1, ad, _, ga_Ws_set hw he hP1 hD1 (Or.inr (Or.inr (Or.inl ⟨rfl, _, rfl, fun q hq => ?_⟩))) hh, hl, hs2⟩)
    show ga_vr ρ oa ad (vs'.getD q 5) (.long (vp_updL f j _ q))
    rw [hvs q]
    unfold vp_updL
    by_cases hqj : q = j
    · rw [if_pos hqj, if_pos hqj]; exact hx
    · rw [if_neg hqj, if_neg hqj]; exact h3 q hq
  · exact absurd q (show ¬ 102 = 103 by omega)
theorem gg_astr {ci i r j mm v : Nat} {vs vs' t : List Nat} (hc : ga_pc cds = pc) (hi0 : ga_sm iv i % 8 = 0) (hj : ga_sm iv i / 8 = j) (hr : ga_ref r = true) (hcell : ga_hg h (r / 8) = (103, mm, vs)) (hjm : j < mm) (hv : ga_ref v = true) (hvc : (ga_hg h (v / 8)).1 = ci) (hci : ci < 100)
    (hvs : ∀ q, vs'.getD q 4 = if q = j then v else vs.getD q 4)
    (hh : ∀ q, (q = r / 8 → ga_hg h' q = (103, mm, vs') ∨ (ga_hg h' q).1 = 999) ∧ (¬ q = r / 8 → ga_hg h' q = ga_hg h q))
    (hrow : ∀ (H : Heap) (locs : List Loc) (ls : Array Slot) (st : List Value) (ws : va_W) (q0 qk a x : Nat) (f : Nat → Option Nat) (fs : List Value), va_P D gm_cl ws H → va_D (fun q => n0 ≤ q) ws → va_S (fun q => n0 ≤ q) s.heap H locs → ws[q0]? = some (a, .inl (ta 103, mm, .inr (.inr (.inr (.inr f))))) → ws[qk]? = some (x, .inr (ci, fs)) →
      (∀ (H1 : Heap) (locs1 : List Loc), va_P D gm_cl (ws.set q0 (a, .inl (ta 103, mm, .inr (.inr (.inr (.inr (va_up f j (some x)))))))) H1 → va_D (fun q => n0 ≤ q) (ws.set q0 (a, .inl (ta 103, mm, .inr (.inr (.inr (.inr (va_up f j (some x)))))))) → va_S (fun q => n0 ≤ q) s.heap H1 locs1 → W p l e R s m args below meth c H1 locs1 cs ss Q (F0 m (ga_pc nx) ls st)) → W p l e R s m args below meth c H locs cs ss Q (F0 m pc ls (.ref x :: .int (nI j) :: .ref a :: st)))
    (k : ga_Go p l e R s m args below meth c Q ρ oa ta D n0 nL nx al t cs ss iv n h') : ga_Go p l e R s m args below meth c Q ρ oa ta D n0 nL cds al (v :: i :: r :: t) cs ss iv n h := by
  intro H locs ls st hat
  obtain ⟨hi, hS, ad, ws, hw, hl, hs⟩ := hat
  obtain ⟨x, st0, rfl, hx, hs0⟩ := ga_sr_cons hs
  obtain ⟨y, st1, rfl, hy, hs1⟩ := ga_sr_cons hs0
  obtain ⟨z, st2, rfl, hz, hs2⟩ := ga_sr_cons hs1
  have e1 := ga_lit_of hi hi0 hy
  rw [hj] at e1
  subst e1
  obtain ⟨b, eb, rfl, heb, hcb⟩ := ga_Ws_at hw hv hx (by rw [hvc]; omega)
  obtain ⟨a, e, rfl, he, hcr⟩ := ga_Ws_at hw hr hz (by rw [hcell]; show ¬ 103 = 999; omega)
  rw [hcell] at hcr
  rcases hcr with ⟨q, -⟩ | ⟨q, -⟩ | ⟨q, -⟩ | ⟨-, f, rfl, h3⟩
  · exact absurd q (show ¬ 103 < 100 by omega)
  · exact absurd q (show ¬ (103 = 100 ∨ 103 = 101 ∨ 103 = 104) by omega)
  · exact absurd q (show ¬ 103 = 102 by omega)
  · rcases hcb with ⟨-, fs, rfl, -⟩ | ⟨q, -⟩ | ⟨q, -⟩ | ⟨q, -⟩
    · rw [hvc] at heb
      rw [hc]
      refine hrow H locs ls st2 ws (r / 8) (v / 8) a b f fs hw.1 hw.2.1 hS he heb (fun H1 locs1 hP1 hD1 hS1 => k H1 locs1 ls st2 ⟨hi, hS1, ad, _, ga_Ws_set hw he hP1 hD1 (Or.inr (Or.inr (Or.inr ⟨rfl, _, rfl, fun q hq => ?_⟩))) hh, hl, hs2⟩)
      show ga_vr ρ oa ad (vs'.getD q 4) (va_rf (va_up f j (some b) q))
      rw [hvs q]
      unfold va_up
      by_cases hqj : q = j
      · rw [if_pos hqj, if_pos hqj]; exact hx
      · rw [if_neg hqj, if_neg hqj]; exact h3 q hq
    · rw [hvc] at q; omega
    · rw [hvc] at q; omega
    · rw [hvc] at q; omega
/-- a new cell -/
theorem gg_new {cl : ga_C} {sk' : List Nat} {cs' ss' : Nat} (hc : ga_pc cds = pc)
    (hh : ∀ q, (q = n → ga_hg h' q = cl ∨ (ga_hg h' q).1 = 999) ∧ (¬ q = n → ga_hg h' q = ga_hg h q))
    (hrow : ∀ (H : Heap) (locs : List Loc) (ls : Array Slot) (st : List Value) (ad : List Nat) (ws : va_W), va_P D gm_cl ws H → va_D (fun q => n0 ≤ q) ws → va_S (fun q => n0 ≤ q) s.heap H locs → ga_in ρ iv → ga_sr ρ oa ad sk st →
      ∃ (ev : va_E) (st' : List Value), (∀ q, ga_cr ρ oa ta (ad ++ [q]) cl ev) ∧ ga_sr ρ oa ad sk' st' ∧ ((∀ (q : Nat) (H1 : Heap), va_P D gm_cl (ws ++ [(q, ev)]) H1 → va_D (fun q => n0 ≤ q) (ws ++ [(q, ev)]) → va_S (fun q => n0 ≤ q) s.heap H1 locs → W p l e R s m args below meth c H1 locs cs' ss' Q (F0 m (ga_pc nx) ls (.ref q :: st'))) → W p l e R s m args below meth c H locs cs ss Q (F0 m pc ls st)))
    (k : ga_Go p l e R s m args below meth c Q ρ oa ta D n0 nL nx al ((8 * n + 3) :: sk') cs' ss' iv (n + 1) h') : ga_Go p l e R s m args below meth c Q ρ oa ta D n0 nL cds al sk cs ss iv n h := by
  intro H locs ls st hat
  obtain ⟨hi, hS, ad, ws, hw, hl, hs⟩ := hat
  obtain ⟨ev, st', g1, g2, g3⟩ := hrow H locs ls st ad ws hw.1 hw.2.1 hS hi hs
  rw [hc]
  refine g3 (fun q H1 hP1 hD1 hS1 => k H1 locs ls (.ref q :: st') ⟨hi, hS1, ad ++ [q], _, ga_Ws_push hw hP1 hD1 (g1 q) hh, ga_lr_mono q hl, (ga_vr_3 (by omega)).mpr ⟨q, ?_, rfl⟩, ga_sr_mono q g2⟩)
  have e1 : (8 * n + 3) / 8 = n := by omega
  rw [e1, List.getElem?_append_right (by rw [hw.2.2.2.1]; exact Nat.le_refl _), hw.2.2.2.1, Nat.sub_self]
  rfl
theorem gg_alen {r kind mm : Nat} {vs t : List Nat} (hc : ga_pc cds = pc) (hr : ga_ref r = true) (hcell : ga_hg h (r / 8) = (kind, mm, vs)) (hk : 100 ≤ kind) (hk2 : kind ≤ 104) (hm : mm < 4294967296)
    (hrow : ∀ (H : Heap) (locs : List Loc) (ls : Array Slot) (st : List Value) (ws : va_W) (q0 a : Nat) (x : vp_A), va_P D gm_cl ws H → ws[q0]? = some (a, .inl (ta kind, x)) → x.1 = mm → W p l e R s m args below meth c H locs cs ss Q (F0 m (ga_pc nx) ls (.int (nI mm) :: st)) → W p l e R s m args below meth c H locs cs ss Q (F0 m pc ls (.ref a :: st)))
    (k : ga_Go p l e R s m args below meth c Q ρ oa ta D n0 nL nx al (8 * mm :: t) cs ss iv n h) : ga_Go p l e R s m args below meth c Q ρ oa ta D n0 nL cds al (r :: t) cs ss iv n h := by
  intro H locs ls st hat
  obtain ⟨hi, hS, ad, ws, hw, hl, hs⟩ := hat
  obtain ⟨x, st1, rfl, h1, hs1⟩ := ga_sr_cons hs
  obtain ⟨a, ev, rfl, he, hcr⟩ := ga_Ws_at hw hr h1 (by rw [hcell]; show ¬ kind = 999; omega)
  rw [hcell] at hcr
  have fin : ∀ x : vp_A, ev = .inl (ta kind, x) → x.1 = mm → W p l e R s m args below meth c H locs cs ss Q (F0 m (ga_pc cds) ls (.ref a :: st1)) := by
    intro x ex hx
    subst ex
    rw [hc]
    exact hrow H locs ls st1 ws _ a x hw.1 he hx (k H locs ls (.int (nI mm) :: st1) ⟨hi, hS, ad, ws, hw, hl, ga_lit mm hm, hs1⟩)
  rcases hcr with ⟨q, -⟩ | ⟨-, f, e1, -⟩ | ⟨-, f, e1, -⟩ | ⟨-, f, e1, -⟩
  · exact absurd q (show ¬ kind < 100 by omega)
  · exact fin _ e1 rfl
  · exact fin _ e1 rfl
  · exact fin _ e1 rfl
/-- an array's places over another's: ints -/
theorem gg_cpi {a b sp dp mm la lb : Nat} {va vb vs' t : List Nat} (hc : ga_pc cds = pc) (hra : ga_ref a = true) (hrb : ga_ref b = true) (hca : ga_hg h (a / 8) = (100, la, va)) (hcb : ga_hg h (b / 8) = (100, lb, vb)) (h1 : sp + mm ≤ la) (h2 : dp + mm ≤ lb)
    (hvs : ∀ j, vs'.getD j 0 = if dp ≤ j ∧ j < dp + mm then va.getD (sp + (j - dp)) 0 else vb.getD j 0)
    (hh : ∀ q, (q = b / 8 → ga_hg h' q = (100, lb, vs') ∨ (ga_hg h' q).1 = 999) ∧ (¬ q = b / 8 → ga_hg h' q = ga_hg h q)) (hsp : sp < 4294967296) (hdp : dp < 4294967296) (hmm : mm < 4294967296)
    (hrow : ∀ (H : Heap) (locs : List Loc) (ls : Array Slot) (st : List Value) (ad : List Nat) (ws : va_W) (q0 q1 A B : Nat) (f g : Nat → Int32), ls.size = nL → ga_sr ρ oa ad t st → va_P D gm_cl ws H → va_D (fun q => n0 ≤ q) ws → va_S (fun q => n0 ≤ q) s.heap H locs → ws[q0]? = some (A, .inl (ta 100, la, .inl f)) → ws[q1]? = some (B, .inl (ta 100, lb, .inl g)) →
      (∀ (H1 : Heap) (locs1 : List Loc), va_P D gm_cl (ws.set q1 (B, .inl (ta 100, lb, .inl (va_cpy f g sp dp mm)))) H1 → va_D (fun q => n0 ≤ q) (ws.set q1 (B, .inl (ta 100, lb, .inl (va_cpy f g sp dp mm)))) → va_S (fun q => n0 ≤ q) s.heap H1 locs1 → W p l e R s m args below meth c H1 locs1 cs ss Q (F0 m (ga_pc nx) ls st)) → W p l e R s m args below meth c H locs cs ss Q (F0 m pc ls (.int (nI mm) :: .int (nI dp) :: .ref B :: .int (nI sp) :: .ref A :: st)))
    (k : ga_Go p l e R s m args below meth c Q ρ oa ta D n0 nL nx al t cs ss iv n h') : ga_Go p l e R s m args below meth c Q ρ oa ta D n0 nL cds al (8 * mm :: 8 * dp :: b :: 8 * sp :: a :: t) cs ss iv n h := by
  intro H locs ls st hat
  obtain ⟨hi, hS, ad, ws, hw, hl, hs⟩ := hat
  obtain ⟨x1, s1, rfl, y1, hs1⟩ := ga_sr_cons hs
  obtain ⟨x2, s2, rfl, y2, hs2⟩ := ga_sr_cons hs1
  obtain ⟨x3, s3, rfl, y3, hs3⟩ := ga_sr_cons hs2
  obtain ⟨x4, s4, rfl, y4, hs4⟩ := ga_sr_cons hs3
  obtain ⟨x5, s5, rfl, y5, hs5⟩ := ga_sr_cons hs4
  have l8 : ∀ {k : Nat} {x : Value}, ga_vr ρ oa ad (8 * k) x → x = .int (nI k) := fun {k x} hx => by
    have := ((ga_vr_0 (by omega)).mp hx).2
    rwa [Nat.mul_div_cancel_left _ (by decide)] at this
  have e1 := l8 y1
  have e2 := l8 y2
  have e4 := l8 y4
  subst e1; subst e2; subst e4
  obtain ⟨B, eb, rfl, heb, hcrb⟩ := ga_Ws_at hw hrb y3 (by rw [hcb]; show ¬ 100 = 999; omega)
  obtain ⟨A, ea, rfl, hea, hcra⟩ := ga_Ws_at hw hra y5 (by rw [hca]; show ¬ 100 = 999; omega)
  rw [hcb] at hcrb
  rw [hca] at hcra
  rcases hcrb with ⟨q, -⟩ | ⟨-, g, rfl, hg⟩ | ⟨q, -⟩ | ⟨q, -⟩
  · exact absurd q (show ¬ 100 < 100 by omega)
  · rcases hcra with ⟨q, -⟩ | ⟨-, f, rfl, hf⟩ | ⟨q, -⟩ | ⟨q, -⟩
    · exact absurd q (show ¬ 100 < 100 by omega)
    · rw [hc]
      refine hrow H locs ls s5 ad ws (a / 8) (b / 8) A B f g hl.1 hs5 hw.1 hw.2.1 hS hea heb (fun H1 locs1 hP1 hD1 hS1 => k H1 locs1 ls s5 ⟨hi, hS1, ad, _, ga_Ws_set hw heb hP1 hD1 (Or.inr (Or.inl ⟨Or.inl rfl, _, rfl, fun q hq => ?_⟩)) hh, hl, hs5⟩)
      show ga_vr ρ oa ad (vs'.getD q 0) (.int (va_cpy f g sp dp mm q))
      rw [hvs q]
      unfold va_cpy
      by_cases hqj : dp ≤ q ∧ q < dp + mm
      · rw [if_pos hqj, if_pos hqj]; exact hf _ (show sp + (q - dp) < la by omega)
      · rw [if_neg hqj, if_neg hqj]; exact hg q hq
    · exact absurd q (show ¬ 100 = 102 by omega)
    · exact absurd q (show ¬ 100 = 103 by omega)
  · exact absurd q (show ¬ 100 = 102 by omega)
  · exact absurd q (show ¬ 100 = 103 by omega)
/-- an array's places over another's: longs -/
theorem gg_cpl {a b sp dp mm la lb : Nat} {va vb vs' t : List Nat} (hc : ga_pc cds = pc) (hra : ga_ref a = true) (hrb : ga_ref b = true) (hca : ga_hg h (a / 8) = (102, la, va)) (hcb : ga_hg h (b / 8) = (102, lb, vb)) (h1 : sp + mm ≤ la) (h2 : dp + mm ≤ lb)
    (hvs : ∀ j, vs'.getD j 5 = if dp ≤ j ∧ j < dp + mm then va.getD (sp + (j - dp)) 5 else vb.getD j 5)
    (hh : ∀ q, (q = b / 8 → ga_hg h' q = (102, lb, vs') ∨ (ga_hg h' q).1 = 999) ∧ (¬ q = b / 8 → ga_hg h' q = ga_hg h q)) (hsp : sp < 4294967296) (hdp : dp < 4294967296) (hmm : mm < 4294967296)
    (hrow : ∀ (H : Heap) (locs : List Loc) (ls : Array Slot) (st : List Value) (ad : List Nat) (ws : va_W) (q0 q1 A B : Nat) (f g : Nat → Int64), ls.size = nL → ga_sr ρ oa ad t st → va_P D gm_cl ws H → va_D (fun q => n0 ≤ q) ws → va_S (fun q => n0 ≤ q) s.heap H locs → ws[q0]? = some (A, .inl (ta 102, la, .inr (.inl f))) → ws[q1]? = some (B, .inl (ta 102, lb, .inr (.inl g))) →
      (∀ (H1 : Heap) (locs1 : List Loc), va_P D gm_cl (ws.set q1 (B, .inl (ta 102, lb, .inr (.inl (va_cpy f g sp dp mm))))) H1 → va_D (fun q => n0 ≤ q) (ws.set q1 (B, .inl (ta 102, lb, .inr (.inl (va_cpy f g sp dp mm))))) → va_S (fun q => n0 ≤ q) s.heap H1 locs1 → W p l e R s m args below meth c H1 locs1 cs ss Q (F0 m (ga_pc nx) ls st)) → W p l e R s m args below meth c H locs cs ss Q (F0 m pc ls (.int (nI mm) :: .int (nI dp) :: .ref B :: .int (nI sp) :: .ref A :: st)))
    (k : ga_Go p l e R s m args below meth c Q ρ oa ta D n0 nL nx al t cs ss iv n h') : ga_Go p l e R s m args below meth c Q ρ oa ta D n0 nL cds al (8 * mm :: 8 * dp :: b :: 8 * sp :: a :: t) cs ss iv n h := by
  intro H locs ls st hat
  obtain ⟨hi, hS, ad, ws, hw, hl, hs⟩ := hat
  obtain ⟨x1, s1, rfl, y1, hs1⟩ := ga_sr_cons hs
  obtain ⟨x2, s2, rfl, y2, hs2⟩ := ga_sr_cons hs1
  obtain ⟨x3, s3, rfl, y3, hs3⟩ := ga_sr_cons hs2
  obtain ⟨x4, s4, rfl, y4, hs4⟩ := ga_sr_cons hs3
  obtain ⟨x5, s5, rfl, y5, hs5⟩ := ga_sr_cons hs4
  have l8 : ∀ {k : Nat} {x : Value}, ga_vr ρ oa ad (8 * k) x → x = .int (nI k) := fun {k x} hx => by
    have := ((ga_vr_0 (by omega)).mp hx).2
    rwa [Nat.mul_div_cancel_left _ (by decide)] at this
  have e1 := l8 y1
  have e2 := l8 y2
  have e4 := l8 y4
  subst e1; subst e2; subst e4
  obtain ⟨B, eb, rfl, heb, hcrb⟩ := ga_Ws_at hw hrb y3 (by rw [hcb]; show ¬ 102 = 999; omega)
  obtain ⟨A, ea, rfl, hea, hcra⟩ := ga_Ws_at hw hra y5 (by rw [hca]; show ¬ 102 = 999; omega)
  rw [hcb] at hcrb
  rw [hca] at hcra
  rcases hcrb with ⟨q, -⟩ | ⟨q, -⟩ | ⟨-, g, rfl, hg⟩ | ⟨q, -⟩
  · exact absurd q (show ¬ 102 < 100 by omega)
  · exact absurd q (show ¬ (102 = 100 ∨ 102 = 101 ∨ 102 = 104) by omega)
  · rcases hcra with ⟨q, -⟩ | ⟨q, -⟩ | ⟨-, f, rfl, hf⟩ | ⟨q, -⟩
    · exact absurd q (show ¬ 102 < 100 by omega)
    · exact absurd q (show ¬ (102 = 100 ∨ 102 = 101 ∨ 102 = 104) by omega)
    · rw [hc]
      refine hrow H locs ls s5 ad ws (a / 8) (b / 8) A B f g hl.1 hs5 hw.1 hw.2.1 hS hea heb (fun H1 locs1 hP1 hD1 hS1 => k H1 locs1 ls s5 ⟨hi, hS1, ad, _, ga_Ws_set hw heb hP1 hD1 (Or.inr (Or.inr (Or.inl ⟨rfl, _, rfl, fun q hq => ?_⟩))) hh, hl, hs5⟩)
      show ga_vr ρ oa ad (vs'.getD q 5) (.long (va_cpy f g sp dp mm q))
      rw [hvs q]
      unfold va_cpy
      by_cases hqj : dp ≤ q ∧ q < dp + mm
      · rw [if_pos hqj, if_pos hqj]; exact hf _ (show sp + (q - dp) < la by omega)
      · rw [if_neg hqj, if_neg hqj]; exact hg q hq
    · exact absurd q (show ¬ 102 = 103 by omega)
  · exact absurd q (show ¬ 102 = 103 by omega)
end GJ
