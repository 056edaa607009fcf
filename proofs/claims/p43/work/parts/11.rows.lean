theorem ga_clamp {j : Nat} (h : j < 1048576) : (nI j).toNatClampNeg = j := nI_clamp (by omega)
theorem ga_vpin {j m : Nat} (h : j < 1048576) (hm : j < m) : vp_in (nI j) m := by
  unfold vp_in
  rw [ga_clamp h]
  have := nI_pos (n := j) (by omega)
  rintro (q | q)
  · exact this q
  · omega
theorem ga_fork_mem {i lo : Nat} {iv : ga_I} {K : ga_I → Option (List ga_O)} {m : Nat} {os : List ga_O} (h : ga_fork i lo iv K m = some os) {j : Nat} (hj : j < m) : ∃ o1, K (iv.set i (lo + j, lo + j)) = some o1 ∧ ∀ z ∈ o1, z ∈ os := by
  induction m generalizing os with
  | zero => omega
  | succ m ih =>
    have h1 : ga_cat (ga_f (lo + m) (fun c => ga_set iv i (c, c) K)) (ga_fork i lo iv K m) = some os := h
    rw [ga_f_eq, ga_set_eq] at h1
    unfold ga_cat at h1
    cases hx : K (iv.set i (lo + m, lo + m)) with
    | none => rw [hx] at h1; cases h1
    | some a =>
      rw [hx] at h1
      cases hb : ga_fork i lo iv K m with
      | none => rw [hb] at h1; cases h1
      | some b =>
        rw [hb] at h1
        have h3 : a ++ b = os := Option.some.inj h1
        by_cases hjm : j = m
        · subst hjm
          exact ⟨a, hx, fun z hz => by rw [← h3]; exact List.mem_append_left _ hz⟩
        · obtain ⟨o1, g1, g2⟩ := ih hb (by omega)
          exact ⟨o1, g1, fun z hz => by rw [← h3]; exact List.mem_append_right _ (g2 z hz)⟩
/-- a switch: which way is gone -/
theorem ga_sw_ok {ρ : Nat → Int32} {oa : Nat → Nat} {ad : List Nat} {v : Nat} {X : Int32} (hX : ga_vr ρ oa ad v (.int X)) {d : ga_I → Option (List ga_O)} {K : Nat → ga_I → Option (List ga_O)} {os : List ga_O} : ∀ {ps : List (Nat × Nat)} {iv : ga_I}, (∀ q ∈ ps, q.1 % 8 = 0 ∧ q.1 / 8 < 4294967296) → ga_in ρ iv → ga_sw ps v iv d K = some os →
    (∃ q ∈ ps, X = nI (q.1 / 8) ∧ ∃ iv' o1, ga_in ρ iv' ∧ K q.2 iv' = some o1 ∧ ∀ z ∈ o1, z ∈ os) ∨ ((∀ q ∈ ps, ¬ X = nI (q.1 / 8)) ∧ ∃ iv' o1, ga_in ρ iv' ∧ d iv' = some o1 ∧ ∀ z ∈ o1, z ∈ os)
  | [], iv, _, hi, h => Or.inr ⟨fun _ hq => (by cases hq), iv, os, hi, h, fun _ hz => hz⟩
  | q :: r, iv, hp, hi, h => by
    have h1 : ga_br (ga_eq iv v q.1) (K q.2) (fun iv => ga_sw r v iv d K) = some os := h
    have hq := hp q List.mem_cons_self
    have hy : ga_vr ρ oa ad q.1 (.int (nI (q.1 / 8))) := (ga_vr_0 hq.1).mpr ⟨hq.2, rfl⟩
    obtain ⟨w, hw, hin, hiff⟩ := ga_eq_ok hi hX hy
    obtain ⟨o1, g1, g2⟩ := ga_all_mem h1 hw
    by_cases hc : X = nI (q.1 / 8)
    · rw [hiff.mpr hc, ga_if_t] at g1
      exact Or.inl ⟨q, List.mem_cons_self, hc, w.2, o1, hin, g1, g2⟩
    · have hf : w.1 = false := by
        cases hb : w.1 with
        | false => rfl
        | true => exact absurd (hiff.mp hb) hc
      rw [hf, ga_if_f] at g1
      rcases ga_sw_ok hX (fun z hz => hp z (List.mem_cons_of_mem _ hz)) hin g1 with ⟨z, hz, e, iv', o2, a1, a2, a3⟩ | ⟨hn, iv', o2, a1, a2, a3⟩
      · exact Or.inl ⟨z, List.mem_cons_of_mem _ hz, e, iv', o2, a1, a2, fun y hy => g2 y (a3 y hy)⟩
      · refine Or.inr ⟨fun z hz => ?_, iv', o2, a1, a2, fun y hy => g2 y (a3 y hy)⟩
        rcases List.mem_cons.mp hz with rfl | hz
        · exact hc
        · exact hn z hz
section GI
variable {p : Program} {l : Launch} {e : Env} {R : Room} {s : State} {m : MethodId} {args : Array Value} {below : List Frame} {meth : Method} {c : Code} {Q : State → Prop}
variable {ρ : Nat → Int32} {oa : Nat → Nat} {ta : Nat → ClassId} {D : va_G} {n0 nL : Nat} {cc : ByteArray} {pc : Nat} {nx cds : List ga_E} {al sk : List Nat} {cs ss : Nat} {iv : ga_I} {n : Nat} {h : ga_H}
theorem gg_stk {sk' : List Nat} (hc : ga_pc cds = pc) (hrow : ∀ (H : Heap) (locs : List Loc) (ls : Array Slot) (st : List Value) (ad : List Nat), ls.size = nL → ga_sr ρ oa ad sk st → ∃ st', ga_sr ρ oa ad sk' st' ∧ (W p l e R s m args below meth c H locs cs ss Q (F0 m (ga_pc nx) ls st') → W p l e R s m args below meth c H locs cs ss Q (F0 m pc ls st)))
    (k : ga_Go p l e R s m args below meth c Q ρ oa ta D n0 nL nx al sk' cs ss iv n h) : ga_Go p l e R s m args below meth c Q ρ oa ta D n0 nL cds al sk cs ss iv n h := by
  intro H locs ls st hat
  obtain ⟨hi, hS, ad, ws, hw, hl, hs⟩ := hat
  obtain ⟨st', g1, g2⟩ := hrow H locs ls st ad hl.1 hs
  rw [hc]
  exact g2 (k H locs ls st' ⟨hi, hS, ad, ws, hw, hl, g1⟩)
theorem gg_store {v i : Nat} {r : List Nat} (hc : ga_pc cds = pc) (ha : ga_ahead al i = true)
    (hrow : ∀ (H : Heap) (locs : List Loc) (ls : Array Slot) (st : List Value) (ad : List Nat) (x : Value), ga_vr ρ oa ad v x → lv_has ls nL (ga_hl ls) → (∀ ls', lv_has ls' nL ((i, x) :: (ga_hl ls).filter (fun q => !(q.1 == i) && !(q.1 + 1 == i && q.2.category == 2))) → W p l e R s m args below meth c H locs cs ss Q (F0 m (ga_pc nx) ls' st)) → W p l e R s m args below meth c H locs cs ss Q (F0 m pc ls (x :: st)))
    (k : ga_Go p l e R s m args below meth c Q ρ oa ta D n0 nL nx (al.set i v) r cs ss iv n h) : ga_Go p l e R s m args below meth c Q ρ oa ta D n0 nL cds al (v :: r) cs ss iv n h := by
  intro H locs ls st hat
  obtain ⟨hi, hS, ad, ws, hw, hl, hs⟩ := hat
  obtain ⟨x, t, rfl, h1, hs1⟩ := ga_sr_cons hs
  rw [hc]
  exact hrow H locs ls t ad x h1 (ga_hl_has hl.1 hl.2.1) (fun ls' hh => k H locs ls' t ⟨hi, hS, ad, ws, hw, ga_lr_set hl ha h1 hh, hs1⟩)
theorem gg_store2 {v i : Nat} {r : List Nat} (hc : ga_pc cds = pc) (ha : ga_ahead al i = true)
    (hrow : ∀ (H : Heap) (locs : List Loc) (ls : Array Slot) (st : List Value) (ad : List Nat) (x : Value), ga_vr ρ oa ad v x → lv_has ls nL (ga_hl ls) → (∀ ls', lv_has ls' nL ((i, x) :: (ga_hl ls).filter (fun q => !(q.1 == i) && (!(q.1 == i + 1) && !(q.1 + 1 == i && q.2.category == 2)))) → W p l e R s m args below meth c H locs cs ss Q (F0 m (ga_pc nx) ls' st)) → W p l e R s m args below meth c H locs cs ss Q (F0 m pc ls (x :: st)))
    (k : ga_Go p l e R s m args below meth c Q ρ oa ta D n0 nL nx ((al.set i v).set (i + 1) 7) r cs ss iv n h) : ga_Go p l e R s m args below meth c Q ρ oa ta D n0 nL cds al (v :: r) cs ss iv n h := by
  intro H locs ls st hat
  obtain ⟨hi, hS, ad, ws, hw, hl, hs⟩ := hat
  obtain ⟨x, t, rfl, h1, hs1⟩ := ga_sr_cons hs
  rw [hc]
  exact hrow H locs ls t ad x h1 (ga_hl_has hl.1 hl.2.1) (fun ls' hh => k H locs ls' t ⟨hi, hS, ad, ws, hw, ga_lr_set2 hl ha h1 hh, hs1⟩)
theorem gg_iinc {v i a : Nat} (hc : ga_pc cds = pc) (hv : ga_nth 7 al i = v) (h0 : v % 8 = 0) (ha : ga_ahead al i = true) (ha0 : a % 8 = 0)
    (hrow : ∀ (H : Heap) (locs : List Loc) (ls : Array Slot) (st : List Value) (x : Int32), lv_has ls nL (ga_hl ls) → (i, Value.int x) ∈ ga_hl ls → (∀ ls', lv_has ls' nL ((i, Value.int (x + nI (a / 8))) :: (ga_hl ls).filter (fun q => !(q.1 == i) && !(q.1 + 1 == i && q.2.category == 2))) → W p l e R s m args below meth c H locs cs ss Q (F0 m (ga_pc nx) ls' st)) → W p l e R s m args below meth c H locs cs ss Q (F0 m pc ls st))
    (k : ga_Go p l e R s m args below meth c Q ρ oa ta D n0 nL nx (al.set i ((v + a) % 34359738368)) sk cs ss iv n h) : ga_Go p l e R s m args below meth c Q ρ oa ta D n0 nL cds al sk cs ss iv n h := by
  intro H locs ls st hat
  obtain ⟨hi, hS, ad, ws, hw, hl, hs⟩ := hat
  have hg : al[i]? = some v := by
    rw [ga_nth_eq, List.getD_eq_getElem?_getD] at hv
    cases hq : al[i]? with
    | none => rw [hq] at hv; exact absurd (show v % 8 = 7 by rw [← hv]; rfl) (by omega)
    | some w => rw [hq] at hv; exact congrArg some hv
  obtain ⟨x, h1, h2⟩ := hl.2.2.2 i v hg (by omega)
  obtain ⟨l1, rfl⟩ := (ga_vr_0 h0).mp h1
  rw [hc]
  refine hrow H locs ls st (nI (v / 8)) (ga_hl_has hl.1 hl.2.1) (ga_hl_mem.mpr h2) (fun ls' hh => k H locs ls' st ⟨hi, hS, ad, ws, hw, ga_lr_set hl ha ?_ hh, hs⟩)
  rw [nI_add]
  have e : (v + a) % 34359738368 = 8 * ((v / 8 + a / 8) % 4294967296) := by omega
  rw [e]
  exact ga_litx _
theorem gg_get {r ci mm kf v : Nat} {vs t : List Nat} (hc : ga_pc cds = pc) (hr : ga_ref r = true) (hcell : ga_hg h (r / 8) = (ci, mm, vs)) (hci : ci < 100) (hv : vs[kf]? = some v)
    (hrow : ∀ (H : Heap) (locs : List Loc) (ls : Array Slot) (st : List Value) (ws : va_W) (q0 a : Nat) (fs : List Value) (x : Value), va_P D gm_cl ws H → ws[q0]? = some (a, .inr (ci, fs)) → fs[kf]? = some x → W p l e R s m args below meth c H locs cs ss Q (F0 m (ga_pc nx) ls (x :: st)) → W p l e R s m args below meth c H locs cs ss Q (F0 m pc ls (.ref a :: st)))
    (k : ga_Go p l e R s m args below meth c Q ρ oa ta D n0 nL nx al (v :: t) cs ss iv n h) : ga_Go p l e R s m args below meth c Q ρ oa ta D n0 nL cds al (r :: t) cs ss iv n h := by
  intro H locs ls st hat
  obtain ⟨hi, hS, ad, ws, hw, hl, hs⟩ := hat
  obtain ⟨x, st1, rfl, h1, hs1⟩ := ga_sr_cons hs
  obtain ⟨a, e, rfl, he, hcr⟩ := ga_Ws_at hw hr h1 (by rw [hcell]; show ¬ ci = 999; omega)
  rw [hcell] at hcr
  rcases hcr with ⟨-, fs, rfl, -, h3⟩ | ⟨hk, -⟩ | ⟨hk, -⟩ | ⟨hk, -⟩
  · obtain ⟨x, g1, g2⟩ := h3 kf v hv
    rw [hc]
    exact hrow H locs ls st1 ws _ a fs x hw.1 he g1 (k H locs ls (x :: st1) ⟨hi, hS, ad, ws, hw, hl, g2, hs1⟩)
  · exact absurd hk (show ¬ (ci = 100 ∨ ci = 101 ∨ ci = 104) by omega)
  · exact absurd hk (show ¬ ci = 102 by omega)
  · exact absurd hk (show ¬ ci = 103 by omega)
theorem gg_put {r ci mm kf v : Nat} {vs t : List Nat} {h' : ga_H} (hc : ga_pc cds = pc) (hr : ga_ref r = true) (hcell : ga_hg h (r / 8) = (ci, mm, vs)) (hci : ci < 100) (hkf : kf < vs.length)
    (hh : ∀ j, (j = r / 8 → ga_hg h' j = (ci, mm, vs.set kf v) ∨ (ga_hg h' j).1 = 999) ∧ (¬ j = r / 8 → ga_hg h' j = ga_hg h j))
    (hrow : ∀ (H : Heap) (locs : List Loc) (ls : Array Slot) (st : List Value) (ad : List Nat) (ws : va_W) (q0 a : Nat) (fs : List Value) (x : Value), va_P D gm_cl ws H → va_D (fun q => n0 ≤ q) ws → va_S (fun q => n0 ≤ q) s.heap H locs → ws[q0]? = some (a, .inr (ci, fs)) → kf < fs.length → ga_vr ρ oa ad v x →
      (∀ (H1 : Heap) (locs1 : List Loc), va_P D gm_cl (ws.set q0 (a, .inr (ci, fs.set kf x))) H1 → va_D (fun q => n0 ≤ q) (ws.set q0 (a, .inr (ci, fs.set kf x))) → va_S (fun q => n0 ≤ q) s.heap H1 locs1 → W p l e R s m args below meth c H1 locs1 cs ss Q (F0 m (ga_pc nx) ls st)) → W p l e R s m args below meth c H locs cs ss Q (F0 m pc ls (x :: .ref a :: st)))
    (k : ga_Go p l e R s m args below meth c Q ρ oa ta D n0 nL nx al t cs ss iv n h') : ga_Go p l e R s m args below meth c Q ρ oa ta D n0 nL cds al (v :: r :: t) cs ss iv n h := by
  intro H locs ls st hat
  obtain ⟨hi, hS, ad, ws, hw, hl, hs⟩ := hat
  obtain ⟨x, st0, rfl, hx, hs0⟩ := ga_sr_cons hs
  obtain ⟨y, st1, rfl, h1, hs1⟩ := ga_sr_cons hs0
  obtain ⟨a, e, rfl, he, hcr⟩ := ga_Ws_at hw hr h1 (by rw [hcell]; show ¬ ci = 999; omega)
  rw [hcell] at hcr
  rcases hcr with ⟨-, fs, rfl, hlen, h3⟩ | ⟨hk, -⟩ | ⟨hk, -⟩ | ⟨hk, -⟩
  · rw [hc]
    refine hrow H locs ls st1 ad ws (r / 8) a fs x hw.1 hw.2.1 hS he (by rw [hlen]; exact hkf) hx (fun H1 locs1 hP1 hD1 hS1 => k H1 locs1 ls st1 ⟨hi, hS1, ad, _, ga_Ws_set hw he hP1 hD1 (Or.inl ⟨hci, fs.set kf x, rfl, by simp only [List.length_set]; exact hlen, fun j w hj => ?_⟩) hh, hl, hs1⟩)
    rcases ga_getset hj with ⟨rfl, rfl⟩ | ⟨hne, hj⟩
    · exact ⟨x, by rw [List.getElem?_set, if_pos rfl, if_pos (by rw [hlen]; exact hkf)], hx⟩
    · obtain ⟨z, g1, g2⟩ := h3 j w hj
      exact ⟨z, by rw [List.getElem?_set, if_neg (fun q => hne q.symm)]; exact g1, g2⟩
  · exact absurd hk (show ¬ (ci = 100 ∨ ci = 101 ∨ ci = 104) by omega)
  · exact absurd hk (show ¬ ci = 102 by omega)
  · exact absurd hk (show ¬ ci = 103 by omega)
/-- a place in an array: the number at hand, or one of those that the symbol may be -/
theorem gg_idx {v : Nat} {again : ga_I → Option (List ga_O)} {K : Nat → Option (List ga_O)} {os : List ga_O} (ho : ga_idx iv v again K = some os)
    (hK : ga_sm iv v % 8 = 0 → ∀ o1, K (ga_sm iv v / 8) = some o1 → (∀ z ∈ o1, z ∈ os) → ga_Go p l e R s m args below meth c Q ρ oa ta D n0 nL cds al sk cs ss iv n h)
    (hA : ∀ iv' o1, again iv' = some o1 → (∀ z ∈ o1, z ∈ os) → ga_Go p l e R s m args below meth c Q ρ oa ta D n0 nL cds al sk cs ss iv' n h) : ga_Go p l e R s m args below meth c Q ρ oa ta D n0 nL cds al sk cs ss iv n h := by
  unfold ga_idx at ho
  rw [ga_f_eq] at ho
  simp only [ga_if_eq, ga_beq, ga_f_eq, Nat.blt_eq] at ho
  split at ho
  · rename_i h0
    exact hK h0 os ho (fun _ hz => hz)
  · split at ho
    · split at ho
      · intro H locs ls st hat
        have hi := hat.1
        have g1 := (hi (ga_sm iv v / 8)).1
        have g2 := (hi (ga_sm iv v / 8)).2
        obtain ⟨o1, a1, a2⟩ := ga_fork_mem ho (j := ga_kk (ρ (ga_sm iv v / 8)) - (ga_iv iv (ga_sm iv v / 8)).1) (by omega)
        refine hA _ o1 a1 a2 H locs ls st ⟨ga_in_set hi (by omega) (by omega), hat.2⟩
      · cases ho
    · cases ho
theorem ga_lit_of (hi : ga_in ρ iv) {ad : List Nat} {v : Nat} {x : Value} (h0 : ga_sm iv v % 8 = 0) (hv : ga_vr ρ oa ad v x) : x = .int (nI (ga_sm iv v / 8)) := ((ga_vr_0 h0).mp (ga_sm_ok hi hv)).2
theorem gg_aldi {kind i r j mm v : Nat} {vs t : List Nat} (hc : ga_pc cds = pc) (hi0 : ga_sm iv i % 8 = 0) (hj : ga_sm iv i / 8 = j) (hjb : j < 1048576) (hr : ga_ref r = true) (hcell : ga_hg h (r / 8) = (kind, mm, vs)) (hk : kind = 100 ∨ kind = 101 ∨ kind = 104) (hjm : j < mm) (hv : vs.getD j 0 = v)
    (hrow : ∀ (H : Heap) (locs : List Loc) (ls : Array Slot) (st : List Value) (ws : va_W) (q0 a : Nat) (f : Nat → Int32), va_P D gm_cl ws H → ws[q0]? = some (a, .inl (ta kind, mm, .inl f)) → W p l e R s m args below meth c H locs cs ss Q (F0 m (ga_pc nx) ls (.int (f j) :: st)) → W p l e R s m args below meth c H locs cs ss Q (F0 m pc ls (.int (nI j) :: .ref a :: st)))
    (k : ga_Go p l e R s m args below meth c Q ρ oa ta D n0 nL nx al (v :: t) cs ss iv n h) : ga_Go p l e R s m args below meth c Q ρ oa ta D n0 nL cds al (i :: r :: t) cs ss iv n h := by
  intro H locs ls st hat
  obtain ⟨hi, hS, ad, ws, hw, hl, hs⟩ := hat
  obtain ⟨x, st0, rfl, hx, hs0⟩ := ga_sr_cons hs
  obtain ⟨y, st1, rfl, h1, hs1⟩ := ga_sr_cons hs0
  have e1 := ga_lit_of hi hi0 hx
  rw [hj] at e1
  subst e1
  obtain ⟨a, e, rfl, he, hcr⟩ := ga_Ws_at hw hr h1 (by rw [hcell]; show ¬ kind = 999; omega)
  rw [hcell] at hcr
  rcases hcr with ⟨q, -⟩ | ⟨-, f, rfl, h3⟩ | ⟨q, -⟩ | ⟨q, -⟩
  · exact absurd q (show ¬ kind < 100 by omega)
  · rw [hc]
    have h4 := h3 j hjm
    exact hrow H locs ls st1 ws _ a f hw.1 he (k H locs ls (.int (f j) :: st1) ⟨hi, hS, ad, ws, hw, hl, by rw [← hv]; exact h4, hs1⟩)
  · exact absurd q (show ¬ kind = 102 by omega)
  · exact absurd q (show ¬ kind = 103 by omega)
theorem gg_aldr {i r j mm v : Nat} {vs t : List Nat} (hc : ga_pc cds = pc) (hi0 : ga_sm iv i % 8 = 0) (hj : ga_sm iv i / 8 = j) (hjb : j < 1048576) (hr : ga_ref r = true) (hcell : ga_hg h (r / 8) = (103, mm, vs)) (hjm : j < mm) (hv : vs.getD j 4 = v)
    (hrow : ∀ (H : Heap) (locs : List Loc) (ls : Array Slot) (st : List Value) (ws : va_W) (q0 a : Nat) (f : Nat → Option Nat), va_P D gm_cl ws H → ws[q0]? = some (a, .inl (ta 103, mm, .inr (.inr (.inr (.inr f))))) → W p l e R s m args below meth c H locs cs ss Q (F0 m (ga_pc nx) ls (va_rf (f j) :: st)) → W p l e R s m args below meth c H locs cs ss Q (F0 m pc ls (.int (nI j) :: .ref a :: st)))
    (k : ga_Go p l e R s m args below meth c Q ρ oa ta D n0 nL nx al (v :: t) cs ss iv n h) : ga_Go p l e R s m args below meth c Q ρ oa ta D n0 nL cds al (i :: r :: t) cs ss iv n h := by
  intro H locs ls st hat
  obtain ⟨hi, hS, ad, ws, hw, hl, hs⟩ := hat
  obtain ⟨x, st0, rfl, hx, hs0⟩ := ga_sr_cons hs
  obtain ⟨y, st1, rfl, h1, hs1⟩ := ga_sr_cons hs0
  have e1 := ga_lit_of hi hi0 hx
  rw [hj] at e1
  subst e1
  obtain ⟨a, e, rfl, he, hcr⟩ := ga_Ws_at hw hr h1 (by rw [hcell]; show ¬ 103 = 999; omega)
  rw [hcell] at hcr
  rcases hcr with ⟨q, -⟩ | ⟨q, -⟩ | ⟨q, -⟩ | ⟨-, f, rfl, h3⟩
  · exact absurd q (show ¬ 103 < 100 by omega)
  · exact absurd q (show ¬ (103 = 100 ∨ 103 = 101 ∨ 103 = 104) by omega)
  · exact absurd q (show ¬ 103 = 102 by omega)
  · rw [hc]
    have h4 := h3 j hjm
    exact hrow H locs ls st1 ws _ a f hw.1 he (k H locs ls (va_rf (f j) :: st1) ⟨hi, hS, ad, ws, hw, hl, by rw [← hv]; exact h4, hs1⟩)
end GI
