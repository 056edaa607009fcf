theorem ga_hs_at {β : Type} (h : ga_H) (k : Nat) (c : ga_C) (K : ga_H → β) : ∃ h' : ga_H, ga_hs h k c K = K h' ∧ ∀ j, (j = k → ga_hg h' j = c ∨ (ga_hg h' j).1 = 999) ∧ (¬ j = k → ga_hg h' j = ga_hg h j) := by
  refine ⟨h.set (k / 16) ((h.getD (k / 16) []).set (k % 16) c), ?_, fun j => ⟨fun hj => ?_, fun hj => ?_⟩⟩
  · simp only [ga_hs, ga_set_eq, ga_nth_eq]
  · subst hj
    simp only [ga_hg, ga_nth_eq]
    rw [ga_getD_set]
    by_cases h1 : j / 16 < h.length
    · rw [if_pos ⟨rfl, h1⟩, ga_getD_set]
      by_cases h2 : j % 16 < (h.getD (j / 16) []).length
      · rw [if_pos ⟨rfl, h2⟩]
        exact Or.inl rfl
      · rw [if_neg (fun q => h2 q.2)]
        right
        rw [List.getD_eq_getElem?_getD, List.getElem?_eq_none (by omega)]
        rfl
    · rw [if_neg (fun q => h1 q.2)]
      right
      rw [List.getD_eq_getElem?_getD (l := h), List.getElem?_eq_none (by omega)]
      rfl
  · simp only [ga_hg, ga_nth_eq]
    rw [ga_getD_set]
    by_cases h1 : j / 16 = k / 16 ∧ k / 16 < h.length
    · rw [if_pos h1, ga_getD_set, if_neg (by omega), h1.1]
    · rw [if_neg h1]
theorem ga_set_self {α : Type} {l : List α} {k : Nat} {a : α} (h : l[k]? = some a) : l.set k a = l := by
  apply List.ext_getElem?
  intro j
  rw [List.getElem?_set]
  by_cases hj : k = j
  · subst hj
    have hl : k < l.length := by
      rcases Nat.lt_or_ge k l.length with q | q
      · exact q
      · rw [List.getElem?_eq_none q] at h; cases h
    rw [if_pos rfl, if_pos hl, h]
  · rw [if_neg hj]
section GH
variable {ρ : Nat → Int32} {oa : Nat → Nat} {ta : Nat → ClassId} {D : va_G} {n0 n : Nat} {h h' : ga_H} {ad : List Nat} {ws : va_W} {H H1 : Heap}
theorem ga_Ws_ad (hw : ga_Ws ρ oa ta D n0 n h ad ws H) {k a : Nat} (hk : ad[k]? = some a) : ∃ e, ws[k]? = some (a, e) := by
  rw [← hw.2.2.1.1, List.getElem?_map] at hk
  cases hq : ws[k]? with
  | none => rw [hq] at hk; cases hk
  | some q =>
    rw [hq] at hk
    cases hk
    exact ⟨q.2, rfl⟩
/-- a cell that the machine reads -/
theorem ga_Ws_at (hw : ga_Ws ρ oa ta D n0 n h ad ws H) {v : Nat} {x : Value} (hr : ga_ref v = true) (hv : ga_vr ρ oa ad v x) (h9 : ¬ (ga_hg h (v / 8)).1 = 999) : ∃ (a : Nat) (e : va_E), x = .ref a ∧ ws[v / 8]? = some (a, e) ∧ ga_cr ρ oa ta ad (ga_hg h (v / 8)) e := by
  have h3 : v % 8 = 3 := by simpa [ga_ref, ga_beq] using hr
  obtain ⟨a, h1, rfl⟩ := (ga_vr_3 h3).mp hv
  obtain ⟨a2, e, h4, h5⟩ := hw.2.2.2.2 _ h9
  obtain ⟨e2, h6⟩ := ga_Ws_ad hw h1
  rw [h6] at h4
  cases h4
  exact ⟨a, _, rfl, h6, h5⟩
theorem ga_Ws_set (hw : ga_Ws ρ oa ta D n0 n h ad ws H) {q0 a : Nat} {e e' : va_E} {c : ga_C} (he : ws[q0]? = some (a, e)) (hP1 : va_P D gm_cl (ws.set q0 (a, e')) H1) (hD1 : va_D (fun q => n0 ≤ q) (ws.set q0 (a, e'))) (hcr : ga_cr ρ oa ta ad c e')
    (hh : ∀ j, (j = q0 → ga_hg h' j = c ∨ (ga_hg h' j).1 = 999) ∧ (¬ j = q0 → ga_hg h' j = ga_hg h j)) : ga_Ws ρ oa ta D n0 n h' ad (ws.set q0 (a, e')) H1 := by
  have hl : q0 < ws.length := by
    rcases Nat.lt_or_ge q0 ws.length with q | q
    · exact q
    · rw [List.getElem?_eq_none q] at he; cases he
  refine ⟨hP1, hD1, ⟨?_, hw.2.2.1.2⟩, hw.2.2.2.1, fun k hk => ?_⟩
  · rw [List.map_set, hw.2.2.1.1]
    exact ga_set_self (by rw [← hw.2.2.1.1, List.getElem?_map, he]; rfl)
  · by_cases hj : k = q0
    · subst hj
      refine ⟨a, e', ?_, ?_⟩
      · rw [List.getElem?_set, if_pos rfl, if_pos hl]
      · rcases (hh k).1 rfl with g | g
        · rw [g]; exact hcr
        · exact absurd g hk
    · rw [(hh k).2 hj] at hk ⊢
      obtain ⟨a2, e2, g1, g2⟩ := hw.2.2.2.2 k hk
      exact ⟨a2, e2, by rw [List.getElem?_set, if_neg (fun q => hj q.symm)]; exact g1, g2⟩
theorem ga_Ws_push (hw : ga_Ws ρ oa ta D n0 n h ad ws H) {q : Nat} {e : va_E} {c : ga_C} (hP1 : va_P D gm_cl (ws ++ [(q, e)]) H1) (hD1 : va_D (fun q => n0 ≤ q) (ws ++ [(q, e)])) (hcr : ga_cr ρ oa ta (ad ++ [q]) c e)
    (hh : ∀ j, (j = n → ga_hg h' j = c ∨ (ga_hg h' j).1 = 999) ∧ (¬ j = n → ga_hg h' j = ga_hg h j)) : ga_Ws ρ oa ta D n0 (n + 1) h' (ad ++ [q]) (ws ++ [(q, e)]) H1 := by
  have hl : ws.length = n := by rw [← hw.2.2.2.1, ← hw.2.2.1.1, List.length_map]
  refine ⟨hP1, hD1, ⟨by rw [List.map_append, hw.2.2.1.1]; rfl, fun k hk => by rw [List.getElem?_append_left (by rcases Nat.lt_or_ge k ad.length with z | z; exact z; have h9 := hw.2.2.1.2 k hk; rw [List.getElem?_eq_none z] at h9; cases h9)]; exact hw.2.2.1.2 k hk⟩, by rw [List.length_append, hw.2.2.2.1]; rfl, fun k hk => ?_⟩
  by_cases hj : k = n
  · subst hj
    refine ⟨q, e, ?_, ?_⟩
    · rw [List.getElem?_append_right (by omega), hl, Nat.sub_self]; rfl
    · rcases (hh k).1 rfl with g | g
      · rw [g]; exact hcr
      · exact absurd g hk
  · rw [(hh k).2 hj] at hk ⊢
    obtain ⟨a2, e2, g1, g2⟩ := hw.2.2.2.2 k hk
    refine ⟨a2, e2, ?_, ga_cr_mono q g2⟩
    have hk2 : k < ws.length := by
      rcases Nat.lt_or_ge k ws.length with z | z
      · exact z
      · rw [List.getElem?_eq_none z] at g1; cases g1
    rw [List.getElem?_append_left hk2]
    exact g1
theorem ga_vr_cat {v : Nat} {x : Value} (hv : ga_vr ρ oa ad v x) : x.category = if v % 8 = 5 then 2 else 1 := by
  have h8 : v % 8 < 8 := Nat.mod_lt _ (by decide)
  unfold ga_vr at hv
  generalize v % 8 = t at hv h8 ⊢
  match t, h8, hv with
  | 0, _, hv => obtain ⟨-, rfl⟩ := hv; rfl
  | 1, _, hv => cases hv; rfl
  | 2, _, hv => obtain ⟨y, rfl⟩ := hv; rfl
  | 3, _, hv => obtain ⟨a, -, rfl⟩ := hv; rfl
  | 4, _, hv => cases hv; rfl
  | 5, _, hv => obtain ⟨-, rfl⟩ := hv; rfl
  | 6, _, hv => cases hv; rfl
  | 7, _, hv => exact hv.elim
theorem ga_sr_wd : ∀ {sk : List Nat} {st : List Value}, ga_sr ρ oa ad sk st → (st.map fun v => v.category).sum = ga_wd sk
  | [], [], _ => rfl
  | v :: r, x :: t, hs => by
    have h1 := ga_vr_cat hs.1
    have h2 := ga_sr_wd hs.2
    have e : ga_wd (v :: r) = ga_if (Nat.beq (v % 8) 5) (ga_wd r + 2) (ga_wd r + 1) := rfl
    rw [List.map_cons, List.sum_cons, h1, h2, e]
    simp only [ga_if_eq, ga_beq]
    split <;> omega
  | [], _ :: _, hs => hs.elim
  | _ :: _, [], hs => hs.elim
/-- all that the locals hold -/
def ga_hl (ls : Array Slot) : List (Nat × Value) := (List.range ls.size).filterMap (fun j : Nat => match (ls[j]? : Option Slot) with | some (Slot.val x) => some (j, x) | _ => none)
theorem ga_hl_mem {ls : Array Slot} {j : Nat} {x : Value} : (j, x) ∈ ga_hl ls ↔ ls[j]? = some (.val x) := by
  unfold ga_hl
  rw [List.mem_filterMap]
  constructor
  · rintro ⟨i, -, hi⟩
    cases hq : ls[i]? with
    | none => rw [hq] at hi; cases hi
    | some z =>
      rw [hq] at hi
      cases z with
      | val y => cases hi; exact hq
      | unset => cases hi
      | second => cases hi
  · intro hq
    exact ⟨j, List.mem_range.mpr (lv_lt hq), by rw [hq]⟩
theorem ga_hl_has {ls : Array Slot} {nL : Nat} (hs : ls.size = nL) (hw : lv_wf ls) : lv_has ls nL (ga_hl ls) := ⟨hs, hw, fun q hq => ga_hl_mem.mp hq⟩
theorem ga_getset {α : Type} {l : List α} {i j : Nat} {v w : α} (h : (l.set i v)[j]? = some w) : (j = i ∧ w = v) ∨ (¬ j = i ∧ l[j]? = some w) := by
  rw [List.getElem?_set] at h
  by_cases hj : i = j
  · rw [if_pos hj] at h
    split at h
    · cases h; exact Or.inl ⟨hj.symm, rfl⟩
    · cases h
  · rw [if_neg hj] at h
    exact Or.inr ⟨fun q => hj q.symm, h⟩
/-- the locals behind a store of one word -/
theorem ga_lr_set {nL : Nat} {al : List Nat} {ls ls' : Array Slot} {i v : Nat} {x : Value} (hl : ga_lr ρ oa ad nL al ls) (ha : ga_ahead al i = true) (hv : ga_vr ρ oa ad v x)
    (hh : lv_has ls' nL ((i, x) :: (ga_hl ls).filter (fun q => !(q.1 == i) && !(q.1 + 1 == i && q.2.category == 2)))) : ga_lr ρ oa ad nL (al.set i v) ls' := by
  refine ⟨hh.1, hh.2.1, by rw [List.length_set]; exact hl.2.2.1, fun j w hj h7 => ?_⟩
  rcases ga_getset hj with ⟨rfl, rfl⟩ | ⟨hne, hj2⟩
  · exact ⟨x, hv, hh.2.2 (_, x) List.mem_cons_self⟩
  · obtain ⟨y, g1, g2⟩ := hl.2.2.2 j w hj2 h7
    refine ⟨y, g1, hh.2.2 (j, y) (List.mem_cons_of_mem _ (List.mem_filter.mpr ⟨ga_hl_mem.mpr g2, ?_⟩))⟩
    have hc := ga_vr_cat g1
    simp only [Bool.and_eq_true, Bool.not_eq_true', beq_eq_false_iff_ne, ne_eq, Bool.and_eq_false_iff]
    refine ⟨hne, ?_⟩
    by_cases hi : j + 1 = i
    · right
      subst hi
      have h5 : ¬ w % 8 = 5 := by
        intro h5
        have e : ga_ahead al (j + 1) = ga_if (Nat.beq (ga_nth 7 al j % 8) 5) false true := rfl
        rw [e, ga_nth_eq, List.getD_eq_getElem?_getD, hj2] at ha
        simp [ga_if_eq, ga_beq, h5] at ha
      rw [hc, if_neg h5]
      decide
    · exact Or.inl hi
/-- the locals behind a store of two words -/
theorem ga_lr_set2 {nL : Nat} {al : List Nat} {ls ls' : Array Slot} {i v : Nat} {x : Value} (hl : ga_lr ρ oa ad nL al ls) (ha : ga_ahead al i = true) (hv : ga_vr ρ oa ad v x)
    (hh : lv_has ls' nL ((i, x) :: (ga_hl ls).filter (fun q => !(q.1 == i) && (!(q.1 == i + 1) && !(q.1 + 1 == i && q.2.category == 2))))) : ga_lr ρ oa ad nL ((al.set i v).set (i + 1) 7) ls' := by
  refine ⟨hh.1, hh.2.1, by rw [List.length_set, List.length_set]; exact hl.2.2.1, fun j w hj h7 => ?_⟩
  rcases ga_getset hj with ⟨rfl, rfl⟩ | ⟨hne2, hj1⟩
  · exact absurd rfl h7
  · rcases ga_getset hj1 with ⟨rfl, rfl⟩ | ⟨hne, hj2⟩
    · exact ⟨x, hv, hh.2.2 (_, x) List.mem_cons_self⟩
    · obtain ⟨y, g1, g2⟩ := hl.2.2.2 j w hj2 h7
      refine ⟨y, g1, hh.2.2 (j, y) (List.mem_cons_of_mem _ (List.mem_filter.mpr ⟨ga_hl_mem.mpr g2, ?_⟩))⟩
      have hc := ga_vr_cat g1
      simp only [Bool.and_eq_true, Bool.not_eq_true', beq_eq_false_iff_ne, ne_eq, Bool.and_eq_false_iff]
      refine ⟨hne, hne2, ?_⟩
      by_cases hi : j + 1 = i
      · right
        subst hi
        have h5 : ¬ w % 8 = 5 := by
          intro h5
          have e : ga_ahead al (j + 1) = ga_if (Nat.beq (ga_nth 7 al j % 8) 5) false true := rfl
          rw [e, ga_nth_eq, List.getD_eq_getElem?_getD, hj2] at ha
          simp [ga_if_eq, ga_beq, h5] at ha
        rw [hc, if_neg h5]
        decide
      · exact Or.inl hi
end GH
