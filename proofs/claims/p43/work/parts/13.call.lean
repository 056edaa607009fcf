/-! calls -/
def ga_ex (ad ad' : List Nat) : Prop := ∀ (k a : Nat), ad[k]? = some a → ad'[k]? = some a
theorem ga_ex_app (ad : List Nat) (q : Nat) : ga_ex ad (ad ++ [q]) := fun k a h => by
  rw [List.getElem?_append_left]
  · exact h
  · rcases Nat.lt_or_ge k ad.length with hl | hl
    · exact hl
    · rw [List.getElem?_eq_none hl] at h; cases h
theorem ga_ex_rf (ad : List Nat) : ga_ex ad ad := fun _ _ h => h
theorem ga_ex_tr {a b c : List Nat} (h1 : ga_ex a b) (h2 : ga_ex b c) : ga_ex a c := fun k x h => h2 k x (h1 k x h)
theorem ga_vr_ex {ρ : Nat → Int32} {oa : Nat → Nat} {ad ad' : List Nat} {v : Nat} {x : Value} (he : ga_ex ad ad') (h : ga_vr ρ oa ad v x) : ga_vr ρ oa ad' v x := by
  have h8 : v % 8 < 8 := Nat.mod_lt _ (by decide)
  by_cases h3 : v % 8 = 3
  · obtain ⟨a, h1, h2⟩ := (ga_vr_3 h3).mp h
    exact (ga_vr_3 h3).mpr ⟨a, he _ _ h1, h2⟩
  · unfold ga_vr at h ⊢
    generalize v % 8 = t at h h3 h8 ⊢
    match t, h3, h8, h with
    | 0, _, _, h => exact h
    | 1, _, _, h => exact h
    | 2, _, _, h => exact h
    | 4, _, _, h => exact h
    | 5, _, _, h => exact h
    | 6, _, _, h => exact h
    | 7, _, _, h => exact h
theorem ga_sr_ex {ρ : Nat → Int32} {oa : Nat → Nat} {ad ad' : List Nat} (he : ga_ex ad ad') : ∀ {sk : List Nat} {st : List Value}, ga_sr ρ oa ad sk st → ga_sr ρ oa ad' sk st
  | [], [], _ => trivial
  | _ :: _, _ :: _, h => ⟨ga_vr_ex he h.1, ga_sr_ex he h.2⟩
  | [], _ :: _, h => h.elim
  | _ :: _, [], h => h.elim
theorem ga_lr_ex {ρ : Nat → Int32} {oa : Nat → Nat} {ad ad' : List Nat} {nL : Nat} {al : List Nat} {ls : Array Slot} (he : ga_ex ad ad') (h : ga_lr ρ oa ad nL al ls) : ga_lr ρ oa ad' nL al ls :=
  ⟨h.1, h.2.1, h.2.2.1, fun i v h1 h2 => by obtain ⟨x, a1, a2⟩ := h.2.2.2 i v h1 h2; exact ⟨x, ga_vr_ex he a1, a2⟩⟩
/-- what a method of the world may find: the machine's cells, the arguments; what else is so there -/
def ga_Pc (ρ : Nat → Int32) (oa : Nat → Nat) (ta : Nat → ClassId) (D : va_G) (n0 : Nat) (old : State → Prop) (ad as : List Nat) (iv : ga_I) (n : Nat) (h : ga_H) : Array Value → State → Prop := fun v U =>
  (∃ vs : List Value, v = vs.toArray ∧ ga_sr ρ oa ad as vs) ∧ ga_in ρ iv ∧ (∃ ws, ga_Ws ρ oa ta D n0 n h ad ws U.heap) ∧ va_K D gm_cl (ga_tys ta) U ∧ n0 ≤ U.heap.size ∧ old U
def ga_Qc (ρ : Nat → Int32) (oa : Nat → Nat) (ta : Nat → ClassId) (D : va_G) (n0 rc : Nat) (ad : List Nat) (os : List ga_A) : Array Value → State → Outcome → State → Prop := fun _ st oc t =>
  (∃ o ∈ os, ga_in ρ o.2.1 ∧ ∃ ad' ws', ga_ex ad ad' ∧ ga_Ws ρ oa ta D n0 o.2.2.1 o.2.2.2 ad' ws' t.heap ∧ ((rc = 0 ∧ oc = .returned none) ∨ (¬ rc = 0 ∧ ∃ x, oc = .returned (some x) ∧ ga_vr ρ oa ad' o.1 x))) ∧ va_F (fun q => n0 ≤ q) st t
/-- the arguments off the stack -/
theorem ga_take_eq {β : Type} {z : β} : ∀ (m : Nat) (acc sk : List Nat) (K : List Nat → List Nat → β), ga_take m acc sk K z = z ∨ ∃ as t, sk = as.reverse ++ t ∧ as.length = m ∧ ga_take m acc sk K z = K (as ++ acc) t
  | 0, acc, sk, K => Or.inr ⟨[], sk, rfl, rfl, rfl⟩
  | m + 1, acc, [], K => Or.inl rfl
  | m + 1, acc, v :: r, K => by
    have e : ga_take (m + 1) acc (v :: r) K z = ga_take m (v :: acc) r K z := rfl
    rw [e]
    rcases ga_take_eq m (v :: acc) r K with h | ⟨as, t, h1, h2, h3⟩
    · exact Or.inl h
    · refine Or.inr ⟨as ++ [v], t, ?_, ?_, ?_⟩
      · rw [List.reverse_append, h1]; rfl
      · rw [List.length_append, h2]; rfl
      · rw [h3, List.append_assoc]; rfl
theorem ga_sr_app {ρ : Nat → Int32} {oa : Nat → Nat} {ad : List Nat} : ∀ {a b : List Nat} {st : List Value}, ga_sr ρ oa ad (a ++ b) st → ∃ x y, st = x ++ y ∧ ga_sr ρ oa ad a x ∧ ga_sr ρ oa ad b y
  | [], b, st, h => ⟨[], st, rfl, trivial, h⟩
  | v :: r, b, [], h => h.elim
  | v :: r, b, z :: st, h => by
    obtain ⟨x, y, h1, h2, h3⟩ := ga_sr_app h.2
    exact ⟨z :: x, y, by rw [h1]; rfl, ⟨h.1, h2⟩, h3⟩
theorem ga_sr_join {ρ : Nat → Int32} {oa : Nat → Nat} {ad : List Nat} : ∀ {a b : List Nat} {x y : List Value}, ga_sr ρ oa ad a x → ga_sr ρ oa ad b y → ga_sr ρ oa ad (a ++ b) (x ++ y)
  | [], b, [], y, _, h2 => h2
  | _ :: _, b, _ :: _, y, h1, h2 => ⟨h1.1, ga_sr_join h1.2 h2⟩
  | [], b, _ :: _, y, h1, _ => h1.elim
  | _ :: _, b, [], y, h1, _ => h1.elim
theorem ga_sr_rev {ρ : Nat → Int32} {oa : Nat → Nat} {ad : List Nat} : ∀ {a : List Nat} {x : List Value}, ga_sr ρ oa ad a x → ga_sr ρ oa ad a.reverse x.reverse
  | [], [], _ => trivial
  | v :: r, z :: t, h => by
    rw [List.reverse_cons, List.reverse_cons]
    exact ga_sr_join (ga_sr_rev h.2) ⟨h.1, trivial⟩
  | [], _ :: _, h => h.elim
  | _ :: _, [], h => h.elim
theorem ga_sr_len {ρ : Nat → Int32} {oa : Nat → Nat} {ad : List Nat} : ∀ {a : List Nat} {x : List Value}, ga_sr ρ oa ad a x → a.length = x.length
  | [], [], _ => rfl
  | _ :: _, _ :: _, h => by rw [List.length_cons, List.length_cons, ga_sr_len h.2]
  | [], _ :: _, h => h.elim
  | _ :: _, [], h => h.elim
section GC
variable {p : Program} {l : Launch} {e : Env} {R : Room} {s : State} {m : MethodId} {args : Array Value} {below : List Frame} {meth : Method} {c : Code} {Q : State → Prop}
variable {ρ : Nat → Int32} {oa : Nat → Nat} {ta : Nat → ClassId} {D : va_G} {n0 nL : Nat} {cc : ByteArray} {pc : Nat} {nx cds : List ga_E} {al sk : List Nat} {cs ss : Nat} {iv : ga_I} {n : Nat} {h : ga_H}
theorem gg_call {as t : List Nat} {mc ms rc : Nat} {os : List ga_A} (hc : ga_pc cds = pc) (hn : ga_pc nx = pc + 3)
    (hrun : ∀ (H : Heap) (locs : List Loc) (ls : Array Slot) (ad : List Nat) (ws : va_W) (vs st : List Value), ga_in ρ iv → va_S (fun q => n0 ≤ q) s.heap H locs → ga_Ws ρ oa ta D n0 n h ad ws H → ls.size = nL → ga_sr ρ oa ad as vs → ga_sr ρ oa ad t st →
      va_Run p l e R s m args below meth c H locs cs ss mc ms (F0 m pc ls (vs.reverse ++ st)) st (ga_Qc ρ oa ta D n0 rc ad os vs.toArray) (fun q => n0 ≤ q))
    (k : ∀ o ∈ os, ga_Go p l e R s m args below meth c Q ρ oa ta D n0 nL nx al (ga_ret rc o.1 t) (cs + mc) (ss + ms) o.2.1 o.2.2.1 o.2.2.2) : ga_Go p l e R s m args below meth c Q ρ oa ta D n0 nL cds al (as.reverse ++ t) cs ss iv n h := by
  intro H locs ls st hat
  obtain ⟨hi, hS, ad, ws, hw, hl, hs⟩ := hat
  obtain ⟨x, y, rfl, hx, hy⟩ := ga_sr_app hs
  have hx2 := ga_sr_rev hx
  rw [List.reverse_reverse] at hx2
  have hr := hrun H locs ls ad ws x.reverse y hi hS hw hl.1 hx2 hy
  rw [List.reverse_reverse] at hr
  rw [hc]
  intro T hT X
  obtain ⟨v, st₀, t', T', L, h0, X', hL, e1, e2, ⟨⟨o, ho, hin, ad', ws', hex, hw', hret⟩, hz, hk⟩, st⟩ := hr T hT X
  rw [h0] at hz hk
  have hS' : va_S (fun q => n0 ≤ q) s.heap T'.heap (locs ++ L) := by
    refine ⟨Nat.le_trans hS.1 (by rw [e1]; exact hz), fun q h1 h2 => ?_, fun q hq => ?_⟩
    · rw [e1, hk q (Nat.lt_of_lt_of_le h1 hS.1) h2]
      exact hS.2.1 q h1 h2
    · rcases List.mem_append.mp hq with h | h
      · exact hS.2.2 q h
      · exact hL q h
  have hstk : ga_sr ρ oa ad' (ga_ret rc o.1 t) (v.toList ++ y) := by
    unfold ga_ret
    simp only [ga_if_eq, ga_beq]
    rcases hret with ⟨h1, h2⟩ | ⟨h1, z, h2, h3⟩
    · rw [if_pos h1]
      cases h2
      exact ga_sr_ex hex hy
    · rw [if_neg h1]
      cases h2
      exact ⟨h3, ga_sr_ex hex hy⟩
  have kk := k o ho T'.heap (locs ++ L) ls (v.toList ++ y) ⟨hin, hS', ad', ws', by rw [e1]; exact hw', ga_lr_ex hex hl, hstk⟩
  obtain ⟨t2, a1, b1⟩ := kk T' rfl X'
  refine ⟨t2, st t2 ?_, b1⟩
  rw [hn] at a1
  exact a1
end GC
