/-! the world behind the machine's heap, and what it is to stand at a place of a method -/
/-- the array classes, by the machine's kinds -/
def ga_tys (ta : Nat → ClassId) : List (ClassId × FieldType) := [(ta 100, .int), (ta 101, .byte), (ta 102, .long), (ta 103, .object "GravyRound$Table"), (ta 104, .boolean)]
def ga_cr (ρ : Nat → Int32) (oa : Nat → Nat) (ta : Nat → ClassId) (ad : List Nat) (c : ga_C) (e : va_E) : Prop :=
  (c.1 < 100 ∧ ∃ fs : List Value, e = .inr (c.1, fs) ∧ fs.length = c.2.2.length ∧ ∀ (j v : Nat), c.2.2[j]? = some v → ∃ x, fs[j]? = some x ∧ ga_vr ρ oa ad v x) ∨
  ((c.1 = 100 ∨ c.1 = 101 ∨ c.1 = 104) ∧ ∃ f : Nat → Int32, e = .inl (ta c.1, c.2.1, .inl f) ∧ ∀ j, j < c.2.1 → ga_vr ρ oa ad (c.2.2.getD j 0) (.int (f j))) ∨
  (c.1 = 102 ∧ ∃ f : Nat → Int64, e = .inl (ta c.1, c.2.1, .inr (.inl f)) ∧ ∀ j, j < c.2.1 → ga_vr ρ oa ad (c.2.2.getD j 5) (.long (f j))) ∨
  (c.1 = 103 ∧ ∃ f : Nat → Option Nat, e = .inl (ta c.1, c.2.1, .inr (.inr (.inr (.inr f)))) ∧ ∀ j, j < c.2.1 → ga_vr ρ oa ad (c.2.2.getD j 4) (va_rf (f j)))
theorem ga_cr_mono {ρ : Nat → Int32} {oa : Nat → Nat} {ta : Nat → ClassId} {ad : List Nat} {c : ga_C} {e : va_E} (q : Nat) (h : ga_cr ρ oa ta ad c e) : ga_cr ρ oa ta (ad ++ [q]) c e := by
  rcases h with ⟨h, fs, h1, h2, h3⟩ | ⟨h, f, h1, h2⟩ | ⟨h, f, h1, h2⟩ | ⟨h, f, h1, h2⟩
  · exact Or.inl ⟨h, fs, h1, h2, fun j v hv => by obtain ⟨x, a1, a2⟩ := h3 j v hv; exact ⟨x, a1, ga_vr_mono q a2⟩⟩
  · exact Or.inr (Or.inl ⟨h, f, h1, fun j hj => ga_vr_mono q (h2 j hj)⟩)
  · exact Or.inr (Or.inr (Or.inl ⟨h, f, h1, fun j hj => ga_vr_mono q (h2 j hj)⟩))
  · exact Or.inr (Or.inr (Or.inr ⟨h, f, h1, fun j hj => ga_vr_mono q (h2 j hj)⟩))
/-- the addresses go on from those that stand in ta from 1001 on, ta 1000 of them -/
def ga_xt (ta : Nat → ClassId) (ad : List Nat) : Prop := ∀ k : Nat, k < ta 1000 → ad[k]? = some (ta (1001 + k))
/-- the cells are the machine's; their addresses are ad -/
def ga_Ws (ρ : Nat → Int32) (oa : Nat → Nat) (ta : Nat → ClassId) (D : va_G) (n0 n : Nat) (h : ga_H) (ad : List Nat) (ws : va_W) (H : Heap) : Prop :=
  va_P D gm_cl ws H ∧ va_D (fun q => n0 ≤ q) ws ∧ (ws.map Prod.fst = ad ∧ ga_xt ta ad) ∧ ad.length = n ∧ ∀ k, ¬ (ga_hg h k).1 = 999 → ∃ (a : Nat) (e : va_E), ws[k]? = some (a, e) ∧ ga_cr ρ oa ta ad (ga_hg h k) e
def ga_sr (ρ : Nat → Int32) (oa : Nat → Nat) (ad : List Nat) : List Nat → List Value → Prop
  | [], [] => True
  | v :: r, x :: t => ga_vr ρ oa ad v x ∧ ga_sr ρ oa ad r t
  | _, _ => False
def ga_lr (ρ : Nat → Int32) (oa : Nat → Nat) (ad : List Nat) (nL : Nat) (al : List Nat) (ls : Array Slot) : Prop :=
  ls.size = nL ∧ lv_wf ls ∧ al.length = nL ∧ ∀ (i v : Nat), al[i]? = some v → ¬ v % 8 = 7 → ∃ x, ga_vr ρ oa ad v x ∧ ls[i]? = some (.val x)
theorem ga_sr_mono {ρ : Nat → Int32} {oa : Nat → Nat} {ad : List Nat} (q : Nat) : ∀ {sk : List Nat} {st : List Value}, ga_sr ρ oa ad sk st → ga_sr ρ oa (ad ++ [q]) sk st
  | [], [], _ => trivial
  | _ :: _, _ :: _, h => ⟨ga_vr_mono q h.1, ga_sr_mono q h.2⟩
  | [], _ :: _, h => h.elim
  | _ :: _, [], h => h.elim
theorem ga_sr_cons {ρ : Nat → Int32} {oa : Nat → Nat} {ad : List Nat} {v : Nat} {r : List Nat} {st : List Value} (h : ga_sr ρ oa ad (v :: r) st) : ∃ x t, st = x :: t ∧ ga_vr ρ oa ad v x ∧ ga_sr ρ oa ad r t := by
  cases st with
  | nil => exact h.elim
  | cons x t => exact ⟨x, t, rfl, h.1, h.2⟩
theorem ga_sr_nil {ρ : Nat → Int32} {oa : Nat → Nat} {ad : List Nat} {st : List Value} (h : ga_sr ρ oa ad [] st) : st = [] := by
  cases st with
  | nil => rfl
  | cons x t => exact h.elim
theorem ga_lr_mono {ρ : Nat → Int32} {oa : Nat → Nat} {ad : List Nat} {nL : Nat} {al : List Nat} {ls : Array Slot} (q : Nat) (h : ga_lr ρ oa ad nL al ls) : ga_lr ρ oa (ad ++ [q]) nL al ls :=
  ⟨h.1, h.2.1, h.2.2.1, fun i v h1 h2 => by obtain ⟨x, a1, a2⟩ := h.2.2.2 i v h1 h2; exact ⟨x, ga_vr_mono q a1, a2⟩⟩
/-- a machine state and a state of the JVM, in a method that began at s -/
def ga_At (ρ : Nat → Int32) (oa : Nat → Nat) (ta : Nat → ClassId) (D : va_G) (n0 nL : Nat) (s : State) (al sk : List Nat) (iv : ga_I) (n : Nat) (h : ga_H) (H : Heap) (locs : List Loc) (ls : Array Slot) (st : List Value) : Prop :=
  ga_in ρ iv ∧ va_S (fun q => n0 ≤ q) s.heap H locs ∧ ∃ (ad : List Nat) (ws : va_W), ga_Ws ρ oa ta D n0 n h ad ws H ∧ ga_lr ρ oa ad nL al ls ∧ ga_sr ρ oa ad sk st
def ga_Go (p : Program) (l : Launch) (e : Env) (R : Room) (s : State) (m : MethodId) (args : Array Value) (below : List Frame) (meth : Method) (c : Code) (Q : State → Prop) (ρ : Nat → Int32) (oa : Nat → Nat) (ta : Nat → ClassId) (D : va_G) (n0 nL : Nat) (cds : List ga_E) (al sk : List Nat) (cs ss : Nat) (iv : ga_I) (n : Nat) (h : ga_H) : Prop :=
  ∀ (H : Heap) (locs : List Loc) (ls : Array Slot) (st : List Value), ga_At ρ oa ta D n0 nL s al sk iv n h H locs ls st → W p l e R s m args below meth c H locs cs ss Q (F0 m (ga_pc cds) ls st)
section GW
variable {p : Program} {l : Launch} {e : Env} {R : Room} {s : State} {m : MethodId} {args : Array Value} {below : List Frame} {meth : Method} {c : Code} {Q : State → Prop}
variable {ρ : Nat → Int32} {oa : Nat → Nat} {ta : Nat → ClassId} {D : va_G} {n0 nL : Nat} {cc : ByteArray} {pc : Nat} {nx cds : List ga_E} {al sk : List Nat} {cs ss : Nat} {iv : ga_I} {n : Nat} {h : ga_H}
/-- numbers on the stack -/
theorem gg_push {v : Nat} {x : Value} (hc : ga_pc cds = pc) (hrow : ∀ (H : Heap) (locs : List Loc) (ls : Array Slot) (st : List Value), W p l e R s m args below meth c H locs cs ss Q (F0 m (ga_pc nx) ls (x :: st)) → W p l e R s m args below meth c H locs cs ss Q (F0 m pc ls st))
    (hv : ∀ ad, ga_vr ρ oa ad v x) (k : ga_Go p l e R s m args below meth c Q ρ oa ta D n0 nL nx al (v :: sk) cs ss iv n h) : ga_Go p l e R s m args below meth c Q ρ oa ta D n0 nL cds al sk cs ss iv n h := by
  intro H locs ls st hat
  obtain ⟨hi, hS, ad, ws, hw, hl, hs⟩ := hat
  rw [hc]
  exact hrow H locs ls st (k H locs ls (x :: st) ⟨hi, hS, ad, ws, hw, hl, hv ad, hs⟩)
theorem gg_load {v i : Nat} (hc : ga_pc cds = pc) (hv : ga_nth 7 al i = v) (h7 : ¬ v % 8 = 7) (hrow : ∀ (H : Heap) (locs : List Loc) (ls : Array Slot) (st : List Value) (ad : List Nat) (x : Value), ga_vr ρ oa ad v x → ls[i]? = some (.val x) → W p l e R s m args below meth c H locs cs ss Q (F0 m (ga_pc nx) ls (x :: st)) → W p l e R s m args below meth c H locs cs ss Q (F0 m pc ls st))
    (k : ga_Go p l e R s m args below meth c Q ρ oa ta D n0 nL nx al (v :: sk) cs ss iv n h) : ga_Go p l e R s m args below meth c Q ρ oa ta D n0 nL cds al sk cs ss iv n h := by
  intro H locs ls st hat
  obtain ⟨hi, hS, ad, ws, hw, hl, hs⟩ := hat
  have hg : al[i]? = some v := by
    rw [ga_nth_eq, List.getD_eq_getElem?_getD] at hv
    cases hq : al[i]? with
    | none => rw [hq] at hv; exact absurd (by rw [← hv]; rfl) h7
    | some w => rw [hq] at hv; exact congrArg some hv
  obtain ⟨x, h1, h2⟩ := hl.2.2.2 i v hg h7
  rw [hc]
  exact hrow H locs ls st ad x h1 h2 (k H locs ls (x :: st) ⟨hi, hS, ad, ws, hw, hl, h1, hs⟩)
theorem gg_op1 {f : Nat → Nat} {x : Nat} {r : List Nat} (hc : ga_pc cds = pc) (h7 : ¬ f (ga_sm iv x) % 8 = 7)
    (hrow : ∀ (H : Heap) (locs : List Loc) (ls : Array Slot) (st : List Value) (ad : List Nat) (vx : Value), ga_vr ρ oa ad (ga_sm iv x) vx → ∃ z : Value, ga_vr ρ oa ad (f (ga_sm iv x)) z ∧ (W p l e R s m args below meth c H locs cs ss Q (F0 m (ga_pc nx) ls (z :: st)) → W p l e R s m args below meth c H locs cs ss Q (F0 m pc ls (vx :: st))))
    (k : ga_Go p l e R s m args below meth c Q ρ oa ta D n0 nL nx al (f (ga_sm iv x) :: r) cs ss iv n h) : ga_Go p l e R s m args below meth c Q ρ oa ta D n0 nL cds al (x :: r) cs ss iv n h := by
  intro H locs ls st hat
  obtain ⟨hi, hS, ad, ws, hw, hl, hs⟩ := hat
  obtain ⟨vx, t, rfl, h1, hs⟩ := ga_sr_cons hs
  obtain ⟨z, g1, g2⟩ := hrow H locs ls t ad vx (ga_sm_ok hi h1)
  rw [hc]
  exact g2 (k H locs ls (z :: t) ⟨hi, hS, ad, ws, hw, hl, g1, hs⟩)
theorem gg_op2 {f : Nat → Nat → Nat} {x y : Nat} {r : List Nat} (hc : ga_pc cds = pc)
    (hrow : ∀ (H : Heap) (locs : List Loc) (ls : Array Slot) (st : List Value) (ad : List Nat) (vx vy : Value), ga_vr ρ oa ad (ga_sm iv x) vx → ga_vr ρ oa ad (ga_sm iv y) vy → ∃ z : Value, ga_vr ρ oa ad (f (ga_sm iv x) (ga_sm iv y)) z ∧ (W p l e R s m args below meth c H locs cs ss Q (F0 m (ga_pc nx) ls (z :: st)) → W p l e R s m args below meth c H locs cs ss Q (F0 m pc ls (vy :: vx :: st))))
    (k : ga_Go p l e R s m args below meth c Q ρ oa ta D n0 nL nx al (f (ga_sm iv x) (ga_sm iv y) :: r) cs ss iv n h) : ga_Go p l e R s m args below meth c Q ρ oa ta D n0 nL cds al (y :: x :: r) cs ss iv n h := by
  intro H locs ls st hat
  obtain ⟨hi, hS, ad, ws, hw, hl, hs⟩ := hat
  obtain ⟨vy, t, rfl, h1, hs⟩ := ga_sr_cons hs
  obtain ⟨vx, t, rfl, h2, hs⟩ := ga_sr_cons hs
  obtain ⟨z, g1, g2⟩ := hrow H locs ls t ad vx vy (ga_sm_ok hi h2) (ga_sm_ok hi h1)
  rw [hc]
  exact g2 (k H locs ls (z :: t) ⟨hi, hS, ad, ws, hw, hl, g1, hs⟩)
/-- the bounds may be wider in the proof of what follows -/
theorem gg_iv {iv' : ga_I} {al' sk' : List Nat} (hb : ga_in ρ iv → ga_in ρ iv') (k : ga_Go p l e R s m args below meth c Q ρ oa ta D n0 nL cds al' sk' cs ss iv' n h) : ga_Go p l e R s m args below meth c Q ρ oa ta D n0 nL cds al' sk' cs ss iv n h := by
  intro H locs ls st hat
  obtain ⟨hi, r⟩ := hat
  exact k H locs ls st ⟨hb hi, r⟩
theorem gg_goto (hc : ga_pc cds = pc) (hrow : ∀ (H : Heap) (locs : List Loc) (ls : Array Slot) (st : List Value), W p l e R s m args below meth c H locs cs ss Q (F0 m (ga_pc nx) ls st) → W p l e R s m args below meth c H locs cs ss Q (F0 m pc ls st)) (k : ga_Go p l e R s m args below meth c Q ρ oa ta D n0 nL nx al sk cs ss iv n h) : ga_Go p l e R s m args below meth c Q ρ oa ta D n0 nL cds al sk cs ss iv n h := by
  intro H locs ls st hat
  rw [hc]
  exact hrow H locs ls st (k H locs ls st hat)
/-- a branch by an order or an equality of the two numbers, told in a list of ways -/
theorem gg_br {o : List (Bool × ga_I)} {kt kf : ga_I → Option (List ga_O)} {os : List ga_O} {cdt cdf : List ga_E} {x y : Nat} {r : List Nat} {P : Int32 → Int32 → Prop} (hc : ga_pc cds = pc) (ho : ga_br o kt kf = some os) (ix : ga_int x = true) (iy : ga_int y = true)
    (hP : ∀ (ad : List Nat) (X Y : Int32), ga_in ρ iv → ga_vr ρ oa ad x (.int X) → ga_vr ρ oa ad y (.int Y) → ∃ q ∈ o, ga_in ρ q.2 ∧ (q.1 = true ↔ P X Y))
    (hrow : ∀ (H : Heap) (locs : List Loc) (ls : Array Slot) (st : List Value) (X Y : Int32), (P X Y → W p l e R s m args below meth c H locs cs ss Q (F0 m (ga_pc cdt) ls st)) → (¬ P X Y → W p l e R s m args below meth c H locs cs ss Q (F0 m (ga_pc cdf) ls st)) → W p l e R s m args below meth c H locs cs ss Q (F0 m pc ls (.int Y :: .int X :: st)))
    (Kt : ∀ iv' o1, kt iv' = some o1 → (∀ z ∈ o1, z ∈ os) → ga_Go p l e R s m args below meth c Q ρ oa ta D n0 nL cdt al r cs ss iv' n h) (Kf : ∀ iv' o1, kf iv' = some o1 → (∀ z ∈ o1, z ∈ os) → ga_Go p l e R s m args below meth c Q ρ oa ta D n0 nL cdf al r cs ss iv' n h) : ga_Go p l e R s m args below meth c Q ρ oa ta D n0 nL cds al (y :: x :: r) cs ss iv n h := by
  intro H locs ls st hat
  obtain ⟨hi, hS, ad, ws, hw, hl, hs⟩ := hat
  obtain ⟨vy, t1, rfl, h1, hs1⟩ := ga_sr_cons hs
  obtain ⟨vx, t, rfl, h2, hs2⟩ := ga_sr_cons hs1
  obtain ⟨X, rfl⟩ := ga_vr_int ix h2
  obtain ⟨Y, rfl⟩ := ga_vr_int iy h1
  obtain ⟨q, hq, hin, hiff⟩ := hP ad X Y hi h2 h1
  obtain ⟨o1, g1, g2⟩ := ga_all_mem ho hq
  rw [hc]
  refine hrow H locs ls t X Y (fun hp => ?_) (fun hp => ?_)
  · rw [hiff.mpr hp, ga_if_t] at g1
    exact Kt q.2 o1 g1 g2 H locs ls t ⟨hin, hS, ad, ws, hw, hl, hs2⟩
  · have hf : q.1 = false := by
      cases hb : q.1 with
      | false => rfl
      | true => exact absurd (hiff.mp hb) hp
    rw [hf, ga_if_f] at g1
    exact Kf q.2 o1 g1 g2 H locs ls t ⟨hin, hS, ad, ws, hw, hl, hs2⟩
/-- the same against 0 -/
theorem gg_br0 {o : List (Bool × ga_I)} {kt kf : ga_I → Option (List ga_O)} {os : List ga_O} {cdt cdf : List ga_E} {x : Nat} {r : List Nat} {P : Int32 → Prop} (hc : ga_pc cds = pc) (ho : ga_br o kt kf = some os) (ix : ga_int x = true)
    (hP : ∀ (ad : List Nat) (X : Int32), ga_in ρ iv → ga_vr ρ oa ad x (.int X) → ∃ q ∈ o, ga_in ρ q.2 ∧ (q.1 = true ↔ P X))
    (hrow : ∀ (H : Heap) (locs : List Loc) (ls : Array Slot) (st : List Value) (X : Int32), (P X → W p l e R s m args below meth c H locs cs ss Q (F0 m (ga_pc cdt) ls st)) → (¬ P X → W p l e R s m args below meth c H locs cs ss Q (F0 m (ga_pc cdf) ls st)) → W p l e R s m args below meth c H locs cs ss Q (F0 m pc ls (.int X :: st)))
    (Kt : ∀ iv' o1, kt iv' = some o1 → (∀ z ∈ o1, z ∈ os) → ga_Go p l e R s m args below meth c Q ρ oa ta D n0 nL cdt al r cs ss iv' n h) (Kf : ∀ iv' o1, kf iv' = some o1 → (∀ z ∈ o1, z ∈ os) → ga_Go p l e R s m args below meth c Q ρ oa ta D n0 nL cdf al r cs ss iv' n h) : ga_Go p l e R s m args below meth c Q ρ oa ta D n0 nL cds al (x :: r) cs ss iv n h := by
  intro H locs ls st hat
  obtain ⟨hi, hS, ad, ws, hw, hl, hs⟩ := hat
  obtain ⟨vx, t, rfl, h2, hs2⟩ := ga_sr_cons hs
  obtain ⟨X, rfl⟩ := ga_vr_int ix h2
  obtain ⟨q, hq, hin, hiff⟩ := hP ad X hi h2
  obtain ⟨o1, g1, g2⟩ := ga_all_mem ho hq
  rw [hc]
  refine hrow H locs ls t X (fun hp => ?_) (fun hp => ?_)
  · rw [hiff.mpr hp, ga_if_t] at g1
    exact Kt q.2 o1 g1 g2 H locs ls t ⟨hin, hS, ad, ws, hw, hl, hs2⟩
  · have hf : q.1 = false := by
      cases hb : q.1 with
      | false => rfl
      | true => exact absurd (hiff.mp hb) hp
    rw [hf, ga_if_f] at g1
    exact Kf q.2 o1 g1 g2 H locs ls t ⟨hin, hS, ad, ws, hw, hl, hs2⟩
end GW
