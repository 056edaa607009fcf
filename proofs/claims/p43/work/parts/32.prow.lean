/-! one step of the plain machine is a step of the JVM -/
/-- what was there before stays: the nest words are there -/
def gp_OL (n0 : Nat) (old : State → Prop) : Prop :=
  (∀ U, old U → ∀ w ∈ gw_nest, va_Nw w U) ∧
  (∀ (s U : State) (H : Heap) (locs : List Loc), old s → va_S (fun q => n0 ≤ q) s.heap H locs → n0 ≤ s.heap.size → U.heap = H → s.WarmedH U.vm → old U) ∧
  (∀ s U : State, old s → U.heap = s.heap → U.vm = s.vm → old U)
/-- the signs' text and its indexOf, as rows -/
def gp_TX (p : Program) (l : Launch) (e : Env) (R : Room) (s : State) (m : MethodId) (args : Array Value) (below : List Frame) (meth : Method) (c : Code) (Q : State → Prop) (oa : Nat → Nat) (n0 nL : Nat) (own : String) (cc : ByteArray) (nc ns : Nat) : Prop :=
  (∀ (H : Heap) (locs : List Loc) (ls : Array Slot) (st : List Value) (pc : Nat), own = "GravyRound$Tokens" → decode cc pc = .ok (.ldc 75, 2) → va_S (fun q => n0 ≤ q) s.heap H locs → W p l e R s m args below meth c H locs nc ns Q (F0 m (pc + 2) ls (.ref (oa 3) :: st)) → W p l e R s m args below meth c H locs nc ns Q (F0 m pc ls st)) ∧
  (∀ (H : Heap) (locs : List Loc) (ls : Array Slot) (st : List Value) (idx pc : Nat) (I : Int32), Cond.methodLink own idx ga_yIdx ∈ gw_tbl → decode cc pc = .ok (.invokevirtual idx, 3) → ls.size = nL → (st.map fun v => v.category).sum ≤ 8 → va_S (fun q => n0 ≤ q) s.heap H locs → (∀ Z : Int32, W p l e R s m args below meth c H locs nc ns Q (F0 m (pc + 3) ls (.int Z :: st))) → W p l e R s m args below meth c H locs nc ns Q (F0 m pc ls (.int I :: .ref (oa 3) :: st)))
def gp_Pc (oa : Nat → Nat) (ta : Nat → ClassId) (D : va_G) (n0 : Nat) (old : State → Prop) (sh : Nat → gp_T) (ad : List Nat) (as : List gp_V) (σ : gp_S) : Array Value → State → Prop := fun v U =>
  (∃ vs : List Value, v = vs.toArray ∧ gp_sr oa ad as vs) ∧ (∃ ws, gp_Wr oa ta D n0 ad sh σ ws U.heap) ∧ va_K D gm_cl (ga_tys ta) U ∧ n0 ≤ U.heap.size ∧ old U
def gp_Qc (oa : Nat → Nat) (ta : Nat → ClassId) (D : va_G) (n0 : Nat) (sh : Nat → gp_T) (rc : Nat) (ad : List Nat) (Φ : gp_F) : Array Value → State → Outcome → State → Prop := fun _ st oc t =>
  (∃ v σ', Φ v σ' ∧ (∃ ws', gp_Wr oa ta D n0 ad sh σ' ws' t.heap) ∧ ((rc = 0 ∧ oc = .returned none) ∨ (¬ rc = 0 ∧ ∃ x, oc = .returned (some x) ∧ gp_vr oa ad v x))) ∧ va_F (fun q => n0 ≤ q) st t
noncomputable def gp_rm (d : Nat) : Room := { frames := d + 10, cells := 0, slots := 0, locals := 100 * (d + 10) }
/-- the calls of depth d are right -/
def gp_CS (l : Launch) (oa : Nat → Nat) (ta : Nat → ClassId) (D : va_G) (n0 : Nat) (old : State → Prop) (sh : Nat → gp_T) (ad : List Nat) (d : Nat) (call : gp_K) : Prop :=
  ∀ k as σ Φ, call k as σ Φ → k < 313 ∧ as.length = gm_na k ∧ Met l (gm_i k).1 (gw_m k) (gp_rm d) (gp_Pc oa ta D n0 old sh ad as σ) (gp_Qc oa ta D n0 sh (gm_rc k) ad Φ) 0 0 (fun q => n0 ≤ q)
theorem gp_Pc_blind {oa : Nat → Nat} {ta : Nat → ClassId} {D : va_G} {n0 : Nat} {old : State → Prop} {sh : Nat → gp_T} {ad : List Nat} {as : List gp_V} {σ : gp_S} (HO : gp_OL n0 old) : FrameBlind (gp_Pc oa ta D n0 old sh ad as σ) := by
  intro a U g mk hp
  obtain ⟨h1, h3, h4, h5, h6⟩ := hp
  exact ⟨h1, h3, va_K.moved (u := U) (U := U.calling g mk a) (Vm.Alike.refl U.vm) h4, h5, HO.2.2 U _ h6 rfl rfl⟩
section PX
variable {p : Program} {l : Launch} {e : Env} {R : Room} {s : State} {m : MethodId} {args : Array Value} {below : List Frame} {meth : Method} {c : Code} {Q : State → Prop}
variable {oa : Nat → Nat} {ta : Nat → ClassId} {D : va_G} {n0 nL d nc ns : Nat} {ad : List Nat} {sh : Nat → gp_T} {old : State → Prop} {own : String} {cc : ByteArray} {ini : Bool} {pc : Nat} {al sk : List gp_V} {σ : gp_S} {C : gp_K} {G : gp_G}
theorem gp_push {z : Nat} {v : gp_V} {x : Value} (HG : ∀ pc al sk σ, G pc al sk σ → gp_Go p l e R s m args below meth c Q oa ta D n0 nL ad sh nc ns pc al sk σ) (hv : gp_vr oa ad v x) (hrow : ∀ (H : Heap) (locs : List Loc) (ls : Array Slot) (st : List Value), va_S (fun q => n0 ≤ q) s.heap H locs → W p l e R s m args below meth c H locs nc ns Q (F0 m z ls (x :: st)) → W p l e R s m args below meth c H locs nc ns Q (F0 m pc ls st)) (h : G z al (v :: sk) σ) : gp_Go p l e R s m args below meth c Q oa ta D n0 nL ad sh nc ns pc al sk σ := by
  intro H locs ls st hat
  obtain ⟨hS, ws, hw, hl, hs⟩ := hat
  exact hrow H locs ls st hS (HG _ _ _ _ h H locs ls (x :: st) ⟨hS, ws, hw, hl, hv, hs⟩)
theorem gp_load {z i : Nat} {ok : gp_V → Bool} (h7 : ok (.inr 7) = false) (HG : ∀ pc al sk σ, G pc al sk σ → gp_Go p l e R s m args below meth c Q oa ta D n0 nL ad sh nc ns pc al sk σ) (hrow : ∀ (H : Heap) (locs : List Loc) (ls : Array Slot) (st : List Value) (v : gp_V) (x : Value), ok v = true → gp_vr oa ad v x → ls[i]? = some (.val x) → W p l e R s m args below meth c H locs nc ns Q (F0 m z ls (x :: st)) → W p l e R s m args below meth c H locs nc ns Q (F0 m pc ls st)) (h : gp_ld ok i (fun v => G z al (v :: sk) σ) al) : gp_Go p l e R s m args below meth c Q oa ta D n0 nL ad sh nc ns pc al sk σ := by
  intro H locs ls st hat
  obtain ⟨hS, ws, hw, hl, hs⟩ := hat
  unfold gp_ld at h
  split at h
  · rename_i v hv
    obtain ⟨x, g1, g2⟩ := hl.2.2.2 i v hv (fun q => by rw [q, h7] at h; cases h.1)
    exact hrow H locs ls st v x h.1 g1 g2 (HG _ _ _ _ h.2 H locs ls (x :: st) ⟨hS, ws, hw, hl, g1, hs⟩)
  · exact h.elim
theorem gp_stor {z i : Nat} {ok : gp_V → Bool} (HG : ∀ pc al sk σ, G pc al sk σ → gp_Go p l e R s m args below meth c Q oa ta D n0 nL ad sh nc ns pc al sk σ)
    (hrow : ∀ (H : Heap) (locs : List Loc) (ls : Array Slot) (st : List Value) (v : gp_V) (x : Value), ok v = true → gp_vr oa ad v x → lv_has ls nL (ga_hl ls) → (∀ ls', lv_has ls' nL ((i, x) :: (ga_hl ls).filter (fun q => !(q.1 == i) && !(q.1 + 1 == i && q.2.category == 2))) → W p l e R s m args below meth c H locs nc ns Q (F0 m z ls' st)) → W p l e R s m args below meth c H locs nc ns Q (F0 m pc ls (x :: st)))
    (h : gp_st ok i (fun al sk => G z al sk σ) al sk) : gp_Go p l e R s m args below meth c Q oa ta D n0 nL ad sh nc ns pc al sk σ := by
  intro H locs ls st hat
  obtain ⟨hS, ws, hw, hl, hs⟩ := hat
  unfold gp_st at h
  split at h
  · rename_i v r
    obtain ⟨x, t, rfl, g1, hs1⟩ := gp_sr_cons hs
    exact hrow H locs ls t v x h.1 g1 (ga_hl_has hl.1 hl.2.1) (fun ls' hh => HG _ _ _ _ h.2.2 H locs ls' t ⟨hS, ws, hw, gp_lr_set hl h.2.1 g1 hh, hs1⟩)
  · exact h.elim
theorem gp_op2 {z : Nat} {g : Int32 → Int32 → Int32} (HG : ∀ pc al sk σ, G pc al sk σ → gp_Go p l e R s m args below meth c Q oa ta D n0 nL ad sh nc ns pc al sk σ)
    (hrow : ∀ (H : Heap) (locs : List Loc) (ls : Array Slot) (st : List Value) (X Y : Int32), W p l e R s m args below meth c H locs nc ns Q (F0 m z ls (.int (g X Y) :: st)) → W p l e R s m args below meth c H locs nc ns Q (F0 m pc ls (.int Y :: .int X :: st)))
    (h : gp_o2 g (fun sk => G z al sk σ) sk) : gp_Go p l e R s m args below meth c Q oa ta D n0 nL ad sh nc ns pc al sk σ := by
  intro H locs ls st hat
  obtain ⟨hS, ws, hw, hl, hs⟩ := hat
  unfold gp_o2 at h
  split at h
  · rename_i y x r
    obtain ⟨vy, t1, rfl, ⟨Y, hy, rfl⟩, hs1⟩ := gp_sr_cons hs
    obtain ⟨vx, t2, rfl, ⟨X, hx, rfl⟩, hs2⟩ := gp_sr_cons hs1
    subst hx; subst hy
    rw [gp_b2_i] at h
    exact hrow H locs ls t2 X Y (HG _ _ _ _ h H locs ls _ ⟨hS, ws, hw, hl, ⟨_, rfl, rfl⟩, hs2⟩)
  · exact h.elim
theorem gp_op1 {z : Nat} {g : Int32 → Int32} (HG : ∀ pc al sk σ, G pc al sk σ → gp_Go p l e R s m args below meth c Q oa ta D n0 nL ad sh nc ns pc al sk σ)
    (hrow : ∀ (H : Heap) (locs : List Loc) (ls : Array Slot) (st : List Value) (X : Int32), W p l e R s m args below meth c H locs nc ns Q (F0 m z ls (.int (g X) :: st)) → W p l e R s m args below meth c H locs nc ns Q (F0 m pc ls (.int X :: st)))
    (h : gp_o1 g (fun sk => G z al sk σ) sk) : gp_Go p l e R s m args below meth c Q oa ta D n0 nL ad sh nc ns pc al sk σ := by
  intro H locs ls st hat
  obtain ⟨hS, ws, hw, hl, hs⟩ := hat
  unfold gp_o1 at h
  split at h
  · rename_i x r
    obtain ⟨vx, t2, rfl, ⟨X, hx, rfl⟩, hs2⟩ := gp_sr_cons hs
    subst hx
    rw [gp_b1_i] at h
    exact hrow H locs ls t2 X (HG _ _ _ _ h H locs ls _ ⟨hS, ws, hw, hl, ⟨_, rfl, rfl⟩, hs2⟩)
  · exact h.elim
theorem gp_opd {z : Nat} {g : Int32 → Int32 → Int32} (HG : ∀ pc al sk σ, G pc al sk σ → gp_Go p l e R s m args below meth c Q oa ta D n0 nL ad sh nc ns pc al sk σ)
    (hrow : ∀ (H : Heap) (locs : List Loc) (ls : Array Slot) (st : List Value) (X Y : Int32), ¬ Y = 0 → W p l e R s m args below meth c H locs nc ns Q (F0 m z ls (.int (g X Y) :: st)) → W p l e R s m args below meth c H locs nc ns Q (F0 m pc ls (.int Y :: .int X :: st)))
    (h : gp_dv g (fun sk => G z al sk σ) sk) : gp_Go p l e R s m args below meth c Q oa ta D n0 nL ad sh nc ns pc al sk σ := by
  intro H locs ls st hat
  obtain ⟨hS, ws, hw, hl, hs⟩ := hat
  unfold gp_dv at h
  split at h
  · rename_i y x r
    obtain ⟨vy, t1, rfl, ⟨Y, hy, rfl⟩, hs1⟩ := gp_sr_cons hs
    obtain ⟨vx, t2, rfl, ⟨X, hx, rfl⟩, hs2⟩ := gp_sr_cons hs1
    subst hx; subst hy
    rw [gp_b2_i] at h
    exact hrow H locs ls t2 X Y (fun q => h.1 (by rw [q]; rfl)) (HG _ _ _ _ h.2 H locs ls _ ⟨hS, ws, hw, hl, ⟨_, rfl, rfl⟩, hs2⟩)
  · exact h.elim
theorem gp_opl {z : Nat} {g : Int64 → Int64 → Int64} (HG : ∀ pc al sk σ, G pc al sk σ → gp_Go p l e R s m args below meth c Q oa ta D n0 nL ad sh nc ns pc al sk σ)
    (hrow : ∀ (H : Heap) (locs : List Loc) (ls : Array Slot) (st : List Value) (X Y : Int64), W p l e R s m args below meth c H locs nc ns Q (F0 m z ls (.long (g X Y) :: st)) → W p l e R s m args below meth c H locs nc ns Q (F0 m pc ls (.long Y :: .long X :: st)))
    (h : gp_l2 (fun sk => G z al sk σ) sk) : gp_Go p l e R s m args below meth c Q oa ta D n0 nL ad sh nc ns pc al sk σ := by
  intro H locs ls st hat
  obtain ⟨hS, ws, hw, hl, hs⟩ := hat
  unfold gp_l2 at h
  split at h
  · rename_i y x r
    obtain ⟨h1, h2, h⟩ := h
    obtain ⟨cy, rfl, hy5⟩ := gp_lng_eq h1
    obtain ⟨cx, rfl, hx5⟩ := gp_lng_eq h2
    obtain ⟨vy, t1, rfl, g1, hs1⟩ := gp_sr_cons hs
    obtain ⟨vx, t2, rfl, g2, hs2⟩ := gp_sr_cons hs1
    obtain ⟨-, rfl⟩ := gp_vr_l hy5 g1
    obtain ⟨-, rfl⟩ := gp_vr_l hx5 g2
    obtain ⟨k1, k2⟩ := gp_lN (g (lN (cx / 8)) (lN (cy / 8)))
    refine hrow H locs ls t2 _ _ ?_
    rw [k2]
    exact HG _ _ _ _ (h _ k1) H locs ls _ ⟨hS, ws, hw, hl, gp_vl k1, hs2⟩
  · exact h.elim
theorem gp_aldx {kind z : Nat} (hk : 100 ≤ kind ∧ kind ≤ 104) (HG : ∀ pc al sk σ, G pc al sk σ → gp_Go p l e R s m args below meth c Q oa ta D n0 nL ad sh nc ns pc al sk σ)
    (hrow : ∀ (H : Heap) (locs : List Loc) (ls : Array Slot) (st : List Value) (ws : va_W) (q0 a mm : Nat) (I : Int32) (ev : va_E) (x : Value), vp_in I mm → va_P D gm_cl ws H → ws[q0]? = some (a, ev) → gp_shp ta (kind, mm, 0, []) ev → gp_sl ev I.toNatClampNeg = some x → W p l e R s m args below meth c H locs nc ns Q (F0 m z ls (x :: st)) → W p l e R s m args below meth c H locs nc ns Q (F0 m pc ls (.int I :: .ref a :: st)))
    (h : gp_ald sh kind (fun sk => G z al sk σ) sk σ) : gp_Go p l e R s m args below meth c Q oa ta D n0 nL ad sh nc ns pc al sk σ := by
  intro H locs ls st hat
  obtain ⟨hS, ws, hw, hl, hs⟩ := hat
  unfold gp_ald at h
  split at h
  · rename_i i r t
    obtain ⟨h3, hkd, h0, hlt, hb, h⟩ := h
    obtain ⟨vi, t1, rfl, ⟨I, hi, rfl⟩, hs1⟩ := gp_sr_cons hs
    obtain ⟨vr, t2, rfl, g1, hs2⟩ := gp_sr_cons hs1
    subst hi
    obtain ⟨a, ev, rfl, he, hct⟩ := gp_Wr_at hw h3 g1 (by omega)
    obtain ⟨hin, hcl⟩ := gp_idx h0 hlt
    obtain ⟨x, x1, x2⟩ := gp_rd_ok hct hlt
    have hshp : gp_shp ta (kind, (sh (r / 8)).2.1, 0, []) ev := by
      have := hct.1
      unfold gp_shp at this ⊢
      rw [hkd] at this
      exact this
    exact hrow H locs ls t2 ws _ a _ I ev x hin hw.1 he hshp (by rw [hcl]; exact x1) (HG _ _ _ _ h H locs ls _ ⟨hS, ws, hw, hl, x2, hs2⟩)
  · exact h.elim
theorem gp_astx {kind z : Nat} {f : Int → Int} {ok : Int → Prop} {g : Int32 → Int32} (hk : kind = 100 ∨ kind = 101 ∨ kind = 104) (HG : ∀ pc al sk σ, G pc al sk σ → gp_Go p l e R s m args below meth c Q oa ta D n0 nL ad sh nc ns pc al sk σ) (hf : ∀ X : Int32, f X.toInt = (g X).toInt)
    (hrow : ∀ (H : Heap) (locs : List Loc) (ls : Array Slot) (st : List Value) (ws : va_W) (q0 a mm : Nat) (I X : Int32) (f0 : Nat → Int32), ok X.toInt → vp_in I mm → va_P D gm_cl ws H → va_D (fun q => n0 ≤ q) ws → va_S (fun q => n0 ≤ q) s.heap H locs → ws[q0]? = some (a, .inl (ta kind, mm, .inl f0)) →
      (∀ (H1 : Heap) (locs1 : List Loc), va_P D gm_cl (ws.set q0 (a, .inl (ta kind, mm, .inl (upd f0 I.toNatClampNeg (g X))))) H1 → va_D (fun q => n0 ≤ q) (ws.set q0 (a, .inl (ta kind, mm, .inl (upd f0 I.toNatClampNeg (g X))))) → va_S (fun q => n0 ≤ q) s.heap H1 locs1 → W p l e R s m args below meth c H1 locs1 nc ns Q (F0 m z ls st)) → W p l e R s m args below meth c H locs nc ns Q (F0 m pc ls (.int X :: .int I :: .ref a :: st)))
    (h : gp_ast sh kind f ok (fun sk σ => G z al sk σ) sk σ) : gp_Go p l e R s m args below meth c Q oa ta D n0 nL ad sh nc ns pc al sk σ := by
  intro H locs ls st hat
  obtain ⟨hS, ws, hw, hl, hs⟩ := hat
  unfold gp_ast at h
  split at h
  · rename_i x i r t
    obtain ⟨hok, h3, hkd, h0, hlt, hb, hpk, h⟩ := h
    obtain ⟨vx, t0, rfl, ⟨X, hx, rfl⟩, hs0⟩ := gp_sr_cons hs
    obtain ⟨vi, t1, rfl, ⟨I, hi, rfl⟩, hs1⟩ := gp_sr_cons hs0
    obtain ⟨vr, t2, rfl, g1, hs2⟩ := gp_sr_cons hs1
    subst hi; subst hx
    obtain ⟨a, ev, rfl, he, hct⟩ := gp_Wr_at hw h3 g1 (by omega)
    obtain ⟨hin, hcl⟩ := gp_idx h0 hlt
    have hev : ∃ f0 : Nat → Int32, ev = .inl (ta kind, (sh (r / 8)).2.1, .inl f0) := by
      have h1 := hct.1
      unfold gp_shp at h1
      rw [hkd] at h1
      rcases h1 with ⟨q, -⟩ | ⟨-, f0, q⟩ | ⟨q, -⟩ | ⟨q, -⟩
      · omega
      · exact ⟨f0, q⟩
      · omega
      · omega
    obtain ⟨f0, rfl⟩ := hev
    refine hrow H locs ls t2 ws _ a _ I X f0 hok hin hw.1 hw.2.1 hS he (fun H1 locs1 hP1 hD1 hS1 => ?_)
    refine HG _ _ _ _ h H1 locs1 ls t2 ⟨hS1, _, gp_Wr_set hw he (fun k hk j => gp_up_ne hk) hP1 hD1 ?_, hl, hs2⟩
    refine gp_ct_set (x := .int (g X)) hct ?_ (fun i => ?_) hpk ⟨g X, (hf X).symm, rfl⟩
    · unfold gp_shp
      rw [hkd]
      exact Or.inr (Or.inl ⟨hk, _, rfl⟩)
    · rw [hcl]
      show (if i < _ then some (Value.int (upd f0 I.toInt.toNat (g X) i)) else none) = if i = I.toInt.toNat then some (.int (g X)) else if i < _ then some (Value.int (f0 i)) else none
      unfold upd
      by_cases hi : i = I.toInt.toNat
      · rw [if_pos hi, if_pos hi, if_pos (by omega)]
      · rw [if_neg hi, if_neg hi]
  · exact h.elim
end PX
