/-! one step of the typed machine: what it says holds of the plain one -/
def gt_Go (sh : Nat → gp_T) (wt : Nat → gb_T) (ml : List (Nat × Nat)) (X : gp_S → Prop) (σ0 : gp_S) (ρ0 : List Int32) (d rc : Nat) (code : List ga_E) (Φ : gp_F) (opn : List gb_L) (pc : Nat) (al sk : List Nat) (cs : gb_C) (ov : gb_V) : Prop :=
  ∀ (zs : List Int32) (pal psk : List gp_V) (σ : gp_S), gt_At sh wt ml X σ0 (ρ0 ++ zs) al sk cs ov pal psk σ → (∀ L ∈ opn, gt_Lp sh wt ml X σ0 (gp_ok sh (gp_call sh d) rc code Φ) (ρ0 ++ zs) L) → gp_ok sh (gp_call sh d) rc code Φ pc pal psk σ
def gt_S (sh : Nat → gp_T) (wt : Nat → gb_T) (ml : List (Nat × Nat)) (X : gp_S → Prop) (σ0 : gp_S) (ρ0 : List Int32) (d rc : Nat) (code : List ga_E) (Φ : gp_F) (go : gt_G) : Prop :=
  ∀ opn cds al sk cs ov, (∀ e nx, cds = e :: nx → ga_jmp code e.1 = e :: nx) → go opn cds al sk cs ov = true → ∃ e nx, cds = e :: nx ∧ gt_Go sh wt ml X σ0 ρ0 d rc code Φ opn e.1 al sk cs ov
/-- a code: what stands behind an entry is at its place -/
def gt_cd (code : List ga_E) : Prop := ∀ pc e nx, ga_jmp code pc = e :: nx → e.1 = pc ∧ ∀ e2 nx2, nx = e2 :: nx2 → e2.1 = pc + e.2.1 ∧ ga_jmp code e2.1 = e2 :: nx2
def gt_CS (sh : Nat → gp_T) (wt : Nat → gb_T) (ml : List (Nat × Nat)) (X : gp_S → Prop) (σ0 : gp_S) (d : Nat) (call : Nat → List Nat → gb_C → gb_V → gt_R → Bool) : Prop :=
  ∀ k as cs ov K, call k as cs ov K = true → ∀ (ρ : List Int32) (pas : List gp_V) (σ : gp_S), gb_in ρ cs → gt_W wt σ → X σ → gt_or sh ρ ov σ → gt_fr ml σ0 σ → gt_sr ρ as pas → ∀ Ψ : gp_F,
    (∀ zs v cs' ov' x σ', gb_in (ρ ++ zs) cs' → gt_W wt σ' → X σ' → gt_or sh (ρ ++ zs) ov' σ' → gt_fr ml σ0 σ' → (gm_rc k = 0 ∨ gt_vr (ρ ++ zs) v x) → K v cs' ov' = true → Ψ x σ') → gp_call sh d k pas σ Ψ
theorem gt_sr_tk {ρ : List Int32} : ∀ {a b : List Nat} {st : List gp_V}, gt_sr ρ (a ++ b) st → ∃ x y, st = x ++ y ∧ gt_sr ρ a x ∧ gt_sr ρ b y
  | [], b, st, h => ⟨[], st, rfl, trivial, h⟩
  | v :: r, b, [], h => h.elim
  | v :: r, b, z :: st, h => by
    obtain ⟨x, y, h1, h2, h3⟩ := gt_sr_tk h.2
    exact ⟨z :: x, y, by rw [h1]; rfl, ⟨h.1, h2⟩, h3⟩
theorem gt_sr_jn {ρ : List Int32} : ∀ {a b : List Nat} {x y : List gp_V}, gt_sr ρ a x → gt_sr ρ b y → gt_sr ρ (a ++ b) (x ++ y)
  | [], b, [], y, _, h2 => h2
  | _ :: _, b, _ :: _, y, h1, h2 => ⟨h1.1, gt_sr_jn h1.2 h2⟩
  | [], b, _ :: _, y, h1, _ => h1.elim
  | _ :: _, b, [], y, h1, _ => h1.elim
theorem gt_sr_rv {ρ : List Int32} : ∀ {a : List Nat} {x : List gp_V}, gt_sr ρ a x → gt_sr ρ a.reverse x.reverse
  | [], [], _ => trivial
  | v :: r, z :: t, h => by
    rw [List.reverse_cons, List.reverse_cons]
    exact gt_sr_jn (gt_sr_rv h.2) ⟨h.1, trivial⟩
  | [], _ :: _, h => h.elim
  | _ :: _, [], h => h.elim
theorem gt_sr_ln {ρ : List Int32} : ∀ {a : List Nat} {x : List gp_V}, gt_sr ρ a x → a.length = x.length
  | [], [], _ => rfl
  | _ :: _, _ :: _, h => by rw [List.length_cons, List.length_cons, gt_sr_ln h.2]
  | [], _ :: _, h => h.elim
  | _ :: _, [], h => h.elim
/-- a place in an array -/
theorem gt_idx {ρ : List Int32} {cs : gb_C} {i m : Nat} {I : Int32} (hi : gb_in ρ cs) (hv : gb_vr ρ gt_o [] i (.int I)) (h1 : 2147483648 ≤ gb_lo cs i) (h2 : gb_hi cs i < 2147483648 + m) : 0 ≤ I.toInt ∧ I.toInt.toNat < m ∧ gb_lo cs i - 2147483648 ≤ I.toInt.toNat ∧ I.toInt.toNat ≤ gb_hi cs i - 2147483648 := by
  obtain ⟨a1, a2⟩ := gb_lohi hi hv
  have := gb_kki I
  omega
theorem gt_jl_ok (t : gb_T) (l : Nat) : ∀ (m i : Nat), i ≤ m → gb_jl t l m ≤ gb_ty t (l + i) / 8 / 4294967296 ∧ gb_ty t (l + i) / 8 % 4294967296 ≤ gb_jh t l m ∧ gb_ty t (l + i) / 8 / 4294967296 ≤ gb_ml t l m ∧ gb_mh t l m ≤ gb_ty t (l + i) / 8 % 4294967296
  | 0, i, h => by
    have : i = 0 := by omega
    subst this
    exact ⟨Nat.le_refl _, Nat.le_refl _, Nat.le_refl _, Nat.le_refl _⟩
  | m + 1, i, h => by
    have e1 : gb_jl t l (m + 1) = ga_f (gb_ty t (l + m + 1) / 8 / 4294967296) (fun x => ga_f (gb_jl t l m) (fun y => ga_if (Nat.blt x y) x y)) := rfl
    have e2 : gb_jh t l (m + 1) = ga_f (gb_ty t (l + m + 1) / 8 % 4294967296) (fun x => ga_f (gb_jh t l m) (fun y => ga_if (Nat.blt x y) y x)) := rfl
    have e3 : gb_ml t l (m + 1) = ga_f (gb_ty t (l + m + 1) / 8 / 4294967296) (fun x => ga_f (gb_ml t l m) (fun y => ga_if (Nat.blt x y) y x)) := rfl
    have e4 : gb_mh t l (m + 1) = ga_f (gb_ty t (l + m + 1) / 8 % 4294967296) (fun x => ga_f (gb_mh t l m) (fun y => ga_if (Nat.blt x y) x y)) := rfl
    rw [e1, e2, e3, e4]
    simp only [ga_f_eq, ga_if_eq, Nat.blt_eq]
    by_cases hi : i = m + 1
    · subst hi
      rw [show l + (m + 1) = l + m + 1 by omega]
      refine ⟨?_, ?_, ?_, ?_⟩ <;> split <;> omega
    · obtain ⟨g1, g2, g3, g4⟩ := gt_jl_ok t l m i (by omega)
      refine ⟨?_, ?_, ?_, ?_⟩ <;> split <;> omega
theorem gt_jh_lt (t : gb_T) (l : Nat) : ∀ m, gb_jh t l m < 4294967296
  | 0 => Nat.mod_lt _ (by decide)
  | m + 1 => by
    have e2 : gb_jh t l (m + 1) = ga_f (gb_ty t (l + m + 1) / 8 % 4294967296) (fun x => ga_f (gb_jh t l m) (fun y => ga_if (Nat.blt x y) y x)) := rfl
    rw [e2]
    simp only [ga_f_eq, ga_if_eq, Nat.blt_eq]
    have h1 := gt_jh_lt t l m
    have h2 : gb_ty t (l + m + 1) / 8 % 4294967296 < 4294967296 := Nat.mod_lt _ (by decide)
    split <;> assumption
theorem gt_t2_ok (t : gb_T) (l : Nat) : ∀ (m i : Nat), gb_t2 t l m = true → i ≤ m → gb_ty t (l + i) % 8 = 2
  | 0, i, h, hi => by
    have : i = 0 := by omega
    subst this
    exact Nat.eq_of_beq_eq_true h
  | m + 1, i, h, hi => by
    have e : gb_t2 t l (m + 1) = and (Nat.beq (gb_ty t (l + m + 1) % 8) 2) (gb_t2 t l m) := rfl
    rw [e] at h
    simp only [Bool.and_eq_true, ga_beq] at h
    by_cases hq : i = m + 1
    · subst hq
      exact h.1
    · exact gt_t2_ok t l m i h.2 (by omega)
theorem gt_ways_ok {t : gb_T} {l : Nat} {K : Nat → Bool} : ∀ {m : Nat} (i : Nat), gt_ways t l K m = true → i ≤ m → gt_p (gb_ty t (l + i)) K = true
  | 0, i, h, hi => by
    have : i = 0 := by omega
    subst this
    exact h
  | m + 1, i, h, hi => by
    have h1 : and (gt_p (gb_ty t (l + m + 1)) K) (gt_ways t l K m) = true := h
    rw [Bool.and_eq_true] at h1
    by_cases hq : i = m + 1
    · subst hq
      exact h1.1
    · exact gt_ways_ok i h1.2 (by omega)
theorem gt_oc_mem {ov : gb_V} {c j : Nat} {q : Nat × Nat × Nat} (h : q ∈ ov.filter (fun q => not (Nat.beq q.1 c))) : q ∈ ov ∧ ¬ (q.1 = c ∧ q.2.1 = j) := by
  obtain ⟨h1, h2⟩ := List.mem_filter.mp h
  refine ⟨h1, fun z => ?_⟩
  rw [z.1] at h2
  simp at h2
section HC
variable {sh : Nat → gp_T} {wt : Nat → gb_T} {ml xl : List (Nat × Nat)} {X : gp_S → Prop} {σ0 : gp_S} {ρ0 : List Int32} {d rc : Nat} {code : List ga_E} {Φ : gp_F}
variable {go : gt_G} {opn : List gb_L} {nx : List ga_E} {al sk : List Nat} {cs : gb_C} {ov : gb_V} {zs : List Int32} {pal psk : List gp_V} {σ : gp_S} {z : Nat}
/-- on to the next place -/
theorem gt_k (S : gt_S sh wt ml X σ0 ρ0 d rc code Φ go) (hnx : ∀ e2 nx2, nx = e2 :: nx2 → e2.1 = z ∧ ga_jmp code e2.1 = e2 :: nx2) (h : go opn nx al sk cs ov = true) (ys : List Int32) (hop : ∀ L ∈ opn, gt_Lp sh wt ml X σ0 (gp_ok sh (gp_call sh d) rc code Φ) (ρ0 ++ zs) L) (hat : gt_At sh wt ml X σ0 ((ρ0 ++ zs) ++ ys) al sk cs ov pal psk σ) : gp_ok sh (gp_call sh d) rc code Φ z pal psk σ := by
  obtain ⟨e, r, rfl, hg⟩ := S opn nx al sk cs ov (fun e r q => (hnx e r q).2) h
  have hz := (hnx e r rfl).1
  rw [hz] at hg
  refine hg (zs ++ ys) pal psk σ (by rw [← List.append_assoc]; exact hat) (fun L hL => ?_)
  rw [← List.append_assoc]
  exact gt_Lp_app (hop L hL)
theorem gt_k0 (S : gt_S sh wt ml X σ0 ρ0 d rc code Φ go) (hnx : ∀ e2 nx2, nx = e2 :: nx2 → e2.1 = z ∧ ga_jmp code e2.1 = e2 :: nx2) (h : go opn nx al sk cs ov = true) (hop : ∀ L ∈ opn, gt_Lp sh wt ml X σ0 (gp_ok sh (gp_call sh d) rc code Φ) (ρ0 ++ zs) L) (hat : gt_At sh wt ml X σ0 (ρ0 ++ zs) al sk cs ov pal psk σ) : gp_ok sh (gp_call sh d) rc code Φ z pal psk σ :=
  gt_k S hnx h [] hop (by rw [List.append_nil]; exact hat)
theorem gt_cd_jmp (hcd : gt_cd code) (b : Nat) : ∀ e2 nx2, ga_jmp code b = e2 :: nx2 → e2.1 = b ∧ ga_jmp code e2.1 = e2 :: nx2 := by
  intro e2 nx2 h
  have := (hcd b e2 nx2 h).1
  exact ⟨this, by rw [this]; exact h⟩
theorem gt_op2_ok {f : Nat → Nat → Nat → Nat → Nat} {g : Int32 → Int32 → Int32} (hf : gb_O2 f g) (S : gt_S sh wt ml X σ0 ρ0 d rc code Φ go) (hnx : ∀ e2 nx2, nx = e2 :: nx2 → e2.1 = z ∧ ga_jmp code e2.1 = e2 :: nx2) (h : gt_op2 f cs sk (fun sk => go opn nx al sk cs ov) = true) (hop : ∀ L ∈ opn, gt_Lp sh wt ml X σ0 (gp_ok sh (gp_call sh d) rc code Φ) (ρ0 ++ zs) L) (hat : gt_At sh wt ml X σ0 (ρ0 ++ zs) al sk cs ov pal psk σ) : gp_o2 g (fun sk => gp_ok sh (gp_call sh d) rc code Φ z pal sk σ) psk := by
  obtain ⟨hi, hW, hX, ho, hfr, hl, hs⟩ := hat
  unfold gt_op2 at h
  split at h
  · obtain ⟨h1, h2⟩ := gt_if h
    obtain ⟨ix, iy⟩ := ga_i2_ok h1
    obtain ⟨h7, h3⟩ := gt_p_ok h2
    obtain ⟨vy, t1, rfl, g1, hs1⟩ := gt_sr_cons hs
    obtain ⟨vx, t2, rfl, g2, hs2⟩ := gt_sr_cons hs1
    obtain ⟨X1, rfl, a1⟩ := gt_int ix g2
    obtain ⟨Y1, rfl, b1⟩ := gt_int iy g1
    obtain ⟨c1, c2⟩ := gb_lohi hi a1
    obtain ⟨c3, c4⟩ := gb_lohi hi b1
    show gp_ok sh (gp_call sh d) rc code Φ z pal (.inl (gp_b2 g X1.toInt Y1.toInt) :: t2) σ
    rw [gp_b2_i]
    exact gt_k0 S hnx h3 hop ⟨hi, hW, hX, ho, hfr, hl, gt_of (hf _ _ _ _ X1 Y1 c1 c2 c3 c4 (gb_hi_lt hi a1) (gb_hi_lt hi b1) h7 _ _ _), hs2⟩
  · cases h
theorem gt_dv_ok {f : Nat → Nat → Nat → Nat → Nat} {g : Int32 → Int32 → Int32} (hf : gb_O2 f g) (hnz : ∀ {lx hx ly hy : Nat} {Y : Int32}, ly ≤ ga_kk Y → ga_kk Y ≤ hy → ¬ f lx hx ly hy % 8 = 7 → ¬ Y = 0) (S : gt_S sh wt ml X σ0 ρ0 d rc code Φ go) (hnx : ∀ e2 nx2, nx = e2 :: nx2 → e2.1 = z ∧ ga_jmp code e2.1 = e2 :: nx2) (h : gt_op2 f cs sk (fun sk => go opn nx al sk cs ov) = true) (hop : ∀ L ∈ opn, gt_Lp sh wt ml X σ0 (gp_ok sh (gp_call sh d) rc code Φ) (ρ0 ++ zs) L) (hat : gt_At sh wt ml X σ0 (ρ0 ++ zs) al sk cs ov pal psk σ) : gp_dv g (fun sk => gp_ok sh (gp_call sh d) rc code Φ z pal sk σ) psk := by
  obtain ⟨hi, hW, hX, ho, hfr, hl, hs⟩ := hat
  unfold gt_op2 at h
  split at h
  · obtain ⟨h1, h2⟩ := gt_if h
    obtain ⟨ix, iy⟩ := ga_i2_ok h1
    obtain ⟨h7, h3⟩ := gt_p_ok h2
    obtain ⟨vy, t1, rfl, g1, hs1⟩ := gt_sr_cons hs
    obtain ⟨vx, t2, rfl, g2, hs2⟩ := gt_sr_cons hs1
    obtain ⟨X1, rfl, a1⟩ := gt_int ix g2
    obtain ⟨Y1, rfl, b1⟩ := gt_int iy g1
    obtain ⟨c1, c2⟩ := gb_lohi hi a1
    obtain ⟨c3, c4⟩ := gb_lohi hi b1
    show ¬ Y1.toInt = 0 ∧ gp_ok sh (gp_call sh d) rc code Φ z pal (.inl (gp_b2 g X1.toInt Y1.toInt) :: t2) σ
    rw [gp_b2_i]
    refine ⟨fun q => hnz c3 c4 h7 (Int32.toInt_inj.mp (by rw [q]; rfl)), ?_⟩
    exact gt_k0 S hnx h3 hop ⟨hi, hW, hX, ho, hfr, hl, gt_of (hf _ _ _ _ X1 Y1 c1 c2 c3 c4 (gb_hi_lt hi a1) (gb_hi_lt hi b1) h7 _ _ _), hs2⟩
  · cases h
theorem gt_opS_ok {sg : Bool} {f : Nat → Nat → Nat → Nat → Nat} {g : Int32 → Int32 → Int32} (hf : gb_O2 f g) (h7 : ∀ a b c d, ¬ f a b c d % 8 = 7)
    (hk : ∀ {lx hx ly hy : Nat} {X Y : Int32}, lx ≤ ga_kk X → ga_kk X ≤ hx → ly ≤ ga_kk Y → ga_kk Y ≤ hy → ¬ f lx hx ly hy = gb_any → ga_kk (g X Y) + 4294967296 = ga_kk X + (if sg = true then ga_kk Y + 2147483648 else 6442450944 - ga_kk Y))
    (S : gt_S sh wt ml X σ0 ρ0 d rc code Φ go) (hnx : ∀ e2 nx2, nx = e2 :: nx2 → e2.1 = z ∧ ga_jmp code e2.1 = e2 :: nx2) (h : gt_opS sg f cs sk (fun sk cs => go opn nx al sk cs ov) = true) (hop : ∀ L ∈ opn, gt_Lp sh wt ml X σ0 (gp_ok sh (gp_call sh d) rc code Φ) (ρ0 ++ zs) L) (hat : gt_At sh wt ml X σ0 (ρ0 ++ zs) al sk cs ov pal psk σ) : gp_o2 g (fun sk => gp_ok sh (gp_call sh d) rc code Φ z pal sk σ) psk := by
  obtain ⟨hi, hW, hX, ho, hfr, hl, hs⟩ := hat
  unfold gt_opS at h
  split at h
  · obtain ⟨h1, h2⟩ := gt_if h
    obtain ⟨ix, iy⟩ := ga_i2_ok h1
    rw [ga_f_eq, ga_f_eq] at h2
    obtain ⟨vy, t1, rfl, g1, hs1⟩ := gt_sr_cons hs
    obtain ⟨vx, t2, rfl, g2, hs2⟩ := gt_sr_cons hs1
    obtain ⟨X1, rfl, a1⟩ := gt_int ix g2
    obtain ⟨Y1, rfl, b1⟩ := gt_int iy g1
    have a2 := gb_sm_ok hi a1
    have b2 := gb_sm_ok hi b1
    obtain ⟨c1, c2⟩ := gb_lohi hi a2
    obtain ⟨c3, c4⟩ := gb_lohi hi b2
    obtain ⟨ys, v', cs', e1, e2, e3⟩ := gt_sum_ok (sg := sg) (f := f) (Z := g X1 Y1) hi a2 b2 (hf _ _ _ _ X1 Y1 c1 c2 c3 c4 (gb_hi_lt hi a2) (gb_hi_lt hi b2) (h7 _ _ _ _) _ _ _) (fun q => hk c1 c2 c3 c4 q)
    rw [e1] at h2
    show gp_ok sh (gp_call sh d) rc code Φ z pal (.inl (gp_b2 g X1.toInt Y1.toInt) :: t2) σ
    rw [gp_b2_i]
    exact gt_k S hnx h2 ys hop ⟨e2, hW, hX, gt_or_app ho, hfr, gt_lr_app hl, gt_of e3, gt_sr_app hs2⟩
  · cases h
theorem gt_load_ok {ok : Nat → Bool} {pk : gp_V → Bool} {i : Nat} (h7 : ∀ v, ok v = true → ¬ v % 8 = 7) (hp : ∀ (ρ : List Int32) (v : Nat) (x : gp_V), ok v = true → gt_vr ρ v x → pk x = true) (S : gt_S sh wt ml X σ0 ρ0 d rc code Φ go) (hnx : ∀ e2 nx2, nx = e2 :: nx2 → e2.1 = z ∧ ga_jmp code e2.1 = e2 :: nx2) (h : gt_load ok i al sk (fun sk => go opn nx al sk cs ov) = true) (hop : ∀ L ∈ opn, gt_Lp sh wt ml X σ0 (gp_ok sh (gp_call sh d) rc code Φ) (ρ0 ++ zs) L) (hat : gt_At sh wt ml X σ0 (ρ0 ++ zs) al sk cs ov pal psk σ) : gp_ld pk i (fun v => gp_ok sh (gp_call sh d) rc code Φ z pal (v :: psk) σ) pal := by
  obtain ⟨hi, hW, hX, ho, hfr, hl, hs⟩ := hat
  unfold gt_load at h
  rw [ga_f_eq] at h
  obtain ⟨h1, h2⟩ := gt_if h
  obtain ⟨x, g1, g2⟩ := hl.2.1 i _ (ga_nth_some rfl (h7 _ h1)) (h7 _ h1)
  unfold gp_ld
  rw [g1]
  exact ⟨hp _ _ _ h1 g2, gt_k0 S hnx h2 hop ⟨hi, hW, hX, ho, hfr, hl, g2, hs⟩⟩
theorem gt_store_ok {i : Nat} (S : gt_S sh wt ml X σ0 ρ0 d rc code Φ go) (hnx : ∀ e2 nx2, nx = e2 :: nx2 → e2.1 = z ∧ ga_jmp code e2.1 = e2 :: nx2) (h : gt_store ga_int i al sk cs (fun al sk cs => go opn nx al sk cs ov) = true) (hop : ∀ L ∈ opn, gt_Lp sh wt ml X σ0 (gp_ok sh (gp_call sh d) rc code Φ) (ρ0 ++ zs) L) (hat : gt_At sh wt ml X σ0 (ρ0 ++ zs) al sk cs ov pal psk σ) : gp_st gp_int i (fun al sk => gp_ok sh (gp_call sh d) rc code Φ z al sk σ) pal psk := by
  obtain ⟨hi, hW, hX, ho, hfr, hl, hs⟩ := hat
  unfold gt_store at h
  split at h
  · obtain ⟨h1, h2⟩ := gt_if h
    rw [Bool.and_eq_true] at h1
    obtain ⟨vx, t2, rfl, g2, hs2⟩ := gt_sr_cons hs
    obtain ⟨X1, rfl, a1⟩ := gt_int h1.1 g2
    obtain ⟨ys, v', cs', e1, e2, e3, -⟩ := gt_nam hi a1
    rw [e1, ga_set_eq] at h2
    refine ⟨rfl, gt_ah_ok hl h1.2, ?_⟩
    exact gt_k S hnx h2 ys hop ⟨e2, hW, hX, gt_or_app ho, hfr, gt_lr_set (gt_lr_app hl) (gt_of e3) (fun c q => by cases q), gt_sr_app hs2⟩
  · cases h
theorem gt_get_ok (Hs : gt_H sh wt) {a b : Nat} (S : gt_S sh wt ml X σ0 ρ0 d rc code Φ go) (hnx : ∀ e2 nx2, nx = e2 :: nx2 → e2.1 = z ∧ ga_jmp code e2.1 = e2 :: nx2) (ha : a < 100) (h : gt_get wt a b sk cs ov (fun sk cs ov => go opn nx al sk cs ov) = true) (hop : ∀ L ∈ opn, gt_Lp sh wt ml X σ0 (gp_ok sh (gp_call sh d) rc code Φ) (ρ0 ++ zs) L) (hat : gt_At sh wt ml X σ0 (ρ0 ++ zs) al sk cs ov pal psk σ) : gp_get sh a b (fun sk => gp_ok sh (gp_call sh d) rc code Φ z pal sk σ) psk σ := by
  obtain ⟨hi, hW, hX, ho, hfr, hl, hs⟩ := hat
  unfold gt_get at h
  split at h
  · rename_i r s
    obtain ⟨h1, h2⟩ := gt_if h
    obtain ⟨vx, t2, rfl, g2, hs2⟩ := gt_sr_cons hs
    obtain ⟨rfl, h3⟩ := gt_ref h1 g2
    have h2' : ga_if (and (Nat.beq (wt (r / 8)).1 a) (Nat.blt b (wt (r / 8)).2.1)) (ga_f (r / 8) (fun c0 => gb_pick (wt (r / 8)) c0 b cs ov (fun v cs ov => gt_p v (fun v => go opn nx al (v :: s) cs ov)))) false = true := h2
    obtain ⟨h4, h5⟩ := gt_if h2'
    simp only [Bool.and_eq_true, ga_beq, Nat.blt_eq] at h4
    rw [ga_f_eq] at h5
    have h9 : ¬ (wt (r / 8)).1 = 999 := by omega
    obtain ⟨q1, q2, -, -⟩ := Hs _ h9
    obtain ⟨ys, v', cs', ov', k1, k2, k3, k4⟩ := gt_pick Hs hW hi ho h9 h4.2
    rw [k1] at h5
    obtain ⟨-, h6⟩ := gt_p_ok h5
    refine ⟨h3, by rw [q1]; exact h4.1, by rw [q2]; exact h4.2, ?_⟩
    exact gt_k S hnx h6 ys hop ⟨k2, hW, hX, k3, hfr, gt_lr_app hl, k4, gt_sr_app hs2⟩
  · cases h
theorem gt_ptf_ok (Hs : gt_H sh wt) (HX : ∀ σ σ', (∀ c j, gb_mo xl c j = true → σ' c j = σ c j) → X σ → X σ') {a b : Nat} {q0 : Nat × Nat} {ps : List (Nat × Nat)} (S : gt_S sh wt ml X σ0 ρ0 d rc code Φ go) (hnx : ∀ e2 nx2, nx = e2 :: nx2 → e2.1 = z ∧ ga_jmp code e2.1 = e2 :: nx2) (ha : a < 100) (h : gt_ptf wt ml xl a b (q0 :: ps) sk cs ov (fun sk cs ov => go opn nx al sk cs ov) = true) (hop : ∀ L ∈ opn, gt_Lp sh wt ml X σ0 (gp_ok sh (gp_call sh d) rc code Φ) (ρ0 ++ zs) L) (hat : gt_At sh wt ml X σ0 (ρ0 ++ zs) al sk cs ov pal psk σ) : gp_put sh a b q0.1 (fun sk σ => gp_ok sh (gp_call sh d) rc code Φ z pal sk σ) psk σ := by
  obtain ⟨hi, hW, hX, ho, hfr, hl, hs⟩ := hat
  unfold gt_ptf at h
  split at h
  · rename_i v r s q1 ps1 heq
    obtain ⟨rfl, rfl⟩ := List.cons.inj heq
    obtain ⟨h1, h2⟩ := gt_if h
    rw [Bool.and_eq_true] at h1
    obtain ⟨vv, t1, rfl, g1, hs1⟩ := gt_sr_cons hs
    obtain ⟨vx, t2, rfl, g2, hs2⟩ := gt_sr_cons hs1
    obtain ⟨rfl, h3⟩ := gt_ref h1.1 g2
    have h2' : ga_if (and (and (Nat.beq (wt (r / 8)).1 a) (Nat.blt b (wt (r / 8)).2.1)) (and (gb_fit cs v (gb_ty (wt (r / 8)) b)) (gt_wr ml xl (r / 8) b))) (ga_f (r / 8) (fun c0 => gb_lay (wt (r / 8)) c0 b v cs ov (fun cs ov => go opn nx al s cs ov))) false = true := h2
    obtain ⟨h4, h5⟩ := gt_if h2'
    simp only [Bool.and_eq_true, ga_beq, Nat.blt_eq] at h4
    obtain ⟨⟨h41, h42⟩, h43, h44⟩ := h4
    rw [ga_f_eq] at h5
    unfold gt_wr at h44
    rw [Bool.and_eq_true, Bool.not_eq_true'] at h44
    have h9 : ¬ (wt (r / 8)).1 = 999 := by omega
    obtain ⟨e1, e2, -, e4⟩ := Hs _ h9
    have hkd := h1.2
    unfold gb_kd at hkd
    simp only [ga_if_eq, ga_beq] at hkd
    rcases gt_fit hi h43 g1 with ⟨k2, y, rfl, k3⟩ | ⟨rfl, k2⟩
    · have hpk : gp_pk sh (r / 8) b = 0 := by
        rcases e4 b h42 with q | q
        · exact q.2
        · omega
      obtain ⟨y', ey, hy⟩ := (show ∃ y' : Int32, y'.toInt = y.toInt ∧ gb_vr (ρ0 ++ zs) gt_o [] v (.int y') from g1)
      have eyy := Int32.toInt_inj.mp ey
      subst eyy
      obtain ⟨ys, cs', ov', k5, k6, k7⟩ := gt_lay (wt (r / 8)) hi ho hy hpk
      rw [k5] at h5
      refine ⟨h3, by rw [e1]; exact h41, by rw [e2]; exact h42, hpk, ?_, gt_k S hnx h5 ys hop ⟨k6, gt_W_up hW k3, gt_X_up HX hX h44.2, k7, gt_fr_up hfr h44.1, gt_lr_app hl, gt_sr_app hs2⟩⟩
      have hv2 : v % 8 ≤ 2 := by
        by_cases q : v % 8 ≤ 2
        · exact q
        · exact (gt_nin q g1).elim
      split at hkd
      · rename_i q; exact Or.inl q
      · split at hkd
        · rename_i q
          simp only [Bool.and_eq_true, Nat.ble_eq] at hkd
          obtain ⟨b1, b2⟩ := gb_lohi hi hy
          have := gb_kki y'
          exact Or.inr ⟨q, by omega⟩
        · split at hkd
          · exact absurd hkd (by unfold ga_lng; rw [ga_beq]; omega)
          · cases hkd
    · have hv3 : ¬ ga_int (gb_ty (wt (r / 8)) b) = true := by
        intro q
        rcases ga_int_le q with q | q | q <;> omega
      rcases k2 with ⟨k2, rfl⟩ | ⟨k2, c5, rfl, hc5⟩
      · exfalso
        split at hkd
        · exact hv3 hkd
        · split at hkd
          · rw [Bool.and_eq_true] at hkd; exact hv3 hkd.1
          · split at hkd
            · unfold ga_lng at hkd
              rw [ga_beq] at hkd
              omega
            · cases hkd
      · have hpk : gp_pk sh (r / 8) b = 5 := by
          rcases e4 b h42 with q | q
          · omega
          · rw [q.2, k2]
        obtain ⟨ov', k5, k7⟩ := gt_layl (c := r / 8) (j := b) (z := ((c5 / 8 : Nat) : Int)) (cs := cs) (v := gb_ty (wt (r / 8)) b) (wt (r / 8)) ho (by simpa using hv3)
        rw [k5] at h5
        refine ⟨h3, by rw [e1]; exact h41, by rw [e2]; exact h42, hc5, hpk, ?_, gt_k0 S hnx h5 hop ⟨hi, gt_W_upl Hs hW hpk, gt_X_up HX hX h44.2, k7, gt_fr_up hfr h44.1, hl, hs2⟩⟩
        split at hkd
        · exact absurd hkd hv3
        · split at hkd
          · rw [Bool.and_eq_true] at hkd; exact absurd hkd.1 hv3
          · split at hkd
            · assumption
            · cases hkd
  · cases h
end HC
