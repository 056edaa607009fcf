/-! what the typed machine's words say of the plain machine -/
abbrev gt_o : Nat → Nat := fun _ => 0
def gt_vr (ρ : List Int32) (v : Nat) (x : gp_V) : Prop := match x with
  | .inl z => ∃ y : Int32, y.toInt = z ∧ gb_vr ρ gt_o [] v (.int y)
  | .inr c => (v = c ∧ (c % 8 = 3 ∨ c % 8 = 6)) ∨ (v = 5 ∧ c % 8 = 5)
def gt_sr (ρ : List Int32) : List Nat → List gp_V → Prop
  | [], [] => True
  | v :: r, x :: t => gt_vr ρ v x ∧ gt_sr ρ r t
  | _, _ => False
def gt_lr (ρ : List Int32) (al : List Nat) (pal : List gp_V) : Prop :=
  al.length = pal.length ∧ (∀ (i v : Nat), al[i]? = some v → ¬ v % 8 = 7 → ∃ x, pal[i]? = some x ∧ gt_vr ρ v x) ∧ (∀ i c : Nat, pal[i]? = some (.inr c) → c % 8 = 5 → al[i]? = some 5)
/-- the world's places are of their types -/
def gt_W (wt : Nat → gb_T) (σ : gp_S) : Prop := ∀ c j, ¬ (wt c).1 = 999 → j < (wt c).2.1 → gb_ty (wt c) j % 8 = 2 → ∃ y : Int32, y.toInt = σ c j ∧ gb_vr [] gt_o [] (gb_ty (wt c) j) (.int y)
/-- types and shapes fit together -/
def gt_H (sh : Nat → gp_T) (wt : Nat → gb_T) : Prop := ∀ c, ¬ (wt c).1 = 999 → (sh c).1 = (wt c).1 ∧ (sh c).2.1 = (wt c).2.1 ∧ ((wt c).2.2.2.1 = [] → (sh c).2.2 = (if (wt c).2.2.1 % 8 = 2 then 0 else (wt c).2.2.1, [])) ∧
  ∀ j, j < (wt c).2.1 → (gb_ty (wt c) j % 8 = 2 ∧ gp_pk sh c j = 0) ∨ ((gb_ty (wt c) j % 8 = 3 ∨ gb_ty (wt c) j = 5) ∧ gp_pk sh c j = gb_ty (wt c) j)
def gt_or (sh : Nat → gp_T) (ρ : List Int32) (ov : gb_V) (σ : gp_S) : Prop := ∀ q ∈ ov, gp_pk sh q.1 q.2.1 = 0 ∧ gt_vr ρ q.2.2 (.inl (σ q.1 q.2.1))
def gt_fr (ml : List (Nat × Nat)) (σ0 σ : gp_S) : Prop := ∀ c j, gb_mo ml c j = false → σ c j = σ0 c j
def gt_At (sh : Nat → gp_T) (wt : Nat → gb_T) (ml : List (Nat × Nat)) (X : gp_S → Prop) (σ0 : gp_S) (ρ : List Int32) (al sk : List Nat) (cs : gb_C) (ov : gb_V) (pal psk : List gp_V) (σ : gp_S) : Prop :=
  gb_in ρ cs ∧ gt_W wt σ ∧ X σ ∧ gt_or sh ρ ov σ ∧ gt_fr ml σ0 σ ∧ gt_lr ρ al pal ∧ gt_sr ρ sk psk
/-- how far a loop is -/
def gt_far (dir : Nat) (y z : Int32) : Prop := if dir = 0 then ga_kk z < ga_kk y else ga_kk y < ga_kk z
/-- how an open loop's new symbols stand in its locals and places -/
def gt_Ls (sh : Nat → gp_T) (L : gb_L) : Prop :=
  L.2.2.2.1.length = L.2.2.2.2.2 + (L.1.2.1.length + L.1.2.2.2.2.1.length) ∧
  (∀ (i v : Nat), L.2.1[i]? = some v → v % 8 = 1 → L.2.2.2.2.2 ≤ v / 8 → ∃ (j : Nat) (r : Nat × Nat × Nat), L.1.2.1[j]? = some r ∧ r.1 = i ∧ v = 8 * (L.2.2.2.2.2 + j) + 1) ∧
  (∀ q ∈ L.2.2.2.2.1, gp_pk sh q.1 q.2.1 = 0 ∧ (q.2.2 % 8 = 1 → L.2.2.2.2.2 ≤ q.2.2 / 8 → ∃ (j : Nat) (r : Nat × Nat × Nat × Nat), L.1.2.2.2.2.1[j]? = some r ∧ q = (r.1, r.2.1, 8 * (L.2.2.2.2.2 + L.1.2.1.length + j) + 1)))
/-- an open loop: from its head, farther on, all is well -/
def gt_Lp (sh : Nat → gp_T) (wt : Nat → gb_T) (ml : List (Nat × Nat)) (X : gp_S → Prop) (σ0 : gp_S) (ok : gp_G) (ρ : List Int32) (L : gb_L) : Prop :=
  ∃ f : Nat, L.2.2.2.1.length = L.2.2.2.2.2 + f ∧ L.1.2.2.2.2.2.1 < f ∧ L.2.2.2.2.2 + f ≤ ρ.length ∧ gb_in (ρ.take L.2.2.2.2.2) (L.2.2.2.1.take L.2.2.2.2.2) ∧ ((∀ i q, L.2.2.2.2.2 ≤ i → L.2.2.2.1[i]? = some q → q.2.2.1 = 0 ∧ q.2.1 < 4294967296) ∧ gt_Ls sh L) ∧
    ∀ (ys : List Int32) (y z : Int32), ys.length = f → ys[L.1.2.2.2.2.2.1]? = some y → ρ[L.2.2.2.2.2 + L.1.2.2.2.2.2.1]? = some z → gt_far L.1.2.2.2.2.2.2 y z → ∀ (pal psk : List gp_V) (σ : gp_S),
      gt_At sh wt ml X σ0 (ρ.take L.2.2.2.2.2 ++ ys) L.2.1 L.2.2.1 L.2.2.2.1 L.2.2.2.2.1 pal psk σ → ok L.1.1 pal psk σ
section HA
variable {ρ : List Int32} {cs : gb_C}
theorem gt_of {v : Nat} {y : Int32} (h : gb_vr ρ gt_o [] v (.int y)) : gt_vr ρ v (.inl y.toInt) := ⟨y, rfl, h⟩
theorem gt_int {v : Nat} {x : gp_V} (hv : ga_int v = true) (h : gt_vr ρ v x) : ∃ y : Int32, x = .inl y.toInt ∧ gb_vr ρ gt_o [] v (.int y) := by
  cases x with
  | inl z => obtain ⟨y, rfl, h⟩ := h; exact ⟨y, rfl, h⟩
  | inr c =>
    rcases h with ⟨rfl, h⟩ | ⟨rfl, h⟩
    · rcases ga_int_le hv with q | q | q <;> omega
    · cases hv
theorem gt_inr {v : Nat} {x : gp_V} (hv : ¬ v % 8 ≤ 2) (h : gt_vr ρ v x) : (x = .inr v ∧ (v % 8 = 3 ∨ v % 8 = 6)) ∨ (v = 5 ∧ ∃ c, x = .inr c ∧ c % 8 = 5) := by
  cases x with
  | inl z =>
    obtain ⟨y, -, h⟩ := h
    exfalso
    have h8 : v % 8 < 8 := Nat.mod_lt _ (by decide)
    have hc : v % 8 = 3 ∨ v % 8 = 4 ∨ v % 8 = 5 ∨ v % 8 = 6 ∨ v % 8 = 7 := by omega
    rcases hc with q | q | q | q | q
    · obtain ⟨a, ha, -⟩ := (gb_vr_3 q).mp h; cases ha
    · cases (gb_vr_4 q).mp h
    · obtain ⟨a, ha⟩ := (gb_vr_5 q).mp h; cases ha
    · cases (gb_vr_6 q).mp h
    · exact gb_vr_7 q h
  | inr c =>
    rcases h with ⟨rfl, h⟩ | ⟨rfl, h⟩
    · exact Or.inl ⟨rfl, h⟩
    · exact Or.inr ⟨rfl, c, rfl, h⟩
theorem gt_nin {v : Nat} {z : Int} (hv : ¬ v % 8 ≤ 2) (h : gt_vr ρ v (.inl z)) : False := by
  rcases gt_inr hv h with ⟨q, -⟩ | ⟨-, c, q, -⟩
  · cases q
  · cases q
theorem gt_ref {v : Nat} {x : gp_V} (hv : ga_ref v = true) (h : gt_vr ρ v x) : x = .inr v ∧ v % 8 = 3 := by
  have h3 : v % 8 = 3 := by simpa [ga_ref, ga_beq] using hv
  rcases gt_inr (by omega) h with ⟨q, -⟩ | ⟨q, -⟩
  · exact ⟨q, h3⟩
  · omega
theorem gt_adr {v : Nat} {x : gp_V} (hv : ga_adr v = true) (h : gt_vr ρ v x) : x = .inr v := by
  have hq : v % 8 = 3 ∨ v % 8 = 6 := by
    unfold ga_adr at hv
    simpa only [Bool.or_eq_true, ga_beq] using hv
  rcases gt_inr (by omega) h with ⟨q, -⟩ | ⟨q, -⟩
  · exact q
  · omega
theorem gt_lng {v : Nat} {x : gp_V} (hv : v % 8 = 5) (h : gt_vr ρ v x) : (∃ c, x = .inr c ∧ c % 8 = 5) ∧ v = 5 := by
  rcases gt_inr (by omega) h with ⟨-, q⟩ | ⟨q1, q2⟩
  · omega
  · exact ⟨q2, q1⟩
theorem gt_l5 {c : Nat} (h : c % 8 = 5) : gt_vr ρ 5 (.inr c) := Or.inr ⟨rfl, h⟩
theorem gt_one {v : Nat} {x : gp_V} (hv : ga_one v = true) (h : gt_vr ρ v x) : gp_one x = true := by
  unfold ga_one at hv
  rw [Bool.or_eq_true] at hv
  rcases hv with hv | hv
  · obtain ⟨y, rfl, -⟩ := gt_int hv h; rfl
  · rw [gt_adr hv h]; exact hv
theorem gt_vr_app {v : Nat} {x : gp_V} (zs : List Int32) (h : gt_vr ρ v x) : gt_vr (ρ ++ zs) v x := by
  cases x with
  | inl z => obtain ⟨y, h1, h2⟩ := h; exact ⟨y, h1, gb_vr_app zs h2⟩
  | inr c => exact h
theorem gt_sr_app {zs : List Int32} : ∀ {sk : List Nat} {st : List gp_V}, gt_sr ρ sk st → gt_sr (ρ ++ zs) sk st
  | [], [], _ => trivial
  | _ :: _, _ :: _, h => ⟨gt_vr_app zs h.1, gt_sr_app h.2⟩
  | [], _ :: _, h => h.elim
  | _ :: _, [], h => h.elim
theorem gt_lr_app {zs : List Int32} {al : List Nat} {pal : List gp_V} (h : gt_lr ρ al pal) : gt_lr (ρ ++ zs) al pal :=
  ⟨h.1, fun i v h1 h2 => by obtain ⟨x, a1, a2⟩ := h.2.1 i v h1 h2; exact ⟨x, a1, gt_vr_app zs a2⟩, h.2.2⟩
theorem gt_sr_cons {v : Nat} {r : List Nat} {st : List gp_V} (h : gt_sr ρ (v :: r) st) : ∃ x t, st = x :: t ∧ gt_vr ρ v x ∧ gt_sr ρ r t := by
  cases st with
  | nil => exact h.elim
  | cons x t => exact ⟨x, t, rfl, h.1, h.2⟩
theorem gt_sr_nil {st : List gp_V} (h : gt_sr ρ [] st) : st = [] := by
  cases st with
  | nil => rfl
  | cons x t => exact h.elim
theorem gt_wd_ok : ∀ {sk : List Nat} {st : List gp_V}, gt_sr ρ sk st → gp_wd st = ga_wd sk
  | [], [], _ => rfl
  | v :: r, x :: t, h => by
    have h2 := gt_wd_ok h.2
    have e : ga_wd (v :: r) = ga_if (Nat.beq (v % 8) 5) (ga_wd r + 2) (ga_wd r + 1) := rfl
    have e2 : gp_wd (x :: t) = (if gp_lng x = true then 2 else 1) + gp_wd t := rfl
    rw [e, e2, h2]
    simp only [ga_if_eq, ga_beq]
    by_cases h5 : v % 8 = 5
    · obtain ⟨⟨c, rfl, hc⟩, -⟩ := gt_lng h5 h.1
      rw [if_pos (gp_lng_of hc), if_pos h5]; omega
    · have : ¬ gp_lng x = true := by
        intro q
        obtain ⟨c, rfl, hc⟩ := gp_lng_eq q
        rcases h.1 with ⟨rfl, q2⟩ | ⟨rfl, -⟩
        · omega
        · exact h5 rfl
      rw [if_neg this, if_neg h5]; omega
  | [], _ :: _, h => h.elim
  | _ :: _, [], h => h.elim
theorem gt_ah_ok {al : List Nat} {pal : List gp_V} {i : Nat} (hl : gt_lr ρ al pal) (h : ga_ahead al i = true) : gp_ah pal i := by
  cases i with
  | zero => trivial
  | succ j =>
    intro c q hc
    have h5 := hl.2.2 j c q hc
    have e : ga_ahead al (j + 1) = ga_if (Nat.beq (ga_nth 7 al j % 8) 5) false true := rfl
    rw [e, ga_nth_eq, List.getD_eq_getElem?_getD, h5] at h
    simp [ga_if_eq] at h
theorem gt_lr_set {al : List Nat} {pal : List gp_V} {i v : Nat} {x : gp_V} (hl : gt_lr ρ al pal) (hv : gt_vr ρ v x) (h5 : ∀ c, x = .inr c → c % 8 = 5 → v = 5) : gt_lr ρ (al.set i v) (pal.set i x) := by
  refine ⟨by rw [List.length_set, List.length_set]; exact hl.1, fun j w hj h7 => ?_, fun j c hj hc => ?_⟩
  · rcases ga_getset hj with ⟨rfl, rfl⟩ | ⟨hne, hj2⟩
    · refine ⟨x, ?_, hv⟩
      have hlt := gp_get_lt hj
      rw [List.length_set] at hlt
      rw [List.getElem?_set, if_pos rfl, if_pos (by rw [← hl.1]; exact hlt)]
    · obtain ⟨y, g1, g2⟩ := hl.2.1 j w hj2 h7
      exact ⟨y, by rw [List.getElem?_set, if_neg (fun q => hne q.symm)]; exact g1, g2⟩
  · rcases ga_getset hj with ⟨rfl, e⟩ | ⟨hne, hj2⟩
    · have hlt := gp_get_lt hj
      rw [List.length_set] at hlt
      rw [List.getElem?_set, if_pos rfl, if_pos (by rw [hl.1]; exact hlt), h5 c e.symm hc]
    · rw [List.getElem?_set, if_neg (fun q => hne q.symm)]
      exact hl.2.2 j c hj2 hc
/-- a local is given up -/
theorem gt_lr_dead {al : List Nat} {pal : List gp_V} {i : Nat} (hl : gt_lr ρ al pal) (h5 : ¬ al[i]? = some 5) : gt_lr ρ (al.set i 7) pal := by
  refine ⟨by rw [List.length_set]; exact hl.1, fun j w hj h7 => ?_, fun j c hj hc => ?_⟩
  · rcases ga_getset hj with ⟨rfl, rfl⟩ | ⟨hne, hj2⟩
    · exact absurd rfl h7
    · exact hl.2.1 j w hj2 h7
  · have := hl.2.2 j c hj hc
    rw [List.getElem?_set]
    by_cases hij : i = j
    · subst hij; exact absurd this h5
    · rw [if_neg hij]; exact this
theorem gt_set7 {al : List Nat} {pal : List gp_V} {i : Nat} (hl : gt_lr ρ al pal) : gt_lr ρ (al.set i 7) (pal.set i (.inr 7)) := by
  refine ⟨by rw [List.length_set, List.length_set]; exact hl.1, fun j w hj h7 => ?_, fun j c hj hc => ?_⟩
  · rcases ga_getset hj with ⟨rfl, rfl⟩ | ⟨hne, hj2⟩
    · exact absurd rfl h7
    · obtain ⟨y, g1, g2⟩ := hl.2.1 j w hj2 h7
      exact ⟨y, by rw [List.getElem?_set, if_neg (fun q => hne q.symm)]; exact g1, g2⟩
  · rcases ga_getset hj with ⟨rfl, e⟩ | ⟨hne, hj2⟩
    · cases e
      exact absurd hc (by decide)
    · rw [List.getElem?_set, if_neg (fun q => hne q.symm)]
      exact hl.2.2 j c hj2 hc
theorem gt_p_ok {v : Nat} {K : Nat → Bool} (h : gt_p v K = true) : ¬ v % 8 = 7 ∧ K v = true := by
  unfold gt_p at h
  rw [ga_f_eq, ga_if_eq] at h
  split at h
  · cases h
  · rename_i h7
    exact ⟨fun q => h7 (by rw [q]; rfl), h⟩
theorem gt_if {b t : Bool} (h : ga_if b t false = true) : b = true ∧ t = true := by
  cases b with
  | true => exact ⟨rfl, h⟩
  | false => cases h
theorem gt_mo_app {ml : List (Nat × Nat)} {c j : Nat} (h : gb_mo ml c 1048576 = true) : gb_mo ml c j = true := by
  induction ml with
  | nil => cases h
  | cons q r ih =>
    have e : ∀ j, gb_mo (q :: r) c j = or (or (Nat.beq q.1 99999) (and (Nat.beq q.1 c) (or (Nat.beq q.2 j) (Nat.beq q.2 1048576)))) (gb_mo r c j) := fun _ => rfl
    rw [e] at h ⊢
    simp only [Bool.or_eq_true, Bool.and_eq_true, ga_beq] at h ⊢
    rcases h with (h | ⟨h1, h2⟩) | h
    · exact Or.inl (Or.inl h)
    · exact Or.inl (Or.inr ⟨h1, Or.inr (by rcases h2 with q | q <;> exact q)⟩)
    · exact Or.inr (ih h)
theorem gt_wc_ok {ml xl : List (Nat × Nat)} {c : Nat} (h : gt_wc ml xl c = true) : (∀ j, gb_mo ml c j = true) ∧ ∀ j, gb_mo xl c j = false := by
  unfold gt_wc at h
  rw [Bool.and_eq_true] at h
  refine ⟨fun j => gt_mo_app h.1, fun j => ?_⟩
  have h2 := h.2
  clear h
  induction xl with
  | nil => rfl
  | cons q r ih =>
    have e : (List.rec true (fun q _ ih => and (not (or (Nat.beq q.1 c) (Nat.beq q.1 99999))) ih) (q :: r) : Bool) = and (not (or (Nat.beq q.1 c) (Nat.beq q.1 99999))) (List.rec true (fun q _ ih => and (not (or (Nat.beq q.1 c) (Nat.beq q.1 99999))) ih) r) := rfl
    rw [e, Bool.and_eq_true, Bool.not_eq_true', Bool.or_eq_false_iff] at h2
    have e2 : gb_mo (q :: r) c j = or (or (Nat.beq q.1 99999) (and (Nat.beq q.1 c) (or (Nat.beq q.2 j) (Nat.beq q.2 1048576)))) (gb_mo r c j) := rfl
    rw [e2, ih h2.2, h2.1.1, h2.1.2]
    rfl
end HA
section HB
variable {sh : Nat → gp_T} {wt : Nat → gb_T} {ml xl : List (Nat × Nat)} {X : gp_S → Prop} {σ0 σ : gp_S} {ρ : List Int32} {cs : gb_C} {ov : gb_V}
theorem gt_or_app {zs : List Int32} (h : gt_or sh ρ ov σ) : gt_or sh (ρ ++ zs) ov σ := fun q hq => ⟨(h q hq).1, gt_vr_app zs (h q hq).2⟩
theorem gt_ol_mem {c j v : Nat} (h : gb_ol ov c j = v) (h7 : ¬ v % 8 = 7) : (c, j, v) ∈ ov := by
  induction ov with
  | nil => exact absurd (show v % 8 = 7 by rw [← h]; rfl) h7
  | cons q r ih =>
    have e : gb_ol (q :: r) c j = ga_if (and (Nat.beq q.1 c) (Nat.beq q.2.1 j)) q.2.2 (gb_ol r c j) := rfl
    rw [e, ga_if_eq] at h
    split at h
    · rename_i hq
      simp only [Bool.and_eq_true, ga_beq] at hq
      obtain ⟨a, b, d⟩ := q
      obtain ⟨h1, h2⟩ := hq
      simp only at h h1 h2
      rw [h1, h2, h]
      exact List.mem_cons_self
    · exact List.mem_cons_of_mem _ (ih h)
theorem gt_nam {v : Nat} {y : Int32} (hi : gb_in ρ cs) (hv : gb_vr ρ gt_o [] v (.int y)) : ∃ zs v' cs', (∀ {β : Type} (K : Nat → gb_C → β), gb_nam v cs K = K v' cs') ∧ gb_in (ρ ++ zs) cs' ∧ gb_vr (ρ ++ zs) gt_o [] v' (.int y) ∧ ga_int v' = true := by
  by_cases h2 : v % 8 = 2
  · obtain ⟨y, e, g1, g2⟩ := (gb_vr_2 h2).mp hv
    cases e
    refine ⟨[y], 8 * cs.length + 1, cs ++ [(v / 8 / 4294967296, v / 8 % 4294967296, 0, 0)], fun K => ?_, gb_in_new hi g1 g2 (Nat.mod_lt _ (by decide)) (Or.inl rfl), gb_vr_new hi, ?_⟩
    · unfold gb_nam
      rw [ga_if_eq, if_pos (by rw [h2]; rfl), gb_new_eq]
    · unfold ga_int
      rw [Nat.ble_eq]
      omega
  · refine ⟨[], v, cs, fun K => ?_, by rw [List.append_nil]; exact hi, by rw [List.append_nil]; exact hv, ?_⟩
    · unfold gb_nam
      rw [ga_if_eq, if_neg (by rw [ga_beq]; exact h2)]
    · unfold ga_int
      rw [Nat.ble_eq]
      by_cases h3 : v % 8 ≤ 2
      · exact h3
      · exact (gt_nin h3 (gt_of hv)).elim
theorem gt_rdl {c j t : Nat} (h3 : t % 8 = 3 ∨ t = 5) (hpk : gp_pk sh c j = t) : gt_vr ρ t (gp_rd sh σ c j) := by
  unfold gp_rd gp_rv
  rw [hpk, if_neg (by omega)]
  by_cases h5 : t = 5
  · rw [if_pos h5, h5]
    exact gt_l5 (by omega)
  · rw [if_neg h5]
    exact Or.inl ⟨rfl, by omega⟩
/-- a place is read -/
theorem gt_pick (Hs : gt_H sh wt) (hW : gt_W wt σ) (hi : gb_in ρ cs) (ho : gt_or sh ρ ov σ) {c j : Nat} (h9 : ¬ (wt c).1 = 999) (hj : j < (wt c).2.1) :
    ∃ zs v' cs' ov', (∀ {β : Type} (K : Nat → gb_C → gb_V → β), gb_pick (wt c) c j cs ov K = K v' cs' ov') ∧ gb_in (ρ ++ zs) cs' ∧ gt_or sh (ρ ++ zs) ov' σ ∧ gt_vr (ρ ++ zs) v' (gp_rd sh σ c j) := by
  unfold gb_pick
  by_cases h7 : gb_ol ov c j % 8 = 7
  · rcases (Hs c h9).2.2.2 j hj with ⟨h2, hpk⟩ | ⟨h3, hpk⟩
    · obtain ⟨y, hy, hv⟩ := hW c j h9 hj h2
      have hv' : gb_vr ρ gt_o [] (gb_ty (wt c) j) (.int y) := gb_vr_swap (n := 0) (fun q => by omega) (fun i hi => absurd hi (Nat.not_lt_zero i)) hv
      have hrd : gp_rd sh σ c j = .inl y.toInt := by unfold gp_rd; rw [hpk, ← hy]; rfl
      by_cases hn : (wt c).2.2.2.2 = 1
      · obtain ⟨zs, v', cs', g1, g2, g3, -⟩ := gt_nam hi hv'
        refine ⟨zs, v', cs', (c, j, v') :: ov, fun K => ?_, g2, fun q hq => ?_, by rw [hrd]; exact gt_of g3⟩
        · simp only [ga_f_eq, ga_if_eq, ga_beq, Bool.and_eq_true, if_pos h7, if_pos (And.intro h2 hn), g1]
        · rcases List.mem_cons.mp hq with rfl | hq
          · exact ⟨hpk, y, hy, g3⟩
          · exact gt_or_app ho q hq
      · refine ⟨[], gb_ty (wt c) j, cs, ov, fun K => ?_, by rw [List.append_nil]; exact hi, by rw [List.append_nil]; exact ho, by rw [List.append_nil, hrd]; exact gt_of hv'⟩
        simp only [ga_f_eq, ga_if_eq, ga_beq, Bool.and_eq_true, if_pos h7, if_neg (fun q : gb_ty (wt c) j % 8 = 2 ∧ (wt c).2.2.2.2 = 1 => hn q.2)]
    · have h2 : ¬ gb_ty (wt c) j % 8 = 2 := by omega
      refine ⟨[], gb_ty (wt c) j, cs, ov, fun K => ?_, by rw [List.append_nil]; exact hi, by rw [List.append_nil]; exact ho, ?_⟩
      · simp only [ga_f_eq, ga_if_eq, ga_beq, Bool.and_eq_true, if_pos h7, if_neg (fun q : gb_ty (wt c) j % 8 = 2 ∧ (wt c).2.2.2.2 = 1 => h2 q.1)]
      · rw [List.append_nil]
        exact gt_rdl h3 hpk
  · have hm := gt_ol_mem rfl h7
    obtain ⟨hpk, g2⟩ := ho _ hm
    refine ⟨[], gb_ol ov c j, cs, ov, fun K => ?_, by rw [List.append_nil]; exact hi, by rw [List.append_nil]; exact ho, ?_⟩
    · simp only [ga_f_eq, ga_if_eq, ga_beq, if_neg h7]
    · unfold gp_rd
      rw [hpk, List.append_nil]
      exact g2
/-- a value that fits a type -/
theorem gt_fit {v t : Nat} {x : gp_V} (hi : gb_in ρ cs) (hf : gb_fit cs v t = true) (hv : gt_vr ρ v x) : (t % 8 = 2 ∧ ∃ y : Int32, x = .inl y.toInt ∧ gb_vr [] gt_o [] t (.int y)) ∨ (v = t ∧ ((t % 8 = 3 ∧ x = .inr t) ∨ (t = 5 ∧ ∃ c, x = .inr c ∧ c % 8 = 5))) := by
  unfold gb_fit at hf
  simp only [ga_if_eq, ga_beq] at hf
  split at hf
  · rename_i h2
    simp only [Bool.and_eq_true, Nat.ble_eq] at hf
    obtain ⟨y, rfl, hy⟩ := gt_int hf.1 hv
    obtain ⟨g1, g2⟩ := gb_lohi hi hy
    exact Or.inl ⟨h2, y, rfl, (gb_vr_2 h2).mpr ⟨y, rfl, by omega, by omega⟩⟩
  · simp only [Bool.and_eq_true, Bool.or_eq_true, ga_beq] at hf
    obtain ⟨rfl, h3⟩ := hf
    rcases gt_inr (by omega) hv with ⟨q1, q2⟩ | ⟨q1, q2⟩
    · exact Or.inr ⟨rfl, Or.inl ⟨by omega, q1⟩⟩
    · exact Or.inr ⟨rfl, Or.inr ⟨q1, q2⟩⟩
/-- a place is written -/
theorem gt_W_up {c j : Nat} {y : Int32} (hW : gt_W wt σ) (hv : gb_vr [] gt_o [] (gb_ty (wt c) j) (.int y)) : gt_W wt (gp_up σ c j y.toInt) := by
  intro c' j' h9 hj h2
  by_cases h : c' = c ∧ j' = j
  · obtain ⟨rfl, rfl⟩ := h
    exact ⟨y, by unfold gp_up; rw [if_pos ⟨rfl, rfl⟩], hv⟩
  · have : gp_up σ c j y.toInt c' j' = σ c' j' := by unfold gp_up; rw [if_neg h]
    rw [this]
    exact hW c' j' h9 hj h2
/-- a long's place is written -/
theorem gt_W_upl {c j : Nat} {z : Int} (Hs : gt_H sh wt) (hW : gt_W wt σ) (hpk : gp_pk sh c j = 5) : gt_W wt (gp_up σ c j z) := by
  intro c' j' h9 hj h2
  by_cases h : c' = c ∧ j' = j
  · obtain ⟨rfl, rfl⟩ := h
    rcases (Hs c' h9).2.2.2 j' hj with q | q
    · omega
    · omega
  · have : gp_up σ c j z c' j' = σ c' j' := by unfold gp_up; rw [if_neg h]
    rw [this]
    exact hW c' j' h9 hj h2
theorem gt_fr_up {c j : Nat} {z : Int} (hf : gt_fr ml σ0 σ) (hm : gb_mo ml c j = true) : gt_fr ml σ0 (gp_up σ c j z) := by
  intro c' j' h
  by_cases hq : c' = c ∧ j' = j
  · obtain ⟨rfl, rfl⟩ := hq
    rw [hm] at h; cases h
  · have : gp_up σ c j z c' j' = σ c' j' := by unfold gp_up; rw [if_neg hq]
    rw [this]
    exact hf c' j' h
theorem gt_X_up {c j : Nat} {z : Int} (HX : ∀ σ σ', (∀ c j, gb_mo xl c j = true → σ' c j = σ c j) → X σ → X σ') (hX : X σ) (hm : gb_mo xl c j = false) : X (gp_up σ c j z) := by
  refine HX σ _ (fun c' j' h => ?_) hX
  unfold gp_up
  rw [if_neg (fun q => by rw [q.1, q.2, hm] at h; cases h)]
theorem gt_or_up {c j : Nat} {z : Int} {ov' : gb_V} (ho : gt_or sh ρ ov σ) (hv : ∀ q ∈ ov', q ∈ ov ∧ ¬ (q.1 = c ∧ q.2.1 = j)) : gt_or sh ρ ov' (gp_up σ c j z) := by
  intro q hq
  obtain ⟨h1, h2⟩ := hv q hq
  have : gp_up σ c j z q.1 q.2.1 = σ q.1 q.2.1 := by unfold gp_up; rw [if_neg h2]
  rw [this]
  exact ho q h1
theorem gt_lay {c j v : Nat} {y : Int32} (t : gb_T) (hi : gb_in ρ cs) (ho : gt_or sh ρ ov σ) (hv : gb_vr ρ gt_o [] v (.int y)) (hpk : gp_pk sh c j = 0) :
    ∃ zs cs' ov', (∀ {β : Type} (K : gb_C → gb_V → β), gb_lay t c j v cs ov K = K cs' ov') ∧ gb_in (ρ ++ zs) cs' ∧ gt_or sh (ρ ++ zs) ov' (gp_up σ c j y.toInt) := by
  have hf : ∀ q ∈ ov.filter (fun q => not (and (Nat.beq q.1 c) (Nat.beq q.2.1 j))), q ∈ ov ∧ ¬ (q.1 = c ∧ q.2.1 = j) := by
    intro q hq
    obtain ⟨h1, h2⟩ := List.mem_filter.mp hq
    refine ⟨h1, fun z => ?_⟩
    rw [z.1, z.2] at h2
    simp at h2
  have hor := gt_or_up (z := y.toInt) ho hf
  unfold gb_lay gb_od
  by_cases h2 : ga_int v = true ∧ t.2.2.2.2 = 1
  · obtain ⟨zs, v', cs', g1, g2, g3, -⟩ := gt_nam hi hv
    refine ⟨zs, cs', (c, j, v') :: ov.filter (fun q => not (and (Nat.beq q.1 c) (Nat.beq q.2.1 j))), fun K => ?_, g2, fun q hq => ?_⟩
    · simp only [gb_flt_eq, ga_if_eq, ga_beq, Bool.and_eq_true, if_pos h2, g1]
    · rcases List.mem_cons.mp hq with rfl | hq
      · refine ⟨hpk, y, ?_, g3⟩
        unfold gp_up
        rw [if_pos ⟨rfl, rfl⟩]
      · exact gt_or_app hor q hq
  · refine ⟨[], cs, ov.filter (fun q => not (and (Nat.beq q.1 c) (Nat.beq q.2.1 j))), fun K => ?_, by rw [List.append_nil]; exact hi, by rw [List.append_nil]; exact hor⟩
    simp only [gb_flt_eq, ga_if_eq, ga_beq, Bool.and_eq_true, if_neg h2]
/-- the same where nothing is to be kept of it: a long -/
theorem gt_layl {c j v : Nat} {z : Int} (t : gb_T) (ho : gt_or sh ρ ov σ) (hv : ga_int v = false) :
    ∃ ov', (∀ {β : Type} (K : gb_C → gb_V → β), gb_lay t c j v cs ov K = K cs ov') ∧ gt_or sh ρ ov' (gp_up σ c j z) := by
  refine ⟨ov.filter (fun q => not (and (Nat.beq q.1 c) (Nat.beq q.2.1 j))), fun K => ?_, gt_or_up ho (fun q hq => ?_)⟩
  rotate_left
  · obtain ⟨h1, h2⟩ := List.mem_filter.mp hq
    refine ⟨h1, fun w => ?_⟩
    rw [w.1, w.2] at h2
    simp at h2
  unfold gb_lay gb_od
  simp only [gb_flt_eq, ga_if_eq, hv, Bool.false_and, Bool.false_eq_true, if_false]
theorem gt_sum_ok {sg : Bool} {f : Nat → Nat → Nat → Nat → Nat} {x y : Nat} {X Y : Int32} {Z : Int32} (hi : gb_in ρ cs) (hx : gb_vr ρ gt_o [] x (.int X)) (hy : gb_vr ρ gt_o [] y (.int Y))
    (hZ : gb_vr ρ gt_o [] (f (gb_lo cs x) (gb_hi cs x) (gb_lo cs y) (gb_hi cs y)) (.int Z))
    (hk : ¬ f (gb_lo cs x) (gb_hi cs x) (gb_lo cs y) (gb_hi cs y) = gb_any → ga_kk Z + 4294967296 = ga_kk X + (if sg = true then ga_kk Y + 2147483648 else 6442450944 - ga_kk Y)) :
    ∃ zs v' cs', (∀ K : Nat → gb_C → Bool, gt_sum sg f cs x y K = K v' cs') ∧ gb_in (ρ ++ zs) cs' ∧ gb_vr (ρ ++ zs) gt_o [] v' (.int Z) := by
  unfold gt_sum
  generalize hf : f (gb_lo cs x) (gb_hi cs x) (gb_lo cs y) (gb_hi cs y) = v at hZ hk ⊢
  by_cases h1 : ((x % 8 = 1 ∧ y % 8 = 0) ∧ v % 8 = 2) ∧ ¬ v = gb_any
  · obtain ⟨⟨⟨hx1, hy0⟩, hv2⟩, hva⟩ := h1
    obtain ⟨z, e1, g1, g2⟩ := (gb_vr_2 hv2).mp hZ
    cases e1
    obtain ⟨u, e2, e3⟩ := (gb_vr_1 hx1).mp hx
    cases e3
    obtain ⟨l1, e4⟩ := (gb_vr_0 hy0).mp hy
    cases e4
    have hkk := hk hva
    rw [ga_kk_nI l1] at hkk
    refine ⟨[Z], 8 * cs.length + 1, cs ++ [(v / 8 / 4294967296, v / 8 % 4294967296, x / 8 + 1, if sg = true then ga_key (y / 8) + 2147483648 else 6442450944 - ga_key (y / 8))], fun K => ?_, gb_in_new hi g1 g2 (Nat.mod_lt _ (by decide)) (Or.inr ⟨X, by rw [Nat.add_sub_cancel]; exact e2, hkk⟩), gb_vr_new hi⟩
    simp only [ga_f_eq, ga_if_eq, Bool.and_eq_true, ga_beq, hx1, hy0, hv2, and_self, if_true, if_neg hva, gb_new_eq]
  · refine ⟨[], v, cs, fun K => ?_, by rw [List.append_nil]; exact hi, by rw [List.append_nil]; exact hZ⟩
    simp only [ga_f_eq, ga_if_eq, Bool.and_eq_true, ga_beq]
    split
    · rename_i h2
      rw [if_pos (Classical.not_not.mp (fun q => h1 ⟨h2, q⟩))]
    · rfl
theorem gt_Lp_app {ok : gp_G} {zs : List Int32} {L : gb_L} (h : gt_Lp sh wt ml X σ0 ok ρ L) : gt_Lp sh wt ml X σ0 ok (ρ ++ zs) L := by
  obtain ⟨f, h1, h2, h3, h5, h6, h7⟩ := h
  have e1 : (ρ ++ zs).take L.2.2.2.2.2 = ρ.take L.2.2.2.2.2 := List.take_append_of_le_length (by omega)
  refine ⟨f, h1, h2, by rw [List.length_append]; omega, by rw [e1]; exact h5, h6, fun ys y z a1 a2 a3 a4 pal psk σ hat => ?_⟩
  rw [e1] at hat
  rw [List.getElem?_append_left (by omega)] at a3
  exact h7 ys y z a1 a2 a3 a4 pal psk σ hat
end HB
