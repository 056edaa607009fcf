/-! what the typed machine's words say -/
def gb_vr (ρ : List Int32) (oa : Nat → Nat) (ad : List Nat) (v : Nat) (x : Value) : Prop :=
  match v % 8 with
  | 0 => v / 8 < 4294967296 ∧ x = .int (nI (v / 8))
  | 1 => ∃ y, ρ[v / 8]? = some y ∧ x = .int y
  | 2 => ∃ y : Int32, x = .int y ∧ v / 8 / 4294967296 ≤ ga_kk y ∧ ga_kk y ≤ v / 8 % 4294967296
  | 3 => ∃ a, ad[v / 8]? = some a ∧ x = .ref a
  | 4 => x = .null
  | 5 => ∃ y : Int64, x = .long y
  | 6 => x = .ref (oa (v / 8))
  | _ => False
def gb_in (ρ : List Int32) (cs : gb_C) : Prop := ρ.length = cs.length ∧ ∀ (i : Nat) (q : Nat × Nat × Nat × Nat), cs[i]? = some q → q.2.1 < 4294967296 ∧ ∃ y, ρ[i]? = some y ∧ q.1 ≤ ga_kk y ∧ ga_kk y ≤ q.2.1 ∧ (q.2.2.1 = 0 ∨ ∃ z, ρ[q.2.2.1 - 1]? = some z ∧ ga_kk y + 4294967296 = ga_kk z + q.2.2.2)
theorem gb_app_eq {α β : Type} (e : α) (l : List α) (K : List α → β) : gb_app e l K = K (l ++ [e]) := by
  induction l generalizing K with
  | nil => rfl
  | cons x r ih => exact ih (fun t => K (x :: t))
theorem gb_flt_eq {α β : Type} (f : α → Bool) (l : List α) (K : List α → β) : gb_flt f l K = K (l.filter f) := by
  induction l generalizing K with
  | nil => rfl
  | cons x r ih =>
    have e : gb_flt f (x :: r) K = ga_if (f x) (gb_flt f r (fun t => K (x :: t))) (gb_flt f r K) := rfl
    rw [e, ih, ih, List.filter_cons]
    cases f x <;> rfl
theorem gb_new_eq {β : Type} (cs : gb_C) (lo hi b off : Nat) (K : Nat → gb_C → β) : gb_new cs lo hi b off K = K (8 * cs.length + 1) (cs ++ [(lo, hi, b, off)]) := by
  unfold gb_new
  simp only [ga_f_eq, gb_app_eq]
theorem gb_set4_eq {β : Type} (cs : gb_C) (i lo hi b off : Nat) (K : gb_C → β) : gb_set4 cs i lo hi b off K = K (cs.set i (lo, hi, b, off)) := by
  unfold gb_set4
  simp only [ga_f_eq, ga_set_eq]
section HV
variable {ρ : List Int32} {oa : Nat → Nat} {ad : List Nat} {cs : gb_C}
theorem gb_vr_0 {v : Nat} {x : Value} (h : v % 8 = 0) : gb_vr ρ oa ad v x ↔ v / 8 < 4294967296 ∧ x = .int (nI (v / 8)) := by unfold gb_vr; rw [h]; exact Iff.rfl
theorem gb_vr_1 {v : Nat} {x : Value} (h : v % 8 = 1) : gb_vr ρ oa ad v x ↔ ∃ y, ρ[v / 8]? = some y ∧ x = .int y := by unfold gb_vr; rw [h]; exact Iff.rfl
theorem gb_vr_2 {v : Nat} {x : Value} (h : v % 8 = 2) : gb_vr ρ oa ad v x ↔ ∃ y : Int32, x = .int y ∧ v / 8 / 4294967296 ≤ ga_kk y ∧ ga_kk y ≤ v / 8 % 4294967296 := by unfold gb_vr; rw [h]; exact Iff.rfl
theorem gb_vr_3 {v : Nat} {x : Value} (h : v % 8 = 3) : gb_vr ρ oa ad v x ↔ ∃ a, ad[v / 8]? = some a ∧ x = .ref a := by unfold gb_vr; rw [h]; exact Iff.rfl
theorem gb_vr_4 {v : Nat} {x : Value} (h : v % 8 = 4) : gb_vr ρ oa ad v x ↔ x = .null := by unfold gb_vr; rw [h]; exact Iff.rfl
theorem gb_vr_5 {v : Nat} {x : Value} (h : v % 8 = 5) : gb_vr ρ oa ad v x ↔ ∃ y : Int64, x = .long y := by unfold gb_vr; rw [h]; exact Iff.rfl
theorem gb_vr_6 {v : Nat} {x : Value} (h : v % 8 = 6) : gb_vr ρ oa ad v x ↔ x = .ref (oa (v / 8)) := by unfold gb_vr; rw [h]; exact Iff.rfl
theorem gb_vr_7 {v : Nat} {x : Value} (h : v % 8 = 7) : ¬ gb_vr ρ oa ad v x := by unfold gb_vr; rw [h]; exact id
theorem gb_get_app {α : Type} {l : List α} {i : Nat} {y : α} (zs : List α) (h : l[i]? = some y) : (l ++ zs)[i]? = some y := by
  rw [List.getElem?_append_left]
  · exact h
  · rcases Nat.lt_or_ge i l.length with q | q
    · exact q
    · rw [List.getElem?_eq_none q] at h; cases h
theorem gb_get_lt {α : Type} {l : List α} {i : Nat} {y : α} (h : l[i]? = some y) : i < l.length := by
  rcases Nat.lt_or_ge i l.length with q | q
  · exact q
  · rw [List.getElem?_eq_none q] at h; cases h
theorem gb_vr_app {v : Nat} {x : Value} (zs : List Int32) (h : gb_vr ρ oa ad v x) : gb_vr (ρ ++ zs) oa ad v x := by
  by_cases h1 : v % 8 = 1
  · obtain ⟨y, g1, g2⟩ := (gb_vr_1 h1).mp h
    exact (gb_vr_1 h1).mpr ⟨y, gb_get_app zs g1, g2⟩
  · have h8 : v % 8 < 8 := Nat.mod_lt _ (by decide)
    unfold gb_vr at h ⊢
    generalize v % 8 = t at h h1 h8 ⊢
    match t, h1, h8, h with
    | 0, _, _, h => exact h
    | 2, _, _, h => exact h
    | 3, _, _, h => exact h
    | 4, _, _, h => exact h
    | 5, _, _, h => exact h
    | 6, _, _, h => exact h
    | 7, _, _, h => exact h
/-- a value without symbols, or with elder ones alone, says the same by another list of symbols -/
theorem gb_vr_swap {ρ' : List Int32} {v n : Nat} {x : Value} (hv : v % 8 = 1 → v / 8 < n) (hρ : ∀ i, i < n → ρ[i]? = ρ'[i]?) (h : gb_vr ρ oa ad v x) : gb_vr ρ' oa ad v x := by
  by_cases h1 : v % 8 = 1
  · obtain ⟨y, g1, g2⟩ := (gb_vr_1 h1).mp h
    exact (gb_vr_1 h1).mpr ⟨y, by rw [← hρ _ (hv h1)]; exact g1, g2⟩
  · have h8 : v % 8 < 8 := Nat.mod_lt _ (by decide)
    unfold gb_vr at h ⊢
    generalize v % 8 = t at h h1 h8 ⊢
    match t, h1, h8, h with
    | 0, _, _, h => exact h
    | 2, _, _, h => exact h
    | 3, _, _, h => exact h
    | 4, _, _, h => exact h
    | 5, _, _, h => exact h
    | 6, _, _, h => exact h
    | 7, _, _, h => exact h
theorem gb_vr_int {v : Nat} {x : Value} (h : ga_int v = true) (hx : gb_vr ρ oa ad v x) : ∃ y : Int32, x = .int y := by
  rcases ga_int_le h with h | h | h
  · exact ⟨_, ((gb_vr_0 h).mp hx).2⟩
  · obtain ⟨y, -, e⟩ := (gb_vr_1 h).mp hx; exact ⟨y, e⟩
  · obtain ⟨y, e, -⟩ := (gb_vr_2 h).mp hx; exact ⟨y, e⟩
theorem gb_ent_ok {i : Nat} {y : Int32} (hi : gb_in ρ cs) (hy : ρ[i]? = some y) : (gb_ent cs i).1 ≤ ga_kk y ∧ ga_kk y ≤ (gb_ent cs i).2.1 ∧ ((gb_ent cs i).2.2.1 = 0 ∨ ∃ z, ρ[(gb_ent cs i).2.2.1 - 1]? = some z ∧ ga_kk y + 4294967296 = ga_kk z + (gb_ent cs i).2.2.2) ∧ cs[i]? = some (gb_ent cs i) := by
  have hl := gb_get_lt hy
  rw [hi.1] at hl
  have he : cs[i]? = some (gb_ent cs i) := by
    unfold gb_ent
    rw [ga_nth_eq, List.getD_eq_getElem?_getD, List.getElem?_eq_getElem hl]
    rfl
  obtain ⟨-, z, g1, g2, g3, g4⟩ := hi.2 i _ he
  rw [hy] at g1
  cases g1
  exact ⟨g2, g3, g4, he⟩
theorem gb_ent_hi {i : Nat} {y : Int32} (hi : gb_in ρ cs) (hy : ρ[i]? = some y) : (gb_ent cs i).2.1 < 4294967296 := by
  obtain ⟨-, -, -, he⟩ := gb_ent_ok hi hy
  exact (hi.2 i _ he).1
theorem gb_lohi {v : Nat} {y : Int32} (hi : gb_in ρ cs) (hx : gb_vr ρ oa ad v (.int y)) : gb_lo cs v ≤ ga_kk y ∧ ga_kk y ≤ gb_hi cs v := by
  unfold gb_lo gb_hi
  simp only [ga_if_eq, ga_beq]
  by_cases h0 : v % 8 = 0
  · obtain ⟨h1, h2⟩ := (gb_vr_0 h0).mp hx
    cases h2
    rw [if_pos h0, if_pos h0, ga_kk_nI h1]
    exact ⟨Nat.le_refl _, Nat.le_refl _⟩
  · rw [if_neg h0, if_neg h0]
    by_cases h1 : v % 8 = 1
    · obtain ⟨z, h2, h3⟩ := (gb_vr_1 h1).mp hx
      cases h3
      rw [if_pos h1, if_pos h1]
      obtain ⟨g1, g2, -⟩ := gb_ent_ok hi h2
      exact ⟨g1, g2⟩
    · rw [if_neg h1, if_neg h1]
      by_cases h2 : v % 8 = 2
      · obtain ⟨z, h3, h4, h5⟩ := (gb_vr_2 h2).mp hx
        cases h3
        rw [if_pos h2, if_pos h2]
        exact ⟨h4, h5⟩
      · rw [if_neg h2, if_neg h2]
        exact ⟨Nat.zero_le _, ga_kk_le y⟩
theorem gb_of_key {z : Int32} : z = nI (ga_key (ga_kk z)) := by
  have h := ga_key_lt (ga_kk z)
  have h2 := ga_kk_le z
  rw [ga_kk_eq, ga_kk_nI h, ga_key_key (by omega)]
theorem gb_hi_lt {v : Nat} {y : Int32} (hi : gb_in ρ cs) (hx : gb_vr ρ oa ad v (.int y)) : gb_hi cs v < 4294967296 := by
  unfold gb_hi
  simp only [ga_if_eq, ga_beq]
  split
  · exact ga_key_lt _
  · split
    · rename_i h1
      obtain ⟨z, h2, -⟩ := (gb_vr_1 h1).mp hx
      exact gb_ent_hi hi h2
    · split
      · exact Nat.mod_lt _ (by decide)
      · decide
theorem gb_lit {n : Nat} (h : n < 4294967296) : gb_vr ρ oa ad (8 * n) (.int (nI n)) := (gb_vr_0 (by omega)).mpr ⟨by omega, by rw [Nat.mul_div_cancel_left _ (by decide)]⟩
theorem gb_litn {z : Int32} {n : Nat} (hn : ga_key (ga_kk z) = n) : gb_vr ρ oa ad (8 * n) (.int z) := by
  have e : z = nI n := by rw [← hn]; exact gb_of_key
  have hl : n < 4294967296 := by rw [← hn]; exact ga_key_lt _
  rw [e]
  exact gb_lit hl
theorem gb_tv_ok {lo hi : Nat} {z : Int32} (h1 : lo ≤ ga_kk z) (h2 : ga_kk z ≤ hi) (h3 : hi < 4294967296) : gb_vr ρ oa ad (gb_tv lo hi) (.int z) := by
  unfold gb_tv
  refine (gb_vr_2 (by omega)).mpr ⟨z, rfl, ?_, ?_⟩
  · have : (8 * (lo * 4294967296 + hi) + 2) / 8 = lo * 4294967296 + hi := by omega
    rw [this]
    omega
  · have : (8 * (lo * 4294967296 + hi) + 2) / 8 = lo * 4294967296 + hi := by omega
    rw [this]
    omega
theorem gb_mk_ok {lo hi : Nat} {z : Int32} (h1 : lo ≤ ga_kk z) (h2 : ga_kk z ≤ hi) (h3 : hi < 4294967296) : gb_vr ρ oa ad (gb_mk lo hi) (.int z) := by
  unfold gb_mk
  simp only [ga_if_eq, ga_beq]
  split
  · have e : lo = ga_kk z := by omega
    rw [e]
    generalize hn : ga_key (ga_kk z) = n
    exact gb_litn hn
  · exact gb_tv_ok h1 h2 h3
theorem gb_any_ok (z : Int32) : gb_vr ρ oa ad gb_any (.int z) := by
  have h := gb_tv_ok (ρ := ρ) (oa := oa) (ad := ad) (lo := 0) (hi := 4294967295) (Nat.zero_le (ga_kk z)) (ga_kk_le z) (by decide)
  have e : gb_tv 0 4294967295 = gb_any := Nat.eq_of_beq_eq_true rfl
  rw [e] at h
  exact h
theorem gb_mk_int {lo hi : Nat} : ga_int (gb_mk lo hi) = true := by
  unfold gb_mk gb_tv ga_int
  simp only [ga_if_eq, ga_beq, Nat.ble_eq]
  split <;> omega
theorem gb_sm_ok {v : Nat} {x : Value} (hi : gb_in ρ cs) (hx : gb_vr ρ oa ad v x) : gb_vr ρ oa ad (gb_sm cs v) x := by
  unfold gb_sm
  simp only [ga_if_eq, ga_beq]
  split
  · rename_i h1
    split
    · rename_i h2
      generalize hn : ga_key (gb_ent cs (v / 8)).1 = n
      obtain ⟨y, h3, h4⟩ := (gb_vr_1 h1).mp hx
      obtain ⟨g1, g2, -⟩ := gb_ent_ok hi h3
      have hk : (gb_ent cs (v / 8)).1 = ga_kk y := by omega
      rw [h4]
      rw [hk] at hn
      exact gb_litn hn
    · exact hx
  · exact hx
theorem gb_sm_int {v : Nat} (h : ga_int v = true) : ga_int (gb_sm cs v) = true := by
  unfold gb_sm
  simp only [ga_if_eq, ga_beq]
  split
  · split
    · unfold ga_int
      rw [Nat.ble_eq]
      omega
    · exact h
  · exact h
/-- a new symbol -/
theorem gb_in_new {y : Int32} {lo hi b off : Nat} (hi0 : gb_in ρ cs) (h1 : lo ≤ ga_kk y) (h2 : ga_kk y ≤ hi) (h3 : hi < 4294967296) (hb : b = 0 ∨ ∃ z, ρ[b - 1]? = some z ∧ ga_kk y + 4294967296 = ga_kk z + off) : gb_in (ρ ++ [y]) (cs ++ [(lo, hi, b, off)]) := by
  refine ⟨by rw [List.length_append, List.length_append, hi0.1]; rfl, fun i q hq => ?_⟩
  rcases Nat.lt_or_ge i cs.length with hl | hl
  · rw [List.getElem?_append_left hl] at hq
    obtain ⟨g0, z, g1, g2, g3, g4⟩ := hi0.2 i q hq
    refine ⟨g0, z, gb_get_app _ g1, g2, g3, ?_⟩
    rcases g4 with g4 | ⟨w, g4, g5⟩
    · exact Or.inl g4
    · exact Or.inr ⟨w, gb_get_app _ g4, g5⟩
  · rw [List.getElem?_append_right hl] at hq
    have h0 : i - cs.length = 0 := by
      rcases Nat.eq_zero_or_pos (i - cs.length) with q0 | q0
      · exact q0
      · have : ([(lo, hi, b, off)] : gb_C)[i - cs.length]? = none := List.getElem?_eq_none (by simp; omega)
        rw [this] at hq
        cases hq
    rw [h0] at hq
    cases hq
    refine ⟨h3, y, ?_, h1, h2, ?_⟩
    · rw [List.getElem?_append_right (by rw [hi0.1]; exact hl), hi0.1, h0]
      rfl
    · rcases hb with hb | ⟨z, g1, g2⟩
      · exact Or.inl hb
      · exact Or.inr ⟨z, gb_get_app _ g1, g2⟩
theorem gb_vr_new {y : Int32} (hi0 : gb_in ρ cs) : gb_vr (ρ ++ [y]) oa ad (8 * cs.length + 1) (.int y) := by
  refine (gb_vr_1 (by omega)).mpr ⟨y, ?_, rfl⟩
  rw [show (8 * cs.length + 1) / 8 = ρ.length by rw [hi0.1]; omega, List.getElem?_append_right (Nat.le_refl _), Nat.sub_self]
  rfl
theorem gb_in_set {i lo hi : Nat} {y : Int32} (hi0 : gb_in ρ cs) (hy : ρ[i]? = some y) (h1 : lo ≤ ga_kk y) (h2 : ga_kk y ≤ hi) (h3 : hi < 4294967296) : gb_in ρ (cs.set i (lo, hi, (gb_ent cs i).2.2.1, (gb_ent cs i).2.2.2)) := by
  refine ⟨by rw [List.length_set]; exact hi0.1, fun j q hq => ?_⟩
  rcases ga_getset hq with ⟨rfl, rfl⟩ | ⟨hne, hj⟩
  · obtain ⟨-, -, g3, -⟩ := gb_ent_ok hi0 hy
    exact ⟨h3, y, hy, h1, h2, g3⟩
  · exact hi0.2 j q hj
theorem gb_sh1_ok {β : Type} {v h : Nat} {X : Int32} (hi : gb_in ρ cs) (hx : gb_vr ρ oa ad v (.int X)) (hh : ga_kk X ≤ h) : ∃ cs', gb_in ρ cs' ∧ ∀ K : gb_C → β, gb_sh1 cs v h K = K cs' := by
  unfold gb_sh1
  by_cases h1 : v % 8 = 1
  · obtain ⟨y, g1, g2⟩ := (gb_vr_1 h1).mp hx
    cases g2
    obtain ⟨e1, e2, -⟩ := gb_ent_ok hi g1
    have e3 := gb_ent_hi hi g1
    rcases hq : gb_ent cs (v / 8) with ⟨lo, hh2, b, off⟩
    rw [hq] at e1 e2 e3
    by_cases h2 : h < hh2
    · refine ⟨_, gb_in_set (lo := lo) (hi := h) hi g1 e1 hh (Nat.lt_trans h2 e3), fun K => ?_⟩
      simp only [ga_if_eq, ga_beq, Nat.blt_eq, if_pos h1, if_pos h2, gb_set4_eq, hq]
    · exact ⟨cs, hi, fun K => by simp only [ga_if_eq, ga_beq, Nat.blt_eq, if_pos h1, if_neg h2]⟩
  · exact ⟨cs, hi, fun K => by simp only [ga_if_eq, ga_beq, if_neg h1]⟩
theorem gb_sl1_ok {β : Type} {v l : Nat} {X : Int32} (hi : gb_in ρ cs) (hx : gb_vr ρ oa ad v (.int X)) (hh : l ≤ ga_kk X) : ∃ cs', gb_in ρ cs' ∧ ∀ K : gb_C → β, gb_sl1 cs v l K = K cs' := by
  unfold gb_sl1
  by_cases h1 : v % 8 = 1
  · obtain ⟨y, g1, g2⟩ := (gb_vr_1 h1).mp hx
    cases g2
    obtain ⟨e1, e2, -⟩ := gb_ent_ok hi g1
    have e3 := gb_ent_hi hi g1
    rcases hq : gb_ent cs (v / 8) with ⟨lo, hh2, b, off⟩
    rw [hq] at e1 e2 e3
    by_cases h2 : lo < l
    · refine ⟨_, gb_in_set (lo := l) (hi := hh2) hi g1 hh e2 e3, fun K => ?_⟩
      simp only [ga_if_eq, ga_beq, Nat.blt_eq, if_pos h1, if_pos h2, gb_set4_eq, hq]
    · exact ⟨cs, hi, fun K => by simp only [ga_if_eq, ga_beq, Nat.blt_eq, if_pos h1, if_neg h2]⟩
  · exact ⟨cs, hi, fun K => by simp only [ga_if_eq, ga_beq, if_neg h1]⟩
theorem gb_shi_ok {β : Type} {v h : Nat} {X : Int32} (hi : gb_in ρ cs) (hx : gb_vr ρ oa ad v (.int X)) (hh : ga_kk X ≤ h) : ∃ cs', gb_in ρ cs' ∧ ∀ K : gb_C → β, gb_shi cs v h K = K cs' := by
  obtain ⟨c1, g1, g2⟩ := gb_sh1_ok (β := β) hi hx hh
  by_cases h1 : v % 8 = 1
  · obtain ⟨y, e1, e2⟩ := (gb_vr_1 h1).mp hx
    cases e2
    obtain ⟨-, -, g3, -⟩ := gb_ent_ok g1 e1
    by_cases hb : (gb_ent c1 (v / 8)).2.2.1 = 0
    · refine ⟨c1, g1, fun K => ?_⟩
      unfold gb_shi
      rw [g2, ga_if_eq, if_pos (by rw [ga_beq]; exact h1), ga_f_eq, ga_if_eq, if_pos (by rw [ga_beq]; exact hb)]
    · rcases g3 with g3 | ⟨z, g3, g4⟩
      · exact absurd g3 hb
      · have hz : gb_vr ρ oa ad (8 * ((gb_ent c1 (v / 8)).2.2.1 - 1) + 1) (.int z) := (gb_vr_1 (by omega)).mpr ⟨z, by rw [show (8 * ((gb_ent c1 (v / 8)).2.2.1 - 1) + 1) / 8 = (gb_ent c1 (v / 8)).2.2.1 - 1 by omega]; exact g3, rfl⟩
        obtain ⟨c2, k1, k2⟩ := gb_sh1_ok (β := β) (h := h + 4294967296 - (gb_ent c1 (v / 8)).2.2.2) g1 hz (by omega)
        refine ⟨c2, k1, fun K => ?_⟩
        unfold gb_shi
        rw [g2, ga_if_eq, if_pos (by rw [ga_beq]; exact h1), ga_f_eq, ga_if_eq, if_neg (by rw [ga_beq]; exact hb), ga_f_eq, k2]
  · refine ⟨c1, g1, fun K => ?_⟩
    unfold gb_shi
    rw [g2, ga_if_eq, if_neg (by rw [ga_beq]; exact h1)]
theorem gb_slo_ok {β : Type} {v l : Nat} {X : Int32} (hi : gb_in ρ cs) (hx : gb_vr ρ oa ad v (.int X)) (hh : l ≤ ga_kk X) : ∃ cs', gb_in ρ cs' ∧ ∀ K : gb_C → β, gb_slo cs v l K = K cs' := by
  obtain ⟨c1, g1, g2⟩ := gb_sl1_ok (β := β) hi hx hh
  by_cases h1 : v % 8 = 1
  · obtain ⟨y, e1, e2⟩ := (gb_vr_1 h1).mp hx
    cases e2
    obtain ⟨-, -, g3, -⟩ := gb_ent_ok g1 e1
    by_cases hb : (gb_ent c1 (v / 8)).2.2.1 = 0
    · refine ⟨c1, g1, fun K => ?_⟩
      unfold gb_slo
      rw [g2, ga_if_eq, if_pos (by rw [ga_beq]; exact h1), ga_f_eq, ga_if_eq, if_pos (by rw [ga_beq]; exact hb)]
    · rcases g3 with g3 | ⟨z, g3, g4⟩
      · exact absurd g3 hb
      · have hz : gb_vr ρ oa ad (8 * ((gb_ent c1 (v / 8)).2.2.1 - 1) + 1) (.int z) := (gb_vr_1 (by omega)).mpr ⟨z, by rw [show (8 * ((gb_ent c1 (v / 8)).2.2.1 - 1) + 1) / 8 = (gb_ent c1 (v / 8)).2.2.1 - 1 by omega]; exact g3, rfl⟩
        obtain ⟨c2, k1, k2⟩ := gb_sl1_ok (β := β) (l := l + 4294967296 - (gb_ent c1 (v / 8)).2.2.2) g1 hz (by omega)
        refine ⟨c2, k1, fun K => ?_⟩
        unfold gb_slo
        rw [g2, ga_if_eq, if_pos (by rw [ga_beq]; exact h1), ga_f_eq, ga_if_eq, if_neg (by rw [ga_beq]; exact hb), ga_f_eq, k2]
  · refine ⟨c1, g1, fun K => ?_⟩
    unfold gb_slo
    rw [g2, ga_if_eq, if_neg (by rw [ga_beq]; exact h1)]
theorem gb_al1_ok {β : Type} {i j : Nat} {X : Int32} (hi : gb_in ρ cs) (h1 : ρ[i]? = some X) (h2 : ρ[j]? = some X) : ∃ cs', gb_in ρ cs' ∧ ∀ K : gb_C → β, gb_al1 cs i j K = K cs' := by
  obtain ⟨g1, g2, -, g4⟩ := gb_ent_ok hi h2
  have g5 := gb_ent_hi hi h2
  unfold gb_al1
  rcases hq : gb_ent cs j with ⟨lo, hh, b, off⟩
  rw [hq] at g1 g2 g5
  by_cases hb : b = 0
  · refine ⟨cs.set j (lo, hh, i + 1, 4294967296), ⟨by rw [List.length_set]; exact hi.1, fun k q hk => ?_⟩, fun K => by simp only [ga_if_eq, ga_beq, if_pos hb, gb_set4_eq]⟩
    rcases ga_getset hk with ⟨rfl, rfl⟩ | ⟨hne, hj⟩
    · exact ⟨g5, X, h2, g1, g2, Or.inr ⟨X, by rw [Nat.add_sub_cancel]; exact h1, rfl⟩⟩
    · exact hi.2 k q hj
  · exact ⟨cs, hi, fun K => by simp only [ga_if_eq, ga_beq, if_neg hb]⟩
theorem gb_al2_ok {β : Type} {x y : Nat} {X : Int32} (hi : gb_in ρ cs) (hx : gb_vr ρ oa ad x (.int X)) (hy : gb_vr ρ oa ad y (.int X)) : ∃ cs', gb_in ρ cs' ∧ ∀ K : gb_C → β, gb_al2 cs x y K = K cs' := by
  unfold gb_al2
  by_cases h1 : x % 8 = 1 ∧ y % 8 = 1
  · obtain ⟨u, e1, e2⟩ := (gb_vr_1 h1.1).mp hx
    obtain ⟨w, e3, e4⟩ := (gb_vr_1 h1.2).mp hy
    cases e2
    cases e4
    by_cases h2 : x / 8 < y / 8
    · obtain ⟨c1, k1, k2⟩ := gb_al1_ok (β := β) hi e1 e3
      exact ⟨c1, k1, fun K => by simp only [ga_if_eq, Bool.and_eq_true, ga_beq, if_pos h1, Nat.blt_eq, if_pos h2, k2]⟩
    · by_cases h3 : y / 8 < x / 8
      · obtain ⟨c1, k1, k2⟩ := gb_al1_ok (β := β) hi e3 e1
        exact ⟨c1, k1, fun K => by simp only [ga_if_eq, Bool.and_eq_true, ga_beq, if_pos h1, Nat.blt_eq, if_neg h2, if_pos h3, k2]⟩
      · exact ⟨cs, hi, fun K => by simp only [ga_if_eq, Bool.and_eq_true, ga_beq, if_pos h1, Nat.blt_eq, if_neg h2, if_neg h3]⟩
  · exact ⟨cs, hi, fun K => by simp only [ga_if_eq, Bool.and_eq_true, ga_beq, if_neg h1]⟩
theorem gb_rt1_ok {x : Nat} {X : Int32} (hi : gb_in ρ cs) (hx : gb_vr ρ oa ad x (.int X)) : gb_vr ρ oa ad (gb_rt1 cs x) (.int X) := by
  unfold gb_rt1
  simp only [ga_if_eq, Bool.and_eq_true, Bool.not_eq_true', ga_beq]
  split
  · rename_i h1
    split
    · rename_i h2
      obtain ⟨u, e1, e2⟩ := (gb_vr_1 h1).mp hx
      cases e2
      obtain ⟨-, -, g, -⟩ := gb_ent_ok hi e1
      rcases g with g | ⟨z, g1, g2⟩
      · rw [g] at h2
        exact absurd h2.1 (by decide)
      · have hz : z = X := by
          rw [ga_kk_eq]
          have := h2.2
          omega
        rw [hz] at g1
        exact (gb_vr_1 (by omega)).mpr ⟨X, by rw [show (8 * ((gb_ent cs (x / 8)).2.2.1 - 1) + 1) / 8 = (gb_ent cs (x / 8)).2.2.1 - 1 by omega]; exact g1, rfl⟩
    · exact hx
  · exact hx
theorem gb_rt_ok {x : Nat} {X : Int32} (hi : gb_in ρ cs) (hx : gb_vr ρ oa ad x (.int X)) : gb_vr ρ oa ad (gb_rt cs x) (.int X) := by
  unfold gb_rt
  rw [ga_f_eq, ga_f_eq]
  exact gb_rt1_ok hi (gb_rt1_ok hi hx)
theorem gb_rt1_sym {x : Nat} (h : x % 8 = 1) : gb_rt1 cs x % 8 = 1 := by
  unfold gb_rt1
  simp only [ga_if_eq]
  split
  · split
    · omega
    · exact h
  · exact h
theorem gb_rt_sym {x : Nat} (h : x % 8 = 1) : gb_rt cs x % 8 = 1 := by
  unfold gb_rt
  rw [ga_f_eq, ga_f_eq]
  exact gb_rt1_sym (gb_rt1_sym h)
theorem gb_al_ok {β : Type} {x y : Nat} {X : Int32} (hi : gb_in ρ cs) (hx : gb_vr ρ oa ad x (.int X)) (hy : gb_vr ρ oa ad y (.int X)) : ∃ cs', gb_in ρ cs' ∧ ∀ K : gb_C → β, gb_al cs x y K = K cs' := by
  obtain ⟨c1, k1, k2⟩ := gb_al2_ok (β := β) hi (gb_rt_ok hi hx) (gb_rt_ok hi hy)
  exact ⟨c1, k1, fun K => by unfold gb_al; rw [ga_f_eq, ga_f_eq]; exact k2 K⟩
theorem gb_same_ok {x y : Nat} {X Y : Int32} (hi : gb_in ρ cs) (hx : gb_vr ρ oa ad x (.int X)) (hy : gb_vr ρ oa ad y (.int Y)) (h : gb_same cs x y = true) : ga_kk X = ga_kk Y := by
  unfold gb_same at h
  simp only [Bool.and_eq_true, ga_beq] at h
  obtain ⟨⟨h1, h2⟩, h3⟩ := h
  have a := gb_rt_ok hi hx
  have b := gb_rt_ok hi hy
  rw [h3] at a
  obtain ⟨u, e1, e2⟩ := (gb_vr_1 (gb_rt_sym h2)).mp a
  obtain ⟨w, e3, e4⟩ := (gb_vr_1 (gb_rt_sym h2)).mp b
  cases e2
  cases e4
  rw [e1] at e3
  cases e3
  rfl
/-- a way of a branch: the constraints there -/
def gt_way (ρ : List Int32) (P : Prop) (kt kf : gb_C → Bool) : Prop := ∃ cs', gb_in ρ cs' ∧ ((P ∧ kt cs' = true) ∨ (¬ P ∧ kf cs' = true))
theorem gt_lt_ok {x y : Nat} {X Y : Int32} {kt kf : gb_C → Bool} (hi : gb_in ρ cs) (hx : gb_vr ρ oa ad x (.int X)) (hy : gb_vr ρ oa ad y (.int Y)) (h : gt_lt cs x y kt kf = true) : gt_way ρ (X < Y) kt kf := by
  obtain ⟨a1, a2⟩ := gb_lohi hi hx
  obtain ⟨b1, b2⟩ := gb_lohi hi hy
  unfold gt_lt at h
  simp only [ga_f_eq, ga_if_eq, Nat.blt_eq, Nat.ble_eq] at h
  unfold gt_way
  rw [ga_kk_lt]
  split at h
  · exact ⟨cs, hi, Or.inl ⟨by omega, h⟩⟩
  · split at h
    · exact ⟨cs, hi, Or.inr ⟨by omega, h⟩⟩
    · rw [Bool.and_eq_true] at h
      obtain ⟨hp, hq⟩ := h
      by_cases hc : ga_kk X < ga_kk Y
      · obtain ⟨c1, g1, g2⟩ := gb_shi_ok (β := Bool) (h := gb_hi cs y - 1) hi hx (by omega)
        rw [g2] at hp
        obtain ⟨c2, g3, g4⟩ := gb_slo_ok (β := Bool) (l := gb_lo cs x + 1) g1 hy (by omega)
        rw [g4] at hp
        exact ⟨c2, g3, Or.inl ⟨hc, hp⟩⟩
      · obtain ⟨c1, g1, g2⟩ := gb_slo_ok (β := Bool) (l := gb_lo cs y) hi hx (by omega)
        rw [g2] at hq
        obtain ⟨c2, g3, g4⟩ := gb_shi_ok (β := Bool) (h := gb_hi cs x) g1 hy (by omega)
        rw [g4] at hq
        exact ⟨c2, g3, Or.inr ⟨hc, hq⟩⟩
theorem gt_eqc_ok {x c : Nat} {X : Int32} {kt kf : gb_C → Bool} (hi : gb_in ρ cs) (hx : gb_vr ρ oa ad x (.int X)) (h : gt_eqc cs x (gb_lo cs x) (gb_hi cs x) c kt kf = true) : gt_way ρ (ga_kk X = c) kt kf := by
  obtain ⟨a1, a2⟩ := gb_lohi hi hx
  unfold gt_eqc at h
  rw [Bool.and_eq_true] at h
  obtain ⟨hp, hq⟩ := h
  unfold gt_way
  by_cases hc : ga_kk X = c
  · obtain ⟨c1, g1, g2⟩ := gb_slo_ok (β := Bool) (l := c) hi hx (by omega)
    rw [g2] at hp
    obtain ⟨c2, g3, g4⟩ := gb_shi_ok (β := Bool) (h := c) g1 hx (by omega)
    rw [g4] at hp
    exact ⟨c2, g3, Or.inl ⟨hc, hp⟩⟩
  · simp only [ga_if_eq, ga_beq] at hq
    split at hq
    · obtain ⟨c1, g1, g2⟩ := gb_slo_ok (β := Bool) (l := c + 1) hi hx (by omega)
      rw [g2] at hq
      exact ⟨c1, g1, Or.inr ⟨hc, hq⟩⟩
    · split at hq
      · obtain ⟨c1, g1, g2⟩ := gb_shi_ok (β := Bool) (h := c - 1) hi hx (by omega)
        rw [g2] at hq
        exact ⟨c1, g1, Or.inr ⟨hc, hq⟩⟩
      · split at hq
        · rw [Bool.and_eq_true] at hq
          obtain ⟨hu, hw⟩ := hq
          by_cases hl : ga_kk X < c
          · obtain ⟨c1, g1, g2⟩ := gb_shi_ok (β := Bool) (h := c - 1) hi hx (by omega)
            rw [g2] at hu
            exact ⟨c1, g1, Or.inr ⟨hc, hu⟩⟩
          · obtain ⟨c1, g1, g2⟩ := gb_slo_ok (β := Bool) (l := c + 1) hi hx (by omega)
            rw [g2] at hw
            exact ⟨c1, g1, Or.inr ⟨hc, hw⟩⟩
        · exact ⟨cs, hi, Or.inr ⟨hc, hq⟩⟩
theorem gt_eq_ok {x y : Nat} {X Y : Int32} {kt kf : gb_C → Bool} (hi : gb_in ρ cs) (hx : gb_vr ρ oa ad x (.int X)) (hy : gb_vr ρ oa ad y (.int Y)) (h : gt_eq cs x y kt kf = true) : gt_way ρ (X = Y) kt kf := by
  obtain ⟨a1, a2⟩ := gb_lohi hi hx
  obtain ⟨b1, b2⟩ := gb_lohi hi hy
  unfold gt_eq at h
  simp only [ga_f_eq, ga_if_eq, Bool.and_eq_true, Bool.or_eq_true, ga_beq, Nat.blt_eq] at h
  rw [ga_kk_eq]
  split at h
  · exact ⟨cs, hi, Or.inr ⟨by omega, h⟩⟩
  · split at h
    · exact ⟨cs, hi, Or.inl ⟨by omega, h⟩⟩
    · split at h
      · rename_i h3
        rcases h3 with ⟨rfl, h3⟩ | h3
        · obtain ⟨u, e1, e2⟩ := (gb_vr_1 h3).mp hx
          obtain ⟨w, e3, e4⟩ := (gb_vr_1 h3).mp hy
          cases e2
          cases e4
          rw [e1] at e3
          cases e3
          exact ⟨cs, hi, Or.inl ⟨rfl, h⟩⟩
        · exact ⟨cs, hi, Or.inl ⟨gb_same_ok hi hx hy h3, h⟩⟩
      · split at h
        · rename_i h4
          have := gt_eqc_ok hi hx h
          have e : (ga_kk X = gb_lo cs y) = (ga_kk X = ga_kk Y) := by
            have : gb_lo cs y = ga_kk Y := by omega
            rw [this]
          rw [e] at this
          exact this
        · split at h
          · rename_i h5
            have := gt_eqc_ok hi hy h
            have e : (ga_kk Y = gb_lo cs x) = (ga_kk X = ga_kk Y) := by
              have : gb_lo cs x = ga_kk X := by omega
              rw [this]
              exact propext ⟨fun q => q.symm, fun q => q.symm⟩
            rw [e] at this
            exact this
          · obtain ⟨hp, hq⟩ := Bool.and_eq_true_iff.mp h
            by_cases hc : ga_kk X = ga_kk Y
            · obtain ⟨c1, g1, g2⟩ := gb_slo_ok (β := Bool) (l := gb_lo cs y) hi hx (by omega)
              rw [g2] at hp
              obtain ⟨c2, g3, g4⟩ := gb_shi_ok (β := Bool) (h := gb_hi cs y) g1 hx (by omega)
              rw [g4] at hp
              obtain ⟨c3, g5, g6⟩ := gb_slo_ok (β := Bool) (l := gb_lo cs x) g3 hy (by omega)
              rw [g6] at hp
              obtain ⟨c4, g7, g8⟩ := gb_shi_ok (β := Bool) (h := gb_hi cs x) g5 hy (by omega)
              rw [g8] at hp
              have hXY : X = Y := ga_kk_eq.mpr hc
              rw [← hXY] at hy
              obtain ⟨c5, g9, g10⟩ := gb_al_ok (β := Bool) g7 hx hy
              rw [g10] at hp
              exact ⟨c5, g9, Or.inl ⟨hc, hp⟩⟩
            · exact ⟨cs, hi, Or.inr ⟨hc, hq⟩⟩
theorem gt_way_not {P : Prop} {kt kf : gb_C → Bool} (h : gt_way ρ P kt kf) : gt_way ρ (¬ P) kf kt := by
  obtain ⟨c1, g1, g3⟩ := h
  refine ⟨c1, g1, ?_⟩
  rcases g3 with ⟨a, b⟩ | ⟨a, b⟩
  · exact Or.inr ⟨fun q => q a, b⟩
  · exact Or.inl ⟨a, b⟩
theorem gt_cnd_ok {x y : Nat} {X Y : Int32} {c : Jvm.ClassFile.Cond} {kt kf : gb_C → Bool} (hi : gb_in ρ cs) (hx : gb_vr ρ oa ad x (.int X)) (hy : gb_vr ρ oa ad y (.int Y)) (h : gt_cnd c cs x y kt kf = true) : gt_way ρ (gp_cnd c X.toInt Y.toInt) kt kf := by
  have le : ∀ X Y : Int32, ¬ X < Y ↔ Y.toInt ≤ X.toInt := fun X Y => by rw [Int32.lt_iff_toInt_lt]; omega
  have conv : ∀ {P P' : Prop} {kt kf : gb_C → Bool}, (P ↔ P') → gt_way ρ P kt kf → gt_way ρ P' kt kf := fun hp h => by rw [← propext hp]; exact h
  cases c with
  | eq => exact conv Int32.toInt_inj.symm (gt_eq_ok hi hx hy h)
  | ne => exact conv (not_congr Int32.toInt_inj.symm) (gt_way_not (gt_eq_ok hi hx hy h))
  | lt => exact conv Int32.lt_iff_toInt_lt (gt_lt_ok hi hx hy h)
  | ge => exact conv (le X Y) (gt_way_not (gt_lt_ok hi hx hy h))
  | gt => exact conv Int32.lt_iff_toInt_lt (gt_lt_ok hi hy hx h)
  | le => exact conv (le Y X) (gt_way_not (gt_lt_ok hi hy hx h))
theorem gt_sw_ok {v : Nat} {X : Int32} (hX : gb_vr ρ oa ad v (.int X)) {d : gb_C → Bool} {K : Nat → gb_C → Bool} : ∀ {ps : List (Nat × Nat)} {cs : gb_C}, (∀ q ∈ ps, q.1 % 8 = 0 ∧ q.1 / 8 < 4294967296) → gb_in ρ cs → gt_sw ps v cs d K = true →
    (∃ q ∈ ps, X = nI (q.1 / 8) ∧ ∃ cs', gb_in ρ cs' ∧ K q.2 cs' = true) ∨ ((∀ q ∈ ps, ¬ X = nI (q.1 / 8)) ∧ ∃ cs', gb_in ρ cs' ∧ d cs' = true)
  | [], cs, _, hi, h => Or.inr ⟨fun _ hq => (by cases hq), cs, hi, h⟩
  | q :: r, cs, hp, hi, h => by
    have h1 : gt_eq cs v q.1 (K q.2) (fun cs => gt_sw r v cs d K) = true := h
    have hq := hp q List.mem_cons_self
    have hy : gb_vr ρ oa ad q.1 (.int (nI (q.1 / 8))) := (gb_vr_0 hq.1).mpr ⟨hq.2, rfl⟩
    obtain ⟨c1, g1, g3⟩ := gt_eq_ok hi hX hy h1
    rcases g3 with ⟨hc, g3⟩ | ⟨hc, g3⟩
    · exact Or.inl ⟨q, List.mem_cons_self, hc, c1, g1, g3⟩
    · rcases gt_sw_ok hX (fun z hz => hp z (List.mem_cons_of_mem _ hz)) g1 g3 with ⟨z, hz, e, c2, a1, a2⟩ | ⟨hn, c2, a1, a2⟩
      · exact Or.inl ⟨z, List.mem_cons_of_mem _ hz, e, c2, a1, a2⟩
      · refine Or.inr ⟨fun z hz => ?_, c2, a1, a2⟩
        rcases List.mem_cons.mp hz with rfl | hz
        · exact hc
        · exact hn z hz
end HV
