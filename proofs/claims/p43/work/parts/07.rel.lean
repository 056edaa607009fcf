/-! the plain readings of the machine's words -/
theorem ga_f_eq {β : Type} (n : Nat) (K : Nat → β) : ga_f n K = K n := by cases n <;> rfl
theorem ga_if_t {α : Type} {t e : α} : ga_if true t e = t := rfl
theorem ga_if_f {α : Type} {t e : α} : ga_if false t e = e := rfl
theorem ga_if_eq {α : Type} (b : Bool) (t e : α) : ga_if b t e = if b = true then t else e := by cases b <;> rfl
theorem ga_nth_eq {α : Type} (d : α) (l : List α) (n : Nat) : ga_nth d l n = l.getD n d := by
  induction l generalizing n with
  | nil => rfl
  | cons x r ih => cases n with
    | zero => rfl
    | succ m => exact (ih m).trans (by simp)
theorem ga_set_eq {α β : Type} (l : List α) (n : Nat) (v : α) (K : List α → β) : ga_set l n v K = K (l.set n v) := by
  induction l generalizing n K with
  | nil => rfl
  | cons x r ih => cases n with
    | zero => rfl
    | succ m => exact ih m (fun r' => K (x :: r'))
/-- the value behind a store in an array's list: what is beyond its end is the kind's first value -/
theorem ga_put_eq {β : Type} (d : Nat) (l : List Nat) (n v : Nat) (K : List Nat → β) : ∃ l' : List Nat, ga_put d l n v K = K l' ∧ ∀ j, l'.getD j d = if j = n then v else l.getD j d := by
  induction l generalizing n K with
  | nil =>
    induction n generalizing K with
    | zero => exact ⟨[v], rfl, fun j => by cases j with | zero => rfl | succ j => simp⟩
    | succ m ih =>
      obtain ⟨l', h1, h2⟩ := ih (fun r => K (d :: r))
      refine ⟨d :: l', h1, fun j => ?_⟩
      cases j with
      | zero => simp
      | succ j =>
        have := h2 j
        simp only [List.getD_cons_succ, Nat.add_right_cancel_iff, List.getD_nil] at this ⊢
        exact this
  | cons x r ih => cases n with
    | zero => exact ⟨v :: r, rfl, fun j => by cases j with | zero => rfl | succ j => simp⟩
    | succ m =>
      obtain ⟨l', h1, h2⟩ := ih m (fun r' => K (x :: r'))
      refine ⟨x :: l', h1, fun j => ?_⟩
      cases j with
      | zero => simp
      | succ j =>
        have := h2 j
        simp only [List.getD_cons_succ, Nat.add_right_cancel_iff] at this ⊢
        exact this
theorem ga_getD_set {α : Type} (l : List α) (n j : Nat) (v d : α) : (l.set n v).getD j d = if j = n ∧ n < l.length then v else l.getD j d := by
  simp only [List.getD_eq_getElem?_getD, List.getElem?_set]
  by_cases h : n = j
  · subst h
    by_cases h2 : n < l.length
    · simp [h2]
    · simp [h2]
  · have h3 : ¬ j = n := fun q => h q.symm
    simp [h, h3]
/-- a heap behind a store: what is read there is the new cell, or was there -/
theorem ga_hs_eq {β : Type} (h : ga_H) (k : Nat) (c : ga_C) (K : ga_H → β) : ∃ h' : ga_H, ga_hs h k c K = K h' ∧ ∀ j, (j = k ∧ ga_hg h' j = c) ∨ ga_hg h' j = ga_hg h j := by
  refine ⟨h.set (k / 16) ((h.getD (k / 16) []).set (k % 16) c), ?_, fun j => ?_⟩
  · simp only [ga_hs, ga_set_eq, ga_nth_eq]
  · simp only [ga_hg, ga_nth_eq]
    rw [ga_getD_set]
    by_cases h1 : j / 16 = k / 16 ∧ k / 16 < h.length
    · rw [if_pos h1, ga_getD_set]
      by_cases h2 : j % 16 = k % 16 ∧ k % 16 < (h.getD (k / 16) []).length
      · rw [if_pos h2]
        exact Or.inl ⟨by omega, rfl⟩
      · rw [if_neg h2, h1.1]
        exact Or.inr rfl
    · rw [if_neg h1]
      exact Or.inr rfl
theorem ga_all_mem {α : Type} {l : List α} {K : α → Option (List ga_O)} {os : List ga_O} (h : ga_all l K = some os) {q : α} (hq : q ∈ l) : ∃ o1, K q = some o1 ∧ ∀ z ∈ o1, z ∈ os := by
  induction l generalizing os with
  | nil => cases hq
  | cons x r ih =>
    cases r with
    | nil =>
      rcases List.mem_cons.mp hq with rfl | h2
      · exact ⟨os, h, fun _ hz => hz⟩
      · cases h2
    | cons y t =>
      have h1 : ga_cat (K x) (ga_all (y :: t) K) = some os := h
      unfold ga_cat at h1
      cases hx : K x with
      | none => rw [hx] at h1; cases h1
      | some a =>
        rw [hx] at h1
        cases hb : ga_all (y :: t) K with
        | none => rw [hb] at h1; cases h1
        | some b =>
          rw [hb] at h1
          have h3 : a ++ b = os := Option.some.inj h1
          rcases List.mem_cons.mp hq with rfl | h2
          · exact ⟨a, hx, fun z hz => by rw [← h3]; exact List.mem_append_left _ hz⟩
          · obtain ⟨o1, g1, g2⟩ := ih hb h2
            exact ⟨o1, g1, fun z hz => by rw [← h3]; exact List.mem_append_right _ (g2 z hz)⟩
/-- ints as numbers, in their order -/
def ga_kk (x : Int32) : Nat := (x.toInt + 2147483648).toNat
theorem ga_kk_lt {x y : Int32} : x < y ↔ ga_kk x < ga_kk y := by
  have h1 := Int32.le_toInt x
  have h2 := Int32.le_toInt y
  rw [Int32.lt_iff_toInt_lt]
  unfold ga_kk
  omega
theorem ga_kk_eq {x y : Int32} : x = y ↔ ga_kk x = ga_kk y := by
  have h1 := Int32.le_toInt x
  have h2 := Int32.le_toInt y
  refine ⟨fun h => by rw [h], fun h => Int32.toInt_inj.mp ?_⟩
  unfold ga_kk at h
  omega
theorem ga_kk_le (x : Int32) : ga_kk x ≤ 4294967295 := by
  have h1 := Int32.toInt_lt x
  unfold ga_kk
  omega
theorem ga_kk_nI {n : Nat} (h : n < 4294967296) : ga_kk (nI n) = ga_key n := by
  unfold ga_kk ga_key nI
  rw [Int32.toInt_ofNat']
  simp only [Int.bmod, Int32.size]
  split <;> omega
theorem ga_key_key {n : Nat} (h : n < 4294967296) : ga_key (ga_key n) = n := by
  unfold ga_key
  omega
theorem ga_key_lt (n : Nat) : ga_key n < 4294967296 := Nat.mod_lt _ (by decide)
/-- what a value of the machine says of a value -/
def ga_vr (ρ : Nat → Int32) (oa : Nat → Nat) (ad : List Nat) (v : Nat) (x : Value) : Prop :=
  match v % 8 with
  | 0 => v / 8 < 4294967296 ∧ x = .int (nI (v / 8))
  | 1 => x = .int (ρ (v / 8))
  | 2 => ∃ y : Int32, x = .int y
  | 3 => ∃ a, ad[v / 8]? = some a ∧ x = .ref a
  | 4 => x = .null
  | 5 => v / 8 < 18446744073709551616 ∧ x = .long (lN (v / 8))
  | 6 => x = .ref (oa (v / 8))
  | _ => False
/-- the symbols are in their bounds -/
def ga_in (ρ : Nat → Int32) (iv : ga_I) : Prop := ∀ i, (ga_iv iv i).1 ≤ ga_kk (ρ i) ∧ ga_kk (ρ i) ≤ (ga_iv iv i).2
section GV
variable {ρ : Nat → Int32} {oa : Nat → Nat} {ad : List Nat}
theorem ga_in_set {iv : ga_I} (h : ga_in ρ iv) {i lo hi : Nat} (h1 : lo ≤ ga_kk (ρ i)) (h2 : ga_kk (ρ i) ≤ hi) : ga_in ρ (iv.set i (lo, hi)) := by
  intro j
  unfold ga_iv
  rw [ga_nth_eq, ga_getD_set]
  by_cases hj : j = i ∧ i < iv.length
  · rw [if_pos hj, hj.1]
    exact ⟨h1, h2⟩
  · rw [if_neg hj, ← ga_nth_eq]
    exact h j
theorem ga_vr_0 {v : Nat} {x : Value} (h : v % 8 = 0) : ga_vr ρ oa ad v x ↔ v / 8 < 4294967296 ∧ x = .int (nI (v / 8)) := by unfold ga_vr; rw [h]; exact Iff.rfl
theorem ga_vr_1 {v : Nat} {x : Value} (h : v % 8 = 1) : ga_vr ρ oa ad v x ↔ x = .int (ρ (v / 8)) := by unfold ga_vr; rw [h]; exact Iff.rfl
theorem ga_vr_2 {v : Nat} {x : Value} (h : v % 8 = 2) : ga_vr ρ oa ad v x ↔ ∃ y : Int32, x = .int y := by unfold ga_vr; rw [h]; exact Iff.rfl
theorem ga_vr_3 {v : Nat} {x : Value} (h : v % 8 = 3) : ga_vr ρ oa ad v x ↔ ∃ a, ad[v / 8]? = some a ∧ x = .ref a := by unfold ga_vr; rw [h]; exact Iff.rfl
theorem ga_vr_4 {v : Nat} {x : Value} (h : v % 8 = 4) : ga_vr ρ oa ad v x ↔ x = .null := by unfold ga_vr; rw [h]; exact Iff.rfl
theorem ga_vr_5 {v : Nat} {x : Value} (h : v % 8 = 5) : ga_vr ρ oa ad v x ↔ v / 8 < 18446744073709551616 ∧ x = .long (lN (v / 8)) := by unfold ga_vr; rw [h]; exact Iff.rfl
theorem ga_vr_6 {v : Nat} {x : Value} (h : v % 8 = 6) : ga_vr ρ oa ad v x ↔ x = .ref (oa (v / 8)) := by unfold ga_vr; rw [h]; exact Iff.rfl
theorem ga_vr_7 {v : Nat} {x : Value} (h : v % 8 = 7) : ¬ ga_vr ρ oa ad v x := by unfold ga_vr; rw [h]; exact id
theorem ga_vr_mono {v : Nat} {x : Value} (q : Nat) (h : ga_vr ρ oa ad v x) : ga_vr ρ oa (ad ++ [q]) v x := by
  have h8 : v % 8 < 8 := Nat.mod_lt _ (by decide)
  by_cases h3 : v % 8 = 3
  · obtain ⟨a, h1, h2⟩ := (ga_vr_3 h3).mp h
    refine (ga_vr_3 h3).mpr ⟨a, ?_, h2⟩
    rw [List.getElem?_append_left (by
      rcases Nat.lt_or_ge (v / 8) ad.length with hl | hl
      · exact hl
      · rw [List.getElem?_eq_none hl] at h1; cases h1)]
    exact h1
  · unfold ga_vr at h ⊢
    generalize v % 8 = t at h h3 h8 ⊢
    match t, h3, h8, h with
    | 0, _, _, h => exact h
    | 1, _, _, h => exact h
    | 2, _, _, h => exact h
    | 4, _, _, h => exact h
    | 5, _, _, h => exact h
    | 6, _, _, h => exact h
    | 7, _, _, h => exact h
theorem ga_int_le {v : Nat} (h : ga_int v = true) : v % 8 = 0 ∨ v % 8 = 1 ∨ v % 8 = 2 := by
  have : v % 8 ≤ 2 := Nat.le_of_ble_eq_true h
  omega
theorem ga_vr_int {v : Nat} {x : Value} (h : ga_int v = true) (hx : ga_vr ρ oa ad v x) : ∃ y : Int32, x = .int y := by
  rcases ga_int_le h with h | h | h
  · exact ⟨_, ((ga_vr_0 h).mp hx).2⟩
  · exact ⟨_, (ga_vr_1 h).mp hx⟩
  · exact (ga_vr_2 h).mp hx
theorem ga_beq {a b : Nat} : (Nat.beq a b = true) = (a = b) := by simp
theorem ga_lohi {iv : ga_I} (hi : ga_in ρ iv) {v : Nat} {y : Int32} (hx : ga_vr ρ oa ad v (.int y)) : ga_lo iv v ≤ ga_kk y ∧ ga_kk y ≤ ga_hi iv v := by
  unfold ga_lo ga_hi
  simp only [ga_if_eq, ga_beq]
  by_cases h0 : v % 8 = 0
  · obtain ⟨h1, h2⟩ := (ga_vr_0 h0).mp hx
    cases h2
    rw [if_pos h0, if_pos h0, ga_kk_nI h1]
    exact ⟨Nat.le_refl _, Nat.le_refl _⟩
  · rw [if_neg h0, if_neg h0]
    by_cases h1 : v % 8 = 1
    · have h2 := (ga_vr_1 h1).mp hx
      cases h2
      rw [if_pos h1, if_pos h1]
      exact hi _
    · rw [if_neg h1, if_neg h1]
      exact ⟨Nat.zero_le _, ga_kk_le y⟩
theorem ga_lt_ok {iv : ga_I} (hi : ga_in ρ iv) {x y : Nat} {X Y : Int32} (hx : ga_vr ρ oa ad x (.int X)) (hy : ga_vr ρ oa ad y (.int Y)) : ∃ q ∈ ga_lt iv x y, ga_in ρ q.2 ∧ (q.1 = true ↔ X < Y) := by
  obtain ⟨a1, a2⟩ := ga_lohi hi hx
  obtain ⟨b1, b2⟩ := ga_lohi hi hy
  unfold ga_lt
  simp only [ga_f_eq, ga_set_eq, ga_if_eq, Bool.and_eq_true, ga_beq, Nat.blt_eq, Nat.ble_eq]
  rw [ga_kk_lt]
  split
  · exact ⟨_, List.mem_singleton.mpr rfl, hi, by simp; omega⟩
  · split
    · exact ⟨_, List.mem_singleton.mpr rfl, hi, by simp; omega⟩
    · split
      · rename_i h1 h2 h3
        have e1 := (ga_vr_1 h3.1).mp hx
        cases e1
        by_cases hc : ga_kk (ρ (x / 8)) < ga_kk Y
        · exact ⟨_, List.mem_cons_self, ga_in_set hi a1 (by omega), by simp; omega⟩
        · exact ⟨_, List.mem_cons_of_mem _ List.mem_cons_self, ga_in_set hi (by omega) a2, by simp; omega⟩
      · split
        · rename_i h1 h2 h3 h4
          have e1 := (ga_vr_1 h4.1).mp hy
          cases e1
          by_cases hc : ga_kk X < ga_kk (ρ (y / 8))
          · exact ⟨_, List.mem_cons_self, ga_in_set hi (by omega) b2, by simp; omega⟩
          · exact ⟨_, List.mem_cons_of_mem _ List.mem_cons_self, ga_in_set hi b1 (by omega), by simp; omega⟩
        · by_cases hc : ga_kk X < ga_kk Y
          · exact ⟨_, List.mem_cons_self, hi, by simp; omega⟩
          · exact ⟨_, List.mem_cons_of_mem _ List.mem_cons_self, hi, by simp; omega⟩
theorem ga_eq3_ok {iv : ga_I} (hi : ga_in ρ iv) {i lo hh c : Nat} (h1 : lo ≤ ga_kk (ρ i)) (h2 : ga_kk (ρ i) ≤ hh) : ∃ q ∈ ga_eq3 iv i lo hh c, ga_in ρ q.2 ∧ (q.1 = true ↔ ga_kk (ρ i) = c) := by
  unfold ga_eq3
  simp only [ga_f_eq, ga_set_eq, ga_if_eq, Nat.blt_eq]
  rcases Nat.lt_trichotomy (ga_kk (ρ i)) c with h | h | h
  · rw [if_pos (by omega : lo < c)]
    split <;> exact ⟨_, List.mem_cons_self, ga_in_set hi h1 (by omega), by simp; omega⟩
  · split <;> split
    · exact ⟨_, List.mem_cons_of_mem _ List.mem_cons_self, ga_in_set hi (by omega) (by omega), by simp; omega⟩
    · exact ⟨_, List.mem_cons_of_mem _ List.mem_cons_self, ga_in_set hi (by omega) (by omega), by simp; omega⟩
    · exact ⟨_, List.mem_cons_self, ga_in_set hi (by omega) (by omega), by simp; omega⟩
    · exact ⟨_, List.mem_cons_self, ga_in_set hi (by omega) (by omega), by simp; omega⟩
  · have hc : c < hh := by omega
    rw [if_pos hc, if_pos hc]
    split
    · exact ⟨_, List.mem_cons_of_mem _ (List.mem_cons_of_mem _ List.mem_cons_self), ga_in_set hi (by omega) h2, by simp; omega⟩
    · exact ⟨_, List.mem_cons_of_mem _ List.mem_cons_self, ga_in_set hi (by omega) h2, by simp; omega⟩
theorem ga_eq_ok {iv : ga_I} (hi : ga_in ρ iv) {x y : Nat} {X Y : Int32} (hx : ga_vr ρ oa ad x (.int X)) (hy : ga_vr ρ oa ad y (.int Y)) : ∃ q ∈ ga_eq iv x y, ga_in ρ q.2 ∧ (q.1 = true ↔ X = Y) := by
  obtain ⟨a1, a2⟩ := ga_lohi hi hx
  obtain ⟨b1, b2⟩ := ga_lohi hi hy
  unfold ga_eq
  simp only [ga_f_eq, ga_if_eq, Bool.and_eq_true, Bool.or_eq_true, ga_beq, Nat.blt_eq, Nat.ble_eq]
  rw [ga_kk_eq]
  split
  · exact ⟨_, List.mem_singleton.mpr rfl, hi, by simp; omega⟩
  · split
    · exact ⟨_, List.mem_singleton.mpr rfl, hi, by simp; omega⟩
    · split
      · rename_i h1 h2 h3
        obtain ⟨rfl, h3⟩ := h3
        have e1 := (ga_vr_1 h3).mp hx
        have e2 := (ga_vr_1 h3).mp hy
        cases e1
        cases e2
        exact ⟨_, List.mem_singleton.mpr rfl, hi, by simp⟩
      · split
        · rename_i h1 h2 h3 h4
          have e1 := (ga_vr_1 h4.1).mp hx
          cases e1
          obtain ⟨q, g1, g2, g3⟩ := ga_eq3_ok hi (c := ga_lo iv y) a1 a2
          exact ⟨q, g1, g2, g3.trans (by omega)⟩
        · split
          · rename_i h1 h2 h3 h4 h5
            have e1 := (ga_vr_1 h5.1).mp hy
            cases e1
            obtain ⟨q, g1, g2, g3⟩ := ga_eq3_ok hi (c := ga_lo iv x) b1 b2
            exact ⟨q, g1, g2, g3.trans (by omega)⟩
          · by_cases hc : ga_kk X = ga_kk Y
            · exact ⟨_, List.mem_cons_self, hi, by simp; omega⟩
            · exact ⟨_, List.mem_cons_of_mem _ List.mem_cons_self, hi, by simp; omega⟩
theorem ga_sm_ok {iv : ga_I} (hi : ga_in ρ iv) {v : Nat} {x : Value} (hx : ga_vr ρ oa ad v x) : ga_vr ρ oa ad (ga_sm iv v) x := by
  unfold ga_sm
  simp only [ga_if_eq, ga_beq]
  split
  · rename_i h1
    split
    · rename_i h2
      have e1 := (ga_vr_1 h1).mp hx
      subst e1
      have g1 := (hi (v / 8)).1
      have g2 := (hi (v / 8)).2
      have hk : ga_kk (ρ (v / 8)) = (ga_iv iv (v / 8)).1 := by omega
      rw [← hk]
      refine (ga_vr_0 (by omega)).mpr ?_
      have e2 : 8 * ga_key (ga_kk (ρ (v / 8))) / 8 = ga_key (ga_kk (ρ (v / 8))) := by omega
      rw [e2]
      have hlt := ga_key_lt (ga_kk (ρ (v / 8)))
      refine ⟨hlt, ?_⟩
      have hk2 := ga_kk_le (ρ (v / 8))
      have e3 : ρ (v / 8) = nI (ga_key (ga_kk (ρ (v / 8)))) := by
        rw [ga_kk_eq, ga_kk_nI hlt, ga_key_key (by omega)]
      rw [← e3]
    · exact hx
  · exact hx
end GV
