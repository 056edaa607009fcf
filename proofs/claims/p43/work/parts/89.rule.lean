/-! what is known while a rule is read -/
def gr_w (σ : gp_S) : Nat → Int
  | 0 => 0
  | i + 1 => gr_w σ i + (if σ 257 i = 3 ∨ σ 257 i = 7 then 1 else 0)
def gr_op (x : Int) : Prop := ¬ x = 126 ∧ ¬ (97 ≤ x ∧ x ≤ 122)
def gr_p (σ : gp_S) (r n : Nat) : Prop := ∀ i, i < n → (σ 255 (r + i) = 126 → 1 ≤ gv_h σ r i) ∧ (97 ≤ σ 255 (r + i) ∧ σ 255 (r + i) ≤ 122 → gv_h σ r i ≤ 59) ∧ (¬ σ 255 (r + i) = 126 → ¬ (97 ≤ σ 255 (r + i) ∧ σ 255 (r + i) ≤ 122) → 2 ≤ gv_h σ r i)
def gr_E (b r n : Nat) (κ : Nat → Int) (σ : gp_S) : Prop := σ 236 33 = ((1 - b : Nat) : Int) ∧ σ 236 34 = ((r + n : Nat) : Int) ∧ gr_p σ r n ∧ (∀ j, j < 560 * (1 - b) ∨ 560 * (1 - b) + 560 ≤ j → σ 255 j = κ j) ∧ 560 * (1 - b) ≤ r ∧ 0 ≤ σ 241 (1 - b) ∧ σ 241 (1 - b) ≤ 60 ∧ ((r + n : Nat) : Int) ≤ ((560 * (1 - b) : Nat) : Int) + 9 * σ 241 (1 - b)
def gr_J (b r p n : Nat) (κ : Nat → Int) (ph q s : Int) (σ : gp_S) : Prop := gr_E b r n κ σ ∧ 1 ≤ p ∧ σ 236 36 = (p : Int) ∧ σ 257 0 = 8 ∧ (∀ i, 1 ≤ i → i < p → 1 ≤ σ 257 i ∧ σ 257 i ≤ 7 ∧ (σ 257 i = 3 → σ 258 i = 126) ∧ (¬ σ 257 i = 3 → ¬ σ 257 i = 7 → gr_op (σ 258 i))) ∧ σ 236 35 = gr_w σ p ∧ gr_w σ p ≤ 7 ∧ gv_h σ r n = (p : Int) - 1 - gr_w σ p + ph ∧ (p : Int) - 1 - gr_w σ p + ph + q ≤ σ 236 37 ∧ σ 236 37 ≤ 30 ∧ ((r + n : Nat) : Int) + p - 1 ≤ ((560 * (1 - b) : Nat) : Int) + 9 * σ 241 (1 - b) + s
theorem gr_w0 (σ : gp_S) : ∀ i, 0 ≤ gr_w σ i ∧ gr_w σ i ≤ i
  | 0 => ⟨Int.le_refl _, Int.le_refl _⟩
  | i + 1 => by
    have := gr_w0 σ i
    show 0 ≤ gr_w σ i + _ ∧ gr_w σ i + _ ≤ _
    split <;> omega
theorem gr_w1 {σ : gp_S} (h : σ 257 0 = 8) : ∀ i, gr_w σ (i + 1) ≤ i
  | 0 => by
    show (0 : Int) + (if σ 257 0 = 3 ∨ σ 257 0 = 7 then 1 else 0) ≤ ((0 : Nat) : Int)
    rw [if_neg (by omega)]; decide
  | i + 1 => by
    have := gr_w1 h i
    show gr_w σ (i + 1) + _ ≤ _
    split <;> omega
theorem gr_we {σ σ' : gp_S} : ∀ i, (∀ j, j < i → σ' 257 j = σ 257 j) → gr_w σ' i = gr_w σ i
  | 0, _ => rfl
  | i + 1, h => by
    show gr_w σ' i + _ = gr_w σ i + _
    rw [gr_we i (fun j hj => h j (by omega)), h i (by omega)]
theorem gr_he {σ σ' : gp_S} {r : Nat} : ∀ n, (∀ j, j < n → σ' 255 (r + j) = σ 255 (r + j)) → gv_h σ' r n = gv_h σ r n
  | 0, _ => rfl
  | n + 1, h => by
    show gv_h σ' r n + gv_w _ = gv_h σ r n + gv_w _
    rw [gr_he n (fun j hj => h j (by omega)), h n (by omega)]
theorem gr_pe {σ σ' : gp_S} {r n : Nat} (h : ∀ j, j < n → σ' 255 (r + j) = σ 255 (r + j)) (hp : gr_p σ r n) : gr_p σ' r n := by
  intro i hi
  rw [gr_he i (fun j hj => h j (by omega)), h i hi]
  exact hp i hi
theorem gr_ps {σ : gp_S} {r n : Nat} (hp : gr_p σ r n) (h : (σ 255 (r + n) = 126 → 1 ≤ gv_h σ r n) ∧ (97 ≤ σ 255 (r + n) ∧ σ 255 (r + n) ≤ 122 → gv_h σ r n ≤ 59) ∧ (¬ σ 255 (r + n) = 126 → ¬ (97 ≤ σ 255 (r + n) ∧ σ 255 (r + n) ≤ 122) → 2 ≤ gv_h σ r n)) : gr_p σ r (n + 1) := by
  intro i hi
  by_cases e : i = n
  · subst e; exact h
  · exact hp i (by omega)
theorem gr_Jc {b r p n : Nat} {κ : Nat → Int} {ph q s : Int} {σ σ' : gp_S} (h : gr_J b r p n κ ph q s σ) (e : ∀ j, 33 ≤ j → j ≤ 37 → σ' 236 j = σ 236 j) (e1 : ∀ j, σ' 255 j = σ 255 j) (e2 : ∀ j, σ' 241 j = σ 241 j) (e3 : ∀ j, σ' 257 j = σ 257 j) (e4 : ∀ j, σ' 258 j = σ 258 j) : gr_J b r p n κ ph q s σ' := by
  obtain ⟨⟨a1, a2, a3, a4, a5, a6, a7, a8⟩, b1, b2, b3, b4, b5, b6, b7, b8, b9, b10⟩ := h
  have ew : gr_w σ' p = gr_w σ p := gr_we p (fun j _ => e3 j)
  have eh : gv_h σ' r n = gv_h σ r n := gr_he n (fun j _ => e1 _)
  refine ⟨⟨?_, ?_, gr_pe (fun j _ => e1 _) a3, fun j hj => (e1 j).trans (a4 j hj), a5, ?_, ?_, ?_⟩, b1, ?_, ?_, fun i h1 h2 => ?_, ?_, ?_, ?_, ?_, ?_, ?_⟩
  · rw [e 33 (by omega) (by omega)]; exact a1
  · rw [e 34 (by omega) (by omega)]; exact a2
  · rw [e2]; exact a6
  · rw [e2]; exact a7
  · rw [e2]; exact a8
  · rw [e 36 (by omega) (by omega)]; exact b2
  · rw [e3]; exact b3
  · rw [e3, e4]; exact b4 i h1 h2
  · rw [ew, e 35 (by omega) (by omega)]; exact b5
  · rw [ew]; exact b6
  · rw [ew, eh]; exact b7
  · rw [ew, e 37 (by omega) (by omega)]; exact b8
  · rw [e 37 (by omega) (by omega)]; exact b9
  · rw [e2]; exact b10
/-- a unit is counted -/
theorem gr_cnt {b r p n : Nat} {κ : Nat → Int} {σ σ' : gp_S} {t : Int} (h : gr_J b r p n κ 0 0 (gr_w σ p) σ) (ht : t = 9) (e : ∀ j, 33 ≤ j → j ≤ 36 → σ' 236 j = σ 236 j) (eu : σ' 236 37 = σ 236 37 + 1) (e1 : ∀ j, σ' 255 j = σ 255 j) (e2 : σ' 241 (1 - b) = σ 241 (1 - b) + 1) (e3 : ∀ j, σ' 257 j = σ 257 j) (e4 : ∀ j, σ' 258 j = σ 258 j) (h60 : σ 241 (1 - b) < 60) (h30 : σ 236 37 < 30) : gr_J b r p n κ 0 1 (gr_w σ' p - t) σ' := by
  obtain ⟨⟨a1, a2, a3, a4, a5, a6, a7, a8⟩, b1, b2, b3, b4, b5, b6, b7, b8, b9, b10⟩ := h
  have ew : gr_w σ' p = gr_w σ p := gr_we p (fun j _ => e3 j)
  have eh : gv_h σ' r n = gv_h σ r n := gr_he n (fun j _ => e1 _)
  refine ⟨⟨?_, ?_, gr_pe (fun j _ => e1 _) a3, fun j hj => (e1 j).trans (a4 j hj), a5, ?_, ?_, ?_⟩, b1, ?_, ?_, fun i h1 h2 => ?_, ?_, ?_, ?_, ?_, ?_, ?_⟩
  · rw [e 33 (by omega) (by omega)]; exact a1
  · rw [e 34 (by omega) (by omega)]; exact a2
  · rw [e2]; omega
  · rw [e2]; omega
  · rw [e2]; omega
  · rw [e 36 (by omega) (by omega)]; exact b2
  · rw [e3]; exact b3
  · rw [e3, e4]; exact b4 i h1 h2
  · rw [ew, e 35 (by omega) (by omega)]; exact b5
  · rw [ew]; exact b6
  · rw [ew, eh]; exact b7
  · rw [ew, eu]; omega
  · rw [eu]; omega
  · rw [e2, ew]; omega
/-- not, or a bracket, is laid on the pile -/
theorem gr_lay {b r p n : Nat} {κ : Nat → Int} {q s x : Int} {σ σ' : gp_S} (h : gr_J b r p n κ 0 q s σ) (hq : 0 ≤ q) (hs : s ≤ gr_w σ p) (hw : gr_w σ p < 7) (hx : x = 3 ∨ x = 7) (e33 : σ' 236 33 = σ 236 33) (e34 : σ' 236 34 = σ 236 34) (e35 : σ' 236 35 = σ 236 35 + 1) (e36 : σ' 236 36 = (p : Int) + 1) (e37 : σ' 236 37 = σ 236 37) (e1 : ∀ j, σ' 255 j = σ 255 j) (e2 : ∀ j, σ' 241 j = σ 241 j) (e3 : ∀ j, ¬ j = p → σ' 257 j = σ 257 j) (x3 : σ' 257 p = x) (e4 : ∀ j, ¬ j = p → σ' 258 j = σ 258 j) (x4 : σ' 258 p = 126) : gr_J b r (p + 1) n κ 0 0 (gr_w σ' (p + 1)) σ' := by
  obtain ⟨⟨a1, a2, a3, a4, a5, a6, a7, a8⟩, b1, b2, b3, b4, b5, b6, b7, b8, b9, b10⟩ := h
  have ew : gr_w σ' (p + 1) = gr_w σ p + 1 := by
    show gr_w σ' p + _ = _
    rw [gr_we p (fun j hj => e3 j (by omega)), x3, if_pos hx]
  have eh : gv_h σ' r n = gv_h σ r n := gr_he n (fun j _ => e1 _)
  refine ⟨⟨?_, ?_, gr_pe (fun j _ => e1 _) a3, fun j hj => (e1 j).trans (a4 j hj), a5, ?_, ?_, ?_⟩, by omega, ?_, ?_, fun i h1 h2 => ?_, ?_, ?_, ?_, ?_, ?_, ?_⟩
  · rw [e33]; exact a1
  · rw [e34]; exact a2
  · rw [e2]; exact a6
  · rw [e2]; exact a7
  · rw [e2]; exact a8
  · rw [e36]; omega
  · rw [e3 0 (by omega)]; exact b3
  · by_cases ei : i = p
    · subst ei
      rw [x3, x4]
      rcases hx with rfl | rfl
      · exact ⟨by omega, by omega, fun _ => rfl, fun q => absurd rfl q⟩
      · exact ⟨by omega, by omega, fun _ => rfl, fun _ q => absurd rfl q⟩
    · rw [e3 i ei, e4 i ei]; exact b4 i h1 (by omega)
  · rw [ew, e35]; omega
  · rw [ew]; omega
  · rw [ew, eh]; omega
  · rw [ew, e37]; omega
  · rw [e37]; exact b9
  · rw [e2, ew]; omega
/-- an operand's code -/
theorem gr_opd {b r p n : Nat} {κ : Nat → Int} {x t : Int} {σ σ' : gp_S} (h : gr_J b r p n κ 0 1 (gr_w σ p - t) σ) (ht : t = 9) (hx : 97 ≤ x ∧ x ≤ 122) (e33 : σ' 236 33 = σ 236 33) (e34 : σ' 236 34 = ((r + n : Nat) : Int) + 1) (e35 : σ' 236 35 = σ 236 35) (e36 : σ' 236 36 = σ 236 36) (e37 : σ' 236 37 = σ 236 37) (e1 : ∀ j, ¬ j = r + n → σ' 255 j = σ 255 j) (x1 : σ' 255 (r + n) = x) (e2 : ∀ j, σ' 241 j = σ 241 j) (e3 : ∀ j, σ' 257 j = σ 257 j) (e4 : ∀ j, σ' 258 j = σ 258 j) : gr_J b r p (n + 1) κ 1 0 (-1) σ' := by
  obtain ⟨⟨a1, a2, a3, a4, a5, a6, a7, a8⟩, b1, b2, b3, b4, b5, b6, b7, b8, b9, b10⟩ := h
  have ew : gr_w σ' p = gr_w σ p := gr_we p (fun j _ => e3 j)
  have w0 := gr_w0 σ p
  have eh : gv_h σ' r n = gv_h σ r n := gr_he n (fun j hj => e1 _ (by omega))
  have eh1 : gv_h σ' r (n + 1) = gv_h σ r n + 1 := by
    show gv_h σ' r n + gv_w (σ' 255 (r + n)) = _
    rw [eh, x1]; unfold gv_w; rw [if_neg (by omega), if_pos hx]
  refine ⟨⟨?_, ?_, gr_ps (gr_pe (fun j hj => e1 _ (by omega)) a3) ?_, fun j hj => (e1 j (by omega)).trans (a4 j hj), a5, ?_, ?_, ?_⟩, b1, ?_, ?_, fun i h1 h2 => ?_, ?_, ?_, ?_, ?_, ?_, ?_⟩
  · rw [e33]; exact a1
  · rw [e34]; omega
  · rw [eh, x1]; exact ⟨fun q => by omega, fun _ => by omega, fun _ q => absurd hx q⟩
  · rw [e2]; exact a6
  · rw [e2]; exact a7
  · rw [e2]; omega
  · rw [e36]; exact b2
  · rw [e3]; exact b3
  · rw [e3, e4]; exact b4 i h1 h2
  · rw [ew, e35]; exact b5
  · rw [ew]; exact b6
  · rw [ew, eh1]; omega
  · rw [ew, e37]; omega
  · rw [e37]; exact b9
  · rw [e2]; omega
/-- what lies on top becomes a code -/
theorem gr_pop {b r p n : Nat} {κ : Nat → Int} {σ σ' : gp_S} (h : gr_J b r (p + 1) n κ 1 0 (-1) σ) (hp : 1 ≤ p) (ht : σ 257 p ≤ 6) (e33 : σ' 236 33 = σ 236 33) (e34 : σ' 236 34 = ((r + n : Nat) : Int) + 1) (e35 : σ' 236 35 = σ 236 35 - (if σ 257 p = 3 then 1 else 0)) (e36 : σ' 236 36 = (p : Int)) (e37 : σ' 236 37 = σ 236 37) (e1 : ∀ j, ¬ j = r + n → σ' 255 j = σ 255 j) (x1 : σ' 255 (r + n) = σ 258 p) (e2 : ∀ j, σ' 241 j = σ 241 j) (e3 : ∀ j, σ' 257 j = σ 257 j) (e4 : ∀ j, σ' 258 j = σ 258 j) : gr_J b r p (n + 1) κ 1 0 (-1) σ' := by
  obtain ⟨⟨a1, a2, a3, a4, a5, a6, a7, a8⟩, b1, b2, b3, b4, b5, b6, b7, b8, b9, b10⟩ := h
  obtain ⟨c1, c2, c3, c4⟩ := b4 p hp (by omega)
  have ew : gr_w σ' p = gr_w σ p := gr_we p (fun j _ => e3 j)
  have w0 := gr_w0 σ p
  have w1 : gr_w σ p ≤ (p : Int) - 1 := by
    have := gr_w1 b3 (p - 1)
    rw [show p - 1 + 1 = p by omega] at this
    omega
  have es : gr_w σ (p + 1) = gr_w σ p + (if σ 257 p = 3 then 1 else 0) := by
    show gr_w σ p + _ = _
    by_cases q : σ 257 p = 3
    · rw [if_pos (Or.inl q), if_pos q]
    · rw [if_neg (by omega), if_neg q]
  have eh : gv_h σ' r n = gv_h σ r n := gr_he n (fun j hj => e1 _ (by omega))
  have eh1 : gv_h σ' r (n + 1) = gv_h σ r n + gv_w (σ 258 p) := by
    show gv_h σ' r n + gv_w (σ' 255 (r + n)) = _
    rw [eh, x1]
  by_cases q : σ 257 p = 3
  · rw [if_pos q] at es e35
    have o := c3 q
    have g0 : gv_w (σ 258 p) = 0 := by unfold gv_w; rw [if_pos o]
    refine ⟨⟨?_, ?_, gr_ps (gr_pe (fun j hj => e1 _ (by omega)) a3) ?_, fun j hj => (e1 j (by omega)).trans (a4 j hj), a5, ?_, ?_, ?_⟩, hp, e36, ?_, fun i h1 h2 => ?_, ?_, ?_, ?_, ?_, ?_, ?_⟩
    · rw [e33]; exact a1
    · rw [e34]; omega
    · rw [eh, x1, o]; exact ⟨fun _ => by omega, fun w => by omega, fun w => absurd rfl w⟩
    · rw [e2]; exact a6
    · rw [e2]; exact a7
    · rw [e2]; omega
    · rw [e3]; exact b3
    · rw [e3, e4]; exact b4 i h1 (by omega)
    · rw [ew, e35]; omega
    · rw [ew]; omega
    · rw [ew, eh1, g0]; omega
    · rw [ew, e37]; omega
    · rw [e37]; exact b9
    · rw [e2]; omega
  · rw [if_neg q] at es e35
    have o := c4 q (by omega)
    have g0 : gv_w (σ 258 p) = -1 := by unfold gv_w; rw [if_neg o.1, if_neg o.2]
    refine ⟨⟨?_, ?_, gr_ps (gr_pe (fun j hj => e1 _ (by omega)) a3) ?_, fun j hj => (e1 j (by omega)).trans (a4 j hj), a5, ?_, ?_, ?_⟩, hp, e36, ?_, fun i h1 h2 => ?_, ?_, ?_, ?_, ?_, ?_, ?_⟩
    · rw [e33]; exact a1
    · rw [e34]; omega
    · rw [eh, x1]; exact ⟨fun w => absurd w o.1, fun w => absurd w o.2, fun _ _ => by omega⟩
    · rw [e2]; exact a6
    · rw [e2]; exact a7
    · rw [e2]; omega
    · rw [e3]; exact b3
    · rw [e3, e4]; exact b4 i h1 (by omega)
    · rw [ew, e35]; omega
    · rw [ew]; omega
    · rw [ew, eh1, g0]; omega
    · rw [ew, e37]; omega
    · rw [e37]; exact b9
    · rw [e2]; omega
/-- an operator is laid on the pile -/
theorem gr_lop {b r p n : Nat} {κ : Nat → Int} {x y : Int} {σ σ' : gp_S} (h : gr_J b r p n κ 1 0 (-1) σ) (hx : 1 ≤ x ∧ x ≤ 6 ∧ ¬ x = 3) (hy : gr_op y) (e : ∀ j, 33 ≤ j → j ≤ 37 → ¬ j = 36 → σ' 236 j = σ 236 j) (e36 : σ' 236 36 = (p : Int) + 1) (e1 : ∀ j, σ' 255 j = σ 255 j) (e2 : ∀ j, σ' 241 j = σ 241 j) (e3 : ∀ j, ¬ j = p → σ' 257 j = σ 257 j) (x3 : σ' 257 p = x) (e4 : ∀ j, ¬ j = p → σ' 258 j = σ 258 j) (x4 : σ' 258 p = y) : gr_J b r (p + 1) n κ 0 0 (gr_w σ' (p + 1)) σ' := by
  obtain ⟨⟨a1, a2, a3, a4, a5, a6, a7, a8⟩, b1, b2, b3, b4, b5, b6, b7, b8, b9, b10⟩ := h
  have ew : gr_w σ' (p + 1) = gr_w σ p := by
    show gr_w σ' p + _ = _
    rw [gr_we p (fun j hj => e3 j (by omega)), x3, if_neg (by omega)]; omega
  have w0 := gr_w0 σ p
  have eh : gv_h σ' r n = gv_h σ r n := gr_he n (fun j _ => e1 _)
  refine ⟨⟨?_, ?_, gr_pe (fun j _ => e1 _) a3, fun j hj => (e1 j).trans (a4 j hj), a5, ?_, ?_, ?_⟩, by omega, ?_, ?_, fun i h1 h2 => ?_, ?_, ?_, ?_, ?_, ?_, ?_⟩
  · rw [e 33 (by omega) (by omega) (by omega)]; exact a1
  · rw [e 34 (by omega) (by omega) (by omega)]; exact a2
  · rw [e2]; exact a6
  · rw [e2]; exact a7
  · rw [e2]; exact a8
  · rw [e36]; omega
  · rw [e3 0 (by omega)]; exact b3
  · by_cases ei : i = p
    · subst ei
      rw [x3, x4]
      exact ⟨hx.1, by omega, fun q => absurd q hx.2.2, fun _ _ => hy⟩
    · rw [e3 i ei, e4 i ei]; exact b4 i h1 (by omega)
  · rw [ew, e 35 (by omega) (by omega) (by omega)]; exact b5
  · rw [ew]; exact b6
  · rw [ew, eh]; omega
  · rw [ew, e 37 (by omega) (by omega) (by omega)]; omega
  · rw [e 37 (by omega) (by omega) (by omega)]; exact b9
  · rw [e2, ew]; omega
/-- a bracket is closed -/
theorem gr_cls {b r p n : Nat} {κ : Nat → Int} {σ σ' : gp_S} (h : gr_J b r (p + 1) n κ 1 0 (-1) σ) (hp : 1 ≤ p) (ht : σ 257 p = 7) (e33 : σ' 236 33 = σ 236 33) (e34 : σ' 236 34 = σ 236 34) (e35 : σ' 236 35 = σ 236 35 - 1) (e36 : σ' 236 36 = (p : Int)) (e37 : σ' 236 37 = σ 236 37) (e1 : ∀ j, σ' 255 j = σ 255 j) (e2 : ∀ j, σ' 241 j = σ 241 j) (e3 : ∀ j, σ' 257 j = σ 257 j) (e4 : ∀ j, σ' 258 j = σ 258 j) : gr_J b r p n κ 1 0 (-1) σ' := by
  obtain ⟨⟨a1, a2, a3, a4, a5, a6, a7, a8⟩, b1, b2, b3, b4, b5, b6, b7, b8, b9, b10⟩ := h
  have ew : gr_w σ' p = gr_w σ p := gr_we p (fun j _ => e3 j)
  have es : gr_w σ (p + 1) = gr_w σ p + 1 := by
    show gr_w σ p + _ = _
    rw [if_pos (Or.inr ht)]
  have eh : gv_h σ' r n = gv_h σ r n := gr_he n (fun j _ => e1 _)
  refine ⟨⟨?_, ?_, gr_pe (fun j _ => e1 _) a3, fun j hj => (e1 j).trans (a4 j hj), a5, ?_, ?_, ?_⟩, hp, e36, ?_, fun i h1 h2 => ?_, ?_, ?_, ?_, ?_, ?_, ?_⟩
  · rw [e33]; exact a1
  · rw [e34]; exact a2
  · rw [e2]; exact a6
  · rw [e2]; exact a7
  · rw [e2]; exact a8
  · rw [e3]; exact b3
  · rw [e3, e4]; exact b4 i h1 (by omega)
  · rw [ew, e35]; omega
  · rw [ew]; omega
  · rw [ew, eh]; omega
  · rw [ew, e37]; omega
  · rw [e37]; exact b9
  · rw [e2]; omega
theorem gr_Ee {b r n : Nat} {κ : Nat → Int} {σ σ' : gp_S} (h : gr_E b r n κ σ) (e33 : σ' 236 33 = σ 236 33) (e34 : σ' 236 34 = σ 236 34) (e1 : ∀ j, σ' 255 j = σ 255 j) (e2 : ∀ j, σ' 241 j = σ 241 j) : gr_E b r n κ σ' := by
  obtain ⟨a1, a2, a3, a4, a5, a6, a7, a8⟩ := h
  refine ⟨?_, ?_, gr_pe (fun j _ => e1 _) a3, fun j hj => (e1 j).trans (a4 j hj), a5, ?_, ?_, ?_⟩
  · rw [e33]; exact a1
  · rw [e34]; exact a2
  · rw [e2]; exact a6
  · rw [e2]; exact a7
  · rw [e2]; exact a8

