/-! the model's types, by its bank b and how many guests f -/
/-- a number alone -/
noncomputable def gs_lt (n : Nat) : Nat := 8 * ((n + 2147483648) * 4294967296 + (n + 2147483648)) + 2
def gs_ml : List (List gb_T) := [[(999, 0, 0, [], 0), (101, 1620, 73786971913971565562, [], 0), (101, 1600, 73786971913971565562, [], 0), (999, 0, 0, [], 0), (100, 2, 73786976312018075730, [], 1), (100, 2, 34359738362, [], 1), (100, 2, 34359738362, [], 1), (100, 2, 34359738362, [], 1), (100, 2, 34359738362, [], 1), (100, 2, 73786976312018076450, [], 1), (100, 2, 34359738362, [], 1), (100, 2, 34359738362, [], 1), (100, 14, 34359738362, [], 1), (100, 14, 34359738362, [], 1), (100, 20, 73786976312018075698, [], 1), (100, 20, 73786976312018075698, [], 1)], [(100, 2, 34359738362, [], 1), (100, 2, 34359738362, [], 1), (102, 14, 5, [], 0), (100, 1120, 34359738362, [], 0), (100, 1120, 34359738362, [], 0), (100, 90, 34359738362, [], 0), (100, 90, 34359738362, [], 0), (100, 60, 34359738362, [], 1), (999, 0, 0, [], 0), (100, 29, 34359738362, [], 1), (100, 7, 34359738362, [], 1), (100, 7, 34359738362, [], 1), (100, 1189, 34359738362, [], 0), (100, 7, 34359738362, [], 1), (100, 7, 73786976312018075698, [], 1), (100, 7, 73786976312018075698, [], 1)], [(100, 36, 34359738362, [], 1), (100, 36, 34359738362, [], 1), (100, 861, 73786976277658337330, [], 0), (100, 30, 73786976312018075970, [], 1), (100, 30, 73786976312018075698, [], 1), (100, 30, 34359738362, [], 1), (100, 30, 34359738362, [], 1), (100, 30, 34359738362, [], 1), (100, 8, 34359738362, [], 1), (100, 87, 34359738362, [], 0), (104, 3, 73786976312018075658, [], 1)]]
noncomputable def gs_wm (b f c : Nat) : gb_T := ga_if (Nat.blt c 236) (999, 0, 0, [], 0) (ga_if (Nat.beq c 236) (1, 65, 0, [1899, 1907, 73786976312018088450, 73786976312018088450, 34359738362, 34359738362, 73786976312018088450, 73786976312018088458, 34359738362, 34359738362, 5, 1915, 1923, 1931, 1939, 1947, 1955, 1963, 1971, 1979, 1987, 1995, 2003, 2011, 2019, 2027, 2035, 2043, 2051, 2059, 2067, 2075, gs_lt b, 73786976312018075658, 34359738362, 34359738362, 34359738362, 34359738362, 2083, 2091, 2099, 2107, 73786976277658337354, 73786976277658337442, 73786976312018075658, 2115, 73786976312018075970, 73786976312018075970, 2123, 2131, 2139, 73786976312018075706, 2147, 2155, 2163, 2171, 2179, 2187, 2195, 2203, 2211, 73786976312018075890, 34359738362, 2219, 2227], 1) (ga_if (Nat.beq c 260) (100, 29, 34359738362, [73786976312018075698, 73786976312018075698, 73786976312018075698, 73786976312018075698, 73786976312018075698, 73786976312018075698, 73786976312018075698, 34359738362, 34359738362, 34359738362, 34359738362, 34359738362, 34359738362, 34359738362, 34359738362, 34359738362, 34359738362, 34359738362, 34359738362, 34359738362, 34359738362, 34359738362, 34359738362, 34359738362, 8 * (2147483647 * 4294967296 + (2147483647 + f)) + 2, 34359738362, 34359738362, 34359738362, 34359738362], 1) (ga_if (Nat.beq c 239) (100, 2, 34359738362, [ga_if (Nat.beq b 0) (gs_lt f) 73786976312018075706, ga_if (Nat.beq b 1) (gs_lt f) 73786976312018075706], 1) (ga_nth (999, 0, 0, [], 0) (ga_nth [] gs_ml ((c - 236) / 16)) ((c - 236) % 16)))))
def gm_xl : List (Nat × Nat) := [(236, 62), (236, 46), (236, 47), (236, 32), (264, 1048576), (277, 1048576), (278, 1048576), (255, 1048576), (256, 1048576), (252, 1048576), (253, 1048576), (239, 1048576)]
theorem gs_hm {b f : Nat} (hb : b < 2) (hf : f < 8) : gt_H gs_sh (gs_wm b f) := by
  have h : gs_all (fun i => gs_oh gs_sh (gs_wm (i / 8) (i % 8)) 284) 16 = true := by decide +kernel
  have h1 := gs_all_ok h (8 * b + f) (by omega)
  rw [show (8 * b + f) / 8 = b by omega, show (8 * b + f) % 8 = f by omega] at h1
  refine gs_oh_ok (m := 284) (fun c hc => ?_) h1
  unfold gs_wm
  rw [ga_if_eq, if_neg (by rw [Nat.blt_eq]; omega), ga_if_eq, if_neg (by rw [ga_beq]; omega), ga_if_eq, if_neg (by rw [ga_beq]; omega), ga_if_eq, if_neg (by rw [ga_beq]; omega), gs_out (by show 3 ≤ (c - 236) / 16; omega)]
/-- how high the pile is behind n codes from place r on -/
def gv_w (c : Int) : Int := if c = 126 then 0 else if 97 ≤ c ∧ c ≤ 122 then 1 else -1
def gv_h (σ : gp_S) (r : Nat) : Nat → Int
  | 0 => 0
  | n + 1 => gv_h σ r n + gv_w (σ 255 (r + n))
/-- a rule's codes can be worked off -/
def gv_ok (σ : gp_S) (r t : Int) : Prop := 0 ≤ r ∧ t ≤ 1120 ∧ ∀ n : Nat, r + n < t → (σ 255 (r.toNat + n) = 126 → 1 ≤ gv_h σ r.toNat n) ∧ (97 ≤ σ 255 (r.toNat + n) ∧ σ 255 (r.toNat + n) ≤ 122 → gv_h σ r.toNat n ≤ 59) ∧ (¬ σ 255 (r.toNat + n) = 126 → ¬ (97 ≤ σ 255 (r.toNat + n) ∧ σ 255 (r.toNat + n) ≤ 122) → 2 ≤ gv_h σ r.toNat n)
/-- a state that is kept: seats, where the boat stands -/
def gv_q (f : Nat) (g : Nat → Int) : Prop := (∀ j, j < f → g j < (f : Int)) ∧ ∀ i j, i < j → j < f → ¬ g i = g j
def gv_sv (f : Nat) (g : Nat → Int) : Prop := (∀ j, j < 7 → 0 ≤ g j ∧ g j ≤ 6) ∧ -1 ≤ g 24 ∧ g 24 < (f : Int) ∧ gv_q f g
def gm_X (f : Nat) : gp_S → Prop := fun σ => gv_ok σ (σ 252 0) (σ 253 0) ∧ gv_ok σ (σ 252 1) (σ 253 1) ∧ (σ 252 0 < σ 253 0 → σ 253 0 ≤ 560) ∧ (σ 252 1 < σ 253 1 → 560 ≤ σ 252 1) ∧
  0 ≤ σ 236 46 ∧ 0 ≤ σ 236 47 ∧ σ 236 46 + σ 236 47 ≤ 40 ∧ (∀ i : Nat, (i : Int) < σ 236 46 + σ 236 47 → gv_sv f (fun j => σ 264 (29 * i + j))) ∧ (∀ i : Nat, i < 3 → σ 278 i = 1 → gv_sv f (fun j => σ 277 (29 * i + j)))
theorem gb_mo_mem {c : Nat} (j : Nat) : ∀ {ml : List (Nat × Nat)}, (c, 1048576) ∈ ml → gb_mo ml c j = true := by
  intro ml
  induction ml with
  | nil => intro h; exact absurd h (List.not_mem_nil)
  | cons q r ih =>
    intro h
    show or (or (Nat.beq q.1 99999) (and (Nat.beq q.1 c) (or (Nat.beq q.2 j) (Nat.beq q.2 1048576)))) (gb_mo r c j) = true
    rcases List.mem_cons.1 h with h | h
    · rw [← h]; simp
    · rw [ih h, Bool.or_true]
theorem gv_h_eq {σ σ' : gp_S} (h : ∀ j, σ' 255 j = σ 255 j) (r : Nat) : ∀ n, gv_h σ' r n = gv_h σ r n
  | 0 => rfl
  | n + 1 => by
    show gv_h σ' r n + gv_w (σ' 255 (r + n)) = gv_h σ r n + gv_w (σ 255 (r + n))
    rw [gv_h_eq h r n, h]
theorem gv_ok_eq {σ σ' : gp_S} (h : ∀ j, σ' 255 j = σ 255 j) {r t : Int} (h1 : gv_ok σ r t) : gv_ok σ' r t := by
  refine ⟨h1.1, h1.2.1, fun n hn => ?_⟩
  rw [gv_h_eq h, h]
  exact h1.2.2 n hn
theorem gm_hx {f : Nat} : ∀ σ σ', (∀ c j, gb_mo gm_xl c j = true → σ' c j = σ c j) → gm_X f σ → gm_X f σ' := by
  intro σ σ' h hX
  have e1 : ∀ j, σ' 255 j = σ 255 j := fun j => h _ _ (gb_mo_mem j (by decide))
  have e2 : ∀ j, σ' 252 j = σ 252 j := fun j => h _ _ (gb_mo_mem j (by decide))
  have e3 : ∀ j, σ' 253 j = σ 253 j := fun j => h _ _ (gb_mo_mem j (by decide))
  have e4 : ∀ j, σ' 264 j = σ 264 j := fun j => h _ _ (gb_mo_mem j (by decide))
  have e5 : ∀ j, σ' 277 j = σ 277 j := fun j => h _ _ (gb_mo_mem j (by decide))
  have e6 : ∀ j, σ' 278 j = σ 278 j := fun j => h _ _ (gb_mo_mem j (by decide))
  have e7 : σ' 236 46 = σ 236 46 := h _ _ rfl
  have e8 : σ' 236 47 = σ 236 47 := h _ _ rfl
  obtain ⟨h1, h2, h3, h4, h5, h6, h7, h8, h9⟩ := hX
  refine ⟨?_, ?_, ?_, ?_, ?_, ?_, ?_, fun i hi => ?_, fun i hi hb => ?_⟩
  · rw [e2, e3]; exact gv_ok_eq e1 h1
  · rw [e2, e3]; exact gv_ok_eq e1 h2
  · rw [e2, e3]; exact h3
  · rw [e2, e3]; exact h4
  · rw [e7]; exact h5
  · rw [e8]; exact h6
  · rw [e7, e8]; exact h7
  · rw [e7, e8] at hi
    simp only [e4]
    exact h8 i hi
  · rw [e6] at hb
    simp only [e5]
    exact h9 i hi hb
