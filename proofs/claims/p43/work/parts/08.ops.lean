/-! arithmetic: what the machine reckons is what the instruction does (s_l, s_u, nx_and, nx_xor, fa_or: as in kit/laws) -/
theorem s_l : ∀ n, n < 32 → ((nI n &&& 31).toBitVec.smod 32).toNat = n := by decide +kernel
theorem s_u : ∀ n, n < 32 → (((nI n).toUInt32 &&& Int32.toUInt32 31).toBitVec % 32).toNat = n := by decide +kernel
theorem nx_and (a b : Nat) : nI a &&& nI b = nI (a &&& b) := by
  apply Int32.toBitVec_inj.1
  show BitVec.ofNat 32 a &&& BitVec.ofNat 32 b = BitVec.ofNat 32 (a &&& b)
  apply BitVec.eq_of_getLsbD_eq
  intro i hi
  simp [hi]
theorem nx_xor (a b : Nat) : nI a ^^^ nI b = nI (a ^^^ b) := by
  apply Int32.toBitVec_inj.1
  show BitVec.ofNat 32 a ^^^ BitVec.ofNat 32 b = BitVec.ofNat 32 (a ^^^ b)
  apply BitVec.eq_of_getLsbD_eq
  intro i hi
  simp [hi]
theorem fa_or (a b : Nat) : nI a ||| nI b = nI (a ||| b) := by
  apply Int32.toBitVec_inj.1
  show BitVec.ofNat 32 a ||| BitVec.ofNat 32 b = BitVec.ofNat 32 (a ||| b)
  apply BitVec.eq_of_getLsbD_eq
  intro i hi
  simp [hi]
theorem ga_nImod (n : Nat) : nI (n % 4294967296) = nI n := by
  apply Int32.toBitVec_inj.1
  show BitVec.ofNat 32 (n % 4294967296) = BitVec.ofNat 32 n
  apply BitVec.eq_of_toNat_eq
  rw [BitVec.toNat_ofNat, BitVec.toNat_ofNat]
  exact Nat.mod_mod _ _
theorem ga_lNmod (n : Nat) : lN (n % 18446744073709551616) = lN n := by
  apply Int64.toBitVec_inj.1
  show BitVec.ofNat 64 (n % 18446744073709551616) = BitVec.ofNat 64 n
  apply BitVec.eq_of_toNat_eq
  rw [BitVec.toNat_ofNat, BitVec.toNat_ofNat]
  exact Nat.mod_mod _ _
theorem ga_nIsub {a b : Nat} (hb : b ≤ 4294967296) : nI a - nI b = nI (a + 4294967296 - b) := by
  have h : nI (a + 4294967296 - b) + nI b = nI a := by
    rw [nI_add, show a + 4294967296 - b + b = a + 4294967296 by omega, ← ga_nImod (a + 4294967296), Nat.add_mod_right, ga_nImod]
  rw [← h]
  apply Int32.toBitVec_inj.1
  simp
section GO
variable {ρ : Nat → Int32} {oa : Nat → Nat} {ad : List Nat}
theorem ga_l2_ok {x y : Nat} (h : ga_l2 x y = true) : x % 8 = 0 ∧ y % 8 = 0 := by
  unfold ga_l2 at h
  simpa [ga_beq] using h
theorem ga_i2_ok {x y : Nat} (h : ga_i2 x y = true) : ga_int x = true ∧ ga_int y = true := by
  unfold ga_i2 at h
  simpa using h
/-- an operation's table is right -/
def ga_O2 (ρ : Nat → Int32) (oa : Nat → Nat) (ad : List Nat) (f : Nat → Nat → Nat) (g : Int32 → Int32 → Int32) : Prop :=
  ∀ (x y : Nat) (vx vy : Value), ga_vr ρ oa ad x vx → ga_vr ρ oa ad y vy → ¬ f x y % 8 = 7 → ∃ X Y : Int32, vx = .int X ∧ vy = .int Y ∧ ga_vr ρ oa ad (f x y) (.int (g X Y))
theorem ga_lit (n : Nat) (h : n < 4294967296) : ga_vr ρ oa ad (8 * n) (.int (nI n)) := (ga_vr_0 (by omega)).mpr ⟨by omega, by rw [Nat.mul_div_cancel_left _ (by decide)]⟩
theorem ga_litx (n : Nat) : ga_vr ρ oa ad (8 * (n % 4294967296)) (.int (nI n)) := by
  have := ga_lit (ρ := ρ) (oa := oa) (ad := ad) (n % 4294967296) (Nat.mod_lt _ (by decide))
  rwa [ga_nImod] at this
theorem ga_any (x : Int32) : ga_vr ρ oa ad 2 (.int x) := (ga_vr_2 (by decide)).mpr ⟨x, rfl⟩
theorem ga_zero {X : Int32} (h : ga_vr ρ oa ad 0 (.int X)) : X = 0 := by
  have h1 := ((ga_vr_0 (by decide)).mp h).2
  cases h1
  rfl
theorem ga_z0 : ga_vr ρ oa ad 0 (.int 0) := ga_lit 0 (by decide)
/-- both are numbers, or both are ints whichever -/
theorem ga_two {x y : Nat} {vx vy : Value} {A B : Nat} (hx : ga_vr ρ oa ad x vx) (hy : ga_vr ρ oa ad y vy) {g : Int32 → Int32 → Int32} {b : Bool}
    (hA : b = true → ga_l2 x y = true ∧ (x / 8 < 4294967296 → y / 8 < 4294967296 → ga_vr ρ oa ad A (.int (g (nI (x / 8)) (nI (y / 8))))))
    (hB : ∀ X Y : Int32, vx = .int X → vy = .int Y → ¬ B % 8 = 7 → ga_vr ρ oa ad B (.int (g X Y)))
    (h7 : ¬ (ga_if b A (ga_if (ga_i2 x y) B 7)) % 8 = 7) : ∃ X Y : Int32, vx = .int X ∧ vy = .int Y ∧ ga_vr ρ oa ad (ga_if b A (ga_if (ga_i2 x y) B 7)) (.int (g X Y)) := by
  cases b with
  | true =>
    obtain ⟨h1, h2⟩ := hA rfl
    obtain ⟨e1, e2⟩ := ga_l2_ok h1
    obtain ⟨l1, rfl⟩ := (ga_vr_0 e1).mp hx
    obtain ⟨l2, rfl⟩ := (ga_vr_0 e2).mp hy
    exact ⟨_, _, rfl, rfl, h2 l1 l2⟩
  | false =>
    rw [ga_if_f] at h7 ⊢
    cases hi : ga_i2 x y with
    | false => rw [hi] at h7; exact absurd rfl h7
    | true =>
      rw [hi, ga_if_t] at h7
      obtain ⟨i1, i2⟩ := ga_i2_ok hi
      obtain ⟨X, rfl⟩ := ga_vr_int i1 hx
      obtain ⟨Y, rfl⟩ := ga_vr_int i2 hy
      rw [ga_if_t]
      exact ⟨X, Y, rfl, rfl, hB X Y rfl rfl h7⟩
theorem ga_add_ok : ga_O2 ρ oa ad ga_add (fun X Y => X + Y) := by
  intro x y vx vy hx hy h7
  refine ga_two hx hy (fun h => ⟨h, fun l1 l2 => ?_⟩) (fun X Y eX eY _ => ?_) h7
  · obtain ⟨e1, e2⟩ := ga_l2_ok h
    rw [nI_add]
    have e : (x + y) % 34359738368 = 8 * ((x / 8 + y / 8) % 4294967296) := by omega
    rw [e]
    exact ga_litx _
  · subst eX; subst eY
    simp only [ga_if_eq, ga_beq]
    split
    · rename_i h0
      subst h0
      rw [ga_zero hy]
      simpa using hx
    · split
      · rename_i h0 h1
        subst h1
        rw [ga_zero hx]
        simpa using hy
      · exact ga_any _
theorem ga_sub_ok : ga_O2 ρ oa ad ga_sub (fun X Y => X - Y) := by
  intro x y vx vy hx hy h7
  refine ga_two hx hy (fun h => ⟨h, fun l1 l2 => ?_⟩) (fun X Y eX eY _ => ?_) h7
  · obtain ⟨e1, e2⟩ := ga_l2_ok h
    rw [ga_nIsub (by omega)]
    have e : (x + 34359738368 - y) % 34359738368 = 8 * ((x / 8 + 4294967296 - y / 8) % 4294967296) := by omega
    rw [e]
    exact ga_litx _
  · subst eX; subst eY
    simp only [ga_if_eq, ga_beq]
    split
    · rename_i h0
      subst h0
      rw [ga_zero hy]
      simpa using hx
    · exact ga_any _
theorem ga_mul_ok : ga_O2 ρ oa ad ga_mul (fun X Y => X * Y) := by
  intro x y vx vy hx hy h7
  refine ga_two hx hy (fun h => ⟨h, fun l1 l2 => ?_⟩) (fun X Y eX eY _ => ?_) h7
  · rw [pk_mul]
    exact ga_litx _
  · subst eX; subst eY
    simp only [ga_if_eq, ga_beq, Bool.or_eq_true]
    split
    · rename_i h0
      rcases h0 with h0 | h0
      · subst h0
        rw [ga_zero hx]
        simpa using (ga_z0 (ρ := ρ) (oa := oa) (ad := ad))
      · subst h0
        rw [ga_zero hy]
        simpa using (ga_z0 (ρ := ρ) (oa := oa) (ad := ad))
    · exact ga_any _
theorem ga_and_ok (hρ : ρ 6 = ρ 0 &&& 63) : ga_O2 ρ oa ad ga_and (fun X Y => X &&& Y) := by
  intro x y vx vy hx hy h7
  refine ga_two hx hy (fun h => ⟨h, fun l1 l2 => ?_⟩) (fun X Y eX eY _ => ?_) h7
  · rw [nx_and]
    exact ga_lit _ (Nat.lt_of_le_of_lt Nat.and_le_left l1)
  · subst eX; subst eY
    simp only [ga_if_eq, ga_beq, Bool.or_eq_true, Bool.and_eq_true]
    split
    · rename_i h0
      rcases h0 with h0 | h0
      · subst h0
        rw [ga_zero hx]
        simpa using (ga_z0 (ρ := ρ) (oa := oa) (ad := ad))
      · subst h0
        rw [ga_zero hy]
        simpa using (ga_z0 (ρ := ρ) (oa := oa) (ad := ad))
    · split
      · rename_i h0 h1
        obtain ⟨rfl, rfl⟩ := h1
        have e1 := (ga_vr_1 (by decide)).mp hx
        have e2 := ((ga_vr_0 (by decide)).mp hy).2
        cases e1
        cases e2
        refine (ga_vr_1 (by decide)).mpr ?_
        show Value.int (ρ 0 &&& nI 63) = Value.int (ρ 6)
        rw [hρ]
        rfl
      · exact ga_any _
theorem ga_or_ok : ga_O2 ρ oa ad ga_or (fun X Y => X ||| Y) := by
  intro x y vx vy hx hy h7
  refine ga_two hx hy (fun h => ⟨h, fun l1 l2 => ?_⟩) (fun X Y eX eY _ => ga_any _) h7
  rw [fa_or]
  exact ga_lit _ (Nat.or_lt_two_pow (n := 32) l1 l2)
theorem ga_xor_ok : ga_O2 ρ oa ad ga_xor (fun X Y => X ^^^ Y) := by
  intro x y vx vy hx hy h7
  refine ga_two hx hy (fun h => ⟨h, fun l1 l2 => ?_⟩) (fun X Y eX eY _ => ga_any _) h7
  rw [nx_xor]
  exact ga_lit _ (Nat.xor_lt_two_pow (n := 32) l1 l2)
theorem ga_shl_ok : ga_O2 ρ oa ad ga_shl (fun X Y => X <<< (Y &&& 31)) := by
  intro x y vx vy hx hy h7
  unfold ga_shl at h7 ⊢
  refine ga_two hx hy (fun h => ⟨h, fun l1 l2 => ?_⟩) (fun X Y eX eY _ => ga_any _) h7
  rw [h, ga_if_t] at h7
  simp only [ga_if_eq, Bool.and_eq_true, Nat.blt_eq] at h7 ⊢
  split at h7
  · rename_i hc
    rw [if_pos hc, pk_shlN (n := x / 8) (nI (y / 8) &&& 31) (y / 8) (s_l _ (by omega)) hc.2]
    exact ga_lit _ hc.2
  · exact absurd rfl h7
theorem ga_shr_ok : ga_O2 ρ oa ad ga_shr (fun X Y => X >>> (Y &&& 31)) := by
  intro x y vx vy hx hy h7
  unfold ga_shr at h7 ⊢
  refine ga_two hx hy (fun h => ?_) (fun X Y eX eY _ => ?_) h7
  · simp only [Bool.and_eq_true, Nat.blt_eq] at h
    refine ⟨h.1, fun l1 l2 => ?_⟩
    rw [pk_shrN h.2.2 (nI (y / 8) &&& 31) (y / 8) (s_l _ (by omega))]
    exact ga_lit _ (Nat.lt_of_le_of_lt (Nat.div_le_self _ _) l1)
  · subst eX; subst eY
    simp only [ga_if_eq, ga_beq]
    split
    · rename_i h0
      subst h0
      rw [ga_zero hx]
      have e : (0 : Int32) >>> (Y &&& 31) = 0 := by
        apply Int32.toBitVec_inj.1
        simp [Int32.toBitVec_shiftRight]
      rw [e]
      exact ga_lit 0 (by decide)
    · exact ga_any _
theorem ga_ush_ok : ga_O2 ρ oa ad ga_ush (fun X Y => (X.toUInt32 >>> (Y.toUInt32 &&& Int32.toUInt32 31)).toInt32) := by
  intro x y vx vy hx hy h7
  unfold ga_ush at h7 ⊢
  refine ga_two hx hy (fun h => ?_) (fun X Y eX eY _ => ga_any _) h7
  simp only [Bool.and_eq_true, Nat.blt_eq] at h
  refine ⟨h.1, fun l1 l2 => ?_⟩
  rw [pk_ushrN l1 (nI (y / 8)) (y / 8) (s_u _ (by omega))]
  exact ga_lit _ (Nat.lt_of_le_of_lt (Nat.div_le_self _ _) l1)
theorem ga_div_ok (x y : Nat) (vx vy : Value) (hx : ga_vr ρ oa ad x vx) (hy : ga_vr ρ oa ad y vy) (h7 : ¬ ga_div x y % 8 = 7) : ∃ X Y : Int32, vx = .int X ∧ vy = .int Y ∧ ¬ Y = 0 ∧ ga_vr ρ oa ad (ga_div x y) (.int (X / Y)) := by
  unfold ga_div at h7 ⊢
  simp only [ga_if_eq, Bool.and_eq_true, Nat.blt_eq] at h7 ⊢
  split at h7
  · rename_i h
    rw [if_pos h]
    obtain ⟨e1, e2⟩ := ga_l2_ok h.1
    obtain ⟨l1, rfl⟩ := (ga_vr_0 e1).mp hx
    obtain ⟨l2, rfl⟩ := (ga_vr_0 e2).mp hy
    refine ⟨_, _, rfl, rfl, nI_ne0 h.2.1 h.2.2.2, ?_⟩
    rw [pk_div h.2.2.1 h.2.1 h.2.2.2]
    exact ga_lit _ (Nat.lt_of_le_of_lt (Nat.div_le_self _ _) l1)
  · exact absurd rfl h7
theorem ga_rem_ok (x y : Nat) (vx vy : Value) (hx : ga_vr ρ oa ad x vx) (hy : ga_vr ρ oa ad y vy) (h7 : ¬ ga_rem x y % 8 = 7) : ∃ X Y : Int32, vx = .int X ∧ vy = .int Y ∧ ¬ Y = 0 ∧ ga_vr ρ oa ad (ga_rem x y) (.int (X - X / Y * Y)) := by
  unfold ga_rem at h7 ⊢
  simp only [ga_if_eq, Bool.and_eq_true, Nat.blt_eq] at h7 ⊢
  split at h7
  · rename_i h
    rw [if_pos h]
    obtain ⟨e1, e2⟩ := ga_l2_ok h.1
    obtain ⟨l1, rfl⟩ := (ga_vr_0 e1).mp hx
    obtain ⟨l2, rfl⟩ := (ga_vr_0 e2).mp hy
    refine ⟨_, _, rfl, rfl, nI_ne0 h.2.1 h.2.2.2, ?_⟩
    rw [pk_rem h.2.2.1 h.2.1 h.2.2.2]
    exact ga_lit _ (Nat.lt_of_le_of_lt (Nat.mod_le _ _) l1)
  · exact absurd rfl h7
theorem ga_litL (n : Nat) : ga_vr ρ oa ad (8 * (n % 18446744073709551616) + 5) (.long (lN n)) := by
  refine (ga_vr_5 (by omega)).mpr ?_
  have e : (8 * (n % 18446744073709551616) + 5) / 8 = n % 18446744073709551616 := by omega
  rw [e, ga_lNmod]
  exact ⟨Nat.mod_lt _ (by decide), rfl⟩
theorem ga_lad_ok (x y : Nat) (vx vy : Value) (hx : ga_vr ρ oa ad x vx) (hy : ga_vr ρ oa ad y vy) (h7 : ¬ ga_lad x y % 8 = 7) : ∃ X Y : Int64, vx = .long X ∧ vy = .long Y ∧ ga_vr ρ oa ad (ga_lad x y) (.long (X + Y)) := by
  unfold ga_lad at h7 ⊢
  simp only [ga_if_eq, Bool.and_eq_true, ga_beq] at h7 ⊢
  split at h7
  · rename_i h
    rw [if_pos h]
    obtain ⟨l1, rfl⟩ := (ga_vr_5 h.1).mp hx
    obtain ⟨l2, rfl⟩ := (ga_vr_5 h.2).mp hy
    exact ⟨_, _, rfl, rfl, by rw [lN_add]; exact ga_litL _⟩
  · exact absurd rfl h7
theorem ga_lmu_ok (x y : Nat) (vx vy : Value) (hx : ga_vr ρ oa ad x vx) (hy : ga_vr ρ oa ad y vy) (h7 : ¬ ga_lmu x y % 8 = 7) : ∃ X Y : Int64, vx = .long X ∧ vy = .long Y ∧ ga_vr ρ oa ad (ga_lmu x y) (.long (X * Y)) := by
  unfold ga_lmu at h7 ⊢
  simp only [ga_if_eq, Bool.and_eq_true, ga_beq] at h7 ⊢
  split at h7
  · rename_i h
    rw [if_pos h]
    obtain ⟨l1, rfl⟩ := (ga_vr_5 h.1).mp hx
    obtain ⟨l2, rfl⟩ := (ga_vr_5 h.2).mp hy
    exact ⟨_, _, rfl, rfl, by rw [lN_mul]; exact ga_litL _⟩
  · exact absurd rfl h7
theorem ga_b128 : ∀ n, n < 128 → (nI n).toInt8.toInt32 = nI n := by decide +kernel
theorem ga_i2b_ok (x : Nat) (vx : Value) (hx : ga_vr ρ oa ad x vx) (h7 : ¬ ga_i2b x % 8 = 7) : ∃ X : Int32, vx = .int X ∧ ga_vr ρ oa ad (ga_i2b x) (.int X.toInt8.toInt32) := by
  unfold ga_i2b at h7 ⊢
  simp only [ga_if_eq, Bool.and_eq_true, ga_beq, Nat.blt_eq] at h7 ⊢
  split at h7
  · rename_i h
    rw [if_pos h]
    obtain ⟨l1, rfl⟩ := (ga_vr_0 h.1).mp hx
    exact ⟨_, rfl, by rw [ga_b128 _ h.2]; exact hx⟩
  · rename_i h
    rw [if_neg h]
    split at h7
    · rename_i h2
      rw [if_pos h2]
      obtain ⟨X, rfl⟩ := ga_vr_int h2 hx
      exact ⟨X, rfl, ga_any _⟩
    · exact absurd rfl h7
theorem ga_i2l_ok (x : Nat) (vx : Value) (hx : ga_vr ρ oa ad x vx) (h7 : ¬ ga_i2l x % 8 = 7) : ∃ X : Int32, vx = .int X ∧ ga_vr ρ oa ad (ga_i2l x) (.long X.toInt64) := by
  unfold ga_i2l at h7 ⊢
  simp only [ga_if_eq, Bool.and_eq_true, ga_beq, Nat.blt_eq] at h7 ⊢
  split at h7
  · rename_i h
    rw [if_pos h]
    obtain ⟨l1, rfl⟩ := (ga_vr_0 h.1).mp hx
    refine ⟨_, rfl, ?_⟩
    rw [nI_l h.2]
    refine (ga_vr_5 (by omega)).mpr ?_
    have e : (x + 5) / 8 = x / 8 := by omega
    rw [e]
    exact ⟨by omega, rfl⟩
  · exact absurd rfl h7
end GO
