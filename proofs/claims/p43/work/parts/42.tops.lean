/-! arithmetic by bounds: what the machine reckons holds of what the instruction does -/
def gb_O2 (f : Nat → Nat → Nat → Nat → Nat) (g : Int32 → Int32 → Int32) : Prop :=
  ∀ (lx hx ly hy : Nat) (X Y : Int32), lx ≤ ga_kk X → ga_kk X ≤ hx → ly ≤ ga_kk Y → ga_kk Y ≤ hy → hx < 4294967296 → hy < 4294967296 → ¬ f lx hx ly hy % 8 = 7 → ∀ (ρ : List Int32) (oa : Nat → Nat) (ad : List Nat), gb_vr ρ oa ad (f lx hx ly hy) (.int (g X Y))
theorem gb_kki (X : Int32) : (ga_kk X : Int) = X.toInt + 2147483648 := by
  have h1 := Int32.le_toInt X
  unfold ga_kk
  omega
theorem gb_off (X : Int32) (h : 2147483648 ≤ ga_kk X) : ∃ u : Nat, X.toInt = (u : Int) ∧ u < 2147483648 := by
  have a := gb_kki X
  have b := Int32.toInt_lt X
  exact ⟨X.toInt.toNat, by omega, by omega⟩
theorem gb_kk_add {X Y : Int32} (h1 : 2147483648 ≤ ga_kk X + ga_kk Y) (h2 : ga_kk X + ga_kk Y < 6442450944) : ga_kk (X + Y) = ga_kk X + ga_kk Y - 2147483648 := by
  have a := gb_kki X
  have b := gb_kki Y
  have c := gb_kki (X + Y)
  have e : (X + Y).toInt = (X.toInt + Y.toInt).bmod (2 ^ 32) := Int32.toInt_add X Y
  simp only [Int.bmod] at e
  split at e <;> omega
theorem gb_kk_sub {X Y : Int32} (h1 : ga_kk Y ≤ ga_kk X + 2147483648) (h2 : ga_kk X + 2147483648 < ga_kk Y + 4294967296) : ga_kk (X - Y) = ga_kk X + 2147483648 - ga_kk Y := by
  have a := gb_kki X
  have b := gb_kki Y
  have c := gb_kki (X - Y)
  have e : (X - Y).toInt = (X.toInt - Y.toInt).bmod (2 ^ 32) := Int32.toInt_sub X Y
  simp only [Int.bmod] at e
  split at e <;> omega
set_option maxRecDepth 20000 in
theorem gb_add_ok : gb_O2 gb_add (fun X Y => X + Y) := by
  intro lx hx ly hy X Y a1 a2 b1 b2 c1 c2 h7 ρ oa ad
  unfold gb_add
  simp only [ga_if_eq, Bool.and_eq_true, Nat.ble_eq, Nat.blt_eq]
  split
  · rename_i h
    have e := gb_kk_add (X := X) (Y := Y) (by omega) (by omega)
    refine gb_mk_ok ?_ ?_ ?_ <;> omega
  · exact gb_any_ok _
set_option maxRecDepth 20000 in
theorem gb_sub_ok : gb_O2 gb_sub (fun X Y => X - Y) := by
  intro lx hx ly hy X Y a1 a2 b1 b2 c1 c2 h7 ρ oa ad
  unfold gb_sub
  simp only [ga_if_eq, Bool.and_eq_true, Nat.ble_eq, Nat.blt_eq]
  split
  · rename_i h
    have e := gb_kk_sub (X := X) (Y := Y) (by omega) (by omega)
    refine gb_mk_ok ?_ ?_ ?_ <;> omega
  · exact gb_any_ok _
theorem gb_bm {Z : Int} {t : Nat} (ht : t < 2147483648) (q : Z = ((t : Nat) : Int).bmod (2 ^ 32)) : Z = (t : Int) := by
  simp only [Int.bmod] at q
  split at q <;> omega
theorem gb_kk_of {Z : Int32} {t : Nat} (q : Z.toInt = (t : Int)) : ga_kk Z = t + 2147483648 := by
  have := gb_kki Z
  omega
theorem gb_mul_kk {X Y : Int32} {a b c d : Nat} (ha : a + 2147483648 ≤ ga_kk X) (hb : ga_kk X ≤ b + 2147483648) (hc : c + 2147483648 ≤ ga_kk Y) (hd : ga_kk Y ≤ d + 2147483648) (h : b * d < 2147483648) : a * c + 2147483648 ≤ ga_kk (X * Y) ∧ ga_kk (X * Y) ≤ b * d + 2147483648 := by
  have e1 := gb_kki X
  have e2 := gb_kki Y
  have e3 := gb_kki (X * Y)
  have eu : X.toInt = (X.toInt.toNat : Int) := by omega
  have ew : Y.toInt = (Y.toInt.toNat : Int) := by omega
  have m1 : X.toInt.toNat * Y.toInt.toNat ≤ b * d := Nat.mul_le_mul (by omega) (by omega)
  have m2 : a * c ≤ X.toInt.toNat * Y.toInt.toNat := Nat.mul_le_mul (by omega) (by omega)
  have e : (X * Y).toInt = (X.toInt * Y.toInt).bmod (2 ^ 32) := Int32.toInt_mul X Y
  rw [eu, ew, ← Int.natCast_mul] at e
  have q := gb_bm (Nat.lt_of_le_of_lt m1 h) e
  rw [gb_kk_of q]
  exact ⟨Nat.add_le_add_right m2 _, Nat.add_le_add_right m1 _⟩
set_option maxRecDepth 20000 in
theorem gb_mul_ok : gb_O2 gb_mul (fun X Y => X * Y) := by
  intro lx hx ly hy X Y a1 a2 b1 b2 c1 c2 h7 ρ oa ad
  unfold gb_mul
  simp only [ga_if_eq, Bool.and_eq_true, Nat.ble_eq, Nat.blt_eq]
  split
  · rename_i h
    have h1 := h.1.1
    have h2 := h.1.2
    have h3 := h.2
    have k := gb_mul_kk (X := X) (Y := Y) (a := lx - 2147483648) (b := hx - 2147483648) (c := ly - 2147483648) (d := hy - 2147483648) (by omega) (by omega) (by omega) (by omega) h3
    have k1 := k.1
    have k2 := k.2
    refine gb_mk_ok ?_ ?_ ?_ <;> omega
  · exact gb_any_ok _
theorem gb_div_kk {X Y : Int32} {a b c d : Nat} (ha : a + 2147483648 ≤ ga_kk X) (hb : ga_kk X ≤ b + 2147483648) (hc : c + 2147483648 ≤ ga_kk Y) (hd : ga_kk Y ≤ d + 2147483648) (h0 : 0 < c) : a / d + 2147483648 ≤ ga_kk (X / Y) ∧ ga_kk (X / Y) ≤ b / c + 2147483648 := by
  have e1 := gb_kki X
  have e2 := gb_kki Y
  have e3 := gb_kki (X / Y)
  have eu : X.toInt = (X.toInt.toNat : Int) := by omega
  have ew : Y.toInt = (Y.toInt.toNat : Int) := by omega
  have e : (X / Y).toInt = (X.toInt.tdiv Y.toInt).bmod (2 ^ 32) := Int32.toInt_div X Y
  have k := Int32.toInt_lt X
  have hq : X.toInt.toNat / Y.toInt.toNat ≤ X.toInt.toNat := Nat.div_le_self _ _
  have m1 : a / d ≤ X.toInt.toNat / Y.toInt.toNat := Nat.le_trans (Nat.div_le_div_right (by omega)) (Nat.div_le_div_left (by omega) (by omega))
  have m2 : X.toInt.toNat / Y.toInt.toNat ≤ b / c := Nat.le_trans (Nat.div_le_div_right (by omega)) (Nat.div_le_div_left (by omega) h0)
  have hu : X.toInt.toNat < 2147483648 := by omega
  rw [eu, ew] at e
  have et : ((X.toInt.toNat : Nat) : Int).tdiv ((Y.toInt.toNat : Nat) : Int) = ((X.toInt.toNat / Y.toInt.toNat : Nat) : Int) := rfl
  rw [et] at e
  have q := gb_bm (Nat.lt_of_le_of_lt hq hu) e
  rw [gb_kk_of q]
  exact ⟨Nat.add_le_add_right m1 _, Nat.add_le_add_right m2 _⟩
set_option maxRecDepth 20000 in
theorem gb_div_ok : gb_O2 gb_div (fun X Y => X / Y) := by
  intro lx hx ly hy X Y a1 a2 b1 b2 c1 c2 h7 ρ oa ad
  unfold gb_div at h7 ⊢
  simp only [ga_if_eq, Nat.ble_eq, Nat.blt_eq] at h7 ⊢
  split
  · rename_i h
    split
    · rename_i h2
      have k := gb_div_kk (X := X) (Y := Y) (a := lx - 2147483648) (b := hx - 2147483648) (c := ly - 2147483648) (d := hy - 2147483648) (by omega) (by omega) (by omega) (by omega) (by omega)
      have m3 : (hx - 2147483648) / (ly - 2147483648) ≤ hx - 2147483648 := Nat.div_le_self _ _
      have k1 := k.1
      have k2 := k.2
      refine gb_mk_ok ?_ ?_ ?_ <;> omega
    · exact gb_any_ok _
  · split
    · exact gb_any_ok _
    · rename_i h h2
      rw [if_neg h, if_neg h2] at h7
      exact absurd rfl h7
theorem gb_nz {lx hx ly hy : Nat} {X Y : Int32} {f : Nat} (b1 : ly ≤ ga_kk Y) (b2 : ga_kk Y ≤ hy) (h : 2147483648 < ly ∨ hy < 2147483648) : ¬ Y = 0 := by
  intro q
  have : ga_kk (0 : Int32) = 2147483648 := by decide
  rw [q, this] at b1 b2
  omega
theorem gb_div_nz {lx hx ly hy : Nat} {Y : Int32} (b1 : ly ≤ ga_kk Y) (b2 : ga_kk Y ≤ hy) (h7 : ¬ gb_div lx hx ly hy % 8 = 7) : ¬ Y = 0 := by
  unfold gb_div at h7
  simp only [ga_if_eq, Nat.ble_eq, Nat.blt_eq] at h7
  refine gb_nz (lx := 0) (hx := 0) (X := 0) (f := 0) b1 b2 ?_
  split at h7
  · exact Or.inl (by assumption)
  · split at h7
    · exact Or.inr (by assumption)
    · exact absurd rfl h7
theorem gb_rem_nz {lx hx ly hy : Nat} {Y : Int32} (b1 : ly ≤ ga_kk Y) (b2 : ga_kk Y ≤ hy) (h7 : ¬ gb_rem lx hx ly hy % 8 = 7) : ¬ Y = 0 := by
  unfold gb_rem at h7
  simp only [ga_if_eq, Nat.ble_eq, Nat.blt_eq] at h7
  refine gb_nz (lx := 0) (hx := 0) (X := 0) (f := 0) b1 b2 ?_
  split at h7
  · exact Or.inl (by assumption)
  · split at h7
    · exact Or.inr (by assumption)
    · exact absurd rfl h7
/-- the rest by a number above 0 -/
theorem gb_rem_int {X Y : Int32} (hY : 0 < Y.toInt) : (X - X / Y * Y).toInt = X.toInt.tmod Y.toInt := by
  have x1 := Int32.le_toInt X
  have x2 := Int32.toInt_lt X
  have y2 := Int32.toInt_lt Y
  have e : (X / Y).toInt = (X.toInt.tdiv Y.toInt).bmod (2 ^ 32) := Int32.toInt_div X Y
  have e2 : (X / Y * Y).toInt = ((X / Y).toInt * Y.toInt).bmod (2 ^ 32) := Int32.toInt_mul _ _
  have e3 : (X - X / Y * Y).toInt = (X.toInt - (X / Y * Y).toInt).bmod (2 ^ 32) := Int32.toInt_sub _ _
  have hm : X.toInt.tmod Y.toInt + Y.toInt * X.toInt.tdiv Y.toInt = X.toInt := Int.tmod_add_mul_tdiv X.toInt Y.toInt
  have hlt : X.toInt.tmod Y.toInt < Y.toInt := Int.tmod_lt_of_pos _ hY
  have hgt : -Y.toInt < X.toInt.tmod Y.toInt := Int.lt_tmod_of_pos X.toInt hY
  have hb : (X.toInt.tdiv Y.toInt).natAbs ≤ X.toInt.natAbs := Int.natAbs_tdiv_le_natAbs _ _
  have hq2 : (X / Y).toInt = X.toInt.tdiv Y.toInt := by
    have hs : X.toInt.tdiv Y.toInt < 2147483648 := by
      rcases Int.lt_or_le (X.toInt.tdiv Y.toInt) 2147483648 with hz | hz
      · exact hz
      · exfalso
        have h1 : 1 * 2147483648 ≤ Y.toInt * X.toInt.tdiv Y.toInt := Int.mul_le_mul (by omega) hz (by omega) (by omega)
        omega
    generalize Y.toInt * X.toInt.tdiv Y.toInt = t at hm
    simp only [Int.bmod] at e
    split at e <;> omega
  rw [hq2, Int.mul_comm] at e2
  generalize Y.toInt * X.toInt.tdiv Y.toInt = t at *
  simp only [Int.bmod] at e2 e3
  split at e2 <;> split at e3 <;> omega
set_option maxRecDepth 20000 in
theorem gb_rem_ok : gb_O2 gb_rem (fun X Y => X - X / Y * Y) := by
  intro lx hx ly hy X Y a1 a2 b1 b2 c1 c2 h7 ρ oa ad
  unfold gb_rem at h7 ⊢
  simp only [ga_if_eq, Nat.ble_eq, Nat.blt_eq] at h7 ⊢
  split
  · rename_i h
    have a := gb_kki X
    have b := gb_kki Y
    have c := gb_kki (X - X / Y * Y)
    have hY : 0 < Y.toInt := by omega
    have e := gb_rem_int (X := X) hY
    have hlt : X.toInt.tmod Y.toInt < Y.toInt := Int.tmod_lt_of_pos _ hY
    have hgt := Int.lt_tmod_of_pos X.toInt hY
    split
    · rename_i h2
      have hnn : 0 ≤ X.toInt.tmod Y.toInt := Int.tmod_nonneg _ (by omega)
      have hle : X.toInt.tmod Y.toInt ≤ X.toInt := by
        have hm := Int.tmod_add_mul_tdiv X.toInt Y.toInt
        have h3 : 0 ≤ Y.toInt * X.toInt.tdiv Y.toInt := Int.mul_nonneg (by omega) (Int.tdiv_nonneg (by omega) (by omega))
        omega
      refine gb_mk_ok (by omega) ?_ ?_
      · split <;> omega
      · split <;> omega
    · refine gb_mk_ok ?_ ?_ ?_ <;> omega
  · split
    · exact gb_any_ok _
    · rename_i h h2
      rw [if_neg h, if_neg h2] at h7
      exact absurd rfl h7
theorem gb_nat_of {X : Int32} (h : 2147483648 ≤ ga_kk X) : X.toBitVec.toNat = ga_kk X - 2147483648 ∧ X.toBitVec.toNat < 2147483648 := by
  have a := gb_kki X
  have b := Int32.toInt_lt X
  have e : X.toInt = X.toBitVec.toInt := rfl
  rw [BitVec.toInt_eq_toNat_bmod] at e
  have l := X.toBitVec.isLt
  simp only [Int.bmod] at e
  constructor <;> split at e <;> omega
theorem gb_of_nat {X : Int32} {n : Nat} (h : X.toBitVec.toNat = n) (hn : n < 2147483648) : ga_kk X = n + 2147483648 := by
  have a := gb_kki X
  have e : X.toInt = X.toBitVec.toInt := rfl
  rw [BitVec.toInt_eq_toNat_bmod, h] at e
  simp only [Int.bmod] at e
  split at e <;> omega
set_option maxRecDepth 20000 in
theorem gb_and_ok : gb_O2 gb_and (fun X Y => X &&& Y) := by
  intro lx hx ly hy X Y a1 a2 b1 b2 c1 c2 h7 ρ oa ad
  have e : (X &&& Y).toBitVec.toNat = X.toBitVec.toNat &&& Y.toBitVec.toNat := by
    rw [Int32.toBitVec_and, BitVec.toNat_and]
  unfold gb_and
  simp only [ga_if_eq, Nat.ble_eq]
  split
  · obtain ⟨g1, g2⟩ := gb_nat_of (X := Y) (by omega)
    have hle : X.toBitVec.toNat &&& Y.toBitVec.toNat ≤ Y.toBitVec.toNat := Nat.and_le_right
    have := gb_of_nat e (by omega)
    refine gb_mk_ok ?_ ?_ ?_ <;> omega
  · split
    · obtain ⟨g1, g2⟩ := gb_nat_of (X := X) (by omega)
      have hle : X.toBitVec.toNat &&& Y.toBitVec.toNat ≤ X.toBitVec.toNat := Nat.and_le_left
      have := gb_of_nat e (by omega)
      refine gb_mk_ok ?_ ?_ ?_ <;> omega
    · exact gb_any_ok _
set_option maxRecDepth 20000 in
theorem gb_or_ok : gb_O2 gb_orx (fun X Y => X ||| Y) := by
  intro lx hx ly hy X Y a1 a2 b1 b2 c1 c2 h7 ρ oa ad
  unfold gb_orx
  simp only [ga_if_eq, Nat.ble_eq, Bool.and_eq_true]
  split
  · rename_i h
    have e : (X ||| Y).toBitVec.toNat = X.toBitVec.toNat ||| Y.toBitVec.toNat := by
      rw [Int32.toBitVec_or, BitVec.toNat_or]
    obtain ⟨g1, g2⟩ := gb_nat_of (X := X) (by omega)
    obtain ⟨g3, g4⟩ := gb_nat_of (X := Y) (by omega)
    have hlt : X.toBitVec.toNat ||| Y.toBitVec.toNat < 2 ^ 31 := Nat.or_lt_two_pow g2 g4
    have := gb_of_nat e hlt
    exact gb_tv_ok (by omega) (by omega) (by omega)
  · exact gb_any_ok _
set_option maxRecDepth 20000 in
theorem gb_xor_ok : gb_O2 gb_orx (fun X Y => X ^^^ Y) := by
  intro lx hx ly hy X Y a1 a2 b1 b2 c1 c2 h7 ρ oa ad
  unfold gb_orx
  simp only [ga_if_eq, Nat.ble_eq, Bool.and_eq_true]
  split
  · rename_i h
    have e : (X ^^^ Y).toBitVec.toNat = X.toBitVec.toNat ^^^ Y.toBitVec.toNat := by
      rw [Int32.toBitVec_xor, BitVec.toNat_xor]
    obtain ⟨g1, g2⟩ := gb_nat_of (X := X) (by omega)
    obtain ⟨g3, g4⟩ := gb_nat_of (X := Y) (by omega)
    have hlt : X.toBitVec.toNat ^^^ Y.toBitVec.toNat < 2 ^ 31 := Nat.xor_lt_two_pow g2 g4
    have := gb_of_nat e hlt
    exact gb_tv_ok (by omega) (by omega) (by omega)
  · exact gb_any_ok _
theorem gb_shl_t : ∀ n, n < 31 → ga_kk ((1 : Int32) <<< (nI n &&& 31)) = 2 ^ n + 2147483648 := by decide +kernel
theorem gb_of_kk {Y : Int32} {n : Nat} (h : ga_kk Y = n + 2147483648) (hn : n < 2147483648) : Y = nI n := by
  rw [ga_kk_eq, h, ga_kk_nI (by omega)]
  unfold ga_key
  omega
theorem gb_shl_kk {X Y : Int32} {a b : Nat} (hX : ga_kk X = 2147483649) (ha : a + 2147483648 ≤ ga_kk Y) (hb : ga_kk Y ≤ b + 2147483648) (h : b < 31) : 2 ^ a + 2147483648 ≤ ga_kk (X <<< (Y &&& 31)) ∧ ga_kk (X <<< (Y &&& 31)) ≤ 2 ^ b + 2147483648 := by
  have eX : X = 1 := by
    have h1 : ga_kk (1 : Int32) = 2147483649 := by decide
    exact ga_kk_eq.mpr (by rw [hX, h1])
  have hkY := gb_kki Y
  have hn : ga_kk Y = Y.toInt.toNat + 2147483648 := by omega
  have eY := gb_of_kk hn (by omega)
  have e := gb_shl_t Y.toInt.toNat (by omega)
  have p1 : 2 ^ a ≤ 2 ^ Y.toInt.toNat := Nat.pow_le_pow_right (by decide) (by omega)
  have p2 : 2 ^ Y.toInt.toNat ≤ 2 ^ b := Nat.pow_le_pow_right (by decide) (by omega)
  rw [eX]
  rw [← eY] at e
  rw [e]
  exact ⟨Nat.add_le_add_right p1 _, Nat.add_le_add_right p2 _⟩
set_option maxRecDepth 20000 in
theorem gb_shl_ok : gb_O2 gb_shl (fun X Y => X <<< (Y &&& 31)) := by
  intro lx hx ly hy X Y a1 a2 b1 b2 c1 c2 h7 ρ oa ad
  unfold gb_shl
  simp only [ga_if_eq, Nat.ble_eq, Bool.and_eq_true, ga_beq]
  split
  · rename_i h
    have h1 := h.1.1
    have h2 := h.1.2
    have h3 := h.2.1
    have h4 := h.2.2
    have k := gb_shl_kk (X := X) (Y := Y) (a := ly - 2147483648) (b := hy - 2147483648) (by omega) (by omega) (by omega) (by omega)
    have p3 : 2 ^ (hy - 2147483648) ≤ 2 ^ 30 := Nat.pow_le_pow_right (by decide) (by omega)
    have p4 : 2 ^ 30 = 1073741824 := by decide
    have k1 := k.1
    have k2 := k.2
    rw [p4] at p3
    refine gb_mk_ok ?_ ?_ ?_ <;> omega
  · exact gb_any_ok _
set_option maxRecDepth 20000 in
theorem gb_shr_ok : gb_O2 gb_shr (fun X Y => X >>> (Y &&& 31)) := by
  intro lx hx ly hy X Y a1 a2 b1 b2 c1 c2 h7 ρ oa ad
  unfold gb_shr
  simp only [ga_if_eq, Nat.ble_eq]
  split
  · rename_i h
    obtain ⟨g1, g2⟩ := gb_nat_of (X := X) (by omega)
    have hm : X.toBitVec.msb = false := by
      rw [BitVec.msb_eq_false_iff_two_mul_lt]
      omega
    have e : (X >>> (Y &&& 31)).toBitVec.toNat = X.toBitVec.toNat >>> ((Y &&& 31).toBitVec.smod 32).toNat := by
      rw [Int32.toBitVec_shiftRight]
      show (X.toBitVec.sshiftRight' _).toNat = _
      rw [BitVec.sshiftRight_eq', BitVec.sshiftRight_eq_of_msb_false hm, BitVec.toNat_ushiftRight]
    have hle : X.toBitVec.toNat >>> ((Y &&& 31).toBitVec.smod 32).toNat ≤ X.toBitVec.toNat := by
      rw [Nat.shiftRight_eq_div_pow]
      exact Nat.div_le_self _ _
    have := gb_of_nat e (by omega)
    refine gb_mk_ok ?_ ?_ ?_ <;> omega
  · exact gb_any_ok _
theorem gb_a2_ok (g : Int32 → Int32 → Int32) : gb_O2 gb_a2 g := fun _ _ _ _ _ _ _ _ _ _ _ _ _ _ _ _ => gb_any_ok _
set_option maxRecDepth 20000 in
theorem gb_neg_ok {lx hx : Nat} {X : Int32} (a1 : lx ≤ ga_kk X) (a2 : ga_kk X ≤ hx) (ρ : List Int32) (oa : Nat → Nat) (ad : List Nat) : gb_vr ρ oa ad (gb_neg lx hx) (.int (-X)) := by
  unfold gb_neg
  simp only [ga_if_eq, Nat.ble_eq]
  split
  · rename_i h
    have a := gb_kki X
    have c := gb_kki (-X)
    have e : (-X).toInt = (-X.toInt).bmod (2 ^ 32) := Int32.toInt_neg X
    simp only [Int.bmod] at e
    have e2 : (-X).toInt = -X.toInt := by
      have := Int32.toInt_lt X
      split at e <;> omega
    refine gb_mk_ok ?_ ?_ ?_ <;> omega
  · exact gb_any_ok _
