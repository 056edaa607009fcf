/-! contracts by hand: bitsOf, divisor -/
theorem gh_bits {K : Int32} (h : ¬ K = 0) : (K &&& (K - 1)).toBitVec.toNat < K.toBitVec.toNat := by
  have e1 : (K &&& (K - 1)).toBitVec.toNat = K.toBitVec.toNat &&& (K.toBitVec - 1#32).toNat := BitVec.toNat_and _ _
  have h0 : ¬ K.toBitVec.toNat = 0 := fun q => h (Int32.toBitVec_inj.mp (BitVec.eq_of_toNat_eq (by rw [q]; rfl)))
  have hlt := K.toBitVec.isLt
  have e2 : (K.toBitVec - 1#32).toNat = K.toBitVec.toNat - 1 := by
    rw [BitVec.toNat_sub]
    have : (1#32).toNat = 1 := rfl
    rw [this]
    omega
  have h2 : (K.toBitVec.toNat &&& (K.toBitVec - 1#32).toNat) ≤ (K.toBitVec - 1#32).toNat := Nat.and_le_right
  omega

theorem gz_bits {z : Int} {σ : gp_S} {Φ : gp_F} (hz : gh_r z) (hΦ : ∀ r, gh_r r → Φ (.inl r) σ) : gp_call gs_sh 1 52 [.inl z] σ Φ := by
  refine gh_call (al := [.inl z, .inr 7, .inr 7]) (by decide +kernel) (by show 1 = _; decide +kernel) (by rw [show (gm_me 52).2.1 = 2 by decide +kernel]; rfl) (by show 3 = _; decide +kernel) ?_
  rw [show gm_rc 52 = 1 by decide +kernel]
  have loop : ∀ (m : Nat) (n k : Int), gh_r n → gh_r k → (Int32.ofInt k).toBitVec.toNat ≤ m → gp_ok gs_sh (gp_call gs_sh 0) 1 (gm_me 52).1 Φ 4 [.inl z, .inl n, .inl k] [] σ := by
    intro m
    induction m with
    | zero =>
      intro n k hn hk hm
      refine gh_iload_n (show gh_at (gm_me 52).1 4 = some (4, 1, .iload_n 2, 0, 0, []) from rfl) rfl ?_
      refine gh_if (show gh_at (gm_me 52).1 5 = some (5, 3, .ifCond .eq (15), 0, 20, []) from rfl) (fun hc => ?_) (fun hc => ?_)
      · refine gh_iload_n (show gh_at (gm_me 52).1 20 = some (20, 1, .iload_n 1, 0, 0, []) from rfl) rfl ?_
        refine gh_iret (show gh_at (gm_me 52).1 21 = some (21, 1, .ireturn, 0, 0, []) from rfl) ?_
        exact Or.inl ⟨rfl, hΦ _ hn⟩
      · exfalso
        apply hc
        show k = 0
        have e : Int32.ofInt k = 0 := Int32.toBitVec_inj.mp (BitVec.eq_of_toNat_eq (by have : (0 : Int32).toBitVec.toNat = 0 := rfl; omega))
        have e2 : (Int32.ofInt k).toInt = k := Int32.toInt_ofInt_of_le hk.1 hk.2
        rw [e] at e2
        exact e2.symm
    | succ m ih =>
      intro n k hn hk hm
      refine gh_iload_n (show gh_at (gm_me 52).1 4 = some (4, 1, .iload_n 2, 0, 0, []) from rfl) rfl ?_
      refine gh_if (show gh_at (gm_me 52).1 5 = some (5, 3, .ifCond .eq (15), 0, 20, []) from rfl) (fun hc => ?_) (fun hc => ?_)
      · refine gh_iload_n (show gh_at (gm_me 52).1 20 = some (20, 1, .iload_n 1, 0, 0, []) from rfl) rfl ?_
        refine gh_iret (show gh_at (gm_me 52).1 21 = some (21, 1, .ireturn, 0, 0, []) from rfl) ?_
        exact Or.inl ⟨rfl, hΦ _ hn⟩
      · refine gh_iinc (show gh_at (gm_me 52).1 8 = some (8, 3, .iinc 1 (1), 8, 0, []) from rfl) rfl (fun c q => by cases q <;> decide) (y := gp_b2 (fun x y => x + y) n (gp_li 8)) (rfl) rfl ?_
        refine gh_iload_n (show gh_at (gm_me 52).1 11 = some (11, 1, .iload_n 2, 0, 0, []) from rfl) rfl ?_
        refine gh_iload_n (show gh_at (gm_me 52).1 12 = some (12, 1, .iload_n 2, 0, 0, []) from rfl) rfl ?_
        refine gh_iconst (x := 1) (show gh_at (gm_me 52).1 13 = some (13, 1, .iconst 1, 8, 0, []) from rfl) (by decide) ?_
        refine gh_isub (z := gp_b2 (fun x y => x - y) k 1) (show gh_at (gm_me 52).1 14 = some (14, 1, .isub, 0, 0, []) from rfl) (rfl) ?_
        refine gh_iand (z := gp_b2 (fun x y => x &&& y) k (gp_b2 (fun x y => x - y) k 1)) (show gh_at (gm_me 52).1 15 = some (15, 1, .iand, 0, 0, []) from rfl) (rfl) ?_
        refine gh_istore_n (show gh_at (gm_me 52).1 16 = some (16, 1, .istore_n 2, 0, 0, []) from rfl) (fun c q => by cases q <;> decide) rfl ?_
        refine gh_goto (show gh_at (gm_me 52).1 17 = some (17, 3, .goto (-13), 0, 4, []) from rfl) ?_
        refine ih _ _ (gh_b2_r _ _ _) (gh_b2_r _ _ _) ?_
        have hK : ¬ Int32.ofInt k = 0 := fun q => hc (by have e2 : (Int32.ofInt k).toInt = k := Int32.toInt_ofInt_of_le hk.1 hk.2; rw [q] at e2; exact e2.symm)
        have e3 : Int32.ofInt (gp_b2 (fun x y => x &&& y) k (gp_b2 (fun x y => x - y) k 1)) = Int32.ofInt k &&& (Int32.ofInt k - 1) := by
          show Int32.ofInt (Int32.ofInt k &&& Int32.ofInt ((Int32.ofInt k - Int32.ofInt 1).toInt)).toInt = _
          rw [Int32.ofInt_toInt, Int32.ofInt_toInt]
          rfl
        rw [e3]
        have := gh_bits hK
        omega
  refine gh_iconst (x := 0) (show gh_at (gm_me 52).1 0 = some (0, 1, .iconst 0, 0, 0, []) from rfl) (by decide) ?_
  refine gh_istore_n (show gh_at (gm_me 52).1 1 = some (1, 1, .istore_n 1, 0, 0, []) from rfl) (fun c q => by cases q <;> decide) rfl ?_
  refine gh_iload_n (show gh_at (gm_me 52).1 2 = some (2, 1, .iload_n 0, 0, 0, []) from rfl) rfl ?_
  refine gh_istore_n (show gh_at (gm_me 52).1 3 = some (3, 1, .istore_n 2, 0, 0, []) from rfl) (fun c q => by cases q <;> decide) rfl ?_
  exact loop _ _ _ (by unfold gh_r; omega) hz (Nat.le_refl _)
theorem gk_bits {wt : Nat → gb_T} {X : gp_S → Prop} : gt_KC gs_sh wt X (52, 1, [34359738362], [], 34359738362, []) := by
  intro pas σ hW hX _ har
  match pas, har with
  | [x], har =>
    rcases har.1 with ⟨-, y, rfl, -⟩ | ⟨q, -⟩ | ⟨q, -⟩
    · exact gz_bits ⟨Int32.le_toInt y, Int32.toInt_lt y⟩ (fun r hr => ⟨hW, hX, fun c j _ => rfl, Or.inr (gh_any hr)⟩)
    · exact absurd q (by decide)
    · exact absurd q (by decide)
theorem gz_div {x0 y0 : Int} {σ : gp_S} {Φ : gp_F} (hx : 1 ≤ x0 ∧ x0 ≤ 100000000) (hy : 0 ≤ y0 ∧ y0 ≤ 100000000) (hΦ : ∀ r : Int, 1 ≤ r → r ≤ 100000000 → Φ (.inl r) σ) : gp_call gs_sh 1 19 [.inl x0, .inl y0] σ Φ := by
  refine gh_call (al := [.inl x0, .inl y0, .inr 7, .inr 7, .inr 7]) (by decide +kernel) (by show 2 = _; decide +kernel) (by rw [show (gm_me 19).2.1 = 3 by decide +kernel]; rfl) (by show 5 = _; decide +kernel) ?_
  rw [show gm_rc 19 = 1 by decide +kernel]
  have loop : ∀ (m : Nat) (x y : Int) (v : gp_V), 1 ≤ x → x ≤ 100000000 → 0 ≤ y → y ≤ 100000000 → y.toNat ≤ m → gp_ok gs_sh (gp_call gs_sh 0) 1 (gm_me 19).1 Φ 4 [.inl x0, .inl y0, .inl x, .inl y, v] [] σ := by
    intro m
    induction m with
    | zero =>
      intro x y v h1 h2 h3 h4 hm
      refine gh_iload_n (show gh_at (gm_me 19).1 4 = some (4, 1, .iload_n 3, 0, 0, []) from rfl) rfl ?_
      refine gh_if (show gh_at (gm_me 19).1 5 = some (5, 3, .ifCond .le (16), 0, 21, []) from rfl) (fun hc => ?_) (fun hc => ?_)
      · refine gh_iload_n (show gh_at (gm_me 19).1 21 = some (21, 1, .iload_n 2, 0, 0, []) from rfl) rfl ?_
        refine gh_iret (show gh_at (gm_me 19).1 22 = some (22, 1, .ireturn, 0, 0, []) from rfl) ?_
        exact Or.inl ⟨rfl, hΦ _ h1 h2⟩
      · have hc : ¬ y ≤ 0 := hc
        omega
    | succ m ih =>
      intro x y v h1 h2 h3 h4 hm
      refine gh_iload_n (show gh_at (gm_me 19).1 4 = some (4, 1, .iload_n 3, 0, 0, []) from rfl) rfl ?_
      refine gh_if (show gh_at (gm_me 19).1 5 = some (5, 3, .ifCond .le (16), 0, 21, []) from rfl) (fun hc => ?_) (fun hc => ?_)
      · refine gh_iload_n (show gh_at (gm_me 19).1 21 = some (21, 1, .iload_n 2, 0, 0, []) from rfl) rfl ?_
        refine gh_iret (show gh_at (gm_me 19).1 22 = some (22, 1, .ireturn, 0, 0, []) from rfl) ?_
        exact Or.inl ⟨rfl, hΦ _ h1 h2⟩
      · have hc : ¬ y ≤ 0 := hc
        refine gh_iload_n (show gh_at (gm_me 19).1 8 = some (8, 1, .iload_n 2, 0, 0, []) from rfl) rfl ?_
        refine gh_iload_n (show gh_at (gm_me 19).1 9 = some (9, 1, .iload_n 3, 0, 0, []) from rfl) rfl ?_
        refine gh_irem (z := x.tmod y) (show gh_at (gm_me 19).1 10 = some (10, 1, .irem, 0, 0, []) from rfl) (by omega) (gh_rem (by unfold gh_r; omega) (by unfold gh_r; omega) (by omega)) ?_
        refine gh_istore (show gh_at (gm_me 19).1 11 = some (11, 2, .istore 4, 0, 0, []) from rfl) (fun c q => by cases q <;> decide) rfl ?_
        refine gh_iload_n (show gh_at (gm_me 19).1 13 = some (13, 1, .iload_n 3, 0, 0, []) from rfl) rfl ?_
        refine gh_istore_n (show gh_at (gm_me 19).1 14 = some (14, 1, .istore_n 2, 0, 0, []) from rfl) (fun c q => by cases q <;> decide) rfl ?_
        refine gh_iload (show gh_at (gm_me 19).1 15 = some (15, 2, .iload 4, 0, 0, []) from rfl) rfl ?_
        refine gh_istore_n (show gh_at (gm_me 19).1 17 = some (17, 1, .istore_n 3, 0, 0, []) from rfl) (fun c q => by cases q <;> decide) rfl ?_
        refine gh_goto (show gh_at (gm_me 19).1 18 = some (18, 3, .goto (-14), 0, 4, []) from rfl) ?_
        have t1 := Int.tmod_nonneg y (show 0 ≤ x by omega)
        have t2 := Int.tmod_lt_of_pos x (show 0 < y by omega)
        exact ih _ _ _ (by omega) (by omega) (by omega) (by omega) (by omega)
  refine gh_iload_n (show gh_at (gm_me 19).1 0 = some (0, 1, .iload_n 0, 0, 0, []) from rfl) rfl ?_
  refine gh_istore_n (show gh_at (gm_me 19).1 1 = some (1, 1, .istore_n 2, 0, 0, []) from rfl) (fun c q => by cases q <;> decide) rfl ?_
  refine gh_iload_n (show gh_at (gm_me 19).1 2 = some (2, 1, .iload_n 1, 0, 0, []) from rfl) rfl ?_
  refine gh_istore_n (show gh_at (gm_me 19).1 3 = some (3, 1, .istore_n 3, 0, 0, []) from rfl) (fun c q => by cases q <;> decide) rfl ?_
  exact loop _ _ _ _ hx.1 hx.2 hy.1 hy.2 (Nat.le_refl _)
theorem gk_div {wt : Nat → gb_T} {X : gp_S → Prop} : gt_KC gs_sh wt X (19, 1, [73786976347177814018, 73786976312818075650], [], 73786976347177814018, []) := by
  intro pas σ hW hX _ har
  match pas, har with
  | [.inl x, .inl y], har =>
    obtain ⟨-, a1, a2⟩ := gh_tv har.1
    obtain ⟨-, b1, b2⟩ := gh_tv har.2.1
    exact gz_div (by omega) (by omega) (fun r h1 h2 => ⟨hW, hX, fun c j _ => rfl, Or.inr (show gt_tv 73786976347177814018 (.inl r) from gh_mk (by decide) (by unfold gh_r; omega) (by omega) (by omega))⟩)
  | [.inr c, _], har => rcases har.1 with ⟨-, y, q, -⟩ | ⟨q, -⟩ | ⟨q, -⟩ <;> first | cases q | exact absurd q (by decide)
  | [.inl x, .inr c], har => rcases har.2.1 with ⟨-, y, q, -⟩ | ⟨q, -⟩ | ⟨q, -⟩ <;> first | cases q | exact absurd q (by decide)
