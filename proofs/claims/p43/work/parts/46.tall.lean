/-! every step of the typed machine -/
theorem gt_add_k {lx hx ly hy : Nat} {X Y : Int32} (a1 : lx ≤ ga_kk X) (a2 : ga_kk X ≤ hx) (b1 : ly ≤ ga_kk Y) (b2 : ga_kk Y ≤ hy) (h : ¬ gb_add lx hx ly hy = gb_any) : ga_kk (X + Y) + 4294967296 = ga_kk X + (ga_kk Y + 2147483648) := by
  unfold gb_add at h
  simp only [ga_if_eq, Bool.and_eq_true, Nat.ble_eq, Nat.blt_eq] at h
  split at h
  · rename_i h1
    have h2 := h1.1
    have h3 := h1.2
    rw [gb_kk_add (by omega) (by omega)]
    omega
  · exact absurd rfl h
theorem gt_sub_k {lx hx ly hy : Nat} {X Y : Int32} (a1 : lx ≤ ga_kk X) (a2 : ga_kk X ≤ hx) (b1 : ly ≤ ga_kk Y) (b2 : ga_kk Y ≤ hy) (h : ¬ gb_sub lx hx ly hy = gb_any) : ga_kk (X - Y) + 4294967296 = ga_kk X + (6442450944 - ga_kk Y) := by
  have hY := ga_kk_le Y
  unfold gb_sub at h
  simp only [ga_if_eq, Bool.and_eq_true, Nat.ble_eq, Nat.blt_eq] at h
  split at h
  · rename_i h1
    have h2 := h1.1
    have h3 := h1.2
    rw [gb_kk_sub (by omega) (by omega)]
    omega
  · exact absurd rfl h
theorem gt_add_7 (lx hx ly hy : Nat) : ¬ gb_add lx hx ly hy % 8 = 7 := by
  unfold gb_add
  rw [ga_if_eq]
  split
  · exact ga_int7 gb_mk_int
  · decide
theorem gt_sub_7 (lx hx ly hy : Nat) : ¬ gb_sub lx hx ly hy % 8 = 7 := by
  unfold gb_sub
  rw [ga_if_eq]
  split
  · exact ga_int7 gb_mk_int
  · decide
theorem gt_byt_ok {ρ : List Int32} {cs : gb_C} {v : Nat} {y : Int32} (hi : gb_in ρ cs) (hv : gb_vr ρ gt_o [] v (.int y)) (h7 : ¬ gb_byt cs v % 8 = 7) : gb_vr ρ gt_o [] (gb_byt cs v) (.int y.toInt8.toInt32) := by
  unfold gb_byt at h7 ⊢
  simp only [ga_if_eq, Bool.and_eq_true, Nat.ble_eq] at h7 ⊢
  obtain ⟨a1, a2⟩ := gb_lohi hi hv
  have hk := gb_kki y
  have e8 : y.toInt8.toInt32.toInt = y.toInt.bmod 256 := by
    rw [Int8.toInt_toInt32, Int32.toInt_toInt8]
  split
  · rename_i h1
    have : y.toInt8.toInt32 = y := by
      apply Int32.toInt_inj.mp
      rw [e8]
      simp only [Int.bmod]
      split <;> omega
    rw [this]
    exact hv
  · split
    · have hk2 := gb_kki y.toInt8.toInt32
      have : -128 ≤ y.toInt8.toInt32.toInt ∧ y.toInt8.toInt32.toInt ≤ 127 := by
        rw [e8]
        simp only [Int.bmod]
        split <;> omega
      exact gb_tv_ok (by omega) (by omega) (by decide)
    · rename_i h1 h2
      rw [if_neg h1, if_neg h2] at h7
      exact absurd rfl h7
theorem gt_chr_ok {ρ : List Int32} {cs : gb_C} {v : Nat} {y : Int32} (hi : gb_in ρ cs) (hv : gb_vr ρ gt_o [] v (.int y)) (h7 : ¬ gb_chr cs v % 8 = 7) : gb_vr ρ gt_o [] (gb_chr cs v) (.int (y.toUInt32 % 65536).toInt32) := by
  unfold gb_chr at h7 ⊢
  simp only [ga_if_eq, Bool.and_eq_true, Nat.ble_eq] at h7 ⊢
  obtain ⟨a1, a2⟩ := gb_lohi hi hv
  have hk := gb_kki y
  have e8 : (y.toUInt32 % 65536).toInt32.toInt = y.toInt % 65536 := by
    have h1 : (y.toUInt32 % 65536).toNat = y.toUInt32.toNat % 65536 := UInt32.toNat_mod _ _
    have h2 : (y.toUInt32.toNat : Int) = y.toInt % 4294967296 := by
      have : y.toUInt32.toNat = y.toBitVec.toNat := rfl
      rw [this]
      have := BitVec.toInt_eq_toNat_bmod y.toBitVec
      have e : y.toInt = y.toBitVec.toInt := rfl
      rw [e, this]
      have hlt := y.toBitVec.isLt
      simp only [Int.bmod]
      split <;> omega
    have h3 : (y.toUInt32 % 65536).toInt32.toInt = ((y.toUInt32 % 65536).toNat : Int).bmod 4294967296 := by
      have : (y.toUInt32 % 65536).toInt32.toInt = (y.toUInt32 % 65536).toBitVec.toInt := rfl
      rw [this, BitVec.toInt_eq_toNat_bmod]
      rfl
    rw [h3, h1]
    simp only [Int.bmod]
    split <;> omega
  split
  · rename_i h1
    have : (y.toUInt32 % 65536).toInt32 = y := by
      apply Int32.toInt_inj.mp
      rw [e8]
      omega
    rw [this]
    exact hv
  · split
    · have hk2 := gb_kki (y.toUInt32 % 65536).toInt32
      exact gb_tv_ok (by omega) (by omega) (by decide)
    · rename_i h1 h2
      rw [if_neg h1, if_neg h2] at h7
      exact absurd rfl h7
theorem gt_byt_int {cs : gb_C} {v : Nat} (h7 : ¬ gb_byt cs v % 8 = 7) : ga_int v = true := by
  cases q : ga_int v with
  | true => rfl
  | false =>
    exfalso
    apply h7
    unfold gb_byt
    simp only [ga_if_eq, q, Bool.false_and, Bool.false_eq_true, if_false]
theorem gt_chr_int {cs : gb_C} {v : Nat} (h7 : ¬ gb_chr cs v % 8 = 7) : ga_int v = true := by
  cases q : ga_int v with
  | true => rfl
  | false =>
    exfalso
    apply h7
    unfold gb_chr
    simp only [ga_if_eq, q, Bool.false_and, Bool.false_eq_true, if_false]
theorem gt_bit_int {cs : gb_C} {v : Nat} (h7 : ¬ gb_bit cs v % 8 = 7) : ga_int v = true := by
  cases q : ga_int v with
  | true => rfl
  | false =>
    exfalso
    apply h7
    unfold gb_bit
    simp only [ga_if_eq, q, Bool.false_and, Bool.false_eq_true, if_false]
theorem gt_bit_eq {cs : gb_C} {v : Nat} (h7 : ¬ gb_bit cs v % 8 = 7) : gb_bit cs v = v ∧ 2147483648 ≤ gb_lo cs v ∧ gb_hi cs v ≤ 2147483649 := by
  unfold gb_bit at h7 ⊢
  simp only [ga_if_eq, Bool.and_eq_true, Nat.ble_eq] at h7 ⊢
  by_cases hb : ga_int v = true ∧ 2147483648 ≤ gb_lo cs v ∧ gb_hi cs v ≤ 2147483649
  · exact ⟨if_pos hb, hb.2⟩
  · rw [if_neg hb] at h7
    exact absurd rfl h7
section HE
variable {sh : Nat → gp_T} {wt : Nat → gb_T} {ml xl : List (Nat × Nat)} {X : gp_S → Prop} {σ0 : gp_S} {ρ0 : List Int32} {d rc : Nat} {code : List ga_E} {Φ : gp_F}
variable {go : gt_G} {opn : List gb_L} {nx : List ga_E} {al sk : List Nat} {cs : gb_C} {ov : gb_V} {ret : gt_R} {ev : ga_E} {own : String} {cc : ByteArray} {ini : Bool} {nL : Nat}
theorem gt_lit {ρ : List Int32} {a : Nat} (h : ga_lb a = true) : gt_vr ρ a (.inl (gp_li a)) := ⟨nI (a / 8), (gp_li_b h).symm, (gb_vr_0 (ga_lb_ok h).1).mpr ⟨(ga_lb_ok h).2, rfl⟩⟩
set_option maxHeartbeats 4000000 in
set_option maxRecDepth 100000 in
theorem gt_step_ok (Hs : gt_H sh wt) (HX : ∀ σ σ', (∀ c j, gb_mo xl c j = true → σ' c j = σ c j) → X σ → X σ') {call : Nat → List Nat → gb_C → gb_V → gt_R → Bool} (HC : gt_CS sh wt ml X σ0 d call) (hcd : gt_cd code)
    (HR : ∀ zs v cs ov x σ, gb_in (ρ0 ++ zs) cs → gt_W wt σ → X σ → gt_or sh (ρ0 ++ zs) ov σ → gt_fr ml σ0 σ → (rc = 0 ∨ gt_vr (ρ0 ++ zs) v x) → ret v cs ov = true → Φ x σ)
    (S : gt_S sh wt ml X σ0 ρ0 d rc code Φ go) (oe : ga_oe own cc ini nL ev = true) (hj : ga_jmp code ev.1 = ev :: nx) (h : gt_step gm_me wt ml xl call rc ret code go opn ev nx al sk cs ov = true) : gt_Go sh wt ml X σ0 ρ0 d rc code Φ opn ev.1 al sk cs ov := by
  intro zs pal psk σ hat hop
  have hnx := (hcd _ _ _ hj).2
  refine gp_ok_step hj ?_
  have hjmp := gt_cd_jmp hcd
  obtain ⟨hi, hW, hX, ho, hfr, hl, hs⟩ := id hat
  obtain ⟨pc, ln, i, a, b, ps⟩ := ev
  unfold ga_oe at oe
  simp only [Bool.and_eq_true] at oe
  obtain ⟨-, hwb⟩ := oe
  have hnx : ∀ e2 nx2, nx = e2 :: nx2 → e2.1 = pc + ln ∧ ga_jmp code e2.1 = e2 :: nx2 := hnx
  cases i with
  | aload_n k => exact gt_load_ok (fun v q => ga_adr7 q) (fun ρ v x q w => by rw [gt_adr q w]; exact q) S hnx h hop hat
  | iload_n k => exact gt_load_ok (fun v q => ga_int7 q) (fun ρ v x q w => by obtain ⟨y, rfl, -⟩ := gt_int q w; rfl) S hnx h hop hat
  | iload k => exact gt_load_ok (fun v q => ga_int7 q) (fun ρ v x q w => by obtain ⟨y, rfl, -⟩ := gt_int q w; rfl) S hnx h hop hat
  | lload_n k => exact gt_load_ok (fun v q => ga_lng7 q) (fun ρ v x q w => by obtain ⟨⟨c, rfl, hc⟩, -⟩ := gt_lng (by simpa [ga_lng, ga_beq] using q) w; exact gp_lng_of hc) S hnx h hop hat
  | getfield idx =>
    refine gt_get_ok Hs S hnx ?_ h hop hat
    have hw : (match gm_cl[a]? with
      | some q => Nat.blt b q.2.2 && ga_w1 ps (fun w => if w.1 = 0 then gw_ok w.2 (.fieldLink own idx (q.2.1 b).1 (q.2.1 b).2.1 (q.2.1 b).2.2.1) else gw_nk w.2 (.fieldLinkNest own idx (q.2.1 b).1 (q.2.1 b).2.1 (q.2.1 b).2.2.1 "GravyRound"))
      | none => false) = true := hwb
    cases hq : gm_cl[a]? with
    | none => rw [hq] at hw; cases hw
    | some q => exact (gn_all a q hq).2.2.2.2.2.1
  | putfield idx =>
    have hw : (match gm_cl[a]? with
      | some q => Nat.blt b q.2.2 && ga_w1 ps (fun w => gw_ok w.2 (.fieldLink own idx (q.2.1 b).1 (q.2.1 b).2.1 (q.2.1 b).2.2.1) && ga_tc w.1 (q.2.1 b).2.2.1) && (!(q.2.1 b).2.2.2 || (ini && decide ((q.2.1 b).1 = own)))
      | none => false) = true := hwb
    have ha : a < 100 := by
      cases hq : gm_cl[a]? with
      | none => rw [hq] at hw; cases hw
      | some q => exact (gn_all a q hq).2.2.2.2.2.1
    cases ps with
    | nil =>
      have h2 : gt_ptf wt ml xl a b [] sk cs ov (fun sk cs ov => go opn nx al sk cs ov) = true := h
      unfold gt_ptf at h2
      split at h2
      · rename_i heq; cases heq
      · cases h2
    | cons q ps => exact gt_ptf_ok Hs HX S hnx ha h hop hat
  | bipush k =>
    have hw : (ga_lb a && decide ((Int8.ofInt k).toInt32 = nI (a / 8))) = true := hwb
    rw [Bool.and_eq_true] at hw
    exact gt_k0 S hnx (show go opn nx al (a :: sk) cs ov = true from h) hop ⟨hi, hW, hX, ho, hfr, hl, gt_lit hw.1, hs⟩
  | iconst k =>
    have hw : (ga_lb a && decide (Int32.ofInt k = nI (a / 8))) = true := hwb
    rw [Bool.and_eq_true] at hw
    exact gt_k0 S hnx (show go opn nx al (a :: sk) cs ov = true from h) hop ⟨hi, hW, hX, ho, hfr, hl, gt_lit hw.1, hs⟩
  | sipush k =>
    have hw : (ga_lb a && decide ((Int16.ofInt k).toInt32 = nI (a / 8))) = true := hwb
    rw [Bool.and_eq_true] at hw
    exact gt_k0 S hnx (show go opn nx al (a :: sk) cs ov = true from h) hop ⟨hi, hW, hX, ho, hfr, hl, gt_lit hw.1, hs⟩
  | lconst k =>
    have hw : (Nat.beq (a % 8) 5 && Nat.blt (a / 8) 18446744073709551616 && decide (Int64.ofNat k.val = lN (a / 8))) = true := hwb
    simp only [Bool.and_eq_true, ga_beq] at hw
    exact gt_k0 S hnx (show go opn nx al (5 :: sk) cs ov = true from h) hop ⟨hi, hW, hX, ho, hfr, hl, gt_l5 hw.1.1, hs⟩
  | ldc2_w k =>
    have hw : (Nat.beq (a % 8) 5 && Nat.blt (a / 8) 18446744073709551616 && ga_w1 ps (fun q => gw_ok q.2 (.constantLong own k (lN (a / 8))))) = true := hwb
    simp only [Bool.and_eq_true, ga_beq] at hw
    exact gt_k0 S hnx (show go opn nx al (5 :: sk) cs ov = true from h) hop ⟨hi, hW, hX, ho, hfr, hl, gt_l5 hw.1.1, hs⟩
  | ldc_w k =>
    have hw : (ga_lb a && ga_w1 ps (fun q => gw_ok q.2 (.constant own k (nI (a / 8))))) = true := hwb
    rw [Bool.and_eq_true] at hw
    exact gt_k0 S hnx (show go opn nx al (a :: sk) cs ov = true from h) hop ⟨hi, hW, hX, ho, hfr, hl, gt_lit hw.1, hs⟩
  | ldc k =>
    have hw : (if a % 8 = 0 then ga_lb a && ga_w1 ps (fun q => gw_ok q.2 (.constant own k (nI (a / 8)))) else if a = 14 then decide (own = "GravyRound$Tokens") && Nat.beq k 20 else if a = 30 then decide (own = "GravyRound$Tokens") && Nat.beq k 75 else true) = true := hwb
    obtain ⟨h1, h2⟩ := gt_if (show ga_if (or (Nat.beq (a % 8) 0) (Nat.beq a 30)) (go opn nx al (a :: sk) cs ov) false = true from h)
    rw [Bool.or_eq_true, ga_beq, ga_beq] at h1
    by_cases h0 : a % 8 = 0
    · rw [if_pos h0, Bool.and_eq_true] at hw
      exact Or.inl ⟨h0, gt_k0 S hnx h2 hop ⟨hi, hW, hX, ho, hfr, hl, gt_lit hw.1, hs⟩⟩
    · have ha : a = 30 := by rcases h1 with q | q; exact absurd q h0; exact q
      subst ha
      exact Or.inr ⟨rfl, gt_k0 S hnx h2 hop ⟨hi, hW, hX, ho, hfr, hl, Or.inl ⟨rfl, Or.inr rfl⟩, hs⟩⟩
  | goto off => exact gt_k0 S (hjmp b) (show go opn (ga_jmp code b) al sk cs ov = true from h) hop hat
  | ireturn =>
    have h2 : (match (generalizing := false) sk with | [v] => ga_if (and (ga_int v) (or (Nat.beq rc 1) (and (Nat.beq rc 2) (and (Nat.ble 2147483648 (gb_lo cs v)) (Nat.ble (gb_hi cs v) 2147483649))))) (ret v cs ov) false | _ => false) = true := h
    split at h2
    · obtain ⟨h3, h4⟩ := gt_if h2
      simp only [Bool.and_eq_true, Bool.or_eq_true, ga_beq, Nat.ble_eq] at h3
      obtain ⟨vx, t, rfl, g1, hs1⟩ := gt_sr_cons hs
      obtain rfl := gt_sr_nil hs1
      obtain ⟨y, rfl, hy⟩ := gt_int h3.1 g1
      have hΦ := HR zs _ cs ov _ σ hi hW hX ho hfr (Or.inr g1) h4
      rcases h3.2 with q | ⟨q, q1, q2⟩
      · exact Or.inl ⟨q, hΦ⟩
      · obtain ⟨c1, c2⟩ := gb_lohi hi hy
        have := gb_kki y
        exact Or.inr ⟨q, by omega, hΦ⟩
    · cases h2
  | return_ =>
    have h2 : (match (generalizing := false) sk with | [] => ga_if (Nat.beq rc 0) (ret 7 cs ov) false | _ => false) = true := h
    split at h2
    · obtain ⟨h3, h4⟩ := gt_if h2
      rw [ga_beq] at h3
      obtain rfl := gt_sr_nil hs
      exact ⟨h3, rfl, HR zs _ cs ov _ σ hi hW hX ho hfr (Or.inl h3) h4⟩
    · cases h2
  | areturn =>
    have h2 : (match (generalizing := false) sk with | [v] => ga_if (and (ga_ref v) (Nat.beq rc 5)) (ret v cs ov) false | _ => false) = true := h
    split at h2
    · obtain ⟨h3, h4⟩ := gt_if h2
      rw [Bool.and_eq_true, ga_beq] at h3
      obtain ⟨vx, t, rfl, g1, hs1⟩ := gt_sr_cons hs
      obtain rfl := gt_sr_nil hs1
      obtain ⟨rfl, q3⟩ := gt_ref h3.1 g1
      exact ⟨h3.2, q3, HR zs _ cs ov _ σ hi hW hX ho hfr (Or.inr g1) h4⟩
    · cases h2
  | lreturn =>
    have h2 : (match (generalizing := false) sk with | [v] => ga_if (and (ga_lng v) (Nat.beq rc 4)) (ret v cs ov) false | _ => false) = true := h
    split at h2
    · obtain ⟨h3, h4⟩ := gt_if h2
      rw [Bool.and_eq_true, ga_beq] at h3
      obtain ⟨vx, t, rfl, g1, hs1⟩ := gt_sr_cons hs
      obtain rfl := gt_sr_nil hs1
      obtain ⟨⟨c, rfl, hc⟩, rfl⟩ := gt_lng (by simpa [ga_lng, ga_beq] using h3.1) g1
      exact ⟨h3.2, hc, HR zs _ cs ov _ σ hi hW hX ho hfr (Or.inr g1) h4⟩
    · cases h2
  | if_icmp cnd off =>
    have h2 : (match (generalizing := false) sk with | y :: x :: r => ga_if (ga_i2 x y) (gt_cnd cnd cs x y (fun cs => go opn (ga_jmp code b) al r cs ov) (fun cs => go opn nx al r cs ov)) false | _ => false) = true := h
    split at h2
    · obtain ⟨h3, h4⟩ := gt_if h2
      obtain ⟨ix, iy⟩ := ga_i2_ok h3
      obtain ⟨vy, t1, rfl, g1, hs1⟩ := gt_sr_cons hs
      obtain ⟨vx, t2, rfl, g2, hs2⟩ := gt_sr_cons hs1
      obtain ⟨X1, rfl, a1⟩ := gt_int ix g2
      obtain ⟨Y1, rfl, b1⟩ := gt_int iy g1
      obtain ⟨cs', hi', hw⟩ := gt_cnd_ok hi a1 b1 h4
      rcases hw with ⟨q, h5⟩ | ⟨q, h5⟩
      · exact ⟨fun _ => gt_k0 S (hjmp b) h5 hop ⟨hi', hW, hX, ho, hfr, hl, hs2⟩, fun w => absurd q w⟩
      · exact ⟨fun w => absurd w q, fun _ => gt_k0 S hnx h5 hop ⟨hi', hW, hX, ho, hfr, hl, hs2⟩⟩
    · cases h2
  | ifCond cnd off =>
    have h2 : (match (generalizing := false) sk with | x :: r => ga_if (ga_int x) (gt_cnd cnd cs x 0 (fun cs => go opn (ga_jmp code b) al r cs ov) (fun cs => go opn nx al r cs ov)) false | _ => false) = true := h
    split at h2
    · obtain ⟨h3, h4⟩ := gt_if h2
      obtain ⟨vx, t2, rfl, g2, hs2⟩ := gt_sr_cons hs
      obtain ⟨X1, rfl, a1⟩ := gt_int h3 g2
      have b1 : gb_vr (ρ0 ++ zs) gt_o [] 0 (.int 0) := (gb_vr_0 (by decide)).mpr ⟨by decide, by decide⟩
      obtain ⟨cs', hi', hw⟩ := gt_cnd_ok hi a1 b1 h4
      rcases hw with ⟨q, h5⟩ | ⟨q, h5⟩
      · exact ⟨fun _ => gt_k0 S (hjmp b) h5 hop ⟨hi', hW, hX, ho, hfr, hl, hs2⟩, fun w => absurd q w⟩
      · exact ⟨fun w => absurd w q, fun _ => gt_k0 S hnx h5 hop ⟨hi', hW, hX, ho, hfr, hl, hs2⟩⟩
    · cases h2
  | tableswitch dflt lo hi' offs =>
    have hw : (decide (-2147483648 ≤ lo) && decide (hi' < 2147483648) && decide (hi' = lo + (ps.length : Int) - 1) && decide ((pc : Int) + dflt = (b : Int)) && Nat.blt ps.length 1000 && (List.range ps.length).all (fun j => match ps[j]?, offs[j]? with | some q, some o => Nat.beq (q.1 % 8) 0 && Nat.blt (q.1 / 8) 4294967296 && decide ((nI (q.1 / 8)).toInt = lo + (j : Int)) && decide ((pc : Int) + o = (q.2 : Int)) | _, _ => false)) = true := hwb
    simp only [Bool.and_eq_true, decide_eq_true_eq, Nat.blt_eq, List.all_eq_true, List.mem_range] at hw
    obtain ⟨-, hall⟩ := hw
    have key : ∀ q ∈ ps, q.1 % 8 = 0 ∧ q.1 / 8 < 4294967296 := by
      intro q hq
      obtain ⟨j, hj⟩ := List.getElem?_of_mem hq
      have := hall j (gp_get_lt hj)
      rw [hj] at this
      cases ho3 : offs[j]? with
      | none => rw [ho3] at this; cases this
      | some o =>
        rw [ho3] at this
        simp only [Bool.and_eq_true, ga_beq, decide_eq_true_eq, Nat.blt_eq] at this
        exact ⟨this.1.1.1, this.1.1.2⟩
    have h2 : (match (generalizing := false) sk with | v :: r => ga_if (ga_int v) (gt_sw ps v cs (fun cs => go opn (ga_jmp code b) al r cs ov) (fun t cs => go opn (ga_jmp code t) al r cs ov)) false | _ => false) = true := h
    split at h2
    · obtain ⟨h3, h4⟩ := gt_if h2
      obtain ⟨vx, t2, rfl, g2, hs2⟩ := gt_sr_cons hs
      obtain ⟨X1, rfl, a1⟩ := gt_int h3 g2
      rcases gt_sw_ok a1 key hi h4 with ⟨q, hq, e, cs', hi', h5⟩ | ⟨hn, cs', hi', h5⟩
      · exact Or.inl ⟨q, hq, by rw [gp_li_i (key q hq).2, e], gt_k0 S (hjmp q.2) h5 hop ⟨hi', hW, hX, ho, hfr, hl, hs2⟩⟩
      · exact Or.inr ⟨fun q2 hq2 e2 => hn q2 hq2 (Int32.toInt_inj.mp (by rw [← gp_li_i (key q2 hq2).2]; exact e2)), gt_k0 S (hjmp b) h5 hop ⟨hi', hW, hX, ho, hfr, hl, hs2⟩⟩
    · cases h2
  | lookupswitch dflt prs =>
    have hw : ((prs.toList.zip (prs.toList.drop 1)).all (fun (a, next) => a.1 < next.1) && decide ((pc : Int) + dflt = (b : Int)) && decide (prs.toList = ps.map (fun q => (((q.1 / 8 : Nat) : Int), (q.2 : Int) - (pc : Int)))) && ps.all (fun q => Nat.beq (q.1 % 8) 0 && Nat.blt (q.1 / 8) 2147483648)) = true := hwb
    simp only [Bool.and_eq_true] at hw
    have key : ∀ q ∈ ps, q.1 % 8 = 0 ∧ q.1 / 8 < 4294967296 := by
      intro q hq
      have := List.all_eq_true.mp hw.2 q hq
      simp only [Bool.and_eq_true, ga_beq, Nat.blt_eq] at this
      exact ⟨this.1, by omega⟩
    have h2 : (match (generalizing := false) sk with | v :: r => ga_if (ga_int v) (gt_sw ps v cs (fun cs => go opn (ga_jmp code b) al r cs ov) (fun t cs => go opn (ga_jmp code t) al r cs ov)) false | _ => false) = true := h
    split at h2
    · obtain ⟨h3, h4⟩ := gt_if h2
      obtain ⟨vx, t2, rfl, g2, hs2⟩ := gt_sr_cons hs
      obtain ⟨X1, rfl, a1⟩ := gt_int h3 g2
      rcases gt_sw_ok a1 key hi h4 with ⟨q, hq, e, cs', hi', h5⟩ | ⟨hn, cs', hi', h5⟩
      · exact Or.inl ⟨q, hq, by rw [gp_li_i (key q hq).2, e], gt_k0 S (hjmp q.2) h5 hop ⟨hi', hW, hX, ho, hfr, hl, hs2⟩⟩
      · exact Or.inr ⟨fun q2 hq2 e2 => hn q2 hq2 (Int32.toInt_inj.mp (by rw [← gp_li_i (key q2 hq2).2]; exact e2)), gt_k0 S (hjmp b) h5 hop ⟨hi', hW, hX, ho, hfr, hl, hs2⟩⟩
    · cases h2
  | iadd => exact gt_opS_ok (sg := true) gb_add_ok gt_add_7 (fun a b c d q => by rw [if_pos rfl]; exact gt_add_k a b c d q) S hnx h hop hat
  | isub => exact gt_opS_ok (sg := false) gb_sub_ok gt_sub_7 (fun a b c d q => by rw [if_neg (by decide)]; exact gt_sub_k a b c d q) S hnx h hop hat
  | imul => exact gt_op2_ok gb_mul_ok S hnx h hop hat
  | idiv => exact gt_dv_ok gb_div_ok gb_div_nz S hnx h hop hat
  | irem => exact gt_dv_ok gb_rem_ok gb_rem_nz S hnx h hop hat
  | iand => exact gt_op2_ok gb_and_ok S hnx h hop hat
  | ior => exact gt_op2_ok gb_or_ok S hnx h hop hat
  | ixor => exact gt_op2_ok gb_xor_ok S hnx h hop hat
  | ishl => exact gt_op2_ok gb_shl_ok S hnx h hop hat
  | ishr => exact gt_op2_ok gb_shr_ok S hnx h hop hat
  | iushr => exact gt_op2_ok (gb_a2_ok _) S hnx h hop hat
  | ineg =>
    have h2 : (match (generalizing := false) sk with | x :: r => ga_if (ga_int x) (ga_f (gb_neg (gb_lo cs x) (gb_hi cs x)) (fun v => go opn nx al (v :: r) cs ov)) false | _ => false) = true := h
    split at h2
    · obtain ⟨h3, h4⟩ := gt_if h2
      rw [ga_f_eq] at h4
      obtain ⟨vx, t2, rfl, g2, hs2⟩ := gt_sr_cons hs
      obtain ⟨X1, rfl, a1⟩ := gt_int h3 g2
      obtain ⟨c1, c2⟩ := gb_lohi hi a1
      show gp_ok sh (gp_call sh d) rc code Φ (pc + ln) pal (.inl (gp_b1 (fun x => -x) X1.toInt) :: t2) σ
      rw [gp_b1_i]
      exact gt_k0 S hnx h4 hop ⟨hi, hW, hX, ho, hfr, hl, gt_of (gb_neg_ok c1 c2 _ _ _), hs2⟩
    · cases h2
  | i2b =>
    have h2 : gt_bst (gb_byt cs) (fun sk => go opn nx al sk cs ov) sk = true := h
    unfold gt_bst at h2
    split at h2
    · obtain ⟨h7, h4⟩ := gt_p_ok h2
      obtain ⟨vx, t2, rfl, g2, hs2⟩ := gt_sr_cons hs
      have h3 := gt_byt_int h7
      obtain ⟨X1, rfl, a1⟩ := gt_int h3 g2
      show gp_ok sh (gp_call sh d) rc code Φ (pc + ln) pal (.inl (gp_b1 (fun x => x.toInt8.toInt32) X1.toInt) :: t2) σ
      rw [gp_b1_i]
      exact gt_k0 S hnx h4 hop ⟨hi, hW, hX, ho, hfr, hl, gt_of (gt_byt_ok hi a1 h7), hs2⟩
    · cases h2
  | i2c =>
    have h2 : gt_bst (gb_chr cs) (fun sk => go opn nx al sk cs ov) sk = true := h
    unfold gt_bst at h2
    split at h2
    · obtain ⟨h7, h4⟩ := gt_p_ok h2
      obtain ⟨vx, t2, rfl, g2, hs2⟩ := gt_sr_cons hs
      have h3 := gt_chr_int h7
      obtain ⟨X1, rfl, a1⟩ := gt_int h3 g2
      show gp_ok sh (gp_call sh d) rc code Φ (pc + ln) pal (.inl (gp_b1 (fun x => (x.toUInt32 % 65536).toInt32) X1.toInt) :: t2) σ
      rw [gp_b1_i]
      exact gt_k0 S hnx h4 hop ⟨hi, hW, hX, ho, hfr, hl, gt_of (gt_chr_ok hi a1 h7), hs2⟩
    · cases h2
  | i2l =>
    have h2 : (match (generalizing := false) sk with | x :: r => ga_if (ga_int x) (go opn nx al (5 :: r) cs ov) false | _ => false) = true := h
    split at h2
    · obtain ⟨h3, h4⟩ := gt_if h2
      obtain ⟨vx, t2, rfl, g2, hs2⟩ := gt_sr_cons hs
      obtain ⟨X1, rfl, a1⟩ := gt_int h3 g2
      exact fun L _ => gt_k0 S hnx h4 hop ⟨hi, hW, hX, ho, hfr, hl, gt_l5 (by omega), hs2⟩
    · cases h2
  | ladd =>
    have h2 : (match (generalizing := false) sk with | y :: x :: r => ga_if (and (Nat.beq x 5) (Nat.beq y 5)) (go opn nx al (5 :: r) cs ov) false | _ => false) = true := h
    split at h2
    · obtain ⟨h3, h4⟩ := gt_if h2
      rw [Bool.and_eq_true, ga_beq, ga_beq] at h3
      obtain ⟨vy, t1, rfl, g1, hs1⟩ := gt_sr_cons hs
      obtain ⟨vx, t2, rfl, g2, hs2⟩ := gt_sr_cons hs1
      obtain ⟨⟨cx, rfl, hcx⟩, -⟩ := gt_lng (by rw [h3.1]) g2
      obtain ⟨⟨cy, rfl, hcy⟩, -⟩ := gt_lng (by rw [h3.2]) g1
      exact ⟨gp_lng_of hcy, gp_lng_of hcx, fun L _ => gt_k0 S hnx h4 hop ⟨hi, hW, hX, ho, hfr, hl, gt_l5 (by omega), hs2⟩⟩
    · cases h2
  | lmul =>
    have h2 : (match (generalizing := false) sk with | y :: x :: r => ga_if (and (Nat.beq x 5) (Nat.beq y 5)) (go opn nx al (5 :: r) cs ov) false | _ => false) = true := h
    split at h2
    · obtain ⟨h3, h4⟩ := gt_if h2
      rw [Bool.and_eq_true, ga_beq, ga_beq] at h3
      obtain ⟨vy, t1, rfl, g1, hs1⟩ := gt_sr_cons hs
      obtain ⟨vx, t2, rfl, g2, hs2⟩ := gt_sr_cons hs1
      obtain ⟨⟨cx, rfl, hcx⟩, -⟩ := gt_lng (by rw [h3.1]) g2
      obtain ⟨⟨cy, rfl, hcy⟩, -⟩ := gt_lng (by rw [h3.2]) g1
      exact ⟨gp_lng_of hcy, gp_lng_of hcx, fun L _ => gt_k0 S hnx h4 hop ⟨hi, hW, hX, ho, hfr, hl, gt_l5 (by omega), hs2⟩⟩
    · cases h2
  | lor =>
    have h2 : (match (generalizing := false) sk with | y :: x :: r => ga_if (and (Nat.beq x 5) (Nat.beq y 5)) (go opn nx al (5 :: r) cs ov) false | _ => false) = true := h
    split at h2
    · obtain ⟨h3, h4⟩ := gt_if h2
      rw [Bool.and_eq_true, ga_beq, ga_beq] at h3
      obtain ⟨vy, t1, rfl, g1, hs1⟩ := gt_sr_cons hs
      obtain ⟨vx, t2, rfl, g2, hs2⟩ := gt_sr_cons hs1
      obtain ⟨⟨cx, rfl, hcx⟩, -⟩ := gt_lng (by rw [h3.1]) g2
      obtain ⟨⟨cy, rfl, hcy⟩, -⟩ := gt_lng (by rw [h3.2]) g1
      exact ⟨gp_lng_of hcy, gp_lng_of hcx, fun L _ => gt_k0 S hnx h4 hop ⟨hi, hW, hX, ho, hfr, hl, gt_l5 (by omega), hs2⟩⟩
    · cases h2
  | lshl =>
    have h2 : (match (generalizing := false) sk with | y :: x :: r => ga_if (and (Nat.beq x 5) (ga_int y)) (go opn nx al (5 :: r) cs ov) false | _ => false) = true := h
    split at h2
    · obtain ⟨h3, h4⟩ := gt_if h2
      rw [Bool.and_eq_true, ga_beq] at h3
      obtain ⟨vy, t1, rfl, g1, hs1⟩ := gt_sr_cons hs
      obtain ⟨vx, t2, rfl, g2, hs2⟩ := gt_sr_cons hs1
      obtain ⟨Y1, rfl, b1⟩ := gt_int h3.2 g1
      obtain ⟨⟨cx, rfl, hcx⟩, -⟩ := gt_lng (by rw [h3.1]) g2
      exact ⟨gp_lng_of hcx, fun L _ => gt_k0 S hnx h4 hop ⟨hi, hW, hX, ho, hfr, hl, gt_l5 (by omega), hs2⟩⟩
    · cases h2
  | lcmp =>
    have h2 : (match (generalizing := false) sk with | y :: x :: r => ga_if (and (Nat.beq x 5) (Nat.beq y 5)) (ga_f (gb_tv 2147483647 2147483649) (fun v => go opn nx al (v :: r) cs ov)) false | _ => false) = true := h
    split at h2
    · obtain ⟨h3, h4⟩ := gt_if h2
      rw [Bool.and_eq_true, ga_beq, ga_beq] at h3
      rw [ga_f_eq] at h4
      obtain ⟨vy, t1, rfl, g1, hs1⟩ := gt_sr_cons hs
      obtain ⟨vx, t2, rfl, g2, hs2⟩ := gt_sr_cons hs1
      obtain ⟨⟨cx, rfl, hcx⟩, -⟩ := gt_lng (by rw [h3.1]) g2
      obtain ⟨⟨cy, rfl, hcy⟩, -⟩ := gt_lng (by rw [h3.2]) g1
      refine ⟨gp_lng_of hcy, gp_lng_of hcx, fun zz q1 q2 _ => ?_⟩
      have e : (Int32.ofInt zz).toInt = zz := Int32.toInt_ofInt_of_le (by omega) (by omega)
      have hk := gb_kki (Int32.ofInt zz)
      exact gt_k0 S hnx h4 hop ⟨hi, hW, hX, ho, hfr, hl, ⟨Int32.ofInt zz, e, gb_tv_ok (by omega) (by omega) (by decide)⟩, hs2⟩
    · cases h2
  | iinc k nn =>
    have hw : (ga_lb a && decide (Int32.ofInt nn = nI (a / 8)) && Nat.blt k nL) = true := hwb
    simp only [Bool.and_eq_true] at hw
    have h2 : ga_f (gb_sm cs (ga_nth 7 al k)) (fun v => ga_if (and (ga_int v) (ga_ahead al k)) (gt_sum true gb_add cs v a (fun v cs => gb_nam v cs (fun v cs => ga_set al k v (fun al => go opn nx al sk cs ov)))) false) = true := h
    rw [ga_f_eq] at h2
    obtain ⟨h3, h4⟩ := gt_if h2
    rw [Bool.and_eq_true] at h3
    have h7 : ¬ ga_nth 7 al k % 8 = 7 := by
      intro q
      have h1 : gb_sm cs (ga_nth 7 al k) = ga_nth 7 al k := by
        unfold gb_sm
        rw [ga_if_eq, if_neg (by rw [ga_beq]; omega)]
      have h2 := ga_int7 h3.1
      rw [h1] at h2
      exact h2 q
    obtain ⟨x, g1, g2⟩ := hl.2.1 k _ (ga_nth_some rfl h7) h7
    have hint : ga_int (ga_nth 7 al k) = true := by
      unfold ga_int
      rw [Nat.ble_eq]
      by_cases q : ga_nth 7 al k % 8 ≤ 2
      · exact q
      · have h1 : gb_sm cs (ga_nth 7 al k) = ga_nth 7 al k := by
          unfold gb_sm
          rw [ga_if_eq, if_neg (by rw [ga_beq]; omega)]
        have h2 := h3.1
        rw [h1] at h2
        unfold ga_int at h2
        rw [Nat.ble_eq] at h2
        exact absurd h2 q
    obtain ⟨X1, rfl, a1⟩ := gt_int hint g2
    have k1 := gb_sm_ok hi a1
    have hlb := ga_lb_ok hw.1.1
    have k2 : gb_vr (ρ0 ++ zs) gt_o [] a (.int (nI (a / 8))) := (gb_vr_0 hlb.1).mpr ⟨hlb.2, rfl⟩
    obtain ⟨c1, c2⟩ := gb_lohi hi k1
    obtain ⟨c3, c4⟩ := gb_lohi hi k2
    obtain ⟨ys, v', cs', e1, e2, e3⟩ := gt_sum_ok (sg := true) (f := gb_add) (Z := X1 + nI (a / 8)) hi k1 k2 (gb_add_ok _ _ _ _ X1 (nI (a / 8)) c1 c2 c3 c4 (gb_hi_lt hi k1) (gb_hi_lt hi k2) (gt_add_7 _ _ _ _) _ _ _) (fun q => by rw [if_pos rfl]; exact gt_add_k c1 c2 c3 c4 q)
    rw [e1] at h4
    obtain ⟨ys2, v2, cs2, e4, e5, e6, -⟩ := gt_nam e2 e3
    rw [e4, ga_set_eq] at h4
    show (match (generalizing := false) pal[k]? with | some (.inl x) => gp_ah pal k ∧ gp_ok sh (gp_call sh d) rc code Φ (pc + ln) (pal.set k (.inl (gp_b2 (fun x y => x + y) x (gp_li a)))) psk σ | _ => False)
    rw [g1]
    refine ⟨gt_ah_ok hl h3.2, ?_⟩
    rw [gp_li_b hw.1.1, gp_b2_i]
    exact gt_k S hnx h4 (ys ++ ys2) hop ⟨by rw [← List.append_assoc]; exact e5, hW, hX, gt_or_app ho, hfr, gt_lr_set (gt_lr_app hl) (by rw [← List.append_assoc]; exact gt_of e6) (fun c q => by cases q), gt_sr_app hs⟩
  | istore k => exact gt_store_ok S hnx h hop hat
  | istore_n k => exact gt_store_ok S hnx h hop hat
  | lstore_n k =>
    have h2 : (match (generalizing := false) sk with | v :: r => ga_if (and (Nat.beq v 5) (ga_ahead al k.val)) (ga_set al k.val v (fun al => ga_set al (k.val + 1) 7 (fun al => go opn nx al r cs ov))) false | _ => false) = true := h
    split at h2
    · obtain ⟨h3, h4⟩ := gt_if h2
      rw [Bool.and_eq_true, ga_beq] at h3
      rw [ga_set_eq, ga_set_eq] at h4
      obtain ⟨vx, t2, rfl, g2, hs2⟩ := gt_sr_cons hs
      obtain ⟨⟨cx, rfl, hcx⟩, -⟩ := gt_lng (by rw [h3.1]) g2
      exact ⟨gp_lng_of hcx, gt_ah_ok hl h3.2, gt_k0 S hnx h4 hop ⟨hi, hW, hX, ho, hfr, gt_set7 (gt_lr_set hl g2 (fun _ _ _ => h3.1)), hs2⟩⟩
    · cases h2
  | dup =>
    have h2 : (match (generalizing := false) sk with | v :: r => ga_if (ga_one v) (go opn nx al (v :: v :: r) cs ov) false | _ => false) = true := h
    split at h2
    · obtain ⟨h3, h4⟩ := gt_if h2
      obtain ⟨vx, t2, rfl, g2, hs2⟩ := gt_sr_cons hs
      exact ⟨gt_one h3 g2, gt_k0 S hnx h4 hop ⟨hi, hW, hX, ho, hfr, hl, g2, g2, hs2⟩⟩
    · cases h2
  | dup2 =>
    have h2 : (match (generalizing := false) sk with | v :: w :: r => ga_if (and (ga_one v) (ga_one w)) (go opn nx al (v :: w :: v :: w :: r) cs ov) false | _ => false) = true := h
    split at h2
    · obtain ⟨h3, h4⟩ := gt_if h2
      rw [Bool.and_eq_true] at h3
      obtain ⟨vy, t1, rfl, g1, hs1⟩ := gt_sr_cons hs
      obtain ⟨vx, t2, rfl, g2, hs2⟩ := gt_sr_cons hs1
      exact ⟨gt_one h3.1 g1, gt_one h3.2 g2, gt_k0 S hnx h4 hop ⟨hi, hW, hX, ho, hfr, hl, g1, g2, g1, g2, hs2⟩⟩
    · cases h2
  | pop =>
    have h2 : (match (generalizing := false) sk with | v :: r => ga_if (ga_one v) (go opn nx al r cs ov) false | _ => false) = true := h
    split at h2
    · obtain ⟨h3, h4⟩ := gt_if h2
      obtain ⟨vx, t2, rfl, g2, hs2⟩ := gt_sr_cons hs
      exact ⟨gt_one h3 g2, gt_k0 S hnx h4 hop ⟨hi, hW, hX, ho, hfr, hl, hs2⟩⟩
    · cases h2
  | arraylength =>
    have h2 : (match (generalizing := false) sk with | r :: t => ga_if (ga_ref r) (match wt (r / 8) with | (k, m, _) => ga_if (and (and (Nat.ble 100 k) (Nat.ble k 104)) (Nat.blt m 1048577)) (ga_f (8 * m) (fun v => go opn nx al (v :: t) cs ov)) false) false | _ => false) = true := h
    split at h2
    · rename_i r t
      obtain ⟨h3, h4⟩ := gt_if h2
      obtain ⟨vx, t2, rfl, g2, hs2⟩ := gt_sr_cons hs
      obtain ⟨rfl, q3⟩ := gt_ref h3 g2
      have h5 : ga_if (and (and (Nat.ble 100 (wt (r / 8)).1) (Nat.ble (wt (r / 8)).1 104)) (Nat.blt (wt (r / 8)).2.1 1048577)) (ga_f (8 * (wt (r / 8)).2.1) (fun v => go opn nx al (v :: t) cs ov)) false = true := h4
      obtain ⟨h6, h7⟩ := gt_if h5
      simp only [Bool.and_eq_true, Nat.ble_eq, Nat.blt_eq] at h6
      rw [ga_f_eq] at h7
      obtain ⟨q1, q2, -, -⟩ := Hs (r / 8) (by omega)
      refine ⟨q3, by rw [q1]; exact h6.1.1, by rw [q1]; exact h6.1.2, by rw [q2]; exact h6.2, ?_⟩
      rw [q2]
      refine gt_k0 S hnx h7 hop ⟨hi, hW, hX, ho, hfr, hl, ⟨nI (wt (r / 8)).2.1, nI_toInt (by omega), gb_lit (by omega)⟩, hs2⟩
    · cases h2
  | iaload => exact gt_ald_ok Hs S hnx (by decide) h hop hat
  | baload =>
    have h2 : ga_if (Nat.beq a 104) (gt_ald wt 104 sk cs ov (fun sk cs ov => go opn nx al sk cs ov)) (gt_ald wt 101 sk cs ov (fun sk cs ov => go opn nx al sk cs ov)) = true := h
    rw [ga_if_eq] at h2
    show gp_ald sh (if a = 104 then 104 else 101) (fun sk => gp_ok sh (gp_call sh d) rc code Φ (pc + ln) pal sk σ) psk σ
    split at h2
    · rename_i q
      rw [if_pos (Nat.eq_of_beq_eq_true q)]
      exact gt_ald_ok Hs S hnx (by decide) h2 hop hat
    · rename_i q
      rw [if_neg (fun w => q (by rw [w]; rfl))]
      exact gt_ald_ok Hs S hnx (by decide) h2 hop hat
  | laload => exact gt_ald_ok Hs S hnx (by decide) h hop hat
  | aaload => exact gt_ald_ok Hs S hnx (by decide) h hop hat
  | iastore =>
    have h2 : gt_ast wt ml xl 100 sk cs ov (fun sk cs ov => go opn nx al sk cs ov) = true := h
    cases sk with
    | nil => cases h2
    | cons v s =>
      obtain ⟨vx, t2, rfl, g2, hs2⟩ := gt_sr_cons hs
      have h3 : ga_int v = true := by
        cases s with
        | nil => cases h2
        | cons i s => cases s with
          | nil => cases h2
          | cons r s =>
            obtain ⟨h1, -⟩ := gt_if h2
            simp only [Bool.and_eq_true] at h1
            exact h1.2
      obtain ⟨X1, rfl, a1⟩ := gt_int h3 g2
      exact gt_ast_ok (f := id) Hs HX S hnx (Or.inl rfl) h2 hop hi hW hX ho hfr hl hs2 a1 rfl trivial
  | lastore => exact gt_asl_ok Hs HX S hnx h hop hat
  | bastore =>
    have h2 : ga_if (Nat.beq a 104) (gt_bst (gb_bit cs) (fun sk => gt_ast wt ml xl 104 sk cs ov (fun sk cs ov => go opn nx al sk cs ov)) sk) (gt_bst (gb_byt cs) (fun sk => gt_ast wt ml xl 101 sk cs ov (fun sk cs ov => go opn nx al sk cs ov)) sk) = true := h
    rw [ga_if_eq] at h2
    show (if a = 104 then gp_ast sh 104 id (fun x => x = 0 ∨ x = 1) (fun sk σ => gp_ok sh (gp_call sh d) rc code Φ (pc + ln) pal sk σ) psk σ else gp_ast sh 101 (gp_b1 (fun x => x.toInt8.toInt32)) (fun _ => True) (fun sk σ => gp_ok sh (gp_call sh d) rc code Φ (pc + ln) pal sk σ) psk σ)
    split at h2
    · rename_i q
      rw [if_pos (Nat.eq_of_beq_eq_true q)]
      unfold gt_bst at h2
      split at h2
      · obtain ⟨h7, h4⟩ := gt_p_ok h2
        obtain ⟨vx, t2, rfl, g2, hs2⟩ := gt_sr_cons hs
        have h3 := gt_bit_int h7
        obtain ⟨X1, rfl, a1⟩ := gt_int h3 g2
        obtain ⟨c1, c2⟩ := gb_lohi hi a1
        have hk := gb_kki X1
        obtain ⟨eb, b1, b2⟩ := gt_bit_eq h7
        have h4' := h4
        simp only [eb] at h4'
        exact gt_ast_ok (f := id) Hs HX S hnx (Or.inr (Or.inr rfl)) h4' hop hi hW hX ho hfr hl hs2 a1 rfl (by omega)
      · cases h2
    · rename_i q
      rw [if_neg (fun w => q (by rw [w]; rfl))]
      unfold gt_bst at h2
      split at h2
      · obtain ⟨h7, h4⟩ := gt_p_ok h2
        obtain ⟨vx, t2, rfl, g2, hs2⟩ := gt_sr_cons hs
        obtain ⟨X1, rfl, a1⟩ := gt_int (gt_byt_int h7) g2
        exact gt_ast_ok (f := gp_b1 (fun x => x.toInt8.toInt32)) Hs HX S hnx (Or.inr (Or.inl rfl)) h4 hop hi hW hX ho hfr hl hs2 (gt_byt_ok hi a1 h7) (gp_b1_i _ X1) trivial
      · cases h2
  | invokestatic idx =>
    have h2 : ga_if (Nat.beq a 1001) (gt_acp wt ml xl sk ov (fun sk ov => go opn nx al sk cs ov)) (gt_inv gm_me wt call a false sk cs ov (fun sk cs ov => go opn nx al sk cs ov)) = true := h
    rw [ga_if_eq] at h2
    show (if a = 1001 then gp_acp sh (fun sk σ => gp_ok sh (gp_call sh d) rc code Φ (pc + ln) pal sk σ) psk σ else gp_inv sh (gp_call sh d) a false (fun sk σ => gp_ok sh (gp_call sh d) rc code Φ (pc + ln) pal sk σ) psk σ)
    split at h2
    · rename_i q
      rw [if_pos (Nat.eq_of_beq_eq_true q)]
      exact gt_acp_ok Hs HX S hnx h2 hop hat
    · rename_i q
      rw [if_neg (fun w => q (by rw [w]; rfl))]
      exact gt_inv_ok Hs HC S hnx h2 hop hat
  | invokevirtual idx =>
    have h2 : ga_if (Nat.blt a 998) (gt_inv gm_me wt call a true sk cs ov (fun sk cs ov => go opn nx al sk cs ov)) (ga_if (Nat.beq a 1004) (match (generalizing := false) sk with | i :: r :: t => ga_if (and (and (ga_int i) (Nat.beq r 30)) (Nat.ble (ga_wd t) 8)) (go opn nx al (gb_any :: t) cs ov) false | _ => false) false) = true := h
    rw [ga_if_eq] at h2
    show (if a < 998 then gp_inv sh (gp_call sh d) a true (fun sk σ => gp_ok sh (gp_call sh d) rc code Φ (pc + ln) pal sk σ) psk σ else if a = 1004 then (match (generalizing := false) psk with | .inl _ :: v :: t => v = .inr 30 ∧ gp_wd t ≤ 8 ∧ ∀ z : Int, -2147483648 ≤ z → z < 2147483648 → gp_ok sh (gp_call sh d) rc code Φ (pc + ln) pal (.inl z :: t) σ | _ => False) else False)
    split at h2
    · rename_i q
      rw [if_pos (by simpa using q)]
      exact gt_inv_ok Hs HC S hnx h2 hop hat
    · rename_i q
      rw [if_neg (by simpa using q)]
      obtain ⟨h3, h4⟩ := gt_if h2
      rw [if_pos (Nat.eq_of_beq_eq_true h3)]
      split at h4
      · obtain ⟨h5, h6⟩ := gt_if h4
        simp only [Bool.and_eq_true, ga_beq, Nat.ble_eq] at h5
        obtain ⟨⟨h51, h52⟩, h53⟩ := h5
        obtain ⟨vy, t1, rfl, g1, hs1⟩ := gt_sr_cons hs
        obtain ⟨vx, t2, rfl, g2, hs2⟩ := gt_sr_cons hs1
        obtain ⟨Y1, rfl, b1⟩ := gt_int h51 g1
        subst h52
        obtain rfl : vx = .inr 30 := gt_adr rfl g2
        refine ⟨rfl, by rw [gt_wd_ok hs2]; exact h53, fun zz q1 q2 => ?_⟩
        have e : (Int32.ofInt zz).toInt = zz := Int32.toInt_ofInt_of_le (by omega) (by omega)
        exact gt_k0 S hnx h6 hop ⟨hi, hW, hX, ho, hfr, hl, ⟨Int32.ofInt zz, e, gb_any_ok _⟩, hs2⟩
      · cases h4
  | _ => exact absurd (show false = true from h) (by decide)
end HE
