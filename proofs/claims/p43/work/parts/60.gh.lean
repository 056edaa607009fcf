/-! rows of the plain machine, for proofs by hand -/
noncomputable def gh_at (code : List ga_E) (pc : Nat) : Option ga_E := (ga_jmp code pc).head?
def gh_r (x : Int) : Prop := -2147483648 ≤ x ∧ x < 2147483648
theorem gh_b2 {g : Int32 → Int32 → Int32} {f : Int → Int → Int} (hg : ∀ X Y : Int32, (g X Y).toInt = (f X.toInt Y.toInt).bmod 4294967296) {x y : Int} (hx : gh_r x) (hy : gh_r y) (hf : gh_r (f x y)) : gp_b2 g x y = f x y := by
  unfold gp_b2
  unfold gh_r at hx hy hf
  rw [hg, Int32.toInt_ofInt_of_le (by omega) (by omega), Int32.toInt_ofInt_of_le (by omega) (by omega)]
  simp only [Int.bmod]
  split <;> omega
theorem gh_b2_r (g : Int32 → Int32 → Int32) (x y : Int) : gh_r (gp_b2 g x y) := ⟨Int32.le_toInt _, Int32.toInt_lt _⟩
theorem gh_b1_r (g : Int32 → Int32) (x : Int) : gh_r (gp_b1 g x) := ⟨Int32.le_toInt _, Int32.toInt_lt _⟩
section GHa
variable {sh : Nat → gp_T} {call : gp_K} {rc : Nat} {code : List ga_E} {Φ : gp_F} {pc ln a b : Nat} {ps : List (Nat × Nat)} {al sk : List gp_V} {σ : gp_S}
theorem gh_step {e : ga_E} (hc : gh_at code pc = some e) (h : gp_step sh call rc Φ (gp_ok sh call rc code Φ) e al sk σ) : gp_ok sh call rc code Φ pc al sk σ := by
  unfold gh_at at hc
  cases hj : ga_jmp code pc with
  | nil => rw [hj] at hc; cases hc
  | cons e2 nx =>
    rw [hj] at hc
    cases hc
    exact gp_ok_step hj h
theorem gh_iload_n {k : Fin 4} {x : Int} (hc : gh_at code pc = some (pc, ln, .iload_n k, a, b, ps)) (hv : al[k.val]? = some (.inl x)) (h : gp_ok sh call rc code Φ (pc + ln) al (.inl x :: sk) σ) : gp_ok sh call rc code Φ pc al sk σ := by
  refine gh_step hc ?_
  show gp_ld gp_int k.val (fun v => gp_ok sh call rc code Φ (pc + ln) al (v :: sk) σ) al
  unfold gp_ld
  rw [hv]
  exact ⟨rfl, h⟩
theorem gh_iload {k : Nat} {x : Int} (hc : gh_at code pc = some (pc, ln, .iload k, a, b, ps)) (hv : al[k]? = some (.inl x)) (h : gp_ok sh call rc code Φ (pc + ln) al (.inl x :: sk) σ) : gp_ok sh call rc code Φ pc al sk σ := by
  refine gh_step hc ?_
  show gp_ld gp_int k (fun v => gp_ok sh call rc code Φ (pc + ln) al (v :: sk) σ) al
  unfold gp_ld
  rw [hv]
  exact ⟨rfl, h⟩
theorem gh_aload_n {k : Fin 4} {r : Nat} (hc : gh_at code pc = some (pc, ln, .aload_n k, a, b, ps)) (hv : al[k.val]? = some (.inr r)) (h3 : ga_adr r = true) (h : gp_ok sh call rc code Φ (pc + ln) al (.inr r :: sk) σ) : gp_ok sh call rc code Φ pc al sk σ := by
  refine gh_step hc ?_
  show gp_ld gp_adr k.val (fun v => gp_ok sh call rc code Φ (pc + ln) al (v :: sk) σ) al
  unfold gp_ld
  rw [hv]
  exact ⟨h3, h⟩
theorem gh_iconst {k : Int} {x : Int} (hc : gh_at code pc = some (pc, ln, .iconst k, a, b, ps)) (hx : gp_li a = x) (h : gp_ok sh call rc code Φ (pc + ln) al (.inl x :: sk) σ) : gp_ok sh call rc code Φ pc al sk σ := gh_step hc (by subst hx; exact h)
theorem gh_bipush {k : Int} {x : Int} (hc : gh_at code pc = some (pc, ln, .bipush k, a, b, ps)) (hx : gp_li a = x) (h : gp_ok sh call rc code Φ (pc + ln) al (.inl x :: sk) σ) : gp_ok sh call rc code Φ pc al sk σ := gh_step hc (by subst hx; exact h)
theorem gh_sipush {k : Int} {x : Int} (hc : gh_at code pc = some (pc, ln, .sipush k, a, b, ps)) (hx : gp_li a = x) (h : gp_ok sh call rc code Φ (pc + ln) al (.inl x :: sk) σ) : gp_ok sh call rc code Φ pc al sk σ := gh_step hc (by subst hx; exact h)
theorem gh_ldc2 {k : Nat} (hc : gh_at code pc = some (pc, ln, .ldc2_w k, a, b, ps)) (h : gp_ok sh call rc code Φ (pc + ln) al (.inr a :: sk) σ) : gp_ok sh call rc code Φ pc al sk σ := gh_step hc h
theorem gh_istore_n {k : Fin 4} {x : Int} {al' : List gp_V} (hc : gh_at code pc = some (pc, ln, .istore_n k, a, b, ps)) (ha : gp_ah al k.val) (hs : al.set k.val (.inl x) = al') (h : gp_ok sh call rc code Φ (pc + ln) al' sk σ) : gp_ok sh call rc code Φ pc al (.inl x :: sk) σ := gh_step hc (by subst hs; exact ⟨rfl, ha, h⟩)
theorem gh_istore {k : Nat} {x : Int} {al' : List gp_V} (hc : gh_at code pc = some (pc, ln, .istore k, a, b, ps)) (ha : gp_ah al k) (hs : al.set k (.inl x) = al') (h : gp_ok sh call rc code Φ (pc + ln) al' sk σ) : gp_ok sh call rc code Φ pc al (.inl x :: sk) σ := gh_step hc (by subst hs; exact ⟨rfl, ha, h⟩)
theorem gh_iinc {k : Nat} {n : Int} {x y : Int} {al' : List gp_V} (hc : gh_at code pc = some (pc, ln, .iinc k n, a, b, ps)) (hv : al[k]? = some (.inl x)) (ha : gp_ah al k) (hy : gp_b2 (fun x y => x + y) x (gp_li a) = y) (hs : al.set k (.inl y) = al') (h : gp_ok sh call rc code Φ (pc + ln) al' sk σ) : gp_ok sh call rc code Φ pc al sk σ := by
  refine gh_step hc ?_
  show (match (generalizing := false) al[k]? with | some (.inl x) => gp_ah al k ∧ gp_ok sh call rc code Φ (pc + ln) (al.set k (.inl (gp_b2 (fun x y => x + y) x (gp_li a)))) sk σ | _ => False)
  rw [hv]
  exact ⟨ha, by rw [hy, hs]; exact h⟩
theorem gh_goto {k : Int} (hc : gh_at code pc = some (pc, ln, .goto k, a, b, ps)) (h : gp_ok sh call rc code Φ b al sk σ) : gp_ok sh call rc code Φ pc al sk σ := gh_step hc h
theorem gh_icmp {c : Jvm.ClassFile.Cond} {k x y : Int} (hc : gh_at code pc = some (pc, ln, .if_icmp c k, a, b, ps)) (h1 : gp_cnd c x y → gp_ok sh call rc code Φ b al sk σ) (h2 : ¬ gp_cnd c x y → gp_ok sh call rc code Φ (pc + ln) al sk σ) : gp_ok sh call rc code Φ pc al (.inl y :: .inl x :: sk) σ := gh_step hc ⟨h1, h2⟩
theorem gh_if {c : Jvm.ClassFile.Cond} {k x : Int} (hc : gh_at code pc = some (pc, ln, .ifCond c k, a, b, ps)) (h1 : gp_cnd c x 0 → gp_ok sh call rc code Φ b al sk σ) (h2 : ¬ gp_cnd c x 0 → gp_ok sh call rc code Φ (pc + ln) al sk σ) : gp_ok sh call rc code Φ pc al (.inl x :: sk) σ := gh_step hc ⟨h1, h2⟩
theorem gh_iadd {x y z : Int} (hc : gh_at code pc = some (pc, ln, .iadd, a, b, ps)) (hz : gp_b2 (fun x y => x + y) x y = z) (h : gp_ok sh call rc code Φ (pc + ln) al (.inl z :: sk) σ) : gp_ok sh call rc code Φ pc al (.inl y :: .inl x :: sk) σ := gh_step hc (by subst hz; exact h)
theorem gh_isub {x y z : Int} (hc : gh_at code pc = some (pc, ln, .isub, a, b, ps)) (hz : gp_b2 (fun x y => x - y) x y = z) (h : gp_ok sh call rc code Φ (pc + ln) al (.inl z :: sk) σ) : gp_ok sh call rc code Φ pc al (.inl y :: .inl x :: sk) σ := gh_step hc (by subst hz; exact h)
theorem gh_imul {x y z : Int} (hc : gh_at code pc = some (pc, ln, .imul, a, b, ps)) (hz : gp_b2 (fun x y => x * y) x y = z) (h : gp_ok sh call rc code Φ (pc + ln) al (.inl z :: sk) σ) : gp_ok sh call rc code Φ pc al (.inl y :: .inl x :: sk) σ := gh_step hc (by subst hz; exact h)
theorem gh_iand {x y z : Int} (hc : gh_at code pc = some (pc, ln, .iand, a, b, ps)) (hz : gp_b2 (fun x y => x &&& y) x y = z) (h : gp_ok sh call rc code Φ (pc + ln) al (.inl z :: sk) σ) : gp_ok sh call rc code Φ pc al (.inl y :: .inl x :: sk) σ := gh_step hc (by subst hz; exact h)
theorem gh_irem {x y z : Int} (hc : gh_at code pc = some (pc, ln, .irem, a, b, ps)) (h0 : ¬ y = 0) (hz : gp_b2 (fun x y => x - x / y * y) x y = z) (h : gp_ok sh call rc code Φ (pc + ln) al (.inl z :: sk) σ) : gp_ok sh call rc code Φ pc al (.inl y :: .inl x :: sk) σ := gh_step hc ⟨h0, by subst hz; exact h⟩
theorem gh_ineg {x z : Int} (hc : gh_at code pc = some (pc, ln, .ineg, a, b, ps)) (hz : gp_b1 (fun x => -x) x = z) (h : gp_ok sh call rc code Φ (pc + ln) al (.inl z :: sk) σ) : gp_ok sh call rc code Φ pc al (.inl x :: sk) σ := gh_step hc (by subst hz; exact h)
theorem gh_get {k r : Nat} {v : gp_V} (hc : gh_at code pc = some (pc, ln, .getfield k, a, b, ps)) (h3 : r % 8 = 3) (hk : (sh (r / 8)).1 = a) (hb : b < (sh (r / 8)).2.1) (hv : gp_rd sh σ (r / 8) b = v) (h : gp_ok sh call rc code Φ (pc + ln) al (v :: sk) σ) : gp_ok sh call rc code Φ pc al (.inr r :: sk) σ := gh_step hc ⟨h3, hk, hb, by subst hv; exact h⟩
theorem gh_put {k r tc t : Nat} {x : Int} (hc : gh_at code pc = some (pc, ln, .putfield k, a, b, (tc, t) :: ps)) (h3 : r % 8 = 3) (hk : (sh (r / 8)).1 = a) (hb : b < (sh (r / 8)).2.1) (hp : gp_pk sh (r / 8) b = 0) (ht : tc = 0 ∨ tc = 1 ∧ (x = 0 ∨ x = 1)) (h : gp_ok sh call rc code Φ (pc + ln) al sk (gp_up σ (r / 8) b x)) : gp_ok sh call rc code Φ pc al (.inl x :: .inr r :: sk) σ := gh_step hc ⟨h3, hk, hb, hp, ht, h⟩
theorem gh_iald {r : Nat} {i : Int} {v : gp_V} (hc : gh_at code pc = some (pc, ln, .iaload, a, b, ps)) (h3 : r % 8 = 3) (hk : (sh (r / 8)).1 = 100) (hn : (sh (r / 8)).2.1 < 1048577) (hi : 0 ≤ i ∧ i.toNat < (sh (r / 8)).2.1) (hv : gp_rd sh σ (r / 8) i.toNat = v) (h : gp_ok sh call rc code Φ (pc + ln) al (v :: sk) σ) : gp_ok sh call rc code Φ pc al (.inl i :: .inr r :: sk) σ := gh_step hc ⟨h3, hk, hi.1, hi.2, hn, by subst hv; exact h⟩
theorem gh_iast {r : Nat} {i x : Int} (hc : gh_at code pc = some (pc, ln, .iastore, a, b, ps)) (h3 : r % 8 = 3) (hk : (sh (r / 8)).1 = 100) (hn : (sh (r / 8)).2.1 < 1048577) (hi : 0 ≤ i ∧ i.toNat < (sh (r / 8)).2.1) (hp : gp_pk sh (r / 8) i.toNat = 0) (h : gp_ok sh call rc code Φ (pc + ln) al sk (gp_up σ (r / 8) i.toNat x)) : gp_ok sh call rc code Φ pc al (.inl x :: .inl i :: .inr r :: sk) σ := gh_step hc ⟨trivial, h3, hk, hi.1, hi.2, hn, hp, h⟩
theorem gh_dup {v : gp_V} (hc : gh_at code pc = some (pc, ln, .dup, a, b, ps)) (h1 : gp_one v = true) (h : gp_ok sh call rc code Φ (pc + ln) al (v :: v :: sk) σ) : gp_ok sh call rc code Φ pc al (v :: sk) σ := gh_step hc ⟨h1, h⟩
theorem gh_dup2 {v w : gp_V} (hc : gh_at code pc = some (pc, ln, .dup2, a, b, ps)) (h1 : gp_one v = true) (h2 : gp_one w = true) (h : gp_ok sh call rc code Φ (pc + ln) al (v :: w :: v :: w :: sk) σ) : gp_ok sh call rc code Φ pc al (v :: w :: sk) σ := gh_step hc ⟨h1, h2, h⟩
theorem gh_pop {v : gp_V} (hc : gh_at code pc = some (pc, ln, .pop, a, b, ps)) (h1 : gp_one v = true) (h : gp_ok sh call rc code Φ (pc + ln) al sk σ) : gp_ok sh call rc code Φ pc al (v :: sk) σ := gh_step hc ⟨h1, h⟩
theorem gh_iret {x : Int} (hc : gh_at code pc = some (pc, ln, .ireturn, a, b, ps)) (h : (rc = 1 ∧ Φ (.inl x) σ) ∨ (rc = 2 ∧ (x = 0 ∨ x = 1) ∧ Φ (.inl x) σ)) : gp_ok sh call rc code Φ pc al [.inl x] σ := gh_step hc h
theorem gh_ret (hc : gh_at code pc = some (pc, ln, .return_, a, b, ps)) (hr : rc = 0) (h : Φ (.inr 7) σ) : gp_ok sh call rc code Φ pc al [] σ := gh_step hc ⟨hr, rfl, h⟩
theorem gh_lcmp {x y : Nat} (hc : gh_at code pc = some (pc, ln, .lcmp, a, b, ps)) (hx : x % 8 = 5) (hy : y % 8 = 5) (h : ∀ z : Int, -1 ≤ z → z ≤ 1 → (z = 0 ↔ x = y) → gp_ok sh call rc code Φ (pc + ln) al (.inl z :: sk) σ) : gp_ok sh call rc code Φ pc al (.inr y :: .inr x :: sk) σ :=
  gh_step hc ⟨gp_lng_of hy, gp_lng_of hx, fun z h1 h2 h3 => h z h1 h2 (h3.trans ⟨fun q => by cases q; rfl, fun q => by rw [q]⟩)⟩
/-- a call, its arguments in their order -/
theorem gh_callV {k r : Nat} {as t : List gp_V} (hc : gh_at code pc = some (pc, ln, .invokevirtual k, a, b, ps)) (ha : a < 998) (hk : sk = ((.inr r : gp_V) :: as).reverse ++ t) (hn : as.length + 1 = gm_na a) (hw : gp_wd t ≤ 8) (h3 : r % 8 = 3) (hs : (sh (r / 8)).1 = gm_ci a) (hci : gm_ci a < 100) {Ψ : gp_F} (hcall : call a (.inr r :: as) σ Ψ) (hm : ∀ (F G : gp_F), (∀ v σ, F v σ → G v σ) → call a (.inr r :: as) σ F → call a (.inr r :: as) σ G)
    (h : ∀ v σ', Ψ v σ' → gp_ok sh call rc code Φ (pc + ln) al (gp_ret (gm_rc a) v t) σ') : gp_ok sh call rc code Φ pc al sk σ := by
  refine gh_step hc ?_
  show (if a < 998 then gp_inv sh call a true (fun sk σ => gp_ok sh call rc code Φ (pc + ln) al sk σ) sk σ else _)
  rw [if_pos ha]
  exact ⟨.inr r :: as, t, hk, hn, hw, fun _ => ⟨r, as, rfl, h3, hs, hci⟩, hm _ _ h hcall⟩
theorem gh_callS {k : Nat} {as t : List gp_V} (hc : gh_at code pc = some (pc, ln, .invokestatic k, a, b, ps)) (ha : ¬ a = 1001) (hk : sk = as.reverse ++ t) (hn : as.length = gm_na a) (hw : gp_wd t ≤ 8) {Ψ : gp_F} (hcall : call a as σ Ψ) (hm : ∀ (F G : gp_F), (∀ v σ, F v σ → G v σ) → call a as σ F → call a as σ G)
    (h : ∀ v σ', Ψ v σ' → gp_ok sh call rc code Φ (pc + ln) al (gp_ret (gm_rc a) v t) σ') : gp_ok sh call rc code Φ pc al sk σ := by
  refine gh_step hc ?_
  show (if a = 1001 then _ else gp_inv sh call a false (fun sk σ => gp_ok sh call rc code Φ (pc + ln) al sk σ) sk σ)
  rw [if_neg ha]
  exact ⟨as, t, hk, hn, hw, fun q => (by cases q), hm _ _ h hcall⟩
end GHa
theorem gh_rd0 {sh : Nat → gp_T} {σ : gp_S} {c j : Nat} (h : gp_pk sh c j = 0) : gp_rd sh σ c j = .inl (σ c j) := by unfold gp_rd; rw [h]; rfl
theorem gh_rdr {sh : Nat → gp_T} {σ : gp_S} {c j r : Nat} (h : gp_pk sh c j = r) (h3 : r % 8 = 3) : gp_rd sh σ c j = .inr r := by
  unfold gp_rd gp_rv
  rw [h, if_neg (by omega), if_neg (by omega)]
theorem gh_rdl {sh : Nat → gp_T} {σ : gp_S} {c j : Nat} (h : gp_pk sh c j = 5) : gp_rd sh σ c j = .inr (8 * (σ c j).toNat + 5) := by unfold gp_rd; rw [h]; rfl
theorem gh_pk0 {sh : Nat → gp_T} {c : Nat} (h : (sh c).2.2 = (0, [])) (j : Nat) : gp_pk sh c j = 0 := by unfold gp_pk; rw [h]; rfl
theorem gh_ix {sh : Nat → gp_T} {c N : Nat} {i : Int} (hn : (sh c).2.1 = N) (h0 : 0 ≤ i) (h1 : i < (N : Int)) : 0 ≤ i ∧ i.toNat < (sh c).2.1 := by rw [hn]; omega
theorem gh_add {x y : Int} (hx : gh_r x) (hy : gh_r y) (hf : gh_r (x + y)) : gp_b2 (fun x y => x + y) x y = x + y := gh_b2 (f := fun x y => x + y) (fun X Y => Int32.toInt_add X Y) hx hy hf
theorem gh_sub {x y : Int} (hx : gh_r x) (hy : gh_r y) (hf : gh_r (x - y)) : gp_b2 (fun x y => x - y) x y = x - y := gh_b2 (f := fun x y => x - y) (fun X Y => Int32.toInt_sub X Y) hx hy hf
theorem gh_mul {x y : Int} (hx : gh_r x) (hy : gh_r y) (hf : gh_r (x * y)) : gp_b2 (fun x y => x * y) x y = x * y := gh_b2 (f := fun x y => x * y) (fun X Y => Int32.toInt_mul X Y) hx hy hf
theorem gh_rem {x y : Int} (hx : gh_r x) (hy : gh_r y) (h0 : 0 < y) : gp_b2 (fun x y => x - x / y * y) x y = x.tmod y := by
  unfold gp_b2
  unfold gh_r at hx hy
  have e1 : (Int32.ofInt x).toInt = x := Int32.toInt_ofInt_of_le (by omega) (by omega)
  have e2 : (Int32.ofInt y).toInt = y := Int32.toInt_ofInt_of_le (by omega) (by omega)
  show (Int32.ofInt x - Int32.ofInt x / Int32.ofInt y * Int32.ofInt y).toInt = x.tmod y
  rw [gb_rem_int (by rw [e2]; exact h0), e1, e2]
/-- calls of any depth go on with more -/
theorem gh_mono {sh : Nat → gp_T} {d k : Nat} {as : List gp_V} {σ : gp_S} : ∀ (F G : gp_F), (∀ v σ, F v σ → G v σ) → gp_call sh d k as σ F → gp_call sh d k as σ G := fun _ _ h q => gp_call_post h q
/-- a method from its beginning -/
theorem gh_call {sh : Nat → gp_T} {d k : Nat} {as al : List gp_V} {σ : gp_S} {Φ : gp_F} (hk : k < 313 ∧ gm_mc k = 0 ∧ gm_ms k = 0) (hn : as.length = gm_na k) (hl : gp_ly as (List.replicate (gm_me k).2.1 (.inr 7)) = al) (hL : al.length = (gm_me k).2.2.1) (h : gp_ok sh (gp_call sh d) (gm_rc k) (gm_me k).1 Φ 0 al [] σ) : gp_call sh (d + 1) k as σ Φ := by
  subst hl
  exact ⟨hk, hn, hL, h⟩
/-- any int is one of 32 bits -/
theorem gh_any {z : Int} (h : gh_r z) : gt_tv 34359738362 (.inl z) := by
  refine Or.inl ⟨by decide, Int32.ofInt z, ?_, gb_any_ok _⟩
  rw [Int32.toInt_ofInt_of_le h.1 h.2]
theorem gh_tv {t : Nat} {z : Int} (h : gt_tv t (.inl z)) : gh_r z ∧ ((t / 8 / 4294967296 : Nat) : Int) ≤ z + 2147483648 ∧ z + 2147483648 ≤ ((t / 8 % 4294967296 : Nat) : Int) := by
  rcases h with ⟨h2, y, e, hy⟩ | ⟨-, q⟩ | ⟨-, c, q, -⟩
  · injection e with e
    obtain ⟨y', e', y1, y2⟩ := (gb_vr_2 h2).mp hy
    cases e'
    have := gb_kki y
    subst e
    exact ⟨⟨Int32.le_toInt y, Int32.toInt_lt y⟩, by omega, by omega⟩
  · cases q
  · cases q
theorem gh_mk {t : Nat} {z : Int} (h2 : t % 8 = 2) (hr : gh_r z) (h1 : ((t / 8 / 4294967296 : Nat) : Int) ≤ z + 2147483648) (h3 : z + 2147483648 ≤ ((t / 8 % 4294967296 : Nat) : Int)) : gt_tv t (.inl z) := by
  have e : (Int32.ofInt z).toInt = z := Int32.toInt_ofInt_of_le hr.1 hr.2
  have hk := gb_kki (Int32.ofInt z)
  exact Or.inl ⟨h2, Int32.ofInt z, by rw [e], (gb_vr_2 h2).mpr ⟨Int32.ofInt z, rfl, by omega, by omega⟩⟩
