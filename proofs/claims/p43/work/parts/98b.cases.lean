/-! the law's cases -/
def gl_HS (G : gp_G) : Prop := ∀ (pc : Nat) (e : ga_E) (al sk : List gp_V) (σ : gp_S), gh_at gl_law pc = some e → gp_step gs_sh (gp_call gs_sh 100) 2 (fun _ _ => False) G e al sk σ → G pc al sk σ
def gl_HI (ρ : Nat → Int32) (L : Nat) (G : gp_G) : Prop := ∀ (pc : Nat) (al sk : List gp_V) (σ : gp_S) (i : Int), gh_at gl_law pc = some (pc, 1, .iaload, 0, 0, []) → 0 ≤ i → i < (L : Int) → G (pc + 1) al (.inl (ρ i.toNat).toInt :: sk) σ → G pc al (.inl i :: .inr 6 :: sk) σ
def gl_HA (L : Nat) (G : gp_G) : Prop := ∀ (pc : Nat) (al sk : List gp_V) (σ : gp_S), gh_at gl_law pc = some (pc, 1, .arraylength, 0, 0, []) → G (pc + 1) al (.inl (L : Int) :: sk) σ → G pc al (.inr 6 :: sk) σ
abbrev gl_al (i : Int) : List gp_V := [.inr 6, .inr 3, .inr 1891, .inl i]
section GJ
variable {G : gp_G} {pc ln a b : Nat} {ps : List (Nat × Nat)} {al sk : List gp_V} {σ : gp_S}
theorem gj_iload_n (HS : gl_HS G) {k : Fin 4} {x : Int} (hc : gh_at gl_law pc = some (pc, ln, .iload_n k, a, b, ps)) (hv : al[k.val]? = some (.inl x)) (h : G (pc + ln) al (.inl x :: sk) σ) : G pc al sk σ := by
  refine HS _ _ _ _ _ hc ?_
  show gp_ld gp_int k.val (fun v => G (pc + ln) al (v :: sk) σ) al
  unfold gp_ld
  rw [hv]
  exact ⟨rfl, h⟩
theorem gj_aload_n (HS : gl_HS G) {k : Fin 4} {r : Nat} (hc : gh_at gl_law pc = some (pc, ln, .aload_n k, a, b, ps)) (hv : al[k.val]? = some (.inr r)) (h3 : ga_adr r = true) (h : G (pc + ln) al (.inr r :: sk) σ) : G pc al sk σ := by
  refine HS _ _ _ _ _ hc ?_
  show gp_ld gp_adr k.val (fun v => G (pc + ln) al (v :: sk) σ) al
  unfold gp_ld
  rw [hv]
  exact ⟨h3, h⟩
theorem gj_iconst (HS : gl_HS G) {k : Int} {x : Int} (hc : gh_at gl_law pc = some (pc, ln, .iconst k, a, b, ps)) (hx : gp_li a = x) (h : G (pc + ln) al (.inl x :: sk) σ) : G pc al sk σ := HS _ _ _ _ _ hc (by subst hx; exact h)
theorem gj_bipush (HS : gl_HS G) {k : Int} {x : Int} (hc : gh_at gl_law pc = some (pc, ln, .bipush k, a, b, ps)) (hx : gp_li a = x) (h : G (pc + ln) al (.inl x :: sk) σ) : G pc al sk σ := HS _ _ _ _ _ hc (by subst hx; exact h)
theorem gj_istore_n (HS : gl_HS G) {k : Fin 4} {x : Int} {al' : List gp_V} (hc : gh_at gl_law pc = some (pc, ln, .istore_n k, a, b, ps)) (ha : gp_ah al k.val) (hs : al.set k.val (.inl x) = al') (h : G (pc + ln) al' sk σ) : G pc al (.inl x :: sk) σ := HS _ _ _ _ _ hc (by subst hs; exact ⟨rfl, ha, h⟩)
theorem gj_iinc (HS : gl_HS G) {k : Nat} {n : Int} {x y : Int} {al' : List gp_V} (hc : gh_at gl_law pc = some (pc, ln, .iinc k n, a, b, ps)) (hv : al[k]? = some (.inl x)) (ha : gp_ah al k) (hy : gp_b2 (fun x y => x + y) x (gp_li a) = y) (hs : al.set k (.inl y) = al') (h : G (pc + ln) al' sk σ) : G pc al sk σ := by
  refine HS _ _ _ _ _ hc ?_
  show (match (generalizing := false) al[k]? with | some (.inl x) => gp_ah al k ∧ G (pc + ln) (al.set k (.inl (gp_b2 (fun x y => x + y) x (gp_li a)))) sk σ | _ => False)
  rw [hv]
  exact ⟨ha, by rw [hy, hs]; exact h⟩
theorem gj_goto (HS : gl_HS G) {k : Int} (hc : gh_at gl_law pc = some (pc, ln, .goto k, a, b, ps)) (h : G b al sk σ) : G pc al sk σ := HS _ _ _ _ _ hc h
theorem gj_icmp (HS : gl_HS G) {c : Jvm.ClassFile.Cond} {k x y : Int} (hc : gh_at gl_law pc = some (pc, ln, .if_icmp c k, a, b, ps)) (h1 : gp_cnd c x y → G b al sk σ) (h2 : ¬ gp_cnd c x y → G (pc + ln) al sk σ) : G pc al (.inl y :: .inl x :: sk) σ := HS _ _ _ _ _ hc ⟨h1, h2⟩
theorem gj_if (HS : gl_HS G) {c : Jvm.ClassFile.Cond} {k x : Int} (hc : gh_at gl_law pc = some (pc, ln, .ifCond c k, a, b, ps)) (h1 : gp_cnd c x 0 → G b al sk σ) (h2 : ¬ gp_cnd c x 0 → G (pc + ln) al sk σ) : G pc al (.inl x :: sk) σ := HS _ _ _ _ _ hc ⟨h1, h2⟩
theorem gj_iadd (HS : gl_HS G) {x y z : Int} (hc : gh_at gl_law pc = some (pc, ln, .iadd, a, b, ps)) (hz : gp_b2 (fun x y => x + y) x y = z) (h : G (pc + ln) al (.inl z :: sk) σ) : G pc al (.inl y :: .inl x :: sk) σ := HS _ _ _ _ _ hc (by subst hz; exact h)
theorem gj_isub (HS : gl_HS G) {x y z : Int} (hc : gh_at gl_law pc = some (pc, ln, .isub, a, b, ps)) (hz : gp_b2 (fun x y => x - y) x y = z) (h : G (pc + ln) al (.inl z :: sk) σ) : G pc al (.inl y :: .inl x :: sk) σ := HS _ _ _ _ _ hc (by subst hz; exact h)
theorem gj_iand (HS : gl_HS G) {x y z : Int} (hc : gh_at gl_law pc = some (pc, ln, .iand, a, b, ps)) (hz : gp_b2 (fun x y => x &&& y) x y = z) (h : G (pc + ln) al (.inl z :: sk) σ) : G pc al (.inl y :: .inl x :: sk) σ := HS _ _ _ _ _ hc (by subst hz; exact h)
theorem gj_pop (HS : gl_HS G) {v : gp_V} (hc : gh_at gl_law pc = some (pc, ln, .pop, a, b, ps)) (h1 : gp_one v = true) (h : G (pc + ln) al sk σ) : G pc al (v :: sk) σ := HS _ _ _ _ _ hc ⟨h1, h⟩
theorem gj_callV (HS : gl_HS G) {k r : Nat} {as t : List gp_V} (hc : gh_at gl_law pc = some (pc, ln, .invokevirtual k, a, b, ps)) (ha : a < 998) (hk : sk = ((.inr r : gp_V) :: as).reverse ++ t) (hn : as.length + 1 = gm_na a) (hw : gp_wd t ≤ 8) (h3 : r % 8 = 3) (hs : (gs_sh (r / 8)).1 = gm_ci a) (hci : gm_ci a < 100) {Ψ : gp_F} (hcall : gp_call gs_sh 100 a (.inr r :: as) σ Ψ) (hm : ∀ (F G : gp_F), (∀ v σ, F v σ → G v σ) → gp_call gs_sh 100 a (.inr r :: as) σ F → gp_call gs_sh 100 a (.inr r :: as) σ G)
    (h : ∀ v σ', Ψ v σ' → G (pc + ln) al (gp_ret (gm_rc a) v t) σ') : G pc al sk σ := by
  refine HS _ _ _ _ _ hc ?_
  show (if a < 998 then gp_inv gs_sh (gp_call gs_sh 100) a true (fun sk σ => G (pc + ln) al sk σ) sk σ else _)
  rw [if_pos ha]
  exact ⟨.inr r :: as, t, hk, hn, hw, fun _ => ⟨r, as, rfl, h3, hs, hci⟩, hm _ _ h hcall⟩
theorem gj_sw (HS : gl_HS G) {d lo hi : Int} {os : Array Int} {v : Int} (hc : gh_at gl_law pc = some (pc, ln, .tableswitch d lo hi os, a, b, ps)) (h : (∃ q ∈ ps, v = gp_li q.1 ∧ G q.2 al sk σ) ∨ ((∀ q ∈ ps, ¬ v = gp_li q.1) ∧ G b al sk σ)) : G pc al (.inl v :: sk) σ := HS _ _ _ _ _ hc h
theorem gj_fetch (HS : gl_HS G) {ρ : Nat → Int32} {L : Nat} (HI : gl_HI ρ L G) {i : Int} (k n : Nat) {c : Int} (h1 : gh_at gl_law pc = some (pc, 1, .aload_n 0, 0, 0, [])) (h2 : gh_at gl_law (pc + 1) = some (pc + 1, 1, .iload_n 3, 0, 0, [])) (h3 : gh_at gl_law (pc + 2) = some (pc + 2, 1, .iconst c, n, 0, [])) (h4 : gh_at gl_law (pc + 3) = some (pc + 3, 1, .iadd, 0, 0, [])) (h5 : gh_at gl_law (pc + 4) = some (pc + 4, 1, .iaload, 0, 0, [])) (hk : gp_li n = (k : Int)) (h6 : k < 6) (h0 : 0 ≤ i) (hL : i + 5 < (L : Int)) (hb : L < 1000000) (h : G (pc + 5) (gl_al i) (.inl (ρ (i + k).toNat).toInt :: sk) σ) : G pc (gl_al i) sk σ := by
  refine gj_aload_n HS h1 rfl rfl ?_
  refine gj_iload_n HS h2 rfl ?_
  refine gj_iconst HS (x := (k : Int)) h3 hk ?_
  refine gj_iadd HS (z := i + k) h4 (gh_add (by unfold gh_r; omega) (by unfold gh_r; omega) (by unfold gh_r; omega)) ?_
  exact HI _ _ _ _ _ h5 (by omega) (by omega) h
end GJ
theorem gl_r (x : Int32) : gh_r x.toInt := ⟨Int32.le_toInt x, Int32.toInt_lt x⟩
theorem gl_time {σ : gp_S} {T : Int} (hI : gl_I σ) (h0 : 0 ≤ T) (h1 : T ≤ 100000) : gl_I (gp_up (gp_up σ 216 9 T) 236 62 T) := by
  obtain ⟨i1, ⟨b, f, hb, hW, hY⟩, i3, i4, i5⟩ := hI
  have e : ∀ c j, ¬ (c = 216 ∧ j = 9) → ¬ (c = 236 ∧ j = 62) → (gp_up (gp_up σ 216 9 T) 236 62 T) c j = σ c j := fun c j q1 q2 => (gh_up_ne q2).trans (gh_up_ne q1)
  have Y : gm_Y f (gp_up (gp_up σ 216 9 T) 236 62 T) := ⟨hY.1, gm_Xe hY.2.1 (fun j => e _ _ (fun q => absurd q.1 (by decide)) (fun q => absurd q.1 (by decide))) (fun j => e _ _ (fun q => absurd q.1 (by decide)) (fun q => absurd q.1 (by decide))) (fun j => e _ _ (fun q => absurd q.1 (by decide)) (fun q => absurd q.1 (by decide))) (fun j => e _ _ (fun q => absurd q.1 (by decide)) (fun q => absurd q.1 (by decide))) (fun j => e _ _ (fun q => absurd q.1 (by decide)) (fun q => absurd q.1 (by decide))) (fun j => e _ _ (fun q => absurd q.1 (by decide)) (fun q => absurd q.1 (by decide))) (e _ _ (by decide) (by decide)) (e _ _ (by decide) (by decide)), gv_q_eq (fun j _ => e _ _ (fun q => absurd q.1 (by decide)) (fun q => absurd q.1 (by decide))) hY.2.2⟩
  refine ⟨?_, ⟨b, f, hb, ?_, Y⟩, ?_, ?_, ?_⟩
  · intro c j h9 hj h2
    have hc := gs_wx_out h9
    rw [gh_up_ne (fun q => by have := q.1; omega)]
    exact gh_Wu i1 (c := 216) (j := 9) (x := T) (fun _ => gh_any (by unfold gh_r; omega)) c j h9 hj h2
  · refine gh_Wu ?_ (c := 236) (j := 62) (x := T) (fun _ => gh_any (by unfold gh_r; omega))
    intro c j h9 hj h2
    have hc := gs_wm_out h9
    rw [gh_up_ne (fun q => by have := q.1; omega)]
    exact hW c j h9 hj h2
  · rw [gh_up_eq, gh_up_ne (by decide), gh_up_eq]
  · rw [gh_up_eq]; exact h0
  · rw [gh_up_eq]; exact h1

set_option maxRecDepth 100000 in
theorem gl_c0 {G : gp_G} (HS : gl_HS G) {ρ : Nat → Int32} {L : Nat} (HI : gl_HI ρ L G) {i : Int} (hi : 0 ≤ i) (hL : i + 5 < (L : Int)) (hb9 : L < 1000000) {σ : gp_S} (I0 : gl_I σ) (K : ∀ σ', gl_I σ' → G 1380 (gl_al i) [] σ') : G 240 (gl_al i) [] σ := by
  refine gj_aload_n HS (show gh_at gl_law 240 = some (240, 1, .aload_n 1, 0, 0, []) from rfl) rfl rfl ?_
  refine gj_fetch HS HI 1 8 (show gh_at gl_law 241 = some (241, 1, .aload_n 0, 0, 0, []) from rfl) (show gh_at gl_law 242 = some (242, 1, .iload_n 3, 0, 0, []) from rfl) (show gh_at gl_law 243 = some (243, 1, .iconst 1, 8, 0, []) from rfl) (show gh_at gl_law 244 = some (244, 1, .iadd, 0, 0, []) from rfl) (show gh_at gl_law 245 = some (245, 1, .iaload, 0, 0, []) from rfl) (by decide) (by decide) hi hL hb9 ?_
  refine gj_fetch HS HI 2 16 (show gh_at gl_law 246 = some (246, 1, .aload_n 0, 0, 0, []) from rfl) (show gh_at gl_law 247 = some (247, 1, .iload_n 3, 0, 0, []) from rfl) (show gh_at gl_law 248 = some (248, 1, .iconst 2, 16, 0, []) from rfl) (show gh_at gl_law 249 = some (249, 1, .iadd, 0, 0, []) from rfl) (show gh_at gl_law 250 = some (250, 1, .iaload, 0, 0, []) from rfl) (by decide) (by decide) hi hL hb9 ?_
  refine gj_fetch HS HI 3 24 (show gh_at gl_law 251 = some (251, 1, .aload_n 0, 0, 0, []) from rfl) (show gh_at gl_law 252 = some (252, 1, .iload_n 3, 0, 0, []) from rfl) (show gh_at gl_law 253 = some (253, 1, .iconst 3, 24, 0, []) from rfl) (show gh_at gl_law 254 = some (254, 1, .iadd, 0, 0, []) from rfl) (show gh_at gl_law 255 = some (255, 1, .iaload, 0, 0, []) from rfl) (by decide) (by decide) hi hL hb9 ?_
  refine gj_fetch HS HI 4 32 (show gh_at gl_law 256 = some (256, 1, .aload_n 0, 0, 0, []) from rfl) (show gh_at gl_law 257 = some (257, 1, .iload_n 3, 0, 0, []) from rfl) (show gh_at gl_law 258 = some (258, 1, .iconst 4, 32, 0, []) from rfl) (show gh_at gl_law 259 = some (259, 1, .iadd, 0, 0, []) from rfl) (show gh_at gl_law 260 = some (260, 1, .iaload, 0, 0, []) from rfl) (by decide) (by decide) hi hL hb9 ?_
  refine gj_fetch HS HI 5 40 (show gh_at gl_law 261 = some (261, 1, .aload_n 0, 0, 0, []) from rfl) (show gh_at gl_law 262 = some (262, 1, .iload_n 3, 0, 0, []) from rfl) (show gh_at gl_law 263 = some (263, 1, .iconst 5, 40, 0, []) from rfl) (show gh_at gl_law 264 = some (264, 1, .iadd, 0, 0, []) from rfl) (show gh_at gl_law 265 = some (265, 1, .iaload, 0, 0, []) from rfl) (by decide) (by decide) hi hL hb9 ?_
  refine gj_callV HS (r := 3) (as := [.inl (ρ (i + 1).toNat).toInt, .inl (ρ (i + 2).toNat).toInt, .inl (ρ (i + 3).toNat).toInt, .inl (ρ (i + 4).toNat).toInt, .inl (ρ (i + 5).toNat).toInt]) (t := []) (show gh_at gl_law 266 = some (266, 3, .invokevirtual 13, 182, 0, [(0, 715)]) from rfl) (by decide) rfl (by show 6 = _; decide +kernel) (Nat.le_trans (gh_wd _) (Nat.le_of_ble_eq_true rfl)) rfl (by decide +kernel) (by decide +kernel) (Ψ := fun v σ' => gl_I σ' ∧ ∃ z : Int, v = .inl z) (gl_cls (fun σr => cy_1 σr) (by decide) (by decide +kernel) (by decide) ⟨Or.inr (Or.inl ⟨rfl, rfl⟩), gh_any (gl_r _), gh_any (gl_r _), gh_any (gl_r _), gh_any (gl_r _), gh_any (gl_r _), trivial⟩ I0) gh_mono (fun v σ1 hv => ?_)
  obtain ⟨I1, z, rfl⟩ := hv
  rw [show gm_rc 182 = 1 by decide +kernel]
  show G _ _ [.inl z] σ1
  refine gj_pop HS (show gh_at gl_law 269 = some (269, 1, .pop, 0, 0, []) from rfl) rfl ?_
  refine gj_aload_n HS (show gh_at gl_law 270 = some (270, 1, .aload_n 2, 0, 0, []) from rfl) rfl rfl ?_
  refine gj_fetch HS HI 1 8 (show gh_at gl_law 271 = some (271, 1, .aload_n 0, 0, 0, []) from rfl) (show gh_at gl_law 272 = some (272, 1, .iload_n 3, 0, 0, []) from rfl) (show gh_at gl_law 273 = some (273, 1, .iconst 1, 8, 0, []) from rfl) (show gh_at gl_law 274 = some (274, 1, .iadd, 0, 0, []) from rfl) (show gh_at gl_law 275 = some (275, 1, .iaload, 0, 0, []) from rfl) (by decide) (by decide) hi hL hb9 ?_
  refine gj_fetch HS HI 2 16 (show gh_at gl_law 276 = some (276, 1, .aload_n 0, 0, 0, []) from rfl) (show gh_at gl_law 277 = some (277, 1, .iload_n 3, 0, 0, []) from rfl) (show gh_at gl_law 278 = some (278, 1, .iconst 2, 16, 0, []) from rfl) (show gh_at gl_law 279 = some (279, 1, .iadd, 0, 0, []) from rfl) (show gh_at gl_law 280 = some (280, 1, .iaload, 0, 0, []) from rfl) (by decide) (by decide) hi hL hb9 ?_
  refine gj_fetch HS HI 3 24 (show gh_at gl_law 281 = some (281, 1, .aload_n 0, 0, 0, []) from rfl) (show gh_at gl_law 282 = some (282, 1, .iload_n 3, 0, 0, []) from rfl) (show gh_at gl_law 283 = some (283, 1, .iconst 3, 24, 0, []) from rfl) (show gh_at gl_law 284 = some (284, 1, .iadd, 0, 0, []) from rfl) (show gh_at gl_law 285 = some (285, 1, .iaload, 0, 0, []) from rfl) (by decide) (by decide) hi hL hb9 ?_
  refine gj_fetch HS HI 4 32 (show gh_at gl_law 286 = some (286, 1, .aload_n 0, 0, 0, []) from rfl) (show gh_at gl_law 287 = some (287, 1, .iload_n 3, 0, 0, []) from rfl) (show gh_at gl_law 288 = some (288, 1, .iconst 4, 32, 0, []) from rfl) (show gh_at gl_law 289 = some (289, 1, .iadd, 0, 0, []) from rfl) (show gh_at gl_law 290 = some (290, 1, .iaload, 0, 0, []) from rfl) (by decide) (by decide) hi hL hb9 ?_
  refine gj_fetch HS HI 5 40 (show gh_at gl_law 291 = some (291, 1, .aload_n 0, 0, 0, []) from rfl) (show gh_at gl_law 292 = some (292, 1, .iload_n 3, 0, 0, []) from rfl) (show gh_at gl_law 293 = some (293, 1, .iconst 5, 40, 0, []) from rfl) (show gh_at gl_law 294 = some (294, 1, .iadd, 0, 0, []) from rfl) (show gh_at gl_law 295 = some (295, 1, .iaload, 0, 0, []) from rfl) (by decide) (by decide) hi hL hb9 ?_
  refine gj_callV HS (r := 1891) (as := [.inl (ρ (i + 1).toNat).toInt, .inl (ρ (i + 2).toNat).toInt, .inl (ρ (i + 3).toNat).toInt, .inl (ρ (i + 4).toNat).toInt, .inl (ρ (i + 5).toNat).toInt]) (t := []) (show gh_at gl_law 296 = some (296, 3, .invokevirtual 17, 183, 0, [(0, 2126)]) from rfl) (by decide) rfl (by show 6 = _; decide +kernel) (Nat.le_trans (gh_wd _) (Nat.le_of_ble_eq_true rfl)) rfl (by decide +kernel) (by decide +kernel) (Ψ := fun v σ' => gl_I σ' ∧ ∃ z : Int, v = .inl z) (gl_mX (fun hb hf => cn_40 hb hf) (by decide +kernel) (by decide) (by decide +kernel) (by decide) (by show gl_ml [(236, 2), (237, 1048576)]; unfold gl_ml; decide +kernel) ⟨Or.inr (Or.inl ⟨rfl, rfl⟩), gh_any (gl_r _), gh_any (gl_r _), gh_any (gl_r _), gh_any (gl_r _), gh_any (gl_r _), trivial⟩ I1) gh_mono (fun v σ2 hv => ?_)
  obtain ⟨I2, z, rfl⟩ := hv
  rw [show gm_rc 183 = 1 by decide +kernel]
  show G _ _ [.inl z] σ2
  refine gj_pop HS (show gh_at gl_law 299 = some (299, 1, .pop, 0, 0, []) from rfl) rfl ?_
  refine gj_goto HS (show gh_at gl_law 300 = some (300, 3, .goto (1080), 0, 1380, []) from rfl) ?_
  exact K σ2 I2
set_option maxRecDepth 100000 in
theorem gl_c1 {G : gp_G} (HS : gl_HS G) {ρ : Nat → Int32} {L : Nat} (HI : gl_HI ρ L G) {i : Int} (hi : 0 ≤ i) (hL : i + 5 < (L : Int)) (hb9 : L < 1000000) {σ : gp_S} (I0 : gl_I σ) (K : ∀ σ', gl_I σ' → G 1380 (gl_al i) [] σ') : G 303 (gl_al i) [] σ := by
  refine gj_aload_n HS (show gh_at gl_law 303 = some (303, 1, .aload_n 1, 0, 0, []) from rfl) rfl rfl ?_
  refine gj_fetch HS HI 1 8 (show gh_at gl_law 304 = some (304, 1, .aload_n 0, 0, 0, []) from rfl) (show gh_at gl_law 305 = some (305, 1, .iload_n 3, 0, 0, []) from rfl) (show gh_at gl_law 306 = some (306, 1, .iconst 1, 8, 0, []) from rfl) (show gh_at gl_law 307 = some (307, 1, .iadd, 0, 0, []) from rfl) (show gh_at gl_law 308 = some (308, 1, .iaload, 0, 0, []) from rfl) (by decide) (by decide) hi hL hb9 ?_
  refine gj_callV HS (r := 3) (as := [.inl (ρ (i + 1).toNat).toInt]) (t := []) (show gh_at gl_law 309 = some (309, 3, .invokevirtual 18, 181, 0, [(0, 723)]) from rfl) (by decide) rfl (by show 2 = _; decide +kernel) (Nat.le_trans (gh_wd _) (Nat.le_of_ble_eq_true rfl)) rfl (by decide +kernel) (by decide +kernel) (Ψ := fun v σ' => gl_I σ' ∧ ∃ z : Int, v = .inl z) (gl_cls (fun σr => cy_2 σr) (by decide) (by decide +kernel) (by decide) ⟨Or.inr (Or.inl ⟨rfl, rfl⟩), gh_any (gl_r _), trivial⟩ I0) gh_mono (fun v σ1 hv => ?_)
  obtain ⟨I1, z, rfl⟩ := hv
  rw [show gm_rc 181 = 1 by decide +kernel]
  show G _ _ [.inl z] σ1
  refine gj_pop HS (show gh_at gl_law 312 = some (312, 1, .pop, 0, 0, []) from rfl) rfl ?_
  refine gj_aload_n HS (show gh_at gl_law 313 = some (313, 1, .aload_n 2, 0, 0, []) from rfl) rfl rfl ?_
  refine gj_fetch HS HI 1 8 (show gh_at gl_law 314 = some (314, 1, .aload_n 0, 0, 0, []) from rfl) (show gh_at gl_law 315 = some (315, 1, .iload_n 3, 0, 0, []) from rfl) (show gh_at gl_law 316 = some (316, 1, .iconst 1, 8, 0, []) from rfl) (show gh_at gl_law 317 = some (317, 1, .iadd, 0, 0, []) from rfl) (show gh_at gl_law 318 = some (318, 1, .iaload, 0, 0, []) from rfl) (by decide) (by decide) hi hL hb9 ?_
  refine gj_callV HS (r := 1891) (as := [.inl (ρ (i + 1).toNat).toInt]) (t := []) (show gh_at gl_law 319 = some (319, 3, .invokevirtual 22, 57, 0, [(0, 2130)]) from rfl) (by decide) rfl (by show 2 = _; decide +kernel) (Nat.le_trans (gh_wd _) (Nat.le_of_ble_eq_true rfl)) rfl (by decide +kernel) (by decide +kernel) (Ψ := fun v σ' => gl_I σ' ∧ ∃ z : Int, v = .inl z) (gl_mX (fun hb hf => cn_41 hb hf) (by decide +kernel) (by decide) (by decide +kernel) (by decide) (by show gl_ml [(236, 2)]; unfold gl_ml; decide +kernel) ⟨Or.inr (Or.inl ⟨rfl, rfl⟩), gh_any (gl_r _), trivial⟩ I1) gh_mono (fun v σ2 hv => ?_)
  obtain ⟨I2, z, rfl⟩ := hv
  rw [show gm_rc 57 = 1 by decide +kernel]
  show G _ _ [.inl z] σ2
  refine gj_pop HS (show gh_at gl_law 322 = some (322, 1, .pop, 0, 0, []) from rfl) rfl ?_
  refine gj_goto HS (show gh_at gl_law 323 = some (323, 3, .goto (1057), 0, 1380, []) from rfl) ?_
  exact K σ2 I2
set_option maxRecDepth 100000 in
theorem gl_c2 {G : gp_G} (HS : gl_HS G) {ρ : Nat → Int32} {L : Nat} (HI : gl_HI ρ L G) {i : Int} (hi : 0 ≤ i) (hL : i + 5 < (L : Int)) (hb9 : L < 1000000) {σ : gp_S} (I0 : gl_I σ) (K : ∀ σ', gl_I σ' → G 1380 (gl_al i) [] σ') : G 326 (gl_al i) [] σ := by
  refine gj_aload_n HS (show gh_at gl_law 326 = some (326, 1, .aload_n 1, 0, 0, []) from rfl) rfl rfl ?_
  refine gj_callV HS (r := 3) (as := []) (t := []) (show gh_at gl_law 327 = some (327, 3, .invokevirtual 23, 172, 0, [(0, 727)]) from rfl) (by decide) rfl (by show 1 = _; decide +kernel) (Nat.le_trans (gh_wd _) (Nat.le_of_ble_eq_true rfl)) rfl (by decide +kernel) (by decide +kernel) (Ψ := fun v σ' => gl_I σ' ∧ ∃ z : Int, v = .inl z) (gl_cls (fun σr => cy_75 σr) (by decide) (by decide +kernel) (by decide) ⟨Or.inr (Or.inl ⟨rfl, rfl⟩), trivial⟩ I0) gh_mono (fun v σ1 hv => ?_)
  obtain ⟨I1, z, rfl⟩ := hv
  rw [show gm_rc 172 = 1 by decide +kernel]
  show G _ _ [.inl z] σ1
  refine gj_pop HS (show gh_at gl_law 330 = some (330, 1, .pop, 0, 0, []) from rfl) rfl ?_
  refine gj_aload_n HS (show gh_at gl_law 331 = some (331, 1, .aload_n 2, 0, 0, []) from rfl) rfl rfl ?_
  obtain ⟨-, ⟨b, f, hb, hW, hY⟩, -⟩ := id I1
  refine gj_callV HS (r := 1891) (as := []) (t := []) (show gh_at gl_law 332 = some (332, 3, .invokevirtual 27, 178, 0, [(0, 1637)]) from rfl) (by decide) rfl (by show 1 = _; decide +kernel) (Nat.le_trans (gh_wd _) (Nat.le_of_ble_eq_true rfl)) rfl (by decide +kernel) (by decide +kernel) (Ψ := fun v σ' => gl_I σ' ∧ ∃ z : Int, v = .inl z) (gp_call_le (by show 9 ≤ 100; decide) (gp_call_post (fun v σ' h => by obtain ⟨B, F, q1, q2, q3, q4, q5, q6⟩ := h; obtain ⟨z, rfl, -⟩ := gh_tvi (by decide) q6; exact ⟨gl_mod I1 q1 q2 q3 q4 q5, z, rfl⟩) (gz_dinner hb hW hY))) gh_mono (fun v σ2 hv => ?_)
  obtain ⟨I2, z, rfl⟩ := hv
  rw [show gm_rc 178 = 1 by decide +kernel]
  show G _ _ [.inl z] σ2
  refine gj_pop HS (show gh_at gl_law 335 = some (335, 1, .pop, 0, 0, []) from rfl) rfl ?_
  refine gj_goto HS (show gh_at gl_law 336 = some (336, 3, .goto (1044), 0, 1380, []) from rfl) ?_
  exact K σ2 I2
set_option maxRecDepth 100000 in
theorem gl_c3 {G : gp_G} (HS : gl_HS G) {ρ : Nat → Int32} {L : Nat} (HI : gl_HI ρ L G) {i : Int} (hi : 0 ≤ i) (hL : i + 5 < (L : Int)) (hb9 : L < 1000000) {σ : gp_S} (I0 : gl_I σ) (K : ∀ σ', gl_I σ' → G 1380 (gl_al i) [] σ') : G 339 (gl_al i) [] σ := by
  refine gj_aload_n HS (show gh_at gl_law 339 = some (339, 1, .aload_n 1, 0, 0, []) from rfl) rfl rfl ?_
  refine gj_fetch HS HI 1 8 (show gh_at gl_law 340 = some (340, 1, .aload_n 0, 0, 0, []) from rfl) (show gh_at gl_law 341 = some (341, 1, .iload_n 3, 0, 0, []) from rfl) (show gh_at gl_law 342 = some (342, 1, .iconst 1, 8, 0, []) from rfl) (show gh_at gl_law 343 = some (343, 1, .iadd, 0, 0, []) from rfl) (show gh_at gl_law 344 = some (344, 1, .iaload, 0, 0, []) from rfl) (by decide) (by decide) hi hL hb9 ?_
  refine gj_callV HS (r := 3) (as := [.inl (ρ (i + 1).toNat).toInt]) (t := []) (show gh_at gl_law 345 = some (345, 3, .invokevirtual 28, 171, 0, [(0, 933)]) from rfl) (by decide) rfl (by show 2 = _; decide +kernel) (Nat.le_trans (gh_wd _) (Nat.le_of_ble_eq_true rfl)) rfl (by decide +kernel) (by decide +kernel) (Ψ := fun v σ' => gl_I σ' ∧ ∃ z : Int, v = .inl z) (gl_cls (fun σr => cy_76 σr) (by decide) (by decide +kernel) (by decide) ⟨Or.inr (Or.inl ⟨rfl, rfl⟩), gh_any (gl_r _), trivial⟩ I0) gh_mono (fun v σ1 hv => ?_)
  obtain ⟨I1, z, rfl⟩ := hv
  rw [show gm_rc 171 = 1 by decide +kernel]
  show G _ _ [.inl z] σ1
  refine gj_pop HS (show gh_at gl_law 348 = some (348, 1, .pop, 0, 0, []) from rfl) rfl ?_
  refine gj_aload_n HS (show gh_at gl_law 349 = some (349, 1, .aload_n 2, 0, 0, []) from rfl) rfl rfl ?_
  refine gj_fetch HS HI 1 8 (show gh_at gl_law 350 = some (350, 1, .aload_n 0, 0, 0, []) from rfl) (show gh_at gl_law 351 = some (351, 1, .iload_n 3, 0, 0, []) from rfl) (show gh_at gl_law 352 = some (352, 1, .iconst 1, 8, 0, []) from rfl) (show gh_at gl_law 353 = some (353, 1, .iadd, 0, 0, []) from rfl) (show gh_at gl_law 354 = some (354, 1, .iaload, 0, 0, []) from rfl) (by decide) (by decide) hi hL hb9 ?_
  refine gj_callV HS (r := 1891) (as := [.inl (ρ (i + 1).toNat).toInt]) (t := []) (show gh_at gl_law 355 = some (355, 3, .invokevirtual 31, 41, 0, [(0, 1774)]) from rfl) (by decide) rfl (by show 2 = _; decide +kernel) (Nat.le_trans (gh_wd _) (Nat.le_of_ble_eq_true rfl)) rfl (by decide +kernel) (by decide +kernel) (Ψ := fun v σ' => gl_I σ' ∧ ∃ z : Int, v = .inl z) (gl_mX (fun hb hf => cn_21 hb hf) (by decide +kernel) (by decide) (by decide +kernel) (by decide) (by show gl_ml []; unfold gl_ml; decide +kernel) ⟨Or.inr (Or.inl ⟨rfl, rfl⟩), gh_any (gl_r _), trivial⟩ I1) gh_mono (fun v σ2 hv => ?_)
  obtain ⟨I2, z, rfl⟩ := hv
  rw [show gm_rc 41 = 1 by decide +kernel]
  show G _ _ [.inl z] σ2
  refine gj_pop HS (show gh_at gl_law 358 = some (358, 1, .pop, 0, 0, []) from rfl) rfl ?_
  refine gj_goto HS (show gh_at gl_law 359 = some (359, 3, .goto (1021), 0, 1380, []) from rfl) ?_
  exact K σ2 I2
set_option maxRecDepth 100000 in
theorem gl_c4 {G : gp_G} (HS : gl_HS G) {ρ : Nat → Int32} {L : Nat} (HI : gl_HI ρ L G) {i : Int} (hi : 0 ≤ i) (hL : i + 5 < (L : Int)) (hb9 : L < 1000000) {σ : gp_S} (I0 : gl_I σ) (K : ∀ σ', gl_I σ' → G 1380 (gl_al i) [] σ') : G 362 (gl_al i) [] σ := by
  refine gj_aload_n HS (show gh_at gl_law 362 = some (362, 1, .aload_n 1, 0, 0, []) from rfl) rfl rfl ?_
  refine gj_fetch HS HI 1 8 (show gh_at gl_law 363 = some (363, 1, .aload_n 0, 0, 0, []) from rfl) (show gh_at gl_law 364 = some (364, 1, .iload_n 3, 0, 0, []) from rfl) (show gh_at gl_law 365 = some (365, 1, .iconst 1, 8, 0, []) from rfl) (show gh_at gl_law 366 = some (366, 1, .iadd, 0, 0, []) from rfl) (show gh_at gl_law 367 = some (367, 1, .iaload, 0, 0, []) from rfl) (by decide) (by decide) hi hL hb9 ?_
  refine gj_fetch HS HI 2 16 (show gh_at gl_law 368 = some (368, 1, .aload_n 0, 0, 0, []) from rfl) (show gh_at gl_law 369 = some (369, 1, .iload_n 3, 0, 0, []) from rfl) (show gh_at gl_law 370 = some (370, 1, .iconst 2, 16, 0, []) from rfl) (show gh_at gl_law 371 = some (371, 1, .iadd, 0, 0, []) from rfl) (show gh_at gl_law 372 = some (372, 1, .iaload, 0, 0, []) from rfl) (by decide) (by decide) hi hL hb9 ?_
  refine gj_callV HS (r := 3) (as := [.inl (ρ (i + 1).toNat).toInt, .inl (ρ (i + 2).toNat).toInt]) (t := []) (show gh_at gl_law 373 = some (373, 3, .invokevirtual 32, 170, 0, [(0, 937)]) from rfl) (by decide) rfl (by show 3 = _; decide +kernel) (Nat.le_trans (gh_wd _) (Nat.le_of_ble_eq_true rfl)) rfl (by decide +kernel) (by decide +kernel) (Ψ := fun v σ' => gl_I σ' ∧ ∃ z : Int, v = .inl z) (gl_cls (fun σr => cy_77 σr) (by decide) (by decide +kernel) (by decide) ⟨Or.inr (Or.inl ⟨rfl, rfl⟩), gh_any (gl_r _), gh_any (gl_r _), trivial⟩ I0) gh_mono (fun v σ1 hv => ?_)
  obtain ⟨I1, z, rfl⟩ := hv
  rw [show gm_rc 170 = 1 by decide +kernel]
  show G _ _ [.inl z] σ1
  refine gj_pop HS (show gh_at gl_law 376 = some (376, 1, .pop, 0, 0, []) from rfl) rfl ?_
  refine gj_aload_n HS (show gh_at gl_law 377 = some (377, 1, .aload_n 2, 0, 0, []) from rfl) rfl rfl ?_
  refine gj_fetch HS HI 1 8 (show gh_at gl_law 378 = some (378, 1, .aload_n 0, 0, 0, []) from rfl) (show gh_at gl_law 379 = some (379, 1, .iload_n 3, 0, 0, []) from rfl) (show gh_at gl_law 380 = some (380, 1, .iconst 1, 8, 0, []) from rfl) (show gh_at gl_law 381 = some (381, 1, .iadd, 0, 0, []) from rfl) (show gh_at gl_law 382 = some (382, 1, .iaload, 0, 0, []) from rfl) (by decide) (by decide) hi hL hb9 ?_
  refine gj_fetch HS HI 2 16 (show gh_at gl_law 383 = some (383, 1, .aload_n 0, 0, 0, []) from rfl) (show gh_at gl_law 384 = some (384, 1, .iload_n 3, 0, 0, []) from rfl) (show gh_at gl_law 385 = some (385, 1, .iconst 2, 16, 0, []) from rfl) (show gh_at gl_law 386 = some (386, 1, .iadd, 0, 0, []) from rfl) (show gh_at gl_law 387 = some (387, 1, .iaload, 0, 0, []) from rfl) (by decide) (by decide) hi hL hb9 ?_
  refine gj_callV HS (r := 1891) (as := [.inl (ρ (i + 1).toNat).toInt, .inl (ρ (i + 2).toNat).toInt]) (t := []) (show gh_at gl_law 388 = some (388, 3, .invokevirtual 36, 87, 0, [(0, 1778)]) from rfl) (by decide) rfl (by show 3 = _; decide +kernel) (Nat.le_trans (gh_wd _) (Nat.le_of_ble_eq_true rfl)) rfl (by decide +kernel) (by decide +kernel) (Ψ := fun v σ' => gl_I σ' ∧ ∃ z : Int, v = .inl z) (gl_mX (fun hb hf => cn_22 hb hf) (by decide +kernel) (by decide) (by decide +kernel) (by decide) (by show gl_ml []; unfold gl_ml; decide +kernel) ⟨Or.inr (Or.inl ⟨rfl, rfl⟩), gh_any (gl_r _), gh_any (gl_r _), trivial⟩ I1) gh_mono (fun v σ2 hv => ?_)
  obtain ⟨I2, z, rfl⟩ := hv
  rw [show gm_rc 87 = 1 by decide +kernel]
  show G _ _ [.inl z] σ2
  refine gj_pop HS (show gh_at gl_law 391 = some (391, 1, .pop, 0, 0, []) from rfl) rfl ?_
  refine gj_goto HS (show gh_at gl_law 392 = some (392, 3, .goto (988), 0, 1380, []) from rfl) ?_
  exact K σ2 I2
set_option maxRecDepth 100000 in
theorem gl_c5 {G : gp_G} (HS : gl_HS G) {ρ : Nat → Int32} {L : Nat} (HI : gl_HI ρ L G) {i : Int} (hi : 0 ≤ i) (hL : i + 5 < (L : Int)) (hb9 : L < 1000000) {σ : gp_S} (I0 : gl_I σ) (K : ∀ σ', gl_I σ' → G 1380 (gl_al i) [] σ') : G 395 (gl_al i) [] σ := by
  refine gj_aload_n HS (show gh_at gl_law 395 = some (395, 1, .aload_n 1, 0, 0, []) from rfl) rfl rfl ?_
  refine gj_fetch HS HI 1 8 (show gh_at gl_law 396 = some (396, 1, .aload_n 0, 0, 0, []) from rfl) (show gh_at gl_law 397 = some (397, 1, .iload_n 3, 0, 0, []) from rfl) (show gh_at gl_law 398 = some (398, 1, .iconst 1, 8, 0, []) from rfl) (show gh_at gl_law 399 = some (399, 1, .iadd, 0, 0, []) from rfl) (show gh_at gl_law 400 = some (400, 1, .iaload, 0, 0, []) from rfl) (by decide) (by decide) hi hL hb9 ?_
  refine gj_callV HS (r := 3) (as := [.inl (ρ (i + 1).toNat).toInt]) (t := []) (show gh_at gl_law 401 = some (401, 3, .invokevirtual 37, 169, 0, [(0, 955)]) from rfl) (by decide) rfl (by show 2 = _; decide +kernel) (Nat.le_trans (gh_wd _) (Nat.le_of_ble_eq_true rfl)) rfl (by decide +kernel) (by decide +kernel) (Ψ := fun v σ' => gl_I σ' ∧ ∃ z : Int, v = .inl z) (gl_cls (fun σr => cy_78 σr) (by decide) (by decide +kernel) (by decide) ⟨Or.inr (Or.inl ⟨rfl, rfl⟩), gh_any (gl_r _), trivial⟩ I0) gh_mono (fun v σ1 hv => ?_)
  obtain ⟨I1, z, rfl⟩ := hv
  rw [show gm_rc 169 = 1 by decide +kernel]
  show G _ _ [.inl z] σ1
  refine gj_pop HS (show gh_at gl_law 404 = some (404, 1, .pop, 0, 0, []) from rfl) rfl ?_
  refine gj_aload_n HS (show gh_at gl_law 405 = some (405, 1, .aload_n 2, 0, 0, []) from rfl) rfl rfl ?_
  refine gj_fetch HS HI 1 8 (show gh_at gl_law 406 = some (406, 1, .aload_n 0, 0, 0, []) from rfl) (show gh_at gl_law 407 = some (407, 1, .iload_n 3, 0, 0, []) from rfl) (show gh_at gl_law 408 = some (408, 1, .iconst 1, 8, 0, []) from rfl) (show gh_at gl_law 409 = some (409, 1, .iadd, 0, 0, []) from rfl) (show gh_at gl_law 410 = some (410, 1, .iaload, 0, 0, []) from rfl) (by decide) (by decide) hi hL hb9 ?_
  refine gj_callV HS (r := 1891) (as := [.inl (ρ (i + 1).toNat).toInt]) (t := []) (show gh_at gl_law 411 = some (411, 3, .invokevirtual 40, 86, 0, [(0, 1790)]) from rfl) (by decide) rfl (by show 2 = _; decide +kernel) (Nat.le_trans (gh_wd _) (Nat.le_of_ble_eq_true rfl)) rfl (by decide +kernel) (by decide +kernel) (Ψ := fun v σ' => gl_I σ' ∧ ∃ z : Int, v = .inl z) (gl_mX (fun hb hf => cn_23 hb hf) (by decide +kernel) (by decide) (by decide +kernel) (by decide) (by show gl_ml []; unfold gl_ml; decide +kernel) ⟨Or.inr (Or.inl ⟨rfl, rfl⟩), gh_any (gl_r _), trivial⟩ I1) gh_mono (fun v σ2 hv => ?_)
  obtain ⟨I2, z, rfl⟩ := hv
  rw [show gm_rc 86 = 1 by decide +kernel]
  show G _ _ [.inl z] σ2
  refine gj_pop HS (show gh_at gl_law 414 = some (414, 1, .pop, 0, 0, []) from rfl) rfl ?_
  refine gj_goto HS (show gh_at gl_law 415 = some (415, 3, .goto (965), 0, 1380, []) from rfl) ?_
  exact K σ2 I2
set_option maxRecDepth 100000 in
theorem gl_c6 {G : gp_G} (HS : gl_HS G) {ρ : Nat → Int32} {L : Nat} (HI : gl_HI ρ L G) {i : Int} (hi : 0 ≤ i) (hL : i + 5 < (L : Int)) (hb9 : L < 1000000) {σ : gp_S} (I0 : gl_I σ) (K : ∀ σ', gl_I σ' → G 1380 (gl_al i) [] σ') : G 418 (gl_al i) [] σ := by
  refine gj_aload_n HS (show gh_at gl_law 418 = some (418, 1, .aload_n 1, 0, 0, []) from rfl) rfl rfl ?_
  refine gj_fetch HS HI 1 8 (show gh_at gl_law 419 = some (419, 1, .aload_n 0, 0, 0, []) from rfl) (show gh_at gl_law 420 = some (420, 1, .iload_n 3, 0, 0, []) from rfl) (show gh_at gl_law 421 = some (421, 1, .iconst 1, 8, 0, []) from rfl) (show gh_at gl_law 422 = some (422, 1, .iadd, 0, 0, []) from rfl) (show gh_at gl_law 423 = some (423, 1, .iaload, 0, 0, []) from rfl) (by decide) (by decide) hi hL hb9 ?_
  refine gj_fetch HS HI 2 16 (show gh_at gl_law 424 = some (424, 1, .aload_n 0, 0, 0, []) from rfl) (show gh_at gl_law 425 = some (425, 1, .iload_n 3, 0, 0, []) from rfl) (show gh_at gl_law 426 = some (426, 1, .iconst 2, 16, 0, []) from rfl) (show gh_at gl_law 427 = some (427, 1, .iadd, 0, 0, []) from rfl) (show gh_at gl_law 428 = some (428, 1, .iaload, 0, 0, []) from rfl) (by decide) (by decide) hi hL hb9 ?_
  refine gj_callV HS (r := 3) (as := [.inl (ρ (i + 1).toNat).toInt, .inl (ρ (i + 2).toNat).toInt]) (t := []) (show gh_at gl_law 429 = some (429, 3, .invokevirtual 41, 168, 0, [(0, 959)]) from rfl) (by decide) rfl (by show 3 = _; decide +kernel) (Nat.le_trans (gh_wd _) (Nat.le_of_ble_eq_true rfl)) rfl (by decide +kernel) (by decide +kernel) (Ψ := fun v σ' => gl_I σ' ∧ ∃ z : Int, v = .inl z) (gl_cls (fun σr => cy_79 σr) (by decide) (by decide +kernel) (by decide) ⟨Or.inr (Or.inl ⟨rfl, rfl⟩), gh_any (gl_r _), gh_any (gl_r _), trivial⟩ I0) gh_mono (fun v σ1 hv => ?_)
  obtain ⟨I1, z, rfl⟩ := hv
  rw [show gm_rc 168 = 1 by decide +kernel]
  show G _ _ [.inl z] σ1
  refine gj_pop HS (show gh_at gl_law 432 = some (432, 1, .pop, 0, 0, []) from rfl) rfl ?_
  refine gj_aload_n HS (show gh_at gl_law 433 = some (433, 1, .aload_n 2, 0, 0, []) from rfl) rfl rfl ?_
  refine gj_fetch HS HI 1 8 (show gh_at gl_law 434 = some (434, 1, .aload_n 0, 0, 0, []) from rfl) (show gh_at gl_law 435 = some (435, 1, .iload_n 3, 0, 0, []) from rfl) (show gh_at gl_law 436 = some (436, 1, .iconst 1, 8, 0, []) from rfl) (show gh_at gl_law 437 = some (437, 1, .iadd, 0, 0, []) from rfl) (show gh_at gl_law 438 = some (438, 1, .iaload, 0, 0, []) from rfl) (by decide) (by decide) hi hL hb9 ?_
  refine gj_fetch HS HI 2 16 (show gh_at gl_law 439 = some (439, 1, .aload_n 0, 0, 0, []) from rfl) (show gh_at gl_law 440 = some (440, 1, .iload_n 3, 0, 0, []) from rfl) (show gh_at gl_law 441 = some (441, 1, .iconst 2, 16, 0, []) from rfl) (show gh_at gl_law 442 = some (442, 1, .iadd, 0, 0, []) from rfl) (show gh_at gl_law 443 = some (443, 1, .iaload, 0, 0, []) from rfl) (by decide) (by decide) hi hL hb9 ?_
  refine gj_callV HS (r := 1891) (as := [.inl (ρ (i + 1).toNat).toInt, .inl (ρ (i + 2).toNat).toInt]) (t := []) (show gh_at gl_law 444 = some (444, 3, .invokevirtual 44, 85, 0, [(0, 1794)]) from rfl) (by decide) rfl (by show 3 = _; decide +kernel) (Nat.le_trans (gh_wd _) (Nat.le_of_ble_eq_true rfl)) rfl (by decide +kernel) (by decide +kernel) (Ψ := fun v σ' => gl_I σ' ∧ ∃ z : Int, v = .inl z) (gl_mX (fun hb hf => cn_24 hb hf) (by decide +kernel) (by decide) (by decide +kernel) (by decide) (by show gl_ml []; unfold gl_ml; decide +kernel) ⟨Or.inr (Or.inl ⟨rfl, rfl⟩), gh_any (gl_r _), gh_any (gl_r _), trivial⟩ I1) gh_mono (fun v σ2 hv => ?_)
  obtain ⟨I2, z, rfl⟩ := hv
  rw [show gm_rc 85 = 1 by decide +kernel]
  show G _ _ [.inl z] σ2
  refine gj_pop HS (show gh_at gl_law 447 = some (447, 1, .pop, 0, 0, []) from rfl) rfl ?_
  refine gj_goto HS (show gh_at gl_law 448 = some (448, 3, .goto (932), 0, 1380, []) from rfl) ?_
  exact K σ2 I2
set_option maxRecDepth 100000 in
theorem gl_c7 {G : gp_G} (HS : gl_HS G) {ρ : Nat → Int32} {L : Nat} (HI : gl_HI ρ L G) {i : Int} (hi : 0 ≤ i) (hL : i + 5 < (L : Int)) (hb9 : L < 1000000) {σ : gp_S} (I0 : gl_I σ) (K : ∀ σ', gl_I σ' → G 1380 (gl_al i) [] σ') : G 451 (gl_al i) [] σ := by
  refine gj_aload_n HS (show gh_at gl_law 451 = some (451, 1, .aload_n 1, 0, 0, []) from rfl) rfl rfl ?_
  refine gj_callV HS (r := 3) (as := []) (t := []) (show gh_at gl_law 452 = some (452, 3, .invokevirtual 45, 166, 0, [(0, 971)]) from rfl) (by decide) rfl (by show 1 = _; decide +kernel) (Nat.le_trans (gh_wd _) (Nat.le_of_ble_eq_true rfl)) rfl (by decide +kernel) (by decide +kernel) (Ψ := fun v σ' => gl_I σ' ∧ ∃ z : Int, v = .inl z) (gl_cls (fun σr => cy_124 σr) (by decide) (by decide +kernel) (by decide) ⟨Or.inr (Or.inl ⟨rfl, rfl⟩), trivial⟩ I0) gh_mono (fun v σ1 hv => ?_)
  obtain ⟨I1, z, rfl⟩ := hv
  rw [show gm_rc 166 = 1 by decide +kernel]
  show G _ _ [.inl z] σ1
  refine gj_pop HS (show gh_at gl_law 455 = some (455, 1, .pop, 0, 0, []) from rfl) rfl ?_
  refine gj_aload_n HS (show gh_at gl_law 456 = some (456, 1, .aload_n 2, 0, 0, []) from rfl) rfl rfl ?_
  refine gj_callV HS (r := 1891) (as := []) (t := []) (show gh_at gl_law 457 = some (457, 3, .invokevirtual 48, 167, 0, [(0, 1833)]) from rfl) (by decide) rfl (by show 1 = _; decide +kernel) (Nat.le_trans (gh_wd _) (Nat.le_of_ble_eq_true rfl)) rfl (by decide +kernel) (by decide +kernel) (Ψ := fun v σ' => gl_I σ' ∧ ∃ z : Int, v = .inl z) (gl_mY (fun hb hf => cn_51 hb hf) (by decide) (by decide +kernel) (by decide) (by show gl_ml [(236, 46), (236, 47), (259, 1048576), (260, 7), (260, 8), (260, 9), (260, 10), (260, 11), (260, 12), (260, 13), (260, 14), (260, 15), (260, 16), (260, 17), (260, 18), (260, 19), (260, 20), (260, 21), (260, 22), (260, 23), (260, 24), (260, 25), (260, 27), (260, 28), (264, 1048576)]; unfold gl_ml; decide +kernel) ⟨Or.inr (Or.inl ⟨rfl, rfl⟩), trivial⟩ I1) gh_mono (fun v σ2 hv => ?_)
  obtain ⟨I2, z, rfl⟩ := hv
  rw [show gm_rc 167 = 1 by decide +kernel]
  show G _ _ [.inl z] σ2
  refine gj_pop HS (show gh_at gl_law 460 = some (460, 1, .pop, 0, 0, []) from rfl) rfl ?_
  refine gj_goto HS (show gh_at gl_law 461 = some (461, 3, .goto (919), 0, 1380, []) from rfl) ?_
  exact K σ2 I2
set_option maxRecDepth 100000 in
theorem gl_c8 {G : gp_G} (HS : gl_HS G) {ρ : Nat → Int32} {L : Nat} (HI : gl_HI ρ L G) {i : Int} (hi : 0 ≤ i) (hL : i + 5 < (L : Int)) (hb9 : L < 1000000) {σ : gp_S} (I0 : gl_I σ) (K : ∀ σ', gl_I σ' → G 1380 (gl_al i) [] σ') : G 464 (gl_al i) [] σ := by
  refine gj_aload_n HS (show gh_at gl_law 464 = some (464, 1, .aload_n 1, 0, 0, []) from rfl) rfl rfl ?_
  refine gj_fetch HS HI 1 8 (show gh_at gl_law 465 = some (465, 1, .aload_n 0, 0, 0, []) from rfl) (show gh_at gl_law 466 = some (466, 1, .iload_n 3, 0, 0, []) from rfl) (show gh_at gl_law 467 = some (467, 1, .iconst 1, 8, 0, []) from rfl) (show gh_at gl_law 468 = some (468, 1, .iadd, 0, 0, []) from rfl) (show gh_at gl_law 469 = some (469, 1, .iaload, 0, 0, []) from rfl) (by decide) (by decide) hi hL hb9 ?_
  refine gj_fetch HS HI 2 16 (show gh_at gl_law 470 = some (470, 1, .aload_n 0, 0, 0, []) from rfl) (show gh_at gl_law 471 = some (471, 1, .iload_n 3, 0, 0, []) from rfl) (show gh_at gl_law 472 = some (472, 1, .iconst 2, 16, 0, []) from rfl) (show gh_at gl_law 473 = some (473, 1, .iadd, 0, 0, []) from rfl) (show gh_at gl_law 474 = some (474, 1, .iaload, 0, 0, []) from rfl) (by decide) (by decide) hi hL hb9 ?_
  refine gj_callV HS (r := 3) (as := [.inl (ρ (i + 1).toNat).toInt, .inl (ρ (i + 2).toNat).toInt]) (t := []) (show gh_at gl_law 475 = some (475, 3, .invokevirtual 49, 165, 0, [(0, 1008)]) from rfl) (by decide) rfl (by show 3 = _; decide +kernel) (Nat.le_trans (gh_wd _) (Nat.le_of_ble_eq_true rfl)) rfl (by decide +kernel) (by decide +kernel) (Ψ := fun v σ' => gl_I σ' ∧ ∃ z : Int, v = .inl z) (gl_cls (fun σr => cy_126 σr) (by decide) (by decide +kernel) (by decide) ⟨Or.inr (Or.inl ⟨rfl, rfl⟩), gh_any (gl_r _), gh_any (gl_r _), trivial⟩ I0) gh_mono (fun v σ1 hv => ?_)
  obtain ⟨I1, z, rfl⟩ := hv
  rw [show gm_rc 165 = 1 by decide +kernel]
  show G _ _ [.inl z] σ1
  refine gj_pop HS (show gh_at gl_law 478 = some (478, 1, .pop, 0, 0, []) from rfl) rfl ?_
  refine gj_aload_n HS (show gh_at gl_law 479 = some (479, 1, .aload_n 2, 0, 0, []) from rfl) rfl rfl ?_
  refine gj_fetch HS HI 1 8 (show gh_at gl_law 480 = some (480, 1, .aload_n 0, 0, 0, []) from rfl) (show gh_at gl_law 481 = some (481, 1, .iload_n 3, 0, 0, []) from rfl) (show gh_at gl_law 482 = some (482, 1, .iconst 1, 8, 0, []) from rfl) (show gh_at gl_law 483 = some (483, 1, .iadd, 0, 0, []) from rfl) (show gh_at gl_law 484 = some (484, 1, .iaload, 0, 0, []) from rfl) (by decide) (by decide) hi hL hb9 ?_
  refine gj_fetch HS HI 2 16 (show gh_at gl_law 485 = some (485, 1, .aload_n 0, 0, 0, []) from rfl) (show gh_at gl_law 486 = some (486, 1, .iload_n 3, 0, 0, []) from rfl) (show gh_at gl_law 487 = some (487, 1, .iconst 2, 16, 0, []) from rfl) (show gh_at gl_law 488 = some (488, 1, .iadd, 0, 0, []) from rfl) (show gh_at gl_law 489 = some (489, 1, .iaload, 0, 0, []) from rfl) (by decide) (by decide) hi hL hb9 ?_
  obtain ⟨-, ⟨b, f, hb, hW, hY⟩, -⟩ := id I1
  refine gj_callV HS (r := 1891) (as := [.inl (ρ (i + 1).toNat).toInt, .inl (ρ (i + 2).toNat).toInt]) (t := []) (show gh_at gl_law 490 = some (490, 3, .invokevirtual 52, 56, 0, [(0, 1871)]) from rfl) (by decide) rfl (by show 3 = _; decide +kernel) (Nat.le_trans (gh_wd _) (Nat.le_of_ble_eq_true rfl)) rfl (by decide +kernel) (by decide +kernel) (Ψ := fun v σ' => gl_I σ' ∧ ∃ z : Int, v = .inl z) (gl_mF I1 hb (by decide) (by unfold gl_ml; decide +kernel) (by decide) (gz_change hb hW hY)) gh_mono (fun v σ2 hv => ?_)
  obtain ⟨I2, z, rfl⟩ := hv
  rw [show gm_rc 56 = 1 by decide +kernel]
  show G _ _ [.inl z] σ2
  refine gj_pop HS (show gh_at gl_law 493 = some (493, 1, .pop, 0, 0, []) from rfl) rfl ?_
  refine gj_goto HS (show gh_at gl_law 494 = some (494, 3, .goto (886), 0, 1380, []) from rfl) ?_
  exact K σ2 I2
set_option maxRecDepth 100000 in
theorem gl_c9 {G : gp_G} (HS : gl_HS G) {ρ : Nat → Int32} {L : Nat} (HI : gl_HI ρ L G) {i : Int} (hi : 0 ≤ i) (hL : i + 5 < (L : Int)) (hb9 : L < 1000000) {σ : gp_S} (I0 : gl_I σ) (K : ∀ σ', gl_I σ' → G 1380 (gl_al i) [] σ') : G 497 (gl_al i) [] σ := by
  refine gj_aload_n HS (show gh_at gl_law 497 = some (497, 1, .aload_n 1, 0, 0, []) from rfl) rfl rfl ?_
  refine gj_fetch HS HI 1 8 (show gh_at gl_law 498 = some (498, 1, .aload_n 0, 0, 0, []) from rfl) (show gh_at gl_law 499 = some (499, 1, .iload_n 3, 0, 0, []) from rfl) (show gh_at gl_law 500 = some (500, 1, .iconst 1, 8, 0, []) from rfl) (show gh_at gl_law 501 = some (501, 1, .iadd, 0, 0, []) from rfl) (show gh_at gl_law 502 = some (502, 1, .iaload, 0, 0, []) from rfl) (by decide) (by decide) hi hL hb9 ?_
  refine gj_callV HS (r := 3) (as := [.inl (ρ (i + 1).toNat).toInt]) (t := []) (show gh_at gl_law 503 = some (503, 3, .invokevirtual 53, 164, 0, [(0, 1024)]) from rfl) (by decide) rfl (by show 2 = _; decide +kernel) (Nat.le_trans (gh_wd _) (Nat.le_of_ble_eq_true rfl)) rfl (by decide +kernel) (by decide +kernel) (Ψ := fun v σ' => gl_I σ' ∧ ∃ z : Int, v = .inl z) (gl_cls (fun σr => cy_127 σr) (by decide) (by decide +kernel) (by decide) ⟨Or.inr (Or.inl ⟨rfl, rfl⟩), gh_any (gl_r _), trivial⟩ I0) gh_mono (fun v σ1 hv => ?_)
  obtain ⟨I1, z, rfl⟩ := hv
  rw [show gm_rc 164 = 1 by decide +kernel]
  show G _ _ [.inl z] σ1
  refine gj_pop HS (show gh_at gl_law 506 = some (506, 1, .pop, 0, 0, []) from rfl) rfl ?_
  refine gj_aload_n HS (show gh_at gl_law 507 = some (507, 1, .aload_n 2, 0, 0, []) from rfl) rfl rfl ?_
  refine gj_fetch HS HI 1 8 (show gh_at gl_law 508 = some (508, 1, .aload_n 0, 0, 0, []) from rfl) (show gh_at gl_law 509 = some (509, 1, .iload_n 3, 0, 0, []) from rfl) (show gh_at gl_law 510 = some (510, 1, .iconst 1, 8, 0, []) from rfl) (show gh_at gl_law 511 = some (511, 1, .iadd, 0, 0, []) from rfl) (show gh_at gl_law 512 = some (512, 1, .iaload, 0, 0, []) from rfl) (by decide) (by decide) hi hL hb9 ?_
  refine gj_callV HS (r := 1891) (as := [.inl (ρ (i + 1).toNat).toInt]) (t := []) (show gh_at gl_law 513 = some (513, 3, .invokevirtual 56, 84, 0, [(0, 1879)]) from rfl) (by decide) rfl (by show 2 = _; decide +kernel) (Nat.le_trans (gh_wd _) (Nat.le_of_ble_eq_true rfl)) rfl (by decide +kernel) (by decide +kernel) (Ψ := fun v σ' => gl_I σ' ∧ ∃ z : Int, v = .inl z) (gl_mY (fun hb hf => cn_52 hb hf) (by decide) (by decide +kernel) (by decide) (by show gl_ml [(236, 46), (236, 47), (260, 26), (264, 1048576)]; unfold gl_ml; decide +kernel) ⟨Or.inr (Or.inl ⟨rfl, rfl⟩), gh_any (gl_r _), trivial⟩ I1) gh_mono (fun v σ2 hv => ?_)
  obtain ⟨I2, z, rfl⟩ := hv
  rw [show gm_rc 84 = 1 by decide +kernel]
  show G _ _ [.inl z] σ2
  refine gj_pop HS (show gh_at gl_law 516 = some (516, 1, .pop, 0, 0, []) from rfl) rfl ?_
  refine gj_goto HS (show gh_at gl_law 517 = some (517, 3, .goto (863), 0, 1380, []) from rfl) ?_
  exact K σ2 I2
set_option maxRecDepth 100000 in
theorem gl_c10 {G : gp_G} (HS : gl_HS G) {ρ : Nat → Int32} {L : Nat} (HI : gl_HI ρ L G) {i : Int} (hi : 0 ≤ i) (hL : i + 5 < (L : Int)) (hb9 : L < 1000000) {σ : gp_S} (I0 : gl_I σ) (K : ∀ σ', gl_I σ' → G 1380 (gl_al i) [] σ') : G 520 (gl_al i) [] σ := by
  refine gj_aload_n HS (show gh_at gl_law 520 = some (520, 1, .aload_n 1, 0, 0, []) from rfl) rfl rfl ?_
  refine gj_fetch HS HI 1 8 (show gh_at gl_law 521 = some (521, 1, .aload_n 0, 0, 0, []) from rfl) (show gh_at gl_law 522 = some (522, 1, .iload_n 3, 0, 0, []) from rfl) (show gh_at gl_law 523 = some (523, 1, .iconst 1, 8, 0, []) from rfl) (show gh_at gl_law 524 = some (524, 1, .iadd, 0, 0, []) from rfl) (show gh_at gl_law 525 = some (525, 1, .iaload, 0, 0, []) from rfl) (by decide) (by decide) hi hL hb9 ?_
  refine gj_callV HS (r := 3) (as := [.inl (ρ (i + 1).toNat).toInt]) (t := []) (show gh_at gl_law 526 = some (526, 3, .invokevirtual 57, 163, 0, [(0, 1032)]) from rfl) (by decide) rfl (by show 2 = _; decide +kernel) (Nat.le_trans (gh_wd _) (Nat.le_of_ble_eq_true rfl)) rfl (by decide +kernel) (by decide +kernel) (Ψ := fun v σ' => gl_I σ' ∧ ∃ z : Int, v = .inl z) (gl_cls (fun σr => cy_128 σr) (by decide) (by decide +kernel) (by decide) ⟨Or.inr (Or.inl ⟨rfl, rfl⟩), gh_any (gl_r _), trivial⟩ I0) gh_mono (fun v σ1 hv => ?_)
  obtain ⟨I1, z, rfl⟩ := hv
  rw [show gm_rc 163 = 1 by decide +kernel]
  show G _ _ [.inl z] σ1
  refine gj_pop HS (show gh_at gl_law 529 = some (529, 1, .pop, 0, 0, []) from rfl) rfl ?_
  refine gj_aload_n HS (show gh_at gl_law 530 = some (530, 1, .aload_n 2, 0, 0, []) from rfl) rfl rfl ?_
  refine gj_fetch HS HI 1 8 (show gh_at gl_law 531 = some (531, 1, .aload_n 0, 0, 0, []) from rfl) (show gh_at gl_law 532 = some (532, 1, .iload_n 3, 0, 0, []) from rfl) (show gh_at gl_law 533 = some (533, 1, .iconst 1, 8, 0, []) from rfl) (show gh_at gl_law 534 = some (534, 1, .iadd, 0, 0, []) from rfl) (show gh_at gl_law 535 = some (535, 1, .iaload, 0, 0, []) from rfl) (by decide) (by decide) hi hL hb9 ?_
  refine gj_callV HS (r := 1891) (as := [.inl (ρ (i + 1).toNat).toInt]) (t := []) (show gh_at gl_law 536 = some (536, 3, .invokevirtual 60, 83, 0, [(0, 1887)]) from rfl) (by decide) rfl (by show 2 = _; decide +kernel) (Nat.le_trans (gh_wd _) (Nat.le_of_ble_eq_true rfl)) rfl (by decide +kernel) (by decide +kernel) (Ψ := fun v σ' => gl_I σ' ∧ ∃ z : Int, v = .inl z) (gl_mY (fun hb hf => cn_53 hb hf) (by decide) (by decide +kernel) (by decide) (by show gl_ml [(236, 46), (236, 47), (260, 26), (264, 1048576)]; unfold gl_ml; decide +kernel) ⟨Or.inr (Or.inl ⟨rfl, rfl⟩), gh_any (gl_r _), trivial⟩ I1) gh_mono (fun v σ2 hv => ?_)
  obtain ⟨I2, z, rfl⟩ := hv
  rw [show gm_rc 83 = 1 by decide +kernel]
  show G _ _ [.inl z] σ2
  refine gj_pop HS (show gh_at gl_law 539 = some (539, 1, .pop, 0, 0, []) from rfl) rfl ?_
  refine gj_goto HS (show gh_at gl_law 540 = some (540, 3, .goto (840), 0, 1380, []) from rfl) ?_
  exact K σ2 I2
set_option maxRecDepth 100000 in
theorem gl_c11 {G : gp_G} (HS : gl_HS G) {ρ : Nat → Int32} {L : Nat} (HI : gl_HI ρ L G) {i : Int} (hi : 0 ≤ i) (hL : i + 5 < (L : Int)) (hb9 : L < 1000000) {σ : gp_S} (I0 : gl_I σ) (K : ∀ σ', gl_I σ' → G 1380 (gl_al i) [] σ') : G 543 (gl_al i) [] σ := by
  refine gj_aload_n HS (show gh_at gl_law 543 = some (543, 1, .aload_n 1, 0, 0, []) from rfl) rfl rfl ?_
  refine gj_fetch HS HI 1 8 (show gh_at gl_law 544 = some (544, 1, .aload_n 0, 0, 0, []) from rfl) (show gh_at gl_law 545 = some (545, 1, .iload_n 3, 0, 0, []) from rfl) (show gh_at gl_law 546 = some (546, 1, .iconst 1, 8, 0, []) from rfl) (show gh_at gl_law 547 = some (547, 1, .iadd, 0, 0, []) from rfl) (show gh_at gl_law 548 = some (548, 1, .iaload, 0, 0, []) from rfl) (by decide) (by decide) hi hL hb9 ?_
  refine gj_callV HS (r := 3) (as := [.inl (ρ (i + 1).toNat).toInt]) (t := []) (show gh_at gl_law 549 = some (549, 3, .invokevirtual 61, 162, 0, [(0, 1036)]) from rfl) (by decide) rfl (by show 2 = _; decide +kernel) (Nat.le_trans (gh_wd _) (Nat.le_of_ble_eq_true rfl)) rfl (by decide +kernel) (by decide +kernel) (Ψ := fun v σ' => gl_I σ' ∧ ∃ z : Int, v = .inl z) (gl_cls (fun σr => cy_129 σr) (by decide) (by decide +kernel) (by decide) ⟨Or.inr (Or.inl ⟨rfl, rfl⟩), gh_any (gl_r _), trivial⟩ I0) gh_mono (fun v σ1 hv => ?_)
  obtain ⟨I1, z, rfl⟩ := hv
  rw [show gm_rc 162 = 1 by decide +kernel]
  show G _ _ [.inl z] σ1
  refine gj_pop HS (show gh_at gl_law 552 = some (552, 1, .pop, 0, 0, []) from rfl) rfl ?_
  refine gj_aload_n HS (show gh_at gl_law 553 = some (553, 1, .aload_n 2, 0, 0, []) from rfl) rfl rfl ?_
  refine gj_fetch HS HI 1 8 (show gh_at gl_law 554 = some (554, 1, .aload_n 0, 0, 0, []) from rfl) (show gh_at gl_law 555 = some (555, 1, .iload_n 3, 0, 0, []) from rfl) (show gh_at gl_law 556 = some (556, 1, .iconst 1, 8, 0, []) from rfl) (show gh_at gl_law 557 = some (557, 1, .iadd, 0, 0, []) from rfl) (show gh_at gl_law 558 = some (558, 1, .iaload, 0, 0, []) from rfl) (by decide) (by decide) hi hL hb9 ?_
  refine gj_callV HS (r := 1891) (as := [.inl (ρ (i + 1).toNat).toInt]) (t := []) (show gh_at gl_law 559 = some (559, 3, .invokevirtual 64, 55, 0, [(0, 1891)]) from rfl) (by decide) rfl (by show 2 = _; decide +kernel) (Nat.le_trans (gh_wd _) (Nat.le_of_ble_eq_true rfl)) rfl (by decide +kernel) (by decide +kernel) (Ψ := fun v σ' => gl_I σ' ∧ ∃ z : Int, v = .inl z) (gl_mY (fun hb hf => cn_54 hb hf) (by decide) (by decide +kernel) (by decide) (by show gl_ml [(236, 46), (236, 47), (260, 22), (264, 1048576)]; unfold gl_ml; decide +kernel) ⟨Or.inr (Or.inl ⟨rfl, rfl⟩), gh_any (gl_r _), trivial⟩ I1) gh_mono (fun v σ2 hv => ?_)
  obtain ⟨I2, z, rfl⟩ := hv
  rw [show gm_rc 55 = 1 by decide +kernel]
  show G _ _ [.inl z] σ2
  refine gj_pop HS (show gh_at gl_law 562 = some (562, 1, .pop, 0, 0, []) from rfl) rfl ?_
  refine gj_goto HS (show gh_at gl_law 563 = some (563, 3, .goto (817), 0, 1380, []) from rfl) ?_
  exact K σ2 I2
set_option maxRecDepth 100000 in
theorem gl_c12 {G : gp_G} (HS : gl_HS G) {ρ : Nat → Int32} {L : Nat} (HI : gl_HI ρ L G) {i : Int} (hi : 0 ≤ i) (hL : i + 5 < (L : Int)) (hb9 : L < 1000000) {σ : gp_S} (I0 : gl_I σ) (K : ∀ σ', gl_I σ' → G 1380 (gl_al i) [] σ') : G 566 (gl_al i) [] σ := by
  refine gj_aload_n HS (show gh_at gl_law 566 = some (566, 1, .aload_n 1, 0, 0, []) from rfl) rfl rfl ?_
  refine gj_fetch HS HI 1 8 (show gh_at gl_law 567 = some (567, 1, .aload_n 0, 0, 0, []) from rfl) (show gh_at gl_law 568 = some (568, 1, .iload_n 3, 0, 0, []) from rfl) (show gh_at gl_law 569 = some (569, 1, .iconst 1, 8, 0, []) from rfl) (show gh_at gl_law 570 = some (570, 1, .iadd, 0, 0, []) from rfl) (show gh_at gl_law 571 = some (571, 1, .iaload, 0, 0, []) from rfl) (by decide) (by decide) hi hL hb9 ?_
  refine gj_callV HS (r := 3) (as := [.inl (ρ (i + 1).toNat).toInt]) (t := []) (show gh_at gl_law 572 = some (572, 3, .invokevirtual 65, 161, 0, [(0, 1041)]) from rfl) (by decide) rfl (by show 2 = _; decide +kernel) (Nat.le_trans (gh_wd _) (Nat.le_of_ble_eq_true rfl)) rfl (by decide +kernel) (by decide +kernel) (Ψ := fun v σ' => gl_I σ' ∧ ∃ z : Int, v = .inl z) (gl_cls (fun σr => cy_130 σr) (by decide) (by decide +kernel) (by decide) ⟨Or.inr (Or.inl ⟨rfl, rfl⟩), gh_any (gl_r _), trivial⟩ I0) gh_mono (fun v σ1 hv => ?_)
  obtain ⟨I1, z, rfl⟩ := hv
  rw [show gm_rc 161 = 1 by decide +kernel]
  show G _ _ [.inl z] σ1
  refine gj_pop HS (show gh_at gl_law 575 = some (575, 1, .pop, 0, 0, []) from rfl) rfl ?_
  refine gj_aload_n HS (show gh_at gl_law 576 = some (576, 1, .aload_n 2, 0, 0, []) from rfl) rfl rfl ?_
  refine gj_fetch HS HI 1 8 (show gh_at gl_law 577 = some (577, 1, .aload_n 0, 0, 0, []) from rfl) (show gh_at gl_law 578 = some (578, 1, .iload_n 3, 0, 0, []) from rfl) (show gh_at gl_law 579 = some (579, 1, .iconst 1, 8, 0, []) from rfl) (show gh_at gl_law 580 = some (580, 1, .iadd, 0, 0, []) from rfl) (show gh_at gl_law 581 = some (581, 1, .iaload, 0, 0, []) from rfl) (by decide) (by decide) hi hL hb9 ?_
  refine gj_callV HS (r := 1891) (as := [.inl (ρ (i + 1).toNat).toInt]) (t := []) (show gh_at gl_law 582 = some (582, 3, .invokevirtual 68, 54, 0, [(0, 1895)]) from rfl) (by decide) rfl (by show 2 = _; decide +kernel) (Nat.le_trans (gh_wd _) (Nat.le_of_ble_eq_true rfl)) rfl (by decide +kernel) (by decide +kernel) (Ψ := fun v σ' => gl_I σ' ∧ ∃ z : Int, v = .inl z) (gl_mY (fun hb hf => cn_55 hb hf) (by decide) (by decide +kernel) (by decide) (by show gl_ml [(236, 46), (236, 47), (260, 23), (264, 1048576)]; unfold gl_ml; decide +kernel) ⟨Or.inr (Or.inl ⟨rfl, rfl⟩), gh_any (gl_r _), trivial⟩ I1) gh_mono (fun v σ2 hv => ?_)
  obtain ⟨I2, z, rfl⟩ := hv
  rw [show gm_rc 54 = 1 by decide +kernel]
  show G _ _ [.inl z] σ2
  refine gj_pop HS (show gh_at gl_law 585 = some (585, 1, .pop, 0, 0, []) from rfl) rfl ?_
  refine gj_goto HS (show gh_at gl_law 586 = some (586, 3, .goto (794), 0, 1380, []) from rfl) ?_
  exact K σ2 I2
set_option maxRecDepth 100000 in
theorem gl_c13 {G : gp_G} (HS : gl_HS G) {ρ : Nat → Int32} {L : Nat} (HI : gl_HI ρ L G) {i : Int} (hi : 0 ≤ i) (hL : i + 5 < (L : Int)) (hb9 : L < 1000000) {σ : gp_S} (I0 : gl_I σ) (K : ∀ σ', gl_I σ' → G 1380 (gl_al i) [] σ') : G 589 (gl_al i) [] σ := by
  refine gj_aload_n HS (show gh_at gl_law 589 = some (589, 1, .aload_n 1, 0, 0, []) from rfl) rfl rfl ?_
  refine gj_callV HS (r := 3) (as := []) (t := []) (show gh_at gl_law 590 = some (590, 3, .invokevirtual 69, 158, 0, [(0, 1045)]) from rfl) (by decide) rfl (by show 1 = _; decide +kernel) (Nat.le_trans (gh_wd _) (Nat.le_of_ble_eq_true rfl)) rfl (by decide +kernel) (by decide +kernel) (Ψ := fun v σ' => gl_I σ' ∧ ∃ z : Int, v = .inl z) (gl_cls (fun σr => cy_172 σr) (by decide) (by decide +kernel) (by decide) ⟨Or.inr (Or.inl ⟨rfl, rfl⟩), trivial⟩ I0) gh_mono (fun v σ1 hv => ?_)
  obtain ⟨I1, z, rfl⟩ := hv
  rw [show gm_rc 158 = 2 by decide +kernel]
  show G _ _ [.inl z] σ1
  refine gj_pop HS (show gh_at gl_law 593 = some (593, 1, .pop, 0, 0, []) from rfl) rfl ?_
  refine gj_aload_n HS (show gh_at gl_law 594 = some (594, 1, .aload_n 2, 0, 0, []) from rfl) rfl rfl ?_
  obtain ⟨-, ⟨b, f, hb, hW, hY⟩, -⟩ := id I1
  refine gj_callV HS (r := 1891) (as := []) (t := []) (show gh_at gl_law 595 = some (595, 3, .invokevirtual 73, 160, 0, [(0, 1899)]) from rfl) (by decide) rfl (by show 1 = _; decide +kernel) (Nat.le_trans (gh_wd _) (Nat.le_of_ble_eq_true rfl)) rfl (by decide +kernel) (by decide +kernel) (Ψ := fun v σ' => gl_I σ' ∧ ∃ z : Int, v = .inl z) (gl_mF I1 hb (by decide) (by unfold gl_ml; decide +kernel) (by decide) (gz_undo hW hY)) gh_mono (fun v σ2 hv => ?_)
  obtain ⟨I2, z, rfl⟩ := hv
  rw [show gm_rc 160 = 2 by decide +kernel]
  show G _ _ [.inl z] σ2
  refine gj_pop HS (show gh_at gl_law 598 = some (598, 1, .pop, 0, 0, []) from rfl) rfl ?_
  refine gj_goto HS (show gh_at gl_law 599 = some (599, 3, .goto (781), 0, 1380, []) from rfl) ?_
  exact K σ2 I2
set_option maxRecDepth 100000 in
theorem gl_c14 {G : gp_G} (HS : gl_HS G) {ρ : Nat → Int32} {L : Nat} (HI : gl_HI ρ L G) {i : Int} (hi : 0 ≤ i) (hL : i + 5 < (L : Int)) (hb9 : L < 1000000) {σ : gp_S} (I0 : gl_I σ) (K : ∀ σ', gl_I σ' → G 1380 (gl_al i) [] σ') : G 602 (gl_al i) [] σ := by
  refine gj_aload_n HS (show gh_at gl_law 602 = some (602, 1, .aload_n 1, 0, 0, []) from rfl) rfl rfl ?_
  refine gj_callV HS (r := 3) (as := []) (t := []) (show gh_at gl_law 603 = some (603, 3, .invokevirtual 74, 155, 0, [(0, 1053)]) from rfl) (by decide) rfl (by show 1 = _; decide +kernel) (Nat.le_trans (gh_wd _) (Nat.le_of_ble_eq_true rfl)) rfl (by decide +kernel) (by decide +kernel) (Ψ := fun v σ' => gl_I σ' ∧ ∃ z : Int, v = .inl z) (gl_cls (fun σr => cy_173 σr) (by decide) (by decide +kernel) (by decide) ⟨Or.inr (Or.inl ⟨rfl, rfl⟩), trivial⟩ I0) gh_mono (fun v σ1 hv => ?_)
  obtain ⟨I1, z, rfl⟩ := hv
  rw [show gm_rc 155 = 2 by decide +kernel]
  show G _ _ [.inl z] σ1
  refine gj_pop HS (show gh_at gl_law 606 = some (606, 1, .pop, 0, 0, []) from rfl) rfl ?_
  refine gj_aload_n HS (show gh_at gl_law 607 = some (607, 1, .aload_n 2, 0, 0, []) from rfl) rfl rfl ?_
  obtain ⟨-, ⟨b, f, hb, hW, hY⟩, -⟩ := id I1
  refine gj_callV HS (r := 1891) (as := []) (t := []) (show gh_at gl_law 608 = some (608, 3, .invokevirtual 77, 157, 0, [(0, 1907)]) from rfl) (by decide) rfl (by show 1 = _; decide +kernel) (Nat.le_trans (gh_wd _) (Nat.le_of_ble_eq_true rfl)) rfl (by decide +kernel) (by decide +kernel) (Ψ := fun v σ' => gl_I σ' ∧ ∃ z : Int, v = .inl z) (gl_mF I1 hb (by decide) (by unfold gl_ml; decide +kernel) (by decide) (gz_redo hW hY)) gh_mono (fun v σ2 hv => ?_)
  obtain ⟨I2, z, rfl⟩ := hv
  rw [show gm_rc 157 = 2 by decide +kernel]
  show G _ _ [.inl z] σ2
  refine gj_pop HS (show gh_at gl_law 611 = some (611, 1, .pop, 0, 0, []) from rfl) rfl ?_
  refine gj_goto HS (show gh_at gl_law 612 = some (612, 3, .goto (768), 0, 1380, []) from rfl) ?_
  exact K σ2 I2
set_option maxRecDepth 100000 in
theorem gl_c15 {G : gp_G} (HS : gl_HS G) {ρ : Nat → Int32} {L : Nat} (HI : gl_HI ρ L G) {i : Int} (hi : 0 ≤ i) (hL : i + 5 < (L : Int)) (hb9 : L < 1000000) {σ : gp_S} (I0 : gl_I σ) (K : ∀ σ', gl_I σ' → G 1380 (gl_al i) [] σ') : G 615 (gl_al i) [] σ := by
  refine gj_aload_n HS (show gh_at gl_law 615 = some (615, 1, .aload_n 1, 0, 0, []) from rfl) rfl rfl ?_
  refine gj_callV HS (r := 3) (as := []) (t := []) (show gh_at gl_law 616 = some (616, 3, .invokevirtual 78, 153, 0, [(0, 1061)]) from rfl) (by decide) rfl (by show 1 = _; decide +kernel) (Nat.le_trans (gh_wd _) (Nat.le_of_ble_eq_true rfl)) rfl (by decide +kernel) (by decide +kernel) (Ψ := fun v σ' => gl_I σ' ∧ ∃ z : Int, v = .inl z) (gl_cls (fun σr => cy_174 σr) (by decide) (by decide +kernel) (by decide) ⟨Or.inr (Or.inl ⟨rfl, rfl⟩), trivial⟩ I0) gh_mono (fun v σ1 hv => ?_)
  obtain ⟨I1, z, rfl⟩ := hv
  rw [show gm_rc 153 = 1 by decide +kernel]
  show G _ _ [.inl z] σ1
  refine gj_pop HS (show gh_at gl_law 619 = some (619, 1, .pop, 0, 0, []) from rfl) rfl ?_
  refine gj_aload_n HS (show gh_at gl_law 620 = some (620, 1, .aload_n 2, 0, 0, []) from rfl) rfl rfl ?_
  refine gj_callV HS (r := 1891) (as := []) (t := []) (show gh_at gl_law 621 = some (621, 3, .invokevirtual 81, 154, 0, [(0, 1802)]) from rfl) (by decide) rfl (by show 1 = _; decide +kernel) (Nat.le_trans (gh_wd _) (Nat.le_of_ble_eq_true rfl)) rfl (by decide +kernel) (by decide +kernel) (Ψ := fun v σ' => gl_I σ' ∧ ∃ z : Int, v = .inl z) (gl_mX (fun hb hf => cn_25 hb hf) (by decide +kernel) (by decide) (by decide +kernel) (by decide) (by show gl_ml []; unfold gl_ml; decide +kernel) ⟨Or.inr (Or.inl ⟨rfl, rfl⟩), trivial⟩ I1) gh_mono (fun v σ2 hv => ?_)
  obtain ⟨I2, z, rfl⟩ := hv
  rw [show gm_rc 154 = 1 by decide +kernel]
  show G _ _ [.inl z] σ2
  refine gj_pop HS (show gh_at gl_law 624 = some (624, 1, .pop, 0, 0, []) from rfl) rfl ?_
  refine gj_goto HS (show gh_at gl_law 625 = some (625, 3, .goto (755), 0, 1380, []) from rfl) ?_
  exact K σ2 I2
set_option maxRecDepth 100000 in
theorem gl_c16 {G : gp_G} (HS : gl_HS G) {ρ : Nat → Int32} {L : Nat} (HI : gl_HI ρ L G) {i : Int} (hi : 0 ≤ i) (hL : i + 5 < (L : Int)) (hb9 : L < 1000000) {σ : gp_S} (I0 : gl_I σ) (K : ∀ σ', gl_I σ' → G 1380 (gl_al i) [] σ') : G 628 (gl_al i) [] σ := by
  refine gj_aload_n HS (show gh_at gl_law 628 = some (628, 1, .aload_n 1, 0, 0, []) from rfl) rfl rfl ?_
  refine gj_fetch HS HI 1 8 (show gh_at gl_law 629 = some (629, 1, .aload_n 0, 0, 0, []) from rfl) (show gh_at gl_law 630 = some (630, 1, .iload_n 3, 0, 0, []) from rfl) (show gh_at gl_law 631 = some (631, 1, .iconst 1, 8, 0, []) from rfl) (show gh_at gl_law 632 = some (632, 1, .iadd, 0, 0, []) from rfl) (show gh_at gl_law 633 = some (633, 1, .iaload, 0, 0, []) from rfl) (by decide) (by decide) hi hL hb9 ?_
  refine gj_callV HS (r := 3) (as := [.inl (ρ (i + 1).toNat).toInt]) (t := []) (show gh_at gl_law 634 = some (634, 3, .invokevirtual 82, 151, 0, [(0, 1065)]) from rfl) (by decide) rfl (by show 2 = _; decide +kernel) (Nat.le_trans (gh_wd _) (Nat.le_of_ble_eq_true rfl)) rfl (by decide +kernel) (by decide +kernel) (Ψ := fun v σ' => gl_I σ' ∧ ∃ z : Int, v = .inl z) (gl_cls (fun σr => cy_175 σr) (by decide) (by decide +kernel) (by decide) ⟨Or.inr (Or.inl ⟨rfl, rfl⟩), gh_any (gl_r _), trivial⟩ I0) gh_mono (fun v σ1 hv => ?_)
  obtain ⟨I1, z, rfl⟩ := hv
  rw [show gm_rc 151 = 1 by decide +kernel]
  show G _ _ [.inl z] σ1
  refine gj_pop HS (show gh_at gl_law 637 = some (637, 1, .pop, 0, 0, []) from rfl) rfl ?_
  refine gj_aload_n HS (show gh_at gl_law 638 = some (638, 1, .aload_n 2, 0, 0, []) from rfl) rfl rfl ?_
  refine gj_fetch HS HI 1 8 (show gh_at gl_law 639 = some (639, 1, .aload_n 0, 0, 0, []) from rfl) (show gh_at gl_law 640 = some (640, 1, .iload_n 3, 0, 0, []) from rfl) (show gh_at gl_law 641 = some (641, 1, .iconst 1, 8, 0, []) from rfl) (show gh_at gl_law 642 = some (642, 1, .iadd, 0, 0, []) from rfl) (show gh_at gl_law 643 = some (643, 1, .iaload, 0, 0, []) from rfl) (by decide) (by decide) hi hL hb9 ?_
  refine gj_callV HS (r := 1891) (as := [.inl (ρ (i + 1).toNat).toInt]) (t := []) (show gh_at gl_law 644 = some (644, 3, .invokevirtual 85, 53, 0, [(0, 1911)]) from rfl) (by decide) rfl (by show 2 = _; decide +kernel) (Nat.le_trans (gh_wd _) (Nat.le_of_ble_eq_true rfl)) rfl (by decide +kernel) (by decide +kernel) (Ψ := fun v σ' => gl_I σ' ∧ ∃ z : Int, v = .inl z) (gl_mX (fun hb hf => cn_43 hb hf) (by decide +kernel) (by decide) (by decide +kernel) (by decide) (by show gl_ml [(259, 1048576), (260, 7), (260, 8), (260, 9), (260, 10), (260, 11), (260, 12), (260, 13), (260, 14), (260, 15), (260, 16), (260, 17), (260, 18), (260, 19), (260, 20), (260, 21), (260, 22), (260, 23), (260, 24), (260, 25), (260, 26), (260, 27), (260, 28), (261, 0), (261, 1), (261, 2), (261, 3), (261, 4), (261, 5), (261, 6), (261, 7), (261, 8), (261, 9), (261, 10), (261, 11), (261, 12), (261, 13), (261, 14), (261, 15), (261, 16), (261, 17), (261, 18), (261, 19), (261, 20), (261, 21), (261, 22), (261, 23), (261, 24), (261, 25), (261, 26), (261, 27), (261, 28)]; unfold gl_ml; decide +kernel) ⟨Or.inr (Or.inl ⟨rfl, rfl⟩), gh_any (gl_r _), trivial⟩ I1) gh_mono (fun v σ2 hv => ?_)
  obtain ⟨I2, z, rfl⟩ := hv
  rw [show gm_rc 53 = 1 by decide +kernel]
  show G _ _ [.inl z] σ2
  refine gj_pop HS (show gh_at gl_law 647 = some (647, 1, .pop, 0, 0, []) from rfl) rfl ?_
  refine gj_goto HS (show gh_at gl_law 648 = some (648, 3, .goto (732), 0, 1380, []) from rfl) ?_
  exact K σ2 I2
set_option maxRecDepth 100000 in
theorem gl_c17 {G : gp_G} (HS : gl_HS G) {ρ : Nat → Int32} {L : Nat} (HI : gl_HI ρ L G) {i : Int} (hi : 0 ≤ i) (hL : i + 5 < (L : Int)) (hb9 : L < 1000000) {σ : gp_S} (I0 : gl_I σ) (K : ∀ σ', gl_I σ' → G 1380 (gl_al i) [] σ') : G 651 (gl_al i) [] σ := by
  refine gj_aload_n HS (show gh_at gl_law 651 = some (651, 1, .aload_n 1, 0, 0, []) from rfl) rfl rfl ?_
  refine gj_fetch HS HI 1 8 (show gh_at gl_law 652 = some (652, 1, .aload_n 0, 0, 0, []) from rfl) (show gh_at gl_law 653 = some (653, 1, .iload_n 3, 0, 0, []) from rfl) (show gh_at gl_law 654 = some (654, 1, .iconst 1, 8, 0, []) from rfl) (show gh_at gl_law 655 = some (655, 1, .iadd, 0, 0, []) from rfl) (show gh_at gl_law 656 = some (656, 1, .iaload, 0, 0, []) from rfl) (by decide) (by decide) hi hL hb9 ?_
  refine gj_fetch HS HI 2 16 (show gh_at gl_law 657 = some (657, 1, .aload_n 0, 0, 0, []) from rfl) (show gh_at gl_law 658 = some (658, 1, .iload_n 3, 0, 0, []) from rfl) (show gh_at gl_law 659 = some (659, 1, .iconst 2, 16, 0, []) from rfl) (show gh_at gl_law 660 = some (660, 1, .iadd, 0, 0, []) from rfl) (show gh_at gl_law 661 = some (661, 1, .iaload, 0, 0, []) from rfl) (by decide) (by decide) hi hL hb9 ?_
  refine gj_fetch HS HI 3 24 (show gh_at gl_law 662 = some (662, 1, .aload_n 0, 0, 0, []) from rfl) (show gh_at gl_law 663 = some (663, 1, .iload_n 3, 0, 0, []) from rfl) (show gh_at gl_law 664 = some (664, 1, .iconst 3, 24, 0, []) from rfl) (show gh_at gl_law 665 = some (665, 1, .iadd, 0, 0, []) from rfl) (show gh_at gl_law 666 = some (666, 1, .iaload, 0, 0, []) from rfl) (by decide) (by decide) hi hL hb9 ?_
  refine gj_callV HS (r := 3) (as := [.inl (ρ (i + 1).toNat).toInt, .inl (ρ (i + 2).toNat).toInt, .inl (ρ (i + 3).toNat).toInt]) (t := []) (show gh_at gl_law 667 = some (667, 3, .invokevirtual 86, 150, 0, [(0, 1073)]) from rfl) (by decide) rfl (by show 4 = _; decide +kernel) (Nat.le_trans (gh_wd _) (Nat.le_of_ble_eq_true rfl)) rfl (by decide +kernel) (by decide +kernel) (Ψ := fun v σ' => gl_I σ' ∧ ∃ z : Int, v = .inl z) (gl_cls (fun σr => cy_179 σr) (by decide) (by decide +kernel) (by decide) ⟨Or.inr (Or.inl ⟨rfl, rfl⟩), gh_any (gl_r _), gh_any (gl_r _), gh_any (gl_r _), trivial⟩ I0) gh_mono (fun v σ1 hv => ?_)
  obtain ⟨I1, z, rfl⟩ := hv
  rw [show gm_rc 150 = 1 by decide +kernel]
  show G _ _ [.inl z] σ1
  refine gj_pop HS (show gh_at gl_law 670 = some (670, 1, .pop, 0, 0, []) from rfl) rfl ?_
  refine gj_aload_n HS (show gh_at gl_law 671 = some (671, 1, .aload_n 2, 0, 0, []) from rfl) rfl rfl ?_
  refine gj_fetch HS HI 1 8 (show gh_at gl_law 672 = some (672, 1, .aload_n 0, 0, 0, []) from rfl) (show gh_at gl_law 673 = some (673, 1, .iload_n 3, 0, 0, []) from rfl) (show gh_at gl_law 674 = some (674, 1, .iconst 1, 8, 0, []) from rfl) (show gh_at gl_law 675 = some (675, 1, .iadd, 0, 0, []) from rfl) (show gh_at gl_law 676 = some (676, 1, .iaload, 0, 0, []) from rfl) (by decide) (by decide) hi hL hb9 ?_
  refine gj_fetch HS HI 2 16 (show gh_at gl_law 677 = some (677, 1, .aload_n 0, 0, 0, []) from rfl) (show gh_at gl_law 678 = some (678, 1, .iload_n 3, 0, 0, []) from rfl) (show gh_at gl_law 679 = some (679, 1, .iconst 2, 16, 0, []) from rfl) (show gh_at gl_law 680 = some (680, 1, .iadd, 0, 0, []) from rfl) (show gh_at gl_law 681 = some (681, 1, .iaload, 0, 0, []) from rfl) (by decide) (by decide) hi hL hb9 ?_
  refine gj_fetch HS HI 3 24 (show gh_at gl_law 682 = some (682, 1, .aload_n 0, 0, 0, []) from rfl) (show gh_at gl_law 683 = some (683, 1, .iload_n 3, 0, 0, []) from rfl) (show gh_at gl_law 684 = some (684, 1, .iconst 3, 24, 0, []) from rfl) (show gh_at gl_law 685 = some (685, 1, .iadd, 0, 0, []) from rfl) (show gh_at gl_law 686 = some (686, 1, .iaload, 0, 0, []) from rfl) (by decide) (by decide) hi hL hb9 ?_
  refine gj_callV HS (r := 1891) (as := [.inl (ρ (i + 1).toNat).toInt, .inl (ρ (i + 2).toNat).toInt, .inl (ρ (i + 3).toNat).toInt]) (t := []) (show gh_at gl_law 687 = some (687, 3, .invokevirtual 90, 80, 0, [(0, 1923)]) from rfl) (by decide) rfl (by show 4 = _; decide +kernel) (Nat.le_trans (gh_wd _) (Nat.le_of_ble_eq_true rfl)) rfl (by decide +kernel) (by decide +kernel) (Ψ := fun v σ' => gl_I σ' ∧ ∃ z : Int, v = .inl z) (gl_mX (fun hb hf => cn_44 hb hf) (by decide +kernel) (by decide) (by decide +kernel) (by decide) (by show gl_ml [(259, 1048576), (260, 7), (260, 8), (260, 9), (260, 10), (260, 11), (260, 12), (260, 13), (260, 14), (260, 15), (260, 16), (260, 17), (260, 18), (260, 19), (260, 20), (260, 21), (260, 22), (260, 23), (260, 24), (260, 25), (260, 26), (260, 27), (260, 28), (261, 0), (261, 1), (261, 2), (261, 3), (261, 4), (261, 5), (261, 6), (261, 7), (261, 8), (261, 9), (261, 10), (261, 11), (261, 12), (261, 13), (261, 14), (261, 15), (261, 16), (261, 17), (261, 18), (261, 19), (261, 20), (261, 21), (261, 22), (261, 23), (261, 24), (261, 25), (261, 26), (261, 27), (261, 28), (262, 1048576)]; unfold gl_ml; decide +kernel) ⟨Or.inr (Or.inl ⟨rfl, rfl⟩), gh_any (gl_r _), gh_any (gl_r _), gh_any (gl_r _), trivial⟩ I1) gh_mono (fun v σ2 hv => ?_)
  obtain ⟨I2, z, rfl⟩ := hv
  rw [show gm_rc 80 = 1 by decide +kernel]
  show G _ _ [.inl z] σ2
  refine gj_pop HS (show gh_at gl_law 690 = some (690, 1, .pop, 0, 0, []) from rfl) rfl ?_
  refine gj_goto HS (show gh_at gl_law 691 = some (691, 3, .goto (689), 0, 1380, []) from rfl) ?_
  exact K σ2 I2
set_option maxRecDepth 100000 in
theorem gl_c18 {G : gp_G} (HS : gl_HS G) {ρ : Nat → Int32} {L : Nat} (HI : gl_HI ρ L G) {i : Int} (hi : 0 ≤ i) (hL : i + 5 < (L : Int)) (hb9 : L < 1000000) {σ : gp_S} (I0 : gl_I σ) (K : ∀ σ', gl_I σ' → G 1380 (gl_al i) [] σ') : G 694 (gl_al i) [] σ := by
  refine gj_aload_n HS (show gh_at gl_law 694 = some (694, 1, .aload_n 1, 0, 0, []) from rfl) rfl rfl ?_
  refine gj_callV HS (r := 3) (as := []) (t := []) (show gh_at gl_law 695 = some (695, 3, .invokevirtual 91, 148, 0, [(0, 1078)]) from rfl) (by decide) rfl (by show 1 = _; decide +kernel) (Nat.le_trans (gh_wd _) (Nat.le_of_ble_eq_true rfl)) rfl (by decide +kernel) (by decide +kernel) (Ψ := fun v σ' => gl_I σ' ∧ ∃ z : Int, v = .inl z) (gl_cls (fun σr => cy_189 σr) (by decide) (by decide +kernel) (by decide) ⟨Or.inr (Or.inl ⟨rfl, rfl⟩), trivial⟩ I0) gh_mono (fun v σ1 hv => ?_)
  obtain ⟨I1, z, rfl⟩ := hv
  rw [show gm_rc 148 = 1 by decide +kernel]
  show G _ _ [.inl z] σ1
  refine gj_pop HS (show gh_at gl_law 698 = some (698, 1, .pop, 0, 0, []) from rfl) rfl ?_
  refine gj_aload_n HS (show gh_at gl_law 699 = some (699, 1, .aload_n 2, 0, 0, []) from rfl) rfl rfl ?_
  obtain ⟨-, ⟨b, f, hb, hW, hY⟩, -⟩ := id I1
  refine gj_callV HS (r := 1891) (as := []) (t := []) (show gh_at gl_law 700 = some (700, 3, .invokevirtual 94, 149, 0, [(0, 1947)]) from rfl) (by decide) rfl (by show 1 = _; decide +kernel) (Nat.le_trans (gh_wd _) (Nat.le_of_ble_eq_true rfl)) rfl (by decide +kernel) (by decide +kernel) (Ψ := fun v σ' => gl_I σ' ∧ ∃ z : Int, v = .inl z) (gl_mF I1 hb (by decide) (by unfold gl_ml; decide +kernel) (by decide) (gz_soonest hb hW hY)) gh_mono (fun v σ2 hv => ?_)
  obtain ⟨I2, z, rfl⟩ := hv
  rw [show gm_rc 149 = 1 by decide +kernel]
  show G _ _ [.inl z] σ2
  refine gj_pop HS (show gh_at gl_law 703 = some (703, 1, .pop, 0, 0, []) from rfl) rfl ?_
  refine gj_goto HS (show gh_at gl_law 704 = some (704, 3, .goto (676), 0, 1380, []) from rfl) ?_
  exact K σ2 I2
set_option maxRecDepth 100000 in
theorem gl_c19 {G : gp_G} (HS : gl_HS G) {ρ : Nat → Int32} {L : Nat} (HI : gl_HI ρ L G) {i : Int} (hi : 0 ≤ i) (hL : i + 5 < (L : Int)) (hb9 : L < 1000000) {σ : gp_S} (I0 : gl_I σ) (K : ∀ σ', gl_I σ' → G 1380 (gl_al i) [] σ') : G 707 (gl_al i) [] σ := by
  refine gj_aload_n HS (show gh_at gl_law 707 = some (707, 1, .aload_n 1, 0, 0, []) from rfl) rfl rfl ?_
  refine gj_callV HS (r := 3) (as := []) (t := []) (show gh_at gl_law 708 = some (708, 3, .invokevirtual 95, 146, 0, [(0, 1117)]) from rfl) (by decide) rfl (by show 1 = _; decide +kernel) (Nat.le_trans (gh_wd _) (Nat.le_of_ble_eq_true rfl)) rfl (by decide +kernel) (by decide +kernel) (Ψ := fun v σ' => gl_I σ' ∧ ∃ z : Int, v = .inl z) (gl_cls (fun σr => cy_199 σr) (by decide) (by decide +kernel) (by decide) ⟨Or.inr (Or.inl ⟨rfl, rfl⟩), trivial⟩ I0) gh_mono (fun v σ1 hv => ?_)
  obtain ⟨I1, z, rfl⟩ := hv
  rw [show gm_rc 146 = 1 by decide +kernel]
  show G _ _ [.inl z] σ1
  refine gj_pop HS (show gh_at gl_law 711 = some (711, 1, .pop, 0, 0, []) from rfl) rfl ?_
  refine gj_aload_n HS (show gh_at gl_law 712 = some (712, 1, .aload_n 2, 0, 0, []) from rfl) rfl rfl ?_
  obtain ⟨-, ⟨b, f, hb, hW, hY⟩, -⟩ := id I1
  refine gj_callV HS (r := 1891) (as := []) (t := []) (show gh_at gl_law 713 = some (713, 3, .invokevirtual 98, 147, 0, [(0, 1992)]) from rfl) (by decide) rfl (by show 1 = _; decide +kernel) (Nat.le_trans (gh_wd _) (Nat.le_of_ble_eq_true rfl)) rfl (by decide +kernel) (by decide +kernel) (Ψ := fun v σ' => gl_I σ' ∧ ∃ z : Int, v = .inl z) (gl_mF I1 hb (by decide) (by unfold gl_ml; decide +kernel) (by decide) (gz_warmest hb hW hY)) gh_mono (fun v σ2 hv => ?_)
  obtain ⟨I2, z, rfl⟩ := hv
  rw [show gm_rc 147 = 1 by decide +kernel]
  show G _ _ [.inl z] σ2
  refine gj_pop HS (show gh_at gl_law 716 = some (716, 1, .pop, 0, 0, []) from rfl) rfl ?_
  refine gj_goto HS (show gh_at gl_law 717 = some (717, 3, .goto (663), 0, 1380, []) from rfl) ?_
  exact K σ2 I2
set_option maxRecDepth 100000 in
theorem gl_c20 {G : gp_G} (HS : gl_HS G) {ρ : Nat → Int32} {L : Nat} (HI : gl_HI ρ L G) {i : Int} (hi : 0 ≤ i) (hL : i + 5 < (L : Int)) (hb9 : L < 1000000) {σ : gp_S} (I0 : gl_I σ) (K : ∀ σ', gl_I σ' → G 1380 (gl_al i) [] σ') : G 720 (gl_al i) [] σ := by
  refine gj_aload_n HS (show gh_at gl_law 720 = some (720, 1, .aload_n 1, 0, 0, []) from rfl) rfl rfl ?_
  refine gj_callV HS (r := 3) (as := []) (t := []) (show gh_at gl_law 721 = some (721, 3, .invokevirtual 99, 144, 0, [(0, 1138)]) from rfl) (by decide) rfl (by show 1 = _; decide +kernel) (Nat.le_trans (gh_wd _) (Nat.le_of_ble_eq_true rfl)) rfl (by decide +kernel) (by decide +kernel) (Ψ := fun v σ' => gl_I σ' ∧ ∃ z : Int, v = .inl z) (gl_cls (fun σr => cy_200 σr) (by decide) (by decide +kernel) (by decide) ⟨Or.inr (Or.inl ⟨rfl, rfl⟩), trivial⟩ I0) gh_mono (fun v σ1 hv => ?_)
  obtain ⟨I1, z, rfl⟩ := hv
  rw [show gm_rc 144 = 1 by decide +kernel]
  show G _ _ [.inl z] σ1
  refine gj_pop HS (show gh_at gl_law 724 = some (724, 1, .pop, 0, 0, []) from rfl) rfl ?_
  refine gj_aload_n HS (show gh_at gl_law 725 = some (725, 1, .aload_n 2, 0, 0, []) from rfl) rfl rfl ?_
  obtain ⟨-, ⟨b, f, hb, hW, hY⟩, -⟩ := id I1
  refine gj_callV HS (r := 1891) (as := []) (t := []) (show gh_at gl_law 726 = some (726, 3, .invokevirtual 102, 145, 0, [(0, 1996)]) from rfl) (by decide) rfl (by show 1 = _; decide +kernel) (Nat.le_trans (gh_wd _) (Nat.le_of_ble_eq_true rfl)) rfl (by decide +kernel) (by decide +kernel) (Ψ := fun v σ' => gl_I σ' ∧ ∃ z : Int, v = .inl z) (gl_mF I1 hb (by decide) (by unfold gl_ml; decide +kernel) (by decide) (gz_peace hb hW hY)) gh_mono (fun v σ2 hv => ?_)
  obtain ⟨I2, z, rfl⟩ := hv
  rw [show gm_rc 145 = 1 by decide +kernel]
  show G _ _ [.inl z] σ2
  refine gj_pop HS (show gh_at gl_law 729 = some (729, 1, .pop, 0, 0, []) from rfl) rfl ?_
  refine gj_goto HS (show gh_at gl_law 730 = some (730, 3, .goto (650), 0, 1380, []) from rfl) ?_
  exact K σ2 I2
set_option maxRecDepth 100000 in
theorem gl_c21 {G : gp_G} (HS : gl_HS G) {ρ : Nat → Int32} {L : Nat} (HI : gl_HI ρ L G) {i : Int} (hi : 0 ≤ i) (hL : i + 5 < (L : Int)) (hb9 : L < 1000000) {σ : gp_S} (I0 : gl_I σ) (K : ∀ σ', gl_I σ' → G 1380 (gl_al i) [] σ') : G 733 (gl_al i) [] σ := by
  refine gj_aload_n HS (show gh_at gl_law 733 = some (733, 1, .aload_n 1, 0, 0, []) from rfl) rfl rfl ?_
  refine gj_fetch HS HI 1 8 (show gh_at gl_law 734 = some (734, 1, .aload_n 0, 0, 0, []) from rfl) (show gh_at gl_law 735 = some (735, 1, .iload_n 3, 0, 0, []) from rfl) (show gh_at gl_law 736 = some (736, 1, .iconst 1, 8, 0, []) from rfl) (show gh_at gl_law 737 = some (737, 1, .iadd, 0, 0, []) from rfl) (show gh_at gl_law 738 = some (738, 1, .iaload, 0, 0, []) from rfl) (by decide) (by decide) hi hL hb9 ?_
  refine gj_fetch HS HI 2 16 (show gh_at gl_law 739 = some (739, 1, .aload_n 0, 0, 0, []) from rfl) (show gh_at gl_law 740 = some (740, 1, .iload_n 3, 0, 0, []) from rfl) (show gh_at gl_law 741 = some (741, 1, .iconst 2, 16, 0, []) from rfl) (show gh_at gl_law 742 = some (742, 1, .iadd, 0, 0, []) from rfl) (show gh_at gl_law 743 = some (743, 1, .iaload, 0, 0, []) from rfl) (by decide) (by decide) hi hL hb9 ?_
  refine gj_callV HS (r := 3) (as := [.inl (ρ (i + 1).toNat).toInt, .inl (ρ (i + 2).toNat).toInt]) (t := []) (show gh_at gl_law 744 = some (744, 3, .invokevirtual 103, 143, 0, [(0, 1142)]) from rfl) (by decide) rfl (by show 3 = _; decide +kernel) (Nat.le_trans (gh_wd _) (Nat.le_of_ble_eq_true rfl)) rfl (by decide +kernel) (by decide +kernel) (Ψ := fun v σ' => gl_I σ' ∧ ∃ z : Int, v = .inl z) (gl_cls (fun σr => cy_202 σr) (by decide) (by decide +kernel) (by decide) ⟨Or.inr (Or.inl ⟨rfl, rfl⟩), gh_any (gl_r _), gh_any (gl_r _), trivial⟩ I0) gh_mono (fun v σ1 hv => ?_)
  obtain ⟨I1, z, rfl⟩ := hv
  rw [show gm_rc 143 = 1 by decide +kernel]
  show G _ _ [.inl z] σ1
  refine gj_pop HS (show gh_at gl_law 747 = some (747, 1, .pop, 0, 0, []) from rfl) rfl ?_
  refine gj_aload_n HS (show gh_at gl_law 748 = some (748, 1, .aload_n 2, 0, 0, []) from rfl) rfl rfl ?_
  refine gj_fetch HS HI 1 8 (show gh_at gl_law 749 = some (749, 1, .aload_n 0, 0, 0, []) from rfl) (show gh_at gl_law 750 = some (750, 1, .iload_n 3, 0, 0, []) from rfl) (show gh_at gl_law 751 = some (751, 1, .iconst 1, 8, 0, []) from rfl) (show gh_at gl_law 752 = some (752, 1, .iadd, 0, 0, []) from rfl) (show gh_at gl_law 753 = some (753, 1, .iaload, 0, 0, []) from rfl) (by decide) (by decide) hi hL hb9 ?_
  refine gj_fetch HS HI 2 16 (show gh_at gl_law 754 = some (754, 1, .aload_n 0, 0, 0, []) from rfl) (show gh_at gl_law 755 = some (755, 1, .iload_n 3, 0, 0, []) from rfl) (show gh_at gl_law 756 = some (756, 1, .iconst 2, 16, 0, []) from rfl) (show gh_at gl_law 757 = some (757, 1, .iadd, 0, 0, []) from rfl) (show gh_at gl_law 758 = some (758, 1, .iaload, 0, 0, []) from rfl) (by decide) (by decide) hi hL hb9 ?_
  refine gj_callV HS (r := 1891) (as := [.inl (ρ (i + 1).toNat).toInt, .inl (ρ (i + 2).toNat).toInt]) (t := []) (show gh_at gl_law 759 = some (759, 3, .invokevirtual 106, 22, 0, [(0, 2005)]) from rfl) (by decide) rfl (by show 3 = _; decide +kernel) (Nat.le_trans (gh_wd _) (Nat.le_of_ble_eq_true rfl)) rfl (by decide +kernel) (by decide +kernel) (Ψ := fun v σ' => gl_I σ' ∧ ∃ z : Int, v = .inl z) (gl_mX (fun hb hf => cn_32 hb hf) (by decide +kernel) (by decide) (by decide +kernel) (by decide) (by show gl_ml [(260, 26)]; unfold gl_ml; decide +kernel) ⟨Or.inr (Or.inl ⟨rfl, rfl⟩), gh_any (gl_r _), gh_any (gl_r _), trivial⟩ I1) gh_mono (fun v σ2 hv => ?_)
  obtain ⟨I2, z, rfl⟩ := hv
  rw [show gm_rc 22 = 1 by decide +kernel]
  show G _ _ [.inl z] σ2
  refine gj_pop HS (show gh_at gl_law 762 = some (762, 1, .pop, 0, 0, []) from rfl) rfl ?_
  refine gj_goto HS (show gh_at gl_law 763 = some (763, 3, .goto (617), 0, 1380, []) from rfl) ?_
  exact K σ2 I2
set_option maxRecDepth 100000 in
theorem gl_c22 {G : gp_G} (HS : gl_HS G) {ρ : Nat → Int32} {L : Nat} (HI : gl_HI ρ L G) {i : Int} (hi : 0 ≤ i) (hL : i + 5 < (L : Int)) (hb9 : L < 1000000) {σ : gp_S} (I0 : gl_I σ) (K : ∀ σ', gl_I σ' → G 1380 (gl_al i) [] σ') : G 766 (gl_al i) [] σ := by
  refine gj_aload_n HS (show gh_at gl_law 766 = some (766, 1, .aload_n 1, 0, 0, []) from rfl) rfl rfl ?_
  refine gj_fetch HS HI 1 8 (show gh_at gl_law 767 = some (767, 1, .aload_n 0, 0, 0, []) from rfl) (show gh_at gl_law 768 = some (768, 1, .iload_n 3, 0, 0, []) from rfl) (show gh_at gl_law 769 = some (769, 1, .iconst 1, 8, 0, []) from rfl) (show gh_at gl_law 770 = some (770, 1, .iadd, 0, 0, []) from rfl) (show gh_at gl_law 771 = some (771, 1, .iaload, 0, 0, []) from rfl) (by decide) (by decide) hi hL hb9 ?_
  refine gj_callV HS (r := 3) (as := [.inl (ρ (i + 1).toNat).toInt]) (t := []) (show gh_at gl_law 772 = some (772, 3, .invokevirtual 107, 141, 0, [(0, 1159)]) from rfl) (by decide) rfl (by show 2 = _; decide +kernel) (Nat.le_trans (gh_wd _) (Nat.le_of_ble_eq_true rfl)) rfl (by decide +kernel) (by decide +kernel) (Ψ := fun v σ' => gl_I σ' ∧ ∃ z : Int, v = .inl z) (gl_cls (fun σr => cy_205 σr) (by decide) (by decide +kernel) (by decide) ⟨Or.inr (Or.inl ⟨rfl, rfl⟩), gh_any (gl_r _), trivial⟩ I0) gh_mono (fun v σ1 hv => ?_)
  obtain ⟨I1, z, rfl⟩ := hv
  rw [show gm_rc 141 = 1 by decide +kernel]
  show G _ _ [.inl z] σ1
  refine gj_pop HS (show gh_at gl_law 775 = some (775, 1, .pop, 0, 0, []) from rfl) rfl ?_
  refine gj_aload_n HS (show gh_at gl_law 776 = some (776, 1, .aload_n 2, 0, 0, []) from rfl) rfl rfl ?_
  refine gj_fetch HS HI 1 8 (show gh_at gl_law 777 = some (777, 1, .aload_n 0, 0, 0, []) from rfl) (show gh_at gl_law 778 = some (778, 1, .iload_n 3, 0, 0, []) from rfl) (show gh_at gl_law 779 = some (779, 1, .iconst 1, 8, 0, []) from rfl) (show gh_at gl_law 780 = some (780, 1, .iadd, 0, 0, []) from rfl) (show gh_at gl_law 781 = some (781, 1, .iaload, 0, 0, []) from rfl) (by decide) (by decide) hi hL hb9 ?_
  refine gj_callV HS (r := 1891) (as := [.inl (ρ (i + 1).toNat).toInt]) (t := []) (show gh_at gl_law 782 = some (782, 3, .invokevirtual 110, 39, 0, [(0, 2015)]) from rfl) (by decide) rfl (by show 2 = _; decide +kernel) (Nat.le_trans (gh_wd _) (Nat.le_of_ble_eq_true rfl)) rfl (by decide +kernel) (by decide +kernel) (Ψ := fun v σ' => gl_I σ' ∧ ∃ z : Int, v = .inl z) (gl_mX (fun hb hf => cn_33 hb hf) (by decide +kernel) (by decide) (by decide +kernel) (by decide) (by show gl_ml []; unfold gl_ml; decide +kernel) ⟨Or.inr (Or.inl ⟨rfl, rfl⟩), gh_any (gl_r _), trivial⟩ I1) gh_mono (fun v σ2 hv => ?_)
  obtain ⟨I2, z, rfl⟩ := hv
  rw [show gm_rc 39 = 1 by decide +kernel]
  show G _ _ [.inl z] σ2
  refine gj_pop HS (show gh_at gl_law 785 = some (785, 1, .pop, 0, 0, []) from rfl) rfl ?_
  refine gj_goto HS (show gh_at gl_law 786 = some (786, 3, .goto (594), 0, 1380, []) from rfl) ?_
  exact K σ2 I2
set_option maxRecDepth 100000 in
theorem gl_c23 {G : gp_G} (HS : gl_HS G) {ρ : Nat → Int32} {L : Nat} (HI : gl_HI ρ L G) {i : Int} (hi : 0 ≤ i) (hL : i + 5 < (L : Int)) (hb9 : L < 1000000) {σ : gp_S} (I0 : gl_I σ) (K : ∀ σ', gl_I σ' → G 1380 (gl_al i) [] σ') : G 789 (gl_al i) [] σ := by
  refine gj_aload_n HS (show gh_at gl_law 789 = some (789, 1, .aload_n 1, 0, 0, []) from rfl) rfl rfl ?_
  refine gj_callV HS (r := 3) (as := []) (t := []) (show gh_at gl_law 790 = some (790, 3, .invokevirtual 111, 136, 0, [(0, 1177)]) from rfl) (by decide) rfl (by show 1 = _; decide +kernel) (Nat.le_trans (gh_wd _) (Nat.le_of_ble_eq_true rfl)) rfl (by decide +kernel) (by decide +kernel) (Ψ := fun v σ' => gl_I σ' ∧ ∃ z : Int, v = .inl z) (gl_cls (fun σr => cy_214 σr) (by decide) (by decide +kernel) (by decide) ⟨Or.inr (Or.inl ⟨rfl, rfl⟩), trivial⟩ I0) gh_mono (fun v σ1 hv => ?_)
  obtain ⟨I1, z, rfl⟩ := hv
  rw [show gm_rc 136 = 1 by decide +kernel]
  show G _ _ [.inl z] σ1
  refine gj_pop HS (show gh_at gl_law 793 = some (793, 1, .pop, 0, 0, []) from rfl) rfl ?_
  refine gj_aload_n HS (show gh_at gl_law 794 = some (794, 1, .aload_n 2, 0, 0, []) from rfl) rfl rfl ?_
  obtain ⟨-, ⟨b, f, hb, hW, hY⟩, -⟩ := id I1
  refine gj_callV HS (r := 1891) (as := []) (t := []) (show gh_at gl_law 795 = some (795, 3, .invokevirtual 114, 139, 0, [(0, 2019)]) from rfl) (by decide) rfl (by show 1 = _; decide +kernel) (Nat.le_trans (gh_wd _) (Nat.le_of_ble_eq_true rfl)) rfl (by decide +kernel) (by decide +kernel) (Ψ := fun v σ' => gl_I σ' ∧ ∃ z : Int, v = .inl z) (gl_mXf I1 hb hY (by decide +kernel) (by decide) (by unfold gl_ml; decide +kernel) (by decide) (gz_tables hb hY.1 hW hY.2.1)) gh_mono (fun v σ2 hv => ?_)
  obtain ⟨I2, z, rfl⟩ := hv
  rw [show gm_rc 139 = 1 by decide +kernel]
  show G _ _ [.inl z] σ2
  refine gj_pop HS (show gh_at gl_law 798 = some (798, 1, .pop, 0, 0, []) from rfl) rfl ?_
  refine gj_goto HS (show gh_at gl_law 799 = some (799, 3, .goto (581), 0, 1380, []) from rfl) ?_
  exact K σ2 I2
set_option maxRecDepth 100000 in
theorem gl_c24 {G : gp_G} (HS : gl_HS G) {ρ : Nat → Int32} {L : Nat} (HI : gl_HI ρ L G) {i : Int} (hi : 0 ≤ i) (hL : i + 5 < (L : Int)) (hb9 : L < 1000000) {σ : gp_S} (I0 : gl_I σ) (K : ∀ σ', gl_I σ' → G 1380 (gl_al i) [] σ') : G 802 (gl_al i) [] σ := by
  refine gj_aload_n HS (show gh_at gl_law 802 = some (802, 1, .aload_n 1, 0, 0, []) from rfl) rfl rfl ?_
  refine gj_callV HS (r := 3) (as := []) (t := []) (show gh_at gl_law 803 = some (803, 3, .invokevirtual 115, 134, 0, [(0, 1192)]) from rfl) (by decide) rfl (by show 1 = _; decide +kernel) (Nat.le_trans (gh_wd _) (Nat.le_of_ble_eq_true rfl)) rfl (by decide +kernel) (by decide +kernel) (Ψ := fun v σ' => gl_I σ' ∧ ∃ z : Int, v = .inl z) (gl_cls (fun σr => cy_217 σr) (by decide) (by decide +kernel) (by decide) ⟨Or.inr (Or.inl ⟨rfl, rfl⟩), trivial⟩ I0) gh_mono (fun v σ1 hv => ?_)
  obtain ⟨I1, z, rfl⟩ := hv
  rw [show gm_rc 134 = 1 by decide +kernel]
  show G _ _ [.inl z] σ1
  refine gj_pop HS (show gh_at gl_law 806 = some (806, 1, .pop, 0, 0, []) from rfl) rfl ?_
  refine gj_aload_n HS (show gh_at gl_law 807 = some (807, 1, .aload_n 2, 0, 0, []) from rfl) rfl rfl ?_
  refine gj_callV HS (r := 1891) (as := []) (t := []) (show gh_at gl_law 808 = some (808, 3, .invokevirtual 118, 135, 0, [(0, 2047)]) from rfl) (by decide) rfl (by show 1 = _; decide +kernel) (Nat.le_trans (gh_wd _) (Nat.le_of_ble_eq_true rfl)) rfl (by decide +kernel) (by decide +kernel) (Ψ := fun v σ' => gl_I σ' ∧ ∃ z : Int, v = .inl z) (gl_mX (fun hb hf => cn_48 hb hf) (by decide +kernel) (by decide) (by decide +kernel) (by decide) (by show gl_ml [(236, 44), (259, 1048576), (260, 7), (260, 8), (260, 9), (260, 10), (260, 11), (260, 12), (260, 13), (260, 14), (260, 15), (260, 16), (260, 17), (260, 18), (260, 19), (260, 20), (260, 21), (260, 22), (260, 23), (260, 24), (260, 25), (260, 26), (260, 27), (260, 28), (261, 0), (261, 1), (261, 2), (261, 3), (261, 4), (261, 5), (261, 6), (261, 7), (261, 8), (261, 9), (261, 10), (261, 11), (261, 12), (261, 13), (261, 14), (261, 15), (261, 16), (261, 17), (261, 18), (261, 19), (261, 20), (261, 21), (261, 22), (261, 23), (261, 24), (261, 25), (261, 26), (261, 27), (261, 28), (262, 1048576), (263, 1048576)]; unfold gl_ml; decide +kernel) ⟨Or.inr (Or.inl ⟨rfl, rfl⟩), trivial⟩ I1) gh_mono (fun v σ2 hv => ?_)
  obtain ⟨I2, z, rfl⟩ := hv
  rw [show gm_rc 135 = 1 by decide +kernel]
  show G _ _ [.inl z] σ2
  refine gj_pop HS (show gh_at gl_law 811 = some (811, 1, .pop, 0, 0, []) from rfl) rfl ?_
  refine gj_goto HS (show gh_at gl_law 812 = some (812, 3, .goto (568), 0, 1380, []) from rfl) ?_
  exact K σ2 I2
set_option maxRecDepth 100000 in
theorem gl_c25 {G : gp_G} (HS : gl_HS G) {ρ : Nat → Int32} {L : Nat} (HI : gl_HI ρ L G) {i : Int} (hi : 0 ≤ i) (hL : i + 5 < (L : Int)) (hb9 : L < 1000000) {σ : gp_S} (I0 : gl_I σ) (K : ∀ σ', gl_I σ' → G 1380 (gl_al i) [] σ') : G 815 (gl_al i) [] σ := by
  refine gj_aload_n HS (show gh_at gl_law 815 = some (815, 1, .aload_n 1, 0, 0, []) from rfl) rfl rfl ?_
  refine gj_fetch HS HI 1 8 (show gh_at gl_law 816 = some (816, 1, .aload_n 0, 0, 0, []) from rfl) (show gh_at gl_law 817 = some (817, 1, .iload_n 3, 0, 0, []) from rfl) (show gh_at gl_law 818 = some (818, 1, .iconst 1, 8, 0, []) from rfl) (show gh_at gl_law 819 = some (819, 1, .iadd, 0, 0, []) from rfl) (show gh_at gl_law 820 = some (820, 1, .iaload, 0, 0, []) from rfl) (by decide) (by decide) hi hL hb9 ?_
  refine gj_fetch HS HI 2 16 (show gh_at gl_law 821 = some (821, 1, .aload_n 0, 0, 0, []) from rfl) (show gh_at gl_law 822 = some (822, 1, .iload_n 3, 0, 0, []) from rfl) (show gh_at gl_law 823 = some (823, 1, .iconst 2, 16, 0, []) from rfl) (show gh_at gl_law 824 = some (824, 1, .iadd, 0, 0, []) from rfl) (show gh_at gl_law 825 = some (825, 1, .iaload, 0, 0, []) from rfl) (by decide) (by decide) hi hL hb9 ?_
  refine gj_callV HS (r := 3) (as := [.inl (ρ (i + 1).toNat).toInt, .inl (ρ (i + 2).toNat).toInt]) (t := []) (show gh_at gl_law 826 = some (826, 3, .invokevirtual 119, 133, 0, [(0, 1205)]) from rfl) (by decide) rfl (by show 3 = _; decide +kernel) (Nat.le_trans (gh_wd _) (Nat.le_of_ble_eq_true rfl)) rfl (by decide +kernel) (by decide +kernel) (Ψ := fun v σ' => gl_I σ' ∧ ∃ z : Int, v = .inl z) (gl_cls (fun σr => cy_219 σr) (by decide) (by decide +kernel) (by decide) ⟨Or.inr (Or.inl ⟨rfl, rfl⟩), gh_any (gl_r _), gh_any (gl_r _), trivial⟩ I0) gh_mono (fun v σ1 hv => ?_)
  obtain ⟨I1, z, rfl⟩ := hv
  rw [show gm_rc 133 = 1 by decide +kernel]
  show G _ _ [.inl z] σ1
  refine gj_pop HS (show gh_at gl_law 829 = some (829, 1, .pop, 0, 0, []) from rfl) rfl ?_
  refine gj_aload_n HS (show gh_at gl_law 830 = some (830, 1, .aload_n 2, 0, 0, []) from rfl) rfl rfl ?_
  refine gj_fetch HS HI 1 8 (show gh_at gl_law 831 = some (831, 1, .aload_n 0, 0, 0, []) from rfl) (show gh_at gl_law 832 = some (832, 1, .iload_n 3, 0, 0, []) from rfl) (show gh_at gl_law 833 = some (833, 1, .iconst 1, 8, 0, []) from rfl) (show gh_at gl_law 834 = some (834, 1, .iadd, 0, 0, []) from rfl) (show gh_at gl_law 835 = some (835, 1, .iaload, 0, 0, []) from rfl) (by decide) (by decide) hi hL hb9 ?_
  refine gj_fetch HS HI 2 16 (show gh_at gl_law 836 = some (836, 1, .aload_n 0, 0, 0, []) from rfl) (show gh_at gl_law 837 = some (837, 1, .iload_n 3, 0, 0, []) from rfl) (show gh_at gl_law 838 = some (838, 1, .iconst 2, 16, 0, []) from rfl) (show gh_at gl_law 839 = some (839, 1, .iadd, 0, 0, []) from rfl) (show gh_at gl_law 840 = some (840, 1, .iaload, 0, 0, []) from rfl) (by decide) (by decide) hi hL hb9 ?_
  obtain ⟨-, ⟨b, f, hb, hW, hY⟩, -⟩ := id I1
  refine gj_callV HS (r := 1891) (as := [.inl (ρ (i + 1).toNat).toInt, .inl (ρ (i + 2).toNat).toInt]) (t := []) (show gh_at gl_law 841 = some (841, 3, .invokevirtual 122, 78, 0, [(0, 2000)]) from rfl) (by decide) rfl (by show 3 = _; decide +kernel) (Nat.le_trans (gh_wd _) (Nat.le_of_ble_eq_true rfl)) rfl (by decide +kernel) (by decide +kernel) (Ψ := fun v σ' => gl_I σ' ∧ ∃ z : Int, v = .inl z) (gl_mF (ml := []) I1 hb (by decide) (by unfold gl_ml; decide +kernel) (by decide) (gp_call_post (fun v σ' h => ⟨by rw [h.1]; exact hW, by rw [h.1]; exact hY, by rw [h.1]; exact gh_f0, h.2⟩) (gz_best hb hW hY))) gh_mono (fun v σ2 hv => ?_)
  obtain ⟨I2, z, rfl⟩ := hv
  rw [show gm_rc 78 = 1 by decide +kernel]
  show G _ _ [.inl z] σ2
  refine gj_pop HS (show gh_at gl_law 844 = some (844, 1, .pop, 0, 0, []) from rfl) rfl ?_
  refine gj_goto HS (show gh_at gl_law 845 = some (845, 3, .goto (535), 0, 1380, []) from rfl) ?_
  exact K σ2 I2
set_option maxRecDepth 100000 in
theorem gl_c26 {G : gp_G} (HS : gl_HS G) {ρ : Nat → Int32} {L : Nat} (HI : gl_HI ρ L G) {i : Int} (hi : 0 ≤ i) (hL : i + 5 < (L : Int)) (hb9 : L < 1000000) {σ : gp_S} (I0 : gl_I σ) (K : ∀ σ', gl_I σ' → G 1380 (gl_al i) [] σ') : G 848 (gl_al i) [] σ := by
  refine gj_aload_n HS (show gh_at gl_law 848 = some (848, 1, .aload_n 1, 0, 0, []) from rfl) rfl rfl ?_
  refine gj_fetch HS HI 1 8 (show gh_at gl_law 849 = some (849, 1, .aload_n 0, 0, 0, []) from rfl) (show gh_at gl_law 850 = some (850, 1, .iload_n 3, 0, 0, []) from rfl) (show gh_at gl_law 851 = some (851, 1, .iconst 1, 8, 0, []) from rfl) (show gh_at gl_law 852 = some (852, 1, .iadd, 0, 0, []) from rfl) (show gh_at gl_law 853 = some (853, 1, .iaload, 0, 0, []) from rfl) (by decide) (by decide) hi hL hb9 ?_
  refine gj_callV HS (r := 3) (as := [.inl (ρ (i + 1).toNat).toInt]) (t := []) (show gh_at gl_law 854 = some (854, 3, .invokevirtual 123, 132, 0, [(0, 1209)]) from rfl) (by decide) rfl (by show 2 = _; decide +kernel) (Nat.le_trans (gh_wd _) (Nat.le_of_ble_eq_true rfl)) rfl (by decide +kernel) (by decide +kernel) (Ψ := fun v σ' => gl_I σ' ∧ ∃ z : Int, v = .inl z) (gl_cls (fun σr => cy_220 σr) (by decide) (by decide +kernel) (by decide) ⟨Or.inr (Or.inl ⟨rfl, rfl⟩), gh_any (gl_r _), trivial⟩ I0) gh_mono (fun v σ1 hv => ?_)
  obtain ⟨I1, z, rfl⟩ := hv
  rw [show gm_rc 132 = 1 by decide +kernel]
  show G _ _ [.inl z] σ1
  refine gj_pop HS (show gh_at gl_law 857 = some (857, 1, .pop, 0, 0, []) from rfl) rfl ?_
  refine gj_aload_n HS (show gh_at gl_law 858 = some (858, 1, .aload_n 2, 0, 0, []) from rfl) rfl rfl ?_
  refine gj_fetch HS HI 1 8 (show gh_at gl_law 859 = some (859, 1, .aload_n 0, 0, 0, []) from rfl) (show gh_at gl_law 860 = some (860, 1, .iload_n 3, 0, 0, []) from rfl) (show gh_at gl_law 861 = some (861, 1, .iconst 1, 8, 0, []) from rfl) (show gh_at gl_law 862 = some (862, 1, .iadd, 0, 0, []) from rfl) (show gh_at gl_law 863 = some (863, 1, .iaload, 0, 0, []) from rfl) (by decide) (by decide) hi hL hb9 ?_
  refine gj_callV HS (r := 1891) (as := [.inl (ρ (i + 1).toNat).toInt]) (t := []) (show gh_at gl_law 864 = some (864, 3, .invokevirtual 126, 38, 0, [(0, 1931)]) from rfl) (by decide) rfl (by show 2 = _; decide +kernel) (Nat.le_trans (gh_wd _) (Nat.le_of_ble_eq_true rfl)) rfl (by decide +kernel) (by decide +kernel) (Ψ := fun v σ' => gl_I σ' ∧ ∃ z : Int, v = .inl z) (gl_mX (fun hb hf => cn_45 hb hf) (by decide +kernel) (by decide) (by decide +kernel) (by decide) (by show gl_ml [(259, 1048576), (260, 7), (260, 8), (260, 9), (260, 10), (260, 11), (260, 12), (260, 13), (260, 14), (260, 15), (260, 16), (260, 17), (260, 18), (260, 19), (260, 20), (260, 21), (260, 22), (260, 23), (260, 24), (260, 25), (260, 26), (260, 27), (260, 28), (261, 0), (261, 1), (261, 2), (261, 3), (261, 4), (261, 5), (261, 6), (261, 7), (261, 8), (261, 9), (261, 10), (261, 11), (261, 12), (261, 13), (261, 14), (261, 15), (261, 16), (261, 17), (261, 18), (261, 19), (261, 20), (261, 21), (261, 22), (261, 23), (261, 24), (261, 25), (261, 26), (261, 27), (261, 28)]; unfold gl_ml; decide +kernel) ⟨Or.inr (Or.inl ⟨rfl, rfl⟩), gh_any (gl_r _), trivial⟩ I1) gh_mono (fun v σ2 hv => ?_)
  obtain ⟨I2, z, rfl⟩ := hv
  rw [show gm_rc 38 = 1 by decide +kernel]
  show G _ _ [.inl z] σ2
  refine gj_pop HS (show gh_at gl_law 867 = some (867, 1, .pop, 0, 0, []) from rfl) rfl ?_
  refine gj_goto HS (show gh_at gl_law 868 = some (868, 3, .goto (512), 0, 1380, []) from rfl) ?_
  exact K σ2 I2
set_option maxRecDepth 100000 in
theorem gl_c27 {G : gp_G} (HS : gl_HS G) {ρ : Nat → Int32} {L : Nat} (HI : gl_HI ρ L G) {i : Int} (hi : 0 ≤ i) (hL : i + 5 < (L : Int)) (hb9 : L < 1000000) {σ : gp_S} (I0 : gl_I σ) (K : ∀ σ', gl_I σ' → G 1380 (gl_al i) [] σ') : G 871 (gl_al i) [] σ := by
  refine gj_aload_n HS (show gh_at gl_law 871 = some (871, 1, .aload_n 1, 0, 0, []) from rfl) rfl rfl ?_
  refine gj_fetch HS HI 1 8 (show gh_at gl_law 872 = some (872, 1, .aload_n 0, 0, 0, []) from rfl) (show gh_at gl_law 873 = some (873, 1, .iload_n 3, 0, 0, []) from rfl) (show gh_at gl_law 874 = some (874, 1, .iconst 1, 8, 0, []) from rfl) (show gh_at gl_law 875 = some (875, 1, .iadd, 0, 0, []) from rfl) (show gh_at gl_law 876 = some (876, 1, .iaload, 0, 0, []) from rfl) (by decide) (by decide) hi hL hb9 ?_
  refine gj_fetch HS HI 2 16 (show gh_at gl_law 877 = some (877, 1, .aload_n 0, 0, 0, []) from rfl) (show gh_at gl_law 878 = some (878, 1, .iload_n 3, 0, 0, []) from rfl) (show gh_at gl_law 879 = some (879, 1, .iconst 2, 16, 0, []) from rfl) (show gh_at gl_law 880 = some (880, 1, .iadd, 0, 0, []) from rfl) (show gh_at gl_law 881 = some (881, 1, .iaload, 0, 0, []) from rfl) (by decide) (by decide) hi hL hb9 ?_
  refine gj_callV HS (r := 3) (as := [.inl (ρ (i + 1).toNat).toInt, .inl (ρ (i + 2).toNat).toInt]) (t := []) (show gh_at gl_law 882 = some (882, 3, .invokevirtual 127, 130, 0, [(0, 1220)]) from rfl) (by decide) rfl (by show 3 = _; decide +kernel) (Nat.le_trans (gh_wd _) (Nat.le_of_ble_eq_true rfl)) rfl (by decide +kernel) (by decide +kernel) (Ψ := fun v σ' => gl_I σ' ∧ ∃ z : Int, v = .inl z) (gl_cls (fun σr => cy_221 σr) (by decide) (by decide +kernel) (by decide) ⟨Or.inr (Or.inl ⟨rfl, rfl⟩), gh_any (gl_r _), gh_any (gl_r _), trivial⟩ I0) gh_mono (fun v σ1 hv => ?_)
  obtain ⟨I1, z, rfl⟩ := hv
  rw [show gm_rc 130 = 1 by decide +kernel]
  show G _ _ [.inl z] σ1
  refine gj_pop HS (show gh_at gl_law 885 = some (885, 1, .pop, 0, 0, []) from rfl) rfl ?_
  refine gj_aload_n HS (show gh_at gl_law 886 = some (886, 1, .aload_n 2, 0, 0, []) from rfl) rfl rfl ?_
  refine gj_fetch HS HI 1 8 (show gh_at gl_law 887 = some (887, 1, .aload_n 0, 0, 0, []) from rfl) (show gh_at gl_law 888 = some (888, 1, .iload_n 3, 0, 0, []) from rfl) (show gh_at gl_law 889 = some (889, 1, .iconst 1, 8, 0, []) from rfl) (show gh_at gl_law 890 = some (890, 1, .iadd, 0, 0, []) from rfl) (show gh_at gl_law 891 = some (891, 1, .iaload, 0, 0, []) from rfl) (by decide) (by decide) hi hL hb9 ?_
  refine gj_fetch HS HI 2 16 (show gh_at gl_law 892 = some (892, 1, .aload_n 0, 0, 0, []) from rfl) (show gh_at gl_law 893 = some (893, 1, .iload_n 3, 0, 0, []) from rfl) (show gh_at gl_law 894 = some (894, 1, .iconst 2, 16, 0, []) from rfl) (show gh_at gl_law 895 = some (895, 1, .iadd, 0, 0, []) from rfl) (show gh_at gl_law 896 = some (896, 1, .iaload, 0, 0, []) from rfl) (by decide) (by decide) hi hL hb9 ?_
  refine gj_callV HS (r := 1891) (as := [.inl (ρ (i + 1).toNat).toInt, .inl (ρ (i + 2).toNat).toInt]) (t := []) (show gh_at gl_law 897 = some (897, 3, .invokevirtual 130, 51, 0, [(0, 2059)]) from rfl) (by decide) rfl (by show 3 = _; decide +kernel) (Nat.le_trans (gh_wd _) (Nat.le_of_ble_eq_true rfl)) rfl (by decide +kernel) (by decide +kernel) (Ψ := fun v σ' => gl_I σ' ∧ ∃ z : Int, v = .inl z) (gl_mX (fun hb hf => cn_49 hb hf) (by decide +kernel) (by decide) (by decide +kernel) (by decide) (by show gl_ml [(236, 44), (236, 51), (259, 1048576), (260, 7), (260, 8), (260, 9), (260, 10), (260, 11), (260, 12), (260, 13), (260, 14), (260, 15), (260, 16), (260, 17), (260, 18), (260, 19), (260, 20), (260, 21), (260, 22), (260, 23), (260, 24), (260, 25), (260, 26), (260, 27), (260, 28), (261, 0), (261, 1), (261, 2), (261, 3), (261, 4), (261, 5), (261, 6), (261, 7), (261, 8), (261, 9), (261, 10), (261, 11), (261, 12), (261, 13), (261, 14), (261, 15), (261, 16), (261, 17), (261, 18), (261, 19), (261, 20), (261, 21), (261, 22), (261, 23), (261, 24), (261, 25), (261, 26), (261, 27), (261, 28), (262, 1048576), (263, 1048576), (265, 0), (265, 1), (268, 1048576), (269, 1048576)]; unfold gl_ml; decide +kernel) ⟨Or.inr (Or.inl ⟨rfl, rfl⟩), gh_any (gl_r _), gh_any (gl_r _), trivial⟩ I1) gh_mono (fun v σ2 hv => ?_)
  obtain ⟨I2, z, rfl⟩ := hv
  rw [show gm_rc 51 = 1 by decide +kernel]
  show G _ _ [.inl z] σ2
  refine gj_pop HS (show gh_at gl_law 900 = some (900, 1, .pop, 0, 0, []) from rfl) rfl ?_
  refine gj_goto HS (show gh_at gl_law 901 = some (901, 3, .goto (479), 0, 1380, []) from rfl) ?_
  exact K σ2 I2
set_option maxRecDepth 100000 in
theorem gl_c28 {G : gp_G} (HS : gl_HS G) {ρ : Nat → Int32} {L : Nat} (HI : gl_HI ρ L G) {i : Int} (hi : 0 ≤ i) (hL : i + 5 < (L : Int)) (hb9 : L < 1000000) {σ : gp_S} (I0 : gl_I σ) (K : ∀ σ', gl_I σ' → G 1380 (gl_al i) [] σ') : G 904 (gl_al i) [] σ := by
  refine gj_aload_n HS (show gh_at gl_law 904 = some (904, 1, .aload_n 1, 0, 0, []) from rfl) rfl rfl ?_
  refine gj_fetch HS HI 1 8 (show gh_at gl_law 905 = some (905, 1, .aload_n 0, 0, 0, []) from rfl) (show gh_at gl_law 906 = some (906, 1, .iload_n 3, 0, 0, []) from rfl) (show gh_at gl_law 907 = some (907, 1, .iconst 1, 8, 0, []) from rfl) (show gh_at gl_law 908 = some (908, 1, .iadd, 0, 0, []) from rfl) (show gh_at gl_law 909 = some (909, 1, .iaload, 0, 0, []) from rfl) (by decide) (by decide) hi hL hb9 ?_
  refine gj_callV HS (r := 3) (as := [.inl (ρ (i + 1).toNat).toInt]) (t := []) (show gh_at gl_law 910 = some (910, 3, .invokevirtual 131, 129, 0, [(0, 1242)]) from rfl) (by decide) rfl (by show 2 = _; decide +kernel) (Nat.le_trans (gh_wd _) (Nat.le_of_ble_eq_true rfl)) rfl (by decide +kernel) (by decide +kernel) (Ψ := fun v σ' => gl_I σ' ∧ ∃ z : Int, v = .inl z) (gl_cls (fun σr => cy_222 σr) (by decide) (by decide +kernel) (by decide) ⟨Or.inr (Or.inl ⟨rfl, rfl⟩), gh_any (gl_r _), trivial⟩ I0) gh_mono (fun v σ1 hv => ?_)
  obtain ⟨I1, z, rfl⟩ := hv
  rw [show gm_rc 129 = 1 by decide +kernel]
  show G _ _ [.inl z] σ1
  refine gj_pop HS (show gh_at gl_law 913 = some (913, 1, .pop, 0, 0, []) from rfl) rfl ?_
  refine gj_aload_n HS (show gh_at gl_law 914 = some (914, 1, .aload_n 2, 0, 0, []) from rfl) rfl rfl ?_
  refine gj_fetch HS HI 1 8 (show gh_at gl_law 915 = some (915, 1, .aload_n 0, 0, 0, []) from rfl) (show gh_at gl_law 916 = some (916, 1, .iload_n 3, 0, 0, []) from rfl) (show gh_at gl_law 917 = some (917, 1, .iconst 1, 8, 0, []) from rfl) (show gh_at gl_law 918 = some (918, 1, .iadd, 0, 0, []) from rfl) (show gh_at gl_law 919 = some (919, 1, .iaload, 0, 0, []) from rfl) (by decide) (by decide) hi hL hb9 ?_
  refine gj_callV HS (r := 1891) (as := [.inl (ρ (i + 1).toNat).toInt]) (t := []) (show gh_at gl_law 920 = some (920, 3, .invokevirtual 134, 76, 0, [(0, 2031)]) from rfl) (by decide) rfl (by show 2 = _; decide +kernel) (Nat.le_trans (gh_wd _) (Nat.le_of_ble_eq_true rfl)) rfl (by decide +kernel) (by decide +kernel) (Ψ := fun v σ' => gl_I σ' ∧ ∃ z : Int, v = .inl z) (gl_mX (fun hb hf => cn_34 hb hf) (by decide +kernel) (by decide) (by decide +kernel) (by decide) (by show gl_ml []; unfold gl_ml; decide +kernel) ⟨Or.inr (Or.inl ⟨rfl, rfl⟩), gh_any (gl_r _), trivial⟩ I1) gh_mono (fun v σ2 hv => ?_)
  obtain ⟨I2, z, rfl⟩ := hv
  rw [show gm_rc 76 = 1 by decide +kernel]
  show G _ _ [.inl z] σ2
  refine gj_pop HS (show gh_at gl_law 923 = some (923, 1, .pop, 0, 0, []) from rfl) rfl ?_
  refine gj_goto HS (show gh_at gl_law 924 = some (924, 3, .goto (456), 0, 1380, []) from rfl) ?_
  exact K σ2 I2
set_option maxRecDepth 100000 in
theorem gl_c29 {G : gp_G} (HS : gl_HS G) {ρ : Nat → Int32} {L : Nat} (HI : gl_HI ρ L G) {i : Int} (hi : 0 ≤ i) (hL : i + 5 < (L : Int)) (hb9 : L < 1000000) {σ : gp_S} (I0 : gl_I σ) (K : ∀ σ', gl_I σ' → G 1380 (gl_al i) [] σ') : G 927 (gl_al i) [] σ := by
  refine gj_aload_n HS (show gh_at gl_law 927 = some (927, 1, .aload_n 1, 0, 0, []) from rfl) rfl rfl ?_
  refine gj_callV HS (r := 3) (as := []) (t := []) (show gh_at gl_law 928 = some (928, 3, .invokevirtual 135, 126, 0, [(0, 1250)]) from rfl) (by decide) rfl (by show 1 = _; decide +kernel) (Nat.le_trans (gh_wd _) (Nat.le_of_ble_eq_true rfl)) rfl (by decide +kernel) (by decide +kernel) (Ψ := fun v σ' => gl_I σ' ∧ ∃ z : Int, v = .inl z) (gl_cls (fun σr => cy_223 σr) (by decide) (by decide +kernel) (by decide) ⟨Or.inr (Or.inl ⟨rfl, rfl⟩), trivial⟩ I0) gh_mono (fun v σ1 hv => ?_)
  obtain ⟨I1, z, rfl⟩ := hv
  rw [show gm_rc 126 = 1 by decide +kernel]
  show G _ _ [.inl z] σ1
  refine gj_pop HS (show gh_at gl_law 931 = some (931, 1, .pop, 0, 0, []) from rfl) rfl ?_
  refine gj_aload_n HS (show gh_at gl_law 932 = some (932, 1, .aload_n 2, 0, 0, []) from rfl) rfl rfl ?_
  refine gj_callV HS (r := 1891) (as := []) (t := []) (show gh_at gl_law 933 = some (933, 3, .invokevirtual 138, 128, 0, [(0, 2043)]) from rfl) (by decide) rfl (by show 1 = _; decide +kernel) (Nat.le_trans (gh_wd _) (Nat.le_of_ble_eq_true rfl)) rfl (by decide +kernel) (by decide +kernel) (Ψ := fun v σ' => gl_I σ' ∧ ∃ z : Int, v = .inl z) (gl_mX (fun hb hf => cn_35 hb hf) (by decide +kernel) (by decide) (by decide +kernel) (by decide) (by show gl_ml []; unfold gl_ml; decide +kernel) ⟨Or.inr (Or.inl ⟨rfl, rfl⟩), trivial⟩ I1) gh_mono (fun v σ2 hv => ?_)
  obtain ⟨I2, z, rfl⟩ := hv
  rw [show gm_rc 128 = 1 by decide +kernel]
  show G _ _ [.inl z] σ2
  refine gj_pop HS (show gh_at gl_law 936 = some (936, 1, .pop, 0, 0, []) from rfl) rfl ?_
  refine gj_goto HS (show gh_at gl_law 937 = some (937, 3, .goto (443), 0, 1380, []) from rfl) ?_
  exact K σ2 I2
set_option maxRecDepth 100000 in
theorem gl_c30 {G : gp_G} (HS : gl_HS G) {ρ : Nat → Int32} {L : Nat} (HI : gl_HI ρ L G) {i : Int} (hi : 0 ≤ i) (hL : i + 5 < (L : Int)) (hb9 : L < 1000000) {σ : gp_S} (I0 : gl_I σ) (K : ∀ σ', gl_I σ' → G 1380 (gl_al i) [] σ') : G 940 (gl_al i) [] σ := by
  refine gj_aload_n HS (show gh_at gl_law 940 = some (940, 1, .aload_n 1, 0, 0, []) from rfl) rfl rfl ?_
  refine gj_fetch HS HI 1 8 (show gh_at gl_law 941 = some (941, 1, .aload_n 0, 0, 0, []) from rfl) (show gh_at gl_law 942 = some (942, 1, .iload_n 3, 0, 0, []) from rfl) (show gh_at gl_law 943 = some (943, 1, .iconst 1, 8, 0, []) from rfl) (show gh_at gl_law 944 = some (944, 1, .iadd, 0, 0, []) from rfl) (show gh_at gl_law 945 = some (945, 1, .iaload, 0, 0, []) from rfl) (by decide) (by decide) hi hL hb9 ?_
  refine gj_callV HS (r := 3) (as := [.inl (ρ (i + 1).toNat).toInt]) (t := []) (show gh_at gl_law 946 = some (946, 3, .invokevirtual 139, 125, 0, [(0, 1259)]) from rfl) (by decide) rfl (by show 2 = _; decide +kernel) (Nat.le_trans (gh_wd _) (Nat.le_of_ble_eq_true rfl)) rfl (by decide +kernel) (by decide +kernel) (Ψ := fun v σ' => gl_I σ' ∧ ∃ z : Int, v = .inl z) (gl_cls (fun σr => cy_224 σr) (by decide) (by decide +kernel) (by decide) ⟨Or.inr (Or.inl ⟨rfl, rfl⟩), gh_any (gl_r _), trivial⟩ I0) gh_mono (fun v σ1 hv => ?_)
  obtain ⟨I1, z, rfl⟩ := hv
  rw [show gm_rc 125 = 1 by decide +kernel]
  show G _ _ [.inl z] σ1
  refine gj_pop HS (show gh_at gl_law 949 = some (949, 1, .pop, 0, 0, []) from rfl) rfl ?_
  refine gj_aload_n HS (show gh_at gl_law 950 = some (950, 1, .aload_n 2, 0, 0, []) from rfl) rfl rfl ?_
  refine gj_fetch HS HI 1 8 (show gh_at gl_law 951 = some (951, 1, .aload_n 0, 0, 0, []) from rfl) (show gh_at gl_law 952 = some (952, 1, .iload_n 3, 0, 0, []) from rfl) (show gh_at gl_law 953 = some (953, 1, .iconst 1, 8, 0, []) from rfl) (show gh_at gl_law 954 = some (954, 1, .iadd, 0, 0, []) from rfl) (show gh_at gl_law 955 = some (955, 1, .iaload, 0, 0, []) from rfl) (by decide) (by decide) hi hL hb9 ?_
  refine gj_callV HS (r := 1891) (as := [.inl (ρ (i + 1).toNat).toInt]) (t := []) (show gh_at gl_law 956 = some (956, 3, .invokevirtual 142, 75, 0, [(0, 1829)]) from rfl) (by decide) rfl (by show 2 = _; decide +kernel) (Nat.le_trans (gh_wd _) (Nat.le_of_ble_eq_true rfl)) rfl (by decide +kernel) (by decide +kernel) (Ψ := fun v σ' => gl_I σ' ∧ ∃ z : Int, v = .inl z) (gl_mX (fun hb hf => cn_30 hb hf) (by decide +kernel) (by decide) (by decide +kernel) (by decide) (by show gl_ml [(260, 26)]; unfold gl_ml; decide +kernel) ⟨Or.inr (Or.inl ⟨rfl, rfl⟩), gh_any (gl_r _), trivial⟩ I1) gh_mono (fun v σ2 hv => ?_)
  obtain ⟨I2, z, rfl⟩ := hv
  rw [show gm_rc 75 = 1 by decide +kernel]
  show G _ _ [.inl z] σ2
  refine gj_pop HS (show gh_at gl_law 959 = some (959, 1, .pop, 0, 0, []) from rfl) rfl ?_
  refine gj_goto HS (show gh_at gl_law 960 = some (960, 3, .goto (420), 0, 1380, []) from rfl) ?_
  exact K σ2 I2
set_option maxRecDepth 100000 in
theorem gl_c31 {G : gp_G} (HS : gl_HS G) {ρ : Nat → Int32} {L : Nat} (HI : gl_HI ρ L G) {i : Int} (hi : 0 ≤ i) (hL : i + 5 < (L : Int)) (hb9 : L < 1000000) {σ : gp_S} (I0 : gl_I σ) (K : ∀ σ', gl_I σ' → G 1380 (gl_al i) [] σ') : G 963 (gl_al i) [] σ := by
  refine gj_aload_n HS (show gh_at gl_law 963 = some (963, 1, .aload_n 1, 0, 0, []) from rfl) rfl rfl ?_
  refine gj_callV HS (r := 3) (as := []) (t := []) (show gh_at gl_law 964 = some (964, 3, .invokevirtual 143, 123, 0, [(0, 1263)]) from rfl) (by decide) rfl (by show 1 = _; decide +kernel) (Nat.le_trans (gh_wd _) (Nat.le_of_ble_eq_true rfl)) rfl (by decide +kernel) (by decide +kernel) (Ψ := fun v σ' => gl_I σ' ∧ ∃ z : Int, v = .inl z) (gl_cls (fun σr => cy_225 σr) (by decide) (by decide +kernel) (by decide) ⟨Or.inr (Or.inl ⟨rfl, rfl⟩), trivial⟩ I0) gh_mono (fun v σ1 hv => ?_)
  obtain ⟨I1, z, rfl⟩ := hv
  rw [show gm_rc 123 = 1 by decide +kernel]
  show G _ _ [.inl z] σ1
  refine gj_pop HS (show gh_at gl_law 967 = some (967, 1, .pop, 0, 0, []) from rfl) rfl ?_
  refine gj_aload_n HS (show gh_at gl_law 968 = some (968, 1, .aload_n 2, 0, 0, []) from rfl) rfl rfl ?_
  refine gj_callV HS (r := 1891) (as := []) (t := []) (show gh_at gl_law 969 = some (969, 3, .invokevirtual 146, 124, 0, [(0, 1810)]) from rfl) (by decide) rfl (by show 1 = _; decide +kernel) (Nat.le_trans (gh_wd _) (Nat.le_of_ble_eq_true rfl)) rfl (by decide +kernel) (by decide +kernel) (Ψ := fun v σ' => gl_I σ' ∧ ∃ z : Int, v = .inl z) (gl_mX (fun hb hf => cn_26 hb hf) (by decide +kernel) (by decide) (by decide +kernel) (by decide) (by show gl_ml []; unfold gl_ml; decide +kernel) ⟨Or.inr (Or.inl ⟨rfl, rfl⟩), trivial⟩ I1) gh_mono (fun v σ2 hv => ?_)
  obtain ⟨I2, z, rfl⟩ := hv
  rw [show gm_rc 124 = 1 by decide +kernel]
  show G _ _ [.inl z] σ2
  refine gj_pop HS (show gh_at gl_law 972 = some (972, 1, .pop, 0, 0, []) from rfl) rfl ?_
  refine gj_goto HS (show gh_at gl_law 973 = some (973, 3, .goto (407), 0, 1380, []) from rfl) ?_
  exact K σ2 I2
set_option maxRecDepth 100000 in
theorem gl_c32 {G : gp_G} (HS : gl_HS G) {ρ : Nat → Int32} {L : Nat} (HI : gl_HI ρ L G) {i : Int} (hi : 0 ≤ i) (hL : i + 5 < (L : Int)) (hb9 : L < 1000000) {σ : gp_S} (I0 : gl_I σ) (K : ∀ σ', gl_I σ' → G 1380 (gl_al i) [] σ') : G 976 (gl_al i) [] σ := by
  refine gj_aload_n HS (show gh_at gl_law 976 = some (976, 1, .aload_n 1, 0, 0, []) from rfl) rfl rfl ?_
  refine gj_callV HS (r := 3) (as := []) (t := []) (show gh_at gl_law 977 = some (977, 3, .invokevirtual 147, 121, 0, [(0, 1267)]) from rfl) (by decide) rfl (by show 1 = _; decide +kernel) (Nat.le_trans (gh_wd _) (Nat.le_of_ble_eq_true rfl)) rfl (by decide +kernel) (by decide +kernel) (Ψ := fun v σ' => gl_I σ' ∧ ∃ z : Int, v = .inl z) (gl_cls (fun σr => cy_226 σr) (by decide) (by decide +kernel) (by decide) ⟨Or.inr (Or.inl ⟨rfl, rfl⟩), trivial⟩ I0) gh_mono (fun v σ1 hv => ?_)
  obtain ⟨I1, z, rfl⟩ := hv
  rw [show gm_rc 121 = 1 by decide +kernel]
  show G _ _ [.inl z] σ1
  refine gj_pop HS (show gh_at gl_law 980 = some (980, 1, .pop, 0, 0, []) from rfl) rfl ?_
  refine gj_aload_n HS (show gh_at gl_law 981 = some (981, 1, .aload_n 2, 0, 0, []) from rfl) rfl rfl ?_
  refine gj_callV HS (r := 1891) (as := []) (t := []) (show gh_at gl_law 982 = some (982, 3, .invokevirtual 150, 122, 0, [(0, 1817)]) from rfl) (by decide) rfl (by show 1 = _; decide +kernel) (Nat.le_trans (gh_wd _) (Nat.le_of_ble_eq_true rfl)) rfl (by decide +kernel) (by decide +kernel) (Ψ := fun v σ' => gl_I σ' ∧ ∃ z : Int, v = .inl z) (gl_mX (fun hb hf => cn_27 hb hf) (by decide +kernel) (by decide) (by decide +kernel) (by decide) (by show gl_ml []; unfold gl_ml; decide +kernel) ⟨Or.inr (Or.inl ⟨rfl, rfl⟩), trivial⟩ I1) gh_mono (fun v σ2 hv => ?_)
  obtain ⟨I2, z, rfl⟩ := hv
  rw [show gm_rc 122 = 1 by decide +kernel]
  show G _ _ [.inl z] σ2
  refine gj_pop HS (show gh_at gl_law 985 = some (985, 1, .pop, 0, 0, []) from rfl) rfl ?_
  refine gj_goto HS (show gh_at gl_law 986 = some (986, 3, .goto (394), 0, 1380, []) from rfl) ?_
  exact K σ2 I2
set_option maxRecDepth 100000 in
theorem gl_c33 {G : gp_G} (HS : gl_HS G) {ρ : Nat → Int32} {L : Nat} (HI : gl_HI ρ L G) {i : Int} (hi : 0 ≤ i) (hL : i + 5 < (L : Int)) (hb9 : L < 1000000) {σ : gp_S} (I0 : gl_I σ) (K : ∀ σ', gl_I σ' → G 1380 (gl_al i) [] σ') : G 989 (gl_al i) [] σ := by
  refine gj_aload_n HS (show gh_at gl_law 989 = some (989, 1, .aload_n 1, 0, 0, []) from rfl) rfl rfl ?_
  refine gj_callV HS (r := 3) (as := []) (t := []) (show gh_at gl_law 990 = some (990, 3, .invokevirtual 151, 119, 0, [(0, 1271)]) from rfl) (by decide) rfl (by show 1 = _; decide +kernel) (Nat.le_trans (gh_wd _) (Nat.le_of_ble_eq_true rfl)) rfl (by decide +kernel) (by decide +kernel) (Ψ := fun v σ' => gl_I σ' ∧ ∃ z : Int, v = .inl z) (gl_cls (fun σr => cy_227 σr) (by decide) (by decide +kernel) (by decide) ⟨Or.inr (Or.inl ⟨rfl, rfl⟩), trivial⟩ I0) gh_mono (fun v σ1 hv => ?_)
  obtain ⟨I1, z, rfl⟩ := hv
  rw [show gm_rc 119 = 1 by decide +kernel]
  show G _ _ [.inl z] σ1
  refine gj_pop HS (show gh_at gl_law 993 = some (993, 1, .pop, 0, 0, []) from rfl) rfl ?_
  refine gj_aload_n HS (show gh_at gl_law 994 = some (994, 1, .aload_n 2, 0, 0, []) from rfl) rfl rfl ?_
  refine gj_callV HS (r := 1891) (as := []) (t := []) (show gh_at gl_law 995 = some (995, 3, .invokevirtual 154, 120, 0, [(0, 1935)]) from rfl) (by decide) rfl (by show 1 = _; decide +kernel) (Nat.le_trans (gh_wd _) (Nat.le_of_ble_eq_true rfl)) rfl (by decide +kernel) (by decide +kernel) (Ψ := fun v σ' => gl_I σ' ∧ ∃ z : Int, v = .inl z) (gl_mX (fun hb hf => cn_46 hb hf) (by decide +kernel) (by decide) (by decide +kernel) (by decide) (by show gl_ml [(259, 1048576), (260, 7), (260, 8), (260, 9), (260, 10), (260, 11), (260, 12), (260, 13), (260, 14), (260, 15), (260, 16), (260, 17), (260, 18), (260, 19), (260, 20), (260, 21), (260, 22), (260, 23), (260, 24), (260, 25), (260, 26), (260, 27), (260, 28), (261, 0), (261, 1), (261, 2), (261, 3), (261, 4), (261, 5), (261, 6), (261, 7), (261, 8), (261, 9), (261, 10), (261, 11), (261, 12), (261, 13), (261, 14), (261, 15), (261, 16), (261, 17), (261, 18), (261, 19), (261, 20), (261, 21), (261, 22), (261, 23), (261, 24), (261, 25), (261, 26), (261, 27), (261, 28), (262, 1048576)]; unfold gl_ml; decide +kernel) ⟨Or.inr (Or.inl ⟨rfl, rfl⟩), trivial⟩ I1) gh_mono (fun v σ2 hv => ?_)
  obtain ⟨I2, z, rfl⟩ := hv
  rw [show gm_rc 120 = 1 by decide +kernel]
  show G _ _ [.inl z] σ2
  refine gj_pop HS (show gh_at gl_law 998 = some (998, 1, .pop, 0, 0, []) from rfl) rfl ?_
  refine gj_goto HS (show gh_at gl_law 999 = some (999, 3, .goto (381), 0, 1380, []) from rfl) ?_
  exact K σ2 I2
set_option maxRecDepth 100000 in
theorem gl_c34 {G : gp_G} (HS : gl_HS G) {ρ : Nat → Int32} {L : Nat} (HI : gl_HI ρ L G) {i : Int} (hi : 0 ≤ i) (hL : i + 5 < (L : Int)) (hb9 : L < 1000000) {σ : gp_S} (I0 : gl_I σ) (K : ∀ σ', gl_I σ' → G 1380 (gl_al i) [] σ') : G 1002 (gl_al i) [] σ := by
  refine gj_aload_n HS (show gh_at gl_law 1002 = some (1002, 1, .aload_n 1, 0, 0, []) from rfl) rfl rfl ?_
  refine gj_callV HS (r := 3) (as := []) (t := []) (show gh_at gl_law 1003 = some (1003, 3, .invokevirtual 155, 117, 0, [(0, 1279)]) from rfl) (by decide) rfl (by show 1 = _; decide +kernel) (Nat.le_trans (gh_wd _) (Nat.le_of_ble_eq_true rfl)) rfl (by decide +kernel) (by decide +kernel) (Ψ := fun v σ' => gl_I σ' ∧ ∃ z : Int, v = .inl z) (gl_cls (fun σr => cy_228 σr) (by decide) (by decide +kernel) (by decide) ⟨Or.inr (Or.inl ⟨rfl, rfl⟩), trivial⟩ I0) gh_mono (fun v σ1 hv => ?_)
  obtain ⟨I1, z, rfl⟩ := hv
  rw [show gm_rc 117 = 1 by decide +kernel]
  show G _ _ [.inl z] σ1
  refine gj_pop HS (show gh_at gl_law 1006 = some (1006, 1, .pop, 0, 0, []) from rfl) rfl ?_
  refine gj_aload_n HS (show gh_at gl_law 1007 = some (1007, 1, .aload_n 2, 0, 0, []) from rfl) rfl rfl ?_
  refine gj_callV HS (r := 1891) (as := []) (t := []) (show gh_at gl_law 1008 = some (1008, 3, .invokevirtual 158, 118, 0, [(0, 1939)]) from rfl) (by decide) rfl (by show 1 = _; decide +kernel) (Nat.le_trans (gh_wd _) (Nat.le_of_ble_eq_true rfl)) rfl (by decide +kernel) (by decide +kernel) (Ψ := fun v σ' => gl_I σ' ∧ ∃ z : Int, v = .inl z) (gl_mX (fun hb hf => cn_47 hb hf) (by decide +kernel) (by decide) (by decide +kernel) (by decide) (by show gl_ml [(259, 1048576), (260, 7), (260, 8), (260, 9), (260, 10), (260, 11), (260, 12), (260, 13), (260, 14), (260, 15), (260, 16), (260, 17), (260, 18), (260, 19), (260, 20), (260, 21), (260, 22), (260, 23), (260, 24), (260, 25), (260, 26), (260, 27), (260, 28), (261, 0), (261, 1), (261, 2), (261, 3), (261, 4), (261, 5), (261, 6), (261, 7), (261, 8), (261, 9), (261, 10), (261, 11), (261, 12), (261, 13), (261, 14), (261, 15), (261, 16), (261, 17), (261, 18), (261, 19), (261, 20), (261, 21), (261, 22), (261, 23), (261, 24), (261, 25), (261, 26), (261, 27), (261, 28), (262, 1048576)]; unfold gl_ml; decide +kernel) ⟨Or.inr (Or.inl ⟨rfl, rfl⟩), trivial⟩ I1) gh_mono (fun v σ2 hv => ?_)
  obtain ⟨I2, z, rfl⟩ := hv
  rw [show gm_rc 118 = 1 by decide +kernel]
  show G _ _ [.inl z] σ2
  refine gj_pop HS (show gh_at gl_law 1011 = some (1011, 1, .pop, 0, 0, []) from rfl) rfl ?_
  refine gj_goto HS (show gh_at gl_law 1012 = some (1012, 3, .goto (368), 0, 1380, []) from rfl) ?_
  exact K σ2 I2
set_option maxRecDepth 100000 in
theorem gl_c35 {G : gp_G} (HS : gl_HS G) {ρ : Nat → Int32} {L : Nat} (HI : gl_HI ρ L G) {i : Int} (hi : 0 ≤ i) (hL : i + 5 < (L : Int)) (hb9 : L < 1000000) {σ : gp_S} (I0 : gl_I σ) (K : ∀ σ', gl_I σ' → G 1380 (gl_al i) [] σ') : G 1015 (gl_al i) [] σ := by
  refine gj_aload_n HS (show gh_at gl_law 1015 = some (1015, 1, .aload_n 1, 0, 0, []) from rfl) rfl rfl ?_
  refine gj_fetch HS HI 1 8 (show gh_at gl_law 1016 = some (1016, 1, .aload_n 0, 0, 0, []) from rfl) (show gh_at gl_law 1017 = some (1017, 1, .iload_n 3, 0, 0, []) from rfl) (show gh_at gl_law 1018 = some (1018, 1, .iconst 1, 8, 0, []) from rfl) (show gh_at gl_law 1019 = some (1019, 1, .iadd, 0, 0, []) from rfl) (show gh_at gl_law 1020 = some (1020, 1, .iaload, 0, 0, []) from rfl) (by decide) (by decide) hi hL hb9 ?_
  refine gj_callV HS (r := 3) (as := [.inl (ρ (i + 1).toNat).toInt]) (t := []) (show gh_at gl_law 1021 = some (1021, 3, .invokevirtual 159, 116, 0, [(0, 1283)]) from rfl) (by decide) rfl (by show 2 = _; decide +kernel) (Nat.le_trans (gh_wd _) (Nat.le_of_ble_eq_true rfl)) rfl (by decide +kernel) (by decide +kernel) (Ψ := fun v σ' => gl_I σ' ∧ ∃ z : Int, v = .inl z) (gl_cls (fun σr => cy_229 σr) (by decide) (by decide +kernel) (by decide) ⟨Or.inr (Or.inl ⟨rfl, rfl⟩), gh_any (gl_r _), trivial⟩ I0) gh_mono (fun v σ1 hv => ?_)
  obtain ⟨I1, z, rfl⟩ := hv
  rw [show gm_rc 116 = 1 by decide +kernel]
  show G _ _ [.inl z] σ1
  refine gj_pop HS (show gh_at gl_law 1024 = some (1024, 1, .pop, 0, 0, []) from rfl) rfl ?_
  refine gj_aload_n HS (show gh_at gl_law 1025 = some (1025, 1, .aload_n 2, 0, 0, []) from rfl) rfl rfl ?_
  refine gj_fetch HS HI 1 8 (show gh_at gl_law 1026 = some (1026, 1, .aload_n 0, 0, 0, []) from rfl) (show gh_at gl_law 1027 = some (1027, 1, .iload_n 3, 0, 0, []) from rfl) (show gh_at gl_law 1028 = some (1028, 1, .iconst 1, 8, 0, []) from rfl) (show gh_at gl_law 1029 = some (1029, 1, .iadd, 0, 0, []) from rfl) (show gh_at gl_law 1030 = some (1030, 1, .iaload, 0, 0, []) from rfl) (by decide) (by decide) hi hL hb9 ?_
  refine gj_callV HS (r := 1891) (as := [.inl (ρ (i + 1).toNat).toInt]) (t := []) (show gh_at gl_law 1031 = some (1031, 3, .invokevirtual 162, 36, 0, [(0, 1821)]) from rfl) (by decide) rfl (by show 2 = _; decide +kernel) (Nat.le_trans (gh_wd _) (Nat.le_of_ble_eq_true rfl)) rfl (by decide +kernel) (by decide +kernel) (Ψ := fun v σ' => gl_I σ' ∧ ∃ z : Int, v = .inl z) (gl_mX (fun hb hf => cn_28 hb hf) (by decide +kernel) (by decide) (by decide +kernel) (by decide) (by show gl_ml []; unfold gl_ml; decide +kernel) ⟨Or.inr (Or.inl ⟨rfl, rfl⟩), gh_any (gl_r _), trivial⟩ I1) gh_mono (fun v σ2 hv => ?_)
  obtain ⟨I2, z, rfl⟩ := hv
  rw [show gm_rc 36 = 1 by decide +kernel]
  show G _ _ [.inl z] σ2
  refine gj_pop HS (show gh_at gl_law 1034 = some (1034, 1, .pop, 0, 0, []) from rfl) rfl ?_
  refine gj_goto HS (show gh_at gl_law 1035 = some (1035, 3, .goto (345), 0, 1380, []) from rfl) ?_
  exact K σ2 I2
set_option maxRecDepth 100000 in
theorem gl_c36 {G : gp_G} (HS : gl_HS G) {ρ : Nat → Int32} {L : Nat} (HI : gl_HI ρ L G) {i : Int} (hi : 0 ≤ i) (hL : i + 5 < (L : Int)) (hb9 : L < 1000000) {σ : gp_S} (I0 : gl_I σ) (K : ∀ σ', gl_I σ' → G 1380 (gl_al i) [] σ') : G 1038 (gl_al i) [] σ := by
  refine gj_aload_n HS (show gh_at gl_law 1038 = some (1038, 1, .aload_n 1, 0, 0, []) from rfl) rfl rfl ?_
  refine gj_fetch HS HI 1 8 (show gh_at gl_law 1039 = some (1039, 1, .aload_n 0, 0, 0, []) from rfl) (show gh_at gl_law 1040 = some (1040, 1, .iload_n 3, 0, 0, []) from rfl) (show gh_at gl_law 1041 = some (1041, 1, .iconst 1, 8, 0, []) from rfl) (show gh_at gl_law 1042 = some (1042, 1, .iadd, 0, 0, []) from rfl) (show gh_at gl_law 1043 = some (1043, 1, .iaload, 0, 0, []) from rfl) (by decide) (by decide) hi hL hb9 ?_
  refine gj_callV HS (r := 3) (as := [.inl (ρ (i + 1).toNat).toInt]) (t := []) (show gh_at gl_law 1044 = some (1044, 3, .invokevirtual 163, 115, 0, [(0, 1288)]) from rfl) (by decide) rfl (by show 2 = _; decide +kernel) (Nat.le_trans (gh_wd _) (Nat.le_of_ble_eq_true rfl)) rfl (by decide +kernel) (by decide +kernel) (Ψ := fun v σ' => gl_I σ' ∧ ∃ z : Int, v = .inl z) (gl_cls (fun σr => cy_230 σr) (by decide) (by decide +kernel) (by decide) ⟨Or.inr (Or.inl ⟨rfl, rfl⟩), gh_any (gl_r _), trivial⟩ I0) gh_mono (fun v σ1 hv => ?_)
  obtain ⟨I1, z, rfl⟩ := hv
  rw [show gm_rc 115 = 1 by decide +kernel]
  show G _ _ [.inl z] σ1
  refine gj_pop HS (show gh_at gl_law 1047 = some (1047, 1, .pop, 0, 0, []) from rfl) rfl ?_
  refine gj_aload_n HS (show gh_at gl_law 1048 = some (1048, 1, .aload_n 2, 0, 0, []) from rfl) rfl rfl ?_
  refine gj_fetch HS HI 1 8 (show gh_at gl_law 1049 = some (1049, 1, .aload_n 0, 0, 0, []) from rfl) (show gh_at gl_law 1050 = some (1050, 1, .iload_n 3, 0, 0, []) from rfl) (show gh_at gl_law 1051 = some (1051, 1, .iconst 1, 8, 0, []) from rfl) (show gh_at gl_law 1052 = some (1052, 1, .iadd, 0, 0, []) from rfl) (show gh_at gl_law 1053 = some (1053, 1, .iaload, 0, 0, []) from rfl) (by decide) (by decide) hi hL hb9 ?_
  refine gj_callV HS (r := 1891) (as := [.inl (ρ (i + 1).toNat).toInt]) (t := []) (show gh_at gl_law 1054 = some (1054, 3, .invokevirtual 166, 49, 0, [(0, 1825)]) from rfl) (by decide) rfl (by show 2 = _; decide +kernel) (Nat.le_trans (gh_wd _) (Nat.le_of_ble_eq_true rfl)) rfl (by decide +kernel) (by decide +kernel) (Ψ := fun v σ' => gl_I σ' ∧ ∃ z : Int, v = .inl z) (gl_mX (fun hb hf => cn_29 hb hf) (by decide +kernel) (by decide) (by decide +kernel) (by decide) (by show gl_ml [(236, 42)]; unfold gl_ml; decide +kernel) ⟨Or.inr (Or.inl ⟨rfl, rfl⟩), gh_any (gl_r _), trivial⟩ I1) gh_mono (fun v σ2 hv => ?_)
  obtain ⟨I2, z, rfl⟩ := hv
  rw [show gm_rc 49 = 1 by decide +kernel]
  show G _ _ [.inl z] σ2
  refine gj_pop HS (show gh_at gl_law 1057 = some (1057, 1, .pop, 0, 0, []) from rfl) rfl ?_
  refine gj_goto HS (show gh_at gl_law 1058 = some (1058, 3, .goto (322), 0, 1380, []) from rfl) ?_
  exact K σ2 I2
set_option maxRecDepth 100000 in
theorem gl_c37 {G : gp_G} (HS : gl_HS G) {ρ : Nat → Int32} {L : Nat} (HI : gl_HI ρ L G) {i : Int} (hi : 0 ≤ i) (hL : i + 5 < (L : Int)) (hb9 : L < 1000000) {σ : gp_S} (I0 : gl_I σ) (K : ∀ σ', gl_I σ' → G 1380 (gl_al i) [] σ') : G 1061 (gl_al i) [] σ := by
  refine gj_aload_n HS (show gh_at gl_law 1061 = some (1061, 1, .aload_n 1, 0, 0, []) from rfl) rfl rfl ?_
  refine gj_fetch HS HI 1 8 (show gh_at gl_law 1062 = some (1062, 1, .aload_n 0, 0, 0, []) from rfl) (show gh_at gl_law 1063 = some (1063, 1, .iload_n 3, 0, 0, []) from rfl) (show gh_at gl_law 1064 = some (1064, 1, .iconst 1, 8, 0, []) from rfl) (show gh_at gl_law 1065 = some (1065, 1, .iadd, 0, 0, []) from rfl) (show gh_at gl_law 1066 = some (1066, 1, .iaload, 0, 0, []) from rfl) (by decide) (by decide) hi hL hb9 ?_
  refine gj_fetch HS HI 2 16 (show gh_at gl_law 1067 = some (1067, 1, .aload_n 0, 0, 0, []) from rfl) (show gh_at gl_law 1068 = some (1068, 1, .iload_n 3, 0, 0, []) from rfl) (show gh_at gl_law 1069 = some (1069, 1, .iconst 2, 16, 0, []) from rfl) (show gh_at gl_law 1070 = some (1070, 1, .iadd, 0, 0, []) from rfl) (show gh_at gl_law 1071 = some (1071, 1, .iaload, 0, 0, []) from rfl) (by decide) (by decide) hi hL hb9 ?_
  refine gj_callV HS (r := 3) (as := [.inl (ρ (i + 1).toNat).toInt, .inl (ρ (i + 2).toNat).toInt]) (t := []) (show gh_at gl_law 1072 = some (1072, 3, .invokevirtual 167, 113, 0, [(0, 1292)]) from rfl) (by decide) rfl (by show 3 = _; decide +kernel) (Nat.le_trans (gh_wd _) (Nat.le_of_ble_eq_true rfl)) rfl (by decide +kernel) (by decide +kernel) (Ψ := fun v σ' => gl_I σ' ∧ ∃ z : Int, v = .inl z) (gl_cls (fun σr => cy_231 σr) (by decide) (by decide +kernel) (by decide) ⟨Or.inr (Or.inl ⟨rfl, rfl⟩), gh_any (gl_r _), gh_any (gl_r _), trivial⟩ I0) gh_mono (fun v σ1 hv => ?_)
  obtain ⟨I1, z, rfl⟩ := hv
  rw [show gm_rc 113 = 1 by decide +kernel]
  show G _ _ [.inl z] σ1
  refine gj_pop HS (show gh_at gl_law 1075 = some (1075, 1, .pop, 0, 0, []) from rfl) rfl ?_
  refine gj_aload_n HS (show gh_at gl_law 1076 = some (1076, 1, .aload_n 2, 0, 0, []) from rfl) rfl rfl ?_
  refine gj_fetch HS HI 1 8 (show gh_at gl_law 1077 = some (1077, 1, .aload_n 0, 0, 0, []) from rfl) (show gh_at gl_law 1078 = some (1078, 1, .iload_n 3, 0, 0, []) from rfl) (show gh_at gl_law 1079 = some (1079, 1, .iconst 1, 8, 0, []) from rfl) (show gh_at gl_law 1080 = some (1080, 1, .iadd, 0, 0, []) from rfl) (show gh_at gl_law 1081 = some (1081, 1, .iaload, 0, 0, []) from rfl) (by decide) (by decide) hi hL hb9 ?_
  refine gj_fetch HS HI 2 16 (show gh_at gl_law 1082 = some (1082, 1, .aload_n 0, 0, 0, []) from rfl) (show gh_at gl_law 1083 = some (1083, 1, .iload_n 3, 0, 0, []) from rfl) (show gh_at gl_law 1084 = some (1084, 1, .iconst 2, 16, 0, []) from rfl) (show gh_at gl_law 1085 = some (1085, 1, .iadd, 0, 0, []) from rfl) (show gh_at gl_law 1086 = some (1086, 1, .iaload, 0, 0, []) from rfl) (by decide) (by decide) hi hL hb9 ?_
  refine gj_callV HS (r := 1891) (as := [.inl (ρ (i + 1).toNat).toInt, .inl (ρ (i + 2).toNat).toInt]) (t := []) (show gh_at gl_law 1087 = some (1087, 3, .invokevirtual 170, 16, 0, [(0, 2067)]) from rfl) (by decide) rfl (by show 3 = _; decide +kernel) (Nat.le_trans (gh_wd _) (Nat.le_of_ble_eq_true rfl)) rfl (by decide +kernel) (by decide +kernel) (Ψ := fun v σ' => gl_I σ' ∧ ∃ z : Int, v = .inl z) (gl_mX (fun hb hf => cn_36 hb hf) (by decide +kernel) (by decide) (by decide +kernel) (by decide) (by show gl_ml []; unfold gl_ml; decide +kernel) ⟨Or.inr (Or.inl ⟨rfl, rfl⟩), gh_any (gl_r _), gh_any (gl_r _), trivial⟩ I1) gh_mono (fun v σ2 hv => ?_)
  obtain ⟨I2, z, rfl⟩ := hv
  rw [show gm_rc 16 = 1 by decide +kernel]
  show G _ _ [.inl z] σ2
  refine gj_pop HS (show gh_at gl_law 1090 = some (1090, 1, .pop, 0, 0, []) from rfl) rfl ?_
  refine gj_goto HS (show gh_at gl_law 1091 = some (1091, 3, .goto (289), 0, 1380, []) from rfl) ?_
  exact K σ2 I2
set_option maxRecDepth 100000 in
theorem gl_c38 {G : gp_G} (HS : gl_HS G) {ρ : Nat → Int32} {L : Nat} (HI : gl_HI ρ L G) {i : Int} (hi : 0 ≤ i) (hL : i + 5 < (L : Int)) (hb9 : L < 1000000) {σ : gp_S} (I0 : gl_I σ) (K : ∀ σ', gl_I σ' → G 1380 (gl_al i) [] σ') : G 1094 (gl_al i) [] σ := by
  refine gj_aload_n HS (show gh_at gl_law 1094 = some (1094, 1, .aload_n 1, 0, 0, []) from rfl) rfl rfl ?_
  refine gj_fetch HS HI 1 8 (show gh_at gl_law 1095 = some (1095, 1, .aload_n 0, 0, 0, []) from rfl) (show gh_at gl_law 1096 = some (1096, 1, .iload_n 3, 0, 0, []) from rfl) (show gh_at gl_law 1097 = some (1097, 1, .iconst 1, 8, 0, []) from rfl) (show gh_at gl_law 1098 = some (1098, 1, .iadd, 0, 0, []) from rfl) (show gh_at gl_law 1099 = some (1099, 1, .iaload, 0, 0, []) from rfl) (by decide) (by decide) hi hL hb9 ?_
  refine gj_callV HS (r := 3) (as := [.inl (ρ (i + 1).toNat).toInt]) (t := []) (show gh_at gl_law 1100 = some (1100, 3, .invokevirtual 171, 112, 0, [(0, 1300)]) from rfl) (by decide) rfl (by show 2 = _; decide +kernel) (Nat.le_trans (gh_wd _) (Nat.le_of_ble_eq_true rfl)) rfl (by decide +kernel) (by decide +kernel) (Ψ := fun v σ' => gl_I σ' ∧ ∃ z : Int, v = .inl z) (gl_cls (fun σr => cy_232 σr) (by decide) (by decide +kernel) (by decide) ⟨Or.inr (Or.inl ⟨rfl, rfl⟩), gh_any (gl_r _), trivial⟩ I0) gh_mono (fun v σ1 hv => ?_)
  obtain ⟨I1, z, rfl⟩ := hv
  rw [show gm_rc 112 = 1 by decide +kernel]
  show G _ _ [.inl z] σ1
  refine gj_pop HS (show gh_at gl_law 1103 = some (1103, 1, .pop, 0, 0, []) from rfl) rfl ?_
  refine gj_aload_n HS (show gh_at gl_law 1104 = some (1104, 1, .aload_n 2, 0, 0, []) from rfl) rfl rfl ?_
  refine gj_fetch HS HI 1 8 (show gh_at gl_law 1105 = some (1105, 1, .aload_n 0, 0, 0, []) from rfl) (show gh_at gl_law 1106 = some (1106, 1, .iload_n 3, 0, 0, []) from rfl) (show gh_at gl_law 1107 = some (1107, 1, .iconst 1, 8, 0, []) from rfl) (show gh_at gl_law 1108 = some (1108, 1, .iadd, 0, 0, []) from rfl) (show gh_at gl_law 1109 = some (1109, 1, .iaload, 0, 0, []) from rfl) (by decide) (by decide) hi hL hb9 ?_
  refine gj_callV HS (r := 1891) (as := [.inl (ρ (i + 1).toNat).toInt]) (t := []) (show gh_at gl_law 1110 = some (1110, 3, .invokevirtual 174, 70, 0, [(0, 1943)]) from rfl) (by decide) rfl (by show 2 = _; decide +kernel) (Nat.le_trans (gh_wd _) (Nat.le_of_ble_eq_true rfl)) rfl (by decide +kernel) (by decide +kernel) (Ψ := fun v σ' => gl_I σ' ∧ ∃ z : Int, v = .inl z) (gl_mX (fun hb hf => cn_31 hb hf) (by decide +kernel) (by decide) (by decide +kernel) (by decide) (by show gl_ml []; unfold gl_ml; decide +kernel) ⟨Or.inr (Or.inl ⟨rfl, rfl⟩), gh_any (gl_r _), trivial⟩ I1) gh_mono (fun v σ2 hv => ?_)
  obtain ⟨I2, z, rfl⟩ := hv
  rw [show gm_rc 70 = 1 by decide +kernel]
  show G _ _ [.inl z] σ2
  refine gj_pop HS (show gh_at gl_law 1113 = some (1113, 1, .pop, 0, 0, []) from rfl) rfl ?_
  refine gj_goto HS (show gh_at gl_law 1114 = some (1114, 3, .goto (266), 0, 1380, []) from rfl) ?_
  exact K σ2 I2
set_option maxRecDepth 100000 in
theorem gl_c39 {G : gp_G} (HS : gl_HS G) {ρ : Nat → Int32} {L : Nat} (HI : gl_HI ρ L G) {i : Int} (hi : 0 ≤ i) (hL : i + 5 < (L : Int)) (hb9 : L < 1000000) {σ : gp_S} (I0 : gl_I σ) (K : ∀ σ', gl_I σ' → G 1380 (gl_al i) [] σ') : G 1117 (gl_al i) [] σ := by
  refine gj_aload_n HS (show gh_at gl_law 1117 = some (1117, 1, .aload_n 1, 0, 0, []) from rfl) rfl rfl ?_
  refine gj_fetch HS HI 1 8 (show gh_at gl_law 1118 = some (1118, 1, .aload_n 0, 0, 0, []) from rfl) (show gh_at gl_law 1119 = some (1119, 1, .iload_n 3, 0, 0, []) from rfl) (show gh_at gl_law 1120 = some (1120, 1, .iconst 1, 8, 0, []) from rfl) (show gh_at gl_law 1121 = some (1121, 1, .iadd, 0, 0, []) from rfl) (show gh_at gl_law 1122 = some (1122, 1, .iaload, 0, 0, []) from rfl) (by decide) (by decide) hi hL hb9 ?_
  refine gj_fetch HS HI 2 16 (show gh_at gl_law 1123 = some (1123, 1, .aload_n 0, 0, 0, []) from rfl) (show gh_at gl_law 1124 = some (1124, 1, .iload_n 3, 0, 0, []) from rfl) (show gh_at gl_law 1125 = some (1125, 1, .iconst 2, 16, 0, []) from rfl) (show gh_at gl_law 1126 = some (1126, 1, .iadd, 0, 0, []) from rfl) (show gh_at gl_law 1127 = some (1127, 1, .iaload, 0, 0, []) from rfl) (by decide) (by decide) hi hL hb9 ?_
  refine gj_fetch HS HI 3 24 (show gh_at gl_law 1128 = some (1128, 1, .aload_n 0, 0, 0, []) from rfl) (show gh_at gl_law 1129 = some (1129, 1, .iload_n 3, 0, 0, []) from rfl) (show gh_at gl_law 1130 = some (1130, 1, .iconst 3, 24, 0, []) from rfl) (show gh_at gl_law 1131 = some (1131, 1, .iadd, 0, 0, []) from rfl) (show gh_at gl_law 1132 = some (1132, 1, .iaload, 0, 0, []) from rfl) (by decide) (by decide) hi hL hb9 ?_
  have at1141 : ∀ y : Int, y = 0 ∨ y = 1 → G 1141 (gl_al i) [.inl y, .inl (ρ (i + 2).toNat).toInt, .inl (ρ (i + 1).toNat).toInt, .inr 3] σ := by
    intro y hy
    refine gj_callV HS (r := 3) (as := [.inl (ρ (i + 1).toNat).toInt, .inl (ρ (i + 2).toNat).toInt, .inl y]) (t := []) (show gh_at gl_law 1141 = some (1141, 3, .invokevirtual 175, 48, 0, [(0, 1304)]) from rfl) (by decide) rfl (by show 4 = _; decide +kernel) (Nat.le_trans (gh_wd _) (Nat.le_of_ble_eq_true rfl)) rfl (by decide +kernel) (by decide +kernel) (Ψ := fun v σ' => gl_I σ' ∧ ∃ z : Int, v = .inl z) (gl_cls (fun σr => cy_233 σr) (by decide) (by decide +kernel) (by decide) ⟨Or.inr (Or.inl ⟨rfl, rfl⟩), gh_any (gl_r _), gh_any (gl_r _), gh_mk (by decide) (by unfold gh_r; omega) (by omega) (by omega), trivial⟩ I0) gh_mono (fun v σ1 hv => ?_)
    obtain ⟨I1, z, rfl⟩ := hv
    rw [show gm_rc 48 = 1 by decide +kernel]
    show G _ _ [.inl z] σ1
    refine gj_pop HS (show gh_at gl_law 1144 = some (1144, 1, .pop, 0, 0, []) from rfl) rfl ?_
    refine gj_aload_n HS (show gh_at gl_law 1145 = some (1145, 1, .aload_n 2, 0, 0, []) from rfl) rfl rfl ?_
    refine gj_fetch HS HI 1 8 (show gh_at gl_law 1146 = some (1146, 1, .aload_n 0, 0, 0, []) from rfl) (show gh_at gl_law 1147 = some (1147, 1, .iload_n 3, 0, 0, []) from rfl) (show gh_at gl_law 1148 = some (1148, 1, .iconst 1, 8, 0, []) from rfl) (show gh_at gl_law 1149 = some (1149, 1, .iadd, 0, 0, []) from rfl) (show gh_at gl_law 1150 = some (1150, 1, .iaload, 0, 0, []) from rfl) (by decide) (by decide) hi hL hb9 ?_
    refine gj_fetch HS HI 2 16 (show gh_at gl_law 1151 = some (1151, 1, .aload_n 0, 0, 0, []) from rfl) (show gh_at gl_law 1152 = some (1152, 1, .iload_n 3, 0, 0, []) from rfl) (show gh_at gl_law 1153 = some (1153, 1, .iconst 2, 16, 0, []) from rfl) (show gh_at gl_law 1154 = some (1154, 1, .iadd, 0, 0, []) from rfl) (show gh_at gl_law 1155 = some (1155, 1, .iaload, 0, 0, []) from rfl) (by decide) (by decide) hi hL hb9 ?_
    refine gj_fetch HS HI 3 24 (show gh_at gl_law 1156 = some (1156, 1, .aload_n 0, 0, 0, []) from rfl) (show gh_at gl_law 1157 = some (1157, 1, .iload_n 3, 0, 0, []) from rfl) (show gh_at gl_law 1158 = some (1158, 1, .iconst 3, 24, 0, []) from rfl) (show gh_at gl_law 1159 = some (1159, 1, .iadd, 0, 0, []) from rfl) (show gh_at gl_law 1160 = some (1160, 1, .iaload, 0, 0, []) from rfl) (by decide) (by decide) hi hL hb9 ?_
    have at1169 : ∀ y : Int, y = 0 ∨ y = 1 → G 1169 (gl_al i) [.inl y, .inl (ρ (i + 2).toNat).toInt, .inl (ρ (i + 1).toNat).toInt, .inr 1891] σ1 := by
      intro y hy
      refine gj_callV HS (r := 1891) (as := [.inl (ρ (i + 1).toNat).toInt, .inl (ρ (i + 2).toNat).toInt, .inl y]) (t := []) (show gh_at gl_law 1169 = some (1169, 3, .invokevirtual 179, 24, 0, [(0, 2077)]) from rfl) (by decide) rfl (by show 4 = _; decide +kernel) (Nat.le_trans (gh_wd _) (Nat.le_of_ble_eq_true rfl)) rfl (by decide +kernel) (by decide +kernel) (Ψ := fun v σ' => gl_I σ' ∧ ∃ z : Int, v = .inl z) (gl_mX (fun hb hf => cn_37 hb hf) (by decide +kernel) (by decide) (by decide +kernel) (by decide) (by show gl_ml [(236, 61), (271, 1048576), (272, 1048576), (273, 1048576), (274, 1048576), (275, 1048576)]; unfold gl_ml; decide +kernel) ⟨Or.inr (Or.inl ⟨rfl, rfl⟩), gh_any (gl_r _), gh_any (gl_r _), gh_mk (by decide) (by unfold gh_r; omega) (by omega) (by omega), trivial⟩ I1) gh_mono (fun v σ2 hv => ?_)
      obtain ⟨I2, z, rfl⟩ := hv
      rw [show gm_rc 24 = 1 by decide +kernel]
      show G _ _ [.inl z] σ2
      refine gj_pop HS (show gh_at gl_law 1172 = some (1172, 1, .pop, 0, 0, []) from rfl) rfl ?_
      refine gj_goto HS (show gh_at gl_law 1173 = some (1173, 3, .goto (207), 0, 1380, []) from rfl) ?_
      exact K σ2 I2
    refine gj_if HS (show gh_at gl_law 1161 = some (1161, 3, .ifCond .eq (7), 0, 1168, []) from rfl) (fun _ => ?_) (fun _ => ?_)
    · refine gj_iconst HS (x := 0) (show gh_at gl_law 1168 = some (1168, 1, .iconst 0, 0, 0, []) from rfl) (by decide) ?_
      exact at1169 0 (Or.inl rfl)
    · refine gj_iconst HS (x := 1) (show gh_at gl_law 1164 = some (1164, 1, .iconst 1, 8, 0, []) from rfl) (by decide) ?_
      refine gj_goto HS (show gh_at gl_law 1165 = some (1165, 3, .goto (4), 0, 1169, []) from rfl) ?_
      exact at1169 1 (Or.inr rfl)
  refine gj_if HS (show gh_at gl_law 1133 = some (1133, 3, .ifCond .eq (7), 0, 1140, []) from rfl) (fun _ => ?_) (fun _ => ?_)
  · refine gj_iconst HS (x := 0) (show gh_at gl_law 1140 = some (1140, 1, .iconst 0, 0, 0, []) from rfl) (by decide) ?_
    exact at1141 0 (Or.inl rfl)
  · refine gj_iconst HS (x := 1) (show gh_at gl_law 1136 = some (1136, 1, .iconst 1, 8, 0, []) from rfl) (by decide) ?_
    refine gj_goto HS (show gh_at gl_law 1137 = some (1137, 3, .goto (4), 0, 1141, []) from rfl) ?_
    exact at1141 1 (Or.inr rfl)
set_option maxRecDepth 100000 in
theorem gl_c40 {G : gp_G} (HS : gl_HS G) {ρ : Nat → Int32} {L : Nat} (HI : gl_HI ρ L G) {i : Int} (hi : 0 ≤ i) (hL : i + 5 < (L : Int)) (hb9 : L < 1000000) {σ : gp_S} (I0 : gl_I σ) (K : ∀ σ', gl_I σ' → G 1380 (gl_al i) [] σ') : G 1176 (gl_al i) [] σ := by
  refine gj_aload_n HS (show gh_at gl_law 1176 = some (1176, 1, .aload_n 1, 0, 0, []) from rfl) rfl rfl ?_
  refine gj_fetch HS HI 1 8 (show gh_at gl_law 1177 = some (1177, 1, .aload_n 0, 0, 0, []) from rfl) (show gh_at gl_law 1178 = some (1178, 1, .iload_n 3, 0, 0, []) from rfl) (show gh_at gl_law 1179 = some (1179, 1, .iconst 1, 8, 0, []) from rfl) (show gh_at gl_law 1180 = some (1180, 1, .iadd, 0, 0, []) from rfl) (show gh_at gl_law 1181 = some (1181, 1, .iaload, 0, 0, []) from rfl) (by decide) (by decide) hi hL hb9 ?_
  refine gj_callV HS (r := 3) (as := [.inl (ρ (i + 1).toNat).toInt]) (t := []) (show gh_at gl_law 1182 = some (1182, 3, .invokevirtual 180, 110, 0, [(0, 1312)]) from rfl) (by decide) rfl (by show 2 = _; decide +kernel) (Nat.le_trans (gh_wd _) (Nat.le_of_ble_eq_true rfl)) rfl (by decide +kernel) (by decide +kernel) (Ψ := fun v σ' => gl_I σ' ∧ ∃ z : Int, v = .inl z) (gl_cls (fun σr => cy_234 σr) (by decide) (by decide +kernel) (by decide) ⟨Or.inr (Or.inl ⟨rfl, rfl⟩), gh_any (gl_r _), trivial⟩ I0) gh_mono (fun v σ1 hv => ?_)
  obtain ⟨I1, z, rfl⟩ := hv
  rw [show gm_rc 110 = 2 by decide +kernel]
  show G _ _ [.inl z] σ1
  refine gj_pop HS (show gh_at gl_law 1185 = some (1185, 1, .pop, 0, 0, []) from rfl) rfl ?_
  refine gj_aload_n HS (show gh_at gl_law 1186 = some (1186, 1, .aload_n 2, 0, 0, []) from rfl) rfl rfl ?_
  refine gj_fetch HS HI 1 8 (show gh_at gl_law 1187 = some (1187, 1, .aload_n 0, 0, 0, []) from rfl) (show gh_at gl_law 1188 = some (1188, 1, .iload_n 3, 0, 0, []) from rfl) (show gh_at gl_law 1189 = some (1189, 1, .iconst 1, 8, 0, []) from rfl) (show gh_at gl_law 1190 = some (1190, 1, .iadd, 0, 0, []) from rfl) (show gh_at gl_law 1191 = some (1191, 1, .iaload, 0, 0, []) from rfl) (by decide) (by decide) hi hL hb9 ?_
  refine gj_callV HS (r := 1891) (as := [.inl (ρ (i + 1).toNat).toInt]) (t := []) (show gh_at gl_law 1192 = some (1192, 3, .invokevirtual 184, 69, 0, [(0, 2081)]) from rfl) (by decide) rfl (by show 2 = _; decide +kernel) (Nat.le_trans (gh_wd _) (Nat.le_of_ble_eq_true rfl)) rfl (by decide +kernel) (by decide +kernel) (Ψ := fun v σ' => gl_I σ' ∧ ∃ z : Int, v = .inl z) (gl_mX (fun hb hf => cn_38 hb hf) (by decide +kernel) (by decide) (by decide +kernel) (by decide) (by show gl_ml [(275, 1048576)]; unfold gl_ml; decide +kernel) ⟨Or.inr (Or.inl ⟨rfl, rfl⟩), gh_any (gl_r _), trivial⟩ I1) gh_mono (fun v σ2 hv => ?_)
  obtain ⟨I2, z, rfl⟩ := hv
  rw [show gm_rc 69 = 2 by decide +kernel]
  show G _ _ [.inl z] σ2
  refine gj_pop HS (show gh_at gl_law 1195 = some (1195, 1, .pop, 0, 0, []) from rfl) rfl ?_
  refine gj_goto HS (show gh_at gl_law 1196 = some (1196, 3, .goto (184), 0, 1380, []) from rfl) ?_
  exact K σ2 I2
set_option maxRecDepth 100000 in
theorem gl_c41 {G : gp_G} (HS : gl_HS G) {ρ : Nat → Int32} {L : Nat} (HI : gl_HI ρ L G) {i : Int} (hi : 0 ≤ i) (hL : i + 5 < (L : Int)) (hb9 : L < 1000000) {σ : gp_S} (I0 : gl_I σ) (K : ∀ σ', gl_I σ' → G 1380 (gl_al i) [] σ') : G 1199 (gl_al i) [] σ := by
  refine gj_aload_n HS (show gh_at gl_law 1199 = some (1199, 1, .aload_n 1, 0, 0, []) from rfl) rfl rfl ?_
  refine gj_fetch HS HI 1 8 (show gh_at gl_law 1200 = some (1200, 1, .aload_n 0, 0, 0, []) from rfl) (show gh_at gl_law 1201 = some (1201, 1, .iload_n 3, 0, 0, []) from rfl) (show gh_at gl_law 1202 = some (1202, 1, .iconst 1, 8, 0, []) from rfl) (show gh_at gl_law 1203 = some (1203, 1, .iadd, 0, 0, []) from rfl) (show gh_at gl_law 1204 = some (1204, 1, .iaload, 0, 0, []) from rfl) (by decide) (by decide) hi hL hb9 ?_
  obtain ⟨x, ex⟩ : ∃ x : Int, (ρ (i + 1).toNat).toInt = x := ⟨_, rfl⟩
  have ex : (ρ (i + (1 : Nat)).toNat).toInt = x := ex
  rw [ex]
  obtain ⟨i1, i2, i3, i4, i5⟩ := id I0
  refine gj_callV HS (r := 3) (as := [.inl x]) (t := []) (show gh_at gl_law 1205 = some (1205, 3, .invokevirtual 185, 108, 0, [(0, 1320)]) from rfl) (by decide) rfl (by show 2 = _; decide +kernel) (Nat.le_trans (gh_wd _) (Nat.le_of_ble_eq_true rfl)) rfl (by decide +kernel) (by decide +kernel) (Ψ := fun v σ9 => (v = .inl (-1) ∧ σ9 = σ ∧ ¬ (0 ≤ x ∧ x ≤ 1000 ∧ σ 216 9 + x ≤ 100000)) ∨ (v = .inl (σ 216 9 + x) ∧ σ9 = gp_up σ 216 9 (σ 216 9 + x) ∧ 0 ≤ x ∧ x ≤ 1000 ∧ σ 216 9 + x ≤ 100000)) (gz_laterX (d := 98) (by omega) (fun q => Or.inl ⟨rfl, rfl, q⟩) (fun q1 q2 q3 => Or.inr ⟨rfl, rfl, q1, q2, q3⟩)) gh_mono (fun v σ9 hv => ?_)
  rw [show gm_rc 108 = 1 by decide +kernel]
  rcases hv with ⟨rfl, rfl, hq⟩ | ⟨rfl, rfl, q1, q2, q3⟩
  · show G _ _ [.inl (-1)] σ9
    refine gj_aload_n HS (show gh_at gl_law 1208 = some (1208, 1, .aload_n 2, 0, 0, []) from rfl) rfl rfl ?_
    refine gj_fetch HS HI 1 8 (show gh_at gl_law 1209 = some (1209, 1, .aload_n 0, 0, 0, []) from rfl) (show gh_at gl_law 1210 = some (1210, 1, .iload_n 3, 0, 0, []) from rfl) (show gh_at gl_law 1211 = some (1211, 1, .iconst 1, 8, 0, []) from rfl) (show gh_at gl_law 1212 = some (1212, 1, .iadd, 0, 0, []) from rfl) (show gh_at gl_law 1213 = some (1213, 1, .iaload, 0, 0, []) from rfl) (by decide) (by decide) hi hL hb9 ?_
    rw [ex]
    refine gj_callV HS (r := 1891) (as := [.inl x]) (t := [.inl (-1)]) (show gh_at gl_law 1214 = some (1214, 3, .invokevirtual 188, 47, 0, [(0, 2085)]) from rfl) (by decide) rfl (by show 2 = _; decide +kernel) (Nat.le_trans (gh_wd _) (Nat.le_of_ble_eq_true rfl)) rfl (by decide +kernel) (by decide +kernel) (Ψ := fun v σ8 => v = .inl (-1) ∧ σ8 = σ9) (gz_later (d := 98) (by omega) (fun _ => ⟨rfl, rfl⟩) (fun w1 w2 w3 => absurd ⟨w1, w2, by omega⟩ hq)) gh_mono (fun v σ8 hv => ?_)
    obtain ⟨rfl, e8⟩ := hv
    rw [show gm_rc 47 = 1 by decide +kernel]
    show G _ _ [.inl (-1), .inl (-1)] σ8
    refine gj_icmp HS (show gh_at gl_law 1217 = some (1217, 3, .if_icmp .eq (163), 0, 1380, []) from rfl) (fun _ => ?_) (fun q => absurd rfl q)
    rw [e8]
    exact K σ9 I0
  · have e62 : (gp_up σ 216 9 (σ 216 9 + x)) 236 62 = σ 236 62 := gh_up_ne (by decide)
    show G _ _ [.inl (σ 216 9 + x)] (gp_up σ 216 9 (σ 216 9 + x))
    refine gj_aload_n HS (show gh_at gl_law 1208 = some (1208, 1, .aload_n 2, 0, 0, []) from rfl) rfl rfl ?_
    refine gj_fetch HS HI 1 8 (show gh_at gl_law 1209 = some (1209, 1, .aload_n 0, 0, 0, []) from rfl) (show gh_at gl_law 1210 = some (1210, 1, .iload_n 3, 0, 0, []) from rfl) (show gh_at gl_law 1211 = some (1211, 1, .iconst 1, 8, 0, []) from rfl) (show gh_at gl_law 1212 = some (1212, 1, .iadd, 0, 0, []) from rfl) (show gh_at gl_law 1213 = some (1213, 1, .iaload, 0, 0, []) from rfl) (by decide) (by decide) hi hL hb9 ?_
    rw [ex]
    refine gj_callV HS (r := 1891) (as := [.inl x]) (t := [.inl (σ 216 9 + x)]) (show gh_at gl_law 1214 = some (1214, 3, .invokevirtual 188, 47, 0, [(0, 2085)]) from rfl) (by decide) rfl (by show 2 = _; decide +kernel) (Nat.le_trans (gh_wd _) (Nat.le_of_ble_eq_true rfl)) rfl (by decide +kernel) (by decide +kernel) (Ψ := fun v σ8 => v = .inl (σ 216 9 + x) ∧ σ8 = gp_up (gp_up σ 216 9 (σ 216 9 + x)) 236 62 (σ 216 9 + x)) (gz_later (d := 98) (by omega) (fun w => absurd ⟨q1, q2, by omega⟩ w) (fun _ _ _ => ⟨by rw [e62, i3], by rw [e62, i3]⟩)) gh_mono (fun v σ8 hv => ?_)
    obtain ⟨rfl, e8⟩ := hv
    rw [show gm_rc 47 = 1 by decide +kernel]
    show G _ _ [.inl (σ 216 9 + x), .inl (σ 216 9 + x)] σ8
    refine gj_icmp HS (show gh_at gl_law 1217 = some (1217, 3, .if_icmp .eq (163), 0, 1380, []) from rfl) (fun _ => ?_) (fun q => absurd rfl q)
    rw [e8]
    exact K _ (gl_time I0 (by omega) (by omega))
set_option maxRecDepth 100000 in
theorem gl_c42 {G : gp_G} (HS : gl_HS G) {ρ : Nat → Int32} {L : Nat} (HI : gl_HI ρ L G) {i : Int} (hi : 0 ≤ i) (hL : i + 5 < (L : Int)) (hb9 : L < 1000000) {σ : gp_S} (I0 : gl_I σ) (K : ∀ σ', gl_I σ' → G 1380 (gl_al i) [] σ') : G 1222 (gl_al i) [] σ := by
  refine gj_aload_n HS (show gh_at gl_law 1222 = some (1222, 1, .aload_n 1, 0, 0, []) from rfl) rfl rfl ?_
  refine gj_fetch HS HI 1 8 (show gh_at gl_law 1223 = some (1223, 1, .aload_n 0, 0, 0, []) from rfl) (show gh_at gl_law 1224 = some (1224, 1, .iload_n 3, 0, 0, []) from rfl) (show gh_at gl_law 1225 = some (1225, 1, .iconst 1, 8, 0, []) from rfl) (show gh_at gl_law 1226 = some (1226, 1, .iadd, 0, 0, []) from rfl) (show gh_at gl_law 1227 = some (1227, 1, .iaload, 0, 0, []) from rfl) (by decide) (by decide) hi hL hb9 ?_
  refine gj_callV HS (r := 3) (as := [.inl (ρ (i + 1).toNat).toInt]) (t := []) (show gh_at gl_law 1228 = some (1228, 3, .invokevirtual 189, 107, 0, [(0, 1329)]) from rfl) (by decide) rfl (by show 2 = _; decide +kernel) (Nat.le_trans (gh_wd _) (Nat.le_of_ble_eq_true rfl)) rfl (by decide +kernel) (by decide +kernel) (Ψ := fun v σ' => gl_I σ' ∧ ∃ z : Int, v = .inl z) (gl_cls (fun σr => cy_236 σr) (by decide) (by decide +kernel) (by decide) ⟨Or.inr (Or.inl ⟨rfl, rfl⟩), gh_any (gl_r _), trivial⟩ I0) gh_mono (fun v σ1 hv => ?_)
  obtain ⟨I1, z, rfl⟩ := hv
  rw [show gm_rc 107 = 1 by decide +kernel]
  show G _ _ [.inl z] σ1
  refine gj_pop HS (show gh_at gl_law 1231 = some (1231, 1, .pop, 0, 0, []) from rfl) rfl ?_
  refine gj_aload_n HS (show gh_at gl_law 1232 = some (1232, 1, .aload_n 2, 0, 0, []) from rfl) rfl rfl ?_
  refine gj_fetch HS HI 1 8 (show gh_at gl_law 1233 = some (1233, 1, .aload_n 0, 0, 0, []) from rfl) (show gh_at gl_law 1234 = some (1234, 1, .iload_n 3, 0, 0, []) from rfl) (show gh_at gl_law 1235 = some (1235, 1, .iconst 1, 8, 0, []) from rfl) (show gh_at gl_law 1236 = some (1236, 1, .iadd, 0, 0, []) from rfl) (show gh_at gl_law 1237 = some (1237, 1, .iaload, 0, 0, []) from rfl) (by decide) (by decide) hi hL hb9 ?_
  refine gj_callV HS (r := 1891) (as := [.inl (ρ (i + 1).toNat).toInt]) (t := []) (show gh_at gl_law 1238 = some (1238, 3, .invokevirtual 192, 46, 0, [(0, 2089)]) from rfl) (by decide) rfl (by show 2 = _; decide +kernel) (Nat.le_trans (gh_wd _) (Nat.le_of_ble_eq_true rfl)) rfl (by decide +kernel) (by decide +kernel) (Ψ := fun v σ' => gl_I σ' ∧ ∃ z : Int, v = .inl z) (gl_mX (fun hb hf => cn_20 hb hf) (by decide +kernel) (by decide) (by decide +kernel) (by decide) (by show gl_ml [(236, 43), (259, 1048576), (260, 7), (260, 8), (260, 9), (260, 10), (260, 11), (260, 12), (260, 13), (260, 14), (260, 15), (260, 16), (260, 17), (260, 18), (260, 19), (260, 20), (260, 21), (260, 22), (260, 23), (260, 24), (260, 25), (260, 26), (260, 27), (260, 28), (261, 0), (261, 1), (261, 2), (261, 3), (261, 4), (261, 5), (261, 6), (261, 7), (261, 8), (261, 9), (261, 10), (261, 11), (261, 12), (261, 13), (261, 14), (261, 15), (261, 16), (261, 17), (261, 18), (261, 19), (261, 20), (261, 21), (261, 22), (261, 23), (261, 24), (261, 25), (261, 26), (261, 27), (261, 28), (270, 1048576)]; unfold gl_ml; decide +kernel) ⟨Or.inr (Or.inl ⟨rfl, rfl⟩), gh_any (gl_r _), trivial⟩ I1) gh_mono (fun v σ2 hv => ?_)
  obtain ⟨I2, z, rfl⟩ := hv
  rw [show gm_rc 46 = 1 by decide +kernel]
  show G _ _ [.inl z] σ2
  refine gj_pop HS (show gh_at gl_law 1241 = some (1241, 1, .pop, 0, 0, []) from rfl) rfl ?_
  refine gj_goto HS (show gh_at gl_law 1242 = some (1242, 3, .goto (138), 0, 1380, []) from rfl) ?_
  exact K σ2 I2
set_option maxRecDepth 100000 in
theorem gl_c43 {G : gp_G} (HS : gl_HS G) {ρ : Nat → Int32} {L : Nat} (HI : gl_HI ρ L G) {i : Int} (hi : 0 ≤ i) (hL : i + 5 < (L : Int)) (hb9 : L < 1000000) {σ : gp_S} (I0 : gl_I σ) (K : ∀ σ', gl_I σ' → G 1380 (gl_al i) [] σ') : G 1245 (gl_al i) [] σ := by
  refine gj_aload_n HS (show gh_at gl_law 1245 = some (1245, 1, .aload_n 1, 0, 0, []) from rfl) rfl rfl ?_
  refine gj_fetch HS HI 1 8 (show gh_at gl_law 1246 = some (1246, 1, .aload_n 0, 0, 0, []) from rfl) (show gh_at gl_law 1247 = some (1247, 1, .iload_n 3, 0, 0, []) from rfl) (show gh_at gl_law 1248 = some (1248, 1, .iconst 1, 8, 0, []) from rfl) (show gh_at gl_law 1249 = some (1249, 1, .iadd, 0, 0, []) from rfl) (show gh_at gl_law 1250 = some (1250, 1, .iaload, 0, 0, []) from rfl) (by decide) (by decide) hi hL hb9 ?_
  refine gj_fetch HS HI 2 16 (show gh_at gl_law 1251 = some (1251, 1, .aload_n 0, 0, 0, []) from rfl) (show gh_at gl_law 1252 = some (1252, 1, .iload_n 3, 0, 0, []) from rfl) (show gh_at gl_law 1253 = some (1253, 1, .iconst 2, 16, 0, []) from rfl) (show gh_at gl_law 1254 = some (1254, 1, .iadd, 0, 0, []) from rfl) (show gh_at gl_law 1255 = some (1255, 1, .iaload, 0, 0, []) from rfl) (by decide) (by decide) hi hL hb9 ?_
  refine gj_callV HS (r := 3) (as := [.inl (ρ (i + 1).toNat).toInt, .inl (ρ (i + 2).toNat).toInt]) (t := []) (show gh_at gl_law 1256 = some (1256, 3, .invokevirtual 193, 105, 0, [(0, 1345)]) from rfl) (by decide) rfl (by show 3 = _; decide +kernel) (Nat.le_trans (gh_wd _) (Nat.le_of_ble_eq_true rfl)) rfl (by decide +kernel) (by decide +kernel) (Ψ := fun v σ' => gl_I σ' ∧ ∃ z : Int, v = .inl z) (gl_cls (fun σr => cy_237 σr) (by decide) (by decide +kernel) (by decide) ⟨Or.inr (Or.inl ⟨rfl, rfl⟩), gh_any (gl_r _), gh_any (gl_r _), trivial⟩ I0) gh_mono (fun v σ1 hv => ?_)
  obtain ⟨I1, z, rfl⟩ := hv
  rw [show gm_rc 105 = 1 by decide +kernel]
  show G _ _ [.inl z] σ1
  refine gj_pop HS (show gh_at gl_law 1259 = some (1259, 1, .pop, 0, 0, []) from rfl) rfl ?_
  refine gj_aload_n HS (show gh_at gl_law 1260 = some (1260, 1, .aload_n 2, 0, 0, []) from rfl) rfl rfl ?_
  refine gj_fetch HS HI 1 8 (show gh_at gl_law 1261 = some (1261, 1, .aload_n 0, 0, 0, []) from rfl) (show gh_at gl_law 1262 = some (1262, 1, .iload_n 3, 0, 0, []) from rfl) (show gh_at gl_law 1263 = some (1263, 1, .iconst 1, 8, 0, []) from rfl) (show gh_at gl_law 1264 = some (1264, 1, .iadd, 0, 0, []) from rfl) (show gh_at gl_law 1265 = some (1265, 1, .iaload, 0, 0, []) from rfl) (by decide) (by decide) hi hL hb9 ?_
  refine gj_fetch HS HI 2 16 (show gh_at gl_law 1266 = some (1266, 1, .aload_n 0, 0, 0, []) from rfl) (show gh_at gl_law 1267 = some (1267, 1, .iload_n 3, 0, 0, []) from rfl) (show gh_at gl_law 1268 = some (1268, 1, .iconst 2, 16, 0, []) from rfl) (show gh_at gl_law 1269 = some (1269, 1, .iadd, 0, 0, []) from rfl) (show gh_at gl_law 1270 = some (1270, 1, .iaload, 0, 0, []) from rfl) (by decide) (by decide) hi hL hb9 ?_
  obtain ⟨-, ⟨b, f, hb, hW, hY⟩, -⟩ := id I1
  refine gj_callV HS (r := 1891) (as := [.inl (ρ (i + 1).toNat).toInt, .inl (ρ (i + 2).toNat).toInt]) (t := []) (show gh_at gl_law 1271 = some (1271, 3, .invokevirtual 196, 106, 0, [(0, 2101)]) from rfl) (by decide) rfl (by show 3 = _; decide +kernel) (Nat.le_trans (gh_wd _) (Nat.le_of_ble_eq_true rfl)) rfl (by decide +kernel) (by decide +kernel) (Ψ := fun v σ' => gl_I σ' ∧ ∃ z : Int, v = .inl z) (gl_mXf I1 hb hY (by decide +kernel) (by decide) (by unfold gl_ml; decide +kernel) (by decide) (gz_sure hb hY.1 hW hY.2.1)) gh_mono (fun v σ2 hv => ?_)
  obtain ⟨I2, z, rfl⟩ := hv
  rw [show gm_rc 106 = 1 by decide +kernel]
  show G _ _ [.inl z] σ2
  refine gj_pop HS (show gh_at gl_law 1274 = some (1274, 1, .pop, 0, 0, []) from rfl) rfl ?_
  refine gj_goto HS (show gh_at gl_law 1275 = some (1275, 3, .goto (105), 0, 1380, []) from rfl) ?_
  exact K σ2 I2
set_option maxRecDepth 100000 in
theorem gl_c44 {G : gp_G} (HS : gl_HS G) {ρ : Nat → Int32} {L : Nat} (HI : gl_HI ρ L G) {i : Int} (hi : 0 ≤ i) (hL : i + 5 < (L : Int)) (hb9 : L < 1000000) {σ : gp_S} (I0 : gl_I σ) (K : ∀ σ', gl_I σ' → G 1380 (gl_al i) [] σ') : G 1278 (gl_al i) [] σ := by
  refine gj_aload_n HS (show gh_at gl_law 1278 = some (1278, 1, .aload_n 1, 0, 0, []) from rfl) rfl rfl ?_
  refine gj_fetch HS HI 1 8 (show gh_at gl_law 1279 = some (1279, 1, .aload_n 0, 0, 0, []) from rfl) (show gh_at gl_law 1280 = some (1280, 1, .iload_n 3, 0, 0, []) from rfl) (show gh_at gl_law 1281 = some (1281, 1, .iconst 1, 8, 0, []) from rfl) (show gh_at gl_law 1282 = some (1282, 1, .iadd, 0, 0, []) from rfl) (show gh_at gl_law 1283 = some (1283, 1, .iaload, 0, 0, []) from rfl) (by decide) (by decide) hi hL hb9 ?_
  refine gj_fetch HS HI 2 16 (show gh_at gl_law 1284 = some (1284, 1, .aload_n 0, 0, 0, []) from rfl) (show gh_at gl_law 1285 = some (1285, 1, .iload_n 3, 0, 0, []) from rfl) (show gh_at gl_law 1286 = some (1286, 1, .iconst 2, 16, 0, []) from rfl) (show gh_at gl_law 1287 = some (1287, 1, .iadd, 0, 0, []) from rfl) (show gh_at gl_law 1288 = some (1288, 1, .iaload, 0, 0, []) from rfl) (by decide) (by decide) hi hL hb9 ?_
  refine gj_callV HS (r := 3) (as := [.inl (ρ (i + 1).toNat).toInt, .inl (ρ (i + 2).toNat).toInt]) (t := []) (show gh_at gl_law 1289 = some (1289, 3, .invokevirtual 197, 103, 0, [(0, 1355)]) from rfl) (by decide) rfl (by show 3 = _; decide +kernel) (Nat.le_trans (gh_wd _) (Nat.le_of_ble_eq_true rfl)) rfl (by decide +kernel) (by decide +kernel) (Ψ := fun v σ' => gl_I σ' ∧ ∃ z : Int, v = .inl z) (gl_cls (fun σr => cy_239 σr) (by decide) (by decide +kernel) (by decide) ⟨Or.inr (Or.inl ⟨rfl, rfl⟩), gh_any (gl_r _), gh_any (gl_r _), trivial⟩ I0) gh_mono (fun v σ1 hv => ?_)
  obtain ⟨I1, z, rfl⟩ := hv
  rw [show gm_rc 103 = 1 by decide +kernel]
  show G _ _ [.inl z] σ1
  refine gj_pop HS (show gh_at gl_law 1292 = some (1292, 1, .pop, 0, 0, []) from rfl) rfl ?_
  refine gj_aload_n HS (show gh_at gl_law 1293 = some (1293, 1, .aload_n 2, 0, 0, []) from rfl) rfl rfl ?_
  refine gj_fetch HS HI 1 8 (show gh_at gl_law 1294 = some (1294, 1, .aload_n 0, 0, 0, []) from rfl) (show gh_at gl_law 1295 = some (1295, 1, .iload_n 3, 0, 0, []) from rfl) (show gh_at gl_law 1296 = some (1296, 1, .iconst 1, 8, 0, []) from rfl) (show gh_at gl_law 1297 = some (1297, 1, .iadd, 0, 0, []) from rfl) (show gh_at gl_law 1298 = some (1298, 1, .iaload, 0, 0, []) from rfl) (by decide) (by decide) hi hL hb9 ?_
  refine gj_fetch HS HI 2 16 (show gh_at gl_law 1299 = some (1299, 1, .aload_n 0, 0, 0, []) from rfl) (show gh_at gl_law 1300 = some (1300, 1, .iload_n 3, 0, 0, []) from rfl) (show gh_at gl_law 1301 = some (1301, 1, .iconst 2, 16, 0, []) from rfl) (show gh_at gl_law 1302 = some (1302, 1, .iadd, 0, 0, []) from rfl) (show gh_at gl_law 1303 = some (1303, 1, .iaload, 0, 0, []) from rfl) (by decide) (by decide) hi hL hb9 ?_
  refine gj_callV HS (r := 1891) (as := [.inl (ρ (i + 1).toNat).toInt, .inl (ρ (i + 2).toNat).toInt]) (t := []) (show gh_at gl_law 1304 = some (1304, 3, .invokevirtual 200, 104, 0, [(0, 2106)]) from rfl) (by decide) rfl (by show 3 = _; decide +kernel) (Nat.le_trans (gh_wd _) (Nat.le_of_ble_eq_true rfl)) rfl (by decide +kernel) (by decide +kernel) (Ψ := fun v σ' => gl_I σ' ∧ ∃ z : Int, v = .inl z) (gl_mX (fun hb hf => cn_42 hb hf) (by decide +kernel) (by decide) (by decide +kernel) (by decide) (by show gl_ml [(236, 43), (259, 1048576), (260, 7), (260, 8), (260, 9), (260, 10), (260, 11), (260, 12), (260, 13), (260, 14), (260, 15), (260, 16), (260, 17), (260, 18), (260, 19), (260, 20), (260, 21), (260, 22), (260, 23), (260, 24), (260, 25), (260, 26), (260, 27), (260, 28), (261, 0), (261, 1), (261, 2), (261, 3), (261, 4), (261, 5), (261, 6), (261, 7), (261, 8), (261, 9), (261, 10), (261, 11), (261, 12), (261, 13), (261, 14), (261, 15), (261, 16), (261, 17), (261, 18), (261, 19), (261, 20), (261, 21), (261, 22), (261, 23), (261, 24), (261, 25), (261, 26), (261, 27), (261, 28), (270, 1048576), (276, 1048576)]; unfold gl_ml; decide +kernel) ⟨Or.inr (Or.inl ⟨rfl, rfl⟩), gh_any (gl_r _), gh_any (gl_r _), trivial⟩ I1) gh_mono (fun v σ2 hv => ?_)
  obtain ⟨I2, z, rfl⟩ := hv
  rw [show gm_rc 104 = 1 by decide +kernel]
  show G _ _ [.inl z] σ2
  refine gj_pop HS (show gh_at gl_law 1307 = some (1307, 1, .pop, 0, 0, []) from rfl) rfl ?_
  refine gj_goto HS (show gh_at gl_law 1308 = some (1308, 3, .goto (72), 0, 1380, []) from rfl) ?_
  exact K σ2 I2
set_option maxRecDepth 100000 in
theorem gl_c45 {G : gp_G} (HS : gl_HS G) {ρ : Nat → Int32} {L : Nat} (HI : gl_HI ρ L G) {i : Int} (hi : 0 ≤ i) (hL : i + 5 < (L : Int)) (hb9 : L < 1000000) {σ : gp_S} (I0 : gl_I σ) (K : ∀ σ', gl_I σ' → G 1380 (gl_al i) [] σ') : G 1311 (gl_al i) [] σ := by
  refine gj_aload_n HS (show gh_at gl_law 1311 = some (1311, 1, .aload_n 1, 0, 0, []) from rfl) rfl rfl ?_
  refine gj_fetch HS HI 1 8 (show gh_at gl_law 1312 = some (1312, 1, .aload_n 0, 0, 0, []) from rfl) (show gh_at gl_law 1313 = some (1313, 1, .iload_n 3, 0, 0, []) from rfl) (show gh_at gl_law 1314 = some (1314, 1, .iconst 1, 8, 0, []) from rfl) (show gh_at gl_law 1315 = some (1315, 1, .iadd, 0, 0, []) from rfl) (show gh_at gl_law 1316 = some (1316, 1, .iaload, 0, 0, []) from rfl) (by decide) (by decide) hi hL hb9 ?_
  refine gj_callV HS (r := 3) (as := [.inl (ρ (i + 1).toNat).toInt]) (t := []) (show gh_at gl_law 1317 = some (1317, 3, .invokevirtual 201, 102, 0, [(0, 1369)]) from rfl) (by decide) rfl (by show 2 = _; decide +kernel) (Nat.le_trans (gh_wd _) (Nat.le_of_ble_eq_true rfl)) rfl (by decide +kernel) (by decide +kernel) (Ψ := fun v σ' => gl_I σ' ∧ ∃ z : Int, v = .inl z) (gl_cls (fun σr => cy_243 σr) (by decide) (by decide +kernel) (by decide) ⟨Or.inr (Or.inl ⟨rfl, rfl⟩), gh_any (gl_r _), trivial⟩ I0) gh_mono (fun v σ1 hv => ?_)
  obtain ⟨I1, z, rfl⟩ := hv
  rw [show gm_rc 102 = 1 by decide +kernel]
  show G _ _ [.inl z] σ1
  refine gj_pop HS (show gh_at gl_law 1320 = some (1320, 1, .pop, 0, 0, []) from rfl) rfl ?_
  refine gj_aload_n HS (show gh_at gl_law 1321 = some (1321, 1, .aload_n 2, 0, 0, []) from rfl) rfl rfl ?_
  refine gj_fetch HS HI 1 8 (show gh_at gl_law 1322 = some (1322, 1, .aload_n 0, 0, 0, []) from rfl) (show gh_at gl_law 1323 = some (1323, 1, .iload_n 3, 0, 0, []) from rfl) (show gh_at gl_law 1324 = some (1324, 1, .iconst 1, 8, 0, []) from rfl) (show gh_at gl_law 1325 = some (1325, 1, .iadd, 0, 0, []) from rfl) (show gh_at gl_law 1326 = some (1326, 1, .iaload, 0, 0, []) from rfl) (by decide) (by decide) hi hL hb9 ?_
  obtain ⟨-, ⟨b, f, hb, hW, hY⟩, -⟩ := id I1
  refine gj_callV HS (r := 1891) (as := [.inl (ρ (i + 1).toNat).toInt]) (t := []) (show gh_at gl_law 1327 = some (1327, 3, .invokevirtual 204, 26, 0, [(0, 2114)]) from rfl) (by decide) rfl (by show 2 = _; decide +kernel) (Nat.le_trans (gh_wd _) (Nat.le_of_ble_eq_true rfl)) rfl (by decide +kernel) (by decide +kernel) (Ψ := fun v σ' => gl_I σ' ∧ ∃ z : Int, v = .inl z) (gl_mF I1 hb (by decide) (by unfold gl_ml; decide +kernel) (by decide) (gz_image (gl_r _) hW hY)) gh_mono (fun v σ2 hv => ?_)
  obtain ⟨I2, z, rfl⟩ := hv
  rw [show gm_rc 26 = 1 by decide +kernel]
  show G _ _ [.inl z] σ2
  refine gj_pop HS (show gh_at gl_law 1330 = some (1330, 1, .pop, 0, 0, []) from rfl) rfl ?_
  refine gj_goto HS (show gh_at gl_law 1331 = some (1331, 3, .goto (49), 0, 1380, []) from rfl) ?_
  exact K σ2 I2
set_option maxRecDepth 100000 in
theorem gl_c46 {G : gp_G} (HS : gl_HS G) {ρ : Nat → Int32} {L : Nat} (HI : gl_HI ρ L G) {i : Int} (hi : 0 ≤ i) (hL : i + 5 < (L : Int)) (hb9 : L < 1000000) {σ : gp_S} (I0 : gl_I σ) (K : ∀ σ', gl_I σ' → G 1380 (gl_al i) [] σ') : G 1334 (gl_al i) [] σ := by
  refine gj_aload_n HS (show gh_at gl_law 1334 = some (1334, 1, .aload_n 1, 0, 0, []) from rfl) rfl rfl ?_
  refine gj_fetch HS HI 1 8 (show gh_at gl_law 1335 = some (1335, 1, .aload_n 0, 0, 0, []) from rfl) (show gh_at gl_law 1336 = some (1336, 1, .iload_n 3, 0, 0, []) from rfl) (show gh_at gl_law 1337 = some (1337, 1, .iconst 1, 8, 0, []) from rfl) (show gh_at gl_law 1338 = some (1338, 1, .iadd, 0, 0, []) from rfl) (show gh_at gl_law 1339 = some (1339, 1, .iaload, 0, 0, []) from rfl) (by decide) (by decide) hi hL hb9 ?_
  refine gj_callV HS (r := 3) (as := [.inl (ρ (i + 1).toNat).toInt]) (t := []) (show gh_at gl_law 1340 = some (1340, 3, .invokevirtual 205, 101, 0, [(0, 1373)]) from rfl) (by decide) rfl (by show 2 = _; decide +kernel) (Nat.le_trans (gh_wd _) (Nat.le_of_ble_eq_true rfl)) rfl (by decide +kernel) (by decide +kernel) (Ψ := fun v σ' => gl_I σ' ∧ ∃ z : Int, v = .inl z) (gl_cls (fun σr => cy_247 σr) (by decide) (by decide +kernel) (by decide) ⟨Or.inr (Or.inl ⟨rfl, rfl⟩), gh_any (gl_r _), trivial⟩ I0) gh_mono (fun v σ1 hv => ?_)
  obtain ⟨I1, z, rfl⟩ := hv
  rw [show gm_rc 101 = 1 by decide +kernel]
  show G _ _ [.inl z] σ1
  refine gj_pop HS (show gh_at gl_law 1343 = some (1343, 1, .pop, 0, 0, []) from rfl) rfl ?_
  refine gj_aload_n HS (show gh_at gl_law 1344 = some (1344, 1, .aload_n 2, 0, 0, []) from rfl) rfl rfl ?_
  refine gj_fetch HS HI 1 8 (show gh_at gl_law 1345 = some (1345, 1, .aload_n 0, 0, 0, []) from rfl) (show gh_at gl_law 1346 = some (1346, 1, .iload_n 3, 0, 0, []) from rfl) (show gh_at gl_law 1347 = some (1347, 1, .iconst 1, 8, 0, []) from rfl) (show gh_at gl_law 1348 = some (1348, 1, .iadd, 0, 0, []) from rfl) (show gh_at gl_law 1349 = some (1349, 1, .iaload, 0, 0, []) from rfl) (by decide) (by decide) hi hL hb9 ?_
  obtain ⟨-, ⟨b, f, hb, hW, hY⟩, -⟩ := id I1
  refine gj_callV HS (r := 1891) (as := [.inl (ρ (i + 1).toNat).toInt]) (t := []) (show gh_at gl_law 1350 = some (1350, 3, .invokevirtual 208, 44, 0, [(0, 2118)]) from rfl) (by decide) rfl (by show 2 = _; decide +kernel) (Nat.le_trans (gh_wd _) (Nat.le_of_ble_eq_true rfl)) rfl (by decide +kernel) (by decide +kernel) (Ψ := fun v σ' => gl_I σ' ∧ ∃ z : Int, v = .inl z) (gl_mF I1 hb (by decide) (by unfold gl_ml; decide +kernel) (by decide) (gz_back (gl_r _) hW hY)) gh_mono (fun v σ2 hv => ?_)
  obtain ⟨I2, z, rfl⟩ := hv
  rw [show gm_rc 44 = 1 by decide +kernel]
  show G _ _ [.inl z] σ2
  refine gj_pop HS (show gh_at gl_law 1353 = some (1353, 1, .pop, 0, 0, []) from rfl) rfl ?_
  refine gj_goto HS (show gh_at gl_law 1354 = some (1354, 3, .goto (26), 0, 1380, []) from rfl) ?_
  exact K σ2 I2
set_option maxRecDepth 100000 in
theorem gl_c47 {G : gp_G} (HS : gl_HS G) {ρ : Nat → Int32} {L : Nat} (HI : gl_HI ρ L G) {i : Int} (hi : 0 ≤ i) (hL : i + 5 < (L : Int)) (hb9 : L < 1000000) {σ : gp_S} (I0 : gl_I σ) (K : ∀ σ', gl_I σ' → G 1380 (gl_al i) [] σ') : G 1357 (gl_al i) [] σ := by
  refine gj_aload_n HS (show gh_at gl_law 1357 = some (1357, 1, .aload_n 1, 0, 0, []) from rfl) rfl rfl ?_
  refine gj_fetch HS HI 1 8 (show gh_at gl_law 1358 = some (1358, 1, .aload_n 0, 0, 0, []) from rfl) (show gh_at gl_law 1359 = some (1359, 1, .iload_n 3, 0, 0, []) from rfl) (show gh_at gl_law 1360 = some (1360, 1, .iconst 1, 8, 0, []) from rfl) (show gh_at gl_law 1361 = some (1361, 1, .iadd, 0, 0, []) from rfl) (show gh_at gl_law 1362 = some (1362, 1, .iaload, 0, 0, []) from rfl) (by decide) (by decide) hi hL hb9 ?_
  refine gj_callV HS (r := 3) (as := [.inl (ρ (i + 1).toNat).toInt]) (t := []) (show gh_at gl_law 1363 = some (1363, 3, .invokevirtual 209, 100, 0, [(0, 1377)]) from rfl) (by decide) rfl (by show 2 = _; decide +kernel) (Nat.le_trans (gh_wd _) (Nat.le_of_ble_eq_true rfl)) rfl (by decide +kernel) (by decide +kernel) (Ψ := fun v σ' => gl_I σ' ∧ ∃ z : Int, v = .inl z) (gl_cls (fun σr => cy_248 σr) (by decide) (by decide +kernel) (by decide) ⟨Or.inr (Or.inl ⟨rfl, rfl⟩), gh_any (gl_r _), trivial⟩ I0) gh_mono (fun v σ1 hv => ?_)
  obtain ⟨I1, z, rfl⟩ := hv
  rw [show gm_rc 100 = 1 by decide +kernel]
  show G _ _ [.inl z] σ1
  refine gj_pop HS (show gh_at gl_law 1366 = some (1366, 1, .pop, 0, 0, []) from rfl) rfl ?_
  refine gj_aload_n HS (show gh_at gl_law 1367 = some (1367, 1, .aload_n 2, 0, 0, []) from rfl) rfl rfl ?_
  refine gj_fetch HS HI 1 8 (show gh_at gl_law 1368 = some (1368, 1, .aload_n 0, 0, 0, []) from rfl) (show gh_at gl_law 1369 = some (1369, 1, .iload_n 3, 0, 0, []) from rfl) (show gh_at gl_law 1370 = some (1370, 1, .iconst 1, 8, 0, []) from rfl) (show gh_at gl_law 1371 = some (1371, 1, .iadd, 0, 0, []) from rfl) (show gh_at gl_law 1372 = some (1372, 1, .iaload, 0, 0, []) from rfl) (by decide) (by decide) hi hL hb9 ?_
  refine gj_callV HS (r := 1891) (as := [.inl (ρ (i + 1).toNat).toInt]) (t := []) (show gh_at gl_law 1373 = some (1373, 3, .invokevirtual 212, 14, 0, [(0, 2122)]) from rfl) (by decide) rfl (by show 2 = _; decide +kernel) (Nat.le_trans (gh_wd _) (Nat.le_of_ble_eq_true rfl)) rfl (by decide +kernel) (by decide +kernel) (Ψ := fun v σ' => gl_I σ' ∧ ∃ z : Int, v = .inl z) (gl_mX (fun hb hf => cn_39 hb hf) (by decide +kernel) (by decide) (by decide +kernel) (by decide) (by show gl_ml []; unfold gl_ml; decide +kernel) ⟨Or.inr (Or.inl ⟨rfl, rfl⟩), gh_any (gl_r _), trivial⟩ I1) gh_mono (fun v σ2 hv => ?_)
  obtain ⟨I2, z, rfl⟩ := hv
  rw [show gm_rc 14 = 1 by decide +kernel]
  show G _ _ [.inl z] σ2
  refine gj_pop HS (show gh_at gl_law 1376 = some (1376, 1, .pop, 0, 0, []) from rfl) rfl ?_
  refine gj_goto HS (show gh_at gl_law 1377 = some (1377, 3, .goto (3), 0, 1380, []) from rfl) ?_
  exact K σ2 I2
