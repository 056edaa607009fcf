/-! runs, calls and contracts of the typed machine -/
theorem gt_nas {K : List Nat → gb_C → Bool} : ∀ {as : List Nat} {cs : gb_C} {ρ : List Int32} {pas : List gp_V}, gb_in ρ cs → gt_sr ρ as pas → gb_nas as cs K = true → ∃ ys as' cs', K as' cs' = true ∧ gb_in (ρ ++ ys) cs' ∧ gt_sr (ρ ++ ys) as' pas
  | [], cs, ρ, pas, hi, hs, h => ⟨[], [], cs, h, by rw [List.append_nil]; exact hi, by rw [List.append_nil]; exact hs⟩
  | v :: as, cs, ρ, [], hi, hs, h => hs.elim
  | v :: as, cs, ρ, x :: pas, hi, hs, h => by
    have h1 : gb_nam v cs (fun v cs => gb_nas as cs (fun as cs => K (v :: as) cs)) = true := h
    have main : ∃ ys v' cs', gb_nas as cs' (fun as cs => K (v' :: as) cs) = true ∧ gb_in (ρ ++ ys) cs' ∧ gt_vr (ρ ++ ys) v' x := by
      by_cases hv : v % 8 ≤ 2
      · have hint : ga_int v = true := by unfold ga_int; rw [Nat.ble_eq]; exact hv
        obtain ⟨y, rfl, hy⟩ := gt_int hint hs.1
        obtain ⟨zs, v', cs', e1, e2, e3, -⟩ := gt_nam hi hy
        rw [e1] at h1
        exact ⟨zs, v', cs', h1, e2, gt_of e3⟩
      · unfold gb_nam at h1
        rw [ga_if_eq, if_neg (by rw [ga_beq]; omega)] at h1
        exact ⟨[], v, cs, h1, by rw [List.append_nil]; exact hi, by rw [List.append_nil]; exact hs.1⟩
    obtain ⟨ys, v', cs', m1, m2, m3⟩ := main
    obtain ⟨ys2, as', cs2, k1, k2, k3⟩ := gt_nas m2 (gt_sr_app hs.2) m1
    exact ⟨ys ++ ys2, v' :: as', cs2, k1, by rw [← List.append_assoc]; exact k2, by rw [← List.append_assoc]; exact gt_vr_app ys2 m3, by rw [← List.append_assoc]; exact k3⟩
/-- arguments laid into locals -/
theorem gt_ly {ρ : List Int32} {m : Nat} : ∀ {as : List Nat} {pas : List gp_V}, gt_sr ρ as pas → gt_lr ρ (ga_ly as (List.replicate m 7)) (gp_ly pas (List.replicate m (.inr 7)))
  | [], [], _ => by
    refine ⟨?_, fun i v hi h7 => ?_, fun i c hi hc => ?_⟩
    · show (List.replicate m 7).length = (List.replicate m (Sum.inr 7 : gp_V)).length
      rw [List.length_replicate, List.length_replicate]
    · have h1 : (List.replicate m 7)[i]? = some v := hi
      rw [List.getElem?_replicate] at h1
      split at h1
      · cases h1; exact absurd rfl h7
      · cases h1
    · have h1 : (List.replicate m (Sum.inr 7 : gp_V))[i]? = some (.inr c) := hi
      rw [List.getElem?_replicate] at h1
      split at h1
      · cases h1; exact absurd hc (by decide)
      · cases h1
  | [], _ :: _, h => h.elim
  | _ :: _, [], h => h.elim
  | v :: as, x :: pas, h => by
    obtain ⟨k1, k2, k3⟩ := gt_ly (m := m) h.2
    have e1 : ga_ly (v :: as) (List.replicate m 7) = if v % 8 = 5 then v :: 7 :: ga_ly as (List.replicate m 7) else v :: ga_ly as (List.replicate m 7) := rfl
    have e2 : gp_ly (x :: pas) (List.replicate m (.inr 7)) = if gp_lng x = true then x :: .inr 7 :: gp_ly pas (List.replicate m (.inr 7)) else x :: gp_ly pas (List.replicate m (.inr 7)) := rfl
    rw [e1, e2]
    by_cases h5 : v % 8 = 5
    · obtain ⟨⟨c0, rfl, hc0⟩, rfl⟩ := gt_lng h5 h.1
      rw [if_pos h5, if_pos (gp_lng_of hc0)]
      refine ⟨by simp only [List.length_cons, k1], fun i w hi h7 => ?_, fun i c hi hc => ?_⟩
      · match i, hi with
        | 0, hi => cases hi; exact ⟨_, rfl, h.1⟩
        | 1, hi => cases hi; exact absurd rfl h7
        | i + 2, hi => exact k2 i w hi h7
      · match i, hi with
        | 0, hi => rfl
        | 1, hi => cases hi; exact absurd hc (by decide)
        | i + 2, hi => exact k3 i c hi hc
    · have hx : ¬ gp_lng x = true := by
        intro q
        obtain ⟨c, rfl, hc⟩ := gp_lng_eq q
        rcases h.1 with ⟨rfl, q2⟩ | ⟨rfl, -⟩
        · omega
        · exact h5 rfl
      rw [if_neg h5, if_neg hx]
      refine ⟨by simp only [List.length_cons, k1], fun i w hi h7 => ?_, fun i c hi hc => ?_⟩
      · match i, hi with
        | 0, hi => cases hi; exact ⟨_, rfl, h.1⟩
        | i + 1, hi => exact k2 i w hi h7
      · match i, hi with
        | 0, hi => cases hi; exact absurd (gp_lng_of hc) hx
        | i + 1, hi => exact k3 i c hi hc
/-- a code whose places go up -/
noncomputable def gt_inc (l : List ga_E) : Bool := List.rec true (fun e r ih => match r with | [] => true | e2 :: _ => and (Nat.blt e.1 e2.1) ih) l
theorem gt_inc_lt : ∀ {l : List ga_E} {e : ga_E}, gt_inc (e :: l) = true → ∀ x ∈ l, e.1 < x.1
  | [], _, _, x, hx => by cases hx
  | a :: l, e, h, x, hx => by
    have h1 : and (Nat.blt e.1 a.1) (gt_inc (a :: l)) = true := h
    rw [Bool.and_eq_true, Nat.blt_eq] at h1
    rcases List.mem_cons.mp hx with rfl | hx
    · exact h1.1
    · have := gt_inc_lt h1.2 x hx
      omega
theorem gt_inc_tl {e : ga_E} {l : List ga_E} (h : gt_inc (e :: l) = true) : gt_inc l = true := by
  cases l with
  | nil => rfl
  | cons a l =>
    have h1 : and (Nat.blt e.1 a.1) (gt_inc (a :: l)) = true := h
    rw [Bool.and_eq_true] at h1
    exact h1.2
theorem gt_jmp_cons (e : ga_E) (l : List ga_E) (t : Nat) : ga_jmp (e :: l) t = if e.1 = t then e :: l else ga_jmp l t := by
  have h : ga_jmp (e :: l) t = ga_if (Nat.beq e.1 t) (e :: l) (ga_jmp l t) := rfl
  rw [h, ga_if_eq]
  by_cases q : e.1 = t
  · rw [if_pos q, if_pos (by rw [q]; exact ga_beq.mpr rfl)]
  · rw [if_neg q, if_neg (fun w => q (Nat.eq_of_beq_eq_true w))]
theorem gt_jmp_mem : ∀ {l : List ga_E} {t : Nat} {e : ga_E} {nx : List ga_E}, ga_jmp l t = e :: nx → e.1 = t ∧ e ∈ l ∧ ∀ x ∈ nx, x ∈ l
  | [], t, e, nx, h => by cases h
  | a :: l, t, e, nx, h => by
    rw [gt_jmp_cons] at h
    split at h
    · rename_i q
      obtain ⟨rfl, rfl⟩ := List.cons.inj h
      exact ⟨q, List.mem_cons_self, fun x hx => List.mem_cons_of_mem _ hx⟩
    · obtain ⟨h1, h2, h3⟩ := gt_jmp_mem h
      exact ⟨h1, List.mem_cons_of_mem _ h2, fun x hx => List.mem_cons_of_mem _ (h3 x hx)⟩
theorem gt_jmp_nx : ∀ {l : List ga_E} {t : Nat} {e e2 : ga_E} {nx : List ga_E}, gt_inc l = true → ga_jmp l t = e :: e2 :: nx → ga_jmp l e2.1 = e2 :: nx
  | [], t, e, e2, nx, hi, h => by cases h
  | a :: l, t, e, e2, nx, hi, h => by
    have hlt := gt_inc_lt hi
    rw [gt_jmp_cons] at h
    split at h
    · obtain ⟨rfl, rfl⟩ := List.cons.inj h
      have := hlt e2 List.mem_cons_self
      rw [gt_jmp_cons, if_neg (by omega), gt_jmp_cons, if_pos rfl]
    · have := hlt e2 ((gt_jmp_mem h).2.2 e2 List.mem_cons_self)
      rw [gt_jmp_cons, if_neg (by omega)]
      exact gt_jmp_nx (gt_inc_tl hi) h
theorem gt_okc_nx {own : String} {cc : ByteArray} {ini : Bool} {nL : Nat} : ∀ {l : List ga_E} {t : Nat} {e e2 : ga_E} {nx : List ga_E}, ga_okc own cc ini nL l → ga_jmp l t = e :: e2 :: nx → e2.1 = e.1 + e.2.1
  | [], t, e, e2, nx, hi, h => by cases h
  | a :: l, t, e, e2, nx, hi, h => by
    rw [gt_jmp_cons] at h
    split at h
    · obtain ⟨rfl, rfl⟩ := List.cons.inj h
      rcases hi.2.1 with q | q
      · cases q
      · exact q
    · exact gt_okc_nx hi.2.2 h
theorem gt_okc_oe {own : String} {cc : ByteArray} {ini : Bool} {nL : Nat} : ∀ {l : List ga_E} {e : ga_E}, ga_okc own cc ini nL l → e ∈ l → ga_oe own cc ini nL e = true
  | [], e, _, h => by cases h
  | a :: l, e, hi, h => by
    rcases List.mem_cons.mp h with rfl | h
    · exact hi.1
    · exact gt_okc_oe hi.2.2 h
theorem gt_cd_of {own : String} {cc : ByteArray} {ini : Bool} {nL : Nat} {code : List ga_E} (hok : ga_okc own cc ini nL code) (hin : gt_inc code = true) : gt_cd code := by
  intro pc e nx h
  refine ⟨(gt_jmp_mem h).1, fun e2 nx2 q => ?_⟩
  subst q
  exact ⟨by rw [gt_okc_nx hok h, (gt_jmp_mem h).1], gt_jmp_nx hin h⟩
section HG
variable {sh : Nat → gp_T} {wt : Nat → gb_T} {ml xl : List (Nat × Nat)} {X : gp_S → Prop} {σ0 : gp_S} {ρ0 : List Int32} {d rc : Nat} {code : List ga_E} {Φ : gp_F}
variable {ret : gt_R} {own : String} {cc : ByteArray} {ini : Bool} {nL : Nat}
theorem gt_run_ok (Hs : gt_H sh wt) (HX : ∀ σ σ', (∀ c j, gb_mo xl c j = true → σ' c j = σ c j) → X σ → X σ') {call : Nat → List Nat → gb_C → gb_V → gt_R → Bool} (HC : gt_CS sh wt ml X σ0 d call) (hok : ga_okc own cc ini nL code) (hin : gt_inc code = true) (an : List gb_N)
    (HR : ∀ zs v cs ov x σ, gb_in (ρ0 ++ zs) cs → gt_W wt σ → X σ → gt_or sh (ρ0 ++ zs) ov σ → gt_fr ml σ0 σ → (rc = 0 ∨ gt_vr (ρ0 ++ zs) v x) → ret v cs ov = true → Φ x σ) : ∀ fuel, gt_S sh wt ml X σ0 ρ0 d rc code Φ (gt_run gm_me wt ml xl an call rc ret code fuel) := by
  have hcd := gt_cd_of hok hin
  intro fuel
  induction fuel with
  | zero => intro opn cds al sk cs ov hsf h; cases h
  | succ f ih =>
    intro opn cds al sk cs ov hsf h
    cases cds with
    | nil => cases h
    | cons e nx =>
      refine ⟨e, nx, rfl, ?_⟩
      have hj := hsf e nx rfl
      have oe := gt_okc_oe hok (gt_jmp_mem hj).2.1
      have hst : ∀ opn al sk cs ov, gt_step gm_me wt ml xl call rc ret code (gt_run gm_me wt ml xl an call rc ret code f) opn e nx al sk cs ov = true → gt_Go sh wt ml X σ0 ρ0 d rc code Φ opn e.1 al sk cs ov := fun opn al sk cs ov q => gt_step_ok Hs HX HC hcd HR ih oe hj q
      have h1 : (match gb_fan an e.1 with
        | none => gt_step gm_me wt ml xl call rc ret code (gt_run gm_me wt ml xl an call rc ret code f) opn e nx al sk cs ov
        | some q => match gb_fop opn e.1 with
          | some L => gb_back L al sk cs ov
          | none => gt_arr wt q al sk cs ov (fun L al cs ov => gt_step gm_me wt ml xl call rc ret code (gt_run gm_me wt ml xl an call rc ret code f) (L :: opn) e nx al sk cs ov)) = true := h
      split at h1
      · exact hst _ _ _ _ _ h1
      · rename_i q hq
        split at h1
        · rename_i L hL
          obtain ⟨k1, k2⟩ := gt_fop hL
          intro zs pal psk σ hat hop
          rw [← k2]
          exact gt_back_ok hat (hop L k1) h1
        · exact gt_arr_ok Hs hst (gt_fan hq) h1
end HG
section HH
variable {sh : Nat → gp_T} {wt : Nat → gb_T} {ml xl : List (Nat × Nat)} {X : gp_S → Prop} {σ0 : gp_S} {d : Nat}
theorem gt_body_ok (Hs : gt_H sh wt) (HX : ∀ σ σ', (∀ c j, gb_mo xl c j = true → σ' c j = σ c j) → X σ → X σ') (HI : ∀ k, k < 313 → gt_inc (gm_me k).1 = true) {call : Nat → List Nat → gb_C → gb_V → gt_R → Bool} (HC : gt_CS sh wt ml X σ0 d call) {anm : Nat → List gb_N} {fuel k : Nat} {as : List Nat} {cs : gb_C} {ov : gb_V} {K : gt_R}
    (h : gt_body gm_me wt ml xl anm call fuel k as cs ov K = true) (ρ : List Int32) (pas : List gp_V) (σ : gp_S) (hi : gb_in ρ cs) (hW : gt_W wt σ) (hX : X σ) (ho : gt_or sh ρ ov σ) (hfr : gt_fr ml σ0 σ) (hs : gt_sr ρ as pas) (Ψ : gp_F)
    (HK : ∀ zs v cs' ov' x σ', gb_in (ρ ++ zs) cs' → gt_W wt σ' → X σ' → gt_or sh (ρ ++ zs) ov' σ' → gt_fr ml σ0 σ' → (gm_rc k = 0 ∨ gt_vr (ρ ++ zs) v x) → K v cs' ov' = true → Ψ x σ') : gp_call sh (d + 1) k pas σ Ψ := by
  unfold gt_body at h
  rcases hme : gm_me k with ⟨code, pad, nl, na, mc, ms, rck, ci⟩
  rw [hme] at h
  obtain ⟨ys, as', cs', h1, hi', hs'⟩ := gt_nas hi hs h
  rw [ga_pad_eq, ga_lay_eq] at h1
  obtain ⟨h2, h3⟩ := gt_if h1
  simp only [Bool.and_eq_true, Nat.blt_eq, ga_beq] at h2
  obtain ⟨⟨hk, hmc, hms⟩, hal, has⟩ := h2
  have hl := gt_ly (m := pad) hs'
  have hokm := gk_all k hk
  obtain ⟨-, -, -, f4, -, -, -, -, f9⟩ := gm_facts hokm
  have hin := HI k hk
  have hpc0 : ga_pc code = 0 := by have := gk_pc hk; rw [hme] at this; exact this
  rw [hme] at f9 hin
  have f9' : ga_okc (gm_i k).1.cls (gm_i k).2.1 (decide ((gm_i k).1.name = "<init>")) (gm_i k).2.2.1 code := f9
  have hin' : gt_inc code = true := hin
  have emc : gm_mc k = mc := by unfold gm_mc; rw [hme]
  have ems : gm_ms k = ms := by unfold gm_ms; rw [hme]
  have erc : gm_rc k = rck := by unfold gm_rc; rw [hme]
  have ena : gm_na k = na := by unfold gm_na; rw [hme]
  refine ⟨⟨hk, by rw [emc]; exact hmc, by rw [ems]; exact hms⟩, by rw [ena, ← gt_sr_ln hs']; exact has, ?_, ?_⟩
  · rw [hme]
    show (gp_ly pas (List.replicate pad (.inr 7))).length = nl
    rw [← hl.1]
    exact hal
  · rw [erc, hme]
    show gp_ok sh (gp_call sh d) rck code Ψ 0 (gp_ly pas (List.replicate pad (.inr 7))) [] σ
    have hrun := gt_run_ok (ρ0 := ρ ++ ys) (rc := rck) (Φ := Ψ) (ret := K) Hs HX HC f9' hin' (anm k) (fun zs v cs ov x σ a1 a2 a3 a4 a5 a6 a7 => by
      rw [List.append_assoc] at a1 a4 a6
      exact HK (ys ++ zs) v cs ov x σ a1 a2 a3 a4 a5 (by rw [erc]; exact a6) a7) fuel
    obtain ⟨e, nx, ec, hg⟩ := hrun [] code _ [] cs' ov (fun e nx q => by rw [q, gt_jmp_cons, if_pos rfl]) h3
    have he0 : e.1 = 0 := by rw [ec] at hpc0; exact hpc0
    rw [he0] at hg
    exact hg [] _ [] σ (by rw [List.append_nil]; exact ⟨hi', hW, hX, gt_or_app ho, hfr, hl, trivial⟩) (fun L hL => by cases hL)
/-- a value of a type -/
def gt_tv (t : Nat) (x : gp_V) : Prop := (t % 8 = 2 ∧ ∃ y : Int32, x = .inl y.toInt ∧ gb_vr [] gt_o [] t (.int y)) ∨ (t % 8 = 3 ∧ x = .inr t) ∨ (t = 5 ∧ ∃ c, x = .inr c ∧ c % 8 = 5)
/-- arguments of their types -/
def gt_ar : List Nat → List gp_V → Prop
  | [], [] => True
  | t :: ts, x :: xs => gt_tv t x ∧ gt_ar ts xs
  | _, _ => False
/-- a contract holds -/
def gt_KC (sh : Nat → gp_T) (wt : Nat → gb_T) (X : gp_S → Prop) (q : gt_K) : Prop :=
  ∀ (pas : List gp_V) (σ : gp_S), gt_W wt σ → X σ → (∀ p ∈ q.2.2.2.1, ∃ y : Int32, y.toInt = σ p.1 p.2.1 ∧ gb_vr [] gt_o [] p.2.2 (.int y)) → gt_ar q.2.2.1 pas →
    gp_call sh q.2.1 q.1 pas σ (fun x σ' => gt_W wt σ' ∧ X σ' ∧ gt_fr q.2.2.2.2.2 σ σ' ∧ (gm_rc q.1 = 0 ∨ gt_tv q.2.2.2.2.1 x))
theorem gt_fits_ok {ρ : List Int32} {cs : gb_C} (hi : gb_in ρ cs) : ∀ {as ts : List Nat} {pas : List gp_V}, gb_fits cs as ts = true → gt_sr ρ as pas → gt_ar ts pas
  | [], [], [], _, _ => trivial
  | [], [], _ :: _, _, h => h.elim
  | [], _ :: _, _, h, _ => by cases h
  | _ :: _, [], _, h, _ => by cases h
  | _ :: _, _ :: _, [], _, h => h.elim
  | v :: as, t :: ts, x :: pas, h, hs => by
    have h1 : ga_if (gb_fit cs v t) (gb_fits cs as ts) false = true := h
    obtain ⟨h2, h3⟩ := gt_if h1
    refine ⟨?_, gt_fits_ok hi h3 hs.2⟩
    rcases gt_fit hi h2 hs.1 with q | ⟨-, q⟩
    · exact Or.inl q
    · exact Or.inr q
theorem gt_pre_ok {ρ : List Int32} {cs : gb_C} {ov : gb_V} {σ : gp_S} (hi : gb_in ρ cs) (ho : gt_or sh ρ ov σ) : ∀ {ps : List (Nat × Nat × Nat)}, gt_pre cs ov ps = true → ∀ p ∈ ps, ∃ y : Int32, y.toInt = σ p.1 p.2.1 ∧ gb_vr [] gt_o [] p.2.2 (.int y)
  | [], _, p, hp => by cases hp
  | q :: ps, h, p, hp => by
    have h1 : ga_f (gb_ol ov q.1 q.2.1) (fun v => ga_if (and (ga_int v) (gb_fit cs v q.2.2)) (gt_pre cs ov ps) false) = true := h
    rw [ga_f_eq] at h1
    obtain ⟨h2, h3⟩ := gt_if h1
    rw [Bool.and_eq_true] at h2
    rcases List.mem_cons.mp hp with rfl | hp
    · obtain ⟨-, g⟩ := ho _ (gt_ol_mem rfl (ga_int7 h2.1))
      rcases gt_fit hi h2.2 g with ⟨-, y, e, hy⟩ | ⟨-, ⟨-, q⟩ | ⟨-, c9, q, -⟩⟩
      · injection e with e
        exact ⟨y, e.symm, hy⟩
      · cases q
      · cases q
    · exact gt_pre_ok hi ho h3 p hp
theorem gt_fcon_ok {d k : Nat} {as : List Nat} {cs : gb_C} {ov : gb_V} : ∀ {us : List gt_K} {q : gt_K}, gt_fcon d k as cs ov us = some q → q ∈ us ∧ q.1 = k ∧ q.2.1 ≤ d ∧ gb_fits cs as q.2.2.1 = true ∧ gt_pre cs ov q.2.2.2.1 = true
  | [], q, h => by cases h
  | u :: us, q, h => by
    have h1 : ga_if (and (Nat.beq u.1 k) (and (Nat.ble u.2.1 d) (and (gb_fits cs as u.2.2.1) (gt_pre cs ov u.2.2.2.1)))) (some u) (gt_fcon d k as cs ov us) = some q := h
    rw [ga_if_eq] at h1
    split at h1
    · rename_i hc
      cases h1
      simp only [Bool.and_eq_true, ga_beq, Nat.ble_eq] at hc
      exact ⟨List.mem_cons_self, hc.1, hc.2.1, hc.2.2.1, hc.2.2.2⟩
    · obtain ⟨a, b⟩ := gt_fcon_ok h1
      exact ⟨List.mem_cons_of_mem _ a, b⟩
theorem gt_sbm_ok {ml : List (Nat × Nat)} : ∀ {a : List (Nat × Nat)}, gb_sbm ml a = true → ∀ c j, gb_mo a c j = true → gb_mo ml c j = true
  | [], _, c, j, h => by cases h
  | q :: a, h, c, j, hm => by
    have h1 : ga_if (gb_mo ml q.1 q.2) (gb_sbm ml a) false = true := h
    obtain ⟨h2, h3⟩ := gt_if h1
    have e : gb_mo (q :: a) c j = or (or (Nat.beq q.1 99999) (and (Nat.beq q.1 c) (or (Nat.beq q.2 j) (Nat.beq q.2 1048576)))) (gb_mo a c j) := rfl
    rw [e] at hm
    simp only [Bool.or_eq_true, Bool.and_eq_true, ga_beq] at hm
    rcases hm with (q9 | ⟨rfl, q1 | q1⟩) | hm
    · rw [q9] at h2
      clear h1 h3 h e
      induction ml with
      | nil => cases h2
      | cons p r ih =>
        have e9 : ∀ c j, gb_mo (p :: r) c j = or (or (Nat.beq p.1 99999) (and (Nat.beq p.1 c) (or (Nat.beq p.2 j) (Nat.beq p.2 1048576)))) (gb_mo r c j) := fun _ _ => rfl
        rw [e9] at h2 ⊢
        simp only [Bool.or_eq_true, Bool.and_eq_true, ga_beq] at h2 ⊢
        rcases h2 with (h2 | h2) | h2
        · exact Or.inl (Or.inl h2)
        · exact Or.inl (Or.inl h2.1)
        · exact Or.inr (ih h2)
    · rw [← q1]; exact h2
    · rw [q1] at h2; exact gt_mo_app h2
    · exact gt_sbm_ok h3 c j hm
theorem gt_tv_vr {ρ : List Int32} {t : Nat} {x : gp_V} (h : gt_tv t x) : gt_vr ρ t x := by
  rcases h with ⟨q, y, rfl, hy⟩ | ⟨q, rfl⟩ | ⟨rfl, c, rfl, hc⟩
  · exact gt_of (gb_vr_swap (n := 0) (fun z => by omega) (fun i hi => absurd hi (Nat.not_lt_zero i)) hy)
  · exact Or.inl ⟨rfl, Or.inl q⟩
  · exact gt_l5 hc
theorem gt_call_ok (Hs : gt_H sh wt) (HX : ∀ σ σ', (∀ c j, gb_mo xl c j = true → σ' c j = σ c j) → X σ → X σ') (HI : ∀ k, k < 313 → gt_inc (gm_me k).1 = true) {anm : Nat → List gb_N} {fuel : Nat} {us : List gt_K} (HU : ∀ q ∈ us, gt_KC sh wt X q) : ∀ d, gt_CS sh wt ml X σ0 d (gt_call gm_me wt ml xl anm us fuel d) := by
  intro d
  induction d with
  | zero => intro k as cs ov K h; cases h
  | succ d ih =>
    intro k as cs ov K h ρ pas σ hi hW hX ho hfr hs Ψ HK
    have h1 : (match gt_fcon (d + 1) k as cs ov us with
      | some q => ga_if (gb_sbm ml q.2.2.2.2.2) (gb_flt (fun z => not (gb_mo q.2.2.2.2.2 z.1 z.2.1)) ov (fun ov => K q.2.2.2.2.1 cs ov)) false
      | none => gt_body gm_me wt ml xl anm (gt_call gm_me wt ml xl anm us fuel d) fuel k as cs ov K) = true := h
    split at h1
    · rename_i q hq
      obtain ⟨q1, rfl, q3, q4, q5⟩ := gt_fcon_ok hq
      obtain ⟨h2, h3⟩ := gt_if h1
      rw [gb_flt_eq] at h3
      have hsb := gt_sbm_ok h2
      refine gp_call_post (fun x σ' hp => ?_) (gp_call_le q3 (HU q q1 pas σ hW hX (gt_pre_ok hi ho q5) (gt_fits_ok hi q4 hs)))
      obtain ⟨p1, p2, p3, p4⟩ := hp
      refine HK [] _ cs _ x σ' (by rw [List.append_nil]; exact hi) p1 p2 (fun z hz => ?_) (fun c j hm => ?_) ?_ h3
      · obtain ⟨z1, z2⟩ := List.mem_filter.mp hz
        rw [Bool.not_eq_true'] at z2
        rw [List.append_nil, p3 _ _ z2]
        exact ho z z1
      · have : gb_mo q.2.2.2.2.2 c j = false := by
          cases hb : gb_mo q.2.2.2.2.2 c j with
          | false => rfl
          | true => rw [hsb c j hb] at hm; cases hm
        rw [p3 c j this]
        exact hfr c j hm
      · rw [List.append_nil]
        rcases p4 with p4 | p4
        · exact Or.inl p4
        · exact Or.inr (gt_tv_vr p4)
    · exact gt_body_ok Hs HX HI ih h1 ρ pas σ hi hW hX ho hfr hs Ψ HK
theorem gt_ovs_ok {σ : gp_S} {K : gb_C → gb_V → Bool} : ∀ {ps : List (Nat × Nat × Nat)} {cs : gb_C} {ov : gb_V} {ρ : List Int32}, (∀ p ∈ ps, gp_pk sh p.1 p.2.1 = 0 ∧ ∃ y : Int32, y.toInt = σ p.1 p.2.1 ∧ gb_vr [] gt_o [] p.2.2 (.int y) ∧ p.2.2 % 8 = 2) → gb_in ρ cs → gt_or sh ρ ov σ → gt_ovs ps cs ov K = true → ∃ ρ' cs' ov', K cs' ov' = true ∧ gb_in ρ' cs' ∧ gt_or sh ρ' ov' σ
  | [], cs, ov, ρ, _, hi, ho, h => ⟨ρ, cs, ov, h, hi, ho⟩
  | q :: ps, cs, ov, ρ, hp, hi, ho, h => by
    have h1 : gb_nam q.2.2 cs (fun v cs => gt_ovs ps cs ((q.1, q.2.1, v) :: ov) K) = true := h
    obtain ⟨pk, y, e, hy, h2⟩ := hp q List.mem_cons_self
    have hy' : gb_vr ρ gt_o [] q.2.2 (.int y) := gb_vr_swap (n := 0) (fun z => by omega) (fun i hi => absurd hi (Nat.not_lt_zero i)) hy
    obtain ⟨zs, v', cs', e1, e2, e3, -⟩ := gt_nam hi hy'
    rw [e1] at h1
    refine gt_ovs_ok (fun p hp' => hp p (List.mem_cons_of_mem _ hp')) e2 (fun p hp' => ?_) h1
    rcases List.mem_cons.mp hp' with rfl | hp'
    · exact ⟨pk, y, e, e3⟩
    · exact gt_or_app ho p hp'
theorem gt_ar_sr {ρ : List Int32} : ∀ {ts : List Nat} {pas : List gp_V}, gt_ar ts pas → gt_sr ρ ts pas
  | [], [], _ => trivial
  | [], _ :: _, h => h.elim
  | _ :: _, [], h => h.elim
  | t :: ts, x :: xs, h => ⟨gt_tv_vr h.1, gt_ar_sr h.2⟩
/-- the check of a contract is right -/
theorem gt_chk_ok (Hs : gt_H sh wt) (HX : ∀ σ σ', (∀ c j, gb_mo xl c j = true → σ' c j = σ c j) → X σ → X σ') (HI : ∀ k, k < 313 → gt_inc (gm_me k).1 = true) {anm : Nat → List gb_N} {fuel : Nat} {us : List gt_K} (HU : ∀ q ∈ us, gt_KC sh wt X q) {q : gt_K} (hd : 0 < q.2.1) (hps : ∀ p ∈ q.2.2.2.1, gp_pk sh p.1 p.2.1 = 0 ∧ p.2.2 % 8 = 2) (h : gt_chk gm_me wt xl anm us fuel q = true) : gt_KC sh wt X q := by
  obtain ⟨k, d, ts, ps, rt, ml⟩ := q
  intro pas σ hW hX hpre har
  have h0 : gt_ovs ps [] [] (fun cs ov => gt_body gm_me wt ml xl anm (gt_call gm_me wt ml xl anm us fuel (d - 1)) fuel k ts cs ov (fun v cs _ => gt_rt gm_me k cs v rt)) = true := h
  have hd' : 0 < d := hd
  obtain ⟨ρ, cs, ov, h1, hi, ho⟩ := gt_ovs_ok (sh := sh) (σ := σ) (ρ := []) (fun p hp => by
    obtain ⟨y, e, hy⟩ := hpre p hp
    exact ⟨(hps p hp).1, y, e, hy, (hps p hp).2⟩) ⟨rfl, fun i q hq => by cases hq⟩ (fun p hp => by cases hp) h0
  have hs : gt_sr ρ ts pas := gt_ar_sr har
  have key := gt_body_ok (σ0 := σ) (ml := ml) Hs HX HI (gt_call_ok Hs HX HI HU (d - 1)) h1 ρ pas σ hi hW hX ho (fun c j _ => rfl) hs (fun x σ' => gt_W wt σ' ∧ X σ' ∧ gt_fr ml σ σ' ∧ (gm_rc k = 0 ∨ gt_tv rt x)) (fun zs v cs' ov' x σ' a1 a2 a3 a4 a5 a6 a7 => ?_)
  · rw [show d - 1 + 1 = d by omega] at key
    exact key
  · refine ⟨a2, a3, a5, ?_⟩
    rcases a6 with a6 | a6
    · exact Or.inl a6
    · have h2 : gt_rt gm_me k cs' v rt = true := a7
      unfold gt_rt at h2
      rcases hme : gm_me k with ⟨code, pad, nl, na, mc, ms, rck, ci⟩
      rw [hme] at h2
      have erc : gm_rc k = rck := by unfold gm_rc; rw [hme]
      have h3 : ga_if (Nat.beq rck 0) true (gb_fit cs' v rt) = true := h2
      rw [ga_if_eq] at h3
      split at h3
      · rename_i q
        rw [erc]
        exact Or.inl (Nat.eq_of_beq_eq_true q)
      · rcases gt_fit a1 h3 a6 with q | ⟨-, q⟩
        · exact Or.inr (Or.inl q)
        · exact Or.inr (Or.inr q)
end HH
