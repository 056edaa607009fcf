/-! runs of the typed machine, loops and all -/
theorem gt_choose {α : Type} {P : α → Int32 → Prop} : ∀ {l : List α}, (∀ r ∈ l, ∃ y, P r y) → ∃ ys : List Int32, ys.length = l.length ∧ ∀ (j : Nat) (r : α), l[j]? = some r → ∃ y, ys[j]? = some y ∧ P r y
  | [], _ => ⟨[], rfl, fun j r q => by cases q⟩
  | a :: l, h => by
    obtain ⟨y, hy⟩ := h a List.mem_cons_self
    obtain ⟨ys, h1, h2⟩ := gt_choose (fun r hr => h r (List.mem_cons_of_mem _ hr))
    refine ⟨y :: ys, by rw [List.length_cons, List.length_cons, h1], fun j r q => ?_⟩
    cases j with
    | zero => cases q; exact ⟨y, rfl, hy⟩
    | succ j => exact h2 j r q
theorem gt_swap {ρ ρ' : List Int32} {v n : Nat} {x : gp_V} (hv : v % 8 = 1 → v / 8 < n) (hρ : ∀ i, i < n → ρ[i]? = ρ'[i]?) (h : gt_vr ρ v x) : gt_vr ρ' v x := by
  cases x with
  | inl z => obtain ⟨y, h1, h2⟩ := h; exact ⟨y, h1, gb_vr_swap hv hρ h2⟩
  | inr c => exact h
theorem gt_sr_swap {ρ ρ' : List Int32} {n : Nat} (hρ : ∀ i, i < n → ρ[i]? = ρ'[i]?) : ∀ {sk : List Nat} {st : List gp_V}, (∀ v ∈ sk, v % 8 = 1 → v / 8 < n) → gt_sr ρ sk st → gt_sr ρ' sk st
  | [], [], _, _ => trivial
  | v :: _, _ :: _, hv, h => ⟨gt_swap (hv v List.mem_cons_self) hρ h.1, gt_sr_swap hρ (fun w hw => hv w (List.mem_cons_of_mem _ hw)) h.2⟩
  | [], _ :: _, _, h => h.elim
  | _ :: _, [], _, h => h.elim
theorem gt_sym_lt {ρ : List Int32} {v : Nat} {x : gp_V} (h : gt_vr ρ v x) (h1 : v % 8 = 1) : v / 8 < ρ.length := by
  have hint : ga_int v = true := by unfold ga_int; rw [Nat.ble_eq]; omega
  obtain ⟨y, -, hy⟩ := gt_int hint h
  obtain ⟨u, hu, -⟩ := (gb_vr_1 h1).mp hy
  exact gp_get_lt hu
section HF
variable {sh : Nat → gp_T} {wt : Nat → gb_T} {ml xl : List (Nat × Nat)} {X : gp_S → Prop} {σ0 : gp_S} {ρ0 : List Int32} {d rc : Nat} {code : List ga_E} {Φ : gp_F}
variable {go : gt_G} {opn : List gb_L} {nx : List ga_E} {al sk : List Nat} {cs : gb_C} {ov : gb_V} {ret : gt_R} {ev : ga_E} {own : String} {cc : ByteArray} {ini : Bool} {nL : Nat}
set_option maxHeartbeats 2000000 in
theorem gt_back_ok {ρ : List Int32} {L : gb_L} {pal psk : List gp_V} {σ : gp_S} (hat : gt_At sh wt ml X σ0 ρ al sk cs ov pal psk σ) (hL : gt_Lp sh wt ml X σ0 (gp_ok sh (gp_call sh d) rc code Φ) ρ L) (h : gb_back L al sk cs ov = true) : gp_ok sh (gp_call sh d) rc code Φ L.1.1 pal psk σ := by
  obtain ⟨⟨pc, hv, ds, dr, kh, mi, dir⟩, al0, sk0, cs0, ov0, n⟩ := L
  obtain ⟨f, h1, h2, h3, h5, ⟨h6, l1, l2, l3⟩, h7⟩ := hL
  obtain ⟨hi, hW, hX, ho, hfr, hl, hs⟩ := hat
  have hb : (and (and (gb_bl n al0 al) (gb_bs n sk0 sk)) (and (gb_bo n ov ov0) (and (gb_bc cs cs0 n (gb_cur (pc, hv, ds, dr, kh, mi, dir) al ov)) (gb_prog cs (ga_nth 7 (gb_cur (pc, hv, ds, dr, kh, mi, dir) al ov) mi) (n + mi) dir)))) = true := h
  simp only [Bool.and_eq_true] at hb
  obtain ⟨⟨b1, b2⟩, b3, b4, b5⟩ := hb
  have h1 : cs0.length = n + f := h1
  have h2 : mi < f := h2
  have h3 : n + f ≤ ρ.length := h3
  have h5 : gb_in (ρ.take n) (cs0.take n) := h5
  have h6 : ∀ i q, n ≤ i → cs0[i]? = some q → q.2.2.1 = 0 ∧ q.2.1 < 4294967296 := h6
  have l1 : cs0.length = n + (hv.length + kh.length) := l1
  have l2 : ∀ (i v : Nat), al0[i]? = some v → v % 8 = 1 → n ≤ v / 8 → ∃ (j : Nat) (r : Nat × Nat × Nat), hv[j]? = some r ∧ r.1 = i ∧ v = 8 * (n + j) + 1 := l2
  have l3 : ∀ q ∈ ov0, gp_pk sh q.1 q.2.1 = 0 ∧ (q.2.2 % 8 = 1 → n ≤ q.2.2 / 8 → ∃ (j : Nat) (r : Nat × Nat × Nat × Nat), kh[j]? = some r ∧ q = (r.1, r.2.1, 8 * (n + hv.length + j) + 1)) := l3
  have ecur : gb_cur (pc, hv, ds, dr, kh, mi, dir) al ov = hv.map (fun q => ga_nth 7 al q.1) ++ kh.map (fun q => gb_ol ov q.1 q.2.1) := rfl
  rw [ecur] at b4 b5
  have hbc := gt_bc b4
  have hf : f = hv.length + kh.length := by omega
  have w1 : ∀ (j : Nat) (r : Nat × Nat × Nat), hv[j]? = some r → (hv.map (fun q => ga_nth 7 al q.1) ++ kh.map (fun q => gb_ol ov q.1 q.2.1))[j]? = some (ga_nth 7 al r.1) := by
    intro j r hj
    have hlt := gp_get_lt hj
    rw [List.getElem?_append_left (by rw [List.length_map]; exact hlt), List.getElem?_map, hj]
    rfl
  have w2 : ∀ (j : Nat) (r : Nat × Nat × Nat × Nat), kh[j]? = some r → (hv.map (fun q => ga_nth 7 al q.1) ++ kh.map (fun q => gb_ol ov q.1 q.2.1))[hv.length + j]? = some (gb_ol ov r.1 r.2.1) := by
    intro j r hj
    rw [List.getElem?_append_right (by rw [List.length_map]; omega), List.length_map, Nat.add_sub_cancel_left, List.getElem?_map, hj]
    rfl
  obtain ⟨y1, c1, c2⟩ := gt_choose (l := hv) (P := fun r y => pal[r.1]? = some (.inl y.toInt) ∧ gb_vr ρ gt_o [] (ga_nth 7 al r.1) (.int y)) (fun r hr => by
    obtain ⟨j, hj⟩ := List.getElem?_of_mem hr
    have hint := (hbc j _ (w1 j r hj)).1
    have h7 := ga_int7 hint
    obtain ⟨x, g1, g2⟩ := hl.2.1 r.1 _ (ga_nth_some rfl h7) h7
    obtain ⟨y, rfl, hy⟩ := gt_int hint g2
    exact ⟨y, g1, hy⟩)
  obtain ⟨y2, c3, c4⟩ := gt_choose (l := kh) (P := fun r y => y.toInt = σ r.1 r.2.1 ∧ gb_vr ρ gt_o [] (gb_ol ov r.1 r.2.1) (.int y)) (fun r hr => by
    obtain ⟨j, hj⟩ := List.getElem?_of_mem hr
    have hint := (hbc _ _ (w2 j r hj)).1
    have h7 := ga_int7 hint
    obtain ⟨-, y, e, hy⟩ := ho _ (gt_ol_mem rfl h7)
    exact ⟨y, e, hy⟩)
  have hlen : (ρ.take n).length = n := by rw [List.length_take]; omega
  have val1 : ∀ (j : Nat) (r : Nat × Nat × Nat), hv[j]? = some r → ∃ y, (ρ.take n ++ (y1 ++ y2))[n + j]? = some y ∧ (y1 ++ y2)[j]? = some y ∧ pal[r.1]? = some (.inl y.toInt) ∧ gb_vr ρ gt_o [] (ga_nth 7 al r.1) (.int y) := by
    intro j r hj
    obtain ⟨y, g1, g2⟩ := c2 j r hj
    have hlt := gp_get_lt g1
    refine ⟨y, ?_, by rw [List.getElem?_append_left hlt]; exact g1, g2⟩
    rw [List.getElem?_append_right (by omega), hlen, Nat.add_sub_cancel_left, List.getElem?_append_left hlt]
    exact g1
  have val2 : ∀ (j : Nat) (r : Nat × Nat × Nat × Nat), kh[j]? = some r → ∃ y, (ρ.take n ++ (y1 ++ y2))[n + hv.length + j]? = some y ∧ (y1 ++ y2)[hv.length + j]? = some y ∧ y.toInt = σ r.1 r.2.1 ∧ gb_vr ρ gt_o [] (gb_ol ov r.1 r.2.1) (.int y) := by
    intro j r hj
    obtain ⟨y, g1, g2⟩ := c4 j r hj
    have e : (y1 ++ y2)[hv.length + j]? = some y := by
      rw [List.getElem?_append_right (by omega), c1, Nat.add_sub_cancel_left]
      exact g1
    refine ⟨y, ?_, e, g2⟩
    rw [List.getElem?_append_right (by omega), hlen, show n + hv.length + j - n = hv.length + j by omega]
    exact e
  have hρ : ∀ i, i < n → ρ[i]? = (ρ.take n ++ (y1 ++ y2))[i]? := by
    intro i hin
    rw [List.getElem?_append_left (by omega), List.getElem?_take_of_lt hin]
  have hys : ∀ j, j < f → ∃ w y, (hv.map (fun q => ga_nth 7 al q.1) ++ kh.map (fun q => gb_ol ov q.1 q.2.1))[j]? = some w ∧ (y1 ++ y2)[j]? = some y ∧ gb_vr ρ gt_o [] w (.int y) := by
    intro j hj
    by_cases hjl : j < hv.length
    · obtain ⟨y, -, g2, -, g4⟩ := val1 j _ (List.getElem?_eq_getElem hjl)
      exact ⟨_, y, w1 j _ (List.getElem?_eq_getElem hjl), g2, g4⟩
    · have hk : j - hv.length < kh.length := by omega
      obtain ⟨y, -, g2, -, g4⟩ := val2 (j - hv.length) _ (List.getElem?_eq_getElem hk)
      have e := w2 (j - hv.length) _ (List.getElem?_eq_getElem hk)
      rw [show hv.length + (j - hv.length) = j by omega] at e g2
      exact ⟨_, y, e, g2, g4⟩
  obtain ⟨wm, ym, e1, e2, e3⟩ := hys mi h2
  have hzm : n + mi < ρ.length := by omega
  have ewm : ga_nth 7 (hv.map (fun q => ga_nth 7 al q.1) ++ kh.map (fun q => gb_ol ov q.1 q.2.1)) mi = wm := by
    rw [ga_nth_eq, List.getD_eq_getElem?_getD, e1]
    rfl
  rw [ewm] at b5
  have hfar := gt_prog hi e3 (List.getElem?_eq_getElem hzm) b5
  refine h7 (y1 ++ y2) ym _ (by rw [List.length_append, c1, c3, hf]) e2 (List.getElem?_eq_getElem hzm) hfar pal psk σ ⟨⟨?_, fun i q hq => ?_⟩, hW, hX, fun q hq => ?_, hfr, ⟨?_, fun i v hi0 h70 => ?_, fun i c5 hi5 hc5 => ?_⟩, ?_⟩
  · show (ρ.take n ++ (y1 ++ y2)).length = cs0.length
    rw [List.length_append, hlen, List.length_append, c1, c3, l1]
  · have hq : cs0[i]? = some q := hq
    have hil := gp_get_lt hq
    by_cases hin : i < n
    · have hq2 : (cs0.take n)[i]? = some q := by rw [List.getElem?_take_of_lt hin]; exact hq
      obtain ⟨a1, y, a2, a3, a4, a5⟩ := h5.2 i q hq2
      refine ⟨a1, y, gb_get_app _ a2, a3, a4, ?_⟩
      rcases a5 with a5 | ⟨z, a5, a6⟩
      · exact Or.inl a5
      · exact Or.inr ⟨z, gb_get_app _ a5, a6⟩
    · obtain ⟨q1, q2⟩ := h6 i q (by omega) hq
      obtain ⟨w, y, g1, g2, g3⟩ := hys (i - n) (by omega)
      obtain ⟨-, k2, k3⟩ := hbc (i - n) w g1
      rw [show n + (i - n) = i by omega] at k2 k3
      have ee : gb_ent cs0 i = q := by
        unfold gb_ent
        rw [ga_nth_eq, List.getD_eq_getElem?_getD, hq]
        rfl
      rw [ee] at k2 k3
      obtain ⟨m1, m2⟩ := gb_lohi hi g3
      refine ⟨q2, y, ?_, by omega, by omega, Or.inl q1⟩
      show (ρ.take n ++ (y1 ++ y2))[i]? = some y
      rw [List.getElem?_append_right (by omega), hlen]
      exact g2
  · obtain ⟨p1, p2⟩ := l3 q hq
    refine ⟨p1, ?_⟩
    by_cases hs1 : q.2.2 % 8 = 1 ∧ n ≤ q.2.2 / 8
    · obtain ⟨j, r, g1, rfl⟩ := p2 hs1.1 hs1.2
      obtain ⟨y, k1, -, k3, -⟩ := val2 j r g1
      refine ⟨y, k3, (gb_vr_1 (show (8 * (n + hv.length + j) + 1) % 8 = 1 by omega)).mpr ⟨y, ?_, rfl⟩⟩
      show (ρ.take n ++ (y1 ++ y2))[(8 * (n + hv.length + j) + 1) / 8]? = some y
      rw [show (8 * (n + hv.length + j) + 1) / 8 = n + hv.length + j by omega]
      exact k1
    · rcases gt_bo b3 q hq with z | ⟨-, z2, z3⟩
      · exact absurd z hs1
      · obtain ⟨-, g⟩ := ho _ (gt_ol_mem z3 z2)
        exact gt_swap (n := n) (fun z => by
          rcases Nat.lt_or_ge (q.2.2 / 8) n with q1 | q1
          · exact q1
          · exact absurd ⟨z, q1⟩ hs1) hρ g
  · show al0.length = pal.length
    rw [(gt_bl b1).1, hl.1]
  · have hi0 : al0[i]? = some v := hi0
    rcases (gt_bl b1).2 i v hi0 with z | z | z
    · exact absurd z.1 h70
    · obtain ⟨j, r, g1, g2, g3⟩ := l2 i v hi0 z.1 z.2
      obtain ⟨y, k1, -, k3, -⟩ := val1 j r g1
      rw [g2] at k3
      refine ⟨_, k3, y, rfl, (gb_vr_1 z.1).mpr ⟨y, ?_, rfl⟩⟩
      show (ρ.take n ++ (y1 ++ y2))[v / 8]? = some y
      rw [show v / 8 = n + j by omega]
      exact k1
    · obtain ⟨x, g1, g2⟩ := hl.2.1 i v z.2 h70
      by_cases hs1 : v % 8 = 1 ∧ n ≤ v / 8
      · obtain ⟨j, r, k1, k2, k3⟩ := l2 i v hi0 hs1.1 hs1.2
        obtain ⟨y, m1, -, m3, -⟩ := val1 j r k1
        rw [k2] at m3
        refine ⟨_, m3, y, rfl, (gb_vr_1 hs1.1).mpr ⟨y, ?_, rfl⟩⟩
        show (ρ.take n ++ (y1 ++ y2))[v / 8]? = some y
        rw [show v / 8 = n + j by omega]
        exact m1
      · exact ⟨x, g1, gt_swap (n := n) (fun z => by
          rcases Nat.lt_or_ge (v / 8) n with q1 | q1
          · exact q1
          · exact absurd ⟨z, q1⟩ hs1) hρ g2⟩
  · have h55 := hl.2.2 i c5 hi5 hc5
    have hil := gp_get_lt h55
    have hil0 : i < al0.length := by rw [(gt_bl b1).1]; exact hil
    have hget : al0[i]? = some al0[i] := List.getElem?_eq_getElem hil0
    show al0[i]? = some 5
    rcases (gt_bl b1).2 i _ hget with z | z | z
    · exact absurd h55 z.2
    · exfalso
      obtain ⟨j, r, g1, g2, g3⟩ := l2 i _ hget z.1 z.2
      obtain ⟨y, -, -, k3, -⟩ := val1 j r g1
      rw [g2, hi5] at k3
      cases k3
    · rw [hget, ← h55]
      exact z.2.symm
  · obtain ⟨z1, z2⟩ := gt_bs b2
    show gt_sr (ρ.take n ++ (y1 ++ y2)) sk0 psk
    rw [z1]
    exact gt_sr_swap (n := n) hρ (fun v hv => (z2 v (by rw [z1]; exact hv)).1) hs
set_option maxHeartbeats 2000000 in
theorem gt_arr_ok (Hs : gt_H sh wt) {q : gb_N} {pc : Nat} {st : List gb_L → List Nat → List Nat → gb_C → gb_V → Bool} (hst : ∀ opn al sk cs ov, st opn al sk cs ov = true → gt_Go sh wt ml X σ0 ρ0 d rc code Φ opn pc al sk cs ov) (hq : q.1 = pc) (h : gt_arr wt q al sk cs ov (fun L al cs ov => st (L :: opn) al sk cs ov) = true) : gt_Go sh wt ml X σ0 ρ0 d rc code Φ opn pc al sk cs ov := by
  intro zs pal psk σ hat hop
  obtain ⟨pc', hv, ds, dr, kh, mi, dir⟩ := q
  obtain rfl : pc' = pc := hq
  obtain ⟨hi, hW, hX, ho, hfr, hl, hs⟩ := hat
  have h0 : ga_if (Nat.blt mi (List.length hv + List.length kh)) (ga_f (List.length cs) (fun n => gb_ah false hv al cs (fun al cs => gb_adl false ds al (fun al => gb_flt (fun q => not (gb_drp dr q.1 q.2.1)) ov (fun ov => gb_ak wt false kh cs ov (fun cs ov => st (((pc', hv, ds, dr, kh, mi, dir), al, sk, cs, ov, n) :: opn) al sk cs ov)))))) false = true := h
  obtain ⟨hmi, h1⟩ := gt_if h0
  rw [Nat.blt_eq] at hmi
  rw [ga_f_eq] at h1
  obtain ⟨al1, cs1, h2, ecs1, lal1, A1, A2⟩ := gt_ah h1
  obtain ⟨al2, h3, lal2, B1, B2⟩ := gt_adl h2
  rw [gb_flt_eq] at h3
  obtain ⟨cs2, ov2, h4, ecs2, C1, C2⟩ := gt_ak Hs h3
  have hn : (ρ0 ++ zs).length = cs.length := hi.1
  have lcs1 : cs1.length = cs.length + hv.length := by rw [ecs1, List.length_append, List.length_map]
  have lcs2 : cs2.length = cs.length + (hv.length + kh.length) := by rw [ecs2, List.length_append, List.length_map, lcs1]; omega
  have htake : cs2.take cs.length = cs := by
    rw [ecs2, ecs1, List.append_assoc, List.take_left']
    rfl
  obtain ⟨ya, a1, a2, a3⟩ := A1 _ pal hi hl
  have a4 := B1 _ pal a3
  obtain ⟨yb, b1, b2, b3⟩ := C1 _ σ a2 hW (fun q hq => gt_or_app ho q (List.mem_filter.mp hq).1)
  have hnew : ∀ i q, cs.length ≤ i → cs2[i]? = some q → q.2.2.1 = 0 ∧ q.2.1 < 4294967296 := by
    intro i q hle hq
    refine ⟨?_, (b2.2 i q hq).1⟩
    rw [ecs2, ecs1, List.append_assoc, List.getElem?_append_right hle] at hq
    rcases List.mem_append.mp (List.mem_of_getElem? hq) with g | g
    · obtain ⟨r, -, rfl⟩ := List.mem_map.mp g
      rfl
    · obtain ⟨r, -, rfl⟩ := List.mem_map.mp g
      rfl
  generalize hLq : (((pc', hv, ds, dr, kh, mi, dir), al2, sk, cs2, ov2, cs.length) : gb_L) = L at h4
  have hLs : gt_Ls sh L := by
    rw [← hLq]
    refine ⟨lcs2, fun i v hiv h11 hle => ?_, fun q hq => ?_⟩
    · rcases B2 i v hiv with rfl | hiv
      · omega
      · rcases A2 i v hiv with hiv | ⟨j, r, g1, g2, g3⟩
        · exfalso
          obtain ⟨x, -, g⟩ := hl.2.1 i v hiv (by omega)
          have := gt_sym_lt g h11
          have hle : cs.length ≤ v / 8 := hle
          omega
        · exact ⟨j, r, g1, g2, g3⟩
    · rcases C2 q hq with hq | ⟨j, r, g1, rfl, g3⟩
      · have hq := (List.mem_filter.mp hq).1
        obtain ⟨p1, p2⟩ := ho q hq
        refine ⟨p1, fun h11 hle => ?_⟩
        exfalso
        have := gt_sym_lt p2 h11
        have hle : cs.length ≤ q.2.2 / 8 := hle
        omega
      · refine ⟨g3, fun _ _ => ⟨j, r, g1, ?_⟩⟩
        rw [lcs1]
  have claim : ∀ (M : Nat) (ys : List Int32) (y : Int32), ys.length = hv.length + kh.length → ys[mi]? = some y → (if dir = 0 then 4294967296 - ga_kk y else ga_kk y) ≤ M → ∀ (pal psk : List gp_V) (σ : gp_S), gt_At sh wt ml X σ0 ((ρ0 ++ zs) ++ ys) al2 sk cs2 ov2 pal psk σ → gp_ok sh (gp_call sh d) rc code Φ pc' pal psk σ := by
    intro M
    induction M with
    | zero =>
      intro ys y e1 e2 hM pal psk σ hat2
      have hk := ga_kk_le y
      by_cases hd : dir = 0
      · rw [if_pos hd] at hM
        omega
      · rw [if_neg hd] at hM
        have := hst _ _ _ _ _ h4 (zs ++ ys) pal psk σ (by rw [← List.append_assoc]; exact hat2) (fun L' hL' => ?_)
        · exact this
        · rw [← List.append_assoc]
          rcases List.mem_cons.mp hL' with rfl | hL'
          · subst hLq
            refine ⟨hv.length + kh.length, lcs2, hmi, ?_, ?_, ⟨hnew, hLs⟩, fun ys' y' z a1 a2 a3 a4 pal psk σ hat3 => ?_⟩
            · show cs.length + (hv.length + kh.length) ≤ ((ρ0 ++ zs) ++ ys).length
              rw [List.length_append, hn, e1]
              exact Nat.le_refl _
            · show gb_in (((ρ0 ++ zs) ++ ys).take cs.length) (cs2.take cs.length)
              rw [htake, List.take_left' hn]
              exact hi
            · have a3' : ((ρ0 ++ zs) ++ ys)[cs.length + mi]? = some z := a3
              rw [List.getElem?_append_right (by omega), hn, Nat.add_sub_cancel_left, e2] at a3'
              cases a3'
              have a4' : gt_far dir y' y := a4
              unfold gt_far at a4'
              rw [if_neg hd] at a4'
              omega
          · exact gt_Lp_app (hop L' hL')
    | succ M ih =>
      intro ys y e1 e2 hM pal psk σ hat2
      have := hst _ _ _ _ _ h4 (zs ++ ys) pal psk σ (by rw [← List.append_assoc]; exact hat2) (fun L' hL' => ?_)
      · exact this
      · rw [← List.append_assoc]
        rcases List.mem_cons.mp hL' with rfl | hL'
        · subst hLq
          refine ⟨hv.length + kh.length, lcs2, hmi, ?_, ?_, ⟨hnew, hLs⟩, fun ys' y' z a1 a2 a3 a4 pal psk σ hat3 => ?_⟩
          · show cs.length + (hv.length + kh.length) ≤ ((ρ0 ++ zs) ++ ys).length
            rw [List.length_append, hn, e1]
            exact Nat.le_refl _
          · show gb_in (((ρ0 ++ zs) ++ ys).take cs.length) (cs2.take cs.length)
            rw [htake, List.take_left' hn]
            exact hi
          · have a3' : ((ρ0 ++ zs) ++ ys)[cs.length + mi]? = some z := a3
            rw [List.getElem?_append_right (by omega), hn, Nat.add_sub_cancel_left, e2] at a3'
            cases a3'
            have a4' : gt_far dir y' y := a4
            unfold gt_far at a4'
            have hk := ga_kk_le y
            have hk' := ga_kk_le y'
            have hat4 : gt_At sh wt ml X σ0 (((ρ0 ++ zs) ++ ys).take cs.length ++ ys') al2 sk cs2 ov2 pal psk σ := hat3
            rw [List.take_left' hn] at hat4
            refine ih ys' y' a1 a2 ?_ pal psk σ hat4
            by_cases hd : dir = 0
            · rw [if_pos hd] at a4' hM ⊢
              omega
            · rw [if_neg hd] at a4' hM ⊢
              omega
        · exact gt_Lp_app (hop L' hL')
  have hlen : (ya ++ yb).length = hv.length + kh.length := by rw [List.length_append, a1, b1]
  have hlt : mi < (ya ++ yb).length := by omega
  refine claim _ (ya ++ yb) _ hlen (List.getElem?_eq_getElem hlt) (Nat.le_refl _) pal psk σ ⟨?_, hW, hX, ?_, hfr, ?_, ?_⟩
  · rw [← List.append_assoc]; exact b2
  · rw [← List.append_assoc]; exact b3
  · rw [← List.append_assoc]; exact gt_lr_app a4
  · exact gt_sr_app hs
end HF
