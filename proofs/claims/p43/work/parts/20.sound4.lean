theorem ga_kk_neg {x : Int32} (h : 2147483648 ≤ ga_kk x) : ga_kk (0 - x) = 4294967296 - ga_kk x := by
  have h1 := Int32.le_toInt x
  have h2 := Int32.toInt_lt x
  have e : (0 - x).toInt = (0 - x.toInt).bmod (2 ^ 32) := by
    rw [Int32.toInt_sub]; rfl
  unfold ga_kk at h ⊢
  rw [e]
  simp only [Int.bmod]
  split <;> omega
/-- the words of a method's contract -/
noncomputable def gw_m (k : Nat) : List Cond := Cond.code (gm_i k).1 (gm_i k).2.1 (gm_i k).2.2.1 (gm_i k).2.2.2 :: gw_tbl
noncomputable def gm_mc (k : Nat) : Nat := (gm_me k).2.2.2.2.1
noncomputable def gm_ms (k : Nat) : Nat := (gm_me k).2.2.2.2.2.1
noncomputable def gm_rc (k : Nat) : Nat := (gm_me k).2.2.2.2.2.2.1
noncomputable def gm_ci (k : Nat) : Nat := (gm_me k).2.2.2.2.2.2.2
noncomputable def gm_na (k : Nat) : Nat := (gm_me k).2.2.2.1
noncomputable def ga_rm (d k : Nat) : Room := { frames := d + 10, cells := gm_mc k, slots := gm_ms k, locals := 100 * (d + 10) }
/-- the calls of depth d are right -/
def ga_CS (l : Launch) (ρ : Nat → Int32) (oa : Nat → Nat) (ta : Nat → ClassId) (D : va_G) (n0 L d : Nat) (call : Nat → List Nat → ga_I → Nat → ga_H → Option (List ga_A)) : Prop :=
  ∀ k as iv n h os, call k as iv n h = some os → k < 313 ∧ as.length = gm_na k ∧ ∀ ad, Met l (gm_i k).1 (gw_m k) (ga_rm d k) (ga_Pc ρ oa ta D n0 (ga_old ρ oa n0 L) ad as iv n h) (ga_Qc ρ oa ta D n0 (gm_rc k) ad os) (gm_mc k) (gm_ms k) (fun q => n0 ≤ q)
section GX
variable {p : Program} {l : Launch} {e : Env} {R : Room} {s : State} {m : MethodId} {args : Array Value} {below : List Frame} {meth : Method} {c : Code} {Q : State → Prop}
variable {ρ : Nat → Int32} {oa : Nat → Nat} {ta : Nat → ClassId} {D : va_G} {n0 nL : Nat} {own : String} {cc : ByteArray} {ini : Bool} {cm sm : Nat} {pc z : Nat} {nx cds code : List ga_E} {al sk : List Nat} {cs ss : Nat} {iv : ga_I} {n : Nat} {h : ga_H} {go : ga_G} {os : List ga_O} {ev : ga_E}
theorem sx_isb (hρ : ρ 7 = 0 - ρ 1) (hx : p.tables.exec = Jvm.exec) (hb : c.code = cc) (S : ga_Sd p l e R s m args below meth c Q ρ oa ta D n0 nL own cc ini cm sm go) (hcs : cs ≤ cm ∧ ss ≤ sm) (hO : ∀ o ∈ os, ga_GoO p l e R s m args below meth c Q ρ oa ta D n0 nL own cc ini o) (okn : ga_okc own cc ini nL nx) (hnx : nx = [] ∨ ga_pc nx = pc + 1) (hc : ga_pc cds = pc) (hdg : decode cc pc = .ok (.isub, 1))
    (ho : ga_isb go nx al sk cs ss iv n h = some os) : ga_Go p l e R s m args below meth c Q ρ oa ta D n0 nL cds al sk cs ss iv n h := by
  unfold ga_isb at ho
  split at ho
  · rename_i y x r
    simp only [ga_if_eq, ga_f_eq, ga_set_eq] at ho
    split at ho
    · rename_i hq
      simp only [Bool.and_eq_true, ga_beq, Nat.ble_eq] at hq
      obtain ⟨rfl, hy9, hlo⟩ := hq
      obtain ⟨e1, k⟩ := sd_nx S hcs hO okn hnx ho
      intro H locs ls st hat
      obtain ⟨hi, hS, ad, ws, hw, hl, hs⟩ := hat
      obtain ⟨vy, t1, rfl, h1, hs1⟩ := ga_sr_cons hs
      obtain ⟨vx, t, rfl, h2, hs2⟩ := ga_sr_cons hs1
      have h1' := ga_sm_ok hi h1
      rw [hy9] at h1'
      have ey := (ga_vr_1 (by decide)).mp h1'
      have ex := ((ga_vr_0 (by decide)).mp h2).2
      subst ey; subst ex
      rw [hc]
      refine lv_isub hx hb hdg ?_
      have hg1 := (hi 1).1
      have hg2 := (hi 1).2
      have hkn := ga_kk_neg (x := ρ 1) (by omega)
      have er : nI (0 / 8) - ρ (9 / 8) = ρ 7 := hρ.symm
      rw [er]
      have kk := k H locs ls (.int (ρ 7) :: t) ⟨ga_in_set hi (by rw [hρ, hkn]; omega) (by rw [hρ, hkn]; omega), hS, ad, ws, hw, hl, (ga_vr_1 (by decide)).mpr rfl, hs2⟩
      rw [e1] at kk
      exact kk
    · exact sx_op2 S hcs hO okn hnx hc ho (fun H locs ls st ad x y vx vy a1 a2 a3 => by
        obtain ⟨X, Y, rfl, rfl, g⟩ := ga_sub_ok x y vx vy a1 a2 a3
        exact ⟨_, g, fun w => lv_isub hx hb hdg w⟩)
  · cases ho
theorem sx_iinc {i a : Nat} {nn : Int} (hx : p.tables.exec = Jvm.exec) (hb : c.code = cc) (S : ga_Sd p l e R s m args below meth c Q ρ oa ta D n0 nL own cc ini cm sm go) (hcs : cs ≤ cm ∧ ss ≤ sm) (hO : ∀ o ∈ os, ga_GoO p l e R s m args below meth c Q ρ oa ta D n0 nL own cc ini o) (okn : ga_okc own cc ini nL nx) (hnx : nx = [] ∨ ga_pc nx = pc + 3) (hc : ga_pc cds = pc) (hdg : decode cc pc = .ok (.iinc i nn, 3)) (ha0 : a % 8 = 0) (hin : i < nL) (hn : Int32.ofInt nn = nI (a / 8))
    (ho : (ga_f (ga_nth 7 al i) (fun v => ga_if (and (Nat.beq (v % 8) 0) (ga_ahead al i)) (ga_f ((v + a) % 34359738368) (fun v => ga_set al i v (fun al => go nx al sk cs ss iv n h))) none)) = some os) : ga_Go p l e R s m args below meth c Q ρ oa ta D n0 nL cds al sk cs ss iv n h := by
  simp only [ga_if_eq, ga_f_eq, ga_set_eq, Bool.and_eq_true, ga_beq] at ho
  split at ho
  · rename_i hq
    obtain ⟨e1, k⟩ := sd_nx S hcs hO okn hnx ho
    refine gg_iinc hc rfl hq.1 hq.2 ha0 (fun H locs ls st x hh hm w => ?_) k
    obtain ⟨kx, hkx⟩ := List.getElem?_of_mem hm
    exact lv_iinc hx hb hdg hh hkx (by rw [hn]) hin rfl (fun ls' hl' => by rw [← e1]; exact w ls' hl')
  · cases ho
theorem sx_lst {k : Fin 4} (hx : p.tables.exec = Jvm.exec) (hb : c.code = cc) (S : ga_Sd p l e R s m args below meth c Q ρ oa ta D n0 nL own cc ini cm sm go) (hcs : cs ≤ cm ∧ ss ≤ sm) (hO : ∀ o ∈ os, ga_GoO p l e R s m args below meth c Q ρ oa ta D n0 nL own cc ini o) (okn : ga_okc own cc ini nL nx) (hnx : nx = [] ∨ ga_pc nx = pc + 1) (hc : ga_pc cds = pc) (hdg : decode cc pc = .ok (.lstore_n k, 1)) (hin : k.val + 1 < nL) {v : Nat} {r : List Nat}
    (ho : ga_if (and (ga_lng v) (ga_ahead al k.val)) (ga_set al k.val v (fun al => ga_set al (k.val + 1) 7 (fun al => go nx al r cs ss iv n h))) none = some os) : ga_Go p l e R s m args below meth c Q ρ oa ta D n0 nL cds al (v :: r) cs ss iv n h := by
  simp only [ga_if_eq, ga_set_eq, Bool.and_eq_true] at ho
  split at ho
  · rename_i hq
    obtain ⟨e1, kk⟩ := sd_nx S hcs hO okn hnx ho
    have h5 : v % 8 = 5 := by simpa [ga_lng, ga_beq] using hq.1
    refine gg_store2 hc hq.2 (fun H locs ls st ad x hv hh w => ?_) kk
    obtain ⟨-, rfl⟩ := (ga_vr_5 h5).mp hv
    exact lv_lstore_n hx hb hdg rfl hh hin rfl (fun ls' hl' => by rw [← e1]; exact w ls' hl')
  · cases ho
/-- a switch -/
theorem sx_sw {ps : List (Nat × Nat)} {v b : Nat} {r : List Nat} (S : ga_Sd p l e R s m args below meth c Q ρ oa ta D n0 nL own cc ini cm sm go) (hcs : cs ≤ cm ∧ ss ≤ sm) (hO : ∀ o ∈ os, ga_GoO p l e R s m args below meth c Q ρ oa ta D n0 nL own cc ini o) (okc : ga_okc own cc ini nL code) (hc : ga_pc cds = pc) (hv : ga_int v = true) (hps : ∀ q ∈ ps, q.1 % 8 = 0 ∧ q.1 / 8 < 4294967296)
    (hin : ∀ (H : Heap) (locs : List Loc) (ls : Array Slot) (st : List Value) (X : Int32) (q : Nat × Nat), q ∈ ps → X = nI (q.1 / 8) → W p l e R s m args below meth c H locs cs ss Q (F0 m q.2 ls st) → W p l e R s m args below meth c H locs cs ss Q (F0 m pc ls (.int X :: st)))
    (hout : ∀ (H : Heap) (locs : List Loc) (ls : Array Slot) (st : List Value) (X : Int32), (∀ q ∈ ps, ¬ X = nI (q.1 / 8)) → W p l e R s m args below meth c H locs cs ss Q (F0 m b ls st) → W p l e R s m args below meth c H locs cs ss Q (F0 m pc ls (.int X :: st)))
    (ho : ga_sw ps v iv (fun iv => go (ga_jmp code b) al r cs ss iv n h) (fun t iv => go (ga_jmp code t) al r cs ss iv n h) = some os) : ga_Go p l e R s m args below meth c Q ρ oa ta D n0 nL cds al (v :: r) cs ss iv n h := by
  intro H locs ls st hat
  obtain ⟨hi, hS, ad, ws, hw, hl, hs⟩ := hat
  obtain ⟨vx, t, rfl, h2, hs2⟩ := ga_sr_cons hs
  obtain ⟨X, rfl⟩ := ga_vr_int hv h2
  rw [hc]
  rcases ga_sw_ok h2 hps hi ho with ⟨q, hq, hX, iv', o1, hin', g1, g2⟩ | ⟨hno, iv', o1, hin', g1, g2⟩
  · have hj := ga_okc_jmp (t := q.2) okc
    obtain ⟨e1, k⟩ := sd_nx S hcs (sd_sub hO g2) hj.1 hj.2 g1
    refine hin H locs ls t X q hq hX ?_
    rw [← e1]
    exact k H locs ls t ⟨hin', hS, ad, ws, hw, hl, hs2⟩
  · have hj := ga_okc_jmp (t := b) okc
    obtain ⟨e1, k⟩ := sd_nx S hcs (sd_sub hO g2) hj.1 hj.2 g1
    refine hout H locs ls t X hno ?_
    rw [← e1]
    exact k H locs ls t ⟨hin', hS, ad, ws, hw, hl, hs2⟩
theorem sx_acp (hx : p.tables.exec = Jvm.exec) (hb : c.code = cc) (S : ga_Sd p l e R s m args below meth c Q ρ oa ta D n0 nL own cc ini cm sm go) (hcs : cs ≤ cm ∧ ss ≤ sm) (hO : ∀ o ∈ os, ga_GoO p l e R s m args below meth c Q ρ oa ta D n0 nL own cc ini o) (okn : ga_okc own cc ini nL nx) (hnx : nx = [] ∨ ga_pc nx = z) (hc : ga_pc cds = pc)
    (hri : ∀ (H : Heap) (locs : List Loc) (ls : Array Slot) (st : List Value) (ws : va_W) (q0 q1 A B sp dp mm la lb : Nat) (f g : Nat → Int32), ls.size = nL → (st.map fun v => v.category).sum ≤ 8 → sp < 1048576 → dp < 1048576 → mm < 1048576 → sp + mm ≤ la → dp + mm ≤ lb → va_P D gm_cl ws H → va_D (fun q => n0 ≤ q) ws → va_S (fun q => n0 ≤ q) s.heap H locs → ws[q0]? = some (A, .inl (ta 100, la, .inl f)) → ws[q1]? = some (B, .inl (ta 100, lb, .inl g)) →
      (∀ (H1 : Heap) (locs1 : List Loc), va_P D gm_cl (ws.set q1 (B, .inl (ta 100, lb, .inl (va_cpy f g sp dp mm)))) H1 → va_D (fun q => n0 ≤ q) (ws.set q1 (B, .inl (ta 100, lb, .inl (va_cpy f g sp dp mm)))) → va_S (fun q => n0 ≤ q) s.heap H1 locs1 → W p l e R s m args below meth c H1 locs1 cs ss Q (F0 m z ls st)) → W p l e R s m args below meth c H locs cs ss Q (F0 m pc ls (.int (nI mm) :: .int (nI dp) :: .ref B :: .int (nI sp) :: .ref A :: st)))
    (hrl : ∀ (H : Heap) (locs : List Loc) (ls : Array Slot) (st : List Value) (ws : va_W) (q0 q1 A B sp dp mm la lb : Nat) (f g : Nat → Int64), ls.size = nL → (st.map fun v => v.category).sum ≤ 8 → sp < 1048576 → dp < 1048576 → mm < 1048576 → sp + mm ≤ la → dp + mm ≤ lb → va_P D gm_cl ws H → va_D (fun q => n0 ≤ q) ws → va_S (fun q => n0 ≤ q) s.heap H locs → ws[q0]? = some (A, .inl (ta 102, la, .inr (.inl f))) → ws[q1]? = some (B, .inl (ta 102, lb, .inr (.inl g))) →
      (∀ (H1 : Heap) (locs1 : List Loc), va_P D gm_cl (ws.set q1 (B, .inl (ta 102, lb, .inr (.inl (va_cpy f g sp dp mm))))) H1 → va_D (fun q => n0 ≤ q) (ws.set q1 (B, .inl (ta 102, lb, .inr (.inl (va_cpy f g sp dp mm))))) → va_S (fun q => n0 ≤ q) s.heap H1 locs1 → W p l e R s m args below meth c H1 locs1 cs ss Q (F0 m z ls st)) → W p l e R s m args below meth c H locs cs ss Q (F0 m pc ls (.int (nI mm) :: .int (nI dp) :: .ref B :: .int (nI sp) :: .ref A :: st)))
    (ho : ga_acp go nx al sk cs ss iv n h = some os) : ga_Go p l e R s m args below meth c Q ρ oa ta D n0 nL cds al sk cs ss iv n h := by
  unfold ga_acp at ho
  split at ho
  · rename_i mq dq b sq a t
    rw [ga_if_eq] at ho
    split at ho
    · rename_i hq
      simp only [Bool.and_eq_true, ga_beq, Nat.ble_eq] at hq
      obtain ⟨⟨hl2, hsp⟩, ⟨hra, hrb⟩, hwd⟩ := hq
      obtain ⟨hm8, hd8⟩ := ga_l2_ok hl2
      obtain ⟨mm, rfl⟩ : ∃ k, mq = 8 * k := ⟨mq / 8, by omega⟩
      obtain ⟨dp, rfl⟩ : ∃ k, dq = 8 * k := ⟨dq / 8, by omega⟩
      obtain ⟨sp, rfl⟩ : ∃ k, sq = 8 * k := ⟨sq / 8, by omega⟩
      rcases hca : ga_hg h (a / 8) with ⟨ka, la, va⟩
      rcases hcb : ga_hg h (b / 8) with ⟨kb, lb, vb⟩
      rw [hca, hcb] at ho
      simp only [ga_if_eq, ga_beq, Bool.and_eq_true, Bool.or_eq_true, Nat.ble_eq, Nat.blt_eq, Nat.mul_div_cancel_left _ (show 0 < 8 by decide)] at ho
      split at ho
      · rename_i hq2
        obtain ⟨⟨hkk, hkind⟩, ⟨hs1, hs2⟩, hb1, hb2, hb3⟩ := hq2
        subst hkk
        rcases hkind with rfl | rfl
        · obtain ⟨vs', c1, c2⟩ := ga_cpy_eq (ga_d 100) va sp dp mm vb (fun vs => ga_hs h (b / 8) (100, lb, vs) (fun h => go nx al t cs ss iv n h))
          rw [c1] at ho
          obtain ⟨h', p3, p4⟩ := ga_hs_at h (b / 8) (100, lb, vs') (fun h => go nx al t cs ss iv n h)
          rw [p3] at ho
          obtain ⟨e1, k⟩ := sd_nx S hcs hO okn hnx ho
          exact gg_cpi hc hra hrb hca hcb hs1 hs2 c2 p4 (by omega) (by omega) (by omega) (fun H locs ls st ad ws q0 q1 A B f g hsz hst hP hD hS hA hB kk => hri H locs ls st ws q0 q1 A B sp dp mm la lb f g hsz (by rw [ga_sr_wd hst]; exact hwd) hb1 hb2 hb3 hs1 hs2 hP hD hS hA hB (fun H1 locs1 a1 a2 a3 => by rw [← e1]; exact kk H1 locs1 a1 a2 a3)) k
        · obtain ⟨vs', c1, c2⟩ := ga_cpy_eq (ga_d 102) va sp dp mm vb (fun vs => ga_hs h (b / 8) (102, lb, vs) (fun h => go nx al t cs ss iv n h))
          rw [c1] at ho
          obtain ⟨h', p3, p4⟩ := ga_hs_at h (b / 8) (102, lb, vs') (fun h => go nx al t cs ss iv n h)
          rw [p3] at ho
          obtain ⟨e1, k⟩ := sd_nx S hcs hO okn hnx ho
          exact gg_cpl hc hra hrb hca hcb hs1 hs2 c2 p4 (by omega) (by omega) (by omega) (fun H locs ls st ad ws q0 q1 A B f g hsz hst hP hD hS hA hB kk => hrl H locs ls st ws q0 q1 A B sp dp mm la lb f g hsz (by rw [ga_sr_wd hst]; exact hwd) hb1 hb2 hb3 hs1 hs2 hP hD hS hA hB (fun H1 locs1 a1 a2 a3 => by rw [← e1]; exact kk H1 locs1 a1 a2 a3)) k
      · cases ho
    · cases ho
  · cases ho
end GX
