theorem ga_d_i {kind : Nat} (hk : kind = 100 ∨ kind = 101 ∨ kind = 104) : ga_d kind = 0 := by rcases hk with rfl | rfl | rfl <;> rfl
section GU
variable {p : Program} {l : Launch} {e : Env} {R : Room} {s : State} {m : MethodId} {args : Array Value} {below : List Frame} {meth : Method} {c : Code} {Q : State → Prop}
variable {ρ : Nat → Int32} {oa : Nat → Nat} {ta : Nat → ClassId} {D : va_G} {n0 nL : Nat} {own : String} {cc : ByteArray} {ini : Bool} {cm sm : Nat} {pc z : Nat} {nx cds code : List ga_E} {al sk : List Nat} {cs ss : Nat} {iv : ga_I} {n : Nat} {h : ga_H} {go : ga_G} {os : List ga_O} {ev : ga_E}
theorem sx_aldi {kind : Nat} (hk : kind = 100 ∨ kind = 101 ∨ kind = 104) (S : ga_Sd p l e R s m args below meth c Q ρ oa ta D n0 nL own cc ini cm sm go) (hcs : cs ≤ cm ∧ ss ≤ sm) (hO : ∀ o ∈ os, ga_GoO p l e R s m args below meth c Q ρ oa ta D n0 nL own cc ini o) (oke : ga_okc own cc ini nL (ev :: nx)) (hnx : nx = [] ∨ ga_pc nx = z) (hc : ga_pc (ev :: nx) = pc)
    (hrow : ∀ (H : Heap) (locs : List Loc) (ls : Array Slot) (st : List Value) (ws : va_W) (q0 a j mm : Nat) (f : Nat → Int32), j < 1048576 → j < mm → va_P D gm_cl ws H → ws[q0]? = some (a, .inl (ta kind, mm, .inl f)) → W p l e R s m args below meth c H locs cs ss Q (F0 m z ls (.int (f j) :: st)) → W p l e R s m args below meth c H locs cs ss Q (F0 m pc ls (.int (nI j) :: .ref a :: st)))
    (ho : ga_ald kind go ev nx al sk cs ss iv n h = some os) : ga_Go p l e R s m args below meth c Q ρ oa ta D n0 nL (ev :: nx) al sk cs ss iv n h := by
  unfold ga_ald at ho
  split at ho
  · rename_i i r t
    refine gg_idx ho (fun h0 o1 g1 g2 => ?_) (fun iv' o1 g1 g2 => S.2 _ _ _ _ _ _ _ _ _ oke hcs g1 (sd_sub hO g2))
    rw [ga_if_eq] at g1
    split at g1
    · rename_i hr
      rcases hcell : ga_hg h (r / 8) with ⟨c1, mm, vs⟩
      rw [hcell] at g1
      simp only [ga_if_eq, ga_beq, Bool.and_eq_true, Nat.blt_eq] at g1
      split at g1
      · rename_i hcd
        obtain ⟨rfl, hj1, hj2⟩ := hcd
        obtain ⟨h7, g1⟩ := ga_p_eq g1
        obtain ⟨e1, k⟩ := sd_nx S hcs (sd_sub hO g2) oke.2.2 hnx g1
        rw [ga_d_i hk, ga_nth_eq] at k
        exact gg_aldi hc h0 rfl hj2 hr hcell hk hj1 rfl (fun H locs ls st ws q0 a f hP he w => hrow H locs ls st ws q0 a _ mm f hj2 hj1 hP he (by rw [← e1]; exact w)) k
      · cases g1
    · cases g1
  · cases ho
theorem sx_aldr (S : ga_Sd p l e R s m args below meth c Q ρ oa ta D n0 nL own cc ini cm sm go) (hcs : cs ≤ cm ∧ ss ≤ sm) (hO : ∀ o ∈ os, ga_GoO p l e R s m args below meth c Q ρ oa ta D n0 nL own cc ini o) (oke : ga_okc own cc ini nL (ev :: nx)) (hnx : nx = [] ∨ ga_pc nx = z) (hc : ga_pc (ev :: nx) = pc)
    (hrow : ∀ (H : Heap) (locs : List Loc) (ls : Array Slot) (st : List Value) (ws : va_W) (q0 a j mm : Nat) (f : Nat → Option Nat), j < 1048576 → j < mm → va_P D gm_cl ws H → ws[q0]? = some (a, .inl (ta 103, mm, .inr (.inr (.inr (.inr f))))) → W p l e R s m args below meth c H locs cs ss Q (F0 m z ls (va_rf (f j) :: st)) → W p l e R s m args below meth c H locs cs ss Q (F0 m pc ls (.int (nI j) :: .ref a :: st)))
    (ho : ga_ald 103 go ev nx al sk cs ss iv n h = some os) : ga_Go p l e R s m args below meth c Q ρ oa ta D n0 nL (ev :: nx) al sk cs ss iv n h := by
  unfold ga_ald at ho
  split at ho
  · rename_i i r t
    refine gg_idx ho (fun h0 o1 g1 g2 => ?_) (fun iv' o1 g1 g2 => S.2 _ _ _ _ _ _ _ _ _ oke hcs g1 (sd_sub hO g2))
    rw [ga_if_eq] at g1
    split at g1
    · rename_i hr
      rcases hcell : ga_hg h (r / 8) with ⟨c1, mm, vs⟩
      rw [hcell] at g1
      simp only [ga_if_eq, ga_beq, Bool.and_eq_true, Nat.blt_eq] at g1
      split at g1
      · rename_i hcd
        obtain ⟨rfl, hj1, hj2⟩ := hcd
        obtain ⟨h7, g1⟩ := ga_p_eq g1
        obtain ⟨e1, k⟩ := sd_nx S hcs (sd_sub hO g2) oke.2.2 hnx g1
        rw [show ga_d 103 = 4 from rfl, ga_nth_eq] at k
        exact gg_aldr hc h0 rfl hj2 hr hcell hj1 rfl (fun H locs ls st ws q0 a f hP he w => hrow H locs ls st ws q0 a _ mm f hj2 hj1 hP he (by rw [← e1]; exact w)) k
      · cases g1
    · cases g1
  · cases ho
theorem sx_asti {kind : Nat} {f : Nat → Nat} (hk : kind = 100 ∨ kind = 101 ∨ kind = 104) (S : ga_Sd p l e R s m args below meth c Q ρ oa ta D n0 nL own cc ini cm sm go) (hcs : cs ≤ cm ∧ ss ≤ sm) (hO : ∀ o ∈ os, ga_GoO p l e R s m args below meth c Q ρ oa ta D n0 nL own cc ini o) (oke : ga_okc own cc ini nL (ev :: nx)) (hnx : nx = [] ∨ ga_pc nx = z) (hc : ga_pc (ev :: nx) = pc)
    (hrow : ∀ (H : Heap) (locs : List Loc) (ls : Array Slot) (st : List Value) (ad : List Nat) (ws : va_W) (q0 a j mm v : Nat) (g : Nat → Int32) (x : Value), j < 1048576 → j < mm → ¬ f v % 8 = 7 → va_P D gm_cl ws H → va_D (fun q => n0 ≤ q) ws → va_S (fun q => n0 ≤ q) s.heap H locs → ws[q0]? = some (a, .inl (ta kind, mm, .inl g)) → ga_vr ρ oa ad v x →
      ∃ y : Int32, ga_vr ρ oa ad (f v) (.int y) ∧ ((∀ (H1 : Heap) (locs1 : List Loc), va_P D gm_cl (ws.set q0 (a, .inl (ta kind, mm, .inl (upd g j y)))) H1 → va_D (fun q => n0 ≤ q) (ws.set q0 (a, .inl (ta kind, mm, .inl (upd g j y)))) → va_S (fun q => n0 ≤ q) s.heap H1 locs1 → W p l e R s m args below meth c H1 locs1 cs ss Q (F0 m z ls st)) → W p l e R s m args below meth c H locs cs ss Q (F0 m pc ls (x :: .int (nI j) :: .ref a :: st))))
    (ho : ga_ast kind f go ev nx al sk cs ss iv n h = some os) : ga_Go p l e R s m args below meth c Q ρ oa ta D n0 nL (ev :: nx) al sk cs ss iv n h := by
  unfold ga_ast at ho
  split at ho
  · rename_i v i r t
    refine gg_idx ho (fun h0 o1 g1 g2 => ?_) (fun iv' o1 g1 g2 => S.2 _ _ _ _ _ _ _ _ _ oke hcs g1 (sd_sub hO g2))
    rw [ga_if_eq] at g1
    split at g1
    · rename_i hr
      rcases hcell : ga_hg h (r / 8) with ⟨c1, mm, vs⟩
      rw [hcell] at g1
      simp only [ga_if_eq, ga_beq, Bool.and_eq_true, Nat.blt_eq] at g1
      split at g1
      · rename_i hcd
        obtain ⟨rfl, hj1, hj2⟩ := hcd
        obtain ⟨h7, g1⟩ := ga_p_eq g1
        rw [ga_d_i hk] at g1
        obtain ⟨vs', p1, p2⟩ := ga_put_eq 0 vs (ga_sm iv i / 8) (f v) (fun vs => ga_hs h (r / 8) (c1, mm, vs) (fun h => go nx al t cs ss iv n h))
        rw [p1] at g1
        obtain ⟨h', p3, p4⟩ := ga_hs_at h (r / 8) (c1, mm, vs') (fun h => go nx al t cs ss iv n h)
        rw [p3] at g1
        obtain ⟨e1, k⟩ := sd_nx S hcs (sd_sub hO g2) oke.2.2 hnx g1
        exact gg_asti hc h0 rfl hr hcell hk hj1 p2 p4 (fun H locs ls st ad ws q0 a g x hP hD hS he hv => by
          obtain ⟨y, y1, y2⟩ := hrow H locs ls st ad ws q0 a _ mm v g x hj2 hj1 h7 hP hD hS he hv
          exact ⟨y, y1, fun kk => y2 (fun H1 locs1 a1 a2 a3 => by rw [← e1]; exact kk H1 locs1 a1 a2 a3)⟩) k
      · cases g1
    · cases g1
  · cases ho
theorem sx_astl (S : ga_Sd p l e R s m args below meth c Q ρ oa ta D n0 nL own cc ini cm sm go) (hcs : cs ≤ cm ∧ ss ≤ sm) (hO : ∀ o ∈ os, ga_GoO p l e R s m args below meth c Q ρ oa ta D n0 nL own cc ini o) (oke : ga_okc own cc ini nL (ev :: nx)) (hnx : nx = [] ∨ ga_pc nx = z) (hc : ga_pc (ev :: nx) = pc)
    (hrow : ∀ (H : Heap) (locs : List Loc) (ls : Array Slot) (st : List Value) (ws : va_W) (q0 a j mm : Nat) (f : Nat → Int64) (x : Int64), j < 1048576 → j < mm → va_P D gm_cl ws H → va_D (fun q => n0 ≤ q) ws → va_S (fun q => n0 ≤ q) s.heap H locs → ws[q0]? = some (a, .inl (ta 102, mm, .inr (.inl f))) →
      (∀ (H1 : Heap) (locs1 : List Loc), va_P D gm_cl (ws.set q0 (a, .inl (ta 102, mm, .inr (.inl (vp_updL f j x))))) H1 → va_D (fun q => n0 ≤ q) (ws.set q0 (a, .inl (ta 102, mm, .inr (.inl (vp_updL f j x))))) → va_S (fun q => n0 ≤ q) s.heap H1 locs1 → W p l e R s m args below meth c H1 locs1 cs ss Q (F0 m z ls st)) → W p l e R s m args below meth c H locs cs ss Q (F0 m pc ls (.long x :: .int (nI j) :: .ref a :: st)))
    (ho : ga_ast 102 ga_fl go ev nx al sk cs ss iv n h = some os) : ga_Go p l e R s m args below meth c Q ρ oa ta D n0 nL (ev :: nx) al sk cs ss iv n h := by
  unfold ga_ast at ho
  split at ho
  · rename_i v i r t
    refine gg_idx ho (fun h0 o1 g1 g2 => ?_) (fun iv' o1 g1 g2 => S.2 _ _ _ _ _ _ _ _ _ oke hcs g1 (sd_sub hO g2))
    rw [ga_if_eq] at g1
    split at g1
    · rename_i hr
      rcases hcell : ga_hg h (r / 8) with ⟨c1, mm, vs⟩
      rw [hcell] at g1
      simp only [ga_if_eq, ga_beq, Bool.and_eq_true, Nat.blt_eq] at g1
      split at g1
      · rename_i hcd
        obtain ⟨rfl, hj1, hj2⟩ := hcd
        obtain ⟨h7, g1⟩ := ga_p_eq g1
        have h5 : v % 8 = 5 ∧ ga_fl v = v := by
          unfold ga_fl at h7 ⊢
          simp only [ga_if_eq, ga_lng, ga_beq] at h7 ⊢
          split at h7
          · rename_i q; exact ⟨q, if_pos q⟩
          · exact absurd rfl h7
        rw [h5.2, show ga_d 102 = 5 from rfl] at g1
        obtain ⟨vs', p1, p2⟩ := ga_put_eq 5 vs (ga_sm iv i / 8) v (fun vs => ga_hs h (r / 8) (102, mm, vs) (fun h => go nx al t cs ss iv n h))
        rw [p1] at g1
        obtain ⟨h', p3, p4⟩ := ga_hs_at h (r / 8) (102, mm, vs') (fun h => go nx al t cs ss iv n h)
        rw [p3] at g1
        obtain ⟨e1, k⟩ := sd_nx S hcs (sd_sub hO g2) oke.2.2 hnx g1
        exact gg_astl hc h0 rfl hr hcell hj1 h5.1 p2 p4 (fun H locs ls st ws q0 a f x hP hD hS he kk => hrow H locs ls st ws q0 a _ mm f x hj2 hj1 hP hD hS he (fun H1 locs1 a1 a2 a3 => by rw [← e1]; exact kk H1 locs1 a1 a2 a3)) k
      · cases g1
    · cases g1
  · cases ho
theorem sx_astr {ci : Nat} (hci : ci < 100) (S : ga_Sd p l e R s m args below meth c Q ρ oa ta D n0 nL own cc ini cm sm go) (hcs : cs ≤ cm ∧ ss ≤ sm) (hO : ∀ o ∈ os, ga_GoO p l e R s m args below meth c Q ρ oa ta D n0 nL own cc ini o) (oke : ga_okc own cc ini nL (ev :: nx)) (hnx : nx = [] ∨ ga_pc nx = z) (hc : ga_pc (ev :: nx) = pc)
    (hrow : ∀ (H : Heap) (locs : List Loc) (ls : Array Slot) (st : List Value) (ws : va_W) (q0 qk a x j mm : Nat) (f : Nat → Option Nat) (fs : List Value), j < 1048576 → j < mm → va_P D gm_cl ws H → va_D (fun q => n0 ≤ q) ws → va_S (fun q => n0 ≤ q) s.heap H locs → ws[q0]? = some (a, .inl (ta 103, mm, .inr (.inr (.inr (.inr f))))) → ws[qk]? = some (x, .inr (ci, fs)) →
      (∀ (H1 : Heap) (locs1 : List Loc), va_P D gm_cl (ws.set q0 (a, .inl (ta 103, mm, .inr (.inr (.inr (.inr (va_up f j (some x)))))))) H1 → va_D (fun q => n0 ≤ q) (ws.set q0 (a, .inl (ta 103, mm, .inr (.inr (.inr (.inr (va_up f j (some x)))))))) → va_S (fun q => n0 ≤ q) s.heap H1 locs1 → W p l e R s m args below meth c H1 locs1 cs ss Q (F0 m z ls st)) → W p l e R s m args below meth c H locs cs ss Q (F0 m pc ls (.ref x :: .int (nI j) :: .ref a :: st)))
    (ho : ga_ast 103 (ga_fr ci h) go ev nx al sk cs ss iv n h = some os) : ga_Go p l e R s m args below meth c Q ρ oa ta D n0 nL (ev :: nx) al sk cs ss iv n h := by
  unfold ga_ast at ho
  split at ho
  · rename_i v i r t
    refine gg_idx ho (fun h0 o1 g1 g2 => ?_) (fun iv' o1 g1 g2 => S.2 _ _ _ _ _ _ _ _ _ oke hcs g1 (sd_sub hO g2))
    rw [ga_if_eq] at g1
    split at g1
    · rename_i hr
      rcases hcell : ga_hg h (r / 8) with ⟨c1, mm, vs⟩
      rw [hcell] at g1
      simp only [ga_if_eq, ga_beq, Bool.and_eq_true, Nat.blt_eq] at g1
      split at g1
      · rename_i hcd
        obtain ⟨rfl, hj1, hj2⟩ := hcd
        obtain ⟨h7, g1⟩ := ga_p_eq g1
        have h5 : ga_ref v = true ∧ (ga_hg h (v / 8)).1 = ci ∧ ga_fr ci h v = v := by
          unfold ga_fr at h7 ⊢
          simp only [ga_if_eq, ga_beq] at h7 ⊢
          split at h7
          · rename_i q1
            split at h7
            · rename_i q2; exact ⟨q1, q2, by rw [if_pos q1, if_pos q2]⟩
            · exact absurd rfl h7
          · exact absurd rfl h7
        rw [h5.2.2, show ga_d 103 = 4 from rfl] at g1
        obtain ⟨vs', p1, p2⟩ := ga_put_eq 4 vs (ga_sm iv i / 8) v (fun vs => ga_hs h (r / 8) (103, mm, vs) (fun h => go nx al t cs ss iv n h))
        rw [p1] at g1
        obtain ⟨h', p3, p4⟩ := ga_hs_at h (r / 8) (103, mm, vs') (fun h => go nx al t cs ss iv n h)
        rw [p3] at g1
        obtain ⟨e1, k⟩ := sd_nx S hcs (sd_sub hO g2) oke.2.2 hnx g1
        exact gg_astr hc h0 rfl hr hcell hj1 h5.1 h5.2.1 hci p2 p4 (fun H locs ls st ws q0 qk a x f fs hP hD hS he hev kk => hrow H locs ls st ws q0 qk a x _ mm f fs hj2 hj1 hP hD hS he hev (fun H1 locs1 a1 a2 a3 => by rw [← e1]; exact kk H1 locs1 a1 a2 a3)) k
      · cases g1
    · cases g1
  · cases ho
/-- a new cell -/
theorem sx_new {cK mm sz : Nat} {vs sk' : List Nat} (S : ga_Sd p l e R s m args below meth c Q ρ oa ta D n0 nL own cc ini cm sm go) (hO : ∀ o ∈ os, ga_GoO p l e R s m args below meth c Q ρ oa ta D n0 nL own cc ini o) (okn : ga_okc own cc ini nL nx) (hnx : nx = [] ∨ ga_pc nx = z) (hc : ga_pc cds = pc)
    (hrow : ∀ (H : Heap) (locs : List Loc) (ls : Array Slot) (st : List Value) (ad : List Nat) (ws : va_W), cs + 1 ≤ cm → ss + sz ≤ sm → va_P D gm_cl ws H → va_D (fun q => n0 ≤ q) ws → va_S (fun q => n0 ≤ q) s.heap H locs → ga_in ρ iv → ga_sr ρ oa ad sk st →
      ∃ (ev : va_E) (st' : List Value), (∀ q, ga_cr ρ oa ta (ad ++ [q]) (cK, mm, vs) ev) ∧ ga_sr ρ oa ad sk' st' ∧ ((∀ (q : Nat) (H1 : Heap), va_P D gm_cl (ws ++ [(q, ev)]) H1 → va_D (fun q => n0 ≤ q) (ws ++ [(q, ev)]) → va_S (fun q => n0 ≤ q) s.heap H1 locs → W p l e R s m args below meth c H1 locs (cs + 1) (ss + sz) Q (F0 m z ls (.ref q :: st'))) → W p l e R s m args below meth c H locs cs ss Q (F0 m pc ls st)))
    (ho : ga_new cK mm vs sz cm sm go nx al sk' cs ss iv n h = some os) : ga_Go p l e R s m args below meth c Q ρ oa ta D n0 nL cds al sk cs ss iv n h := by
  unfold ga_new at ho
  simp only [ga_f_eq, ga_if_eq, Bool.and_eq_true, Nat.ble_eq] at ho
  split at ho
  · rename_i hb
    obtain ⟨h', p3, p4⟩ := ga_hs_at h n (cK, mm, vs) (fun h => go nx al ((8 * n + 3) :: sk') (cs + 1) (ss + sz) iv (n + 1) h)
    have ho2 : ga_hs h n (cK, mm, vs) (fun h => go nx al ((8 * n + 3) :: sk') (cs + 1) (ss + sz) iv (n + 1) h) = some os := ho
    rw [p3] at ho2
    obtain ⟨e1, k⟩ := sd_nx S hb hO okn hnx ho2
    exact gg_new hc p4 (fun H locs ls st ad ws hP hD hS hi hs => by
      obtain ⟨ev, st', g1, g2, g3⟩ := hrow H locs ls st ad ws hb.1 hb.2 hP hD hS hi hs
      exact ⟨ev, st', g1, g2, fun kk => g3 (fun q H1 a1 a2 a3 => by rw [← e1]; exact kk q H1 a1 a2 a3)⟩) k
  · cases ho
end GU
