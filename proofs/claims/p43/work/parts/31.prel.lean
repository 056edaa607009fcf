/-! what the plain machine's words say of a state of the JVM -/
def gp_vr (oa : Nat → Nat) (ad : List Nat) (v : gp_V) (x : Value) : Prop := match v with
  | .inl z => ∃ X : Int32, X.toInt = z ∧ x = .int X
  | .inr c => (c % 8 = 3 ∧ ∃ a, ad[c / 8]? = some a ∧ x = .ref a) ∨ (c % 8 = 5 ∧ c / 8 < 18446744073709551616 ∧ x = .long (lN (c / 8))) ∨ (c % 8 = 6 ∧ x = .ref (oa (c / 8)))
def gp_sr (oa : Nat → Nat) (ad : List Nat) : List gp_V → List Value → Prop
  | [], [] => True
  | v :: r, x :: t => gp_vr oa ad v x ∧ gp_sr oa ad r t
  | _, _ => False
def gp_lr (oa : Nat → Nat) (ad : List Nat) (nL : Nat) (al : List gp_V) (ls : Array Slot) : Prop :=
  ls.size = nL ∧ lv_wf ls ∧ al.length = nL ∧ ∀ (i : Nat) (v : gp_V), al[i]? = some v → ¬ v = .inr 7 → ∃ x, gp_vr oa ad v x ∧ ls[i]? = some (.val x)
/-- what a place of a cell holds -/
def gp_sl (e : va_E) (j : Nat) : Option Value := match e with
  | .inr (_, fs) => fs[j]?
  | .inl (_, n, .inl f) => if j < n then some (.int (f j)) else none
  | .inl (_, n, .inr (.inl f)) => if j < n then some (.long (f j)) else none
  | .inl (_, n, .inr (.inr (.inr (.inr f)))) => if j < n then some (va_rf (f j)) else none
  | _ => none
def gp_shp (ta : Nat → ClassId) (t : gp_T) (e : va_E) : Prop :=
  (t.1 < 100 ∧ ∃ fs : List Value, e = .inr (t.1, fs) ∧ fs.length = t.2.1) ∨
  ((t.1 = 100 ∨ t.1 = 101 ∨ t.1 = 104) ∧ ∃ f : Nat → Int32, e = .inl (ta t.1, t.2.1, .inl f)) ∨
  (t.1 = 102 ∧ ∃ f : Nat → Int64, e = .inl (ta t.1, t.2.1, .inr (.inl f))) ∨
  (t.1 = 103 ∧ ∃ f : Nat → Option Nat, e = .inl (ta t.1, t.2.1, .inr (.inr (.inr (.inr f)))))
def gp_ct (oa : Nat → Nat) (ta : Nat → ClassId) (ad : List Nat) (t : gp_T) (f : Nat → Int) (e : va_E) : Prop :=
  gp_shp ta t e ∧ ∀ j, j < t.2.1 → ∃ x, gp_sl e j = some x ∧ gp_vr oa ad (gp_rv (t.2.2.2.getD j t.2.2.1) (f j)) x
def gp_Wr (oa : Nat → Nat) (ta : Nat → ClassId) (D : va_G) (n0 : Nat) (ad : List Nat) (sh : Nat → gp_T) (σ : gp_S) (ws : va_W) (H : Heap) : Prop :=
  va_P D gm_cl ws H ∧ va_D (fun q => n0 ≤ q) ws ∧ ws.map Prod.fst = ad ∧ ∀ k, ¬ (sh k).1 = 999 → ∃ (a : Nat) (e : va_E), ws[k]? = some (a, e) ∧ gp_ct oa ta ad (sh k) (σ k) e
def gp_At (oa : Nat → Nat) (ta : Nat → ClassId) (D : va_G) (n0 nL : Nat) (ad : List Nat) (sh : Nat → gp_T) (s : State) (al sk : List gp_V) (σ : gp_S) (H : Heap) (locs : List Loc) (ls : Array Slot) (st : List Value) : Prop :=
  va_S (fun q => n0 ≤ q) s.heap H locs ∧ ∃ ws : va_W, gp_Wr oa ta D n0 ad sh σ ws H ∧ gp_lr oa ad nL al ls ∧ gp_sr oa ad sk st
def gp_Go (p : Program) (l : Launch) (e : Env) (R : Room) (s : State) (m : MethodId) (args : Array Value) (below : List Frame) (meth : Method) (c : Code) (Q : State → Prop) (oa : Nat → Nat) (ta : Nat → ClassId) (D : va_G) (n0 nL : Nat) (ad : List Nat) (sh : Nat → gp_T) (nc ns : Nat) : gp_G := fun pc al sk σ =>
  ∀ (H : Heap) (locs : List Loc) (ls : Array Slot) (st : List Value), gp_At oa ta D n0 nL ad sh s al sk σ H locs ls st → W p l e R s m args below meth c H locs nc ns Q (F0 m pc ls st)
theorem gp_b2_i (g : Int32 → Int32 → Int32) (X Y : Int32) : gp_b2 g X.toInt Y.toInt = (g X Y).toInt := by
  unfold gp_b2
  rw [Int32.ofInt_toInt, Int32.ofInt_toInt]
theorem gp_b1_i (g : Int32 → Int32) (X : Int32) : gp_b1 g X.toInt = (g X).toInt := by
  unfold gp_b1
  rw [Int32.ofInt_toInt]
theorem gp_li_i {a : Nat} (h : a / 8 < 4294967296) : gp_li a = (nI (a / 8)).toInt := by
  unfold gp_li nI
  rw [Int32.toInt_ofNat']
  simp only [Int.bmod, Int32.size]
  split <;> split <;> omega
theorem gp_idx {I : Int32} {n : Nat} (h0 : 0 ≤ I.toInt) (h1 : I.toInt.toNat < n) : vp_in I n ∧ I.toNatClampNeg = I.toInt.toNat := by
  have e : I.toNatClampNeg = I.toInt.toNat := rfl
  refine ⟨?_, e⟩
  unfold vp_in
  rw [e]
  rintro (q | q)
  · rw [Int32.lt_iff_toInt_lt] at q
    have z : (0 : Int32).toInt = 0 := rfl
    omega
  · omega
section PV
variable {oa : Nat → Nat} {ad : List Nat}
theorem gp_vr_i {z : Int} {x : Value} (h : gp_vr oa ad (.inl z) x) : ∃ X : Int32, X.toInt = z ∧ x = .int X := h
theorem gp_vr_r {c : Nat} {x : Value} (h3 : c % 8 = 3) (h : gp_vr oa ad (.inr c) x) : ∃ a, ad[c / 8]? = some a ∧ x = .ref a := by
  rcases h with ⟨-, h⟩ | ⟨h, -⟩ | ⟨h, -⟩
  · exact h
  · omega
  · omega
theorem gp_vr_l {c : Nat} {x : Value} (h5 : c % 8 = 5) (h : gp_vr oa ad (.inr c) x) : c / 8 < 18446744073709551616 ∧ x = .long (lN (c / 8)) := by
  rcases h with ⟨h, -⟩ | ⟨-, h⟩ | ⟨h, -⟩
  · omega
  · exact h
  · omega
theorem gp_lN (y : Int64) : y.toBitVec.toNat < 18446744073709551616 ∧ y = lN y.toBitVec.toNat := by
  refine ⟨y.toBitVec.isLt, ?_⟩
  apply Int64.toBitVec_inj.mp
  show y.toBitVec = BitVec.ofNat 64 y.toBitVec.toNat
  exact (BitVec.ofNat_toNat 64 y.toBitVec).symm ▸ rfl
theorem gp_vl {L : Nat} (h : L < 18446744073709551616) : gp_vr oa ad (.inr (8 * L + 5)) (.long (lN L)) := by
  refine Or.inr (Or.inl ⟨by omega, by omega, ?_⟩)
  rw [show (8 * L + 5) / 8 = L by omega]
theorem gp_vr_adr {v : gp_V} {x : Value} (hv : gp_adr v = true) (h : gp_vr oa ad v x) : ∃ a, x = .ref a := by
  cases v with
  | inl z => cases hv
  | inr c =>
    rcases h with ⟨-, a, -, h⟩ | ⟨h5, -⟩ | ⟨-, h⟩
    · exact ⟨a, h⟩
    · have hv2 : ga_adr c = true := hv
      unfold ga_adr at hv2
      simp only [Bool.or_eq_true, ga_beq] at hv2
      omega
    · exact ⟨_, h⟩
theorem gp_vr_int {v : gp_V} {x : Value} (hv : gp_int v = true) (h : gp_vr oa ad v x) : ∃ X : Int32, x = .int X ∧ v = .inl X.toInt := by
  cases v with
  | inl z => obtain ⟨X, h1, h2⟩ := h; exact ⟨X, h2, by rw [h1]⟩
  | inr c => cases hv
theorem gp_lng_eq {v : gp_V} (hv : gp_lng v = true) : ∃ c, v = .inr c ∧ c % 8 = 5 := by
  cases v with
  | inl z => cases hv
  | inr c => exact ⟨c, rfl, Nat.eq_of_beq_eq_true (show Nat.beq (c % 8) 5 = true from hv)⟩
theorem gp_lng_of {c : Nat} (h : c % 8 = 5) : gp_lng (.inr c) = true := ga_beq.mpr h
theorem gp_lng_no {c : Nat} (h : ¬ c % 8 = 5) : ¬ gp_lng (.inr c) = true := fun q => h (Nat.eq_of_beq_eq_true (show Nat.beq (c % 8) 5 = true from q))
theorem gp_vr_cat {v : gp_V} {x : Value} (h : gp_vr oa ad v x) : x.category = if gp_lng v = true then 2 else 1 := by
  cases v with
  | inl z => obtain ⟨X, -, rfl⟩ := h; rfl
  | inr c =>
    rcases h with ⟨h3, a, -, rfl⟩ | ⟨h5, -, rfl⟩ | ⟨h6, rfl⟩
    · rw [if_neg (gp_lng_no (by omega))]; rfl
    · rw [if_pos (gp_lng_of h5)]; rfl
    · rw [if_neg (gp_lng_no (by omega))]; rfl
theorem gp_one1 {v : gp_V} {x : Value} (hv : gp_one v = true) (h : gp_vr oa ad v x) : x.category = 1 := by
  rw [gp_vr_cat h]
  cases v with
  | inl z => rfl
  | inr c =>
    have hv2 : ga_adr c = true := hv
    unfold ga_adr at hv2
    simp only [Bool.or_eq_true, ga_beq] at hv2
    rw [if_neg (gp_lng_no (by omega))]
theorem gp_sr_cons {v : gp_V} {r : List gp_V} {st : List Value} (h : gp_sr oa ad (v :: r) st) : ∃ x t, st = x :: t ∧ gp_vr oa ad v x ∧ gp_sr oa ad r t := by
  cases st with
  | nil => exact h.elim
  | cons x t => exact ⟨x, t, rfl, h.1, h.2⟩
theorem gp_sr_nil {st : List Value} (h : gp_sr oa ad [] st) : st = [] := by
  cases st with
  | nil => rfl
  | cons x t => exact h.elim
theorem gp_sr_wd : ∀ {sk : List gp_V} {st : List Value}, gp_sr oa ad sk st → (st.map fun v => v.category).sum = gp_wd sk
  | [], [], _ => rfl
  | v :: r, x :: t, hs => by
    have h1 := gp_vr_cat hs.1
    have h2 := gp_sr_wd hs.2
    rw [List.map_cons, List.sum_cons, h1, h2]
    rfl
  | [], _ :: _, hs => hs.elim
  | _ :: _, [], hs => hs.elim
theorem gp_sr_app : ∀ {a b : List gp_V} {st : List Value}, gp_sr oa ad (a ++ b) st → ∃ x y, st = x ++ y ∧ gp_sr oa ad a x ∧ gp_sr oa ad b y
  | [], b, st, h => ⟨[], st, rfl, trivial, h⟩
  | v :: r, b, [], h => h.elim
  | v :: r, b, z :: st, h => by
    obtain ⟨x, y, h1, h2, h3⟩ := gp_sr_app h.2
    exact ⟨z :: x, y, by rw [h1]; rfl, ⟨h.1, h2⟩, h3⟩
theorem gp_sr_join : ∀ {a b : List gp_V} {x y : List Value}, gp_sr oa ad a x → gp_sr oa ad b y → gp_sr oa ad (a ++ b) (x ++ y)
  | [], b, [], y, _, h2 => h2
  | _ :: _, b, _ :: _, y, h1, h2 => ⟨h1.1, gp_sr_join h1.2 h2⟩
  | [], b, _ :: _, y, h1, _ => h1.elim
  | _ :: _, b, [], y, h1, _ => h1.elim
theorem gp_sr_rev : ∀ {a : List gp_V} {x : List Value}, gp_sr oa ad a x → gp_sr oa ad a.reverse x.reverse
  | [], [], _ => trivial
  | v :: r, z :: t, h => by
    rw [List.reverse_cons, List.reverse_cons]
    exact gp_sr_join (gp_sr_rev h.2) ⟨h.1, trivial⟩
  | [], _ :: _, h => h.elim
  | _ :: _, [], h => h.elim
theorem gp_sr_len : ∀ {a : List gp_V} {x : List Value}, gp_sr oa ad a x → a.length = x.length
  | [], [], _ => rfl
  | _ :: _, _ :: _, h => by rw [List.length_cons, List.length_cons, gp_sr_len h.2]
  | [], _ :: _, h => h.elim
  | _ :: _, [], h => h.elim
theorem gp_ah_ok {al : List gp_V} {j i : Nat} {w : gp_V} {y : Value} (ha : gp_ah al i) (hi : j + 1 = i) (hj : al[j]? = some w) (hy : gp_vr oa ad w y) : y.category = 1 := by
  subst hi
  have h1 : ∀ c, al[j]? = some (.inr c) → ¬ c % 8 = 5 := ha
  have h5 : ¬ gp_lng w = true := fun q => by
    obtain ⟨c, rfl, hc⟩ := gp_lng_eq q
    exact h1 c hj hc
  rw [gp_vr_cat hy, if_neg h5]
theorem gp_lr_set {nL : Nat} {al : List gp_V} {ls ls' : Array Slot} {i : Nat} {v : gp_V} {x : Value} (hl : gp_lr oa ad nL al ls) (ha : gp_ah al i) (hv : gp_vr oa ad v x)
    (hh : lv_has ls' nL ((i, x) :: (ga_hl ls).filter (fun q => !(q.1 == i) && !(q.1 + 1 == i && q.2.category == 2)))) : gp_lr oa ad nL (al.set i v) ls' := by
  refine ⟨hh.1, hh.2.1, by rw [List.length_set]; exact hl.2.2.1, fun j w hj h7 => ?_⟩
  rcases ga_getset hj with ⟨rfl, rfl⟩ | ⟨hne, hj2⟩
  · exact ⟨x, hv, hh.2.2 (_, x) List.mem_cons_self⟩
  · obtain ⟨y, g1, g2⟩ := hl.2.2.2 j w hj2 h7
    refine ⟨y, g1, hh.2.2 (j, y) (List.mem_cons_of_mem _ (List.mem_filter.mpr ⟨ga_hl_mem.mpr g2, ?_⟩))⟩
    simp only [Bool.and_eq_true, Bool.not_eq_true', beq_eq_false_iff_ne, ne_eq, Bool.and_eq_false_iff]
    refine ⟨hne, ?_⟩
    by_cases hi : j + 1 = i
    · right
      rw [gp_ah_ok ha hi hj2 g1]
      decide
    · exact Or.inl hi
theorem gp_lr_set2 {nL : Nat} {al : List gp_V} {ls ls' : Array Slot} {i : Nat} {v : gp_V} {x : Value} (hl : gp_lr oa ad nL al ls) (ha : gp_ah al i) (hv : gp_vr oa ad v x)
    (hh : lv_has ls' nL ((i, x) :: (ga_hl ls).filter (fun q => !(q.1 == i) && (!(q.1 == i + 1) && !(q.1 + 1 == i && q.2.category == 2))))) : gp_lr oa ad nL ((al.set i v).set (i + 1) (.inr 7)) ls' := by
  refine ⟨hh.1, hh.2.1, by rw [List.length_set, List.length_set]; exact hl.2.2.1, fun j w hj h7 => ?_⟩
  rcases ga_getset hj with ⟨rfl, rfl⟩ | ⟨hne2, hj1⟩
  · exact absurd rfl h7
  · rcases ga_getset hj1 with ⟨rfl, rfl⟩ | ⟨hne, hj2⟩
    · exact ⟨x, hv, hh.2.2 (_, x) List.mem_cons_self⟩
    · obtain ⟨y, g1, g2⟩ := hl.2.2.2 j w hj2 h7
      refine ⟨y, g1, hh.2.2 (j, y) (List.mem_cons_of_mem _ (List.mem_filter.mpr ⟨ga_hl_mem.mpr g2, ?_⟩))⟩
      simp only [Bool.and_eq_true, Bool.not_eq_true', beq_eq_false_iff_ne, ne_eq, Bool.and_eq_false_iff]
      refine ⟨hne, hne2, ?_⟩
      by_cases hi : j + 1 = i
      · right
        rw [gp_ah_ok ha hi hj2 g1]
        decide
      · exact Or.inl hi
end PV
theorem gp_get_lt {α : Type} {l : List α} {i : Nat} {y : α} (h : l[i]? = some y) : i < l.length := by
  rcases Nat.lt_or_ge i l.length with q | q
  · exact q
  · rw [List.getElem?_eq_none q] at h; cases h
section PW
variable {oa : Nat → Nat} {ta : Nat → ClassId} {D : va_G} {n0 : Nat} {ad : List Nat} {sh : Nat → gp_T} {σ : gp_S} {ws : va_W} {H H1 : Heap}
theorem gp_Wr_at {c : Nat} {x : Value} (hw : gp_Wr oa ta D n0 ad sh σ ws H) (h3 : c % 8 = 3) (hv : gp_vr oa ad (.inr c) x) (h9 : ¬ (sh (c / 8)).1 = 999) : ∃ (a : Nat) (e : va_E), x = .ref a ∧ ws[c / 8]? = some (a, e) ∧ gp_ct oa ta ad (sh (c / 8)) (σ (c / 8)) e := by
  obtain ⟨a, h1, rfl⟩ := gp_vr_r h3 hv
  obtain ⟨a2, e, h4, h5⟩ := hw.2.2.2 _ h9
  rw [← hw.2.2.1, List.getElem?_map, h4] at h1
  cases h1
  exact ⟨_, e, rfl, h4, h5⟩
theorem gp_rd_ok {c j : Nat} {e : va_E} (hct : gp_ct oa ta ad (sh c) (σ c) e) (hj : j < (sh c).2.1) : ∃ x, gp_sl e j = some x ∧ gp_vr oa ad (gp_rd sh σ c j) x := hct.2 j hj
theorem gp_Wr_set {c a : Nat} {e e' : va_E} {σ' : gp_S} (hw : gp_Wr oa ta D n0 ad sh σ ws H) (he : ws[c]? = some (a, e)) (hσ : ∀ k, ¬ k = c → ∀ j, σ' k j = σ k j) (hP1 : va_P D gm_cl (ws.set c (a, e')) H1) (hD1 : va_D (fun q => n0 ≤ q) (ws.set c (a, e'))) (hct : gp_ct oa ta ad (sh c) (σ' c) e') : gp_Wr oa ta D n0 ad sh σ' (ws.set c (a, e')) H1 := by
  refine ⟨hP1, hD1, ?_, fun k hk => ?_⟩
  · rw [List.map_set, hw.2.2.1]
    exact ga_set_self (by rw [← hw.2.2.1, List.getElem?_map, he]; rfl)
  · by_cases hj : k = c
    · subst hj
      exact ⟨a, e', by rw [List.getElem?_set, if_pos rfl, if_pos (gp_get_lt he)], hct⟩
    · obtain ⟨a2, e2, g1, g2⟩ := hw.2.2.2 k hk
      refine ⟨a2, e2, by rw [List.getElem?_set, if_neg (fun q => hj q.symm)]; exact g1, ?_⟩
      have : σ' k = σ k := funext (hσ k hj)
      rw [this]
      exact g2
/-- a cell of which one place has changed -/
theorem gp_ct_set {c j : Nat} {e e' : va_E} {x : Value} {z : Int} (h : gp_ct oa ta ad (sh c) (σ c) e) (hsh : gp_shp ta (sh c) e') (hs : ∀ i, gp_sl e' i = if i = j then some x else gp_sl e i) (hpk : gp_pk sh c j = 0) (hx : gp_vr oa ad (.inl z) x) : gp_ct oa ta ad (sh c) (gp_up σ c j z c) e' := by
  refine ⟨hsh, fun i hi => ?_⟩
  rw [hs]
  by_cases hj : i = j
  · subst hj
    refine ⟨x, if_pos rfl, ?_⟩
    have e1 : (sh c).2.2.2.getD i (sh c).2.2.1 = 0 := hpk
    rw [e1]
    have : gp_up σ c i z c i = z := by unfold gp_up; rw [if_pos ⟨rfl, rfl⟩]
    rw [this]
    show gp_vr oa ad (.inl z) x
    exact hx
  · rw [if_neg hj]
    obtain ⟨y, g1, g2⟩ := h.2 i hi
    refine ⟨y, g1, ?_⟩
    have : gp_up σ c j z c i = σ c i := by unfold gp_up; rw [if_neg (fun q => hj q.2)]
    rw [this]
    exact g2
/-- one whose changed place holds a long -/
theorem gp_ct_setl {c j L : Nat} {e e' : va_E} (h : gp_ct oa ta ad (sh c) (σ c) e) (hsh : gp_shp ta (sh c) e') (hL : L < 18446744073709551616) (hs : ∀ i, gp_sl e' i = if i = j then some (.long (lN L)) else gp_sl e i) (hpk : gp_pk sh c j = 5) : gp_ct oa ta ad (sh c) (gp_up σ c j (L : Int) c) e' := by
  refine ⟨hsh, fun i hi => ?_⟩
  rw [hs]
  by_cases hj : i = j
  · subst hj
    refine ⟨.long (lN L), if_pos rfl, ?_⟩
    have e1 : (sh c).2.2.2.getD i (sh c).2.2.1 = 5 := hpk
    rw [e1]
    have : gp_up σ c i (L : Int) c i = (L : Int) := by unfold gp_up; rw [if_pos ⟨rfl, rfl⟩]
    rw [this]
    show gp_vr oa ad (.inr (8 * (L : Int).toNat + 5)) _
    rw [Int.toNat_natCast]
    exact gp_vl hL
  · rw [if_neg hj]
    obtain ⟨y, g1, g2⟩ := h.2 i hi
    refine ⟨y, g1, ?_⟩
    have : gp_up σ c j (L : Int) c i = σ c i := by unfold gp_up; rw [if_neg (fun q => hj q.2)]
    rw [this]
    exact g2
theorem gp_up_ne {c j k i : Nat} {z : Int} (h : ¬ k = c) : gp_up σ c j z k i = σ k i := by unfold gp_up; rw [if_neg (fun q => h q.1)]
end PW
