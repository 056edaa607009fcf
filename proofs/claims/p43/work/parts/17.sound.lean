/-! one step of the machine is a step of the JVM -/
/-- what was there before: the script, the nest words, the array class of tables, the one text -/
def ga_tx : String := "guest takes slow feud boat heat across cools leans draw or and not left minute seat guests "
def ga_by : List Int32 := gm_tx.map nI
def ga_old (ρ : Nat → Int32) (oa : Nat → Nat) (n0 L : Nat) (U : State) : Prop :=
  oa 0 < n0 ∧ va_X (oa 0) L ρ U U.heap ∧ (∀ w ∈ gw_nest, va_Nw w U) ∧ va_AO "GravyRound$Table" U ∧ vk_R "GravyRound$Tokens" 20 ga_tx (oa 1) U ∧ vk_S 1 [91] [ga_by] (fun _ => oa 1) (fun _ => oa 2) (fun q => n0 ≤ q) U U.heap ∧ va_Z "java/lang/String" "COMPACT_STRINGS" "Z" (.int 1) (fun q => n0 ≤ q) U U.heap ∧ va_Zq "jdk/internal/util/Preconditions" "SIOOBE_FORMATTER" "Ljava/util/function/BiFunction;" (fun q => n0 ≤ q) U U.heap
def ga_GoO (p : Program) (l : Launch) (e : Env) (R : Room) (s : State) (m : MethodId) (args : Array Value) (below : List Frame) (meth : Method) (c : Code) (Q : State → Prop) (ρ : Nat → Int32) (oa : Nat → Nat) (ta : Nat → ClassId) (D : va_G) (n0 nL : Nat) (own : String) (cc : ByteArray) (ini : Bool) (o : ga_O) : Prop :=
  ga_okc own cc ini nL o.1 → ga_Go p l e R s m args below meth c Q ρ oa ta D n0 nL o.1 o.2.1 o.2.2.1 o.2.2.2.1 o.2.2.2.2.1 o.2.2.2.2.2.1 o.2.2.2.2.2.2.1 o.2.2.2.2.2.2.2
def ga_Sd (p : Program) (l : Launch) (e : Env) (R : Room) (s : State) (m : MethodId) (args : Array Value) (below : List Frame) (meth : Method) (c : Code) (Q : State → Prop) (ρ : Nat → Int32) (oa : Nat → Nat) (ta : Nat → ClassId) (D : va_G) (n0 nL : Nat) (own : String) (cc : ByteArray) (ini : Bool) (cm sm : Nat) (go : ga_G) : Prop :=
  (∀ al sk cs ss iv n h os, ¬ go [] al sk cs ss iv n h = some os) ∧ ∀ cds al sk cs ss iv n h os, ga_okc own cc ini nL cds → cs ≤ cm ∧ ss ≤ sm → go cds al sk cs ss iv n h = some os → (∀ o ∈ os, ga_GoO p l e R s m args below meth c Q ρ oa ta D n0 nL own cc ini o) → ga_Go p l e R s m args below meth c Q ρ oa ta D n0 nL cds al sk cs ss iv n h
/-- the ways told the other way round -/
theorem sx_flip (o : List (Bool × ga_I)) (kt kf : ga_I → Option (List ga_O)) : ga_br (o.map (fun q => (!q.1, q.2))) kt kf = ga_br o kf kt := by
  unfold ga_br
  induction o with
  | nil => rfl
  | cons x r ih =>
    have hx : ga_if (!x.1) (kt x.2) (kf x.2) = ga_if x.1 (kf x.2) (kt x.2) := by cases x.1 <;> rfl
    cases r with
    | nil => exact hx
    | cons y t =>
      show ga_cat (ga_if (!x.1) (kt x.2) (kf x.2)) (ga_all ((y :: t).map (fun q => (!q.1, q.2))) (fun q => ga_if q.1 (kt q.2) (kf q.2))) = ga_cat (ga_if x.1 (kf x.2) (kt x.2)) (ga_all (y :: t) (fun q => ga_if q.1 (kf q.2) (kt q.2)))
      rw [hx, ih]
section GS
variable {p : Program} {l : Launch} {e : Env} {R : Room} {s : State} {m : MethodId} {args : Array Value} {below : List Frame} {meth : Method} {c : Code} {Q : State → Prop}
variable {ρ : Nat → Int32} {oa : Nat → Nat} {ta : Nat → ClassId} {D : va_G} {n0 nL : Nat} {own : String} {cc : ByteArray} {ini : Bool} {cm sm : Nat} {pc z : Nat} {nx cds code : List ga_E} {al sk : List Nat} {cs ss : Nat} {iv : ga_I} {n : Nat} {h : ga_H} {go : ga_G} {os : List ga_O}
theorem sd_nx (S : ga_Sd p l e R s m args below meth c Q ρ oa ta D n0 nL own cc ini cm sm go) (hcs : cs ≤ cm ∧ ss ≤ sm) (hO : ∀ o ∈ os, ga_GoO p l e R s m args below meth c Q ρ oa ta D n0 nL own cc ini o) (okn : ga_okc own cc ini nL nx) (hnx : nx = [] ∨ ga_pc nx = z) (hg : go nx al sk cs ss iv n h = some os) : ga_pc nx = z ∧ ga_Go p l e R s m args below meth c Q ρ oa ta D n0 nL nx al sk cs ss iv n h := by
  rcases hnx with rfl | hnx
  · exact absurd hg (S.1 _ _ _ _ _ _ _ _)
  · exact ⟨hnx, S.2 _ _ _ _ _ _ _ _ _ okn hcs hg hO⟩
theorem sd_sub {o1 : List ga_O} (hO : ∀ o ∈ os, ga_GoO p l e R s m args below meth c Q ρ oa ta D n0 nL own cc ini o) (hs : ∀ z ∈ o1, z ∈ os) : ∀ o ∈ o1, ga_GoO p l e R s m args below meth c Q ρ oa ta D n0 nL own cc ini o := fun o ho => hO o (hs o ho)
theorem sx_push {v : Nat} {x : Value} (S : ga_Sd p l e R s m args below meth c Q ρ oa ta D n0 nL own cc ini cm sm go) (hcs : cs ≤ cm ∧ ss ≤ sm) (hO : ∀ o ∈ os, ga_GoO p l e R s m args below meth c Q ρ oa ta D n0 nL own cc ini o) (okn : ga_okc own cc ini nL nx) (hnx : nx = [] ∨ ga_pc nx = z) (hc : ga_pc cds = pc) (ho : go nx al (v :: sk) cs ss iv n h = some os) (hv : ∀ ad, ga_vr ρ oa ad v x)
    (hrow : ∀ (H : Heap) (locs : List Loc) (ls : Array Slot) (st : List Value), W p l e R s m args below meth c H locs cs ss Q (F0 m z ls (x :: st)) → W p l e R s m args below meth c H locs cs ss Q (F0 m pc ls st)) : ga_Go p l e R s m args below meth c Q ρ oa ta D n0 nL cds al sk cs ss iv n h := by
  obtain ⟨e1, k⟩ := sd_nx S hcs hO okn hnx ho
  exact gg_push hc (fun H locs ls st w => hrow H locs ls st (by rw [← e1]; exact w)) hv k
theorem sx_load {ok : Nat → Bool} {i : Nat} (S : ga_Sd p l e R s m args below meth c Q ρ oa ta D n0 nL own cc ini cm sm go) (hcs : cs ≤ cm ∧ ss ≤ sm) (hO : ∀ o ∈ os, ga_GoO p l e R s m args below meth c Q ρ oa ta D n0 nL own cc ini o) (okn : ga_okc own cc ini nL nx) (hnx : nx = [] ∨ ga_pc nx = z) (hc : ga_pc cds = pc) (ho : ga_load ok i go nx al sk cs ss iv n h = some os) (h7 : ∀ v, ok v = true → ¬ v % 8 = 7)
    (hrow : ∀ (H : Heap) (locs : List Loc) (ls : Array Slot) (st : List Value) (ad : List Nat) (v : Nat) (x : Value), ok v = true → ga_vr ρ oa ad v x → ls[i]? = some (.val x) → W p l e R s m args below meth c H locs cs ss Q (F0 m z ls (x :: st)) → W p l e R s m args below meth c H locs cs ss Q (F0 m pc ls st)) : ga_Go p l e R s m args below meth c Q ρ oa ta D n0 nL cds al sk cs ss iv n h := by
  unfold ga_load at ho
  rw [ga_f_eq, ga_if_eq] at ho
  split at ho
  · rename_i hk
    obtain ⟨e1, k⟩ := sd_nx S hcs hO okn hnx ho
    exact gg_load hc rfl (h7 _ hk) (fun H locs ls st ad x hv hl w => hrow H locs ls st ad _ x hk hv hl (by rw [← e1]; exact w)) k
  · cases ho
theorem ga_p_eq {v : Nat} {K : Nat → Option (List ga_O)} (h : ga_p v K = some os) : ¬ v % 8 = 7 ∧ K v = some os := by
  unfold ga_p at h
  rw [ga_f_eq, ga_if_eq] at h
  split at h
  · cases h
  · rename_i h7
    exact ⟨fun q => h7 (by rw [q]; rfl), h⟩
theorem sx_op2 {f : Nat → Nat → Nat} (S : ga_Sd p l e R s m args below meth c Q ρ oa ta D n0 nL own cc ini cm sm go) (hcs : cs ≤ cm ∧ ss ≤ sm) (hO : ∀ o ∈ os, ga_GoO p l e R s m args below meth c Q ρ oa ta D n0 nL own cc ini o) (okn : ga_okc own cc ini nL nx) (hnx : nx = [] ∨ ga_pc nx = z) (hc : ga_pc cds = pc) (ho : ga_op2 f go nx al sk cs ss iv n h = some os)
    (hrow : ∀ (H : Heap) (locs : List Loc) (ls : Array Slot) (st : List Value) (ad : List Nat) (x y : Nat) (vx vy : Value), ga_vr ρ oa ad x vx → ga_vr ρ oa ad y vy → ¬ f x y % 8 = 7 → ∃ z' : Value, ga_vr ρ oa ad (f x y) z' ∧ (W p l e R s m args below meth c H locs cs ss Q (F0 m z ls (z' :: st)) → W p l e R s m args below meth c H locs cs ss Q (F0 m pc ls (vy :: vx :: st)))) : ga_Go p l e R s m args below meth c Q ρ oa ta D n0 nL cds al sk cs ss iv n h := by
  unfold ga_op2 at ho
  split at ho
  · obtain ⟨h7, ho⟩ := ga_p_eq ho
    obtain ⟨e1, k⟩ := sd_nx S hcs hO okn hnx ho
    exact gg_op2 hc (fun H locs ls st ad vx vy hx hy => by
      obtain ⟨z', g1, g2⟩ := hrow H locs ls st ad _ _ vx vy hx hy h7
      exact ⟨z', g1, fun w => g2 (by rw [← e1]; exact w)⟩) k
  · cases ho
theorem sx_op1 {f : Nat → Nat} (S : ga_Sd p l e R s m args below meth c Q ρ oa ta D n0 nL own cc ini cm sm go) (hcs : cs ≤ cm ∧ ss ≤ sm) (hO : ∀ o ∈ os, ga_GoO p l e R s m args below meth c Q ρ oa ta D n0 nL own cc ini o) (okn : ga_okc own cc ini nL nx) (hnx : nx = [] ∨ ga_pc nx = z) (hc : ga_pc cds = pc) (ho : ga_op1 f go nx al sk cs ss iv n h = some os)
    (hrow : ∀ (H : Heap) (locs : List Loc) (ls : Array Slot) (st : List Value) (ad : List Nat) (x : Nat) (vx : Value), ga_vr ρ oa ad x vx → ¬ f x % 8 = 7 → ∃ z' : Value, ga_vr ρ oa ad (f x) z' ∧ (W p l e R s m args below meth c H locs cs ss Q (F0 m z ls (z' :: st)) → W p l e R s m args below meth c H locs cs ss Q (F0 m pc ls (vx :: st)))) : ga_Go p l e R s m args below meth c Q ρ oa ta D n0 nL cds al sk cs ss iv n h := by
  unfold ga_op1 at ho
  split at ho
  · obtain ⟨h7, ho⟩ := ga_p_eq ho
    obtain ⟨e1, k⟩ := sd_nx S hcs hO okn hnx ho
    exact gg_op1 hc h7 (fun H locs ls st ad vx hx => by
      obtain ⟨z', g1, g2⟩ := hrow H locs ls st ad _ vx hx h7
      exact ⟨z', g1, fun w => g2 (by rw [← e1]; exact w)⟩) k
  · cases ho
theorem sx_store {ok : Nat → Bool} {i : Nat} (S : ga_Sd p l e R s m args below meth c Q ρ oa ta D n0 nL own cc ini cm sm go) (hcs : cs ≤ cm ∧ ss ≤ sm) (hO : ∀ o ∈ os, ga_GoO p l e R s m args below meth c Q ρ oa ta D n0 nL own cc ini o) (okn : ga_okc own cc ini nL nx) (hnx : nx = [] ∨ ga_pc nx = z) (hc : ga_pc cds = pc) (ho : ga_store ok i go nx al sk cs ss iv n h = some os)
    (hrow : ∀ (H : Heap) (locs : List Loc) (ls : Array Slot) (st : List Value) (ad : List Nat) (v : Nat) (x : Value), ok v = true → ga_vr ρ oa ad v x → lv_has ls nL (ga_hl ls) → (∀ ls', lv_has ls' nL ((i, x) :: (ga_hl ls).filter (fun q => !(q.1 == i) && !(q.1 + 1 == i && q.2.category == 2))) → W p l e R s m args below meth c H locs cs ss Q (F0 m z ls' st)) → W p l e R s m args below meth c H locs cs ss Q (F0 m pc ls (x :: st))) : ga_Go p l e R s m args below meth c Q ρ oa ta D n0 nL cds al sk cs ss iv n h := by
  unfold ga_store at ho
  split at ho
  · rw [ga_if_eq] at ho
    split at ho
    · rename_i hk
      simp only [Bool.and_eq_true] at hk
      rw [ga_set_eq] at ho
      obtain ⟨e1, k⟩ := sd_nx S hcs hO okn hnx ho
      exact gg_store hc hk.2 (fun H locs ls st ad x hv hl w => hrow H locs ls st ad _ x hk.1 hv hl (fun ls' hh => by rw [← e1]; exact w ls' hh)) k
    · cases ho
  · cases ho
theorem sx_stk {sk' : List Nat} (S : ga_Sd p l e R s m args below meth c Q ρ oa ta D n0 nL own cc ini cm sm go) (hcs : cs ≤ cm ∧ ss ≤ sm) (hO : ∀ o ∈ os, ga_GoO p l e R s m args below meth c Q ρ oa ta D n0 nL own cc ini o) (okn : ga_okc own cc ini nL nx) (hnx : nx = [] ∨ ga_pc nx = z) (hc : ga_pc cds = pc) (ho : go nx al sk' cs ss iv n h = some os)
    (hrow : ∀ (H : Heap) (locs : List Loc) (ls : Array Slot) (st : List Value) (ad : List Nat), ls.size = nL → ga_sr ρ oa ad sk st → ∃ st', ga_sr ρ oa ad sk' st' ∧ (W p l e R s m args below meth c H locs cs ss Q (F0 m z ls st') → W p l e R s m args below meth c H locs cs ss Q (F0 m pc ls st))) : ga_Go p l e R s m args below meth c Q ρ oa ta D n0 nL cds al sk cs ss iv n h := by
  obtain ⟨e1, k⟩ := sd_nx S hcs hO okn hnx ho
  exact gg_stk hc (fun H locs ls st ad hs hst => by
    obtain ⟨st', g1, g2⟩ := hrow H locs ls st ad hs hst
    exact ⟨st', g1, fun w => g2 (by rw [← e1]; exact w)⟩) k
/-- a branch on two ints -/
theorem sx_br {o : List (Bool × ga_I)} {x y b : Nat} {r : List Nat} {cdj : List ga_E} {P : Int32 → Int32 → Prop} (S : ga_Sd p l e R s m args below meth c Q ρ oa ta D n0 nL own cc ini cm sm go) (hcs : cs ≤ cm ∧ ss ≤ sm) (hO : ∀ o ∈ os, ga_GoO p l e R s m args below meth c Q ρ oa ta D n0 nL own cc ini o) (okn : ga_okc own cc ini nL nx) (hnx : nx = [] ∨ ga_pc nx = z) (okj : ga_okc own cc ini nL cdj) (hj : cdj = [] ∨ ga_pc cdj = b) (hc : ga_pc cds = pc) (ix : ga_int x = true) (iy : ga_int y = true)
    (hP : ∀ (ad : List Nat) (X Y : Int32), ga_in ρ iv → ga_vr ρ oa ad x (.int X) → ga_vr ρ oa ad y (.int Y) → ∃ q ∈ o, ga_in ρ q.2 ∧ (q.1 = true ↔ P X Y))
    (ho : ga_br o (fun iv => go cdj al r cs ss iv n h) (fun iv => go nx al r cs ss iv n h) = some os)
    (hrow : ∀ (H : Heap) (locs : List Loc) (ls : Array Slot) (st : List Value) (X Y : Int32), (P X Y → W p l e R s m args below meth c H locs cs ss Q (F0 m b ls st)) → (¬ P X Y → W p l e R s m args below meth c H locs cs ss Q (F0 m z ls st)) → W p l e R s m args below meth c H locs cs ss Q (F0 m pc ls (.int Y :: .int X :: st))) : ga_Go p l e R s m args below meth c Q ρ oa ta D n0 nL cds al (y :: x :: r) cs ss iv n h := by
  intro H locs ls st hat
  obtain ⟨hi, hS, ad, ws, hw, hl, hs⟩ := hat
  obtain ⟨vy, t1, rfl, h1, hs1⟩ := ga_sr_cons hs
  obtain ⟨vx, t, rfl, h2, hs2⟩ := ga_sr_cons hs1
  obtain ⟨X, rfl⟩ := ga_vr_int ix h2
  obtain ⟨Y, rfl⟩ := ga_vr_int iy h1
  obtain ⟨q, hq, hin, hiff⟩ := hP ad X Y hi h2 h1
  obtain ⟨o1, g1, g2⟩ := ga_all_mem ho hq
  rw [hc]
  refine hrow H locs ls t X Y (fun hp => ?_) (fun hp => ?_)
  · rw [hiff.mpr hp, ga_if_t] at g1
    obtain ⟨e1, k⟩ := sd_nx S hcs (sd_sub hO g2) okj hj g1
    rw [← e1]
    exact k H locs ls t ⟨hin, hS, ad, ws, hw, hl, hs2⟩
  · have hf : q.1 = false := by
      cases hb : q.1 with
      | false => rfl
      | true => exact absurd (hiff.mp hb) hp
    rw [hf, ga_if_f] at g1
    obtain ⟨e1, k⟩ := sd_nx S hcs (sd_sub hO g2) okn hnx g1
    rw [← e1]
    exact k H locs ls t ⟨hin, hS, ad, ws, hw, hl, hs2⟩
/-- a branch on an int and 0 -/
theorem sx_br0 {o : List (Bool × ga_I)} {x b : Nat} {r : List Nat} {cdj : List ga_E} {P : Int32 → Prop} (S : ga_Sd p l e R s m args below meth c Q ρ oa ta D n0 nL own cc ini cm sm go) (hcs : cs ≤ cm ∧ ss ≤ sm) (hO : ∀ o ∈ os, ga_GoO p l e R s m args below meth c Q ρ oa ta D n0 nL own cc ini o) (okn : ga_okc own cc ini nL nx) (hnx : nx = [] ∨ ga_pc nx = z) (okj : ga_okc own cc ini nL cdj) (hj : cdj = [] ∨ ga_pc cdj = b) (hc : ga_pc cds = pc) (ix : ga_int x = true)
    (hP : ∀ (ad : List Nat) (X : Int32), ga_in ρ iv → ga_vr ρ oa ad x (.int X) → ∃ q ∈ o, ga_in ρ q.2 ∧ (q.1 = true ↔ P X))
    (ho : ga_br o (fun iv => go cdj al r cs ss iv n h) (fun iv => go nx al r cs ss iv n h) = some os)
    (hrow : ∀ (H : Heap) (locs : List Loc) (ls : Array Slot) (st : List Value) (X : Int32), (P X → W p l e R s m args below meth c H locs cs ss Q (F0 m b ls st)) → (¬ P X → W p l e R s m args below meth c H locs cs ss Q (F0 m z ls st)) → W p l e R s m args below meth c H locs cs ss Q (F0 m pc ls (.int X :: st))) : ga_Go p l e R s m args below meth c Q ρ oa ta D n0 nL cds al (x :: r) cs ss iv n h := by
  intro H locs ls st hat
  obtain ⟨hi, hS, ad, ws, hw, hl, hs⟩ := hat
  obtain ⟨vx, t, rfl, h2, hs2⟩ := ga_sr_cons hs
  obtain ⟨X, rfl⟩ := ga_vr_int ix h2
  obtain ⟨q, hq, hin, hiff⟩ := hP ad X hi h2
  obtain ⟨o1, g1, g2⟩ := ga_all_mem ho hq
  rw [hc]
  refine hrow H locs ls t X (fun hp => ?_) (fun hp => ?_)
  · rw [hiff.mpr hp, ga_if_t] at g1
    obtain ⟨e1, k⟩ := sd_nx S hcs (sd_sub hO g2) okj hj g1
    rw [← e1]
    exact k H locs ls t ⟨hin, hS, ad, ws, hw, hl, hs2⟩
  · have hf : q.1 = false := by
      cases hb : q.1 with
      | false => rfl
      | true => exact absurd (hiff.mp hb) hp
    rw [hf, ga_if_f] at g1
    obtain ⟨e1, k⟩ := sd_nx S hcs (sd_sub hO g2) okn hnx g1
    rw [← e1]
    exact k H locs ls t ⟨hin, hS, ad, ws, hw, hl, hs2⟩
/-- the six conditions: the ways of the machine's lists, the rows of the kit -/
theorem sx_icmp {cnd : Jvm.ClassFile.Cond} {off : Int} {x y b : Nat} {r : List Nat} (hx : p.tables.exec = Jvm.exec) (hb : c.code = cc) (S : ga_Sd p l e R s m args below meth c Q ρ oa ta D n0 nL own cc ini cm sm go) (hcs : cs ≤ cm ∧ ss ≤ sm) (hO : ∀ o ∈ os, ga_GoO p l e R s m args below meth c Q ρ oa ta D n0 nL own cc ini o) (okn : ga_okc own cc ini nL nx) (hnx : nx = [] ∨ ga_pc nx = pc + 3) (okc : ga_okc own cc ini nL code) (hc : ga_pc cds = pc) (ix : ga_int x = true) (iy : ga_int y = true)
    (hdg : decode cc pc = .ok (.if_icmp cnd off, 3)) (ht : (pc : Int) + off = (b : Int))
    (ho : ga_cnd cnd iv x y (fun iv => go (ga_jmp code b) al r cs ss iv n h) (fun iv => go nx al r cs ss iv n h) = some os) : ga_Go p l e R s m args below meth c Q ρ oa ta D n0 nL cds al (y :: x :: r) cs ss iv n h := by
  have hj := ga_okc_jmp (t := b) okc
  have nle : ∀ {u v : Int32}, ¬ u < v ↔ v ≤ u := fun {u v} => Int32.not_lt
  cases cnd with
  | eq => exact sx_br (P := fun X Y => X = Y) S hcs hO okn hnx hj.1 hj.2 hc ix iy (fun ad X Y hi a b => ga_eq_ok hi a b) ho (fun H locs ls st X Y kt kf => lv_icmp_eq hx hb hdg ht kt kf)
  | ne =>
    refine sx_br (P := fun X Y => ¬ X = Y) (o := (ga_eq iv x y).map (fun q => (!q.1, q.2))) S hcs hO okn hnx hj.1 hj.2 hc ix iy (fun ad X Y hi a b => ?_) ?_ (fun H locs ls st X Y kt kf => lv_icmp_ne hx hb hdg ht kt (fun q => kf (fun w => w q)))
    · obtain ⟨q, g1, g2, g3⟩ := ga_eq_ok hi a b
      exact ⟨(!q.1, q.2), List.mem_map.mpr ⟨q, g1, rfl⟩, g2, by cases hq : q.1 <;> simp [hq] at g3 ⊢ <;> exact g3⟩
    · exact (sx_flip _ _ _).trans ho
  | lt => exact sx_br (P := fun X Y => X < Y) S hcs hO okn hnx hj.1 hj.2 hc ix iy (fun ad X Y hi a b => ga_lt_ok hi a b) ho (fun H locs ls st X Y kt kf => lv_icmp_lt hx hb hdg ht kt kf)
  | ge =>
    refine sx_br (P := fun X Y => Y ≤ X) (o := (ga_lt iv x y).map (fun q => (!q.1, q.2))) S hcs hO okn hnx hj.1 hj.2 hc ix iy (fun ad X Y hi a b => ?_) ?_ (fun H locs ls st X Y kt kf => lv_icmp_ge hx hb hdg ht kt kf)
    · obtain ⟨q, g1, g2, g3⟩ := ga_lt_ok hi a b
      exact ⟨(!q.1, q.2), List.mem_map.mpr ⟨q, g1, rfl⟩, g2, by rw [← nle]; cases hq : q.1 <;> simp [hq] at g3 ⊢ <;> exact g3⟩
    · exact (sx_flip _ _ _).trans ho
  | gt =>
    refine sx_br (P := fun X Y => Y < X) S hcs hO okn hnx hj.1 hj.2 hc ix iy (fun ad X Y hi a b => ?_) ho (fun H locs ls st X Y kt kf => lv_icmp_gt hx hb hdg ht kt kf)
    exact ga_lt_ok hi b a
  | le =>
    refine sx_br (P := fun X Y => X ≤ Y) (o := (ga_lt iv y x).map (fun q => (!q.1, q.2))) S hcs hO okn hnx hj.1 hj.2 hc ix iy (fun ad X Y hi a b => ?_) ?_ (fun H locs ls st X Y kt kf => lv_icmp_le hx hb hdg ht kt kf)
    · obtain ⟨q, g1, g2, g3⟩ := ga_lt_ok hi b a
      exact ⟨(!q.1, q.2), List.mem_map.mpr ⟨q, g1, rfl⟩, g2, by rw [← nle]; cases hq : q.1 <;> simp [hq] at g3 ⊢ <;> exact g3⟩
    · exact (sx_flip _ _ _).trans ho
theorem sx_if {cnd : Jvm.ClassFile.Cond} {off : Int} {x b : Nat} {r : List Nat} (hx : p.tables.exec = Jvm.exec) (hb : c.code = cc) (S : ga_Sd p l e R s m args below meth c Q ρ oa ta D n0 nL own cc ini cm sm go) (hcs : cs ≤ cm ∧ ss ≤ sm) (hO : ∀ o ∈ os, ga_GoO p l e R s m args below meth c Q ρ oa ta D n0 nL own cc ini o) (okn : ga_okc own cc ini nL nx) (hnx : nx = [] ∨ ga_pc nx = pc + 3) (okc : ga_okc own cc ini nL code) (hc : ga_pc cds = pc) (ix : ga_int x = true)
    (hdg : decode cc pc = .ok (.ifCond cnd off, 3)) (ht : (pc : Int) + off = (b : Int))
    (ho : ga_cnd cnd iv x 0 (fun iv => go (ga_jmp code b) al r cs ss iv n h) (fun iv => go nx al r cs ss iv n h) = some os) : ga_Go p l e R s m args below meth c Q ρ oa ta D n0 nL cds al (x :: r) cs ss iv n h := by
  have hj := ga_okc_jmp (t := b) okc
  have nle : ∀ {u v : Int32}, ¬ u < v ↔ v ≤ u := fun {u v} => Int32.not_lt
  have z0 : ∀ ad, ga_vr ρ oa ad 0 (.int 0) := fun ad => ga_z0
  cases cnd with
  | eq => exact sx_br0 (P := fun X => X = 0) S hcs hO okn hnx hj.1 hj.2 hc ix (fun ad X hi a => ga_eq_ok hi a (z0 ad)) ho (fun H locs ls st X kt kf => lv_if_eq hx hb hdg ht kt kf)
  | ne =>
    refine sx_br0 (P := fun X => ¬ X = 0) (o := (ga_eq iv x 0).map (fun q => (!q.1, q.2))) S hcs hO okn hnx hj.1 hj.2 hc ix (fun ad X hi a => ?_) ?_ (fun H locs ls st X kt kf => lv_if_ne hx hb hdg ht kt (fun q => kf (fun w => w q)))
    · obtain ⟨q, g1, g2, g3⟩ := ga_eq_ok hi a (z0 ad)
      exact ⟨(!q.1, q.2), List.mem_map.mpr ⟨q, g1, rfl⟩, g2, by cases hq : q.1 <;> simp [hq] at g3 ⊢ <;> exact g3⟩
    · exact (sx_flip _ _ _).trans ho
  | lt => exact sx_br0 (P := fun X => X < 0) S hcs hO okn hnx hj.1 hj.2 hc ix (fun ad X hi a => ga_lt_ok hi a (z0 ad)) ho (fun H locs ls st X kt kf => lv_if_lt hx hb hdg ht kt kf)
  | ge =>
    refine sx_br0 (P := fun X => 0 ≤ X) (o := (ga_lt iv x 0).map (fun q => (!q.1, q.2))) S hcs hO okn hnx hj.1 hj.2 hc ix (fun ad X hi a => ?_) ?_ (fun H locs ls st X kt kf => lv_if_ge hx hb hdg ht kt kf)
    · obtain ⟨q, g1, g2, g3⟩ := ga_lt_ok hi a (z0 ad)
      exact ⟨(!q.1, q.2), List.mem_map.mpr ⟨q, g1, rfl⟩, g2, by rw [← nle]; cases hq : q.1 <;> simp [hq] at g3 ⊢ <;> exact g3⟩
    · exact (sx_flip _ _ _).trans ho
  | gt => exact sx_br0 (P := fun X => 0 < X) S hcs hO okn hnx hj.1 hj.2 hc ix (fun ad X hi a => ga_lt_ok hi (z0 ad) a) ho (fun H locs ls st X kt kf => lv_if_gt hx hb hdg ht kt kf)
  | le =>
    refine sx_br0 (P := fun X => X ≤ 0) (o := (ga_lt iv 0 x).map (fun q => (!q.1, q.2))) S hcs hO okn hnx hj.1 hj.2 hc ix (fun ad X hi a => ?_) ?_ (fun H locs ls st X kt kf => lv_if_le hx hb hdg ht kt kf)
    · obtain ⟨q, g1, g2, g3⟩ := ga_lt_ok hi (z0 ad) a
      exact ⟨(!q.1, q.2), List.mem_map.mpr ⟨q, g1, rfl⟩, g2, by rw [← nle]; cases hq : q.1 <;> simp [hq] at g3 ⊢ <;> exact g3⟩
    · exact (sx_flip _ _ _).trans ho
end GS
