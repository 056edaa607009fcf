theorem ga_vr_adr {ρ : Nat → Int32} {oa : Nat → Nat} {ad : List Nat} {v : Nat} {x : Value} (h : ga_adr v = true) (hx : ga_vr ρ oa ad v x) : ∃ a, x = .ref a := by
  unfold ga_adr at h
  simp only [Bool.or_eq_true, ga_beq] at h
  rcases h with h | h
  · obtain ⟨a, -, e⟩ := (ga_vr_3 h).mp hx; exact ⟨a, e⟩
  · exact ⟨_, (ga_vr_6 h).mp hx⟩
theorem ga_vr_lng {ρ : Nat → Int32} {oa : Nat → Nat} {ad : List Nat} {v : Nat} {x : Value} (h : ga_lng v = true) (hx : ga_vr ρ oa ad v x) : ∃ a, x = .long a := by
  have h5 : v % 8 = 5 := by simpa [ga_lng, ga_beq] using h
  exact ⟨_, ((ga_vr_5 h5).mp hx).2⟩
theorem ga_int7 {v : Nat} (h : ga_int v = true) : ¬ v % 8 = 7 := by rcases ga_int_le h with q | q | q <;> omega
theorem ga_adr7 {v : Nat} (h : ga_adr v = true) : ¬ v % 8 = 7 := by
  unfold ga_adr at h
  simp only [Bool.or_eq_true, ga_beq] at h
  omega
theorem ga_lng7 {v : Nat} (h : ga_lng v = true) : ¬ v % 8 = 7 := by
  have h5 : v % 8 = 5 := by simpa [ga_lng, ga_beq] using h
  omega
theorem ga_one1 {ρ : Nat → Int32} {oa : Nat → Nat} {ad : List Nat} {v : Nat} {x : Value} (h : ga_one v = true) (hx : ga_vr ρ oa ad v x) : x.category = 1 := by
  unfold ga_one at h
  simp only [Bool.or_eq_true] at h
  rcases h with h | h
  · obtain ⟨y, rfl⟩ := ga_vr_int h hx; rfl
  · obtain ⟨y, rfl⟩ := ga_vr_adr h hx; rfl
theorem ga_w1_ok {ps : List (Nat × Nat)} {f : Nat × Nat → Bool} (h : ga_w1 ps f = true) : ∃ q r, ps = q :: r ∧ f q = true := by
  cases ps with
  | nil => cases h
  | cons q r => exact ⟨q, r, rfl, h⟩
theorem ga_lb_ok {a : Nat} (h : ga_lb a = true) : a % 8 = 0 ∧ a / 8 < 4294967296 := by
  unfold ga_lb at h
  simpa [ga_beq] using h
theorem ga_lk_lt : ∀ {l : List (Int × Int)} {a : Int × Int}, (((a :: l).zip ((a :: l).drop 1)).all (fun (a, next) => a.1 < next.1)) = true → ∀ x ∈ l, a.1 < x.1
  | [], _, _, x, hx => by cases hx
  | b :: l, a, h, x, hx => by
    have h1 : (decide (a.1 < b.1) && ((b :: l).zip ((b :: l).drop 1)).all (fun (a, next) => a.1 < next.1)) = true := h
    simp only [Bool.and_eq_true, decide_eq_true_eq] at h1
    rcases List.mem_cons.mp hx with rfl | hx
    · exact h1.1
    · have := ga_lk_lt h1.2 x hx
      omega
theorem ga_lk_tl {l : List (Int × Int)} {a : Int × Int} (h : (((a :: l).zip ((a :: l).drop 1)).all (fun (a, next) => a.1 < next.1)) = true) : ((l.zip (l.drop 1)).all (fun (a, next) => a.1 < next.1)) = true := by
  cases l with
  | nil => rfl
  | cons b l =>
    have h1 : (decide (a.1 < b.1) && ((b :: l).zip ((b :: l).drop 1)).all (fun (a, next) => a.1 < next.1)) = true := h
    simp only [Bool.and_eq_true] at h1
    exact h1.2
theorem ga_lk_in : ∀ {l : List (Int × Int)} {dflt k o : Int}, ((l.zip (l.drop 1)).all (fun (a, next) => a.1 < next.1)) = true → (k, o) ∈ l → Op.lookupswitch.offset l dflt k = o
  | [], _, _, _, _, h => by cases h
  | a :: l, dflt, k, o, hs, h => by
    obtain ⟨a1, a2⟩ := a
    rw [Op.lookupswitch.offset_cons]
    rcases List.mem_cons.mp h with e | h
    · cases e
      rw [if_pos rfl]
    · have := ga_lk_lt hs (k, o) h
      rw [if_neg (by intro e; simp only at this; omega)]
      exact ga_lk_in (ga_lk_tl hs) h
theorem ga_lk_out : ∀ {l : List (Int × Int)} {dflt k : Int}, (∀ x ∈ l, ¬ x.1 = k) → Op.lookupswitch.offset l dflt k = dflt
  | [], _, _, _ => rfl
  | a :: l, dflt, k, h => by
    obtain ⟨a1, a2⟩ := a
    rw [Op.lookupswitch.offset_cons, if_neg (h (a1, a2) List.mem_cons_self)]
    exact ga_lk_out (fun x hx => h x (List.mem_cons_of_mem _ hx))
section GZ
variable {p : Program} {l : Launch} {e : Env} {R : Room} {s : State} {m : MethodId} {args : Array Value} {below : List Frame} {meth : Method} {c : Code} {Q : State → Prop}
variable {ρ : Nat → Int32} {oa : Nat → Nat} {ta : Nat → ClassId} {D : va_G} {n0 nL L d : Nat} {own : String} {cc : ByteArray} {ini : Bool} {cm sm : Nat} {nx code : List ga_E} {al sk : List Nat} {cs ss : Nat} {iv : ga_I} {n : Nat} {h : ga_H} {go : ga_G} {os : List ga_O} {ev : ga_E}
/-- the text's two methods, as rows -/
def ga_TX (p : Program) (l : Launch) (e : Env) (R : Room) (s : State) (m : MethodId) (args : Array Value) (below : List Frame) (meth : Method) (c : Code) (Q : State → Prop) (oa : Nat → Nat) (n0 nL : Nat) (own : String) (cc : ByteArray) : Prop :=
  (∀ (H : Heap) (locs : List Loc) (ls : Array Slot) (st : List Value) (cs ss idx pc : Nat), Cond.methodLink own idx ga_yLen ∈ gw_tbl → decode cc pc = .ok (.invokevirtual idx, 3) → ls.size = nL → (st.map fun v => v.category).sum ≤ 8 → cs ≤ R.cells → ss ≤ R.slots → va_S (fun q => n0 ≤ q) s.heap H locs → W p l e R s m args below meth c H locs cs ss Q (F0 m (pc + 3) ls (.int (nI 91) :: st)) → W p l e R s m args below meth c H locs cs ss Q (F0 m pc ls (.ref (oa 1) :: st))) ∧
  (∀ (H : Heap) (locs : List Loc) (ls : Array Slot) (st : List Value) (cs ss idx pc j : Nat), Cond.methodLink own idx ga_yChr ∈ gw_tbl → decode cc pc = .ok (.invokevirtual idx, 3) → ls.size = nL → (st.map fun v => v.category).sum ≤ 8 → cs ≤ R.cells → ss ≤ R.slots → j < 91 → va_S (fun q => n0 ≤ q) s.heap H locs → W p l e R s m args below meth c H locs cs ss Q (F0 m (pc + 3) ls (.int (nI (gm_tx.getD j 0)) :: st)) → W p l e R s m args below meth c H locs cs ss Q (F0 m pc ls (.int (nI j) :: .ref (oa 1) :: st)))
theorem ga_ta {ty : FieldType} {cA : ClassId} {k : Nat} {t : Nat} (hK : va_K D gm_cl (ga_tys ta) s) (hk : (ga_tys ta)[k]? = some (ta t, ty)) (hK2 : va_K D gm_cl (ga_tys ta ++ [(cA, ty)]) s) : cA = ta t := by
  have h1 := (hK.2 k _ hk).2
  have h2 := (hK2.2 5 (cA, ty) rfl).2
  cases ty with
  | object C =>
    obtain ⟨_, _, _, _, _, q1⟩ := h1
    obtain ⟨_, _, _, _, _, q2⟩ := h2
    exact Option.some.inj (q2.symm.trans q1)
  | _ =>
    have q1 : s.vm.findClass _ = some (ta t) := h1
    have q2 : s.vm.findClass _ = some cA := h2
    exact Option.some.inj (q2.symm.trans q1)
set_option maxHeartbeats 4000000 in
set_option maxRecDepth 100000 in
theorem ga_step_ok {call : Nat → List Nat → ga_I → Nat → ga_H → Option (List ga_A)} (hx : p.tables.exec = Jvm.exec) (hb : c.code = cc) (hml : c.maxLocals = nL) (hown : s.vm.findClass own = some m.cls) (hts : ∀ w ∈ gw_tbl, w.before args s = true) (hK : va_K D gm_cl (ga_tys ta) s) (hn0 : n0 ≤ s.heap.size) (hold : ga_old ρ oa n0 L s) (hinit : ini = true → meth.name = "<init>") (hρ6 : ρ 6 = ρ 0 &&& 63) (hρ7 : ρ 7 = 0 - ρ 1) (hL : L ≤ 6)
    (hRf : d + 11 ≤ R.frames) (hRl : 100 * (d + 11) ≤ R.locals) (hRc : cm ≤ R.cells) (hRs : sm ≤ R.slots) (HC : ga_CS l ρ oa ta D n0 L d call) (TX : ga_TX p l e R s m args below meth c Q oa n0 nL own cc)
    (okc : ga_okc own cc ini nL code) (oke : ga_okc own cc ini nL (ev :: nx)) (S : ga_Sd p l e R s m args below meth c Q ρ oa ta D n0 nL own cc ini cm sm go) (hcs : cs ≤ cm ∧ ss ≤ sm) (hO : ∀ o ∈ os, ga_GoO p l e R s m args below meth c Q ρ oa ta D n0 nL own cc ini o)
    (ho : ga_step gm_me gm_df L gm_tx call cm sm code go ev nx al sk cs ss iv n h = some os) : ga_Go p l e R s m args below meth c Q ρ oa ta D n0 nL (ev :: nx) al sk cs ss iv n h := by
  obtain ⟨pc, ln, i, a, b, ps⟩ := ev
  have oe := oke.1
  unfold ga_oe at oe
  simp only [Bool.and_eq_true, decide_eq_true_eq] at oe
  obtain ⟨⟨hdg, hln⟩, hwb⟩ := oe
  have hnx : nx = [] ∨ ga_pc nx = pc + ln := oke.2.1
  have okn := oke.2.2
  have hA : ∀ q : Nat, s.heap.size ≤ q → (fun q => n0 ≤ q) q := fun q hq => Nat.le_trans hn0 hq
  have op2 : ∀ {f : Nat → Nat → Nat} {g : Int32 → Int32 → Int32} {z : Nat}, (∀ ad, ga_O2 ρ oa ad f g) → (nx = [] ∨ ga_pc nx = z) → (∀ (H : Heap) (locs : List Loc) (ls : Array Slot) (st : List Value) (X Y : Int32), W p l e R s m args below meth c H locs cs ss Q (F0 m z ls (.int (g X Y) :: st)) → W p l e R s m args below meth c H locs cs ss Q (F0 m pc ls (.int Y :: .int X :: st))) → ga_op2 f go nx al sk cs ss iv n h = some os → ga_Go p l e R s m args below meth c Q ρ oa ta D n0 nL ((pc, ln, i, a, b, ps) :: nx) al sk cs ss iv n h := by
    intro f g z hf hz hr ho'
    exact sx_op2 S hcs hO okn hz rfl ho' (fun H locs ls st ad x y vx vy a1 a2 a3 => by
      obtain ⟨X, Y, rfl, rfl, g1⟩ := hf ad x y vx vy a1 a2 a3
      exact ⟨_, g1, hr H locs ls st X Y⟩)
  have stop : ∀ {x : Option (List ga_O)}, x = some os → x = some [((pc, ln, i, a, b, ps) :: nx, al, sk, cs, ss, iv, n, h)] → ga_Go p l e R s m args below meth c Q ρ oa ta D n0 nL ((pc, ln, i, a, b, ps) :: nx) al sk cs ss iv n h := by
    intro x h1 h2
    rw [h2] at h1
    have := Option.some.inj h1
    exact hO ((pc, ln, i, a, b, ps) :: nx, al, sk, cs, ss, iv, n, h) (by rw [← this]; exact List.mem_singleton.mpr rfl) oke
  cases i with
  | ireturn => exact stop ho rfl
  | return_ => exact stop ho rfl
  | areturn => exact stop ho rfl
  | lreturn => exact stop ho rfl
  | aload_n k =>
    obtain rfl : ln = 1 := Nat.eq_of_beq_eq_true hln
    exact sx_load (ok := ga_adr) (i := k.val) S hcs hO okn hnx rfl ho (fun v hv => ga_adr7 hv) (fun H locs ls st ad v x hk hv hl w => by
      obtain ⟨y, rfl⟩ := ga_vr_adr hk hv
      exact lv_aload_n hx hb hdg rfl hl w)
  | iload_n k =>
    obtain rfl : ln = 1 := Nat.eq_of_beq_eq_true hln
    exact sx_load (ok := ga_int) (i := k.val) S hcs hO okn hnx rfl ho (fun v hv => ga_int7 hv) (fun H locs ls st ad v x hk hv hl w => by
      obtain ⟨y, rfl⟩ := ga_vr_int hk hv
      exact lv_iload_n hx hb hdg rfl hl w)
  | lload_n k =>
    obtain rfl : ln = 1 := Nat.eq_of_beq_eq_true hln
    exact sx_load (ok := ga_lng) (i := k.val) S hcs hO okn hnx rfl ho (fun v hv => ga_lng7 hv) (fun H locs ls st ad v x hk hv hl w => by
      obtain ⟨y, rfl⟩ := ga_vr_lng hk hv
      exact lv_lload_n hx hb hdg rfl hl w)
  | iload k =>
    obtain rfl : ln = 2 := Nat.eq_of_beq_eq_true hln
    exact sx_load (ok := ga_int) (i := k) S hcs hO okn hnx rfl ho (fun v hv => ga_int7 hv) (fun H locs ls st ad v x hk hv hl w => by
      obtain ⟨y, rfl⟩ := ga_vr_int hk hv
      exact lv_iload hx hb hdg hl w)
  | iconst k =>
    obtain rfl : ln = 1 := Nat.eq_of_beq_eq_true hln
    have hw : (ga_lb a && decide (Int32.ofInt k = nI (a / 8))) = true := hwb
    simp only [Bool.and_eq_true, decide_eq_true_eq] at hw
    have hl := ga_lb_ok hw.1
    exact sx_push (v := a) (x := .int (nI (a / 8))) S hcs hO okn hnx rfl ho (fun ad => (ga_vr_0 hl.1).mpr ⟨hl.2, rfl⟩) (fun H locs ls st w => lv_iconst hx hb hdg hw.2 w)
  | bipush k =>
    obtain rfl : ln = 2 := Nat.eq_of_beq_eq_true hln
    have hw : (ga_lb a && decide ((Int8.ofInt k).toInt32 = nI (a / 8))) = true := hwb
    simp only [Bool.and_eq_true, decide_eq_true_eq] at hw
    have hl := ga_lb_ok hw.1
    exact sx_push (v := a) (x := .int (nI (a / 8))) S hcs hO okn hnx rfl ho (fun ad => (ga_vr_0 hl.1).mpr ⟨hl.2, rfl⟩) (fun H locs ls st w => lv_bipush hx hb hdg hw.2 w)
  | sipush k =>
    obtain rfl : ln = 3 := Nat.eq_of_beq_eq_true hln
    have hw : (ga_lb a && decide ((Int16.ofInt k).toInt32 = nI (a / 8))) = true := hwb
    simp only [Bool.and_eq_true, decide_eq_true_eq] at hw
    have hl := ga_lb_ok hw.1
    exact sx_push (v := a) (x := .int (nI (a / 8))) S hcs hO okn hnx rfl ho (fun ad => (ga_vr_0 hl.1).mpr ⟨hl.2, rfl⟩) (fun H locs ls st w => lv_sipush hx hb hdg hw.2 w)
  | lconst k =>
    obtain rfl : ln = 1 := Nat.eq_of_beq_eq_true hln
    have hw : (Nat.beq (a % 8) 5 && Nat.blt (a / 8) 18446744073709551616 && decide (Int64.ofNat k.val = lN (a / 8))) = true := hwb
    simp only [Bool.and_eq_true, decide_eq_true_eq, ga_beq, Nat.blt_eq] at hw
    exact sx_push (v := a) (x := .long (lN (a / 8))) S hcs hO okn hnx rfl ho (fun ad => (ga_vr_5 hw.1.1).mpr ⟨hw.1.2, rfl⟩) (fun H locs ls st w => lv_lconst hx hb hdg hw.2 w)
  | ldc2_w k =>
    obtain rfl : ln = 3 := Nat.eq_of_beq_eq_true hln
    have hw : (Nat.beq (a % 8) 5 && Nat.blt (a / 8) 18446744073709551616 && ga_w1 ps (fun q => gw_ok q.2 (.constantLong own k (lN (a / 8))))) = true := hwb
    simp only [Bool.and_eq_true, ga_beq, Nat.blt_eq] at hw
    obtain ⟨q, r, -, hq⟩ := ga_w1_ok hw.2
    exact sx_push (v := a) (x := .long (lN (a / 8))) S hcs hO okn hnx rfl ho (fun ad => (ga_vr_5 hw.1.1).mpr ⟨hw.1.2, rfl⟩) (fun H locs ls st w => lv_ldc2 hx hb hown (hts _ (gw_mem hq)) hdg w)
  | ldc_w k =>
    obtain rfl : ln = 3 := Nat.eq_of_beq_eq_true hln
    have hw : (ga_lb a && ga_w1 ps (fun q => gw_ok q.2 (.constant own k (nI (a / 8))))) = true := hwb
    simp only [Bool.and_eq_true] at hw
    obtain ⟨q, r, -, hq⟩ := ga_w1_ok hw.2
    have hl := ga_lb_ok hw.1
    exact sx_push (v := a) (x := .int (nI (a / 8))) S hcs hO okn hnx rfl ho (fun ad => (ga_vr_0 hl.1).mpr ⟨hl.2, rfl⟩) (fun H locs ls st w => lv_ldcw hx hb hown (hts _ (gw_mem hq)) hdg w)
  | ldc k =>
    obtain rfl : ln = 2 := Nat.eq_of_beq_eq_true hln
    have ho2 : ga_if (or (Nat.beq (a % 8) 0) (Nat.beq a 14)) (go nx al (a :: sk) cs ss iv n h) none = some os := ho
    have hw : (if a % 8 = 0 then ga_lb a && ga_w1 ps (fun q => gw_ok q.2 (.constant own k (nI (a / 8)))) else if a = 14 then decide (own = "GravyRound$Tokens") && Nat.beq k 20 else if a = 30 then decide (own = "GravyRound$Tokens") && Nat.beq k 75 else true) = true := hwb
    simp only [ga_if_eq, Bool.or_eq_true, ga_beq] at ho2
    split at ho2
    · by_cases h0 : a % 8 = 0
      · rw [if_pos h0] at hw
        simp only [Bool.and_eq_true] at hw
        obtain ⟨q, r, -, hq⟩ := ga_w1_ok hw.2
        have hl := ga_lb_ok hw.1
        exact sx_push (v := a) (x := .int (nI (a / 8))) S hcs hO okn hnx rfl ho2 (fun ad => (ga_vr_0 hl.1).mpr ⟨hl.2, rfl⟩) (fun H locs ls st w => lv_ldc hx hb hown (hts _ (gw_mem hq)) hdg w)
      · rename_i h14
        have ha : a = 14 := by rcases h14 with q | q; exact absurd q h0; exact q
        rw [if_neg h0, if_pos ha] at hw
        simp only [Bool.and_eq_true, decide_eq_true_eq, ga_beq] at hw
        obtain ⟨rfl, rfl⟩ := hw
        subst ha
        exact sx_push (v := 14) (x := .ref (oa 1)) S hcs hO okn hnx rfl ho2 (fun ad => (ga_vr_6 (by decide)).mpr rfl) (fun H locs ls st w => va_ldcS hx hb hown hold.2.2.2.2.1 hdg w)
    · cases ho2
  | iadd => obtain rfl : ln = 1 := Nat.eq_of_beq_eq_true hln; exact op2 (f := ga_add) (fun ad => ga_add_ok) hnx (fun H locs ls st X Y w => lv_iadd hx hb hdg w) ho
  | imul => obtain rfl : ln = 1 := Nat.eq_of_beq_eq_true hln; exact op2 (f := ga_mul) (fun ad => ga_mul_ok) hnx (fun H locs ls st X Y w => lv_imul hx hb hdg w) ho
  | iand => obtain rfl : ln = 1 := Nat.eq_of_beq_eq_true hln; exact op2 (f := ga_and) (fun ad => ga_and_ok hρ6) hnx (fun H locs ls st X Y w => lv_iand hx hb hdg w) ho
  | ior => obtain rfl : ln = 1 := Nat.eq_of_beq_eq_true hln; exact op2 (f := ga_or) (fun ad => ga_or_ok) hnx (fun H locs ls st X Y w => lv_ior hx hb hdg w) ho
  | ixor => obtain rfl : ln = 1 := Nat.eq_of_beq_eq_true hln; exact op2 (f := ga_xor) (fun ad => ga_xor_ok) hnx (fun H locs ls st X Y w => lv_ixor hx hb hdg w) ho
  | ishl => obtain rfl : ln = 1 := Nat.eq_of_beq_eq_true hln; exact op2 (f := ga_shl) (fun ad => ga_shl_ok) hnx (fun H locs ls st X Y w => lv_ishl hx hb hdg w) ho
  | ishr => obtain rfl : ln = 1 := Nat.eq_of_beq_eq_true hln; exact op2 (f := ga_shr) (fun ad => ga_shr_ok) hnx (fun H locs ls st X Y w => lv_ishr hx hb hdg w) ho
  | iushr => obtain rfl : ln = 1 := Nat.eq_of_beq_eq_true hln; exact op2 (f := ga_ush) (fun ad => ga_ush_ok) hnx (fun H locs ls st X Y w => lv_iushr hx hb hdg rfl w) ho
  | isub => obtain rfl : ln = 1 := Nat.eq_of_beq_eq_true hln; exact sx_isb hρ7 hx hb S hcs hO okn hnx rfl hdg ho
  | idiv =>
    obtain rfl : ln = 1 := Nat.eq_of_beq_eq_true hln
    exact sx_op2 (f := ga_div) S hcs hO okn hnx rfl ho (fun H locs ls st ad x y vx vy a1 a2 a3 => by
      obtain ⟨X, Y, rfl, rfl, h0, g1⟩ := ga_div_ok x y vx vy a1 a2 a3
      exact ⟨_, g1, fun w => lv_idiv hx hb hdg h0 w⟩)
  | irem =>
    obtain rfl : ln = 1 := Nat.eq_of_beq_eq_true hln
    exact sx_op2 (f := ga_rem) S hcs hO okn hnx rfl ho (fun H locs ls st ad x y vx vy a1 a2 a3 => by
      obtain ⟨X, Y, rfl, rfl, h0, g1⟩ := ga_rem_ok x y vx vy a1 a2 a3
      exact ⟨_, g1, fun w => lv_irem hx hb hdg h0 w⟩)
  | ladd =>
    obtain rfl : ln = 1 := Nat.eq_of_beq_eq_true hln
    exact sx_op2 (f := ga_lad) S hcs hO okn hnx rfl ho (fun H locs ls st ad x y vx vy a1 a2 a3 => by
      obtain ⟨X, Y, rfl, rfl, g1⟩ := ga_lad_ok x y vx vy a1 a2 a3
      exact ⟨_, g1, fun w => lv_ladd hx hb hdg w⟩)
  | lmul =>
    obtain rfl : ln = 1 := Nat.eq_of_beq_eq_true hln
    exact sx_op2 (f := ga_lmu) S hcs hO okn hnx rfl ho (fun H locs ls st ad x y vx vy a1 a2 a3 => by
      obtain ⟨X, Y, rfl, rfl, g1⟩ := ga_lmu_ok x y vx vy a1 a2 a3
      exact ⟨_, g1, fun w => lv_lmul hx hb hdg w⟩)
  | i2b =>
    obtain rfl : ln = 1 := Nat.eq_of_beq_eq_true hln
    exact sx_op1 (f := ga_i2b) S hcs hO okn hnx rfl ho (fun H locs ls st ad x vx a1 a3 => by
      obtain ⟨X, rfl, g1⟩ := ga_i2b_ok x vx a1 a3
      exact ⟨_, g1, fun w => lv_i2b hx hb hdg rfl w⟩)
  | i2l =>
    obtain rfl : ln = 1 := Nat.eq_of_beq_eq_true hln
    exact sx_op1 (f := ga_i2l) S hcs hO okn hnx rfl ho (fun H locs ls st ad x vx a1 a3 => by
      obtain ⟨X, rfl, g1⟩ := ga_i2l_ok x vx a1 a3
      exact ⟨_, g1, fun w => lv_i2l hx hb hdg rfl w⟩)
  | goto off =>
    obtain rfl : ln = 3 := Nat.eq_of_beq_eq_true hln
    have ht : (pc : Int) + off = (b : Int) := of_decide_eq_true hwb
    have ho2 : go (ga_jmp code b) al sk cs ss iv n h = some os := ho
    have hj := ga_okc_jmp (t := b) okc
    obtain ⟨e1, k⟩ := sd_nx S hcs hO hj.1 hj.2 ho2
    exact gg_goto (nx := ga_jmp code b) rfl (fun H locs ls st w => lv_goto hx hb hdg ht (by rw [← e1]; exact w)) k
  | if_icmp cnd off =>
    obtain rfl : ln = 3 := Nat.eq_of_beq_eq_true hln
    have ht : (pc : Int) + off = (b : Int) := of_decide_eq_true hwb
    cases sk with
    | nil => exact absurd (show (none : Option (List ga_O)) = some os from ho) (by simp)
    | cons y sk =>
      cases sk with
      | nil => exact absurd (show (none : Option (List ga_O)) = some os from ho) (by simp)
      | cons x r =>
        have ho2 : ga_if (ga_i2 x y) (ga_cnd cnd iv x y (fun iv => go (ga_jmp code b) al r cs ss iv n h) (fun iv => go nx al r cs ss iv n h)) none = some os := ho
        rw [ga_if_eq] at ho2
        split at ho2
        · rename_i hi2
          obtain ⟨ix, iy⟩ := ga_i2_ok hi2
          exact sx_icmp hx hb S hcs hO okn hnx okc rfl ix iy hdg ht ho2
        · cases ho2
  | ifCond cnd off =>
    obtain rfl : ln = 3 := Nat.eq_of_beq_eq_true hln
    have ht : (pc : Int) + off = (b : Int) := of_decide_eq_true hwb
    cases sk with
    | nil => exact absurd (show (none : Option (List ga_O)) = some os from ho) (by simp)
    | cons x r =>
      have ho2 : ga_if (ga_int x) (ga_cnd cnd iv x 0 (fun iv => go (ga_jmp code b) al r cs ss iv n h) (fun iv => go nx al r cs ss iv n h)) none = some os := ho
      rw [ga_if_eq] at ho2
      split at ho2
      · rename_i ix
        exact sx_if hx hb S hcs hO okn hnx okc rfl ix hdg ht ho2
      · cases ho2
  | istore k =>
    obtain rfl : ln = 2 := Nat.eq_of_beq_eq_true hln
    have hlt : k < nL := by simpa using (show Nat.blt k nL = true from hwb)
    exact sx_store (ok := ga_int) (i := k) S hcs hO okn hnx rfl ho (fun H locs ls st ad v x hk hv hh w => by
      obtain ⟨y, rfl⟩ := ga_vr_int hk hv
      exact lv_istore hx hb hdg hh hlt rfl w)
  | istore_n k =>
    obtain rfl : ln = 1 := Nat.eq_of_beq_eq_true hln
    have hlt : k.val < nL := by simpa using (show Nat.blt k.val nL = true from hwb)
    exact sx_store (ok := ga_int) (i := k.val) S hcs hO okn hnx rfl ho (fun H locs ls st ad v x hk hv hh w => by
      obtain ⟨y, rfl⟩ := ga_vr_int hk hv
      exact lv_istore_n hx hb hdg rfl hh hlt rfl w)
  | astore_n k =>
    obtain rfl : ln = 1 := Nat.eq_of_beq_eq_true hln
    have hlt : k.val < nL := by simpa using (show Nat.blt k.val nL = true from hwb)
    exact sx_store (ok := ga_adr) (i := k.val) S hcs hO okn hnx rfl ho (fun H locs ls st ad v x hk hv hh w => by
      obtain ⟨y, rfl⟩ := ga_vr_adr hk hv
      exact lv_astore_n hx hb hdg rfl hh hlt rfl w)
  | lstore_n k =>
    obtain rfl : ln = 1 := Nat.eq_of_beq_eq_true hln
    have hlt : k.val + 1 < nL := by simpa using (show Nat.blt (k.val + 1) nL = true from hwb)
    cases sk with
    | nil => exact absurd (show (none : Option (List ga_O)) = some os from ho) (by simp)
    | cons v r => exact sx_lst hx hb S hcs hO okn hnx rfl hdg hlt ho
  | iinc k nn =>
    obtain rfl : ln = 3 := Nat.eq_of_beq_eq_true hln
    have hw : (ga_lb a && decide (Int32.ofInt nn = nI (a / 8)) && Nat.blt k nL) = true := hwb
    simp only [Bool.and_eq_true, decide_eq_true_eq, Nat.blt_eq] at hw
    exact sx_iinc hx hb S hcs hO okn hnx rfl hdg (ga_lb_ok hw.1.1).1 hw.2 hw.1.2 ho
  | getfield idx =>
    obtain rfl : ln = 3 := Nat.eq_of_beq_eq_true hln
    have hw : (match gm_cl[a]? with
      | some q => Nat.blt b q.2.2 && ga_w1 ps (fun w => if w.1 = 0 then gw_ok w.2 (.fieldLink own idx (q.2.1 b).1 (q.2.1 b).2.1 (q.2.1 b).2.2.1) else gw_nk w.2 (.fieldLinkNest own idx (q.2.1 b).1 (q.2.1 b).2.1 (q.2.1 b).2.2.1 "GravyRound"))
      | none => false) = true := hwb
    cases hq : gm_cl[a]? with
    | none => rw [hq] at hw; cases hw
    | some q =>
      rw [hq] at hw
      simp only [Bool.and_eq_true, Nat.blt_eq] at hw
      obtain ⟨w0, r0, -, hw0⟩ := ga_w1_ok hw.2
      refine sx_get hx hb hown hts hK S hcs hO okn hnx rfl hdg hq hw.1 ?_ ho
      split at hw0
      · exact Or.inl (hts _ (gw_mem hw0))
      · exact Or.inr (va_Nw.use rfl (hold.2.2.1 _ (gw_nmem hw0)))
  | putfield idx =>
    obtain rfl : ln = 3 := Nat.eq_of_beq_eq_true hln
    have hw : (match gm_cl[a]? with
      | some q => Nat.blt b q.2.2 && ga_w1 ps (fun w => gw_ok w.2 (.fieldLink own idx (q.2.1 b).1 (q.2.1 b).2.1 (q.2.1 b).2.2.1) && ga_tc w.1 (q.2.1 b).2.2.1) && (!(q.2.1 b).2.2.2 || (ini && decide ((q.2.1 b).1 = own)))
      | none => false) = true := hwb
    cases hq : gm_cl[a]? with
    | none => rw [hq] at hw; cases hw
    | some q =>
      rw [hq] at hw
      simp only [Bool.and_eq_true, Nat.blt_eq, Bool.or_eq_true, Bool.not_eq_true', decide_eq_true_eq] at hw
      obtain ⟨⟨h1, h2⟩, h3⟩ := hw
      obtain ⟨w0, r0, hps, hw0⟩ := ga_w1_ok h2
      simp only [Bool.and_eq_true] at hw0
      refine sx_put hx hb hown hts hK S hcs hO okn hnx rfl hdg hq h1 (hts _ (gw_mem hw0.1)) (fun w hw => ?_) ?_ ho
      · rw [hps] at hw
        have : w0 = w := by simpa using hw
        rw [← this]
        exact hw0.2
      · rcases h3 with h3 | ⟨h3, h4⟩
        · exact Or.inl h3
        · exact Or.inr ⟨hinit h3, h4⟩
  | dup =>
    obtain rfl : ln = 1 := Nat.eq_of_beq_eq_true hln
    cases sk with
    | nil => exact absurd (show (none : Option (List ga_O)) = some os from ho) (by simp)
    | cons v r =>
      have ho2 : ga_if (ga_one v) (go nx al (v :: v :: r) cs ss iv n h) none = some os := ho
      rw [ga_if_eq] at ho2
      split at ho2
      · rename_i hv1
        exact sx_stk S hcs hO okn hnx rfl ho2 (fun H locs ls st ad hsz hst => by
          obtain ⟨x, t, rfl, h1, h2⟩ := ga_sr_cons hst
          exact ⟨x :: x :: t, ⟨h1, h1, h2⟩, fun w => lv_dup hx hb hdg (ga_one1 hv1 h1) w⟩)
      · cases ho2
  | dup2 =>
    obtain rfl : ln = 1 := Nat.eq_of_beq_eq_true hln
    cases sk with
    | nil => exact absurd (show (none : Option (List ga_O)) = some os from ho) (by simp)
    | cons v sk =>
      cases sk with
      | nil => exact absurd (show (none : Option (List ga_O)) = some os from ho) (by simp)
      | cons w r =>
        have ho2 : ga_if (and (ga_one v) (ga_one w)) (go nx al (v :: w :: v :: w :: r) cs ss iv n h) none = some os := ho
        rw [ga_if_eq] at ho2
        split at ho2
        · rename_i hv1
          simp only [Bool.and_eq_true] at hv1
          exact sx_stk S hcs hO okn hnx rfl ho2 (fun H locs ls st ad hsz hst => by
            obtain ⟨x, t, rfl, h1, h2⟩ := ga_sr_cons hst
            obtain ⟨y, t, rfl, h3, h4⟩ := ga_sr_cons h2
            exact ⟨x :: y :: x :: y :: t, ⟨h1, h3, h1, h3, h4⟩, fun w => lv_dup2_11 hx hb hdg (ga_one1 hv1.1 h1) (ga_one1 hv1.2 h3) w⟩)
        · cases ho2
  | pop =>
    obtain rfl : ln = 1 := Nat.eq_of_beq_eq_true hln
    cases sk with
    | nil => exact absurd (show (none : Option (List ga_O)) = some os from ho) (by simp)
    | cons v r =>
      have ho2 : ga_if (ga_one v) (go nx al r cs ss iv n h) none = some os := ho
      rw [ga_if_eq] at ho2
      split at ho2
      · rename_i hv1
        exact sx_stk S hcs hO okn hnx rfl ho2 (fun H locs ls st ad hsz hst => by
          obtain ⟨x, t, rfl, h1, h2⟩ := ga_sr_cons hst
          exact ⟨t, h2, fun w => lv_pop hx hb hdg (ga_one1 hv1 h1) w⟩)
      · cases ho2
  | iaload =>
    obtain rfl : ln = 1 := Nat.eq_of_beq_eq_true hln
    cases sk with
    | nil => exact absurd (show (none : Option (List ga_O)) = some os from ho) (by simp)
    | cons i0 sk =>
      cases sk with
      | nil => exact absurd (show (none : Option (List ga_O)) = some os from ho) (by simp)
      | cons r t =>
        have ho2 : ga_if (Nat.beq r 6) (ga_idx iv i0 (fun _ => none) (fun j => ga_if (Nat.blt j L) (ga_f (8 * j + 1) (fun v => go nx al (v :: t) cs ss iv n h)) none)) (ga_ald 100 go (pc, 1, .iaload, a, b, ps) nx al (i0 :: r :: t) cs ss iv n h) = some os := ho
        rw [ga_if_eq] at ho2
        split at ho2
        · rename_i hr6
          rw [ga_beq] at hr6
          subst hr6
          refine gg_idx ho2 (fun h0 o1 g1 g2 => ?_) (fun iv' o1 g1 g2 => by cases g1)
          simp only [ga_if_eq, ga_f_eq, Nat.blt_eq] at g1
          split at g1
          · rename_i hjL
            obtain ⟨e1, k⟩ := sd_nx S hcs (sd_sub hO g2) okn hnx g1
            intro H locs ls st hat
            obtain ⟨hi, hS, ad, ws, hw, hl, hs⟩ := hat
            obtain ⟨x, st0, rfl, hx0, hs0⟩ := ga_sr_cons hs
            obtain ⟨y, st1, rfl, h1, hs1⟩ := ga_sr_cons hs0
            have ex := ga_lit_of hi h0 hx0
            have ey := (ga_vr_6 (by decide)).mp h1
            subst ex; subst ey
            have hjb : ga_sm iv i0 / 8 < 1048576 := by omega
            have kk := k H locs ls (.int (ρ (ga_sm iv i0 / 8)) :: st1) ⟨hi, hS, ad, ws, hw, hl, (ga_vr_1 (by omega)).mpr (by rw [show (8 * (ga_sm iv i0 / 8) + 1) / 8 = ga_sm iv i0 / 8 by omega]), hs1⟩
            rw [e1] at kk
            refine va_sld hx hb hold.2.1 (Nat.lt_of_lt_of_le hold.1 hn0) (fun q => absurd hold.1 (Nat.not_lt.mpr q)) hS (ga_vpin hjb hjL) hdg ?_
            rw [ga_clamp hjb]
            exact kk
          · cases g1
        · exact sx_aldi (kind := 100) (Or.inl rfl) S hcs hO oke hnx rfl (fun H locs ls st ws q0 a1 j mm f hj1 hj2 hP he w => va_iald hx hb hK hP q0 0 he rfl (ga_vpin hj1 hj2) hdg (by rw [ga_clamp hj1]; exact w)) ho2
  | baload =>
    obtain rfl : ln = 1 := Nat.eq_of_beq_eq_true hln
    have ho2 : ga_if (Nat.beq a 104) (ga_ald 104 go (pc, 1, .baload, a, b, ps) nx al sk cs ss iv n h) (ga_ald 101 go (pc, 1, .baload, a, b, ps) nx al sk cs ss iv n h) = some os := ho
    rw [ga_if_eq] at ho2
    split at ho2
    · exact sx_aldi (kind := 104) (Or.inr (Or.inr rfl)) S hcs hO oke hnx rfl (fun H locs ls st ws q0 a1 j mm f hj1 hj2 hP he w => va_zald hx hb hK hP q0 4 he rfl (ga_vpin hj1 hj2) hdg (by rw [ga_clamp hj1]; exact w)) ho2
    · exact sx_aldi (kind := 101) (Or.inr (Or.inl rfl)) S hcs hO oke hnx rfl (fun H locs ls st ws q0 a1 j mm f hj1 hj2 hP he w => va_bald hx hb hK hP q0 1 he rfl (ga_vpin hj1 hj2) hdg (by rw [ga_clamp hj1]; exact w)) ho2
  | aaload =>
    obtain rfl : ln = 1 := Nat.eq_of_beq_eq_true hln
    exact sx_aldr S hcs hO oke hnx rfl (fun H locs ls st ws q0 a1 j mm f hj1 hj2 hP he w => va_aldq hx hb hK hP q0 3 he rfl (ga_vpin hj1 hj2) hdg (by rw [ga_clamp hj1]; exact w)) ho
  | iastore =>
    obtain rfl : ln = 1 := Nat.eq_of_beq_eq_true hln
    refine sx_asti (kind := 100) (f := ga_fi) (Or.inl rfl) S hcs hO oke hnx rfl (fun H locs ls st ad ws q0 a1 j mm v g x hj1 hj2 h7 hP hD hS he hv => ?_) ho
    have hfi : ga_int v = true ∧ ga_fi v = v := by
      unfold ga_fi at h7 ⊢
      rw [ga_if_eq] at h7 ⊢
      split at h7
      · rename_i q; exact ⟨q, if_pos q⟩
      · exact absurd rfl h7
    obtain ⟨y, rfl⟩ := ga_vr_int hfi.1 hv
    refine ⟨y, by rw [hfi.2]; exact hv, fun kk => ?_⟩
    refine va_iast hx hb hK hP hD hS q0 0 he rfl (ga_vpin hj1 hj2) hdg ?_
    rw [ga_clamp hj1]
    exact kk
  | bastore =>
    obtain rfl : ln = 1 := Nat.eq_of_beq_eq_true hln
    have ho2 : ga_if (Nat.beq a 104) (ga_ast 104 ga_fz go (pc, 1, .bastore, a, b, ps) nx al sk cs ss iv n h) (ga_ast 101 ga_i2b go (pc, 1, .bastore, a, b, ps) nx al sk cs ss iv n h) = some os := ho
    rw [ga_if_eq] at ho2
    split at ho2
    · refine sx_asti (kind := 104) (f := ga_fz) (Or.inr (Or.inr rfl)) S hcs hO oke hnx rfl (fun H locs ls st ad ws q0 a1 j mm v g x hj1 hj2 h7 hP hD hS he hv => ?_) ho2
      have hfz : (v = 0 ∨ v = 8) ∧ ga_fz v = v := by
        unfold ga_fz at h7 ⊢
        simp only [ga_if_eq, Bool.or_eq_true, ga_beq] at h7 ⊢
        split at h7
        · rename_i q; exact ⟨q, if_pos q⟩
        · exact absurd rfl h7
      have hxx : ∃ y : Int32, x = .int y ∧ vp_nar .boolean y = y := by
        rcases hfz.1 with rfl | rfl
        · exact ⟨_, ((ga_vr_0 (by decide)).mp hv).2, by decide +kernel⟩
        · exact ⟨_, ((ga_vr_0 (by decide)).mp hv).2, by decide +kernel⟩
      obtain ⟨y, rfl, hy⟩ := hxx
      refine ⟨y, by rw [hfz.2]; exact hv, fun kk => ?_⟩
      refine va_zast hx hb hK hP hD hS q0 4 he rfl (ga_vpin hj1 hj2) hdg ?_
      rw [ga_clamp hj1, hy]
      exact kk
    · refine sx_asti (kind := 101) (f := ga_i2b) (Or.inr (Or.inl rfl)) S hcs hO oke hnx rfl (fun H locs ls st ad ws q0 a1 j mm v g x hj1 hj2 h7 hP hD hS he hv => ?_) ho2
      obtain ⟨y, rfl, hy⟩ := ga_i2b_ok v x hv h7
      refine ⟨_, hy, fun kk => ?_⟩
      refine va_bast hx hb hK hP hD hS q0 1 he rfl (ga_vpin hj1 hj2) hdg ?_
      rw [ga_clamp hj1, vp_nar_byte]
      exact kk
  | lastore =>
    obtain rfl : ln = 1 := Nat.eq_of_beq_eq_true hln
    exact sx_astl S hcs hO oke hnx rfl (fun H locs ls st ws q0 a1 j mm f x hj1 hj2 hP hD hS he kk => by
      refine va_last hx hb hK hP hD hS q0 2 he rfl (ga_vpin hj1 hj2) hdg ?_
      rw [ga_clamp hj1]
      exact kk) ho
  | aastore =>
    obtain rfl : ln = 1 := Nat.eq_of_beq_eq_true hln
    have hw : (match gm_cl[a]? with | some q => decide (q.1 = "GravyRound$Table") | none => false) = true := hwb
    cases hq : gm_cl[a]? with
    | none => rw [hq] at hw; cases hw
    | some q =>
      rw [hq] at hw
      have hq1 : q.1 = "GravyRound$Table" := of_decide_eq_true hw
      have hg := gn_all a q hq
      exact sx_astr (ci := a) hg.2.2.2.2.2.1 S hcs hO oke hnx rfl (fun H locs ls st ws q0 qk a1 x j mm f fs hj1 hj2 hP hD hS he hev kk => by
        refine va_astq hx hb hK hP hD hS q0 3 qk a he (by rw [hq1]; rfl) hev hq (ga_vpin hj1 hj2) hdg ?_
        rw [ga_clamp hj1]
        exact kk) ho
  | arraylength =>
    obtain rfl : ln = 1 := Nat.eq_of_beq_eq_true hln
    cases sk with
    | nil => exact absurd (show (none : Option (List ga_O)) = some os from ho) (by simp)
    | cons r t =>
      have ho2 : ga_if (Nat.beq r 6) (go nx al (8 * L :: t) cs ss iv n h) (ga_if (ga_ref r) (match ga_hg h (r / 8) with | (k, m, _) => ga_if (and (and (Nat.ble 100 k) (Nat.ble k 104)) (Nat.blt m 4294967296)) (ga_f (8 * m) (fun v => go nx al (v :: t) cs ss iv n h)) none) none) = some os := ho
      rw [ga_if_eq] at ho2
      split at ho2
      · rename_i hr6
        rw [ga_beq] at hr6
        subst hr6
        obtain ⟨e1, k⟩ := sd_nx S hcs hO okn hnx ho2
        intro H locs ls st hat
        obtain ⟨hi, hS, ad, ws, hw, hl, hs⟩ := hat
        obtain ⟨x, st0, rfl, hx0, hs0⟩ := ga_sr_cons hs
        have ey := (ga_vr_6 (by decide)).mp hx0
        subst ey
        have kk := k H locs ls (.int (nI L) :: st0) ⟨hi, hS, ad, ws, hw, hl, ga_lit L (by omega), hs0⟩
        rw [e1] at kk
        exact va_slen hx hb hold.2.1 (Nat.lt_of_lt_of_le hold.1 hn0) (fun q => absurd hold.1 (Nat.not_lt.mpr q)) hS hdg kk
      · rw [ga_if_eq] at ho2
        split at ho2
        · rename_i hr
          rcases hcell : ga_hg h (r / 8) with ⟨c1, mm, vs⟩
          rw [hcell] at ho2
          simp only [ga_if_eq, ga_f_eq, Bool.and_eq_true, Nat.ble_eq, Nat.blt_eq] at ho2
          split at ho2
          · rename_i hq
            obtain ⟨e1, k⟩ := sd_nx S hcs hO okn hnx ho2
            have htk : ∃ (t0 : Nat) (ty : FieldType), (ga_tys ta)[t0]? = some (ta c1, ty) := by
              have : c1 = 100 ∨ c1 = 101 ∨ c1 = 102 ∨ c1 = 103 ∨ c1 = 104 := by omega
              rcases this with rfl | rfl | rfl | rfl | rfl
              · exact ⟨0, _, rfl⟩
              · exact ⟨1, _, rfl⟩
              · exact ⟨2, _, rfl⟩
              · exact ⟨3, _, rfl⟩
              · exact ⟨4, _, rfl⟩
            obtain ⟨t0, ty, ht0⟩ := htk
            exact gg_alen (pc := pc) rfl hr hcell hq.1.1 hq.1.2 hq.2 (fun H locs ls st ws q0 a1 x hP he hx1 w => va_alen (v := nI mm) hx hb hK hP q0 t0 he ht0 (by rw [hx1]; rfl) hdg (by rw [e1] at w; exact w)) k
          · cases ho2
        · cases ho2
  | new idx =>
    obtain rfl : ln = 3 := Nat.eq_of_beq_eq_true hln
    have hw : (match gm_cl[a]? with | some q => Nat.beq b q.2.2 && ga_w1 ps (fun w => gw_ok w.2 (.classLink own idx q.1)) | none => false) = true := hwb
    cases hq : gm_cl[a]? with
    | none => rw [hq] at hw; cases hw
    | some q =>
      rw [hq] at hw
      simp only [Bool.and_eq_true, ga_beq] at hw
      obtain ⟨hb2, hw2⟩ := hw
      obtain ⟨w0, r0, -, hw0⟩ := ga_w1_ok hw2
      have hg := gn_all a q hq
      obtain ⟨ty, hty, hdv⟩ := hg.2.2.1
      subst hb2
      refine sx_new (cK := a) (mm := 0) (vs := gm_df a) (sz := q.2.2) (sk' := sk) S hO okn hnx rfl (fun H locs ls st ad ws hc1 hc2 hP hD hS hi hs => ⟨.inr (a, (gm_df a).map ga_cv), st, fun qq => Or.inl ⟨hg.2.2.2.2.2.1, _, rfl, by simp, fun j v hv => ⟨ga_cv v, by rw [List.getElem?_map, show (gm_df a)[j]? = some v from hv]; rfl, ?_⟩⟩, hs, fun kk => ?_⟩) ho
      · rcases hg.2.2.2.2.2.2.2 v (List.mem_of_getElem? hv) with rfl | rfl | rfl
        · exact ga_z0
        · exact (ga_vr_4 (by decide)).mpr rfl
        · exact (ga_vr_5 (by decide)).mpr ⟨by decide, rfl⟩
      · obtain ⟨C, T, N⟩ := q
        exact va_new hx hb hts hg.1 ty hty hown (hts _ (gw_mem hw0)) (hts _ hg.2.2.2.1) (hts _ hg.2.2.2.2.1) hK hP hD hS hA hq hdv (Nat.le_trans hc1 hRc) (Nat.le_trans hc2 hRs) hdg kk
  | newarray t =>
    obtain rfl : ln = 2 := Nat.eq_of_beq_eq_true hln
    cases sk with
    | nil => exact absurd (show (none : Option (List ga_O)) = some os from ho) (by simp)
    | cons mq r =>
      have ho2 : ga_if (and (Nat.beq (mq % 8) 0) (Nat.blt (mq / 8) 1048576)) (ga_f (mq / 8) (fun m => ga_new a m [] m cm sm go nx al r cs ss iv n h)) none = some os := ho
      simp only [ga_if_eq, ga_f_eq, Bool.and_eq_true, ga_beq, Nat.blt_eq] at ho2
      split at ho2
      · rename_i hm
        have hnn : ¬ nI (mq / 8) < 0 := nI_pos (by omega)
        have arr : ∀ {kk0 t0 : Nat} {ty : FieldType} {at0 : ArrayType} (i0 : Nat), a = kk0 → (kk0 = 100 ∨ kk0 = 101 ∨ kk0 = 104) → t = at0 → newarray.typeOf at0 = ty → (∀ (N' : Nat) (cA : ClassId), vp_cell cA (N', .inl (fun _ => 0)) = arrV cA N' (fun _ => defaultValue ty)) → componentBytes ty ≤ 8 → (ga_tys ta)[i0]? = some (ta kk0, ty) → Cond.arrayClass (newarray.typeOf at0) ∈ gw_tbl → ga_Go p l e R s m args below meth c Q ρ oa ta D n0 nL ((pc, 2, .newarray t, a, b, ps) :: nx) al (mq :: r) cs ss iv n h := by
          intro kk0 t0 ty at0 i0 ha hk0 ht hty hcell hby hti hwd
          subst ha; subst ht
          refine sx_new (cK := a) (mm := mq / 8) (vs := []) (sz := mq / 8) (sk' := r) S hO okn hnx rfl (fun H locs ls st ad ws hc1 hc2 hP hD hS hi hs => ?_) ho2
          obtain ⟨x, st1, rfl, hx1, hs1⟩ := ga_sr_cons hs
          have ex := ((ga_vr_0 hm.1).mp hx1).2
          subst ex
          refine ⟨.inl (ta a, mq / 8, .inl (fun _ => 0)), st1, fun q => Or.inr (Or.inl ⟨hk0, _, rfl, fun j _ => ga_z0⟩), hs1, fun kk => ?_⟩
          refine va_newa hx hb (hts _ hwd) hty hK hP hD hS hA (hcell (mq / 8)) hnn (ga_clamp hm.2) ?_ (Nat.le_trans hc1 hRc) (Nat.le_trans hc2 hRs) hdg (fun q cA H1 hK2 hP1 hD1 hS1 => ?_)
          · have : mq / 8 * componentBytes ty ≤ mq / 8 * 8 := Nat.mul_le_mul_left _ hby
            omega
          · have ec := ga_ta hK hti hK2
            subst ec
            exact kk q H1 hP1 hD1 hS1
        cases t with
        | int =>
          have hw : (Nat.beq a 100 && ga_w1 ps (fun w => gw_ok w.2 (.arrayClass .int))) = true := hwb
          simp only [Bool.and_eq_true, ga_beq] at hw
          obtain ⟨w0, r0, -, hw0⟩ := ga_w1_ok hw.2
          exact arr (at0 := .int) (t0 := 0) 0 hw.1 (Or.inl rfl) rfl rfl (fun _ _ => rfl) (by decide) rfl (gw_mem hw0)
        | byte =>
          have hw : (Nat.beq a 101 && ga_w1 ps (fun w => gw_ok w.2 (.arrayClass .byte))) = true := hwb
          simp only [Bool.and_eq_true, ga_beq] at hw
          obtain ⟨w0, r0, -, hw0⟩ := ga_w1_ok hw.2
          exact arr (at0 := .byte) (t0 := 0) 1 hw.1 (Or.inr (Or.inl rfl)) rfl rfl (fun _ _ => rfl) (by decide) rfl (gw_mem hw0)
        | boolean =>
          have hw : (Nat.beq a 104 && ga_w1 ps (fun w => gw_ok w.2 (.arrayClass .boolean))) = true := hwb
          simp only [Bool.and_eq_true, ga_beq] at hw
          obtain ⟨w0, r0, -, hw0⟩ := ga_w1_ok hw.2
          exact arr (at0 := .boolean) (t0 := 0) 4 hw.1 (Or.inr (Or.inr rfl)) rfl rfl (fun _ _ => rfl) (by decide) rfl (gw_mem hw0)
        | long =>
          have hw : (Nat.beq a 102 && ga_w1 ps (fun w => gw_ok w.2 (.arrayClass .long))) = true := hwb
          simp only [Bool.and_eq_true, ga_beq] at hw
          obtain ⟨ha, hw2⟩ := hw
          obtain ⟨w0, r0, -, hw0⟩ := ga_w1_ok hw2
          subst ha
          refine sx_new (cK := 102) (mm := mq / 8) (vs := []) (sz := mq / 8) (sk' := r) S hO okn hnx rfl (fun H locs ls st ad ws hc1 hc2 hP hD hS hi hs => ?_) ho2
          obtain ⟨x, st1, rfl, hx1, hs1⟩ := ga_sr_cons hs
          have ex := ((ga_vr_0 hm.1).mp hx1).2
          subst ex
          refine ⟨.inl (ta 102, mq / 8, .inr (.inl (fun _ => 0))), st1, fun q => Or.inr (Or.inr (Or.inl ⟨rfl, _, rfl, fun j _ => (show ga_vr ρ oa (ad ++ [q]) 5 (.long 0) from (ga_vr_5 (by decide)).mpr ⟨by decide, rfl⟩)⟩)), hs1, fun kk => ?_⟩
          refine va_newa (atype := .long) (ty := .long) (a0 := (mq / 8, .inr (.inl (fun _ => 0)))) hx hb (hts _ (gw_mem hw0)) rfl hK hP hD hS hA (fun _ => rfl) hnn (ga_clamp hm.2) ?_ (Nat.le_trans hc1 hRc) (Nat.le_trans hc2 hRs) hdg (fun q cA H1 hK2 hP1 hD1 hS1 => ?_)
          · show mq / 8 * 8 ≤ _
            omega
          · have ec := ga_ta (k := 2) (t := 102) hK rfl hK2
            subst ec
            exact kk q H1 hP1 hD1 hS1
        | _ => exact absurd (show false = true from hwb) (by simp)
      · cases ho2
  | anewarray idx =>
    obtain rfl : ln = 3 := Nat.eq_of_beq_eq_true hln
    cases sk with
    | nil => exact absurd (show (none : Option (List ga_O)) = some os from ho) (by simp)
    | cons mq r =>
      have ho2 : ga_if (and (Nat.beq (mq % 8) 0) (Nat.blt (mq / 8) 1048576)) (ga_f (mq / 8) (fun m => ga_new 103 m [] m cm sm go nx al r cs ss iv n h)) none = some os := ho
      have hw : ga_w1 ps (fun w => gw_ok w.2 (.classLink own idx "GravyRound$Table")) = true := hwb
      obtain ⟨w0, r0, -, hw0⟩ := ga_w1_ok hw
      simp only [ga_if_eq, ga_f_eq, Bool.and_eq_true, ga_beq, Nat.blt_eq] at ho2
      split at ho2
      · rename_i hm
        have hnn : ¬ nI (mq / 8) < 0 := nI_pos (by omega)
        refine sx_new (cK := 103) (mm := mq / 8) (vs := []) (sz := mq / 8) (sk' := r) S hO okn hnx rfl (fun H locs ls st ad ws hc1 hc2 hP hD hS hi hs => ?_) ho2
        obtain ⟨x, st1, rfl, hx1, hs1⟩ := ga_sr_cons hs
        have ex := ((ga_vr_0 hm.1).mp hx1).2
        subst ex
        refine ⟨.inl (ta 103, mq / 8, .inr (.inr (.inr (.inr (fun _ => none))))), st1, fun q => Or.inr (Or.inr (Or.inr ⟨rfl, _, rfl, fun j _ => (show ga_vr ρ oa (ad ++ [q]) 4 .null from (ga_vr_4 (by decide)).mpr rfl)⟩)), hs1, fun kk => ?_⟩
        refine va_newq hx hb hown (hts _ (gw_mem hw0)) hold.2.2.2.1 hK hP hD hS hA hnn (ga_clamp hm.2) (by omega) (Nat.le_trans hc1 hRc) (Nat.le_trans hc2 hRs) hdg (fun q cA H1 hK2 hP1 hD1 hS1 => ?_)
        have ec := ga_ta (k := 3) (t := 103) hK rfl hK2
        subst ec
        exact kk q H1 hP1 hD1 hS1
      · cases ho2
  | invokestatic idx =>
    obtain rfl : ln = 3 := Nat.eq_of_beq_eq_true hln
    have ho2 : ga_if (Nat.beq a 1001) (ga_acp go nx al sk cs ss iv n h) (ga_inv gm_me call a false cm sm go nx al sk cs ss iv n h) = some os := ho
    have hw : (if a = 1001 then ga_w1 ps (fun w => gw_ok w.2 (.methodLink own idx arraycopyName)) else if a < 998 then ga_w1 ps (fun w => gw_ok w.2 (.methodLink own idx (gm_i a).1)) && Nat.beq (gm_me a).2.2.2.2.2.2.2 999 else true) = true := hwb
    rw [ga_if_eq] at ho2
    split at ho2
    · rename_i h1001
      rw [ga_beq] at h1001
      rw [if_pos h1001] at hw
      obtain ⟨w0, r0, -, hw0⟩ := ga_w1_ok hw
      have hnf : nativeFrameWords "java/lang/System" "arraycopy" 5 ≤ 100 := by decide +kernel
      refine sx_acp hx hb S hcs hO okn hnx rfl (fun H locs ls st ws q0 q1 A B sp dp mm la lb f g hsz hwd hb1 hb2 hb3 hs1 hs2 hP hD hS hA1 hB1 kk => ?_) (fun H locs ls st ws q0 q1 A B sp dp mm la lb f g hsz hwd hb1 hb2 hb3 hs1 hs2 hP hD hS hA1 hB1 kk => ?_) ho2
      · refine va_copyi (ty := .int) hx hb (hml.trans hsz.symm) hown (hts _ (gw_mem hw0)) (hts _ (gw_mem (i := 653) (by decide +kernel))) (hts _ (gw_mem (i := 652) (by decide +kernel))) (hts _ (gw_mem (i := 139) (by decide +kernel))) hK hP hD hS q0 q1 0 0 hA1 hB1 rfl rfl rfl (nI_pos (by omega)) (nI_pos (by omega)) (nI_pos (by omega)) (by rw [ga_clamp hb1, ga_clamp hb3]; exact hs1) (by rw [ga_clamp hb2, ga_clamp hb3]; exact hs2) (fun _ _ => rfl) (by omega) (by omega) hdg ?_
        rw [ga_clamp hb1, ga_clamp hb2, ga_clamp hb3]
        exact kk
      · refine va_copyl (ty := .long) hx hb (hml.trans hsz.symm) hown (hts _ (gw_mem hw0)) (hts _ (gw_mem (i := 653) (by decide +kernel))) (hts _ (gw_mem (i := 652) (by decide +kernel))) (hts _ (gw_mem (i := 139) (by decide +kernel))) hK hP hD hS q0 q1 2 2 hA1 hB1 rfl rfl rfl (nI_pos (by omega)) (nI_pos (by omega)) (nI_pos (by omega)) (by rw [ga_clamp hb1, ga_clamp hb3]; exact hs1) (by rw [ga_clamp hb2, ga_clamp hb3]; exact hs2) (fun _ _ => rfl) (by omega) (by omega) hdg ?_
        rw [ga_clamp hb1, ga_clamp hb2, ga_clamp hb3]
        exact kk
    · rename_i h1001
      have hn1 : ¬ a = 1001 := fun q => h1001 (by rw [q]; rfl)
      rw [if_neg hn1] at hw
      have hw2 : a < 998 → Cond.methodLink own idx (gm_i a).1 ∈ gw_tbl ∧ gm_ci a = 999 := by
        intro hlt
        rw [if_pos hlt] at hw
        simp only [Bool.and_eq_true, ga_beq] at hw
        obtain ⟨w0, r0, -, hw0⟩ := ga_w1_ok hw.1
        exact ⟨gw_mem hw0, hw.2⟩
      exact sx_inv (kind := 3) (idx := idx) (virt := false) hx hb hml hown hts hK hn0 hold hRf hRl hRc hRs HC S hO okn hnx rfl (fun hlt => Or.inr (Or.inr (Or.inr ⟨rfl, hts _ (hw2 hlt).1⟩))) (by simp) (by omega) (by omega) (fun _ => hdg) (fun hlt _ => (hw2 hlt).2) (fun _ q => absurd rfl q) (fun _ q => absurd q (by decide)) (fun _ q => absurd q (by decide)) ho2
  | invokevirtual idx =>
    obtain rfl : ln = 3 := Nat.eq_of_beq_eq_true hln
    have ho2 : ga_if (Nat.ble a 999) (ga_inv gm_me call a true cm sm go nx al sk cs ss iv n h) (ga_if (Nat.beq a 1004) none (ga_txt gm_tx a go nx al sk cs ss iv n h)) = some os := ho
    have hw : (if a < 998 then ga_w1 ps (fun w => gw_ok w.2 (.methodLink own idx (gm_i a).1)) && decide (¬ (gm_i a).1.name = "<init>" ∧ ¬ (gm_me a).2.2.2.2.2.2.2 = 999) else if a = 1002 then ga_w1 ps (fun w => gw_ok w.2 (.methodLink own idx ga_yLen)) else if a = 1003 then ga_w1 ps (fun w => gw_ok w.2 (.methodLink own idx ga_yChr)) else if a = 1004 then ga_w1 ps (fun w => gw_ok w.2 (.methodLink own idx ga_yIdx)) else Nat.beq a 998) = true := hwb
    rw [ga_if_eq] at ho2
    split at ho2
    · rename_i hle
      have hw2 : a < 998 → Cond.methodLink own idx (gm_i a).1 ∈ gw_tbl ∧ ¬ (gm_i a).1.name = "<init>" ∧ ¬ gm_ci a = 999 := by
        intro hlt
        rw [if_pos hlt] at hw
        simp only [Bool.and_eq_true, decide_eq_true_eq] at hw
        obtain ⟨w0, r0, -, hw0⟩ := ga_w1_ok hw.1
        exact ⟨gw_mem hw0, hw.2⟩
      exact sx_inv (kind := 0) (idx := idx) (virt := true) hx hb hml hown hts hK hn0 hold hRf hRl hRc hRs HC S hO okn hnx rfl (fun hlt => Or.inl ⟨rfl, hts _ (hw2 hlt).1⟩) (by simp) (fun _ => hdg) (by omega) (by omega) (fun _ q => absurd q (by decide)) (fun hlt _ => (hw2 hlt).2.2) (fun hlt _ => (hw2 hlt).2.1) (fun _ q => absurd q (by decide)) ho2
    · rename_i hle
      have hgt : ¬ a ≤ 999 := fun q => hle (Nat.ble_eq.mpr q)
      rw [if_neg (by omega)] at hw
      rw [ga_if_eq] at ho2
      have h4 : ¬ a = 1004 := by
        intro q
        rw [if_pos (by rw [q]; rfl)] at ho2
        cases ho2
      rw [if_neg (by rw [ga_beq]; exact h4)] at ho2
      unfold ga_txt at ho2
      rw [ga_if_eq] at ho2
      split at ho2
      · rename_i ha
        rw [ga_beq] at ha
        rw [if_pos ha] at hw
        obtain ⟨w0, r0, -, hw0⟩ := ga_w1_ok hw
        cases sk with
        | nil => cases ho2
        | cons r t =>
          simp only [ga_if_eq, ga_f_eq, Bool.and_eq_true, ga_beq, Nat.ble_eq] at ho2
          split at ho2
          · rename_i hq
            obtain ⟨rfl, hwd⟩ := hq
            obtain ⟨e1, k⟩ := sd_nx S hcs hO okn hnx ho2
            intro H locs ls st hat
            obtain ⟨hi, hS, ad, ws, hw1, hl, hs⟩ := hat
            obtain ⟨x, st0, rfl, hx0, hs0⟩ := ga_sr_cons hs
            have ey := (ga_vr_6 (by decide)).mp hx0
            subst ey
            have kk := k H locs ls (.int (nI 91) :: st0) ⟨hi, hS, ad, ws, hw1, hl, ga_lit 91 (by decide), hs0⟩
            rw [e1] at kk
            exact TX.1 H locs ls st0 cs ss idx pc (gw_mem hw0) hdg hl.1 (by rw [ga_sr_wd hs0]; exact hwd) (Nat.le_trans hcs.1 hRc) (Nat.le_trans hcs.2 hRs) hS kk
          · cases ho2
      · rename_i ha
        have hna : ¬ a = 1002 := fun q => ha (by rw [q]; rfl)
        rw [if_neg hna] at hw
        split at hw
        · obtain ⟨w0, r0, -, hw0⟩ := ga_w1_ok hw
          cases sk with
          | nil => cases ho2
          | cons i0 sk =>
            cases sk with
            | nil => cases ho2
            | cons r t =>
              simp only [ga_if_eq, ga_f_eq, Bool.and_eq_true, ga_beq, Nat.ble_eq, Nat.blt_eq] at ho2
              split at ho2
              · rename_i hq
                obtain ⟨⟨rfl, hi8⟩, hwd, hjl⟩ := hq
                obtain ⟨e1, k⟩ := sd_nx S hcs hO okn hnx ho2
                intro H locs ls st hat
                obtain ⟨hi, hS, ad, ws, hw1, hl, hs⟩ := hat
                obtain ⟨x, st0, rfl, hx0, hs0⟩ := ga_sr_cons hs
                obtain ⟨y, st1, rfl, hy0, hs1⟩ := ga_sr_cons hs0
                have ex := ((ga_vr_0 hi8).mp hx0).2
                have ey := (ga_vr_6 (by decide)).mp hy0
                subst ex; subst ey
                have hjl2 : i0 / 8 < 91 := hjl
                rw [ga_nth_eq] at k
                have hch : gm_tx.getD (i0 / 8) 0 < 4294967296 := by
                  have : ∀ j, j < 91 → gm_tx.getD j 0 < 4294967296 := by decide +kernel
                  exact this _ hjl2
                have kk := k H locs ls (.int (nI (gm_tx.getD (i0 / 8) 0)) :: st1) ⟨hi, hS, ad, ws, hw1, hl, ga_lit _ hch, hs1⟩
                rw [e1] at kk
                exact TX.2 H locs ls st1 cs ss idx pc (i0 / 8) (gw_mem hw0) hdg hl.1 (by rw [ga_sr_wd hs1]; exact hwd) (Nat.le_trans hcs.1 hRc) (Nat.le_trans hcs.2 hRs) hjl2 hS kk
              · cases ho2
        · rw [ga_beq] at hw
          omega
  | invokespecial idx =>
    obtain rfl : ln = 3 := Nat.eq_of_beq_eq_true hln
    have hw : (if a = 1000 then ga_w1 ps (fun w => gw_ok w.2 (.methodLink own idx objectInit)) else if a < 998 then ga_w1 ps (fun w => if w.1 = 0 then gw_ok w.2 (.methodLink own idx (gm_i a).1) else gw_nk w.2 (.methodLinkNest own idx (gm_i a).1 "GravyRound")) && decide ((gm_i a).1.name = "<init>" ∧ ¬ (gm_me a).2.2.2.2.2.2.2 = 999) else true) = true := hwb
    by_cases h1000 : a = 1000
    · rw [if_pos h1000] at hw
      obtain ⟨w0, r0, -, hw0⟩ := ga_w1_ok hw
      have hbt : Nat.beq a 1000 = true := by rw [h1000]; rfl
      cases sk with
      | nil =>
        have ho2 : ga_if (Nat.beq a 1000) none (ga_inv gm_me call a true cm sm go nx al [] cs ss iv n h) = some os := ho
        rw [hbt] at ho2
        cases ho2
      | cons r t =>
        have ho2 : ga_if (Nat.beq a 1000) (ga_if (and (ga_ref r) (Nat.ble (ga_wd t) 8)) (go nx al t cs ss iv n h) none) (ga_inv gm_me call a true cm sm go nx al (r :: t) cs ss iv n h) = some os := ho
        rw [hbt, ga_if_t] at ho2
        simp only [ga_if_eq, Bool.and_eq_true, Nat.ble_eq] at ho2
        split at ho2
        · rename_i hq
          exact sx_stk S hcs hO okn hnx rfl ho2 (fun H locs ls st ad hsz hst => by
            obtain ⟨x, st0, rfl, h1, h2⟩ := ga_sr_cons hst
            have h3 : r % 8 = 3 := by simpa [ga_ref, ga_beq] using hq.1
            obtain ⟨y, -, rfl⟩ := (ga_vr_3 h3).mp h1
            refine ⟨st0, h2, fun w => W.objInit hx hb hown (hts _ (gw_mem hw0)) (hts _ (gw_mem (i := 149) (by decide +kernel))) (hts _ (gw_mem (i := 150) (by decide +kernel))) rfl (by rw [hml]; exact hsz) rfl hdg (by omega) ?_ w⟩
            rw [ga_sr_wd h2]
            show 2 * 0 + _ + 12 ≤ _
            omega)
        · cases ho2
    · have hn1 : ¬ a = 1000 := h1000
      have hbf : Nat.beq a 1000 = false := by
        cases hbb : Nat.beq a 1000 with
        | false => rfl
        | true => exact absurd (Nat.eq_of_beq_eq_true hbb) hn1
      have ho1 : ga_if (Nat.beq a 1000) _ (ga_inv gm_me call a true cm sm go nx al sk cs ss iv n h) = some os := ho
      rw [hbf] at ho1
      have ho2 : ga_inv gm_me call a true cm sm go nx al sk cs ss iv n h = some os := ho1
      rw [if_neg hn1] at hw
      by_cases hlt : a < 998
      · rw [if_pos hlt] at hw
        simp only [Bool.and_eq_true, decide_eq_true_eq] at hw
        obtain ⟨w0, r0, -, hw0⟩ := ga_w1_ok hw.1
        by_cases hk0 : w0.1 = 0
        · rw [if_pos hk0] at hw0
          exact sx_inv (kind := 1) (idx := idx) (virt := true) hx hb hml hown hts hK hn0 hold hRf hRl hRc hRs HC S hO okn hnx rfl (fun _ => Or.inr (Or.inl ⟨rfl, hts _ (gw_mem hw0)⟩)) (by simp) (by omega) (fun _ => hdg) (by omega) (fun _ q => absurd q (by decide)) (fun _ _ => hw.2.2) (fun _ q => absurd q (by decide)) (fun _ _ => hw.2.1) ho2
        · rw [if_neg hk0] at hw0
          exact sx_inv (kind := 2) (idx := idx) (virt := true) hx hb hml hown hts hK hn0 hold hRf hRl hRc hRs HC S hO okn hnx rfl (fun _ => Or.inr (Or.inr (Or.inl ⟨rfl, hold.2.2.1 _ (gw_nmem hw0)⟩))) (by simp) (by omega) (fun _ => hdg) (by omega) (fun _ q => absurd q (by decide)) (fun _ _ => hw.2.2) (fun _ q => absurd q (by decide)) (fun _ _ => hw.2.1) ho2
      · exact sx_inv (kind := 1) (idx := idx) (virt := true) hx hb hml hown hts hK hn0 hold hRf hRl hRc hRs HC S hO okn hnx rfl (fun q => absurd q hlt) (by simp) (by omega) (fun _ => hdg) (by omega) (fun q => absurd q hlt) (fun q => absurd q hlt) (fun q => absurd q hlt) (fun q => absurd q hlt) ho2
  | _ => exact absurd (show (none : Option (List ga_O)) = some os from ho) (by simp)
end GZ
