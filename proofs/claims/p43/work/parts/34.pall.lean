/-! every step, every run, every call of the plain machine is one of the JVM -/
theorem gp_lN_inj {a b : Nat} (ha : a < 18446744073709551616) (hb : b < 18446744073709551616) (h : lN a = lN b) : a = b := by
  have h1 : (lN a).toBitVec.toNat = (lN b).toBitVec.toNat := by rw [h]
  have e : ∀ n, (lN n).toBitVec.toNat = n % 18446744073709551616 := fun n => BitVec.toNat_ofNat n 64
  rw [e, e, Nat.mod_eq_of_lt ha, Nat.mod_eq_of_lt hb] at h1
  exact h1
theorem gp_cmp0 {x y : Int64} (h : (lg_cmp x y).toInt = 0) : x = y := by
  unfold lg_cmp at h
  split at h
  · exact absurd h (by decide)
  · split at h
    · assumption
    · exact absurd h (by decide)
theorem gp_cmp1 (x : Int64) : (lg_cmp x x).toInt = 0 := by
  unfold lg_cmp
  rw [if_neg Int64.lt_irrefl, if_pos rfl]
  rfl
section PZ
variable {p : Program} {l : Launch} {e : Env} {R : Room} {s : State} {m : MethodId} {args : Array Value} {below : List Frame} {meth : Method} {c : Code} {Q : State → Prop}
variable {oa : Nat → Nat} {ta : Nat → ClassId} {D : va_G} {n0 nL d nc ns : Nat} {ad : List Nat} {sh : Nat → gp_T} {old : State → Prop} {own : String} {cc : ByteArray} {ini : Bool} {al sk : List gp_V} {σ : gp_S} {C : gp_K} {G : gp_G} {rc : Nat} {Ψ : gp_F} {ev : ga_E}
theorem gp_li_b {a : Nat} (h : ga_lb a = true) : gp_li a = (nI (a / 8)).toInt := gp_li_i (ga_lb_ok h).2
set_option maxHeartbeats 4000000 in
set_option maxRecDepth 100000 in
theorem gp_step_ok (hx : p.tables.exec = Jvm.exec) (hb : c.code = cc) (hml : c.maxLocals = nL) (hown : s.vm.findClass own = some m.cls) (hts : ∀ w ∈ gw_tbl, w.before args s = true) (hK : va_K D gm_cl (ga_tys ta) s) (hn0 : n0 ≤ s.heap.size) (hold : old s) (HO : gp_OL n0 old) (hinit : ini = true → meth.name = "<init>")
    (hRf : d + 11 ≤ R.frames) (hRl : 100 * (d + 11) ≤ R.locals) (hft : nc ≤ R.cells ∧ ns ≤ R.slots) (HC : gp_CS l oa ta D n0 old sh ad d C) (TX : gp_TX p l e R s m args below meth c Q oa n0 nL own cc nc ns)
    (oe : ga_oe own cc ini nL ev = true) (HG : ∀ pc al sk σ, G pc al sk σ → gp_Go p l e R s m args below meth c Q oa ta D n0 nL ad sh nc ns pc al sk σ)
    (HR : ∀ al sk σ, (ev.2.2.1 = .ireturn ∨ ev.2.2.1 = .return_ ∨ ev.2.2.1 = .areturn ∨ ev.2.2.1 = .lreturn) → gp_step sh C rc Ψ G ev al sk σ → gp_Go p l e R s m args below meth c Q oa ta D n0 nL ad sh nc ns ev.1 al sk σ)
    (h : gp_step sh C rc Ψ G ev al sk σ) : gp_Go p l e R s m args below meth c Q oa ta D n0 nL ad sh nc ns ev.1 al sk σ := by
  obtain ⟨pc, ln, i, a, b, ps⟩ := ev
  unfold ga_oe at oe
  simp only [Bool.and_eq_true, decide_eq_true_eq] at oe
  obtain ⟨⟨hdg, hln⟩, hwb⟩ := oe
  show gp_Go p l e R s m args below meth c Q oa ta D n0 nL ad sh nc ns pc al sk σ
  have le : ∀ X Y : Int32, X ≤ Y ↔ X.toInt ≤ Y.toInt := fun X Y => Int32.le_iff_toInt_le
  have lt : ∀ X Y : Int32, X < Y ↔ X.toInt < Y.toInt := fun X Y => Int32.lt_iff_toInt_lt
  have eq : ∀ X Y : Int32, X = Y ↔ X.toInt = Y.toInt := fun X Y => Int32.toInt_inj.symm
  have z0 : (0 : Int32).toInt = 0 := rfl
  cases i with
  | ireturn => exact HR al sk σ (Or.inl rfl) h
  | return_ => exact HR al sk σ (Or.inr (Or.inl rfl)) h
  | areturn => exact HR al sk σ (Or.inr (Or.inr (Or.inl rfl))) h
  | lreturn => exact HR al sk σ (Or.inr (Or.inr (Or.inr rfl))) h
  | aload_n k =>
    obtain rfl : ln = 1 := Nat.eq_of_beq_eq_true hln
    exact gp_load (i := k.val) rfl HG (fun H locs ls st v x hk hv hl w => by
      obtain ⟨y, rfl⟩ := gp_vr_adr hk hv
      exact lv_aload_n hx hb hdg rfl hl w) h
  | iload_n k =>
    obtain rfl : ln = 1 := Nat.eq_of_beq_eq_true hln
    exact gp_load (i := k.val) rfl HG (fun H locs ls st v x hk hv hl w => by
      obtain ⟨y, rfl, -⟩ := gp_vr_int hk hv
      exact lv_iload_n hx hb hdg rfl hl w) h
  | lload_n k =>
    obtain rfl : ln = 1 := Nat.eq_of_beq_eq_true hln
    exact gp_load (i := k.val) rfl HG (fun H locs ls st v x hk hv hl w => by
      obtain ⟨c, rfl, h5⟩ := gp_lng_eq hk
      obtain ⟨-, rfl⟩ := gp_vr_l h5 hv
      exact lv_lload_n hx hb hdg rfl hl w) h
  | iload k =>
    obtain rfl : ln = 2 := Nat.eq_of_beq_eq_true hln
    exact gp_load (i := k) rfl HG (fun H locs ls st v x hk hv hl w => by
      obtain ⟨y, rfl, -⟩ := gp_vr_int hk hv
      exact lv_iload hx hb hdg hl w) h
  | iconst k =>
    obtain rfl : ln = 1 := Nat.eq_of_beq_eq_true hln
    have hw : (ga_lb a && decide (Int32.ofInt k = nI (a / 8))) = true := hwb
    simp only [Bool.and_eq_true, decide_eq_true_eq] at hw
    exact gp_push (v := .inl (gp_li a)) (x := .int (nI (a / 8))) HG ⟨_, (gp_li_b hw.1).symm, rfl⟩ (fun H locs ls st _ w => lv_iconst hx hb hdg hw.2 w) h
  | bipush k =>
    obtain rfl : ln = 2 := Nat.eq_of_beq_eq_true hln
    have hw : (ga_lb a && decide ((Int8.ofInt k).toInt32 = nI (a / 8))) = true := hwb
    simp only [Bool.and_eq_true, decide_eq_true_eq] at hw
    exact gp_push (v := .inl (gp_li a)) (x := .int (nI (a / 8))) HG ⟨_, (gp_li_b hw.1).symm, rfl⟩ (fun H locs ls st _ w => lv_bipush hx hb hdg hw.2 w) h
  | sipush k =>
    obtain rfl : ln = 3 := Nat.eq_of_beq_eq_true hln
    have hw : (ga_lb a && decide ((Int16.ofInt k).toInt32 = nI (a / 8))) = true := hwb
    simp only [Bool.and_eq_true, decide_eq_true_eq] at hw
    exact gp_push (v := .inl (gp_li a)) (x := .int (nI (a / 8))) HG ⟨_, (gp_li_b hw.1).symm, rfl⟩ (fun H locs ls st _ w => lv_sipush hx hb hdg hw.2 w) h
  | lconst k =>
    obtain rfl : ln = 1 := Nat.eq_of_beq_eq_true hln
    have hw : (Nat.beq (a % 8) 5 && Nat.blt (a / 8) 18446744073709551616 && decide (Int64.ofNat k.val = lN (a / 8))) = true := hwb
    simp only [Bool.and_eq_true, decide_eq_true_eq, ga_beq, Nat.blt_eq] at hw
    exact gp_push (v := .inr a) (x := .long (lN (a / 8))) HG (Or.inr (Or.inl ⟨hw.1.1, hw.1.2, rfl⟩)) (fun H locs ls st _ w => lv_lconst hx hb hdg hw.2 w) h
  | ldc2_w k =>
    obtain rfl : ln = 3 := Nat.eq_of_beq_eq_true hln
    have hw : (Nat.beq (a % 8) 5 && Nat.blt (a / 8) 18446744073709551616 && ga_w1 ps (fun q => gw_ok q.2 (.constantLong own k (lN (a / 8))))) = true := hwb
    simp only [Bool.and_eq_true, ga_beq, Nat.blt_eq] at hw
    obtain ⟨q, r, -, hq⟩ := ga_w1_ok hw.2
    exact gp_push (v := .inr a) (x := .long (lN (a / 8))) HG (Or.inr (Or.inl ⟨hw.1.1, hw.1.2, rfl⟩)) (fun H locs ls st _ w => lv_ldc2 hx hb hown (hts _ (gw_mem hq)) hdg w) h
  | ldc_w k =>
    obtain rfl : ln = 3 := Nat.eq_of_beq_eq_true hln
    have hw : (ga_lb a && ga_w1 ps (fun q => gw_ok q.2 (.constant own k (nI (a / 8))))) = true := hwb
    simp only [Bool.and_eq_true] at hw
    obtain ⟨q, r, -, hq⟩ := ga_w1_ok hw.2
    exact gp_push (v := .inl (gp_li a)) (x := .int (nI (a / 8))) HG ⟨_, (gp_li_b hw.1).symm, rfl⟩ (fun H locs ls st _ w => lv_ldcw hx hb hown (hts _ (gw_mem hq)) hdg w) h
  | ldc k =>
    obtain rfl : ln = 2 := Nat.eq_of_beq_eq_true hln
    have hw : (if a % 8 = 0 then ga_lb a && ga_w1 ps (fun q => gw_ok q.2 (.constant own k (nI (a / 8)))) else if a = 14 then decide (own = "GravyRound$Tokens") && Nat.beq k 20 else if a = 30 then decide (own = "GravyRound$Tokens") && Nat.beq k 75 else true) = true := hwb
    rcases (show (a % 8 = 0 ∧ G (pc + 2) al (.inl (gp_li a) :: sk) σ) ∨ (a = 30 ∧ G (pc + 2) al (.inr 30 :: sk) σ) from h) with ⟨h0, h'⟩ | ⟨ha, h'⟩
    · rw [if_pos h0] at hw
      simp only [Bool.and_eq_true] at hw
      obtain ⟨q, r, -, hq⟩ := ga_w1_ok hw.2
      exact gp_push (v := .inl (gp_li a)) (x := .int (nI (a / 8))) HG ⟨_, (gp_li_b hw.1).symm, rfl⟩ (fun H locs ls st _ w => lv_ldc hx hb hown (hts _ (gw_mem hq)) hdg w) h'
    · rw [if_neg (by omega), if_neg (by omega), if_pos ha] at hw
      simp only [Bool.and_eq_true, decide_eq_true_eq, ga_beq] at hw
      obtain ⟨ho, rfl⟩ := hw
      exact gp_push (v := .inr 30) (x := .ref (oa 3)) HG (Or.inr (Or.inr ⟨rfl, rfl⟩)) (fun H locs ls st hS w => TX.1 H locs ls st pc ho hdg hS w) h'
  | iadd => obtain rfl : ln = 1 := Nat.eq_of_beq_eq_true hln; exact gp_op2 HG (fun H locs ls st X Y w => lv_iadd hx hb hdg w) h
  | isub => obtain rfl : ln = 1 := Nat.eq_of_beq_eq_true hln; exact gp_op2 HG (fun H locs ls st X Y w => lv_isub hx hb hdg w) h
  | imul => obtain rfl : ln = 1 := Nat.eq_of_beq_eq_true hln; exact gp_op2 HG (fun H locs ls st X Y w => lv_imul hx hb hdg w) h
  | iand => obtain rfl : ln = 1 := Nat.eq_of_beq_eq_true hln; exact gp_op2 HG (fun H locs ls st X Y w => lv_iand hx hb hdg w) h
  | ior => obtain rfl : ln = 1 := Nat.eq_of_beq_eq_true hln; exact gp_op2 HG (fun H locs ls st X Y w => lv_ior hx hb hdg w) h
  | ixor => obtain rfl : ln = 1 := Nat.eq_of_beq_eq_true hln; exact gp_op2 HG (fun H locs ls st X Y w => lv_ixor hx hb hdg w) h
  | ishl => obtain rfl : ln = 1 := Nat.eq_of_beq_eq_true hln; exact gp_op2 HG (fun H locs ls st X Y w => lv_ishl hx hb hdg w) h
  | ishr => obtain rfl : ln = 1 := Nat.eq_of_beq_eq_true hln; exact gp_op2 HG (fun H locs ls st X Y w => lv_ishr hx hb hdg w) h
  | iushr => obtain rfl : ln = 1 := Nat.eq_of_beq_eq_true hln; exact gp_op2 HG (fun H locs ls st X Y w => lv_iushr hx hb hdg rfl w) h
  | idiv => obtain rfl : ln = 1 := Nat.eq_of_beq_eq_true hln; exact gp_opd HG (fun H locs ls st X Y h0 w => lv_idiv hx hb hdg h0 w) h
  | irem => obtain rfl : ln = 1 := Nat.eq_of_beq_eq_true hln; exact gp_opd HG (fun H locs ls st X Y h0 w => lv_irem hx hb hdg h0 w) h
  | ineg => obtain rfl : ln = 1 := Nat.eq_of_beq_eq_true hln; exact gp_op1 HG (fun H locs ls st X w => lv_ineg hx hb hdg w) h
  | i2b => obtain rfl : ln = 1 := Nat.eq_of_beq_eq_true hln; exact gp_op1 HG (fun H locs ls st X w => lv_i2b hx hb hdg rfl w) h
  | i2c => obtain rfl : ln = 1 := Nat.eq_of_beq_eq_true hln; exact gp_op1 HG (fun H locs ls st X w => lv_i2c hx hb hdg rfl w) h
  | ladd => obtain rfl : ln = 1 := Nat.eq_of_beq_eq_true hln; exact gp_opl HG (fun H locs ls st X Y w => lv_ladd hx hb hdg w) h
  | lmul => obtain rfl : ln = 1 := Nat.eq_of_beq_eq_true hln; exact gp_opl HG (fun H locs ls st X Y w => lv_lmul hx hb hdg w) h
  | lor => obtain rfl : ln = 1 := Nat.eq_of_beq_eq_true hln; exact gp_opl HG (fun H locs ls st X Y w => lv_lor hx hb hdg w) h
  | i2l =>
    obtain rfl : ln = 1 := Nat.eq_of_beq_eq_true hln
    have h2 : (match (generalizing := false) sk with | .inl _ :: r => ∀ L : Nat, L < 18446744073709551616 → G (pc + 1) al (.inr (8 * L + 5) :: r) σ | _ => False) := h
    intro H locs ls st hat
    obtain ⟨hS, ws, hw, hl, hs⟩ := hat
    split at h2
    · obtain ⟨vx, t, rfl, ⟨X, -, rfl⟩, hs1⟩ := gp_sr_cons hs
      obtain ⟨k1, k2⟩ := gp_lN X.toInt64
      exact lv_i2l hx hb hdg k2 (HG _ _ _ _ (h2 _ k1) H locs ls _ ⟨hS, ws, hw, hl, gp_vl k1, hs1⟩)
    · exact h2.elim
  | lshl =>
    obtain rfl : ln = 1 := Nat.eq_of_beq_eq_true hln
    have h2 : (match (generalizing := false) sk with | .inl _ :: x :: r => gp_lng x = true ∧ ∀ L : Nat, L < 18446744073709551616 → G (pc + 1) al (.inr (8 * L + 5) :: r) σ | _ => False) := h
    intro H locs ls st hat
    obtain ⟨hS, ws, hw, hl, hs⟩ := hat
    split at h2
    · obtain ⟨hx5, h2⟩ := h2
      obtain ⟨c, rfl, h5⟩ := gp_lng_eq hx5
      obtain ⟨vx, t, rfl, ⟨X, -, rfl⟩, hs1⟩ := gp_sr_cons hs
      obtain ⟨vy, t1, rfl, g1, hs2⟩ := gp_sr_cons hs1
      obtain ⟨-, rfl⟩ := gp_vr_l h5 g1
      obtain ⟨k1, k2⟩ := gp_lN (lN (c / 8) <<< (X.toInt64 &&& 63))
      exact lv_lshl hx hb hdg k2 (HG _ _ _ _ (h2 _ k1) H locs ls _ ⟨hS, ws, hw, hl, gp_vl k1, hs2⟩)
    · exact h2.elim
  | lcmp =>
    obtain rfl : ln = 1 := Nat.eq_of_beq_eq_true hln
    have h2 : (match (generalizing := false) sk with | y :: x :: r => gp_lng y = true ∧ gp_lng x = true ∧ ∀ z : Int, -1 ≤ z → z ≤ 1 → (z = 0 ↔ x = y) → G (pc + 1) al (.inl z :: r) σ | _ => False) := h
    intro H locs ls st hat
    obtain ⟨hS, ws, hw, hl, hs⟩ := hat
    split at h2
    · obtain ⟨hy5, hx5, h2⟩ := h2
      obtain ⟨cy, rfl, hcy⟩ := gp_lng_eq hy5
      obtain ⟨cx, rfl, hcx⟩ := gp_lng_eq hx5
      obtain ⟨vy, t, rfl, g0, hs1⟩ := gp_sr_cons hs
      obtain ⟨vx, t1, rfl, g1, hs2⟩ := gp_sr_cons hs1
      obtain ⟨hLy, rfl⟩ := gp_vr_l hcy g0
      obtain ⟨hLx, rfl⟩ := gp_vr_l hcx g1
      have hc : -1 ≤ (lg_cmp (lN (cx / 8)) (lN (cy / 8))).toInt ∧ (lg_cmp (lN (cx / 8)) (lN (cy / 8))).toInt ≤ 1 := by
        unfold lg_cmp
        split
        · decide
        · split <;> decide
      have he : (lg_cmp (lN (cx / 8)) (lN (cy / 8))).toInt = 0 ↔ (Sum.inr cx : gp_V) = .inr cy := by
        constructor
        · intro q
          have hxy : lN (cx / 8) = lN (cy / 8) := gp_cmp0 q
          have := gp_lN_inj hLx hLy hxy
          rw [show cx = cy by omega]
        · intro q
          cases q
          exact gp_cmp1 _
      exact W.lcmp hx hb hdg (HG _ _ _ _ (h2 _ hc.1 hc.2 he) H locs ls _ ⟨hS, ws, hw, hl, ⟨_, rfl, rfl⟩, hs2⟩)
    · exact h2.elim
  | goto off =>
    obtain rfl : ln = 3 := Nat.eq_of_beq_eq_true hln
    have ht : (pc : Int) + off = (b : Int) := of_decide_eq_true hwb
    intro H locs ls st hat
    exact lv_goto hx hb hdg ht (HG _ _ _ _ (show G b al sk σ from h) H locs ls st hat)
  | if_icmp cnd off =>
    obtain rfl : ln = 3 := Nat.eq_of_beq_eq_true hln
    have ht : (pc : Int) + off = (b : Int) := of_decide_eq_true hwb
    cases cnd with
    | eq => exact gp_brx (cnd := .eq) (P := fun X Y => X = Y) HG (fun X Y => eq X Y) (fun H locs ls st X Y kt kf => lv_icmp_eq hx hb hdg ht kt kf) h
    | ne => exact gp_brx (cnd := .ne) (P := fun X Y => ¬ X = Y) HG (fun X Y => not_congr (eq X Y)) (fun H locs ls st X Y kt kf => lv_icmp_ne hx hb hdg ht kt (fun q => kf (fun w => w q))) h
    | lt => exact gp_brx (cnd := .lt) (P := fun X Y => X < Y) HG (fun X Y => lt X Y) (fun H locs ls st X Y kt kf => lv_icmp_lt hx hb hdg ht kt kf) h
    | ge => exact gp_brx (cnd := .ge) (P := fun X Y => Y ≤ X) HG (fun X Y => le Y X) (fun H locs ls st X Y kt kf => lv_icmp_ge hx hb hdg ht kt kf) h
    | gt => exact gp_brx (cnd := .gt) (P := fun X Y => Y < X) HG (fun X Y => lt Y X) (fun H locs ls st X Y kt kf => lv_icmp_gt hx hb hdg ht kt kf) h
    | le => exact gp_brx (cnd := .le) (P := fun X Y => X ≤ Y) HG (fun X Y => le X Y) (fun H locs ls st X Y kt kf => lv_icmp_le hx hb hdg ht kt kf) h
  | ifCond cnd off =>
    obtain rfl : ln = 3 := Nat.eq_of_beq_eq_true hln
    have ht : (pc : Int) + off = (b : Int) := of_decide_eq_true hwb
    cases cnd with
    | eq => exact gp_br0x (cnd := .eq) (P := fun X => X = 0) HG (fun X => eq X 0) (fun H locs ls st X kt kf => lv_if_eq hx hb hdg ht kt kf) h
    | ne => exact gp_br0x (cnd := .ne) (P := fun X => ¬ X = 0) HG (fun X => not_congr (eq X 0)) (fun H locs ls st X kt kf => lv_if_ne hx hb hdg ht kt (fun q => kf (fun w => w q))) h
    | lt => exact gp_br0x (cnd := .lt) (P := fun X => X < 0) HG (fun X => lt X 0) (fun H locs ls st X kt kf => lv_if_lt hx hb hdg ht kt kf) h
    | ge => exact gp_br0x (cnd := .ge) (P := fun X => 0 ≤ X) HG (fun X => le 0 X) (fun H locs ls st X kt kf => lv_if_ge hx hb hdg ht kt kf) h
    | gt => exact gp_br0x (cnd := .gt) (P := fun X => 0 < X) HG (fun X => lt 0 X) (fun H locs ls st X kt kf => lv_if_gt hx hb hdg ht kt kf) h
    | le => exact gp_br0x (cnd := .le) (P := fun X => X ≤ 0) HG (fun X => le X 0) (fun H locs ls st X kt kf => lv_if_le hx hb hdg ht kt kf) h
  | istore k =>
    obtain rfl : ln = 2 := Nat.eq_of_beq_eq_true hln
    have hlt : k < nL := by simpa using (show Nat.blt k nL = true from hwb)
    exact gp_stor (i := k) HG (fun H locs ls st v x hk hv hh w => by
      obtain ⟨y, rfl, -⟩ := gp_vr_int hk hv
      exact lv_istore hx hb hdg hh hlt rfl w) h
  | istore_n k =>
    obtain rfl : ln = 1 := Nat.eq_of_beq_eq_true hln
    have hlt : k.val < nL := by simpa using (show Nat.blt k.val nL = true from hwb)
    exact gp_stor (i := k.val) HG (fun H locs ls st v x hk hv hh w => by
      obtain ⟨y, rfl, -⟩ := gp_vr_int hk hv
      exact lv_istore_n hx hb hdg rfl hh hlt rfl w) h
  | lstore_n k =>
    obtain rfl : ln = 1 := Nat.eq_of_beq_eq_true hln
    have hlt : k.val + 1 < nL := by simpa using (show Nat.blt (k.val + 1) nL = true from hwb)
    have h2 : gp_st gp_lng k.val (fun al sk => G (pc + 1) (al.set (k.val + 1) (.inr 7)) sk σ) al sk := h
    unfold gp_st at h2
    intro H locs ls st hat
    obtain ⟨hS, ws, hw, hl, hs⟩ := hat
    split at h2
    · rename_i v r
      obtain ⟨hv, hah, h2⟩ := h2
      obtain ⟨c5, rfl, h55⟩ := gp_lng_eq hv
      obtain ⟨x, t, rfl, g1, hs1⟩ := gp_sr_cons hs
      obtain ⟨-, rfl⟩ := gp_vr_l h55 g1
      exact lv_lstore_n hx hb hdg rfl (ga_hl_has hl.1 hl.2.1) hlt rfl (fun ls' hh => HG _ _ _ _ h2 H locs ls' t ⟨hS, ws, hw, gp_lr_set2 hl hah g1 hh, hs1⟩)
    · exact h2.elim
  | iinc k nn =>
    obtain rfl : ln = 3 := Nat.eq_of_beq_eq_true hln
    have hw : (ga_lb a && decide (Int32.ofInt nn = nI (a / 8)) && Nat.blt k nL) = true := hwb
    simp only [Bool.and_eq_true, decide_eq_true_eq, Nat.blt_eq] at hw
    have h2 : (match (generalizing := false) al[k]? with | some (.inl x) => gp_ah al k ∧ G (pc + 3) (al.set k (.inl (gp_b2 (fun x y => x + y) x (gp_li a)))) sk σ | _ => False) := h
    intro H locs ls st hat
    obtain ⟨hS, ws, hw0, hl, hs⟩ := hat
    split at h2
    · rename_i x hal
      obtain ⟨hah, h2⟩ := h2
      obtain ⟨v, ⟨X, hX, rfl⟩, g2⟩ := hl.2.2.2 k _ hal (fun q => by cases q)
      subst hX
      rw [gp_li_b hw.1.1, gp_b2_i] at h2
      obtain ⟨kx, hkx⟩ := List.getElem?_of_mem (ga_hl_mem.mpr g2)
      exact lv_iinc hx hb hdg (ga_hl_has hl.1 hl.2.1) hkx (by rw [hw.1.2]) hw.2 rfl (fun ls' hl' => HG _ _ _ _ h2 H locs ls' st ⟨hS, ws, hw0, gp_lr_set hl hah ⟨_, rfl, rfl⟩ hl', hs⟩)
    · exact h2.elim
  | getfield idx =>
    obtain rfl : ln = 3 := Nat.eq_of_beq_eq_true hln
    have hw : (match gm_cl[a]? with
      | some q => Nat.blt b q.2.2 && ga_w1 ps (fun w => if w.1 = 0 then gw_ok w.2 (.fieldLink own idx (q.2.1 b).1 (q.2.1 b).2.1 (q.2.1 b).2.2.1) else gw_nk w.2 (.fieldLinkNest own idx (q.2.1 b).1 (q.2.1 b).2.1 (q.2.1 b).2.2.1 "GravyRound"))
      | none => false) = true := hwb
    cases hq : gm_cl[a]? with
    | none => rw [hq] at hw; cases hw
    | some q =>
      rw [hq] at hw
      simp only [Bool.and_eq_true, Nat.blt_eq] at hw
      obtain ⟨w0, r0, -, hw0⟩ := ga_w1_ok hw.2
      refine gp_getx hx hb hown hts hK HG hdg hq hw.1 ?_ h
      split at hw0
      · exact Or.inl (hts _ (gw_mem hw0))
      · exact Or.inr (va_Nw.use rfl (HO.1 s hold _ (gw_nmem hw0)))
  | putfield idx =>
    obtain rfl : ln = 3 := Nat.eq_of_beq_eq_true hln
    have hw : (match gm_cl[a]? with
      | some q => Nat.blt b q.2.2 && ga_w1 ps (fun w => gw_ok w.2 (.fieldLink own idx (q.2.1 b).1 (q.2.1 b).2.1 (q.2.1 b).2.2.1) && ga_tc w.1 (q.2.1 b).2.2.1) && (!(q.2.1 b).2.2.2 || (ini && decide ((q.2.1 b).1 = own)))
      | none => false) = true := hwb
    cases hq : gm_cl[a]? with
    | none => rw [hq] at hw; cases hw
    | some q =>
      rw [hq] at hw
      simp only [Bool.and_eq_true, Nat.blt_eq, Bool.or_eq_true, Bool.not_eq_true', decide_eq_true_eq] at hw
      obtain ⟨⟨h1, h2⟩, h3⟩ := hw
      obtain ⟨w0, r0, hps, hw0⟩ := ga_w1_ok h2
      simp only [Bool.and_eq_true] at hw0
      subst hps
      refine gp_putx (tc := w0.1) hx hb hown hts hK HG hdg hq h1 (hts _ (gw_mem hw0.1)) hw0.2 ?_ h
      rcases h3 with h3 | ⟨h3, h4⟩
      · exact Or.inl h3
      · exact Or.inr ⟨hinit h3, h4⟩
  | dup =>
    obtain rfl : ln = 1 := Nat.eq_of_beq_eq_true hln
    have h2 : (match (generalizing := false) sk with | v :: r => gp_one v = true ∧ G (pc + 1) al (v :: v :: r) σ | _ => False) := h
    intro H locs ls st hat
    obtain ⟨hS, ws, hw, hl, hs⟩ := hat
    split at h2
    · obtain ⟨x, t, rfl, g1, hs1⟩ := gp_sr_cons hs
      exact lv_dup hx hb hdg (gp_one1 h2.1 g1) (HG _ _ _ _ h2.2 H locs ls _ ⟨hS, ws, hw, hl, g1, g1, hs1⟩)
    · exact h2.elim
  | dup2 =>
    obtain rfl : ln = 1 := Nat.eq_of_beq_eq_true hln
    have h2 : (match (generalizing := false) sk with | v :: w :: r => gp_one v = true ∧ gp_one w = true ∧ G (pc + 1) al (v :: w :: v :: w :: r) σ | _ => False) := h
    intro H locs ls st hat
    obtain ⟨hS, ws, hw, hl, hs⟩ := hat
    split at h2
    · obtain ⟨x, t, rfl, g1, hs1⟩ := gp_sr_cons hs
      obtain ⟨y, t1, rfl, g2, hs2⟩ := gp_sr_cons hs1
      exact lv_dup2_11 hx hb hdg (gp_one1 h2.1 g1) (gp_one1 h2.2.1 g2) (HG _ _ _ _ h2.2.2 H locs ls _ ⟨hS, ws, hw, hl, g1, g2, g1, g2, hs2⟩)
    · exact h2.elim
  | pop =>
    obtain rfl : ln = 1 := Nat.eq_of_beq_eq_true hln
    have h2 : (match (generalizing := false) sk with | v :: r => gp_one v = true ∧ G (pc + 1) al r σ | _ => False) := h
    intro H locs ls st hat
    obtain ⟨hS, ws, hw, hl, hs⟩ := hat
    split at h2
    · obtain ⟨x, t, rfl, g1, hs1⟩ := gp_sr_cons hs
      exact lv_pop hx hb hdg (gp_one1 h2.1 g1) (HG _ _ _ _ h2.2 H locs ls _ ⟨hS, ws, hw, hl, hs1⟩)
    · exact h2.elim
  | iaload =>
    obtain rfl : ln = 1 := Nat.eq_of_beq_eq_true hln
    refine gp_aldx (kind := 100) (by decide) HG (fun H locs ls st ws q0 a1 mm I e1 x hin hP he hsp hsl w => ?_) h
    rcases hsp with ⟨q, -⟩ | ⟨-, f, rfl⟩ | ⟨q, -⟩ | ⟨q, -⟩
    · exact absurd q (show ¬ 100 < 100 by decide)
    · have hlt : I.toNatClampNeg < mm := by unfold vp_in at hin; omega
      have e2 : some (Value.int (f I.toNatClampNeg)) = some x := by rw [← hsl]; exact (if_pos hlt).symm
      cases e2
      exact va_iald hx hb hK hP q0 0 he rfl hin hdg w
    · exact absurd q (show ¬ 100 = 102 by decide)
    · exact absurd q (show ¬ 100 = 103 by decide)
  | baload =>
    obtain rfl : ln = 1 := Nat.eq_of_beq_eq_true hln
    by_cases ha : a = 104
    · subst ha
      refine gp_aldx (kind := 104) (by decide) HG (fun H locs ls st ws q0 a1 mm I e1 x hin hP he hsp hsl w => ?_) h
      rcases hsp with ⟨q, -⟩ | ⟨-, f, rfl⟩ | ⟨q, -⟩ | ⟨q, -⟩
      · exact absurd q (show ¬ 104 < 100 by decide)
      · have hlt : I.toNatClampNeg < mm := by unfold vp_in at hin; omega
        have e2 : some (Value.int (f I.toNatClampNeg)) = some x := by rw [← hsl]; exact (if_pos hlt).symm
        cases e2
        exact va_zald hx hb hK hP q0 4 he rfl hin hdg w
      · exact absurd q (show ¬ 104 = 102 by decide)
      · exact absurd q (show ¬ 104 = 103 by decide)
    · have h2 : gp_ald sh (if a = 104 then 104 else 101) (fun sk => G (pc + 1) al sk σ) sk σ := h
      rw [if_neg ha] at h2
      refine gp_aldx (kind := 101) (by decide) HG (fun H locs ls st ws q0 a1 mm I e1 x hin hP he hsp hsl w => ?_) h2
      rcases hsp with ⟨q, -⟩ | ⟨-, f, rfl⟩ | ⟨q, -⟩ | ⟨q, -⟩
      · exact absurd q (show ¬ 101 < 100 by decide)
      · have hlt : I.toNatClampNeg < mm := by unfold vp_in at hin; omega
        have e2 : some (Value.int (f I.toNatClampNeg)) = some x := by rw [← hsl]; exact (if_pos hlt).symm
        cases e2
        exact va_bald hx hb hK hP q0 1 he rfl hin hdg w
      · exact absurd q (show ¬ 101 = 102 by decide)
      · exact absurd q (show ¬ 101 = 103 by decide)
  | laload =>
    obtain rfl : ln = 1 := Nat.eq_of_beq_eq_true hln
    refine gp_aldx (kind := 102) (by decide) HG (fun H locs ls st ws q0 a1 mm I e1 x hin hP he hsp hsl w => ?_) h
    rcases hsp with ⟨q, -⟩ | ⟨q, -⟩ | ⟨-, f, rfl⟩ | ⟨q, -⟩
    · exact absurd q (show ¬ 102 < 100 by decide)
    · exact absurd q (show ¬ (102 = 100 ∨ 102 = 101 ∨ 102 = 104) by decide)
    · have hlt : I.toNatClampNeg < mm := by unfold vp_in at hin; omega
      have e2 : some (Value.long (f I.toNatClampNeg)) = some x := by rw [← hsl]; exact (if_pos hlt).symm
      cases e2
      exact va_lald hx hb hK hP q0 2 he rfl hin hdg w
    · exact absurd q (show ¬ 102 = 103 by decide)
  | aaload =>
    obtain rfl : ln = 1 := Nat.eq_of_beq_eq_true hln
    refine gp_aldx (kind := 103) (by decide) HG (fun H locs ls st ws q0 a1 mm I e1 x hin hP he hsp hsl w => ?_) h
    rcases hsp with ⟨q, -⟩ | ⟨q, -⟩ | ⟨q, -⟩ | ⟨-, f, rfl⟩
    · exact absurd q (show ¬ 103 < 100 by decide)
    · exact absurd q (show ¬ (103 = 100 ∨ 103 = 101 ∨ 103 = 104) by decide)
    · exact absurd q (show ¬ 103 = 102 by decide)
    · have hlt : I.toNatClampNeg < mm := by unfold vp_in at hin; omega
      have e2 : some (va_rf (f I.toNatClampNeg)) = some x := by rw [← hsl]; exact (if_pos hlt).symm
      cases e2
      exact va_aldq hx hb hK hP q0 3 he rfl hin hdg w
  | iastore =>
    obtain rfl : ln = 1 := Nat.eq_of_beq_eq_true hln
    exact gp_astx (kind := 100) (g := fun X => X) (Or.inl rfl) HG (fun X => rfl) (fun H locs ls st ws q0 a1 mm I X f0 hok hin hP hD hS he kk => va_iast hx hb hK hP hD hS q0 0 he rfl hin hdg kk) h
  | bastore =>
    obtain rfl : ln = 1 := Nat.eq_of_beq_eq_true hln
    have h2 : (if a = 104 then gp_ast sh 104 id (fun x => x = 0 ∨ x = 1) (fun sk σ => G (pc + 1) al sk σ) sk σ else gp_ast sh 101 (gp_b1 (fun x => x.toInt8.toInt32)) (fun _ => True) (fun sk σ => G (pc + 1) al sk σ) sk σ) := h
    by_cases ha : a = 104
    · rw [if_pos ha] at h2
      refine gp_astx (kind := 104) (g := fun X => X) (Or.inr (Or.inr rfl)) HG (fun X => rfl) (fun H locs ls st ws q0 a1 mm I X f0 hok hin hP hD hS he kk => ?_) h2
      have h01 : vp_nar .boolean X = X := by
        rcases hok with q | q
        · have : X = 0 := Int32.toInt_inj.mp (by rw [q]; rfl)
          rw [this]; decide +kernel
        · have : X = 1 := Int32.toInt_inj.mp (by rw [q]; rfl)
          rw [this]; decide +kernel
      refine va_zast hx hb hK hP hD hS q0 4 he rfl hin hdg ?_
      rw [h01]
      exact kk
    · rw [if_neg ha] at h2
      refine gp_astx (kind := 101) (g := fun X => X.toInt8.toInt32) (Or.inr (Or.inl rfl)) HG (fun X => gp_b1_i _ X) (fun H locs ls st ws q0 a1 mm I X f0 hok hin hP hD hS he kk => ?_) h2
      refine va_bast hx hb hK hP hD hS q0 1 he rfl hin hdg ?_
      rw [vp_nar_byte]
      exact kk
  | lastore =>
    obtain rfl : ln = 1 := Nat.eq_of_beq_eq_true hln
    have h2 : gp_asl sh (fun sk σ => G (pc + 1) al sk σ) sk σ := h
    unfold gp_asl at h2
    intro H locs ls st hat
    obtain ⟨hS, ws, hw, hl, hs⟩ := hat
    split at h2
    · rename_i c5 i0 r t
      obtain ⟨h55, h3, hkd, h0, hlt, hb9, hpk, h2⟩ := h2
      obtain ⟨vx, t0, rfl, g0, hs0⟩ := gp_sr_cons hs
      obtain ⟨vi, t1, rfl, ⟨I, hi, rfl⟩, hs1⟩ := gp_sr_cons hs0
      obtain ⟨vr, t2, rfl, g1, hs2⟩ := gp_sr_cons hs1
      obtain ⟨hLL, rfl⟩ := gp_vr_l h55 g0
      subst hi
      obtain ⟨a1, e1, rfl, he, hct⟩ := gp_Wr_at hw h3 g1 (by omega)
      obtain ⟨hin, hcl⟩ := gp_idx h0 hlt
      have hev : ∃ f0 : Nat → Int64, e1 = .inl (ta 102, (sh (r / 8)).2.1, .inr (.inl f0)) := by
        have h1 := hct.1
        unfold gp_shp at h1
        rw [hkd] at h1
        rcases h1 with ⟨q, -⟩ | ⟨q, -⟩ | ⟨-, f0, q⟩ | ⟨q, -⟩
        · omega
        · omega
        · exact ⟨f0, q⟩
        · omega
      obtain ⟨f0, rfl⟩ := hev
      refine va_last hx hb hK hw.1 hw.2.1 hS _ 2 he rfl hin hdg (fun H1 locs1 hP1 hD1 hS1 => ?_)
      refine HG _ _ _ _ h2 H1 locs1 ls t2 ⟨hS1, _, gp_Wr_set hw he (fun k hk j => gp_up_ne hk) hP1 hD1 ?_, hl, hs2⟩
      refine gp_ct_setl (j := I.toInt.toNat) hct ?_ hLL (fun i => ?_) hpk
      · unfold gp_shp
        rw [hkd]
        exact Or.inr (Or.inr (Or.inl ⟨rfl, _, rfl⟩))
      · rw [hcl]
        show (if i < _ then some (Value.long (vp_updL f0 I.toInt.toNat (lN (c5 / 8)) i)) else none) = if i = I.toInt.toNat then some (.long (lN (c5 / 8))) else if i < _ then some (Value.long (f0 i)) else none
        unfold vp_updL
        by_cases hi : i = I.toInt.toNat
        · rw [if_pos hi, if_pos hi, if_pos (by omega)]
        · rw [if_neg hi, if_neg hi]
    · exact h2.elim
  | arraylength =>
    obtain rfl : ln = 1 := Nat.eq_of_beq_eq_true hln
    have h2 : (match (generalizing := false) sk with | .inr r :: t => r % 8 = 3 ∧ 100 ≤ (sh (r / 8)).1 ∧ (sh (r / 8)).1 ≤ 104 ∧ (sh (r / 8)).2.1 < 1048577 ∧ G (pc + 1) al (.inl ((sh (r / 8)).2.1 : Int) :: t) σ | _ => False) := h
    intro H locs ls st hat
    obtain ⟨hS, ws, hw, hl, hs⟩ := hat
    split at h2
    · rename_i r t
      obtain ⟨h3, k1, k2, hlt, h2⟩ := h2
      obtain ⟨vr, t2, rfl, g1, hs2⟩ := gp_sr_cons hs
      obtain ⟨a1, e1, rfl, he, hct⟩ := gp_Wr_at hw h3 g1 (by omega)
      have htk : ∃ (t0 : Nat) (ty : FieldType), (ga_tys ta)[t0]? = some (ta (sh (r / 8)).1, ty) := by
        have : (sh (r / 8)).1 = 100 ∨ (sh (r / 8)).1 = 101 ∨ (sh (r / 8)).1 = 102 ∨ (sh (r / 8)).1 = 103 ∨ (sh (r / 8)).1 = 104 := by omega
        rcases this with q | q | q | q | q
        · rw [q]; exact ⟨0, _, rfl⟩
        · rw [q]; exact ⟨1, _, rfl⟩
        · rw [q]; exact ⟨2, _, rfl⟩
        · rw [q]; exact ⟨3, _, rfl⟩
        · rw [q]; exact ⟨4, _, rfl⟩
      obtain ⟨t0, ty, ht0⟩ := htk
      obtain ⟨xa, ea, hxa⟩ : ∃ xa : vp_A, e1 = .inl (ta (sh (r / 8)).1, xa) ∧ xa.1 = (sh (r / 8)).2.1 := by
        rcases hct.1 with ⟨q, -⟩ | ⟨-, f, e2⟩ | ⟨-, f, e2⟩ | ⟨-, f, e2⟩
        · omega
        · exact ⟨_, e2, rfl⟩
        · exact ⟨_, e2, rfl⟩
        · exact ⟨_, e2, rfl⟩
      subst ea
      exact va_alen (v := nI (sh (r / 8)).2.1) hx hb hK hw.1 _ t0 he ht0 (by rw [hxa]; rfl) hdg (HG _ _ _ _ h2 H locs ls _ ⟨hS, ws, hw, hl, ⟨_, nI_toInt (by omega), rfl⟩, hs2⟩)
    · exact h2.elim
  | tableswitch dflt lo hi offs =>
    have hw : (decide (-2147483648 ≤ lo) && decide (hi < 2147483648) && decide (hi = lo + (ps.length : Int) - 1) && decide ((pc : Int) + dflt = (b : Int)) && Nat.blt ps.length 1000 && (List.range ps.length).all (fun j => match ps[j]?, offs[j]? with | some q, some o => Nat.beq (q.1 % 8) 0 && Nat.blt (q.1 / 8) 4294967296 && decide ((nI (q.1 / 8)).toInt = lo + (j : Int)) && decide ((pc : Int) + o = (q.2 : Int)) | _, _ => false)) = true := hwb
    simp only [Bool.and_eq_true, decide_eq_true_eq, Nat.blt_eq, List.all_eq_true, List.mem_range] at hw
    obtain ⟨⟨⟨⟨⟨-, -⟩, hhi⟩, hdf⟩, hlen⟩, hall⟩ := hw
    have key : ∀ (j : Nat) (q : Nat × Nat), ps[j]? = some q → (q.1 / 8 < 4294967296 ∧ (nI (q.1 / 8)).toInt = lo + (j : Int)) ∧ ∃ o, offs[j]? = some o ∧ (pc : Int) + o = (q.2 : Int) := by
      intro j q hj
      have hjl := gp_get_lt hj
      have := hall j hjl
      rw [hj] at this
      cases ho3 : offs[j]? with
      | none => rw [ho3] at this; cases this
      | some o =>
        rw [ho3] at this
        simp only [Bool.and_eq_true, ga_beq, decide_eq_true_eq, Nat.blt_eq] at this
        exact ⟨⟨this.1.1.2, this.1.2⟩, o, rfl, this.2⟩
    refine gp_swx (ps := ps) (b := b) HG (fun q hq => ?_) (fun H locs ls st X q hq hX w => ?_) (fun H locs ls st X hno w => ?_) h
    · obtain ⟨j, hj⟩ := List.getElem?_of_mem hq
      exact (key j q hj).1.1
    · obtain ⟨j, hj⟩ := List.getElem?_of_mem hq
      have hjl := gp_get_lt hj
      obtain ⟨⟨-, k1⟩, o, k2, k3⟩ := key j q hj
      subst hX
      exact lv_tableIn hx hb hdg (by rw [k1]; omega) (by rw [k1]; omega) (by rw [k1, show (lo + (j : Int) - lo).toNat = j by omega]; exact k2) k3 w
    · refine lv_tableOut hx hb hdg ?_ hdf w
      rcases Int.lt_or_le X.toInt lo with hneg | hpos
      · exact Or.inl hneg
      · rcases Int.lt_or_le hi X.toInt with hbig | hsm
        · exact Or.inr hbig
        · exfalso
          have hjl : (X.toInt - lo).toNat < ps.length := by omega
          have hget : ps[(X.toInt - lo).toNat]? = some ps[(X.toInt - lo).toNat] := List.getElem?_eq_getElem hjl
          obtain ⟨⟨-, k1⟩, -⟩ := key _ _ hget
          refine hno _ (List.mem_of_getElem? hget) ?_
          apply Int32.toInt_inj.mp
          rw [k1]
          omega
  | lookupswitch dflt prs =>
    have hw : ((prs.toList.zip (prs.toList.drop 1)).all (fun (a, next) => a.1 < next.1) && decide ((pc : Int) + dflt = (b : Int)) && decide (prs.toList = ps.map (fun q => (((q.1 / 8 : Nat) : Int), (q.2 : Int) - (pc : Int)))) && ps.all (fun q => Nat.beq (q.1 % 8) 0 && Nat.blt (q.1 / 8) 2147483648)) = true := hwb
    simp only [Bool.and_eq_true, decide_eq_true_eq] at hw
    obtain ⟨⟨⟨hsort, hdf⟩, hprs⟩, hall⟩ := hw
    have hps : ∀ q ∈ ps, q.1 % 8 = 0 ∧ q.1 / 8 < 2147483648 := by
      intro q hq
      have := List.all_eq_true.mp hall q hq
      simpa [ga_beq] using this
    refine gp_swx (ps := ps) (b := b) HG (fun q hq => by have := (hps q hq).2; omega) (fun H locs ls st X q hq hX w => ?_) (fun H locs ls st X hno w => ?_) h
    · subst hX
      have hti : (nI (q.1 / 8)).toInt = ((q.1 / 8 : Nat) : Int) := nI_toInt (hps q hq).2
      refine lv_lookup (pc := pc) (tgt := q.2) (off := (q.2 : Int) - (pc : Int)) hx hb hdg hsort ?_ (by omega) w
      rw [hti]
      refine ga_lk_in hsort ?_
      rw [hprs]
      exact List.mem_map.mpr ⟨q, hq, rfl⟩
    · refine lv_lookup (pc := pc) hx hb hdg hsort (off := dflt) ?_ hdf w
      refine ga_lk_out (fun x hxm => ?_)
      rw [hprs] at hxm
      obtain ⟨q, hq, rfl⟩ := List.mem_map.mp hxm
      intro he
      refine hno q hq ?_
      apply Int32.toInt_inj.mp
      rw [nI_toInt (hps q hq).2]
      exact he.symm
  | invokestatic idx =>
    obtain rfl : ln = 3 := Nat.eq_of_beq_eq_true hln
    have hw : (if a = 1001 then ga_w1 ps (fun w => gw_ok w.2 (.methodLink own idx arraycopyName)) else if a < 998 then ga_w1 ps (fun w => gw_ok w.2 (.methodLink own idx (gm_i a).1)) && Nat.beq (gm_me a).2.2.2.2.2.2.2 999 else true) = true := hwb
    have h2 : (if a = 1001 then gp_acp sh (fun sk σ => G (pc + 3) al sk σ) sk σ else gp_inv sh C a false (fun sk σ => G (pc + 3) al sk σ) sk σ) := h
    by_cases h1001 : a = 1001
    · rw [if_pos h1001] at hw h2
      obtain ⟨w0, r0, -, hw0⟩ := ga_w1_ok hw
      have hnf : nativeFrameWords "java/lang/System" "arraycopy" 5 ≤ 100 := by decide +kernel
      unfold gp_acp at h2
      intro H locs ls st hat
      obtain ⟨hS, ws, hw9, hl, hs⟩ := hat
      split at h2
      · rename_i mq dp bq sp aq t
        obtain ⟨hwd, rfl, rfl, hm0, hm1, ha3, hb3, hla, hlb, h2⟩ := h2
        obtain ⟨v0, t0, rfl, ⟨M, hM, rfl⟩, hs0⟩ := gp_sr_cons hs
        obtain ⟨v1, t1, rfl, ⟨DP, hDP, rfl⟩, hs1⟩ := gp_sr_cons hs0
        obtain ⟨v2, t2, rfl, g2, hs2⟩ := gp_sr_cons hs1
        obtain ⟨v3, t3, rfl, ⟨SP, hSP, rfl⟩, hs3⟩ := gp_sr_cons hs2
        obtain ⟨v4, t4, rfl, g4, hs4⟩ := gp_sr_cons hs3
        have eDP : DP = 0 := Int32.toInt_inj.mp (by rw [hDP]; rfl)
        have eSP : SP = 0 := Int32.toInt_inj.mp (by rw [hSP]; rfl)
        subst eDP; subst eSP; subst hM
        have eM : M.toNatClampNeg = M.toInt.toNat := rfl
        have e0 : (0 : Int32).toNatClampNeg = 0 := rfl
        have hMn : ¬ M < 0 := by rw [Int32.lt_iff_toInt_lt, z0]; omega
        have hcat := gp_sr_wd hs4
        obtain ⟨A, eA, rfl, heA, hctA⟩ := gp_Wr_at hw9 ha3 g4 (by rcases h2 with h2 | h2 <;> omega)
        obtain ⟨B, eB, rfl, heB, hctB⟩ := gp_Wr_at hw9 hb3 g2 (by rcases h2 with h2 | h2 <;> omega)
        have hA1 := hctA.1
        have hB1 := hctB.1
        unfold gp_shp at hA1 hB1
        rcases h2 with ⟨hka, hkb, hsa, hsb, h2⟩ | ⟨hka, hkb, hsa, hsb, h2⟩
        · rw [hka] at hA1
          rw [hkb] at hB1
          have hA2 : ∃ f : Nat → Int32, eA = .inl (ta 100, (sh (aq / 8)).2.1, .inl f) := by
            rcases hA1 with ⟨q, -⟩ | ⟨-, f, q⟩ | ⟨q, -⟩ | ⟨q, -⟩
            · omega
            · exact ⟨f, q⟩
            · omega
            · omega
          have hB2 : ∃ f : Nat → Int32, eB = .inl (ta 100, (sh (bq / 8)).2.1, .inl f) := by
            rcases hB1 with ⟨q, -⟩ | ⟨-, f, q⟩ | ⟨q, -⟩ | ⟨q, -⟩
            · omega
            · exact ⟨f, q⟩
            · omega
            · omega
          obtain ⟨f, rfl⟩ := hA2
          obtain ⟨g, rfl⟩ := hB2
          refine va_copyi (ty := .int) hx hb (hml.trans hl.1.symm) hown (hts _ (gw_mem hw0)) (hts _ (gw_mem (i := 653) (by decide +kernel))) (hts _ (gw_mem (i := 652) (by decide +kernel))) (hts _ (gw_mem (i := 139) (by decide +kernel))) hK hw9.1 hw9.2.1 hS _ _ 0 0 heA heB rfl rfl rfl (by decide) (by decide) hMn (by rw [e0, eM]; omega) (by rw [e0, eM]; omega) (fun _ _ => rfl) (by omega) (by omega) hdg (fun H1 locs1 hP1 hD1 hS1 => ?_)
          refine HG _ _ _ _ h2 H1 locs1 ls t4 ⟨hS1, _, gp_Wr_set hw9 heB (fun k hk j => ?_) hP1 hD1 ⟨?_, fun j hj => ?_⟩, hl, hs4⟩
          · unfold gp_cp
            rw [if_neg (fun q => hk q.1)]
          · unfold gp_shp
            rw [hkb]
            exact Or.inr (Or.inl ⟨Or.inl rfl, _, rfl⟩)
          · rw [e0, eM]
            refine ⟨.int (va_cpy f g 0 0 M.toInt.toNat j), if_pos hj, ?_⟩
            rw [hsb]
            show gp_vr oa ad (.inl (gp_cp σ (bq / 8) (aq / 8) M.toInt.toNat (bq / 8) j)) _
            obtain ⟨xb, xb1, xb2⟩ := hctB.2 j hj
            rw [hsb] at xb2
            have xb3 : some (Value.int (g j)) = some xb := by rw [← xb1]; exact (if_pos hj).symm
            cases xb3
            have xb4 : gp_vr oa ad (.inl (σ (bq / 8) j)) (.int (g j)) := xb2
            unfold gp_cp va_cpy
            by_cases hjm : j < M.toInt.toNat
            · rw [if_pos ⟨rfl, hjm⟩, if_pos (by omega)]
              obtain ⟨xa, xa1, xa2⟩ := hctA.2 j (by omega)
              rw [hsa] at xa2
              have xa3 : some (Value.int (f j)) = some xa := by rw [← xa1]; exact (if_pos (by omega)).symm
              cases xa3
              have xa4 : gp_vr oa ad (.inl (σ (aq / 8) j)) (.int (f j)) := xa2
              simpa using xa4
            · rw [if_neg (fun q => hjm q.2), if_neg (by omega)]
              exact xb4
        · rw [hka] at hA1
          rw [hkb] at hB1
          have hA2 : ∃ f : Nat → Int64, eA = .inl (ta 102, (sh (aq / 8)).2.1, .inr (.inl f)) := by
            rcases hA1 with ⟨q, -⟩ | ⟨q, -⟩ | ⟨-, f, q⟩ | ⟨q, -⟩
            · omega
            · omega
            · exact ⟨f, q⟩
            · omega
          have hB2 : ∃ f : Nat → Int64, eB = .inl (ta 102, (sh (bq / 8)).2.1, .inr (.inl f)) := by
            rcases hB1 with ⟨q, -⟩ | ⟨q, -⟩ | ⟨-, f, q⟩ | ⟨q, -⟩
            · omega
            · omega
            · exact ⟨f, q⟩
            · omega
          obtain ⟨f, rfl⟩ := hA2
          obtain ⟨g, rfl⟩ := hB2
          refine va_copyl (ty := .long) hx hb (hml.trans hl.1.symm) hown (hts _ (gw_mem hw0)) (hts _ (gw_mem (i := 653) (by decide +kernel))) (hts _ (gw_mem (i := 652) (by decide +kernel))) (hts _ (gw_mem (i := 139) (by decide +kernel))) hK hw9.1 hw9.2.1 hS _ _ 2 2 heA heB rfl rfl rfl (by decide) (by decide) hMn (by rw [e0, eM]; omega) (by rw [e0, eM]; omega) (fun _ _ => rfl) (by omega) (by omega) hdg (fun H1 locs1 hP1 hD1 hS1 => ?_)
          refine HG _ _ _ _ h2 H1 locs1 ls t4 ⟨hS1, _, gp_Wr_set hw9 heB (fun k hk j => ?_) hP1 hD1 ⟨?_, fun j hj => ?_⟩, hl, hs4⟩
          · unfold gp_cp
            rw [if_neg (fun q => hk q.1)]
          · unfold gp_shp
            rw [hkb]
            exact Or.inr (Or.inr (Or.inl ⟨rfl, _, rfl⟩))
          · rw [e0, eM]
            refine ⟨.long (va_cpy f g 0 0 M.toInt.toNat j), if_pos hj, ?_⟩
            rw [hsb]
            show gp_vr oa ad (gp_rv 5 (gp_cp σ (bq / 8) (aq / 8) M.toInt.toNat (bq / 8) j)) _
            obtain ⟨xb, xb1, xb2⟩ := hctB.2 j hj
            rw [hsb] at xb2
            have xb3 : some (Value.long (g j)) = some xb := by rw [← xb1]; exact (if_pos hj).symm
            cases xb3
            have xb4 : gp_vr oa ad (gp_rv 5 (σ (bq / 8) j)) (.long (g j)) := xb2
            unfold gp_cp va_cpy
            by_cases hjm : j < M.toInt.toNat
            · rw [if_pos ⟨rfl, hjm⟩, if_pos (by omega)]
              obtain ⟨xa, xa1, xa2⟩ := hctA.2 j (by omega)
              rw [hsa] at xa2
              have xa3 : some (Value.long (f j)) = some xa := by rw [← xa1]; exact (if_pos (by omega)).symm
              cases xa3
              have xa4 : gp_vr oa ad (gp_rv 5 (σ (aq / 8) j)) (.long (f j)) := xa2
              simpa using xa4
            · rw [if_neg (fun q => hjm q.2), if_neg (by omega)]
              exact xb4
      · exact h2.elim
    · rw [if_neg h1001] at hw h2
      have hw2 : a < 998 → Cond.methodLink own idx (gm_i a).1 ∈ gw_tbl ∧ gm_ci a = 999 := by
        intro hlt
        rw [if_pos hlt] at hw
        simp only [Bool.and_eq_true, ga_beq] at hw
        obtain ⟨w0, r0, -, hw0⟩ := ga_w1_ok hw.1
        exact ⟨gw_mem hw0, hw.2⟩
      exact gp_invx (kind := 3) (idx := idx) (virt := false) hx hb hml hown hts hK hn0 hold HO hRf hRl hft HC HG (fun hlt => (hw2 hlt).1) (by simp) (by omega) (fun _ => hdg) (Or.inr rfl) (fun hlt _ => (hw2 hlt).2) (fun _ q => absurd q (by decide)) (fun _ q => absurd q (by decide)) h2
  | invokevirtual idx =>
    obtain rfl : ln = 3 := Nat.eq_of_beq_eq_true hln
    have hw : (if a < 998 then ga_w1 ps (fun w => gw_ok w.2 (.methodLink own idx (gm_i a).1)) && decide (¬ (gm_i a).1.name = "<init>" ∧ ¬ (gm_me a).2.2.2.2.2.2.2 = 999) else if a = 1002 then ga_w1 ps (fun w => gw_ok w.2 (.methodLink own idx ga_yLen)) else if a = 1003 then ga_w1 ps (fun w => gw_ok w.2 (.methodLink own idx ga_yChr)) else if a = 1004 then ga_w1 ps (fun w => gw_ok w.2 (.methodLink own idx ga_yIdx)) else Nat.beq a 998) = true := hwb
    have h2 : (if a < 998 then gp_inv sh C a true (fun sk σ => G (pc + 3) al sk σ) sk σ else if a = 1004 then (match (generalizing := false) sk with | .inl _ :: v :: t => v = .inr 30 ∧ gp_wd t ≤ 8 ∧ ∀ z : Int, -2147483648 ≤ z → z < 2147483648 → G (pc + 3) al (.inl z :: t) σ | _ => False) else False) := h
    by_cases hlt : a < 998
    · rw [if_pos hlt] at hw h2
      simp only [Bool.and_eq_true, decide_eq_true_eq] at hw
      obtain ⟨w0, r0, -, hw0⟩ := ga_w1_ok hw.1
      exact gp_invx (kind := 0) (idx := idx) (virt := true) hx hb hml hown hts hK hn0 hold HO hRf hRl hft HC HG (fun _ => gw_mem hw0) (by simp) (fun _ => hdg) (by omega) (Or.inl rfl) (fun _ q => absurd q (by decide)) (fun _ _ => hw.2.2) (fun _ _ => hw.2.1) h2
    · rw [if_neg hlt] at hw h2
      by_cases h4 : a = 1004
      · rw [if_pos h4] at h2
        rw [if_neg (by omega), if_neg (by omega), if_pos h4] at hw
        obtain ⟨w0, r0, -, hw0⟩ := ga_w1_ok hw
        intro H locs ls st hat
        obtain ⟨hS, ws, hw9, hl, hs⟩ := hat
        split at h2
        · obtain ⟨rfl, hwd, h2⟩ := h2
          obtain ⟨vi, t1, rfl, ⟨I, -, rfl⟩, hs1⟩ := gp_sr_cons hs
          obtain ⟨vr, t2, rfl, g1, hs2⟩ := gp_sr_cons hs1
          have er : vr = .ref (oa 3) := by
            rcases g1 with ⟨q, -⟩ | ⟨q, -⟩ | ⟨-, q⟩
            · exact absurd q (by decide)
            · exact absurd q (by decide)
            · exact q
          subst er
          exact TX.2 H locs ls t2 idx pc I (gw_mem hw0) hdg hl.1 (by rw [gp_sr_wd hs2]; exact hwd) hS (fun Z => HG _ _ _ _ (h2 Z.toInt (Int32.le_toInt Z) (Int32.toInt_lt Z)) H locs ls _ ⟨hS, ws, hw9, hl, ⟨_, rfl, rfl⟩, hs2⟩)
        · exact h2.elim
      · rw [if_neg h4] at h2
        exact h2.elim
  | _ => exact (show False from h).elim
end PZ
