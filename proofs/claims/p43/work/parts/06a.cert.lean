/-! the certificate of a method's code: each entry is what the class file has there, and its words are among the tables' -/
def ga_pc (cds : List ga_E) : Nat := match cds with | [] => 0 | e :: _ => e.1
def gw_isN (w : Cond) : Bool := match w with
  | .fieldLinkNest .. => true
  | .methodLinkNest .. => true
  | _ => false
def gw_nest : List Cond := lw_tbl.filter gw_isN
def gw_nk (i : Nat) (w : Cond) : Bool := decide (lw_tbl[i]? = some w) && gw_isN w
theorem gw_nmem {i : Nat} {w : Cond} (h : gw_nk i w = true) : w ∈ gw_nest := by
  unfold gw_nk at h
  simp only [Bool.and_eq_true, decide_eq_true_eq] at h
  exact List.mem_filter.mpr ⟨List.mem_of_getElem? h.1, h.2⟩
def ga_yLen : MethodName := ⟨"java/lang/String", "length", "()I"⟩
def ga_yChr : MethodName := ⟨"java/lang/String", "charAt", "(I)C"⟩
def ga_yIdx : MethodName := ⟨"java/lang/String", "indexOf", "(I)I"⟩
def ga_lb (a : Nat) : Bool := Nat.beq (a % 8) 0 && Nat.blt (a / 8) 4294967296
def ga_w1 (ps : List (Nat × Nat)) (f : Nat × Nat → Bool) : Bool := match ps with
  | q :: _ => f q
  | [] => false
def ga_lnb (i : Instr) (ln : Nat) : Bool := match i with
  | .iload _ => Nat.beq ln 2
  | .istore _ => Nat.beq ln 2
  | .bipush _ => Nat.beq ln 2
  | .ldc _ => Nat.beq ln 2
  | .newarray _ => Nat.beq ln 2
  | .sipush _ => Nat.beq ln 3
  | .ldc_w _ => Nat.beq ln 3
  | .ldc2_w _ => Nat.beq ln 3
  | .iinc _ _ => Nat.beq ln 3
  | .goto _ => Nat.beq ln 3
  | .if_icmp _ _ => Nat.beq ln 3
  | .ifCond _ _ => Nat.beq ln 3
  | .getfield _ => Nat.beq ln 3
  | .putfield _ => Nat.beq ln 3
  | .invokestatic _ => Nat.beq ln 3
  | .invokevirtual _ => Nat.beq ln 3
  | .invokespecial _ => Nat.beq ln 3
  | .new _ => Nat.beq ln 3
  | .anewarray _ => Nat.beq ln 3
  | .tableswitch .. => true
  | .lookupswitch .. => true
  | .getstatic _ => true
  | .aload _ => true
  | .astore _ => true
  | .lload _ => true
  | .lstore _ => true
  | _ => Nat.beq ln 1
/-- the kind of a field's type: 0 an int, 1 a boolean, 2 a long, 3 a reference -/
def ga_tc (tc : Nat) (d : String) : Bool := match parseFieldDescriptor d with
  | some .int => Nat.beq tc 0
  | some .boolean => Nat.beq tc 1
  | some .long => Nat.beq tc 2
  | some (.object _) => Nat.beq tc 3
  | some (.array _) => Nat.beq tc 3
  | _ => false
noncomputable def ga_wb (own : String) (ini : Bool) (nL pc : Nat) (i : Instr) (a b : Nat) (ps : List (Nat × Nat)) : Bool := match i with
  | .iconst n => ga_lb a && decide (Int32.ofInt n = nI (a / 8))
  | .bipush n => ga_lb a && decide ((Int8.ofInt n).toInt32 = nI (a / 8))
  | .sipush n => ga_lb a && decide ((Int16.ofInt n).toInt32 = nI (a / 8))
  | .ldc idx => if a % 8 = 0 then ga_lb a && ga_w1 ps (fun q => gw_ok q.2 (.constant own idx (nI (a / 8)))) else if a = 14 then decide (own = "GravyRound$Tokens") && Nat.beq idx 20 else if a = 30 then decide (own = "GravyRound$Tokens") && Nat.beq idx 75 else true
  | .ldc_w idx => ga_lb a && ga_w1 ps (fun q => gw_ok q.2 (.constant own idx (nI (a / 8))))
  | .ldc2_w idx => Nat.beq (a % 8) 5 && Nat.blt (a / 8) 18446744073709551616 && ga_w1 ps (fun q => gw_ok q.2 (.constantLong own idx (lN (a / 8))))
  | .lconst k => Nat.beq (a % 8) 5 && Nat.blt (a / 8) 18446744073709551616 && decide (Int64.ofNat k.val = lN (a / 8))
  | .iinc x n => ga_lb a && decide (Int32.ofInt n = nI (a / 8)) && Nat.blt x nL
  | .goto off => decide ((pc : Int) + off = (b : Int))
  | .if_icmp _ off => decide ((pc : Int) + off = (b : Int))
  | .ifCond _ off => decide ((pc : Int) + off = (b : Int))
  | .istore x => Nat.blt x nL
  | .istore_n k => Nat.blt k.val nL
  | .astore_n k => Nat.blt k.val nL
  | .lstore_n k => Nat.blt (k.val + 1) nL
  | .getfield idx => match gm_cl[a]? with
    | some q => Nat.blt b q.2.2 && ga_w1 ps (fun w => if w.1 = 0 then gw_ok w.2 (.fieldLink own idx (q.2.1 b).1 (q.2.1 b).2.1 (q.2.1 b).2.2.1) else gw_nk w.2 (.fieldLinkNest own idx (q.2.1 b).1 (q.2.1 b).2.1 (q.2.1 b).2.2.1 "GravyRound"))
    | none => false
  | .putfield idx => match gm_cl[a]? with
    | some q => Nat.blt b q.2.2 && ga_w1 ps (fun w => gw_ok w.2 (.fieldLink own idx (q.2.1 b).1 (q.2.1 b).2.1 (q.2.1 b).2.2.1) && ga_tc w.1 (q.2.1 b).2.2.1) && (!(q.2.1 b).2.2.2 || (ini && decide ((q.2.1 b).1 = own)))
    | none => false
  | .new idx => match gm_cl[a]? with
    | some q => Nat.beq b q.2.2 && ga_w1 ps (fun w => gw_ok w.2 (.classLink own idx q.1))
    | none => false
  | .newarray t => match t with
    | .int => Nat.beq a 100 && ga_w1 ps (fun w => gw_ok w.2 (.arrayClass .int))
    | .byte => Nat.beq a 101 && ga_w1 ps (fun w => gw_ok w.2 (.arrayClass .byte))
    | .long => Nat.beq a 102 && ga_w1 ps (fun w => gw_ok w.2 (.arrayClass .long))
    | .boolean => Nat.beq a 104 && ga_w1 ps (fun w => gw_ok w.2 (.arrayClass .boolean))
    | _ => false
  | .anewarray idx => ga_w1 ps (fun w => gw_ok w.2 (.classLink own idx "GravyRound$Table"))
  | .aastore => match gm_cl[a]? with
    | some q => decide (q.1 = "GravyRound$Table")
    | none => false
  | .invokestatic idx => if a = 1001 then ga_w1 ps (fun w => gw_ok w.2 (.methodLink own idx arraycopyName)) else if a < 998 then ga_w1 ps (fun w => gw_ok w.2 (.methodLink own idx (gm_i a).1)) && Nat.beq (gm_me a).2.2.2.2.2.2.2 999 else true
  | .invokevirtual idx => if a < 998 then ga_w1 ps (fun w => gw_ok w.2 (.methodLink own idx (gm_i a).1)) && decide (¬ (gm_i a).1.name = "<init>" ∧ ¬ (gm_me a).2.2.2.2.2.2.2 = 999) else if a = 1002 then ga_w1 ps (fun w => gw_ok w.2 (.methodLink own idx ga_yLen)) else if a = 1003 then ga_w1 ps (fun w => gw_ok w.2 (.methodLink own idx ga_yChr)) else if a = 1004 then ga_w1 ps (fun w => gw_ok w.2 (.methodLink own idx ga_yIdx)) else Nat.beq a 998
  | .invokespecial idx => if a = 1000 then ga_w1 ps (fun w => gw_ok w.2 (.methodLink own idx objectInit)) else if a < 998 then ga_w1 ps (fun w => if w.1 = 0 then gw_ok w.2 (.methodLink own idx (gm_i a).1) else gw_nk w.2 (.methodLinkNest own idx (gm_i a).1 "GravyRound")) && decide ((gm_i a).1.name = "<init>" ∧ ¬ (gm_me a).2.2.2.2.2.2.2 = 999) else true
  | .tableswitch dflt lo hi offs => decide (-2147483648 ≤ lo) && decide (hi < 2147483648) && decide (hi = lo + (ps.length : Int) - 1) && decide ((pc : Int) + dflt = (b : Int)) && Nat.blt ps.length 1000 && (List.range ps.length).all (fun j => match ps[j]?, offs[j]? with | some q, some o => Nat.beq (q.1 % 8) 0 && Nat.blt (q.1 / 8) 4294967296 && decide ((nI (q.1 / 8)).toInt = lo + (j : Int)) && decide ((pc : Int) + o = (q.2 : Int)) | _, _ => false)
  | .lookupswitch dflt prs => (prs.toList.zip (prs.toList.drop 1)).all (fun (a, next) => a.1 < next.1) && decide ((pc : Int) + dflt = (b : Int)) && decide (prs.toList = ps.map (fun q => (((q.1 / 8 : Nat) : Int), (q.2 : Int) - (pc : Int)))) && ps.all (fun q => Nat.beq (q.1 % 8) 0 && Nat.blt (q.1 / 8) 2147483648)
  | _ => true
noncomputable def ga_oe (own : String) (cc : ByteArray) (ini : Bool) (nL : Nat) (e : ga_E) : Bool := match e with
  | (pc, ln, i, a, b, ps) => decide (decode cc pc = .ok (i, ln)) && ga_lnb i ln && ga_wb own ini nL pc i a b ps
def ga_okc (own : String) (cc : ByteArray) (ini : Bool) (nL : Nat) : List ga_E → Prop
  | [] => True
  | e :: r => ga_oe own cc ini nL e = true ∧ (r = [] ∨ ga_pc r = e.1 + e.2.1) ∧ ga_okc own cc ini nL r
noncomputable def ga_okb (own : String) (cc : ByteArray) (ini : Bool) (nL : Nat) : List ga_E → Bool
  | [] => true
  | e :: r => ga_oe own cc ini nL e && (match r with | [] => true | e2 :: _ => Nat.beq e2.1 (e.1 + e.2.1)) && ga_okb own cc ini nL r
theorem ga_okb_ok {own : String} {cc : ByteArray} {ini : Bool} {nL : Nat} : ∀ {l : List ga_E}, ga_okb own cc ini nL l = true → ga_okc own cc ini nL l
  | [], _ => trivial
  | e :: r, h => by
    unfold ga_okb at h
    simp only [Bool.and_eq_true] at h
    refine ⟨h.1.1, ?_, ga_okb_ok h.2⟩
    cases r with
    | nil => exact Or.inl rfl
    | cons e2 t => exact Or.inr (Nat.eq_of_beq_eq_true h.1.2)
theorem ga_okc_jmp {own : String} {cc : ByteArray} {ini : Bool} {nL : Nat} {t : Nat} : ∀ {l : List ga_E}, ga_okc own cc ini nL l → ga_okc own cc ini nL (ga_jmp l t) ∧ (ga_jmp l t = [] ∨ ga_pc (ga_jmp l t) = t)
  | [], _ => ⟨trivial, Or.inl rfl⟩
  | e :: r, h => by
    have e1 : ga_jmp (e :: r) t = ga_if (Nat.beq e.1 t) (e :: r) (ga_jmp r t) := rfl
    rw [e1]
    cases hb : Nat.beq e.1 t with
    | true => exact ⟨h, Or.inr (Nat.eq_of_beq_eq_true hb)⟩
    | false => exact ga_okc_jmp h.2.2
/-- what a method's own entry in the tables says -/
noncomputable def gm_okm (k : Nat) : Bool := match gm_me k, gm_i k, gm_wd k with
  | (code, _, nl, na, _, _, rc, ci), (y, b, l, r), cw :: kd :: sl :: iw :: _ =>
    gw_ok cw (.code y b l r) && gw_ok iw (.initialized y.cls) && plainFor y && decide (y.cls ≠ "java/lang/invoke/MethodHandle" ∧ y.cls ≠ "java/lang/invoke/VarHandle") && Nat.beq nl l && Nat.ble l 80 &&
    (if ci = 999 then gw_ok kd (.static y) && decide ((parseMethodDescriptor y.desc).map (fun d => d.parameters.length) = some na) && Nat.blt 0 1
      else gw_ok kd (.instanceMethod y) && decide ((parseMethodDescriptor y.desc).map (fun d => d.parameters.length + 1) = some na) && decide ((gm_cl[ci]?).map (·.1) = some y.cls) && (if y.name = "<init>" then decide (r = none) else gw_ok sl (.selects y.cls y y))) &&
    (match r with | none => Nat.beq rc 0 | some .int => Nat.beq rc 1 | some .boolean => Nat.beq rc 2 | some .long => Nat.beq rc 4 | some (.object _) => Nat.beq rc 5 | _ => false) &&
    ga_okb y.cls b (decide (y.name = "<init>")) l code
  | _, _, _ => false
