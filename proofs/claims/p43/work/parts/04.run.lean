noncomputable def ga_isb (go : ga_G) (nx : List ga_E) (al sk : List Nat) (cs ss : Nat) (iv : ga_I) (n : Nat) (h : ga_H) : Option (List ga_O) :=
  match sk with
  | y :: x :: r => ga_if (and (Nat.beq x 0) (and (Nat.beq (ga_sm iv y) 9) (Nat.ble 2147483648 (ga_iv iv 1).1)))
      (ga_f (4294967296 - (ga_iv iv 1).2) (fun lo => ga_f (4294967296 - (ga_iv iv 1).1) (fun hi => ga_set iv 7 (lo, hi) (fun iv => go nx al (57 :: r) cs ss iv n h))))
      (ga_op2 ga_sub go nx al sk cs ss iv n h)
  | _ => none
/-- the one text's length and characters -/
noncomputable def ga_txt (tx : List Nat) (a : Nat) (go : ga_G) (nx : List ga_E) (al sk : List Nat) (cs ss : Nat) (iv : ga_I) (n : Nat) (h : ga_H) : Option (List ga_O) :=
  ga_if (Nat.beq a 1002)
    (match sk with | r :: t => ga_if (and (Nat.beq r 14) (Nat.ble (ga_wd t) 8)) (ga_f (8 * List.length tx) (fun v => go nx al (v :: t) cs ss iv n h)) none | _ => none)
    (match sk with | i :: r :: t => ga_if (and (and (Nat.beq r 14) (Nat.beq (i % 8) 0)) (and (Nat.ble (ga_wd t) 8) (Nat.blt (i / 8) (List.length tx)))) (ga_f (8 * ga_nth 0 tx (i / 8)) (fun v => go nx al (v :: t) cs ss iv n h)) none | _ => none)
/-- one instruction; the script's length is L, the text's characters are tx -/
noncomputable def ga_step (me : Nat → ga_M) (dfl : Nat → List Nat) (L : Nat) (tx : List Nat) (call : Nat → List Nat → ga_I → Nat → ga_H → Option (List ga_A)) (cm sm : Nat) (code : List ga_E) (go : ga_G) (e : ga_E) (nx : List ga_E) (al sk : List Nat) (cs ss : Nat) (iv : ga_I) (n : Nat) (h : ga_H) : Option (List ga_O) :=
  match e with
  | (_, _, i, a, b, ps) =>
    match i with
    | .aload_n k => ga_load ga_adr k.val go nx al sk cs ss iv n h
    | .iload_n k => ga_load ga_int k.val go nx al sk cs ss iv n h
    | .getfield _ => ga_get a b go nx al sk cs ss iv n h
    | .bipush _ => go nx al (a :: sk) cs ss iv n h
    | .iconst _ => go nx al (a :: sk) cs ss iv n h
    | .sipush _ => go nx al (a :: sk) cs ss iv n h
    | .goto _ => go (ga_jmp code b) al sk cs ss iv n h
    | .iaload => match sk with
      | i :: r :: t => ga_if (Nat.beq r 6) (ga_idx iv i (fun _ => none) (fun j => ga_if (Nat.blt j L) (ga_f (8 * j + 1) (fun v => go nx al (v :: t) cs ss iv n h)) none)) (ga_ald 100 go e nx al (i :: r :: t) cs ss iv n h)
      | _ => none
    | .ireturn => some [(e :: nx, al, sk, cs, ss, iv, n, h)]
    | .return_ => some [(e :: nx, al, sk, cs, ss, iv, n, h)]
    | .areturn => some [(e :: nx, al, sk, cs, ss, iv, n, h)]
    | .lreturn => some [(e :: nx, al, sk, cs, ss, iv, n, h)]
    | .if_icmp c _ => match sk with
      | y :: x :: r => ga_if (ga_i2 x y) (ga_cnd c iv x y (fun iv => go (ga_jmp code b) al r cs ss iv n h) (fun iv => go nx al r cs ss iv n h)) none
      | _ => none
    | .ifCond c _ => match sk with
      | x :: r => ga_if (ga_int x) (ga_cnd c iv x 0 (fun iv => go (ga_jmp code b) al r cs ss iv n h) (fun iv => go nx al r cs ss iv n h)) none
      | _ => none
    | .iadd => ga_op2 ga_add go nx al sk cs ss iv n h
    | .isub => ga_isb go nx al sk cs ss iv n h
    | .imul => ga_op2 ga_mul go nx al sk cs ss iv n h
    | .iand => ga_op2 ga_and go nx al sk cs ss iv n h
    | .iinc i _ => ga_f (ga_nth 7 al i) (fun v => ga_if (and (Nat.beq (v % 8) 0) (ga_ahead al i)) (ga_f ((v + a) % 34359738368) (fun v => ga_set al i v (fun al => go nx al sk cs ss iv n h))) none)
    | .invokestatic _ => ga_if (Nat.beq a 1001) (ga_acp go nx al sk cs ss iv n h) (ga_inv me call a false cm sm go nx al sk cs ss iv n h)
    | .invokevirtual _ => ga_if (Nat.ble a 999) (ga_inv me call a true cm sm go nx al sk cs ss iv n h) (ga_if (Nat.beq a 1004) none (ga_txt tx a go nx al sk cs ss iv n h))
    | .invokespecial _ => ga_if (Nat.beq a 1000) (match sk with | r :: t => ga_if (and (ga_ref r) (Nat.ble (ga_wd t) 8)) (go nx al t cs ss iv n h) none | _ => none) (ga_inv me call a true cm sm go nx al sk cs ss iv n h)
    | .iastore => ga_ast 100 ga_fi go e nx al sk cs ss iv n h
    | .putfield _ => ga_ptf a b ps go nx al sk cs ss iv n h
    | .iload i => ga_load ga_int i go nx al sk cs ss iv n h
    | .istore i => ga_store ga_int i go nx al sk cs ss iv n h
    | .istore_n k => ga_store ga_int k.val go nx al sk cs ss iv n h
    | .dup => match sk with | v :: r => ga_if (ga_one v) (go nx al (v :: v :: r) cs ss iv n h) none | _ => none
    | .dup2 => match sk with | v :: w :: r => ga_if (and (ga_one v) (ga_one w)) (go nx al (v :: w :: v :: w :: r) cs ss iv n h) none | _ => none
    | .pop => match sk with | v :: r => ga_if (ga_one v) (go nx al r cs ss iv n h) none | _ => none
    | .arraylength => match sk with
      | r :: t => ga_if (Nat.beq r 6) (go nx al (8 * L :: t) cs ss iv n h) (ga_if (ga_ref r) (match ga_hg h (r / 8) with | (k, m, _) => ga_if (and (and (Nat.ble 100 k) (Nat.ble k 104)) (Nat.blt m 4294967296)) (ga_f (8 * m) (fun v => go nx al (v :: t) cs ss iv n h)) none) none)
      | _ => none
    | .idiv => ga_op2 ga_div go nx al sk cs ss iv n h
    | .irem => ga_op2 ga_rem go nx al sk cs ss iv n h
    | .ior => ga_op2 ga_or go nx al sk cs ss iv n h
    | .ixor => ga_op2 ga_xor go nx al sk cs ss iv n h
    | .ishl => ga_op2 ga_shl go nx al sk cs ss iv n h
    | .ishr => ga_op2 ga_shr go nx al sk cs ss iv n h
    | .iushr => ga_op2 ga_ush go nx al sk cs ss iv n h
    | .ladd => ga_op2 ga_lad go nx al sk cs ss iv n h
    | .lmul => ga_op2 ga_lmu go nx al sk cs ss iv n h
    | .i2b => ga_op1 ga_i2b go nx al sk cs ss iv n h
    | .i2l => ga_op1 ga_i2l go nx al sk cs ss iv n h
    | .newarray _ => match sk with
      | m :: t => ga_if (and (Nat.beq (m % 8) 0) (Nat.blt (m / 8) 1048576)) (ga_f (m / 8) (fun m => ga_new a m [] m cm sm go nx al t cs ss iv n h)) none
      | _ => none
    | .anewarray _ => match sk with
      | m :: t => ga_if (and (Nat.beq (m % 8) 0) (Nat.blt (m / 8) 1048576)) (ga_f (m / 8) (fun m => ga_new 103 m [] m cm sm go nx al t cs ss iv n h)) none
      | _ => none
    | .new _ => ga_new a 0 (dfl a) b cm sm go nx al sk cs ss iv n h
    | .aaload => ga_ald 103 go e nx al sk cs ss iv n h
    | .baload => ga_if (Nat.beq a 104) (ga_ald 104 go e nx al sk cs ss iv n h) (ga_ald 101 go e nx al sk cs ss iv n h)
    | .aastore => ga_ast 103 (ga_fr a h) go e nx al sk cs ss iv n h
    | .bastore => ga_if (Nat.beq a 104) (ga_ast 104 ga_fz go e nx al sk cs ss iv n h) (ga_ast 101 ga_i2b go e nx al sk cs ss iv n h)
    | .lastore => ga_ast 102 ga_fl go e nx al sk cs ss iv n h
    | .astore_n k => ga_store ga_adr k.val go nx al sk cs ss iv n h
    | .lload_n k => ga_load ga_lng k.val go nx al sk cs ss iv n h
    | .lstore_n k => match sk with
      | v :: r => ga_if (and (ga_lng v) (ga_ahead al k.val)) (ga_set al k.val v (fun al => ga_set al (k.val + 1) 7 (fun al => go nx al r cs ss iv n h))) none
      | _ => none
    | .ldc _ => ga_if (or (Nat.beq (a % 8) 0) (Nat.beq a 14)) (go nx al (a :: sk) cs ss iv n h) none
    | .ldc_w _ => go nx al (a :: sk) cs ss iv n h
    | .ldc2_w _ => go nx al (a :: sk) cs ss iv n h
    | .lconst _ => go nx al (a :: sk) cs ss iv n h
    | _ => none

noncomputable def ga_run (me : Nat → ga_M) (dfl : Nat → List Nat) (L : Nat) (tx : List Nat) (call : Nat → List Nat → ga_I → Nat → ga_H → Option (List ga_A)) (cm sm : Nat) (stop : Nat) (code : List ga_E) (fuel : Nat) : ga_G :=
  Nat.rec (fun _ _ _ _ _ _ _ _ => none) (fun _ go cds al sk cs ss iv n h => match cds with
    | [] => none
    | e :: nx => ga_if (Nat.beq e.1 stop) (some [(e :: nx, al, sk, cs, ss, iv, n, h)]) (ga_step me dfl L tx call cm sm code go e nx al sk cs ss iv n h)) fuel
/-- a method's answer out of the place where it stopped: by its kind (0 none, 1 int, 2 boolean, 4 long, 5 a cell) -/
noncomputable def ga_ans (rc : Nat) (o : ga_O) : Nat :=
  match o with
  | (e :: _, _, sk, _, _, _, _, _) => match e with
    | (_, _, i, _) => match i with
      | .return_ => (match sk with | [] => ga_if (Nat.beq rc 0) 0 7 | _ => 7)
      | .ireturn => (match sk with | [v] => ga_if (Nat.beq rc 1) (ga_if (ga_int v) v 7) (ga_if (Nat.beq rc 2) (ga_if (or (Nat.beq v 0) (Nat.beq v 8)) v 7) 7) | _ => 7)
      | .lreturn => (match sk with | [v] => ga_if (and (Nat.beq rc 4) (ga_lng v)) v 7 | _ => 7)
      | .areturn => (match sk with | [v] => ga_if (and (Nat.beq rc 5) (ga_ref v)) v 7 | _ => 7)
      | _ => 7
  | _ => 7
noncomputable def ga_anss (rc mc ms : Nat) (os : List ga_O) : Option (List ga_A) :=
  List.rec (some []) (fun o _ ih => ga_f (ga_ans rc o) (fun v => ga_if (or (Nat.beq (v % 8) 7) (not (and (Nat.ble o.2.2.2.1 mc) (Nat.ble o.2.2.2.2.1 ms)))) none (match ih with | none => none | some r => some ((v, o.2.2.2.2.2) :: r)))) os
noncomputable def ga_call (me : Nat → ga_M) (dfl : Nat → List Nat) (L : Nat) (tx : List Nat) (fuel : Nat) (d : Nat) : Nat → List Nat → ga_I → Nat → ga_H → Option (List ga_A) :=
  Nat.rec (fun _ _ _ _ _ => none) (fun _ call k as iv n h => match me k with
    | (code, pad, nl, na, mc, ms, rc, _) => ga_pad pad (fun p => ga_lay as p (fun al => ga_if (and (Nat.blt k 313) (and (Nat.beq (List.length al) nl) (Nat.beq (List.length as) na)))
        (match ga_run me dfl L tx call mc ms 100000 code fuel code al [] 0 0 iv n h with
        | none => none
        | some os => ga_anss rc mc ms os) none))) d
