/-- how many words a stack has -/
noncomputable def ga_wd (t : List Nat) : Nat := List.rec 0 (fun v _ ih => ga_if (Nat.beq (v % 8) 5) (ih + 2) (ih + 1)) t
noncomputable def ga_p (v : Nat) (K : Nat → Option (List ga_O)) : Option (List ga_O) := ga_f v (fun v => ga_if (Nat.beq (v % 8) 7) none (K v))
noncomputable def ga_op2 (f : Nat → Nat → Nat) (go : ga_G) (nx : List ga_E) (al sk : List Nat) (cs ss : Nat) (iv : ga_I) (n : Nat) (h : ga_H) : Option (List ga_O) :=
  match sk with
  | y :: x :: r => ga_p (f (ga_sm iv x) (ga_sm iv y)) (fun v => go nx al (v :: r) cs ss iv n h)
  | _ => none
noncomputable def ga_op1 (f : Nat → Nat) (go : ga_G) (nx : List ga_E) (al sk : List Nat) (cs ss : Nat) (iv : ga_I) (n : Nat) (h : ga_H) : Option (List ga_O) :=
  match sk with
  | x :: r => ga_p (f (ga_sm iv x)) (fun v => go nx al (v :: r) cs ss iv n h)
  | _ => none
noncomputable def ga_load (ok : Nat → Bool) (i : Nat) (go : ga_G) (nx : List ga_E) (al sk : List Nat) (cs ss : Nat) (iv : ga_I) (n : Nat) (h : ga_H) : Option (List ga_O) :=
  ga_f (ga_nth 7 al i) (fun v => ga_if (ok v) (go nx al (v :: sk) cs ss iv n h) none)
/-- what stands ahead of a local isn't a long -/
noncomputable def ga_ahead (al : List Nat) (i : Nat) : Bool := Nat.rec true (fun j _ => ga_if (Nat.beq (ga_nth 7 al j % 8) 5) false true) i
noncomputable def ga_store (ok : Nat → Bool) (i : Nat) (go : ga_G) (nx : List ga_E) (al sk : List Nat) (cs ss : Nat) (iv : ga_I) (n : Nat) (h : ga_H) : Option (List ga_O) :=
  match sk with
  | v :: r => ga_if (and (ok v) (ga_ahead al i)) (ga_set al i v (fun al => go nx al r cs ss iv n h)) none
  | _ => none
noncomputable def ga_lng (v : Nat) : Bool := Nat.beq (v % 8) 5
noncomputable def ga_adr (v : Nat) : Bool := or (Nat.beq (v % 8) 3) (Nat.beq (v % 8) 6)
noncomputable def ga_one (v : Nat) : Bool := or (ga_int v) (ga_adr v)
/-- a branch: the two numbers, the condition -/
noncomputable def ga_cnd (c : Jvm.ClassFile.Cond) (iv : ga_I) (x y : Nat) (kt kf : ga_I → Option (List ga_O)) : Option (List ga_O) :=
  match c with
  | .eq => ga_br (ga_eq iv x y) kt kf
  | .ne => ga_br (ga_eq iv x y) kf kt
  | .lt => ga_br (ga_lt iv x y) kt kf
  | .ge => ga_br (ga_lt iv x y) kf kt
  | .gt => ga_br (ga_lt iv y x) kt kf
  | .le => ga_br (ga_lt iv y x) kf kt
noncomputable def ga_sw (ps : List (Nat × Nat)) (v : Nat) (iv : ga_I) (d : ga_I → Option (List ga_O)) (K : Nat → ga_I → Option (List ga_O)) : Option (List ga_O) :=
  List.rec (motive := fun _ => ga_I → Option (List ga_O)) d (fun q _ ih iv => ga_br (ga_eq iv v q.1) (K q.2) ih) ps iv
/-- a place in an array, or all ways in which it may be one -/
noncomputable def ga_fork (i lo : Nat) (iv : ga_I) (K : ga_I → Option (List ga_O)) (m : Nat) : Option (List ga_O) :=
  Nat.rec (some []) (fun j ih => ga_cat (ga_f (lo + j) (fun c => ga_set iv i (c, c) K)) ih) m
noncomputable def ga_idx (iv : ga_I) (v : Nat) (again : ga_I → Option (List ga_O)) (K : Nat → Option (List ga_O)) : Option (List ga_O) :=
  ga_f (ga_sm iv v) (fun w => ga_if (Nat.beq (w % 8) 0) (ga_f (w / 8) K)
    (ga_if (Nat.beq (w % 8) 1) (ga_if (Nat.blt ((ga_iv iv (w / 8)).2 - (ga_iv iv (w / 8)).1) 64) (ga_fork (w / 8) (ga_iv iv (w / 8)).1 iv again ((ga_iv iv (w / 8)).2 - (ga_iv iv (w / 8)).1 + 1)) none) none))
/-- the first value of an array's place, by its kind: 100 ints, 101 bytes, 102 longs, 103 cells -/
noncomputable def ga_d (kind : Nat) : Nat := ga_if (Nat.beq kind 102) 5 (ga_if (Nat.beq kind 103) 4 0)
noncomputable def ga_ald (kind : Nat) (go : ga_G) (e : ga_E) (nx : List ga_E) (al sk : List Nat) (cs ss : Nat) (iv : ga_I) (n : Nat) (h : ga_H) : Option (List ga_O) :=
  match sk with
  | i :: r :: t => ga_idx iv i (fun iv => go (e :: nx) al sk cs ss iv n h) (fun j => ga_if (ga_ref r)
      (match ga_hg h (r / 8) with | (k, m, vs) => ga_if (and (Nat.beq k kind) (and (Nat.blt j m) (Nat.blt j 1048576))) (ga_p (ga_nth (ga_d kind) vs j) (fun v => go nx al (v :: t) cs ss iv n h)) none) none)
  | _ => none
noncomputable def ga_ast (kind : Nat) (f : Nat → Nat) (go : ga_G) (e : ga_E) (nx : List ga_E) (al sk : List Nat) (cs ss : Nat) (iv : ga_I) (n : Nat) (h : ga_H) : Option (List ga_O) :=
  match sk with
  | v :: i :: r :: t => ga_idx iv i (fun iv => go (e :: nx) al sk cs ss iv n h) (fun j => ga_if (ga_ref r)
      (match ga_hg h (r / 8) with | (k, m, vs) => ga_if (and (Nat.beq k kind) (and (Nat.blt j m) (Nat.blt j 1048576))) (ga_p (f v) (fun v => ga_put (ga_d kind) vs j v (fun vs => ga_hs h (r / 8) (k, m, vs) (fun h => go nx al t cs ss iv n h)))) none) none)
  | _ => none
noncomputable def ga_fi (v : Nat) : Nat := ga_if (ga_int v) v 7
/-- 0 or 1 -/
noncomputable def ga_fz (v : Nat) : Nat := ga_if (or (Nat.beq v 0) (Nat.beq v 8)) v 7
noncomputable def ga_fl (v : Nat) : Nat := ga_if (ga_lng v) v 7
/-- a cell of a class in the world -/
noncomputable def ga_fr (c : Nat) (h : ga_H) (v : Nat) : Nat := ga_if (ga_ref v) (ga_if (Nat.beq (ga_hg h (v / 8)).1 c) v 7) 7
/-- what a field of a kind may hold: 0 an int, 1 a boolean, 2 a long, 3 a cell -/
noncomputable def ga_fit (tc v : Nat) : Bool := ga_if (Nat.beq tc 0) (ga_int v) (ga_if (Nat.beq tc 1) (or (Nat.beq v 0) (Nat.beq v 8)) (ga_if (Nat.beq tc 2) (ga_lng v) (ga_ref v)))
noncomputable def ga_get (ci k : Nat) (go : ga_G) (nx : List ga_E) (al sk : List Nat) (cs ss : Nat) (iv : ga_I) (n : Nat) (h : ga_H) : Option (List ga_O) :=
  match sk with
  | r :: t => ga_if (ga_ref r) (match ga_hg h (r / 8) with | (c, _, vs) => ga_if (Nat.beq c ci) (ga_p (ga_nth 7 vs k) (fun v => go nx al (v :: t) cs ss iv n h)) none) none
  | _ => none
noncomputable def ga_ptf (ci k : Nat) (tc : List (Nat × Nat)) (go : ga_G) (nx : List ga_E) (al sk : List Nat) (cs ss : Nat) (iv : ga_I) (n : Nat) (h : ga_H) : Option (List ga_O) :=
  match sk, tc with
  | v :: r :: t, q :: _ => ga_if (and (ga_ref r) (ga_fit q.1 v)) (match ga_hg h (r / 8) with | (c, m, vs) => ga_if (and (Nat.beq c ci) (Nat.blt k (List.length vs))) (ga_set vs k v (fun vs => ga_hs h (r / 8) (c, m, vs) (fun h => go nx al t cs ss iv n h))) none) none
  | _, _ => none
noncomputable def ga_new (c m : Nat) (vs : List Nat) (sz : Nat) (cm sm : Nat) (go : ga_G) (nx : List ga_E) (al t : List Nat) (cs ss : Nat) (iv : ga_I) (n : Nat) (h : ga_H) : Option (List ga_O) :=
  ga_f (cs + 1) (fun cs => ga_f (ss + sz) (fun ss => ga_if (and (Nat.ble cs cm) (Nat.ble ss sm)) (ga_hs h n (c, m, vs) (fun h => ga_f (8 * n + 3) (fun r => ga_f (n + 1) (fun n => go nx al (r :: t) cs ss iv n h)))) none))
noncomputable def ga_take {β : Type} (m : Nat) : List Nat → List Nat → (List Nat → List Nat → β) → β → β :=
  Nat.rec (fun acc sk K _ => K acc sk) (fun _ ih acc sk K z => match sk with | [] => z | v :: r => ih (v :: acc) r K z) m
noncomputable def ga_pad {β : Type} (m : Nat) : (List Nat → β) → β := Nat.rec (fun K => K []) (fun _ ih K => ih (fun r => K (7 :: r))) m
noncomputable def ga_lay {β : Type} (as : List Nat) : List Nat → (List Nat → β) → β := List.rec (fun r K => K r) (fun v _ ih r K => ih r (fun t => ga_if (Nat.beq (v % 8) 5) (K (v :: 7 :: t)) (K (v :: t)))) as
/-- behind a call -/
noncomputable def ga_ret (rc : Nat) (v : Nat) (t : List Nat) : List Nat := ga_if (Nat.beq rc 0) t (v :: t)
noncomputable def ga_inv (me : Nat → ga_M) (call : Nat → List Nat → ga_I → Nat → ga_H → Option (List ga_A)) (k : Nat) (virt : Bool) (cm sm : Nat) (go : ga_G) (nx : List ga_E) (al sk : List Nat) (cs ss : Nat) (iv : ga_I) (n : Nat) (h : ga_H) : Option (List ga_O) :=
  match me k with
  | (_, _, _, na, mc, ms, rc, ci) => ga_take na [] sk (fun as t =>
      ga_if (and (Nat.ble (ga_wd t) 8) (ga_if virt (match as with | [] => false | r :: _ => and (ga_ref r) (Nat.beq (ga_hg h (r / 8)).1 ci)) true))
        (ga_f (cs + mc) (fun cs => ga_f (ss + ms) (fun ss => ga_if (and (Nat.ble cs cm) (Nat.ble ss sm))
          (match call k as iv n h with
            | none => none
            | some os => ga_all os (fun o => go nx al (ga_ret rc o.1 t) cs ss o.2.1 o.2.2.1 o.2.2.2)) none))) none) none
/-- an array's places over another's -/
noncomputable def ga_cpy {β : Type} (d : Nat) (a : List Nat) (sp dp m : Nat) : List Nat → (List Nat → β) → β :=
  Nat.rec (fun b K => K b) (fun j ih b K => ga_f (ga_nth d a (sp + j)) (fun v => ga_if (Nat.beq v (ga_nth d b (dp + j))) (ih b K) (ga_put d b (dp + j) v (fun b => ih b K)))) m
noncomputable def ga_acp (go : ga_G) (nx : List ga_E) (al sk : List Nat) (cs ss : Nat) (iv : ga_I) (n : Nat) (h : ga_H) : Option (List ga_O) :=
  match sk with
  | m :: dp :: b :: sp :: a :: t => ga_if (and (and (ga_l2 m dp) (Nat.beq (sp % 8) 0)) (and (and (ga_ref a) (ga_ref b)) (Nat.ble (ga_wd t) 8)))
      (match ga_hg h (a / 8), ga_hg h (b / 8) with
        | (ka, la, va), (kb, lb, vb) => ga_if (and (and (Nat.beq ka kb) (or (Nat.beq ka 100) (Nat.beq ka 102))) (and (and (Nat.ble (sp / 8 + m / 8) la) (Nat.ble (dp / 8 + m / 8) lb)) (and (Nat.blt (sp / 8) 1048576) (and (Nat.blt (dp / 8) 1048576) (Nat.blt (m / 8) 1048576)))))
            (ga_cpy (ga_d ka) va (sp / 8) (dp / 8) (m / 8) vb (fun vs => ga_hs h (b / 8) (kb, lb, vs) (fun h => go nx al t cs ss iv n h))) none) none
  | _ => none
