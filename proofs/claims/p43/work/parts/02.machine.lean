/-! MY OWN SYMBOLIC MACHINE, to be run by the kernel. A value is a number 8 * payload + tag: 0 an int (its 32 bits), 1 a symbol (an int, by its number), 2 any int, 3 a cell of the world (by its place), 4 null, 5 a long (its 64 bits), 6 a cell that was there before (a text's, the script's), 7 nothing. -/
abbrev ga_E : Type := Nat × Nat × Instr × Nat × Nat × List (Nat × Nat)
abbrev ga_C : Type := Nat × Nat × List Nat
abbrev ga_H : Type := List (List ga_C)
abbrev ga_I : Type := List (Nat × Nat)
abbrev ga_O : Type := List ga_E × List Nat × List Nat × Nat × Nat × ga_I × Nat × ga_H
abbrev ga_A : Type := Nat × ga_I × Nat × ga_H
abbrev ga_G : Type := List ga_E → List Nat → List Nat → Nat → Nat → ga_I → Nat → ga_H → Option (List ga_O)
/-- a method: its code, its free locals, all locals, arguments, cells, slots, kind of answer, class of the receiver (999: none) -/
abbrev ga_M : Type := List ga_E × Nat × Nat × Nat × Nat × Nat × Nat × Nat
noncomputable def ga_f {β : Type} (n : Nat) (K : Nat → β) : β := Nat.rec (K 0) (fun m _ => K (Nat.succ m)) n
noncomputable def ga_if {α : Type} (b : Bool) (t e : α) : α := Bool.rec e t b
noncomputable def ga_nth {α : Type} (d : α) (l : List α) : Nat → α := List.rec (fun _ => d) (fun x _ ih n => Nat.rec x (fun m _ => ih m) n) l
noncomputable def ga_set {α β : Type} (l : List α) : Nat → α → (List α → β) → β := List.rec (fun _ _ K => K []) (fun x r ih n v K => Nat.rec (K (v :: r)) (fun m _ => ih m v (fun r' => K (x :: r'))) n) l
noncomputable def ga_put {β : Type} (d : Nat) (l : List Nat) : Nat → Nat → (List Nat → β) → β := List.rec (fun n v K => Nat.rec (motive := fun _ => (List Nat → β) → β) (fun K => K [v]) (fun _ ih K => ih (fun r => K (d :: r))) n K) (fun x r ih n v K => Nat.rec (K (v :: r)) (fun m _ => ih m v (fun r' => K (x :: r'))) n) l
noncomputable def ga_hg (h : ga_H) (k : Nat) : ga_C := ga_nth (999, 0, []) (ga_nth [] h (k / 16)) (k % 16)
noncomputable def ga_hs {β : Type} (h : ga_H) (k : Nat) (c : ga_C) (K : ga_H → β) : β := ga_set (ga_nth [] h (k / 16)) (k % 16) c (fun r => ga_set h (k / 16) r K)
/-- the order of ints as that of numbers -/
noncomputable def ga_key (n : Nat) : Nat := (n + 2147483648) % 4294967296
noncomputable def ga_iv (iv : ga_I) (i : Nat) : Nat × Nat := ga_nth (0, 4294967295) iv i
noncomputable def ga_lo (iv : ga_I) (v : Nat) : Nat := ga_if (Nat.beq (v % 8) 0) (ga_key (v / 8)) (ga_if (Nat.beq (v % 8) 1) (ga_iv iv (v / 8)).1 0)
noncomputable def ga_hi (iv : ga_I) (v : Nat) : Nat := ga_if (Nat.beq (v % 8) 0) (ga_key (v / 8)) (ga_if (Nat.beq (v % 8) 1) (ga_iv iv (v / 8)).2 4294967295)
/-- a symbol of which one value is left is that value -/
noncomputable def ga_sm (iv : ga_I) (v : Nat) : Nat := ga_if (Nat.beq (v % 8) 1) (ga_if (Nat.beq (ga_iv iv (v / 8)).1 (ga_iv iv (v / 8)).2) (8 * ga_key (ga_iv iv (v / 8)).1) v) v
/-- an int, whichever -/
noncomputable def ga_int (v : Nat) : Bool := Nat.ble (v % 8) 2
noncomputable def ga_ref (v : Nat) : Bool := Nat.beq (v % 8) 3
noncomputable def ga_lt (iv : ga_I) (x y : Nat) : List (Bool × ga_I) :=
  ga_f (ga_lo iv x) (fun lx => ga_f (ga_hi iv x) (fun hx => ga_f (ga_lo iv y) (fun ly => ga_f (ga_hi iv y) (fun hy =>
    ga_if (Nat.blt hx ly) [(true, iv)] (ga_if (Nat.ble hy lx) [(false, iv)]
      (ga_if (and (Nat.beq (x % 8) 1) (Nat.beq ly hy)) (ga_f (ly - 1) (fun c => ga_set iv (x / 8) (lx, c) (fun i1 => ga_set iv (x / 8) (ly, hx) (fun i2 => [(true, i1), (false, i2)]))))
        (ga_if (and (Nat.beq (y % 8) 1) (Nat.beq lx hx)) (ga_f (lx + 1) (fun c => ga_set iv (y / 8) (c, hy) (fun i1 => ga_set iv (y / 8) (ly, lx) (fun i2 => [(true, i1), (false, i2)]))))
          [(true, iv), (false, iv)])))))))
noncomputable def ga_eq3 (iv : ga_I) (i lo hi c : Nat) : List (Bool × ga_I) :=
  ga_f (c - 1) (fun cm => ga_f (c + 1) (fun cp => ga_set iv i (c, c) (fun ie => ga_set iv i (lo, cm) (fun il => ga_set iv i (cp, hi) (fun ih =>
    ga_if (Nat.blt lo c) (ga_if (Nat.blt c hi) [(false, il), (true, ie), (false, ih)] [(false, il), (true, ie)]) (ga_if (Nat.blt c hi) [(true, ie), (false, ih)] [(true, ie)]))))))
noncomputable def ga_eq (iv : ga_I) (x y : Nat) : List (Bool × ga_I) :=
  ga_f (ga_lo iv x) (fun lx => ga_f (ga_hi iv x) (fun hx => ga_f (ga_lo iv y) (fun ly => ga_f (ga_hi iv y) (fun hy =>
    ga_if (or (Nat.blt hx ly) (Nat.blt hy lx)) [(false, iv)] (ga_if (and (Nat.beq lx hx) (Nat.beq ly hy)) [(true, iv)]
      (ga_if (and (Nat.beq x y) (Nat.beq (x % 8) 1)) [(true, iv)]
        (ga_if (and (Nat.beq (x % 8) 1) (Nat.beq ly hy)) (ga_eq3 iv (x / 8) lx hx ly)
          (ga_if (and (Nat.beq (y % 8) 1) (Nat.beq lx hx)) (ga_eq3 iv (y / 8) ly hy lx) [(true, iv), (false, iv)]))))))))
noncomputable def ga_cat (a b : Option (List ga_O)) : Option (List ga_O) := Option.rec none (fun x => Option.rec none (fun y => some (x ++ y)) b) a
/-- all of the ways on -/
noncomputable def ga_all {α : Type} (l : List α) (K : α → Option (List ga_O)) : Option (List ga_O) := List.rec (some []) (fun x r ih => List.rec (K x) (fun _ _ _ => ga_cat (K x) ih) r) l
noncomputable def ga_br (o : List (Bool × ga_I)) (kt kf : ga_I → Option (List ga_O)) : Option (List ga_O) := ga_all o (fun q => ga_if q.1 (kt q.2) (kf q.2))
noncomputable def ga_jmp (l : List ga_E) (t : Nat) : List ga_E := List.rec [] (fun e r ih => ga_if (Nat.beq e.1 t) (e :: r) ih) l
noncomputable def ga_l2 (x y : Nat) : Bool := and (Nat.beq (x % 8) 0) (Nat.beq (y % 8) 0)
noncomputable def ga_i2 (x y : Nat) : Bool := and (ga_int x) (ga_int y)
noncomputable def ga_add (x y : Nat) : Nat := ga_if (ga_l2 x y) ((x + y) % 34359738368) (ga_if (ga_i2 x y) (ga_if (Nat.beq y 0) x (ga_if (Nat.beq x 0) y 2)) 7)
noncomputable def ga_sub (x y : Nat) : Nat := ga_if (ga_l2 x y) ((x + 34359738368 - y) % 34359738368) (ga_if (ga_i2 x y) (ga_if (Nat.beq y 0) x 2) 7)
noncomputable def ga_mul (x y : Nat) : Nat := ga_if (ga_l2 x y) (8 * (x / 8 * (y / 8) % 4294967296)) (ga_if (ga_i2 x y) (ga_if (or (Nat.beq x 0) (Nat.beq y 0)) 0 2) 7)
noncomputable def ga_and (x y : Nat) : Nat := ga_if (ga_l2 x y) (8 * (Nat.land (x / 8) (y / 8))) (ga_if (ga_i2 x y) (ga_if (or (Nat.beq x 0) (Nat.beq y 0)) 0 (ga_if (and (Nat.beq x 1) (Nat.beq y 504)) 49 2)) 7)
noncomputable def ga_or (x y : Nat) : Nat := ga_if (ga_l2 x y) (8 * (Nat.lor (x / 8) (y / 8))) (ga_if (ga_i2 x y) 2 7)
noncomputable def ga_xor (x y : Nat) : Nat := ga_if (ga_l2 x y) (8 * (Nat.xor (x / 8) (y / 8))) (ga_if (ga_i2 x y) 2 7)
noncomputable def ga_shl (x y : Nat) : Nat := ga_if (ga_l2 x y) (ga_if (and (Nat.blt (y / 8) 31) (Nat.blt (x / 8 * 2 ^ (y / 8)) 4294967296)) (8 * (x / 8 * 2 ^ (y / 8))) 7) (ga_if (ga_i2 x y) 2 7)
noncomputable def ga_shr (x y : Nat) : Nat := ga_if (and (ga_l2 x y) (and (Nat.blt (y / 8) 31) (Nat.blt (x / 8) 2147483648))) (8 * (x / 8 / 2 ^ (y / 8))) (ga_if (ga_i2 x y) (ga_if (Nat.beq x 0) 0 2) 7)
noncomputable def ga_ush (x y : Nat) : Nat := ga_if (and (ga_l2 x y) (Nat.blt (y / 8) 31)) (8 * (x / 8 / 2 ^ (y / 8))) (ga_if (ga_i2 x y) 2 7)
noncomputable def ga_div (x y : Nat) : Nat := ga_if (and (ga_l2 x y) (and (Nat.blt 0 (y / 8)) (and (Nat.blt (x / 8) 2147483648) (Nat.blt (y / 8) 2147483648)))) (8 * (x / 8 / (y / 8))) 7
noncomputable def ga_rem (x y : Nat) : Nat := ga_if (and (ga_l2 x y) (and (Nat.blt 0 (y / 8)) (and (Nat.blt (x / 8) 2147483648) (Nat.blt (y / 8) 2147483648)))) (8 * (x / 8 % (y / 8))) 7
noncomputable def ga_lad (x y : Nat) : Nat := ga_if (and (Nat.beq (x % 8) 5) (Nat.beq (y % 8) 5)) (8 * ((x / 8 + y / 8) % 18446744073709551616) + 5) 7
noncomputable def ga_lmu (x y : Nat) : Nat := ga_if (and (Nat.beq (x % 8) 5) (Nat.beq (y % 8) 5)) (8 * ((x / 8 * (y / 8)) % 18446744073709551616) + 5) 7
noncomputable def ga_i2b (x : Nat) : Nat := ga_if (and (Nat.beq (x % 8) 0) (Nat.blt (x / 8) 128)) x (ga_if (ga_int x) 2 7)
noncomputable def ga_i2l (x : Nat) : Nat := ga_if (and (Nat.beq (x % 8) 0) (Nat.blt (x / 8) 2147483648)) (x + 5) 7
