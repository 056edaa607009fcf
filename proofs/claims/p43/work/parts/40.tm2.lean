/-! THE TYPED MACHINE, to be run by the kernel: the world stays as the constructors left it but for what its places hold; each place has a type (bounds), which every store keeps. Values are numbers: 0 an int that is known, 1 a symbol, 2 an int between bounds (the lower * 2^32 + the upper, in the order of ints), 3 a cell, 5 a long, 6 a text, 7 nothing. A symbol's bounds, and by how much it differs from an elder one, stand in the store of constraints; what is known of single places stands in the overlay. It answers whether all is well. -/
abbrev gb_C : Type := List (Nat × Nat × Nat × Nat)
abbrev gb_V : Type := List (Nat × Nat × Nat)
/-- a cell's type: kind, length, the type of its places, those of its first places, whether its places are named -/
abbrev gb_T : Type := Nat × Nat × Nat × List Nat × Nat
/-- what is told of a loop's head: its place; locals that change, with bounds; locals that are dead; places to forget; places that change, with bounds; which of the new symbols tells how far it is, 0 up 1 down -/
abbrev gb_N : Type := Nat × List (Nat × Nat × Nat) × List Nat × List (Nat × Nat) × List (Nat × Nat × Nat × Nat) × Nat × Nat
/-- a loop that is open: what is told of it; locals, stack, constraints, overlay at its head; the symbols ahead of it -/
abbrev gb_L : Type := gb_N × List Nat × List Nat × gb_C × gb_V × Nat
noncomputable def gb_app {α β : Type} (e : α) (l : List α) : (List α → β) → β := List.rec (fun K => K [e]) (fun x _ ih K => ih (fun r => K (x :: r))) l
noncomputable def gb_ent (cs : gb_C) (i : Nat) : Nat × Nat × Nat × Nat := ga_nth (0, 4294967295, 0, 0) cs i
noncomputable def gb_lo (cs : gb_C) (v : Nat) : Nat := ga_if (Nat.beq (v % 8) 0) (ga_key (v / 8)) (ga_if (Nat.beq (v % 8) 1) (gb_ent cs (v / 8)).1 (ga_if (Nat.beq (v % 8) 2) (v / 8 / 4294967296) 0))
noncomputable def gb_hi (cs : gb_C) (v : Nat) : Nat := ga_if (Nat.beq (v % 8) 0) (ga_key (v / 8)) (ga_if (Nat.beq (v % 8) 1) (gb_ent cs (v / 8)).2.1 (ga_if (Nat.beq (v % 8) 2) (v / 8 % 4294967296) 4294967295))
noncomputable def gb_tv (lo hi : Nat) : Nat := 8 * (lo * 4294967296 + hi) + 2
noncomputable def gb_mk (lo hi : Nat) : Nat := ga_if (Nat.beq lo hi) (8 * ga_key lo) (gb_tv lo hi)
/-- any int -/
def gb_any : Nat := 34359738362
noncomputable def gb_sm (cs : gb_C) (v : Nat) : Nat := ga_if (Nat.beq (v % 8) 1) (ga_if (Nat.beq (gb_ent cs (v / 8)).1 (gb_ent cs (v / 8)).2.1) (8 * ga_key (gb_ent cs (v / 8)).1) v) v
/-- a new symbol -/
noncomputable def gb_new {β : Type} (cs : gb_C) (lo hi b off : Nat) (K : Nat → gb_C → β) : β :=
  ga_f lo (fun lo => ga_f hi (fun hi => ga_f b (fun b => ga_f off (fun off => ga_f (8 * List.length cs + 1) (fun v => gb_app (lo, hi, b, off) cs (fun cs => K v cs))))))
noncomputable def gb_set4 {β : Type} (cs : gb_C) (i lo hi b off : Nat) (K : gb_C → β) : β := ga_f lo (fun lo => ga_f hi (fun hi => ga_f b (fun b => ga_f off (fun off => ga_set cs i (lo, hi, b, off) K))))
noncomputable def gb_sh1 {β : Type} (cs : gb_C) (v h : Nat) (K : gb_C → β) : β :=
  ga_if (Nat.beq (v % 8) 1) (match gb_ent cs (v / 8) with | (lo, hi, b, off) => ga_if (Nat.blt h hi) (gb_set4 cs (v / 8) lo h b off K) (K cs)) (K cs)
noncomputable def gb_sl1 {β : Type} (cs : gb_C) (v l : Nat) (K : gb_C → β) : β :=
  ga_if (Nat.beq (v % 8) 1) (match gb_ent cs (v / 8) with | (lo, hi, b, off) => ga_if (Nat.blt lo l) (gb_set4 cs (v / 8) l hi b off K) (K cs)) (K cs)
/-- a symbol's bound, and that of the elder from which it differs by a number -/
noncomputable def gb_shi {β : Type} (cs : gb_C) (v h : Nat) (K : gb_C → β) : β := gb_sh1 cs v h (fun cs => ga_if (Nat.beq (v % 8) 1) (ga_f (gb_ent cs (v / 8)).2.2.1 (fun b => ga_if (Nat.beq b 0) (K cs) (ga_f (h + 4294967296 - (gb_ent cs (v / 8)).2.2.2) (fun h2 => gb_sh1 cs (8 * (b - 1) + 1) h2 K)))) (K cs))
noncomputable def gb_slo {β : Type} (cs : gb_C) (v l : Nat) (K : gb_C → β) : β := gb_sl1 cs v l (fun cs => ga_if (Nat.beq (v % 8) 1) (ga_f (gb_ent cs (v / 8)).2.2.1 (fun b => ga_if (Nat.beq b 0) (K cs) (ga_f (l + 4294967296 - (gb_ent cs (v / 8)).2.2.2) (fun l2 => gb_sl1 cs (8 * (b - 1) + 1) l2 K)))) (K cs))
/-- the elder symbol of which one is a copy -/
noncomputable def gb_rt1 (cs : gb_C) (x : Nat) : Nat := ga_if (Nat.beq (x % 8) 1) (ga_if (and (not (Nat.beq (gb_ent cs (x / 8)).2.2.1 0)) (Nat.beq (gb_ent cs (x / 8)).2.2.2 4294967296)) (8 * ((gb_ent cs (x / 8)).2.2.1 - 1) + 1) x) x
noncomputable def gb_rt (cs : gb_C) (x : Nat) : Nat := ga_f (gb_rt1 cs x) (fun x => ga_f (gb_rt1 cs x) (fun x => x))
noncomputable def gb_same (cs : gb_C) (x y : Nat) : Bool := and (and (Nat.beq (x % 8) 1) (Nat.beq (y % 8) 1)) (Nat.beq (gb_rt cs x) (gb_rt cs y))
noncomputable def gb_al1 {β : Type} (cs : gb_C) (i j : Nat) (K : gb_C → β) : β := match gb_ent cs j with | (lo, hi, b, _) => ga_if (Nat.beq b 0) (gb_set4 cs j lo hi (i + 1) 4294967296 K) (K cs)
noncomputable def gb_al2 {β : Type} (cs : gb_C) (x y : Nat) (K : gb_C → β) : β := ga_if (and (Nat.beq (x % 8) 1) (Nat.beq (y % 8) 1)) (ga_if (Nat.blt (x / 8) (y / 8)) (gb_al1 cs (x / 8) (y / 8) K) (ga_if (Nat.blt (y / 8) (x / 8)) (gb_al1 cs (y / 8) (x / 8) K) (K cs))) (K cs)
noncomputable def gb_al {β : Type} (cs : gb_C) (x y : Nat) (K : gb_C → β) : β := ga_f (gb_rt cs x) (fun x => ga_f (gb_rt cs y) (fun y => gb_al2 cs x y K))
noncomputable def gb_add (lx hx ly hy : Nat) : Nat := ga_if (and (Nat.ble 2147483648 (lx + ly)) (Nat.blt (hx + hy) 6442450944)) (gb_mk (lx + ly - 2147483648) (hx + hy - 2147483648)) gb_any
noncomputable def gb_sub (lx hx ly hy : Nat) : Nat := ga_if (and (Nat.ble hy (lx + 2147483648)) (Nat.blt (hx + 2147483648) (ly + 4294967296))) (gb_mk (lx + 2147483648 - hy) (hx + 2147483648 - ly)) gb_any
noncomputable def gb_mul (lx hx ly hy : Nat) : Nat := ga_if (and (and (Nat.ble 2147483648 lx) (Nat.ble 2147483648 ly)) (Nat.blt ((hx - 2147483648) * (hy - 2147483648)) 2147483648)) (gb_mk ((lx - 2147483648) * (ly - 2147483648) + 2147483648) ((hx - 2147483648) * (hy - 2147483648) + 2147483648)) gb_any
noncomputable def gb_div (lx hx ly hy : Nat) : Nat := ga_if (Nat.blt 2147483648 ly) (ga_if (Nat.ble 2147483648 lx) (gb_mk ((lx - 2147483648) / (hy - 2147483648) + 2147483648) ((hx - 2147483648) / (ly - 2147483648) + 2147483648)) gb_any) (ga_if (Nat.blt hy 2147483648) gb_any 7)
noncomputable def gb_rem (lx hx ly hy : Nat) : Nat := ga_if (Nat.blt 2147483648 ly) (ga_if (Nat.ble 2147483648 lx) (gb_mk 2147483648 (ga_if (Nat.blt hx hy) hx (hy - 1))) (gb_mk (4294967297 - hy) (hy - 1))) (ga_if (Nat.blt hy 2147483648) gb_any 7)
noncomputable def gb_and (lx hx ly hy : Nat) : Nat := ga_if (Nat.ble 2147483648 ly) (gb_mk 2147483648 hy) (ga_if (Nat.ble 2147483648 lx) (gb_mk 2147483648 hx) gb_any)
noncomputable def gb_orx (lx _hx ly _hy : Nat) : Nat := ga_if (and (Nat.ble 2147483648 lx) (Nat.ble 2147483648 ly)) (gb_tv 2147483648 4294967295) gb_any
noncomputable def gb_shl (lx hx ly hy : Nat) : Nat := ga_if (and (and (Nat.beq lx 2147483649) (Nat.beq hx 2147483649)) (and (Nat.ble 2147483648 ly) (Nat.ble hy 2147483678))) (gb_mk (2 ^ (ly - 2147483648) + 2147483648) (2 ^ (hy - 2147483648) + 2147483648)) gb_any
noncomputable def gb_shr (lx hx _ly _hy : Nat) : Nat := ga_if (Nat.ble 2147483648 lx) (gb_mk 2147483648 hx) gb_any
noncomputable def gb_a2 (_lx _hx _ly _hy : Nat) : Nat := gb_any
noncomputable def gb_neg (lx hx : Nat) : Nat := ga_if (Nat.ble 1 lx) (gb_mk (4294967296 - hx) (4294967296 - lx)) gb_any
/-- an int of bounds alone gets a symbol -/
noncomputable def gb_nam {β : Type} (v : Nat) (cs : gb_C) (K : Nat → gb_C → β) : β := ga_if (Nat.beq (v % 8) 2) (gb_new cs (v / 8 / 4294967296) (v / 8 % 4294967296) 0 0 K) (K v cs)
noncomputable def gb_ol (ov : gb_V) (c j : Nat) : Nat := List.rec 7 (fun q _ ih => ga_if (and (Nat.beq q.1 c) (Nat.beq q.2.1 j)) q.2.2 ih) ov
noncomputable def gb_flt {α β : Type} (f : α → Bool) (l : List α) : (List α → β) → β := List.rec (fun K => K []) (fun x _ ih K => ga_if (f x) (ih (fun r => K (x :: r))) (ih K)) l
noncomputable def gb_od {β : Type} (ov : gb_V) (c j : Nat) (K : gb_V → β) : β := gb_flt (fun q => not (and (Nat.beq q.1 c) (Nat.beq q.2.1 j))) ov K
noncomputable def gb_oc {β : Type} (ov : gb_V) (c : Nat) (K : gb_V → β) : β := gb_flt (fun q => not (Nat.beq q.1 c)) ov K
noncomputable def gb_ty (t : gb_T) (j : Nat) : Nat := ga_nth t.2.2.1 t.2.2.2.1 j
/-- the bounds of the types of the places l .. l + m, taken together (the widest, the narrowest) -/
noncomputable def gb_jl (t : gb_T) (l m : Nat) : Nat := Nat.rec (gb_ty t l / 8 / 4294967296) (fun j ih => ga_f (gb_ty t (l + j + 1) / 8 / 4294967296) (fun x => ga_f ih (fun y => ga_if (Nat.blt x y) x y))) m
noncomputable def gb_jh (t : gb_T) (l m : Nat) : Nat := Nat.rec (gb_ty t l / 8 % 4294967296) (fun j ih => ga_f (gb_ty t (l + j + 1) / 8 % 4294967296) (fun x => ga_f ih (fun y => ga_if (Nat.blt x y) y x))) m
noncomputable def gb_ml (t : gb_T) (l m : Nat) : Nat := Nat.rec (gb_ty t l / 8 / 4294967296) (fun j ih => ga_f (gb_ty t (l + j + 1) / 8 / 4294967296) (fun x => ga_f ih (fun y => ga_if (Nat.blt x y) y x))) m
noncomputable def gb_mh (t : gb_T) (l m : Nat) : Nat := Nat.rec (gb_ty t l / 8 % 4294967296) (fun j ih => ga_f (gb_ty t (l + j + 1) / 8 % 4294967296) (fun x => ga_f ih (fun y => ga_if (Nat.blt x y) x y))) m
noncomputable def gb_t2 (t : gb_T) (l m : Nat) : Bool := Nat.rec (Nat.beq (gb_ty t l % 8) 2) (fun j ih => and (Nat.beq (gb_ty t (l + j + 1) % 8) 2) ih) m
/-- a value is of a type -/
noncomputable def gb_fit (cs : gb_C) (v t : Nat) : Bool := ga_if (Nat.beq (t % 8) 2) (and (ga_int v) (and (Nat.ble (t / 8 / 4294967296) (gb_lo cs v)) (Nat.ble (gb_hi cs v) (t / 8 % 4294967296)))) (and (Nat.beq v t) (or (Nat.beq (t % 8) 3) (Nat.beq t 5)))
/-- whether a place may be written -/
noncomputable def gb_mo (ml : List (Nat × Nat)) (c j : Nat) : Bool := List.rec false (fun q _ ih => or (or (Nat.beq q.1 99999) (and (Nat.beq q.1 c) (or (Nat.beq q.2 j) (Nat.beq q.2 1048576)))) ih) ml
noncomputable def gb_pick {β : Type} (t : gb_T) (c j : Nat) (cs : gb_C) (ov : gb_V) (K : Nat → gb_C → gb_V → β) : β :=
  ga_f (gb_ol ov c j) (fun v => ga_if (Nat.beq (v % 8) 7)
    (ga_f (gb_ty t j) (fun v => ga_if (and (Nat.beq (v % 8) 2) (Nat.beq t.2.2.2.2 1)) (gb_nam v cs (fun v cs => K v cs ((c, j, v) :: ov))) (K v cs ov)))
    (K v cs ov))
/-- the overlay behind a store of v at a place -/
noncomputable def gb_lay {β : Type} (t : gb_T) (c j v : Nat) (cs : gb_C) (ov : gb_V) (K : gb_C → gb_V → β) : β :=
  gb_od ov c j (fun ov => ga_if (and (ga_int v) (Nat.beq t.2.2.2.2 1)) (gb_nam v cs (fun v cs => K cs ((c, j, v) :: ov))) (K cs ov))
/-- a value of a field's kind: 0 an int, 1 a boolean, 2 a long, 3 a cell -/
noncomputable def gb_kd (cs : gb_C) (tc v : Nat) : Bool := ga_if (Nat.beq tc 0) (ga_int v) (ga_if (Nat.beq tc 1) (and (ga_int v) (and (Nat.ble 2147483648 (gb_lo cs v)) (Nat.ble (gb_hi cs v) 2147483649))) (ga_if (Nat.beq tc 2) (ga_lng v) false))
/-- bytes and booleans, as they are stored -/
noncomputable def gb_byt (cs : gb_C) (v : Nat) : Nat := ga_if (and (ga_int v) (and (Nat.ble 2147483520 (gb_lo cs v)) (Nat.ble (gb_hi cs v) 2147483775))) v (ga_if (ga_int v) (gb_tv 2147483520 2147483775) 7)
noncomputable def gb_chr (cs : gb_C) (v : Nat) : Nat := ga_if (and (ga_int v) (and (Nat.ble 2147483648 (gb_lo cs v)) (Nat.ble (gb_hi cs v) 2147549183))) v (ga_if (ga_int v) (gb_tv 2147483648 2147549183) 7)
noncomputable def gb_bit (cs : gb_C) (v : Nat) : Nat := ga_if (and (ga_int v) (and (Nat.ble 2147483648 (gb_lo cs v)) (Nat.ble (gb_hi cs v) 2147483649))) v 7
/-- the loop's changing locals get new symbols -/
noncomputable def gb_ah {β : Type} (z : β) (hv : List (Nat × Nat × Nat)) : List Nat → gb_C → (List Nat → gb_C → β) → β :=
  List.rec (fun al cs K => K al cs) (fun q _ ih al cs K => ga_f (ga_nth 7 al q.1) (fun v => ga_if (and (and (ga_int v) (Nat.blt q.2.2 4294967296)) (and (Nat.ble q.2.1 (gb_lo cs v)) (Nat.ble (gb_hi cs v) q.2.2)))
    (gb_new cs q.2.1 q.2.2 0 0 (fun v cs => ga_set al q.1 v (fun al => ih al cs K))) z)) hv
noncomputable def gb_adl {β : Type} (z : β) (ds : List Nat) : List Nat → (List Nat → β) → β := List.rec (fun al K => K al) (fun i _ ih al K => ga_if (Nat.beq (ga_nth 7 al i % 8) 5) z (ga_set al i 7 (fun al => ih al K))) ds
noncomputable def gb_ak {β : Type} (wt : Nat → gb_T) (z : β) (kh : List (Nat × Nat × Nat × Nat)) : gb_C → gb_V → (gb_C → gb_V → β) → β :=
  List.rec (fun cs ov K => K cs ov) (fun q _ ih cs ov K => ga_f (gb_ty (wt q.1) q.2.1) (fun t => ga_if (and (and (and (Nat.beq (t % 8) 2) (Nat.blt q.2.1 (wt q.1).2.1)) (and (Nat.blt q.2.2.2 4294967296) (not (Nat.beq (wt q.1).1 999)))) (and (Nat.ble q.2.2.1 (t / 8 / 4294967296)) (Nat.ble (t / 8 % 4294967296) q.2.2.2)))
    (gb_new cs q.2.2.1 q.2.2.2 0 0 (fun v cs => gb_od ov q.1 q.2.1 (fun ov => ih cs ((q.1, q.2.1, v) :: ov) K))) z)) kh
noncomputable def gb_drp (ds : List (Nat × Nat)) (c j : Nat) : Bool := List.rec false (fun q _ ih => or (and (Nat.beq q.1 c) (Nat.beq q.2 j)) ih) ds
/-- what the new symbols stand for now -/
noncomputable def gb_cur (an : gb_N) (al : List Nat) (ov : gb_V) : List Nat :=
  match an with | (_, hv, _, _, kh, _, _) => hv.map (fun q => ga_nth 7 al q.1) ++ kh.map (fun q => gb_ol ov q.1 q.2.1)
noncomputable def gb_prog (cs : gb_C) (w s dir : Nat) : Bool :=
  ga_if (Nat.beq dir 0) (or (and (Nat.beq (w % 8) 1) (and (Nat.beq (gb_ent cs (w / 8)).2.2.1 (s + 1)) (Nat.blt 4294967296 (gb_ent cs (w / 8)).2.2.2))) (Nat.blt (gb_ent cs s).2.1 (gb_lo cs w)))
    (or (and (Nat.beq (w % 8) 1) (and (Nat.beq (gb_ent cs (w / 8)).2.2.1 (s + 1)) (Nat.blt (gb_ent cs (w / 8)).2.2.2 4294967296))) (Nat.blt (gb_hi cs w) (gb_ent cs s).1))
/-- each local is dead, or a new symbol, or as it was -/
noncomputable def gb_bl (n : Nat) (a : List Nat) : List Nat → Bool := List.rec (fun b => match b with | [] => true | _ => false)
  (fun v _ ih b => match b with | [] => false | w :: r => ga_if (or (and (Nat.beq (v % 8) 7) (not (Nat.beq w 5))) (ga_if (Nat.beq (v % 8) 1) (or (Nat.ble n (v / 8)) (Nat.beq v w)) (and (not (Nat.beq (v % 8) 2)) (Nat.beq v w)))) (ih r) false) a
/-- the same of the stack and the places; there no dead ones -/
noncomputable def gb_bs (n : Nat) (a : List Nat) : List Nat → Bool := List.rec (fun b => match b with | [] => true | _ => false)
  (fun v _ ih b => match b with | [] => false | w :: r => ga_if (and (Nat.beq v w) (ga_if (Nat.beq (v % 8) 1) (Nat.blt (v / 8) n) (not (Nat.beq (v % 8) 2)))) (ih r) false) a
noncomputable def gb_bo (n : Nat) (ov : gb_V) (a : gb_V) : Bool := List.rec true
  (fun q _ ih => ga_if (ga_if (Nat.beq (q.2.2 % 8) 1) (or (Nat.ble n (q.2.2 / 8)) (Nat.beq (gb_ol ov q.1 q.2.1) q.2.2)) (and (and (not (Nat.beq (q.2.2 % 8) 2)) (not (Nat.beq (q.2.2 % 8) 7))) (Nat.beq (gb_ol ov q.1 q.2.1) q.2.2))) ih false) a
/-- the symbols' current values are within their bounds -/
noncomputable def gb_bc (cs cs0 : gb_C) (n : Nat) (ws : List Nat) : Bool := List.rec (motive := fun _ => Nat → Bool) (fun _ => true) (fun w _ ih n => ga_if (and (ga_int w) (and (Nat.ble (gb_ent cs0 n).1 (gb_lo cs w)) (Nat.ble (gb_hi cs w) (gb_ent cs0 n).2.1))) (ih (n + 1)) false) ws n
noncomputable def gb_back (L : gb_L) (al sk : List Nat) (cs : gb_C) (ov : gb_V) : Bool :=
  match L with
  | (an, al0, sk0, cs0, ov0, n) => match an with
    | (_, _, _, _, _, mi, dir) => and (and (gb_bl n al0 al) (gb_bs n sk0 sk)) (and (gb_bo n ov ov0) (and (gb_bc cs cs0 n (gb_cur an al ov)) (gb_prog cs (ga_nth 7 (gb_cur an al ov) mi) (n + mi) dir)))
noncomputable def gb_fan (an : List gb_N) (pc : Nat) : Option gb_N := List.rec none (fun q _ ih => ga_if (Nat.beq q.1 pc) (some q) ih) an
noncomputable def gb_fop (opn : List gb_L) (pc : Nat) : Option gb_L := List.rec none (fun q _ ih => ga_if (Nat.beq q.1.1 pc) (some q) ih) opn
/-- the arguments that are of bounds alone get symbols -/
noncomputable def gb_nas {β : Type} (as : List Nat) : gb_C → (List Nat → gb_C → β) → β := List.rec (fun cs K => K [] cs) (fun v _ ih cs K => gb_nam v cs (fun v cs => ih cs (fun as cs => K (v :: as) cs))) as
noncomputable def gb_fits (cs : gb_C) (as : List Nat) : List Nat → Bool := List.rec (fun b => match b with | [] => true | _ => false) (fun v _ ih b => match b with | [] => false | t :: r => ga_if (gb_fit cs v t) (ih r) false) as
noncomputable def gb_sbm (ml a : List (Nat × Nat)) : Bool := List.rec true (fun q _ ih => ga_if (gb_mo ml q.1 q.2) ih false) a
abbrev gt_G : Type := List gb_L → List ga_E → List Nat → List Nat → gb_C → gb_V → Bool
abbrev gt_R : Type := Nat → gb_C → gb_V → Bool
/-- the ways of x < y -/
noncomputable def gt_lt (cs : gb_C) (x y : Nat) (kt kf : gb_C → Bool) : Bool :=
  ga_f (gb_lo cs x) (fun lx => ga_f (gb_hi cs x) (fun hx => ga_f (gb_lo cs y) (fun ly => ga_f (gb_hi cs y) (fun hy =>
    ga_if (Nat.blt hx ly) (kt cs) (ga_if (Nat.ble hy lx) (kf cs) (and (gb_shi cs x (hy - 1) (fun cs => gb_slo cs y (lx + 1) kt)) (gb_slo cs x ly (fun cs => gb_shi cs y hx kf))))))))
/-- the ways of x = c, of which both may be -/
noncomputable def gt_eqc (cs : gb_C) (x lx hx c : Nat) (kt kf : gb_C → Bool) : Bool :=
  and (gb_slo cs x c (fun cs => gb_shi cs x c kt))
    (ga_if (Nat.beq c lx) (gb_slo cs x (c + 1) kf) (ga_if (Nat.beq c hx) (gb_shi cs x (c - 1) kf) (ga_if (Nat.beq c 2147483648) (and (gb_shi cs x (c - 1) kf) (gb_slo cs x (c + 1) kf)) (kf cs))))
noncomputable def gt_eq (cs : gb_C) (x y : Nat) (kt kf : gb_C → Bool) : Bool :=
  ga_f (gb_lo cs x) (fun lx => ga_f (gb_hi cs x) (fun hx => ga_f (gb_lo cs y) (fun ly => ga_f (gb_hi cs y) (fun hy =>
    ga_if (or (Nat.blt hx ly) (Nat.blt hy lx)) (kf cs) (ga_if (and (Nat.beq lx hx) (Nat.beq ly hy)) (kt cs) (ga_if (or (and (Nat.beq x y) (Nat.beq (x % 8) 1)) (gb_same cs x y)) (kt cs) (ga_if (Nat.beq ly hy) (gt_eqc cs x lx hx ly kt kf) (ga_if (Nat.beq lx hx) (gt_eqc cs y ly hy lx kt kf) (and (gb_slo cs x ly (fun cs => gb_shi cs x hy (fun cs => gb_slo cs y lx (fun cs => gb_shi cs y hx (fun cs => gb_al cs x y kt))))) (kf cs))))))))))
noncomputable def gt_cnd (c : Jvm.ClassFile.Cond) (cs : gb_C) (x y : Nat) (kt kf : gb_C → Bool) : Bool :=
  match c with
  | .eq => gt_eq cs x y kt kf
  | .ne => gt_eq cs x y kf kt
  | .lt => gt_lt cs x y kt kf
  | .ge => gt_lt cs x y kf kt
  | .gt => gt_lt cs y x kt kf
  | .le => gt_lt cs y x kf kt
noncomputable def gt_sw (ps : List (Nat × Nat)) (v : Nat) (cs : gb_C) (d : gb_C → Bool) (K : Nat → gb_C → Bool) : Bool :=
  List.rec (motive := fun _ => gb_C → Bool) d (fun q _ ih cs => gt_eq cs v q.1 (K q.2) ih) ps cs
noncomputable def gt_p (v : Nat) (K : Nat → Bool) : Bool := ga_f v (fun v => ga_if (Nat.beq (v % 8) 7) false (K v))
noncomputable def gt_op2 (f : Nat → Nat → Nat → Nat → Nat) (cs : gb_C) (sk : List Nat) (K : List Nat → Bool) : Bool :=
  match sk with
  | y :: x :: r => ga_if (ga_i2 x y) (gt_p (f (gb_lo cs x) (gb_hi cs x) (gb_lo cs y) (gb_hi cs y)) (fun v => K (v :: r))) false
  | _ => false
/-- a sum with a number that stands there: a symbol that differs from the elder by it -/
noncomputable def gt_sum (sg : Bool) (f : Nat → Nat → Nat → Nat → Nat) (cs : gb_C) (x y : Nat) (K : Nat → gb_C → Bool) : Bool :=
  ga_f (f (gb_lo cs x) (gb_hi cs x) (gb_lo cs y) (gb_hi cs y)) (fun v => ga_if (and (and (Nat.beq (x % 8) 1) (Nat.beq (y % 8) 0)) (Nat.beq (v % 8) 2))
    (ga_if (Nat.beq v gb_any) (K v cs) (gb_new cs (v / 8 / 4294967296) (v / 8 % 4294967296) (x / 8 + 1) (ga_if sg (ga_key (y / 8) + 2147483648) (6442450944 - ga_key (y / 8))) K)) (K v cs))
noncomputable def gt_opS (sg : Bool) (f : Nat → Nat → Nat → Nat → Nat) (cs : gb_C) (sk : List Nat) (K : List Nat → gb_C → Bool) : Bool :=
  match sk with
  | y :: x :: r => ga_if (ga_i2 x y) (ga_f (gb_sm cs y) (fun y => ga_f (gb_sm cs x) (fun x => gt_sum sg f cs x y (fun v cs => K (v :: r) cs)))) false
  | _ => false
noncomputable def gt_load (ok : Nat → Bool) (i : Nat) (al sk : List Nat) (K : List Nat → Bool) : Bool :=
  ga_f (ga_nth 7 al i) (fun v => ga_if (ok v) (K (v :: sk)) false)
noncomputable def gt_store (ok : Nat → Bool) (i : Nat) (al sk : List Nat) (cs : gb_C) (K : List Nat → List Nat → gb_C → Bool) : Bool :=
  match sk with
  | v :: r => ga_if (and (ok v) (ga_ahead al i)) (gb_nam v cs (fun v cs => ga_set al i v (fun al => K al r cs))) false
  | _ => false
noncomputable def gt_get (wt : Nat → gb_T) (ci k : Nat) (sk : List Nat) (cs : gb_C) (ov : gb_V) (K : List Nat → gb_C → gb_V → Bool) : Bool :=
  match sk with
  | r :: s => ga_if (ga_ref r) (match wt (r / 8) with | (c, m, d, vs, nm) => ga_if (and (Nat.beq c ci) (Nat.blt k m)) (ga_f (r / 8) (fun c0 => gb_pick (c, m, d, vs, nm) c0 k cs ov (fun v cs ov => gt_p v (fun v => K (v :: s) cs ov)))) false) false
  | _ => false
/-- whether a place, all places of a cell, may be written here -/
noncomputable def gt_wr (ml xl : List (Nat × Nat)) (c j : Nat) : Bool := and (gb_mo ml c j) (not (gb_mo xl c j))
noncomputable def gt_wc (ml xl : List (Nat × Nat)) (c : Nat) : Bool := and (gb_mo ml c 1048576) (List.rec true (fun q _ ih => and (not (or (Nat.beq q.1 c) (Nat.beq q.1 99999))) ih) xl)
noncomputable def gt_ptf (wt : Nat → gb_T) (ml xl : List (Nat × Nat)) (ci k : Nat) (tc : List (Nat × Nat)) (sk : List Nat) (cs : gb_C) (ov : gb_V) (K : List Nat → gb_C → gb_V → Bool) : Bool :=
  match sk, tc with
  | v :: r :: s, q0 :: _ => ga_if (and (ga_ref r) (gb_kd cs q0.1 v)) (match wt (r / 8) with | (c, m, d, vs, nm) => ga_if (and (and (Nat.beq c ci) (Nat.blt k m)) (and (gb_fit cs v (gb_ty (c, m, d, vs, nm) k)) (gt_wr ml xl (r / 8) k))) (ga_f (r / 8) (fun c0 => gb_lay (c, m, d, vs, nm) c0 k v cs ov (fun cs ov => K s cs ov))) false) false
  | _, _ => false
/-- the ways of an array of cells: each place -/
noncomputable def gt_ways (t : gb_T) (l : Nat) (K : Nat → Bool) (m : Nat) : Bool := Nat.rec (gt_p (gb_ty t l) K) (fun j ih => and (gt_p (gb_ty t (l + j + 1)) K) ih) m
noncomputable def gt_ald (wt : Nat → gb_T) (kind : Nat) (sk : List Nat) (cs : gb_C) (ov : gb_V) (K : List Nat → gb_C → gb_V → Bool) : Bool :=
  match sk with
  | i :: r :: s => ga_if (and (ga_ref r) (ga_int i)) (match wt (r / 8) with | (c, m, d, vs, nm) => ga_f (gb_lo cs i) (fun l => ga_f (gb_hi cs i) (fun h => ga_if (and (and (Nat.beq c kind) (Nat.ble 2147483648 l)) (and (Nat.ble l h) (and (Nat.blt h (2147483648 + m)) (Nat.blt m 1048577)))) (ga_if (Nat.beq l h) (ga_f (r / 8) (fun c0 => ga_f (l - 2147483648) (fun j => gb_pick (c, m, d, vs, nm) c0 j cs ov (fun v cs ov => gt_p v (fun v => K (v :: s) cs ov))))) (ga_if (Nat.beq kind 103) (gt_ways (c, m, d, vs, nm) (l - 2147483648) (fun v => K (v :: s) cs ov) (h - l)) (match vs with | [] => gt_p d (fun v => K (v :: s) cs ov) | _ :: _ => ga_if (gb_t2 (c, m, d, vs, nm) (l - 2147483648) (h - l)) (ga_f (gb_tv (gb_jl (c, m, d, vs, nm) (l - 2147483648) (h - l)) (gb_jh (c, m, d, vs, nm) (l - 2147483648) (h - l))) (fun v => K (v :: s) cs ov)) false))) false))) false
  | _ => false
noncomputable def gt_ast (wt : Nat → gb_T) (ml xl : List (Nat × Nat)) (kind : Nat) (sk : List Nat) (cs : gb_C) (ov : gb_V) (K : List Nat → gb_C → gb_V → Bool) : Bool :=
  match sk with
  | v :: i :: r :: s => ga_if (and (and (ga_ref r) (ga_int i)) (ga_if (Nat.beq kind 102) (ga_lng v) (ga_int v))) (match wt (r / 8) with | (c, m, d, vs, nm) => ga_f (gb_lo cs i) (fun l => ga_f (gb_hi cs i) (fun h => ga_if (and (and (Nat.beq c kind) (Nat.ble 2147483648 l)) (and (Nat.ble l h) (and (Nat.blt h (2147483648 + m)) (Nat.blt m 1048577)))) (ga_if (Nat.beq l h) (ga_if (and (gb_fit cs v (gb_ty (c, m, d, vs, nm) (l - 2147483648))) (gt_wr ml xl (r / 8) (l - 2147483648))) (ga_f (r / 8) (fun c0 => ga_f (l - 2147483648) (fun j => gb_lay (c, m, d, vs, nm) c0 j v cs ov (fun cs ov => K s cs ov)))) false) (ga_if (and (gt_wc ml xl (r / 8)) (match vs with | [] => gb_fit cs v d | _ :: _ => and (and (ga_int v) (gb_t2 (c, m, d, vs, nm) (l - 2147483648) (h - l))) (and (Nat.ble (gb_ml (c, m, d, vs, nm) (l - 2147483648) (h - l)) (gb_lo cs v)) (Nat.ble (gb_hi cs v) (gb_mh (c, m, d, vs, nm) (l - 2147483648) (h - l)))))) (gb_oc ov (r / 8) (fun ov => K s cs ov)) false)) false))) false
  | _ => false
noncomputable def gt_bst (f : Nat → Nat) (K : List Nat → Bool) (sk : List Nat) : Bool := match sk with
  | v :: r => gt_p (f v) (fun v => K (v :: r))
  | _ => false
noncomputable def gt_acp (wt : Nat → gb_T) (ml xl : List (Nat × Nat)) (sk : List Nat) (ov : gb_V) (K : List Nat → gb_V → Bool) : Bool :=
  match sk with
  | m :: dp :: b :: sp :: a :: t => ga_if (and (and (and (Nat.beq m (8 * (m / 8))) (Nat.beq dp 0)) (Nat.beq sp 0)) (and (and (ga_ref a) (ga_ref b)) (and (Nat.ble (ga_wd t) 8) (gt_wc ml xl (b / 8))))) (match wt (a / 8), wt (b / 8) with | (ka, la, da, va, _), (kb, lb, db, vb, _) => ga_if (and (and (Nat.beq ka kb) (or (and (Nat.beq ka 100) (Nat.beq (da % 8) 2)) (and (Nat.beq ka 102) (Nat.beq da 5)))) (and (and (Nat.ble (m / 8) la) (Nat.ble (m / 8) lb)) (and (Nat.blt (m / 8) 1048576) (and (Nat.beq da db) (match va, vb with | [], [] => true | _, _ => false))))) (gb_oc ov (b / 8) (fun ov => K t ov)) false) false
  | _ => false
noncomputable def gt_inv (me : Nat → ga_M) (wt : Nat → gb_T) (call : Nat → List Nat → gb_C → gb_V → gt_R → Bool) (k : Nat) (virt : Bool) (sk : List Nat) (cs : gb_C) (ov : gb_V) (K : List Nat → gb_C → gb_V → Bool) : Bool :=
  match me k with
  | (_, _, _, na, mc, ms, rc, ci) => ga_take na [] sk (fun as t => ga_if (and (and (Nat.ble (ga_wd t) 8) (and (Nat.beq mc 0) (Nat.beq ms 0))) (ga_if virt (match as with | [] => false | r :: _ => and (ga_ref r) (and (Nat.beq (wt (r / 8)).1 ci) (Nat.blt ci 100))) true)) (call k as cs ov (fun v cs ov => K (ga_ret rc v t) cs ov)) false) false
noncomputable def gt_step (me : Nat → ga_M) (wt : Nat → gb_T) (ml xl : List (Nat × Nat)) (call : Nat → List Nat → gb_C → gb_V → gt_R → Bool) (rc : Nat) (ret : gt_R) (code : List ga_E) (go : gt_G) (opn : List gb_L) (e : ga_E) (nx : List ga_E) (al sk : List Nat) (cs : gb_C) (ov : gb_V) : Bool :=
  match e with
  | (_, _, i, a, b, ps) =>
    match i with
    | .aload_n k => gt_load ga_adr k.val al sk (fun sk => go opn nx al sk cs ov)
    | .iload_n k => gt_load ga_int k.val al sk (fun sk => go opn nx al sk cs ov)
    | .iload i => gt_load ga_int i al sk (fun sk => go opn nx al sk cs ov)
    | .lload_n k => gt_load ga_lng k.val al sk (fun sk => go opn nx al sk cs ov)
    | .getfield _ => gt_get wt a b sk cs ov (fun sk cs ov => go opn nx al sk cs ov)
    | .putfield _ => gt_ptf wt ml xl a b ps sk cs ov (fun sk cs ov => go opn nx al sk cs ov)
    | .bipush _ => go opn nx al (a :: sk) cs ov
    | .iconst _ => go opn nx al (a :: sk) cs ov
    | .sipush _ => go opn nx al (a :: sk) cs ov
    | .lconst _ => go opn nx al (5 :: sk) cs ov
    | .ldc2_w _ => go opn nx al (5 :: sk) cs ov
    | .ldc_w _ => go opn nx al (a :: sk) cs ov
    | .ldc _ => ga_if (or (Nat.beq (a % 8) 0) (Nat.beq a 30)) (go opn nx al (a :: sk) cs ov) false
    | .goto _ => go opn (ga_jmp code b) al sk cs ov
    | .ireturn => match sk with | [v] => ga_if (and (ga_int v) (or (Nat.beq rc 1) (and (Nat.beq rc 2) (and (Nat.ble 2147483648 (gb_lo cs v)) (Nat.ble (gb_hi cs v) 2147483649))))) (ret v cs ov) false | _ => false
    | .return_ => match sk with | [] => ga_if (Nat.beq rc 0) (ret 7 cs ov) false | _ => false
    | .areturn => match sk with | [v] => ga_if (and (ga_ref v) (Nat.beq rc 5)) (ret v cs ov) false | _ => false
    | .lreturn => match sk with | [v] => ga_if (and (ga_lng v) (Nat.beq rc 4)) (ret v cs ov) false | _ => false
    | .if_icmp c _ => match sk with | y :: x :: r => ga_if (ga_i2 x y) (gt_cnd c cs x y (fun cs => go opn (ga_jmp code b) al r cs ov) (fun cs => go opn nx al r cs ov)) false | _ => false
    | .ifCond c _ => match sk with | x :: r => ga_if (ga_int x) (gt_cnd c cs x 0 (fun cs => go opn (ga_jmp code b) al r cs ov) (fun cs => go opn nx al r cs ov)) false | _ => false
    | .tableswitch _ _ _ _ => match sk with | v :: r => ga_if (ga_int v) (gt_sw ps v cs (fun cs => go opn (ga_jmp code b) al r cs ov) (fun t cs => go opn (ga_jmp code t) al r cs ov)) false | _ => false
    | .lookupswitch _ _ => match sk with | v :: r => ga_if (ga_int v) (gt_sw ps v cs (fun cs => go opn (ga_jmp code b) al r cs ov) (fun t cs => go opn (ga_jmp code t) al r cs ov)) false | _ => false
    | .iadd => gt_opS true gb_add cs sk (fun sk cs => go opn nx al sk cs ov)
    | .isub => gt_opS false gb_sub cs sk (fun sk cs => go opn nx al sk cs ov)
    | .imul => gt_op2 gb_mul cs sk (fun sk => go opn nx al sk cs ov)
    | .idiv => gt_op2 gb_div cs sk (fun sk => go opn nx al sk cs ov)
    | .irem => gt_op2 gb_rem cs sk (fun sk => go opn nx al sk cs ov)
    | .iand => gt_op2 gb_and cs sk (fun sk => go opn nx al sk cs ov)
    | .ior => gt_op2 gb_orx cs sk (fun sk => go opn nx al sk cs ov)
    | .ixor => gt_op2 gb_orx cs sk (fun sk => go opn nx al sk cs ov)
    | .ishl => gt_op2 gb_shl cs sk (fun sk => go opn nx al sk cs ov)
    | .ishr => gt_op2 gb_shr cs sk (fun sk => go opn nx al sk cs ov)
    | .iushr => gt_op2 gb_a2 cs sk (fun sk => go opn nx al sk cs ov)
    | .ineg => match sk with | x :: r => ga_if (ga_int x) (ga_f (gb_neg (gb_lo cs x) (gb_hi cs x)) (fun v => go opn nx al (v :: r) cs ov)) false | _ => false
    | .i2b => gt_bst (gb_byt cs) (fun sk => go opn nx al sk cs ov) sk
    | .i2c => gt_bst (gb_chr cs) (fun sk => go opn nx al sk cs ov) sk
    | .i2l => match sk with | x :: r => ga_if (ga_int x) (go opn nx al (5 :: r) cs ov) false | _ => false
    | .ladd => match sk with | y :: x :: r => ga_if (and (Nat.beq x 5) (Nat.beq y 5)) (go opn nx al (5 :: r) cs ov) false | _ => false
    | .lmul => match sk with | y :: x :: r => ga_if (and (Nat.beq x 5) (Nat.beq y 5)) (go opn nx al (5 :: r) cs ov) false | _ => false
    | .lor => match sk with | y :: x :: r => ga_if (and (Nat.beq x 5) (Nat.beq y 5)) (go opn nx al (5 :: r) cs ov) false | _ => false
    | .lshl => match sk with | y :: x :: r => ga_if (and (Nat.beq x 5) (ga_int y)) (go opn nx al (5 :: r) cs ov) false | _ => false
    | .lcmp => match sk with | y :: x :: r => ga_if (and (Nat.beq x 5) (Nat.beq y 5)) (ga_f (gb_tv 2147483647 2147483649) (fun v => go opn nx al (v :: r) cs ov)) false | _ => false
    | .iinc i _ => ga_f (gb_sm cs (ga_nth 7 al i)) (fun v => ga_if (and (ga_int v) (ga_ahead al i)) (gt_sum true gb_add cs v a (fun v cs => gb_nam v cs (fun v cs => ga_set al i v (fun al => go opn nx al sk cs ov)))) false)
    | .istore i => gt_store ga_int i al sk cs (fun al sk cs => go opn nx al sk cs ov)
    | .istore_n k => gt_store ga_int k.val al sk cs (fun al sk cs => go opn nx al sk cs ov)
    | .lstore_n k => match sk with | v :: r => ga_if (and (Nat.beq v 5) (ga_ahead al k.val)) (ga_set al k.val v (fun al => ga_set al (k.val + 1) 7 (fun al => go opn nx al r cs ov))) false | _ => false
    | .dup => match sk with | v :: r => ga_if (ga_one v) (go opn nx al (v :: v :: r) cs ov) false | _ => false
    | .dup2 => match sk with | v :: w :: r => ga_if (and (ga_one v) (ga_one w)) (go opn nx al (v :: w :: v :: w :: r) cs ov) false | _ => false
    | .pop => match sk with | v :: r => ga_if (ga_one v) (go opn nx al r cs ov) false | _ => false
    | .arraylength => match sk with | r :: t => ga_if (ga_ref r) (match wt (r / 8) with | (k, m, _) => ga_if (and (and (Nat.ble 100 k) (Nat.ble k 104)) (Nat.blt m 1048577)) (ga_f (8 * m) (fun v => go opn nx al (v :: t) cs ov)) false) false | _ => false
    | .iaload => gt_ald wt 100 sk cs ov (fun sk cs ov => go opn nx al sk cs ov)
    | .baload => ga_if (Nat.beq a 104) (gt_ald wt 104 sk cs ov (fun sk cs ov => go opn nx al sk cs ov)) (gt_ald wt 101 sk cs ov (fun sk cs ov => go opn nx al sk cs ov))
    | .laload => gt_ald wt 102 sk cs ov (fun sk cs ov => go opn nx al sk cs ov)
    | .aaload => gt_ald wt 103 sk cs ov (fun sk cs ov => go opn nx al sk cs ov)
    | .iastore => gt_ast wt ml xl 100 sk cs ov (fun sk cs ov => go opn nx al sk cs ov)
    | .lastore => gt_ast wt ml xl 102 sk cs ov (fun sk cs ov => go opn nx al sk cs ov)
    | .bastore => ga_if (Nat.beq a 104) (gt_bst (gb_bit cs) (fun sk => gt_ast wt ml xl 104 sk cs ov (fun sk cs ov => go opn nx al sk cs ov)) sk) (gt_bst (gb_byt cs) (fun sk => gt_ast wt ml xl 101 sk cs ov (fun sk cs ov => go opn nx al sk cs ov)) sk)
    | .invokestatic _ => ga_if (Nat.beq a 1001) (gt_acp wt ml xl sk ov (fun sk ov => go opn nx al sk cs ov)) (gt_inv me wt call a false sk cs ov (fun sk cs ov => go opn nx al sk cs ov))
    | .invokevirtual _ => ga_if (Nat.blt a 998) (gt_inv me wt call a true sk cs ov (fun sk cs ov => go opn nx al sk cs ov)) (ga_if (Nat.beq a 1004) (match sk with | i :: r :: t => ga_if (and (and (ga_int i) (Nat.beq r 30)) (Nat.ble (ga_wd t) 8)) (go opn nx al (gb_any :: t) cs ov) false | _ => false) false)
    | _ => false
noncomputable def gt_arr (wt : Nat → gb_T) (an : gb_N) (al sk : List Nat) (cs : gb_C) (ov : gb_V) (K : gb_L → List Nat → gb_C → gb_V → Bool) : Bool :=
  match an with
  | (pc, hv, ds, dr, kh, mi, dir) => ga_if (Nat.blt mi (List.length hv + List.length kh)) (ga_f (List.length cs) (fun n => gb_ah false hv al cs (fun al cs => gb_adl false ds al (fun al => gb_flt (fun q => not (gb_drp dr q.1 q.2.1)) ov (fun ov => gb_ak wt false kh cs ov (fun cs ov => K ((pc, hv, ds, dr, kh, mi, dir), al, sk, cs, ov, n) al cs ov)))))) false
noncomputable def gt_run (me : Nat → ga_M) (wt : Nat → gb_T) (ml xl : List (Nat × Nat)) (an : List gb_N) (call : Nat → List Nat → gb_C → gb_V → gt_R → Bool) (rc : Nat) (ret : gt_R) (code : List ga_E) (fuel : Nat) : gt_G :=
  Nat.rec (fun _ _ _ _ _ _ => false) (fun _ go opn cds al sk cs ov => match cds with
    | [] => false
    | e :: nx => match gb_fan an e.1 with | none => gt_step me wt ml xl call rc ret code go opn e nx al sk cs ov | some q => match gb_fop opn e.1 with | some L => gb_back L al sk cs ov | none => gt_arr wt q al sk cs ov (fun L al cs ov => gt_step me wt ml xl call rc ret code go (L :: opn) e nx al sk cs ov)) fuel
/-- a contract: the method, its depth, the types of its arguments, of places ahead of it, of its answer, what it may write -/
abbrev gt_K : Type := Nat × Nat × List Nat × List (Nat × Nat × Nat) × Nat × List (Nat × Nat)
noncomputable def gt_pre (cs : gb_C) (ov : gb_V) (ps : List (Nat × Nat × Nat)) : Bool := List.rec true (fun q _ ih => ga_f (gb_ol ov q.1 q.2.1) (fun v => ga_if (and (ga_int v) (gb_fit cs v q.2.2)) ih false)) ps
noncomputable def gt_fcon (d k : Nat) (as : List Nat) (cs : gb_C) (ov : gb_V) (us : List gt_K) : Option gt_K := List.rec none (fun q _ ih => ga_if (and (Nat.beq q.1 k) (and (Nat.ble q.2.1 d) (and (gb_fits cs as q.2.2.1) (gt_pre cs ov q.2.2.2.1)))) (some q) ih) us
/-- a method's body -/
noncomputable def gt_body (me : Nat → ga_M) (wt : Nat → gb_T) (ml xl : List (Nat × Nat)) (anm : Nat → List gb_N) (call : Nat → List Nat → gb_C → gb_V → gt_R → Bool) (fuel k : Nat) (as : List Nat) (cs : gb_C) (ov : gb_V) (K : gt_R) : Bool :=
  match me k with
  | (code, pad, nl, na, mc, ms, rc, _) => gb_nas as cs (fun as cs => ga_pad pad (fun p => ga_lay as p (fun al => ga_if (and (and (Nat.blt k 313) (and (Nat.beq mc 0) (Nat.beq ms 0))) (and (Nat.beq (List.length al) nl) (Nat.beq (List.length as) na))) (gt_run me wt ml xl (anm k) call rc K code fuel [] code al [] cs ov) false)))
noncomputable def gt_call (me : Nat → ga_M) (wt : Nat → gb_T) (ml xl : List (Nat × Nat)) (anm : Nat → List gb_N) (us : List gt_K) (fuel : Nat) (d : Nat) : Nat → List Nat → gb_C → gb_V → gt_R → Bool :=
  Nat.rec (fun _ _ _ _ _ => false) (fun d call k as cs ov K => match gt_fcon (d + 1) k as cs ov us with
    | some q => ga_if (gb_sbm ml q.2.2.2.2.2) (gb_flt (fun z => not (gb_mo q.2.2.2.2.2 z.1 z.2.1)) ov (fun ov => K q.2.2.2.2.1 cs ov)) false
    | none => gt_body me wt ml xl anm call fuel k as cs ov K) d
/-- the places ahead of a method, as symbols -/
noncomputable def gt_ovs {β : Type} (ps : List (Nat × Nat × Nat)) : gb_C → gb_V → (gb_C → gb_V → β) → β := List.rec (fun cs ov K => K cs ov) (fun q _ ih cs ov K => gb_nam q.2.2 cs (fun v cs => ih cs ((q.1, q.2.1, v) :: ov) K)) ps
/-- the answer is of its type (none: whichever) -/
noncomputable def gt_rt (me : Nat → ga_M) (k : Nat) (cs : gb_C) (v rt : Nat) : Bool := match me k with | (_, _, _, _, _, _, rc, _) => ga_if (Nat.beq rc 0) true (gb_fit cs v rt)
/-- the check of a contract -/
noncomputable def gt_chk (me : Nat → ga_M) (wt : Nat → gb_T) (xl : List (Nat × Nat)) (anm : Nat → List gb_N) (us : List gt_K) (fuel : Nat) (q : gt_K) : Bool :=
  match q with
  | (k, d, ts, ps, rt, ml) => gt_ovs ps [] [] (fun cs ov => gt_body me wt ml xl anm (gt_call me wt ml xl anm us fuel (d - 1)) fuel k ts cs ov (fun v cs _ => gt_rt me k cs v rt))
