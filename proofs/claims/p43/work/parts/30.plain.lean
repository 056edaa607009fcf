/-! THE PLAIN MACHINE. Ints are Ints; a cell, a text, a long, nothing are numbers as before (8 * k + 3; 30; 8 * l + 5; 7). A world says what the places of its cells hold that are ints or longs; which cells the others hold never changes. What is reckoned with longs is any long. A step says what must hold ahead of an instruction so that the rest is well. -/
abbrev gp_V : Type := Int ⊕ Nat
abbrev gp_S : Type := Nat → Nat → Int
/-- a cell's shape: kind, length, what its places hold (0 an int, 5 a long, 8 * k + 3 a cell): those behind the first, the first -/
abbrev gp_T : Type := Nat × Nat × Nat × List Nat
abbrev gp_F : Type := gp_V → gp_S → Prop
abbrev gp_K : Type := Nat → List gp_V → gp_S → gp_F → Prop
abbrev gp_G : Type := Nat → List gp_V → List gp_V → gp_S → Prop
def gp_up (σ : gp_S) (c j : Nat) (x : Int) : gp_S := fun c' j' => if c' = c ∧ j' = j then x else σ c' j'
def gp_cp (σ : gp_S) (b a m : Nat) : gp_S := fun c j => if c = b ∧ j < m then σ a j else σ c j
def gp_pk (sh : Nat → gp_T) (c j : Nat) : Nat := (sh c).2.2.2.getD j (sh c).2.2.1
/-- what a place of such a kind holds -/
def gp_rv (k : Nat) (z : Int) : gp_V := if k = 0 then .inl z else if k = 5 then .inr (8 * z.toNat + 5) else .inr k
def gp_rd (sh : Nat → gp_T) (σ : gp_S) (c j : Nat) : gp_V := gp_rv (gp_pk sh c j) (σ c j)
def gp_b2 (g : Int32 → Int32 → Int32) (x y : Int) : Int := (g (Int32.ofInt x) (Int32.ofInt y)).toInt
def gp_b1 (g : Int32 → Int32) (x : Int) : Int := (g (Int32.ofInt x)).toInt
/-- a number that stands in the code -/
def gp_li (a : Nat) : Int := if a / 8 < 2147483648 then ((a / 8 : Nat) : Int) else ((a / 8 : Nat) : Int) - 4294967296
def gp_cnd (c : Jvm.ClassFile.Cond) (x y : Int) : Prop := match c with
  | .eq => x = y
  | .ne => ¬ x = y
  | .lt => x < y
  | .ge => y ≤ x
  | .gt => y < x
  | .le => x ≤ y
def gp_int (v : gp_V) : Bool := match v with | .inl _ => true | .inr _ => false
def gp_lng (v : gp_V) : Bool := match v with | .inl _ => false | .inr c => Nat.beq (c % 8) 5
noncomputable def gp_adr (v : gp_V) : Bool := match v with | .inl _ => false | .inr c => ga_adr c
noncomputable def gp_one (v : gp_V) : Bool := match v with | .inl _ => true | .inr c => ga_adr c
/-- what stands ahead of a local isn't a long -/
def gp_ah (al : List gp_V) (i : Nat) : Prop := match i with | 0 => True | j + 1 => ∀ c, al[j]? = some (.inr c) → ¬ c % 8 = 5
def gp_wd (t : List gp_V) : Nat := match t with | [] => 0 | v :: r => (if gp_lng v = true then 2 else 1) + gp_wd r
def gp_ld (ok : gp_V → Bool) (i : Nat) (go : gp_V → Prop) (al : List gp_V) : Prop := match al[i]? with | some v => ok v = true ∧ go v | none => False
def gp_st (ok : gp_V → Bool) (i : Nat) (go : List gp_V → List gp_V → Prop) (al sk : List gp_V) : Prop := match sk with | v :: r => ok v = true ∧ gp_ah al i ∧ go (al.set i v) r | [] => False
def gp_o2 (g : Int32 → Int32 → Int32) (go : List gp_V → Prop) (sk : List gp_V) : Prop := match sk with | .inl y :: .inl x :: r => go (.inl (gp_b2 g x y) :: r) | _ => False
def gp_o1 (g : Int32 → Int32) (go : List gp_V → Prop) (sk : List gp_V) : Prop := match sk with | .inl x :: r => go (.inl (gp_b1 g x) :: r) | _ => False
def gp_dv (g : Int32 → Int32 → Int32) (go : List gp_V → Prop) (sk : List gp_V) : Prop := match sk with | .inl y :: .inl x :: r => ¬ y = 0 ∧ go (.inl (gp_b2 g x y) :: r) | _ => False
def gp_l2 (go : List gp_V → Prop) (sk : List gp_V) : Prop := match sk with | y :: x :: r => gp_lng y = true ∧ gp_lng x = true ∧ ∀ L : Nat, L < 18446744073709551616 → go (.inr (8 * L + 5) :: r) | _ => False
def gp_ald (sh : Nat → gp_T) (kind : Nat) (go : List gp_V → Prop) (sk : List gp_V) (σ : gp_S) : Prop := match sk with
  | .inl i :: .inr r :: t => r % 8 = 3 ∧ (sh (r / 8)).1 = kind ∧ 0 ≤ i ∧ i.toNat < (sh (r / 8)).2.1 ∧ (sh (r / 8)).2.1 < 1048577 ∧ go (gp_rd sh σ (r / 8) i.toNat :: t)
  | _ => False
def gp_ast (sh : Nat → gp_T) (kind : Nat) (f : Int → Int) (ok : Int → Prop) (go : List gp_V → gp_S → Prop) (sk : List gp_V) (σ : gp_S) : Prop := match sk with
  | .inl x :: .inl i :: .inr r :: t => ok x ∧ r % 8 = 3 ∧ (sh (r / 8)).1 = kind ∧ 0 ≤ i ∧ i.toNat < (sh (r / 8)).2.1 ∧ (sh (r / 8)).2.1 < 1048577 ∧ gp_pk sh (r / 8) i.toNat = 0 ∧ go t (gp_up σ (r / 8) i.toNat (f x))
  | _ => False
def gp_asl (sh : Nat → gp_T) (go : List gp_V → gp_S → Prop) (sk : List gp_V) (σ : gp_S) : Prop := match sk with
  | .inr c :: .inl i :: .inr r :: t => c % 8 = 5 ∧ r % 8 = 3 ∧ (sh (r / 8)).1 = 102 ∧ 0 ≤ i ∧ i.toNat < (sh (r / 8)).2.1 ∧ (sh (r / 8)).2.1 < 1048577 ∧ gp_pk sh (r / 8) i.toNat = 5 ∧ go t (gp_up σ (r / 8) i.toNat ((c / 8 : Nat) : Int))
  | _ => False
def gp_get (sh : Nat → gp_T) (a b : Nat) (go : List gp_V → Prop) (sk : List gp_V) (σ : gp_S) : Prop := match sk with
  | .inr r :: t => r % 8 = 3 ∧ (sh (r / 8)).1 = a ∧ b < (sh (r / 8)).2.1 ∧ go (gp_rd sh σ (r / 8) b :: t)
  | _ => False
def gp_put (sh : Nat → gp_T) (a b tc : Nat) (go : List gp_V → gp_S → Prop) (sk : List gp_V) (σ : gp_S) : Prop := match sk with
  | v :: .inr r :: t => r % 8 = 3 ∧ (sh (r / 8)).1 = a ∧ b < (sh (r / 8)).2.1 ∧
      (match v with
        | .inl x => gp_pk sh (r / 8) b = 0 ∧ (tc = 0 ∨ tc = 1 ∧ (x = 0 ∨ x = 1)) ∧ go t (gp_up σ (r / 8) b x)
        | .inr c => c % 8 = 5 ∧ gp_pk sh (r / 8) b = 5 ∧ tc = 2 ∧ go t (gp_up σ (r / 8) b ((c / 8 : Nat) : Int)))
  | _ => False
def gp_acp (sh : Nat → gp_T) (go : List gp_V → gp_S → Prop) (sk : List gp_V) (σ : gp_S) : Prop := match sk with
  | .inl m :: .inl dp :: .inr b :: .inl sp :: .inr a :: t => gp_wd t ≤ 8 ∧ dp = 0 ∧ sp = 0 ∧ 0 ≤ m ∧ m < 1048576 ∧ a % 8 = 3 ∧ b % 8 = 3 ∧ m.toNat ≤ (sh (a / 8)).2.1 ∧ m.toNat ≤ (sh (b / 8)).2.1 ∧
      ((sh (a / 8)).1 = 100 ∧ (sh (b / 8)).1 = 100 ∧ (sh (a / 8)).2.2 = (0, []) ∧ (sh (b / 8)).2.2 = (0, []) ∧ go t (gp_cp σ (b / 8) (a / 8) m.toNat) ∨ (sh (a / 8)).1 = 102 ∧ (sh (b / 8)).1 = 102 ∧ (sh (a / 8)).2.2 = (5, []) ∧ (sh (b / 8)).2.2 = (5, []) ∧ go t (gp_cp σ (b / 8) (a / 8) m.toNat))
  | _ => False
def gp_ret (rc : Nat) (v : gp_V) (t : List gp_V) : List gp_V := if rc = 0 then t else v :: t
def gp_inv (sh : Nat → gp_T) (call : gp_K) (k : Nat) (virt : Bool) (go : List gp_V → gp_S → Prop) (sk : List gp_V) (σ : gp_S) : Prop :=
  ∃ as t, sk = as.reverse ++ t ∧ as.length = gm_na k ∧ gp_wd t ≤ 8 ∧ (virt = true → ∃ r as', as = .inr r :: as' ∧ r % 8 = 3 ∧ (sh (r / 8)).1 = gm_ci k ∧ gm_ci k < 100) ∧ call k as σ (fun v σ' => go (gp_ret (gm_rc k) v t) σ')
def gp_step (sh : Nat → gp_T) (call : gp_K) (rc : Nat) (Φ : gp_F) (go : gp_G) (e : ga_E) (al sk : List gp_V) (σ : gp_S) : Prop :=
  match e with
  | (pc, ln, i, a, b, ps) =>
    match i with
    | .aload_n k => gp_ld gp_adr k.val (fun v => go (pc + ln) al (v :: sk) σ) al
    | .iload_n k => gp_ld gp_int k.val (fun v => go (pc + ln) al (v :: sk) σ) al
    | .iload k => gp_ld gp_int k (fun v => go (pc + ln) al (v :: sk) σ) al
    | .lload_n k => gp_ld gp_lng k.val (fun v => go (pc + ln) al (v :: sk) σ) al
    | .getfield _ => gp_get sh a b (fun sk => go (pc + ln) al sk σ) sk σ
    | .putfield _ => match ps with | q :: _ => gp_put sh a b q.1 (fun sk σ => go (pc + ln) al sk σ) sk σ | [] => False
    | .bipush _ => go (pc + ln) al (.inl (gp_li a) :: sk) σ
    | .iconst _ => go (pc + ln) al (.inl (gp_li a) :: sk) σ
    | .sipush _ => go (pc + ln) al (.inl (gp_li a) :: sk) σ
    | .lconst _ => go (pc + ln) al (.inr a :: sk) σ
    | .ldc2_w _ => go (pc + ln) al (.inr a :: sk) σ
    | .ldc_w _ => go (pc + ln) al (.inl (gp_li a) :: sk) σ
    | .ldc _ => (a % 8 = 0 ∧ go (pc + ln) al (.inl (gp_li a) :: sk) σ) ∨ (a = 30 ∧ go (pc + ln) al (.inr 30 :: sk) σ)
    | .goto _ => go b al sk σ
    | .ireturn => match sk with | [.inl x] => (rc = 1 ∧ Φ (.inl x) σ) ∨ (rc = 2 ∧ (x = 0 ∨ x = 1) ∧ Φ (.inl x) σ) | _ => False
    | .return_ => rc = 0 ∧ sk = [] ∧ Φ (.inr 7) σ
    | .areturn => match sk with | [.inr c] => rc = 5 ∧ c % 8 = 3 ∧ Φ (.inr c) σ | _ => False
    | .lreturn => match sk with | [.inr c] => rc = 4 ∧ c % 8 = 5 ∧ Φ (.inr c) σ | _ => False
    | .if_icmp c _ => match sk with | .inl y :: .inl x :: r => (gp_cnd c x y → go b al r σ) ∧ (¬ gp_cnd c x y → go (pc + ln) al r σ) | _ => False
    | .ifCond c _ => match sk with | .inl x :: r => (gp_cnd c x 0 → go b al r σ) ∧ (¬ gp_cnd c x 0 → go (pc + ln) al r σ) | _ => False
    | .tableswitch _ _ _ _ => match sk with | .inl v :: r => (∃ q ∈ ps, v = gp_li q.1 ∧ go q.2 al r σ) ∨ ((∀ q ∈ ps, ¬ v = gp_li q.1) ∧ go b al r σ) | _ => False
    | .lookupswitch _ _ => match sk with | .inl v :: r => (∃ q ∈ ps, v = gp_li q.1 ∧ go q.2 al r σ) ∨ ((∀ q ∈ ps, ¬ v = gp_li q.1) ∧ go b al r σ) | _ => False
    | .iadd => gp_o2 (fun x y => x + y) (fun sk => go (pc + ln) al sk σ) sk
    | .isub => gp_o2 (fun x y => x - y) (fun sk => go (pc + ln) al sk σ) sk
    | .imul => gp_o2 (fun x y => x * y) (fun sk => go (pc + ln) al sk σ) sk
    | .idiv => gp_dv (fun x y => x / y) (fun sk => go (pc + ln) al sk σ) sk
    | .irem => gp_dv (fun x y => x - x / y * y) (fun sk => go (pc + ln) al sk σ) sk
    | .iand => gp_o2 (fun x y => x &&& y) (fun sk => go (pc + ln) al sk σ) sk
    | .ior => gp_o2 (fun x y => x ||| y) (fun sk => go (pc + ln) al sk σ) sk
    | .ixor => gp_o2 (fun x y => x ^^^ y) (fun sk => go (pc + ln) al sk σ) sk
    | .ishl => gp_o2 (fun x y => x <<< (y &&& 31)) (fun sk => go (pc + ln) al sk σ) sk
    | .ishr => gp_o2 (fun x y => x >>> (y &&& 31)) (fun sk => go (pc + ln) al sk σ) sk
    | .iushr => gp_o2 (fun x y => (x.toUInt32 >>> (y.toUInt32 &&& Int32.toUInt32 31)).toInt32) (fun sk => go (pc + ln) al sk σ) sk
    | .ineg => gp_o1 (fun x => -x) (fun sk => go (pc + ln) al sk σ) sk
    | .i2b => gp_o1 (fun x => x.toInt8.toInt32) (fun sk => go (pc + ln) al sk σ) sk
    | .i2c => gp_o1 (fun x => (x.toUInt32 % 65536).toInt32) (fun sk => go (pc + ln) al sk σ) sk
    | .i2l => match sk with | .inl _ :: r => ∀ L : Nat, L < 18446744073709551616 → go (pc + ln) al (.inr (8 * L + 5) :: r) σ | _ => False
    | .ladd => gp_l2 (fun sk => go (pc + ln) al sk σ) sk
    | .lmul => gp_l2 (fun sk => go (pc + ln) al sk σ) sk
    | .lor => gp_l2 (fun sk => go (pc + ln) al sk σ) sk
    | .lshl => match sk with | .inl _ :: x :: r => gp_lng x = true ∧ ∀ L : Nat, L < 18446744073709551616 → go (pc + ln) al (.inr (8 * L + 5) :: r) σ | _ => False
    | .lcmp => match sk with | y :: x :: r => gp_lng y = true ∧ gp_lng x = true ∧ ∀ z : Int, -1 ≤ z → z ≤ 1 → (z = 0 ↔ x = y) → go (pc + ln) al (.inl z :: r) σ | _ => False
    | .iinc k _ => match al[k]? with | some (.inl x) => gp_ah al k ∧ go (pc + ln) (al.set k (.inl (gp_b2 (fun x y => x + y) x (gp_li a)))) sk σ | _ => False
    | .istore k => gp_st gp_int k (fun al sk => go (pc + ln) al sk σ) al sk
    | .istore_n k => gp_st gp_int k.val (fun al sk => go (pc + ln) al sk σ) al sk
    | .lstore_n k => gp_st gp_lng k.val (fun al sk => go (pc + ln) (al.set (k.val + 1) (.inr 7)) sk σ) al sk
    | .dup => match sk with | v :: r => gp_one v = true ∧ go (pc + ln) al (v :: v :: r) σ | _ => False
    | .dup2 => match sk with | v :: w :: r => gp_one v = true ∧ gp_one w = true ∧ go (pc + ln) al (v :: w :: v :: w :: r) σ | _ => False
    | .pop => match sk with | v :: r => gp_one v = true ∧ go (pc + ln) al r σ | _ => False
    | .arraylength => match sk with | .inr r :: t => r % 8 = 3 ∧ 100 ≤ (sh (r / 8)).1 ∧ (sh (r / 8)).1 ≤ 104 ∧ (sh (r / 8)).2.1 < 1048577 ∧ go (pc + ln) al (.inl ((sh (r / 8)).2.1 : Int) :: t) σ | _ => False
    | .iaload => gp_ald sh 100 (fun sk => go (pc + ln) al sk σ) sk σ
    | .baload => gp_ald sh (if a = 104 then 104 else 101) (fun sk => go (pc + ln) al sk σ) sk σ
    | .laload => gp_ald sh 102 (fun sk => go (pc + ln) al sk σ) sk σ
    | .aaload => gp_ald sh 103 (fun sk => go (pc + ln) al sk σ) sk σ
    | .iastore => gp_ast sh 100 id (fun _ => True) (fun sk σ => go (pc + ln) al sk σ) sk σ
    | .bastore => if a = 104 then gp_ast sh 104 id (fun x => x = 0 ∨ x = 1) (fun sk σ => go (pc + ln) al sk σ) sk σ else gp_ast sh 101 (gp_b1 (fun x => x.toInt8.toInt32)) (fun _ => True) (fun sk σ => go (pc + ln) al sk σ) sk σ
    | .lastore => gp_asl sh (fun sk σ => go (pc + ln) al sk σ) sk σ
    | .invokestatic _ => if a = 1001 then gp_acp sh (fun sk σ => go (pc + ln) al sk σ) sk σ else gp_inv sh call a false (fun sk σ => go (pc + ln) al sk σ) sk σ
    | .invokevirtual _ => if a < 998 then gp_inv sh call a true (fun sk σ => go (pc + ln) al sk σ) sk σ else
        if a = 1004 then (match sk with | .inl _ :: v :: t => v = .inr 30 ∧ gp_wd t ≤ 8 ∧ ∀ z : Int, -2147483648 ≤ z → z < 2147483648 → go (pc + ln) al (.inl z :: t) σ | _ => False) else False
    | _ => False
/-- from a place of a method's code all is well: it comes to its end, and there Φ holds (the least such) -/
def gp_ok (sh : Nat → gp_T) (call : gp_K) (rc : Nat) (code : List ga_E) (Φ : gp_F) : gp_G := fun pc al sk σ =>
  ∀ P : gp_G, (∀ (pc : Nat) (al sk : List gp_V) (σ : gp_S) (e : ga_E) (nx : List ga_E) (G : gp_G) (Ψ : gp_F) (C : gp_K), ga_jmp code pc = e :: nx → (∀ pc al sk σ, G pc al sk σ → P pc al sk σ) → (∀ v σ, Ψ v σ → Φ v σ) → (∀ k as σ F, C k as σ F → call k as σ F) → gp_step sh C rc Ψ G e al sk σ → P pc al sk σ) → P pc al sk σ
def gp_ly : List gp_V → List gp_V → List gp_V
  | [], r => r
  | v :: as, r => if gp_lng v = true then v :: .inr 7 :: gp_ly as r else v :: gp_ly as r
/-- a call, of so many calls within calls at the most -/
def gp_call (sh : Nat → gp_T) : Nat → gp_K
  | 0 => fun _ _ _ _ => False
  | d + 1 => fun k as σ Φ => (k < 313 ∧ gm_mc k = 0 ∧ gm_ms k = 0) ∧ as.length = gm_na k ∧ (gp_ly as (List.replicate (gm_me k).2.1 (.inr 7))).length = (gm_me k).2.2.1 ∧ gp_ok sh (gp_call sh d) (gm_rc k) (gm_me k).1 Φ 0 (gp_ly as (List.replicate (gm_me k).2.1 (.inr 7))) [] σ
section PO
variable {sh : Nat → gp_T} {call call' : gp_K} {rc : Nat} {code : List ga_E} {Φ Φ' : gp_F}
theorem gp_ok_step {pc : Nat} {al sk : List gp_V} {σ : gp_S} {e : ga_E} {nx : List ga_E} (hc : ga_jmp code pc = e :: nx) (h : gp_step sh call rc Φ (gp_ok sh call rc code Φ) e al sk σ) : gp_ok sh call rc code Φ pc al sk σ := by
  intro P hP
  exact hP pc al sk σ e nx (gp_ok sh call rc code Φ) Φ call hc (fun pc al sk σ hg => hg P hP) (fun _ _ h => h) (fun _ _ _ _ h => h) h
theorem gp_ok_mono (hΦ : ∀ v σ, Φ v σ → Φ' v σ) (hC : ∀ k as σ F, call k as σ F → call' k as σ F) {pc : Nat} {al sk : List gp_V} {σ : gp_S} (h : gp_ok sh call rc code Φ pc al sk σ) : gp_ok sh call' rc code Φ' pc al sk σ := by
  intro P hP
  exact h P (fun pc al sk σ e nx G Ψ C h1 h2 h3 h4 h5 => hP pc al sk σ e nx G Ψ C h1 h2 (fun v σ q => hΦ v σ (h3 v σ q)) (fun k as σ F q => hC k as σ F (h4 k as σ F q)) h5)
end PO
theorem gp_call_post {sh : Nat → gp_T} {d k : Nat} {as : List gp_V} {σ : gp_S} {Φ Φ' : gp_F} (hΦ : ∀ v σ, Φ v σ → Φ' v σ) (h : gp_call sh d k as σ Φ) : gp_call sh d k as σ Φ' := by
  cases d with
  | zero => exact h.elim
  | succ d => exact ⟨h.1, h.2.1, h.2.2.1, gp_ok_mono hΦ (fun _ _ _ _ q => q) h.2.2.2⟩
theorem gp_call_up {sh : Nat → gp_T} : ∀ {d k : Nat} {as : List gp_V} {σ : gp_S} {Φ : gp_F}, gp_call sh d k as σ Φ → gp_call sh (d + 1) k as σ Φ
  | 0, _, _, _, _, h => h.elim
  | d + 1, _, _, _, _, h => ⟨h.1, h.2.1, h.2.2.1, gp_ok_mono (fun _ _ q => q) (fun _ _ _ _ q => gp_call_up q) h.2.2.2⟩
theorem gp_call_le {sh : Nat → gp_T} {d d' k : Nat} {as : List gp_V} {σ : gp_S} {Φ : gp_F} (hd : d ≤ d') (h : gp_call sh d k as σ Φ) : gp_call sh d' k as σ Φ := by
  induction hd with
  | refl => exact h
  | step _ ih => exact gp_call_up ih
