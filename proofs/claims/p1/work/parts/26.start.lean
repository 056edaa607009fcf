theorem st_el : ∀ j, j < 91 → Cond.eq (.elem (.field (.string "GravyRound$Tokens" 20) "java/lang/String" "value" "[B") (.int (Int32.ofNat j))) (.int (ga_by.getD j 0)) ∈ flatC (Jvm.Cond.and given_1 narrow_1) := by decide +kernel
set_option maxHeartbeats 2000000 in
set_option maxRecDepth 100000 in
theorem whole_start {p : Program} {e : Env} {s : State} {m : MethodId} {below : List Frame} {meth : Method} {c : Code} (l : Launch) (hflags : l.flags = flags0) {b L : Nat} {xs : Nat → Int32} (hL : L ≤ 6) (C0 : lw_At p s m meth c b L xs) : W p l e room_1 s m #[Value.ref b] below meth c s.heap [] 0 0 (lw_Z below #[Value.ref b] s) (entryFrame m ([Value.ref b] : List Value).toArray 4) := by
  obtain ⟨hx, hb, hr, hml, hown, hts, hX, hbl, hlocks, hgv⟩ := id C0
  have hA : ∀ a : Nat, a < s.heap.size → ¬ (fun q : Nat => s.heap.size ≤ q) a := fun a h => Nat.not_le.mpr h
  have hgt : ∀ w ∈ gw_tbl, w.before #[Value.ref b] s = true := fun w hw => hts w (List.mem_filter.mp hw).1
  have at_ : ∀ {w : Cond} (i : Nat), lw_tbl[i]? = some w → w.before #[Value.ref b] s = true := fun i h => hts _ (List.mem_of_getElem? h)
  have hs := flat_of_before _ hgv
  -- the classes
  have hcls : ∀ ci : Nat, ∃ f : ClassId × (Nat → Nat), ∀ q, gm_cl[ci]? = some q → u_Kn s q.1 q.2.1 q.2.2 f.1 f.2 := by
    intro ci
    cases hq : gm_cl[ci]? with
    | none => exact ⟨(0, fun _ => 0), fun q h => by cases h⟩
    | some q =>
      have hg := gn_all ci q hq
      obtain ⟨cC, iS, hk⟩ := u_known (C := q.1) (T := q.2.1) (N := q.2.2) (n := q.2.2) hts (fun w hw => (List.mem_filter.mp (hg.1 w hw)).1) (hts _ (List.mem_filter.mp hg.2.2.2.1).1)
      exact ⟨(cC, iS), fun q' h => by cases h; exact hk⟩
  obtain ⟨fD, hfD⟩ := Classical.axiomOfChoice hcls
  -- the array classes
  have prim : ∀ {ty : FieldType}, (Cond.arrayClass ty).before #[Value.ref b] s = true → ∃ cA : ClassId, ArrOfT s cA ty ∧ s.vm.findClass ("[" ++ ty.toString) = some cA := by
    intro ty h
    obtain ⟨cA, kA, comp, h1, h2, h3⟩ := Cond.arrayClass_spec h
    exact ⟨cA, fun N z => ⟨(fun k h => by cases h), kA, h2, comp, h3⟩, h1⟩
  obtain ⟨cI, aI, rI⟩ := prim (ty := .int) (hgt _ (gw_mem (i := 184) (by decide +kernel)))
  obtain ⟨cB, aB, rB⟩ := prim (ty := .byte) (hgt _ (gw_mem (i := 182) (by decide +kernel)))
  obtain ⟨cL, aL, rL⟩ := prim (ty := .long) (hgt _ (gw_mem (i := 183) (by decide +kernel)))
  obtain ⟨cZ, aZ, rZ⟩ := prim (ty := .boolean) (hgt _ (gw_mem (i := 611) (by decide +kernel)))
  have hAO0 : (Cond.arrayOver (.object "GravyRound$Table")).before #[Value.ref b] s = true := at_ 453 (by decide +kernel)
  obtain ⟨comp, cT, kT, t1, t2, t3, t4, t5⟩ := Cond.arrayOver_spec hAO0
  have aT : ArrOfT s cT (.object "GravyRound$Table") := fun N z => ⟨(fun k h => by cases h), kT, t3, comp, t4⟩
  let ta : Nat → ClassId := fun k => if k = 100 then cI else if k = 101 then cB else if k = 102 then cL else if k = 103 then cT else if k = 104 then cZ else 0
  have hK : va_K (fun ci => (fD ci).1, fun ci => (fD ci).2) gm_cl (ga_tys ta) s := by
    refine ⟨fun ci q hq => hfD ci q hq, fun k q hq => ?_⟩
    match k, hq with
    | 0, hq => cases hq; exact ⟨aI, rI⟩
    | 1, hq => cases hq; exact ⟨aB, rB⟩
    | 2, hq => cases hq; exact ⟨aL, rL⟩
    | 3, hq => cases hq; exact ⟨aT, kT, comp, t3, t4, t1, t5⟩
    | 4, hq => cases hq; exact ⟨aZ, rZ⟩
    | k + 5, hq => cases hq
  -- the text
  obtain ⟨adK, adV, hSt, hev⟩ := vk_Sof (args := #[Value.ref b]) (s := s) (N := 1) (tm := fun _ => .string "GravyRound$Tokens" 20) (len := [91]) (byt := [ga_by]) (A := fun q => s.heap.size ≤ q)
    (fun i hi => by have : i = 0 := by omega
                    subst this; decide)
    (fun i hi => hs _ (by decide +kernel)) (fun i hi => hs _ (by decide +kernel)) (fun i hi => hs _ (by decide +kernel))
    (fun i hi => by have : i = 0 := by omega
                    subst this; exact hs _ (by decide +kernel))
    (fun i hi j hj => by have : i = 0 := by omega
                         subst this; exact hs _ (st_el j hj))
    (fun i j hi hj hij => absurd (by omega : i = j) hij) hA
  let oa : Nat → Nat := fun k => if k = 0 then b else if k = 1 then adK 0 else adV 0
  let ρ : Nat → Int32 := ga_rho xs
  have hold : ga_old ρ oa s.heap.size L s := by
    refine ⟨hbl, ?_, fun w hw => ?_, va_AO.of hAO0, vk_R.of (A := #[Value.ref b]) (at_ 284 (by decide +kernel)) (hev 0 (by decide)), ⟨fun i hi => ?_, fun i j hi hj _ => by omega⟩, ?_, ?_⟩
    · obtain ⟨scr, g1, g2, g3, g4, g5⟩ := hX
      refine ⟨scr, g1, g2, g3, g4, fun j hj => ?_⟩
      rw [g5 j hj]
      show some (Value.int (xs j)) = some (Value.int (ga_rho xs j))
      unfold ga_rho
      rw [if_neg (by omega), if_neg (by omega)]
    · have h2 := List.mem_filter.mp hw
      have ht : w.onTables = true := by cases w <;> first | rfl | (exact absurd h2.2 (by simp [gw_isN]))
      exact va_Nw.of ht (hts w h2.1)
    · have : i = 0 := by omega
      subst this
      exact hSt.1 0 hi
    · exact va_Zof (at_ 294 (by decide +kernel)) (hgt _ ti_str) (va_eqi (hs _ (by decide +kernel))) hA
    · exact va_Zqof (at_ 310 (by decide +kernel)) (hgt _ ti_pre) (hs _ (by decide +kernel)) hA
  have hρ6 : ρ 6 = ρ 0 &&& 63 := rfl
  have hρ7 : ρ 7 = 0 - ρ 1 := rfl
  obtain ⟨j, hj, ej⟩ := ga_and63 (xs 0)
  have ekk : ga_kk (ρ 6) = 2147483648 + j := by
    have e1 : ρ 6 = nI j := ej
    rw [e1, ga_kk_nI (by omega)]
    unfold ga_key
    omega
  have run : ∀ {lo hi : Nat}, lo ≤ 2147483648 + j → 2147483648 + j ≤ hi → gt_ok (gt_run L lo hi) = true → W p l e room_1 s m #[Value.ref b] below meth c s.heap [] 0 0 (lw_Z below #[Value.ref b] s) (entryFrame m ([Value.ref b] : List Value).toArray 4) :=
    fun {lo hi} h1 h2 h3 => law_of_run l (ρ := ρ) (oa := oa) (ta := ta) hx hb hr hml hown hlocks hgt hK rfl hold rfl hρ6 hρ7 hL (tx_all l oa s.heap.size) (by rw [ekk]; exact h1) (by rw [ekk]; exact h2) h3
  rcases Nat.lt_or_ge L 6 with hlt | hge
  · exact run (by omega) (by omega) (gt_short L hlt)
  · have : L = 6 := by omega
    subst this
    rcases Nat.lt_or_ge j 48 with hj48 | hj48
    · exact run (Nat.le_refl _) (Nat.le_refl _) (gt_case j hj48)
    · exact run (lo := 2147483696) (hi := 2147483711) (by omega) (by omega) gt_c48
