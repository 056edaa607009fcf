theorem gt_h0_no (k : Nat) : (ga_hg gt_h0 k).1 = 999 := by
  unfold ga_hg gt_h0
  rw [ga_nth_eq, ga_nth_eq, List.getD_eq_getElem?_getD, List.getD_eq_getElem?_getD, List.getElem?_replicate]
  by_cases h1 : k / 16 < 20
  · rw [if_pos h1]
    show ((List.replicate 16 ((999, 0, []) : ga_C))[k % 16]?.getD (999, 0, [])).1 = 999
    rw [List.getElem?_replicate]
    split <;> rfl
  · rw [if_neg h1]
    rfl
theorem gt_ok_mem {os : List ga_O} (h : gt_ok (some os) = true) : ∀ o ∈ os, gt_ok1 o = true := by
  induction os with
  | nil => intro o ho; cases ho
  | cons x r ih =>
    have h1 : ga_if (gt_ok1 x) (gt_ok (some r)) false = true := h
    intro o ho
    cases hx : gt_ok1 x with
    | false => rw [hx] at h1; cases h1
    | true =>
      rw [hx, ga_if_t] at h1
      rcases List.mem_cons.mp ho with rfl | ho
      · exact hx
      · exact ih h1 o ho
/-- the symbols: the script's six ints, the first one's last six bits, the second one's negative -/
def ga_rho (xs : Nat → Int32) : Nat → Int32 := fun j => if j = 6 then xs 0 &&& 63 else if j = 7 then 0 - xs 1 else xs j
theorem ga_and63 (x : Int32) : ∃ j : Nat, j < 64 ∧ x &&& 63 = nI j := pk_andE x (m := 63) 6 (by decide +kernel)
section GL
set_option maxHeartbeats 2000000 in
/-- from a good run of the machine over the law's body to the law's end -/
theorem law_of_run {p : Program} {e : Env} {s : State} {m : MethodId} {below : List Frame} {meth : Method} {c : Code} (l : Launch) {b L : Nat} {ρ : Nat → Int32} {oa : Nat → Nat} {ta : Nat → ClassId} {D : va_G} (hx : p.tables.exec = Jvm.exec) (hb : c.code = code) (hr : meth.sig.returnType = ret) (hml : c.maxLocals = 4) (hown : s.vm.findClass R_law = some m.cls) (hlocks : meth.locks = false)
    (hts : ∀ w ∈ gw_tbl, w.before #[Value.ref b] s = true) (hK : va_K D gm_cl (ga_tys ta) s) (ht0 : ta 1000 = 0) (hold : ga_old ρ oa s.heap.size L s) (hoa : oa 0 = b) (hρ6 : ρ 6 = ρ 0 &&& 63) (hρ7 : ρ 7 = 0 - ρ 1) (hL : L ≤ 6) (HT : ga_TXA l oa s.heap.size)
    {lo hi : Nat} (hlo : lo ≤ ga_kk (ρ 6)) (hhi : ga_kk (ρ 6) ≤ hi) (hgo : gt_ok (gt_run L lo hi) = true) :
    W p l e room_1 s m #[Value.ref b] below meth c s.heap [] 0 0 (lw_Z below #[Value.ref b] s) (entryFrame m ([Value.ref b] : List Value).toArray 4) := by
  cases hrun : gt_run L lo hi with
  | none => rw [hrun] at hgo; cases hgo
  | some os =>
    rw [hrun] at hgo
    have hmem := gt_ok_mem hgo
    have hrk := ga_run_ok (p := p) (l := l) (e := e) (R := room_1) (s := s) (m := m) (args := #[Value.ref b]) (below := below) (meth := meth) (c := c) (Q := lw_Z below #[Value.ref b] s) (ρ := ρ) (oa := oa) (ta := ta) (D := D) (n0 := s.heap.size) (L := L) (d := 8) (ini := false) (cm := 600000) (sm := 7302249) 100001 hx hb hml hown hts hK (Nat.le_refl _) hold (fun q => by cases q) hρ6 hρ7 hL (Nat.le_of_ble_eq_true rfl) (Nat.le_of_ble_eq_true rfl) (Nat.le_refl _) (Nat.le_refl _) (ga_call_ok 100000 hρ6 hρ7 hL HT 8 ta) HT gl_ok 100000
    have key := hrk.2 gl_law [6, 7, 7, 7] [] 0 0 _ 0 gt_h0 os gl_ok ⟨Nat.zero_le _, Nat.zero_le _⟩ hrun (fun o ho hok2 => ?_)
    · have hl := lv_entry ([.ref b]) (n := 4) (Nat.le_of_ble_eq_true rfl)
      rw [lg_entry_eq]
      generalize (lg_sl ([.ref b]) ++ List.replicate (4 - (lg_sl ([.ref b])).length) Slot.unset).toArray = ls at hl ⊢
      have hl : lv_has ls 4 [(0, .ref b)] := hl
      refine key s.heap [] ls [] ⟨?_, va_S.rf, [], [], ⟨fun k q h => by simp at h, ⟨fun i j p q h => by simp at h, fun k q h => by simp at h⟩, ⟨rfl, fun k hk => ?_⟩, rfl, fun k hk => absurd (gt_h0_no k) hk⟩, ⟨hl.1, hl.2.1, rfl, fun i v hi h7 => ?_⟩, trivial⟩
      · intro i
        match i with
        | 0 => exact ⟨Nat.zero_le _, ga_kk_le _⟩
        | 1 => exact ⟨Nat.zero_le _, ga_kk_le _⟩
        | 2 => exact ⟨Nat.zero_le _, ga_kk_le _⟩
        | 3 => exact ⟨Nat.zero_le _, ga_kk_le _⟩
        | 4 => exact ⟨Nat.zero_le _, ga_kk_le _⟩
        | 5 => exact ⟨Nat.zero_le _, ga_kk_le _⟩
        | 6 => exact ⟨hlo, hhi⟩
        | 7 => exact ⟨Nat.zero_le _, ga_kk_le _⟩
        | i + 8 => exact ⟨Nat.zero_le _, ga_kk_le _⟩
      · rw [ht0] at hk; cases hk
      · match i, hi with
        | 0, hi => cases hi; exact ⟨.ref b, (ga_vr_6 (by decide)).mpr (by rw [← hoa]), hl.2.2 _ List.mem_cons_self⟩
        | 1, hi => cases hi; exact absurd rfl h7
        | 2, hi => cases hi; exact absurd rfl h7
        | 3, hi => cases hi; exact absurd rfl h7
        | i + 4, hi => cases hi
    · have h1 := hmem o ho
      obtain ⟨cds, al', sk', cs', ss', iv', n', h'⟩ := o
      cases cds with
      | nil => cases h1
      | cons ev nx =>
        obtain ⟨pc, ln, i, a, b2, ps⟩ := ev
        have oe := hok2.1
        unfold ga_oe at oe
        simp only [Bool.and_eq_true, decide_eq_true_eq] at oe
        obtain ⟨⟨hdg, hln⟩, -⟩ := oe
        cases i with
        | ireturn =>
          obtain rfl : ln = 1 := Nat.eq_of_beq_eq_true hln
          cases sk' with
          | nil => cases h1
          | cons v r =>
            cases r with
            | cons w r => cases h1
            | nil =>
              have h2 : (and (Nat.beq v 8) (and (Nat.ble cs' 600000) (Nat.ble ss' 7302249))) = true := h1
              simp only [Bool.and_eq_true, ga_beq, Nat.ble_eq] at h2
              obtain ⟨rfl, hc1, hc2⟩ := h2
              intro H locs ls' st hat
              obtain ⟨hi, hS, ad', ws', hw', hl', hs'⟩ := hat
              obtain ⟨x, st1, rfl, hx1, hs1⟩ := ga_sr_cons hs'
              obtain rfl := ga_sr_nil hs1
              have ex := ((ga_vr_0 (by decide)).mp hx1).2
              subst ex
              refine va_forget (fun q hq => hS.2.2 q hq) ?_
              exact W.widen hc1 hc2 (lw_ret hx hb hr hlocks hdg)
        | _ => cases h1
end GL
