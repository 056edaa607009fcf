/-! a call of the plain machine, of any depth, is one of the JVM -/
def gp_TXA (l : Launch) (oa : Nat → Nat) (n0 : Nat) (old : State → Prop) : Prop := ∀ (p : Program) (e : Env) (R : Room) (s : State) (m : MethodId) (args : Array Value) (below : List Frame) (meth : Method) (c : Code) (Q : State → Prop) (nL : Nat) (own : String) (cc : ByteArray) (nc ns : Nat),
  p.tables.exec = Jvm.exec → c.code = cc → c.maxLocals = nL → s.vm.findClass own = some m.cls → (∀ w ∈ gw_tbl, w.before args s = true) → n0 ≤ s.heap.size → old s → 11 ≤ R.frames → 1100 ≤ R.locals → (nc ≤ R.cells ∧ ns ≤ R.slots) → gp_TX p l e R s m args below meth c Q oa n0 nL own cc nc ns
theorem gp_ly_len {oa : Nat → Nat} {ad : List Nat} {r : List gp_V} : ∀ {as : List gp_V} {vs : List Value}, gp_sr oa ad as vs → (gp_ly as r).length = (lg_sl vs).length + r.length
  | [], [], _ => by simp [gp_ly, lg_sl]
  | v :: as, x :: vs, h => by
    have h1 := gp_vr_cat h.1
    have h2 := gp_ly_len (r := r) h.2
    have e : lg_sl (x :: vs) = (if x.category = 2 then [.val x, .second] else [.val x]) ++ lg_sl vs := rfl
    have e2 : gp_ly (v :: as) r = if gp_lng v = true then v :: .inr 7 :: gp_ly as r else v :: gp_ly as r := rfl
    rw [e2, e, h1]
    by_cases h5 : gp_lng v = true
    · rw [if_pos h5, if_pos h5, if_pos rfl]
      simp only [List.length_cons, List.length_append, List.length_nil, h2]
      omega
    · rw [if_neg h5, if_neg h5, if_neg (by decide)]
      simp only [List.length_cons, List.length_append, List.length_nil, h2]
      omega
  | [], _ :: _, h => h.elim
  | _ :: _, [], h => h.elim
theorem gp_ly_at {oa : Nat → Nat} {ad : List Nat} {m : Nat} : ∀ {as : List gp_V} {vs : List Value} (k0 : Nat), gp_sr oa ad as vs → ∀ (i : Nat) (v : gp_V), (gp_ly as (List.replicate m (.inr 7)))[i]? = some v → ¬ v = .inr 7 → ∃ x, gp_vr oa ad v x ∧ (k0 + i, x) ∈ lv_args k0 vs
  | [], [], k0, _, i, v, hi, h7 => by
    have h1 : (List.replicate m (Sum.inr 7 : gp_V))[i]? = some v := hi
    rw [List.getElem?_replicate] at h1
    split at h1
    · cases h1; exact absurd rfl h7
    · cases h1
  | w :: as, x :: vs, k0, h, i, v, hi, h7 => by
    have h1 := gp_vr_cat h.1
    have e2 : gp_ly (w :: as) (List.replicate m (.inr 7)) = if gp_lng w = true then w :: .inr 7 :: gp_ly as (List.replicate m (.inr 7)) else w :: gp_ly as (List.replicate m (.inr 7)) := rfl
    rw [e2] at hi
    have e : lv_args k0 (x :: vs) = (k0, x) :: lv_args (if x.category = 2 then k0 + 2 else k0 + 1) vs := rfl
    rw [e, h1]
    by_cases h5 : gp_lng w = true
    · rw [if_pos h5] at hi
      rw [if_pos h5, if_pos rfl]
      match i, hi with
      | 0, hi => cases hi; exact ⟨x, h.1, List.mem_cons_self⟩
      | 1, hi => cases hi; exact absurd rfl h7
      | i + 2, hi =>
        obtain ⟨y, g1, g2⟩ := gp_ly_at (k0 + 2) h.2 i v hi h7
        exact ⟨y, g1, List.mem_cons_of_mem _ (by rw [show k0 + (i + 2) = k0 + 2 + i by omega]; exact g2)⟩
    · rw [if_neg h5] at hi
      rw [if_neg h5, if_neg (by decide)]
      match i, hi with
      | 0, hi => cases hi; exact ⟨x, h.1, List.mem_cons_self⟩
      | i + 1, hi =>
        obtain ⟨y, g1, g2⟩ := gp_ly_at (k0 + 1) h.2 i v hi h7
        exact ⟨y, g1, List.mem_cons_of_mem _ (by rw [show k0 + (i + 1) = k0 + 1 + i by omega]; exact g2)⟩
  | [], _ :: _, _, h, _, _, _, _ => h.elim
  | _ :: _, [], _, h, _, _, _, _ => h.elim
set_option maxHeartbeats 2000000 in
theorem gp_call_ok {l : Launch} {oa : Nat → Nat} {ta : Nat → ClassId} {D : va_G} {n0 : Nat} {old : State → Prop} {sh : Nat → gp_T} {ad : List Nat} (HO : gp_OL n0 old) (HT : gp_TXA l oa n0 old) : ∀ d : Nat, gp_CS l oa ta D n0 old sh ad d (gp_call sh d) := by
  intro d
  induction d with
  | zero => intro k as σ Φ h; exact (show False from h).elim
  | succ d ih =>
    intro k as σ Φ h
    obtain ⟨⟨hk, hmc, hms⟩, hlen, hlay, hrun⟩ := (show (k < 313 ∧ gm_mc k = 0 ∧ gm_ms k = 0) ∧ as.length = gm_na k ∧ (gp_ly as (List.replicate (gm_me k).2.1 (.inr 7))).length = (gm_me k).2.2.1 ∧ gp_ok sh (gp_call sh d) (gm_rc k) (gm_me k).1 Φ 0 (gp_ly as (List.replicate (gm_me k).2.1 (.inr 7))) [] σ from h)
    refine ⟨hk, hlen, ?_⟩
    have hok := gk_all k hk
    obtain ⟨f1, f2, f3, f4, f5, f6, f7, f8, f9⟩ := gm_facts hok
    refine Met_ofWF (cc := (gm_i k).2.1) (maxL := (gm_i k).2.2.1) (ret := (gm_i k).2.2.2) f2 rfl ?_
    intro p e s m args below meth c s₁ B hml hv
    obtain ⟨⟨vs, rfl, hvs⟩, ⟨ws, hw⟩, hK, hn0, hold⟩ := hv
    have hx := B.exec
    have hb := B.bytes
    have hr := B.returns
    have hts0 := atoms_spec (ws := gw_m k) B.pre
    have hts : ∀ w ∈ gw_tbl, w.before vs.toArray s = true := fun w hw => hts0 w (List.mem_cons_of_mem _ hw)
    have hown : s.vm.findClass (gm_i k).1.cls = some m.cls := findClass_of_methodNamed B.named
    have hlocks := B.notSynchronized
    have hin2 : meth.name = (gm_i k).1.name := (name_of_methodNamed B.named B.method).1
    have hln := gp_ly_len (r := List.replicate (gm_me k).2.1 (.inr 7)) hvs
    rw [hlay, List.length_replicate, f4] at hln
    have hle : (lg_sl vs).length ≤ (gm_i k).2.2.1 := by omega
    have hl := lv_entry vs (n := (gm_i k).2.2.1) hle
    rw [lg_entry_eq]
    generalize (lg_sl vs ++ List.replicate ((gm_i k).2.2.1 - (lg_sl vs).length) Slot.unset).toArray = ls at hl ⊢
    have hlr : gp_lr oa ad (gm_i k).2.2.1 (gp_ly as (List.replicate (gm_me k).2.1 (.inr 7))) ls := ⟨hl.1, hl.2.1, by rw [hlay, f4], fun i v hi h7 => by
      obtain ⟨x, g1, g2⟩ := gp_ly_at 0 hvs i v hi h7
      rw [Nat.zero_add] at g2
      exact ⟨x, g1, hl.2.2 _ g2⟩⟩
    have hS0 : va_S (fun q => n0 ≤ q) s.heap s.heap [] := va_S.rf
    have key := hrun (gp_Go p l e (gp_rm (d + 1)) s m vs.toArray below meth c (MQ below (gp_Qc oa ta D n0 sh (gm_rc k) ad Φ) vs.toArray s 0 0 (fun q => n0 ≤ q)) oa ta D n0 (gm_i k).2.2.1 ad sh 0 0) ?_
    · exact key s.heap [] ls [] ⟨hS0, ws, hw, hlr, trivial⟩
    · intro pc al sk σ ev nx G Ψ C hj hG hΨ hC hst
      have hjm := ga_okc_jmp (t := pc) f9
      rw [hj] at hjm
      have hpc : ev.1 = pc := by
        rcases hjm.2 with q | q
        · cases q
        · exact q
      subst hpc
      have oe : ga_oe (gm_i k).1.cls (gm_i k).2.1 (decide ((gm_i k).1.name = "<init>")) (gm_i k).2.2.1 ev = true := hjm.1.1
      refine gp_step_ok (d := d) (old := old) (rc := gm_rc k) hx hb hml hown hts hK hn0 hold HO (fun q => by rw [hin2]; exact of_decide_eq_true q) (by show d + 11 ≤ d + 1 + 10; omega) (by show 100 * (d + 11) ≤ 100 * (d + 1 + 10); omega) ⟨Nat.zero_le _, Nat.zero_le _⟩ (fun k as σ F q => ih k as σ F (hC k as σ F q)) (HT p e (gp_rm (d + 1)) s m vs.toArray below meth c _ _ _ _ 0 0 hx hb hml hown hts hn0 hold (by show 11 ≤ d + 1 + 10; omega) (by show 1100 ≤ 100 * (d + 1 + 10); omega) ⟨Nat.zero_le _, Nat.zero_le _⟩) oe hG ?_ hst
      intro al sk σ hri hst
      obtain ⟨pc, ln, i, a, b, ps⟩ := ev
      unfold ga_oe at oe
      simp only [Bool.and_eq_true, decide_eq_true_eq] at oe
      obtain ⟨⟨hdg, hln⟩, -⟩ := oe
      intro H locs ls' st hat
      obtain ⟨hS, ws', hw', hl', hs'⟩ := hat
      have fin : ∀ (v : gp_V) (oc : Outcome) (t : State), Φ v σ → t.heap = H → ((gm_rc k = 0 ∧ oc = .returned none) ∨ (¬ gm_rc k = 0 ∧ ∃ x, oc = .returned (some x) ∧ gp_vr oa ad v x)) → gp_Qc oa ta D n0 sh (gm_rc k) ad Φ vs.toArray s oc t := by
        intro v oc t hΦ ht hoc
        exact ⟨⟨v, σ, hΦ, ⟨ws', by rw [ht]; exact hw'⟩, hoc⟩, hS.F ht⟩
      show W p l e _ s m vs.toArray below meth c H locs 0 0 _ (F0 m pc ls' st)
      rcases hri with hri | hri | hri | hri
      · obtain rfl : i = .ireturn := hri
        obtain rfl : ln = 1 := Nat.eq_of_beq_eq_true hln
        have h2 : (match (generalizing := false) sk with | [.inl x] => (gm_rc k = 1 ∧ Ψ (.inl x) σ) ∨ (gm_rc k = 2 ∧ (x = 0 ∨ x = 1) ∧ Ψ (.inl x) σ) | _ => False) := hst
        split at h2
        · rename_i x
          obtain ⟨vx, t, rfl, ⟨X, hX, rfl⟩, hs1⟩ := gp_sr_cons hs'
          obtain rfl := gp_sr_nil hs1
          rcases h2 with ⟨hrc, h2⟩ | ⟨hrc, h01, h2⟩
          · have hrn : (gm_i k).2.2.2 = some .int := by
              rw [hrc] at f8
              split at f8
              all_goals first | assumption | (exact absurd f8 (by decide)) | cases f8
            exact W.iret hx hb (hr.trans hrn) (fun t ht hW => fin _ _ t (hΨ _ _ h2) ht (Or.inr ⟨by omega, _, rfl, X, hX, rfl⟩)) hS.2.2 hdg hlocks
          · have hrn : (gm_i k).2.2.2 = some .boolean := by
              rw [hrc] at f8
              split at f8
              all_goals first | assumption | (exact absurd f8 (by decide)) | cases f8
            have hy : narrow .boolean (.int X) = .int X := by
              rcases h01 with q | q
              · have : X = 0 := Int32.toInt_inj.mp (by rw [hX, q]; rfl)
                rw [this]; decide +kernel
              · have : X = 1 := Int32.toInt_inj.mp (by rw [hX, q]; rfl)
                rw [this]; decide +kernel
            exact W.zret hx hb (hr.trans hrn) hy (fun t ht hW => fin _ _ t (hΨ _ _ h2) ht (Or.inr ⟨by omega, _, rfl, X, hX, rfl⟩)) hS.2.2 hdg hlocks
        · exact h2.elim
      · obtain rfl : i = .return_ := hri
        obtain rfl : ln = 1 := Nat.eq_of_beq_eq_true hln
        obtain ⟨hrc, rfl, h2⟩ := (show gm_rc k = 0 ∧ sk = [] ∧ Ψ (.inr 7) σ from hst)
        obtain rfl := gp_sr_nil hs'
        have hrn : (gm_i k).2.2.2 = none := by
          rw [hrc] at f8
          split at f8
          all_goals first | assumption | (exact absurd f8 (by decide)) | cases f8
        exact W.vret hx hb (hr.trans hrn) (fun t ht hW => fin _ _ t (hΨ _ _ h2) ht (Or.inl ⟨hrc, rfl⟩)) hS.2.2 hdg hlocks
      · obtain rfl : i = .areturn := hri
        obtain rfl : ln = 1 := Nat.eq_of_beq_eq_true hln
        have h2 : (match (generalizing := false) sk with | [.inr c] => gm_rc k = 5 ∧ c % 8 = 3 ∧ Ψ (.inr c) σ | _ => False) := hst
        split at h2
        · rename_i cq
          obtain ⟨hrc, h3, h2⟩ := h2
          obtain ⟨vx, t, rfl, g1, hs1⟩ := gp_sr_cons hs'
          obtain rfl := gp_sr_nil hs1
          obtain ⟨y, hy, rfl⟩ := gp_vr_r h3 g1
          have hrn : ∃ nm, (gm_i k).2.2.2 = some (.object nm) := by
            rw [hrc] at f8
            split at f8
            all_goals first | (exact ⟨_, by assumption⟩) | (exact absurd f8 (by decide)) | cases f8
          obtain ⟨nm, hrn⟩ := hrn
          exact W.aret hx hb (hr.trans hrn) (Or.inl ⟨nm, rfl⟩) (Or.inr ⟨y, rfl⟩) (fun t ht hW => fin _ _ t (hΨ _ _ h2) ht (Or.inr ⟨by omega, _, rfl, g1⟩)) hS.2.2 hdg hlocks
        · exact h2.elim
      · obtain rfl : i = .lreturn := hri
        obtain rfl : ln = 1 := Nat.eq_of_beq_eq_true hln
        have h2 : (match (generalizing := false) sk with | [.inr c] => gm_rc k = 4 ∧ c % 8 = 5 ∧ Ψ (.inr c) σ | _ => False) := hst
        split at h2
        · rename_i cq
          obtain ⟨hrc, h5, h2⟩ := h2
          obtain ⟨vx, t, rfl, g1, hs1⟩ := gp_sr_cons hs'
          obtain rfl := gp_sr_nil hs1
          obtain ⟨-, rfl⟩ := gp_vr_l h5 g1
          have hrn : (gm_i k).2.2.2 = some .long := by
            rw [hrc] at f8
            split at f8
            all_goals first | assumption | (exact absurd f8 (by decide)) | cases f8
          exact W.lret hx hb (hr.trans hrn) (fun t ht hW => fin _ _ t (hΨ _ _ h2) ht (Or.inr ⟨by omega, _, rfl, g1⟩)) hS.2.2 hdg hlocks
        · exact h2.elim
