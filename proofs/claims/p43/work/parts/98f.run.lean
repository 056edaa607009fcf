/-! the constructors, by the kernel -/
noncomputable def gl_h0 : ga_H := List.replicate 20 (List.replicate 16 (999, 0, []))
noncomputable def gl_run : Option (List ga_O) := gq_run gm_me gm_df 0 gm_tx (gq_call gm_me gm_df 0 gm_tx 100000 8) 600000 7302249 18 gl_law 100000 gl_law [6, 7, 7, 7] [] 0 0 [] 0 gl_h0
noncomputable def gl_z (v : Nat) : Int := if v % 8 = 5 then ((v / 8 : Nat) : Int) else gp_li v
noncomputable def gl_v (c : ga_C) (j : Nat) : Nat := match c with | (c1, _, cv) => ga_nth (ga_d c1) cv j
noncomputable def gl_slot (v pk : Nat) : Bool := ga_if (Nat.beq pk 0) (and (Nat.beq (v % 8) 0) (Nat.blt (v / 8) 4294967296)) (ga_if (Nat.beq pk 5) (Nat.beq (v % 8) 5) (and (Nat.beq v pk) (Nat.beq (pk % 8) 3)))
noncomputable def gl_cell (c : ga_C) (t : gp_T) : Bool := match c with | (c1, cm, cv) => (match t with | (t1, tm, td, tl) => and (Nat.beq c1 t1) (and (ga_if (Nat.blt c1 100) (Nat.beq (List.length cv) tm) (Nat.beq cm tm)) (gs_all (fun j => gl_slot (ga_nth (ga_d c1) cv j) (ga_nth td tl j)) tm)))
noncomputable def gl_ty1 (t v : Nat) : Bool := ga_if (Nat.beq (t % 8) 2) (and (Nat.beq (v % 8) 0) (and (Nat.blt (v / 8) 4294967296) (and (Nat.ble (t / 8 / 4294967296) (ga_key (v / 8))) (Nat.ble (ga_key (v / 8)) (t / 8 % 4294967296))))) true
noncomputable def gl_typ (t : gb_T) (c : ga_C) : Bool := match c with | (c1, _, cv) => (match t with | (_, tn, td, tl, _) => gs_all (fun j => gl_ty1 (ga_nth td tl j) (ga_nth (ga_d c1) cv j)) tn)
noncomputable def gl_zer (h : ga_H) (l : List (Nat × Nat)) : Bool := List.rec true (fun q _ ih => and (Nat.beq (gl_v (ga_hg h q.1) q.2) 0) ih) l
def gl_zl : List (Nat × Nat) := [(252, 0), (252, 1), (253, 0), (253, 1), (236, 46), (236, 47), (278, 0), (278, 1), (278, 2), (236, 62), (216, 9)]
noncomputable def gl_al4 (al : List Nat) : Bool := match al with | [a, b, c, d] => and (Nat.beq a 6) (and (Nat.beq b 3) (and (Nat.beq c 1891) (Nat.beq d 0))) | _ => false
noncomputable def gl_ok1 (o : ga_O) : Bool := match o with | (cds, al, sk, cs, ss, _, _, h) => and (Nat.beq (ga_pc cds) 18) (and (gl_al4 al) (and (match sk with | [] => true | _ => false) (and (Nat.ble cs 600000) (and (Nat.ble ss 7302249) (and (gs_all (fun k => gl_cell (ga_hg h k) (gs_sh k)) 279) (and (gs_all (fun k => and (gl_typ (gs_wx k) (ga_hg h k)) (gl_typ (gs_wm 0 0 k) (ga_hg h k))) 279) (gl_zer h gl_zl)))))))
noncomputable def gl_okb (o : Option (List ga_O)) : Bool := match o with | some [o] => gl_ok1 o | _ => false
theorem gl_okr : gl_okb gl_run = true := by decide +kernel
