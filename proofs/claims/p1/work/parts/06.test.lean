noncomputable def gt_h0 : ga_H := List.replicate 20 (List.replicate 16 (999, 0, []))
def gt_i0 : ga_I := [(0, 4294967295), (0, 4294967295), (0, 4294967295), (0, 4294967295), (0, 4294967295), (0, 4294967295), (2147483648, 2147483711), (0, 4294967295)]
noncomputable def gt_run (stop : Nat) : ga_G := ga_run gm_me gm_df 6 gm_tx (ga_call gm_me gm_df 6 gm_tx 100000 8) 600000 7302249 stop gc_law 100000
noncomputable def gt_n (o : Option (List ga_O)) : Nat := match o with | none => 0 | some l => match l with | [(_, _, _, cs, ss, _, n, _)] => cs * 1000000000000 + ss * 1000000 + n | _ => l.length
/-- each stops at an ireturn with 1 -/
noncomputable def gt_ok1 (o : ga_O) : Bool := match o with | (e :: _, _, sk, _, _, _, _, _) => (match e with | (_, _, i, _) => (match i with | .ireturn => (match sk with | [v] => Nat.beq v 8 | _ => false) | _ => false)) | _ => false
noncomputable def gt_ok (o : Option (List ga_O)) : Bool := match o with | none => false | some l => List.rec true (fun o _ ih => ga_if (gt_ok1 o) ih false) l
theorem gt_c0 : gt_ok (gt_run 100001 gc_law [6, 7, 7, 7] [] 0 0 [(0, 4294967295), (2147483648, 2147483648), (0, 4294967295), (0, 4294967295), (0, 4294967295), (0, 4294967295), (2147483674, 2147483674), (0, 4294967295)] 0 gt_h0) = true := by decide +kernel
