/-! the machine's runs, by the kernel -/
noncomputable def gt_h0 : ga_H := List.replicate 20 (List.replicate 16 (999, 0, []))
noncomputable def gt_run (L : Nat) (lo hi : Nat) : Option (List ga_O) := ga_run gm_me gm_df L gm_tx (ga_call gm_me gm_df L gm_tx 100000 8) 600000 7302249 100001 gl_law 100000 gl_law [6, 7, 7, 7] [] 0 0 [(0, 4294967295), (0, 4294967295), (0, 4294967295), (0, 4294967295), (0, 4294967295), (0, 4294967295), (lo, hi), (0, 4294967295)] 0 gt_h0
/-- each way ends at an ireturn with 1, within the room -/
noncomputable def gt_ok1 (o : ga_O) : Bool := match o with | (e :: _, _, sk, cs, ss, _, _, _) => (match e with | (_, _, i, _) => (match i with | .ireturn => (match sk with | [v] => and (Nat.beq v 8) (and (Nat.ble cs 600000) (Nat.ble ss 7302249)) | _ => false) | _ => false)) | _ => false
noncomputable def gt_ok (o : Option (List ga_O)) : Bool := match o with | none => false | some l => List.rec true (fun o _ ih => ga_if (gt_ok1 o) ih false) l
theorem gt_s0 : gt_ok (gt_run 0 2147483648 2147483711) = true := by decide +kernel
theorem gt_s1 : gt_ok (gt_run 1 2147483648 2147483711) = true := by decide +kernel
theorem gt_s2 : gt_ok (gt_run 2 2147483648 2147483711) = true := by decide +kernel
theorem gt_s3 : gt_ok (gt_run 3 2147483648 2147483711) = true := by decide +kernel
theorem gt_s4 : gt_ok (gt_run 4 2147483648 2147483711) = true := by decide +kernel
theorem gt_s5 : gt_ok (gt_run 5 2147483648 2147483711) = true := by decide +kernel
