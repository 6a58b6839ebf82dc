/-! the law's blocks are its bytecode -/
theorem all_cut {f : Nat × Nat × List xEl → Bool} {l : xBk} (n : Nat) (h1 : (l.take n).all f = true) (h2 : (l.drop n).all f = true) : l.all f = true := by
  rw [← List.take_append_drop n l, List.all_append, h1, h2]
  rfl
set_option maxRecDepth 100000 in
theorem xGL_0 : ((xBl 199).take 3).all (fun q => xGl 199 q.2.1 q.1 q.2.2) = true := by decide +kernel
set_option maxRecDepth 100000 in
theorem xGL_3 : (((xBl 199).drop 3).take 3).all (fun q => xGl 199 q.2.1 q.1 q.2.2) = true := by decide +kernel
set_option maxRecDepth 100000 in
theorem xGL_6 : ((((xBl 199).drop 3).drop 3).take 3).all (fun q => xGl 199 q.2.1 q.1 q.2.2) = true := by decide +kernel
set_option maxRecDepth 100000 in
theorem xGL_9 : (((((xBl 199).drop 3).drop 3).drop 3).take 3).all (fun q => xGl 199 q.2.1 q.1 q.2.2) = true := by decide +kernel
set_option maxRecDepth 100000 in
theorem xGL_12 : ((((((xBl 199).drop 3).drop 3).drop 3).drop 3).take 3).all (fun q => xGl 199 q.2.1 q.1 q.2.2) = true := by decide +kernel
set_option maxRecDepth 100000 in
theorem xGL_15 : (((((((xBl 199).drop 3).drop 3).drop 3).drop 3).drop 3).take 3).all (fun q => xGl 199 q.2.1 q.1 q.2.2) = true := by decide +kernel
set_option maxRecDepth 100000 in
theorem xGL_18 : ((((((((xBl 199).drop 3).drop 3).drop 3).drop 3).drop 3).drop 3).take 3).all (fun q => xGl 199 q.2.1 q.1 q.2.2) = true := by decide +kernel
set_option maxRecDepth 100000 in
theorem xGL_21 : (((((((((xBl 199).drop 3).drop 3).drop 3).drop 3).drop 3).drop 3).drop 3).take 3).all (fun q => xGl 199 q.2.1 q.1 q.2.2) = true := by decide +kernel
set_option maxRecDepth 100000 in
theorem xGL_24 : ((((((((((xBl 199).drop 3).drop 3).drop 3).drop 3).drop 3).drop 3).drop 3).drop 3).take 3).all (fun q => xGl 199 q.2.1 q.1 q.2.2) = true := by decide +kernel
set_option maxRecDepth 100000 in
theorem xGL_27 : (((((((((((xBl 199).drop 3).drop 3).drop 3).drop 3).drop 3).drop 3).drop 3).drop 3).drop 3).take 3).all (fun q => xGl 199 q.2.1 q.1 q.2.2) = true := by decide +kernel
set_option maxRecDepth 100000 in
theorem xGL_30 : ((((((((((((xBl 199).drop 3).drop 3).drop 3).drop 3).drop 3).drop 3).drop 3).drop 3).drop 3).drop 3).take 3).all (fun q => xGl 199 q.2.1 q.1 q.2.2) = true := by decide +kernel
set_option maxRecDepth 100000 in
theorem xGb_law : xGb 199 = true := all_cut 3 xGL_0 (all_cut 3 xGL_3 (all_cut 3 xGL_6 (all_cut 3 xGL_9 (all_cut 3 xGL_12 (all_cut 3 xGL_15 (all_cut 3 xGL_18 (all_cut 3 xGL_21 (all_cut 3 xGL_24 (all_cut 3 xGL_27 (all_cut 3 xGL_30 (rfl)))))))))))
