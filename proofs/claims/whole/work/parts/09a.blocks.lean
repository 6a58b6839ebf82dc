/-! the blocks are the bytecode -/
set_option maxRecDepth 100000 in
theorem xGb_0 : xGb 0 = true := by decide +kernel
set_option maxRecDepth 100000 in
theorem xGb_1 : xGb 1 = true := by decide +kernel
set_option maxRecDepth 100000 in
theorem xGb_2 : xGb 2 = true := by decide +kernel
set_option maxRecDepth 100000 in
theorem xGb_3 : xGb 3 = true := by decide +kernel
set_option maxRecDepth 100000 in
theorem xGb_4 : xGb 4 = true := by decide +kernel
set_option maxRecDepth 100000 in
theorem xGb_5 : xGb 5 = true := by decide +kernel
set_option maxRecDepth 100000 in
theorem xGb_6 : xGb 6 = true := by decide +kernel
set_option maxRecDepth 100000 in
theorem xGb_7 : xGb 7 = true := by decide +kernel
set_option maxRecDepth 100000 in
theorem xGb_8 : xGb 8 = true := by decide +kernel
set_option maxRecDepth 100000 in
theorem xGb_9 : xGb 9 = true := by decide +kernel
set_option maxRecDepth 100000 in
theorem xGb_10 : xGb 10 = true := by decide +kernel
set_option maxRecDepth 100000 in
theorem xGb_11 : xGb 11 = true := by decide +kernel
set_option maxRecDepth 100000 in
theorem xGb_12 : xGb 12 = true := by decide +kernel
set_option maxRecDepth 100000 in
theorem xGb_13 : xGb 13 = true := by decide +kernel
set_option maxRecDepth 100000 in
theorem xGb_14 : xGb 14 = true := by decide +kernel
set_option maxRecDepth 100000 in
theorem xGb_15 : xGb 15 = true := by decide +kernel
set_option maxRecDepth 100000 in
theorem xGb_16 : xGb 16 = true := by decide +kernel
set_option maxRecDepth 100000 in
theorem xGb_17 : xGb 17 = true := by decide +kernel
set_option maxRecDepth 100000 in
theorem xGb_18 : xGb 18 = true := by decide +kernel
set_option maxRecDepth 100000 in
theorem xGb_19 : xGb 19 = true := by decide +kernel
set_option maxRecDepth 100000 in
theorem xGb_20 : xGb 20 = true := by decide +kernel
set_option maxRecDepth 100000 in
theorem xGb_21 : xGb 21 = true := by decide +kernel
set_option maxRecDepth 100000 in
theorem xGb_22 : xGb 22 = true := by decide +kernel
set_option maxRecDepth 100000 in
theorem xGb_23 : xGb 23 = true := by decide +kernel
set_option maxRecDepth 100000 in
theorem xGb_24 : xGb 24 = true := by decide +kernel
set_option maxRecDepth 100000 in
theorem xGb_25 : xGb 25 = true := by decide +kernel
set_option maxRecDepth 100000 in
theorem xGb_26 : xGb 26 = true := by decide +kernel
set_option maxRecDepth 100000 in
theorem xGb_27 : xGb 27 = true := by decide +kernel
set_option maxRecDepth 100000 in
theorem xGb_28 : xGb 28 = true := by decide +kernel
set_option maxRecDepth 100000 in
theorem xGb_29 : xGb 29 = true := by decide +kernel
set_option maxRecDepth 100000 in
theorem xGb_30 : xGb 30 = true := by decide +kernel
set_option maxRecDepth 100000 in
theorem xGb_31 : xGb 31 = true := by decide +kernel
set_option maxRecDepth 100000 in
theorem xGb_32 : xGb 32 = true := by decide +kernel
set_option maxRecDepth 100000 in
theorem xGb_33 : xGb 33 = true := by decide +kernel
set_option maxRecDepth 100000 in
theorem xGb_34 : xGb 34 = true := by decide +kernel
set_option maxRecDepth 100000 in
theorem xGb_35 : xGb 35 = true := by decide +kernel
set_option maxRecDepth 100000 in
theorem xGb_36 : xGb 36 = true := by decide +kernel
set_option maxRecDepth 100000 in
theorem xGb_37 : xGb 37 = true := by decide +kernel
set_option maxRecDepth 100000 in
theorem xGb_38 : xGb 38 = true := by decide +kernel
set_option maxRecDepth 100000 in
theorem xGb_39 : xGb 39 = true := by decide +kernel
set_option maxRecDepth 100000 in
theorem xGb_40 : xGb 40 = true := by decide +kernel
set_option maxRecDepth 100000 in
theorem xGb_41 : xGb 41 = true := by decide +kernel
set_option maxRecDepth 100000 in
theorem xGb_42 : xGb 42 = true := by decide +kernel
set_option maxRecDepth 100000 in
theorem xGb_43 : xGb 43 = true := by decide +kernel
set_option maxRecDepth 100000 in
theorem xGb_44 : xGb 44 = true := by decide +kernel
set_option maxRecDepth 100000 in
theorem xGb_45 : xGb 45 = true := by decide +kernel
set_option maxRecDepth 100000 in
theorem xGb_46 : xGb 46 = true := by decide +kernel
set_option maxRecDepth 100000 in
theorem xGb_47 : xGb 47 = true := by decide +kernel
set_option maxRecDepth 100000 in
theorem xGb_48 : xGb 48 = true := by decide +kernel
set_option maxRecDepth 100000 in
theorem xGb_49 : xGb 49 = true := by decide +kernel
set_option maxRecDepth 100000 in
theorem xGb_50 : xGb 50 = true := by decide +kernel
set_option maxRecDepth 100000 in
theorem xGb_51 : xGb 51 = true := by decide +kernel
set_option maxRecDepth 100000 in
theorem xGb_52 : xGb 52 = true := by decide +kernel
set_option maxRecDepth 100000 in
theorem xGb_53 : xGb 53 = true := by decide +kernel
set_option maxRecDepth 100000 in
theorem xGb_54 : xGb 54 = true := by decide +kernel
set_option maxRecDepth 100000 in
theorem xGb_55 : xGb 55 = true := by decide +kernel
set_option maxRecDepth 100000 in
theorem xGb_56 : xGb 56 = true := by decide +kernel
set_option maxRecDepth 100000 in
theorem xGb_57 : xGb 57 = true := by decide +kernel
set_option maxRecDepth 100000 in
theorem xGb_58 : xGb 58 = true := by decide +kernel
set_option maxRecDepth 100000 in
theorem xGb_59 : xGb 59 = true := by decide +kernel
