/-! the blocks are the bytecode -/
set_option maxRecDepth 100000 in
theorem xGb_60 : xGb 60 = true := by decide +kernel
set_option maxRecDepth 100000 in
theorem xGb_61 : xGb 61 = true := by decide +kernel
set_option maxRecDepth 100000 in
theorem xGb_62 : xGb 62 = true := by decide +kernel
set_option maxRecDepth 100000 in
theorem xGb_63 : xGb 63 = true := by decide +kernel
set_option maxRecDepth 100000 in
theorem xGb_64 : xGb 64 = true := by decide +kernel
set_option maxRecDepth 100000 in
theorem xGb_65 : xGb 65 = true := by decide +kernel
set_option maxRecDepth 100000 in
theorem xGb_66 : xGb 66 = true := by decide +kernel
set_option maxRecDepth 100000 in
theorem xGb_67 : xGb 67 = true := by decide +kernel
set_option maxRecDepth 100000 in
theorem xGb_68 : xGb 68 = true := by decide +kernel
set_option maxRecDepth 100000 in
theorem xGb_69 : xGb 69 = true := by decide +kernel
set_option maxRecDepth 100000 in
theorem xGb_70 : xGb 70 = true := by decide +kernel
set_option maxRecDepth 100000 in
theorem xGb_71 : xGb 71 = true := by decide +kernel
set_option maxRecDepth 100000 in
theorem xGb_72 : xGb 72 = true := by decide +kernel
set_option maxRecDepth 100000 in
theorem xGb_73 : xGb 73 = true := by decide +kernel
set_option maxRecDepth 100000 in
theorem xGb_74 : xGb 74 = true := by decide +kernel
set_option maxRecDepth 100000 in
theorem xGb_75 : xGb 75 = true := by decide +kernel
set_option maxRecDepth 100000 in
theorem xGb_76 : xGb 76 = true := by decide +kernel
set_option maxRecDepth 100000 in
theorem xGb_77 : xGb 77 = true := by decide +kernel
set_option maxRecDepth 100000 in
theorem xGb_78 : xGb 78 = true := by decide +kernel
set_option maxRecDepth 100000 in
theorem xGb_79 : xGb 79 = true := by decide +kernel
set_option maxRecDepth 100000 in
theorem xGb_80 : xGb 80 = true := by decide +kernel
set_option maxRecDepth 100000 in
theorem xGb_81 : xGb 81 = true := by decide +kernel
set_option maxRecDepth 100000 in
theorem xGb_82 : xGb 82 = true := by decide +kernel
set_option maxRecDepth 100000 in
theorem xGb_83 : xGb 83 = true := by decide +kernel
set_option maxRecDepth 100000 in
theorem xGb_84 : xGb 84 = true := by decide +kernel
set_option maxRecDepth 100000 in
theorem xGb_85 : xGb 85 = true := by decide +kernel
set_option maxRecDepth 100000 in
theorem xGb_86 : xGb 86 = true := by decide +kernel
set_option maxRecDepth 100000 in
theorem xGb_87 : xGb 87 = true := by decide +kernel
set_option maxRecDepth 100000 in
theorem xGb_88 : xGb 88 = true := by decide +kernel
set_option maxRecDepth 100000 in
theorem xGb_89 : xGb 89 = true := by decide +kernel
set_option maxRecDepth 100000 in
theorem xGb_90 : xGb 90 = true := by decide +kernel
set_option maxRecDepth 100000 in
theorem xGb_91 : xGb 91 = true := by decide +kernel
set_option maxRecDepth 100000 in
theorem xGb_92 : xGb 92 = true := by decide +kernel
set_option maxRecDepth 100000 in
theorem xGb_93 : xGb 93 = true := by decide +kernel
set_option maxRecDepth 100000 in
theorem xGb_94 : xGb 94 = true := by decide +kernel
set_option maxRecDepth 100000 in
theorem xGb_95 : xGb 95 = true := by decide +kernel
set_option maxRecDepth 100000 in
theorem xGb_96 : xGb 96 = true := by decide +kernel
set_option maxRecDepth 100000 in
theorem xGb_97 : xGb 97 = true := by decide +kernel
set_option maxRecDepth 100000 in
theorem xGb_98 : xGb 98 = true := by decide +kernel
set_option maxRecDepth 100000 in
theorem xGb_99 : xGb 99 = true := by decide +kernel
set_option maxRecDepth 100000 in
theorem xGb_100 : xGb 100 = true := by decide +kernel
set_option maxRecDepth 100000 in
theorem xGb_101 : xGb 101 = true := by decide +kernel
set_option maxRecDepth 100000 in
theorem xGb_102 : xGb 102 = true := by decide +kernel
set_option maxRecDepth 100000 in
theorem xGb_103 : xGb 103 = true := by decide +kernel
set_option maxRecDepth 100000 in
theorem xGb_104 : xGb 104 = true := by decide +kernel
