/-! the blocks are the bytecode -/
set_option maxRecDepth 100000 in
theorem xGb_105 : xGb 105 = true := by decide +kernel
set_option maxRecDepth 100000 in
theorem xGb_106 : xGb 106 = true := by decide +kernel
set_option maxRecDepth 100000 in
theorem xGb_107 : xGb 107 = true := by decide +kernel
set_option maxRecDepth 100000 in
theorem xGb_108 : xGb 108 = true := by decide +kernel
set_option maxRecDepth 100000 in
theorem xGb_109 : xGb 109 = true := by decide +kernel
set_option maxRecDepth 100000 in
theorem xGb_110 : xGb 110 = true := by decide +kernel
set_option maxRecDepth 100000 in
theorem xGb_111 : xGb 111 = true := by decide +kernel
set_option maxRecDepth 100000 in
theorem xGb_112 : xGb 112 = true := by decide +kernel
set_option maxRecDepth 100000 in
theorem xGb_113 : xGb 113 = true := by decide +kernel
set_option maxRecDepth 100000 in
theorem xGb_114 : xGb 114 = true := by decide +kernel
set_option maxRecDepth 100000 in
theorem xGb_115 : xGb 115 = true := by decide +kernel
set_option maxRecDepth 100000 in
theorem xGb_116 : xGb 116 = true := by decide +kernel
set_option maxRecDepth 100000 in
theorem xGb_117 : xGb 117 = true := by decide +kernel
set_option maxRecDepth 100000 in
theorem xGb_118 : xGb 118 = true := by decide +kernel
set_option maxRecDepth 100000 in
theorem xGb_119 : xGb 119 = true := by decide +kernel
set_option maxRecDepth 100000 in
theorem xGb_120 : xGb 120 = true := by decide +kernel
set_option maxRecDepth 100000 in
theorem xGb_121 : xGb 121 = true := by decide +kernel
set_option maxRecDepth 100000 in
theorem xGb_122 : xGb 122 = true := by decide +kernel
set_option maxRecDepth 100000 in
theorem xGb_123 : xGb 123 = true := by decide +kernel
set_option maxRecDepth 100000 in
theorem xGb_124 : xGb 124 = true := by decide +kernel
set_option maxRecDepth 100000 in
theorem xGb_125 : xGb 125 = true := by decide +kernel
set_option maxRecDepth 100000 in
theorem xGb_126 : xGb 126 = true := by decide +kernel
set_option maxRecDepth 100000 in
theorem xGb_127 : xGb 127 = true := by decide +kernel
set_option maxRecDepth 100000 in
theorem xGb_128 : xGb 128 = true := by decide +kernel
set_option maxRecDepth 100000 in
theorem xGb_129 : xGb 129 = true := by decide +kernel
set_option maxRecDepth 100000 in
theorem xGb_130 : xGb 130 = true := by decide +kernel
set_option maxRecDepth 100000 in
theorem xGb_131 : xGb 131 = true := by decide +kernel
set_option maxRecDepth 100000 in
theorem xGb_132 : xGb 132 = true := by decide +kernel
set_option maxRecDepth 100000 in
theorem xGb_133 : xGb 133 = true := by decide +kernel
set_option maxRecDepth 100000 in
theorem xGb_134 : xGb 134 = true := by decide +kernel
set_option maxRecDepth 100000 in
theorem xGb_135 : xGb 135 = true := by decide +kernel
set_option maxRecDepth 100000 in
theorem xGb_136 : xGb 136 = true := by decide +kernel
set_option maxRecDepth 100000 in
theorem xGb_137 : xGb 137 = true := by decide +kernel
set_option maxRecDepth 100000 in
theorem xGb_138 : xGb 138 = true := by decide +kernel
set_option maxRecDepth 100000 in
theorem xGb_139 : xGb 139 = true := by decide +kernel
set_option maxRecDepth 100000 in
theorem xGb_140 : xGb 140 = true := by decide +kernel
set_option maxRecDepth 100000 in
theorem xGb_141 : xGb 141 = true := by decide +kernel
set_option maxRecDepth 100000 in
theorem xGb_142 : xGb 142 = true := by decide +kernel
set_option maxRecDepth 100000 in
theorem xGb_143 : xGb 143 = true := by decide +kernel
set_option maxRecDepth 100000 in
theorem xGb_144 : xGb 144 = true := by decide +kernel
set_option maxRecDepth 100000 in
theorem xGb_145 : xGb 145 = true := by decide +kernel
set_option maxRecDepth 100000 in
theorem xGb_146 : xGb 146 = true := by decide +kernel
set_option maxRecDepth 100000 in
theorem xGb_147 : xGb 147 = true := by decide +kernel
set_option maxRecDepth 100000 in
theorem xGb_148 : xGb 148 = true := by decide +kernel
set_option maxRecDepth 100000 in
theorem xGb_149 : xGb 149 = true := by decide +kernel
