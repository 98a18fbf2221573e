/-! every row is so (1) -/
set_option maxRecDepth 100000 in
theorem xok_100 : xt100.all (xok ym100) = true := by decide +kernel
set_option maxRecDepth 100000 in
theorem xok_101 : xt101.all (xok ym101) = true := by decide +kernel
set_option maxRecDepth 100000 in
theorem xok_102 : xt102.all (xok ym102) = true := by decide +kernel
set_option maxRecDepth 100000 in
theorem xok_103 : xt103.all (xok ym103) = true := by decide +kernel
set_option maxRecDepth 100000 in
theorem xok_104 : xt104.all (xok ym104) = true := by decide +kernel
set_option maxRecDepth 100000 in
theorem xok_105 : xt105.all (xok ym105) = true := by decide +kernel
set_option maxRecDepth 100000 in
theorem xok_106 : xt106.all (xok ym106) = true := by decide +kernel
set_option maxRecDepth 100000 in
theorem xok_107 : xt107.all (xok ym107) = true := by decide +kernel
set_option maxRecDepth 100000 in
theorem xok_108 : xt108.all (xok ym108) = true := by decide +kernel
set_option maxRecDepth 100000 in
theorem xok_109 : xt109.all (xok ym109) = true := by decide +kernel
set_option maxRecDepth 100000 in
theorem xok_110 : xt110.all (xok ym110) = true := by decide +kernel
set_option maxRecDepth 100000 in
theorem xok_111 : xt111.all (xok ym111) = true := by decide +kernel
set_option maxRecDepth 100000 in
theorem xok_112 : xt112.all (xok ym112) = true := by decide +kernel
set_option maxRecDepth 100000 in
theorem xok_113 : xt113.all (xok ym113) = true := by decide +kernel
set_option maxRecDepth 100000 in
theorem xok_114 : xt114.all (xok ym114) = true := by decide +kernel
set_option maxRecDepth 100000 in
theorem xok_115 : xt115.all (xok ym115) = true := by decide +kernel
set_option maxRecDepth 100000 in
theorem xok_116 : xt116.all (xok ym116) = true := by decide +kernel
set_option maxRecDepth 100000 in
theorem xok_117 : xt117.all (xok ym117) = true := by decide +kernel
set_option maxRecDepth 100000 in
theorem xok_118 : xt118.all (xok ym118) = true := by decide +kernel
set_option maxRecDepth 100000 in
theorem xok_119 : xt119.all (xok ym119) = true := by decide +kernel
set_option maxRecDepth 100000 in
theorem xok_120 : xt120.all (xok ym120) = true := by decide +kernel
set_option maxRecDepth 100000 in
theorem xok_121 : xt121.all (xok ym121) = true := by decide +kernel
set_option maxRecDepth 100000 in
theorem xok_122 : xt122.all (xok ym122) = true := by decide +kernel
set_option maxRecDepth 100000 in
theorem xok_123 : xt123.all (xok ym123) = true := by decide +kernel
set_option maxRecDepth 100000 in
theorem xok_124 : xt124.all (xok ym124) = true := by decide +kernel
set_option maxRecDepth 100000 in
theorem xok_125 : xt125.all (xok ym125) = true := by decide +kernel
set_option maxRecDepth 100000 in
theorem xok_126 : xt126.all (xok ym126) = true := by decide +kernel
set_option maxRecDepth 100000 in
theorem xok_127 : xt127.all (xok ym127) = true := by decide +kernel
set_option maxRecDepth 100000 in
theorem xok_128 : xt128.all (xok ym128) = true := by decide +kernel
set_option maxRecDepth 100000 in
theorem xok_129 : xt129.all (xok ym129) = true := by decide +kernel
set_option maxRecDepth 100000 in
theorem xok_130 : xt130.all (xok ym130) = true := by decide +kernel
set_option maxRecDepth 100000 in
theorem xok_131 : xt131.all (xok ym131) = true := by decide +kernel
set_option maxRecDepth 100000 in
theorem xok_132 : xt132.all (xok ym132) = true := by decide +kernel
set_option maxRecDepth 100000 in
theorem xok_133 : xt133.all (xok ym133) = true := by decide +kernel
set_option maxRecDepth 100000 in
theorem xok_134 : xt134.all (xok ym134) = true := by decide +kernel
set_option maxRecDepth 100000 in
theorem xok_135 : xt135.all (xok ym135) = true := by decide +kernel
set_option maxRecDepth 100000 in
theorem xok_136 : xt136.all (xok ym136) = true := by decide +kernel
set_option maxRecDepth 100000 in
theorem xok_137 : xt137.all (xok ym137) = true := by decide +kernel
set_option maxRecDepth 100000 in
theorem xok_138 : xt138.all (xok ym138) = true := by decide +kernel
set_option maxRecDepth 100000 in
theorem xok_139 : xt139.all (xok ym139) = true := by decide +kernel
set_option maxRecDepth 100000 in
theorem xok_140 : xt140.all (xok ym140) = true := by decide +kernel
set_option maxRecDepth 100000 in
theorem xok_141 : xt141.all (xok ym141) = true := by decide +kernel
set_option maxRecDepth 100000 in
theorem xok_142 : xt142.all (xok ym142) = true := by decide +kernel
set_option maxRecDepth 100000 in
theorem xok_143 : xt143.all (xok ym143) = true := by decide +kernel
set_option maxRecDepth 100000 in
theorem xok_144 : xt144.all (xok ym144) = true := by decide +kernel
set_option maxRecDepth 100000 in
theorem xok_145 : xt145.all (xok ym145) = true := by decide +kernel
set_option maxRecDepth 100000 in
theorem xok_146 : xt146.all (xok ym146) = true := by decide +kernel
set_option maxRecDepth 100000 in
theorem xok_147 : xt147.all (xok ym147) = true := by decide +kernel
set_option maxRecDepth 100000 in
theorem xok_148 : xt148.all (xok ym148) = true := by decide +kernel
set_option maxRecDepth 100000 in
theorem xok_149 : xt149.all (xok ym149) = true := by decide +kernel
set_option maxRecDepth 100000 in
theorem xok_150 : xt150.all (xok ym150) = true := by decide +kernel
set_option maxRecDepth 100000 in
theorem xok_151 : xt151.all (xok ym151) = true := by decide +kernel
set_option maxRecDepth 100000 in
theorem xok_152 : xt152.all (xok ym152) = true := by decide +kernel
set_option maxRecDepth 100000 in
theorem xok_153 : xt153.all (xok ym153) = true := by decide +kernel
set_option maxRecDepth 100000 in
theorem xok_154 : xt154.all (xok ym154) = true := by decide +kernel
set_option maxRecDepth 100000 in
theorem xok_155 : xt155.all (xok ym155) = true := by decide +kernel
set_option maxRecDepth 100000 in
theorem xok_156 : xt156.all (xok ym156) = true := by decide +kernel
set_option maxRecDepth 100000 in
theorem xok_157 : xt157.all (xok ym157) = true := by decide +kernel
set_option maxRecDepth 100000 in
theorem xok_158 : xt158.all (xok ym158) = true := by decide +kernel
set_option maxRecDepth 100000 in
theorem xok_159 : xt159.all (xok ym159) = true := by decide +kernel
set_option maxRecDepth 100000 in
theorem xok_160 : xt160.all (xok ym160) = true := by decide +kernel
set_option maxRecDepth 100000 in
theorem xok_161 : xt161.all (xok ym161) = true := by decide +kernel
set_option maxRecDepth 100000 in
theorem xok_162 : xt162.all (xok ym162) = true := by decide +kernel
set_option maxRecDepth 100000 in
theorem xok_163 : xt163.all (xok ym163) = true := by decide +kernel
set_option maxRecDepth 100000 in
theorem xok_164 : xt164.all (xok ym164) = true := by decide +kernel
set_option maxRecDepth 100000 in
theorem xok_165 : xt165.all (xok ym165) = true := by decide +kernel
set_option maxRecDepth 100000 in
theorem xok_166 : xt166.all (xok ym166) = true := by decide +kernel
set_option maxRecDepth 100000 in
theorem xok_167 : xt167.all (xok ym167) = true := by decide +kernel
set_option maxRecDepth 100000 in
theorem xok_168 : xt168.all (xok ym168) = true := by decide +kernel
set_option maxRecDepth 100000 in
theorem xok_169 : xt169.all (xok ym169) = true := by decide +kernel
set_option maxRecDepth 100000 in
theorem xok_170 : xt170.all (xok ym170) = true := by decide +kernel
set_option maxRecDepth 100000 in
theorem xok_171 : xt171.all (xok ym171) = true := by decide +kernel
set_option maxRecDepth 100000 in
theorem xok_172 : xt172.all (xok ym172) = true := by decide +kernel
set_option maxRecDepth 100000 in
theorem xok_173 : xt173.all (xok ym173) = true := by decide +kernel
set_option maxRecDepth 100000 in
theorem xok_174 : xt174.all (xok ym174) = true := by decide +kernel
set_option maxRecDepth 100000 in
theorem xok_175 : xt175.all (xok ym175) = true := by decide +kernel
set_option maxRecDepth 100000 in
theorem xok_176 : xt176.all (xok ym176) = true := by decide +kernel
set_option maxRecDepth 100000 in
theorem xok_177 : xt177.all (xok ym177) = true := by decide +kernel
set_option maxRecDepth 100000 in
theorem xok_178 : xt178.all (xok ym178) = true := by decide +kernel
set_option maxRecDepth 100000 in
theorem xok_179 : xt179.all (xok ym179) = true := by decide +kernel
set_option maxRecDepth 100000 in
theorem xok_180 : xt180.all (xok ym180) = true := by decide +kernel
set_option maxRecDepth 100000 in
theorem xok_181 : xt181.all (xok ym181) = true := by decide +kernel
set_option maxRecDepth 100000 in
theorem xok_182 : xt182.all (xok ym182) = true := by decide +kernel
set_option maxRecDepth 100000 in
theorem xok_183 : xt183.all (xok ym183) = true := by decide +kernel
set_option maxRecDepth 100000 in
theorem xok_184 : xt184.all (xok ym184) = true := by decide +kernel
set_option maxRecDepth 100000 in
theorem xok_185 : xt185.all (xok ym185) = true := by decide +kernel
set_option maxRecDepth 100000 in
theorem xok_186 : xt186.all (xok ym186) = true := by decide +kernel
set_option maxRecDepth 100000 in
theorem xok_187 : xt187.all (xok ym187) = true := by decide +kernel
set_option maxRecDepth 100000 in
theorem xok_188 : xt188.all (xok ym188) = true := by decide +kernel
set_option maxRecDepth 100000 in
theorem xok_189 : xt189.all (xok ym189) = true := by decide +kernel
set_option maxRecDepth 100000 in
theorem xok_190 : xt190.all (xok ym190) = true := by decide +kernel
set_option maxRecDepth 100000 in
theorem xok_191 : xt191.all (xok ym191) = true := by decide +kernel
set_option maxRecDepth 100000 in
theorem xok_192 : xt192.all (xok ym192) = true := by decide +kernel
set_option maxRecDepth 100000 in
theorem xok_193 : xt193.all (xok ym193) = true := by decide +kernel
set_option maxRecDepth 100000 in
theorem xok_194 : xt194.all (xok ym194) = true := by decide +kernel
set_option maxRecDepth 100000 in
theorem xok_195 : xt195.all (xok ym195) = true := by decide +kernel
set_option maxRecDepth 100000 in
theorem xok_196 : xt196.all (xok ym196) = true := by decide +kernel
set_option maxRecDepth 100000 in
theorem xok_197 : xt197.all (xok ym197) = true := by decide +kernel
set_option maxRecDepth 100000 in
theorem xok_198 : xt198.all (xok ym198) = true := by decide +kernel
set_option maxRecDepth 100000 in
theorem xok_199 : xt199.all (xok ym199) = true := by decide +kernel
