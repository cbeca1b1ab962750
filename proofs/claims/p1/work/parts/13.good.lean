set_option maxRecDepth 100000 in
theorem jt0 : [378,379,380,381,382,383, 21, 46,60].all jchkM = true := by decide +kernel
