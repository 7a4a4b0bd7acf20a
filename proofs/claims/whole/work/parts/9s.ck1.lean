set_option maxRecDepth 100000 in
theorem am_ck16 : ((List.range 95).drop 87).all am_okm = true := by decide +kernel
set_option maxRecDepth 100000 in
theorem am_ck17 : ((List.range 101).drop 95).all am_okm = true := by decide +kernel
set_option maxRecDepth 100000 in
theorem am_ck18 : ((List.range 103).drop 101).all am_okm = true := by decide +kernel
set_option maxRecDepth 100000 in
theorem am_ck19 : ((List.range 108).drop 103).all am_okm = true := by decide +kernel
set_option maxRecDepth 100000 in
theorem am_ck20 : ((List.range 113).drop 108).all am_okm = true := by decide +kernel
set_option maxRecDepth 100000 in
theorem am_ck21 : ((List.range 117).drop 113).all am_okm = true := by decide +kernel
set_option maxRecDepth 100000 in
theorem am_ck22 : ((List.range 126).drop 117).all am_okm = true := by decide +kernel
set_option maxRecDepth 100000 in
theorem am_ck23 : ((List.range 129).drop 126).all am_okm = true := by decide +kernel
set_option maxRecDepth 100000 in
theorem am_ck24 : ((List.range 132).drop 129).all am_okm = true := by decide +kernel
set_option maxRecDepth 100000 in
theorem am_ck25 : ((List.range 135).drop 132).all am_okm = true := by decide +kernel
set_option maxRecDepth 100000 in
theorem am_ck26 : ((List.range 140).drop 135).all am_okm = true := by decide +kernel
set_option maxRecDepth 100000 in
theorem am_ck27 : ((List.range 144).drop 140).all am_okm = true := by decide +kernel
set_option maxRecDepth 100000 in
theorem am_ck28 : ((List.range 146).drop 144).all am_okm = true := by decide +kernel
set_option maxRecDepth 100000 in
theorem am_ck29 : ((List.range 149).drop 146).all am_okm = true := by decide +kernel
set_option maxRecDepth 100000 in
theorem am_ck30 : ((List.range 153).drop 149).all am_okm = true := by decide +kernel
set_option maxRecDepth 100000 in
theorem am_ck31 : ((List.range 154).drop 153).all am_okm = true := by decide +kernel
