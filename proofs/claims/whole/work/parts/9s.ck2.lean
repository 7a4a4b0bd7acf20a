set_option maxRecDepth 100000 in
theorem am_ck32 : ((List.range 158).drop 154).all am_okm = true := by decide +kernel
set_option maxRecDepth 100000 in
theorem am_ck33 : ((List.range 166).drop 158).all am_okm = true := by decide +kernel
set_option maxRecDepth 100000 in
theorem am_ck34 : ((List.range 170).drop 166).all am_okm = true := by decide +kernel
set_option maxRecDepth 100000 in
theorem am_ck35 : ((List.range 173).drop 170).all am_okm = true := by decide +kernel
set_option maxRecDepth 100000 in
theorem am_ck36 : ((List.range 176).drop 173).all am_okm = true := by decide +kernel
set_option maxRecDepth 100000 in
theorem am_ck37 : ((List.range 180).drop 176).all am_okm = true := by decide +kernel
set_option maxRecDepth 100000 in
theorem am_ck38 : ((List.range 184).drop 180).all am_okm = true := by decide +kernel
set_option maxRecDepth 100000 in
theorem am_ck39 : ((List.range 188).drop 184).all am_okm = true := by decide +kernel
set_option maxRecDepth 100000 in
theorem am_ck40 : ((List.range 193).drop 188).all am_okm = true := by decide +kernel
set_option maxRecDepth 100000 in
theorem am_ck41 : ((List.range 196).drop 193).all am_okm = true := by decide +kernel
set_option maxRecDepth 100000 in
theorem am_ck42 : ((List.range 197).drop 196).all am_okm = true := by decide +kernel
set_option maxRecDepth 100000 in
theorem am_ck43 : ((List.range 201).drop 197).all am_okm = true := by decide +kernel
set_option maxRecDepth 100000 in
theorem am_ck44 : ((List.range 206).drop 201).all am_okm = true := by decide +kernel
set_option maxRecDepth 100000 in
theorem am_ck45 : ((List.range 208).drop 206).all am_okm = true := by decide +kernel
set_option maxRecDepth 100000 in
theorem am_ck46 : ((List.range 210).drop 208).all am_okm = true := by decide +kernel
set_option maxRecDepth 100000 in
theorem am_ck47 : ((List.range 211).drop 210).all am_okm = true := by decide +kernel
