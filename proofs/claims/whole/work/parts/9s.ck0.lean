set_option maxRecDepth 100000 in
theorem am_ck0 : ((List.range 4).drop 0).all am_okm = true := by decide +kernel
set_option maxRecDepth 100000 in
theorem am_ck1 : ((List.range 7).drop 4).all am_okm = true := by decide +kernel
set_option maxRecDepth 100000 in
theorem am_ck2 : ((List.range 11).drop 7).all am_okm = true := by decide +kernel
set_option maxRecDepth 100000 in
theorem am_ck3 : ((List.range 14).drop 11).all am_okm = true := by decide +kernel
set_option maxRecDepth 100000 in
theorem am_ck4 : ((List.range 19).drop 14).all am_okm = true := by decide +kernel
set_option maxRecDepth 100000 in
theorem am_ck5 : ((List.range 25).drop 19).all am_okm = true := by decide +kernel
set_option maxRecDepth 100000 in
theorem am_ck6 : ((List.range 29).drop 25).all am_okm = true := by decide +kernel
set_option maxRecDepth 100000 in
theorem am_ck7 : ((List.range 32).drop 29).all am_okm = true := by decide +kernel
set_option maxRecDepth 100000 in
theorem am_ck8 : ((List.range 36).drop 32).all am_okm = true := by decide +kernel
set_option maxRecDepth 100000 in
theorem am_ck9 : ((List.range 43).drop 36).all am_okm = true := by decide +kernel
set_option maxRecDepth 100000 in
theorem am_ck10 : ((List.range 52).drop 43).all am_okm = true := by decide +kernel
set_option maxRecDepth 100000 in
theorem am_ck11 : ((List.range 60).drop 52).all am_okm = true := by decide +kernel
set_option maxRecDepth 100000 in
theorem am_ck12 : ((List.range 65).drop 60).all am_okm = true := by decide +kernel
set_option maxRecDepth 100000 in
theorem am_ck13 : ((List.range 72).drop 65).all am_okm = true := by decide +kernel
set_option maxRecDepth 100000 in
theorem am_ck14 : ((List.range 80).drop 72).all am_okm = true := by decide +kernel
set_option maxRecDepth 100000 in
theorem am_ck15 : ((List.range 87).drop 80).all am_okm = true := by decide +kernel
