set_option maxRecDepth 100000 in
theorem am_ck48 : ((List.range 215).drop 211).all am_okm = true := by decide +kernel
set_option maxRecDepth 100000 in
theorem am_ck49 : ((List.range 217).drop 215).all am_okm = true := by decide +kernel
set_option maxRecDepth 100000 in
theorem am_ck50 : ((List.range 220).drop 217).all am_okm = true := by decide +kernel
set_option maxRecDepth 100000 in
theorem am_ck51 : ((List.range 222).drop 220).all am_okm = true := by decide +kernel
set_option maxRecDepth 100000 in
theorem am_ck52 : ((List.range 223).drop 222).all am_okm = true := by decide +kernel
set_option maxRecDepth 100000 in
theorem am_ck53 : ((List.range 227).drop 223).all am_okm = true := by decide +kernel
set_option maxRecDepth 100000 in
theorem am_ck54 : ((List.range 229).drop 227).all am_okm = true := by decide +kernel
set_option maxRecDepth 100000 in
theorem am_ck55 : ((List.range 231).drop 229).all am_okm = true := by decide +kernel
set_option maxRecDepth 100000 in
theorem am_ck56 : ((List.range 235).drop 231).all am_okm = true := by decide +kernel
set_option maxRecDepth 100000 in
theorem am_ck57 : ((List.range 237).drop 235).all am_okm = true := by decide +kernel
set_option maxRecDepth 100000 in
theorem am_ck58 : ((List.range 240).drop 237).all am_okm = true := by decide +kernel
set_option maxRecDepth 100000 in
theorem am_ck59 : ((List.range 243).drop 240).all am_okm = true := by decide +kernel
set_option maxRecDepth 100000 in
theorem am_ck60 : ((List.range 246).drop 243).all am_okm = true := by decide +kernel
set_option maxRecDepth 100000 in
theorem am_ck61 : ((List.range 253).drop 246).all am_okm = true := by decide +kernel
set_option maxRecDepth 100000 in
theorem am_ck62 : ((List.range 258).drop 253).all am_okm = true := by decide +kernel
