set_option maxRecDepth 100000 in
theorem am_lk12 : am_okl 258 ((am_c258.drop 600).take 50) ((am_pl258.drop 600).take 50) = true := by decide +kernel
set_option maxRecDepth 100000 in
theorem am_lk13 : am_okl 258 ((am_c258.drop 650).take 50) ((am_pl258.drop 650).take 50) = true := by decide +kernel
set_option maxRecDepth 100000 in
theorem am_lk14 : am_okl 258 ((am_c258.drop 700).take 50) ((am_pl258.drop 700).take 50) = true := by decide +kernel
set_option maxRecDepth 100000 in
theorem am_lk15 : am_okl 258 ((am_c258.drop 750).take 50) ((am_pl258.drop 750).take 50) = true := by decide +kernel
set_option maxRecDepth 100000 in
theorem am_lk16 : am_okl 258 ((am_c258.drop 800).take 50) ((am_pl258.drop 800).take 50) = true := by decide +kernel
set_option maxRecDepth 100000 in
theorem am_lk17 : am_okl 258 ((am_c258.drop 850).take 50) ((am_pl258.drop 850).take 50) = true := by decide +kernel
set_option maxRecDepth 100000 in
theorem am_lk18 : am_okl 258 ((am_c258.drop 900).take 50) ((am_pl258.drop 900).take 50) = true := by decide +kernel
set_option maxRecDepth 100000 in
theorem am_lk19 : am_okl 258 ((am_c258.drop 950).take 50) ((am_pl258.drop 950).take 50) = true := by decide +kernel
set_option maxRecDepth 100000 in
theorem am_lk20 : am_okl 258 ((am_c258.drop 1000).take 50) ((am_pl258.drop 1000).take 50) = true := by decide +kernel
set_option maxRecDepth 100000 in
theorem am_lk21 : am_okl 258 ((am_c258.drop 1050).take 50) ((am_pl258.drop 1050).take 50) = true := by decide +kernel
set_option maxRecDepth 100000 in
theorem am_lk22 : am_okl 258 ((am_c258.drop 1100).take 50) ((am_pl258.drop 1100).take 50) = true := by decide +kernel
set_option maxRecDepth 100000 in
theorem am_lk23 : am_okl 258 ((am_c258.drop 1150).take 50) ((am_pl258.drop 1150).take 50) = true := by decide +kernel
