set_option maxRecDepth 100000 in
theorem am_lk0 : am_okl 258 ((am_c258.drop 0).take 50) ((am_pl258.drop 0).take 50) = true := by decide +kernel
set_option maxRecDepth 100000 in
theorem am_lk1 : am_okl 258 ((am_c258.drop 50).take 50) ((am_pl258.drop 50).take 50) = true := by decide +kernel
set_option maxRecDepth 100000 in
theorem am_lk2 : am_okl 258 ((am_c258.drop 100).take 50) ((am_pl258.drop 100).take 50) = true := by decide +kernel
set_option maxRecDepth 100000 in
theorem am_lk3 : am_okl 258 ((am_c258.drop 150).take 50) ((am_pl258.drop 150).take 50) = true := by decide +kernel
set_option maxRecDepth 100000 in
theorem am_lk4 : am_okl 258 ((am_c258.drop 200).take 50) ((am_pl258.drop 200).take 50) = true := by decide +kernel
set_option maxRecDepth 100000 in
theorem am_lk5 : am_okl 258 ((am_c258.drop 250).take 50) ((am_pl258.drop 250).take 50) = true := by decide +kernel
set_option maxRecDepth 100000 in
theorem am_lk6 : am_okl 258 ((am_c258.drop 300).take 50) ((am_pl258.drop 300).take 50) = true := by decide +kernel
set_option maxRecDepth 100000 in
theorem am_lk7 : am_okl 258 ((am_c258.drop 350).take 50) ((am_pl258.drop 350).take 50) = true := by decide +kernel
set_option maxRecDepth 100000 in
theorem am_lk8 : am_okl 258 ((am_c258.drop 400).take 50) ((am_pl258.drop 400).take 50) = true := by decide +kernel
set_option maxRecDepth 100000 in
theorem am_lk9 : am_okl 258 ((am_c258.drop 450).take 50) ((am_pl258.drop 450).take 50) = true := by decide +kernel
set_option maxRecDepth 100000 in
theorem am_lk10 : am_okl 258 ((am_c258.drop 500).take 50) ((am_pl258.drop 500).take 50) = true := by decide +kernel
set_option maxRecDepth 100000 in
theorem am_lk11 : am_okl 258 ((am_c258.drop 550).take 50) ((am_pl258.drop 550).take 50) = true := by decide +kernel
