/-! the checks, joined -/
theorem wh_in {a b n : Nat} (h : ((List.range b).drop a).all am_okm = true) (h1 : a ≤ n) (h2 : n < b) : am_okm n = true := by
  refine List.all_eq_true.mp h n ?_
  refine List.mem_of_getElem? (i := n - a) ?_
  rw [List.getElem?_drop, show a + (n - a) = n by omega]
  exact List.getElem?_range h2
theorem wh_ck : ∀ n, n < 258 → am_okm n = true := by
  intro n hn
  by_cases h4 : n < 4
  · exact wh_in am_ck0 (by omega) h4
  by_cases h7 : n < 7
  · exact wh_in am_ck1 (by omega) h7
  by_cases h11 : n < 11
  · exact wh_in am_ck2 (by omega) h11
  by_cases h14 : n < 14
  · exact wh_in am_ck3 (by omega) h14
  by_cases h19 : n < 19
  · exact wh_in am_ck4 (by omega) h19
  by_cases h25 : n < 25
  · exact wh_in am_ck5 (by omega) h25
  by_cases h29 : n < 29
  · exact wh_in am_ck6 (by omega) h29
  by_cases h32 : n < 32
  · exact wh_in am_ck7 (by omega) h32
  by_cases h36 : n < 36
  · exact wh_in am_ck8 (by omega) h36
  by_cases h43 : n < 43
  · exact wh_in am_ck9 (by omega) h43
  by_cases h52 : n < 52
  · exact wh_in am_ck10 (by omega) h52
  by_cases h60 : n < 60
  · exact wh_in am_ck11 (by omega) h60
  by_cases h65 : n < 65
  · exact wh_in am_ck12 (by omega) h65
  by_cases h72 : n < 72
  · exact wh_in am_ck13 (by omega) h72
  by_cases h80 : n < 80
  · exact wh_in am_ck14 (by omega) h80
  by_cases h87 : n < 87
  · exact wh_in am_ck15 (by omega) h87
  by_cases h95 : n < 95
  · exact wh_in am_ck16 (by omega) h95
  by_cases h101 : n < 101
  · exact wh_in am_ck17 (by omega) h101
  by_cases h103 : n < 103
  · exact wh_in am_ck18 (by omega) h103
  by_cases h108 : n < 108
  · exact wh_in am_ck19 (by omega) h108
  by_cases h113 : n < 113
  · exact wh_in am_ck20 (by omega) h113
  by_cases h117 : n < 117
  · exact wh_in am_ck21 (by omega) h117
  by_cases h126 : n < 126
  · exact wh_in am_ck22 (by omega) h126
  by_cases h129 : n < 129
  · exact wh_in am_ck23 (by omega) h129
  by_cases h132 : n < 132
  · exact wh_in am_ck24 (by omega) h132
  by_cases h135 : n < 135
  · exact wh_in am_ck25 (by omega) h135
  by_cases h140 : n < 140
  · exact wh_in am_ck26 (by omega) h140
  by_cases h144 : n < 144
  · exact wh_in am_ck27 (by omega) h144
  by_cases h146 : n < 146
  · exact wh_in am_ck28 (by omega) h146
  by_cases h149 : n < 149
  · exact wh_in am_ck29 (by omega) h149
  by_cases h153 : n < 153
  · exact wh_in am_ck30 (by omega) h153
  by_cases h154 : n < 154
  · exact wh_in am_ck31 (by omega) h154
  by_cases h158 : n < 158
  · exact wh_in am_ck32 (by omega) h158
  by_cases h166 : n < 166
  · exact wh_in am_ck33 (by omega) h166
  by_cases h170 : n < 170
  · exact wh_in am_ck34 (by omega) h170
  by_cases h173 : n < 173
  · exact wh_in am_ck35 (by omega) h173
  by_cases h176 : n < 176
  · exact wh_in am_ck36 (by omega) h176
  by_cases h180 : n < 180
  · exact wh_in am_ck37 (by omega) h180
  by_cases h184 : n < 184
  · exact wh_in am_ck38 (by omega) h184
  by_cases h188 : n < 188
  · exact wh_in am_ck39 (by omega) h188
  by_cases h193 : n < 193
  · exact wh_in am_ck40 (by omega) h193
  by_cases h196 : n < 196
  · exact wh_in am_ck41 (by omega) h196
  by_cases h197 : n < 197
  · exact wh_in am_ck42 (by omega) h197
  by_cases h201 : n < 201
  · exact wh_in am_ck43 (by omega) h201
  by_cases h206 : n < 206
  · exact wh_in am_ck44 (by omega) h206
  by_cases h208 : n < 208
  · exact wh_in am_ck45 (by omega) h208
  by_cases h210 : n < 210
  · exact wh_in am_ck46 (by omega) h210
  by_cases h211 : n < 211
  · exact wh_in am_ck47 (by omega) h211
  by_cases h215 : n < 215
  · exact wh_in am_ck48 (by omega) h215
  by_cases h217 : n < 217
  · exact wh_in am_ck49 (by omega) h217
  by_cases h220 : n < 220
  · exact wh_in am_ck50 (by omega) h220
  by_cases h222 : n < 222
  · exact wh_in am_ck51 (by omega) h222
  by_cases h223 : n < 223
  · exact wh_in am_ck52 (by omega) h223
  by_cases h227 : n < 227
  · exact wh_in am_ck53 (by omega) h227
  by_cases h229 : n < 229
  · exact wh_in am_ck54 (by omega) h229
  by_cases h231 : n < 231
  · exact wh_in am_ck55 (by omega) h231
  by_cases h235 : n < 235
  · exact wh_in am_ck56 (by omega) h235
  by_cases h237 : n < 237
  · exact wh_in am_ck57 (by omega) h237
  by_cases h240 : n < 240
  · exact wh_in am_ck58 (by omega) h240
  by_cases h243 : n < 243
  · exact wh_in am_ck59 (by omega) h243
  by_cases h246 : n < 246
  · exact wh_in am_ck60 (by omega) h246
  by_cases h253 : n < 253
  · exact wh_in am_ck61 (by omega) h253
  by_cases h258 : n < 258
  · exact wh_in am_ck62 (by omega) h258
  exact absurd hn h258
theorem wh_okt {mid : Nat} : ∀ (n : Nat) (l : List (Nat × am_E)) (ps : List Nat), am_okl mid (l.take n) (ps.take n) = true → am_okl mid (l.drop n) (ps.drop n) = true → am_okl mid l ps = true
  | 0, l, ps, _, h => by
    rw [List.drop_zero, List.drop_zero] at h
    exact h
  | n + 1, [], ps, _, _ => by simp [am_okl]
  | n + 1, (pc, o) :: l, [], h, _ => by
    rw [List.take_succ_cons, List.take_nil] at h
    simp [am_okl] at h
  | n + 1, (pc, o) :: l, pl :: ps, h, h2 => by
    rw [List.take_succ_cons, List.take_succ_cons] at h
    rw [List.drop_succ_cons, List.drop_succ_cons] at h2
    simp only [am_okl, Bool.and_eq_true] at h ⊢
    exact ⟨h.1, wh_okt n l ps h.2 h2⟩
theorem wh_okd (a b : Nat) (e : b = a + 50) (h1 : am_okl 258 ((am_c258.drop a).take 50) ((am_pl258.drop a).take 50) = true) (h2 : am_okl 258 (am_c258.drop b) (am_pl258.drop b) = true) : am_okl 258 (am_c258.drop a) (am_pl258.drop a) = true := by
  subst e
  refine wh_okt 50 _ _ h1 ?_
  rw [List.drop_drop, List.drop_drop]
  exact h2
theorem wh_k24 : am_okl 258 (am_c258.drop 1200) (am_pl258.drop 1200) = true := by
  rw [List.drop_eq_nil_of_le (as := am_c258) (by decide +kernel)]
  rfl
theorem wh_k23 : am_okl 258 (am_c258.drop 1150) (am_pl258.drop 1150) = true := wh_okd 1150 1200 rfl am_lk23 wh_k24
theorem wh_k22 : am_okl 258 (am_c258.drop 1100) (am_pl258.drop 1100) = true := wh_okd 1100 1150 rfl am_lk22 wh_k23
theorem wh_k21 : am_okl 258 (am_c258.drop 1050) (am_pl258.drop 1050) = true := wh_okd 1050 1100 rfl am_lk21 wh_k22
theorem wh_k20 : am_okl 258 (am_c258.drop 1000) (am_pl258.drop 1000) = true := wh_okd 1000 1050 rfl am_lk20 wh_k21
theorem wh_k19 : am_okl 258 (am_c258.drop 950) (am_pl258.drop 950) = true := wh_okd 950 1000 rfl am_lk19 wh_k20
theorem wh_k18 : am_okl 258 (am_c258.drop 900) (am_pl258.drop 900) = true := wh_okd 900 950 rfl am_lk18 wh_k19
theorem wh_k17 : am_okl 258 (am_c258.drop 850) (am_pl258.drop 850) = true := wh_okd 850 900 rfl am_lk17 wh_k18
theorem wh_k16 : am_okl 258 (am_c258.drop 800) (am_pl258.drop 800) = true := wh_okd 800 850 rfl am_lk16 wh_k17
theorem wh_k15 : am_okl 258 (am_c258.drop 750) (am_pl258.drop 750) = true := wh_okd 750 800 rfl am_lk15 wh_k16
theorem wh_k14 : am_okl 258 (am_c258.drop 700) (am_pl258.drop 700) = true := wh_okd 700 750 rfl am_lk14 wh_k15
theorem wh_k13 : am_okl 258 (am_c258.drop 650) (am_pl258.drop 650) = true := wh_okd 650 700 rfl am_lk13 wh_k14
theorem wh_k12 : am_okl 258 (am_c258.drop 600) (am_pl258.drop 600) = true := wh_okd 600 650 rfl am_lk12 wh_k13
theorem wh_k11 : am_okl 258 (am_c258.drop 550) (am_pl258.drop 550) = true := wh_okd 550 600 rfl am_lk11 wh_k12
theorem wh_k10 : am_okl 258 (am_c258.drop 500) (am_pl258.drop 500) = true := wh_okd 500 550 rfl am_lk10 wh_k11
theorem wh_k9 : am_okl 258 (am_c258.drop 450) (am_pl258.drop 450) = true := wh_okd 450 500 rfl am_lk9 wh_k10
theorem wh_k8 : am_okl 258 (am_c258.drop 400) (am_pl258.drop 400) = true := wh_okd 400 450 rfl am_lk8 wh_k9
theorem wh_k7 : am_okl 258 (am_c258.drop 350) (am_pl258.drop 350) = true := wh_okd 350 400 rfl am_lk7 wh_k8
theorem wh_k6 : am_okl 258 (am_c258.drop 300) (am_pl258.drop 300) = true := wh_okd 300 350 rfl am_lk6 wh_k7
theorem wh_k5 : am_okl 258 (am_c258.drop 250) (am_pl258.drop 250) = true := wh_okd 250 300 rfl am_lk5 wh_k6
theorem wh_k4 : am_okl 258 (am_c258.drop 200) (am_pl258.drop 200) = true := wh_okd 200 250 rfl am_lk4 wh_k5
theorem wh_k3 : am_okl 258 (am_c258.drop 150) (am_pl258.drop 150) = true := wh_okd 150 200 rfl am_lk3 wh_k4
theorem wh_k2 : am_okl 258 (am_c258.drop 100) (am_pl258.drop 100) = true := wh_okd 100 150 rfl am_lk2 wh_k3
theorem wh_k1 : am_okl 258 (am_c258.drop 50) (am_pl258.drop 50) = true := wh_okd 50 100 rfl am_lk1 wh_k2
theorem wh_k0 : am_okl 258 (am_c258.drop 0) (am_pl258.drop 0) = true := wh_okd 0 50 rfl am_lk0 wh_k1
theorem wh_okl : am_okl 258 am_c258 am_pl258 = true := by
  have h := wh_k0
  rw [List.drop_zero, List.drop_zero] at h
  exact h
