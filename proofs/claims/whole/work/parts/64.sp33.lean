def nmN (y : Int) : Int → Int := fun c => if c = 3 then y else 0
def nmS (p E : Int → Int) (y s : Int) : Int → Int := fun c => if c = 0 then p (1020 + s) else if c = 1 then p (280 + p (900 + s)) else if c = 2 then p (420 + p (960 + s)) else if c = 3 then y else if c = 4 then (if p (460 + p (960 + s)) = -100 ∨ y ≤ p (460 + p (960 + s)) then 0 else y - p (460 + p (960 + s))) else if c = 5 then p (1140 + s) else if c = 6 then p (1080 + s) else if c = 7 then p (340 + p (900 + s)) else if c = 8 then p (310 + p (900 + s)) else E (p (900 + s))
theorem nmS_cg {p E E' : Int → Int} {y s : Int} (h : E (p (900 + s)) = E' (p (900 + s))) : nmS p E y s = nmS p E' y s := by
  funext c
  unfold nmS
  rw [h]
def nmF (p E : Int → Int) (key y s : Int) : Int → Int := if key < 3 ∧ 0 ≤ s then nmS p E y s else nmN y
theorem c10 {P : Int → Prop} (h0 : P 0) (h1 : P 1) (h2 : P 2) (h3 : P 3) (h4 : P 4) (h5 : P 5) (h6 : P 6) (h7 : P 7) (h8 : P 8) (h9 : P 9) : ∀ c, 0 ≤ c → c < 10 → P c := by
  intro c c1 c2
  have e : c = 0 ∨ c = 1 ∨ c = 2 ∨ c = 3 ∨ c = 4 ∨ c = 5 ∨ c = 6 ∨ c = 7 ∨ c = 8 ∨ c = 9 := by omega
  rcases e with e | e | e | e | e | e | e | e | e | e <;> subst e <;> assumption
theorem s_Peo_yearsDead {ro : Nat → Int × (Int → Int)} {d : Nat} {b : Bool} {I L : Nat → Int → Int} {Q : Option am_V → am_H → Prop} {x1 x2 : Int} (hx : (0 ≤ x1 ∧ x1 < 20) ∧ (0 ≤ x2 ∧ x2 ≤ 40) ∧ -100 ≤ I 19 x1 ∧ I 19 x1 ≤ 40) (H : Q (some (am_I (if I 19 x1 = -100 then 0 else max 0 (x2 - I 19 x1)))) (sh b, I, L)) : am_m ro (d + 1) 86 [am_R 15, am_I x1, am_I x2] (sh b, I, L) Q := by
  refine am_in rfl rfl rfl rfl ?_
  refine b_Peo_yearsDead_0 (by omega) (fun c1 => ?_) (fun c1 => ?_)
  · refine b_Peo_yearsDead_15 (by omega) (by omega) ?_
    refine b_Peo_yearsDead_27  ?_
    first | rw [if_pos (by omega)] at H | rw [if_neg (by omega)] at H
    exact H
  · refine b_Peo_yearsDead_11  ?_
    refine b_Peo_yearsDead_27  ?_
    first | rw [if_pos (by omega)] at H | rw [if_neg (by omega)] at H
    exact H
theorem s_Pay_nameNone {ro : Nat → Int × (Int → Int)} {d : Nat} {b : Bool} {I L : Nat → Int → Int} {Q : Option am_V → am_H → Prop} {x1 : Int} (H : ∀ I' : Nat → Int → Int, (∀ k, k ≠ 59 → I' k = I k) → (∀ c, 0 ≤ c → c < 10 → I' 59 c = nmN x1 c) → Q none (sh b, I', L)) : am_m ro (d + 2) 140 [am_R 58, am_I x1] (sh b, I, L) Q := by
  refine am_in rfl rfl rfl rfl ?_
  refine b_Pay_nameNone_0  (s_jfilli_59 ?_)
  refine b_Pay_nameNone_8  ?_
  refine H _ (fun k hk => by rw [upn hk, fl_n hk]) (fun c c1 c2 => ?_)
  unfold nmN
  by_cases ec : c = 3
  · rw [ec, ups, if_pos rfl]
  · rw [upo ec, fl_i (by omega), if_neg ec]
set_option maxHeartbeats 1000000 in
theorem s_Pay_nameShare {ro : Nat → Int × (Int → Int)} {d : Nat} {b : Bool} {I L : Nat → Int → Int} {Q : Option am_V → am_H → Prop} {x1 x2 : Int} (hC : Cor I L) (hx : (0 ≤ x1 ∧ x1 < I 67 4) ∧ 0 ≤ x2 ∧ x2 ≤ 40) (hr : am_r (L 57 (I 67 (900 + x1)))) (H : ∀ I' : Nat → Int → Int, (∀ k, k ≠ 59 → I' k = I k) → (∀ c, 0 ≤ c → c < 10 → I' 59 c = nmS (I 67) (L 57) x2 x1 c) → Q none (sh b, I', L)) : am_m ro (d + 2) 141 [am_R 58, am_I x1, am_I x2] (sh b, I, L) Q := by
  have ct := Cor_ct hC
  have s4 := hC.1.2.2.2.2.2.1.2.2.2.1 x1 (by omega) (by omega)
  have s5 := hC.1.2.2.2.2.2.1.2.2.2.2 x1 (by omega) (by omega)
  have d4 := hC.1.2.2.2.1.2.2.2.1 (I 67 (900 + x1)) (by omega) (by omega)
  have p4 := hC.1.2.2.2.2.1.2.2.2.1 (I 67 (960 + x1)) (by omega) (by omega)
  have p5 := hC.1.2.2.2.2.1.2.2.2.2.1 (I 67 (960 + x1)) (by omega) (by omega)
  have e23 : I 23 x1 = I 67 (900 + x1) := s4.1
  have e24 : I 24 x1 = I 67 (960 + x1) := s4.2.1
  have e19 : I 19 (I 24 x1) = I 67 (460 + I 67 (960 + x1)) := by rw [e24]; exact p4.2.2.2.1
  have e11 : I 11 (I 23 x1) = I 67 (280 + I 67 (900 + x1)) := by rw [e23]; exact d4.1
  have e17 : I 17 (I 24 x1) = I 67 (420 + I 67 (960 + x1)) := by rw [e24]; exact p4.2.1
  have e13 : I 13 (I 23 x1) = I 67 (340 + I 67 (900 + x1)) := by rw [e23]; exact d4.2.2.1
  have e12 : I 12 (I 23 x1) = I 67 (310 + I 67 (900 + x1)) := by rw [e23]; exact d4.2.1
  have eL : L 57 (I 23 x1) = L 57 (I 67 (900 + x1)) := by rw [e23]
  refine am_in rfl rfl rfl rfl ?_
  refine b_Pay_nameShare_0 (by (try simp (disch := omega) only [upo, upm, ups]); omega) (by (try simp (disch := omega) only [upo, upm, ups]); omega) (by (try simp (disch := omega) only [upo, upm, ups]); omega) (by (try simp (disch := omega) only [upo, upm, ups]); omega) (by (try simp (disch := omega) only [upo, upm, ups]); omega) (s_Peo_yearsDead (by (try simp (disch := omega) only [upo, upm, ups]); omega) ?_)
  have hr9 : am_r (L 57 (I 23 x1)) := by rw [eL]; exact hr
  refine b_Pay_nameShare_107 (by (try simp (disch := omega) only [upo, upm, ups]); omega) (by (try simp (disch := omega) only [upo, upm, ups]); omega) (by (try simp (disch := omega) only [upo, upm, ups]); omega) (by (try simp (disch := omega) only [upo, upm, ups]); omega) (by (try simp (disch := omega) only [upo, upm, ups]); omega) (by (try simp (disch := omega) only [upo, upm, ups]); omega) (by (try simp (disch := omega) only [upo, upm, ups]); omega) ?_
  simp (disch := omega) only [upo, upm, ups]
  refine H _ (fun k hk => by rw [upn hk, upn hk, upn hk, upn hk, upn hk, upn hk, upn hk, upn hk, upn hk, upn hk]) (c10 ?_ ?_ ?_ ?_ ?_ ?_ ?_ ?_ ?_ ?_)
  · simp (disch := omega) only [upo, upm, ups]
    exact s4.2.2.1
  · simp (disch := omega) only [upo, upm, ups]
    exact e11
  · simp (disch := omega) only [upo, upm, ups]
    exact e17
  · simp (disch := omega) only [upo, upm, ups]
    rfl
  · simp (disch := omega) only [upo, upm, ups]
    show _ = (if I 67 (460 + I 67 (960 + x1)) = -100 ∨ x2 ≤ I 67 (460 + I 67 (960 + x1)) then 0 else x2 - I 67 (460 + I 67 (960 + x1)))
    rw [e19]
    split <;> split <;> omega
  · simp (disch := omega) only [upo, upm, ups]
    exact s4.2.2.2.2
  · simp (disch := omega) only [upo, upm, ups]
    exact s4.2.2.2.1
  · simp (disch := omega) only [upo, upm, ups]
    exact e13
  · simp (disch := omega) only [upo, upm, ups]
    exact e12
  · simp (disch := omega) only [upo, upm, ups]
    exact eL
