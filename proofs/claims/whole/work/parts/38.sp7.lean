/-- a row filled with v up to n -/
def am_fl (I : Nat → Int → Int) (a : Nat) (n v : Int) : Nat → Int → Int := fun k i => if k = a then (if 0 ≤ i ∧ i < n then v else I a i) else I k i
theorem am_fl0 (I : Nat → Int → Int) (a : Nat) (v : Int) : am_fl I a 0 v = I := by
  funext k i
  unfold am_fl
  by_cases h : k = a
  · subst h
    rw [if_pos rfl, if_neg (by omega)]
  · rw [if_neg h]
theorem am_fl1 {I : Nat → Int → Int} {a : Nat} {n v : Int} (h : 0 ≤ n) : am_up (am_fl I a n v) a n v = am_fl I a (n + 1) v := by
  funext k i
  unfold am_up am_fl
  by_cases h1 : k = a
  · subst h1
    simp only [if_true]
    by_cases h2 : i = n
    · rw [if_pos h2, if_pos (by omega)]
    · rw [if_neg h2]
      by_cases h3 : 0 ≤ i ∧ i < n
      · rw [if_pos h3, if_pos (by omega)]
      · rw [if_neg h3, if_neg (by omega)]
  · rw [if_neg h1, if_neg h1, if_neg h1]
theorem lp_jfilll_53 {ro : Nat → Int × (Int → Int)} {d : Nat} {b : Bool} {I L : Nat → Int → Int} {Q : Option am_V → am_H → Prop} {bc bs : Nat} {x1 : Int} (H : Q none (sh b, I, am_fl L 53 12 x1)) : ∀ (n : Nat) (x3 : Int), 0 ≤ x3 → x3 ≤ 12 → 12 - x3 < (n : Int) → am_ex (am_m ro d) ro am_M256 Q (6, [some (am_R 53), some (am_L x1), none, some (am_I x3), some (am_I 12)], [], (sh b, I, am_fl L 53 x3 x1), bc, bs) := by
  intro n
  induction n with
  | zero =>
    intro x3 i0 i1 im
    exact absurd im (by omega)
  | succ n ih =>
    intro x3 i0 i1 im
    refine b_jfilll_53_6  (fun c1 => ?_) (fun c1 => ?_)
    · refine b_jfilll_53_22  ?_
      have e9 : x3 = 12 := by omega
      rw [e9]
      exact H
    · refine b_jfilll_53_12 (by omega) (by omega) ?_
      rw [am_fl1 (by omega)]
      exact ih (x3 + 1) (by omega) (by omega) (by omega)
theorem s_jfilll_53 {ro : Nat → Int × (Int → Int)} {d : Nat} {b : Bool} {I L : Nat → Int → Int} {Q : Option am_V → am_H → Prop} {x1 : Int} (H : Q none (sh b, I, am_fl L 53 12 x1)) : am_m ro (d + 1) 256 [am_R 53, am_L x1] (sh b, I, L) Q := by
  refine am_in rfl rfl rfl rfl ?_
  refine b_jfilll_53_0  ?_
  have k9 := lp_jfilll_53 (ro := ro) (d := d) (bc := 0) (bs := 0) H 13 0 (by omega) (by omega) (by omega)
  rw [am_fl0] at k9
  exact k9
theorem lp_jfilll_54 {ro : Nat → Int × (Int → Int)} {d : Nat} {b : Bool} {I L : Nat → Int → Int} {Q : Option am_V → am_H → Prop} {bc bs : Nat} {x1 : Int} (H : Q none (sh b, I, am_fl L 54 30 x1)) : ∀ (n : Nat) (x3 : Int), 0 ≤ x3 → x3 ≤ 30 → 30 - x3 < (n : Int) → am_ex (am_m ro d) ro am_M256 Q (6, [some (am_R 54), some (am_L x1), none, some (am_I x3), some (am_I 30)], [], (sh b, I, am_fl L 54 x3 x1), bc, bs) := by
  intro n
  induction n with
  | zero =>
    intro x3 i0 i1 im
    exact absurd im (by omega)
  | succ n ih =>
    intro x3 i0 i1 im
    refine b_jfilll_54_6  (fun c1 => ?_) (fun c1 => ?_)
    · refine b_jfilll_54_22  ?_
      have e9 : x3 = 30 := by omega
      rw [e9]
      exact H
    · refine b_jfilll_54_12 (by omega) (by omega) ?_
      rw [am_fl1 (by omega)]
      exact ih (x3 + 1) (by omega) (by omega) (by omega)
theorem s_jfilll_54 {ro : Nat → Int × (Int → Int)} {d : Nat} {b : Bool} {I L : Nat → Int → Int} {Q : Option am_V → am_H → Prop} {x1 : Int} (H : Q none (sh b, I, am_fl L 54 30 x1)) : am_m ro (d + 1) 256 [am_R 54, am_L x1] (sh b, I, L) Q := by
  refine am_in rfl rfl rfl rfl ?_
  refine b_jfilll_54_0  ?_
  have k9 := lp_jfilll_54 (ro := ro) (d := d) (bc := 0) (bs := 0) H 31 0 (by omega) (by omega) (by omega)
  rw [am_fl0] at k9
  exact k9
theorem lp_jfilll_55 {ro : Nat → Int × (Int → Int)} {d : Nat} {b : Bool} {I L : Nat → Int → Int} {Q : Option am_V → am_H → Prop} {bc bs : Nat} {x1 : Int} (H : Q none (sh b, I, am_fl L 55 30 x1)) : ∀ (n : Nat) (x3 : Int), 0 ≤ x3 → x3 ≤ 30 → 30 - x3 < (n : Int) → am_ex (am_m ro d) ro am_M256 Q (6, [some (am_R 55), some (am_L x1), none, some (am_I x3), some (am_I 30)], [], (sh b, I, am_fl L 55 x3 x1), bc, bs) := by
  intro n
  induction n with
  | zero =>
    intro x3 i0 i1 im
    exact absurd im (by omega)
  | succ n ih =>
    intro x3 i0 i1 im
    refine b_jfilll_55_6  (fun c1 => ?_) (fun c1 => ?_)
    · refine b_jfilll_55_22  ?_
      have e9 : x3 = 30 := by omega
      rw [e9]
      exact H
    · refine b_jfilll_55_12 (by omega) (by omega) ?_
      rw [am_fl1 (by omega)]
      exact ih (x3 + 1) (by omega) (by omega) (by omega)
theorem s_jfilll_55 {ro : Nat → Int × (Int → Int)} {d : Nat} {b : Bool} {I L : Nat → Int → Int} {Q : Option am_V → am_H → Prop} {x1 : Int} (H : Q none (sh b, I, am_fl L 55 30 x1)) : am_m ro (d + 1) 256 [am_R 55, am_L x1] (sh b, I, L) Q := by
  refine am_in rfl rfl rfl rfl ?_
  refine b_jfilll_55_0  ?_
  have k9 := lp_jfilll_55 (ro := ro) (d := d) (bc := 0) (bs := 0) H 31 0 (by omega) (by omega) (by omega)
  rw [am_fl0] at k9
  exact k9
theorem lp_jfilll_57 {ro : Nat → Int × (Int → Int)} {d : Nat} {b : Bool} {I L : Nat → Int → Int} {Q : Option am_V → am_H → Prop} {bc bs : Nat} {x1 : Int} (H : Q none (sh b, I, am_fl L 57 30 x1)) : ∀ (n : Nat) (x3 : Int), 0 ≤ x3 → x3 ≤ 30 → 30 - x3 < (n : Int) → am_ex (am_m ro d) ro am_M256 Q (6, [some (am_R 57), some (am_L x1), none, some (am_I x3), some (am_I 30)], [], (sh b, I, am_fl L 57 x3 x1), bc, bs) := by
  intro n
  induction n with
  | zero =>
    intro x3 i0 i1 im
    exact absurd im (by omega)
  | succ n ih =>
    intro x3 i0 i1 im
    refine b_jfilll_57_6  (fun c1 => ?_) (fun c1 => ?_)
    · refine b_jfilll_57_22  ?_
      have e9 : x3 = 30 := by omega
      rw [e9]
      exact H
    · refine b_jfilll_57_12 (by omega) (by omega) ?_
      rw [am_fl1 (by omega)]
      exact ih (x3 + 1) (by omega) (by omega) (by omega)
theorem s_jfilll_57 {ro : Nat → Int × (Int → Int)} {d : Nat} {b : Bool} {I L : Nat → Int → Int} {Q : Option am_V → am_H → Prop} {x1 : Int} (H : Q none (sh b, I, am_fl L 57 30 x1)) : am_m ro (d + 1) 256 [am_R 57, am_L x1] (sh b, I, L) Q := by
  refine am_in rfl rfl rfl rfl ?_
  refine b_jfilll_57_0  ?_
  have k9 := lp_jfilll_57 (ro := ro) (d := d) (bc := 0) (bs := 0) H 31 0 (by omega) (by omega) (by omega)
  rw [am_fl0] at k9
  exact k9
theorem lp_jfilll_60 {ro : Nat → Int × (Int → Int)} {d : Nat} {b : Bool} {I L : Nat → Int → Int} {Q : Option am_V → am_H → Prop} {bc bs : Nat} {x1 : Int} (H : Q none (sh b, I, am_fl L 60 20 x1)) : ∀ (n : Nat) (x3 : Int), 0 ≤ x3 → x3 ≤ 20 → 20 - x3 < (n : Int) → am_ex (am_m ro d) ro am_M256 Q (6, [some (am_R 60), some (am_L x1), none, some (am_I x3), some (am_I 20)], [], (sh b, I, am_fl L 60 x3 x1), bc, bs) := by
  intro n
  induction n with
  | zero =>
    intro x3 i0 i1 im
    exact absurd im (by omega)
  | succ n ih =>
    intro x3 i0 i1 im
    refine b_jfilll_60_6  (fun c1 => ?_) (fun c1 => ?_)
    · refine b_jfilll_60_22  ?_
      have e9 : x3 = 20 := by omega
      rw [e9]
      exact H
    · refine b_jfilll_60_12 (by omega) (by omega) ?_
      rw [am_fl1 (by omega)]
      exact ih (x3 + 1) (by omega) (by omega) (by omega)
theorem s_jfilll_60 {ro : Nat → Int × (Int → Int)} {d : Nat} {b : Bool} {I L : Nat → Int → Int} {Q : Option am_V → am_H → Prop} {x1 : Int} (H : Q none (sh b, I, am_fl L 60 20 x1)) : am_m ro (d + 1) 256 [am_R 60, am_L x1] (sh b, I, L) Q := by
  refine am_in rfl rfl rfl rfl ?_
  refine b_jfilll_60_0  ?_
  have k9 := lp_jfilll_60 (ro := ro) (d := d) (bc := 0) (bs := 0) H 21 0 (by omega) (by omega) (by omega)
  rw [am_fl0] at k9
  exact k9
theorem lp_jfilli_5 {ro : Nat → Int × (Int → Int)} {d : Nat} {b : Bool} {I L : Nat → Int → Int} {Q : Option am_V → am_H → Prop} {bc bs : Nat} {x1 : Int} (H : Q none (sh b, am_fl I 5 4 x1, L)) : ∀ (n : Nat) (x2 : Int), 0 ≤ x2 → x2 ≤ 4 → 4 - x2 < (n : Int) → am_ex (am_m ro d) ro am_M257 Q (5, [some (am_R 5), some (am_I x1), some (am_I x2), some (am_I 4)], [], (sh b, am_fl I 5 x2 x1, L), bc, bs) := by
  intro n
  induction n with
  | zero =>
    intro x2 i0 i1 im
    exact absurd im (by omega)
  | succ n ih =>
    intro x2 i0 i1 im
    refine b_jfilli_5_5  (fun c1 => ?_) (fun c1 => ?_)
    · refine b_jfilli_5_20  ?_
      have e9 : x2 = 4 := by omega
      rw [e9]
      exact H
    · refine b_jfilli_5_10 (by omega) (by omega) ?_
      rw [am_fl1 (by omega)]
      exact ih (x2 + 1) (by omega) (by omega) (by omega)
theorem s_jfilli_5 {ro : Nat → Int × (Int → Int)} {d : Nat} {b : Bool} {I L : Nat → Int → Int} {Q : Option am_V → am_H → Prop} {x1 : Int} (H : Q none (sh b, am_fl I 5 4 x1, L)) : am_m ro (d + 1) 257 [am_R 5, am_I x1] (sh b, I, L) Q := by
  refine am_in rfl rfl rfl rfl ?_
  refine b_jfilli_5_0  ?_
  have k9 := lp_jfilli_5 (ro := ro) (d := d) (bc := 0) (bs := 0) H 5 0 (by omega) (by omega) (by omega)
  rw [am_fl0] at k9
  exact k9
theorem lp_jfilli_52 {ro : Nat → Int × (Int → Int)} {d : Nat} {b : Bool} {I L : Nat → Int → Int} {Q : Option am_V → am_H → Prop} {bc bs : Nat} {x1 : Int} (H : Q none (sh b, am_fl I 52 360 x1, L)) : ∀ (n : Nat) (x2 : Int), 0 ≤ x2 → x2 ≤ 360 → 360 - x2 < (n : Int) → am_ex (am_m ro d) ro am_M257 Q (5, [some (am_R 52), some (am_I x1), some (am_I x2), some (am_I 360)], [], (sh b, am_fl I 52 x2 x1, L), bc, bs) := by
  intro n
  induction n with
  | zero =>
    intro x2 i0 i1 im
    exact absurd im (by omega)
  | succ n ih =>
    intro x2 i0 i1 im
    refine b_jfilli_52_5  (fun c1 => ?_) (fun c1 => ?_)
    · refine b_jfilli_52_20  ?_
      have e9 : x2 = 360 := by omega
      rw [e9]
      exact H
    · refine b_jfilli_52_10 (by omega) (by omega) ?_
      rw [am_fl1 (by omega)]
      exact ih (x2 + 1) (by omega) (by omega) (by omega)
theorem s_jfilli_52 {ro : Nat → Int × (Int → Int)} {d : Nat} {b : Bool} {I L : Nat → Int → Int} {Q : Option am_V → am_H → Prop} {x1 : Int} (H : Q none (sh b, am_fl I 52 360 x1, L)) : am_m ro (d + 1) 257 [am_R 52, am_I x1] (sh b, I, L) Q := by
  refine am_in rfl rfl rfl rfl ?_
  refine b_jfilli_52_0  ?_
  have k9 := lp_jfilli_52 (ro := ro) (d := d) (bc := 0) (bs := 0) H 361 0 (by omega) (by omega) (by omega)
  rw [am_fl0] at k9
  exact k9
theorem lp_jfilli_59 {ro : Nat → Int × (Int → Int)} {d : Nat} {b : Bool} {I L : Nat → Int → Int} {Q : Option am_V → am_H → Prop} {bc bs : Nat} {x1 : Int} (H : Q none (sh b, am_fl I 59 10 x1, L)) : ∀ (n : Nat) (x2 : Int), 0 ≤ x2 → x2 ≤ 10 → 10 - x2 < (n : Int) → am_ex (am_m ro d) ro am_M257 Q (5, [some (am_R 59), some (am_I x1), some (am_I x2), some (am_I 10)], [], (sh b, am_fl I 59 x2 x1, L), bc, bs) := by
  intro n
  induction n with
  | zero =>
    intro x2 i0 i1 im
    exact absurd im (by omega)
  | succ n ih =>
    intro x2 i0 i1 im
    refine b_jfilli_59_5  (fun c1 => ?_) (fun c1 => ?_)
    · refine b_jfilli_59_20  ?_
      have e9 : x2 = 10 := by omega
      rw [e9]
      exact H
    · refine b_jfilli_59_10 (by omega) (by omega) ?_
      rw [am_fl1 (by omega)]
      exact ih (x2 + 1) (by omega) (by omega) (by omega)
theorem s_jfilli_59 {ro : Nat → Int × (Int → Int)} {d : Nat} {b : Bool} {I L : Nat → Int → Int} {Q : Option am_V → am_H → Prop} {x1 : Int} (H : Q none (sh b, am_fl I 59 10 x1, L)) : am_m ro (d + 1) 257 [am_R 59, am_I x1] (sh b, I, L) Q := by
  refine am_in rfl rfl rfl rfl ?_
  refine b_jfilli_59_0  ?_
  have k9 := lp_jfilli_59 (ro := ro) (d := d) (bc := 0) (bs := 0) H 11 0 (by omega) (by omega) (by omega)
  rw [am_fl0] at k9
  exact k9
theorem lp_jfilli_64 {ro : Nat → Int × (Int → Int)} {d : Nat} {b : Bool} {I L : Nat → Int → Int} {Q : Option am_V → am_H → Prop} {bc bs : Nat} {x1 : Int} (H : Q none (sh b, am_fl I 64 12 x1, L)) : ∀ (n : Nat) (x2 : Int), 0 ≤ x2 → x2 ≤ 12 → 12 - x2 < (n : Int) → am_ex (am_m ro d) ro am_M257 Q (5, [some (am_R 64), some (am_I x1), some (am_I x2), some (am_I 12)], [], (sh b, am_fl I 64 x2 x1, L), bc, bs) := by
  intro n
  induction n with
  | zero =>
    intro x2 i0 i1 im
    exact absurd im (by omega)
  | succ n ih =>
    intro x2 i0 i1 im
    refine b_jfilli_64_5  (fun c1 => ?_) (fun c1 => ?_)
    · refine b_jfilli_64_20  ?_
      have e9 : x2 = 12 := by omega
      rw [e9]
      exact H
    · refine b_jfilli_64_10 (by omega) (by omega) ?_
      rw [am_fl1 (by omega)]
      exact ih (x2 + 1) (by omega) (by omega) (by omega)
theorem s_jfilli_64 {ro : Nat → Int × (Int → Int)} {d : Nat} {b : Bool} {I L : Nat → Int → Int} {Q : Option am_V → am_H → Prop} {x1 : Int} (H : Q none (sh b, am_fl I 64 12 x1, L)) : am_m ro (d + 1) 257 [am_R 64, am_I x1] (sh b, I, L) Q := by
  refine am_in rfl rfl rfl rfl ?_
  refine b_jfilli_64_0  ?_
  have k9 := lp_jfilli_64 (ro := ro) (d := d) (bc := 0) (bs := 0) H 13 0 (by omega) (by omega) (by omega)
  rw [am_fl0] at k9
  exact k9
theorem o_P_lay {ro : Nat → Int × (Int → Int)} {d : Nat} {b : Bool} {I L : Nat → Int → Int} {Q : Option am_V → am_H → Prop} {x1 : Int} (H1 : x1 < 0 → Q (some (am_I (-4))) (sh b, rfC I (-4), L)) (H2 : 12 < x1 → Q (some (am_I (-7))) (sh b, rfC I (-7), L)) (H3 : 0 ≤ x1 ∧ x1 ≤ 12 → Q (some (am_I x1)) (sh b, am_up (am_fl I 64 12 0) 0 6 x1, L)) : am_m ro (d + 2) 39 [am_R 0, am_I x1] (sh b, I, L) Q := by
  refine am_in rfl rfl rfl rfl ?_
  refine b_P_lay_0  (fun c1 => ?_) (fun c1 => ?_)
  · refine b_P_lay_11  (fun c2 => ?_) (fun c2 => ?_)
    · refine b_P_lay_24  (s_jfilli_64 ?_)
      refine b_P_lay_32  ?_
      first | exact H1 (by omega) | exact H2 (by omega) | exact H3 (by omega)
    · refine b_P_lay_17  (s_P_refuse (by omega) ?_)
      refine b_P_lay_23  ?_
      first | exact H1 (by omega) | exact H2 (by omega) | exact H3 (by omega)
  · refine b_P_lay_4  (s_P_refuse (by omega) ?_)
    refine b_P_lay_10  ?_
    first | exact H1 (by omega) | exact H2 (by omega) | exact H3 (by omega)
theorem lp_M_lay {ro : Nat → Int × (Int → Int)} {d : Nat} {b : Bool} {I L : Nat → Int → Int} {Q : Option am_V → am_H → Prop} {bc bs : Nat} {x1 : Int} (H : Q (some (am_I x1)) (sh b, am_fl I 74 12 0, L)) : ∀ (n : Nat) (x2 : Int), 0 ≤ x2 → x2 ≤ 12 → 12 - x2 < (n : Int) → am_ex (am_m ro d) ro am_M249 Q (31, [some (am_R 66), some (am_I x1), some (am_I x2)], [], (sh b, am_fl I 74 x2 0, L), bc, bs) := by
  intro n
  induction n with
  | zero =>
    intro x2 i0 i1 im
    exact absurd im (by omega)
  | succ n ih =>
    intro x2 i0 i1 im
    refine b_M_lay_31  (fun c1 => ?_) (fun c1 => ?_)
    · refine b_M_lay_50  ?_
      have e9 : x2 = 12 := by omega
      rw [e9]
      exact H
    · refine b_M_lay_37 (by omega) (by omega) ?_
      rw [am_fl1 (by omega)]
      exact ih (x2 + 1) (by omega) (by omega) (by omega)
theorem o_M_lay {ro : Nat → Int × (Int → Int)} {d : Nat} {b : Bool} {I L : Nat → Int → Int} {Q : Option am_V → am_H → Prop} {x1 : Int} (H1 : x1 < 0 → Q (some (am_I (-4))) (sh b, rfM I (-4), L)) (H2 : 12 < x1 → Q (some (am_I (-7))) (sh b, rfM I (-7), L)) (H3 : 0 ≤ x1 ∧ x1 ≤ 12 → Q (some (am_I x1)) (sh b, am_fl (am_up I 66 9 x1) 74 12 0, L)) : am_m ro (d + 2) 249 [am_R 66, am_I x1] (sh b, I, L) Q := by
  refine am_in rfl rfl rfl rfl ?_
  refine b_M_lay_0  (fun c1 => ?_) (fun c1 => ?_)
  · refine b_M_lay_11  (fun c2 => ?_) (fun c2 => ?_)
    · refine b_M_lay_24  ?_
      have k9 := lp_M_lay (ro := ro) (d := d + 1) (bc := 0) (bs := 0) (H3 (by omega)) 13 0 (by omega) (by omega) (by omega)
      rw [am_fl0] at k9
      exact k9
    · refine b_M_lay_17  (s_M_refuse (by omega) ?_)
      refine b_M_lay_23  ?_
      first | exact H1 (by omega) | exact H2 (by omega) | exact H3 (by omega)
  · refine b_M_lay_4  (s_M_refuse (by omega) ?_)
    refine b_M_lay_10  ?_
    first | exact H1 (by omega) | exact H2 (by omega) | exact H3 (by omega)
set_option maxHeartbeats 400000 in
theorem A_lay {ro : Nat → Int × (Int → Int)} {d : Nat} {b : Bool} {I L : Nat → Int → Int} {x1 : Int} (hI : Inv b I L) : am_m ro (d + 2) 39 [am_R 0, am_I x1] (sh b, I, L) (fun r h => am_m ro (d + 2) 249 [am_R 66, am_I x1] h (fun r2 h2 => Pair r r2 h2)) := by
  obtain ⟨⟨lo, ll, le, ld, lp, ls, lr, ly, lu, lq⟩, hk, hr, ht, hf, hcn⟩ := id hI
  have hr1 := hr.1
  have hr2 := hr.2.1
  have hr3 := hr.2.2.1
  have lo1 := lo.1
  have lo2 := lo.2
  have ll1 := ll.1
  have ll2 := ll.2.1
  have ll3 := ll.2.2.1
  have ld1 := ld.1
  have ld2 := ld.2.1
  have ld3 := ld.2.2.1
  have lp1 := lp.1
  have lp2 := lp.2.1
  have lp3 := lp.2.2.1
  have ls1 := ls.1
  have ls2 := ls.2.1
  have ls3 := ls.2.2.1
  refine o_P_lay  (fun a => ?_) (fun a => ?_) (fun a => ?_)
  all_goals refine o_M_lay  (fun a2 => ?_) (fun a2 => ?_) (fun a2 => ?_)
  all_goals first
    | (exfalso; omega)
    | exact Pair_rf hI
    | exact ⟨_, b, _, L, rfl, rfl, rfl, Inv_row hI (by intro k q1 q2 q3 q4; clear hI lo ll le ld lp ls lr ly lu lq hk hr ht hf hcn; funext j; simp only [am_fl, am_up, q1, q2, q3, q4, if_false]) (by intro j q; clear hI lo ll le ld lp ls lr ly lu lq hk hr ht hf hcn; grind [am_up, am_fl]) (by obtain ⟨w1, w2, w3, w4⟩ := hr; refine ⟨by clear w4 hI lo ll le ld lp ls lr ly lu lq hk ht hf hcn; grind [am_up, am_fl], by clear w4 hI lo ll le ld lp ls lr ly lu lq hk ht hf hcn; grind [am_up, am_fl], by clear w4 hI lo ll le ld lp ls lr ly lu lq hk ht hf hcn; grind [am_up, am_fl], fun k a1 a3 => by clear w4 hI lo ll le ld lp ls lr ly lu lq hk ht hf hcn; grind [am_up, am_fl]⟩)⟩
