theorem s_jbits {ro : Nat → Int × (Int → Int)} {d : Nat} {b : Bool} {I L : Nat → Int → Int} {Q : Option am_V → am_H → Prop} {x0 : Int} (H : Q (some (am_I (jb x0))) (sh b, I, L)) : am_m ro (d + 1) 255 [am_I x0] (sh b, I, L) Q := by
  refine am_in rfl rfl rfl rfl ?_
  refine b_jbits_0  ?_
  exact H
theorem lp_M_ownOf {ro : Nat → Int × (Int → Int)} {d : Nat} {b : Bool} {I L : Nat → Int → Int} {Q : Option am_V → am_H → Prop} {bc bs : Nat} {x1 x2 : Int} (hx : 0 ≤ x1 ∧ x1 ≤ 4000) (h2 : 0 ≤ x2 ∧ x2 ≤ 30) (H : Q (some (am_I (sm (fun k => if I 67 (x1 + k) = k then 1 else 0) (x2).toNat))) (sh b, I, L)) : ∀ (n : Nat) (x3 x4 : Int), (0 ≤ x4) → (x4 ≤ x2) → (x3 = sm (fun k => if I 67 (x1 + k) = k then 1 else 0) x4.toNat) → (0 ≤ x3 ∧ x3 ≤ 1 * x4) → x2 - x4 < (n : Int) → am_ex (am_m ro (d + 0)) ro am_M245 Q (5, [some (am_R 66), some (am_I x1), some (am_I x2), some (am_I x3), some (am_I x4)], [], (sh b, I, L), bc, bs) := by
  intro n
  induction n with
  | zero =>
    intro x3 x4 i0 i1 i2 i3 im
    exact absurd im (by omega)
  | succ n ih =>
    intro x3 x4 i0 i1 i2 i3 im
    refine b_M_ownOf_5  (fun c1 => ?_) (fun c1 => ?_)
    · refine b_M_ownOf_39  ?_
      have e9 : x4 = x2 := by omega
      rw [i2, e9]
      exact H
    · refine b_M_ownOf_11 (by omega) (by omega) (fun c2 => ?_) (fun c2 => ?_)
      · refine b_M_ownOf_30  ?_
        refine b_M_ownOf_31 (by omega) (by omega) ?_
        exact ih (x3 + 0) (x4 + 1) (by omega) (by omega) (by rw [sm_step (by omega), ← i2]; grind) (by omega) (by omega)
      · refine b_M_ownOf_26  ?_
        refine b_M_ownOf_31 (by omega) (by omega) ?_
        exact ih (x3 + 1) (x4 + 1) (by omega) (by omega) (by rw [sm_step (by omega), ← i2]; grind) (by omega) (by omega)
theorem s_M_ownOf {ro : Nat → Int × (Int → Int)} {d : Nat} {b : Bool} {I L : Nat → Int → Int} {Q : Option am_V → am_H → Prop} {x1 x2 : Int} (hx : 0 ≤ x1 ∧ x1 ≤ 4000) (h2 : 0 ≤ x2 ∧ x2 ≤ 30) (H : Q (some (am_I (sm (fun k => if I 67 (x1 + k) = k then 1 else 0) (x2).toNat))) (sh b, I, L)) : am_m ro (d + 1) 245 [am_R 66, am_I x1, am_I x2] (sh b, I, L) Q := by
  refine am_in rfl rfl rfl rfl ?_
  refine b_M_ownOf_0  ?_
  exact lp_M_ownOf (d := d) hx h2 H ((x2).toNat + 1) _ _ (by omega) (by omega) rfl (by omega) (by omega)
theorem lp_P_heads_14 {ro : Nat → Int × (Int → Int)} {d : Nat} {b : Bool} {I L : Nat → Int → Int} {Q : Option am_V → am_H → Prop} {bc bs : Nat} {x1 : Int} (h2 : 0 ≤ x1 ∧ x1 ≤ 30) (H : Q (some (am_I (sm (fun k => if I 14 k = k then 1 else 0) (x1).toNat))) (sh b, I, L)) : ∀ (n : Nat) (x2 x3 : Int), (0 ≤ x3) → (x3 ≤ x1) → (x2 = sm (fun k => if I 14 k = k then 1 else 0) x3.toNat) → (0 ≤ x2 ∧ x2 ≤ 1 * x3) → x1 - x3 < (n : Int) → am_ex (am_m ro (d + 0)) ro am_M59 Q (4, [some (am_R 14), some (am_I x1), some (am_I x2), some (am_I x3)], [], (sh b, I, L), bc, bs) := by
  intro n
  induction n with
  | zero =>
    intro x2 x3 i0 i1 i2 i3 im
    exact absurd im (by omega)
  | succ n ih =>
    intro x2 x3 i0 i1 i2 i3 im
    refine b_P_heads_14_4  (fun c1 => ?_) (fun c1 => ?_)
    · refine b_P_heads_14_25  ?_
      have e9 : x3 = x1 := by omega
      rw [i2, e9]
      exact H
    · refine b_P_heads_14_9 (by omega) (fun c2 => ?_) (fun c2 => ?_)
      · refine b_P_heads_14_19 (by omega) ?_
        exact ih x2 (x3 + 1) (by omega) (by omega) (by rw [sm_step (by omega), ← i2]; grind) (by omega) (by omega)
      · refine b_P_heads_14_16 (by omega) ?_
        refine b_P_heads_14_19 (by omega) ?_
        exact ih ((x2 + 1)) (x3 + 1) (by omega) (by omega) (by rw [sm_step (by omega), ← i2]; grind) (by omega) (by omega)
theorem s_P_heads_14 {ro : Nat → Int × (Int → Int)} {d : Nat} {b : Bool} {I L : Nat → Int → Int} {Q : Option am_V → am_H → Prop} {x1 : Int} (h2 : 0 ≤ x1 ∧ x1 ≤ 30) (H : Q (some (am_I (sm (fun k => if I 14 k = k then 1 else 0) (x1).toNat))) (sh b, I, L)) : am_m ro (d + 1) 59 [am_R 14, am_I x1] (sh b, I, L) Q := by
  refine am_in rfl rfl rfl rfl ?_
  refine b_P_heads_14_0  ?_
  exact lp_P_heads_14 (d := d) h2 H ((x1).toNat + 1) _ _ (by omega) (by omega) rfl (by omega) (by omega)
theorem lp_P_heads_20 {ro : Nat → Int × (Int → Int)} {d : Nat} {b : Bool} {I L : Nat → Int → Int} {Q : Option am_V → am_H → Prop} {bc bs : Nat} {x1 : Int} (h2 : 0 ≤ x1 ∧ x1 ≤ 20) (H : Q (some (am_I (sm (fun k => if I 20 k = k then 1 else 0) (x1).toNat))) (sh b, I, L)) : ∀ (n : Nat) (x2 x3 : Int), (0 ≤ x3) → (x3 ≤ x1) → (x2 = sm (fun k => if I 20 k = k then 1 else 0) x3.toNat) → (0 ≤ x2 ∧ x2 ≤ 1 * x3) → x1 - x3 < (n : Int) → am_ex (am_m ro (d + 0)) ro am_M59 Q (4, [some (am_R 20), some (am_I x1), some (am_I x2), some (am_I x3)], [], (sh b, I, L), bc, bs) := by
  intro n
  induction n with
  | zero =>
    intro x2 x3 i0 i1 i2 i3 im
    exact absurd im (by omega)
  | succ n ih =>
    intro x2 x3 i0 i1 i2 i3 im
    refine b_P_heads_20_4  (fun c1 => ?_) (fun c1 => ?_)
    · refine b_P_heads_20_25  ?_
      have e9 : x3 = x1 := by omega
      rw [i2, e9]
      exact H
    · refine b_P_heads_20_9 (by omega) (fun c2 => ?_) (fun c2 => ?_)
      · refine b_P_heads_20_19 (by omega) ?_
        exact ih x2 (x3 + 1) (by omega) (by omega) (by rw [sm_step (by omega), ← i2]; grind) (by omega) (by omega)
      · refine b_P_heads_20_16 (by omega) ?_
        refine b_P_heads_20_19 (by omega) ?_
        exact ih ((x2 + 1)) (x3 + 1) (by omega) (by omega) (by rw [sm_step (by omega), ← i2]; grind) (by omega) (by omega)
theorem s_P_heads_20 {ro : Nat → Int × (Int → Int)} {d : Nat} {b : Bool} {I L : Nat → Int → Int} {Q : Option am_V → am_H → Prop} {x1 : Int} (h2 : 0 ≤ x1 ∧ x1 ≤ 20) (H : Q (some (am_I (sm (fun k => if I 20 k = k then 1 else 0) (x1).toNat))) (sh b, I, L)) : am_m ro (d + 1) 59 [am_R 20, am_I x1] (sh b, I, L) Q := by
  refine am_in rfl rfl rfl rfl ?_
  refine b_P_heads_20_0  ?_
  exact lp_P_heads_20 (d := d) h2 H ((x1).toNat + 1) _ _ (by omega) (by omega) rfl (by omega) (by omega)
theorem lp_M_many {ro : Nat → Int × (Int → Int)} {d : Nat} {b : Bool} {I L : Nat → Int → Int} {Q : Option am_V → am_H → Prop} {bc bs : Nat} {x1 : Int} (hx : 0 ≤ x1 ∧ x1 < 4096) (H : Q (some (am_I (sm (fun l => bt x1 l) 12))) (sh b, I, L)) : ∀ (n : Nat) (x2 x3 : Int), (0 ≤ x3) → (x3 ≤ 12) → (x2 = sm (fun l => bt x1 l) x3.toNat) → (0 ≤ x2 ∧ x2 ≤ x3) → 12 - x3 < (n : Int) → am_ex (am_m ro (d + 0)) ro am_M236 Q (4, [none, some (am_I x1), some (am_I x2), some (am_I x3)], [], (sh b, I, L), bc, bs) := by
  intro n
  induction n with
  | zero =>
    intro x2 x3 i0 i1 i2 i3 im
    exact absurd im (by omega)
  | succ n ih =>
    intro x2 x3 i0 i1 i2 i3 im
    refine b_M_many_4  (fun c1 => ?_) (fun c1 => ?_)
    · refine b_M_many_24  ?_
      have e9 : x3 = 12 := by omega
      rw [i2, e9]
      exact H
    · have w := bt_01 (l := x3) hx (by omega)
      have w2 : am_and (am_shr x1 x3) 1 = bt x1 x3 := rfl
      refine b_M_many_10 (by omega) (by omega) ?_
      exact ih (x2 + (am_and (am_shr x1 x3) 1)) (x3 + 1) (by omega) (by omega) (by rw [sm_step (by omega), ← i2]; rfl) (by omega) (by omega)
theorem s_M_many {ro : Nat → Int × (Int → Int)} {d : Nat} {b : Bool} {I L : Nat → Int → Int} {Q : Option am_V → am_H → Prop} {x1 : Int} (hx : 0 ≤ x1 ∧ x1 < 4096) (H : Q (some (am_I (sm (fun l => bt x1 l) 12))) (sh b, I, L)) : am_m ro (d + 1) 236 [am_R 66, am_I x1] (sh b, I, L) Q := by
  refine am_in rfl rfl rfl rfl ?_
  show am_ex _ _ _ _ (0, [some (am_R 66), some (am_I x1), none, none], _, _, _, _)
  refine am_wk (lv := [none, some (am_I x1), none, none]) ?_ (by repeat (first | exact trivial | refine ⟨rfl, ?_⟩))
  refine b_M_many_0  ?_
  exact lp_M_many (d := d) hx H 13 _ _ (by omega) (by omega) rfl (by omega) (by omega)
theorem o_P_count {ro : Nat → Int × (Int → Int)} {d : Nat} {b : Bool} {I L : Nat → Int → Int} {Q : Option am_V → am_H → Prop} {x1 : Int} (hC : Cor I L) (H1 : ¬ (0 ≤ x1 ∧ x1 ≤ 10) → Q (some (am_I (-7))) (sh b, rfC I (-7), L)) (H2 : x1 = 0 → Q (some (am_I (I 1 0))) (sh b, I, L)) (H3 : x1 = 1 → Q (some (am_I (I 2 0))) (sh b, I, L)) (H4 : x1 = 2 → Q (some (am_I (I 10 0))) (sh b, I, L)) (H5 : x1 = 3 → Q (some (am_I (I 15 0))) (sh b, I, L)) (H6 : x1 = 4 → Q (some (am_I (I 22 0))) (sh b, I, L)) (H7 : x1 = 5 → Q (some (am_I (I 28 0))) (sh b, I, L)) (H8 : x1 = 6 → Q (some (am_I (I 6 0))) (sh b, I, L)) (H9 : x1 = 7 → Q (some (am_I (I 45 1))) (sh b, I, L)) (H10 : x1 = 8 → Q (some (am_I (sm (fun k => if I 14 k = k then 1 else 0) (I 10 0).toNat))) (sh b, I, L)) (H11 : x1 = 9 → Q (some (am_I (sm (fun k => if I 20 k = k then 1 else 0) (I 15 0).toNat))) (sh b, I, L)) (H12 : x1 = 10 → Q (some (am_I (jb (I 37 (I 1 0))))) (sh b, I, L)) : am_m ro (d + 3) 36 [am_R 0, am_I x1] (sh b, I, L) Q := by
  have ct := Cor_ct hC
  refine am_in rfl rfl rfl rfl ?_
  refine b_P_count_0  (fun c1 => ?_) (fun c1 => ?_) (fun c1 => ?_) (fun c1 => ?_) (fun c1 => ?_) (fun c1 => ?_) (fun c1 => ?_) (fun c1 => ?_) (fun c1 => ?_) (fun c1 => ?_) (fun c1 => ?_) (fun c1_0 c1_1 c1_2 c1_3 c1_4 c1_5 c1_6 c1_7 c1_8 c1_9 c1_10 => ?_)
  · refine b_P_count_60  ?_
    first | exact H1 (by omega) | exact H2 (by omega) | exact H3 (by omega) | exact H4 (by omega) | exact H5 (by omega) | exact H6 (by omega) | exact H7 (by omega) | exact H8 (by omega) | exact H9 (by omega) | exact H10 (by omega) | exact H11 (by omega) | exact H12 (by omega)
  · refine b_P_count_68  ?_
    first | exact H1 (by omega) | exact H2 (by omega) | exact H3 (by omega) | exact H4 (by omega) | exact H5 (by omega) | exact H6 (by omega) | exact H7 (by omega) | exact H8 (by omega) | exact H9 (by omega) | exact H10 (by omega) | exact H11 (by omega) | exact H12 (by omega)
  · refine b_P_count_79  ?_
    first | exact H1 (by omega) | exact H2 (by omega) | exact H3 (by omega) | exact H4 (by omega) | exact H5 (by omega) | exact H6 (by omega) | exact H7 (by omega) | exact H8 (by omega) | exact H9 (by omega) | exact H10 (by omega) | exact H11 (by omega) | exact H12 (by omega)
  · refine b_P_count_90  ?_
    first | exact H1 (by omega) | exact H2 (by omega) | exact H3 (by omega) | exact H4 (by omega) | exact H5 (by omega) | exact H6 (by omega) | exact H7 (by omega) | exact H8 (by omega) | exact H9 (by omega) | exact H10 (by omega) | exact H11 (by omega) | exact H12 (by omega)
  · refine b_P_count_101  ?_
    first | exact H1 (by omega) | exact H2 (by omega) | exact H3 (by omega) | exact H4 (by omega) | exact H5 (by omega) | exact H6 (by omega) | exact H7 (by omega) | exact H8 (by omega) | exact H9 (by omega) | exact H10 (by omega) | exact H11 (by omega) | exact H12 (by omega)
  · refine b_P_count_112  ?_
    first | exact H1 (by omega) | exact H2 (by omega) | exact H3 (by omega) | exact H4 (by omega) | exact H5 (by omega) | exact H6 (by omega) | exact H7 (by omega) | exact H8 (by omega) | exact H9 (by omega) | exact H10 (by omega) | exact H11 (by omega) | exact H12 (by omega)
  · refine b_P_count_123  ?_
    first | exact H1 (by omega) | exact H2 (by omega) | exact H3 (by omega) | exact H4 (by omega) | exact H5 (by omega) | exact H6 (by omega) | exact H7 (by omega) | exact H8 (by omega) | exact H9 (by omega) | exact H10 (by omega) | exact H11 (by omega) | exact H12 (by omega)
  · refine b_P_count_134  ?_
    first | exact H1 (by omega) | exact H2 (by omega) | exact H3 (by omega) | exact H4 (by omega) | exact H5 (by omega) | exact H6 (by omega) | exact H7 (by omega) | exact H8 (by omega) | exact H9 (by omega) | exact H10 (by omega) | exact H11 (by omega) | exact H12 (by omega)
  · refine b_P_count_142  (s_P_heads_14 (by omega) ?_)
    refine b_P_count_165  ?_
    first | exact H1 (by omega) | exact H2 (by omega) | exact H3 (by omega) | exact H4 (by omega) | exact H5 (by omega) | exact H6 (by omega) | exact H7 (by omega) | exact H8 (by omega) | exact H9 (by omega) | exact H10 (by omega) | exact H11 (by omega) | exact H12 (by omega)
  · refine b_P_count_166  (s_P_heads_20 (by omega) ?_)
    refine b_P_count_189  ?_
    first | exact H1 (by omega) | exact H2 (by omega) | exact H3 (by omega) | exact H4 (by omega) | exact H5 (by omega) | exact H6 (by omega) | exact H7 (by omega) | exact H8 (by omega) | exact H9 (by omega) | exact H10 (by omega) | exact H11 (by omega) | exact H12 (by omega)
  · refine b_P_count_190 (by omega) (s_jbits  ?_)
    refine b_P_count_211  ?_
    first | exact H1 (by omega) | exact H2 (by omega) | exact H3 (by omega) | exact H4 (by omega) | exact H5 (by omega) | exact H6 (by omega) | exact H7 (by omega) | exact H8 (by omega) | exact H9 (by omega) | exact H10 (by omega) | exact H11 (by omega) | exact H12 (by omega)
  · refine b_P_count_212  (s_P_refuse (by omega) ?_)
    refine b_P_count_218  ?_
    first | exact H1 (by omega) | exact H2 (by omega) | exact H3 (by omega) | exact H4 (by omega) | exact H5 (by omega) | exact H6 (by omega) | exact H7 (by omega) | exact H8 (by omega) | exact H9 (by omega) | exact H10 (by omega) | exact H11 (by omega) | exact H12 (by omega)
theorem o_M_count {ro : Nat → Int × (Int → Int)} {d : Nat} {b : Bool} {I L : Nat → Int → Int} {Q : Option am_V → am_H → Prop} {x1 : Int} (hM : Mo I L) (H1 : ¬ (0 ≤ x1 ∧ x1 ≤ 10) → Q (some (am_I (-7))) (sh b, rfM I (-7), L)) (H2 : 0 ≤ x1 ∧ x1 ≤ 6 → Q (some (am_I (I 67 x1))) (sh b, I, L)) (H3 : x1 = 7 → Q (some (am_I (I 66 8))) (sh b, I, L)) (H4 : x1 = 8 → Q (some (am_I (sm (fun k => if I 67 (370 + k) = k then 1 else 0) (I 67 2).toNat))) (sh b, I, L)) (H5 : x1 = 9 → Q (some (am_I (sm (fun k => if I 67 (480 + k) = k then 1 else 0) (I 67 3).toNat))) (sh b, I, L)) (H6 : x1 = 10 → Q (some (am_I (sm (fun l => bt (I 67 (34 + I 67 0)) l) 12))) (sh b, I, L)) : am_m ro (d + 3) 246 [am_R 66, am_I x1] (sh b, I, L) Q := by
  have ct := Mo_ct hM
  have w9 : 0 ≤ I 67 (34 + I 67 0) ∧ I 67 (34 + I 67 0) < 4096 := by
    obtain ⟨C, CL, hM0⟩ := id hM
    have w := hM0.1.2.2.2.2.2.2.2.1.2.1 (I 67 0) (by omega) (by omega)
    omega
  refine am_in rfl rfl rfl rfl ?_
  refine b_M_count_0  (fun c1 => ?_) (fun c1 => ?_) (fun c1 => ?_) (fun c1 => ?_) (fun c1 => ?_) (fun c1 => ?_) (fun c1 => ?_) (fun c1 => ?_) (fun c1 => ?_) (fun c1 => ?_) (fun c1 => ?_) (fun c1_0 c1_1 c1_2 c1_3 c1_4 c1_5 c1_6 c1_7 c1_8 c1_9 c1_10 => ?_)
  · refine b_M_count_60 (by omega) ?_
    first | exact H1 (by omega) | exact H2 (by omega) | exact H3 (by omega) | exact H4 (by omega) | exact H5 (by omega) | exact H6 (by omega)
  · refine b_M_count_60 (by omega) ?_
    first | exact H1 (by omega) | exact H2 (by omega) | exact H3 (by omega) | exact H4 (by omega) | exact H5 (by omega) | exact H6 (by omega)
  · refine b_M_count_60 (by omega) ?_
    first | exact H1 (by omega) | exact H2 (by omega) | exact H3 (by omega) | exact H4 (by omega) | exact H5 (by omega) | exact H6 (by omega)
  · refine b_M_count_60 (by omega) ?_
    first | exact H1 (by omega) | exact H2 (by omega) | exact H3 (by omega) | exact H4 (by omega) | exact H5 (by omega) | exact H6 (by omega)
  · refine b_M_count_60 (by omega) ?_
    first | exact H1 (by omega) | exact H2 (by omega) | exact H3 (by omega) | exact H4 (by omega) | exact H5 (by omega) | exact H6 (by omega)
  · refine b_M_count_60 (by omega) ?_
    first | exact H1 (by omega) | exact H2 (by omega) | exact H3 (by omega) | exact H4 (by omega) | exact H5 (by omega) | exact H6 (by omega)
  · refine b_M_count_60 (by omega) ?_
    first | exact H1 (by omega) | exact H2 (by omega) | exact H3 (by omega) | exact H4 (by omega) | exact H5 (by omega) | exact H6 (by omega)
  · refine b_M_count_67  ?_
    first | exact H1 (by omega) | exact H2 (by omega) | exact H3 (by omega) | exact H4 (by omega) | exact H5 (by omega) | exact H6 (by omega)
  · refine b_M_count_72  (s_M_ownOf (by omega) (by omega) ?_)
    refine b_M_count_85  ?_
    first | exact H1 (by omega) | exact H2 (by omega) | exact H3 (by omega) | exact H4 (by omega) | exact H5 (by omega) | exact H6 (by omega)
  · refine b_M_count_86  (s_M_ownOf (by omega) (by omega) ?_)
    refine b_M_count_99  ?_
    first | exact H1 (by omega) | exact H2 (by omega) | exact H3 (by omega) | exact H4 (by omega) | exact H5 (by omega) | exact H6 (by omega)
  · refine b_M_count_100 (by omega) (by omega) (s_M_many (by omega) ?_)
    refine b_M_count_118  ?_
    first | exact H1 (by omega) | exact H2 (by omega) | exact H3 (by omega) | exact H4 (by omega) | exact H5 (by omega) | exact H6 (by omega)
  · refine b_M_count_119  (s_M_refuse (by omega) ?_)
    refine b_M_count_125  ?_
    first | exact H1 (by omega) | exact H2 (by omega) | exact H3 (by omega) | exact H4 (by omega) | exact H5 (by omega) | exact H6 (by omega)
set_option maxHeartbeats 400000 in
theorem A_count {ro : Nat → Int × (Int → Int)} {d : Nat} {b : Bool} {I L : Nat → Int → Int} {x1 : Int} (hI : Inv b I L) : am_m ro (d + 3) 36 [am_R 0, am_I x1] (sh b, I, L) (fun r h => am_m ro (d + 3) 246 [am_R 66, am_I x1] h (fun r2 h2 => Pair r r2 h2)) := by
  obtain ⟨⟨lo, ll, le, ld, lp, ls, lr, ly, lu, lq⟩, hk, hr, ht, hf, hcn⟩ := id hI
  have hr1 := hr.1
  have hr2 := hr.2.1
  have hr3 := hr.2.2.1
  have lo1 := lo.1
  have lo2 := lo.2
  have ll1 := ll.1
  have ll2 := ll.2.1
  have ll3 := ll.2.2.1
  have ld1 := ld.1
  have ld2 := ld.2.1
  have ld3 := ld.2.2.1
  have lp1 := lp.1
  have lp2 := lp.2.1
  have lp3 := lp.2.2.1
  have ls1 := ls.1
  have ls2 := ls.2.1
  have ls3 := ls.2.2.1
  have hC := Cor_of hI
  have ct := Cor_ct hC
  have es8 : sm (fun k => if I 67 (370 + k) = k then 1 else 0) (I 67 2).toNat = sm (fun k => if I 14 k = k then 1 else 0) (I 10 0).toNat := by
    rw [ct.2.2.1.1]
    refine sm_congr _ (fun k b1 b2 => ?_)
    have w := ld.2.2.2.1 k b1 (by omega)
    show (if I 67 (370 + k) = k then 1 else 0) = (if I 14 k = k then (1 : Int) else 0)
    rw [w.2.2.2]
  have es9 : sm (fun k => if I 67 (480 + k) = k then 1 else 0) (I 67 3).toNat = sm (fun k => if I 20 k = k then 1 else 0) (I 15 0).toNat := by
    rw [ct.2.2.2.1.1]
    refine sm_congr _ (fun k b1 b2 => ?_)
    have w := lp.2.2.2.1 k b1 (by omega)
    show (if I 67 (480 + k) = k then 1 else 0) = (if I 20 k = k then (1 : Int) else 0)
    rw [w.2.2.2.2]
  have es10 : sm (fun l => bt (I 67 (34 + I 67 0)) l) 12 = jb (I 37 (I 1 0)) := by
    have w := ly.1 (I 67 0) (by omega) (by omega)
    have w2 := ly.2.1 (I 67 0) (by omega) (by omega)
    rw [ct.1.1, w.1, jb_sm (by omega)]
  refine o_P_count hC (fun a => ?_) (fun a => ?_) (fun a => ?_) (fun a => ?_) (fun a => ?_) (fun a => ?_) (fun a => ?_) (fun a => ?_) (fun a => ?_) (fun a => ?_) (fun a => ?_) (fun a => ?_)
  all_goals refine o_M_count (by repeat (first | exact Mo_of hC | refine Mo_rf ?_ | refine Mo_up ?_ (by decide))) (fun a2 => ?_) (fun a2 => ?_) (fun a2 => ?_) (fun a2 => ?_) (fun a2 => ?_) (fun a2 => ?_)
  all_goals (try simp (disch := omega) only [upo, upm, ups, upn, rfm, rfn] at a2 ⊢)
  all_goals first
    | (exfalso; omega)
    | exact absurd a.2 a2.2
    | exact absurd a2.2 a.2
    | exact Pair_rf hI
    | exact ⟨_, b, I, L, rfl, by rw [a, ct.1.1], rfl, hI⟩
    | exact ⟨_, b, I, L, rfl, by rw [a, ct.2.1.1], rfl, hI⟩
    | exact ⟨_, b, I, L, rfl, by rw [a, ct.2.2.1.1], rfl, hI⟩
    | exact ⟨_, b, I, L, rfl, by rw [a, ct.2.2.2.1.1], rfl, hI⟩
    | exact ⟨_, b, I, L, rfl, by rw [a, ct.2.2.2.2.1.1], rfl, hI⟩
    | exact ⟨_, b, I, L, rfl, by rw [a, ct.2.2.2.2.2.1.1], rfl, hI⟩
    | exact ⟨_, b, I, L, rfl, by rw [a, ct.2.2.2.2.2.2.1], rfl, hI⟩
    | exact ⟨_, b, I, L, rfl, by rw [ht.1], rfl, hI⟩
    | exact ⟨_, b, I, L, rfl, by rw [es8], rfl, hI⟩
    | exact ⟨_, b, I, L, rfl, by rw [es9], rfl, hI⟩
    | exact ⟨_, b, I, L, rfl, by rw [es10], rfl, hI⟩
