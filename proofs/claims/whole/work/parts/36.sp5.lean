theorem lp_M_heirsOf {ro : Nat → Int × (Int → Int)} {d : Nat} {b : Bool} {I L : Nat → Int → Int} {Q : Option am_V → am_H → Prop} {bc bs : Nat} {x1 : Int} (hx : 0 ≤ x1 ∧ x1 < 20) (hp : 0 ≤ I 67 3 ∧ I 67 3 ≤ 20) (hb : ∀ k, 0 ≤ k → k < 20 → 0 ≤ I 67 (500 + 20 * x1 + k) ∧ I 67 (500 + 20 * x1 + k) ≤ 100) (H : Q (some (am_I (sm (fun k => I 67 (500 + 20 * x1 + k)) (I 67 3).toNat))) (sh b, I, L)) : ∀ (n : Nat) (x2 x3 : Int), (0 ≤ x3) → (x3 ≤ I 67 3) → (x2 = sm (fun k => I 67 (500 + 20 * x1 + k)) x3.toNat) → (0 ≤ x2 ∧ x2 ≤ 100 * x3) → I 67 3 - x3 < (n : Int) → am_ex (am_m ro (d + 0)) ro am_M178 Q (4, [some (am_R 66), some (am_I x1), some (am_I x2), some (am_I x3)], [], (sh b, I, L), bc, bs) := by
  intro n
  induction n with
  | zero =>
    intro x2 x3 i0 i1 i2 i3 im
    exact absurd im (by omega)
  | succ n ih =>
    intro x2 x3 i0 i1 i2 i3 im
    refine b_M_heirsOf_4  (fun c1 => ?_) (fun c1 => ?_)
    · refine b_M_heirsOf_38  ?_
      have e9 : x3 = I 67 3 := by omega
      rw [i2, e9]
      exact H
    · have w := hb x3 (by omega) (by omega)
      refine b_M_heirsOf_14 (by omega) (by omega) (by omega) (by omega) (by omega) (by omega) ?_
      exact ih (x2 + (I 67 ((500 + (20 * x1)) + x3))) (x3 + 1) (by omega) (by omega) (by rw [sm_step (by omega), ← i2]) (by omega) (by omega)
theorem s_M_heirsOf {ro : Nat → Int × (Int → Int)} {d : Nat} {b : Bool} {I L : Nat → Int → Int} {Q : Option am_V → am_H → Prop} {x1 : Int} (hx : 0 ≤ x1 ∧ x1 < 20) (hp : 0 ≤ I 67 3 ∧ I 67 3 ≤ 20) (hb : ∀ k, 0 ≤ k → k < 20 → 0 ≤ I 67 (500 + 20 * x1 + k) ∧ I 67 (500 + 20 * x1 + k) ≤ 100) (H : Q (some (am_I (sm (fun k => I 67 (500 + 20 * x1 + k)) (I 67 3).toNat))) (sh b, I, L)) : am_m ro (d + 1) 178 [am_R 66, am_I x1] (sh b, I, L) Q := by
  refine am_in rfl rfl rfl rfl ?_
  refine b_M_heirsOf_0  ?_
  exact lp_M_heirsOf (d := d) hx hp hb H ((I 67 3).toNat + 1) 0 0 (by omega) (by omega) rfl (by omega) (by omega)
theorem lp_Peo_partsOfHeirs {ro : Nat → Int × (Int → Int)} {d : Nat} {b : Bool} {I L : Nat → Int → Int} {Q : Option am_V → am_H → Prop} {bc bs : Nat} {x1 : Int} (hx : 0 ≤ x1 ∧ x1 < 20) (hp : 0 ≤ I 15 0 ∧ I 15 0 ≤ 20) (hb : ∀ k, 0 ≤ k → k < 20 → 0 ≤ I 21 (x1 * 20 + k) ∧ I 21 (x1 * 20 + k) ≤ 100) (H : Q (some (am_I (sm (fun k => I 21 (x1 * 20 + k)) (I 15 0).toNat))) (sh b, I, L)) : ∀ (n : Nat) (x2 x3 : Int), (0 ≤ x3) → (x3 ≤ I 15 0) → (x2 = sm (fun k => I 21 (x1 * 20 + k)) x3.toNat) → (0 ≤ x2 ∧ x2 ≤ 100 * x3) → I 15 0 - x3 < (n : Int) → am_ex (am_m ro (d + 0)) ro am_M85 Q (4, [some (am_R 15), some (am_I x1), some (am_I x2), some (am_I x3)], [], (sh b, I, L), bc, bs) := by
  intro n
  induction n with
  | zero =>
    intro x2 x3 i0 i1 i2 i3 im
    exact absurd im (by omega)
  | succ n ih =>
    intro x2 x3 i0 i1 i2 i3 im
    refine b_Peo_partsOfHeirs_4  (fun c1 => ?_) (fun c1 => ?_)
    · refine b_Peo_partsOfHeirs_32  ?_
      have e9 : x3 = I 15 0 := by omega
      rw [i2, e9]
      exact H
    · have w := hb x3 (by omega) (by omega)
      refine b_Peo_partsOfHeirs_12 (by omega) (by omega) (by omega) (by omega) (by omega) ?_
      exact ih (x2 + (I 21 ((x1 * 20) + x3))) (x3 + 1) (by omega) (by omega) (by rw [sm_step (by omega), ← i2]) (by omega) (by omega)
theorem s_Peo_partsOfHeirs {ro : Nat → Int × (Int → Int)} {d : Nat} {b : Bool} {I L : Nat → Int → Int} {Q : Option am_V → am_H → Prop} {x1 : Int} (hx : 0 ≤ x1 ∧ x1 < 20) (hp : 0 ≤ I 15 0 ∧ I 15 0 ≤ 20) (hb : ∀ k, 0 ≤ k → k < 20 → 0 ≤ I 21 (x1 * 20 + k) ∧ I 21 (x1 * 20 + k) ≤ 100) (H : Q (some (am_I (sm (fun k => I 21 (x1 * 20 + k)) (I 15 0).toNat))) (sh b, I, L)) : am_m ro (d + 1) 85 [am_R 15, am_I x1] (sh b, I, L) Q := by
  refine am_in rfl rfl rfl rfl ?_
  refine b_Peo_partsOfHeirs_0  ?_
  exact lp_Peo_partsOfHeirs (d := d) hx hp hb H ((I 15 0).toNat + 1) 0 0 (by omega) (by omega) rfl (by omega) (by omega)
theorem lp_M_partsOf {ro : Nat → Int × (Int → Int)} {d : Nat} {b : Bool} {I L : Nat → Int → Int} {Q : Option am_V → am_H → Prop} {bc bs : Nat} {x1 : Int} (hp : 0 ≤ I 67 4 ∧ I 67 4 ≤ 60) (hb : ∀ k, 0 ≤ k → k < I 67 4 → 0 ≤ I 67 (1080 + k) ∧ I 67 (1080 + k) ≤ 100) (H : Q (some (am_I (sm (fun k => if I 67 (900 + k) = x1 then I 67 (1080 + k) else 0) (I 67 4).toNat))) (sh b, I, L)) : ∀ (n : Nat) (x2 x3 : Int), (0 ≤ x3) → (x3 ≤ I 67 4) → (x2 = sm (fun k => if I 67 (900 + k) = x1 then I 67 (1080 + k) else 0) x3.toNat) → (0 ≤ x2 ∧ x2 ≤ 100 * x3) → I 67 4 - x3 < (n : Int) → am_ex (am_m ro (d + 0)) ro am_M180 Q (4, [some (am_R 66), some (am_I x1), some (am_I x2), some (am_I x3)], [], (sh b, I, L), bc, bs) := by
  intro n
  induction n with
  | zero =>
    intro x2 x3 i0 i1 i2 i3 im
    exact absurd im (by omega)
  | succ n ih =>
    intro x2 x3 i0 i1 i2 i3 im
    refine b_M_partsOf_4  (fun c1 => ?_) (fun c1 => ?_)
    · refine b_M_partsOf_51  ?_
      have e9 : x3 = I 67 4 := by omega
      rw [i2, e9]
      exact H
    · have w := hb x3 (by omega) (by omega)
      refine b_M_partsOf_14 (by omega) (by omega) (fun c2 => ?_) (fun c2 => ?_)
      · refine b_M_partsOf_42  ?_
        refine b_M_partsOf_43 (by omega) (by omega) ?_
        exact ih (x2 + 0) (x3 + 1) (by omega) (by omega) (by rw [sm_step (by omega), ← i2]; grind) (by omega) (by omega)
      · refine b_M_partsOf_29 (by omega) (by omega) ?_
        refine b_M_partsOf_43 (by omega) (by omega) ?_
        exact ih (x2 + (I 67 (1080 + x3))) (x3 + 1) (by omega) (by omega) (by rw [sm_step (by omega), ← i2]; grind) (by omega) (by omega)
theorem s_M_partsOf {ro : Nat → Int × (Int → Int)} {d : Nat} {b : Bool} {I L : Nat → Int → Int} {Q : Option am_V → am_H → Prop} {x1 : Int} (hp : 0 ≤ I 67 4 ∧ I 67 4 ≤ 60) (hb : ∀ k, 0 ≤ k → k < I 67 4 → 0 ≤ I 67 (1080 + k) ∧ I 67 (1080 + k) ≤ 100) (H : Q (some (am_I (sm (fun k => if I 67 (900 + k) = x1 then I 67 (1080 + k) else 0) (I 67 4).toNat))) (sh b, I, L)) : am_m ro (d + 1) 180 [am_R 66, am_I x1] (sh b, I, L) Q := by
  refine am_in rfl rfl rfl rfl ?_
  refine b_M_partsOf_0  ?_
  exact lp_M_partsOf (d := d) hp hb H ((I 67 4).toNat + 1) 0 0 (by omega) (by omega) rfl (by omega) (by omega)
theorem lp_Shs_partsOf {ro : Nat → Int × (Int → Int)} {d : Nat} {b : Bool} {I L : Nat → Int → Int} {Q : Option am_V → am_H → Prop} {bc bs : Nat} {x1 : Int} (hp : 0 ≤ I 22 0 ∧ I 22 0 ≤ 60) (hb : ∀ k, 0 ≤ k → k < I 22 0 → 0 ≤ I 26 k ∧ I 26 k ≤ 100) (H : Q (some (am_I (sm (fun k => if I 23 k = x1 then I 26 k else 0) (I 22 0).toNat))) (sh b, I, L)) : ∀ (n : Nat) (x2 x3 : Int), (0 ≤ x3) → (x3 ≤ I 22 0) → (x2 = sm (fun k => if I 23 k = x1 then I 26 k else 0) x3.toNat) → (0 ≤ x2 ∧ x2 ≤ 100 * x3) → I 22 0 - x3 < (n : Int) → am_ex (am_m ro (d + 0)) ro am_M93 Q (4, [some (am_R 22), some (am_I x1), some (am_I x2), some (am_I x3)], [], (sh b, I, L), bc, bs) := by
  intro n
  induction n with
  | zero =>
    intro x2 x3 i0 i1 i2 i3 im
    exact absurd im (by omega)
  | succ n ih =>
    intro x2 x3 i0 i1 i2 i3 im
    refine b_Shs_partsOf_4  (fun c1 => ?_) (fun c1 => ?_)
    · refine b_Shs_partsOf_37  ?_
      have e9 : x3 = I 22 0 := by omega
      rw [i2, e9]
      exact H
    · have w := hb x3 (by omega) (by omega)
      refine b_Shs_partsOf_12 (by omega) (fun c2 => ?_) (fun c2 => ?_)
      · refine b_Shs_partsOf_31 (by omega) ?_
        exact ih x2 (x3 + 1) (by omega) (by omega) (by rw [sm_step (by omega), ← i2]; grind) (by omega) (by omega)
      · refine b_Shs_partsOf_22 (by omega) (by omega) ?_
        refine b_Shs_partsOf_31 (by omega) ?_
        exact ih ((x2 + (I 26 x3))) (x3 + 1) (by omega) (by omega) (by rw [sm_step (by omega), ← i2]; grind) (by omega) (by omega)
theorem s_Shs_partsOf {ro : Nat → Int × (Int → Int)} {d : Nat} {b : Bool} {I L : Nat → Int → Int} {Q : Option am_V → am_H → Prop} {x1 : Int} (hp : 0 ≤ I 22 0 ∧ I 22 0 ≤ 60) (hb : ∀ k, 0 ≤ k → k < I 22 0 → 0 ≤ I 26 k ∧ I 26 k ≤ 100) (H : Q (some (am_I (sm (fun k => if I 23 k = x1 then I 26 k else 0) (I 22 0).toNat))) (sh b, I, L)) : am_m ro (d + 1) 93 [am_R 22, am_I x1] (sh b, I, L) Q := by
  refine am_in rfl rfl rfl rfl ?_
  refine b_Shs_partsOf_0  ?_
  exact lp_Shs_partsOf (d := d) hp hb H ((I 22 0).toNat + 1) 0 0 (by omega) (by omega) rfl (by omega) (by omega)
theorem o_P_editionOf {ro : Nat → Int × (Int → Int)} {d : Nat} {b : Bool} {I L : Nat → Int → Int} {Q : Option am_V → am_H → Prop} {x1 x2 : Int} (hp : (0 ≤ I 10 0 ∧ I 10 0 ≤ 30) ∧ 0 ≤ I 22 0 ∧ I 22 0 ≤ 60) (hb : ∀ k, 0 ≤ k → k < I 22 0 → 0 ≤ I 26 k ∧ I 26 k ≤ 100) (H1 : ¬ (0 ≤ x1 ∧ x1 < I 10 0) → Q (some (am_I 0)) (sh b, rfC I (-3), L)) (H2 : (0 ≤ x1 ∧ x1 < I 10 0) ∧ ¬ (0 ≤ x2 ∧ x2 ≤ 4) → Q (some (am_I 0)) (sh b, rfC I (-7), L)) (H3 : (0 ≤ x1 ∧ x1 < I 10 0) ∧ x2 = 0 → Q (some (am_I (I 11 x1))) (sh b, I, L)) (H4 : (0 ≤ x1 ∧ x1 < I 10 0) ∧ x2 = 1 → Q (some (am_I (I 12 x1))) (sh b, I, L)) (H5 : (0 ≤ x1 ∧ x1 < I 10 0) ∧ x2 = 2 → Q (some (am_I (I 13 x1))) (sh b, I, L)) (H6 : (0 ≤ x1 ∧ x1 < I 10 0) ∧ x2 = 3 → Q (some (am_I (I 14 x1))) (sh b, I, L)) (H7 : (0 ≤ x1 ∧ x1 < I 10 0) ∧ x2 = 4 → Q (some (am_I (sm (fun k => if I 23 k = x1 then I 26 k else 0) (I 22 0).toNat))) (sh b, I, L)) : am_m ro (d + 3) 14 [am_R 0, am_I x1, am_I x2] (sh b, I, L) Q := by
  refine am_in rfl rfl rfl rfl ?_
  refine b_P_editionOf_0  (s_Eds_has (by omega) (fun c1 => ?_) (fun c1 => ?_))
  · refine b_P_editionOf_13  (fun c2 => ?_) (fun c2 => absurd c2 (by decide))
    refine b_P_editionOf_23  (fun c3 => ?_) (fun c3 => ?_) (fun c3 => ?_) (fun c3 => ?_) (fun c3 => ?_) (fun c3_0 c3_1 c3_2 c3_3 c3_4 => ?_)
    · refine b_P_editionOf_60 (by omega) ?_
      first | exact H1 (by omega) | exact H2 (by omega) | exact H3 (by omega) | exact H4 (by omega) | exact H5 (by omega) | exact H6 (by omega) | exact H7 (by omega)
    · refine b_P_editionOf_67 (by omega) ?_
      first | exact H1 (by omega) | exact H2 (by omega) | exact H3 (by omega) | exact H4 (by omega) | exact H5 (by omega) | exact H6 (by omega) | exact H7 (by omega)
    · refine b_P_editionOf_74 (by omega) ?_
      first | exact H1 (by omega) | exact H2 (by omega) | exact H3 (by omega) | exact H4 (by omega) | exact H5 (by omega) | exact H6 (by omega) | exact H7 (by omega)
    · refine b_P_editionOf_81 (by omega) ?_
      first | exact H1 (by omega) | exact H2 (by omega) | exact H3 (by omega) | exact H4 (by omega) | exact H5 (by omega) | exact H6 (by omega) | exact H7 (by omega)
    · refine b_P_editionOf_88  (s_Shs_partsOf (by omega) (by assumption) ?_)
      refine b_P_editionOf_99  ?_
      first | exact H1 (by omega) | exact H2 (by omega) | exact H3 (by omega) | exact H4 (by omega) | exact H5 (by omega) | exact H6 (by omega) | exact H7 (by omega)
    · refine b_P_editionOf_100  (s_P_refuseAsZero (by omega) ?_)
      refine b_P_editionOf_106  ?_
      first | exact H1 (by omega) | exact H2 (by omega) | exact H3 (by omega) | exact H4 (by omega) | exact H5 (by omega) | exact H6 (by omega) | exact H7 (by omega)
  · refine b_P_editionOf_13  (fun c4 => absurd c4 (by decide)) (fun c4 => ?_)
    refine b_P_editionOf_16  (s_P_refuseAsZero (by omega) ?_)
    refine b_P_editionOf_22  ?_
    first | exact H1 (by omega) | exact H2 (by omega) | exact H3 (by omega) | exact H4 (by omega) | exact H5 (by omega) | exact H6 (by omega) | exact H7 (by omega)
theorem o_M_editionOf {ro : Nat → Int × (Int → Int)} {d : Nat} {b : Bool} {I L : Nat → Int → Int} {Q : Option am_V → am_H → Prop} {x1 x2 : Int} (hp : (0 ≤ I 67 2 ∧ I 67 2 ≤ 30) ∧ 0 ≤ I 67 4 ∧ I 67 4 ≤ 60) (hb : ∀ k, 0 ≤ k → k < I 67 4 → 0 ≤ I 67 (1080 + k) ∧ I 67 (1080 + k) ≤ 100) (H1 : ¬ (0 ≤ x1 ∧ x1 < I 67 2) → Q (some (am_I 0)) (sh b, rfM I (-3), L)) (H2 : (0 ≤ x1 ∧ x1 < I 67 2) ∧ ¬ (0 ≤ x2 ∧ x2 ≤ 4) → Q (some (am_I 0)) (sh b, rfM I (-7), L)) (H3 : (0 ≤ x1 ∧ x1 < I 67 2) ∧ (0 ≤ x2 ∧ x2 ≤ 3) → Q (some (am_I (I 67 (280 + 30 * x2 + x1)))) (sh b, I, L)) (H4 : (0 ≤ x1 ∧ x1 < I 67 2) ∧ x2 = 4 → Q (some (am_I (sm (fun k => if I 67 (900 + k) = x1 then I 67 (1080 + k) else 0) (I 67 4).toNat))) (sh b, I, L)) : am_m ro (d + 3) 182 [am_R 66, am_I x1, am_I x2] (sh b, I, L) Q := by
  refine am_in rfl rfl rfl rfl ?_
  refine b_M_editionOf_0  (s_M_isEdition (by omega) (fun c1 => ?_) (fun c1 => ?_))
  · refine b_M_editionOf_5  (fun c2 => ?_) (fun c2 => absurd c2 (by decide))
    refine b_M_editionOf_15  (s_M_in (fun c3 => ?_) (fun c3 => ?_))
    · refine b_M_editionOf_21  (fun c4 => ?_) (fun c4 => absurd c4 (by decide))
      refine b_M_editionOf_31  (fun c5 => ?_) (fun c5 => ?_)
      · refine b_M_editionOf_44 (by omega) (by omega) (by omega) (by omega) ?_
        refine b_M_editionOf_59  ?_
        first | exact H1 (by omega) | exact H2 (by omega) | exact H3 (by omega) | exact H4 (by omega)
      · refine b_M_editionOf_36  (s_M_partsOf (by omega) (by assumption) ?_)
        refine b_M_editionOf_41  ?_
        refine b_M_editionOf_59  ?_
        first | exact H1 (by omega) | exact H2 (by omega) | exact H3 (by omega) | exact H4 (by omega)
    · refine b_M_editionOf_21  (fun c6 => absurd c6 (by decide)) (fun c6 => ?_)
      refine b_M_editionOf_24  (s_M_nought (by omega) ?_)
      refine b_M_editionOf_30  ?_
      first | exact H1 (by omega) | exact H2 (by omega) | exact H3 (by omega) | exact H4 (by omega)
  · refine b_M_editionOf_5  (fun c7 => absurd c7 (by decide)) (fun c7 => ?_)
    refine b_M_editionOf_8  (s_M_nought (by omega) ?_)
    refine b_M_editionOf_14  ?_
    first | exact H1 (by omega) | exact H2 (by omega) | exact H3 (by omega) | exact H4 (by omega)
set_option maxHeartbeats 400000 in
theorem A_editionOf {ro : Nat → Int × (Int → Int)} {d : Nat} {b : Bool} {I L : Nat → Int → Int} {x1 x2 : Int} (hI : Inv b I L) : am_m ro (d + 3) 14 [am_R 0, am_I x1, am_I x2] (sh b, I, L) (fun r h => am_m ro (d + 3) 182 [am_R 66, am_I x1, am_I x2] h (fun r2 h2 => Pair r r2 h2)) := by
  obtain ⟨⟨lo, ll, le, ld, lp, ls, lr, ly, lu, lq⟩, hk, hr, ht, hf, hcn⟩ := id hI
  have hr1 := hr.1
  have hr2 := hr.2.1
  have hr3 := hr.2.2.1
  have lo1 := lo.1
  have lo2 := lo.2
  have ll1 := ll.1
  have ll2 := ll.2.1
  have ll3 := ll.2.2.1
  have ld1 := ld.1
  have ld2 := ld.2.1
  have ld3 := ld.2.2.1
  have lp1 := lp.1
  have lp2 := lp.2.1
  have lp3 := lp.2.2.1
  have ls1 := ls.1
  have ls2 := ls.2.1
  have ls3 := ls.2.2.1
  have hbM : ∀ k, 0 ≤ k → k < I 67 4 → 0 ≤ I 67 (1080 + k) ∧ I 67 (1080 + k) ≤ 100 := fun k a1 a2 => by have w := ls.2.2.2.2 k a1 a2; omega
  have hbC : ∀ k, 0 ≤ k → k < I 22 0 → 0 ≤ I 26 k ∧ I 26 k ≤ 100 := fun k a1 a2 => by have w := ls.2.2.2.2 k a1 (by omega); have w2 := ls.2.2.2.1 k a1 (by omega); omega
  have es : sm (fun k => if I 23 k = x1 then I 26 k else 0) (I 22 0).toNat = sm (fun k => if I 67 (900 + k) = x1 then I 67 (1080 + k) else 0) (I 67 4).toNat := by
    rw [ls1]
    refine sm_congr _ (fun k b1 b2 => ?_)
    have w2 := ls.2.2.2.1 k b1 (by omega)
    show (if I 23 k = x1 then I 26 k else 0) = (if I 67 (900 + k) = x1 then I 67 (1080 + k) else 0)
    rw [w2.1, w2.2.2.2.1]
  refine o_P_editionOf (by omega) hbC (fun a => ?_) (fun a => ?_) (fun a => ?_) (fun a => ?_) (fun a => ?_) (fun a => ?_) (fun a => ?_)
  all_goals refine o_M_editionOf (by (try simp (disch := omega) only [rfm]); omega) (by intro k a1 a2; (try simp (disch := omega) only [rfm] at a2 ⊢); exact hbM k a1 a2) (fun a2 => ?_) (fun a2 => ?_) (fun a2 => ?_) (fun a2 => ?_)
  all_goals (try simp (disch := omega) only [upo, upm, ups, rfm] at a2 ⊢)
  all_goals first
    | (exfalso; omega)
    | exact Pair_rf hI
    | (exfalso; clear hI lo ll le ld lp ls lr ly lu lq hk hr ht hf hcn hbM hbC; omega)
    | exact ⟨_, b, I, L, rfl, by have w := ld.2.2.2.1 x1 (by omega) (by omega); rw [w.1]; congr 3; omega, rfl, hI⟩
    | exact ⟨_, b, I, L, rfl, by have w := ld.2.2.2.1 x1 (by omega) (by omega); rw [w.2.1]; congr 3; omega, rfl, hI⟩
    | exact ⟨_, b, I, L, rfl, by have w := ld.2.2.2.1 x1 (by omega) (by omega); rw [w.2.2.1]; congr 3; omega, rfl, hI⟩
    | exact ⟨_, b, I, L, rfl, by have w := ld.2.2.2.1 x1 (by omega) (by omega); rw [w.2.2.2]; congr 3; omega, rfl, hI⟩
    | exact ⟨_, b, I, L, rfl, by rw [es], rfl, hI⟩
theorem o_P_personOf {ro : Nat → Int × (Int → Int)} {d : Nat} {b : Bool} {I L : Nat → Int → Int} {Q : Option am_V → am_H → Prop} {x1 x2 : Int} (hp : 0 ≤ I 15 0 ∧ I 15 0 ≤ 20) (hb : ∀ x1, 0 ≤ x1 → x1 < 20 → ∀ k, 0 ≤ k → k < 20 → 0 ≤ I 21 (x1 * 20 + k) ∧ I 21 (x1 * 20 + k) ≤ 100) (H1 : ¬ (0 ≤ x1 ∧ x1 < I 15 0) → Q (some (am_I 0)) (sh b, rfC I (-3), L)) (H2 : (0 ≤ x1 ∧ x1 < I 15 0) ∧ ¬ (0 ≤ x2 ∧ x2 ≤ 5) → Q (some (am_I 0)) (sh b, rfC I (-7), L)) (H3 : (0 ≤ x1 ∧ x1 < I 15 0) ∧ x2 = 0 → Q (some (am_I (I 16 x1))) (sh b, I, L)) (H4 : (0 ≤ x1 ∧ x1 < I 15 0) ∧ x2 = 1 → Q (some (am_I (I 17 x1))) (sh b, I, L)) (H5 : (0 ≤ x1 ∧ x1 < I 15 0) ∧ x2 = 2 → Q (some (am_I (I 18 x1))) (sh b, I, L)) (H6 : (0 ≤ x1 ∧ x1 < I 15 0) ∧ x2 = 3 → Q (some (am_I (I 19 x1))) (sh b, I, L)) (H7 : (0 ≤ x1 ∧ x1 < I 15 0) ∧ x2 = 4 → Q (some (am_I (I 20 x1))) (sh b, I, L)) (H8 : (0 ≤ x1 ∧ x1 < I 15 0) ∧ x2 = 5 → Q (some (am_I (sm (fun k => I 21 (x1 * 20 + k)) (I 15 0).toNat))) (sh b, I, L)) : am_m ro (d + 3) 15 [am_R 0, am_I x1, am_I x2] (sh b, I, L) Q := by
  refine am_in rfl rfl rfl rfl ?_
  refine b_P_personOf_0  (s_Peo_has (by omega) (fun c1 => ?_) (fun c1 => ?_))
  · refine b_P_personOf_13  (fun c2 => ?_) (fun c2 => absurd c2 (by decide))
    refine b_P_personOf_23  (fun c3 => ?_) (fun c3 => ?_) (fun c3 => ?_) (fun c3 => ?_) (fun c3 => ?_) (fun c3 => ?_) (fun c3_0 c3_1 c3_2 c3_3 c3_4 c3_5 => ?_)
    · refine b_P_personOf_64 (by omega) ?_
      first | exact H1 (by omega) | exact H2 (by omega) | exact H3 (by omega) | exact H4 (by omega) | exact H5 (by omega) | exact H6 (by omega) | exact H7 (by omega) | exact H8 (by omega)
    · refine b_P_personOf_71 (by omega) ?_
      first | exact H1 (by omega) | exact H2 (by omega) | exact H3 (by omega) | exact H4 (by omega) | exact H5 (by omega) | exact H6 (by omega) | exact H7 (by omega) | exact H8 (by omega)
    · refine b_P_personOf_78 (by omega) ?_
      first | exact H1 (by omega) | exact H2 (by omega) | exact H3 (by omega) | exact H4 (by omega) | exact H5 (by omega) | exact H6 (by omega) | exact H7 (by omega) | exact H8 (by omega)
    · refine b_P_personOf_85 (by omega) ?_
      first | exact H1 (by omega) | exact H2 (by omega) | exact H3 (by omega) | exact H4 (by omega) | exact H5 (by omega) | exact H6 (by omega) | exact H7 (by omega) | exact H8 (by omega)
    · refine b_P_personOf_92 (by omega) ?_
      first | exact H1 (by omega) | exact H2 (by omega) | exact H3 (by omega) | exact H4 (by omega) | exact H5 (by omega) | exact H6 (by omega) | exact H7 (by omega) | exact H8 (by omega)
    · refine b_P_personOf_99  (s_Peo_partsOfHeirs (by omega) (by omega) (hb _ (by omega) (by omega)) ?_)
      refine b_P_personOf_104  ?_
      first | exact H1 (by omega) | exact H2 (by omega) | exact H3 (by omega) | exact H4 (by omega) | exact H5 (by omega) | exact H6 (by omega) | exact H7 (by omega) | exact H8 (by omega)
    · refine b_P_personOf_105  (s_P_refuseAsZero (by omega) ?_)
      refine b_P_personOf_111  ?_
      first | exact H1 (by omega) | exact H2 (by omega) | exact H3 (by omega) | exact H4 (by omega) | exact H5 (by omega) | exact H6 (by omega) | exact H7 (by omega) | exact H8 (by omega)
  · refine b_P_personOf_13  (fun c4 => absurd c4 (by decide)) (fun c4 => ?_)
    refine b_P_personOf_16  (s_P_refuseAsZero (by omega) ?_)
    refine b_P_personOf_22  ?_
    first | exact H1 (by omega) | exact H2 (by omega) | exact H3 (by omega) | exact H4 (by omega) | exact H5 (by omega) | exact H6 (by omega) | exact H7 (by omega) | exact H8 (by omega)
theorem o_M_personOf {ro : Nat → Int × (Int → Int)} {d : Nat} {b : Bool} {I L : Nat → Int → Int} {Q : Option am_V → am_H → Prop} {x1 x2 : Int} (hp : 0 ≤ I 67 3 ∧ I 67 3 ≤ 20) (hb : ∀ x1, 0 ≤ x1 → x1 < 20 → ∀ k, 0 ≤ k → k < 20 → 0 ≤ I 67 (500 + 20 * x1 + k) ∧ I 67 (500 + 20 * x1 + k) ≤ 100) (H1 : ¬ (0 ≤ x1 ∧ x1 < I 67 3) → Q (some (am_I 0)) (sh b, rfM I (-3), L)) (H2 : (0 ≤ x1 ∧ x1 < I 67 3) ∧ ¬ (0 ≤ x2 ∧ x2 ≤ 5) → Q (some (am_I 0)) (sh b, rfM I (-7), L)) (H3 : (0 ≤ x1 ∧ x1 < I 67 3) ∧ (0 ≤ x2 ∧ x2 ≤ 4) → Q (some (am_I (I 67 (400 + 20 * x2 + x1)))) (sh b, I, L)) (H4 : (0 ≤ x1 ∧ x1 < I 67 3) ∧ x2 = 5 → Q (some (am_I (sm (fun k => I 67 (500 + 20 * x1 + k)) (I 67 3).toNat))) (sh b, I, L)) : am_m ro (d + 3) 183 [am_R 66, am_I x1, am_I x2] (sh b, I, L) Q := by
  refine am_in rfl rfl rfl rfl ?_
  refine b_M_personOf_0  (s_M_isPerson (by omega) (fun c1 => ?_) (fun c1 => ?_))
  · refine b_M_personOf_5  (fun c2 => ?_) (fun c2 => absurd c2 (by decide))
    refine b_M_personOf_15  (s_M_in (fun c3 => ?_) (fun c3 => ?_))
    · refine b_M_personOf_21  (fun c4 => ?_) (fun c4 => absurd c4 (by decide))
      refine b_M_personOf_31  (fun c5 => ?_) (fun c5 => ?_)
      · refine b_M_personOf_44 (by omega) (by omega) (by omega) (by omega) ?_
        refine b_M_personOf_59  ?_
        first | exact H1 (by omega) | exact H2 (by omega) | exact H3 (by omega) | exact H4 (by omega)
      · refine b_M_personOf_36  (s_M_heirsOf (by omega) (by omega) (hb _ (by omega) (by omega)) ?_)
        refine b_M_personOf_41  ?_
        refine b_M_personOf_59  ?_
        first | exact H1 (by omega) | exact H2 (by omega) | exact H3 (by omega) | exact H4 (by omega)
    · refine b_M_personOf_21  (fun c6 => absurd c6 (by decide)) (fun c6 => ?_)
      refine b_M_personOf_24  (s_M_nought (by omega) ?_)
      refine b_M_personOf_30  ?_
      first | exact H1 (by omega) | exact H2 (by omega) | exact H3 (by omega) | exact H4 (by omega)
  · refine b_M_personOf_5  (fun c7 => absurd c7 (by decide)) (fun c7 => ?_)
    refine b_M_personOf_8  (s_M_nought (by omega) ?_)
    refine b_M_personOf_14  ?_
    first | exact H1 (by omega) | exact H2 (by omega) | exact H3 (by omega) | exact H4 (by omega)
set_option maxHeartbeats 400000 in
theorem A_personOf {ro : Nat → Int × (Int → Int)} {d : Nat} {b : Bool} {I L : Nat → Int → Int} {x1 x2 : Int} (hI : Inv b I L) : am_m ro (d + 3) 15 [am_R 0, am_I x1, am_I x2] (sh b, I, L) (fun r h => am_m ro (d + 3) 183 [am_R 66, am_I x1, am_I x2] h (fun r2 h2 => Pair r r2 h2)) := by
  obtain ⟨⟨lo, ll, le, ld, lp, ls, lr, ly, lu, lq⟩, hk, hr, ht, hf, hcn⟩ := id hI
  have hr1 := hr.1
  have hr2 := hr.2.1
  have hr3 := hr.2.2.1
  have lo1 := lo.1
  have lo2 := lo.2
  have ll1 := ll.1
  have ll2 := ll.2.1
  have ll3 := ll.2.2.1
  have ld1 := ld.1
  have ld2 := ld.2.1
  have ld3 := ld.2.2.1
  have lp1 := lp.1
  have lp2 := lp.2.1
  have lp3 := lp.2.2.1
  have ls1 := ls.1
  have ls2 := ls.2.1
  have ls3 := ls.2.2.1
  have hbM : ∀ x1, 0 ≤ x1 → x1 < 20 → ∀ k, 0 ≤ k → k < 20 → 0 ≤ I 67 (500 + 20 * x1 + k) ∧ I 67 (500 + 20 * x1 + k) ≤ 100 := fun x1 c1 c2 k a1 a2 => by
    have w := lp.2.2.2.2.2 (20 * x1 + k) (by omega) (by omega)
    rw [← Int.add_assoc] at w
    exact w.2
  have hbC : ∀ x1, 0 ≤ x1 → x1 < 20 → ∀ k, 0 ≤ k → k < 20 → 0 ≤ I 21 (x1 * 20 + k) ∧ I 21 (x1 * 20 + k) ≤ 100 := fun x1 c1 c2 k a1 a2 => by
    have w := lp.2.2.2.2.2 (x1 * 20 + k) (by omega) (by omega)
    rw [w.1]
    exact w.2
  have es : 0 ≤ x1 → x1 < 20 → sm (fun k => I 21 (x1 * 20 + k)) (I 15 0).toNat = sm (fun k => I 67 (500 + 20 * x1 + k)) (I 67 3).toNat := by
    intro c1 c2
    rw [lp1]
    refine sm_congr _ (fun k b1 b2 => ?_)
    have w := (lp.2.2.2.2.2 (x1 * 20 + k) (by omega) (by omega)).1
    show I 21 (x1 * 20 + k) = I 67 (500 + 20 * x1 + k)
    rw [w]
    congr 1
    omega
  refine o_P_personOf (by omega) hbC (fun a => ?_) (fun a => ?_) (fun a => ?_) (fun a => ?_) (fun a => ?_) (fun a => ?_) (fun a => ?_) (fun a => ?_)
  all_goals refine o_M_personOf (by (try simp (disch := omega) only [rfm]); omega) (by intro y c1 c2 k a1 a2; (try simp (disch := omega) only [rfm]); exact hbM y c1 c2 k a1 a2) (fun a2 => ?_) (fun a2 => ?_) (fun a2 => ?_) (fun a2 => ?_)
  all_goals (try simp (disch := omega) only [upo, upm, ups, rfm] at a2 ⊢)
  all_goals first
    | (exfalso; omega)
    | exact Pair_rf hI
    | (exfalso; clear hI lo ll le ld lp ls lr ly lu lq hk hr ht hf hcn hbM hbC es; omega)
    | exact ⟨_, b, I, L, rfl, by have w := lp.2.2.2.1 x1 (by omega) (by omega); rw [w.1]; congr 3; omega, rfl, hI⟩
    | exact ⟨_, b, I, L, rfl, by have w := lp.2.2.2.1 x1 (by omega) (by omega); rw [w.2.1]; congr 3; omega, rfl, hI⟩
    | exact ⟨_, b, I, L, rfl, by have w := lp.2.2.2.1 x1 (by omega) (by omega); rw [w.2.2.1]; congr 3; omega, rfl, hI⟩
    | exact ⟨_, b, I, L, rfl, by have w := lp.2.2.2.1 x1 (by omega) (by omega); rw [w.2.2.2.1]; congr 3; omega, rfl, hI⟩
    | exact ⟨_, b, I, L, rfl, by have w := lp.2.2.2.1 x1 (by omega) (by omega); rw [w.2.2.2.2]; congr 3; omega, rfl, hI⟩
    | exact ⟨_, b, I, L, rfl, by rw [es (by omega) (by omega)], rfl, hI⟩
