def rfC (I : Nat → Int → Int) (y : Int) : Nat → Int → Int := fun k j => am_up I 65 (-y) (am_w (I 65 (-y) + 1)) k j
def rfM (I : Nat → Int → Int) (y : Int) : Nat → Int → Int := fun k j => am_up I 71 (-y) (am_w (I 71 (-y) + 1)) k j
theorem s_P_within {ro : Nat → Int × (Int → Int)} {d : Nat} {b : Bool} {I L : Nat → Int → Int} {Q : Option am_V → am_H → Prop} {x0 x1 x2 : Int}  (H1 : x1 ≤ x0 ∧ x0 ≤ x2 → Q (some (am_I 1)) (sh b, I, L)) (H0 : ¬ (x1 ≤ x0 ∧ x0 ≤ x2) → Q (some (am_I 0)) (sh b, I, L)) : am_m ro (d + 1) 53 [am_I x0, am_I x1, am_I x2] (sh b, I, L) Q := by
  refine am_in rfl rfl rfl rfl ?_
  refine b_P_within_0  (fun c1 => ?_) (fun c1 => ?_)
  · refine b_P_within_14  ?_
    refine b_P_within_15 (by omega) ?_
    exact H0 (by omega)
  · refine b_P_within_5  (fun c2 => ?_) (fun c2 => ?_)
    · refine b_P_within_14  ?_
      refine b_P_within_15 (by omega) ?_
      exact H0 (by omega)
    · refine b_P_within_10  ?_
      refine b_P_within_15 (by omega) ?_
      exact H1 (by omega)
theorem s_M_in {ro : Nat → Int × (Int → Int)} {d : Nat} {b : Bool} {I L : Nat → Int → Int} {Q : Option am_V → am_H → Prop} {x0 x1 x2 : Int}  (H1 : x1 ≤ x0 ∧ x0 ≤ x2 → Q (some (am_I 1)) (sh b, I, L)) (H0 : ¬ (x1 ≤ x0 ∧ x0 ≤ x2) → Q (some (am_I 0)) (sh b, I, L)) : am_m ro (d + 1) 155 [am_I x0, am_I x1, am_I x2] (sh b, I, L) Q := by
  refine am_in rfl rfl rfl rfl ?_
  refine b_M_in_0  (fun c1 => ?_) (fun c1 => ?_)
  · refine b_M_in_14  ?_
    refine b_M_in_15 (by omega) ?_
    exact H0 (by omega)
  · refine b_M_in_5  (fun c2 => ?_) (fun c2 => ?_)
    · refine b_M_in_14  ?_
      refine b_M_in_15 (by omega) ?_
      exact H0 (by omega)
    · refine b_M_in_10  ?_
      refine b_M_in_15 (by omega) ?_
      exact H1 (by omega)
theorem s_P_refuse {ro : Nat → Int × (Int → Int)} {d : Nat} {b : Bool} {I L : Nat → Int → Int} {Q : Option am_V → am_H → Prop} {x1 : Int} (hx : -8 ≤ x1 ∧ x1 ≤ -2) (H : Q (some (am_I x1)) (sh b, rfC I x1, L)) : am_m ro (d + 1) 45 [am_R 0, am_I x1] (sh b, I, L) Q := by
  have e1 : am_w (-x1) = -x1 := am_w_id ⟨by omega, by omega⟩
  refine am_in rfl rfl rfl rfl ?_
  refine b_P_refuse_0 (by rw [e1]; omega) (by rw [e1]; omega) ?_
  rw [e1]
  exact H
theorem s_P_refuseAsZero {ro : Nat → Int × (Int → Int)} {d : Nat} {b : Bool} {I L : Nat → Int → Int} {Q : Option am_V → am_H → Prop} {x1 : Int} (hx : -8 ≤ x1 ∧ x1 ≤ -2) (H : Q (some (am_I 0)) (sh b, rfC I x1, L)) : am_m ro (d + 1) 46 [am_R 0, am_I x1] (sh b, I, L) Q := by
  have e1 : am_w (-x1) = -x1 := am_w_id ⟨by omega, by omega⟩
  refine am_in rfl rfl rfl rfl ?_
  refine b_P_refuseAsZero_0 (by rw [e1]; omega) (by rw [e1]; omega) ?_
  rw [e1]
  exact H
theorem s_M_refuse {ro : Nat → Int × (Int → Int)} {d : Nat} {b : Bool} {I L : Nat → Int → Int} {Q : Option am_V → am_H → Prop} {x1 : Int} (hx : -8 ≤ x1 ∧ x1 ≤ -2) (H : Q (some (am_I x1)) (sh b, rfM I x1, L)) : am_m ro (d + 1) 156 [am_R 66, am_I x1] (sh b, I, L) Q := by
  have e1 : am_w (-x1) = -x1 := am_w_id ⟨by omega, by omega⟩
  refine am_in rfl rfl rfl rfl ?_
  refine b_M_refuse_0 (by rw [e1]; omega) (by rw [e1]; omega) ?_
  rw [e1]
  exact H
theorem s_M_nought {ro : Nat → Int × (Int → Int)} {d : Nat} {b : Bool} {I L : Nat → Int → Int} {Q : Option am_V → am_H → Prop} {x1 : Int} (hx : -8 ≤ x1 ∧ x1 ≤ -2) (H : Q (some (am_I 0)) (sh b, rfM I x1, L)) : am_m ro (d + 2) 157 [am_R 66, am_I x1] (sh b, I, L) Q := by
  refine am_in rfl rfl rfl rfl ?_
  refine b_M_nought_0  (s_M_refuse (by omega) ?_)
  refine b_M_nought_5  ?_
  exact H
theorem s_P_isYear {ro : Nat → Int × (Int → Int)} {d : Nat} {b : Bool} {I L : Nat → Int → Int} {Q : Option am_V → am_H → Prop} {x1 : Int}  (H1 : 0 ≤ x1 ∧ x1 ≤ I 1 0 → Q (some (am_I 1)) (sh b, I, L)) (H0 : ¬ (0 ≤ x1 ∧ x1 ≤ I 1 0) → Q (some (am_I 0)) (sh b, I, L)) : am_m ro (d + 2) 47 [am_R 0, am_I x1] (sh b, I, L) Q := by
  refine am_in rfl rfl rfl rfl ?_
  refine b_P_isYear_0  (s_P_within (fun c1 => ?_) (fun c1 => ?_))
  · refine b_P_isYear_12 (by omega) ?_
    exact H1 (by omega)
  · refine b_P_isYear_12 (by omega) ?_
    exact H0 (by omega)
theorem s_P_isClosed {ro : Nat → Int × (Int → Int)} {d : Nat} {b : Bool} {I L : Nat → Int → Int} {Q : Option am_V → am_H → Prop} {x1 : Int} (hp : 0 ≤ I 1 0 ∧ I 1 0 ≤ 40) (H1 : 0 ≤ x1 ∧ x1 < I 1 0 → Q (some (am_I 1)) (sh b, I, L)) (H0 : ¬ (0 ≤ x1 ∧ x1 < I 1 0) → Q (some (am_I 0)) (sh b, I, L)) : am_m ro (d + 2) 48 [am_R 0, am_I x1] (sh b, I, L) Q := by
  refine am_in rfl rfl rfl rfl ?_
  refine b_P_isClosed_0 (by omega) (s_P_within (fun c1 => ?_) (fun c1 => ?_))
  · refine b_P_isClosed_14 (by omega) ?_
    exact H1 (by omega)
  · refine b_P_isClosed_14 (by omega) ?_
    exact H0 (by omega)
theorem s_Libs_has {ro : Nat → Int × (Int → Int)} {d : Nat} {b : Bool} {I L : Nat → Int → Int} {Q : Option am_V → am_H → Prop} {x1 : Int} (hp : 0 ≤ I 2 0 ∧ I 2 0 ≤ 60) (H1 : 0 ≤ x1 ∧ x1 < I 2 0 → Q (some (am_I 1)) (sh b, I, L)) (H0 : ¬ (0 ≤ x1 ∧ x1 < I 2 0) → Q (some (am_I 0)) (sh b, I, L)) : am_m ro (d + 2) 68 [am_R 2, am_I x1] (sh b, I, L) Q := by
  refine am_in rfl rfl rfl rfl ?_
  refine b_Libs_has_0 (by omega) (s_P_within (fun c1 => ?_) (fun c1 => ?_))
  · refine b_Libs_has_11 (by omega) ?_
    exact H1 (by omega)
  · refine b_Libs_has_11 (by omega) ?_
    exact H0 (by omega)
theorem s_Eds_has {ro : Nat → Int × (Int → Int)} {d : Nat} {b : Bool} {I L : Nat → Int → Int} {Q : Option am_V → am_H → Prop} {x1 : Int} (hp : 0 ≤ I 10 0 ∧ I 10 0 ≤ 60) (H1 : 0 ≤ x1 ∧ x1 < I 10 0 → Q (some (am_I 1)) (sh b, I, L)) (H0 : ¬ (0 ≤ x1 ∧ x1 < I 10 0) → Q (some (am_I 0)) (sh b, I, L)) : am_m ro (d + 2) 79 [am_R 10, am_I x1] (sh b, I, L) Q := by
  refine am_in rfl rfl rfl rfl ?_
  refine b_Eds_has_0 (by omega) (s_P_within (fun c1 => ?_) (fun c1 => ?_))
  · refine b_Eds_has_11 (by omega) ?_
    exact H1 (by omega)
  · refine b_Eds_has_11 (by omega) ?_
    exact H0 (by omega)
theorem s_Peo_has {ro : Nat → Int × (Int → Int)} {d : Nat} {b : Bool} {I L : Nat → Int → Int} {Q : Option am_V → am_H → Prop} {x1 : Int} (hp : 0 ≤ I 15 0 ∧ I 15 0 ≤ 60) (H1 : 0 ≤ x1 ∧ x1 < I 15 0 → Q (some (am_I 1)) (sh b, I, L)) (H0 : ¬ (0 ≤ x1 ∧ x1 < I 15 0) → Q (some (am_I 0)) (sh b, I, L)) : am_m ro (d + 2) 83 [am_R 15, am_I x1] (sh b, I, L) Q := by
  refine am_in rfl rfl rfl rfl ?_
  refine b_Peo_has_0 (by omega) (s_P_within (fun c1 => ?_) (fun c1 => ?_))
  · refine b_Peo_has_11 (by omega) ?_
    exact H1 (by omega)
  · refine b_Peo_has_11 (by omega) ?_
    exact H0 (by omega)
theorem s_Shs_has {ro : Nat → Int × (Int → Int)} {d : Nat} {b : Bool} {I L : Nat → Int → Int} {Q : Option am_V → am_H → Prop} {x1 : Int} (hp : 0 ≤ I 22 0 ∧ I 22 0 ≤ 60) (H1 : 0 ≤ x1 ∧ x1 < I 22 0 → Q (some (am_I 1)) (sh b, I, L)) (H0 : ¬ (0 ≤ x1 ∧ x1 < I 22 0) → Q (some (am_I 0)) (sh b, I, L)) : am_m ro (d + 2) 91 [am_R 22, am_I x1] (sh b, I, L) Q := by
  refine am_in rfl rfl rfl rfl ?_
  refine b_Shs_has_0 (by omega) (s_P_within (fun c1 => ?_) (fun c1 => ?_))
  · refine b_Shs_has_11 (by omega) ?_
    exact H1 (by omega)
  · refine b_Shs_has_11 (by omega) ?_
    exact H0 (by omega)
theorem s_Ruls_has {ro : Nat → Int × (Int → Int)} {d : Nat} {b : Bool} {I L : Nat → Int → Int} {Q : Option am_V → am_H → Prop} {x1 : Int} (hp : 0 ≤ I 28 0 ∧ I 28 0 ≤ 60) (H1 : 0 ≤ x1 ∧ x1 < I 28 0 → Q (some (am_I 1)) (sh b, I, L)) (H0 : ¬ (0 ≤ x1 ∧ x1 < I 28 0) → Q (some (am_I 0)) (sh b, I, L)) : am_m ro (d + 2) 98 [am_R 28, am_I x1] (sh b, I, L) Q := by
  refine am_in rfl rfl rfl rfl ?_
  refine b_Ruls_has_0 (by omega) (s_P_within (fun c1 => ?_) (fun c1 => ?_))
  · refine b_Ruls_has_11 (by omega) ?_
    exact H1 (by omega)
  · refine b_Ruls_has_11 (by omega) ?_
    exact H0 (by omega)
theorem s_P_isPair {ro : Nat → Int × (Int → Int)} {d : Nat} {b : Bool} {I L : Nat → Int → Int} {Q : Option am_V → am_H → Prop} {x1 x2 : Int} (hp : (0 ≤ I 2 0 ∧ I 2 0 ≤ 60) ∧ 0 ≤ I 10 0 ∧ I 10 0 ≤ 60) (H1 : (0 ≤ x1 ∧ x1 < I 2 0) ∧ 0 ≤ x2 ∧ x2 < I 10 0 → Q (some (am_I 1)) (sh b, I, L)) (H0 : ¬ ((0 ≤ x1 ∧ x1 < I 2 0) ∧ 0 ≤ x2 ∧ x2 < I 10 0) → Q (some (am_I 0)) (sh b, I, L)) : am_m ro (d + 3) 49 [am_R 0, am_I x1, am_I x2] (sh b, I, L) Q := by
  refine am_in rfl rfl rfl rfl ?_
  refine b_P_isPair_0  (s_Libs_has (by omega) (fun c1 => ?_) (fun c1 => ?_))
  · refine b_P_isPair_11  (fun c2 => absurd c2 (by decide)) (fun c2 => ?_)
    refine b_P_isPair_14  (s_Eds_has (by omega) (fun c3 => ?_) (fun c3 => ?_))
    · refine b_P_isPair_25  (fun c4 => absurd c4 (by decide)) (fun c4 => ?_)
      refine b_P_isPair_28  ?_
      refine b_P_isPair_33 (by omega) ?_
      exact H1 (by omega)
    · refine b_P_isPair_25  (fun c5 => ?_) (fun c5 => absurd c5 (by decide))
      refine b_P_isPair_32  ?_
      refine b_P_isPair_33 (by omega) ?_
      exact H0 (by omega)
  · refine b_P_isPair_11  (fun c6 => ?_) (fun c6 => absurd c6 (by decide))
    refine b_P_isPair_32  ?_
    refine b_P_isPair_33 (by omega) ?_
    exact H0 (by omega)
theorem s_P_isAsked {ro : Nat → Int × (Int → Int)} {d : Nat} {b : Bool} {I L : Nat → Int → Int} {Q : Option am_V → am_H → Prop} {x1 x2 x3 : Int} (hp : 0 ≤ I 22 0 ∧ I 22 0 ≤ 60) (H1 : (0 ≤ x1 ∧ x1 ≤ 5) ∧ (0 ≤ x2 ∧ x2 ≤ I 1 0) ∧ (-1 ≤ x3 ∧ x3 < I 22 0) → Q (some (am_I 1)) (sh b, I, L)) (H0 : ¬ ((0 ≤ x1 ∧ x1 ≤ 5) ∧ (0 ≤ x2 ∧ x2 ≤ I 1 0) ∧ (-1 ≤ x3 ∧ x3 < I 22 0)) → Q (some (am_I 0)) (sh b, I, L)) : am_m ro (d + 3) 50 [am_R 0, am_I x1, am_I x2, am_I x3] (sh b, I, L) Q := by
  refine am_in rfl rfl rfl rfl ?_
  refine b_P_isAsked_0  (s_P_within (fun c1 => ?_) (fun c1 => ?_))
  · refine b_P_isAsked_6  (fun c2 => absurd c2 (by decide)) (fun c2 => ?_)
    refine b_P_isAsked_9  (s_P_isYear (fun c3 => ?_) (fun c3 => ?_))
    · refine b_P_isAsked_14  (fun c4 => absurd c4 (by decide)) (fun c4 => ?_)
      refine b_P_isAsked_17  (fun c5 => ?_) (fun c5 => ?_)
      · refine b_P_isAsked_36  ?_
        refine b_P_isAsked_41 (by omega) ?_
        exact H1 (by omega)
      · refine b_P_isAsked_22  (s_Shs_has (by omega) (fun c6 => ?_) (fun c6 => ?_))
        · refine b_P_isAsked_33  (fun c7 => absurd c7 (by decide)) (fun c7 => ?_)
          refine b_P_isAsked_36  ?_
          refine b_P_isAsked_41 (by omega) ?_
          exact H1 (by omega)
        · refine b_P_isAsked_33  (fun c8 => ?_) (fun c8 => absurd c8 (by decide))
          refine b_P_isAsked_40  ?_
          refine b_P_isAsked_41 (by omega) ?_
          exact H0 (by omega)
    · refine b_P_isAsked_14  (fun c9 => ?_) (fun c9 => absurd c9 (by decide))
      refine b_P_isAsked_40  ?_
      refine b_P_isAsked_41 (by omega) ?_
      exact H0 (by omega)
  · refine b_P_isAsked_6  (fun c10 => ?_) (fun c10 => absurd c10 (by decide))
    refine b_P_isAsked_40  ?_
    refine b_P_isAsked_41 (by omega) ?_
    exact H0 (by omega)
theorem s_Yrs_isDrawn {ro : Nat → Int × (Int → Int)} {d : Nat} {b : Bool} {I L : Nat → Int → Int} {Q : Option am_V → am_H → Prop} {x1 x2 : Int} (hp : 0 ≤ x1 ∧ x1 < 41) (H1 : am_and (am_shr (I 37 x1) x2) 1 = 1 → Q (some (am_I 1)) (sh b, I, L)) (H0 : ¬ (am_and (am_shr (I 37 x1) x2) 1 = 1) → Q (some (am_I 0)) (sh b, I, L)) : am_m ro (d + 1) 106 [am_R 36, am_I x1, am_I x2] (sh b, I, L) Q := by
  refine am_in rfl rfl rfl rfl ?_
  refine b_Yrs_isDrawn_0 (by omega) (fun c1 => ?_) (fun c1 => ?_)
  · refine b_Yrs_isDrawn_18  ?_
    refine b_Yrs_isDrawn_19 (by omega) ?_
    exact H0 (by omega)
  · refine b_Yrs_isDrawn_14  ?_
    refine b_Yrs_isDrawn_19 (by omega) ?_
    exact H1 (by omega)
theorem s_M_isDrawn {ro : Nat → Int × (Int → Int)} {d : Nat} {b : Bool} {I L : Nat → Int → Int} {Q : Option am_V → am_H → Prop} {x1 x2 : Int} (hp : 0 ≤ x1 ∧ x1 < 41) (H1 : am_and (am_shr (I 67 (34 + x1)) x2) 1 = 1 → Q (some (am_I 1)) (sh b, I, L)) (H0 : ¬ (am_and (am_shr (I 67 (34 + x1)) x2) 1 = 1) → Q (some (am_I 0)) (sh b, I, L)) : am_m ro (d + 1) 163 [am_R 66, am_I x1, am_I x2] (sh b, I, L) Q := by
  refine am_in rfl rfl rfl rfl ?_
  refine b_M_isDrawn_0 (by omega) (by omega) (fun c1 => ?_) (fun c1 => ?_)
  · refine b_M_isDrawn_21  ?_
    refine b_M_isDrawn_22 (by omega) ?_
    exact H0 (by omega)
  · refine b_M_isDrawn_17  ?_
    refine b_M_isDrawn_22 (by omega) ?_
    exact H1 (by omega)
theorem s_M_isLibrary {ro : Nat → Int × (Int → Int)} {d : Nat} {b : Bool} {I L : Nat → Int → Int} {Q : Option am_V → am_H → Prop} {x1 : Int} (hp : 0 ≤ I 67 1 ∧ I 67 1 ≤ 60) (H1 : 0 ≤ x1 ∧ x1 < I 67 1 → Q (some (am_I 1)) (sh b, I, L)) (H0 : ¬ (0 ≤ x1 ∧ x1 < I 67 1) → Q (some (am_I 0)) (sh b, I, L)) : am_m ro (d + 2) 158 [am_R 66, am_I x1] (sh b, I, L) Q := by
  refine am_in rfl rfl rfl rfl ?_
  refine b_M_isLibrary_0 (by omega) (s_M_in (fun c1 => ?_) (fun c1 => ?_))
  · refine b_M_isLibrary_13 (by omega) ?_
    exact H1 (by omega)
  · refine b_M_isLibrary_13 (by omega) ?_
    exact H0 (by omega)
theorem s_M_isEdition {ro : Nat → Int × (Int → Int)} {d : Nat} {b : Bool} {I L : Nat → Int → Int} {Q : Option am_V → am_H → Prop} {x1 : Int} (hp : 0 ≤ I 67 2 ∧ I 67 2 ≤ 60) (H1 : 0 ≤ x1 ∧ x1 < I 67 2 → Q (some (am_I 1)) (sh b, I, L)) (H0 : ¬ (0 ≤ x1 ∧ x1 < I 67 2) → Q (some (am_I 0)) (sh b, I, L)) : am_m ro (d + 2) 159 [am_R 66, am_I x1] (sh b, I, L) Q := by
  refine am_in rfl rfl rfl rfl ?_
  refine b_M_isEdition_0 (by omega) (s_M_in (fun c1 => ?_) (fun c1 => ?_))
  · refine b_M_isEdition_13 (by omega) ?_
    exact H1 (by omega)
  · refine b_M_isEdition_13 (by omega) ?_
    exact H0 (by omega)
theorem s_M_isPerson {ro : Nat → Int × (Int → Int)} {d : Nat} {b : Bool} {I L : Nat → Int → Int} {Q : Option am_V → am_H → Prop} {x1 : Int} (hp : 0 ≤ I 67 3 ∧ I 67 3 ≤ 60) (H1 : 0 ≤ x1 ∧ x1 < I 67 3 → Q (some (am_I 1)) (sh b, I, L)) (H0 : ¬ (0 ≤ x1 ∧ x1 < I 67 3) → Q (some (am_I 0)) (sh b, I, L)) : am_m ro (d + 2) 160 [am_R 66, am_I x1] (sh b, I, L) Q := by
  refine am_in rfl rfl rfl rfl ?_
  refine b_M_isPerson_0 (by omega) (s_M_in (fun c1 => ?_) (fun c1 => ?_))
  · refine b_M_isPerson_13 (by omega) ?_
    exact H1 (by omega)
  · refine b_M_isPerson_13 (by omega) ?_
    exact H0 (by omega)
theorem s_M_isYear {ro : Nat → Int × (Int → Int)} {d : Nat} {b : Bool} {I L : Nat → Int → Int} {Q : Option am_V → am_H → Prop} {x1 : Int}  (H1 : 0 ≤ x1 ∧ x1 ≤ I 67 0 → Q (some (am_I 1)) (sh b, I, L)) (H0 : ¬ (0 ≤ x1 ∧ x1 ≤ I 67 0) → Q (some (am_I 0)) (sh b, I, L)) : am_m ro (d + 2) 161 [am_R 66, am_I x1] (sh b, I, L) Q := by
  refine am_in rfl rfl rfl rfl ?_
  refine b_M_isYear_0  (s_M_in (fun c1 => ?_) (fun c1 => ?_))
  · refine b_M_isYear_11 (by omega) ?_
    exact H1 (by omega)
  · refine b_M_isYear_11 (by omega) ?_
    exact H0 (by omega)
theorem s_M_isClosed {ro : Nat → Int × (Int → Int)} {d : Nat} {b : Bool} {I L : Nat → Int → Int} {Q : Option am_V → am_H → Prop} {x1 : Int} (hp : 0 ≤ I 67 0 ∧ I 67 0 ≤ 40) (H1 : 0 ≤ x1 ∧ x1 < I 67 0 → Q (some (am_I 1)) (sh b, I, L)) (H0 : ¬ (0 ≤ x1 ∧ x1 < I 67 0) → Q (some (am_I 0)) (sh b, I, L)) : am_m ro (d + 2) 162 [am_R 66, am_I x1] (sh b, I, L) Q := by
  refine am_in rfl rfl rfl rfl ?_
  refine b_M_isClosed_0 (by omega) (s_M_in (fun c1 => ?_) (fun c1 => ?_))
  · refine b_M_isClosed_13 (by omega) ?_
    exact H1 (by omega)
  · refine b_M_isClosed_13 (by omega) ?_
    exact H0 (by omega)
theorem s_M_isAsked {ro : Nat → Int × (Int → Int)} {d : Nat} {b : Bool} {I L : Nat → Int → Int} {Q : Option am_V → am_H → Prop} {x1 x2 x3 : Int} (hp : 0 ≤ I 67 4 ∧ I 67 4 ≤ 60) (H1 : (0 ≤ x1 ∧ x1 ≤ 5) ∧ (0 ≤ x2 ∧ x2 ≤ I 67 0) ∧ (-1 ≤ x3 ∧ x3 < I 67 4) → Q (some (am_I 1)) (sh b, I, L)) (H0 : ¬ ((0 ≤ x1 ∧ x1 ≤ 5) ∧ (0 ≤ x2 ∧ x2 ≤ I 67 0) ∧ (-1 ≤ x3 ∧ x3 < I 67 4)) → Q (some (am_I 0)) (sh b, I, L)) : am_m ro (d + 3) 212 [am_R 66, am_I x1, am_I x2, am_I x3] (sh b, I, L) Q := by
  refine am_in rfl rfl rfl rfl ?_
  refine b_M_isAsked_0  (s_M_in (fun c1 => ?_) (fun c1 => ?_))
  · refine b_M_isAsked_6  (fun c2 => absurd c2 (by decide)) (fun c2 => ?_)
    refine b_M_isAsked_9  (s_M_isYear (fun c3 => ?_) (fun c3 => ?_))
    · refine b_M_isAsked_14  (fun c4 => absurd c4 (by decide)) (fun c4 => ?_)
      refine b_M_isAsked_17 (by omega) (s_M_in (fun c5 => ?_) (fun c5 => ?_))
      · refine b_M_isAsked_30  (fun c6 => absurd c6 (by decide)) (fun c6 => ?_)
        refine b_M_isAsked_33  ?_
        refine b_M_isAsked_38 (by omega) ?_
        exact H1 (by omega)
      · refine b_M_isAsked_30  (fun c7 => ?_) (fun c7 => absurd c7 (by decide))
        refine b_M_isAsked_37  ?_
        refine b_M_isAsked_38 (by omega) ?_
        exact H0 (by omega)
    · refine b_M_isAsked_14  (fun c8 => ?_) (fun c8 => absurd c8 (by decide))
      refine b_M_isAsked_37  ?_
      refine b_M_isAsked_38 (by omega) ?_
      exact H0 (by omega)
  · refine b_M_isAsked_6  (fun c9 => ?_) (fun c9 => absurd c9 (by decide))
    refine b_M_isAsked_37  ?_
    refine b_M_isAsked_38 (by omega) ?_
    exact H0 (by omega)
theorem s_M_areTwo {ro : Nat → Int × (Int → Int)} {d : Nat} {b : Bool} {I L : Nat → Int → Int} {Q : Option am_V → am_H → Prop} {x1 x2 x3 : Int} (hp : (0 ≤ I 67 2 ∧ I 67 2 ≤ 60) ∧ 0 ≤ I 67 3 ∧ I 67 3 ≤ 60) (H1 : (x1 = 0 ∧ (0 ≤ x2 ∧ x2 < I 67 2) ∧ 0 ≤ x3 ∧ x3 < I 67 2) ∨ (x1 ≠ 0 ∧ (0 ≤ x2 ∧ x2 < I 67 3) ∧ 0 ≤ x3 ∧ x3 < I 67 3) → Q (some (am_I 1)) (sh b, I, L)) (H0 : ¬ ((x1 = 0 ∧ (0 ≤ x2 ∧ x2 < I 67 2) ∧ 0 ≤ x3 ∧ x3 < I 67 2) ∨ (x1 ≠ 0 ∧ (0 ≤ x2 ∧ x2 < I 67 3) ∧ 0 ≤ x3 ∧ x3 < I 67 3)) → Q (some (am_I 0)) (sh b, I, L)) : am_m ro (d + 3) 191 [am_R 66, am_I x1, am_I x2, am_I x3] (sh b, I, L) Q := by
  refine am_in rfl rfl rfl rfl ?_
  refine b_M_areTwo_0  (fun c1 => ?_) (fun c1 => ?_)
  · refine b_M_areTwo_28  (s_M_isPerson (by omega) (fun c2 => ?_) (fun c2 => ?_))
    · refine b_M_areTwo_33  (fun c3 => absurd c3 (by decide)) (fun c3 => ?_)
      refine b_M_areTwo_36  (s_M_isPerson (by omega) (fun c4 => ?_) (fun c4 => ?_))
      · refine b_M_areTwo_41  (fun c5 => absurd c5 (by decide)) (fun c5 => ?_)
        refine b_M_areTwo_44  ?_
        refine b_M_areTwo_49 (by omega) ?_
        exact H1 (by omega)
      · refine b_M_areTwo_41  (fun c6 => ?_) (fun c6 => absurd c6 (by decide))
        refine b_M_areTwo_48  ?_
        refine b_M_areTwo_49 (by omega) ?_
        exact H0 (by omega)
    · refine b_M_areTwo_33  (fun c7 => ?_) (fun c7 => absurd c7 (by decide))
      refine b_M_areTwo_48  ?_
      refine b_M_areTwo_49 (by omega) ?_
      exact H0 (by omega)
  · refine b_M_areTwo_4  (s_M_isEdition (by omega) (fun c8 => ?_) (fun c8 => ?_))
    · refine b_M_areTwo_9  (fun c9 => absurd c9 (by decide)) (fun c9 => ?_)
      refine b_M_areTwo_12  (s_M_isEdition (by omega) (fun c10 => ?_) (fun c10 => ?_))
      · refine b_M_areTwo_17  (fun c11 => absurd c11 (by decide)) (fun c11 => ?_)
        refine b_M_areTwo_20  ?_
        refine b_M_areTwo_49 (by omega) ?_
        exact H1 (by omega)
      · refine b_M_areTwo_17  (fun c12 => ?_) (fun c12 => absurd c12 (by decide))
        refine b_M_areTwo_24  ?_
        refine b_M_areTwo_49 (by omega) ?_
        exact H0 (by omega)
    · refine b_M_areTwo_9  (fun c13 => ?_) (fun c13 => absurd c13 (by decide))
      refine b_M_areTwo_24  ?_
      refine b_M_areTwo_49 (by omega) ?_
      exact H0 (by omega)
theorem s_P_spotOf {ro : Nat → Int × (Int → Int)} {d : Nat} {b : Bool} {I L : Nat → Int → Int} {Q : Option am_V → am_H → Prop} {x0 x1 x2 : Int} (hx : (0 ≤ x0 ∧ x0 ≤ 40) ∧ (0 ≤ x1 ∧ x1 ≤ 12) ∧ 0 ≤ x2 ∧ x2 ≤ 30) (H : Q (some (am_I (x0 * 360 + x1 * 30 + x2))) (sh b, I, L)) : am_m ro (d + 1) 55 [am_I x0, am_I x1, am_I x2] (sh b, I, L) Q := by
  refine am_in rfl rfl rfl rfl ?_
  refine b_P_spotOf_0 (by omega) (by omega) (by omega) (by omega) ?_
  exact H
