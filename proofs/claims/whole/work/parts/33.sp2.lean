theorem o_P_status {ro : Nat → Int × (Int → Int)} {d : Nat} {b : Bool} {I L : Nat → Int → Int} {Q : Option am_V → am_H → Prop} {x1 : Int} (H1 : ¬ (-8 ≤ x1 ∧ x1 ≤ -2) → Q (some (am_I (-7))) (sh b, rfC I (-7), L)) (H2 : -8 ≤ x1 ∧ x1 ≤ -2 → Q (some (am_I (I 65 (-x1)))) (sh b, I, L)) : am_m ro (d + 3) 44 [am_R 0, am_I x1] (sh b, I, L) Q := by
  refine am_in rfl rfl rfl rfl ?_
  refine b_P_status_0  (s_P_within (fun c1 => ?_) (fun c1 => ?_))
  · refine b_P_status_8  (fun c2 => ?_) (fun c2 => absurd c2 (by decide))
    refine b_P_status_18 (by omega) (by omega) ?_
    first | exact H1 (by omega) | exact H2 (by omega)
  · refine b_P_status_8  (fun c3 => absurd c3 (by decide)) (fun c3 => ?_)
    refine b_P_status_11  (s_P_refuse (by omega) ?_)
    refine b_P_status_17  ?_
    first | exact H1 (by omega) | exact H2 (by omega)
theorem o_M_status {ro : Nat → Int × (Int → Int)} {d : Nat} {b : Bool} {I L : Nat → Int → Int} {Q : Option am_V → am_H → Prop} {x1 : Int} (H1 : ¬ (-8 ≤ x1 ∧ x1 ≤ -2) → Q (some (am_I (-7))) (sh b, rfM I (-7), L)) (H2 : -8 ≤ x1 ∧ x1 ≤ -2 → Q (some (am_I (I 71 (-x1)))) (sh b, I, L)) : am_m ro (d + 3) 254 [am_R 66, am_I x1] (sh b, I, L) Q := by
  refine am_in rfl rfl rfl rfl ?_
  refine b_M_status_0  (s_M_in (fun c1 => ?_) (fun c1 => ?_))
  · refine b_M_status_8  (fun c2 => absurd c2 (by decide)) (fun c2 => ?_)
    refine b_M_status_11 (by omega) (by omega) ?_
    refine b_M_status_27  ?_
    first | exact H1 (by omega) | exact H2 (by omega)
  · refine b_M_status_8  (fun c3 => ?_) (fun c3 => absurd c3 (by decide))
    refine b_M_status_21  (s_M_refuse (by omega) ?_)
    refine b_M_status_27  ?_
    first | exact H1 (by omega) | exact H2 (by omega)
theorem A_status {ro : Nat → Int × (Int → Int)} {d : Nat} {b : Bool} {I L : Nat → Int → Int} {x1 : Int} (hI : Inv b I L) : am_m ro (d + 3) 44 [am_R 0, am_I x1] (sh b, I, L) (fun r h => am_m ro (d + 3) 254 [am_R 66, am_I x1] h (fun r2 h2 => Pair r r2 h2)) := by
  obtain ⟨⟨lo, ll, le, ld, lp, ls, lr, ly, lu, lq⟩, hk, hr, ht, hf, hcn⟩ := id hI
  have hr1 := hr.1
  have hr2 := hr.2.1
  have hr3 := hr.2.2.1
  refine o_P_status  (fun a => ?_) (fun a => ?_)
  all_goals refine o_M_status  (fun a2 => ?_) (fun a2 => ?_)
  all_goals first
    | (exfalso; omega)
    | exact Pair_rf hI
    | exact ⟨_, b, I, L, rfl, by rw [hf (-x1) (by omega) (by omega)], rfl, hI⟩
theorem o_P_tear {ro : Nat → Int × (Int → Int)} {d : Nat} {b : Bool} {I L : Nat → Int → Int} {Q : Option am_V → am_H → Prop} (H1 : I 0 6 = -1 → Q (some (am_I 0)) (sh b, am_up I 0 6 (-1), L)) (H2 : ¬ I 0 6 = -1 → Q (some (am_I 1)) (sh b, am_up I 0 6 (-1), L)) : am_m ro (d + 1) 41 [am_R 0] (sh b, I, L) Q := by
  refine am_in rfl rfl rfl rfl ?_
  refine b_P_tear_0  (fun c1 => ?_) (fun c1 => ?_)
  · refine b_P_tear_12  ?_
    refine b_P_tear_13  ?_
    first | exact H1 (by omega) | exact H2 (by omega)
  · refine b_P_tear_8  ?_
    refine b_P_tear_13  ?_
    first | exact H1 (by omega) | exact H2 (by omega)
theorem o_M_tear {ro : Nat → Int × (Int → Int)} {d : Nat} {b : Bool} {I L : Nat → Int → Int} {Q : Option am_V → am_H → Prop} (H1 : I 66 9 < 0 → Q (some (am_I 0)) (sh b, am_up I 66 9 (-1), L)) (H2 : ¬ I 66 9 < 0 → Q (some (am_I 1)) (sh b, am_up I 66 9 (-1), L)) : am_m ro (d + 1) 251 [am_R 66] (sh b, I, L) Q := by
  refine am_in rfl rfl rfl rfl ?_
  refine b_M_tear_0  (fun c1 => ?_) (fun c1 => ?_)
  · refine b_M_tear_11  ?_
    refine b_M_tear_12  ?_
    first | exact H1 (by omega) | exact H2 (by omega)
  · refine b_M_tear_7  ?_
    refine b_M_tear_12  ?_
    first | exact H1 (by omega) | exact H2 (by omega)
theorem Inv_row {b : Bool} {I L I' : Nat → Int → Int} (h : Inv b I L) (hc : ∀ k, k ≠ 0 → k ≠ 64 → k ≠ 66 → k ≠ 74 → I' k = I k) (h66 : ∀ j, j ≠ 9 → I' 66 j = I 66 j) (hr : iRow I') : Inv b I' L := by
  obtain ⟨h1, h2, h3, h4, h5, h6⟩ := id h
  refine Inv_fr h (fun k a1 a2 => hc k (by omega) (by omega) (by omega) (by omega)) (fun _ _ _ => rfl) ⟨hc _ (by omega) (by omega) (by omega) (by omega), hc _ (by omega) (by omega) (by omega) (by omega), hc _ (by omega) (by omega) (by omega) (by omega)⟩ ⟨rfl, rfl, rfl⟩ (fun k a1 => hc k (by omega) (by omega) (by omega) (by omega)) (fun _ _ => rfl) ⟨h66 _ (by omega), h66 _ (by omega)⟩ hr ?_ ?_
  · unfold iTap at h4 ⊢
    rw [hc 45 (by omega) (by omega) (by omega) (by omega), hc 46 (by omega) (by omega) (by omega) (by omega), hc 73 (by omega) (by omega) (by omega) (by omega), h66 8 (by omega)]
    exact h4
  · unfold iRef at h5 ⊢
    rw [hc 65 (by omega) (by omega) (by omega) (by omega), hc 71 (by omega) (by omega) (by omega) (by omega)]
    exact h5
theorem A_tear {ro : Nat → Int × (Int → Int)} {d : Nat} {b : Bool} {I L : Nat → Int → Int} (hI : Inv b I L) : am_m ro (d + 1) 41 [am_R 0] (sh b, I, L) (fun r h => am_m ro (d + 1) 251 [am_R 66] h (fun r2 h2 => Pair r r2 h2)) := by
  obtain ⟨⟨lo, ll, le, ld, lp, ls, lr, ly, lu, lq⟩, hk, hr, ht, hf, hcn⟩ := id hI
  have hr1 := hr.1
  have hr2 := hr.2.1
  have hr3 := hr.2.2.1
  refine o_P_tear  (fun a => ?_) (fun a => ?_)
  all_goals refine o_M_tear  (fun a2 => ?_) (fun a2 => ?_)
  all_goals first
    | (exfalso; omega)
    | (exfalso; unfold iRow at hr; grind [rfC, am_up])
    | exact ⟨_, b, _, L, rfl, rfl, rfl, Inv_row hI (by intro k q1 q2 q3 q4; grind [am_up]) (by intro j q; grind [am_up]) (by unfold iRow at hr ⊢; grind [am_up])⟩
theorem o_P_row {ro : Nat → Int × (Int → Int)} {d : Nat} {b : Bool} {I L : Nat → Int → Int} {Q : Option am_V → am_H → Prop} {x1 : Int} (hp : -1 ≤ I 0 6 ∧ I 0 6 ≤ 12) (H1 : I 0 6 = -1 → Q (some (am_I 0)) (sh b, rfC I (-2), L)) (H2 : ¬ I 0 6 = -1 ∧ ¬ (0 ≤ x1 ∧ x1 < I 0 6) → Q (some (am_I 0)) (sh b, rfC I (-3), L)) (H3 : ¬ I 0 6 = -1 ∧ (0 ≤ x1 ∧ x1 < I 0 6) → Q (some (am_I (I 64 x1))) (sh b, I, L)) : am_m ro (d + 3) 42 [am_R 0, am_I x1] (sh b, I, L) Q := by
  refine am_in rfl rfl rfl rfl ?_
  refine b_P_row_0  (fun c1 => ?_) (fun c1 => ?_)
  · refine b_P_row_15 (by omega) (s_P_within (fun c2 => ?_) (fun c2 => ?_))
    · refine b_P_row_26  (fun c3 => ?_) (fun c3 => absurd c3 (by decide))
      refine b_P_row_36 (by omega) ?_
      first | exact H1 (by omega) | exact H2 (by omega) | exact H3 (by omega)
    · refine b_P_row_26  (fun c4 => absurd c4 (by decide)) (fun c4 => ?_)
      refine b_P_row_29  (s_P_refuseAsZero (by omega) ?_)
      refine b_P_row_35  ?_
      first | exact H1 (by omega) | exact H2 (by omega) | exact H3 (by omega)
  · refine b_P_row_8  (s_P_refuseAsZero (by omega) ?_)
    refine b_P_row_14  ?_
    first | exact H1 (by omega) | exact H2 (by omega) | exact H3 (by omega)
theorem o_M_row {ro : Nat → Int × (Int → Int)} {d : Nat} {b : Bool} {I L : Nat → Int → Int} {Q : Option am_V → am_H → Prop} {x1 : Int} (hp : -1 ≤ I 66 9 ∧ I 66 9 ≤ 12) (H1 : I 66 9 < 0 → Q (some (am_I 0)) (sh b, rfM I (-2), L)) (H2 : 0 ≤ I 66 9 ∧ ¬ (0 ≤ x1 ∧ x1 < I 66 9) → Q (some (am_I 0)) (sh b, rfM I (-3), L)) (H3 : 0 ≤ I 66 9 ∧ (0 ≤ x1 ∧ x1 < I 66 9) → Q (some (am_I (I 74 x1))) (sh b, I, L)) : am_m ro (d + 3) 252 [am_R 66, am_I x1] (sh b, I, L) Q := by
  refine am_in rfl rfl rfl rfl ?_
  refine b_M_row_0  (fun c1 => ?_) (fun c1 => ?_)
  · refine b_M_row_14 (by omega) (s_M_in (fun c2 => ?_) (fun c2 => ?_))
    · refine b_M_row_25  (fun c3 => absurd c3 (by decide)) (fun c3 => ?_)
      refine b_M_row_28 (by omega) ?_
      refine b_M_row_43  ?_
      first | exact H1 (by omega) | exact H2 (by omega) | exact H3 (by omega)
    · refine b_M_row_25  (fun c4 => ?_) (fun c4 => absurd c4 (by decide))
      refine b_M_row_37  (s_M_nought (by omega) ?_)
      refine b_M_row_43  ?_
      first | exact H1 (by omega) | exact H2 (by omega) | exact H3 (by omega)
  · refine b_M_row_7  (s_M_nought (by omega) ?_)
    refine b_M_row_13  ?_
    first | exact H1 (by omega) | exact H2 (by omega) | exact H3 (by omega)
theorem A_row {ro : Nat → Int × (Int → Int)} {d : Nat} {b : Bool} {I L : Nat → Int → Int} {x1 : Int} (hI : Inv b I L) : am_m ro (d + 3) 42 [am_R 0, am_I x1] (sh b, I, L) (fun r h => am_m ro (d + 3) 252 [am_R 66, am_I x1] h (fun r2 h2 => Pair r r2 h2)) := by
  obtain ⟨⟨lo, ll, le, ld, lp, ls, lr, ly, lu, lq⟩, hk, hr, ht, hf, hcn⟩ := id hI
  have hr1 := hr.1
  have hr2 := hr.2.1
  have hr3 := hr.2.2.1
  refine o_P_row (by obtain ⟨w1, w2, w3, -⟩ := hr; omega) (fun a => ?_) (fun a => ?_) (fun a => ?_)
  all_goals refine o_M_row (by unfold iRow at hr; grind [rfC, am_up]) (fun a2 => ?_) (fun a2 => ?_) (fun a2 => ?_)
  all_goals first
    | (exfalso; omega)
    | (exfalso; unfold iRow at hr; grind [rfC, am_up])
    | exact Pair_rf hI
    | exact ⟨_, b, I, L, rfl, by rw [hr.2.2.2 x1 (by omega) (by omega)], rfl, hI⟩
theorem o_P_set {ro : Nat → Int × (Int → Int)} {d : Nat} {b : Bool} {I L : Nat → Int → Int} {Q : Option am_V → am_H → Prop} {x1 x2 : Int} (hp : -1 ≤ I 0 6 ∧ I 0 6 ≤ 12) (H1 : I 0 6 = -1 → Q (some (am_I 0)) (sh b, rfC I (-2), L)) (H2 : ¬ I 0 6 = -1 ∧ ¬ (0 ≤ x1 ∧ x1 < I 0 6) → Q (some (am_I 0)) (sh b, rfC I (-3), L)) (H3 : ¬ I 0 6 = -1 ∧ (0 ≤ x1 ∧ x1 < I 0 6) → Q (some (am_I (I 64 x1))) (sh b, am_up I 64 x1 x2, L)) : am_m ro (d + 3) 40 [am_R 0, am_I x1, am_I x2] (sh b, I, L) Q := by
  refine am_in rfl rfl rfl rfl ?_
  refine b_P_set_0  (fun c1 => ?_) (fun c1 => ?_)
  · refine b_P_set_15 (by omega) (s_P_within (fun c2 => ?_) (fun c2 => ?_))
    · refine b_P_set_26  (fun c3 => ?_) (fun c3 => absurd c3 (by decide))
      refine b_P_set_36 (by omega) (by omega) ?_
      first | exact H1 (by omega) | exact H2 (by omega) | exact H3 (by omega)
    · refine b_P_set_26  (fun c4 => absurd c4 (by decide)) (fun c4 => ?_)
      refine b_P_set_29  (s_P_refuseAsZero (by omega) ?_)
      refine b_P_set_35  ?_
      first | exact H1 (by omega) | exact H2 (by omega) | exact H3 (by omega)
  · refine b_P_set_8  (s_P_refuseAsZero (by omega) ?_)
    refine b_P_set_14  ?_
    first | exact H1 (by omega) | exact H2 (by omega) | exact H3 (by omega)
theorem o_M_set {ro : Nat → Int × (Int → Int)} {d : Nat} {b : Bool} {I L : Nat → Int → Int} {Q : Option am_V → am_H → Prop} {x1 x2 : Int} (hp : -1 ≤ I 66 9 ∧ I 66 9 ≤ 12) (H1 : I 66 9 < 0 → Q (some (am_I 0)) (sh b, rfM I (-2), L)) (H2 : 0 ≤ I 66 9 ∧ ¬ (0 ≤ x1 ∧ x1 < I 66 9) → Q (some (am_I 0)) (sh b, rfM I (-3), L)) (H3 : 0 ≤ I 66 9 ∧ (0 ≤ x1 ∧ x1 < I 66 9) → Q (some (am_I (I 74 x1))) (sh b, am_up I 74 x1 x2, L)) : am_m ro (d + 3) 250 [am_R 66, am_I x1, am_I x2] (sh b, I, L) Q := by
  refine am_in rfl rfl rfl rfl ?_
  refine b_M_set_0  (fun c1 => ?_) (fun c1 => ?_)
  · refine b_M_set_14 (by omega) (s_M_in (fun c2 => ?_) (fun c2 => ?_))
    · refine b_M_set_25  (fun c3 => ?_) (fun c3 => absurd c3 (by decide))
      refine b_M_set_35 (by omega) (by omega) ?_
      first | exact H1 (by omega) | exact H2 (by omega) | exact H3 (by omega)
    · refine b_M_set_25  (fun c4 => absurd c4 (by decide)) (fun c4 => ?_)
      refine b_M_set_28  (s_M_nought (by omega) ?_)
      refine b_M_set_34  ?_
      first | exact H1 (by omega) | exact H2 (by omega) | exact H3 (by omega)
  · refine b_M_set_7  (s_M_nought (by omega) ?_)
    refine b_M_set_13  ?_
    first | exact H1 (by omega) | exact H2 (by omega) | exact H3 (by omega)
theorem A_set {ro : Nat → Int × (Int → Int)} {d : Nat} {b : Bool} {I L : Nat → Int → Int} {x1 x2 : Int} (hI : Inv b I L) : am_m ro (d + 3) 40 [am_R 0, am_I x1, am_I x2] (sh b, I, L) (fun r h => am_m ro (d + 3) 250 [am_R 66, am_I x1, am_I x2] h (fun r2 h2 => Pair r r2 h2)) := by
  obtain ⟨⟨lo, ll, le, ld, lp, ls, lr, ly, lu, lq⟩, hk, hr, ht, hf, hcn⟩ := id hI
  have hr1 := hr.1
  have hr2 := hr.2.1
  have hr3 := hr.2.2.1
  refine o_P_set (by obtain ⟨w1, w2, w3, -⟩ := hr; omega) (fun a => ?_) (fun a => ?_) (fun a => ?_)
  all_goals refine o_M_set (by unfold iRow at hr; grind [rfC, am_up]) (fun a2 => ?_) (fun a2 => ?_) (fun a2 => ?_)
  all_goals first
    | (exfalso; omega)
    | (exfalso; unfold iRow at hr; grind [rfC, am_up])
    | exact Pair_rf hI
    | exact ⟨_, b, _, L, rfl, by simp only [am_up]; rw [hr.2.2.2 x1 (by omega) (by omega)]; simp, rfl, Inv_row hI (by intro k q1 q2 q3 q4; grind [am_up]) (by intro j q; grind [am_up]) (by unfold iRow at hr ⊢; grind [am_up])⟩
theorem o_P_wipe {ro : Nat → Int × (Int → Int)} {d : Nat} {b : Bool} {I L : Nat → Int → Int} {Q : Option am_V → am_H → Prop} (H1 : True → Q (some (am_I (I 45 1))) (sh b, am_up I 45 1 0, L)) : am_m ro (d + 1) 20 [am_R 0] (sh b, I, L) Q := by
  refine am_in rfl rfl rfl rfl ?_
  refine b_P_wipe_0  ?_
  first | exact H1 trivial
theorem o_M_wipe {ro : Nat → Int × (Int → Int)} {d : Nat} {b : Bool} {I L : Nat → Int → Int} {Q : Option am_V → am_H → Prop} (H1 : True → Q (some (am_I (I 66 8))) (sh b, am_up I 66 8 0, L)) : am_m ro (d + 1) 195 [am_R 66] (sh b, I, L) Q := by
  refine am_in rfl rfl rfl rfl ?_
  refine b_M_wipe_0  ?_
  first | exact H1 trivial
theorem Inv_tap {b : Bool} {I L I' : Nat → Int → Int} (h : Inv b I L) (hc : ∀ k, k ≠ 45 → k ≠ 46 → k ≠ 66 → k ≠ 73 → I' k = I k) (h66 : ∀ j, j ≠ 8 → I' 66 j = I 66 j) (ht : iTap I') : Inv b I' L := by
  obtain ⟨h1, h2, h3, h4, h5, h6⟩ := id h
  refine Inv_fr h (fun k a1 a2 => hc k (by omega) (by omega) (by omega) (by omega)) (fun _ _ _ => rfl) ⟨hc _ (by omega) (by omega) (by omega) (by omega), hc _ (by omega) (by omega) (by omega) (by omega), hc _ (by omega) (by omega) (by omega) (by omega)⟩ ⟨rfl, rfl, rfl⟩ (fun k a1 => hc k (by omega) (by omega) (by omega) (by omega)) (fun _ _ => rfl) ⟨h66 _ (by omega), h66 _ (by omega)⟩ ?_ ht ?_
  · unfold iRow at h3 ⊢
    rw [hc 0 (by omega) (by omega) (by omega) (by omega), hc 64 (by omega) (by omega) (by omega) (by omega), hc 74 (by omega) (by omega) (by omega) (by omega), h66 9 (by omega)]
    exact h3
  · unfold iRef at h5 ⊢
    rw [hc 65 (by omega) (by omega) (by omega) (by omega), hc 71 (by omega) (by omega) (by omega) (by omega)]
    exact h5
theorem A_wipe {ro : Nat → Int × (Int → Int)} {d : Nat} {b : Bool} {I L : Nat → Int → Int} (hI : Inv b I L) : am_m ro (d + 1) 20 [am_R 0] (sh b, I, L) (fun r h => am_m ro (d + 1) 195 [am_R 66] h (fun r2 h2 => Pair r r2 h2)) := by
  obtain ⟨⟨lo, ll, le, ld, lp, ls, lr, ly, lu, lq⟩, hk, hr, ht, hf, hcn⟩ := id hI
  have hr1 := hr.1
  have hr2 := hr.2.1
  have hr3 := hr.2.2.1
  refine o_P_wipe  (fun a => ?_)
  all_goals refine o_M_wipe  (fun a2 => ?_)
  all_goals first
    | (exfalso; omega)
    | exact ⟨_, b, _, L, rfl, by rw [upn (by decide), ht.1], rfl, Inv_tap hI (by intro k q1 q2 q3 q4; grind [am_up]) (by intro j q; grind [am_up]) (by unfold iTap at ht ⊢; grind [am_up])⟩
