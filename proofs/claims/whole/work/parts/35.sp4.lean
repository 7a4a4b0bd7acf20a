theorem o_P_year {ro : Nat → Int × (Int → Int)} {d : Nat} {b : Bool} {I L : Nat → Int → Int} {Q : Option am_V → am_H → Prop} {x1 x2 : Int} (hp : 0 ≤ I 1 0 ∧ I 1 0 ≤ 40) (H1 : ¬ (0 ≤ x1 ∧ x1 ≤ I 1 0) → Q (some (am_L 0)) (sh b, rfC I (-3), L)) (H2 : (0 ≤ x1 ∧ x1 ≤ I 1 0) ∧ ¬ (0 ≤ x2 ∧ x2 ≤ 8) → Q (some (am_L 0)) (sh b, rfC I (-7), L)) (H3 : (0 ≤ x1 ∧ x1 ≤ I 1 0) ∧ x2 = 0 → Q (some (am_L (I 37 x1))) (sh b, I, L)) (H4 : (0 ≤ x1 ∧ x1 ≤ I 1 0) ∧ 1 ≤ x2 ∧ x2 ≤ 4 → Q (some (am_L (I 38 (x1 * 4 + x2 - 1)))) (sh b, I, L)) (H5 : (0 ≤ x1 ∧ x1 ≤ I 1 0) ∧ x2 = 5 → Q (some (am_L (I 39 x1))) (sh b, I, L)) (H6 : (0 ≤ x1 ∧ x1 ≤ I 1 0) ∧ x2 = 6 → Q (some (am_L (L 40 x1))) (sh b, I, L)) (H7 : (0 ≤ x1 ∧ x1 ≤ I 1 0) ∧ x2 = 7 → Q (some (am_L (L 41 x1))) (sh b, I, L)) (H8 : (0 ≤ x1 ∧ x1 ≤ I 1 0) ∧ x2 = 8 → Q (some (am_L (L 42 x1))) (sh b, I, L)) : am_m ro (d + 3) 8 [am_R 0, am_I x1, am_I x2] (sh b, I, L) Q := by
  refine am_in rfl rfl rfl rfl ?_
  refine b_P_year_0  (s_P_isYear (fun c1 => ?_) (fun c1 => ?_))
  · refine b_P_year_5  (fun c2 => ?_) (fun c2 => absurd c2 (by decide))
    refine b_P_year_16  (fun c3 => ?_) (fun c3 => ?_) (fun c3 => ?_) (fun c3 => ?_) (fun c3 => ?_) (fun c3 => ?_) (fun c3 => ?_) (fun c3 => ?_) (fun c3 => ?_) (fun c3_0 c3_1 c3_2 c3_3 c3_4 c3_5 c3_6 c3_7 c3_8 => ?_)
    · refine b_P_year_76 (by omega) ?_
      first | exact H1 (by omega) | exact H2 (by omega) | exact H3 (by omega) | exact H4 (by omega) | exact H5 (by omega) | exact H6 (by omega) | exact H7 (by omega) | exact H8 (by omega)
    · refine b_P_year_84 (by omega) (by omega) (by omega) (by omega) ?_
      first | exact H1 (by omega) | exact H2 (by omega) | exact H3 (by omega) | exact H4 (by omega) | exact H5 (by omega) | exact H6 (by omega) | exact H7 (by omega) | exact H8 (by omega)
    · refine b_P_year_84 (by omega) (by omega) (by omega) (by omega) ?_
      first | exact H1 (by omega) | exact H2 (by omega) | exact H3 (by omega) | exact H4 (by omega) | exact H5 (by omega) | exact H6 (by omega) | exact H7 (by omega) | exact H8 (by omega)
    · refine b_P_year_84 (by omega) (by omega) (by omega) (by omega) ?_
      first | exact H1 (by omega) | exact H2 (by omega) | exact H3 (by omega) | exact H4 (by omega) | exact H5 (by omega) | exact H6 (by omega) | exact H7 (by omega) | exact H8 (by omega)
    · refine b_P_year_84 (by omega) (by omega) (by omega) (by omega) ?_
      first | exact H1 (by omega) | exact H2 (by omega) | exact H3 (by omega) | exact H4 (by omega) | exact H5 (by omega) | exact H6 (by omega) | exact H7 (by omega) | exact H8 (by omega)
    · refine b_P_year_98 (by omega) ?_
      first | exact H1 (by omega) | exact H2 (by omega) | exact H3 (by omega) | exact H4 (by omega) | exact H5 (by omega) | exact H6 (by omega) | exact H7 (by omega) | exact H8 (by omega)
    · refine b_P_year_106 (by omega) ?_
      first | exact H1 (by omega) | exact H2 (by omega) | exact H3 (by omega) | exact H4 (by omega) | exact H5 (by omega) | exact H6 (by omega) | exact H7 (by omega) | exact H8 (by omega)
    · refine b_P_year_113 (by omega) ?_
      first | exact H1 (by omega) | exact H2 (by omega) | exact H3 (by omega) | exact H4 (by omega) | exact H5 (by omega) | exact H6 (by omega) | exact H7 (by omega) | exact H8 (by omega)
    · refine b_P_year_120 (by omega) ?_
      first | exact H1 (by omega) | exact H2 (by omega) | exact H3 (by omega) | exact H4 (by omega) | exact H5 (by omega) | exact H6 (by omega) | exact H7 (by omega) | exact H8 (by omega)
    · refine b_P_year_127  (s_P_refuseAsZero (by omega) ?_)
      refine b_P_year_133  ?_
      first | exact H1 (by omega) | exact H2 (by omega) | exact H3 (by omega) | exact H4 (by omega) | exact H5 (by omega) | exact H6 (by omega) | exact H7 (by omega) | exact H8 (by omega)
  · refine b_P_year_5  (fun c4 => absurd c4 (by decide)) (fun c4 => ?_)
    refine b_P_year_8  (s_P_refuseAsZero (by omega) ?_)
    refine b_P_year_14  ?_
    first | exact H1 (by omega) | exact H2 (by omega) | exact H3 (by omega) | exact H4 (by omega) | exact H5 (by omega) | exact H6 (by omega) | exact H7 (by omega) | exact H8 (by omega)
theorem o_M_year {ro : Nat → Int × (Int → Int)} {d : Nat} {b : Bool} {I L : Nat → Int → Int} {Q : Option am_V → am_H → Prop} {x1 x2 : Int} (hp : 0 ≤ I 67 0 ∧ I 67 0 ≤ 40) (H1 : ¬ (0 ≤ x1 ∧ x1 ≤ I 67 0) → Q (some (am_L 0)) (sh b, rfM I (-3), L)) (H2 : (0 ≤ x1 ∧ x1 ≤ I 67 0) ∧ ¬ (0 ≤ x2 ∧ x2 ≤ 8) → Q (some (am_L 0)) (sh b, rfM I (-7), L)) (H3 : (0 ≤ x1 ∧ x1 ≤ I 67 0) ∧ x2 = 0 → Q (some (am_L (I 67 (34 + x1)))) (sh b, I, L)) (H4 : (0 ≤ x1 ∧ x1 ≤ I 67 0) ∧ 1 ≤ x2 ∧ x2 ≤ 4 → Q (some (am_L (I 67 (75 + 4 * x1 + x2 - 1)))) (sh b, I, L)) (H5 : (0 ≤ x1 ∧ x1 ≤ I 67 0) ∧ x2 = 5 → Q (some (am_L (I 67 (239 + x1)))) (sh b, I, L)) (H6 : (0 ≤ x1 ∧ x1 ≤ I 67 0) ∧ 6 ≤ x2 ∧ x2 ≤ 8 → Q (some (am_L (L 69 (41 * (x2 - 6) + x1)))) (sh b, I, L)) : am_m ro (d + 4) 174 [am_R 66, am_I x1, am_I x2] (sh b, I, L) Q := by
  refine am_in rfl rfl rfl rfl ?_
  refine b_M_year_0  (s_M_isYear (fun c1 => ?_) (fun c1 => ?_))
  · refine b_M_year_5  (fun c2 => ?_) (fun c2 => absurd c2 (by decide))
    refine b_M_year_16  (s_M_in (fun c3 => ?_) (fun c3 => ?_))
    · refine b_M_year_23  (fun c4 => ?_) (fun c4 => absurd c4 (by decide))
      refine b_M_year_34  (fun c5 => ?_) (fun c5 => ?_)
      · refine b_M_year_51  (fun c6 => ?_) (fun c6 => ?_)
        · refine b_M_year_75  (fun c7 => ?_) (fun c7 => ?_)
          · refine b_M_year_94 (by omega) (by omega) (by omega) (by omega) ?_
            refine b_M_year_108  ?_
            first | exact H1 (by omega) | exact H2 (by omega) | exact H3 (by omega) | exact H4 (by omega) | exact H5 (by omega) | exact H6 (by omega)
          · refine b_M_year_80 (by omega) (by omega) ?_
            refine b_M_year_108  ?_
            first | exact H1 (by omega) | exact H2 (by omega) | exact H3 (by omega) | exact H4 (by omega) | exact H5 (by omega) | exact H6 (by omega)
        · refine b_M_year_56 (by omega) (by omega) (by omega) (by omega) (by omega) ?_
          refine b_M_year_108  ?_
          first | exact H1 (by omega) | exact H2 (by omega) | exact H3 (by omega) | exact H4 (by omega) | exact H5 (by omega) | exact H6 (by omega)
      · refine b_M_year_38 (by omega) (by omega) ?_
        refine b_M_year_108  ?_
        first | exact H1 (by omega) | exact H2 (by omega) | exact H3 (by omega) | exact H4 (by omega) | exact H5 (by omega) | exact H6 (by omega)
    · refine b_M_year_23  (fun c8 => absurd c8 (by decide)) (fun c8 => ?_)
      refine b_M_year_26  (s_M_nought (by omega) ?_)
      refine b_M_year_32  ?_
      first | exact H1 (by omega) | exact H2 (by omega) | exact H3 (by omega) | exact H4 (by omega) | exact H5 (by omega) | exact H6 (by omega)
  · refine b_M_year_5  (fun c9 => absurd c9 (by decide)) (fun c9 => ?_)
    refine b_M_year_8  (s_M_nought (by omega) ?_)
    refine b_M_year_14  ?_
    first | exact H1 (by omega) | exact H2 (by omega) | exact H3 (by omega) | exact H4 (by omega) | exact H5 (by omega) | exact H6 (by omega)
set_option maxHeartbeats 400000 in
theorem A_year {ro : Nat → Int × (Int → Int)} {d : Nat} {b : Bool} {I L : Nat → Int → Int} {x1 x2 : Int} (hI : Inv b I L) : am_m ro (d + 4) 8 [am_R 0, am_I x1, am_I x2] (sh b, I, L) (fun r h => am_m ro (d + 4) 174 [am_R 66, am_I x1, am_I x2] h (fun r2 h2 => Pair r r2 h2)) := by
  obtain ⟨⟨lo, ll, le, ld, lp, ls, lr, ly, lu, lq⟩, hk, hr, ht, hf, hcn⟩ := id hI
  have hr1 := hr.1
  have hr2 := hr.2.1
  have hr3 := hr.2.2.1
  have lo1 := lo.1
  have lo2 := lo.2
  have ll1 := ll.1
  have ll2 := ll.2.1
  have ll3 := ll.2.2.1
  have ld1 := ld.1
  have ld2 := ld.2.1
  have ld3 := ld.2.2.1
  have lp1 := lp.1
  have lp2 := lp.2.1
  have lp3 := lp.2.2.1
  have ls1 := ls.1
  have ls2 := ls.2.1
  have ls3 := ls.2.2.1
  refine o_P_year (by omega) (fun a => ?_) (fun a => ?_) (fun a => ?_) (fun a => ?_) (fun a => ?_) (fun a => ?_) (fun a => ?_) (fun a => ?_)
  all_goals refine o_M_year (by clear hI lo ll le ld lp ls lr ly lu lq hk hr ht hf hcn; grind [rfC, am_up]) (fun a2 => ?_) (fun a2 => ?_) (fun a2 => ?_) (fun a2 => ?_) (fun a2 => ?_) (fun a2 => ?_)
  all_goals (try simp (disch := omega) only [upo, upm, ups, rfm] at a2 ⊢)
  all_goals first
    | (exfalso; omega)
    | exact Pair_rf hI
    | (exfalso; clear hI lo ll le ld lp ls lr ly lu lq hk hr ht hf hcn; grind [rfC, am_up])
    | exact ⟨_, b, I, L, rfl, by obtain ⟨g1, g2, g3, g4⟩ := ly; have w1 := g1 x1 (by omega) (by omega); rw [w1.1], rfl, hI⟩
    | exact ⟨_, b, I, L, rfl, by obtain ⟨g1, g2, g3, g4⟩ := ly; have w1 := g1 x1 (by omega) (by omega); have w3 := g3 (x1 * 4 + x2 - 1) (by omega) (by omega); rw [w3.1]; congr 3; omega, rfl, hI⟩
    | exact ⟨_, b, I, L, rfl, by obtain ⟨g1, g2, g3, g4⟩ := ly; have w1 := g1 x1 (by omega) (by omega); rw [w1.2.1], rfl, hI⟩
    | exact ⟨_, b, I, L, rfl, by obtain ⟨g1, g2, g3, g4⟩ := ly; have w1 := g1 x1 (by omega) (by omega); rw [w1.2.2.1]; congr 3; omega, rfl, hI⟩
    | exact ⟨_, b, I, L, rfl, by obtain ⟨g1, g2, g3, g4⟩ := ly; have w1 := g1 x1 (by omega) (by omega); rw [w1.2.2.2.1]; congr 3; omega, rfl, hI⟩
    | exact ⟨_, b, I, L, rfl, by obtain ⟨g1, g2, g3, g4⟩ := ly; have w1 := g1 x1 (by omega) (by omega); rw [w1.2.2.2.2]; congr 3; omega, rfl, hI⟩
theorem o_P_died {ro : Nat → Int × (Int → Int)} {d : Nat} {b : Bool} {I L : Nat → Int → Int} {Q : Option am_V → am_H → Prop} {x1 x2 : Int} (hp : (0 ≤ I 15 0 ∧ I 15 0 ≤ 20) ∧ 0 ≤ I 1 0 ∧ I 1 0 ≤ 40) (H1 : ¬ (0 ≤ x1 ∧ x1 < I 15 0) → Q (some (am_I 0)) (sh b, rfC I (-3), L)) (H2 : (0 ≤ x1 ∧ x1 < I 15 0) ∧ ¬ (-99 ≤ x2 ∧ I 18 x1 ≤ x2 ∧ x2 ≤ I 1 0) → Q (some (am_I 0)) (sh b, rfC I (-7), L)) (H3 : (0 ≤ x1 ∧ x1 < I 15 0) ∧ (-99 ≤ x2 ∧ I 18 x1 ≤ x2 ∧ x2 ≤ I 1 0) → Q (some (am_I (I 19 x1))) (sh b, am_up I 19 x1 x2, L)) : am_m ro (d + 3) 11 [am_R 0, am_I x1, am_I x2] (sh b, I, L) Q := by
  refine am_in rfl rfl rfl rfl ?_
  refine b_P_died_0  (s_Peo_has (by omega) (fun c1 => ?_) (fun c1 => ?_))
  · refine b_P_died_13  (fun c2 => ?_) (fun c2 => absurd c2 (by decide))
    refine b_P_died_23 (by omega) (s_P_within (fun c3 => ?_) (fun c3 => ?_))
    · refine b_P_died_49  (fun c4 => ?_) (fun c4 => absurd c4 (by decide))
      refine b_P_died_59 (by omega) (by omega) ?_
      first | exact H1 (by omega) | exact H2 (by omega) | exact H3 (by omega)
    · refine b_P_died_49  (fun c5 => absurd c5 (by decide)) (fun c5 => ?_)
      refine b_P_died_52  (s_P_refuseAsZero (by omega) ?_)
      refine b_P_died_58  ?_
      first | exact H1 (by omega) | exact H2 (by omega) | exact H3 (by omega)
  · refine b_P_died_13  (fun c6 => absurd c6 (by decide)) (fun c6 => ?_)
    refine b_P_died_16  (s_P_refuseAsZero (by omega) ?_)
    refine b_P_died_22  ?_
    first | exact H1 (by omega) | exact H2 (by omega) | exact H3 (by omega)
theorem o_M_died {ro : Nat → Int × (Int → Int)} {d : Nat} {b : Bool} {I L : Nat → Int → Int} {Q : Option am_V → am_H → Prop} {x1 x2 : Int} (hp : (0 ≤ I 67 3 ∧ I 67 3 ≤ 20) ∧ 0 ≤ I 67 0 ∧ I 67 0 ≤ 40) (H1 : ¬ (0 ≤ x1 ∧ x1 < I 67 3) → Q (some (am_I 0)) (sh b, rfM I (-3), L)) (H2 : (0 ≤ x1 ∧ x1 < I 67 3) ∧ ¬ (-99 ≤ x2 ∧ I 67 (440 + x1) ≤ x2 ∧ x2 ≤ I 67 0) → Q (some (am_I 0)) (sh b, rfM I (-7), L)) (H3 : (0 ≤ x1 ∧ x1 < I 67 3) ∧ (-99 ≤ x2 ∧ I 67 (440 + x1) ≤ x2 ∧ x2 ≤ I 67 0) → Q (some (am_I (I 67 (460 + x1)))) (sh b, am_up I 67 (460 + x1) x2, L)) : am_m ro (d + 3) 177 [am_R 66, am_I x1, am_I x2] (sh b, I, L) Q := by
  refine am_in rfl rfl rfl rfl ?_
  refine b_M_died_0  (s_M_isPerson (by omega) (fun c1 => ?_) (fun c1 => ?_))
  · refine b_M_died_5  (fun c2 => ?_) (fun c2 => absurd c2 (by decide))
    refine b_M_died_15  (s_M_in (fun c3 => ?_) (fun c3 => ?_))
    · refine b_M_died_27  (fun c4 => absurd c4 (by decide)) (fun c4 => ?_)
      refine b_M_died_30 (by omega) (by omega) (fun c5 => ?_) (fun c5 => ?_)
      · refine b_M_died_51 (by omega) (by omega) (by omega) (by omega) ?_
        first | exact H1 (by omega) | exact H2 (by omega) | exact H3 (by omega)
      · refine b_M_died_44  (s_M_nought (by omega) ?_)
        refine b_M_died_50  ?_
        first | exact H1 (by omega) | exact H2 (by omega) | exact H3 (by omega)
    · refine b_M_died_27  (fun c6 => ?_) (fun c6 => absurd c6 (by decide))
      refine b_M_died_44  (s_M_nought (by omega) ?_)
      refine b_M_died_50  ?_
      first | exact H1 (by omega) | exact H2 (by omega) | exact H3 (by omega)
  · refine b_M_died_5  (fun c7 => absurd c7 (by decide)) (fun c7 => ?_)
    refine b_M_died_8  (s_M_nought (by omega) ?_)
    refine b_M_died_14  ?_
    first | exact H1 (by omega) | exact H2 (by omega) | exact H3 (by omega)
set_option maxHeartbeats 400000 in
theorem A_died {ro : Nat → Int × (Int → Int)} {d : Nat} {b : Bool} {I L : Nat → Int → Int} {x1 x2 : Int} (hI : Inv b I L) : am_m ro (d + 3) 11 [am_R 0, am_I x1, am_I x2] (sh b, I, L) (fun r h => am_m ro (d + 3) 177 [am_R 66, am_I x1, am_I x2] h (fun r2 h2 => Pair r r2 h2)) := by
  obtain ⟨⟨lo, ll, le, ld, lp, ls, lr, ly, lu, lq⟩, hk, hr, ht, hf, hcn⟩ := id hI
  have hr1 := hr.1
  have hr2 := hr.2.1
  have hr3 := hr.2.2.1
  have lo1 := lo.1
  have lo2 := lo.2
  have ll1 := ll.1
  have ll2 := ll.2.1
  have ll3 := ll.2.2.1
  have ld1 := ld.1
  have ld2 := ld.2.1
  have ld3 := ld.2.2.1
  have lp1 := lp.1
  have lp2 := lp.2.1
  have lp3 := lp.2.2.1
  have ls1 := ls.1
  have ls2 := ls.2.1
  have ls3 := ls.2.2.1
  refine o_P_died (by omega) (fun a => ?_) (fun a => ?_) (fun a => ?_)
  all_goals refine o_M_died (by clear hI lo ll le ld lp ls lr ly lu lq hk hr ht hf hcn; grind [rfC, am_up]) (fun a2 => ?_) (fun a2 => ?_) (fun a2 => ?_)
  all_goals (try simp (disch := omega) only [upo, upm, ups, rfm] at a2 ⊢)
  all_goals first
    | (exfalso; omega)
    | exact Pair_rf hI
    | (exfalso; have w9 := lp.2.2.2.1 x1 (by omega) (by omega); clear hI lo ll le ld lp ls lr ly lu lq hk hr ht hf hcn; omega)
    | (exfalso; clear hI lo ll le ld lp ls lr ly lu lq hk hr ht hf hcn; grind [rfC, am_up])
    | exact ⟨_, b, _, L, rfl, by have w9 := lp.2.2.2.1 x1 (by omega) (by omega); rw [w9.2.2.2.1], rfl, Inv_ld hI ⟨lOp_fr lo (by (clear hI lo ll le ld lp ls lr ly lu lq hk hr ht hf hcn; (try simp (disch := omega) only [upo, upm, ups, upn]) <;> grind (gen := 16) (splits := 16) [am_up])) (by (clear hI lo ll le ld lp ls lr ly lu lq hk hr ht hf hcn; (try simp (disch := omega) only [upo, upm, ups, upn]) <;> grind (gen := 16) (splits := 16) [am_up])), lLib_fr ll ⟨by (clear hI lo ll le ld lp ls lr ly lu lq hk hr ht hf hcn; (try simp (disch := omega) only [upo, upm, ups, upn]) <;> grind (gen := 16) (splits := 16) [am_up]), by (clear hI lo ll le ld lp ls lr ly lu lq hk hr ht hf hcn; (try simp (disch := omega) only [upo, upm, ups, upn]) <;> grind (gen := 16) (splits := 16) [am_up]), by (clear hI lo ll le ld lp ls lr ly lu lq hk hr ht hf hcn; (try simp (disch := omega) only [upo, upm, ups, upn]) <;> grind (gen := 16) (splits := 16) [am_up])⟩ (by intro j hj; (clear hI lo ll le ld lp ls lr ly lu lq hk hr ht hf hcn; (try simp (disch := omega) only [upo, upm, ups, upn]) <;> grind (gen := 16) (splits := 16) [am_up])), lEnt_fr le ⟨by (clear hI lo ll le ld lp ls lr ly lu lq hk hr ht hf hcn; (try simp (disch := omega) only [upo, upm, ups, upn]) <;> grind (gen := 16) (splits := 16) [am_up]), by (clear hI lo ll le ld lp ls lr ly lu lq hk hr ht hf hcn; (try simp (disch := omega) only [upo, upm, ups, upn]) <;> grind (gen := 16) (splits := 16) [am_up]), by (clear hI lo ll le ld lp ls lr ly lu lq hk hr ht hf hcn; (try simp (disch := omega) only [upo, upm, ups, upn]) <;> grind (gen := 16) (splits := 16) [am_up]), by (clear hI lo ll le ld lp ls lr ly lu lq hk hr ht hf hcn; (try simp (disch := omega) only [upo, upm, ups, upn]) <;> grind (gen := 16) (splits := 16) [am_up])⟩ (by intro j hj; (clear hI lo ll le ld lp ls lr ly lu lq hk hr ht hf hcn; (try simp (disch := omega) only [upo, upm, ups, upn]) <;> grind (gen := 16) (splits := 16) [am_up])) (by omega) (by (clear hI lo ll le ld lp ls lr ly lu lq hk hr ht hf hcn; (try simp (disch := omega) only [upo, upm, ups, upn]) <;> grind (gen := 16) (splits := 16) [am_up])) (by (clear hI lo ll le ld lp ls lr ly lu lq hk hr ht hf hcn; (try simp (disch := omega) only [upo, upm, ups, upn]) <;> grind (gen := 16) (splits := 16) [am_up])) (by (clear hI lo ll le ld lp ls lr ly lu lq hk hr ht hf hcn; (try simp (disch := omega) only [upo, upm, ups, upn]) <;> grind (gen := 16) (splits := 16) [am_up])), lEd_fr ld ⟨by (clear hI lo ll le ld lp ls lr ly lu lq hk hr ht hf hcn; (try simp (disch := omega) only [upo, upm, ups, upn]) <;> grind (gen := 16) (splits := 16) [am_up]), by (clear hI lo ll le ld lp ls lr ly lu lq hk hr ht hf hcn; (try simp (disch := omega) only [upo, upm, ups, upn]) <;> grind (gen := 16) (splits := 16) [am_up]), by (clear hI lo ll le ld lp ls lr ly lu lq hk hr ht hf hcn; (try simp (disch := omega) only [upo, upm, ups, upn]) <;> grind (gen := 16) (splits := 16) [am_up]), by (clear hI lo ll le ld lp ls lr ly lu lq hk hr ht hf hcn; (try simp (disch := omega) only [upo, upm, ups, upn]) <;> grind (gen := 16) (splits := 16) [am_up]), by (clear hI lo ll le ld lp ls lr ly lu lq hk hr ht hf hcn; (try simp (disch := omega) only [upo, upm, ups, upn]) <;> grind (gen := 16) (splits := 16) [am_up])⟩ (by intro j hj; (clear hI lo ll le ld lp ls lr ly lu lq hk hr ht hf hcn; (try simp (disch := omega) only [upo, upm, ups, upn]) <;> grind (gen := 16) (splits := 16) [am_up])), (by clear hI lo ll le ld ls lr ly lu lq hk hr ht hf hcn; obtain ⟨g1, g2, g3, g4, g5, g6⟩ := lp; exact ⟨by clear g4 g5 g6; (try simp (disch := omega) only [upo, upm, ups, upn]) <;> grind (gen := 16) (splits := 16) [am_up], by clear g4 g5 g6; (try simp (disch := omega) only [upo, upm, ups, upn]) <;> grind (gen := 16) (splits := 16) [am_up], by clear g4 g5 g6; (try simp (disch := omega) only [upo, upm, ups, upn]) <;> grind (gen := 16) (splits := 16) [am_up], fun n a1 a2 => (by have w := g4 n a1 a2; clear g4 g5 g6; (try simp (disch := omega) only [upo, upm, ups, upn]) <;> grind (gen := 16) (splits := 16) [am_up]), fun n a1 a2 => (by have a3 := a2; simp (disch := omega) only [upo, upm, ups] at a3; have w := g5 n a1 (by omega); clear g4 g5 g6; simp (disch := omega) only [upo, upm, ups, and_true]; exact (if hE : n = x1 then (by rw [hE] at w ⊢; simp (disch := omega) only [upo, upm, ups, and_true]; omega) else (by simp (disch := omega) only [upo, upm, ups, and_true]; omega))), fun k a1 a2 => (by have w := g6 k a1 a2; clear g4 g5 g6; (try simp (disch := omega) only [upo, upm, ups, upn]) <;> grind (gen := 16) (splits := 16) [am_up])⟩), lSh_fr ls ⟨by (clear hI lo ll le ld lp ls lr ly lu lq hk hr ht hf hcn; (try simp (disch := omega) only [upo, upm, ups, upn]) <;> grind (gen := 16) (splits := 16) [am_up]), by (clear hI lo ll le ld lp ls lr ly lu lq hk hr ht hf hcn; (try simp (disch := omega) only [upo, upm, ups, upn]) <;> grind (gen := 16) (splits := 16) [am_up]), by (clear hI lo ll le ld lp ls lr ly lu lq hk hr ht hf hcn; (try simp (disch := omega) only [upo, upm, ups, upn]) <;> grind (gen := 16) (splits := 16) [am_up]), by (clear hI lo ll le ld lp ls lr ly lu lq hk hr ht hf hcn; (try simp (disch := omega) only [upo, upm, ups, upn]) <;> grind (gen := 16) (splits := 16) [am_up]), by (clear hI lo ll le ld lp ls lr ly lu lq hk hr ht hf hcn; (try simp (disch := omega) only [upo, upm, ups, upn]) <;> grind (gen := 16) (splits := 16) [am_up]), by (clear hI lo ll le ld lp ls lr ly lu lq hk hr ht hf hcn; (try simp (disch := omega) only [upo, upm, ups, upn]) <;> grind (gen := 16) (splits := 16) [am_up])⟩ (by intro j hj; (clear hI lo ll le ld lp ls lr ly lu lq hk hr ht hf hcn; (try simp (disch := omega) only [upo, upm, ups, upn]) <;> grind (gen := 16) (splits := 16) [am_up])) (by (clear hI lo ll le ld lp ls lr ly lu lq hk hr ht hf hcn; (try simp (disch := omega) only [upo, upm, ups, upn]) <;> grind (gen := 16) (splits := 16) [am_up])) (by (clear hI lo ll le ld lp ls lr ly lu lq hk hr ht hf hcn; (try simp (disch := omega) only [upo, upm, ups, upn]) <;> grind (gen := 16) (splits := 16) [am_up])) (by (clear hI lo ll le ld lp ls lr ly lu lq hk hr ht hf hcn; (try simp (disch := omega) only [upo, upm, ups, upn]) <;> grind (gen := 16) (splits := 16) [am_up])), lRul_fr lr ⟨by (clear hI lo ll le ld lp ls lr ly lu lq hk hr ht hf hcn; (try simp (disch := omega) only [upo, upm, ups, upn]) <;> grind (gen := 16) (splits := 16) [am_up]), by (clear hI lo ll le ld lp ls lr ly lu lq hk hr ht hf hcn; (try simp (disch := omega) only [upo, upm, ups, upn]) <;> grind (gen := 16) (splits := 16) [am_up]), by (clear hI lo ll le ld lp ls lr ly lu lq hk hr ht hf hcn; (try simp (disch := omega) only [upo, upm, ups, upn]) <;> grind (gen := 16) (splits := 16) [am_up]), by (clear hI lo ll le ld lp ls lr ly lu lq hk hr ht hf hcn; (try simp (disch := omega) only [upo, upm, ups, upn]) <;> grind (gen := 16) (splits := 16) [am_up]), by (clear hI lo ll le ld lp ls lr ly lu lq hk hr ht hf hcn; (try simp (disch := omega) only [upo, upm, ups, upn]) <;> grind (gen := 16) (splits := 16) [am_up]), by (clear hI lo ll le ld lp ls lr ly lu lq hk hr ht hf hcn; (try simp (disch := omega) only [upo, upm, ups, upn]) <;> grind (gen := 16) (splits := 16) [am_up]), by (clear hI lo ll le ld lp ls lr ly lu lq hk hr ht hf hcn; (try simp (disch := omega) only [upo, upm, ups, upn]) <;> grind (gen := 16) (splits := 16) [am_up])⟩ (by intro j hj; (clear hI lo ll le ld lp ls lr ly lu lq hk hr ht hf hcn; (try simp (disch := omega) only [upo, upm, ups, upn]) <;> grind (gen := 16) (splits := 16) [am_up])) (by intro r k h1 h2 h3 h4; have lr8 := lr.2.1; have lr9 := lr.2.2.1; (clear hI lo ll le ld lp ls lr ly lu lq hk hr ht hf hcn; (try simp (disch := omega) only [upo, upm, ups, upn]) <;> grind (gen := 16) (splits := 16) [am_up])), lYr_fr ly ⟨by (clear hI lo ll le ld lp ls lr ly lu lq hk hr ht hf hcn; (try simp (disch := omega) only [upo, upm, ups, upn]) <;> grind (gen := 16) (splits := 16) [am_up]), by (clear hI lo ll le ld lp ls lr ly lu lq hk hr ht hf hcn; (try simp (disch := omega) only [upo, upm, ups, upn]) <;> grind (gen := 16) (splits := 16) [am_up]), by (clear hI lo ll le ld lp ls lr ly lu lq hk hr ht hf hcn; (try simp (disch := omega) only [upo, upm, ups, upn]) <;> grind (gen := 16) (splits := 16) [am_up])⟩ ⟨by (clear hI lo ll le ld lp ls lr ly lu lq hk hr ht hf hcn; (try simp (disch := omega) only [upo, upm, ups, upn]) <;> grind (gen := 16) (splits := 16) [am_up]), by (clear hI lo ll le ld lp ls lr ly lu lq hk hr ht hf hcn; (try simp (disch := omega) only [upo, upm, ups, upn]) <;> grind (gen := 16) (splits := 16) [am_up]), by (clear hI lo ll le ld lp ls lr ly lu lq hk hr ht hf hcn; (try simp (disch := omega) only [upo, upm, ups, upn]) <;> grind (gen := 16) (splits := 16) [am_up]), by (clear hI lo ll le ld lp ls lr ly lu lq hk hr ht hf hcn; (try simp (disch := omega) only [upo, upm, ups, upn]) <;> grind (gen := 16) (splits := 16) [am_up]), by (clear hI lo ll le ld lp ls lr ly lu lq hk hr ht hf hcn; (try simp (disch := omega) only [upo, upm, ups, upn]) <;> grind (gen := 16) (splits := 16) [am_up])⟩ (by intro j hj; (clear hI lo ll le ld lp ls lr ly lu lq hk hr ht hf hcn; (try simp (disch := omega) only [upo, upm, ups, upn]) <;> grind (gen := 16) (splits := 16) [am_up])) (by intro j hj; (clear hI lo ll le ld lp ls lr ly lu lq hk hr ht hf hcn; (try simp (disch := omega) only [upo, upm, ups, upn]) <;> grind (gen := 16) (splits := 16) [am_up])), lSum_fr lu (by omega) (by (clear hI lo ll le ld lp ls lr ly lu lq hk hr ht hf hcn; (try simp (disch := omega) only [upo, upm, ups, upn]) <;> grind (gen := 16) (splits := 16) [am_up])) (by (clear hI lo ll le ld lp ls lr ly lu lq hk hr ht hf hcn; (try simp (disch := omega) only [upo, upm, ups, upn]) <;> grind (gen := 16) (splits := 16) [am_up])) (by (clear hI lo ll le ld lp ls lr ly lu lq hk hr ht hf hcn; (try simp (disch := omega) only [upo, upm, ups, upn]) <;> grind (gen := 16) (splits := 16) [am_up])) (by intro j hj; (clear hI lo ll le ld lp ls lr ly lu lq hk hr ht hf hcn; (try simp (disch := omega) only [upo, upm, ups, upn]) <;> grind (gen := 16) (splits := 16) [am_up])), lQ_fr lq (by omega) (by (clear hI lo ll le ld lp ls lr ly lu lq hk hr ht hf hcn; (try simp (disch := omega) only [upo, upm, ups, upn]) <;> grind (gen := 16) (splits := 16) [am_up])) (by intro j hj; (clear hI lo ll le ld lp ls lr ly lu lq hk hr ht hf hcn; (try simp (disch := omega) only [upo, upm, ups, upn]) <;> grind (gen := 16) (splits := 16) [am_up]))⟩ (by (clear hI lo ll le ld lp ls lr ly lu lq hk hr ht hf hcn; (try simp (disch := omega) only [upo, upm, ups, upn]) <;> grind (gen := 16) (splits := 16) [am_up])) (by (clear hI lo ll le ld lp ls lr ly lu lq hk hr ht hf hcn; (try simp (disch := omega) only [upo, upm, ups, upn]) <;> grind (gen := 16) (splits := 16) [am_up])) (by intro k hz; (clear hI lo ll le ld lp ls lr ly lu lq hk hr ht hf hcn; (try simp (disch := omega) only [upo, upm, ups, upn]) <;> grind (gen := 16) (splits := 16) [am_up])) (by intro j hz; (clear hI lo ll le ld lp ls lr ly lu lq hk hr ht hf hcn; (try simp (disch := omega) only [upo, upm, ups, upn]) <;> grind (gen := 16) (splits := 16) [am_up])) (by intro k hz; (clear hI lo ll le ld lp ls lr ly lu lq hk hr ht hf hcn; (try simp (disch := omega) only [upo, upm, ups, upn]) <;> grind (gen := 16) (splits := 16) [am_up]))⟩
theorem o_P_shareOf {ro : Nat → Int × (Int → Int)} {d : Nat} {b : Bool} {I L : Nat → Int → Int} {Q : Option am_V → am_H → Prop} {x1 x2 : Int} (hp : 0 ≤ I 22 0 ∧ I 22 0 ≤ 60) (H1 : ¬ (0 ≤ x1 ∧ x1 < I 22 0) → Q (some (am_I (-3))) (sh b, rfC I (-3), L)) (H2 : (0 ≤ x1 ∧ x1 < I 22 0) ∧ ¬ (0 ≤ x2 ∧ x2 ≤ 4) → Q (some (am_I (-7))) (sh b, rfC I (-7), L)) (H3 : (0 ≤ x1 ∧ x1 < I 22 0) ∧ x2 = 0 → Q (some (am_I (I 23 x1))) (sh b, I, L)) (H4 : (0 ≤ x1 ∧ x1 < I 22 0) ∧ x2 = 1 → Q (some (am_I (I 24 x1))) (sh b, I, L)) (H5 : (0 ≤ x1 ∧ x1 < I 22 0) ∧ x2 = 2 → Q (some (am_I (I 25 x1))) (sh b, I, L)) (H6 : (0 ≤ x1 ∧ x1 < I 22 0) ∧ x2 = 3 → Q (some (am_I (I 26 x1))) (sh b, I, L)) (H7 : (0 ≤ x1 ∧ x1 < I 22 0) ∧ x2 = 4 → Q (some (am_I (I 27 x1))) (sh b, I, L)) : am_m ro (d + 3) 16 [am_R 0, am_I x1, am_I x2] (sh b, I, L) Q := by
  refine am_in rfl rfl rfl rfl ?_
  refine b_P_shareOf_0  (s_Shs_has (by omega) (fun c1 => ?_) (fun c1 => ?_))
  · refine b_P_shareOf_13  (fun c2 => ?_) (fun c2 => absurd c2 (by decide))
    refine b_P_shareOf_23  (fun c3 => ?_) (fun c3 => ?_) (fun c3 => ?_) (fun c3 => ?_) (fun c3 => ?_) (fun c3_0 c3_1 c3_2 c3_3 c3_4 => ?_)
    · refine b_P_shareOf_60 (by omega) ?_
      first | exact H1 (by omega) | exact H2 (by omega) | exact H3 (by omega) | exact H4 (by omega) | exact H5 (by omega) | exact H6 (by omega) | exact H7 (by omega)
    · refine b_P_shareOf_67 (by omega) ?_
      first | exact H1 (by omega) | exact H2 (by omega) | exact H3 (by omega) | exact H4 (by omega) | exact H5 (by omega) | exact H6 (by omega) | exact H7 (by omega)
    · refine b_P_shareOf_74 (by omega) ?_
      first | exact H1 (by omega) | exact H2 (by omega) | exact H3 (by omega) | exact H4 (by omega) | exact H5 (by omega) | exact H6 (by omega) | exact H7 (by omega)
    · refine b_P_shareOf_81 (by omega) ?_
      first | exact H1 (by omega) | exact H2 (by omega) | exact H3 (by omega) | exact H4 (by omega) | exact H5 (by omega) | exact H6 (by omega) | exact H7 (by omega)
    · refine b_P_shareOf_88 (by omega) ?_
      first | exact H1 (by omega) | exact H2 (by omega) | exact H3 (by omega) | exact H4 (by omega) | exact H5 (by omega) | exact H6 (by omega) | exact H7 (by omega)
    · refine b_P_shareOf_95  (s_P_refuse (by omega) ?_)
      refine b_P_shareOf_101  ?_
      first | exact H1 (by omega) | exact H2 (by omega) | exact H3 (by omega) | exact H4 (by omega) | exact H5 (by omega) | exact H6 (by omega) | exact H7 (by omega)
  · refine b_P_shareOf_13  (fun c4 => absurd c4 (by decide)) (fun c4 => ?_)
    refine b_P_shareOf_16  (s_P_refuse (by omega) ?_)
    refine b_P_shareOf_22  ?_
    first | exact H1 (by omega) | exact H2 (by omega) | exact H3 (by omega) | exact H4 (by omega) | exact H5 (by omega) | exact H6 (by omega) | exact H7 (by omega)
theorem o_M_shareOf {ro : Nat → Int × (Int → Int)} {d : Nat} {b : Bool} {I L : Nat → Int → Int} {Q : Option am_V → am_H → Prop} {x1 x2 : Int} (hp : 0 ≤ I 67 4 ∧ I 67 4 ≤ 60) (H1 : ¬ (0 ≤ x1 ∧ x1 < I 67 4) → Q (some (am_I (-3))) (sh b, rfM I (-3), L)) (H2 : (0 ≤ x1 ∧ x1 < I 67 4) ∧ ¬ (0 ≤ x2 ∧ x2 ≤ 4) → Q (some (am_I (-7))) (sh b, rfM I (-7), L)) (H3 : (0 ≤ x1 ∧ x1 < I 67 4) ∧ (0 ≤ x2 ∧ x2 ≤ 4) → Q (some (am_I (I 67 (900 + 60 * x2 + x1)))) (sh b, I, L)) : am_m ro (d + 3) 184 [am_R 66, am_I x1, am_I x2] (sh b, I, L) Q := by
  refine am_in rfl rfl rfl rfl ?_
  refine b_M_shareOf_0 (by omega) (s_M_in (fun c1 => ?_) (fun c1 => ?_))
  · refine b_M_shareOf_13  (fun c2 => ?_) (fun c2 => absurd c2 (by decide))
    refine b_M_shareOf_23  (s_M_in (fun c3 => ?_) (fun c3 => ?_))
    · refine b_M_shareOf_29  (fun c4 => absurd c4 (by decide)) (fun c4 => ?_)
      refine b_M_shareOf_32 (by omega) (by omega) (by omega) (by omega) ?_
      refine b_M_shareOf_56  ?_
      first | exact H1 (by omega) | exact H2 (by omega) | exact H3 (by omega)
    · refine b_M_shareOf_29  (fun c5 => ?_) (fun c5 => absurd c5 (by decide))
      refine b_M_shareOf_50  (s_M_refuse (by omega) ?_)
      refine b_M_shareOf_56  ?_
      first | exact H1 (by omega) | exact H2 (by omega) | exact H3 (by omega)
  · refine b_M_shareOf_13  (fun c6 => absurd c6 (by decide)) (fun c6 => ?_)
    refine b_M_shareOf_16  (s_M_refuse (by omega) ?_)
    refine b_M_shareOf_22  ?_
    first | exact H1 (by omega) | exact H2 (by omega) | exact H3 (by omega)
set_option maxHeartbeats 400000 in
theorem A_shareOf {ro : Nat → Int × (Int → Int)} {d : Nat} {b : Bool} {I L : Nat → Int → Int} {x1 x2 : Int} (hI : Inv b I L) : am_m ro (d + 3) 16 [am_R 0, am_I x1, am_I x2] (sh b, I, L) (fun r h => am_m ro (d + 3) 184 [am_R 66, am_I x1, am_I x2] h (fun r2 h2 => Pair r r2 h2)) := by
  obtain ⟨⟨lo, ll, le, ld, lp, ls, lr, ly, lu, lq⟩, hk, hr, ht, hf, hcn⟩ := id hI
  have hr1 := hr.1
  have hr2 := hr.2.1
  have hr3 := hr.2.2.1
  have lo1 := lo.1
  have lo2 := lo.2
  have ll1 := ll.1
  have ll2 := ll.2.1
  have ll3 := ll.2.2.1
  have ld1 := ld.1
  have ld2 := ld.2.1
  have ld3 := ld.2.2.1
  have lp1 := lp.1
  have lp2 := lp.2.1
  have lp3 := lp.2.2.1
  have ls1 := ls.1
  have ls2 := ls.2.1
  have ls3 := ls.2.2.1
  refine o_P_shareOf (by omega) (fun a => ?_) (fun a => ?_) (fun a => ?_) (fun a => ?_) (fun a => ?_) (fun a => ?_) (fun a => ?_)
  all_goals refine o_M_shareOf (by clear hI lo ll le ld lp ls lr ly lu lq hk hr ht hf hcn; grind [rfC, am_up]) (fun a2 => ?_) (fun a2 => ?_) (fun a2 => ?_)
  all_goals (try simp (disch := omega) only [upo, upm, ups, rfm] at a2 ⊢)
  all_goals first
    | (exfalso; omega)
    | exact Pair_rf hI
    | (exfalso; clear hI lo ll le ld lp ls lr ly lu lq hk hr ht hf hcn; grind [rfC, am_up])
    | exact ⟨_, b, I, L, rfl, by have w := ls.2.2.2.1 x1 (by omega) (by omega); rw [w.1]; congr 3; omega, rfl, hI⟩
    | exact ⟨_, b, I, L, rfl, by have w := ls.2.2.2.1 x1 (by omega) (by omega); rw [w.2.1]; congr 3; omega, rfl, hI⟩
    | exact ⟨_, b, I, L, rfl, by have w := ls.2.2.2.1 x1 (by omega) (by omega); rw [w.2.2.1]; congr 3; omega, rfl, hI⟩
    | exact ⟨_, b, I, L, rfl, by have w := ls.2.2.2.1 x1 (by omega) (by omega); rw [w.2.2.2.1]; congr 3; omega, rfl, hI⟩
    | exact ⟨_, b, I, L, rfl, by have w := ls.2.2.2.1 x1 (by omega) (by omega); rw [w.2.2.2.2]; congr 3; omega, rfl, hI⟩
