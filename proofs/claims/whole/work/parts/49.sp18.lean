theorem o_P_twoRefused {ro : Nat → Int × (Int → Int)} {d : Nat} {b : Bool} {I L : Nat → Int → Int} {Q : Option am_V → am_H → Prop} {x1 x2 x3 : Int} (hC : Cor I L) (H1 : ¬ (0 ≤ x1 ∧ x1 ≤ 1) ∨ (((x1 = 0 ∧ (0 ≤ x2 ∧ x2 < I 67 2) ∧ 0 ≤ x3 ∧ x3 < I 67 2) ∨ (x1 = 1 ∧ (0 ≤ x2 ∧ x2 < I 67 3) ∧ 0 ≤ x3 ∧ x3 < I 67 3)) ∧ x2 = x3) → Q (some (am_I (-7))) (sh b, I, L)) (H2 : (0 ≤ x1 ∧ x1 ≤ 1) ∧ ¬ ((x1 = 0 ∧ (0 ≤ x2 ∧ x2 < I 67 2) ∧ 0 ≤ x3 ∧ x3 < I 67 2) ∨ (x1 = 1 ∧ (0 ≤ x2 ∧ x2 < I 67 3) ∧ 0 ≤ x3 ∧ x3 < I 67 3)) → Q (some (am_I (-3))) (sh b, I, L)) (H3 : ((x1 = 0 ∧ (0 ≤ x2 ∧ x2 < I 67 2) ∧ 0 ≤ x3 ∧ x3 < I 67 2) ∨ (x1 = 1 ∧ (0 ≤ x2 ∧ x2 < I 67 3) ∧ 0 ≤ x3 ∧ x3 < I 67 3)) ∧ ¬ x2 = x3 → Q (some (am_I 0)) (sh b, I, L)) : am_m ro (d + 3) 51 [am_R 0, am_I x1, am_I x2, am_I x3] (sh b, I, L) Q := by
  have ct := Cor_ct hC
  refine am_in rfl rfl rfl rfl ?_
  refine b_P_twoRefused_0  (s_P_within (fun c1 => ?_) (fun c1 => ?_))
  · refine b_P_twoRefused_6  (fun c2 => ?_) (fun c2 => absurd c2 (by decide))
    refine b_P_twoRefused_12  (fun c3 => ?_) (fun c3 => ?_)
    · refine b_P_twoRefused_52  (s_Peo_has (by omega) (fun c4 => ?_) (fun c4 => ?_))
      · refine b_P_twoRefused_63  (fun c5 => absurd c5 (by decide)) (fun c5 => ?_)
        refine b_P_twoRefused_66  (s_Peo_has (by omega) (fun c6 => ?_) (fun c6 => ?_))
        · refine b_P_twoRefused_77  (fun c7 => absurd c7 (by decide)) (fun c7 => ?_)
          refine b_P_twoRefused_80  ?_
          refine b_P_twoRefused_85  (fun c8 => ?_) (fun c8 => absurd c8 (by decide))
          refine b_P_twoRefused_95  (fun c9 => ?_) (fun c9 => ?_)
          · refine b_P_twoRefused_105  ?_
            refine b_P_twoRefused_106  ?_
            first | exact H1 (by omega) | exact H2 (by omega) | exact H3 (by omega)
          · refine b_P_twoRefused_100  ?_
            refine b_P_twoRefused_106  ?_
            first | exact H1 (by omega) | exact H2 (by omega) | exact H3 (by omega)
        · refine b_P_twoRefused_77  (fun c10 => ?_) (fun c10 => absurd c10 (by decide))
          refine b_P_twoRefused_84  ?_
          refine b_P_twoRefused_85  (fun c11 => absurd c11 (by decide)) (fun c11 => ?_)
          refine b_P_twoRefused_92  ?_
          first | exact H1 (by omega) | exact H2 (by omega) | exact H3 (by omega)
      · refine b_P_twoRefused_63  (fun c12 => ?_) (fun c12 => absurd c12 (by decide))
        refine b_P_twoRefused_84  ?_
        refine b_P_twoRefused_85  (fun c13 => absurd c13 (by decide)) (fun c13 => ?_)
        refine b_P_twoRefused_92  ?_
        first | exact H1 (by omega) | exact H2 (by omega) | exact H3 (by omega)
    · refine b_P_twoRefused_16  (s_Eds_has (by omega) (fun c14 => ?_) (fun c14 => ?_))
      · refine b_P_twoRefused_27  (fun c15 => absurd c15 (by decide)) (fun c15 => ?_)
        refine b_P_twoRefused_30  (s_Eds_has (by omega) (fun c16 => ?_) (fun c16 => ?_))
        · refine b_P_twoRefused_41  (fun c17 => absurd c17 (by decide)) (fun c17 => ?_)
          refine b_P_twoRefused_44  ?_
          refine b_P_twoRefused_85  (fun c18 => ?_) (fun c18 => absurd c18 (by decide))
          refine b_P_twoRefused_95  (fun c19 => ?_) (fun c19 => ?_)
          · refine b_P_twoRefused_105  ?_
            refine b_P_twoRefused_106  ?_
            first | exact H1 (by omega) | exact H2 (by omega) | exact H3 (by omega)
          · refine b_P_twoRefused_100  ?_
            refine b_P_twoRefused_106  ?_
            first | exact H1 (by omega) | exact H2 (by omega) | exact H3 (by omega)
        · refine b_P_twoRefused_41  (fun c20 => ?_) (fun c20 => absurd c20 (by decide))
          refine b_P_twoRefused_48  ?_
          refine b_P_twoRefused_85  (fun c21 => absurd c21 (by decide)) (fun c21 => ?_)
          refine b_P_twoRefused_92  ?_
          first | exact H1 (by omega) | exact H2 (by omega) | exact H3 (by omega)
      · refine b_P_twoRefused_27  (fun c22 => ?_) (fun c22 => absurd c22 (by decide))
        refine b_P_twoRefused_48  ?_
        refine b_P_twoRefused_85  (fun c23 => absurd c23 (by decide)) (fun c23 => ?_)
        refine b_P_twoRefused_92  ?_
        first | exact H1 (by omega) | exact H2 (by omega) | exact H3 (by omega)
  · refine b_P_twoRefused_6  (fun c24 => absurd c24 (by decide)) (fun c24 => ?_)
    refine b_P_twoRefused_9  ?_
    first | exact H1 (by omega) | exact H2 (by omega) | exact H3 (by omega)
theorem o_P_same {ro : Nat → Int × (Int → Int)} {d : Nat} {b : Bool} {I L : Nat → Int → Int} {Q : Option am_V → am_H → Prop} {x1 x2 x3 : Int} (hC : Cor I L) (H1 : ¬ (0 ≤ x1 ∧ x1 ≤ 1) ∨ (((x1 = 0 ∧ (0 ≤ x2 ∧ x2 < I 67 2) ∧ 0 ≤ x3 ∧ x3 < I 67 2) ∨ (x1 = 1 ∧ (0 ≤ x2 ∧ x2 < I 67 3) ∧ 0 ≤ x3 ∧ x3 < I 67 3)) ∧ x2 = x3) → Q (some (am_I (-7))) (sh b, rfC I (-7), L)) (H2 : (0 ≤ x1 ∧ x1 ≤ 1) ∧ ¬ ((x1 = 0 ∧ (0 ≤ x2 ∧ x2 < I 67 2) ∧ 0 ≤ x3 ∧ x3 < I 67 2) ∨ (x1 = 1 ∧ (0 ≤ x2 ∧ x2 < I 67 3) ∧ 0 ≤ x3 ∧ x3 < I 67 3)) → Q (some (am_I (-3))) (sh b, rfC I (-3), L)) (H3 : (x1 = 0 ∧ (0 ≤ x2 ∧ x2 < I 67 2) ∧ 0 ≤ x3 ∧ x3 < I 67 2) ∧ ¬ x2 = x3 → ∀ v, likE (I 67) x2 x3 v → Q (some (am_I v)) (sh b, I, L)) (H4 : (x1 = 1 ∧ (0 ≤ x2 ∧ x2 < I 67 3) ∧ 0 ≤ x3 ∧ x3 < I 67 3) ∧ ¬ x2 = x3 → Q (some (am_I (likP (I 67) x2 x3))) (sh b, I, L)) : am_m ro (d + 4) 17 [am_R 0, am_I x1, am_I x2, am_I x3] (sh b, I, L) Q := by
  have ct := Cor_ct hC
  refine am_in rfl rfl rfl rfl ?_
  refine b_P_same_0  (o_P_twoRefused hC (fun t1 => ?_) (fun t1 => ?_) (fun t1 => ?_))
  · refine b_P_same_7  (fun c2 => absurd c2 (by decide)) (fun c2 => ?_)
    refine b_P_same_14  (s_P_refuse (by omega) ?_)
    refine b_P_same_20  ?_
    first | exact H1 (by omega) | exact H2 (by omega)
  · refine b_P_same_7  (fun c3 => absurd c3 (by decide)) (fun c3 => ?_)
    refine b_P_same_14  (s_P_refuse (by omega) ?_)
    refine b_P_same_20  ?_
    first | exact H1 (by omega) | exact H2 (by omega)
  · refine b_P_same_7  (fun c4 => ?_) (fun c4 => absurd c4 (by decide))
    refine b_P_same_21  (fun c5 => ?_) (fun c5 => ?_)
    · refine b_P_same_37  (s_Peo_likeness hC (by omega) ?_)
      refine b_P_same_49  ?_
      exact H4 (by omega)
    · refine b_P_same_25  (s_Land_likeEditions hC (by omega) (fun v hv => ?_))
      refine b_P_same_34  ?_
      refine b_P_same_49  ?_
      exact H3 (by omega) v hv
theorem o_M_same {ro : Nat → Int × (Int → Int)} {d : Nat} {b : Bool} {I L : Nat → Int → Int} {Q : Option am_V → am_H → Prop} {x1 x2 x3 : Int} (hM : Mo I L) (H1 : ¬ (0 ≤ x1 ∧ x1 ≤ 1) ∨ (((x1 = 0 ∧ (0 ≤ x2 ∧ x2 < I 67 2) ∧ 0 ≤ x3 ∧ x3 < I 67 2) ∨ (x1 = 1 ∧ (0 ≤ x2 ∧ x2 < I 67 3) ∧ 0 ≤ x3 ∧ x3 < I 67 3)) ∧ x2 = x3) → Q (some (am_I (-7))) (sh b, rfM I (-7), L)) (H2 : (0 ≤ x1 ∧ x1 ≤ 1) ∧ ¬ ((x1 = 0 ∧ (0 ≤ x2 ∧ x2 < I 67 2) ∧ 0 ≤ x3 ∧ x3 < I 67 2) ∨ (x1 = 1 ∧ (0 ≤ x2 ∧ x2 < I 67 3) ∧ 0 ≤ x3 ∧ x3 < I 67 3)) → Q (some (am_I (-3))) (sh b, rfM I (-3), L)) (H3 : (x1 = 0 ∧ (0 ≤ x2 ∧ x2 < I 67 2) ∧ 0 ≤ x3 ∧ x3 < I 67 2) ∧ ¬ x2 = x3 → ∀ v, likE (I 67) x2 x3 v → Q (some (am_I v)) (sh b, I, L)) (H4 : (x1 = 1 ∧ (0 ≤ x2 ∧ x2 < I 67 3) ∧ 0 ≤ x3 ∧ x3 < I 67 3) ∧ ¬ x2 = x3 → Q (some (am_I (likP (I 67) x2 x3))) (sh b, I, L)) : am_m ro (d + 4) 192 [am_R 66, am_I x1, am_I x2, am_I x3] (sh b, I, L) Q := by
  have ct := Mo_ct hM
  refine am_in rfl rfl rfl rfl ?_
  refine b_M_same_0  (s_M_in (fun c1 => ?_) (fun c1 => ?_))
  · refine b_M_same_6  (fun c2 => ?_) (fun c2 => absurd c2 (by decide))
    refine b_M_same_16  (s_M_areTwo (by omega) (fun c3 => ?_) (fun c3 => ?_))
    · refine b_M_same_23  (fun c4 => ?_) (fun c4 => absurd c4 (by decide))
      refine b_M_same_33  (fun c5 => ?_) (fun c5 => ?_)
      · refine b_M_same_45  (fun c6 => ?_) (fun c6 => ?_)
        · refine b_M_same_58  (s_M_samePersons hM (by omega) ?_)
          refine b_M_same_64  ?_
          exact H4 (by omega)
        · refine b_M_same_49  (s_M_sameEditions hM (by omega) (fun v hv => ?_))
          refine b_M_same_55  ?_
          refine b_M_same_64  ?_
          exact H3 (by omega) v hv
      · refine b_M_same_38  (s_M_refuse (by omega) ?_)
        refine b_M_same_44  ?_
        first | exact H1 (by omega) | exact H2 (by omega)
    · refine b_M_same_23  (fun c7 => absurd c7 (by decide)) (fun c7 => ?_)
      refine b_M_same_26  (s_M_refuse (by omega) ?_)
      refine b_M_same_32  ?_
      first | exact H1 (by omega) | exact H2 (by omega)
  · refine b_M_same_6  (fun c8 => absurd c8 (by decide)) (fun c8 => ?_)
    refine b_M_same_9  (s_M_refuse (by omega) ?_)
    refine b_M_same_15  ?_
    first | exact H1 (by omega) | exact H2 (by omega)
theorem A_same {ro : Nat → Int × (Int → Int)} {d : Nat} {b : Bool} {I L : Nat → Int → Int} {x1 x2 x3 : Int} (hI : Inv b I L) : am_m ro (d + 4) 17 [am_R 0, am_I x1, am_I x2, am_I x3] (sh b, I, L) (fun r h => am_m ro (d + 4) 192 [am_R 66, am_I x1, am_I x2, am_I x3] h (fun r2 h2 => Pair r r2 h2)) := by
  have hC := Cor_of hI
  have ct := Cor_ct hC
  refine o_P_same hC (fun a => ?_) (fun a => ?_) (fun a v hv => ?_) (fun a => ?_)
  · refine o_M_same (by repeat (first | exact Mo_of hC | refine Mo_rf ?_ | refine Mo_up ?_ (by decide))) (fun a2 => Pair_rf hI) (fun a2 => by (try simp (disch := omega) only [rfm, rfn] at a2); omega) (fun a2 => by (try simp (disch := omega) only [rfm, rfn] at a2); omega) (fun a2 => by (try simp (disch := omega) only [rfm, rfn] at a2); omega)
  · refine o_M_same (by repeat (first | exact Mo_of hC | refine Mo_rf ?_ | refine Mo_up ?_ (by decide))) (fun a2 => by (try simp (disch := omega) only [rfm, rfn] at a2); omega) (fun a2 => Pair_rf hI) (fun a2 => by (try simp (disch := omega) only [rfm, rfn] at a2); omega) (fun a2 => by (try simp (disch := omega) only [rfm, rfn] at a2); omega)
  · refine o_M_same (Mo_of hC) (fun a2 => by omega) (fun a2 => by omega) (fun a2 w hw => ?_) (fun a2 => by omega)
    rw [likE_u hv hw]
    exact ⟨_, b, I, L, rfl, rfl, rfl, hI⟩
  · refine o_M_same (Mo_of hC) (fun a2 => by omega) (fun a2 => by omega) (fun a2 => by omega) (fun a2 => ⟨_, b, I, L, rfl, rfl, rfl, hI⟩)
theorem lp_P_unite_14 {ro : Nat → Int × (Int → Int)} {d : Nat} {b : Bool} {Q : Option am_V → am_H → Prop} {bc bs : Nat} {x1 x4 x5 : Int} {I0 L0 : Nat → Int → Int} (hs : 0 ≤ x1 ∧ x1 ≤ 30) (hr : (∀ k, 0 ≤ k → k < x1 → am_r (I0 14 k)) ∧ x4 ≤ x5) (H : ∀ I' : Nat → Int → Int, (∀ k, k ≠ 14 → I' k = I0 k) → (∀ k, I' 14 k = if 0 ≤ k ∧ k < x1 ∧ I0 14 k = x5 then x4 else I0 14 k) → Q (some (am_I x4)) (sh b, I', L0)) : ∀ (n : Nat) (I L : Nat → Int → Int) (x6 : Int), (0 ≤ x6) → (x6 ≤ x1) → (∀ k, k ≠ 14 → I k = I0 k) → (∀ k, I 14 k = if 0 ≤ k ∧ k < x6 ∧ I0 14 k = x5 then x4 else I0 14 k) → (L = L0) → x1 - x6 < (n : Int) → am_ex (am_m ro (d + 0)) ro am_M58 Q (25, [some (am_R 14), some (am_I x1), none, none, some (am_I x4), some (am_I x5), some (am_I x6)], [], (sh b, I, L), bc, bs) := by
  intro n
  induction n with
  | zero =>
    intro I L x6 i0 i1 i2 i3 i4 im
    exact absurd im (by omega)
  | succ n ih =>
    intro I L x6 i0 i1 i2 i3 i4 im
    refine b_P_unite_14_25  (fun c1 => ?_) (fun c1 => ?_)
    · refine b_P_unite_14_52  ?_
      have e9 : x6 = x1 := by omega
      subst i4
      rw [e9] at i3
      exact H I i2 i3
    · have z := i3 x6
      rw [if_neg (by omega)] at z
      refine b_P_unite_14_31 (by omega) (fun c2 => ?_) (fun c2 => ?_)
      · refine b_P_unite_14_46 (by omega) ?_
        exact ih I L (x6 + 1) (by omega) (by omega) (by intro k k1; (try rw [upn k1]); exact i2 k k1) (by
                intro k
                by_cases ek : k = x6
                · subst ek
                  first
                    | (rw [ups, if_pos (by omega)])
                    | (rw [i3 k, if_neg (by omega), if_neg (by omega)])
                · (try rw [upo ek])
                  rw [i3 k]
                  by_cases e6 : 0 ≤ k ∧ k < x6 ∧ I0 14 k = x5
                  · rw [if_pos e6, if_pos (by omega)]
                  · rw [if_neg e6, if_neg (by omega)]) i4 (by omega)
      · refine b_P_unite_14_40 (by omega) ?_
        refine b_P_unite_14_46 (by omega) ?_
        exact ih ((am_up I 14 x6 x4)) L (x6 + 1) (by omega) (by omega) (by intro k k1; (try rw [upn k1]); exact i2 k k1) (by
                intro k
                by_cases ek : k = x6
                · subst ek
                  first
                    | (rw [ups, if_pos (by omega)])
                    | (rw [i3 k, if_neg (by omega), if_neg (by omega)])
                · (try rw [upo ek])
                  rw [i3 k]
                  by_cases e6 : 0 ≤ k ∧ k < x6 ∧ I0 14 k = x5
                  · rw [if_pos e6, if_pos (by omega)]
                  · rw [if_neg e6, if_neg (by omega)]) i4 (by omega)
theorem s_P_unite_14 {ro : Nat → Int × (Int → Int)} {d : Nat} {b : Bool} {I L : Nat → Int → Int} {Q : Option am_V → am_H → Prop} {x1 x2 x3 : Int} (hs : 0 ≤ x1 ∧ x1 ≤ 30 ∧ (0 ≤ x2 ∧ x2 < x1) ∧ 0 ≤ x3 ∧ x3 < x1) (hr : ∀ k, 0 ≤ k → k < x1 → am_r (I 14 k)) (H : ∀ I' : Nat → Int → Int, (∀ k, k ≠ 14 → I' k = I k) → (∀ k, I' 14 k = if 0 ≤ k ∧ k < x1 ∧ I 14 k = max (I 14 x2) (I 14 x3) then min (I 14 x2) (I 14 x3) else I 14 k) → Q (some (am_I (min (I 14 x2) (I 14 x3)))) (sh b, I', L)) : am_m ro (d + 1) 58 [am_R 14, am_I x1, am_I x2, am_I x3] (sh b, I, L) Q := by
  refine am_in rfl rfl rfl rfl ?_
  refine b_P_unite_14_0 (by omega) (by omega) (by omega) (by omega) ?_
  exact lp_P_unite_14 (d := d) (I0 := I) (L0 := L) (by omega) ⟨hr, by omega⟩ H (x1.toNat + 1) I L _ (by omega) (by omega) (fun _ _ => rfl) (by intro k; rw [if_neg (by omega)]) rfl (by omega)
theorem lp_P_unite_20 {ro : Nat → Int × (Int → Int)} {d : Nat} {b : Bool} {Q : Option am_V → am_H → Prop} {bc bs : Nat} {x1 x4 x5 : Int} {I0 L0 : Nat → Int → Int} (hs : 0 ≤ x1 ∧ x1 ≤ 20) (hr : (∀ k, 0 ≤ k → k < x1 → am_r (I0 20 k)) ∧ x4 ≤ x5) (H : ∀ I' : Nat → Int → Int, (∀ k, k ≠ 20 → I' k = I0 k) → (∀ k, I' 20 k = if 0 ≤ k ∧ k < x1 ∧ I0 20 k = x5 then x4 else I0 20 k) → Q (some (am_I x4)) (sh b, I', L0)) : ∀ (n : Nat) (I L : Nat → Int → Int) (x6 : Int), (0 ≤ x6) → (x6 ≤ x1) → (∀ k, k ≠ 20 → I k = I0 k) → (∀ k, I 20 k = if 0 ≤ k ∧ k < x6 ∧ I0 20 k = x5 then x4 else I0 20 k) → (L = L0) → x1 - x6 < (n : Int) → am_ex (am_m ro (d + 0)) ro am_M58 Q (25, [some (am_R 20), some (am_I x1), none, none, some (am_I x4), some (am_I x5), some (am_I x6)], [], (sh b, I, L), bc, bs) := by
  intro n
  induction n with
  | zero =>
    intro I L x6 i0 i1 i2 i3 i4 im
    exact absurd im (by omega)
  | succ n ih =>
    intro I L x6 i0 i1 i2 i3 i4 im
    refine b_P_unite_20_25  (fun c1 => ?_) (fun c1 => ?_)
    · refine b_P_unite_20_52  ?_
      have e9 : x6 = x1 := by omega
      subst i4
      rw [e9] at i3
      exact H I i2 i3
    · have z := i3 x6
      rw [if_neg (by omega)] at z
      refine b_P_unite_20_31 (by omega) (fun c2 => ?_) (fun c2 => ?_)
      · refine b_P_unite_20_46 (by omega) ?_
        exact ih I L (x6 + 1) (by omega) (by omega) (by intro k k1; (try rw [upn k1]); exact i2 k k1) (by
                intro k
                by_cases ek : k = x6
                · subst ek
                  first
                    | (rw [ups, if_pos (by omega)])
                    | (rw [i3 k, if_neg (by omega), if_neg (by omega)])
                · (try rw [upo ek])
                  rw [i3 k]
                  by_cases e6 : 0 ≤ k ∧ k < x6 ∧ I0 20 k = x5
                  · rw [if_pos e6, if_pos (by omega)]
                  · rw [if_neg e6, if_neg (by omega)]) i4 (by omega)
      · refine b_P_unite_20_40 (by omega) ?_
        refine b_P_unite_20_46 (by omega) ?_
        exact ih ((am_up I 20 x6 x4)) L (x6 + 1) (by omega) (by omega) (by intro k k1; (try rw [upn k1]); exact i2 k k1) (by
                intro k
                by_cases ek : k = x6
                · subst ek
                  first
                    | (rw [ups, if_pos (by omega)])
                    | (rw [i3 k, if_neg (by omega), if_neg (by omega)])
                · (try rw [upo ek])
                  rw [i3 k]
                  by_cases e6 : 0 ≤ k ∧ k < x6 ∧ I0 20 k = x5
                  · rw [if_pos e6, if_pos (by omega)]
                  · rw [if_neg e6, if_neg (by omega)]) i4 (by omega)
theorem s_P_unite_20 {ro : Nat → Int × (Int → Int)} {d : Nat} {b : Bool} {I L : Nat → Int → Int} {Q : Option am_V → am_H → Prop} {x1 x2 x3 : Int} (hs : 0 ≤ x1 ∧ x1 ≤ 20 ∧ (0 ≤ x2 ∧ x2 < x1) ∧ 0 ≤ x3 ∧ x3 < x1) (hr : ∀ k, 0 ≤ k → k < x1 → am_r (I 20 k)) (H : ∀ I' : Nat → Int → Int, (∀ k, k ≠ 20 → I' k = I k) → (∀ k, I' 20 k = if 0 ≤ k ∧ k < x1 ∧ I 20 k = max (I 20 x2) (I 20 x3) then min (I 20 x2) (I 20 x3) else I 20 k) → Q (some (am_I (min (I 20 x2) (I 20 x3)))) (sh b, I', L)) : am_m ro (d + 1) 58 [am_R 20, am_I x1, am_I x2, am_I x3] (sh b, I, L) Q := by
  refine am_in rfl rfl rfl rfl ?_
  refine b_P_unite_20_0 (by omega) (by omega) (by omega) (by omega) ?_
  exact lp_P_unite_20 (d := d) (I0 := I) (L0 := L) (by omega) ⟨hr, by omega⟩ H (x1.toNat + 1) I L _ (by omega) (by omega) (fun _ _ => rfl) (by intro k; rw [if_neg (by omega)]) rfl (by omega)
set_option maxHeartbeats 1000000 in
theorem lp_M_join {ro : Nat → Int × (Int → Int)} {d : Nat} {b : Bool} {Q : Option am_V → am_H → Prop} {bc bs : Nat} {x1 x4 x5 x6 x7 : Int} {I0 L0 : Nat → Int → Int} {m n9 : Int} (hx : ((x1 = 0 ∧ x4 = 370 ∧ m = I0 67 2 ∧ n9 = 30) ∨ (x1 = 1 ∧ x4 = 480 ∧ m = I0 67 3 ∧ n9 = 20))) (hm : 0 ≤ m ∧ m ≤ n9) (H : ∀ I' : Nat → Int → Int, (∀ k, k ≠ 67 → I' k = I0 k) → (∀ j, I' 67 j = if x4 ≤ j ∧ j < x4 + m ∧ (I0 67 j = x5 ∨ I0 67 j = x6) then x7 else I0 67 j) → Q (some (am_I x7)) (sh b, I', L0)) : ∀ (n : Nat) (I L : Nat → Int → Int) (x8 : Int), (0 ≤ x8) → (x8 ≤ n9) → (∀ k, k ≠ 67 → I k = I0 k) → (∀ j, I 67 j = if x4 ≤ j ∧ j < x4 + x8 ∧ j < x4 + m ∧ (I0 67 j = x5 ∨ I0 67 j = x6) then x7 else I0 67 j) → (L = L0) → n9 - x8 < (n : Int) → am_ex (am_m ro (d + 0)) ro am_M193 Q (123, [some (am_R 66), some (am_I x1), none, none, some (am_I x4), some (am_I x5), some (am_I x6), some (am_I x7), some (am_I x8), none], [], (sh b, I, L), bc, bs) := by
  intro n
  induction n with
  | zero =>
    intro I L x8 i0 i1 i2 i3 i4 im
    exact absurd im (by omega)
  | succ n ih =>
    intro I L x8 i0 i1 i2 i3 i4 im
    have z2 := i3 2
    rw [if_neg (by omega)] at z2
    have z3 := i3 3
    rw [if_neg (by omega)] at z3
    have z8 := i3 (x4 + x8)
    rw [if_neg (by omega)] at z8
    refine b_M_join_123  (fun c1 => ?_) (fun c1 => ?_)
    · refine b_M_join_134  ?_
      refine b_M_join_136  (fun c2 => ?_) (fun c2 => ?_)
      · refine b_M_join_231  ?_
        by_cases e9 : x8 = n9
        case neg => (exfalso; omega)
        subst i4
        refine H I i2 (fun j => ?_)
        rw [i3 j]
        by_cases e6 : x4 ≤ j ∧ j < x4 + m ∧ (I0 67 j = x5 ∨ I0 67 j = x6)
        · rw [if_pos e6, if_pos (by omega)]
        · rw [if_neg e6, if_neg (by omega)]
      · refine b_M_join_139  (fun c3 => ?_) (fun c3 => ?_)
        · refine b_M_join_153  ?_
          refine b_M_join_154 (by omega) (fun c4 => ?_) (fun c4 => ?_)
          · refine b_M_join_192  ?_
            refine b_M_join_193 (by omega) (fun c5 => ?_) (fun c5 => absurd c5 (by decide))
            refine b_M_join_214 (by omega) (by omega) ?_
            refine b_M_join_224 (by omega) (by omega) ?_
            exact ih (am_up I 67 ((x4 + x8)) (I 67 (x4 + x8))) L (x8 + 1) (by omega) (by omega) (by intro k k1; (try rw [upn k1]); exact i2 k k1) (by
                    intro j
                    by_cases ej : j = x4 + x8
                    · subst ej
                      rw [ups]
                      first
                        | (exfalso; omega)
                        | (rw [if_pos (by omega)])
                        | (rw [if_neg (by omega), z8])
                    · rw [upo ej, i3 j]
                      by_cases e6 : x4 ≤ j ∧ j < x4 + x8 ∧ j < x4 + m ∧ (I0 67 j = x5 ∨ I0 67 j = x6)
                      · rw [if_pos e6, if_pos (by omega)]
                      · rw [if_neg e6, if_neg (by omega)]) i4 (by omega)
          · refine b_M_join_158 (by omega) (by omega) (fun c6 => ?_) (fun c6 => ?_)
            · refine b_M_join_188  ?_
              refine b_M_join_193 (by omega) (fun c7 => absurd c7 (by decide)) (fun c7 => ?_)
              refine b_M_join_209  ?_
              refine b_M_join_224 (by omega) (by omega) ?_
              exact ih (am_up I 67 ((x4 + x8)) x7) L (x8 + 1) (by omega) (by omega) (by intro k k1; (try rw [upn k1]); exact i2 k k1) (by
                      intro j
                      by_cases ej : j = x4 + x8
                      · subst ej
                        rw [ups]
                        first
                          | (exfalso; omega)
                          | (rw [if_pos (by omega)])
                          | (rw [if_neg (by omega), z8])
                      · rw [upo ej, i3 j]
                        by_cases e6 : x4 ≤ j ∧ j < x4 + x8 ∧ j < x4 + m ∧ (I0 67 j = x5 ∨ I0 67 j = x6)
                        · rw [if_pos e6, if_pos (by omega)]
                        · rw [if_neg e6, if_neg (by omega)]) i4 (by omega)
            · refine b_M_join_173 (by omega) (by omega) (fun c8 => ?_) (fun c8 => ?_)
              · refine b_M_join_192  ?_
                refine b_M_join_193 (by omega) (fun c9 => ?_) (fun c9 => absurd c9 (by decide))
                refine b_M_join_214 (by omega) (by omega) ?_
                refine b_M_join_224 (by omega) (by omega) ?_
                exact ih (am_up I 67 ((x4 + x8)) (I 67 (x4 + x8))) L (x8 + 1) (by omega) (by omega) (by intro k k1; (try rw [upn k1]); exact i2 k k1) (by
                        intro j
                        by_cases ej : j = x4 + x8
                        · subst ej
                          rw [ups]
                          first
                            | (exfalso; omega)
                            | (rw [if_pos (by omega)])
                            | (rw [if_neg (by omega), z8])
                        · rw [upo ej, i3 j]
                          by_cases e6 : x4 ≤ j ∧ j < x4 + x8 ∧ j < x4 + m ∧ (I0 67 j = x5 ∨ I0 67 j = x6)
                          · rw [if_pos e6, if_pos (by omega)]
                          · rw [if_neg e6, if_neg (by omega)]) i4 (by omega)
              · refine b_M_join_188  ?_
                refine b_M_join_193 (by omega) (fun c10 => absurd c10 (by decide)) (fun c10 => ?_)
                refine b_M_join_209  ?_
                refine b_M_join_224 (by omega) (by omega) ?_
                exact ih (am_up I 67 ((x4 + x8)) x7) L (x8 + 1) (by omega) (by omega) (by intro k k1; (try rw [upn k1]); exact i2 k k1) (by
                        intro j
                        by_cases ej : j = x4 + x8
                        · subst ej
                          rw [ups]
                          first
                            | (exfalso; omega)
                            | (rw [if_pos (by omega)])
                            | (rw [if_neg (by omega), z8])
                        · rw [upo ej, i3 j]
                          by_cases e6 : x4 ≤ j ∧ j < x4 + x8 ∧ j < x4 + m ∧ (I0 67 j = x5 ∨ I0 67 j = x6)
                          · rw [if_pos e6, if_pos (by omega)]
                          · rw [if_neg e6, if_neg (by omega)]) i4 (by omega)
        · refine b_M_join_149  ?_
          refine b_M_join_154 (by omega) (fun c11 => ?_) (fun c11 => ?_)
          · refine b_M_join_192  ?_
            refine b_M_join_193 (by omega) (fun c12 => ?_) (fun c12 => absurd c12 (by decide))
            refine b_M_join_214 (by omega) (by omega) ?_
            refine b_M_join_224 (by omega) (by omega) ?_
            exact ih (am_up I 67 ((x4 + x8)) (I 67 (x4 + x8))) L (x8 + 1) (by omega) (by omega) (by intro k k1; (try rw [upn k1]); exact i2 k k1) (by
                    intro j
                    by_cases ej : j = x4 + x8
                    · subst ej
                      rw [ups]
                      first
                        | (exfalso; omega)
                        | (rw [if_pos (by omega)])
                        | (rw [if_neg (by omega), z8])
                    · rw [upo ej, i3 j]
                      by_cases e6 : x4 ≤ j ∧ j < x4 + x8 ∧ j < x4 + m ∧ (I0 67 j = x5 ∨ I0 67 j = x6)
                      · rw [if_pos e6, if_pos (by omega)]
                      · rw [if_neg e6, if_neg (by omega)]) i4 (by omega)
          · refine b_M_join_158 (by omega) (by omega) (fun c13 => ?_) (fun c13 => ?_)
            · refine b_M_join_188  ?_
              refine b_M_join_193 (by omega) (fun c14 => absurd c14 (by decide)) (fun c14 => ?_)
              refine b_M_join_209  ?_
              refine b_M_join_224 (by omega) (by omega) ?_
              exact ih (am_up I 67 ((x4 + x8)) x7) L (x8 + 1) (by omega) (by omega) (by intro k k1; (try rw [upn k1]); exact i2 k k1) (by
                      intro j
                      by_cases ej : j = x4 + x8
                      · subst ej
                        rw [ups]
                        first
                          | (exfalso; omega)
                          | (rw [if_pos (by omega)])
                          | (rw [if_neg (by omega), z8])
                      · rw [upo ej, i3 j]
                        by_cases e6 : x4 ≤ j ∧ j < x4 + x8 ∧ j < x4 + m ∧ (I0 67 j = x5 ∨ I0 67 j = x6)
                        · rw [if_pos e6, if_pos (by omega)]
                        · rw [if_neg e6, if_neg (by omega)]) i4 (by omega)
            · refine b_M_join_173 (by omega) (by omega) (fun c15 => ?_) (fun c15 => ?_)
              · refine b_M_join_192  ?_
                refine b_M_join_193 (by omega) (fun c16 => ?_) (fun c16 => absurd c16 (by decide))
                refine b_M_join_214 (by omega) (by omega) ?_
                refine b_M_join_224 (by omega) (by omega) ?_
                exact ih (am_up I 67 ((x4 + x8)) (I 67 (x4 + x8))) L (x8 + 1) (by omega) (by omega) (by intro k k1; (try rw [upn k1]); exact i2 k k1) (by
                        intro j
                        by_cases ej : j = x4 + x8
                        · subst ej
                          rw [ups]
                          first
                            | (exfalso; omega)
                            | (rw [if_pos (by omega)])
                            | (rw [if_neg (by omega), z8])
                        · rw [upo ej, i3 j]
                          by_cases e6 : x4 ≤ j ∧ j < x4 + x8 ∧ j < x4 + m ∧ (I0 67 j = x5 ∨ I0 67 j = x6)
                          · rw [if_pos e6, if_pos (by omega)]
                          · rw [if_neg e6, if_neg (by omega)]) i4 (by omega)
              · refine b_M_join_188  ?_
                refine b_M_join_193 (by omega) (fun c17 => absurd c17 (by decide)) (fun c17 => ?_)
                refine b_M_join_209  ?_
                refine b_M_join_224 (by omega) (by omega) ?_
                exact ih (am_up I 67 ((x4 + x8)) x7) L (x8 + 1) (by omega) (by omega) (by intro k k1; (try rw [upn k1]); exact i2 k k1) (by
                        intro j
                        by_cases ej : j = x4 + x8
                        · subst ej
                          rw [ups]
                          first
                            | (exfalso; omega)
                            | (rw [if_pos (by omega)])
                            | (rw [if_neg (by omega), z8])
                        · rw [upo ej, i3 j]
                          by_cases e6 : x4 ≤ j ∧ j < x4 + x8 ∧ j < x4 + m ∧ (I0 67 j = x5 ∨ I0 67 j = x6)
                          · rw [if_pos e6, if_pos (by omega)]
                          · rw [if_neg e6, if_neg (by omega)]) i4 (by omega)
    · refine b_M_join_129  ?_
      refine b_M_join_136  (fun c18 => ?_) (fun c18 => ?_)
      · refine b_M_join_231  ?_
        by_cases e9 : x8 = n9
        case neg => (exfalso; omega)
        subst i4
        refine H I i2 (fun j => ?_)
        rw [i3 j]
        by_cases e6 : x4 ≤ j ∧ j < x4 + m ∧ (I0 67 j = x5 ∨ I0 67 j = x6)
        · rw [if_pos e6, if_pos (by omega)]
        · rw [if_neg e6, if_neg (by omega)]
      · refine b_M_join_139  (fun c19 => ?_) (fun c19 => ?_)
        · refine b_M_join_153  ?_
          refine b_M_join_154 (by omega) (fun c20 => ?_) (fun c20 => ?_)
          · refine b_M_join_192  ?_
            refine b_M_join_193 (by omega) (fun c21 => ?_) (fun c21 => absurd c21 (by decide))
            refine b_M_join_214 (by omega) (by omega) ?_
            refine b_M_join_224 (by omega) (by omega) ?_
            exact ih (am_up I 67 ((x4 + x8)) (I 67 (x4 + x8))) L (x8 + 1) (by omega) (by omega) (by intro k k1; (try rw [upn k1]); exact i2 k k1) (by
                    intro j
                    by_cases ej : j = x4 + x8
                    · subst ej
                      rw [ups]
                      first
                        | (exfalso; omega)
                        | (rw [if_pos (by omega)])
                        | (rw [if_neg (by omega), z8])
                    · rw [upo ej, i3 j]
                      by_cases e6 : x4 ≤ j ∧ j < x4 + x8 ∧ j < x4 + m ∧ (I0 67 j = x5 ∨ I0 67 j = x6)
                      · rw [if_pos e6, if_pos (by omega)]
                      · rw [if_neg e6, if_neg (by omega)]) i4 (by omega)
          · refine b_M_join_158 (by omega) (by omega) (fun c22 => ?_) (fun c22 => ?_)
            · refine b_M_join_188  ?_
              refine b_M_join_193 (by omega) (fun c23 => absurd c23 (by decide)) (fun c23 => ?_)
              refine b_M_join_209  ?_
              refine b_M_join_224 (by omega) (by omega) ?_
              exact ih (am_up I 67 ((x4 + x8)) x7) L (x8 + 1) (by omega) (by omega) (by intro k k1; (try rw [upn k1]); exact i2 k k1) (by
                      intro j
                      by_cases ej : j = x4 + x8
                      · subst ej
                        rw [ups]
                        first
                          | (exfalso; omega)
                          | (rw [if_pos (by omega)])
                          | (rw [if_neg (by omega), z8])
                      · rw [upo ej, i3 j]
                        by_cases e6 : x4 ≤ j ∧ j < x4 + x8 ∧ j < x4 + m ∧ (I0 67 j = x5 ∨ I0 67 j = x6)
                        · rw [if_pos e6, if_pos (by omega)]
                        · rw [if_neg e6, if_neg (by omega)]) i4 (by omega)
            · refine b_M_join_173 (by omega) (by omega) (fun c24 => ?_) (fun c24 => ?_)
              · refine b_M_join_192  ?_
                refine b_M_join_193 (by omega) (fun c25 => ?_) (fun c25 => absurd c25 (by decide))
                refine b_M_join_214 (by omega) (by omega) ?_
                refine b_M_join_224 (by omega) (by omega) ?_
                exact ih (am_up I 67 ((x4 + x8)) (I 67 (x4 + x8))) L (x8 + 1) (by omega) (by omega) (by intro k k1; (try rw [upn k1]); exact i2 k k1) (by
                        intro j
                        by_cases ej : j = x4 + x8
                        · subst ej
                          rw [ups]
                          first
                            | (exfalso; omega)
                            | (rw [if_pos (by omega)])
                            | (rw [if_neg (by omega), z8])
                        · rw [upo ej, i3 j]
                          by_cases e6 : x4 ≤ j ∧ j < x4 + x8 ∧ j < x4 + m ∧ (I0 67 j = x5 ∨ I0 67 j = x6)
                          · rw [if_pos e6, if_pos (by omega)]
                          · rw [if_neg e6, if_neg (by omega)]) i4 (by omega)
              · refine b_M_join_188  ?_
                refine b_M_join_193 (by omega) (fun c26 => absurd c26 (by decide)) (fun c26 => ?_)
                refine b_M_join_209  ?_
                refine b_M_join_224 (by omega) (by omega) ?_
                exact ih (am_up I 67 ((x4 + x8)) x7) L (x8 + 1) (by omega) (by omega) (by intro k k1; (try rw [upn k1]); exact i2 k k1) (by
                        intro j
                        by_cases ej : j = x4 + x8
                        · subst ej
                          rw [ups]
                          first
                            | (exfalso; omega)
                            | (rw [if_pos (by omega)])
                            | (rw [if_neg (by omega), z8])
                        · rw [upo ej, i3 j]
                          by_cases e6 : x4 ≤ j ∧ j < x4 + x8 ∧ j < x4 + m ∧ (I0 67 j = x5 ∨ I0 67 j = x6)
                          · rw [if_pos e6, if_pos (by omega)]
                          · rw [if_neg e6, if_neg (by omega)]) i4 (by omega)
        · refine b_M_join_149  ?_
          refine b_M_join_154 (by omega) (fun c27 => ?_) (fun c27 => ?_)
          · refine b_M_join_192  ?_
            refine b_M_join_193 (by omega) (fun c28 => ?_) (fun c28 => absurd c28 (by decide))
            refine b_M_join_214 (by omega) (by omega) ?_
            refine b_M_join_224 (by omega) (by omega) ?_
            exact ih (am_up I 67 ((x4 + x8)) (I 67 (x4 + x8))) L (x8 + 1) (by omega) (by omega) (by intro k k1; (try rw [upn k1]); exact i2 k k1) (by
                    intro j
                    by_cases ej : j = x4 + x8
                    · subst ej
                      rw [ups]
                      first
                        | (exfalso; omega)
                        | (rw [if_pos (by omega)])
                        | (rw [if_neg (by omega), z8])
                    · rw [upo ej, i3 j]
                      by_cases e6 : x4 ≤ j ∧ j < x4 + x8 ∧ j < x4 + m ∧ (I0 67 j = x5 ∨ I0 67 j = x6)
                      · rw [if_pos e6, if_pos (by omega)]
                      · rw [if_neg e6, if_neg (by omega)]) i4 (by omega)
          · refine b_M_join_158 (by omega) (by omega) (fun c29 => ?_) (fun c29 => ?_)
            · refine b_M_join_188  ?_
              refine b_M_join_193 (by omega) (fun c30 => absurd c30 (by decide)) (fun c30 => ?_)
              refine b_M_join_209  ?_
              refine b_M_join_224 (by omega) (by omega) ?_
              exact ih (am_up I 67 ((x4 + x8)) x7) L (x8 + 1) (by omega) (by omega) (by intro k k1; (try rw [upn k1]); exact i2 k k1) (by
                      intro j
                      by_cases ej : j = x4 + x8
                      · subst ej
                        rw [ups]
                        first
                          | (exfalso; omega)
                          | (rw [if_pos (by omega)])
                          | (rw [if_neg (by omega), z8])
                      · rw [upo ej, i3 j]
                        by_cases e6 : x4 ≤ j ∧ j < x4 + x8 ∧ j < x4 + m ∧ (I0 67 j = x5 ∨ I0 67 j = x6)
                        · rw [if_pos e6, if_pos (by omega)]
                        · rw [if_neg e6, if_neg (by omega)]) i4 (by omega)
            · refine b_M_join_173 (by omega) (by omega) (fun c31 => ?_) (fun c31 => ?_)
              · refine b_M_join_192  ?_
                refine b_M_join_193 (by omega) (fun c32 => ?_) (fun c32 => absurd c32 (by decide))
                refine b_M_join_214 (by omega) (by omega) ?_
                refine b_M_join_224 (by omega) (by omega) ?_
                exact ih (am_up I 67 ((x4 + x8)) (I 67 (x4 + x8))) L (x8 + 1) (by omega) (by omega) (by intro k k1; (try rw [upn k1]); exact i2 k k1) (by
                        intro j
                        by_cases ej : j = x4 + x8
                        · subst ej
                          rw [ups]
                          first
                            | (exfalso; omega)
                            | (rw [if_pos (by omega)])
                            | (rw [if_neg (by omega), z8])
                        · rw [upo ej, i3 j]
                          by_cases e6 : x4 ≤ j ∧ j < x4 + x8 ∧ j < x4 + m ∧ (I0 67 j = x5 ∨ I0 67 j = x6)
                          · rw [if_pos e6, if_pos (by omega)]
                          · rw [if_neg e6, if_neg (by omega)]) i4 (by omega)
              · refine b_M_join_188  ?_
                refine b_M_join_193 (by omega) (fun c33 => absurd c33 (by decide)) (fun c33 => ?_)
                refine b_M_join_209  ?_
                refine b_M_join_224 (by omega) (by omega) ?_
                exact ih (am_up I 67 ((x4 + x8)) x7) L (x8 + 1) (by omega) (by omega) (by intro k k1; (try rw [upn k1]); exact i2 k k1) (by
                        intro j
                        by_cases ej : j = x4 + x8
                        · subst ej
                          rw [ups]
                          first
                            | (exfalso; omega)
                            | (rw [if_pos (by omega)])
                            | (rw [if_neg (by omega), z8])
                        · rw [upo ej, i3 j]
                          by_cases e6 : x4 ≤ j ∧ j < x4 + x8 ∧ j < x4 + m ∧ (I0 67 j = x5 ∨ I0 67 j = x6)
                          · rw [if_pos e6, if_pos (by omega)]
                          · rw [if_neg e6, if_neg (by omega)]) i4 (by omega)
set_option maxHeartbeats 1000000 in
theorem o_M_join {ro : Nat → Int × (Int → Int)} {d : Nat} {b : Bool} {I L : Nat → Int → Int} {Q : Option am_V → am_H → Prop} {x1 x2 x3 : Int} (hM : Mo I L) (H1 : ¬ (0 ≤ x1 ∧ x1 ≤ 1) ∨ (((x1 = 0 ∧ (0 ≤ x2 ∧ x2 < I 67 2) ∧ 0 ≤ x3 ∧ x3 < I 67 2) ∨ (x1 = 1 ∧ (0 ≤ x2 ∧ x2 < I 67 3) ∧ 0 ≤ x3 ∧ x3 < I 67 3)) ∧ x2 = x3) → Q (some (am_I (-7))) (sh b, rfM I (-7), L)) (H2 : (0 ≤ x1 ∧ x1 ≤ 1) ∧ ¬ ((x1 = 0 ∧ (0 ≤ x2 ∧ x2 < I 67 2) ∧ 0 ≤ x3 ∧ x3 < I 67 2) ∨ (x1 = 1 ∧ (0 ≤ x2 ∧ x2 < I 67 3) ∧ 0 ≤ x3 ∧ x3 < I 67 3)) → Q (some (am_I (-3))) (sh b, rfM I (-3), L)) (H3 : ((x1 = 0 ∧ (0 ≤ x2 ∧ x2 < I 67 2) ∧ 0 ≤ x3 ∧ x3 < I 67 2) ∧ ¬ x2 = x3) ∧ likE (I 67) x2 x3 0 → Q (some (am_I (-7))) (sh b, rfM I (-7), L)) (H4 : ((x1 = 1 ∧ (0 ≤ x2 ∧ x2 < I 67 3) ∧ 0 ≤ x3 ∧ x3 < I 67 3) ∧ ¬ x2 = x3) ∧ likP (I 67) x2 x3 = 0 → Q (some (am_I (-7))) (sh b, rfM I (-7), L)) (H5 : ∀ v, ¬ v = 0 → ((x1 = 0 ∧ (0 ≤ x2 ∧ x2 < I 67 2) ∧ 0 ≤ x3 ∧ x3 < I 67 2) ∧ ¬ x2 = x3) ∧ likE (I 67) x2 x3 v → ∀ I' : Nat → Int → Int, (∀ k, k ≠ 67 → I' k = I k) → (∀ j, I' 67 j = if 370 ≤ j ∧ j < 370 + I 67 2 ∧ (I 67 j = I 67 (370 + x2) ∨ I 67 j = I 67 (370 + x3)) then min (I 67 (370 + x2)) (I 67 (370 + x3)) else I 67 j) → Q (some (am_I (min (I 67 (370 + x2)) (I 67 (370 + x3))))) (sh b, I', L)) (H6 : ((x1 = 1 ∧ (0 ≤ x2 ∧ x2 < I 67 3) ∧ 0 ≤ x3 ∧ x3 < I 67 3) ∧ ¬ x2 = x3) ∧ ¬ likP (I 67) x2 x3 = 0 → ∀ I' : Nat → Int → Int, (∀ k, k ≠ 67 → I' k = I k) → (∀ j, I' 67 j = if 480 ≤ j ∧ j < 480 + I 67 3 ∧ (I 67 j = I 67 (480 + x2) ∨ I 67 j = I 67 (480 + x3)) then min (I 67 (480 + x2)) (I 67 (480 + x3)) else I 67 j) → Q (some (am_I (min (I 67 (480 + x2)) (I 67 (480 + x3))))) (sh b, I', L)) : am_m ro (d + 4) 193 [am_R 66, am_I x1, am_I x2, am_I x3] (sh b, I, L) Q := by
  have ct := Mo_ct hM
  refine am_in rfl rfl rfl rfl ?_
  refine b_M_join_0  (s_M_in (fun c1 => ?_) (fun c1 => ?_))
  · refine b_M_join_6  (fun c2 => ?_) (fun c2 => absurd c2 (by decide))
    refine b_M_join_16  (s_M_areTwo (by omega) (fun c3 => ?_) (fun c3 => ?_))
    · refine b_M_join_23  (fun c4 => ?_) (fun c4 => absurd c4 (by decide))
      refine b_M_join_33  (fun c5 => ?_) (fun c5 => ?_)
      · refine b_M_join_60  (s_M_refuse (by omega) ?_)
        refine b_M_join_66  ?_
        first | exact H1 (by omega) | exact H2 (by omega)
      · refine b_M_join_38  (fun c6 => ?_) (fun c6 => ?_)
        · refine b_M_join_51  (s_M_samePersons hM (by omega) ?_)
          refine b_M_join_57  (fun c7 => ?_) (fun c7 => ?_)
          · refine b_M_join_67  (fun c8 => ?_) (fun c8 => ?_)
            · refine b_M_join_77  ?_
              refine b_M_join_80 (by omega) (by omega) (by omega) (by omega) (fun c9 => ?_) (fun c9 => ?_)
              · refine b_M_join_116  ?_
                refine b_M_join_118  ?_
                have e8 : min (I 67 (480 + x2)) (I 67 (480 + x3)) = ((I 67 (480 + x3))) := by omega
                exact lp_M_join (d := d + 3) (I0 := I) (L0 := L) (m := I 67 3) (n9 := 20) (by omega) (by omega) (fun I9 f1 f2 => by have k9 := H6 (by omega) I9 f1 (by rw [e8]; exact f2); rw [e8] at k9; exact k9) 21 I L _ (by omega) (by omega) (fun _ _ => rfl) (by intro j; rw [if_neg (by omega)]) rfl (by omega)
              · refine b_M_join_111  ?_
                refine b_M_join_118  ?_
                have e8 : min (I 67 (480 + x2)) (I 67 (480 + x3)) = ((I 67 (480 + x2))) := by omega
                exact lp_M_join (d := d + 3) (I0 := I) (L0 := L) (m := I 67 3) (n9 := 20) (by omega) (by omega) (fun I9 f1 f2 => by have k9 := H6 (by omega) I9 f1 (by rw [e8]; exact f2); rw [e8] at k9; exact k9) 21 I L _ (by omega) (by omega) (fun _ _ => rfl) (by intro j; rw [if_neg (by omega)]) rfl (by omega)
            · refine b_M_join_71  ?_
              refine b_M_join_80 (by omega) (by omega) (by omega) (by omega) (fun c10 => ?_) (fun c10 => ?_)
              · refine b_M_join_116  ?_
                refine b_M_join_118  ?_
                exfalso
                omega
              · refine b_M_join_111  ?_
                refine b_M_join_118  ?_
                exfalso
                omega
          · refine b_M_join_60  (s_M_refuse (by omega) ?_)
            refine b_M_join_66  ?_
            exact H4 (by omega)
        · refine b_M_join_42  (s_M_sameEditions hM (by omega) (fun v hv => ?_))
          refine b_M_join_48  ?_
          refine b_M_join_57  (fun c11 => ?_) (fun c11 => ?_)
          · refine b_M_join_67  (fun c12 => ?_) (fun c12 => ?_)
            · refine b_M_join_77  ?_
              refine b_M_join_80 (by omega) (by omega) (by omega) (by omega) (fun c13 => ?_) (fun c13 => ?_)
              · refine b_M_join_116  ?_
                refine b_M_join_118  ?_
                exfalso
                omega
              · refine b_M_join_111  ?_
                refine b_M_join_118  ?_
                exfalso
                omega
            · refine b_M_join_71  ?_
              refine b_M_join_80 (by omega) (by omega) (by omega) (by omega) (fun c14 => ?_) (fun c14 => ?_)
              · refine b_M_join_116  ?_
                refine b_M_join_118  ?_
                have e8 : min (I 67 (370 + x2)) (I 67 (370 + x3)) = ((I 67 (370 + x3))) := by omega
                exact lp_M_join (d := d + 3) (I0 := I) (L0 := L) (m := I 67 2) (n9 := 30) (by omega) (by omega) (fun I9 f1 f2 => by have k9 := H5 v (by omega) ⟨by omega, hv⟩ I9 f1 (by rw [e8]; exact f2); rw [e8] at k9; exact k9) 31 I L _ (by omega) (by omega) (fun _ _ => rfl) (by intro j; rw [if_neg (by omega)]) rfl (by omega)
              · refine b_M_join_111  ?_
                refine b_M_join_118  ?_
                have e8 : min (I 67 (370 + x2)) (I 67 (370 + x3)) = ((I 67 (370 + x2))) := by omega
                exact lp_M_join (d := d + 3) (I0 := I) (L0 := L) (m := I 67 2) (n9 := 30) (by omega) (by omega) (fun I9 f1 f2 => by have k9 := H5 v (by omega) ⟨by omega, hv⟩ I9 f1 (by rw [e8]; exact f2); rw [e8] at k9; exact k9) 31 I L _ (by omega) (by omega) (fun _ _ => rfl) (by intro j; rw [if_neg (by omega)]) rfl (by omega)
          · refine b_M_join_60  (s_M_refuse (by omega) ?_)
            refine b_M_join_66  ?_
            have v0 : v = 0 := by omega
            rw [v0] at hv
            exact H3 ⟨by omega, hv⟩
    · refine b_M_join_23  (fun c15 => absurd c15 (by decide)) (fun c15 => ?_)
      refine b_M_join_26  (s_M_refuse (by omega) ?_)
      refine b_M_join_32  ?_
      first | exact H1 (by omega) | exact H2 (by omega)
  · refine b_M_join_6  (fun c16 => absurd c16 (by decide)) (fun c16 => ?_)
    refine b_M_join_9  (s_M_refuse (by omega) ?_)
    refine b_M_join_15  ?_
    first | exact H1 (by omega) | exact H2 (by omega)
set_option maxHeartbeats 1000000 in
theorem o_P_join {ro : Nat → Int × (Int → Int)} {d : Nat} {b : Bool} {I L : Nat → Int → Int} {Q : Option am_V → am_H → Prop} {x1 x2 x3 : Int} (hC : Cor I L) (H1 : ¬ (0 ≤ x1 ∧ x1 ≤ 1) ∨ (((x1 = 0 ∧ (0 ≤ x2 ∧ x2 < I 67 2) ∧ 0 ≤ x3 ∧ x3 < I 67 2) ∨ (x1 = 1 ∧ (0 ≤ x2 ∧ x2 < I 67 3) ∧ 0 ≤ x3 ∧ x3 < I 67 3)) ∧ x2 = x3) → Q (some (am_I (-7))) (sh b, rfC I (-7), L)) (H2 : (0 ≤ x1 ∧ x1 ≤ 1) ∧ ¬ ((x1 = 0 ∧ (0 ≤ x2 ∧ x2 < I 67 2) ∧ 0 ≤ x3 ∧ x3 < I 67 2) ∨ (x1 = 1 ∧ (0 ≤ x2 ∧ x2 < I 67 3) ∧ 0 ≤ x3 ∧ x3 < I 67 3)) → Q (some (am_I (-3))) (sh b, rfC I (-3), L)) (H3 : ((x1 = 0 ∧ (0 ≤ x2 ∧ x2 < I 67 2) ∧ 0 ≤ x3 ∧ x3 < I 67 2) ∧ ¬ x2 = x3) ∧ likE (I 67) x2 x3 0 → Q (some (am_I (-7))) (sh b, rfC I (-7), L)) (H4 : ((x1 = 1 ∧ (0 ≤ x2 ∧ x2 < I 67 3) ∧ 0 ≤ x3 ∧ x3 < I 67 3) ∧ ¬ x2 = x3) ∧ likP (I 67) x2 x3 = 0 → Q (some (am_I (-7))) (sh b, rfC I (-7), L)) (H5 : ∀ v, ¬ v = 0 → ((x1 = 0 ∧ (0 ≤ x2 ∧ x2 < I 67 2) ∧ 0 ≤ x3 ∧ x3 < I 67 2) ∧ ¬ x2 = x3) ∧ likE (I 67) x2 x3 v → ∀ I' : Nat → Int → Int, (∀ k, k ≠ 14 → I' k = I k) → (∀ k, I' 14 k = if 0 ≤ k ∧ k < I 10 0 ∧ I 14 k = max (I 14 x2) (I 14 x3) then min (I 14 x2) (I 14 x3) else I 14 k) → Q (some (am_I (min (I 14 x2) (I 14 x3)))) (sh b, I', L)) (H6 : ((x1 = 1 ∧ (0 ≤ x2 ∧ x2 < I 67 3) ∧ 0 ≤ x3 ∧ x3 < I 67 3) ∧ ¬ x2 = x3) ∧ ¬ likP (I 67) x2 x3 = 0 → ∀ I' : Nat → Int → Int, (∀ k, k ≠ 20 → I' k = I k) → (∀ k, I' 20 k = if 0 ≤ k ∧ k < I 15 0 ∧ I 20 k = max (I 20 x2) (I 20 x3) then min (I 20 x2) (I 20 x3) else I 20 k) → Q (some (am_I (min (I 20 x2) (I 20 x3)))) (sh b, I', L)) : am_m ro (d + 4) 18 [am_R 0, am_I x1, am_I x2, am_I x3] (sh b, I, L) Q := by
  have ct := Cor_ct hC
  have hr14 : ∀ k, 0 ≤ k → k < I 10 0 → am_r (I 14 k) := fun k a1 a2 => by have w := hC.1.2.2.2.1.2.2.2.1 k a1 (by omega); have w2 := hC.1.2.2.2.1.2.2.2.2 k a1 (by omega); constructor <;> omega
  have hr20 : ∀ k, 0 ≤ k → k < I 15 0 → am_r (I 20 k) := fun k a1 a2 => by have w := hC.1.2.2.2.2.1.2.2.2.1 k a1 (by omega); have w2 := hC.1.2.2.2.2.1.2.2.2.2.1 k a1 (by omega); constructor <;> omega
  refine am_in rfl rfl rfl rfl ?_
  refine b_P_join_0  (o_P_twoRefused hC (fun t1 => ?_) (fun t1 => ?_) (fun t1 => ?_))
  · refine b_P_join_7  (fun c2 => absurd c2 (by decide)) (fun c2 => ?_)
    refine b_P_join_14  (s_P_refuse (by omega) ?_)
    refine b_P_join_20  ?_
    first | exact H1 (by omega) | exact H2 (by omega)
  · refine b_P_join_7  (fun c3 => absurd c3 (by decide)) (fun c3 => ?_)
    refine b_P_join_14  (s_P_refuse (by omega) ?_)
    refine b_P_join_20  ?_
    first | exact H1 (by omega) | exact H2 (by omega)
  · refine b_P_join_7  (fun c4 => ?_) (fun c4 => absurd c4 (by decide))
    refine b_P_join_21  (fun c5 => ?_) (fun c5 => ?_)
    · refine b_P_join_37  (s_Peo_likeness hC (by omega) ?_)
      refine b_P_join_49  (fun c6 => ?_) (fun c6 => ?_)
      · refine b_P_join_63  (fun c7 => ?_) (fun c7 => ?_)
        · refine b_P_join_93  (s_P_unite_20 (by omega) hr20 (fun I9 f1 f2 => ?_))
          refine b_P_join_118  ?_
          exact H6 (by omega) I9 f1 f2
        · refine b_P_join_67  (s_P_unite_14 (by omega) hr14 (fun I9 f1 f2 => ?_))
          refine b_P_join_92  ?_
          exfalso
          omega
      · refine b_P_join_56  (s_P_refuse (by omega) ?_)
        refine b_P_join_62  ?_
        exact H4 (by omega)
    · refine b_P_join_25  (s_Land_likeEditions hC (by omega) (fun v hv => ?_))
      refine b_P_join_34  ?_
      refine b_P_join_49  (fun c8 => ?_) (fun c8 => ?_)
      · refine b_P_join_63  (fun c9 => ?_) (fun c9 => ?_)
        · refine b_P_join_93  (s_P_unite_20 (by omega) hr20 (fun I9 f1 f2 => ?_))
          refine b_P_join_118  ?_
          exfalso
          omega
        · refine b_P_join_67  (s_P_unite_14 (by omega) hr14 (fun I9 f1 f2 => ?_))
          refine b_P_join_92  ?_
          exact H5 v (by omega) ⟨by omega, hv⟩ I9 f1 f2
      · refine b_P_join_56  (s_P_refuse (by omega) ?_)
        refine b_P_join_62  ?_
        have v0 : v = 0 := by omega
        rw [v0] at hv
        exact H3 ⟨by omega, hv⟩
theorem lEd_jn {C C' : Nat → Int → Int} {p p' : Int → Int} {a c : Int} (h : lEd C p) (ha : 0 ≤ a ∧ a < p 2) (hc : 0 ≤ c ∧ c < p 2) (hC : C' 10 = C 10 ∧ C' 11 = C 11 ∧ C' 12 = C 12 ∧ C' 13 = C 13) (h14 : ∀ k, C' 14 k = if 0 ≤ k ∧ k < p 2 ∧ C 14 k = max (C 14 a) (C 14 c) then min (C 14 a) (C 14 c) else C 14 k) (hp : ∀ j, p' j = if 370 ≤ j ∧ j < 370 + p 2 ∧ (p j = p (370 + a) ∨ p j = p (370 + c)) then min (p (370 + a)) (p (370 + c)) else p j) : lEd C' p' := by
  obtain ⟨g1, g2, g3, g4, g5⟩ := h
  have hn : ∀ j, ¬ (370 ≤ j ∧ j < 370 + p 2) → p' j = p j := fun j hj => by rw [hp j, if_neg (by omega)]
  have e2 := hn 2 (by omega)
  have fa := g5 a ha.1 ha.2
  have fc := g5 c hc.1 hc.2
  have xa := g4 a (by omega) (by omega)
  have xc := g4 c (by omega) (by omega)
  have hb : ∀ e, 0 ≤ e → e < p 2 → p' (370 + e) = if p (370 + e) = p (370 + a) ∨ p (370 + e) = p (370 + c) then min (p (370 + a)) (p (370 + c)) else p (370 + e) := fun e a1 a2 => by
    rw [hp (370 + e)]
    by_cases ee : p (370 + e) = p (370 + a) ∨ p (370 + e) = p (370 + c)
    · rw [if_pos ee, if_pos (by omega)]
    · rw [if_neg ee, if_neg (by omega)]
  refine ⟨by rw [hC.1, e2]; exact g1, by omega, by omega, fun e a1 a2 => ?_, fun e a1 a2 => ?_⟩
  · have w := g4 e a1 a2
    refine ⟨by rw [hC.2.1, hn (280 + e) (by omega)]; exact w.1, by rw [hC.2.2.1, hn (310 + e) (by omega)]; exact w.2.1, by rw [hC.2.2.2, hn (340 + e) (by omega)]; exact w.2.2.1, ?_⟩
    rw [h14 e]
    by_cases he : e < p 2
    · rw [hb e a1 he, w.2.2.2, xa.2.2.2, xc.2.2.2]
      split <;> split <;> omega
    · rw [if_neg (by omega), hn (370 + e) (by omega)]
      exact w.2.2.2
  · rw [e2] at a2
    have w := g5 e a1 a2
    rw [hn (280 + e) (by omega), hn (310 + e) (by omega), hn (340 + e) (by omega)]
    have we := hb e a1 a2
    have wa := hb (p (370 + a)) (by omega) (by omega)
    have wc := hb (p (370 + c)) (by omega) (by omega)
    have wh := hb (p (370 + e)) (by omega) (by omega)
    refine ⟨w.1, w.2.1, w.2.2.1, w.2.2.2.1, w.2.2.2.2.1, w.2.2.2.2.2.1, ?_, ?_, ?_⟩
    · rw [we]
      split <;> omega
    · rw [we]
      split <;> omega
    · by_cases ee : p (370 + e) = p (370 + a) ∨ p (370 + e) = p (370 + c)
      · rw [if_pos ee] at we
        rw [we]
        by_cases em : p (370 + a) ≤ p (370 + c)
        · have e9 : min (p (370 + a)) (p (370 + c)) = p (370 + a) := by omega
          rw [e9] at wa ⊢
          rw [wa, if_pos (by omega)]
        · have e9 : min (p (370 + a)) (p (370 + c)) = p (370 + c) := by omega
          rw [e9] at wc ⊢
          rw [wc, if_pos (by omega)]
      · rw [if_neg ee] at we
        rw [we, wh, if_neg (by omega)]
        exact w.2.2.2.2.2.2.2.2
theorem lPeo_jn {C C' : Nat → Int → Int} {p p' : Int → Int} {a c : Int} (h : lPeo C p) (ha : 0 ≤ a ∧ a < p 3) (hc : 0 ≤ c ∧ c < p 3) (hC : C' 15 = C 15 ∧ C' 16 = C 16 ∧ C' 17 = C 17 ∧ C' 18 = C 18 ∧ C' 19 = C 19 ∧ C' 21 = C 21) (h20 : ∀ k, C' 20 k = if 0 ≤ k ∧ k < p 3 ∧ C 20 k = max (C 20 a) (C 20 c) then min (C 20 a) (C 20 c) else C 20 k) (hp : ∀ j, p' j = if 480 ≤ j ∧ j < 480 + p 3 ∧ (p j = p (480 + a) ∨ p j = p (480 + c)) then min (p (480 + a)) (p (480 + c)) else p j) : lPeo C' p' := by
  obtain ⟨g1, g2, g3, g4, g5, g6⟩ := h
  have hn : ∀ j, ¬ (480 ≤ j ∧ j < 480 + p 3) → p' j = p j := fun j hj => by rw [hp j, if_neg (by omega)]
  have e2 := hn 3 (by omega)
  have fa := g5 a ha.1 ha.2
  have fc := g5 c hc.1 hc.2
  have xa := g4 a (by omega) (by omega)
  have xc := g4 c (by omega) (by omega)
  have hb : ∀ e, 0 ≤ e → e < p 3 → p' (480 + e) = if p (480 + e) = p (480 + a) ∨ p (480 + e) = p (480 + c) then min (p (480 + a)) (p (480 + c)) else p (480 + e) := fun e a1 a2 => by
    rw [hp (480 + e)]
    by_cases ee : p (480 + e) = p (480 + a) ∨ p (480 + e) = p (480 + c)
    · rw [if_pos ee, if_pos (by omega)]
    · rw [if_neg ee, if_neg (by omega)]
  refine ⟨by rw [hC.1, e2]; exact g1, by omega, by omega, fun e a1 a2 => ?_, fun e a1 a2 => ?_, fun k a1 a2 => by rw [hC.2.2.2.2.2, hn (500 + k) (by omega)]; exact g6 k a1 a2⟩
  · have w := g4 e a1 a2
    refine ⟨by rw [hC.2.1, hn (400 + e) (by omega)]; exact w.1, by rw [hC.2.2.1, hn (420 + e) (by omega)]; exact w.2.1, by rw [hC.2.2.2.1, hn (440 + e) (by omega)]; exact w.2.2.1, by rw [hC.2.2.2.2.1, hn (460 + e) (by omega)]; exact w.2.2.2.1, ?_⟩
    rw [h20 e]
    by_cases he : e < p 3
    · rw [hb e a1 he, w.2.2.2.2, xa.2.2.2.2, xc.2.2.2.2]
      split <;> split <;> omega
    · rw [if_neg (by omega), hn (480 + e) (by omega)]
      exact w.2.2.2.2
  · rw [e2] at a2
    have w := g5 e a1 a2
    rw [hn (400 + e) (by omega), hn (420 + e) (by omega), hn (440 + e) (by omega), hn (460 + e) (by omega)]
    have we := hb e a1 a2
    have wa := hb (p (480 + a)) (by omega) (by omega)
    have wc := hb (p (480 + c)) (by omega) (by omega)
    have wh := hb (p (480 + e)) (by omega) (by omega)
    refine ⟨w.1, w.2.1, w.2.2.1, w.2.2.2.1, w.2.2.2.2.1, w.2.2.2.2.2.1, w.2.2.2.2.2.2.1, w.2.2.2.2.2.2.2.1, ?_, ?_, ?_⟩
    · rw [we]
      split <;> omega
    · rw [we]
      split <;> omega
    · by_cases ee : p (480 + e) = p (480 + a) ∨ p (480 + e) = p (480 + c)
      · rw [if_pos ee] at we
        rw [we]
        by_cases em : p (480 + a) ≤ p (480 + c)
        · have e9 : min (p (480 + a)) (p (480 + c)) = p (480 + a) := by omega
          rw [e9] at wa ⊢
          rw [wa, if_pos (by omega)]
        · have e9 : min (p (480 + a)) (p (480 + c)) = p (480 + c) := by omega
          rw [e9] at wc ⊢
          rw [wc, if_pos (by omega)]
      · rw [if_neg ee] at we
        rw [we, wh, if_neg (by omega)]
        exact w.2.2.2.2.2.2.2.2.2.2
theorem iLand_ed {C CL C' : Nat → Int → Int} {p p' q : Int → Int} (h : iLand C CL p q) (hc : ∀ k, ¬ k = 14 → 1 ≤ k → k ≤ 44 → C' k = C k) (hp : ∀ j, ¬ (370 ≤ j ∧ j < 400) → p' j = p j) (hd : lEd C' p') : iLand C' CL p' q := by
  obtain ⟨h1, h2, h3, h4, h5, h6, h7, h8, h9, h10⟩ := h
  have cc : ∀ k, ¬ k = 14 ∧ 1 ≤ k ∧ k ≤ 44 → C' k = C k := fun k a => hc k a.1 a.2.1 a.2.2
  have e0 := hp 0 (by omega)
  have e1 := hp 1 (by omega)
  have e2 := hp 2 (by omega)
  have e3 := hp 3 (by omega)
  have q1 := h1.2
  have q5 := h5.2.1
  have q5b := h5.2.2.1
  have q6 := h6.2.1
  have q6b := h6.2.2.1
  have q7 := h7.2.1
  have q7b := h7.2.2.1
  exact ⟨lOp_fr h1 (cc 1 (by omega)) (hp 0 (by omega)), lLib_fr h2 ⟨cc _ (by omega), cc _ (by omega), cc _ (by omega)⟩ (fun _ _ => hp _ (by omega)), lEnt_fr h3 ⟨cc _ (by omega), cc _ (by omega), cc _ (by omega), cc _ (by omega)⟩ (fun _ _ => hp _ (by omega)) h1.2 (by omega) (by omega) (by omega), hd, lPeo_fr h5 ⟨cc _ (by omega), cc _ (by omega), cc _ (by omega), cc _ (by omega), cc _ (by omega), cc _ (by omega), cc _ (by omega)⟩ (fun _ _ => hp _ (by omega)), lSh_fr h6 ⟨cc _ (by omega), cc _ (by omega), cc _ (by omega), cc _ (by omega), cc _ (by omega), cc _ (by omega)⟩ (fun _ _ => hp _ (by omega)) (by omega) (by omega) (by omega), lRul_fr h7 ⟨cc _ (by omega), cc _ (by omega), cc _ (by omega), cc _ (by omega), cc _ (by omega), cc _ (by omega), cc _ (by omega)⟩ (fun _ _ => hp _ (by omega)) (fun r k a1 a2 a3 a4 => hp _ (by omega)), lYr_fr h8 ⟨cc _ (by omega), cc _ (by omega), cc _ (by omega)⟩ ⟨rfl, rfl, rfl, rfl, rfl⟩ (fun _ _ => hp _ (by omega)) (fun _ _ => rfl), lSum_fr h9 (by omega) (hp _ (by omega)) (hp _ (by omega)) (hp _ (by omega)) (fun _ _ => hp _ (by omega)), lQ_fr h10 (by omega) (by omega) (fun _ _ => rfl)⟩
theorem iLand_pe {C CL C' : Nat → Int → Int} {p p' q : Int → Int} (h : iLand C CL p q) (hc : ∀ k, ¬ k = 20 → 1 ≤ k → k ≤ 44 → C' k = C k) (hp : ∀ j, ¬ (480 ≤ j ∧ j < 500) → p' j = p j) (hd : lPeo C' p') : iLand C' CL p' q := by
  obtain ⟨h1, h2, h3, h4, h5, h6, h7, h8, h9, h10⟩ := h
  have cc : ∀ k, ¬ k = 20 ∧ 1 ≤ k ∧ k ≤ 44 → C' k = C k := fun k a => hc k a.1 a.2.1 a.2.2
  have e0 := hp 0 (by omega)
  have e1 := hp 1 (by omega)
  have e2 := hp 2 (by omega)
  have e3 := hp 3 (by omega)
  have q1 := h1.2
  have q5 := h5.2.1
  have q5b := h5.2.2.1
  have q6 := h6.2.1
  have q6b := h6.2.2.1
  have q7 := h7.2.1
  have q7b := h7.2.2.1
  exact ⟨lOp_fr h1 (cc 1 (by omega)) (hp 0 (by omega)), lLib_fr h2 ⟨cc _ (by omega), cc _ (by omega), cc _ (by omega)⟩ (fun _ _ => hp _ (by omega)), lEnt_fr h3 ⟨cc _ (by omega), cc _ (by omega), cc _ (by omega), cc _ (by omega)⟩ (fun _ _ => hp _ (by omega)) h1.2 (by omega) (by omega) (by omega), lEd_fr h4 ⟨cc _ (by omega), cc _ (by omega), cc _ (by omega), cc _ (by omega), cc _ (by omega)⟩ (fun _ _ => hp _ (by omega)), hd, lSh_fr h6 ⟨cc _ (by omega), cc _ (by omega), cc _ (by omega), cc _ (by omega), cc _ (by omega), cc _ (by omega)⟩ (fun _ _ => hp _ (by omega)) (by omega) (by omega) (by omega), lRul_fr h7 ⟨cc _ (by omega), cc _ (by omega), cc _ (by omega), cc _ (by omega), cc _ (by omega), cc _ (by omega), cc _ (by omega)⟩ (fun _ _ => hp _ (by omega)) (fun r k a1 a2 a3 a4 => hp _ (by omega)), lYr_fr h8 ⟨cc _ (by omega), cc _ (by omega), cc _ (by omega)⟩ ⟨rfl, rfl, rfl, rfl, rfl⟩ (fun _ _ => hp _ (by omega)) (fun _ _ => rfl), lSum_fr h9 (by omega) (hp _ (by omega)) (hp _ (by omega)) (hp _ (by omega)) (fun _ _ => hp _ (by omega)), lQ_fr h10 (by omega) (by omega) (fun _ _ => rfl)⟩
set_option maxHeartbeats 1000000 in
theorem A_join {ro : Nat → Int × (Int → Int)} {d : Nat} {b : Bool} {I L : Nat → Int → Int} {x1 x2 x3 : Int} (hI : Inv b I L) : am_m ro (d + 4) 18 [am_R 0, am_I x1, am_I x2, am_I x3] (sh b, I, L) (fun r h => am_m ro (d + 4) 193 [am_R 66, am_I x1, am_I x2, am_I x3] h (fun r2 h2 => Pair r r2 h2)) := by
  have hC := Cor_of hI
  have ct := Cor_ct hC
  refine o_P_join hC (fun a => ?_) (fun a => ?_) (fun a => ?_) (fun a => ?_) (fun v z a I1 f1 f2 => ?_) (fun a I1 f1 f2 => ?_)
  · refine o_M_join (by repeat (first | exact Mo_of hC | refine Mo_rf ?_ | refine Mo_up ?_ (by decide))) (fun a2 => Pair_rf hI) (fun a2 => by (try simp (disch := omega) only [rfm, rfn] at a2); omega) (fun a2 => by (try simp (disch := omega) only [rfm, rfn] at a2); exact absurd a2.1 (by omega)) (fun a2 => by (try simp (disch := omega) only [rfm, rfn] at a2); exact absurd a2.1 (by omega)) (fun v2 z2 a2 => by (try simp (disch := omega) only [rfm, rfn] at a2); exact absurd a2.1 (by omega)) (fun a2 => by (try simp (disch := omega) only [rfm, rfn] at a2); exact absurd a2.1 (by omega))
  · refine o_M_join (by repeat (first | exact Mo_of hC | refine Mo_rf ?_ | refine Mo_up ?_ (by decide))) (fun a2 => by (try simp (disch := omega) only [rfm, rfn] at a2); omega) (fun a2 => Pair_rf hI) (fun a2 => by (try simp (disch := omega) only [rfm, rfn] at a2); exact absurd a2.1 (by omega)) (fun a2 => by (try simp (disch := omega) only [rfm, rfn] at a2); exact absurd a2.1 (by omega)) (fun v2 z2 a2 => by (try simp (disch := omega) only [rfm, rfn] at a2); exact absurd a2.1 (by omega)) (fun a2 => by (try simp (disch := omega) only [rfm, rfn] at a2); exact absurd a2.1 (by omega))
  · refine o_M_join (by repeat (first | exact Mo_of hC | refine Mo_rf ?_ | refine Mo_up ?_ (by decide))) (fun a2 => by have a1 := a.1; (try simp (disch := omega) only [rfm, rfn] at a2); omega) (fun a2 => by have a1 := a.1; (try simp (disch := omega) only [rfm, rfn] at a2); omega) (fun a2 => Pair_rf hI) (fun a2 => by (try simp (disch := omega) only [rfm, rfn] at a2); exact absurd a2.1 (by omega)) (fun v2 z2 a2 => by (try simp (disch := omega) only [rfm, rfn] at a2); exact absurd (likE_u a.2 a2.2).symm z2) (fun a2 => by (try simp (disch := omega) only [rfm, rfn] at a2); exact absurd a2.1 (by omega))
  · refine o_M_join (by repeat (first | exact Mo_of hC | refine Mo_rf ?_ | refine Mo_up ?_ (by decide))) (fun a2 => by have a1 := a.1; (try simp (disch := omega) only [rfm, rfn] at a2); omega) (fun a2 => by have a1 := a.1; (try simp (disch := omega) only [rfm, rfn] at a2); omega) (fun a2 => by (try simp (disch := omega) only [rfm, rfn] at a2); exact absurd a2.1 (by omega)) (fun a2 => Pair_rf hI) (fun v2 z2 a2 => by (try simp (disch := omega) only [rfm, rfn] at a2); exact absurd a2.1 (by omega)) (fun a2 => by (try simp (disch := omega) only [rfm, rfn] at a2); exact absurd a.2 a2.2)
  · have f67 := f1 67 (by omega)
    have a1 := a.1
    have ld := hC.1.2.2.2.1
    have xa := ld.2.2.2.1 x2 (by omega) (by omega)
    have xc := ld.2.2.2.1 x3 (by omega) (by omega)
    refine o_M_join (Mo_cg (Mo_of hC) f67 rfl (f1 72 (by omega))) (fun a2 => by rw [f67] at a2; omega) (fun a2 => by rw [f67] at a2; omega) (fun a2 => by rw [f67] at a2; exact absurd (likE_u a.2 a2.2) z) (fun a2 => by rw [f67] at a2; exact absurd a2.1 (by omega)) (fun v2 z2 a2 I2 d1 d2 => ?_) (fun a2 => by rw [f67] at a2; exact absurd a2.1 (by omega))
    rw [f67] at d2 ⊢
    refine ⟨_, b, I2, L, rfl, by rw [xa.2.2.2, xc.2.2.2], rfl, Inv_ld hI ?_ (by rw [d1 0 (by omega), f1 0 (by omega)]) (by rw [d1 45 (by omega), f1 45 (by omega)]) (fun k hk => by rw [d1 k (by omega), f1 k (by omega)]) (fun j hj => by rw [d1 66 (by omega), f1 66 (by omega)]) (fun k hk => rfl)⟩
    refine iLand_ed hI.1 (fun k k1 k2 k3 => by rw [d1 k (by omega), f1 k k1]) (fun j hj => by rw [d2 j, if_neg (by omega)]) (lEd_jn ld (by omega) (by omega) ⟨by rw [d1 _ (by omega), f1 _ (by omega)], by rw [d1 _ (by omega), f1 _ (by omega)], by rw [d1 _ (by omega), f1 _ (by omega)], by rw [d1 _ (by omega), f1 _ (by omega)]⟩ (fun k => ?_) d2)
    rw [d1 14 (by omega), f2 k, ct.2.2.1.1]
  · have f67 := f1 67 (by omega)
    have a1 := a.1
    have lp := hC.1.2.2.2.2.1
    have xa := lp.2.2.2.1 x2 (by omega) (by omega)
    have xc := lp.2.2.2.1 x3 (by omega) (by omega)
    refine o_M_join (Mo_cg (Mo_of hC) f67 rfl (f1 72 (by omega))) (fun a2 => by rw [f67] at a2; omega) (fun a2 => by rw [f67] at a2; omega) (fun a2 => by rw [f67] at a2; exact absurd a2.1 (by omega)) (fun a2 => by rw [f67] at a2; exact absurd a2.2 a.2) (fun v2 z2 a2 => by rw [f67] at a2; exact absurd a2.1 (by omega)) (fun a2 I2 d1 d2 => ?_)
    rw [f67] at d2 ⊢
    refine ⟨_, b, I2, L, rfl, by rw [xa.2.2.2.2, xc.2.2.2.2], rfl, Inv_ld hI ?_ (by rw [d1 0 (by omega), f1 0 (by omega)]) (by rw [d1 45 (by omega), f1 45 (by omega)]) (fun k hk => by rw [d1 k (by omega), f1 k (by omega)]) (fun j hj => by rw [d1 66 (by omega), f1 66 (by omega)]) (fun k hk => rfl)⟩
    refine iLand_pe hI.1 (fun k k1 k2 k3 => by rw [d1 k (by omega), f1 k k1]) (fun j hj => by rw [d2 j, if_neg (by omega)]) (lPeo_jn lp (by omega) (by omega) ⟨by rw [d1 _ (by omega), f1 _ (by omega)], by rw [d1 _ (by omega), f1 _ (by omega)], by rw [d1 _ (by omega), f1 _ (by omega)], by rw [d1 _ (by omega), f1 _ (by omega)], by rw [d1 _ (by omega), f1 _ (by omega)], by rw [d1 _ (by omega), f1 _ (by omega)]⟩ (fun k => ?_) d2)
    rw [d1 20 (by omega), f2 k, ct.2.2.2.1.1]
