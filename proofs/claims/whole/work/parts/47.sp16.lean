theorem and255 {a : Int} : 0 ≤ am_and a 255 ∧ am_and a 255 ≤ 255 := by
  have h : ((Int32.ofInt a).toBitVec &&& 255#32).toNat ≤ 255 := by
    rw [BitVec.toNat_and]
    exact Nat.and_le_right
  have e : am_and a 255 = ((Int32.ofInt a).toBitVec &&& 255#32).toInt := rfl
  rw [e, BitVec.toInt_eq_toNat_of_lt (by omega)]
  omega
theorem lp_Rdr_addBytes {ro : Nat → Int × (Int → Int)} {d : Nat} {b : Bool} {Q : Option am_V → am_H → Prop} {bc bs : Nat} {x1 x2 : Int} {I0 L0 : Nat → Int → Int} (hs : 0 ≤ I0 45 1 ∧ 0 ≤ x2 ∧ x2 ≤ 4 ∧ I0 45 1 + x2 ≤ 120) (H : ∀ I' : Nat → Int → Int, (∀ k, k ≠ 45 → k ≠ 46 → I' k = I0 k) → (∀ j, j ≠ 1 → I' 45 j = I0 45 j) → I' 45 1 = I0 45 1 + x2 → (∀ k, I' 46 k = if I0 45 1 ≤ k ∧ k < I0 45 1 + x2 then am_and (am_shr x1 (8 * (I0 45 1 + x2 - 1 - k))) 255 else I0 46 k) → Q (none) (sh b, I', L0)) : ∀ (n : Nat) (I L : Nat → Int → Int) (x3 : Int), (-1 ≤ x3) → (x3 < x2) → (∀ k, k ≠ 45 → k ≠ 46 → I k = I0 k) → (∀ j, j ≠ 1 → I 45 j = I0 45 j) → (I 45 1 = I0 45 1 + (x2 - 1 - x3)) → (∀ k, I 46 k = if I0 45 1 ≤ k ∧ k < I 45 1 then am_and (am_shr x1 (8 * (I0 45 1 + x2 - 1 - k))) 255 else I0 46 k) → (L = L0) → x3 + 1 < (n : Int) → am_ex (am_m ro (d + 0)) ro am_M111 Q (4, [some (am_R 45), some (am_I x1), none, some (am_I x3)], [], (sh b, I, L), bc, bs) := by
  intro n
  induction n with
  | zero =>
    intro I L x3 i0 i1 i2 i3 i4 i5 i6 im
    exact absurd im (by omega)
  | succ n ih =>
    intro I L x3 i0 i1 i2 i3 i4 i5 i6 im
    refine b_Rdr_addBytes_4  (fun c1 => ?_) (fun c1 => ?_)
    · refine b_Rdr_addBytes_52  ?_
      have e9 : x3 = -1 := by omega
      have e8 : I 45 1 = I0 45 1 + x2 := by omega
      rw [e8] at i5
      subst i6
      exact H I i2 i3 e8 i5
    · refine b_Rdr_addBytes_8  (fun c2 => ?_) (fun c2 => ?_)
      · refine b_Rdr_addBytes_52  ?_
        exfalso
        omega
      · refine b_Rdr_addBytes_17 (by (try simp (disch := omega) only [upo, upm, ups, Int.add_sub_cancel]); omega) (by (try simp (disch := omega) only [upo, upm, ups, Int.add_sub_cancel]); omega) (by (try simp (disch := omega) only [upo, upm, ups, Int.add_sub_cancel]); omega) (by (try simp (disch := omega) only [upo, upm, ups, Int.add_sub_cancel]); omega) ?_
        exact ih (am_up (am_up I 46 (I 45 1) (am_and (am_shr x1 (8 * x3)) 255)) 45 1 (((am_up I 46 (I 45 1) (am_and (am_shr x1 (8 * x3)) 255)) 45 1) + 1)) L (x3 + (-1)) (by omega) (by omega) (by intro k k1 k2; rw [upn k1, upn k2]; exact i2 k k1 k2) (by intro j j1; simp (disch := omega) only [upo, upm, ups]; exact i3 j j1) (by simp (disch := omega) only [upo, upm, ups]; omega) (by
                intro k
                simp (disch := omega) only [upo, upm, ups]
                by_cases ek : k = I 45 1
                · have e7 : x3 = I0 45 1 + x2 - 1 - k := by omega
                  rw [if_pos (by omega), ← e7, ek]
                  exact ups
                · rw [upo ek, i5 k]
                  by_cases e6 : I0 45 1 ≤ k ∧ k < I 45 1
                  · rw [if_pos e6, if_pos (by omega)]
                  · rw [if_neg e6, if_neg (by omega)]) i6 (by omega)
theorem lp_M_feed {ro : Nat → Int × (Int → Int)} {d : Nat} {b : Bool} {Q : Option am_V → am_H → Prop} {bc bs : Nat} {x1 x2 : Int} {I0 L0 : Nat → Int → Int} (hs : 0 ≤ I0 66 8 ∧ 0 ≤ x2 ∧ x2 ≤ 4 ∧ I0 66 8 + x2 ≤ 120) (H : ∀ I' : Nat → Int → Int, (∀ k, k ≠ 66 → k ≠ 73 → I' k = I0 k) → (∀ j, j ≠ 8 → I' 66 j = I0 66 j) → I' 66 8 = I0 66 8 + x2 → (∀ k, I' 73 k = if I0 66 8 ≤ k ∧ k < I0 66 8 + x2 then am_and (am_shr x1 (8 * (I0 66 8 + x2 - 1 - k))) 255 else I0 73 k) → Q (some (am_I (I0 66 8 + x2))) (sh b, I', L0)) : ∀ (n : Nat) (I L : Nat → Int → Int) (x3 : Int), (-1 ≤ x3) → (x3 < x2) → (∀ k, k ≠ 66 → k ≠ 73 → I k = I0 k) → (∀ j, j ≠ 8 → I 66 j = I0 66 j) → (I 66 8 = I0 66 8 + (x2 - 1 - x3)) → (∀ k, I 73 k = if I0 66 8 ≤ k ∧ k < I 66 8 then am_and (am_shr x1 (8 * (I0 66 8 + x2 - 1 - k))) 255 else I0 73 k) → (L = L0) → x3 + 1 < (n : Int) → am_ex (am_m ro (d + 0)) ro am_M194 Q (45, [some (am_R 66), some (am_I x1), none, some (am_I x3)], [], (sh b, I, L), bc, bs) := by
  intro n
  induction n with
  | zero =>
    intro I L x3 i0 i1 i2 i3 i4 i5 i6 im
    exact absurd im (by omega)
  | succ n ih =>
    intro I L x3 i0 i1 i2 i3 i4 i5 i6 im
    refine b_M_feed_45  (fun c1 => ?_) (fun c1 => ?_)
    · refine b_M_feed_84  ?_
      have e9 : x3 = -1 := by omega
      have e8 : I 66 8 = I0 66 8 + x2 := by omega
      rw [e8] at i5
      subst i6
      rw [e8]
      exact H I i2 i3 e8 i5
    · refine b_M_feed_49 (by (try simp (disch := omega) only [upo, upm, ups, Int.add_sub_cancel]); omega) (by (try simp (disch := omega) only [upo, upm, ups, Int.add_sub_cancel]); omega) (by (try simp (disch := omega) only [upo, upm, ups, Int.add_sub_cancel]); omega) (by (try simp (disch := omega) only [upo, upm, ups, Int.add_sub_cancel]); omega) ?_
      exact ih (am_up (am_up I 73 (I 66 8) (am_and (am_shr x1 (8 * x3)) 255)) 66 8 (((am_up I 73 (I 66 8) (am_and (am_shr x1 (8 * x3)) 255)) 66 8) + 1)) L (x3 + (-1)) (by omega) (by omega) (by intro k k1 k2; rw [upn k1, upn k2]; exact i2 k k1 k2) (by intro j j1; simp (disch := omega) only [upo, upm, ups]; exact i3 j j1) (by simp (disch := omega) only [upo, upm, ups]; omega) (by
              intro k
              simp (disch := omega) only [upo, upm, ups]
              by_cases ek : k = I 66 8
              · have e7 : x3 = I0 66 8 + x2 - 1 - k := by omega
                rw [if_pos (by omega), ← e7, ek]
                exact ups
              · rw [upo ek, i5 k]
                by_cases e6 : I0 66 8 ≤ k ∧ k < I 66 8
                · rw [if_pos e6, if_pos (by omega)]
                · rw [if_neg e6, if_neg (by omega)]) i6 (by omega)
theorem s_Rdr_addBytes {ro : Nat → Int × (Int → Int)} {d : Nat} {b : Bool} {I L : Nat → Int → Int} {Q : Option am_V → am_H → Prop} {x1 x2 : Int} (hs : 0 ≤ I 45 1 ∧ 0 ≤ x2 ∧ x2 ≤ 4 ∧ I 45 1 + x2 ≤ 120) (H : ∀ I' : Nat → Int → Int, (∀ k, k ≠ 45 → k ≠ 46 → I' k = I k) → I' 45 1 = I 45 1 + x2 → (∀ k, I' 46 k = if I 45 1 ≤ k ∧ k < I 45 1 + x2 then am_and (am_shr x1 (8 * (I 45 1 + x2 - 1 - k))) 255 else I 46 k) → Q none (sh b, I', L)) : am_m ro (d + 1) 111 [am_R 45, am_I x1, am_I x2] (sh b, I, L) Q := by
  refine am_in rfl rfl rfl rfl ?_
  refine b_Rdr_addBytes_0 (by omega) ?_
  exact lp_Rdr_addBytes (d := d) (I0 := I) (L0 := L) hs (fun I9 a1 _ a2 a3 => H I9 a1 a2 a3) 5 I L _ (by omega) (by omega) (fun _ _ _ => rfl) (fun _ _ => rfl) (by omega) (by intro k; rw [if_neg (by omega)]) rfl (by omega)
theorem o_P_feed {ro : Nat → Int × (Int → Int)} {d : Nat} {b : Bool} {I L : Nat → Int → Int} {Q : Option am_V → am_H → Prop} {x1 x2 : Int} (hp : 0 ≤ I 45 1 ∧ I 45 1 ≤ 120) (H1 : x2 < 0 → Q (some (am_I (-4))) (sh b, rfC I (-4), L)) (H2 : 4 < x2 → Q (some (am_I (-7))) (sh b, rfC I (-7), L)) (H3 : (0 ≤ x2 ∧ x2 ≤ 4) ∧ 120 < I 45 1 + x2 → Q (some (am_I (-8))) (sh b, rfC I (-8), L)) (H4 : (0 ≤ x2 ∧ x2 ≤ 4) ∧ I 45 1 + x2 ≤ 120 → ∀ I' : Nat → Int → Int, (∀ k, k ≠ 45 → k ≠ 46 → I' k = I k) → I' 45 1 = I 45 1 + x2 → (∀ k, I' 46 k = if I 45 1 ≤ k ∧ k < I 45 1 + x2 then am_and (am_shr x1 (8 * (I 45 1 + x2 - 1 - k))) 255 else I 46 k) → Q (some (am_I (I 45 1 + x2))) (sh b, I', L)) : am_m ro (d + 2) 19 [am_R 0, am_I x1, am_I x2] (sh b, I, L) Q := by
  refine am_in rfl rfl rfl rfl ?_
  refine b_P_feed_0  (fun c1 => ?_) (fun c1 => ?_)
  · refine b_P_feed_11  (fun c2 => ?_) (fun c2 => ?_)
    · refine b_P_feed_23 (by omega) (fun c3 => ?_) (fun c3 => ?_)
      · refine b_P_feed_44  (s_Rdr_addBytes (by omega) (fun I9 a1 a2 a3 => ?_))
        refine b_P_feed_53  ?_
        rw [a2]
        exact H4 (by omega) I9 a1 a2 a3
      · refine b_P_feed_37  (s_P_refuse (by omega) ?_)
        refine b_P_feed_43  ?_
        first | exact H1 (by omega) | exact H2 (by omega) | exact H3 (by omega)
    · refine b_P_feed_16  (s_P_refuse (by omega) ?_)
      refine b_P_feed_22  ?_
      first | exact H1 (by omega) | exact H2 (by omega) | exact H3 (by omega)
  · refine b_P_feed_4  (s_P_refuse (by omega) ?_)
    refine b_P_feed_10  ?_
    first | exact H1 (by omega) | exact H2 (by omega) | exact H3 (by omega)
theorem o_M_feed {ro : Nat → Int × (Int → Int)} {d : Nat} {b : Bool} {I L : Nat → Int → Int} {Q : Option am_V → am_H → Prop} {x1 x2 : Int} (hp : 0 ≤ I 66 8 ∧ I 66 8 ≤ 120) (H1 : x2 < 0 → Q (some (am_I (-4))) (sh b, rfM I (-4), L)) (H2 : 4 < x2 → Q (some (am_I (-7))) (sh b, rfM I (-7), L)) (H3 : (0 ≤ x2 ∧ x2 ≤ 4) ∧ 120 < I 66 8 + x2 → Q (some (am_I (-8))) (sh b, rfM I (-8), L)) (H4 : (0 ≤ x2 ∧ x2 ≤ 4) ∧ I 66 8 + x2 ≤ 120 → ∀ I' : Nat → Int → Int, (∀ k, k ≠ 66 → k ≠ 73 → I' k = I k) → (∀ j, j ≠ 8 → I' 66 j = I 66 j) → I' 66 8 = I 66 8 + x2 → (∀ k, I' 73 k = if I 66 8 ≤ k ∧ k < I 66 8 + x2 then am_and (am_shr x1 (8 * (I 66 8 + x2 - 1 - k))) 255 else I 73 k) → Q (some (am_I (I 66 8 + x2))) (sh b, I', L)) : am_m ro (d + 2) 194 [am_R 66, am_I x1, am_I x2] (sh b, I, L) Q := by
  refine am_in rfl rfl rfl rfl ?_
  refine b_M_feed_0  (fun c1 => ?_) (fun c1 => ?_)
  · refine b_M_feed_11  (fun c2 => ?_) (fun c2 => ?_)
    · refine b_M_feed_23 (by omega) (fun c3 => ?_) (fun c3 => ?_)
      · refine b_M_feed_41 (by omega) ?_
        exact lp_M_feed (d := d + 1) (I0 := I) (L0 := L) (by omega) (fun I9 a1 a2 a3 a4 => H4 (by omega) I9 a1 a2 a3 a4) 5 I L _ (by omega) (by omega) (fun _ _ _ => rfl) (fun _ _ => rfl) (by omega) (by intro k; rw [if_neg (by omega)]) rfl (by omega)
      · refine b_M_feed_34  (s_M_refuse (by omega) ?_)
        refine b_M_feed_40  ?_
        first | exact H1 (by omega) | exact H2 (by omega) | exact H3 (by omega)
    · refine b_M_feed_16  (s_M_refuse (by omega) ?_)
      refine b_M_feed_22  ?_
      first | exact H1 (by omega) | exact H2 (by omega) | exact H3 (by omega)
  · refine b_M_feed_4  (s_M_refuse (by omega) ?_)
    refine b_M_feed_10  ?_
    first | exact H1 (by omega) | exact H2 (by omega) | exact H3 (by omega)
theorem A_feed {ro : Nat → Int × (Int → Int)} {d : Nat} {b : Bool} {I L : Nat → Int → Int} {x1 x2 : Int} (hI : Inv b I L) : am_m ro (d + 2) 19 [am_R 0, am_I x1, am_I x2] (sh b, I, L) (fun r h => am_m ro (d + 2) 194 [am_R 66, am_I x1, am_I x2] h (fun r2 h2 => Pair r r2 h2)) := by
  obtain ⟨⟨lo, ll, le, ld, lp, ls, lr, ly, lu, lq⟩, hk, hr, ht, hf, hcn⟩ := id hI
  obtain ⟨t1, t2, t3, t4⟩ := ht
  refine o_P_feed (by omega) (fun a => ?_) (fun a => ?_) (fun a => ?_) (fun a I1 b1 b2 b3 => ?_)
  · refine o_M_feed (by (try simp (disch := omega) only [rfm]); omega) (fun a2 => Pair_rf hI) (fun a2 => by omega) (fun a2 => by omega) (fun a2 => by omega)
  · refine o_M_feed (by (try simp (disch := omega) only [rfm]); omega) (fun a2 => by omega) (fun a2 => Pair_rf hI) (fun a2 => by omega) (fun a2 => by omega)
  · refine o_M_feed (by (try simp (disch := omega) only [rfm]); omega) (fun a2 => by omega) (fun a2 => by omega) (fun a2 => Pair_rf hI) (fun a2 => by (try simp (disch := omega) only [rfm] at a2); omega)
  · have e66 := b1 66 (by omega) (by omega)
    refine o_M_feed (by rw [e66]; omega) (fun a2 => by omega) (fun a2 => by omega) (fun a2 => by rw [e66] at a2; omega) (fun a2 I2 d1 d2 d3 d4 => ?_)
    refine ⟨_, b, I2, L, rfl, by rw [e66, t1], rfl, Inv_tap hI (fun k q1 q2 q3 q4 => ?_) (fun j q => ?_) ⟨?_, ?_, ?_, fun k a1 a3 => ?_⟩⟩
    · rw [d1 k q3 q4, b1 k q1 q2]
    · rw [d2 j q, e66]
    · rw [d1 45 (by omega) (by omega), b2, d3, e66, t1]
    · rw [d1 45 (by omega) (by omega), b2]
      omega
    · rw [d1 45 (by omega) (by omega), b2]
      omega
    · have w := t4 k a1 a3
      rw [d1 46 (by omega) (by omega), b3 k, d4 k, e66, b1 73 (by omega) (by omega), ← t1]
      by_cases e6 : I 45 1 ≤ k ∧ k < I 45 1 + x2
      · rw [if_pos e6, if_pos e6]
        exact ⟨rfl, and255⟩
      · rw [if_neg e6, if_neg e6]
        exact w
theorem o_P_copy {ro : Nat → Int × (Int → Int)} {d : Nat} {b : Bool} {I L : Nat → Int → Int} {Q : Option am_V → am_H → Prop} {x1 x2 x3 : Int} (hp : -1 ≤ I 0 6 ∧ I 0 6 ≤ 12) (H1 : I 0 6 = -1 → Q (some (am_I (-2))) (sh b, rfC I (-2), L)) (H2 : 0 ≤ I 0 6 ∧ x3 < 0 → Q (some (am_I (-4))) (sh b, rfC I (-4), L)) (H3 : 0 ≤ I 0 6 ∧ 0 ≤ x3 ∧ ¬ (0 ≤ x3 ∧ (0 ≤ x1 ∧ x1 + x3 ≤ I 0 6) ∧ (0 ≤ x2 ∧ x2 + x3 ≤ I 0 6)) → Q (some (am_I (-6))) (sh b, rfC I (-6), L)) (H4 : 0 ≤ I 0 6 ∧ 0 ≤ x3 ∧ (0 ≤ x1 ∧ x1 + x3 ≤ I 0 6) ∧ (0 ≤ x2 ∧ x2 + x3 ≤ I 0 6) → Q (some (am_I x3)) (sh b, am_cp I 64 64 x1 x2 x3, L)) : am_m ro (d + 2) 43 [am_R 0, am_I x1, am_I x2, am_I x3] (sh b, I, L) Q := by
  refine am_in rfl rfl rfl rfl ?_
  refine b_P_copy_0  (fun c1 => ?_) (fun c1 => ?_)
  · refine b_P_copy_15  (fun c2 => ?_) (fun c2 => ?_)
    · refine b_P_copy_26  (fun c3 => ?_) (fun c3 => ?_)
      · refine b_P_copy_62  (s_P_refuse (by omega) ?_)
        refine b_P_copy_68  ?_
        first | exact H1 (by omega) | exact H2 (by omega) | exact H3 (by omega) | exact H4 (by omega)
      · refine b_P_copy_34 (by omega) (s_P_within (fun c4 => ?_) (fun c4 => ?_))
        · refine b_P_copy_45  (fun c5 => absurd c5 (by decide)) (fun c5 => ?_)
          refine b_P_copy_48 (by omega) (s_P_within (fun c6 => ?_) (fun c6 => ?_))
          · refine b_P_copy_59  (fun c7 => ?_) (fun c7 => absurd c7 (by decide))
            refine b_P_copy_69 (by omega) ?_
            first | exact H1 (by omega) | exact H2 (by omega) | exact H3 (by omega) | exact H4 (by omega)
          · refine b_P_copy_59  (fun c8 => absurd c8 (by decide)) (fun c8 => ?_)
            refine b_P_copy_62  (s_P_refuse (by omega) ?_)
            refine b_P_copy_68  ?_
            first | exact H1 (by omega) | exact H2 (by omega) | exact H3 (by omega) | exact H4 (by omega)
        · refine b_P_copy_45  (fun c9 => ?_) (fun c9 => absurd c9 (by decide))
          refine b_P_copy_62  (s_P_refuse (by omega) ?_)
          refine b_P_copy_68  ?_
          first | exact H1 (by omega) | exact H2 (by omega) | exact H3 (by omega) | exact H4 (by omega)
    · refine b_P_copy_19  (s_P_refuse (by omega) ?_)
      refine b_P_copy_25  ?_
      first | exact H1 (by omega) | exact H2 (by omega) | exact H3 (by omega) | exact H4 (by omega)
  · refine b_P_copy_8  (s_P_refuse (by omega) ?_)
    refine b_P_copy_14  ?_
    first | exact H1 (by omega) | exact H2 (by omega) | exact H3 (by omega) | exact H4 (by omega)
theorem lp_M_copy {ro : Nat → Int × (Int → Int)} {d : Nat} {b : Bool} {Q : Option am_V → am_H → Prop} {bc bs : Nat} {x1 x2 x3 : Int} {I0 L0 : Nat → Int → Int} (hs : 0 ≤ x3 ∧ (0 ≤ x1 ∧ x1 + x3 ≤ 12) ∧ (0 ≤ x2 ∧ x2 + x3 ≤ 12)) (H : ∀ I' : Nat → Int → Int, (∀ k, k ≠ 74 → I' k = I0 k) → (∀ k, I' 74 k = if x2 ≤ k ∧ k < x2 + x3 then I0 74 (x1 + (k - x2)) else I0 74 k) → Q (some (am_I x3)) (sh b, I', L0)) : ∀ (n : Nat) (I L : Nat → Int → Int) (x4 : Int), (0 ≤ x4) → (x4 ≤ x3) → (∀ k, k ≠ 74 → I k = I0 k) → (∀ k, I 74 k = if ((x2 ≤ x1 ∧ x2 ≤ k ∧ k < x2 + x4) ∨ (x1 < x2 ∧ x2 + x3 - x4 ≤ k ∧ k < x2 + x3)) then I0 74 (x1 + (k - x2)) else I0 74 k) → (L = L0) → x3 - x4 < (n : Int) → am_ex (am_m ro (d + 0)) ro am_M253 Q (79, [some (am_R 66), some (am_I x1), some (am_I x2), some (am_I x3), some (am_I x4), none], [], (sh b, I, L), bc, bs) := by
  intro n
  induction n with
  | zero =>
    intro I L x4 i0 i1 i2 i3 i4 im
    exact absurd im (by omega)
  | succ n ih =>
    intro I L x4 i0 i1 i2 i3 i4 im
    refine b_M_copy_79  (fun c1 => ?_) (fun c1 => ?_)
    · refine b_M_copy_127  ?_
      have e9 : x4 = x3 := by omega
      subst i4
      refine H I i2 (fun k => ?_)
      rw [i3 k]
      by_cases e6 : x2 ≤ k ∧ k < x2 + x3
      · rw [if_pos e6, if_pos (by omega)]
      · rw [if_neg e6, if_neg (by omega)]
    · refine b_M_copy_85  (fun c2 => ?_) (fun c2 => ?_)
      · refine b_M_copy_99  ?_
        refine b_M_copy_101 (by (try simp (disch := omega) only [upo, upm, ups, Int.add_sub_cancel]); omega) (by (try simp (disch := omega) only [upo, upm, ups, Int.add_sub_cancel]); omega) (by (try simp (disch := omega) only [upo, upm, ups, Int.add_sub_cancel]); omega) (by (try simp (disch := omega) only [upo, upm, ups, Int.add_sub_cancel]); omega) (by (try simp (disch := omega) only [upo, upm, ups, Int.add_sub_cancel]); omega) ?_
        exact ih (am_up I 74 (x2 + x4) (I 74 (x1 + x4))) L (x4 + 1) (by omega) (by omega) (by intro k k1; rw [upn k1]; exact i2 k k1) (by
                intro k
                first
                  | (by_cases ek : k = x2 + x4
                     · subst ek
                       rw [ups, i3 (x1 + x4), if_neg (by omega), if_pos (by omega)]
                       congr 1
                       omega
                     · rw [upo ek, i3 k]
                       by_cases e6 : ((x2 ≤ x1 ∧ x2 ≤ k ∧ k < x2 + x4) ∨ (x1 < x2 ∧ x2 + x3 - x4 ≤ k ∧ k < x2 + x3))
                       · rw [if_pos e6, if_pos (by omega)]
                       · rw [if_neg e6, if_neg (by omega)])
                  | (by_cases ek : k = x2 + (x3 - 1 - x4)
                     · subst ek
                       rw [ups, i3 (x1 + (x3 - 1 - x4)), if_neg (by omega), if_pos (by omega)]
                       congr 1
                       omega
                     · rw [upo ek, i3 k]
                       by_cases e6 : ((x2 ≤ x1 ∧ x2 ≤ k ∧ k < x2 + x4) ∨ (x1 < x2 ∧ x2 + x3 - x4 ≤ k ∧ k < x2 + x3))
                       · rw [if_pos e6, if_pos (by omega)]
                       · rw [if_neg e6, if_neg (by omega)])) i4 (by omega)
      · refine b_M_copy_90 (by (try simp (disch := omega) only [upo, upm, ups, Int.add_sub_cancel]); omega) (by (try simp (disch := omega) only [upo, upm, ups, Int.add_sub_cancel]); omega) ?_
        refine b_M_copy_101 (by (try simp (disch := omega) only [upo, upm, ups, Int.add_sub_cancel]); omega) (by (try simp (disch := omega) only [upo, upm, ups, Int.add_sub_cancel]); omega) (by (try simp (disch := omega) only [upo, upm, ups, Int.add_sub_cancel]); omega) (by (try simp (disch := omega) only [upo, upm, ups, Int.add_sub_cancel]); omega) (by (try simp (disch := omega) only [upo, upm, ups, Int.add_sub_cancel]); omega) ?_
        exact ih (am_up I 74 (x2 + ((x3 - 1) - x4)) (I 74 (x1 + ((x3 - 1) - x4)))) L (x4 + 1) (by omega) (by omega) (by intro k k1; rw [upn k1]; exact i2 k k1) (by
                intro k
                first
                  | (by_cases ek : k = x2 + x4
                     · subst ek
                       rw [ups, i3 (x1 + x4), if_neg (by omega), if_pos (by omega)]
                       congr 1
                       omega
                     · rw [upo ek, i3 k]
                       by_cases e6 : ((x2 ≤ x1 ∧ x2 ≤ k ∧ k < x2 + x4) ∨ (x1 < x2 ∧ x2 + x3 - x4 ≤ k ∧ k < x2 + x3))
                       · rw [if_pos e6, if_pos (by omega)]
                       · rw [if_neg e6, if_neg (by omega)])
                  | (by_cases ek : k = x2 + (x3 - 1 - x4)
                     · subst ek
                       rw [ups, i3 (x1 + (x3 - 1 - x4)), if_neg (by omega), if_pos (by omega)]
                       congr 1
                       omega
                     · rw [upo ek, i3 k]
                       by_cases e6 : ((x2 ≤ x1 ∧ x2 ≤ k ∧ k < x2 + x4) ∨ (x1 < x2 ∧ x2 + x3 - x4 ≤ k ∧ k < x2 + x3))
                       · rw [if_pos e6, if_pos (by omega)]
                       · rw [if_neg e6, if_neg (by omega)])) i4 (by omega)
theorem o_M_copy {ro : Nat → Int × (Int → Int)} {d : Nat} {b : Bool} {I L : Nat → Int → Int} {Q : Option am_V → am_H → Prop} {x1 x2 x3 : Int} (hp : -1 ≤ I 66 9 ∧ I 66 9 ≤ 12) (H1 : I 66 9 < 0 → Q (some (am_I (-2))) (sh b, rfM I (-2), L)) (H2 : 0 ≤ I 66 9 ∧ x3 < 0 → Q (some (am_I (-4))) (sh b, rfM I (-4), L)) (H3 : 0 ≤ I 66 9 ∧ 0 ≤ x3 ∧ ¬ (0 ≤ x3 ∧ (0 ≤ x1 ∧ x1 + x3 ≤ I 66 9) ∧ (0 ≤ x2 ∧ x2 + x3 ≤ I 66 9)) → Q (some (am_I (-6))) (sh b, rfM I (-6), L)) (H4 : 0 ≤ I 66 9 ∧ 0 ≤ x3 ∧ (0 ≤ x1 ∧ x1 + x3 ≤ I 66 9) ∧ (0 ≤ x2 ∧ x2 + x3 ≤ I 66 9) → ∀ I' : Nat → Int → Int, (∀ k, k ≠ 74 → I' k = I k) → (∀ k, I' 74 k = if x2 ≤ k ∧ k < x2 + x3 then I 74 (x1 + (k - x2)) else I 74 k) → Q (some (am_I x3)) (sh b, I', L)) : am_m ro (d + 2) 253 [am_R 66, am_I x1, am_I x2, am_I x3] (sh b, I, L) Q := by
  refine am_in rfl rfl rfl rfl ?_
  refine b_M_copy_0  (fun c1 => ?_) (fun c1 => ?_)
  · refine b_M_copy_14  (fun c2 => ?_) (fun c2 => ?_)
    · refine b_M_copy_25  (fun c3 => ?_) (fun c3 => ?_)
      · refine b_M_copy_69  (s_M_refuse (by omega) ?_)
        refine b_M_copy_75  ?_
        first | exact H1 (by omega) | exact H2 (by omega) | exact H3 (by omega)
      · refine b_M_copy_29  (fun c4 => ?_) (fun c4 => ?_)
        · refine b_M_copy_69  (s_M_refuse (by omega) ?_)
          refine b_M_copy_75  ?_
          first | exact H1 (by omega) | exact H2 (by omega) | exact H3 (by omega)
        · refine b_M_copy_33  (fun c5 => ?_) (fun c5 => ?_)
          · refine b_M_copy_69  (s_M_refuse (by omega) ?_)
            refine b_M_copy_75  ?_
            first | exact H1 (by omega) | exact H2 (by omega) | exact H3 (by omega)
          · refine b_M_copy_41  (fun c6 => ?_) (fun c6 => ?_)
            · refine b_M_copy_69  (s_M_refuse (by omega) ?_)
              refine b_M_copy_75  ?_
              first | exact H1 (by omega) | exact H2 (by omega) | exact H3 (by omega)
            · refine b_M_copy_49 (by omega) (fun c7 => ?_) (fun c7 => ?_)
              · refine b_M_copy_69  (s_M_refuse (by omega) ?_)
                refine b_M_copy_75  ?_
                first | exact H1 (by omega) | exact H2 (by omega) | exact H3 (by omega)
              · refine b_M_copy_59 (by omega) (fun c8 => ?_) (fun c8 => ?_)
                · refine b_M_copy_76  ?_
                  exact lp_M_copy (d := d + 1) (I0 := I) (L0 := L) (by omega) (fun I9 a1 a2 => H4 (by omega) I9 a1 a2) 13 I L _ (by omega) (by omega) (fun _ _ => rfl) (by intro k; rw [if_neg (by omega)]) rfl (by omega)
                · refine b_M_copy_69  (s_M_refuse (by omega) ?_)
                  refine b_M_copy_75  ?_
                  first | exact H1 (by omega) | exact H2 (by omega) | exact H3 (by omega)
    · refine b_M_copy_18  (s_M_refuse (by omega) ?_)
      refine b_M_copy_24  ?_
      first | exact H1 (by omega) | exact H2 (by omega) | exact H3 (by omega)
  · refine b_M_copy_7  (s_M_refuse (by omega) ?_)
    refine b_M_copy_13  ?_
    first | exact H1 (by omega) | exact H2 (by omega) | exact H3 (by omega)
theorem A_copy {ro : Nat → Int × (Int → Int)} {d : Nat} {b : Bool} {I L : Nat → Int → Int} {x1 x2 x3 : Int} (hI : Inv b I L) : am_m ro (d + 2) 43 [am_R 0, am_I x1, am_I x2, am_I x3] (sh b, I, L) (fun r h => am_m ro (d + 2) 253 [am_R 66, am_I x1, am_I x2, am_I x3] h (fun r2 h2 => Pair r r2 h2)) := by
  obtain ⟨⟨lo, ll, le, ld, lp, ls, lr, ly, lu, lq⟩, hk, hr, ht, hf, hcn⟩ := id hI
  obtain ⟨t1, t2, t3, t4⟩ := hr
  refine o_P_copy (by omega) (fun a => ?_) (fun a => ?_) (fun a => ?_) (fun a => ?_)
  · refine o_M_copy (by (try simp (disch := omega) only [rfm]); omega) (fun a2 => Pair_rf hI) (fun a2 => by (try simp (disch := omega) only [rfm] at a2); omega) (fun a2 => by (try simp (disch := omega) only [rfm] at a2); omega) (fun a2 => by (try simp (disch := omega) only [rfm] at a2); omega)
  · refine o_M_copy (by (try simp (disch := omega) only [rfm]); omega) (fun a2 => by (try simp (disch := omega) only [rfm] at a2); omega) (fun a2 => Pair_rf hI) (fun a2 => by (try simp (disch := omega) only [rfm] at a2); omega) (fun a2 => by (try simp (disch := omega) only [rfm] at a2); omega)
  · refine o_M_copy (by (try simp (disch := omega) only [rfm]); omega) (fun a2 => by (try simp (disch := omega) only [rfm] at a2); omega) (fun a2 => by (try simp (disch := omega) only [rfm] at a2); omega) (fun a2 => Pair_rf hI) (fun a2 => by (try simp (disch := omega) only [rfm] at a2); omega)
  · have e66 : ∀ k, k ≠ 64 → am_cp I 64 64 x1 x2 x3 k = I k := fun k hk => by
      funext j
      exact if_neg hk
    have f66 := e66 66 (by omega)
    have e64 : ∀ k, am_cp I 64 64 x1 x2 x3 64 k = if x2 ≤ k ∧ k < x2 + x3 then I 64 (x1 + (k - x2)) else I 64 k := fun k => if_pos rfl
    refine o_M_copy (by rw [f66]; omega) (fun a2 => by rw [f66] at a2; omega) (fun a2 => by omega) (fun a2 => by rw [f66] at a2; omega) (fun a2 I2 d1 d2 => ?_)
    refine ⟨_, b, I2, L, rfl, rfl, rfl, Inv_row hI (fun k q1 q2 q3 q4 => ?_) (fun j q => ?_) ⟨?_, ?_, ?_, fun k a1 a3 => ?_⟩⟩
    · rw [d1 k q4, e66 k q2]
    · rw [d1 66 (by omega), f66]
    · rw [d1 66 (by omega), f66, d1 0 (by omega), e66 0 (by omega)]
      exact t1
    · rw [d1 0 (by omega), e66 0 (by omega)]
      exact t2
    · rw [d1 0 (by omega), e66 0 (by omega)]
      exact t3
    · rw [d2 k, d1 64 (by omega), e64 k, e66 74 (by omega)]
      by_cases e6 : x2 ≤ k ∧ k < x2 + x3
      · rw [if_pos e6, if_pos e6, t4 (x1 + (k - x2)) (by omega) (by omega)]
      · rw [if_neg e6, if_neg e6, t4 k a1 a3]
