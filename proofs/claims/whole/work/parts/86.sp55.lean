set_option maxHeartbeats 1000000 in
theorem o_P_close {ro : Nat → Int × (Int → Int)} {d : Nat} {b : Bool} {I L : Nat → Int → Int} {Q : Option am_V → am_H → Prop} (hro : RoK ro) (hC : Cor I L) (ly : lYr I L (I 67) (L 69)) (lq : lQ (I 67) (L 69)) (H1 : I 67 0 = 40 → Q (some (am_I (-8))) (sh b, rfC I (-8), L)) (H2 : I 67 0 < 40 → ∀ I' L' : Nat → Int → Int, (∀ k, k ≠ 1 → k ≠ 37 → k ≠ 5 → k ≠ 35 → k ≠ 51 → k ≠ 52 → k ≠ 59 → k ≠ 63 → k ≠ 66 → k ≠ 76 → k ≠ 77 → k ≠ 78 → k ≠ 80 → k ≠ 83 → I' k = I k) → (∀ j, j ≠ 23 → I' 66 j = I 66 j) → I' 1 0 = I 67 0 + 1 → (∀ k, I' 37 k = if k = I 67 0 + 1 then I 37 (I 67 0) else I 37 k) → (∀ k, (k < 40 ∨ 45 ≤ k) ∧ (k ≤ 50 ∨ (63 ≤ k ∧ k ≤ 65) ∨ (67 ≤ k ∧ k ≤ 75) ∨ 85 ≤ k) → L' k = L k) → (∀ k, 0 ≤ k → k < 41 → L' 40 k = qZ (I 67) (L 69) (I 67 0) k ∧ L' 41 k = qZ (I 67) (L 69) (I 67 0) (41 + k) ∧ L' 42 k = qZ (I 67) (L 69) (I 67 0) (82 + k)) → (∀ k, 0 ≤ k → k < 820 → L' 43 k = qZ (I 67) (L 69) (I 67 0) (123 + k) ∧ L' 44 k = qZ (I 67) (L 69) (I 67 0) (943 + k)) → Q (some (am_I (cZ (I 67) (L 69) (I 67 0)))) (sh b, I', L')) : am_m ro (d + 9) 25 [am_R 0] (sh b, I, L) Q := by
  have ct := Cor_ct hC
  refine am_in rfl rfl rfl rfl ?_
  refine b_P_close_0  (fun c1 => ?_) (fun c1 => ?_)
  · have fb := fnd_bd ly lq (y := I 67 0) (by omega)
    have ef : I 39 (I 67 0) + (if 0 < I 67 0 then L 42 (I 67 0 - 1) else 0) = fnd (I 67) (L 69) (I 67 0) := by
      unfold fnd
      rw [(ly.1 (I 67 0) (by omega) (by omega)).2.1]
      congr 1
      by_cases hp : 0 < I 67 0
      · rw [if_pos hp, if_pos hp, (ly.1 (I 67 0 - 1) (by omega) (by omega)).2.2.2.2]
        congr 1
        omega
      · rw [if_neg hp, if_neg hp]
    refine b_P_close_21  (s_Yrs_fundOf (by rw [ct.1.1]; have w1 := (ly.1 (I 67 0) (by omega) (by omega)).2.1; omega) (fun hp => by rw [ct.1.1] at hp ⊢; have w1 := (ly.1 (I 67 0 - 1) (by omega) (by omega)).2.2.2.2; have w2 := lq.1 (I 67 0 - 1) (by omega) (by omega); omega) ?_)
    refine b_P_close_32  (s_Pay_lateIn hro hC (fun I9 s9 => ?_))
    rw [ct.1.1]
    refine b_P_close_44 (by omega) ?_
    rw [ef]
    have f67 := Sc_67 s9
    refine lp_P_close (d := d) (x1 := I 67 0) (I0 := I) (L0 := L) hro hC ly lq (by omega) rfl (H2 (by omega)) 42 I9 L _ _ ?_ ?_ (Sy_sc s9) (fun k k1 k2 => ?_) ?_ (by omega)
    · show sN (I 67) (I 67 0) ≤ sN (I 67) (I 67 0)
      exact Int.le_refl _
    · omega
    · show L 43 k = (QL (I 67) (L 69) (fnd (I 67) (L 69) (I 67 0)) (I 67 0) (sN (I 67) (I 67 0)) (sN (I 67) (I 67 0) - sN (I 67) (I 67 0)).toNat).1 (123 + k) ∧ L 44 k = (QL (I 67) (L 69) (fnd (I 67) (L 69) (I 67 0)) (I 67 0) (sN (I 67) (I 67 0)) (sN (I 67) (I 67 0) - sN (I 67) (I 67 0)).toNat).1 (943 + k)
      rw [show (sN (I 67) (I 67 0) - sN (I 67) (I 67 0)).toNat = 0 by omega]
      exact ly.2.2.2 k k1 k2
    · show fnd (I 67) (L 69) (I 67 0) = (QL (I 67) (L 69) (fnd (I 67) (L 69) (I 67 0)) (I 67 0) (sN (I 67) (I 67 0)) (sN (I 67) (I 67 0) - sN (I 67) (I 67 0)).toNat).2
      rw [show (sN (I 67) (I 67 0) - sN (I 67) (I 67 0)).toNat = 0 by omega]
      rfl
  · refine b_P_close_14  (s_P_refuse (by omega) ?_)
    refine b_P_close_20  ?_
    exact H1 (by omega)
theorem lp_M_paidOf {ro : Nat → Int × (Int → Int)} {d : Nat} {b : Bool} {I L : Nat → Int → Int} {Q : Option am_V → am_H → Prop} {bc bs : Nat} {x1 x2 : Int} {q : Int → Int} (hM : Mo I L) (hx : 0 ≤ x1 ∧ x1 ≤ 40) (hq : ∀ k, 0 ≤ k → k < 820 → L 69 (123 + k) = q (123 + k) ∧ 0 ≤ q (123 + k) ∧ q (123 + k) ≤ 50000000000) (H : Q (some (am_L (sm (fun k => if I 67 (480 + k) = x2 then q (123 + 20 * x1 + k) else 0) (I 67 3).toNat))) (sh b, I, L)) : ∀ (n : Nat) (x3 x5 : Int), (0 ≤ x5) → (x5 ≤ I 67 3) → (x3 = sm (fun k => if I 67 (480 + k) = x2 then q (123 + 20 * x1 + k) else 0) x5.toNat) → (0 ≤ x3 ∧ x3 ≤ 50000000000 * x5) → I 67 3 - x5 < (n : Int) → am_ex (am_m ro (d + 0)) ro am_M225 Q (5, [some (am_R 66), some (am_I x1), some (am_I x2), some (am_L x3), none, some (am_I x5)], [], (sh b, I, L), bc, bs) := by
  intro n
  induction n with
  | zero =>
    intro x3 x5 i0 i1 i2 i3 im
    exact absurd im (by omega)
  | succ n ih =>
    intro x3 x5 i0 i1 i2 i3 im
    have ct := Mo_ct hM
    refine b_M_paidOf_5  (fun c1 => ?_) (fun c1 => ?_)
    · refine b_M_paidOf_59  ?_
      have e9 : x5 = I 67 3 := by omega
      rw [i2, e9]
      exact H
    · have qk := hq (20 * x1 + x5) (by omega) (by omega)
      rw [← Int.add_assoc] at qk
      refine b_M_paidOf_16 (by omega) (by omega) (fun c2 => ?_) (fun c2 => ?_)
      · refine b_M_paidOf_50  ?_
        refine b_M_paidOf_51 (by omega) (by omega) ?_
        exact ih (x3 + 0) (x5 + 1) (by omega) (by omega) (by rw [sm_step (by omega), ← i2]; first | (rw [if_pos (by omega)]; omega) | (rw [if_neg (by omega)])) (by omega) (by omega)
      · refine b_M_paidOf_32 (by omega) (by omega) (by omega) (by omega) ?_
        refine b_M_paidOf_51 (by omega) (by omega) ?_
        exact ih (x3 + (L 69 ((123 + (20 * x1)) + x5))) (x5 + 1) (by omega) (by omega) (by rw [sm_step (by omega), ← i2]; first | (rw [if_pos (by omega)]; omega) | (rw [if_neg (by omega)])) (by omega) (by omega)
theorem s_M_paidOf {ro : Nat → Int × (Int → Int)} {d : Nat} {b : Bool} {I L : Nat → Int → Int} {Q : Option am_V → am_H → Prop} {x1 x2 : Int} {q : Int → Int} (hM : Mo I L) (hx : 0 ≤ x1 ∧ x1 ≤ 40) (hq : ∀ k, 0 ≤ k → k < 820 → L 69 (123 + k) = q (123 + k) ∧ 0 ≤ q (123 + k) ∧ q (123 + k) ≤ 50000000000) (H : Q (some (am_L (sm (fun k => if I 67 (480 + k) = x2 then q (123 + 20 * x1 + k) else 0) (I 67 3).toNat))) (sh b, I, L)) : am_m ro (d + 1) 225 [am_R 66, am_I x1, am_I x2] (sh b, I, L) Q := by
  have ct := Mo_ct hM
  refine am_in rfl rfl rfl rfl ?_
  refine b_M_paidOf_0  ?_
  exact lp_M_paidOf (d := d) hM hx hq H ((I 67 3).toNat + 1) 0 0 (by omega) (by omega) rfl (by omega) (by omega)
theorem s_M_pays {ro : Nat → Int × (Int → Int)} {d : Nat} {b : Bool} {I L : Nat → Int → Int} {Q : Option am_V → am_H → Prop} {x1 x2 x3 : Int} (hx : (0 ≤ x1 ∧ x1 ≤ 40) ∧ (0 ≤ I 67 0 ∧ I 67 0 ≤ 40) ∧ 0 ≤ x2 ∧ x2 < 20) (hb : (0 ≤ L 69 (123 + 20 * x1 + x2) ∧ L 69 (123 + 20 * x1 + x2) ≤ 100000000000) ∧ (0 ≤ L 69 (943 + 20 * I 67 0 + x2) ∧ L 69 (943 + 20 * I 67 0 + x2) ≤ 100000000000) ∧ 0 ≤ x3 ∧ x3 ≤ 10000000000) (H : Q none (sh b, I, am_up (am_up L 69 (123 + 20 * x1 + x2) (L 69 (123 + 20 * x1 + x2) + x3)) 69 (943 + 20 * I 67 0 + x2) (L 69 (943 + 20 * I 67 0 + x2) + x3))) : am_m ro (d + 1) 226 [am_R 66, am_I x1, am_I x2, am_L x3] (sh b, I, L) Q := by
  refine am_in rfl rfl rfl rfl ?_
  refine b_M_pays_0 (by first | omega | (simp (disch := omega) only [upo, upm, ups]; omega)) (by first | omega | (simp (disch := omega) only [upo, upm, ups]; omega)) (by first | omega | (simp (disch := omega) only [upo, upm, ups]; omega)) (by first | omega | (simp (disch := omega) only [upo, upm, ups]; omega)) (by first | omega | (simp (disch := omega) only [upo, upm, ups]; omega)) (by first | omega | (simp (disch := omega) only [upo, upm, ups]; omega)) (by first | omega | (simp (disch := omega) only [upo, upm, ups]; omega)) (by first | omega | (simp (disch := omega) only [upo, upm, ups]; omega)) (by first | omega | (simp (disch := omega) only [upo, upm, ups]; omega)) (by first | omega | (simp (disch := omega) only [upo, upm, ups]; omega)) (by first | omega | (simp (disch := omega) only [upo, upm, ups]; omega)) (by first | omega | (simp (disch := omega) only [upo, upm, ups]; omega)) ?_
  simp (disch := omega) only [upo, upm, ups]
  exact H
set_option maxHeartbeats 1000000 in
theorem l2_M_paysBack {ro : Nat → Int × (Int → Int)} {d : Nat} {b : Bool} {I : Nat → Int → Int} {Q : Option am_V → am_H → Prop} {bc bs : Nat} {x1 x2 x4 : Int} {q v lk : Int → Int} {y9 : Int} {L0 : Nat → Int → Int} (hx : (0 ≤ x1 ∧ x1 ≤ 40) ∧ (0 ≤ y9 ∧ y9 ≤ 40) ∧ (0 ≤ x2 ∧ x2 ≤ 1000000000) ∧ I 67 0 = y9) (hq : ∀ k, 0 ≤ k → k < 820 → (0 ≤ q (123 + k) ∧ q (123 + k) ≤ 50000000000) ∧ 0 ≤ q (943 + k) ∧ q (943 + k) ≤ 50000000000) (hv : ∀ n, 0 ≤ n → n < 20 → (v n = if x2 < x4 then lk n * x2 / x4 else lk n) ∧ (0 ≤ v n ∧ v n ≤ 1000000000) ∧ 0 ≤ lk n ∧ lk n ≤ x4 ∧ lk n ≤ 3000000000) (h84 : ∀ n, 0 ≤ n → n < 20 → L0 84 n = lk n) (H : ∀ L : Nat → Int → Int, (∀ k, k ≠ 69 → L k = L0 k) → (∀ j, L 69 j = q j + (if 123 + 20 * x1 ≤ j ∧ j < 123 + 20 * x1 + 20 then v (j - (123 + 20 * x1)) else 0) + (if 943 + 20 * y9 ≤ j ∧ j < 943 + 20 * y9 + 20 then v (j - (943 + 20 * y9)) else 0)) → Q (some (am_L (x2 - sm v 20))) (sh b, I, L)) : ∀ (n : Nat) (L : Nat → Int → Int) (x6 x8 : Int), (0 ≤ x8) → (x8 ≤ 20) → (∀ k, k ≠ 69 → L k = L0 k) → (∀ j, L 69 j = q j + (if 123 + 20 * x1 ≤ j ∧ j < 123 + 20 * x1 + x8 then v (j - (123 + 20 * x1)) else 0) + (if 943 + 20 * y9 ≤ j ∧ j < 943 + 20 * y9 + x8 then v (j - (943 + 20 * y9)) else 0)) → (x6 = x2 - sm v x8.toNat) → (x6 ≤ 1000000000 ∧ -1000000000 * x8 ≤ x6) → 20 - x8 < (n : Int) → am_ex (am_m ro (d + 1)) ro am_M227 Q (124, [some (am_R 66), some (am_I x1), some (am_L x2), none, some (am_L x4), none, some (am_L x6), none, some (am_I x8), none, none], [], (sh b, I, L), bc, bs) := by
  intro n
  induction n with
  | zero =>
    intro L x6 x8 i0 i1 i2 i3 i4 i5 im
    exact absurd im (by omega)
  | succ n ih =>
    intro L x6 x8 i0 i1 i2 i3 i4 i5 im
    refine b_M_paysBack_124  (fun c1 => ?_) (fun c1 => ?_)
    · refine b_M_paysBack_191  ?_
      have e9 : x8 = 20 := by omega
      rw [e9] at i3 i4
      rw [i4]
      exact H L i2 i3
    · have hv9 := hv x8 (by omega) (by omega)
      have e84 : L 84 x8 = lk x8 := by rw [i2 84 (by omega)]; exact h84 x8 (by omega) (by omega)
      have mb := mulb (a := lk x8) (c := x2) (A := 3000000000) (C := 1000000000) (by omega) hx.2.2.1
      have e62 : L 84 x8 * x2 = lk x8 * x2 := by rw [e84]
      have e63 : L 84 x8 * x2 / x4 = lk x8 * x2 / x4 := by rw [e84]
      have q9 := (hq (20 * x1 + x8) (by omega) (by omega)).1
      have q8 := (hq (20 * y9 + x8) (by omega) (by omega)).2
      rw [← Int.add_assoc] at q9 q8
      have j43 := i3 (123 + 20 * x1 + x8)
      have j44 := i3 (943 + 20 * y9 + x8)
      rw [if_neg (by omega), if_neg (by omega)] at j43 j44
      refine b_M_paysBack_131  (fun c2 => ?_) (fun c2 => ?_)
      · refine b_M_paysBack_153 (by omega) ?_
        have vv : L 84 x8 = v x8 := by
          rw [hv9.1]
          first
            | (rw [if_pos (by omega)]; exact e63)
            | (rw [if_neg (by omega)]; exact e84)
        refine b_M_paysBack_160  (fun c3 => ?_) (fun c3 => ?_)
        · refine b_M_paysBack_185 (by omega) ?_
          have v0 : v x8 = 0 := by omega
          refine ih L x6 (x8 + 1) (by omega) (by omega) i2 (fun j => ?_) ?_ (by omega) (by omega)
          · rw [i3 j]
            congr 1
            · congr 1
              by_cases e2 : j = 123 + 20 * x1 + x8
              · rw [e2, if_neg (by omega), if_pos (by omega), show 123 + 20 * x1 + x8 - (123 + 20 * x1) = x8 by omega]
                exact v0.symm
              · by_cases c : 123 + 20 * x1 ≤ j ∧ j < 123 + 20 * x1 + x8
                · rw [if_pos c, if_pos (by omega)]
                · rw [if_neg c, if_neg (by omega)]
            · by_cases e2 : j = 943 + 20 * y9 + x8
              · rw [e2, if_neg (by omega), if_pos (by omega), show 943 + 20 * y9 + x8 - (943 + 20 * y9) = x8 by omega]
                exact v0.symm
              · by_cases c : 943 + 20 * y9 ≤ j ∧ j < 943 + 20 * y9 + x8
                · rw [if_pos c, if_pos (by omega)]
                · rw [if_neg c, if_neg (by omega)]
          · rw [sm_step (by omega), v0, i4]
            omega
        · refine b_M_paysBack_169  (s_M_pays (by omega) (by rw [hx.2.2.2, vv]; omega) ?_)
          refine b_M_paysBack_178 (by omega) ?_
          refine b_M_paysBack_185 (by omega) ?_
          refine ih (((am_up (am_up L 69 (123 + 20 * x1 + x8) (L 69 (123 + 20 * x1 + x8) + (((L 84 x8))))) 69 (943 + 20 * I 67 0 + x8) (L 69 (943 + 20 * I 67 0 + x8) + (((L 84 x8))))))) ((x6 - (((L 84 x8))))) (x8 + 1) (by omega) (by omega) (fun k hk => by rw [upn hk, upn hk]; exact i2 k hk) (fun j => ?_) ?_ (by omega) (by omega)
          · rw [hx.2.2.2]
            by_cases e1 : j = 943 + 20 * y9 + x8
            · rw [e1, ups, j44, vv, if_neg (by omega), if_pos (by omega), show 943 + 20 * y9 + x8 - (943 + 20 * y9) = x8 by omega]
              omega
            · rw [upo e1]
              by_cases e2 : j = 123 + 20 * x1 + x8
              · rw [e2, ups, j43, vv, if_pos (by omega), if_neg (by omega), show 123 + 20 * x1 + x8 - (123 + 20 * x1) = x8 by omega]
                omega
              · rw [upo e2, i3 j]
                congr 1
                · congr 1
                  by_cases c : 123 + 20 * x1 ≤ j ∧ j < 123 + 20 * x1 + x8
                  · rw [if_pos c, if_pos (by omega)]
                  · rw [if_neg c, if_neg (by omega)]
                · by_cases c : 943 + 20 * y9 ≤ j ∧ j < 943 + 20 * y9 + x8
                  · rw [if_pos c, if_pos (by omega)]
                  · rw [if_neg c, if_neg (by omega)]
          · rw [sm_step (by omega), vv, i4]
            omega
      · refine b_M_paysBack_138 (by omega) (by omega) (by omega) ?_
        have vv : ((L 84 x8) * x2) / x4 = v x8 := by
          rw [hv9.1]
          first
            | (rw [if_pos (by omega)]; exact e63)
            | (rw [if_neg (by omega)]; exact e84)
        refine b_M_paysBack_160  (fun c4 => ?_) (fun c4 => ?_)
        · refine b_M_paysBack_185 (by omega) ?_
          have v0 : v x8 = 0 := by omega
          refine ih L x6 (x8 + 1) (by omega) (by omega) i2 (fun j => ?_) ?_ (by omega) (by omega)
          · rw [i3 j]
            congr 1
            · congr 1
              by_cases e2 : j = 123 + 20 * x1 + x8
              · rw [e2, if_neg (by omega), if_pos (by omega), show 123 + 20 * x1 + x8 - (123 + 20 * x1) = x8 by omega]
                exact v0.symm
              · by_cases c : 123 + 20 * x1 ≤ j ∧ j < 123 + 20 * x1 + x8
                · rw [if_pos c, if_pos (by omega)]
                · rw [if_neg c, if_neg (by omega)]
            · by_cases e2 : j = 943 + 20 * y9 + x8
              · rw [e2, if_neg (by omega), if_pos (by omega), show 943 + 20 * y9 + x8 - (943 + 20 * y9) = x8 by omega]
                exact v0.symm
              · by_cases c : 943 + 20 * y9 ≤ j ∧ j < 943 + 20 * y9 + x8
                · rw [if_pos c, if_pos (by omega)]
                · rw [if_neg c, if_neg (by omega)]
          · rw [sm_step (by omega), v0, i4]
            omega
        · refine b_M_paysBack_169  (s_M_pays (by omega) (by rw [hx.2.2.2, vv]; omega) ?_)
          refine b_M_paysBack_178 (by omega) ?_
          refine b_M_paysBack_185 (by omega) ?_
          refine ih (((am_up (am_up L 69 (123 + 20 * x1 + x8) (L 69 (123 + 20 * x1 + x8) + (((((L 84 x8) * x2) / x4))))) 69 (943 + 20 * I 67 0 + x8) (L 69 (943 + 20 * I 67 0 + x8) + (((((L 84 x8) * x2) / x4))))))) ((x6 - (((((L 84 x8) * x2) / x4))))) (x8 + 1) (by omega) (by omega) (fun k hk => by rw [upn hk, upn hk]; exact i2 k hk) (fun j => ?_) ?_ (by omega) (by omega)
          · rw [hx.2.2.2]
            by_cases e1 : j = 943 + 20 * y9 + x8
            · rw [e1, ups, j44, vv, if_neg (by omega), if_pos (by omega), show 943 + 20 * y9 + x8 - (943 + 20 * y9) = x8 by omega]
              omega
            · rw [upo e1]
              by_cases e2 : j = 123 + 20 * x1 + x8
              · rw [e2, ups, j43, vv, if_pos (by omega), if_neg (by omega), show 123 + 20 * x1 + x8 - (123 + 20 * x1) = x8 by omega]
                omega
              · rw [upo e2, i3 j]
                congr 1
                · congr 1
                  by_cases c : 123 + 20 * x1 ≤ j ∧ j < 123 + 20 * x1 + x8
                  · rw [if_pos c, if_pos (by omega)]
                  · rw [if_neg c, if_neg (by omega)]
                · by_cases c : 943 + 20 * y9 ≤ j ∧ j < 943 + 20 * y9 + x8
                  · rw [if_pos c, if_pos (by omega)]
                  · rw [if_neg c, if_neg (by omega)]
          · rw [sm_step (by omega), vv, i4]
            omega
