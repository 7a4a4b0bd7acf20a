theorem s_Yrs_fundOf {ro : Nat → Int × (Int → Int)} {d : Nat} {b : Bool} {I L : Nat → Int → Int} {Q : Option am_V → am_H → Prop} {x1 : Int} (hx : (0 ≤ x1 ∧ x1 ≤ 40) ∧ (0 ≤ I 39 x1 ∧ I 39 x1 ≤ 9999999)) (hr : 0 < x1 → 0 ≤ L 42 (x1 - 1) ∧ L 42 (x1 - 1) ≤ 410000000) (H : Q (some (am_L (I 39 x1 + (if 0 < x1 then L 42 (x1 - 1) else 0)))) (sh b, I, L)) : am_m ro (d + 1) 107 [am_R 36, am_I x1] (sh b, I, L) Q := by
  refine am_in rfl rfl rfl rfl ?_
  refine b_Yrs_fundOf_0 (by first | omega | (have hr9 := hr (by omega); omega)) (fun c1 => ?_) (fun c1 => ?_)
  · refine b_Yrs_fundOf_22  ?_
    refine b_Yrs_fundOf_23 (by first | omega | (have hr9 := hr (by omega); omega)) ?_
    first
      | (rw [if_pos (by omega)] at H; exact H)
      | (rw [if_neg (by omega)] at H; exact H)
  · refine b_Yrs_fundOf_11 (by first | omega | (have hr9 := hr (by omega); omega)) (by first | omega | (have hr9 := hr (by omega); omega)) ?_
    refine b_Yrs_fundOf_23 (by first | omega | (have hr9 := hr (by omega); omega)) ?_
    first
      | (rw [if_pos (by omega)] at H; exact H)
      | (rw [if_neg (by omega)] at H; exact H)
theorem s_Pay_lateIn {ro : Nat → Int × (Int → Int)} {d : Nat} {b : Bool} {I L : Nat → Int → Int} {Q : Option am_V → am_H → Prop} {x1 : Int} (hro : RoK ro) (hC : Cor I L) (H : ∀ I' : Nat → Int → Int, Sc I L I' L → Q (some (am_I (max 0 (min 40 (sy (I 67) (nmN x1) 5 x1 (-1)))))) (sh b, I', L)) : am_m ro (d + 5) 142 [am_R 58, am_I x1] (sh b, I, L) Q := by
  refine am_in rfl rfl rfl rfl ?_
  refine b_Pay_lateIn_0  (s_Pay_nameNone (fun I9 h1 h2 => ?_))
  refine b_Pay_lateIn_5  (s_Ruls_worth (nm := nmN x1) hro (Cor_sc hC (Sc_59 h1)) h2 (by omega) (fun I8 v8 => ?_))
  refine b_Pay_lateIn_22  (s_P_bounded ?_)
  refine b_Pay_lateIn_28  ?_
  rw [h1 67 (by omega)]
  exact H I8 (Sc_tr (Sc_59 h1) (Sc_35 v8))
theorem l2_Pay_keepLacks {ro : Nat → Int × (Int → Int)} {d : Nat} {b : Bool} {I : Nat → Int → Int} {Q : Option am_V → am_H → Prop} {bc bs : Nat} {w : Int → Int} {L0 : Nat → Int → Int} (hw : ∀ n, 0 ≤ n → n < 20 → -2000000000000 ≤ w n ∧ w n ≤ 3000000000) (H : ∀ L : Nat → Int → Int, (∀ k, k ≠ 61 → L k = L0 k) → (∀ n, 0 ≤ n → n < 20 → L 61 n = max 0 (w n)) → Q (some (am_L (sm (fun n => max 0 (w n)) 20))) (sh b, I, L)) : ∀ (n : Nat) (L : Nat → Int → Int) (x2 x4 : Int), (0 ≤ x4) → (x4 ≤ 20) → (∀ k, k ≠ 61 → L k = L0 k) → (∀ n, 0 ≤ n → n < x4 → L 61 n = max 0 (w n)) → (∀ n, x4 ≤ n → n < 20 → L 61 n = w n) → (x2 = sm (fun n => max 0 (w n)) x4.toNat) → (0 ≤ x2 ∧ x2 ≤ 3000000000 * x4) → 20 - x4 < (n : Int) → am_ex (am_m ro (d + 0)) ro am_M152 Q (64, [some (am_R 58), none, some (am_L x2), none, some (am_I x4)], [], (sh b, I, L), bc, bs) := by
  intro n
  induction n with
  | zero =>
    intro L x2 x4 i0 i1 i2 i3 i4 i5 i6 im
    exact absurd im (by omega)
  | succ n ih =>
    intro L x2 x4 i0 i1 i2 i3 i4 i5 i6 im
    refine b_Pay_keepLacks_64  (fun c1 => ?_) (fun c1 => ?_)
    · refine b_Pay_keepLacks_105  ?_
      have e9 : x4 = 20 := by omega
      rw [e9] at i5
      rw [i5]
      exact H L i2 (fun n n1 n2 => i3 n n1 (by omega))
    · have e5 := i4 x4 (by omega) (by omega)
      have wb := hw x4 (by omega) (by omega)
      refine b_Pay_keepLacks_71 (by first | omega | (simp (disch := omega) only [upo, upm, ups]; omega)) (by first | omega | (simp (disch := omega) only [upo, upm, ups]; omega)) (by first | omega | (simp (disch := omega) only [upo, upm, ups]; omega)) (by first | omega | (simp (disch := omega) only [upo, upm, ups]; omega)) (by first | omega | (simp (disch := omega) only [upo, upm, ups]; omega)) ?_
      refine ih (am_up L 61 x4 (max 0 (L 61 x4))) (x2 + ((am_up L 61 x4 (max 0 (L 61 x4))) 61 x4)) (x4 + 1) (by omega) (by omega) (fun k hk => by rw [upn hk]; exact i2 k hk) (fun n n1 n2 => ?_) (fun n n1 n2 => ?_) ?_ (by rw [ups]; omega) (by omega)
      · by_cases en : n = x4
        · rw [en, ups, e5]
        · rw [upo en]
          exact i3 n n1 (by omega)
      · rw [upo (by omega)]
        exact i4 n (by omega) n2
      · rw [sm_step (by omega), ups, e5, i5]
theorem lp_Pay_keepLacks {ro : Nat → Int × (Int → Int)} {d : Nat} {b : Bool} {I : Nat → Int → Int} {Q : Option am_V → am_H → Prop} {bc bs : Nat} {x1 : Int} {G q : Int → Int} {L0 : Nat → Int → Int} (hP : PoC I) (hx : 0 ≤ x1 ∧ x1 ≤ 40) (h43 : ∀ k, 0 ≤ k → k < 820 → L0 43 k = q (123 + k) ∧ 0 ≤ q (123 + k) ∧ q (123 + k) ≤ 50000000000) (hG : ∀ n, 0 ≤ n → n < 20 → 0 ≤ G n ∧ G n ≤ 3000000000) (H : ∀ L : Nat → Int → Int, (∀ k, k ≠ 61 → L k = L0 k) → (∀ n, 0 ≤ n → n < 20 → L 61 n = lkN (I 67) G q x1 n) → Q (some (am_L (lsN (I 67) G q x1))) (sh b, I, L)) : ∀ (n : Nat) (L : Nat → Int → Int) (x2 : Int), (0 ≤ x2) → (x2 ≤ I 67 3) → (∀ k, k ≠ 61 → L k = L0 k) → (∀ n, 0 ≤ n → n < 20 → L 61 n = G n - sm (fun k => if I 67 (480 + k) = n then q (123 + 20 * x1 + k) else 0) x2.toNat) → (∀ n, 0 ≤ n → n < 20 → L 61 n ≤ 3000000000 ∧ -50000000000 * x2 ≤ L 61 n) → I 67 3 - x2 < (n : Int) → am_ex (am_m ro (d + 0)) ro am_M152 Q (2, [some (am_R 58), some (am_I x1), some (am_I x2), none, none], [], (sh b, I, L), bc, bs) := by
  intro n
  induction n with
  | zero =>
    intro L x2 i0 i1 i2 i3 i4 im
    exact absurd im (by omega)
  | succ n ih =>
    intro L x2 i0 i1 i2 i3 i4 im
    have e15 := hP.2.1
    have hp1 := hP.1.1
    refine b_Pay_keepLacks_2  (fun c1 => ?_) (fun c1 => ?_)
    · refine b_Pay_keepLacks_59  ?_
      have e9 : x2 = I 67 3 := by omega
      rw [e9] at i3
      refine l2_Pay_keepLacks (d := d) (w := fun n => G n - sm (fun k => if I 67 (480 + k) = n then q (123 + 20 * x1 + k) else 0) (I 67 3).toNat) (L0 := L) (fun n n1 n2 => ?_) (fun L9 f1 f2 => H L9 (fun k hk => (f1 k hk).trans (i2 k hk)) f2) 21 L 0 0 (by omega) (by omega) (fun _ _ => rfl) (fun n n1 n2 => by omega) (fun n n1 n2 => i3 n (by omega) n2) rfl (by omega) (by omega)
      have i4m := i4 n n1 n2
      rw [i3 n n1 n2] at i4m
      show -2000000000000 ≤ G n - sm (fun k => if I 67 (480 + k) = n then q (123 + 20 * x1 + k) else 0) (I 67 3).toNat ∧ G n - sm (fun k => if I 67 (480 + k) = n then q (123 + 20 * x1 + k) else 0) (I 67 3).toNat ≤ 3000000000
      omega
    · have pe := hP.2.2.1 x2 (by omega) (by omega)
      have pq := hP.1.2.2.2 x2 (by omega) (by omega)
      have e43 : L 43 (x1 * 20 + x2) = q (123 + 20 * x1 + x2) := by
        rw [i2 43 (by omega), (h43 (x1 * 20 + x2) (by omega) (by omega)).1]
        congr 1
        omega
      have b43 : 0 ≤ q (123 + 20 * x1 + x2) ∧ q (123 + 20 * x1 + x2) ≤ 50000000000 := by
        have w := (h43 (20 * x1 + x2) (by omega) (by omega)).2
        rw [← Int.add_assoc] at w
        exact w
      have i4n := i4 (I 20 x2) (by omega) (by omega)
      refine b_Pay_keepLacks_16 (by omega) (by omega) (by omega) (by omega) (by omega) (by omega) (by omega) (by omega) ?_
      refine ih (am_up L 61 (I 20 x2) ((L 61 (I 20 x2)) - (L 43 ((x1 * 20) + x2)))) (x2 + 1) (by omega) (by omega) (fun k hk => by rw [upn hk]; exact i2 k hk) (fun n n1 n2 => ?_) (fun n n1 n2 => ?_) (by omega)
      · rw [sm_step (by omega)]
        by_cases en : n = I 20 x2
        · rw [en, ups, if_pos (by omega), i3 (I 20 x2) (by omega) (by omega), e43]
          omega
        · rw [upo en, if_neg (by omega), i3 n n1 n2]
          omega
      · have i4m := i4 n n1 n2
        by_cases en : n = I 20 x2
        · rw [en, ups, e43]
          omega
        · rw [upo en]
          omega
theorem s_Pay_keepLacks {ro : Nat → Int × (Int → Int)} {d : Nat} {b : Bool} {I L : Nat → Int → Int} {Q : Option am_V → am_H → Prop} {x1 : Int} {G q : Int → Int} (hP : PoC I) (hx : 0 ≤ x1 ∧ x1 ≤ 40) (h43 : ∀ k, 0 ≤ k → k < 820 → L 43 k = q (123 + k) ∧ 0 ≤ q (123 + k) ∧ q (123 + k) ≤ 50000000000) (hG : ∀ n, 0 ≤ n → n < 20 → 0 ≤ G n ∧ G n ≤ 3000000000) (h61 : ∀ n, 0 ≤ n → n < 20 → L 61 n = G n) (H : ∀ L' : Nat → Int → Int, (∀ k, k ≠ 61 → L' k = L k) → (∀ n, 0 ≤ n → n < 20 → L' 61 n = lkN (I 67) G q x1 n) → Q (some (am_L (lsN (I 67) G q x1))) (sh b, I, L')) : am_m ro (d + 1) 152 [am_R 58, am_I x1] (sh b, I, L) Q := by
  refine am_in rfl rfl rfl rfl ?_
  refine b_Pay_keepLacks_0  ?_
  exact lp_Pay_keepLacks (d := d) (L0 := L) hP hx h43 hG H 21 L 0 (by omega) hP.1.1.1 (fun _ _ => rfl) (fun n n1 n2 => by rw [h61 n n1 n2]; show G n = G n - 0; omega) (fun n n1 n2 => by have := hG n n1 n2; rw [h61 n n1 n2]; omega) (by have := hP.1.1; omega)
theorem s_Yrs_pay {ro : Nat → Int × (Int → Int)} {d : Nat} {b : Bool} {I L : Nat → Int → Int} {Q : Option am_V → am_H → Prop} {x1 x2 x3 x4 : Int} (hx : (0 ≤ x1 ∧ x1 ≤ 40) ∧ (0 ≤ x2 ∧ x2 ≤ 40) ∧ 0 ≤ x3 ∧ x3 < 20) (hb : (0 ≤ L 43 (x1 * 20 + x3) ∧ L 43 (x1 * 20 + x3) ≤ 100000000000) ∧ (0 ≤ L 44 (x2 * 20 + x3) ∧ L 44 (x2 * 20 + x3) ≤ 100000000000) ∧ 0 ≤ x4 ∧ x4 ≤ 10000000000) (H : Q none (sh b, I, am_up (am_up L 43 (x1 * 20 + x3) (L 43 (x1 * 20 + x3) + x4)) 44 (x2 * 20 + x3) (L 44 (x2 * 20 + x3) + x4))) : am_m ro (d + 1) 108 [am_R 36, am_I x1, am_I x2, am_I x3, am_L x4] (sh b, I, L) Q := by
  refine am_in rfl rfl rfl rfl ?_
  refine b_Yrs_pay_0 (by first | omega | (simp (disch := omega) only [upo, upm, ups]; omega)) (by first | omega | (simp (disch := omega) only [upo, upm, ups]; omega)) (by first | omega | (simp (disch := omega) only [upo, upm, ups]; omega)) (by first | omega | (simp (disch := omega) only [upo, upm, ups]; omega)) (by first | omega | (simp (disch := omega) only [upo, upm, ups]; omega)) (by first | omega | (simp (disch := omega) only [upo, upm, ups]; omega)) (by first | omega | (simp (disch := omega) only [upo, upm, ups]; omega)) (by first | omega | (simp (disch := omega) only [upo, upm, ups]; omega)) (by first | omega | (simp (disch := omega) only [upo, upm, ups]; omega)) (by first | omega | (simp (disch := omega) only [upo, upm, ups]; omega)) ?_
  simp (disch := omega) only [upo, upm, ups]
  exact H
