set_option maxHeartbeats 1000000 in
theorem lp_Pay_partEvenly {ro : Nat → Int × (Int → Int)} {d : Nat} {b : Bool} {I : Nat → Int → Int} {Q : Option am_V → am_H → Prop} {bc bs : Nat} {x1 x3 : Int} {P N G : Int → Int} {L0 : Nat → Int → Int} (hP : Pp P) (hZ : 0 ≤ x1 ∧ x1 ≤ 1000000000) (h60 : ∀ q, 0 ≤ q → q < 20 → L0 60 q = P q) (h63 : ∀ q, 0 ≤ q → q < 20 → I 63 q = N q) (hG : ∀ q, 0 ≤ q → q < 20 → 0 ≤ G q ∧ G q ≤ 2147483647) (h3 : x3 = ptsN P N) (hp : 0 < ptsN P N) (H : ∀ L : Nat → Int → Int, (∀ k, k ≠ 61 → k ≠ 62 → L k = L0 k) → (∀ q, 0 ≤ q → q < 20 → L 61 q = gE P N G x1 q) → Q none (sh b, I, L)) : ∀ (n : Nat) (L : Nat → Int → Int) (x5 x7 : Int), (0 ≤ x7) → (x7 ≤ 20) → ((∀ k, k ≠ 61 → k ≠ 62 → L k = L0 k)) → (∀ q, 0 ≤ q → q < x7 → L 62 q = rN P N x1 q) → (∀ q, 0 ≤ q → q < x7 → L 61 q = if N q = 0 then G q else x1 * P q / ptsN P N) → (∀ q, x7 ≤ q → q < 20 → L 61 q = G q) → (x5 = x1 - sm (fun q => if N q = 0 then 0 else x1 * P q / ptsN P N) x7.toNat) → (x5 ≤ 1000000000 ∧ -1000000000 * x7 ≤ x5) → 20 - x7 < (n : Int) → am_ex (am_m ro (d + 1)) ro am_M148 Q (18, [some (am_R 58), some (am_L x1), none, some (am_L x3), none, some (am_L x5), none, some (am_I x7)], [], (sh b, I, L), bc, bs) := by
  intro n
  induction n with
  | zero =>
    intro L x5 x7 i0 i1 i2 i3 i4 i5 i6 i7 im
    exact absurd im (by omega)
  | succ n ih =>
    intro L x5 x7 i0 i1 i2 i3 i4 i5 i6 i7 im
    refine b_Pay_partEvenly_18  (fun c1 => ?_) (fun c1 => ?_)
    · have e9 : x7 = 20 := by omega
      rw [e9] at i6
      have hl := lr_N (N := N) (Z := x1) hP hZ.1 (by omega)
      have i6' : x5 = lfo P N x1 := i6
      rw [← i6'] at hl
      have bt : ∀ q, 0 ≤ q → q < 20 → -100000000000000000 ≤ L 61 q ∧ L 61 q ≤ 100000000000000000 := fun q q1 q2 => by
        rw [i4 q q1 (by omega)]
        have := hG q q1 q2
        split
        · omega
        · rename_i hn
          have := qv (N := N) (q := q) hP hZ ⟨q1, q2⟩ hn (by omega)
          omega
      refine b_Pay_partEvenly_99  (s_P_giveLeft_62_61 (r := rN P N x1) (S := ptsN P N) (by omega) (fun q q1 q2 => i3 q q1 (by omega)) hl bt (fun L9 f1 f2 f3 => ?_))
      refine b_Pay_partEvenly_114  ?_
      refine H L9 (fun k k1 k2 => (f1 k k2 k1).trans (i2 k k1 k2)) (fun q q1 q2 => ?_)
      rw [f2 q q1 (by omega), i4 q q1 (by omega), i6']
      unfold gE
      rw [if_pos hp]
      rfl
    · have pb := P_le (q := x7) hP (by omega)
      have e60 : L 60 x7 = P x7 := by rw [i2 60 (by omega) (by omega)]; exact h60 x7 (by omega) (by omega)
      have e63 := h63 x7 (by omega) (by omega)
      have qw := fun (hn : ¬ N x7 = 0) => qv (N := N) (q := x7) hP hZ (by omega) hn (by omega)
      refine b_Pay_partEvenly_25 (by (try simp (disch := omega) only [upo, upm, ups]); omega) (by (try simp (disch := omega) only [upo, upm, ups]); omega) (fun c2 => ?_) (fun c2 => ?_)
      · refine b_Pay_partEvenly_93 (by (try simp (disch := omega) only [upo, upm, ups]); omega) ?_
        refine ih ((am_up L 62 x7 ((-1)))) x5 (x7 + 1) (by omega) (by omega) (fun k k1 k2 => by rw [upn k2]; exact i2 k k1 k2) (fun q q1 q2 => ?_) (fun q q1 q2 => ?_) (fun q q1 q2 => ?_) ?_ (by omega) (by omega)
        · by_cases eq : q = x7
          · rw [eq, ups]
            unfold rN
            rw [if_pos (by omega)]
          · rw [upo eq]
            exact i3 q q1 (by omega)
        · rw [upm (by omega)]
          by_cases eq : q = x7
          · rw [eq, if_pos (by omega)]
            exact i5 x7 (by omega) (by omega)
          · exact i4 q q1 (by omega)
        · rw [upm (by omega)]
          exact i5 q (by omega) q2
        · rw [sm_step (by omega), if_pos (by omega), i6]
          omega
      · have q9 := qw (by omega)
        have e1 : x1 * L 60 x7 = x1 * P x7 := by rw [e60]
        have e2 : x1 * L 60 x7 / x3 = x1 * P x7 / ptsN P N := by rw [e60, h3]
        have e3 : x1 * L 60 x7 % x3 = x1 * P x7 % ptsN P N := by rw [e60, h3]
        refine b_Pay_partEvenly_45 (by (try simp (disch := omega) only [upo, upm, ups]); omega) (by (try simp (disch := omega) only [upo, upm, ups]); omega) (by (try simp (disch := omega) only [upo, upm, ups]); omega) (by (try simp (disch := omega) only [upo, upm, ups]); omega) (by (try simp (disch := omega) only [upo, upm, ups]); omega) (by (try simp (disch := omega) only [upo, upm, ups]); omega) (by (try simp (disch := omega) only [upo, upm, ups]); omega) (by (try simp (disch := omega) only [upo, upm, ups]); omega) (by (try simp (disch := omega) only [upo, upm, ups]); omega) (by (try simp (disch := omega) only [upo, upm, ups]); omega) ?_
        refine b_Pay_partEvenly_93 (by (try simp (disch := omega) only [upo, upm, ups]); omega) ?_
        refine ih ((am_up (am_up (am_up L 62 x7 ((-1))) 61 x7 ((x1 * ((am_up L 62 x7 ((-1))) 60 x7)) / x3)) 62 x7 ((x1 * ((am_up (am_up L 62 x7 ((-1))) 61 x7 ((x1 * ((am_up L 62 x7 ((-1))) 60 x7)) / x3)) 60 x7)) % x3))) ((x5 - ((am_up (am_up (am_up L 62 x7 ((-1))) 61 x7 ((x1 * ((am_up L 62 x7 ((-1))) 60 x7)) / x3)) 62 x7 ((x1 * ((am_up (am_up L 62 x7 ((-1))) 61 x7 ((x1 * ((am_up L 62 x7 ((-1))) 60 x7)) / x3)) 60 x7)) % x3)) 61 x7))) (x7 + 1) (by omega) (by omega) (fun k k1 k2 => by rw [upn k2, upn k1, upn k2]; exact i2 k k1 k2) (fun q q1 q2 => ?_) (fun q q1 q2 => ?_) (fun q q1 q2 => ?_) ?_ (by simp (disch := omega) only [upo, upm, ups]; omega) (by omega)
        · by_cases eq : q = x7
          · rw [eq, ups]
            unfold rN
            rw [if_neg (by omega)]
            simp (disch := omega) only [upo, upm, ups]
            omega
          · rw [upo eq, upm (by omega), upo eq]
            exact i3 q q1 (by omega)
        · by_cases eq : q = x7
          · rw [eq, upm (by omega), ups, if_neg (by omega), upm (by omega)]
            omega
          · rw [upm (by omega), upo eq, upm (by omega)]
            exact i4 q q1 (by omega)
        · rw [upm (by omega), upo (by omega), upm (by omega)]
          exact i5 q (by omega) q2
        · simp (disch := omega) only [upo, upm, ups]
          rw [sm_step (by omega), if_neg (by omega), i6]
          omega
theorem s_Pay_partEvenly {ro : Nat → Int × (Int → Int)} {d : Nat} {b : Bool} {I L : Nat → Int → Int} {Q : Option am_V → am_H → Prop} {x1 : Int} {P N G : Int → Int} (hP : Pp P) (hZ : 0 ≤ x1 ∧ x1 ≤ 1000000000) (h60 : ∀ q, 0 ≤ q → q < 20 → L 60 q = P q) (h63 : ∀ q, 0 ≤ q → q < 20 → I 63 q = N q) (hG : ∀ q, 0 ≤ q → q < 20 → 0 ≤ G q ∧ G q ≤ 2147483647) (h61 : ∀ q, 0 ≤ q → q < 20 → L 61 q = G q) (H : ∀ L' : Nat → Int → Int, (∀ k, k ≠ 61 → k ≠ 62 → L' k = L k) → (∀ q, 0 ≤ q → q < 20 → L' 61 q = gE P N G x1 q) → Q none (sh b, I, L')) : am_m ro (d + 2) 148 [am_R 58, am_L x1] (sh b, I, L) Q := by
  refine am_in rfl rfl rfl rfl ?_
  refine b_Pay_partEvenly_0  (s_Pay_pointsIn (P := P) (N := N) hP h60 h63 ?_)
  refine b_Pay_partEvenly_4  (fun c1 => ?_) (fun c1 => ?_)
  · refine b_Pay_partEvenly_12  ?_
    exact lp_Pay_partEvenly (d := d) hP hZ h60 h63 hG rfl (by omega) H 21 L x1 0 (by omega) (by omega) (fun _ _ _ => rfl) (fun q q1 q2 => by omega) (fun q q1 q2 => by omega) (fun q q1 q2 => h61 q (by omega) q2) (by show x1 = x1 - 0; omega) (by omega) (by omega)
  · refine b_Pay_partEvenly_11  ?_
    refine H L (fun _ _ _ => rfl) (fun q q1 q2 => ?_)
    unfold gE
    rw [if_neg (by omega)]
    exact h61 q q1 q2
theorem l3_Pay_partPence {ro : Nat → Int × (Int → Int)} {d : Nat} {b : Bool} {I : Nat → Int → Int} {Q : Option am_V → am_H → Prop} {bc bs : Nat} {x7 : Int} {g : Int → Int} {Z : Int} {L0 : Nat → Int → Int} (hZ : 0 ≤ Z ∧ Z ≤ 1000000000) (hg : ∀ q, 0 ≤ q → q < 20 → 0 ≤ g q ∧ g q ≤ 3000000000) (H : ∀ L : Nat → Int → Int, (∀ k, k ≠ 61 → L k = L0 k) → (∀ q, 0 ≤ q → q < 20 → L 61 q = if g q < x7 then 0 else g q) → Q (some (am_L (Z - sm (fun q => if g q < x7 then 0 else g q) 20))) (sh b, I, L)) : ∀ (n : Nat) (L : Nat → Int → Int) (x9 x11 : Int), (0 ≤ x11) → (x11 ≤ 20) → ((∀ k, k ≠ 61 → L k = L0 k)) → (∀ q, 0 ≤ q → q < x11 → L 61 q = if g q < x7 then 0 else g q) → (∀ q, x11 ≤ q → q < 20 → L 61 q = g q) → (x9 = Z - sm (fun q => if g q < x7 then 0 else g q) x11.toNat) → (x9 ≤ 1000000000 ∧ -3000000000 * x11 ≤ x9) → 20 - x11 < (n : Int) → am_ex (am_m ro (d + 0)) ro am_M146 Q (123, [some (am_R 58), none, none, none, none, none, none, some (am_L x7), none, some (am_L x9), none, some (am_I x11)], [], (sh b, I, L), bc, bs) := by
  intro n
  induction n with
  | zero =>
    intro L x9 x11 i0 i1 i2 i3 i4 i5 i6 im
    exact absurd im (by omega)
  | succ n ih =>
    intro L x9 x11 i0 i1 i2 i3 i4 i5 i6 im
    refine b_Pay_partPence_123  (fun c1 => ?_) (fun c1 => ?_)
    · refine b_Pay_partPence_169  ?_
      have e9 : x11 = 20 := by omega
      rw [e9] at i5
      rw [i5]
      exact H L i2 (fun q q1 q2 => i3 q q1 (by omega))
    · have e5 := i4 x11 (by omega) (by omega)
      have gb := hg x11 (by omega) (by omega)
      refine b_Pay_partPence_130 (by (try simp (disch := omega) only [upo, upm, ups]); omega) (fun c2 => ?_) (fun c2 => ?_)
      · refine b_Pay_partPence_151 (by (try simp (disch := omega) only [upo, upm, ups]); omega) (by (try simp (disch := omega) only [upo, upm, ups]); omega) (by (try simp (disch := omega) only [upo, upm, ups]); omega) ?_
        refine ih L (x9 - (L 61 x11)) (x11 + 1) (by omega) (by omega) (fun k hk => i2 k hk) (fun q q1 q2 => ?_) (fun q q1 q2 => ?_) ?_ (by (try simp (disch := omega) only [upo, upm, ups]); omega) (by omega)
        · by_cases eq : q = x11
          · rw [eq]
            (try rw [ups])
            first
              | (rw [if_pos (by omega)]; done)
              | (rw [if_neg (by omega)]; exact e5)
          · (try rw [upo eq])
            exact i3 q q1 (by omega)
        · (try rw [upo (show ¬ q = x11 by omega)])
          exact i4 q (by omega) q2
        · rw [sm_step (by omega), i5]
          (try simp (disch := omega) only [upo, upm, ups])
          first
            | (rw [if_pos (by omega)]; omega)
            | (rw [if_neg (by omega)]; omega)
      · refine b_Pay_partPence_143 (by (try simp (disch := omega) only [upo, upm, ups]); omega) ?_
        refine b_Pay_partPence_151 (by (try simp (disch := omega) only [upo, upm, ups]); omega) (by (try simp (disch := omega) only [upo, upm, ups]); omega) (by (try simp (disch := omega) only [upo, upm, ups]); omega) ?_
        refine ih ((am_up L 61 x11 0)) (x9 - ((am_up L 61 x11 0) 61 x11)) (x11 + 1) (by omega) (by omega) (fun k hk => by rw [upn hk]; exact i2 k hk) (fun q q1 q2 => ?_) (fun q q1 q2 => ?_) ?_ (by (try simp (disch := omega) only [upo, upm, ups]); omega) (by omega)
        · by_cases eq : q = x11
          · rw [eq]
            (try rw [ups])
            first
              | (rw [if_pos (by omega)]; done)
              | (rw [if_neg (by omega)]; exact e5)
          · (try rw [upo eq])
            exact i3 q q1 (by omega)
        · (try rw [upo (show ¬ q = x11 by omega)])
          exact i4 q (by omega) q2
        · rw [sm_step (by omega), i5]
          (try simp (disch := omega) only [upo, upm, ups])
          first
            | (rw [if_pos (by omega)]; omega)
            | (rw [if_neg (by omega)]; omega)
