set_option maxHeartbeats 1000000 in
theorem lq_M_rests {ro : Nat → Int × (Int → Int)} {d : Nat} {b : Bool} {I L : Nat → Int → Int} {Q : Option am_V → am_H → Prop} {bc bs : Nat} {x1 x3 x5 x7 : Int} {P N G : Int → Int} (hP : Pp P) (hZ : 0 ≤ x1 ∧ x1 ≤ 1000000000) (h3 : x3 = ptsN P N) (hp : 0 < ptsN P N) (h83 : ∀ q, 0 ≤ q → q < 20 → I 83 q = if N q = 0 then 1 else 0) (hG : ∀ q, 0 ≤ q → q < 20 → 0 ≤ G q ∧ G q ≤ 2147483647) (h81 : ∀ q, 0 ≤ q → q < 20 → L 81 q = P q) (hx : 0 ≤ x7 ∧ x7 < x5 ∧ x5 ≤ 20) (hq : 0 < rs (rN P N x1) 20 x7.toNat (amx (rs (rN P N x1) 20 x7.toNat) 20)) (hg : ∀ q, 0 ≤ q → q < 20 → L 82 q = (if N q = 0 then G q else x1 * P q / ptsN P N) + gt (rN P N x1) 20 x7.toNat q) (HX : ∀ z : Int, z = amx (rs (rN P N x1) 20 x7.toNat) 20 → am_ex (am_m ro (d + 0)) ro am_M223 Q (62, [some (am_R 66), some (am_L x1), none, some (am_L x3), none, some (am_L x5), none, some (am_L ((x7 + 1))), none, none, none, none], [], (sh b, I, am_up L 82 z (L 82 z + 1)), bc, bs)) : ∀ (n : Nat) (x9 x10 : Int), (0 ≤ x10) → (x10 ≤ 20) → (x9 = bst (rs (rN P N x1) 20 x7.toNat) x10.toNat) → 20 - x10 < (n : Int) → am_ex (am_m ro (d + 0)) ro am_M223 Q (76, [some (am_R 66), some (am_L x1), none, some (am_L x3), none, some (am_L x5), none, some (am_L x7), none, some (am_I x9), some (am_I x10), none], [], (sh b, I, L), bc, bs) := by
  intro n
  induction n with
  | zero =>
    intro x9 x10 i0 i1 i2 im
    exact absurd im (by omega)
  | succ n ih =>
    intro x9 x10 i0 i1 i2 im
    have bd := bs_bd (f := rs (rN P N x1) 20 x7.toNat) x10.toNat
    have pt := pts_bd (N := N) hP
    refine b_M_rests_76  (fun c1 => ?_) (fun c1 => ?_)
    · have e9 : x10 = 20 := by omega
      rw [e9] at i2
      have ba := bs_amx (f := rs (rN P N x1) 20 x7.toNat) 20 (by omega)
      have bb := amx_bd (f := rs (rN P N x1) 20 x7.toNat) 20 (by omega)
      have b6 : x9 = amx (rs (rN P N x1) 20 x7.toNat) 20 := by rcases ba with ba | ba; (· omega); (· rw [i2]; exact ba.1)
      have g0 := hg x9 (by omega) (by omega)
      have g3 := gt_le (r := rN P N x1) (m := 20) (e := x9) x7.toNat
      have g4 := gt_nn (r := rN P N x1) (m := 20) (e := x9) x7.toNat
      have hb9 : 0 ≤ L 82 x9 ∧ L 82 x9 ≤ 5000000000 := by
        have gg := hG x9 (by omega) (by omega)
        rw [g0]
        split
        · omega
        · rename_i hn
          have := qv (N := N) (q := x9) hP hZ (by omega) hn hp
          omega
      refine b_M_rests_190 (by omega) (by omega) (by omega) (by omega) ?_
      exact HX x9 b6
    · have e81 : L 81 x10 = P x10 := h81 x10 (by omega) (by omega)
      have e83 := h83 x10 (by omega) (by omega)
      have e1 : x1 * L 81 x10 = x1 * P x10 := by rw [e81]
      have e2 : x1 * L 81 x10 / x3 = x1 * P x10 / ptsN P N := by rw [e81, h3]
      have e3 : x1 * L 81 x10 % x3 = x1 * P x10 % ptsN P N := by rw [e81, h3]
      have pb := P_le (q := x10) hP (by omega)
      have mb := mulb (a := x1) (c := P x10) (A := 1000000000) (C := 479999952) hZ pb
      have g0 := hg x10 (by omega) (by omega)
      have g1 := rs_gt (r := rN P N x1) (m := 20) (e := x10) x7.toNat
      have rv : rN P N x1 x10 = if N x10 = 0 then -1 else x1 * P x10 % ptsN P N := rfl
      have v1 : N x10 = 0 → I 83 x10 = 1 ∧ rN P N x1 x10 = -1 := fun h => by rw [e83, rv, if_pos h, if_pos h]; omega
      have v2 : ¬ N x10 = 0 → I 83 x10 = 0 ∧ rN P N x1 x10 = x1 * P x10 % ptsN P N ∧ L 82 x10 = x1 * P x10 / ptsN P N + gt (rN P N x1) 20 x7.toNat x10 := fun h => by rw [e83, rv, if_neg h, if_neg h]; rw [if_neg h] at g0; omega
      clear e83 rv g0
      refine b_M_rests_83 (by omega) (fun c2 => ?_) (fun c2 => ?_)
      · refine b_M_rests_135  ?_
        refine b_M_rests_136  (fun c3 => ?_) (fun c3 => absurd c3 (by decide))
        refine b_M_rests_180  ?_
        refine b_M_rests_182 (by omega) ?_
        exact ih x9 (x10 + 1) (by omega) (by omega) (by
                rw [bs_s (by omega), ← i2]
                by_cases hn : N x10 = 0
                · have v3 := v1 hn
                  first
                    | (exfalso; omega)
                    | (rw [if_neg (by omega)]; done)
                · have v3 := v2 hn
                  first
                    | (exfalso; omega)
                    | (rw [if_pos (by omega)]; done)
                    | (rw [if_neg (by omega)]; done)) (by omega)
      · refine b_M_rests_93 (by omega) (by omega) (by omega) (by omega) (fun c4 => ?_) (fun c4 => ?_)
        · refine b_M_rests_135  ?_
          refine b_M_rests_136  (fun c5 => ?_) (fun c5 => absurd c5 (by decide))
          refine b_M_rests_180  ?_
          refine b_M_rests_182 (by omega) ?_
          exact ih x9 (x10 + 1) (by omega) (by omega) (by
                  rw [bs_s (by omega), ← i2]
                  by_cases hn : N x10 = 0
                  · have v3 := v1 hn
                    first
                      | (exfalso; omega)
                      | (rw [if_neg (by omega)]; done)
                  · have v3 := v2 hn
                    first
                      | (exfalso; omega)
                      | (rw [if_pos (by omega)]; done)
                      | (rw [if_neg (by omega)]; done)) (by omega)
        · refine b_M_rests_115 (by omega) (by omega) (by omega) (fun c6 => ?_) (fun c6 => ?_)
          · refine b_M_rests_135  ?_
            refine b_M_rests_136  (fun c7 => ?_) (fun c7 => absurd c7 (by decide))
            refine b_M_rests_180  ?_
            refine b_M_rests_182 (by omega) ?_
            exact ih x9 (x10 + 1) (by omega) (by omega) (by
                    rw [bs_s (by omega), ← i2]
                    by_cases hn : N x10 = 0
                    · have v3 := v1 hn
                      first
                        | (exfalso; omega)
                        | (rw [if_neg (by omega)]; done)
                    · have v3 := v2 hn
                      first
                        | (exfalso; omega)
                        | (rw [if_pos (by omega)]; done)
                        | (rw [if_neg (by omega)]; done)) (by omega)
          · refine b_M_rests_131  ?_
            refine b_M_rests_136  (fun c8 => absurd c8 (by decide)) (fun c8 => ?_)
            refine b_M_rests_143  (fun c9 => ?_) (fun c9 => ?_)
            · refine b_M_rests_175  ?_
              refine b_M_rests_182 (by omega) ?_
              exact ih x10 (x10 + 1) (by omega) (by omega) (by
                      rw [bs_s (by omega), ← i2]
                      by_cases hn : N x10 = 0
                      · have v3 := v1 hn
                        first
                          | (exfalso; omega)
                          | (rw [if_neg (by omega)]; done)
                      · have v3 := v2 hn
                        first
                          | (exfalso; omega)
                          | (rw [if_pos (by omega)]; done)
                          | (rw [if_neg (by omega)]; done)) (by omega)
            · have w6 := bs_ok (f := rs (rN P N x1) 20 x7.toNat) x10.toNat (by omega)
              rw [← i2] at w6
              have g2 := rs_gt (r := rN P N x1) (m := 20) (e := x9) x7.toNat
              have f81 : L 81 x9 = P x9 := h81 x9 (by omega) (by omega)
              have rw9 : rN P N x1 x9 = if N x9 = 0 then -1 else x1 * P x9 % ptsN P N := rfl
              have hn9 : ¬ N x9 = 0 := fun h => by rw [if_pos h] at rw9; omega
              rw [if_neg hn9] at rw9
              have pb9 := P_le (q := x9) hP (by omega)
              have mb9 := mulb (a := x1) (c := P x9) (A := 1000000000) (C := 479999952) hZ pb9
              have f1 : x1 * L 81 x9 = x1 * P x9 := by rw [f81]
              have f3 : x1 * L 81 x9 % x3 = x1 * P x9 % ptsN P N := by rw [f81, h3]
              refine b_M_rests_149 (by omega) (by omega) (by omega) (by omega) (by omega) (by omega) (fun c10 => ?_) (fun c10 => ?_)
              · refine b_M_rests_180  ?_
                refine b_M_rests_182 (by omega) ?_
                exact ih x9 (x10 + 1) (by omega) (by omega) (by
                        rw [bs_s (by omega), ← i2]
                        by_cases hn : N x10 = 0
                        · have v3 := v1 hn
                          first
                            | (exfalso; omega)
                            | (rw [if_neg (by omega)]; done)
                        · have v3 := v2 hn
                          first
                            | (exfalso; omega)
                            | (rw [if_pos (by omega)]; done)
                            | (rw [if_neg (by omega)]; done)) (by omega)
              · refine b_M_rests_175  ?_
                refine b_M_rests_182 (by omega) ?_
                exact ih x10 (x10 + 1) (by omega) (by omega) (by
                        rw [bs_s (by omega), ← i2]
                        by_cases hn : N x10 = 0
                        · have v3 := v1 hn
                          first
                            | (exfalso; omega)
                            | (rw [if_neg (by omega)]; done)
                        · have v3 := v2 hn
                          first
                            | (exfalso; omega)
                            | (rw [if_pos (by omega)]; done)
                            | (rw [if_neg (by omega)]; done)) (by omega)
theorem lp2_M_rests {ro : Nat → Int × (Int → Int)} {d : Nat} {b : Bool} {I : Nat → Int → Int} {Q : Option am_V → am_H → Prop} {bc bs : Nat} {x1 x3 x5 : Int} {P N G : Int → Int} (hP : Pp P) (hZ : 0 ≤ x1 ∧ x1 ≤ 1000000000) (h3 : x3 = ptsN P N) (hp : 0 < ptsN P N) (h83 : ∀ q, 0 ≤ q → q < 20 → I 83 q = if N q = 0 then 1 else 0) (hG : ∀ q, 0 ≤ q → q < 20 → 0 ≤ G q ∧ G q ≤ 2147483647) {L0 : Nat → Int → Int} (h81 : ∀ q, 0 ≤ q → q < 20 → L0 81 q = P q) (H : ∀ L : Nat → Int → Int, (∀ k, k ≠ 82 → L k = L0 k) → (∀ q, 0 ≤ q → q < 20 → L 82 q = gE P N G x1 q) → Q none (sh b, I, L)) (h5 : x5 = lfo P N x1) : ∀ (n : Nat) (L : Nat → Int → Int) (x7 : Int), (0 ≤ x7) → (x7 ≤ x5) → (∀ k, k ≠ 82 → L k = L0 k) → (∀ q, 0 ≤ q → q < 20 → L 82 q = (if N q = 0 then G q else x1 * P q / ptsN P N) + gt (rN P N x1) 20 x7.toNat q) → x5 - x7 < (n : Int) → am_ex (am_m ro (d + 0)) ro am_M223 Q (62, [some (am_R 66), some (am_L x1), none, some (am_L x3), none, some (am_L x5), none, some (am_L x7), none, none, none, none], [], (sh b, I, L), bc, bs) := by
  intro n
  induction n with
  | zero =>
    intro L x7 i0 i1 i2 i3 im
    exact absurd im (by omega)
  | succ n ih =>
    intro L x7 i0 i1 i2 i3 im
    have hl := lr_N (N := N) (Z := x1) hP hZ.1 hp
    rw [← h5] at hl
    have lm := lr_m hl
    refine b_M_rests_62  (fun c1 => ?_) (fun c1 => ?_)
    · refine b_M_rests_210  ?_
      have e9 : x7 = x5 := by omega
      rw [e9, h5] at i3
      refine H L i2 (fun q q1 q2 => ?_)
      rw [i3 q q1 q2]
      unfold gE
      rw [if_pos hp]
    · refine b_M_rests_70  ?_
      have lp := lr_pos (k := x7.toNat) hl (by omega)
      refine lq_M_rests (d := d) hP hZ h3 hp h83 hG (fun q q1 q2 => by rw [i2 81 (by omega)]; exact h81 q q1 q2) (by omega) lp.2 i3 (fun z hz => ih _ (x7 + 1) (by omega) (by omega) (fun k k1 => by rw [upn k1]; exact i2 k k1) (fun q q1 q2 => ?_) (by omega)) 21 (-1) 0 (by omega) (by omega) rfl (by omega)
      have ab := amx_bd (f := rs (rN P N x1) 20 x7.toNat) 20 lp.1
      rw [(rs_s (by omega)).2, ← hz]
      by_cases ee : q = z
      · rw [ee, ups, if_pos rfl, i3 z (by omega) (by omega)]
        omega
      · rw [upo ee, if_neg ee, i3 q q1 q2]
        omega
theorem lp1_M_rests {ro : Nat → Int × (Int → Int)} {d : Nat} {b : Bool} {I : Nat → Int → Int} {Q : Option am_V → am_H → Prop} {bc bs : Nat} {x1 x3 : Int} {P N G : Int → Int} (hP : Pp P) (hZ : 0 ≤ x1 ∧ x1 ≤ 1000000000) (h3 : x3 = ptsN P N) (hp : 0 < ptsN P N) (h83 : ∀ q, 0 ≤ q → q < 20 → I 83 q = if N q = 0 then 1 else 0) (hG : ∀ q, 0 ≤ q → q < 20 → 0 ≤ G q ∧ G q ≤ 2147483647) {L0 : Nat → Int → Int} (h81 : ∀ q, 0 ≤ q → q < 20 → L0 81 q = P q) (H : ∀ L : Nat → Int → Int, (∀ k, k ≠ 82 → L k = L0 k) → (∀ q, 0 ≤ q → q < 20 → L 82 q = gE P N G x1 q) → Q none (sh b, I, L)) : ∀ (n : Nat) (L : Nat → Int → Int) (x5 x7 : Int), (0 ≤ x7) → (x7 ≤ 20) → (x5 = x1 - sm (fun q => if N q = 0 then 0 else x1 * P q / ptsN P N) x7.toNat) → (∀ k, k ≠ 82 → L k = L0 k) → (∀ q, 0 ≤ q → q < x7 → L 82 q = (if N q = 0 then G q else x1 * P q / ptsN P N)) → (∀ q, x7 ≤ q → q < 20 → L 82 q = G q) → (x5 ≤ 1000000000 ∧ -1000000000 * x7 ≤ x5) → 20 - x7 < (n : Int) → am_ex (am_m ro (d + 0)) ro am_M223 Q (6, [some (am_R 66), some (am_L x1), none, some (am_L x3), none, some (am_L x5), none, some (am_I x7), none, none, none, none], [], (sh b, I, L), bc, bs) := by
  intro n
  induction n with
  | zero =>
    intro L x5 x7 i0 i1 i2 i3 i4 i5 i6 im
    exact absurd im (by omega)
  | succ n ih =>
    intro L x5 x7 i0 i1 i2 i3 i4 i5 i6 im
    refine b_M_rests_6  (fun c1 => ?_) (fun c1 => ?_)
    · refine b_M_rests_59  ?_
      have e9 : x7 = 20 := by omega
      rw [e9] at i2
      have hl := lr_N (N := N) (Z := x1) hP hZ.1 hp
      have l2 := hl.2.1
      have i2' : x5 = lfo P N x1 := i2
      refine lp2_M_rests (d := d) hP hZ h3 hp h83 hG h81 H i2' (x5.toNat + 1) L 0 (by omega) (by omega) i3 (fun q q1 q2 => ?_) (by omega)
      rw [i4 q q1 (by omega)]
      show _ = _ + 0
      omega
    · have e81 : L 81 x7 = P x7 := by rw [i3 81 (by omega)]; exact h81 x7 (by omega) (by omega)
      have e83 := h83 x7 (by omega) (by omega)
      have pb := P_le (q := x7) hP (by omega)
      have v1 : N x7 = 0 → I 83 x7 = 1 := fun h => by rw [e83, if_pos h]
      have v2 : ¬ N x7 = 0 → I 83 x7 = 0 := fun h => by rw [e83, if_neg h]
      clear e83
      refine b_M_rests_13 (by (try simp (disch := omega) only [upo, upm, ups]); omega) (fun c2 => ?_) (fun c2 => ?_)
      · refine b_M_rests_53 (by (try simp (disch := omega) only [upo, upm, ups]); omega) ?_
        have hn : N x7 = 0 := by omega
        refine ih L x5 (x7 + 1) (by omega) (by omega) ?_ i3 (fun q q1 q2 => ?_) (fun q q1 q2 => i5 q (by omega) q2) (by omega) (by omega)
        · rw [sm_step (by omega), if_pos hn, i2]
          omega
        · by_cases eq : q = x7
          · rw [eq, if_pos hn]
            exact i5 x7 (by omega) (by omega)
          · exact i4 q q1 (by omega)
      · have hn : ¬ N x7 = 0 := by omega
        have q9 := qv (N := N) (q := x7) hP hZ (by omega) hn hp
        have e1 : x1 * L 81 x7 = x1 * P x7 := by rw [e81]
        have e2 : x1 * L 81 x7 / x3 = x1 * P x7 / ptsN P N := by rw [e81, h3]
        refine b_M_rests_23 (by (try simp (disch := omega) only [upo, upm, ups]); omega) (by (try simp (disch := omega) only [upo, upm, ups]); omega) (by (try simp (disch := omega) only [upo, upm, ups]); omega) (by (try simp (disch := omega) only [upo, upm, ups]); omega) (by (try simp (disch := omega) only [upo, upm, ups]); omega) (by (try simp (disch := omega) only [upo, upm, ups]); omega) ?_
        refine b_M_rests_53 (by (try simp (disch := omega) only [upo, upm, ups]); omega) ?_
        refine ih ((am_up L 82 x7 ((x1 * (L 81 x7)) / x3))) ((x5 - ((am_up L 82 x7 ((x1 * (L 81 x7)) / x3)) 82 x7))) (x7 + 1) (by omega) (by omega) ?_ (fun k hk => by rw [upn hk]; exact i3 k hk) (fun q q1 q2 => ?_) (fun q q1 q2 => ?_) (by (try simp (disch := omega) only [upo, upm, ups]); omega) (by omega)
        · rw [sm_step (by omega), if_neg hn, ups, e2, i2]
          omega
        · by_cases eq : q = x7
          · rw [eq, ups, if_neg hn, e2]
          · rw [upo eq]
            exact i4 q q1 (by omega)
        · rw [upo (by omega)]
          exact i5 q (by omega) q2
theorem s_M_rests {ro : Nat → Int × (Int → Int)} {d : Nat} {b : Bool} {I L : Nat → Int → Int} {Q : Option am_V → am_H → Prop} {x1 x3 : Int} {P N G : Int → Int} (hP : Pp P) (hZ : 0 ≤ x1 ∧ x1 ≤ 1000000000) (h3 : x3 = ptsN P N) (hp : 0 < ptsN P N) (h83 : ∀ q, 0 ≤ q → q < 20 → I 83 q = if N q = 0 then 1 else 0) (hG : ∀ q, 0 ≤ q → q < 20 → 0 ≤ G q ∧ G q ≤ 2147483647) (h81 : ∀ q, 0 ≤ q → q < 20 → L 81 q = P q) (h82 : ∀ q, 0 ≤ q → q < 20 → L 82 q = G q) (H : ∀ L' : Nat → Int → Int, (∀ k, k ≠ 82 → L' k = L k) → (∀ q, 0 ≤ q → q < 20 → L' 82 q = gE P N G x1 q) → Q none (sh b, I, L')) : am_m ro (d + 1) 223 [am_R 66, am_L x1, am_L x3] (sh b, I, L) Q := by
  refine am_in rfl rfl rfl rfl ?_
  refine b_M_rests_0  ?_
  exact lp1_M_rests (d := d) (L0 := L) hP hZ h3 hp h83 hG h81 H 21 L x1 0 (by omega) (by omega) (by show x1 = x1 - 0; omega) (fun _ _ => rfl) (fun q q1 q2 => by omega) (fun q q1 q2 => h82 q (by omega) q2) (by omega) (by omega)
