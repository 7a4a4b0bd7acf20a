theorem p_in {P N : Int → Int} {q : Int} (hP : Pp P) (hq : 0 ≤ q ∧ q < 20) (hn : ¬ N q = 0) : P q ≤ ptsN P N := by
  have o1 := sm_one (f := fun q => if N q = 0 then 0 else P q) (j := q) 20 (fun j b1 b2 => by
    have := hP.1 j b1 (by omega)
    show 0 ≤ (if N j = 0 then 0 else P j)
    split <;> omega) hq.1 (by omega)
  have o2 : (if N q = 0 then 0 else P q) ≤ ptsN P N := o1
  rw [if_neg hn] at o2
  exact o2
theorem qv {P N : Int → Int} {Z q : Int} (hP : Pp P) (hZ : 0 ≤ Z ∧ Z ≤ 1000000000) (hq : 0 ≤ q ∧ q < 20) (hn : ¬ N q = 0) (hp : 0 < ptsN P N) : (0 ≤ Z * P q ∧ Z * P q ≤ 479999952000000000) ∧ 0 ≤ Z * P q / ptsN P N ∧ Z * P q / ptsN P N ≤ Z := by
  have pb := P_le hP hq
  have m := mulb hZ pb
  have m2 := mulb (a := Z) (c := P q) (A := Z) (C := ptsN P N) ⟨hZ.1, Int.le_refl _⟩ ⟨pb.1, p_in hP hq hn⟩
  refine ⟨by omega, Int.ediv_nonneg m.1 (by omega), ?_⟩
  have := Int.ediv_le_ediv hp m2.2
  rw [Int.mul_ediv_cancel _ (show ptsN P N ≠ 0 by omega)] at this
  exact this
theorem gE_bd {P N G : Int → Int} {Z q : Int} (hP : Pp P) (hZ : 0 ≤ Z ∧ Z ≤ 1000000000) (hq : 0 ≤ q ∧ q < 20) (hG : 0 ≤ G q ∧ G q ≤ 2147483647) : 0 ≤ gE P N G Z q ∧ gE P N G Z q ≤ 3000000000 := by
  unfold gE
  split
  · rename_i hp
    have l := lr_N (N := N) (Z := Z) hP hZ.1 hp
    have lm := lr_m l
    have g1 := gt_nn (r := rN P N Z) (m := 20) (e := q) (lfo P N Z).toNat
    have g2 := gt_le (r := rN P N Z) (m := 20) (e := q) (lfo P N Z).toNat
    have l2 := l.2.1
    split
    · omega
    · rename_i hn
      have w := qv hP hZ hq hn hp
      omega
  · omega
theorem gM_bd {P : Int → Int} {M Z : Int} {k : Nat} {q : Int} (hM : -2147483648 ≤ M ∧ M ≤ 2147483647) (hk : k = kk M) : 0 ≤ gM P M Z k q ∧ gM P M Z k q ≤ 2147483647 := by
  unfold gM
  split
  · rename_i h
    by_cases m : 0 < M
    · omega
    · exfalso
      have e : kk M = 0 := if_neg m
      rw [hk, e] at h
      have e2 : (NZ P M Z 0).1 q = if 0 < P q then 1 else 0 := rfl
      rw [e2, if_pos h.1] at h
      omega
  · omega
theorem oG_bd {P : Int → Int} {M Z q : Int} (hP : Pp P) (hZ : 0 ≤ Z ∧ Z ≤ 1000000000) (hq : 0 ≤ q ∧ q < 20) (hM : -2147483648 ≤ M ∧ M ≤ 2147483647) : 0 ≤ oG P M Z q ∧ oG P M Z q ≤ 3000000000 := by
  unfold oG
  have z : 0 ≤ (NZ P M Z (kk M)).2 ∧ (NZ P M Z (kk M)).2 ≤ 1000000000 := by
    unfold kk
    split
    · rename_i m
      have := NZ_z hP m hZ.1 21
      omega
    · exact hZ
  exact gE_bd hP z hq (gM_bd hM rfl)
theorem lp_Pay_pointsIn {ro : Nat → Int × (Int → Int)} {d : Nat} {b : Bool} {I L : Nat → Int → Int} {Q : Option am_V → am_H → Prop} {bc bs : Nat} {P N : Int → Int} (hP : Pp P) (h60 : ∀ q, 0 ≤ q → q < 20 → L 60 q = P q) (h63 : ∀ q, 0 ≤ q → q < 20 → I 63 q = N q) (H : Q (some (am_L (ptsN P N))) (sh b, I, L)) : ∀ (n : Nat) (x1 x3 : Int), (0 ≤ x3) → (x3 ≤ 20) → (x1 = sm (fun q => if N q = 0 then 0 else P q) x3.toNat) → (0 ≤ x1 ∧ x1 ≤ 479999952 * x3) → 20 - x3 < (n : Int) → am_ex (am_m ro (d + 0)) ro am_M149 Q (4, [some (am_R 58), some (am_L x1), none, some (am_I x3)], [], (sh b, I, L), bc, bs) := by
  intro n
  induction n with
  | zero =>
    intro x1 x3 i0 i1 i2 i3 im
    exact absurd im (by omega)
  | succ n ih =>
    intro x1 x3 i0 i1 i2 i3 im
    refine b_Pay_pointsIn_4  (fun c1 => ?_) (fun c1 => ?_)
    · refine b_Pay_pointsIn_34  ?_
      have e9 : x3 = 20 := by omega
      rw [e9] at i2
      rw [i2]
      exact H
    · have pb := P_le (q := x3) hP (by omega)
      have e6 := h60 x3 (by omega) (by omega)
      have e3 := h63 x3 (by omega) (by omega)
      refine b_Pay_pointsIn_10 (by omega) (fun c2 => ?_) (fun c2 => ?_)
      · refine b_Pay_pointsIn_28 (by omega) ?_
        exact ih x1 (x3 + 1) (by omega) (by omega) (by rw [sm_step (by omega), ← i2]; first | (rw [if_pos (by omega)]; omega) | (rw [if_neg (by omega)]; omega)) (by omega) (by omega)
      · refine b_Pay_pointsIn_19 (by omega) (by omega) ?_
        refine b_Pay_pointsIn_28 (by omega) ?_
        exact ih ((x1 + (L 60 x3))) (x3 + 1) (by omega) (by omega) (by rw [sm_step (by omega), ← i2]; first | (rw [if_pos (by omega)]; omega) | (rw [if_neg (by omega)]; omega)) (by omega) (by omega)
theorem s_Pay_pointsIn {ro : Nat → Int × (Int → Int)} {d : Nat} {b : Bool} {I L : Nat → Int → Int} {Q : Option am_V → am_H → Prop} {P N : Int → Int} (hP : Pp P) (h60 : ∀ q, 0 ≤ q → q < 20 → L 60 q = P q) (h63 : ∀ q, 0 ≤ q → q < 20 → I 63 q = N q) (H : Q (some (am_L (ptsN P N))) (sh b, I, L)) : am_m ro (d + 1) 149 [am_R 58] (sh b, I, L) Q := by
  refine am_in rfl rfl rfl rfl ?_
  refine b_Pay_pointsIn_0  ?_
  exact lp_Pay_pointsIn (d := d) hP h60 h63 H 21 0 0 (by omega) (by omega) rfl (by omega) (by omega)
set_option maxHeartbeats 1000000 in
theorem lq_Pay_partToMost {ro : Nat → Int × (Int → Int)} {d : Nat} {b : Bool} {Q : Option am_V → am_H → Prop} {bc bs : Nat} {x3 x8 x9 x11 : Int} {P : Int → Int} {Z : Int} {I0 L0 : Nat → Int → Int} (hP : Pp P) (hZ : 0 ≤ Z ∧ Z ≤ 1000000000) (hM : 0 < x3 ∧ x3 ≤ 2147483647) (h60 : ∀ q, 0 ≤ q → q < 20 → L0 60 q = P q) (h8 : 0 ≤ x8 ∧ x8 ≤ 20) (h9 : x9 = ptsN P (NZ P x3 Z x8.toNat).1) (h11 : x11 = (NZ P x3 Z x8.toNat).2) (HX : ∀ (I L : Nat → Int → Int) (z5 z7 : Int), (∀ k, k ≠ 63 → I k = I0 k) → (∀ k, k ≠ 61 → L k = L0 k) → (∀ q, 0 ≤ q → q < 20 → I 63 q = (NZ P x3 Z (x8 + 1).toNat).1 q) → (∀ q, 0 ≤ q → q < 20 → L 61 q = gM P x3 Z (x8 + 1).toNat q) → z5 = (NZ P x3 Z (x8 + 1).toNat).2 → (z7 = 0 → (∀ q, 0 ≤ q → q < 20 → ¬ cnd P x3 (NZ P x3 Z (x8 + 1).toNat).1 (NZ P x3 Z (x8 + 1).toNat).2 q)) → am_ex (am_m ro (d + 1)) ro am_M147 Q (9, [some (am_R 58), none, none, some (am_L x3), none, some (am_L z5), none, some (am_I z7), some (am_I ((x8 + 1))), none, none, none, none, none], [], (sh b, I, L), bc, bs)) : ∀ (n : Nat) (I L : Nat → Int → Int) (x5 x7 x13 : Int), (0 ≤ x13) → (x13 ≤ 20) → ((∀ k, k ≠ 63 → I k = I0 k)) → ((∀ k, k ≠ 61 → L k = L0 k)) → (∀ q, 0 ≤ q → q < 20 → I 63 q = if q < x13 then (NZ P x3 Z (x8 + 1).toNat).1 q else (NZ P x3 Z x8.toNat).1 q) → (∀ q, 0 ≤ q → q < 20 → L 61 q = if q < x13 then gM P x3 Z (x8 + 1).toNat q else gM P x3 Z x8.toNat q) → (x5 = (NZ P x3 Z x8.toNat).2 - sm (fun q => if cnd P x3 (NZ P x3 Z x8.toNat).1 (NZ P x3 Z x8.toNat).2 q then x3 else 0) x13.toNat) → (x7 = 0 → ∀ q, 0 ≤ q → q < x13 → ¬ cnd P x3 (NZ P x3 Z x8.toNat).1 (NZ P x3 Z x8.toNat).2 q) → ((x7 = 0 ∨ x7 = 1) ∧ x5 ≤ 1000000000 ∧ -2147483647 * x13 ≤ x5) → 20 - x13 < (n : Int) → am_ex (am_m ro (d + 1)) ro am_M147 Q (37, [some (am_R 58), none, none, some (am_L x3), none, some (am_L x5), none, some (am_I x7), some (am_I x8), some (am_L x9), none, some (am_L x11), none, some (am_I x13)], [], (sh b, I, L), bc, bs) := by
  intro n
  induction n with
  | zero =>
    intro I L x5 x7 x13 i0 i1 i2 i3 i4 i5 i6 i7 i8 im
    exact absurd im (by omega)
  | succ n ih =>
    intro I L x5 x7 x13 i0 i1 i2 i3 i4 i5 i6 i7 i8 im
    refine b_Pay_partToMost_37  (fun c1 => ?_) (fun c1 => ?_)
    · refine b_Pay_partToMost_103 (by omega) ?_
      have e13 : x13 = 20 := by omega
      rw [e13] at i6 i7
      refine HX I L x5 x7 i2 i3 (fun q q1 q2 => ?_) (fun q q1 q2 => ?_) ?_ (fun z => ?_)
      · rw [i4 q q1 q2, if_pos (by omega)]
      · rw [i5 q q1 q2, if_pos (by omega)]
      · rw [i6, show (x8 + 1).toNat = x8.toNat + 1 by omega]
        rfl
      · have fx := NZ_fx (P := P) (M := x3) (Z := Z) (k := x8.toNat) (fun q q1 q2 => i7 z q q1 q2) 1
        rw [show (x8 + 1).toNat = x8.toNat + 1 by omega]
        intro q q1 q2 c
        exact i7 z q q1 q2 ⟨by rw [← fx.1 q q1 q2]; exact c.1, by rw [← pts_cg fx.1, ← fx.2]; exact c.2⟩
    · have pb := P_le (q := x13) hP (by omega)
      have zb := NZ_z (k := x8.toNat) hP hM.1 hZ.1
      have pt := pts_bd (N := (NZ P x3 Z x8.toNat).1) hP
      have n1 := NZ_01 (P := P) (M := x3) (Z := Z) x8.toNat x13
      have e60 : L 60 x13 = P x13 := by rw [i3 60 (by omega)]; exact h60 x13 (by omega) (by omega)
      have e63 := i4 x13 (by omega) (by omega)
      rw [if_neg (by omega)] at e63
      have mb1 := mulb (a := x11) (c := P x13) (A := 1000000000) (C := 479999952) (by omega) pb
      have mb2 := mulb (a := x3) (c := x9) (A := 2147483647) (C := 479999952) (by omega) (by omega)
      have e1 : x11 * L 60 x13 = x11 * P x13 := by rw [e60]
      have ns : ∀ q, (NZ P x3 Z (x8 + 1).toNat).1 q = if cnd P x3 (NZ P x3 Z x8.toNat).1 (NZ P x3 Z x8.toNat).2 q then 0 else (NZ P x3 Z x8.toNat).1 q := fun q => by rw [show (x8 + 1).toNat = x8.toNat + 1 by omega]; rfl
      refine b_Pay_partToMost_44 (by omega) (fun c2 => ?_) (fun c2 => ?_)
      · refine b_Pay_partToMost_97 (by omega) ?_
        have cc : ¬ cnd P x3 (NZ P x3 Z x8.toNat).1 (NZ P x3 Z x8.toNat).2 x13 := fun c => by
          have c1 := c.1
          have c2 := c.2
          rw [← h9, ← h11] at c2
          omega
        refine ih I L x5 x7 (x13 + 1) (by omega) (by omega) i2 i3 (fun q q1 q2 => ?_) (fun q q1 q2 => ?_) ?_ (fun z q q1 q2 => ?_) (by omega) (by omega)
        · rw [i4 q q1 q2]
          by_cases eq : q = x13
          · rw [eq, if_neg (by omega), if_pos (by omega), ns x13, if_neg cc]
          · by_cases lt : q < x13
            · rw [if_pos lt, if_pos (by omega)]
            · rw [if_neg lt, if_neg (by omega)]
        · rw [i5 q q1 q2]
          by_cases eq : q = x13
          · rw [eq, if_neg (by omega), if_pos (by omega)]
            unfold gM
            rw [ns x13, if_neg cc]
          · by_cases lt : q < x13
            · rw [if_pos lt, if_pos (by omega)]
            · rw [if_neg lt, if_neg (by omega)]
        · rw [sm_step (by omega), if_neg cc, i6]
          omega
        · by_cases eq : q = x13
          · rw [eq]
            exact cc
          · exact i7 z q q1 (by omega)
      · refine b_Pay_partToMost_54 (by omega) (by omega) (by omega) (fun c3 => ?_) (fun c3 => ?_)
        · refine b_Pay_partToMost_97 (by omega) ?_
          have cc : ¬ cnd P x3 (NZ P x3 Z x8.toNat).1 (NZ P x3 Z x8.toNat).2 x13 := fun c => by
            have c1 := c.1
            have c2 := c.2
            rw [← h9, ← h11] at c2
            omega
          refine ih I L x5 x7 (x13 + 1) (by omega) (by omega) i2 i3 (fun q q1 q2 => ?_) (fun q q1 q2 => ?_) ?_ (fun z q q1 q2 => ?_) (by omega) (by omega)
          · rw [i4 q q1 q2]
            by_cases eq : q = x13
            · rw [eq, if_neg (by omega), if_pos (by omega), ns x13, if_neg cc]
            · by_cases lt : q < x13
              · rw [if_pos lt, if_pos (by omega)]
              · rw [if_neg lt, if_neg (by omega)]
          · rw [i5 q q1 q2]
            by_cases eq : q = x13
            · rw [eq, if_neg (by omega), if_pos (by omega)]
              unfold gM
              rw [ns x13, if_neg cc]
            · by_cases lt : q < x13
              · rw [if_pos lt, if_pos (by omega)]
              · rw [if_neg lt, if_neg (by omega)]
          · rw [sm_step (by omega), if_neg cc, i6]
            omega
          · by_cases eq : q = x13
            · rw [eq]
              exact cc
            · exact i7 z q q1 (by omega)
        · refine b_Pay_partToMost_72 (by omega) (by omega) (by omega) ?_
          refine b_Pay_partToMost_97 (by omega) ?_
          have cc : cnd P x3 (NZ P x3 Z x8.toNat).1 (NZ P x3 Z x8.toNat).2 x13 := ⟨by omega, by rw [← h9, ← h11]; omega⟩
          refine ih ((am_up I 63 x13 0)) ((am_up L 61 x13 x3)) (x5 - x3) 1 (x13 + 1) (by omega) (by omega) (fun k hk => by rw [upn hk]; exact i2 k hk) (fun k hk => by rw [upn hk]; exact i3 k hk) (fun q q1 q2 => ?_) (fun q q1 q2 => ?_) ?_ (fun z => by omega) (by omega) (by omega)
          · by_cases eq : q = x13
            · rw [eq, ups, if_pos (by omega), ns x13, if_pos cc]
            · rw [upo eq, i4 q q1 q2]
              by_cases lt : q < x13
              · rw [if_pos lt, if_pos (by omega)]
              · rw [if_neg lt, if_neg (by omega)]
          · by_cases eq : q = x13
            · rw [eq, ups, if_pos (by omega)]
              unfold gM
              rw [ns x13, if_pos cc, if_pos ⟨by omega, rfl⟩]
            · rw [upo eq, i5 q q1 q2]
              by_cases lt : q < x13
              · rw [if_pos lt, if_pos (by omega)]
              · rw [if_neg lt, if_neg (by omega)]
          · rw [sm_step (by omega), if_pos cc, i6]
            omega
theorem lp_Pay_partToMost {ro : Nat → Int × (Int → Int)} {d : Nat} {b : Bool} {Q : Option am_V → am_H → Prop} {bc bs : Nat} {x3 : Int} {P : Int → Int} {Z : Int} {I0 L0 : Nat → Int → Int} (hP : Pp P) (hZ : 0 ≤ Z ∧ Z ≤ 1000000000) (hM : 0 < x3 ∧ x3 ≤ 2147483647) (h60 : ∀ q, 0 ≤ q → q < 20 → L0 60 q = P q) (H : ∀ I L : Nat → Int → Int, (∀ k, k ≠ 63 → I k = I0 k) → (∀ k, k ≠ 61 → L k = L0 k) → (∀ q, 0 ≤ q → q < 20 → I 63 q = (NZ P x3 Z 21).1 q) → (∀ q, 0 ≤ q → q < 20 → L 61 q = gM P x3 Z 21 q) → Q (some (am_L (NZ P x3 Z 21).2)) (sh b, I, L)) : ∀ (n : Nat) (I L : Nat → Int → Int) (x5 x7 x8 : Int), (0 ≤ x8) → (x8 ≤ 21) → ((∀ k, k ≠ 63 → I k = I0 k)) → ((∀ k, k ≠ 61 → L k = L0 k)) → (∀ q, 0 ≤ q → q < 20 → I 63 q = (NZ P x3 Z x8.toNat).1 q) → (∀ q, 0 ≤ q → q < 20 → L 61 q = gM P x3 Z x8.toNat q) → (x5 = (NZ P x3 Z x8.toNat).2) → (x7 = 0 → (∀ q, 0 ≤ q → q < 20 → ¬ cnd P x3 (NZ P x3 Z x8.toNat).1 (NZ P x3 Z x8.toNat).2 q)) → 21 - x8 < (n : Int) → am_ex (am_m ro (d + 1)) ro am_M147 Q (9, [some (am_R 58), none, none, some (am_L x3), none, some (am_L x5), none, some (am_I x7), some (am_I x8), none, none, none, none, none], [], (sh b, I, L), bc, bs) := by
  intro n
  induction n with
  | zero =>
    intro I L x5 x7 x8 i0 i1 i2 i3 i4 i5 i6 i7 im
    exact absurd im (by omega)
  | succ n ih =>
    intro I L x5 x7 x8 i0 i1 i2 i3 i4 i5 i6 i7 im
    refine b_Pay_partToMost_9  (fun c1 => ?_) (fun c1 => ?_)
    · refine b_Pay_partToMost_109  ?_
      have fx := NZ_fx (P := P) (M := x3) (Z := Z) (k := x8.toNat) (i7 (by omega)) (21 - x8.toNat)
      rw [show x8.toNat + (21 - x8.toNat) = 21 by omega] at fx
      have k9 := H I L i2 i3 (fun q q1 q2 => by rw [i4 q q1 q2, fx.1 q q1 q2]) (fun q q1 q2 => by rw [i5 q q1 q2]; unfold gM; rw [fx.1 q q1 q2])
      rw [i6, ← fx.2]
      exact k9
    · refine b_Pay_partToMost_14  (fun c2 => ?_) (fun c2 => ?_)
      · refine b_Pay_partToMost_109  ?_
        have e8 : x8 = 21 := by omega
        rw [e8] at i4 i5 i6
        rw [i6]
        exact H I L i2 i3 i4 i5
      · refine b_Pay_partToMost_21  (s_Pay_pointsIn (P := P) (N := (NZ P x3 Z x8.toNat).1) hP (fun q q1 q2 => by rw [i3 60 (by omega)]; exact h60 q q1 q2) i4 ?_)
        refine b_Pay_partToMost_25  ?_
        have zb := NZ_z (k := x8.toNat) hP hM.1 hZ.1
        exact lq_Pay_partToMost (d := d) hP hZ hM h60 (by omega) rfl i6 (fun I9 L9 z5 z7 f1 f2 f3 f4 f5 f6 => ih I9 L9 z5 z7 (x8 + 1) (by omega) (by omega) f1 f2 f3 f4 f5 f6 (by omega)) 21 I L x5 0 0 (by omega) (by omega) i2 i3 (fun q q1 q2 => by rw [i4 q q1 q2, if_neg (by omega)]) (fun q q1 q2 => by rw [i5 q q1 q2, if_neg (by omega)]) (by rw [i6]; show _ = _ - 0; omega) (fun _ q q1 q2 => by omega) (by omega) (by omega)
theorem s_Pay_partToMost {ro : Nat → Int × (Int → Int)} {d : Nat} {b : Bool} {I L : Nat → Int → Int} {Q : Option am_V → am_H → Prop} {x1 x3 : Int} {P : Int → Int} (hP : Pp P) (hx1 : 0 ≤ x1 ∧ x1 ≤ 1000000000) (hM : 0 < x3 ∧ x3 ≤ 2147483647) (h60 : ∀ q, 0 ≤ q → q < 20 → L 60 q = P q) (h61 : ∀ q, 0 ≤ q → q < 20 → L 61 q = 0) (h63 : ∀ q, 0 ≤ q → q < 20 → I 63 q = if 0 < P q then 1 else 0) (H : ∀ I' L' : Nat → Int → Int, (∀ k, k ≠ 63 → I' k = I k) → (∀ k, k ≠ 61 → L' k = L k) → (∀ q, 0 ≤ q → q < 20 → I' 63 q = (NZ P x3 x1 21).1 q) → (∀ q, 0 ≤ q → q < 20 → L' 61 q = gM P x3 x1 21 q) → Q (some (am_L (NZ P x3 x1 21).2)) (sh b, I', L')) : am_m ro (d + 2) 147 [am_R 58, am_L x1, am_L x3] (sh b, I, L) Q := by
  refine am_in rfl rfl rfl rfl ?_
  refine b_Pay_partToMost_0  ?_
  exact lp_Pay_partToMost (d := d) (Z := x1) (I0 := I) (L0 := L) hP hx1 hM h60 H 22 I L x1 1 0 (by omega) (by omega) (fun _ _ => rfl) (fun _ _ => rfl) h63 (fun q q1 q2 => by rw [h61 q q1 q2]; unfold gM; rw [if_neg (fun c => by have c2 := c.2; have e : (NZ P x3 x1 0).1 q = if 0 < P q then 1 else 0 := rfl; have c3 : (NZ P x3 x1 0).1 q = 0 := c2; rw [e, if_pos c.1] at c3; omega)]) rfl (fun z => by omega) (by omega)
