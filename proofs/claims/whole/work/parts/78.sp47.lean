theorem l4_M_partsOut {ro : Nat → Int × (Int → Int)} {d : Nat} {b : Bool} {I : Nat → Int → Int} {Q : Option am_V → am_H → Prop} {bc bs : Nat} {x4 : Int} {g : Int → Int} {Z : Int} {L0 : Nat → Int → Int} (hZ : 0 ≤ Z ∧ Z ≤ 1000000000) (hg : ∀ q, 0 ≤ q → q < 20 → 0 ≤ g q ∧ g q ≤ 3000000000) (H : ∀ L : Nat → Int → Int, (∀ k, k ≠ 82 → k ≠ 66 → L k = L0 k) → (∀ q, 0 ≤ q → q < 20 → L 82 q = if g q < x4 then 0 else g q) → L 66 30 = Z - sm (fun q => if g q < x4 then 0 else g q) 20 → Q none (sh b, I, L)) : ∀ (n : Nat) (L : Nat → Int → Int) (x10 : Int), (0 ≤ x10) → (x10 ≤ 20) → ((∀ k, k ≠ 82 → k ≠ 66 → L k = L0 k)) → (∀ q, 0 ≤ q → q < x10 → L 82 q = if g q < x4 then 0 else g q) → (∀ q, x10 ≤ q → q < 20 → L 82 q = g q) → (L 66 30 = Z - sm (fun q => if g q < x4 then 0 else g q) x10.toNat) → (L 66 30 ≤ 1000000000 ∧ -3000000000 * x10 ≤ L 66 30) → 20 - x10 < (n : Int) → am_ex (am_m ro (d + 0)) ro am_M222 Q (203, [some (am_R 66), none, none, none, some (am_I x4), none, none, none, none, none, some (am_I x10), none, none, none, none], [], (sh b, I, L), bc, bs) := by
  intro n
  induction n with
  | zero =>
    intro L x10 i0 i1 i2 i3 i4 i5 i6 im
    exact absurd im (by omega)
  | succ n ih =>
    intro L x10 i0 i1 i2 i3 i4 i5 i6 im
    refine b_M_partsOut_203  (fun c1 => ?_) (fun c1 => ?_)
    · refine b_M_partsOut_264  ?_
      have e9 : x10 = 20 := by omega
      rw [e9] at i5
      exact H L i2 (fun q q1 q2 => i3 q q1 (by omega)) i5
    · have e5 := i4 x10 (by omega) (by omega)
      have gb := hg x10 (by omega) (by omega)
      refine b_M_partsOut_210 (by (try simp (disch := omega) only [upo, upm, ups]); omega) (fun c2 => ?_) (fun c2 => ?_)
      · refine b_M_partsOut_234 (by (try simp (disch := omega) only [upo, upm, ups]); omega) ?_
        refine b_M_partsOut_241 (by (try simp (disch := omega) only [upo, upm, ups]); omega) (by (try simp (disch := omega) only [upo, upm, ups]); omega) (by (try simp (disch := omega) only [upo, upm, ups]); omega) (by (try simp (disch := omega) only [upo, upm, ups]); omega) ?_
        refine ih (am_up (am_up L 82 x10 (L 82 x10)) 66 30 (((am_up L 82 x10 (L 82 x10)) 66 30) - ((am_up L 82 x10 (L 82 x10)) 82 x10))) (x10 + 1) (by omega) (by omega) (fun k k1 k2 => by rw [upn k2, upn k1]; exact i2 k k1 k2) (fun q q1 q2 => ?_) (fun q q1 q2 => ?_) ?_ (by simp (disch := omega) only [upo, upm, ups]; omega) (by omega)
        · rw [upm (by omega)]
          by_cases eq : q = x10
          · rw [eq, ups]
            first
              | (rw [if_pos (by omega)]; done)
              | (rw [if_neg (by omega)]; exact e5)
          · rw [upo eq]
            exact i3 q q1 (by omega)
        · rw [upm (by omega), upo (show ¬ q = x10 by omega)]
          exact i4 q (by omega) q2
        · rw [sm_step (by omega)]
          simp (disch := omega) only [upo, upm, ups]
          rw [i5]
          first
            | (rw [if_pos (by omega)]; omega)
            | (rw [if_neg (by omega)]; omega)
      · refine b_M_partsOut_230  ?_
        refine b_M_partsOut_241 (by (try simp (disch := omega) only [upo, upm, ups]); omega) (by (try simp (disch := omega) only [upo, upm, ups]); omega) (by (try simp (disch := omega) only [upo, upm, ups]); omega) (by (try simp (disch := omega) only [upo, upm, ups]); omega) ?_
        refine ih (am_up (am_up L 82 x10 0) 66 30 (((am_up L 82 x10 0) 66 30) - ((am_up L 82 x10 0) 82 x10))) (x10 + 1) (by omega) (by omega) (fun k k1 k2 => by rw [upn k2, upn k1]; exact i2 k k1 k2) (fun q q1 q2 => ?_) (fun q q1 q2 => ?_) ?_ (by simp (disch := omega) only [upo, upm, ups]; omega) (by omega)
        · rw [upm (by omega)]
          by_cases eq : q = x10
          · rw [eq, ups]
            first
              | (rw [if_pos (by omega)]; done)
              | (rw [if_neg (by omega)]; exact e5)
          · rw [upo eq]
            exact i3 q q1 (by omega)
        · rw [upm (by omega), upo (show ¬ q = x10 by omega)]
          exact i4 q (by omega) q2
        · rw [sm_step (by omega)]
          simp (disch := omega) only [upo, upm, ups]
          rw [i5]
          first
            | (rw [if_pos (by omega)]; omega)
            | (rw [if_neg (by omega)]; omega)
theorem pts_nx {P : Int → Int} {M Z : Int} {k : Nat} : ptsN P (NZ P M Z (k + 1)).1 + sm (fun q => if cnd P M (NZ P M Z k).1 (NZ P M Z k).2 q then P q else 0) 20 = ptsN P (NZ P M Z k).1 := by
  unfold ptsN
  rw [← sm_add]
  refine sm_congr _ (fun q _ _ => ?_)
  have e : (NZ P M Z (k + 1)).1 q = if cnd P M (NZ P M Z k).1 (NZ P M Z k).2 q then 0 else (NZ P M Z k).1 q := rfl
  show (if (NZ P M Z (k + 1)).1 q = 0 then 0 else P q) + (if cnd P M (NZ P M Z k).1 (NZ P M Z k).2 q then P q else 0) = if (NZ P M Z k).1 q = 0 then 0 else P q
  rw [e]
  by_cases c : cnd P M (NZ P M Z k).1 (NZ P M Z k).2 q
  · rw [if_pos c, if_pos c, if_pos rfl, if_neg c.1]
    omega
  · rw [if_neg c, if_neg c]
    omega
theorem pts_0 {P : Int → Int} {M Z : Int} (h : Pp P) : ptsN P (NZ P M Z 0).1 = sm P 20 := by
  refine sm_congr _ (fun q a1 a2 => ?_)
  have := h.1 q a1 (by omega)
  show (if (if 0 < P q then 1 else 0) = (0 : Int) then 0 else P q) = P q
  by_cases g : 0 < P q
  · rw [if_pos g, if_neg (by omega)]
  · rw [if_neg g, if_pos rfl]
    omega
def iz (v : Int) : Int := if v = 0 then 1 else 0
set_option maxHeartbeats 1000000 in
theorem lq_M_partsOut {ro : Nat → Int × (Int → Int)} {d : Nat} {b : Bool} {Q : Option am_V → am_H → Prop} {bc bs : Nat} {x1 x3 x4 x10 x12 : Int} {k9 : Int} {P : Int → Int} {I0 L0 : Nat → Int → Int} (hP : Pp P) (hZ : 0 ≤ x1 ∧ x1 ≤ 1000000000) (h81 : ∀ q, 0 ≤ q → q < 20 → L0 81 q = P q) (hM : 0 < x3 ∧ x3 ≤ 2147483647) (hk : 0 ≤ k9) (h10 : x10 = (NZ P x3 x1 k9.toNat).2) (h12 : x12 = ptsN P (NZ P x3 x1 k9.toNat).1) (HX1 : ∀ (I L : Nat → Int → Int) (z5 z7 z9 : Int), (∀ k, k ≠ 83 → I k = I0 k) → (∀ k, k ≠ 82 → L k = L0 k) → z9 = 1 → (∀ q, 0 ≤ q → q < 20 → I 83 q = iz ((NZ P x3 x1 (k9 + 1).toNat).1 q)) → (∀ q, 0 ≤ q → q < 20 → L 82 q = gM P x3 x1 (k9 + 1).toNat q) → (z5 = (NZ P x3 x1 (k9 + 1).toNat).2) → (z7 = ptsN P (NZ P x3 x1 (k9 + 1).toNat).1) → cN P x3 x1 (k9 + 1).toNat + 1 ≤ cN P x3 x1 k9.toNat → am_ex (am_m ro (d + 1)) ro am_M222 Q (77, [some (am_R 66), some (am_L x1), none, some (am_I x3), some (am_I x4), some (am_L z5), none, some (am_L z7), none, some (am_I z9), none, none, none, none, none], [], (sh b, I, L), bc, bs)) (HX0 : ∀ (I L : Nat → Int → Int) (z5 z7 z9 : Int), (∀ k, k ≠ 83 → I k = I0 k) → (∀ k, k ≠ 82 → L k = L0 k) → z9 = 0 → (∀ q, 0 ≤ q → q < 20 → I 83 q = iz ((NZ P x3 x1 k9.toNat).1 q)) → (∀ q, 0 ≤ q → q < 20 → L 82 q = gM P x3 x1 k9.toNat q) → (z5 = (NZ P x3 x1 k9.toNat).2) → (z7 = ptsN P (NZ P x3 x1 k9.toNat).1) → (∀ q, 0 ≤ q → q < 20 → ¬ cnd P x3 (NZ P x3 x1 k9.toNat).1 (NZ P x3 x1 k9.toNat).2 q) → am_ex (am_m ro (d + 1)) ro am_M222 Q (77, [some (am_R 66), some (am_L x1), none, some (am_I x3), some (am_I x4), some (am_L z5), none, some (am_L z7), none, some (am_I z9), none, none, none, none, none], [], (sh b, I, L), bc, bs)) : ∀ (n : Nat) (I L : Nat → Int → Int) (x5 x7 x9 x14 : Int), (0 ≤ x14) → (x14 ≤ 20) → ((∀ k, k ≠ 83 → I k = I0 k)) → ((∀ k, k ≠ 82 → L k = L0 k)) → (∀ q, 0 ≤ q → q < 20 → I 83 q = if q < x14 then iz ((NZ P x3 x1 (k9 + 1).toNat).1 q) else iz ((NZ P x3 x1 k9.toNat).1 q)) → (∀ q, 0 ≤ q → q < 20 → L 82 q = if q < x14 then gM P x3 x1 (k9 + 1).toNat q else gM P x3 x1 k9.toNat q) → (x5 = (NZ P x3 x1 k9.toNat).2 - sm (fun q => if cnd P x3 (NZ P x3 x1 k9.toNat).1 (NZ P x3 x1 k9.toNat).2 q then x3 else 0) x14.toNat) → (x7 = ptsN P (NZ P x3 x1 k9.toNat).1 - sm (fun q => if cnd P x3 (NZ P x3 x1 k9.toNat).1 (NZ P x3 x1 k9.toNat).2 q then P q else 0) x14.toNat) → (x9 = 0 → ∀ q, 0 ≤ q → q < x14 → ¬ cnd P x3 (NZ P x3 x1 k9.toNat).1 (NZ P x3 x1 k9.toNat).2 q) → (x9 = 1 → ∃ q, 0 ≤ q ∧ q < x14 ∧ cnd P x3 (NZ P x3 x1 k9.toNat).1 (NZ P x3 x1 k9.toNat).2 q) → ((x9 = 0 ∨ x9 = 1) ∧ (x5 ≤ 1000000000 ∧ -2147483647 * x14 ≤ x5) ∧ x7 ≤ 479999952 ∧ -479999952 * x14 ≤ x7) → 20 - x14 < (n : Int) → am_ex (am_m ro (d + 1)) ro am_M222 Q (96, [some (am_R 66), some (am_L x1), none, some (am_I x3), some (am_I x4), some (am_L x5), none, some (am_L x7), none, some (am_I x9), some (am_L x10), none, some (am_L x12), none, some (am_I x14)], [], (sh b, I, L), bc, bs) := by
  intro n
  induction n with
  | zero =>
    intro I L x5 x7 x9 x14 i0 i1 i2 i3 i4 i5 i6 i7 i8 i9 i10 im
    exact absurd im (by omega)
  | succ n ih =>
    intro I L x5 x7 x9 x14 i0 i1 i2 i3 i4 i5 i6 i7 i8 i9 i10 im
    refine b_M_partsOut_96  (fun c1 => ?_) (fun c1 => ?_)
    · refine b_M_partsOut_177  ?_
      have e14 : x14 = 20 := by omega
      rw [e14] at i6 i7 i8 i9
      by_cases g : x9 = 0
      · have fx := NZ_fx (P := P) (M := x3) (Z := x1) (k := k9.toNat) (fun q q1 q2 => i8 g q q1 q2) 1
        have e8 : (k9 + 1).toNat = k9.toNat + 1 := by omega
        refine HX0 I L x5 x7 x9 i2 i3 g (fun q q1 q2 => ?_) (fun q q1 q2 => ?_) ?_ ?_ (fun q q1 q2 => i8 g q q1 q2)
        · rw [i4 q q1 q2, if_pos (by omega), e8, fx.1 q q1 q2]
        · rw [i5 q q1 q2, if_pos (by omega), e8]
          unfold gM
          rw [fx.1 q q1 q2]
        · rw [i6, sm_zero _ (fun q q1 q2 => if_neg (i8 g q q1 (by omega)))]
          omega
        · rw [i7, sm_zero _ (fun q q1 q2 => if_neg (i8 g q q1 (by omega)))]
          omega
      · obtain ⟨q9, q91, q92, q93⟩ := i9 (by omega)
        have cl := cN_lt (k := k9.toNat) ⟨q91, q92⟩ q93
        have e8 : (k9 + 1).toNat = k9.toNat + 1 := by omega
        refine HX1 I L x5 x7 x9 i2 i3 (by omega) (fun q q1 q2 => ?_) (fun q q1 q2 => ?_) ?_ ?_ (by rw [e8]; exact cl)
        · rw [i4 q q1 q2, if_pos (by omega)]
        · rw [i5 q q1 q2, if_pos (by omega)]
        · rw [i6, e8]
          rfl
        · have pn := pts_nx (P := P) (M := x3) (Z := x1) (k := k9.toNat)
          have i7' : x7 = ptsN P (NZ P x3 x1 k9.toNat).1 - sm (fun q => if cnd P x3 (NZ P x3 x1 k9.toNat).1 (NZ P x3 x1 k9.toNat).2 q then P q else 0) 20 := i7
          rw [e8]
          omega
    · have pb := P_le (q := x14) hP (by omega)
      have zb := NZ_z (M := x3) (Z := x1) (k := k9.toNat) hP hM.1 hZ.1
      have pt := pts_bd (N := (NZ P x3 x1 k9.toNat).1) hP
      have n1 := NZ_01 (P := P) (M := x3) (Z := x1) k9.toNat x14
      have e81 : L 81 x14 = P x14 := by rw [i3 81 (by omega)]; exact h81 x14 (by omega) (by omega)
      have e83 := i4 x14 (by omega) (by omega)
      rw [if_neg (by omega)] at e83
      have v1 : (NZ P x3 x1 k9.toNat).1 x14 = 0 → I 83 x14 = 1 := fun h => by rw [e83]; exact if_pos h
      have v2 : ¬ (NZ P x3 x1 k9.toNat).1 x14 = 0 → I 83 x14 = 0 := fun h => by rw [e83]; exact if_neg h
      clear e83
      have mb1 := mulb (a := x10) (c := P x14) (A := 1000000000) (C := 479999952) (by omega) pb
      have mb2 := mulb (a := x3) (c := x12) (A := 2147483647) (C := 479999952) (by omega) (by omega)
      have e1 : x10 * L 81 x14 = x10 * P x14 := by rw [e81]
      have ns : ∀ q, (NZ P x3 x1 (k9 + 1).toNat).1 q = if cnd P x3 (NZ P x3 x1 k9.toNat).1 (NZ P x3 x1 k9.toNat).2 q then 0 else (NZ P x3 x1 k9.toNat).1 q := fun q => by rw [show (k9 + 1).toNat = k9.toNat + 1 by omega]; rfl
      refine b_M_partsOut_103 (by (try simp (disch := omega) only [upo, upm, ups]); omega) (fun c2 => ?_) (fun c2 => ?_)
      · refine b_M_partsOut_171 (by (try simp (disch := omega) only [upo, upm, ups]); omega) ?_
        have cc : ¬ cnd P x3 (NZ P x3 x1 k9.toNat).1 (NZ P x3 x1 k9.toNat).2 x14 := fun c => by
          have c1 := c.1
          have c2 := c.2
          have v3 := v2 c1
          rw [← h12, ← h10] at c2
          omega
        refine ih I L x5 x7 x9 (x14 + 1) (by omega) (by omega) i2 i3 (fun q q1 q2 => ?_) (fun q q1 q2 => ?_) ?_ ?_ (fun z q q1 q2 => ?_) (fun z => by obtain ⟨q, q1, q2, q3⟩ := i9 z; exact ⟨q, q1, by omega, q3⟩) (by omega) (by omega)
        · rw [i4 q q1 q2]
          by_cases eq : q = x14
          · rw [eq, if_neg (by omega), if_pos (by omega), ns x14, if_neg cc]
          · by_cases lt : q < x14
            · rw [if_pos lt, if_pos (by omega)]
            · rw [if_neg lt, if_neg (by omega)]
        · rw [i5 q q1 q2]
          by_cases eq : q = x14
          · rw [eq, if_neg (by omega), if_pos (by omega)]
            unfold gM
            rw [ns x14, if_neg cc]
          · by_cases lt : q < x14
            · rw [if_pos lt, if_pos (by omega)]
            · rw [if_neg lt, if_neg (by omega)]
        · rw [sm_step (by omega), if_neg cc, i6]
          omega
        · rw [sm_step (by omega), if_neg cc, i7]
          omega
        · by_cases eq : q = x14
          · rw [eq]
            exact cc
          · exact i8 z q q1 (by omega)
      · refine b_M_partsOut_113 (by (try simp (disch := omega) only [upo, upm, ups]); omega) (by (try simp (disch := omega) only [upo, upm, ups]); omega) (by (try simp (disch := omega) only [upo, upm, ups]); omega) (fun c3 => ?_) (fun c3 => ?_)
        · refine b_M_partsOut_171 (by (try simp (disch := omega) only [upo, upm, ups]); omega) ?_
          have cc : ¬ cnd P x3 (NZ P x3 x1 k9.toNat).1 (NZ P x3 x1 k9.toNat).2 x14 := fun c => by
            have c1 := c.1
            have c2 := c.2
            have v3 := v2 c1
            rw [← h12, ← h10] at c2
            omega
          refine ih I L x5 x7 x9 (x14 + 1) (by omega) (by omega) i2 i3 (fun q q1 q2 => ?_) (fun q q1 q2 => ?_) ?_ ?_ (fun z q q1 q2 => ?_) (fun z => by obtain ⟨q, q1, q2, q3⟩ := i9 z; exact ⟨q, q1, by omega, q3⟩) (by omega) (by omega)
          · rw [i4 q q1 q2]
            by_cases eq : q = x14
            · rw [eq, if_neg (by omega), if_pos (by omega), ns x14, if_neg cc]
            · by_cases lt : q < x14
              · rw [if_pos lt, if_pos (by omega)]
              · rw [if_neg lt, if_neg (by omega)]
          · rw [i5 q q1 q2]
            by_cases eq : q = x14
            · rw [eq, if_neg (by omega), if_pos (by omega)]
              unfold gM
              rw [ns x14, if_neg cc]
            · by_cases lt : q < x14
              · rw [if_pos lt, if_pos (by omega)]
              · rw [if_neg lt, if_neg (by omega)]
          · rw [sm_step (by omega), if_neg cc, i6]
            omega
          · rw [sm_step (by omega), if_neg cc, i7]
            omega
          · by_cases eq : q = x14
            · rw [eq]
              exact cc
            · exact i8 z q q1 (by omega)
        · refine b_M_partsOut_132 (by (try simp (disch := omega) only [upo, upm, ups]); omega) (by (try simp (disch := omega) only [upo, upm, ups]); omega) (by (try simp (disch := omega) only [upo, upm, ups]); omega) (by (try simp (disch := omega) only [upo, upm, ups]); omega) (by (try simp (disch := omega) only [upo, upm, ups]); omega) ?_
          refine b_M_partsOut_171 (by (try simp (disch := omega) only [upo, upm, ups]); omega) ?_
          have cc : cnd P x3 (NZ P x3 x1 k9.toNat).1 (NZ P x3 x1 k9.toNat).2 x14 := ⟨by omega, by rw [← h12, ← h10]; omega⟩
          refine ih ((am_up I 83 x14 1)) ((am_up L 82 x14 x3)) (x5 - x3) ((x7 - ((am_up L 82 x14 x3) 81 x14))) 1 (x14 + 1) (by omega) (by omega) (fun k hk => by rw [upn hk]; exact i2 k hk) (fun k hk => by rw [upn hk]; exact i3 k hk) (fun q q1 q2 => ?_) (fun q q1 q2 => ?_) ?_ ?_ (fun z => by omega) (fun _ => ⟨x14, by omega, by omega, cc⟩) ?_ (by omega)
          · by_cases eq : q = x14
            · rw [eq, ups, if_pos (by omega), ns x14, if_pos cc]
              rfl
            · rw [upo eq, i4 q q1 q2]
              by_cases lt : q < x14
              · rw [if_pos lt, if_pos (by omega)]
              · rw [if_neg lt, if_neg (by omega)]
          · by_cases eq : q = x14
            · rw [eq, ups, if_pos (by omega)]
              unfold gM
              rw [ns x14, if_pos cc, if_pos ⟨by omega, rfl⟩]
            · rw [upo eq, i5 q q1 q2]
              by_cases lt : q < x14
              · rw [if_pos lt, if_pos (by omega)]
              · rw [if_neg lt, if_neg (by omega)]
          · rw [sm_step (by omega), if_pos cc, i6]
            omega
          · rw [sm_step (by omega), if_pos cc, i7, upm (by omega), e81]
            omega
          · exact ⟨Or.inr rfl, ⟨by omega, by omega⟩, by rw [upm (by omega)]; omega, by rw [upm (by omega)]; omega⟩
