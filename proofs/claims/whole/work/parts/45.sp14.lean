def anE (p : Int → Int) : Prop := ∃ k, 0 ≤ k ∧ k < p 6 ∧ p (1200 + k) = p 0
theorem lEnt_dr {C C' : Nat → Int → Int} {p p' : Int → Int} (h : lEnt C p) (h0 : 0 ≤ p 0 ∧ p 0 ≤ 40) (hn : ¬ anE p) (hC : C' 6 = C 6 ∧ C' 7 = C 7 ∧ C' 8 = C 8 ∧ C' 9 = C 9) (hp : ∀ j, ¬ j = 34 + p 0 → p' j = p j) : lEnt C' p' := by
  obtain ⟨g1, g2, g3, g4, g5, g6, g7, g8⟩ := h
  have e0 := hp 0 (by omega)
  have e1 := hp 1 (by omega)
  have e2 := hp 2 (by omega)
  have e6 := hp 6 (by omega)
  refine ⟨by rw [hC.1, e6]; exact g1, by omega, by omega, fun j a1 a2 => ?_, fun j a1 a2 => ?_, fun i j a1 a2 a3 => ?_, fun i j a1 a2 a3 => ?_, fun j a1 a2 => ?_⟩
  · rw [hp (1200 + j) (by omega), hp (1600 + j) (by omega), hp (2000 + j) (by omega), hp (2400 + j) (by omega), hC.2.1, hC.2.2.1, hC.2.2.2]
    exact g4 j a1 (by omega)
  · rw [hp (1200 + j) (by omega), hp (1600 + j) (by omega), hp (2000 + j) (by omega), hp (2400 + j) (by omega), e0, e1, e2]
    exact g5 j a1 (by omega)
  · rw [hp (2400 + i) (by omega), hp (2400 + j) (by omega)]
    exact g6 i j a1 a2 (by omega)
  · rw [hp (2400 + i) (by omega), hp (2400 + j) (by omega), hp (1200 + i) (by omega), hp (1200 + j) (by omega), hp (1600 + i) (by omega), hp (1600 + j) (by omega)]
    exact g7 i j a1 a2 (by omega)
  · have w := g5 j a1 (by omega)
    have w2 : ¬ p (1200 + j) = p 0 := fun e => hn ⟨j, a1, by omega, e⟩
    rw [hp (1200 + j) (by omega), hp (1600 + j) (by omega), hp (34 + p (1200 + j)) (by omega)]
    exact g8 j a1 (by omega)
theorem lp_Ents_anyOf {ro : Nat → Int × (Int → Int)} {d : Nat} {b : Bool} {I L : Nat → Int → Int} {Q : Option am_V → am_H → Prop} {bc bs : Nat} {x1 : Int} (hC : Cor I L) (ho : x1 = I 67 0) (H1 : anE (I 67) → Q (some (am_I 1)) (sh b, I, L)) (H0 : ¬ anE (I 67) → Q (some (am_I 0)) (sh b, I, L)) : ∀ (n : Nat) (x2 : Int), (0 ≤ x2) → (x2 ≤ I 67 6) → (∀ j, 0 ≤ j → j < x2 → ¬ I 67 (1200 + j) = I 67 0) → I 67 6 - x2 < (n : Int) → am_ex (am_m ro (d + 0)) ro am_M74 Q (2, [some (am_R 6), some (am_I x1), some (am_I x2)], [], (sh b, I, L), bc, bs) := by
  intro n
  induction n with
  | zero =>
    intro x2 i0 i1 i2 im
    exact absurd im (by omega)
  | succ n ih =>
    intro x2 i0 i1 i2 im
    obtain ⟨g1, g2, g3, g4, g5, -⟩ := hC.1.2.2.1
    have ct := Cor_ct hC
    refine b_Ents_anyOf_2  (fun c1 => ?_) (fun c1 => ?_)
    · refine b_Ents_anyOf_32  ?_
      exact H0 (fun ⟨k, k1, k2, k3⟩ => i2 k k1 (by omega) k3)
    · have w := g4 x2 (by omega) (by omega)
      have w5 := g5 x2 (by omega) (by omega)
      refine b_Ents_anyOf_10 (by omega) (by omega) (fun c2 => ?_) (fun c2 => ?_)
      · refine b_Ents_anyOf_26 (by omega) ?_
        exact ih (x2 + 1) (by omega) (by omega) (by intro j b1 b2 b3; by_cases ej : j = x2; (· subst ej; omega); exact i2 j b1 (by omega) b3) (by omega)
      · refine b_Ents_anyOf_24  ?_
        exact H1 ⟨x2, by omega, by omega, by omega⟩
theorem s_Ents_anyOf {ro : Nat → Int × (Int → Int)} {d : Nat} {b : Bool} {I L : Nat → Int → Int} {Q : Option am_V → am_H → Prop} {x1 : Int} (hC : Cor I L) (ho : x1 = I 67 0) (H1 : anE (I 67) → Q (some (am_I 1)) (sh b, I, L)) (H0 : ¬ anE (I 67) → Q (some (am_I 0)) (sh b, I, L)) : am_m ro (d + 1) 74 [am_R 6, am_I x1] (sh b, I, L) Q := by
  have ct := Cor_ct hC
  refine am_in rfl rfl rfl rfl ?_
  refine b_Ents_anyOf_0  ?_
  exact lp_Ents_anyOf (d := d) hC ho H1 H0 ((I 67 6).toNat + 1) _ (by omega) (by omega) (by intro j b1 b2; omega) (by omega)
theorem s_Libs_bitsOfAll {ro : Nat → Int × (Int → Int)} {d : Nat} {b : Bool} {I L : Nat → Int → Int} {Q : Option am_V → am_H → Prop} (hC : Cor I L) (H : Q (some (am_I (am_shl 1 (I 67 1) - 1))) (sh b, I, L)) : am_m ro (d + 1) 69 [am_R 2] (sh b, I, L) Q := by
  have ct := Cor_ct hC
  have sb := shl1 ⟨(I 67 1).toNat, by omega⟩
  simp only [Int.toNat_of_nonneg ct.2.1.2.1] at sb
  have sp : (2 : Int) ^ (I 67 1).toNat = ((2 ^ (I 67 1).toNat : Nat) : Int) := by simp
  have sq : 2 ^ (I 67 1).toNat ≤ 2 ^ 12 := Nat.pow_le_pow_right (by omega) (by omega)
  have s0 : 0 < 2 ^ (I 67 1).toNat := Nat.pow_pos (by omega)
  have e3 : am_shl 1 (I 2 0) = am_shl 1 (I 67 1) := by rw [ct.2.1.1]
  refine am_in rfl rfl rfl rfl ?_
  refine b_Libs_bitsOfAll_0 (by omega) ?_
  rw [ct.2.1.1]
  exact H
theorem o_P_draw {ro : Nat → Int × (Int → Int)} {d : Nat} {b : Bool} {I L : Nat → Int → Int} {Q : Option am_V → am_H → Prop} {x1 : Int} (hC : Cor I L) (hx : am_r x1) (H1 : ¬ (0 ≤ x1 ∧ x1 < am_shl 1 (I 67 1)) ∨ anE (I 67) → Q (some (am_I (-7))) (sh b, rfC I (-7), L)) (H2 : (0 ≤ x1 ∧ x1 < am_shl 1 (I 67 1)) ∧ ¬ anE (I 67) → Q (some (am_I (jb x1))) (sh b, am_up I 37 (I 1 0) x1, L)) : am_m ro (d + 3) 2 [am_R 0, am_I x1] (sh b, I, L) Q := by
  have ct := Cor_ct hC
  have sb := shl1 ⟨(I 67 1).toNat, by omega⟩
  simp only [Int.toNat_of_nonneg ct.2.1.2.1] at sb
  have sp : (2 : Int) ^ (I 67 1).toNat = ((2 ^ (I 67 1).toNat : Nat) : Int) := by simp
  have sq : 2 ^ (I 67 1).toNat ≤ 2 ^ 12 := Nat.pow_le_pow_right (by omega) (by omega)
  have s0 : 0 < 2 ^ (I 67 1).toNat := Nat.pow_pos (by omega)
  have am := and_mask (x := x1) (n := (I 67 1).toNat) (by omega) hx
  rw [← sb.2] at am
  have e2 : I 2 0 = I 67 1 := ct.2.1.1
  refine am_in rfl rfl rfl rfl ?_
  refine b_P_draw_0  (s_Libs_bitsOfAll hC ?_)
  refine b_P_draw_11  (fun c1 => ?_) (fun c1 => ?_)
  · refine b_P_draw_21  ?_
    refine b_P_draw_22  (fun c2 => absurd c2 (by decide)) (fun c2 => ?_)
    refine b_P_draw_27  (s_Ents_anyOf hC (by omega) (fun t => ?_) (fun t => ?_))
    · refine b_P_draw_44  (fun c3 => absurd c3 (by decide)) (fun c3 => ?_)
      refine b_P_draw_47  (s_P_refuse (by omega) ?_)
      refine b_P_draw_53  ?_
      first | exact H1 (by first | (left; intro hg; have := am.2 (by omega); omega) | exact Or.inr t | exact ⟨by have := am.1 (by omega); omega, t⟩) | exact H2 (by first | (left; intro hg; have := am.2 (by omega); omega) | exact Or.inr t | exact ⟨by have := am.1 (by omega); omega, t⟩)
    · refine b_P_draw_44  (fun c4 => ?_) (fun c4 => absurd c4 (by decide))
      refine b_P_draw_54 (by omega) (s_jbits  ?_)
      refine b_P_draw_77  ?_
      first | exact H1 (by first | (left; intro hg; have := am.2 (by omega); omega) | exact Or.inr t | exact ⟨by have := am.1 (by omega); omega, t⟩) | exact H2 (by first | (left; intro hg; have := am.2 (by omega); omega) | exact Or.inr t | exact ⟨by have := am.1 (by omega); omega, t⟩)
  · refine b_P_draw_17  ?_
    refine b_P_draw_22  (fun c5 => ?_) (fun c5 => absurd c5 (by decide))
    refine b_P_draw_47  (s_P_refuse (by omega) ?_)
    refine b_P_draw_53  ?_
    first | exact H1 (by first | (left; intro hg; have := am.2 (by omega); omega) | exact Or.inr t | exact ⟨by have := am.1 (by omega); omega, t⟩) | exact H2 (by first | (left; intro hg; have := am.2 (by omega); omega) | exact Or.inr t | exact ⟨by have := am.1 (by omega); omega, t⟩)
theorem lq_M_draw {ro : Nat → Int × (Int → Int)} {d : Nat} {b : Bool} {I L : Nat → Int → Int} {Q : Option am_V → am_H → Prop} {bc bs : Nat} {x1 : Int} (hx : 0 ≤ x1 ∧ x1 < 4096) (hp : 0 ≤ I 67 1 ∧ I 67 1 ≤ 12) (H : Q (some (am_I (sm (fun l => bt x1 l) (I 67 1).toNat))) (sh b, I, L)) : ∀ (n : Nat) (x3 x4 : Int), (0 ≤ x4) → (x4 ≤ I 67 1) → (x3 = sm (fun l => bt x1 l) x4.toNat) → (0 ≤ x3 ∧ x3 ≤ x4) → I 67 1 - x4 < (n : Int) → am_ex (am_m ro (d + 0)) ro am_M165 Q (101, [some (am_R 66), some (am_I x1), none, some (am_I x3), some (am_I x4)], [], (sh b, I, L), bc, bs) := by
  intro n
  induction n with
  | zero =>
    intro x3 x4 i0 i1 i2 i3 im
    exact absurd im (by omega)
  | succ n ih =>
    intro x3 x4 i0 i1 i2 i3 im
    refine b_M_draw_101  (fun c1 => ?_) (fun c1 => ?_)
    · refine b_M_draw_127  ?_
      have e9 : x4 = I 67 1 := by omega
      rw [i2, e9]
      exact H
    · have w := bt_01 (l := x4) hx (by omega)
      have w2 : am_and (am_shr x1 x4) 1 = bt x1 x4 := rfl
      refine b_M_draw_112 (by omega) (by omega) ?_
      exact ih (x3 + (am_and (am_shr x1 x4) 1)) (x4 + 1) (by omega) (by omega) (by rw [sm_step (by omega), ← i2]; rfl) (by omega) (by omega)
theorem lp_M_draw {ro : Nat → Int × (Int → Int)} {d : Nat} {b : Bool} {I L : Nat → Int → Int} {Q : Option am_V → am_H → Prop} {bc bs : Nat} {x1 : Int} (hM : Mo I L) (H1 : ¬ (0 ≤ x1 ∧ x1 < am_shl 1 (I 67 1)) ∨ anE (I 67) → Q (some (am_I (-7))) (sh b, rfM I (-7), L)) (H2 : (0 ≤ x1 ∧ x1 < am_shl 1 (I 67 1)) ∧ ¬ anE (I 67) → Q (some (am_I (sm (fun l => bt x1 l) (I 67 1).toNat))) (sh b, am_up I 67 (34 + I 67 0) x1, L)) : ∀ (n : Nat) (x2 x3 : Int), (0 ≤ x3) → (x3 ≤ I 67 6) → ((x2 = 1 ∧ (0 ≤ x1 ∧ x1 < am_shl 1 (I 67 1)) ∧ ∀ j, 0 ≤ j → j < x3 → ¬ I 67 (1200 + j) = I 67 0) ∨ (x2 = 0 ∧ (¬ (0 ≤ x1 ∧ x1 < am_shl 1 (I 67 1)) ∨ anE (I 67)))) → I 67 6 - x3 < (n : Int) → am_ex (am_m ro (d + 1)) ro am_M165 Q (24, [some (am_R 66), some (am_I x1), some (am_I x2), some (am_I x3), none], [], (sh b, I, L), bc, bs) := by
  intro n
  induction n with
  | zero =>
    intro x2 x3 i0 i1 i2 im
    exact absurd im (by omega)
  | succ n ih =>
    intro x2 x3 i0 i1 i2 im
    have ct := Mo_ct hM
    have sb := shl1 ⟨(I 67 1).toNat, by omega⟩
    simp only [Int.toNat_of_nonneg ct.2.1.1] at sb
    have sp : (2 : Int) ^ (I 67 1).toNat = ((2 ^ (I 67 1).toNat : Nat) : Int) := by simp
    have sq : 2 ^ (I 67 1).toNat ≤ 2 ^ 12 := Nat.pow_le_pow_right (by omega) (by omega)
    have s0 : 0 < 2 ^ (I 67 1).toNat := Nat.pow_pos (by omega)
    refine b_M_draw_24  (fun c1 => ?_) (fun c1 => ?_)
    · refine b_M_draw_70  (fun c2 => ?_) (fun c2 => ?_)
      · refine b_M_draw_81 (by omega) (by omega) ?_
        rcases i2 with i2 | i2
        · have k9 := H2 ⟨i2.2.1, fun ⟨k, k1, k2, k3⟩ => i2.2.2 k k1 (by omega) k3⟩
          refine lq_M_draw (d := d + 1) (by omega) (by simp (disch := omega) only [upo, upm, ups]; omega) ?_ 13 0 0 (by omega) (by simp (disch := omega) only [upo, upm, ups]; omega) rfl (by omega) (by simp (disch := omega) only [upo, upm, ups]; omega)
          simp (disch := omega) only [upo, upm, ups]
          exact k9
        · omega
      · refine b_M_draw_74  (s_M_refuse (by omega) ?_)
        refine b_M_draw_80  ?_
        refine H1 ?_
        rcases i2 with i2 | i2
        · omega
        · exact i2.2
    · refine b_M_draw_35  (fun c3 => ?_) (fun c3 => ?_)
      · refine b_M_draw_62  ?_
        refine b_M_draw_63 (by omega) ?_
        exact ih 0 (x3 + 1) (by omega) (by omega) (by
                rcases i2 with i2 | i2
                · first
                    | (exfalso; omega)
                    | (left; exact ⟨by omega, i2.2.1, fun j b1 b2 b3 => by by_cases ej : j = x3; (· subst ej; omega); exact i2.2.2 j b1 (by omega) b3⟩)
                    | (right; exact ⟨by omega, Or.inr ⟨x3, by omega, by omega, by omega⟩⟩)
                · first
                    | (exfalso; omega)
                    | (right; exact ⟨by omega, i2.2⟩)) (by omega)
      · refine b_M_draw_39 (by omega) (by omega) (fun c4 => ?_) (fun c4 => ?_)
        · refine b_M_draw_62  ?_
          refine b_M_draw_63 (by omega) ?_
          exact ih 0 (x3 + 1) (by omega) (by omega) (by
                  rcases i2 with i2 | i2
                  · first
                      | (exfalso; omega)
                      | (left; exact ⟨by omega, i2.2.1, fun j b1 b2 b3 => by by_cases ej : j = x3; (· subst ej; omega); exact i2.2.2 j b1 (by omega) b3⟩)
                      | (right; exact ⟨by omega, Or.inr ⟨x3, by omega, by omega, by omega⟩⟩)
                  · first
                      | (exfalso; omega)
                      | (right; exact ⟨by omega, i2.2⟩)) (by omega)
        · refine b_M_draw_58  ?_
          refine b_M_draw_63 (by omega) ?_
          exact ih 1 (x3 + 1) (by omega) (by omega) (by
                  rcases i2 with i2 | i2
                  · first
                      | (exfalso; omega)
                      | (left; exact ⟨by omega, i2.2.1, fun j b1 b2 b3 => by by_cases ej : j = x3; (· subst ej; omega); exact i2.2.2 j b1 (by omega) b3⟩)
                      | (right; exact ⟨by omega, Or.inr ⟨x3, by omega, by omega, by omega⟩⟩)
                  · first
                      | (exfalso; omega)
                      | (right; exact ⟨by omega, i2.2⟩)) (by omega)
theorem o_M_draw {ro : Nat → Int × (Int → Int)} {d : Nat} {b : Bool} {I L : Nat → Int → Int} {Q : Option am_V → am_H → Prop} {x1 : Int} (hM : Mo I L) (H1 : ¬ (0 ≤ x1 ∧ x1 < am_shl 1 (I 67 1)) ∨ anE (I 67) → Q (some (am_I (-7))) (sh b, rfM I (-7), L)) (H2 : (0 ≤ x1 ∧ x1 < am_shl 1 (I 67 1)) ∧ ¬ anE (I 67) → Q (some (am_I (sm (fun l => bt x1 l) (I 67 1).toNat))) (sh b, am_up I 67 (34 + I 67 0) x1, L)) : am_m ro (d + 2) 165 [am_R 66, am_I x1] (sh b, I, L) Q := by
  have ct := Mo_ct hM
  have sb := shl1 ⟨(I 67 1).toNat, by omega⟩
  simp only [Int.toNat_of_nonneg ct.2.1.1] at sb
  have sp : (2 : Int) ^ (I 67 1).toNat = ((2 ^ (I 67 1).toNat : Nat) : Int) := by simp
  have sq : 2 ^ (I 67 1).toNat ≤ 2 ^ 12 := Nat.pow_le_pow_right (by omega) (by omega)
  have s0 : 0 < 2 ^ (I 67 1).toNat := Nat.pow_pos (by omega)
  refine am_in rfl rfl rfl rfl ?_
  refine b_M_draw_0  (fun c1 => ?_) (fun c1 => ?_)
  · refine b_M_draw_20  ?_
    refine b_M_draw_21  ?_
    exact lp_M_draw (d := d) hM H1 H2 ((I 67 6).toNat + 1) _ _ (by omega) (by omega) (by first | (left; exact ⟨by omega, by omega, fun j b1 b2 => by omega⟩) | (right; exact ⟨by omega, Or.inl (by omega)⟩)) (by omega)
  · refine b_M_draw_4  (fun c2 => ?_) (fun c2 => ?_)
    · refine b_M_draw_20  ?_
      refine b_M_draw_21  ?_
      exact lp_M_draw (d := d) hM H1 H2 ((I 67 6).toNat + 1) _ _ (by omega) (by omega) (by first | (left; exact ⟨by omega, by omega, fun j b1 b2 => by omega⟩) | (right; exact ⟨by omega, Or.inl (by omega)⟩)) (by omega)
    · refine b_M_draw_16  ?_
      refine b_M_draw_21  ?_
      exact lp_M_draw (d := d) hM H1 H2 ((I 67 6).toNat + 1) _ _ (by omega) (by omega) (by first | (left; exact ⟨by omega, by omega, fun j b1 b2 => by omega⟩) | (right; exact ⟨by omega, Or.inl (by omega)⟩)) (by omega)
set_option maxHeartbeats 400000 in
theorem A_draw {ro : Nat → Int × (Int → Int)} {d : Nat} {b : Bool} {I L : Nat → Int → Int} {x1 : Int} (hI : Inv b I L) (hx : am_r x1) : am_m ro (d + 3) 2 [am_R 0, am_I x1] (sh b, I, L) (fun r h => am_m ro (d + 3) 165 [am_R 66, am_I x1] h (fun r2 h2 => Pair r r2 h2)) := by
  obtain ⟨⟨lo, ll, le, ld, lp, ls, lr, ly, lu, lq⟩, hk, hr, ht, hf, hcn⟩ := id hI
  have hr1 := hr.1
  have hr2 := hr.2.1
  have hr3 := hr.2.2.1
  have lo1 := lo.1
  have lo2 := lo.2
  have ll1 := ll.1
  have ll2 := ll.2.1
  have ll3 := ll.2.2.1
  have ld1 := ld.1
  have ld2 := ld.2.1
  have ld3 := ld.2.2.1
  have lp1 := lp.1
  have lp2 := lp.2.1
  have lp3 := lp.2.2.1
  have ls1 := ls.1
  have ls2 := ls.2.1
  have ls3 := ls.2.2.1
  have hC := Cor_of hI
  have ct := Cor_ct hC
  have sb := shl1 ⟨(I 67 1).toNat, by omega⟩
  simp only [Int.toNat_of_nonneg ct.2.1.2.1] at sb
  have sp : (2 : Int) ^ (I 67 1).toNat = ((2 ^ (I 67 1).toNat : Nat) : Int) := by simp
  have sq : 2 ^ (I 67 1).toNat ≤ 2 ^ 12 := Nat.pow_le_pow_right (by omega) (by omega)
  have s0 : 0 < 2 ^ (I 67 1).toNat := Nat.pow_pos (by omega)
  refine o_P_draw hC hx (fun a => ?_) (fun a => ?_)
  all_goals refine o_M_draw (by repeat (first | exact Mo_of hC | refine Mo_rf ?_ | refine Mo_up ?_ (by decide))) (fun a2 => ?_) (fun a2 => ?_)
  all_goals (try simp (disch := omega) only [upo, upm, ups, upn, rfm, rfn] at a2 ⊢)
  all_goals first
    | (exfalso; omega)
    | exact absurd a.2 a2.2
    | exact absurd a2.2 a.2
    | exact Pair_rf hI
    | (exfalso; rcases a2 with a2 | a2; (· exact a2 (by omega)); exact a.2 a2)
    | (exfalso; rcases a with a | a; (· exact a (by omega)); exact a2.2 a)
    | (have e9 := jb_smn (x := x1) (n := (I 67 1).toNat) ⟨by omega, by omega⟩ (by omega); exact ⟨_, b, _, L, rfl, by rw [e9], rfl, Inv_ld hI ⟨lOp_fr lo (by (clear hI lo ll le ld lp ls lr ly lu lq hk hr ht hf hcn hC; (try simp (disch := omega) only [upo, upm, ups, upn]) <;> grind (gen := 16) (splits := 16) [am_up])) (by (clear hI lo ll le ld lp ls lr ly lu lq hk hr ht hf hcn hC; (try simp (disch := omega) only [upo, upm, ups, upn]) <;> grind (gen := 16) (splits := 16) [am_up])), lLib_fr ll ⟨by (clear hI lo ll le ld lp ls lr ly lu lq hk hr ht hf hcn hC; (try simp (disch := omega) only [upo, upm, ups, upn]) <;> grind (gen := 16) (splits := 16) [am_up]), by (clear hI lo ll le ld lp ls lr ly lu lq hk hr ht hf hcn hC; (try simp (disch := omega) only [upo, upm, ups, upn]) <;> grind (gen := 16) (splits := 16) [am_up]), by (clear hI lo ll le ld lp ls lr ly lu lq hk hr ht hf hcn hC; (try simp (disch := omega) only [upo, upm, ups, upn]) <;> grind (gen := 16) (splits := 16) [am_up])⟩ (by intro j hj; (clear hI lo ll le ld lp ls lr ly lu lq hk hr ht hf hcn hC; (try simp (disch := omega) only [upo, upm, ups, upn]) <;> grind (gen := 16) (splits := 16) [am_up])), lEnt_dr le (by omega) a.2 ⟨by (clear hI lo ll le ld lp ls lr ly lu lq hk hr ht hf hcn hC; (try simp (disch := omega) only [upo, upm, ups, upn]) <;> grind (gen := 16) (splits := 16) [am_up]), by (clear hI lo ll le ld lp ls lr ly lu lq hk hr ht hf hcn hC; (try simp (disch := omega) only [upo, upm, ups, upn]) <;> grind (gen := 16) (splits := 16) [am_up]), by (clear hI lo ll le ld lp ls lr ly lu lq hk hr ht hf hcn hC; (try simp (disch := omega) only [upo, upm, ups, upn]) <;> grind (gen := 16) (splits := 16) [am_up]), by (clear hI lo ll le ld lp ls lr ly lu lq hk hr ht hf hcn hC; (try simp (disch := omega) only [upo, upm, ups, upn]) <;> grind (gen := 16) (splits := 16) [am_up])⟩ (by intro j hj; (clear hI lo ll le ld lp ls lr ly lu lq hk hr ht hf hcn hC; (try simp (disch := omega) only [upo, upm, ups, upn]) <;> grind (gen := 16) (splits := 16) [am_up])), lEd_fr ld ⟨by (clear hI lo ll le ld lp ls lr ly lu lq hk hr ht hf hcn hC; (try simp (disch := omega) only [upo, upm, ups, upn]) <;> grind (gen := 16) (splits := 16) [am_up]), by (clear hI lo ll le ld lp ls lr ly lu lq hk hr ht hf hcn hC; (try simp (disch := omega) only [upo, upm, ups, upn]) <;> grind (gen := 16) (splits := 16) [am_up]), by (clear hI lo ll le ld lp ls lr ly lu lq hk hr ht hf hcn hC; (try simp (disch := omega) only [upo, upm, ups, upn]) <;> grind (gen := 16) (splits := 16) [am_up]), by (clear hI lo ll le ld lp ls lr ly lu lq hk hr ht hf hcn hC; (try simp (disch := omega) only [upo, upm, ups, upn]) <;> grind (gen := 16) (splits := 16) [am_up]), by (clear hI lo ll le ld lp ls lr ly lu lq hk hr ht hf hcn hC; (try simp (disch := omega) only [upo, upm, ups, upn]) <;> grind (gen := 16) (splits := 16) [am_up])⟩ (by intro j hj; (clear hI lo ll le ld lp ls lr ly lu lq hk hr ht hf hcn hC; (try simp (disch := omega) only [upo, upm, ups, upn]) <;> grind (gen := 16) (splits := 16) [am_up])), lPeo_fr lp ⟨by (clear hI lo ll le ld lp ls lr ly lu lq hk hr ht hf hcn hC; (try simp (disch := omega) only [upo, upm, ups, upn]) <;> grind (gen := 16) (splits := 16) [am_up]), by (clear hI lo ll le ld lp ls lr ly lu lq hk hr ht hf hcn hC; (try simp (disch := omega) only [upo, upm, ups, upn]) <;> grind (gen := 16) (splits := 16) [am_up]), by (clear hI lo ll le ld lp ls lr ly lu lq hk hr ht hf hcn hC; (try simp (disch := omega) only [upo, upm, ups, upn]) <;> grind (gen := 16) (splits := 16) [am_up]), by (clear hI lo ll le ld lp ls lr ly lu lq hk hr ht hf hcn hC; (try simp (disch := omega) only [upo, upm, ups, upn]) <;> grind (gen := 16) (splits := 16) [am_up]), by (clear hI lo ll le ld lp ls lr ly lu lq hk hr ht hf hcn hC; (try simp (disch := omega) only [upo, upm, ups, upn]) <;> grind (gen := 16) (splits := 16) [am_up]), by (clear hI lo ll le ld lp ls lr ly lu lq hk hr ht hf hcn hC; (try simp (disch := omega) only [upo, upm, ups, upn]) <;> grind (gen := 16) (splits := 16) [am_up]), by (clear hI lo ll le ld lp ls lr ly lu lq hk hr ht hf hcn hC; (try simp (disch := omega) only [upo, upm, ups, upn]) <;> grind (gen := 16) (splits := 16) [am_up])⟩ (by intro j hj; (clear hI lo ll le ld lp ls lr ly lu lq hk hr ht hf hcn hC; (try simp (disch := omega) only [upo, upm, ups, upn]) <;> grind (gen := 16) (splits := 16) [am_up])), lSh_fr ls ⟨by (clear hI lo ll le ld lp ls lr ly lu lq hk hr ht hf hcn hC; (try simp (disch := omega) only [upo, upm, ups, upn]) <;> grind (gen := 16) (splits := 16) [am_up]), by (clear hI lo ll le ld lp ls lr ly lu lq hk hr ht hf hcn hC; (try simp (disch := omega) only [upo, upm, ups, upn]) <;> grind (gen := 16) (splits := 16) [am_up]), by (clear hI lo ll le ld lp ls lr ly lu lq hk hr ht hf hcn hC; (try simp (disch := omega) only [upo, upm, ups, upn]) <;> grind (gen := 16) (splits := 16) [am_up]), by (clear hI lo ll le ld lp ls lr ly lu lq hk hr ht hf hcn hC; (try simp (disch := omega) only [upo, upm, ups, upn]) <;> grind (gen := 16) (splits := 16) [am_up]), by (clear hI lo ll le ld lp ls lr ly lu lq hk hr ht hf hcn hC; (try simp (disch := omega) only [upo, upm, ups, upn]) <;> grind (gen := 16) (splits := 16) [am_up]), by (clear hI lo ll le ld lp ls lr ly lu lq hk hr ht hf hcn hC; (try simp (disch := omega) only [upo, upm, ups, upn]) <;> grind (gen := 16) (splits := 16) [am_up])⟩ (by intro j hj; (clear hI lo ll le ld lp ls lr ly lu lq hk hr ht hf hcn hC; (try simp (disch := omega) only [upo, upm, ups, upn]) <;> grind (gen := 16) (splits := 16) [am_up])) (by (clear hI lo ll le ld lp ls lr ly lu lq hk hr ht hf hcn hC; (try simp (disch := omega) only [upo, upm, ups, upn]) <;> grind (gen := 16) (splits := 16) [am_up])) (by (clear hI lo ll le ld lp ls lr ly lu lq hk hr ht hf hcn hC; (try simp (disch := omega) only [upo, upm, ups, upn]) <;> grind (gen := 16) (splits := 16) [am_up])) (by (clear hI lo ll le ld lp ls lr ly lu lq hk hr ht hf hcn hC; (try simp (disch := omega) only [upo, upm, ups, upn]) <;> grind (gen := 16) (splits := 16) [am_up])), lRul_fr lr ⟨by (clear hI lo ll le ld lp ls lr ly lu lq hk hr ht hf hcn hC; (try simp (disch := omega) only [upo, upm, ups, upn]) <;> grind (gen := 16) (splits := 16) [am_up]), by (clear hI lo ll le ld lp ls lr ly lu lq hk hr ht hf hcn hC; (try simp (disch := omega) only [upo, upm, ups, upn]) <;> grind (gen := 16) (splits := 16) [am_up]), by (clear hI lo ll le ld lp ls lr ly lu lq hk hr ht hf hcn hC; (try simp (disch := omega) only [upo, upm, ups, upn]) <;> grind (gen := 16) (splits := 16) [am_up]), by (clear hI lo ll le ld lp ls lr ly lu lq hk hr ht hf hcn hC; (try simp (disch := omega) only [upo, upm, ups, upn]) <;> grind (gen := 16) (splits := 16) [am_up]), by (clear hI lo ll le ld lp ls lr ly lu lq hk hr ht hf hcn hC; (try simp (disch := omega) only [upo, upm, ups, upn]) <;> grind (gen := 16) (splits := 16) [am_up]), by (clear hI lo ll le ld lp ls lr ly lu lq hk hr ht hf hcn hC; (try simp (disch := omega) only [upo, upm, ups, upn]) <;> grind (gen := 16) (splits := 16) [am_up]), by (clear hI lo ll le ld lp ls lr ly lu lq hk hr ht hf hcn hC; (try simp (disch := omega) only [upo, upm, ups, upn]) <;> grind (gen := 16) (splits := 16) [am_up])⟩ (by intro j hj; (clear hI lo ll le ld lp ls lr ly lu lq hk hr ht hf hcn hC; (try simp (disch := omega) only [upo, upm, ups, upn]) <;> grind (gen := 16) (splits := 16) [am_up])) (by intro r k h1 h2 h3 h4; have lr8 := lr.2.1; have lr9 := lr.2.2.1; (clear hI lo ll le ld lp ls lr ly lu lq hk hr ht hf hcn hC; (try simp (disch := omega) only [upo, upm, ups, upn]) <;> grind (gen := 16) (splits := 16) [am_up])), (by clear hI lo ll le ld lp ls lr lu lq hk hr ht hf hcn hC; obtain ⟨g1, g2, g3, g4⟩ := ly; refine ⟨fun y a1 a3 => ?_, fun y a1 a3 => ?_, fun k a1 a3 => ?_, fun k a1 a3 => ?_⟩; (· have w := g1 y a1 a3; clear g1 g2 g3 g4; exact (if hE : y = I 67 0 then (by rw [hE] at w ⊢; rw [ct.1.1]; simp (disch := omega) only [upo, upm, ups, true_and]; omega) else (by rw [ct.1.1]; simp (disch := omega) only [upo, upm, ups]; omega))); (· have w := g2 y a1 a3; clear g1 g2 g3 g4; exact (if hE : y = I 67 0 then (by rw [hE] at w ⊢; simp (disch := omega) only [upo, upm, ups]; omega) else (by simp (disch := omega) only [upo, upm, ups]; omega))); (· have w := g3 k a1 a3; clear g1 g2 g3 g4; simp (disch := omega) only [upo, upm, ups]; omega); (· have w := g4 k a1 a3; clear g1 g2 g3 g4; omega)), lSum_fr lu (by omega) (by (clear hI lo ll le ld lp ls lr ly lu lq hk hr ht hf hcn hC; (try simp (disch := omega) only [upo, upm, ups, upn]) <;> grind (gen := 16) (splits := 16) [am_up])) (by (clear hI lo ll le ld lp ls lr ly lu lq hk hr ht hf hcn hC; (try simp (disch := omega) only [upo, upm, ups, upn]) <;> grind (gen := 16) (splits := 16) [am_up])) (by (clear hI lo ll le ld lp ls lr ly lu lq hk hr ht hf hcn hC; (try simp (disch := omega) only [upo, upm, ups, upn]) <;> grind (gen := 16) (splits := 16) [am_up])) (by intro j hj; (clear hI lo ll le ld lp ls lr ly lu lq hk hr ht hf hcn hC; (try simp (disch := omega) only [upo, upm, ups, upn]) <;> grind (gen := 16) (splits := 16) [am_up])), lQ_fr lq (by omega) (by (clear hI lo ll le ld lp ls lr ly lu lq hk hr ht hf hcn hC; (try simp (disch := omega) only [upo, upm, ups, upn]) <;> grind (gen := 16) (splits := 16) [am_up])) (by intro j hj; (clear hI lo ll le ld lp ls lr ly lu lq hk hr ht hf hcn hC; (try simp (disch := omega) only [upo, upm, ups, upn]) <;> grind (gen := 16) (splits := 16) [am_up]))⟩ (by (clear hI lo ll le ld lp ls lr ly lu lq hk hr ht hf hcn hC; (try simp (disch := omega) only [upo, upm, ups, upn]) <;> grind (gen := 16) (splits := 16) [am_up])) (by (clear hI lo ll le ld lp ls lr ly lu lq hk hr ht hf hcn hC; (try simp (disch := omega) only [upo, upm, ups, upn]) <;> grind (gen := 16) (splits := 16) [am_up])) (by intro k hz; (clear hI lo ll le ld lp ls lr ly lu lq hk hr ht hf hcn hC; (try simp (disch := omega) only [upo, upm, ups, upn]) <;> grind (gen := 16) (splits := 16) [am_up])) (by intro j hz; (clear hI lo ll le ld lp ls lr ly lu lq hk hr ht hf hcn hC; (try simp (disch := omega) only [upo, upm, ups, upn]) <;> grind (gen := 16) (splits := 16) [am_up])) (by intro k hz; (clear hI lo ll le ld lp ls lr ly lu lq hk hr ht hf hcn hC; (try simp (disch := omega) only [upo, upm, ups, upn]) <;> grind (gen := 16) (splits := 16) [am_up]))⟩)
