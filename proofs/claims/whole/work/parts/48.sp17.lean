def wrt (p : Int → Int) (s e : Int) : Prop := p (900 + s) = e ∧ p (1020 + s) = 0
def cw (p : Int → Int) (a c s t : Int) : Prop := wrt p s a ∧ wrt p t c ∧ p (480 + p (960 + s)) = p (480 + p (960 + t))
def com (p : Int → Int) (a c : Int) : Prop := ∃ s t, (0 ≤ s ∧ s < p 4) ∧ (0 ≤ t ∧ t < p 4) ∧ cw p a c s t
def hw (p : Int → Int) (a : Int) : Prop := ∃ s, (0 ≤ s ∧ s < p 4) ∧ wrt p s a
def ear (p : Int → Int) (e c : Int) : Prop := ∃ s, (0 ≤ s ∧ s < p 4) ∧ wrt p s c ∧ p (340 + e) < p (440 + p (960 + s))
def nvr (p : Int → Int) (a c : Int) : Prop := ¬ p (310 + a) = p (310 + c) ∨ ear p a c ∨ ear p c a
def likE (p : Int → Int) (a c v : Int) : Prop := (v = 0 ∧ (nvr p a c ∨ (¬ com p a c ∧ hw p a ∧ hw p c))) ∨ (v = 1 ∧ ¬ nvr p a c ∧ ¬ com p a c ∧ ¬ (hw p a ∧ hw p c)) ∨ (v = 2 ∧ ¬ nvr p a c ∧ com p a c)
theorem likE_u {p : Int → Int} {a c v w : Int} (h : likE p a c v) (g : likE p a c w) : v = w := by
  unfold likE at h g
  generalize nvr p a c = A at h g
  generalize com p a c = B at h g
  generalize (hw p a ∧ hw p c) = C at h g
  grind
def likP (p : Int → Int) (a c : Int) : Int := if ¬ p (400 + a) = p (400 + c) ∨ (¬ p (440 + a) = -100 ∧ ¬ p (440 + c) = -100 ∧ ¬ p (440 + a) = p (440 + c)) ∨ (¬ p (460 + a) = -100 ∧ p (460 + a) < p (440 + c)) ∨ (¬ p (460 + c) = -100 ∧ p (460 + c) < p (440 + a)) then 0 else if ¬ p (440 + a) = -100 ∧ ¬ p (440 + c) = -100 then 2 else 1
theorem s_Shs_isWriters {ro : Nat → Int × (Int → Int)} {d : Nat} {b : Bool} {I L : Nat → Int → Int} {Q : Option am_V → am_H → Prop} {x1 x2 : Int} (hC : Cor I L) (hx : 0 ≤ x1 ∧ x1 < I 67 4) (H1 : wrt (I 67) x1 x2 → Q (some (am_I 1)) (sh b, I, L)) (H0 : ¬ wrt (I 67) x1 x2 → Q (some (am_I 0)) (sh b, I, L)) : am_m ro (d + 1) 94 [am_R 22, am_I x1, am_I x2] (sh b, I, L) Q := by
  have ct := Cor_ct hC
  have w4 := hC.1.2.2.2.2.2.1.2.2.2.1
  have w5 := hC.1.2.2.2.2.2.1.2.2.2.2
  have w := w4 x1 (by omega) (by omega)
  refine am_in rfl rfl rfl rfl ?_
  refine b_Shs_isWriters_0 (by omega) (fun c1 => ?_) (fun c1 => ?_)
  · refine b_Shs_isWriters_23  ?_
    refine b_Shs_isWriters_24 (by omega) ?_
    exact H0 (fun ⟨u, v⟩ => by omega)
  · refine b_Shs_isWriters_9 (by omega) (fun c2 => ?_) (fun c2 => ?_)
    · refine b_Shs_isWriters_23  ?_
      refine b_Shs_isWriters_24 (by omega) ?_
      exact H0 (fun ⟨u, v⟩ => by omega)
    · refine b_Shs_isWriters_19  ?_
      refine b_Shs_isWriters_24 (by omega) ?_
      exact H1 ⟨by omega, by omega⟩
theorem lp_Land_isTooEarly {ro : Nat → Int × (Int → Int)} {d : Nat} {b : Bool} {I L : Nat → Int → Int} {Q : Option am_V → am_H → Prop} {bc bs : Nat} {x1 x2 : Int} (hC : Cor I L) (hx : (0 ≤ x1 ∧ x1 < I 67 2) ∧ 0 ≤ x2 ∧ x2 < I 67 2) (H1 : ear (I 67) x1 x2 → Q (some (am_I 1)) (sh b, I, L)) (H0 : ¬ ear (I 67) x1 x2 → Q (some (am_I 0)) (sh b, I, L)) : ∀ (n : Nat) (x3 : Int), (0 ≤ x3) → (x3 ≤ I 67 4) → (∀ j, 0 ≤ j → j < x3 → ¬ (wrt (I 67) j x2 ∧ I 67 (340 + x1) < I 67 (440 + I 67 (960 + j)))) → I 67 4 - x3 < (n : Int) → am_ex (am_m ro (d + 1)) ro am_M64 Q (2, [some (am_R 1), some (am_I x1), some (am_I x2), some (am_I x3)], [], (sh b, I, L), bc, bs) := by
  intro n
  induction n with
  | zero =>
    intro x3 i0 i1 i2 im
    exact absurd im (by omega)
  | succ n ih =>
    intro x3 i0 i1 i2 im
    have ct := Cor_ct hC
    have w4 := hC.1.2.2.2.2.2.1.2.2.2.1
    have w5 := hC.1.2.2.2.2.2.1.2.2.2.2
    have v4 := hC.1.2.2.2.1.2.2.2.1 x1 (by omega) (by omega)
    have v5 := hC.1.2.2.2.1.2.2.2.2 x1 (by omega) (by omega)
    have u4 := hC.1.2.2.2.2.1.2.2.2.1
    refine b_Land_isTooEarly_2  (fun c1 => ?_) (fun c1 => ?_)
    · refine b_Land_isTooEarly_62  ?_
      exact H0 (fun ⟨k, k1, k2, k3⟩ => i2 k k1.1 (by omega) ⟨k2, k3⟩)
    · have w := w4 x3 (by omega) (by omega)
      have w6 := w5 x3 (by omega) (by omega)
      have u := u4 (I 67 (960 + x3)) (by omega) (by omega)
      have e3 : I 24 x3 = I 67 (960 + x3) := w.2.1
      have e4 : I 18 (I 24 x3) = I 67 (440 + I 67 (960 + x3)) := by rw [e3]; exact u.2.2.1
      refine b_Land_isTooEarly_13  (s_Shs_isWriters hC (by omega) (fun t2 => ?_) (fun t2 => ?_))
      · refine b_Land_isTooEarly_22  (fun c3 => absurd c3 (by decide)) (fun c3 => ?_)
        refine b_Land_isTooEarly_25 (by omega) (by omega) (by omega) (fun c4 => ?_) (fun c4 => ?_)
        · refine b_Land_isTooEarly_56 (by omega) ?_
          exact ih (x3 + 1) (by omega) (by omega) (by intro j b1 b2 b3; by_cases ej : j = x3; (· subst ej; have b4 := b3.2; omega); exact i2 j b1 (by omega) b3) (by omega)
        · refine b_Land_isTooEarly_54  ?_
          exact H1 ⟨x3, by omega, t2, by omega⟩
      · refine b_Land_isTooEarly_22  (fun c5 => ?_) (fun c5 => absurd c5 (by decide))
        refine b_Land_isTooEarly_56 (by omega) ?_
        exact ih (x3 + 1) (by omega) (by omega) (by intro j b1 b2 b3; by_cases ej : j = x3; (· subst ej; exact t2 b3.1); exact i2 j b1 (by omega) b3) (by omega)
theorem s_Land_isTooEarly {ro : Nat → Int × (Int → Int)} {d : Nat} {b : Bool} {I L : Nat → Int → Int} {Q : Option am_V → am_H → Prop} {x1 x2 : Int} (hC : Cor I L) (hx : (0 ≤ x1 ∧ x1 < I 67 2) ∧ 0 ≤ x2 ∧ x2 < I 67 2) (H1 : ear (I 67) x1 x2 → Q (some (am_I 1)) (sh b, I, L)) (H0 : ¬ ear (I 67) x1 x2 → Q (some (am_I 0)) (sh b, I, L)) : am_m ro (d + 2) 64 [am_R 1, am_I x1, am_I x2] (sh b, I, L) Q := by
  have ct := Cor_ct hC
  have w4 := hC.1.2.2.2.2.2.1.2.2.2.1
  have w5 := hC.1.2.2.2.2.2.1.2.2.2.2
  refine am_in rfl rfl rfl rfl ?_
  refine b_Land_isTooEarly_0  ?_
  exact lp_Land_isTooEarly (d := d) hC hx H1 H0 ((I 67 4).toNat + 1) _ (by omega) (by omega) (by intro j b1 b2; omega) (by omega)
theorem lp_Shs_hasWriter {ro : Nat → Int × (Int → Int)} {d : Nat} {b : Bool} {I L : Nat → Int → Int} {Q : Option am_V → am_H → Prop} {bc bs : Nat} {x1 : Int} (hC : Cor I L) (H1 : hw (I 67) x1 → Q (some (am_I 1)) (sh b, I, L)) (H0 : ¬ hw (I 67) x1 → Q (some (am_I 0)) (sh b, I, L)) : ∀ (n : Nat) (x2 : Int), (0 ≤ x2) → (x2 ≤ I 67 4) → (∀ j, 0 ≤ j → j < x2 → ¬ wrt (I 67) j x1) → I 67 4 - x2 < (n : Int) → am_ex (am_m ro (d + 1)) ro am_M95 Q (2, [some (am_R 22), some (am_I x1), some (am_I x2)], [], (sh b, I, L), bc, bs) := by
  intro n
  induction n with
  | zero =>
    intro x2 i0 i1 i2 im
    exact absurd im (by omega)
  | succ n ih =>
    intro x2 i0 i1 i2 im
    have ct := Cor_ct hC
    have w4 := hC.1.2.2.2.2.2.1.2.2.2.1
    have w5 := hC.1.2.2.2.2.2.1.2.2.2.2
    refine b_Shs_hasWriter_2  (fun c1 => ?_) (fun c1 => ?_)
    · refine b_Shs_hasWriter_27  ?_
      exact H0 (fun ⟨k, k1, k2⟩ => i2 k k1.1 (by omega) k2)
    · refine b_Shs_hasWriter_10  (s_Shs_isWriters hC (by omega) (fun t2 => ?_) (fun t2 => ?_))
      · refine b_Shs_hasWriter_16  (fun c3 => absurd c3 (by decide)) (fun c3 => ?_)
        refine b_Shs_hasWriter_19  ?_
        exact H1 ⟨x2, by omega, t2⟩
      · refine b_Shs_hasWriter_16  (fun c4 => ?_) (fun c4 => absurd c4 (by decide))
        refine b_Shs_hasWriter_21 (by omega) ?_
        exact ih (x2 + 1) (by omega) (by omega) (by intro j b1 b2 b3; by_cases ej : j = x2; (· subst ej; exact t2 b3); exact i2 j b1 (by omega) b3) (by omega)
theorem s_Shs_hasWriter {ro : Nat → Int × (Int → Int)} {d : Nat} {b : Bool} {I L : Nat → Int → Int} {Q : Option am_V → am_H → Prop} {x1 : Int} (hC : Cor I L) (H1 : hw (I 67) x1 → Q (some (am_I 1)) (sh b, I, L)) (H0 : ¬ hw (I 67) x1 → Q (some (am_I 0)) (sh b, I, L)) : am_m ro (d + 2) 95 [am_R 22, am_I x1] (sh b, I, L) Q := by
  have ct := Cor_ct hC
  have w4 := hC.1.2.2.2.2.2.1.2.2.2.1
  have w5 := hC.1.2.2.2.2.2.1.2.2.2.2
  refine am_in rfl rfl rfl rfl ?_
  refine b_Shs_hasWriter_0  ?_
  exact lp_Shs_hasWriter (d := d) hC H1 H0 ((I 67 4).toNat + 1) _ (by omega) (by omega) (by intro j b1 b2; omega) (by omega)
theorem lq_Land_haveCommonWriter {ro : Nat → Int × (Int → Int)} {d : Nat} {b : Bool} {I L : Nat → Int → Int} {Q : Option am_V → am_H → Prop} {bc bs : Nat} {x1 x2 x3 x4 : Int} (hC : Cor I L) (H1 : com (I 67) x1 x2 → Q (some (am_I 1)) (sh b, I, L)) (hx : 0 ≤ x3 ∧ x3 < I 67 4) (h4 : x4 = I 67 (480 + I 67 (960 + x3))) (HX : (∀ t, 0 ≤ t → t < I 67 4 → ¬ cw (I 67) x1 x2 x3 t) → am_ex (am_m ro (d + 1)) ro am_M65 Q (2, [some (am_R 1), some (am_I x1), some (am_I x2), some (am_I ((x3 + 1))), none, none], [], (sh b, I, L), bc, bs)) : ∀ (n : Nat) (x5 : Int), (0 ≤ x5) → (x5 ≤ I 67 4) → (∀ t, 0 ≤ t → t < x5 → ¬ cw (I 67) x1 x2 x3 t) → I 67 4 - x5 < (n : Int) → am_ex (am_m ro (d + 1)) ro am_M65 Q (35, [some (am_R 1), some (am_I x1), some (am_I x2), some (am_I x3), some (am_I x4), some (am_I x5)], [], (sh b, I, L), bc, bs) := by
  intro n
  induction n with
  | zero =>
    intro x5 i0 i1 i2 im
    exact absurd im (by omega)
  | succ n ih =>
    intro x5 i0 i1 i2 im
    have ct := Cor_ct hC
    have w4 := hC.1.2.2.2.2.2.1.2.2.2.1
    have w5 := hC.1.2.2.2.2.2.1.2.2.2.2
    have u4 := hC.1.2.2.2.2.1.2.2.2.1
    refine b_Land_haveCommonWriter_35  (s_Shs_isWriters hC (by omega) (fun t1 => ?_) (fun t1 => ?_))
    · refine b_Land_haveCommonWriter_44  (fun c2 => absurd c2 (by decide)) (fun c2 => ?_)
      refine b_Land_haveCommonWriter_47  (fun c3 => ?_) (fun c3 => ?_)
      · refine b_Land_haveCommonWriter_103 (by omega) ?_
        exact HX (fun t b1 b2 b3 => i2 t b1 (by omega) b3)
      · have v := w4 x5 (by omega) (by omega)
        have v6 := w5 x5 (by omega) (by omega)
        have u := u4 (I 67 (960 + x5)) (by omega) (by omega)
        have e3 : I 24 x5 = I 67 (960 + x5) := v.2.1
        have e4 : I 20 (I 24 x5) = I 67 (480 + I 67 (960 + x5)) := by rw [e3]; exact u.2.2.2.2
        refine b_Land_haveCommonWriter_59  (s_Shs_isWriters hC (by omega) (fun t4 => ?_) (fun t4 => ?_))
        · refine b_Land_haveCommonWriter_69  (fun c5 => absurd c5 (by decide)) (fun c5 => ?_)
          refine b_Land_haveCommonWriter_72 (by omega) (by omega) (fun c6 => ?_) (fun c6 => ?_)
          · refine b_Land_haveCommonWriter_97 (by omega) ?_
            exact ih (x5 + 1) (by omega) (by omega) (by intro j b1 b2 b3; by_cases ej : j = x5; (· subst ej; have b4 := b3.2.2; omega); exact i2 j b1 (by omega) b3) (by omega)
          · refine b_Land_haveCommonWriter_95  ?_
            exact H1 ⟨x3, x5, by omega, by omega, t1, t4, by omega⟩
        · refine b_Land_haveCommonWriter_69  (fun c7 => ?_) (fun c7 => absurd c7 (by decide))
          refine b_Land_haveCommonWriter_97 (by omega) ?_
          exact ih (x5 + 1) (by omega) (by omega) (by intro j b1 b2 b3; by_cases ej : j = x5; (· subst ej; exact t4 b3.2.1); exact i2 j b1 (by omega) b3) (by omega)
    · refine b_Land_haveCommonWriter_44  (fun c8 => ?_) (fun c8 => absurd c8 (by decide))
      refine b_Land_haveCommonWriter_103 (by omega) ?_
      exact HX (fun t b1 b2 b3 => t1 b3.1)
theorem lp_Land_haveCommonWriter {ro : Nat → Int × (Int → Int)} {d : Nat} {b : Bool} {I L : Nat → Int → Int} {Q : Option am_V → am_H → Prop} {bc bs : Nat} {x1 x2 : Int} (hC : Cor I L) (H1 : com (I 67) x1 x2 → Q (some (am_I 1)) (sh b, I, L)) (H0 : ¬ com (I 67) x1 x2 → Q (some (am_I 0)) (sh b, I, L)) : ∀ (n : Nat) (x3 : Int), (0 ≤ x3) → (x3 ≤ I 67 4) → (∀ s t, 0 ≤ s → s < x3 → 0 ≤ t → t < I 67 4 → ¬ cw (I 67) x1 x2 s t) → I 67 4 - x3 < (n : Int) → am_ex (am_m ro (d + 1)) ro am_M65 Q (2, [some (am_R 1), some (am_I x1), some (am_I x2), some (am_I x3), none, none], [], (sh b, I, L), bc, bs) := by
  intro n
  induction n with
  | zero =>
    intro x3 i0 i1 i2 im
    exact absurd im (by omega)
  | succ n ih =>
    intro x3 i0 i1 i2 im
    have ct := Cor_ct hC
    have w4 := hC.1.2.2.2.2.2.1.2.2.2.1
    have w5 := hC.1.2.2.2.2.2.1.2.2.2.2
    have u4 := hC.1.2.2.2.2.1.2.2.2.1
    refine b_Land_haveCommonWriter_2  (fun c1 => ?_) (fun c1 => ?_)
    · refine b_Land_haveCommonWriter_109  ?_
      exact H0 (fun ⟨s, t, k1, k2, k3⟩ => i2 s t k1.1 (by omega) k2.1 k2.2 k3)
    · have w := w4 x3 (by omega) (by omega)
      have w6 := w5 x3 (by omega) (by omega)
      have u := u4 (I 67 (960 + x3)) (by omega) (by omega)
      have e3 : I 24 x3 = I 67 (960 + x3) := w.2.1
      have e4 : I 20 (I 24 x3) = I 67 (480 + I 67 (960 + x3)) := by rw [e3]; exact u.2.2.2.2
      refine b_Land_haveCommonWriter_13 (by omega) (by omega) ?_
      exact lq_Land_haveCommonWriter (d := d) hC H1 (by omega) e4 (fun hh => ih (x3 + 1) (by omega) (by omega) (by intro s t b0 b1 b2 b3 b4; by_cases es : s = x3; (· subst es; exact hh t b2 b3 b4); exact i2 s t b0 (by omega) b2 b3 b4) (by omega)) ((I 67 4).toNat + 1) 0 (by omega) (by omega) (by intro j b1 b2; omega) (by omega)
theorem s_Land_haveCommonWriter {ro : Nat → Int × (Int → Int)} {d : Nat} {b : Bool} {I L : Nat → Int → Int} {Q : Option am_V → am_H → Prop} {x1 x2 : Int} (hC : Cor I L) (H1 : com (I 67) x1 x2 → Q (some (am_I 1)) (sh b, I, L)) (H0 : ¬ com (I 67) x1 x2 → Q (some (am_I 0)) (sh b, I, L)) : am_m ro (d + 2) 65 [am_R 1, am_I x1, am_I x2] (sh b, I, L) Q := by
  have ct := Cor_ct hC
  have w4 := hC.1.2.2.2.2.2.1.2.2.2.1
  have w5 := hC.1.2.2.2.2.2.1.2.2.2.2
  refine am_in rfl rfl rfl rfl ?_
  refine b_Land_haveCommonWriter_0  ?_
  exact lp_Land_haveCommonWriter (d := d) hC H1 H0 ((I 67 4).toNat + 1) _ (by omega) (by omega) (by intro s t b1 b2; omega) (by omega)
theorem s_Land_likeEditions {ro : Nat → Int × (Int → Int)} {d : Nat} {b : Bool} {I L : Nat → Int → Int} {Q : Option am_V → am_H → Prop} {x1 x2 : Int} (hC : Cor I L) (hx : (0 ≤ x1 ∧ x1 < I 67 2) ∧ 0 ≤ x2 ∧ x2 < I 67 2) (H : ∀ v, likE (I 67) x1 x2 v → Q (some (am_I v)) (sh b, I, L)) : am_m ro (d + 3) 63 [am_R 1, am_I x1, am_I x2] (sh b, I, L) Q := by
  have ct := Cor_ct hC
  have w4 := hC.1.2.2.2.2.2.1.2.2.2.1
  have w5 := hC.1.2.2.2.2.2.1.2.2.2.2
  have v4 := hC.1.2.2.2.1.2.2.2.1 x1 (by omega) (by omega)
  have v5 := hC.1.2.2.2.1.2.2.2.1 x2 (by omega) (by omega)
  refine am_in rfl rfl rfl rfl ?_
  refine b_Land_likeEditions_0 (by omega) (by omega) (fun c1 => ?_) (fun c1 => ?_)
  · refine b_Land_likeEditions_39  ?_
    exact H 0 (Or.inl ⟨rfl, Or.inl (Or.inl (by omega))⟩)
  · refine b_Land_likeEditions_21  (s_Land_isTooEarly hC (by omega) (fun t2 => ?_) (fun t2 => ?_))
    · refine b_Land_likeEditions_27  (fun c3 => ?_) (fun c3 => absurd c3 (by decide))
      refine b_Land_likeEditions_39  ?_
      exact H 0 (Or.inl ⟨rfl, Or.inl (Or.inr (Or.inl t2))⟩)
    · refine b_Land_likeEditions_27  (fun c4 => absurd c4 (by decide)) (fun c4 => ?_)
      refine b_Land_likeEditions_30  (s_Land_isTooEarly hC (by omega) (fun t5 => ?_) (fun t5 => ?_))
      · refine b_Land_likeEditions_36  (fun c6 => absurd c6 (by decide)) (fun c6 => ?_)
        refine b_Land_likeEditions_39  ?_
        exact H 0 (Or.inl ⟨rfl, Or.inl (Or.inr (Or.inr t5))⟩)
      · refine b_Land_likeEditions_36  (fun c7 => ?_) (fun c7 => absurd c7 (by decide))
        refine b_Land_likeEditions_41  (s_Land_haveCommonWriter hC (fun t8 => ?_) (fun t8 => ?_))
        · refine b_Land_likeEditions_47  (fun c9 => absurd c9 (by decide)) (fun c9 => ?_)
          refine b_Land_likeEditions_50  ?_
          have nv : ¬ nvr (I 67) x1 x2 := by
            intro q
            rcases q with q | q | q
            · exact q (by omega)
            · exact t2 q
            · exact t5 q
          exact H 2 (Or.inr (Or.inr ⟨rfl, nv, t8⟩))
        · refine b_Land_likeEditions_47  (fun c10 => ?_) (fun c10 => absurd c10 (by decide))
          refine b_Land_likeEditions_52  (s_Shs_hasWriter hC (fun t11 => ?_) (fun t11 => ?_))
          · refine b_Land_likeEditions_60  (fun c12 => absurd c12 (by decide)) (fun c12 => ?_)
            refine b_Land_likeEditions_63  (s_Shs_hasWriter hC (fun t13 => ?_) (fun t13 => ?_))
            · refine b_Land_likeEditions_71  (fun c14 => absurd c14 (by decide)) (fun c14 => ?_)
              refine b_Land_likeEditions_74  ?_
              refine b_Land_likeEditions_79  ?_
              exact H 0 (Or.inl ⟨rfl, Or.inr ⟨t8, t11, t13⟩⟩)
            · refine b_Land_likeEditions_71  (fun c15 => ?_) (fun c15 => absurd c15 (by decide))
              refine b_Land_likeEditions_78  ?_
              refine b_Land_likeEditions_79  ?_
              have nv : ¬ nvr (I 67) x1 x2 := by
                intro q
                rcases q with q | q | q
                · exact q (by omega)
                · exact t2 q
                · exact t5 q
              exact H 1 (Or.inr (Or.inl ⟨rfl, nv, t8, fun q => t13 q.2⟩))
          · refine b_Land_likeEditions_60  (fun c16 => ?_) (fun c16 => absurd c16 (by decide))
            refine b_Land_likeEditions_78  ?_
            refine b_Land_likeEditions_79  ?_
            have nv : ¬ nvr (I 67) x1 x2 := by
              intro q
              rcases q with q | q | q
              · exact q (by omega)
              · exact t2 q
              · exact t5 q
            exact H 1 (Or.inr (Or.inl ⟨rfl, nv, t8, fun q => t11 q.1⟩))
theorem s_Peo_isGoneAhead {ro : Nat → Int × (Int → Int)} {d : Nat} {b : Bool} {I L : Nat → Int → Int} {Q : Option am_V → am_H → Prop} {x1 x2 : Int} (hp : (0 ≤ x1 ∧ x1 < 20) ∧ 0 ≤ x2 ∧ x2 < 20) (H1 : ¬ I 19 x1 = -100 ∧ I 19 x1 < I 18 x2 → Q (some (am_I 1)) (sh b, I, L)) (H0 : ¬ (¬ I 19 x1 = -100 ∧ I 19 x1 < I 18 x2) → Q (some (am_I 0)) (sh b, I, L)) : am_m ro (d + 1) 88 [am_R 15, am_I x1, am_I x2] (sh b, I, L) Q := by
  refine am_in rfl rfl rfl rfl ?_
  refine b_Peo_isGoneAhead_0 (by omega) (fun c1 => ?_) (fun c1 => ?_)
  · refine b_Peo_isGoneAhead_30  ?_
    refine b_Peo_isGoneAhead_31 (by omega) ?_
    exact H0 (by omega)
  · refine b_Peo_isGoneAhead_11 (by omega) (by omega) (fun c2 => ?_) (fun c2 => ?_)
    · refine b_Peo_isGoneAhead_30  ?_
      refine b_Peo_isGoneAhead_31 (by omega) ?_
      exact H0 (by omega)
    · refine b_Peo_isGoneAhead_26  ?_
      refine b_Peo_isGoneAhead_31 (by omega) ?_
      exact H1 (by omega)
theorem s_Peo_likeness {ro : Nat → Int × (Int → Int)} {d : Nat} {b : Bool} {I L : Nat → Int → Int} {Q : Option am_V → am_H → Prop} {x1 x2 : Int} (hC : Cor I L) (hx : (0 ≤ x1 ∧ x1 < I 67 3) ∧ 0 ≤ x2 ∧ x2 < I 67 3) (H : Q (some (am_I (likP (I 67) x1 x2))) (sh b, I, L)) : am_m ro (d + 2) 87 [am_R 15, am_I x1, am_I x2] (sh b, I, L) Q := by
  have ct := Cor_ct hC
  have u1 := hC.1.2.2.2.2.1.2.2.2.1 x1 (by omega) (by omega)
  have u2 := hC.1.2.2.2.2.1.2.2.2.1 x2 (by omega) (by omega)
  refine am_in rfl rfl rfl rfl ?_
  refine b_Peo_likeness_0 (by omega) (fun c1 => ?_) (fun c1 => ?_)
  · refine b_Peo_likeness_26  ?_
    refine b_Peo_likeness_27 (by omega) (by omega) (fun c2 => ?_) (fun c2 => ?_)
    · refine b_Peo_likeness_80  ?_
      have e8 : likP (I 67) x1 x2 = 0 := by
        unfold likP
        (repeat split) <;> omega
      rw [e8] at H
      exact H
    · refine b_Peo_likeness_43  (fun c3 => ?_) (fun c3 => absurd c3 (by decide))
      refine b_Peo_likeness_62  (s_Peo_isGoneAhead (by omega) (fun c4 => ?_) (fun c4 => ?_))
      · refine b_Peo_likeness_68  (fun c5 => ?_) (fun c5 => absurd c5 (by decide))
        refine b_Peo_likeness_80  ?_
        have e8 : likP (I 67) x1 x2 = 0 := by
          unfold likP
          (repeat split) <;> omega
        rw [e8] at H
        exact H
      · refine b_Peo_likeness_68  (fun c6 => absurd c6 (by decide)) (fun c6 => ?_)
        refine b_Peo_likeness_71  (s_Peo_isGoneAhead (by omega) (fun c7 => ?_) (fun c7 => ?_))
        · refine b_Peo_likeness_77  (fun c8 => absurd c8 (by decide)) (fun c8 => ?_)
          refine b_Peo_likeness_80  ?_
          have e8 : likP (I 67) x1 x2 = 0 := by
            unfold likP
            (repeat split) <;> omega
          rw [e8] at H
          exact H
        · refine b_Peo_likeness_77  (fun c9 => ?_) (fun c9 => absurd c9 (by decide))
          refine b_Peo_likeness_82  (fun c10 => ?_) (fun c10 => absurd c10 (by decide))
          refine b_Peo_likeness_90  ?_
          refine b_Peo_likeness_91  ?_
          have e8 : likP (I 67) x1 x2 = 1 := by
            unfold likP
            (repeat split) <;> omega
          rw [e8] at H
          exact H
  · refine b_Peo_likeness_11 (by omega) (fun c11 => ?_) (fun c11 => ?_)
    · refine b_Peo_likeness_26  ?_
      refine b_Peo_likeness_27 (by omega) (by omega) (fun c12 => ?_) (fun c12 => ?_)
      · refine b_Peo_likeness_80  ?_
        have e8 : likP (I 67) x1 x2 = 0 := by
          unfold likP
          (repeat split) <;> omega
        rw [e8] at H
        exact H
      · refine b_Peo_likeness_43  (fun c13 => ?_) (fun c13 => absurd c13 (by decide))
        refine b_Peo_likeness_62  (s_Peo_isGoneAhead (by omega) (fun c14 => ?_) (fun c14 => ?_))
        · refine b_Peo_likeness_68  (fun c15 => ?_) (fun c15 => absurd c15 (by decide))
          refine b_Peo_likeness_80  ?_
          have e8 : likP (I 67) x1 x2 = 0 := by
            unfold likP
            (repeat split) <;> omega
          rw [e8] at H
          exact H
        · refine b_Peo_likeness_68  (fun c16 => absurd c16 (by decide)) (fun c16 => ?_)
          refine b_Peo_likeness_71  (s_Peo_isGoneAhead (by omega) (fun c17 => ?_) (fun c17 => ?_))
          · refine b_Peo_likeness_77  (fun c18 => absurd c18 (by decide)) (fun c18 => ?_)
            refine b_Peo_likeness_80  ?_
            have e8 : likP (I 67) x1 x2 = 0 := by
              unfold likP
              (repeat split) <;> omega
            rw [e8] at H
            exact H
          · refine b_Peo_likeness_77  (fun c19 => ?_) (fun c19 => absurd c19 (by decide))
            refine b_Peo_likeness_82  (fun c20 => ?_) (fun c20 => absurd c20 (by decide))
            refine b_Peo_likeness_90  ?_
            refine b_Peo_likeness_91  ?_
            have e8 : likP (I 67) x1 x2 = 1 := by
              unfold likP
              (repeat split) <;> omega
            rw [e8] at H
            exact H
    · refine b_Peo_likeness_22  ?_
      refine b_Peo_likeness_27 (by omega) (by omega) (fun c21 => ?_) (fun c21 => ?_)
      · refine b_Peo_likeness_80  ?_
        have e8 : likP (I 67) x1 x2 = 0 := by
          unfold likP
          (repeat split) <;> omega
        rw [e8] at H
        exact H
      · refine b_Peo_likeness_43  (fun c22 => absurd c22 (by decide)) (fun c22 => ?_)
        refine b_Peo_likeness_47 (by omega) (by omega) (fun c23 => ?_) (fun c23 => ?_)
        · refine b_Peo_likeness_80  ?_
          have e8 : likP (I 67) x1 x2 = 0 := by
            unfold likP
            (repeat split) <;> omega
          rw [e8] at H
          exact H
        · refine b_Peo_likeness_62  (s_Peo_isGoneAhead (by omega) (fun c24 => ?_) (fun c24 => ?_))
          · refine b_Peo_likeness_68  (fun c25 => ?_) (fun c25 => absurd c25 (by decide))
            refine b_Peo_likeness_80  ?_
            have e8 : likP (I 67) x1 x2 = 0 := by
              unfold likP
              (repeat split) <;> omega
            rw [e8] at H
            exact H
          · refine b_Peo_likeness_68  (fun c26 => absurd c26 (by decide)) (fun c26 => ?_)
            refine b_Peo_likeness_71  (s_Peo_isGoneAhead (by omega) (fun c27 => ?_) (fun c27 => ?_))
            · refine b_Peo_likeness_77  (fun c28 => absurd c28 (by decide)) (fun c28 => ?_)
              refine b_Peo_likeness_80  ?_
              have e8 : likP (I 67) x1 x2 = 0 := by
                unfold likP
                (repeat split) <;> omega
              rw [e8] at H
              exact H
            · refine b_Peo_likeness_77  (fun c29 => ?_) (fun c29 => absurd c29 (by decide))
              refine b_Peo_likeness_82  (fun c30 => absurd c30 (by decide)) (fun c30 => ?_)
              refine b_Peo_likeness_86  ?_
              refine b_Peo_likeness_91  ?_
              have e8 : likP (I 67) x1 x2 = 2 := by
                unfold likP
                (repeat split) <;> omega
              rw [e8] at H
              exact H
theorem s_M_diedAhead {ro : Nat → Int × (Int → Int)} {d : Nat} {b : Bool} {I L : Nat → Int → Int} {Q : Option am_V → am_H → Prop} {x1 x2 : Int} (hp : (0 ≤ x1 ∧ x1 < 20) ∧ 0 ≤ x2 ∧ x2 < 20) (H1 : ¬ I 67 (460 + x1) = -100 ∧ ¬ I 67 (440 + x2) = -100 ∧ I 67 (460 + x1) < I 67 (440 + x2) → Q (some (am_I 1)) (sh b, I, L)) (H0 : ¬ (¬ I 67 (460 + x1) = -100 ∧ ¬ I 67 (440 + x2) = -100 ∧ I 67 (460 + x1) < I 67 (440 + x2)) → Q (some (am_I 0)) (sh b, I, L)) : am_m ro (d + 1) 189 [am_R 66, am_I x1, am_I x2] (sh b, I, L) Q := by
  refine am_in rfl rfl rfl rfl ?_
  refine b_M_diedAhead_0 (by omega) (by omega) (fun c1 => ?_) (fun c1 => ?_)
  · refine b_M_diedAhead_57  ?_
    refine b_M_diedAhead_58 (by omega) ?_
    exact H0 (by omega)
  · refine b_M_diedAhead_15 (by omega) (by omega) (fun c2 => ?_) (fun c2 => ?_)
    · refine b_M_diedAhead_57  ?_
      refine b_M_diedAhead_58 (by omega) ?_
      exact H0 (by omega)
    · refine b_M_diedAhead_30 (by omega) (by omega) (by omega) (by omega) (fun c3 => ?_) (fun c3 => ?_)
      · refine b_M_diedAhead_57  ?_
        refine b_M_diedAhead_58 (by omega) ?_
        exact H0 (by omega)
      · refine b_M_diedAhead_53  ?_
        refine b_M_diedAhead_58 (by omega) ?_
        exact H1 (by omega)
theorem s_M_samePersons {ro : Nat → Int × (Int → Int)} {d : Nat} {b : Bool} {I L : Nat → Int → Int} {Q : Option am_V → am_H → Prop} {x1 x2 : Int} (hM : Mo I L) (hx : (0 ≤ x1 ∧ x1 < I 67 3) ∧ 0 ≤ x2 ∧ x2 < I 67 3) (H : Q (some (am_I (likP (I 67) x1 x2))) (sh b, I, L)) : am_m ro (d + 2) 190 [am_R 66, am_I x1, am_I x2] (sh b, I, L) Q := by
  have ct := Mo_ct hM
  obtain ⟨C, CL, hM0⟩ := id hM
  have u1 := hM0.1.2.2.2.2.1.2.2.2.2.1 x1 (by omega) (by omega)
  have u2 := hM0.1.2.2.2.2.1.2.2.2.2.1 x2 (by omega) (by omega)
  refine am_in rfl rfl rfl rfl ?_
  refine b_M_samePersons_0 (by omega) (by omega) (fun c1 => ?_) (fun c1 => ?_)
  · refine b_M_samePersons_34  ?_
    refine b_M_samePersons_35 (by omega) (by omega) (by omega) (by omega) (fun c2 => ?_) (fun c2 => ?_)
    · refine b_M_samePersons_104  ?_
      refine b_M_samePersons_109  (fun c3 => absurd c3 (by decide)) (fun c3 => ?_)
      refine b_M_samePersons_116  ?_
      refine b_M_samePersons_129  ?_
      have e8 : likP (I 67) x1 x2 = 0 := by
        unfold likP
        (repeat split) <;> omega
      rw [e8] at H
      exact H
    · refine b_M_samePersons_59  (fun c4 => ?_) (fun c4 => absurd c4 (by decide))
      refine b_M_samePersons_86  (s_M_diedAhead (by omega) (fun c5 => ?_) (fun c5 => ?_))
      · refine b_M_samePersons_92  (fun c6 => ?_) (fun c6 => absurd c6 (by decide))
        refine b_M_samePersons_104  ?_
        refine b_M_samePersons_109  (fun c7 => absurd c7 (by decide)) (fun c7 => ?_)
        refine b_M_samePersons_116  ?_
        refine b_M_samePersons_129  ?_
        have e8 : likP (I 67) x1 x2 = 0 := by
          unfold likP
          (repeat split) <;> omega
        rw [e8] at H
        exact H
      · refine b_M_samePersons_92  (fun c8 => absurd c8 (by decide)) (fun c8 => ?_)
        refine b_M_samePersons_95  (s_M_diedAhead (by omega) (fun c9 => ?_) (fun c9 => ?_))
        · refine b_M_samePersons_101  (fun c10 => absurd c10 (by decide)) (fun c10 => ?_)
          refine b_M_samePersons_104  ?_
          refine b_M_samePersons_109  (fun c11 => absurd c11 (by decide)) (fun c11 => ?_)
          refine b_M_samePersons_116  ?_
          refine b_M_samePersons_129  ?_
          have e8 : likP (I 67) x1 x2 = 0 := by
            unfold likP
            (repeat split) <;> omega
          rw [e8] at H
          exact H
        · refine b_M_samePersons_101  (fun c12 => ?_) (fun c12 => absurd c12 (by decide))
          refine b_M_samePersons_108  ?_
          refine b_M_samePersons_109  (fun c13 => ?_) (fun c13 => absurd c13 (by decide))
          refine b_M_samePersons_120  (fun c14 => ?_) (fun c14 => absurd c14 (by decide))
          refine b_M_samePersons_128  ?_
          refine b_M_samePersons_129  ?_
          have e8 : likP (I 67) x1 x2 = 1 := by
            unfold likP
            (repeat split) <;> omega
          rw [e8] at H
          exact H
  · refine b_M_samePersons_15 (by omega) (by omega) (fun c15 => ?_) (fun c15 => ?_)
    · refine b_M_samePersons_34  ?_
      refine b_M_samePersons_35 (by omega) (by omega) (by omega) (by omega) (fun c16 => ?_) (fun c16 => ?_)
      · refine b_M_samePersons_104  ?_
        refine b_M_samePersons_109  (fun c17 => absurd c17 (by decide)) (fun c17 => ?_)
        refine b_M_samePersons_116  ?_
        refine b_M_samePersons_129  ?_
        have e8 : likP (I 67) x1 x2 = 0 := by
          unfold likP
          (repeat split) <;> omega
        rw [e8] at H
        exact H
      · refine b_M_samePersons_59  (fun c18 => ?_) (fun c18 => absurd c18 (by decide))
        refine b_M_samePersons_86  (s_M_diedAhead (by omega) (fun c19 => ?_) (fun c19 => ?_))
        · refine b_M_samePersons_92  (fun c20 => ?_) (fun c20 => absurd c20 (by decide))
          refine b_M_samePersons_104  ?_
          refine b_M_samePersons_109  (fun c21 => absurd c21 (by decide)) (fun c21 => ?_)
          refine b_M_samePersons_116  ?_
          refine b_M_samePersons_129  ?_
          have e8 : likP (I 67) x1 x2 = 0 := by
            unfold likP
            (repeat split) <;> omega
          rw [e8] at H
          exact H
        · refine b_M_samePersons_92  (fun c22 => absurd c22 (by decide)) (fun c22 => ?_)
          refine b_M_samePersons_95  (s_M_diedAhead (by omega) (fun c23 => ?_) (fun c23 => ?_))
          · refine b_M_samePersons_101  (fun c24 => absurd c24 (by decide)) (fun c24 => ?_)
            refine b_M_samePersons_104  ?_
            refine b_M_samePersons_109  (fun c25 => absurd c25 (by decide)) (fun c25 => ?_)
            refine b_M_samePersons_116  ?_
            refine b_M_samePersons_129  ?_
            have e8 : likP (I 67) x1 x2 = 0 := by
              unfold likP
              (repeat split) <;> omega
            rw [e8] at H
            exact H
          · refine b_M_samePersons_101  (fun c26 => ?_) (fun c26 => absurd c26 (by decide))
            refine b_M_samePersons_108  ?_
            refine b_M_samePersons_109  (fun c27 => ?_) (fun c27 => absurd c27 (by decide))
            refine b_M_samePersons_120  (fun c28 => ?_) (fun c28 => absurd c28 (by decide))
            refine b_M_samePersons_128  ?_
            refine b_M_samePersons_129  ?_
            have e8 : likP (I 67) x1 x2 = 1 := by
              unfold likP
              (repeat split) <;> omega
            rw [e8] at H
            exact H
    · refine b_M_samePersons_30  ?_
      refine b_M_samePersons_35 (by omega) (by omega) (by omega) (by omega) (fun c29 => ?_) (fun c29 => ?_)
      · refine b_M_samePersons_104  ?_
        refine b_M_samePersons_109  (fun c30 => absurd c30 (by decide)) (fun c30 => ?_)
        refine b_M_samePersons_116  ?_
        refine b_M_samePersons_129  ?_
        have e8 : likP (I 67) x1 x2 = 0 := by
          unfold likP
          (repeat split) <;> omega
        rw [e8] at H
        exact H
      · refine b_M_samePersons_59  (fun c31 => absurd c31 (by decide)) (fun c31 => ?_)
        refine b_M_samePersons_63 (by omega) (by omega) (by omega) (by omega) (fun c32 => ?_) (fun c32 => ?_)
        · refine b_M_samePersons_104  ?_
          refine b_M_samePersons_109  (fun c33 => absurd c33 (by decide)) (fun c33 => ?_)
          refine b_M_samePersons_116  ?_
          refine b_M_samePersons_129  ?_
          have e8 : likP (I 67) x1 x2 = 0 := by
            unfold likP
            (repeat split) <;> omega
          rw [e8] at H
          exact H
        · refine b_M_samePersons_86  (s_M_diedAhead (by omega) (fun c34 => ?_) (fun c34 => ?_))
          · refine b_M_samePersons_92  (fun c35 => ?_) (fun c35 => absurd c35 (by decide))
            refine b_M_samePersons_104  ?_
            refine b_M_samePersons_109  (fun c36 => absurd c36 (by decide)) (fun c36 => ?_)
            refine b_M_samePersons_116  ?_
            refine b_M_samePersons_129  ?_
            have e8 : likP (I 67) x1 x2 = 0 := by
              unfold likP
              (repeat split) <;> omega
            rw [e8] at H
            exact H
          · refine b_M_samePersons_92  (fun c37 => absurd c37 (by decide)) (fun c37 => ?_)
            refine b_M_samePersons_95  (s_M_diedAhead (by omega) (fun c38 => ?_) (fun c38 => ?_))
            · refine b_M_samePersons_101  (fun c39 => absurd c39 (by decide)) (fun c39 => ?_)
              refine b_M_samePersons_104  ?_
              refine b_M_samePersons_109  (fun c40 => absurd c40 (by decide)) (fun c40 => ?_)
              refine b_M_samePersons_116  ?_
              refine b_M_samePersons_129  ?_
              have e8 : likP (I 67) x1 x2 = 0 := by
                unfold likP
                (repeat split) <;> omega
              rw [e8] at H
              exact H
            · refine b_M_samePersons_101  (fun c41 => ?_) (fun c41 => absurd c41 (by decide))
              refine b_M_samePersons_108  ?_
              refine b_M_samePersons_109  (fun c42 => ?_) (fun c42 => absurd c42 (by decide))
              refine b_M_samePersons_120  (fun c43 => absurd c43 (by decide)) (fun c43 => ?_)
              refine b_M_samePersons_124  ?_
              refine b_M_samePersons_129  ?_
              have e8 : likP (I 67) x1 x2 = 2 := by
                unfold likP
                (repeat split) <;> omega
              rw [e8] at H
              exact H
theorem s_M_isWriter {ro : Nat → Int × (Int → Int)} {d : Nat} {b : Bool} {I L : Nat → Int → Int} {Q : Option am_V → am_H → Prop} {x1 x2 : Int} (hx : 0 ≤ x1 ∧ x1 < 60) (H1 : wrt (I 67) x1 x2 → Q (some (am_I 1)) (sh b, I, L)) (H0 : ¬ wrt (I 67) x1 x2 → Q (some (am_I 0)) (sh b, I, L)) : am_m ro (d + 1) 185 [am_R 66, am_I x1, am_I x2] (sh b, I, L) Q := by
  refine am_in rfl rfl rfl rfl ?_
  refine b_M_isWriter_0 (by omega) (by omega) (fun c1 => ?_) (fun c1 => ?_)
  · refine b_M_isWriter_31  ?_
    refine b_M_isWriter_32 (by omega) ?_
    exact H0 (fun ⟨u, v⟩ => by omega)
  · refine b_M_isWriter_14 (by omega) (by omega) (fun c2 => ?_) (fun c2 => ?_)
    · refine b_M_isWriter_31  ?_
      refine b_M_isWriter_32 (by omega) ?_
      exact H0 (fun ⟨u, v⟩ => by omega)
    · refine b_M_isWriter_27  ?_
      refine b_M_isWriter_32 (by omega) ?_
      exact H1 ⟨by omega, by omega⟩
theorem lp_M_isAheadOfWriter {ro : Nat → Int × (Int → Int)} {d : Nat} {b : Bool} {I L : Nat → Int → Int} {Q : Option am_V → am_H → Prop} {bc bs : Nat} {x1 x2 : Int} (hM : Mo I L) (hx : (0 ≤ x1 ∧ x1 < I 67 2) ∧ 0 ≤ x2 ∧ x2 < I 67 2) (H1 : ear (I 67) x1 x2 → Q (some (am_I 1)) (sh b, I, L)) (H0 : ¬ ear (I 67) x1 x2 → Q (some (am_I 0)) (sh b, I, L)) : ∀ (n : Nat) (x3 : Int), (0 ≤ x3) → (x3 ≤ I 67 4) → (∀ j, 0 ≤ j → j < x3 → ¬ (wrt (I 67) j x2 ∧ I 67 (340 + x1) < I 67 (440 + I 67 (960 + j)))) → I 67 4 - x3 < (n : Int) → am_ex (am_m ro (d + 1)) ro am_M186 Q (2, [some (am_R 66), some (am_I x1), some (am_I x2), some (am_I x3), none], [], (sh b, I, L), bc, bs) := by
  intro n
  induction n with
  | zero =>
    intro x3 i0 i1 i2 im
    exact absurd im (by omega)
  | succ n ih =>
    intro x3 i0 i1 i2 im
    have ct := Mo_ct hM
    obtain ⟨C, CL, hM0⟩ := id hM
    have w5 := hM0.1.2.2.2.2.2.1.2.2.2.2
    have v5 := hM0.1.2.2.2.1.2.2.2.2 x1 (by omega) (by omega)
    refine b_M_isAheadOfWriter_2  (fun c1 => ?_) (fun c1 => ?_)
    · refine b_M_isAheadOfWriter_72  ?_
      exact H0 (fun ⟨k, k1, k2, k3⟩ => i2 k k1.1 (by omega) ⟨k2, k3⟩)
    · have w6 := w5 x3 (by omega) (by omega)
      refine b_M_isAheadOfWriter_12 (by omega) (by omega) (by omega) (by omega) (s_M_isWriter (by omega) (fun t2 => ?_) (fun t2 => ?_))
      · refine b_M_isAheadOfWriter_39  (fun c3 => absurd c3 (by decide)) (fun c3 => ?_)
        refine b_M_isAheadOfWriter_42  (fun c4 => ?_) (fun c4 => ?_)
        · refine b_M_isAheadOfWriter_66 (by omega) ?_
          exact ih (x3 + 1) (by omega) (by omega) (by intro j b1 b2 b3; by_cases ej : j = x3; (· subst ej; have b4 := b3.2; omega); exact i2 j b1 (by omega) b3) (by omega)
        · refine b_M_isAheadOfWriter_49 (by omega) (by omega) (fun c5 => ?_) (fun c5 => ?_)
          · refine b_M_isAheadOfWriter_66 (by omega) ?_
            exact ih (x3 + 1) (by omega) (by omega) (by intro j b1 b2 b3; by_cases ej : j = x3; (· subst ej; have b4 := b3.2; omega); exact i2 j b1 (by omega) b3) (by omega)
          · refine b_M_isAheadOfWriter_64  ?_
            exact H1 ⟨x3, by omega, t2, by omega⟩
      · refine b_M_isAheadOfWriter_39  (fun c6 => ?_) (fun c6 => absurd c6 (by decide))
        refine b_M_isAheadOfWriter_66 (by omega) ?_
        exact ih (x3 + 1) (by omega) (by omega) (by intro j b1 b2 b3; by_cases ej : j = x3; (· subst ej; exact t2 b3.1); exact i2 j b1 (by omega) b3) (by omega)
theorem s_M_isAheadOfWriter {ro : Nat → Int × (Int → Int)} {d : Nat} {b : Bool} {I L : Nat → Int → Int} {Q : Option am_V → am_H → Prop} {x1 x2 : Int} (hM : Mo I L) (hx : (0 ≤ x1 ∧ x1 < I 67 2) ∧ 0 ≤ x2 ∧ x2 < I 67 2) (H1 : ear (I 67) x1 x2 → Q (some (am_I 1)) (sh b, I, L)) (H0 : ¬ ear (I 67) x1 x2 → Q (some (am_I 0)) (sh b, I, L)) : am_m ro (d + 2) 186 [am_R 66, am_I x1, am_I x2] (sh b, I, L) Q := by
  have ct := Mo_ct hM
  refine am_in rfl rfl rfl rfl ?_
  refine b_M_isAheadOfWriter_0  ?_
  exact lp_M_isAheadOfWriter (d := d) hM hx H1 H0 ((I 67 4).toNat + 1) _ (by omega) (by omega) (by intro j b1 b2; omega) (by omega)
theorem s_M_writer {ro : Nat → Int × (Int → Int)} {d : Nat} {b : Bool} {I L : Nat → Int → Int} {Q : Option am_V → am_H → Prop} {x1 : Int} (hx : (0 ≤ x1 ∧ x1 < 60) ∧ 0 ≤ I 67 (960 + x1) ∧ I 67 (960 + x1) < 20) (H : Q (some (am_I (I 67 (480 + I 67 (960 + x1))))) (sh b, I, L)) : am_m ro (d + 1) 188 [am_R 66, am_I x1] (sh b, I, L) Q := by
  refine am_in rfl rfl rfl rfl ?_
  refine b_M_writer_0 (by omega) (by omega) (by omega) (by omega) ?_
  exact H
theorem lq_M_sameEditions {ro : Nat → Int × (Int → Int)} {d : Nat} {b : Bool} {I L : Nat → Int → Int} {Q : Option am_V → am_H → Prop} {bc bs : Nat} {x1 x2 x4 x5 x6 : Int} (hM : Mo I L) (hx : 0 ≤ x6 ∧ x6 < I 67 4) (HX : ∀ z3 : Int, ((z3 = 1 ∧ com (I 67) x1 x2) ∨ (z3 = 0 ∧ ∀ s t, 0 ≤ s → 0 ≤ t → t < I 67 4 → s < x6 + 1 → ¬ cw (I 67) x1 x2 s t)) → am_ex (am_m ro (d + 2)) ro am_M187 Q (11, [some (am_R 66), some (am_I x1), some (am_I x2), some (am_I z3), some (am_I x4), some (am_I x5), some (am_I ((x6 + 1))), none], [], (sh b, I, L), bc, bs)) : ∀ (n : Nat) (x3 x7 : Int), (0 ≤ x7) → (x7 ≤ I 67 4) → ((x3 = 1 ∧ com (I 67) x1 x2) ∨ (x3 = 0 ∧ ∀ s t, 0 ≤ s → 0 ≤ t → t < I 67 4 → (s < x6 ∨ s = x6 ∧ t < x7) → ¬ cw (I 67) x1 x2 s t)) → I 67 4 - x7 < (n : Int) → am_ex (am_m ro (d + 2)) ro am_M187 Q (69, [some (am_R 66), some (am_I x1), some (am_I x2), some (am_I x3), some (am_I x4), some (am_I x5), some (am_I x6), some (am_I x7)], [], (sh b, I, L), bc, bs) := by
  intro n
  induction n with
  | zero =>
    intro x3 x7 i0 i1 i2 im
    exact absurd im (by omega)
  | succ n ih =>
    intro x3 x7 i0 i1 i2 im
    have ct := Mo_ct hM
    obtain ⟨C, CL, hM0⟩ := id hM
    have w5 := hM0.1.2.2.2.2.2.1.2.2.2.2
    refine b_M_sameEditions_69  (fun c1 => ?_) (fun c1 => ?_)
    · refine b_M_sameEditions_131 (by omega) ?_
      refine HX x3 ?_
      rcases i2 with i2 | i2
      · exact Or.inl i2
      · exact Or.inr ⟨i2.1, fun s t b1 b2 b3 b4 => i2.2 s t b1 b2 b3 (by omega)⟩
    · refine b_M_sameEditions_80  (fun c2 => ?_) (fun c2 => ?_)
      · refine b_M_sameEditions_119  ?_
        refine b_M_sameEditions_124 (by omega) ?_
        exact ih 1 (x7 + 1) (by omega) (by omega) (Or.inl ⟨rfl, by rcases i2 with i2 | i2; (· exact i2.2); omega⟩) (by omega)
      · refine b_M_sameEditions_84  (s_M_isWriter (by omega) (fun t3 => ?_) (fun t3 => ?_))
        · refine b_M_sameEditions_91  (fun c4 => absurd c4 (by decide)) (fun c4 => ?_)
          refine b_M_sameEditions_94  (s_M_isWriter (by omega) (fun t5 => ?_) (fun t5 => ?_))
          · refine b_M_sameEditions_101  (fun c6 => absurd c6 (by decide)) (fun c6 => ?_)
            refine b_M_sameEditions_104  (s_M_writer (by have q := w5 x6 (by omega) (by omega); omega) ?_)
            refine b_M_sameEditions_110  (s_M_writer (by have q := w5 x7 (by omega) (by omega); omega) ?_)
            refine b_M_sameEditions_116  (fun c7 => ?_) (fun c7 => ?_)
            · refine b_M_sameEditions_123  ?_
              refine b_M_sameEditions_124 (by omega) ?_
              exact ih 0 (x7 + 1) (by omega) (by omega) (Or.inr ⟨rfl, by rcases i2 with i2 | i2; (· omega); intro s t b1 b2 b3 b4 b5; by_cases es : s = x6 ∧ t = x7; (· obtain ⟨q1, q2⟩ := es; subst q1; subst q2; have b6 := b5.2.2; omega); exact i2.2 s t b1 b2 b3 (by omega) b5⟩) (by omega)
            · refine b_M_sameEditions_119  ?_
              refine b_M_sameEditions_124 (by omega) ?_
              exact ih 1 (x7 + 1) (by omega) (by omega) (Or.inl ⟨rfl, x6, x7, by omega, by omega, t3, t5, by omega⟩) (by omega)
          · refine b_M_sameEditions_101  (fun c8 => ?_) (fun c8 => absurd c8 (by decide))
            refine b_M_sameEditions_123  ?_
            refine b_M_sameEditions_124 (by omega) ?_
            exact ih 0 (x7 + 1) (by omega) (by omega) (Or.inr ⟨rfl, by rcases i2 with i2 | i2; (· omega); intro s t b1 b2 b3 b4 b5; by_cases es : s = x6 ∧ t = x7; (· obtain ⟨q1, q2⟩ := es; subst q1; subst q2; exact t5 b5.2.1); exact i2.2 s t b1 b2 b3 (by omega) b5⟩) (by omega)
        · refine b_M_sameEditions_91  (fun c9 => ?_) (fun c9 => absurd c9 (by decide))
          refine b_M_sameEditions_123  ?_
          refine b_M_sameEditions_124 (by omega) ?_
          exact ih 0 (x7 + 1) (by omega) (by omega) (Or.inr ⟨rfl, by rcases i2 with i2 | i2; (· omega); intro s t b1 b2 b3 b4 b5; by_cases es : s = x6 ∧ t = x7; (· obtain ⟨q1, q2⟩ := es; subst q1; subst q2; exact t3 b5.1); exact i2.2 s t b1 b2 b3 (by omega) b5⟩) (by omega)
set_option maxHeartbeats 1000000 in
theorem lp_M_sameEditions {ro : Nat → Int × (Int → Int)} {d : Nat} {b : Bool} {I L : Nat → Int → Int} {Q : Option am_V → am_H → Prop} {bc bs : Nat} {x1 x2 : Int} (hM : Mo I L) (hx : (0 ≤ x1 ∧ x1 < I 67 2) ∧ 0 ≤ x2 ∧ x2 < I 67 2) (H : ∀ v, likE (I 67) x1 x2 v → Q (some (am_I v)) (sh b, I, L)) : ∀ (n : Nat) (x3 x4 x5 x6 : Int), (0 ≤ x6) → (x6 ≤ I 67 4) → ((x3 = 1 ∧ com (I 67) x1 x2) ∨ (x3 = 0 ∧ ∀ s t, 0 ≤ s → 0 ≤ t → t < I 67 4 → s < x6 → ¬ cw (I 67) x1 x2 s t)) → ((x4 = 1 ∧ hw (I 67) x1) ∨ (x4 = 0 ∧ ∀ s, 0 ≤ s → s < x6 → ¬ wrt (I 67) s x1)) → ((x5 = 1 ∧ hw (I 67) x2) ∨ (x5 = 0 ∧ ∀ s, 0 ≤ s → s < x6 → ¬ wrt (I 67) s x2)) → I 67 4 - x6 < (n : Int) → am_ex (am_m ro (d + 2)) ro am_M187 Q (11, [some (am_R 66), some (am_I x1), some (am_I x2), some (am_I x3), some (am_I x4), some (am_I x5), some (am_I x6), none], [], (sh b, I, L), bc, bs) := by
  intro n
  induction n with
  | zero =>
    intro x3 x4 x5 x6 i0 i1 i2 i3 i4 im
    exact absurd im (by omega)
  | succ n ih =>
    intro x3 x4 x5 x6 i0 i1 i2 i3 i4 im
    have ct := Mo_ct hM
    obtain ⟨C, CL, hM0⟩ := id hM
    have w5 := hM0.1.2.2.2.2.2.1.2.2.2.2
    refine b_M_sameEditions_11  (fun c1 => ?_) (fun c1 => ?_)
    · refine b_M_sameEditions_137 (by omega) (by omega) (by omega) (by omega) (fun c2 => ?_) (fun c2 => ?_)
      · refine b_M_sameEditions_192  ?_
        refine b_M_sameEditions_197  (fun c3 => absurd c3 (by decide)) (fun c3 => ?_)
        refine b_M_sameEditions_204  ?_
        refine b_M_sameEditions_217  ?_
        have hcm : (x3 = 1 ∧ com (I 67) x1 x2) ∨ (x3 = 0 ∧ ¬ com (I 67) x1 x2) := by
          rcases i2 with q | q
          · exact Or.inl q
          · exact Or.inr ⟨q.1, fun ⟨s, t, k1, k2, k3⟩ => q.2 s t k1.1 k2.1 k2.2 (by omega) k3⟩
        have ha : (x4 = 1 ∧ hw (I 67) x1) ∨ (x4 = 0 ∧ ¬ hw (I 67) x1) := by
          rcases i3 with q | q
          · exact Or.inl q
          · exact Or.inr ⟨q.1, fun ⟨s, k1, k2⟩ => q.2 s k1.1 (by omega) k2⟩
        have hb : (x5 = 1 ∧ hw (I 67) x2) ∨ (x5 = 0 ∧ ¬ hw (I 67) x2) := by
          rcases i4 with q | q
          · exact Or.inl q
          · exact Or.inr ⟨q.1, fun ⟨s, k1, k2⟩ => q.2 s k1.1 (by omega) k2⟩
        refine H 0 ?_
        clear H ih i2 i3 i4 w5 hM0 hM
        unfold likE nvr
        generalize com (I 67) x1 x2 = A at *
        generalize hw (I 67) x1 = B at *
        generalize hw (I 67) x2 = C at *
        generalize ear (I 67) x1 x2 = D at *
        generalize ear (I 67) x2 x1 = E at *
        grind
      · refine b_M_sameEditions_160  (fun c4 => ?_) (fun c4 => ?_)
        · refine b_M_sameEditions_174  (s_M_isAheadOfWriter hM (by omega) (fun t5 => ?_) (fun t5 => ?_))
          · refine b_M_sameEditions_180  (fun c6 => ?_) (fun c6 => absurd c6 (by decide))
            refine b_M_sameEditions_192  ?_
            refine b_M_sameEditions_197  (fun c7 => absurd c7 (by decide)) (fun c7 => ?_)
            refine b_M_sameEditions_204  ?_
            refine b_M_sameEditions_217  ?_
            have hcm : (x3 = 1 ∧ com (I 67) x1 x2) ∨ (x3 = 0 ∧ ¬ com (I 67) x1 x2) := by
              rcases i2 with q | q
              · exact Or.inl q
              · exact Or.inr ⟨q.1, fun ⟨s, t, k1, k2, k3⟩ => q.2 s t k1.1 k2.1 k2.2 (by omega) k3⟩
            have ha : (x4 = 1 ∧ hw (I 67) x1) ∨ (x4 = 0 ∧ ¬ hw (I 67) x1) := by
              rcases i3 with q | q
              · exact Or.inl q
              · exact Or.inr ⟨q.1, fun ⟨s, k1, k2⟩ => q.2 s k1.1 (by omega) k2⟩
            have hb : (x5 = 1 ∧ hw (I 67) x2) ∨ (x5 = 0 ∧ ¬ hw (I 67) x2) := by
              rcases i4 with q | q
              · exact Or.inl q
              · exact Or.inr ⟨q.1, fun ⟨s, k1, k2⟩ => q.2 s k1.1 (by omega) k2⟩
            refine H 0 ?_
            clear H ih i2 i3 i4 w5 hM0 hM
            unfold likE nvr
            generalize com (I 67) x1 x2 = A at *
            generalize hw (I 67) x1 = B at *
            generalize hw (I 67) x2 = C at *
            generalize ear (I 67) x1 x2 = D at *
            generalize ear (I 67) x2 x1 = E at *
            grind
          · refine b_M_sameEditions_180  (fun c8 => absurd c8 (by decide)) (fun c8 => ?_)
            refine b_M_sameEditions_183  (s_M_isAheadOfWriter hM (by omega) (fun t9 => ?_) (fun t9 => ?_))
            · refine b_M_sameEditions_189  (fun c10 => absurd c10 (by decide)) (fun c10 => ?_)
              refine b_M_sameEditions_192  ?_
              refine b_M_sameEditions_197  (fun c11 => absurd c11 (by decide)) (fun c11 => ?_)
              refine b_M_sameEditions_204  ?_
              refine b_M_sameEditions_217  ?_
              have hcm : (x3 = 1 ∧ com (I 67) x1 x2) ∨ (x3 = 0 ∧ ¬ com (I 67) x1 x2) := by
                rcases i2 with q | q
                · exact Or.inl q
                · exact Or.inr ⟨q.1, fun ⟨s, t, k1, k2, k3⟩ => q.2 s t k1.1 k2.1 k2.2 (by omega) k3⟩
              have ha : (x4 = 1 ∧ hw (I 67) x1) ∨ (x4 = 0 ∧ ¬ hw (I 67) x1) := by
                rcases i3 with q | q
                · exact Or.inl q
                · exact Or.inr ⟨q.1, fun ⟨s, k1, k2⟩ => q.2 s k1.1 (by omega) k2⟩
              have hb : (x5 = 1 ∧ hw (I 67) x2) ∨ (x5 = 0 ∧ ¬ hw (I 67) x2) := by
                rcases i4 with q | q
                · exact Or.inl q
                · exact Or.inr ⟨q.1, fun ⟨s, k1, k2⟩ => q.2 s k1.1 (by omega) k2⟩
              refine H 0 ?_
              clear H ih i2 i3 i4 w5 hM0 hM
              unfold likE nvr
              generalize com (I 67) x1 x2 = A at *
              generalize hw (I 67) x1 = B at *
              generalize hw (I 67) x2 = C at *
              generalize ear (I 67) x1 x2 = D at *
              generalize ear (I 67) x2 x1 = E at *
              grind
            · refine b_M_sameEditions_189  (fun c12 => ?_) (fun c12 => absurd c12 (by decide))
              refine b_M_sameEditions_196  ?_
              refine b_M_sameEditions_197  (fun c13 => ?_) (fun c13 => absurd c13 (by decide))
              refine b_M_sameEditions_208  (fun c14 => ?_) (fun c14 => ?_)
              · refine b_M_sameEditions_216  ?_
                refine b_M_sameEditions_217  ?_
                have hcm : (x3 = 1 ∧ com (I 67) x1 x2) ∨ (x3 = 0 ∧ ¬ com (I 67) x1 x2) := by
                  rcases i2 with q | q
                  · exact Or.inl q
                  · exact Or.inr ⟨q.1, fun ⟨s, t, k1, k2, k3⟩ => q.2 s t k1.1 k2.1 k2.2 (by omega) k3⟩
                have ha : (x4 = 1 ∧ hw (I 67) x1) ∨ (x4 = 0 ∧ ¬ hw (I 67) x1) := by
                  rcases i3 with q | q
                  · exact Or.inl q
                  · exact Or.inr ⟨q.1, fun ⟨s, k1, k2⟩ => q.2 s k1.1 (by omega) k2⟩
                have hb : (x5 = 1 ∧ hw (I 67) x2) ∨ (x5 = 0 ∧ ¬ hw (I 67) x2) := by
                  rcases i4 with q | q
                  · exact Or.inl q
                  · exact Or.inr ⟨q.1, fun ⟨s, k1, k2⟩ => q.2 s k1.1 (by omega) k2⟩
                refine H 1 ?_
                clear H ih i2 i3 i4 w5 hM0 hM
                unfold likE nvr
                generalize com (I 67) x1 x2 = A at *
                generalize hw (I 67) x1 = B at *
                generalize hw (I 67) x2 = C at *
                generalize ear (I 67) x1 x2 = D at *
                generalize ear (I 67) x2 x1 = E at *
                grind
              · refine b_M_sameEditions_212  ?_
                refine b_M_sameEditions_217  ?_
                have hcm : (x3 = 1 ∧ com (I 67) x1 x2) ∨ (x3 = 0 ∧ ¬ com (I 67) x1 x2) := by
                  rcases i2 with q | q
                  · exact Or.inl q
                  · exact Or.inr ⟨q.1, fun ⟨s, t, k1, k2, k3⟩ => q.2 s t k1.1 k2.1 k2.2 (by omega) k3⟩
                have ha : (x4 = 1 ∧ hw (I 67) x1) ∨ (x4 = 0 ∧ ¬ hw (I 67) x1) := by
                  rcases i3 with q | q
                  · exact Or.inl q
                  · exact Or.inr ⟨q.1, fun ⟨s, k1, k2⟩ => q.2 s k1.1 (by omega) k2⟩
                have hb : (x5 = 1 ∧ hw (I 67) x2) ∨ (x5 = 0 ∧ ¬ hw (I 67) x2) := by
                  rcases i4 with q | q
                  · exact Or.inl q
                  · exact Or.inr ⟨q.1, fun ⟨s, k1, k2⟩ => q.2 s k1.1 (by omega) k2⟩
                refine H 2 ?_
                clear H ih i2 i3 i4 w5 hM0 hM
                unfold likE nvr
                generalize com (I 67) x1 x2 = A at *
                generalize hw (I 67) x1 = B at *
                generalize hw (I 67) x2 = C at *
                generalize ear (I 67) x1 x2 = D at *
                generalize ear (I 67) x2 x1 = E at *
                grind
        · refine b_M_sameEditions_165  (fun c15 => ?_) (fun c15 => ?_)
          · refine b_M_sameEditions_174  (s_M_isAheadOfWriter hM (by omega) (fun t16 => ?_) (fun t16 => ?_))
            · refine b_M_sameEditions_180  (fun c17 => ?_) (fun c17 => absurd c17 (by decide))
              refine b_M_sameEditions_192  ?_
              refine b_M_sameEditions_197  (fun c18 => absurd c18 (by decide)) (fun c18 => ?_)
              refine b_M_sameEditions_204  ?_
              refine b_M_sameEditions_217  ?_
              have hcm : (x3 = 1 ∧ com (I 67) x1 x2) ∨ (x3 = 0 ∧ ¬ com (I 67) x1 x2) := by
                rcases i2 with q | q
                · exact Or.inl q
                · exact Or.inr ⟨q.1, fun ⟨s, t, k1, k2, k3⟩ => q.2 s t k1.1 k2.1 k2.2 (by omega) k3⟩
              have ha : (x4 = 1 ∧ hw (I 67) x1) ∨ (x4 = 0 ∧ ¬ hw (I 67) x1) := by
                rcases i3 with q | q
                · exact Or.inl q
                · exact Or.inr ⟨q.1, fun ⟨s, k1, k2⟩ => q.2 s k1.1 (by omega) k2⟩
              have hb : (x5 = 1 ∧ hw (I 67) x2) ∨ (x5 = 0 ∧ ¬ hw (I 67) x2) := by
                rcases i4 with q | q
                · exact Or.inl q
                · exact Or.inr ⟨q.1, fun ⟨s, k1, k2⟩ => q.2 s k1.1 (by omega) k2⟩
              refine H 0 ?_
              clear H ih i2 i3 i4 w5 hM0 hM
              unfold likE nvr
              generalize com (I 67) x1 x2 = A at *
              generalize hw (I 67) x1 = B at *
              generalize hw (I 67) x2 = C at *
              generalize ear (I 67) x1 x2 = D at *
              generalize ear (I 67) x2 x1 = E at *
              grind
            · refine b_M_sameEditions_180  (fun c19 => absurd c19 (by decide)) (fun c19 => ?_)
              refine b_M_sameEditions_183  (s_M_isAheadOfWriter hM (by omega) (fun t20 => ?_) (fun t20 => ?_))
              · refine b_M_sameEditions_189  (fun c21 => absurd c21 (by decide)) (fun c21 => ?_)
                refine b_M_sameEditions_192  ?_
                refine b_M_sameEditions_197  (fun c22 => absurd c22 (by decide)) (fun c22 => ?_)
                refine b_M_sameEditions_204  ?_
                refine b_M_sameEditions_217  ?_
                have hcm : (x3 = 1 ∧ com (I 67) x1 x2) ∨ (x3 = 0 ∧ ¬ com (I 67) x1 x2) := by
                  rcases i2 with q | q
                  · exact Or.inl q
                  · exact Or.inr ⟨q.1, fun ⟨s, t, k1, k2, k3⟩ => q.2 s t k1.1 k2.1 k2.2 (by omega) k3⟩
                have ha : (x4 = 1 ∧ hw (I 67) x1) ∨ (x4 = 0 ∧ ¬ hw (I 67) x1) := by
                  rcases i3 with q | q
                  · exact Or.inl q
                  · exact Or.inr ⟨q.1, fun ⟨s, k1, k2⟩ => q.2 s k1.1 (by omega) k2⟩
                have hb : (x5 = 1 ∧ hw (I 67) x2) ∨ (x5 = 0 ∧ ¬ hw (I 67) x2) := by
                  rcases i4 with q | q
                  · exact Or.inl q
                  · exact Or.inr ⟨q.1, fun ⟨s, k1, k2⟩ => q.2 s k1.1 (by omega) k2⟩
                refine H 0 ?_
                clear H ih i2 i3 i4 w5 hM0 hM
                unfold likE nvr
                generalize com (I 67) x1 x2 = A at *
                generalize hw (I 67) x1 = B at *
                generalize hw (I 67) x2 = C at *
                generalize ear (I 67) x1 x2 = D at *
                generalize ear (I 67) x2 x1 = E at *
                grind
              · refine b_M_sameEditions_189  (fun c23 => ?_) (fun c23 => absurd c23 (by decide))
                refine b_M_sameEditions_196  ?_
                refine b_M_sameEditions_197  (fun c24 => ?_) (fun c24 => absurd c24 (by decide))
                refine b_M_sameEditions_208  (fun c25 => ?_) (fun c25 => ?_)
                · refine b_M_sameEditions_216  ?_
                  refine b_M_sameEditions_217  ?_
                  have hcm : (x3 = 1 ∧ com (I 67) x1 x2) ∨ (x3 = 0 ∧ ¬ com (I 67) x1 x2) := by
                    rcases i2 with q | q
                    · exact Or.inl q
                    · exact Or.inr ⟨q.1, fun ⟨s, t, k1, k2, k3⟩ => q.2 s t k1.1 k2.1 k2.2 (by omega) k3⟩
                  have ha : (x4 = 1 ∧ hw (I 67) x1) ∨ (x4 = 0 ∧ ¬ hw (I 67) x1) := by
                    rcases i3 with q | q
                    · exact Or.inl q
                    · exact Or.inr ⟨q.1, fun ⟨s, k1, k2⟩ => q.2 s k1.1 (by omega) k2⟩
                  have hb : (x5 = 1 ∧ hw (I 67) x2) ∨ (x5 = 0 ∧ ¬ hw (I 67) x2) := by
                    rcases i4 with q | q
                    · exact Or.inl q
                    · exact Or.inr ⟨q.1, fun ⟨s, k1, k2⟩ => q.2 s k1.1 (by omega) k2⟩
                  refine H 1 ?_
                  clear H ih i2 i3 i4 w5 hM0 hM
                  unfold likE nvr
                  generalize com (I 67) x1 x2 = A at *
                  generalize hw (I 67) x1 = B at *
                  generalize hw (I 67) x2 = C at *
                  generalize ear (I 67) x1 x2 = D at *
                  generalize ear (I 67) x2 x1 = E at *
                  grind
                · refine b_M_sameEditions_212  ?_
                  refine b_M_sameEditions_217  ?_
                  have hcm : (x3 = 1 ∧ com (I 67) x1 x2) ∨ (x3 = 0 ∧ ¬ com (I 67) x1 x2) := by
                    rcases i2 with q | q
                    · exact Or.inl q
                    · exact Or.inr ⟨q.1, fun ⟨s, t, k1, k2, k3⟩ => q.2 s t k1.1 k2.1 k2.2 (by omega) k3⟩
                  have ha : (x4 = 1 ∧ hw (I 67) x1) ∨ (x4 = 0 ∧ ¬ hw (I 67) x1) := by
                    rcases i3 with q | q
                    · exact Or.inl q
                    · exact Or.inr ⟨q.1, fun ⟨s, k1, k2⟩ => q.2 s k1.1 (by omega) k2⟩
                  have hb : (x5 = 1 ∧ hw (I 67) x2) ∨ (x5 = 0 ∧ ¬ hw (I 67) x2) := by
                    rcases i4 with q | q
                    · exact Or.inl q
                    · exact Or.inr ⟨q.1, fun ⟨s, k1, k2⟩ => q.2 s k1.1 (by omega) k2⟩
                  refine H 2 ?_
                  clear H ih i2 i3 i4 w5 hM0 hM
                  unfold likE nvr
                  generalize com (I 67) x1 x2 = A at *
                  generalize hw (I 67) x1 = B at *
                  generalize hw (I 67) x2 = C at *
                  generalize ear (I 67) x1 x2 = D at *
                  generalize ear (I 67) x2 x1 = E at *
                  grind
          · refine b_M_sameEditions_170  (fun c26 => ?_) (fun c26 => ?_)
            · refine b_M_sameEditions_192  ?_
              refine b_M_sameEditions_197  (fun c27 => absurd c27 (by decide)) (fun c27 => ?_)
              refine b_M_sameEditions_204  ?_
              refine b_M_sameEditions_217  ?_
              have hcm : (x3 = 1 ∧ com (I 67) x1 x2) ∨ (x3 = 0 ∧ ¬ com (I 67) x1 x2) := by
                rcases i2 with q | q
                · exact Or.inl q
                · exact Or.inr ⟨q.1, fun ⟨s, t, k1, k2, k3⟩ => q.2 s t k1.1 k2.1 k2.2 (by omega) k3⟩
              have ha : (x4 = 1 ∧ hw (I 67) x1) ∨ (x4 = 0 ∧ ¬ hw (I 67) x1) := by
                rcases i3 with q | q
                · exact Or.inl q
                · exact Or.inr ⟨q.1, fun ⟨s, k1, k2⟩ => q.2 s k1.1 (by omega) k2⟩
              have hb : (x5 = 1 ∧ hw (I 67) x2) ∨ (x5 = 0 ∧ ¬ hw (I 67) x2) := by
                rcases i4 with q | q
                · exact Or.inl q
                · exact Or.inr ⟨q.1, fun ⟨s, k1, k2⟩ => q.2 s k1.1 (by omega) k2⟩
              refine H 0 ?_
              clear H ih i2 i3 i4 w5 hM0 hM
              unfold likE nvr
              generalize com (I 67) x1 x2 = A at *
              generalize hw (I 67) x1 = B at *
              generalize hw (I 67) x2 = C at *
              generalize ear (I 67) x1 x2 = D at *
              generalize ear (I 67) x2 x1 = E at *
              grind
            · refine b_M_sameEditions_174  (s_M_isAheadOfWriter hM (by omega) (fun t28 => ?_) (fun t28 => ?_))
              · refine b_M_sameEditions_180  (fun c29 => ?_) (fun c29 => absurd c29 (by decide))
                refine b_M_sameEditions_192  ?_
                refine b_M_sameEditions_197  (fun c30 => absurd c30 (by decide)) (fun c30 => ?_)
                refine b_M_sameEditions_204  ?_
                refine b_M_sameEditions_217  ?_
                have hcm : (x3 = 1 ∧ com (I 67) x1 x2) ∨ (x3 = 0 ∧ ¬ com (I 67) x1 x2) := by
                  rcases i2 with q | q
                  · exact Or.inl q
                  · exact Or.inr ⟨q.1, fun ⟨s, t, k1, k2, k3⟩ => q.2 s t k1.1 k2.1 k2.2 (by omega) k3⟩
                have ha : (x4 = 1 ∧ hw (I 67) x1) ∨ (x4 = 0 ∧ ¬ hw (I 67) x1) := by
                  rcases i3 with q | q
                  · exact Or.inl q
                  · exact Or.inr ⟨q.1, fun ⟨s, k1, k2⟩ => q.2 s k1.1 (by omega) k2⟩
                have hb : (x5 = 1 ∧ hw (I 67) x2) ∨ (x5 = 0 ∧ ¬ hw (I 67) x2) := by
                  rcases i4 with q | q
                  · exact Or.inl q
                  · exact Or.inr ⟨q.1, fun ⟨s, k1, k2⟩ => q.2 s k1.1 (by omega) k2⟩
                refine H 0 ?_
                clear H ih i2 i3 i4 w5 hM0 hM
                unfold likE nvr
                generalize com (I 67) x1 x2 = A at *
                generalize hw (I 67) x1 = B at *
                generalize hw (I 67) x2 = C at *
                generalize ear (I 67) x1 x2 = D at *
                generalize ear (I 67) x2 x1 = E at *
                grind
              · refine b_M_sameEditions_180  (fun c31 => absurd c31 (by decide)) (fun c31 => ?_)
                refine b_M_sameEditions_183  (s_M_isAheadOfWriter hM (by omega) (fun t32 => ?_) (fun t32 => ?_))
                · refine b_M_sameEditions_189  (fun c33 => absurd c33 (by decide)) (fun c33 => ?_)
                  refine b_M_sameEditions_192  ?_
                  refine b_M_sameEditions_197  (fun c34 => absurd c34 (by decide)) (fun c34 => ?_)
                  refine b_M_sameEditions_204  ?_
                  refine b_M_sameEditions_217  ?_
                  have hcm : (x3 = 1 ∧ com (I 67) x1 x2) ∨ (x3 = 0 ∧ ¬ com (I 67) x1 x2) := by
                    rcases i2 with q | q
                    · exact Or.inl q
                    · exact Or.inr ⟨q.1, fun ⟨s, t, k1, k2, k3⟩ => q.2 s t k1.1 k2.1 k2.2 (by omega) k3⟩
                  have ha : (x4 = 1 ∧ hw (I 67) x1) ∨ (x4 = 0 ∧ ¬ hw (I 67) x1) := by
                    rcases i3 with q | q
                    · exact Or.inl q
                    · exact Or.inr ⟨q.1, fun ⟨s, k1, k2⟩ => q.2 s k1.1 (by omega) k2⟩
                  have hb : (x5 = 1 ∧ hw (I 67) x2) ∨ (x5 = 0 ∧ ¬ hw (I 67) x2) := by
                    rcases i4 with q | q
                    · exact Or.inl q
                    · exact Or.inr ⟨q.1, fun ⟨s, k1, k2⟩ => q.2 s k1.1 (by omega) k2⟩
                  refine H 0 ?_
                  clear H ih i2 i3 i4 w5 hM0 hM
                  unfold likE nvr
                  generalize com (I 67) x1 x2 = A at *
                  generalize hw (I 67) x1 = B at *
                  generalize hw (I 67) x2 = C at *
                  generalize ear (I 67) x1 x2 = D at *
                  generalize ear (I 67) x2 x1 = E at *
                  grind
                · refine b_M_sameEditions_189  (fun c35 => ?_) (fun c35 => absurd c35 (by decide))
                  refine b_M_sameEditions_196  ?_
                  refine b_M_sameEditions_197  (fun c36 => ?_) (fun c36 => absurd c36 (by decide))
                  refine b_M_sameEditions_208  (fun c37 => ?_) (fun c37 => ?_)
                  · refine b_M_sameEditions_216  ?_
                    refine b_M_sameEditions_217  ?_
                    have hcm : (x3 = 1 ∧ com (I 67) x1 x2) ∨ (x3 = 0 ∧ ¬ com (I 67) x1 x2) := by
                      rcases i2 with q | q
                      · exact Or.inl q
                      · exact Or.inr ⟨q.1, fun ⟨s, t, k1, k2, k3⟩ => q.2 s t k1.1 k2.1 k2.2 (by omega) k3⟩
                    have ha : (x4 = 1 ∧ hw (I 67) x1) ∨ (x4 = 0 ∧ ¬ hw (I 67) x1) := by
                      rcases i3 with q | q
                      · exact Or.inl q
                      · exact Or.inr ⟨q.1, fun ⟨s, k1, k2⟩ => q.2 s k1.1 (by omega) k2⟩
                    have hb : (x5 = 1 ∧ hw (I 67) x2) ∨ (x5 = 0 ∧ ¬ hw (I 67) x2) := by
                      rcases i4 with q | q
                      · exact Or.inl q
                      · exact Or.inr ⟨q.1, fun ⟨s, k1, k2⟩ => q.2 s k1.1 (by omega) k2⟩
                    refine H 1 ?_
                    clear H ih i2 i3 i4 w5 hM0 hM
                    unfold likE nvr
                    generalize com (I 67) x1 x2 = A at *
                    generalize hw (I 67) x1 = B at *
                    generalize hw (I 67) x2 = C at *
                    generalize ear (I 67) x1 x2 = D at *
                    generalize ear (I 67) x2 x1 = E at *
                    grind
                  · refine b_M_sameEditions_212  ?_
                    refine b_M_sameEditions_217  ?_
                    have hcm : (x3 = 1 ∧ com (I 67) x1 x2) ∨ (x3 = 0 ∧ ¬ com (I 67) x1 x2) := by
                      rcases i2 with q | q
                      · exact Or.inl q
                      · exact Or.inr ⟨q.1, fun ⟨s, t, k1, k2, k3⟩ => q.2 s t k1.1 k2.1 k2.2 (by omega) k3⟩
                    have ha : (x4 = 1 ∧ hw (I 67) x1) ∨ (x4 = 0 ∧ ¬ hw (I 67) x1) := by
                      rcases i3 with q | q
                      · exact Or.inl q
                      · exact Or.inr ⟨q.1, fun ⟨s, k1, k2⟩ => q.2 s k1.1 (by omega) k2⟩
                    have hb : (x5 = 1 ∧ hw (I 67) x2) ∨ (x5 = 0 ∧ ¬ hw (I 67) x2) := by
                      rcases i4 with q | q
                      · exact Or.inl q
                      · exact Or.inr ⟨q.1, fun ⟨s, k1, k2⟩ => q.2 s k1.1 (by omega) k2⟩
                    refine H 2 ?_
                    clear H ih i2 i3 i4 w5 hM0 hM
                    unfold likE nvr
                    generalize com (I 67) x1 x2 = A at *
                    generalize hw (I 67) x1 = B at *
                    generalize hw (I 67) x2 = C at *
                    generalize ear (I 67) x1 x2 = D at *
                    generalize ear (I 67) x2 x1 = E at *
                    grind
    · refine b_M_sameEditions_22  (fun c38 => ?_) (fun c38 => ?_)
      · refine b_M_sameEditions_37  ?_
        refine b_M_sameEditions_42  (fun c39 => ?_) (fun c39 => ?_)
        · refine b_M_sameEditions_59  ?_
          refine b_M_sameEditions_64  ?_
          refine lq_M_sameEditions (d := d) (x4 := 1) (x5 := 1) hM (by omega) (fun z3 hz => ih z3 1 1 (x6 + 1) (by omega) (by omega) hz (Or.inl ⟨rfl, by rcases i3 with q | q; (· exact q.2); omega⟩) (Or.inl ⟨rfl, by rcases i4 with q | q; (· exact q.2); omega⟩) (by omega)) ((I 67 4).toNat + 1) x3 0 (by omega) (by omega) ?_ (by omega)
          rcases i2 with q | q
          · exact Or.inl q
          · exact Or.inr ⟨q.1, fun s t b1 b2 b3 b4 => q.2 s t b1 b2 b3 (by omega)⟩
        · refine b_M_sameEditions_49  (s_M_isWriter (by omega) (fun t40 => ?_) (fun t40 => ?_))
          · refine b_M_sameEditions_56  (fun c41 => absurd c41 (by decide)) (fun c41 => ?_)
            refine b_M_sameEditions_59  ?_
            refine b_M_sameEditions_64  ?_
            refine lq_M_sameEditions (d := d) (x4 := 1) (x5 := 1) hM (by omega) (fun z3 hz => ih z3 1 1 (x6 + 1) (by omega) (by omega) hz (Or.inl ⟨rfl, by rcases i3 with q | q; (· exact q.2); omega⟩) (Or.inl ⟨rfl, x6, by omega, t40⟩) (by omega)) ((I 67 4).toNat + 1) x3 0 (by omega) (by omega) ?_ (by omega)
            rcases i2 with q | q
            · exact Or.inl q
            · exact Or.inr ⟨q.1, fun s t b1 b2 b3 b4 => q.2 s t b1 b2 b3 (by omega)⟩
          · refine b_M_sameEditions_56  (fun c42 => ?_) (fun c42 => absurd c42 (by decide))
            refine b_M_sameEditions_63  ?_
            refine b_M_sameEditions_64  ?_
            refine lq_M_sameEditions (d := d) (x4 := 1) (x5 := 0) hM (by omega) (fun z3 hz => ih z3 1 0 (x6 + 1) (by omega) (by omega) hz (Or.inl ⟨rfl, by rcases i3 with q | q; (· exact q.2); omega⟩) (Or.inr ⟨rfl, by rcases i4 with q | q; (· omega); intro s b1 b2 b3; by_cases es : s = x6; (· subst es; exact t40 b3); exact q.2 s b1 (by omega) b3⟩) (by omega)) ((I 67 4).toNat + 1) x3 0 (by omega) (by omega) ?_ (by omega)
            rcases i2 with q | q
            · exact Or.inl q
            · exact Or.inr ⟨q.1, fun s t b1 b2 b3 b4 => q.2 s t b1 b2 b3 (by omega)⟩
      · refine b_M_sameEditions_27  (s_M_isWriter (by omega) (fun t43 => ?_) (fun t43 => ?_))
        · refine b_M_sameEditions_34  (fun c44 => absurd c44 (by decide)) (fun c44 => ?_)
          refine b_M_sameEditions_37  ?_
          refine b_M_sameEditions_42  (fun c45 => ?_) (fun c45 => ?_)
          · refine b_M_sameEditions_59  ?_
            refine b_M_sameEditions_64  ?_
            refine lq_M_sameEditions (d := d) (x4 := 1) (x5 := 1) hM (by omega) (fun z3 hz => ih z3 1 1 (x6 + 1) (by omega) (by omega) hz (Or.inl ⟨rfl, x6, by omega, t43⟩) (Or.inl ⟨rfl, by rcases i4 with q | q; (· exact q.2); omega⟩) (by omega)) ((I 67 4).toNat + 1) x3 0 (by omega) (by omega) ?_ (by omega)
            rcases i2 with q | q
            · exact Or.inl q
            · exact Or.inr ⟨q.1, fun s t b1 b2 b3 b4 => q.2 s t b1 b2 b3 (by omega)⟩
          · refine b_M_sameEditions_49  (s_M_isWriter (by omega) (fun t46 => ?_) (fun t46 => ?_))
            · refine b_M_sameEditions_56  (fun c47 => absurd c47 (by decide)) (fun c47 => ?_)
              refine b_M_sameEditions_59  ?_
              refine b_M_sameEditions_64  ?_
              refine lq_M_sameEditions (d := d) (x4 := 1) (x5 := 1) hM (by omega) (fun z3 hz => ih z3 1 1 (x6 + 1) (by omega) (by omega) hz (Or.inl ⟨rfl, x6, by omega, t43⟩) (Or.inl ⟨rfl, x6, by omega, t46⟩) (by omega)) ((I 67 4).toNat + 1) x3 0 (by omega) (by omega) ?_ (by omega)
              rcases i2 with q | q
              · exact Or.inl q
              · exact Or.inr ⟨q.1, fun s t b1 b2 b3 b4 => q.2 s t b1 b2 b3 (by omega)⟩
            · refine b_M_sameEditions_56  (fun c48 => ?_) (fun c48 => absurd c48 (by decide))
              refine b_M_sameEditions_63  ?_
              refine b_M_sameEditions_64  ?_
              refine lq_M_sameEditions (d := d) (x4 := 1) (x5 := 0) hM (by omega) (fun z3 hz => ih z3 1 0 (x6 + 1) (by omega) (by omega) hz (Or.inl ⟨rfl, x6, by omega, t43⟩) (Or.inr ⟨rfl, by rcases i4 with q | q; (· omega); intro s b1 b2 b3; by_cases es : s = x6; (· subst es; exact t46 b3); exact q.2 s b1 (by omega) b3⟩) (by omega)) ((I 67 4).toNat + 1) x3 0 (by omega) (by omega) ?_ (by omega)
              rcases i2 with q | q
              · exact Or.inl q
              · exact Or.inr ⟨q.1, fun s t b1 b2 b3 b4 => q.2 s t b1 b2 b3 (by omega)⟩
        · refine b_M_sameEditions_34  (fun c49 => ?_) (fun c49 => absurd c49 (by decide))
          refine b_M_sameEditions_41  ?_
          refine b_M_sameEditions_42  (fun c50 => ?_) (fun c50 => ?_)
          · refine b_M_sameEditions_59  ?_
            refine b_M_sameEditions_64  ?_
            refine lq_M_sameEditions (d := d) (x4 := 0) (x5 := 1) hM (by omega) (fun z3 hz => ih z3 0 1 (x6 + 1) (by omega) (by omega) hz (Or.inr ⟨rfl, by rcases i3 with q | q; (· omega); intro s b1 b2 b3; by_cases es : s = x6; (· subst es; exact t43 b3); exact q.2 s b1 (by omega) b3⟩) (Or.inl ⟨rfl, by rcases i4 with q | q; (· exact q.2); omega⟩) (by omega)) ((I 67 4).toNat + 1) x3 0 (by omega) (by omega) ?_ (by omega)
            rcases i2 with q | q
            · exact Or.inl q
            · exact Or.inr ⟨q.1, fun s t b1 b2 b3 b4 => q.2 s t b1 b2 b3 (by omega)⟩
          · refine b_M_sameEditions_49  (s_M_isWriter (by omega) (fun t51 => ?_) (fun t51 => ?_))
            · refine b_M_sameEditions_56  (fun c52 => absurd c52 (by decide)) (fun c52 => ?_)
              refine b_M_sameEditions_59  ?_
              refine b_M_sameEditions_64  ?_
              refine lq_M_sameEditions (d := d) (x4 := 0) (x5 := 1) hM (by omega) (fun z3 hz => ih z3 0 1 (x6 + 1) (by omega) (by omega) hz (Or.inr ⟨rfl, by rcases i3 with q | q; (· omega); intro s b1 b2 b3; by_cases es : s = x6; (· subst es; exact t43 b3); exact q.2 s b1 (by omega) b3⟩) (Or.inl ⟨rfl, x6, by omega, t51⟩) (by omega)) ((I 67 4).toNat + 1) x3 0 (by omega) (by omega) ?_ (by omega)
              rcases i2 with q | q
              · exact Or.inl q
              · exact Or.inr ⟨q.1, fun s t b1 b2 b3 b4 => q.2 s t b1 b2 b3 (by omega)⟩
            · refine b_M_sameEditions_56  (fun c53 => ?_) (fun c53 => absurd c53 (by decide))
              refine b_M_sameEditions_63  ?_
              refine b_M_sameEditions_64  ?_
              refine lq_M_sameEditions (d := d) (x4 := 0) (x5 := 0) hM (by omega) (fun z3 hz => ih z3 0 0 (x6 + 1) (by omega) (by omega) hz (Or.inr ⟨rfl, by rcases i3 with q | q; (· omega); intro s b1 b2 b3; by_cases es : s = x6; (· subst es; exact t43 b3); exact q.2 s b1 (by omega) b3⟩) (Or.inr ⟨rfl, by rcases i4 with q | q; (· omega); intro s b1 b2 b3; by_cases es : s = x6; (· subst es; exact t51 b3); exact q.2 s b1 (by omega) b3⟩) (by omega)) ((I 67 4).toNat + 1) x3 0 (by omega) (by omega) ?_ (by omega)
              rcases i2 with q | q
              · exact Or.inl q
              · exact Or.inr ⟨q.1, fun s t b1 b2 b3 b4 => q.2 s t b1 b2 b3 (by omega)⟩
theorem s_M_sameEditions {ro : Nat → Int × (Int → Int)} {d : Nat} {b : Bool} {I L : Nat → Int → Int} {Q : Option am_V → am_H → Prop} {x1 x2 : Int} (hM : Mo I L) (hx : (0 ≤ x1 ∧ x1 < I 67 2) ∧ 0 ≤ x2 ∧ x2 < I 67 2) (H : ∀ v, likE (I 67) x1 x2 v → Q (some (am_I v)) (sh b, I, L)) : am_m ro (d + 3) 187 [am_R 66, am_I x1, am_I x2] (sh b, I, L) Q := by
  have ct := Mo_ct hM
  refine am_in rfl rfl rfl rfl ?_
  refine b_M_sameEditions_0  ?_
  exact lp_M_sameEditions (d := d) hM hx H ((I 67 4).toNat + 1) _ _ _ _ (by omega) (by omega) (Or.inr ⟨rfl, fun s t b1 b2 b3 b4 => by omega⟩) (Or.inr ⟨rfl, fun s b1 b2 => by omega⟩) (Or.inr ⟨rfl, fun s b1 b2 => by omega⟩) (by omega)
