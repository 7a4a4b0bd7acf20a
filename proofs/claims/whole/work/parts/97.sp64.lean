def wch (i : Int) : Int := ([119, 104, 111, 32, 112, 97, 114, 116, 32, 97, 98, 114, 111, 97, 100, 32, 109, 111, 115, 116, 32, 108, 101, 97, 115, 116, 32, 108, 97, 116, 101, 32, 114, 111, 108, 101, 32, 107, 105, 110, 100, 32, 108, 97, 110, 100, 32, 121, 101, 97, 114, 32, 100, 101, 97, 100, 32, 99, 108, 97, 105, 109, 32, 112, 97, 114, 116, 115, 32, 112, 114, 105, 110, 116, 101, 100, 32, 116, 105, 116, 108, 101, 32, 108, 111, 97, 110, 115, 32, 105, 102, 32, 111, 114, 32, 97, 110, 100, 32, 110, 111, 116] : List Int).getD i.toNat 0
def wst (k : Int) : Int := ([0, 4, 9, 16, 21, 27, 32, 37, 42, 47, 52, 57, 63, 69, 77, 83, 89, 92, 95, 99] : List Int).getD k.toNat 0
def wln (k : Int) : Int := ([3, 4, 6, 4, 5, 4, 4, 4, 4, 4, 4, 5, 5, 7, 5, 5, 2, 2, 3, 3] : List Int).getD k.toNat 0
def RoW (ro : Nat → Int × (Int → Int)) : Prop := (ro 3).1 = 102 ∧ (∀ i, 0 ≤ i → i < 102 → (ro 3).2 i = wch i) ∧ (ro 4).1 = 10 ∧ (ro 4).2 0 = 40 ∧ (ro 4).2 1 = 41 ∧ (ro 4).2 2 = 43 ∧ (ro 4).2 3 = 45 ∧ (ro 4).2 4 = 42 ∧ (ro 4).2 5 = 47 ∧ (ro 4).2 6 = 37 ∧ (ro 4).2 7 = 61 ∧ (ro 4).2 8 = 60 ∧ (ro 4).2 9 = 62
def isL (c : Int) : Prop := 97 ≤ c ∧ c ≤ 122
def isD (c : Int) : Prop := 48 ≤ c ∧ c ≤ 57
def sgn (c : Int) : Prop := c = 40 ∨ c = 41 ∨ c = 43 ∨ c = 45 ∨ c = 42 ∨ c = 47 ∨ c = 37 ∨ c = 61 ∨ c = 60 ∨ c = 62
def Mt (T : Int → Int) (p e k : Int) : Prop := e - p = wln k ∧ ∀ j, 0 ≤ j → j < wln k → T (p + j) = wch (wst k + j)
def num (T : Int → Int) (p : Int) : Nat → Int
  | 0 => 0
  | m + 1 => num T p m * 10 + T (p + m) - 48
def TkL (T : Int → Int) (n p e t : Int) : Prop := isL (T p) ∧ (∀ j, p ≤ j → j < e → isL (T j)) ∧ (e < n → ¬ isL (T e)) ∧ ((∃ k, 0 ≤ k ∧ k < 20 ∧ Mt T p e k ∧ (∀ k', 0 ≤ k' → k' < k → ¬ Mt T p e k') ∧ t = 1000 + k) ∨ ((∀ k, 0 ≤ k → k < 20 → ¬ Mt T p e k) ∧ t = 1))
def TkD (T : Int → Int) (n p e t v : Int) : Prop := isD (T p) ∧ (∀ j, p ≤ j → j < e → isD (T j)) ∧ (e < n → ¬ isD (T e)) ∧ ((e - p ≤ 7 ∧ t = 2 ∧ v = num T p (e - p).toNat) ∨ (7 < e - p ∧ t = 1))
def TkS (T : Int → Int) (p e t : Int) : Prop := ¬ isL (T p) ∧ ¬ isD (T p) ∧ e = p + 1 ∧ ((sgn (T p) ∧ t = T p) ∨ (¬ sgn (T p) ∧ t = 1))
def Tok (T : Int → Int) (n s p e t v : Int) : Prop := s ≤ p ∧ p ≤ n ∧ (∀ j, s ≤ j → j < p → T j = 32) ∧ (p < n → T p ≠ 32) ∧ ((p = n ∧ e = n ∧ t = 0) ∨ (p < n ∧ p < e ∧ e ≤ n ∧ (TkL T n p e t ∨ TkD T n p e t v ∨ TkS T p e t)))
theorem w_tab : ∀ k : Fin 20, (0 ≤ wst k.val ∧ wst k.val + wln k.val ≤ 102 ∧ 2 ≤ wln k.val ∧ wln k.val ≤ 7) ∧ (∀ j : Fin 7, (j.val : Int) < wln k.val → wch (wst k.val + j.val) ≠ 32) ∧ (k.val < 19 → wch (wst k.val + wln k.val) = 32 ∧ wst ((k.val : Int) + 1) = wst k.val + wln k.val + 1) ∧ (k.val = 19 → wst k.val + wln k.val = 102) := by decide +kernel
theorem w_f {k : Int} (h : 0 ≤ k) (h2 : k < 20) : (0 ≤ wst k ∧ wst k + wln k ≤ 102 ∧ 2 ≤ wln k ∧ wln k ≤ 7) ∧ (∀ j, 0 ≤ j → j < wln k → wch (wst k + j) ≠ 32) ∧ (k < 19 → wch (wst k + wln k) = 32 ∧ wst (k + 1) = wst k + wln k + 1) ∧ (k = 19 → wst k + wln k = 102) := by
  obtain ⟨m, rfl⟩ := Int.eq_ofNat_of_zero_le h
  have w := w_tab ⟨m, by omega⟩
  refine ⟨w.1, fun j j1 j2 => ?_, fun a => w.2.2.1 (by simp only; omega), fun a => w.2.2.2 (by simp only; omega)⟩
  obtain ⟨i, rfl⟩ := Int.eq_ofNat_of_zero_le j1
  have w3 := w.1.2.2.2
  exact w.2.1 ⟨i, by simp only at w3; omega⟩ j2
theorem ix_sg {ro : Nat → Int × (Int → Int)} (hw : RoW ro) {c : Int} : (am_ix (ro 4).2 c (ro 4).1.toNat 0 < 0 ↔ ¬ sgn c) := by
  obtain ⟨-, -, h0, h1, h2, h3, h4, h5, h6, h7, h8, h9, h10⟩ := hw
  rw [h0]
  have e : (10 : Int).toNat = 10 := rfl
  rw [e]
  unfold sgn
  simp only [am_ix, Int.reduceAdd, Int.zero_add, h1, h2, h3, h4, h5, h6, h7, h8, h9, h10]
  repeat' split
  all_goals omega
theorem s_Rdr_isLetter {ro : Nat → Int × (Int → Int)} {d : Nat} {b : Bool} {I L : Nat → Int → Int} {Q : Option am_V → am_H → Prop} {x0 : Int}  (H1 : isL x0 → Q (some (am_I 1)) (sh b, I, L)) (H0 : ¬ (isL x0) → Q (some (am_I 0)) (sh b, I, L)) : am_m ro (d + 2) 119 [am_I x0] (sh b, I, L) Q := by
  refine am_in rfl rfl rfl rfl ?_
  refine b_Rdr_isLetter_0  (s_P_within (fun c1 => ?_) (fun c1 => ?_))
  · refine b_Rdr_isLetter_8 (by omega) ?_
    exact H1 (by unfold isL; omega)
  · refine b_Rdr_isLetter_8 (by omega) ?_
    exact H0 (by unfold isL; omega)
theorem s_Rdr_isDigit {ro : Nat → Int × (Int → Int)} {d : Nat} {b : Bool} {I L : Nat → Int → Int} {Q : Option am_V → am_H → Prop} {x0 : Int}  (H1 : isD x0 → Q (some (am_I 1)) (sh b, I, L)) (H0 : ¬ (isD x0) → Q (some (am_I 0)) (sh b, I, L)) : am_m ro (d + 2) 120 [am_I x0] (sh b, I, L) Q := by
  refine am_in rfl rfl rfl rfl ?_
  refine b_Rdr_isDigit_0  (s_P_within (fun c1 => ?_) (fun c1 => ?_))
  · refine b_Rdr_isDigit_8 (by omega) ?_
    exact H1 (by unfold isD; omega)
  · refine b_Rdr_isDigit_8 (by omega) ?_
    exact H0 (by unfold isD; omega)
theorem isLD {c : Int} (h : isD c) : ¬ isL c := by
  unfold isD at h
  unfold isL
  omega
theorem lp_Rdr_tokenEnd {ro : Nat → Int × (Int → Int)} {d : Nat} {b : Bool} {I L : Nat → Int → Int} {Q : Option am_V → am_H → Prop} {bc bs : Nat} {x3 x4 x1 : Int} (hn : 0 ≤ I 45 1 ∧ I 45 1 ≤ 120) (hx : x1 < I 45 1 ∧ 0 ≤ x1 ∧ x1 ≤ I 45 1) (H : ∀ e, x1 < e → e ≤ I 45 1 → (isL (I 46 x1) → (∀ j, x1 ≤ j → j < e → isL (I 46 j)) ∧ (e < I 45 1 → ¬ isL (I 46 e))) → (isD (I 46 x1) → (∀ j, x1 ≤ j → j < e → isD (I 46 j)) ∧ (e < I 45 1 → ¬ isD (I 46 e))) → (¬ isL (I 46 x1) → ¬ isD (I 46 x1) → e = x1 + 1) → Q (some (am_I e)) (sh b, I, L)) (hk : (isL (I 46 x1) ∧ x3 = 1 ∧ x4 = 0) ∨ (¬ isL (I 46 x1) ∧ isD (I 46 x1) ∧ x3 = 0 ∧ x4 = 1) ∨ (¬ isL (I 46 x1) ∧ ¬ isD (I 46 x1) ∧ x3 = 0 ∧ x4 = 0)) : ∀ (n : Nat) (x2 : Int), (x1 < x2) → (x2 ≤ I 45 1) → (x3 = 1 → ∀ j, x1 ≤ j → j < x2 → isL (I 46 j)) → (x4 = 1 → ∀ j, x1 ≤ j → j < x2 → isD (I 46 j)) → (x3 = 0 → x4 = 0 → x2 = x1 + 1) → I 45 1 - x2 < (n : Int) → am_ex (am_m ro (d + 2)) ro am_M114 Q (38, [some (am_R 45), none, some (am_I x2), some (am_I x3), some (am_I x4)], [], (sh b, I, L), bc, bs) := by
  intro n
  induction n with
  | zero =>
    intro x2 i0 i1 i2 i3 i4 im
    exact absurd im (by omega)
  | succ n ih =>
    intro x2 i0 i1 i2 i3 i4 im
    refine b_Rdr_tokenEnd_38  (fun c1 => ?_) (fun c1 => ?_)
    · refine b_Rdr_tokenEnd_85  ?_
      rcases hk with ⟨a1, a2, a3⟩ | ⟨a1, a2, a3, a4⟩ | ⟨a1, a2, a3, a4⟩
      · first | (exfalso; omega) | exact H x2 i0 i1 (fun c => ⟨i2 a2, fun z => (by first | omega | assumption)⟩) (fun c => absurd a1 (isLD c)) (fun c => absurd a1 c)
      · first | (exfalso; omega) | exact H x2 i0 i1 (fun c => absurd c a1) (fun c => ⟨i3 a4, fun z => (by first | omega | assumption)⟩) (fun c c2 => absurd a2 c2)
      · first | (exfalso; omega) | exact H x2 i0 i1 (fun c => absurd c a1) (fun c => absurd c a2) (fun _ _ => i4 a3 a4)
    · refine b_Rdr_tokenEnd_46  (fun c2 => ?_) (fun c2 => ?_)
      · refine b_Rdr_tokenEnd_62  (fun c3 => ?_) (fun c3 => ?_)
        · refine b_Rdr_tokenEnd_85  ?_
          rcases hk with ⟨a1, a2, a3⟩ | ⟨a1, a2, a3, a4⟩ | ⟨a1, a2, a3, a4⟩
          · first | (exfalso; omega) | exact H x2 i0 i1 (fun c => ⟨i2 a2, fun z => (by first | omega | assumption)⟩) (fun c => absurd a1 (isLD c)) (fun c => absurd a1 c)
          · first | (exfalso; omega) | exact H x2 i0 i1 (fun c => absurd c a1) (fun c => ⟨i3 a4, fun z => (by first | omega | assumption)⟩) (fun c c2 => absurd a2 c2)
          · first | (exfalso; omega) | exact H x2 i0 i1 (fun c => absurd c a1) (fun c => absurd c a2) (fun _ _ => i4 a3 a4)
        · refine b_Rdr_tokenEnd_67 (by omega) (s_Rdr_isDigit (fun c4 => ?_) (fun c4 => ?_))
          · refine b_Rdr_tokenEnd_76  (fun c5 => absurd c5 (by decide)) (fun c5 => ?_)
            refine b_Rdr_tokenEnd_79 (by omega) ?_
            rcases hk with ⟨a1, a2, a3⟩ | ⟨a1, a2, a3, a4⟩ | ⟨a1, a2, a3, a4⟩
            all_goals first | (exfalso; omega) | exact ih (x2 + 1) (by omega) (by omega) (fun a j j1 j2 => by by_cases e : j = x2; (· subst e; first | assumption | (exfalso; omega)); (· exact i2 a j j1 (by omega))) (fun a j j1 j2 => by by_cases e : j = x2; (· subst e; first | assumption | (exfalso; omega)); (· exact i3 a j j1 (by omega))) (by omega) (by omega)
          · refine b_Rdr_tokenEnd_76  (fun c6 => ?_) (fun c6 => absurd c6 (by decide))
            refine b_Rdr_tokenEnd_85  ?_
            rcases hk with ⟨a1, a2, a3⟩ | ⟨a1, a2, a3, a4⟩ | ⟨a1, a2, a3, a4⟩
            · first | (exfalso; omega) | exact H x2 i0 i1 (fun c => ⟨i2 a2, fun z => (by first | omega | assumption)⟩) (fun c => absurd a1 (isLD c)) (fun c => absurd a1 c)
            · first | (exfalso; omega) | exact H x2 i0 i1 (fun c => absurd c a1) (fun c => ⟨i3 a4, fun z => (by first | omega | assumption)⟩) (fun c c2 => absurd a2 c2)
            · first | (exfalso; omega) | exact H x2 i0 i1 (fun c => absurd c a1) (fun c => absurd c a2) (fun _ _ => i4 a3 a4)
      · refine b_Rdr_tokenEnd_50 (by omega) (s_Rdr_isLetter (fun c7 => ?_) (fun c7 => ?_))
        · refine b_Rdr_tokenEnd_59  (fun c8 => ?_) (fun c8 => absurd c8 (by decide))
          refine b_Rdr_tokenEnd_79 (by omega) ?_
          rcases hk with ⟨a1, a2, a3⟩ | ⟨a1, a2, a3, a4⟩ | ⟨a1, a2, a3, a4⟩
          all_goals first | (exfalso; omega) | exact ih (x2 + 1) (by omega) (by omega) (fun a j j1 j2 => by by_cases e : j = x2; (· subst e; first | assumption | (exfalso; omega)); (· exact i2 a j j1 (by omega))) (fun a j j1 j2 => by by_cases e : j = x2; (· subst e; first | assumption | (exfalso; omega)); (· exact i3 a j j1 (by omega))) (by omega) (by omega)
        · refine b_Rdr_tokenEnd_59  (fun c9 => absurd c9 (by decide)) (fun c9 => ?_)
          refine b_Rdr_tokenEnd_62  (fun c10 => ?_) (fun c10 => ?_)
          · refine b_Rdr_tokenEnd_85  ?_
            rcases hk with ⟨a1, a2, a3⟩ | ⟨a1, a2, a3, a4⟩ | ⟨a1, a2, a3, a4⟩
            · first | (exfalso; omega) | exact H x2 i0 i1 (fun c => ⟨i2 a2, fun z => (by first | omega | assumption)⟩) (fun c => absurd a1 (isLD c)) (fun c => absurd a1 c)
            · first | (exfalso; omega) | exact H x2 i0 i1 (fun c => absurd c a1) (fun c => ⟨i3 a4, fun z => (by first | omega | assumption)⟩) (fun c c2 => absurd a2 c2)
            · first | (exfalso; omega) | exact H x2 i0 i1 (fun c => absurd c a1) (fun c => absurd c a2) (fun _ _ => i4 a3 a4)
          · refine b_Rdr_tokenEnd_67 (by omega) (s_Rdr_isDigit (fun c11 => ?_) (fun c11 => ?_))
            · refine b_Rdr_tokenEnd_76  (fun c12 => absurd c12 (by decide)) (fun c12 => ?_)
              refine b_Rdr_tokenEnd_79 (by omega) ?_
              rcases hk with ⟨a1, a2, a3⟩ | ⟨a1, a2, a3, a4⟩ | ⟨a1, a2, a3, a4⟩
              all_goals first | (exfalso; omega) | exact ih (x2 + 1) (by omega) (by omega) (fun a j j1 j2 => by by_cases e : j = x2; (· subst e; first | assumption | (exfalso; omega)); (· exact i2 a j j1 (by omega))) (fun a j j1 j2 => by by_cases e : j = x2; (· subst e; first | assumption | (exfalso; omega)); (· exact i3 a j j1 (by omega))) (by omega) (by omega)
            · refine b_Rdr_tokenEnd_76  (fun c13 => ?_) (fun c13 => absurd c13 (by decide))
              refine b_Rdr_tokenEnd_85  ?_
              rcases hk with ⟨a1, a2, a3⟩ | ⟨a1, a2, a3, a4⟩ | ⟨a1, a2, a3, a4⟩
              · first | (exfalso; omega) | exact H x2 i0 i1 (fun c => ⟨i2 a2, fun z => (by first | omega | assumption)⟩) (fun c => absurd a1 (isLD c)) (fun c => absurd a1 c)
              · first | (exfalso; omega) | exact H x2 i0 i1 (fun c => absurd c a1) (fun c => ⟨i3 a4, fun z => (by first | omega | assumption)⟩) (fun c c2 => absurd a2 c2)
              · first | (exfalso; omega) | exact H x2 i0 i1 (fun c => absurd c a1) (fun c => absurd c a2) (fun _ _ => i4 a3 a4)
theorem s_Rdr_tokenEnd {ro : Nat → Int × (Int → Int)} {d : Nat} {b : Bool} {I L : Nat → Int → Int} {Q : Option am_V → am_H → Prop} {x1 : Int} (hn : 0 ≤ I 45 1 ∧ I 45 1 ≤ 120) (hx : 0 ≤ x1 ∧ x1 ≤ I 45 1) (H0 : x1 = I 45 1 → Q (some (am_I (I 45 1))) (sh b, I, L)) (H : x1 < I 45 1 → ∀ e, x1 < e → e ≤ I 45 1 → (isL (I 46 x1) → (∀ j, x1 ≤ j → j < e → isL (I 46 j)) ∧ (e < I 45 1 → ¬ isL (I 46 e))) → (isD (I 46 x1) → (∀ j, x1 ≤ j → j < e → isD (I 46 j)) ∧ (e < I 45 1 → ¬ isD (I 46 e))) → (¬ isL (I 46 x1) → ¬ isD (I 46 x1) → e = x1 + 1) → Q (some (am_I e)) (sh b, I, L)) : am_m ro (d + 3) 114 [am_R 45, am_I x1] (sh b, I, L) Q := by
  refine am_in rfl rfl rfl rfl ?_
  refine b_Rdr_tokenEnd_0  (fun c1 => ?_) (fun c1 => ?_)
  · refine b_Rdr_tokenEnd_13 (by omega) (by omega) (s_Rdr_isLetter (fun c2 => ?_) (fun c2 => ?_))
    · refine b_Rdr_tokenEnd_26 (by omega) (s_Rdr_isDigit (fun c3 => ?_) (fun c3 => ?_))
      · refine b_Rdr_tokenEnd_36  ?_
        exact absurd (by assumption) (isLD (by assumption))
      · refine b_Rdr_tokenEnd_36  ?_
        exact lp_Rdr_tokenEnd (d := d) (by omega) (by omega) (H (by omega)) (by exact Or.inl ⟨by assumption, rfl, rfl⟩) 121 _ (by omega) (by omega) (fun a j j1 j2 => by have e : j = x1 := (by omega); rw [e]; first | assumption | exact absurd a (by decide)) (fun a j j1 j2 => by have e : j = x1 := (by omega); rw [e]; first | assumption | exact absurd a (by decide)) (by omega) (by omega)
    · refine b_Rdr_tokenEnd_26 (by omega) (s_Rdr_isDigit (fun c4 => ?_) (fun c4 => ?_))
      · refine b_Rdr_tokenEnd_36  ?_
        exact lp_Rdr_tokenEnd (d := d) (by omega) (by omega) (H (by omega)) (by exact Or.inr (Or.inl ⟨by assumption, by assumption, rfl, rfl⟩)) 121 _ (by omega) (by omega) (fun a j j1 j2 => by have e : j = x1 := (by omega); rw [e]; first | assumption | exact absurd a (by decide)) (fun a j j1 j2 => by have e : j = x1 := (by omega); rw [e]; first | assumption | exact absurd a (by decide)) (by omega) (by omega)
      · refine b_Rdr_tokenEnd_36  ?_
        exact lp_Rdr_tokenEnd (d := d) (by omega) (by omega) (H (by omega)) (by exact Or.inr (Or.inr ⟨by assumption, by assumption, rfl, rfl⟩)) 121 _ (by omega) (by omega) (fun a j j1 j2 => by have e : j = x1 := (by omega); rw [e]; first | assumption | exact absurd a (by decide)) (fun a j j1 j2 => by have e : j = x1 := (by omega); rw [e]; first | assumption | exact absurd a (by decide)) (by omega) (by omega)
  · refine b_Rdr_tokenEnd_8  ?_
    exact H0 (by omega)
theorem lp_Rdr_isSpelt {ro : Nat → Int × (Int → Int)} {d : Nat} {b : Bool} {I L : Nat → Int → Int} {Q : Option am_V → am_H → Prop} {bc bs : Nat} {x1 x2 x3 : Int} (hx : 0 ≤ x1 ∧ x1 + x3 ≤ (ro 3).1 ∧ (ro 3).1 ≤ 200 ∧ 0 ≤ x2 ∧ 0 ≤ x3 ∧ x2 + x3 ≤ 120) (H1 : (∀ j, 0 ≤ j → j < x3 → (ro 3).2 (x1 + j) = I 46 (x2 + j)) → Q (some (am_I 1)) (sh b, I, L)) (H0 : ¬ (∀ j, 0 ≤ j → j < x3 → (ro 3).2 (x1 + j) = I 46 (x2 + j)) → Q (some (am_I 0)) (sh b, I, L)) : ∀ (n : Nat) (x4 : Int), (0 ≤ x4) → (x4 ≤ x3) → (∀ j, 0 ≤ j → j < x4 → (ro 3).2 (x1 + j) = I 46 (x2 + j)) → x3 - x4 < (n : Int) → am_ex (am_m ro (d + 0)) ro am_M118 Q (3, [some (am_R 45), some (am_I x1), some (am_I x2), some (am_I x3), some (am_I x4)], [], (sh b, I, L), bc, bs) := by
  intro n
  induction n with
  | zero =>
    intro x4 i0 i1 i2 im
    exact absurd im (by omega)
  | succ n ih =>
    intro x4 i0 i1 i2 im
    refine b_Rdr_isSpelt_3  (fun c1 => ?_) (fun c1 => ?_)
    · refine b_Rdr_isSpelt_38  ?_
      exact H1 (fun j j1 j2 => i2 j j1 (by omega))
    · refine b_Rdr_isSpelt_9 (by omega) (by omega) (by omega) (by omega) (fun c2 => ?_) (fun c2 => ?_)
      · refine b_Rdr_isSpelt_32 (by omega) ?_
        exact ih (x4 + 1) (by omega) (by omega) (fun j j1 j2 => by by_cases e : j = x4; (· subst e; assumption); (· exact i2 j j1 (by omega))) (by omega)
      · refine b_Rdr_isSpelt_30  ?_
        exact H0 (fun w => c2 (w x4 (by omega) (by omega)))
theorem s_Rdr_isSpelt {ro : Nat → Int × (Int → Int)} {d : Nat} {b : Bool} {I L : Nat → Int → Int} {Q : Option am_V → am_H → Prop} {x1 x2 x3 : Int} (hx : 0 ≤ x1 ∧ x1 + x3 ≤ (ro 3).1 ∧ (ro 3).1 ≤ 200 ∧ 0 ≤ x2 ∧ 0 ≤ x3 ∧ x2 + x3 ≤ 120) (H1 : (∀ j, 0 ≤ j → j < x3 → (ro 3).2 (x1 + j) = I 46 (x2 + j)) → Q (some (am_I 1)) (sh b, I, L)) (H0 : ¬ (∀ j, 0 ≤ j → j < x3 → (ro 3).2 (x1 + j) = I 46 (x2 + j)) → Q (some (am_I 0)) (sh b, I, L)) : am_m ro (d + 1) 118 [am_R 45, am_I x1, am_I x2, am_I x3] (sh b, I, L) Q := by
  refine am_in rfl rfl rfl rfl ?_
  refine b_Rdr_isSpelt_0  ?_
  exact lp_Rdr_isSpelt (d := d) hx H1 H0 121 0 (by omega) (by omega) (fun j j1 j2 => by omega) (by omega)
theorem Mt_of {ro : Nat → Int × (Int → Int)} (hw : RoW ro) {T : Int → Int} {p e k : Int} (h1 : 0 ≤ k) (h2 : k < 20) (hl : e - p = wln k) : Mt T p e k ↔ ∀ j, 0 ≤ j → j < e - p → (ro 3).2 (wst k + j) = T (p + j) := by
  have f := (w_f h1 h2).1
  constructor
  · intro m j j1 j2
    rw [hw.2.1 _ (by omega) (by omega)]
    exact (m.2 j j1 (by omega)).symm
  · intro m
    refine ⟨hl, fun j j1 j2 => ?_⟩
    have z := m j j1 (by omega)
    rw [hw.2.1 _ (by omega) (by omega)] at z
    exact z.symm
theorem lp_Rdr_wordAt {ro : Nat → Int × (Int → Int)} {d : Nat} {b : Bool} {I L : Nat → Int → Int} {Q : Option am_V → am_H → Prop} {bc bs : Nat} {x1 x2 : Int} (hw : RoW ro) (hx : 0 ≤ x1 ∧ x1 < x2 ∧ x2 ≤ 120) (H1 : ∀ k, 0 ≤ k → k < 20 → Mt (I 46) x1 x2 k → (∀ k', 0 ≤ k' → k' < k → ¬ Mt (I 46) x1 x2 k') → Q (some (am_I (1000 + k))) (sh b, I, L)) (H0 : (∀ k, 0 ≤ k → k < 20 → ¬ Mt (I 46) x1 x2 k) → Q (some (am_I 1)) (sh b, I, L)) : ∀ (n : Nat) (x3 x4 x5 : Int), (0 ≤ x3 ∧ x3 < 20) → (x4 = wst x3) → (wst x3 ≤ x5) → (x5 ≤ wst x3 + wln x3) → (x5 ≤ 102) → (∀ k', 0 ≤ k' → k' < x3 → ¬ Mt (I 46) x1 x2 k') → 102 - x5 < (n : Int) → am_ex (am_m ro (d + 1)) ro am_M117 Q (8, [some (am_R 45), some (am_I x1), some (am_I x2), some (am_I x3), some (am_I x4), some (am_I x5)], [], (sh b, I, L), bc, bs) := by
  intro n
  induction n with
  | zero =>
    intro x3 x4 x5 i0 i1 i2 i3 i4 i5 im
    exact absurd im (by omega)
  | succ n ih =>
    intro x3 x4 x5 i0 i1 i2 i3 i4 i5 im
    have f := w_f i0.1 i0.2
    have f1 := f.1
    have hl := hw.1
    refine b_Rdr_wordAt_8  (fun c1 => ?_) (fun c1 => ?_)
    · refine b_Rdr_wordAt_85  ?_
      exfalso
      have f9 := f.1
      omega
    · refine b_Rdr_wordAt_18  (fun c2 => ?_) (fun c2 => ?_)
      · refine b_Rdr_wordAt_40 (by omega) (by omega) (fun c3 => ?_) (fun c3 => ?_)
        · refine b_Rdr_wordAt_70 (by omega) (by omega) ?_
          refine b_Rdr_wordAt_79 (by omega) ?_
          have e3 : x5 = wst x3 + wln x3 := by
            refine Decidable.byContradiction (fun z => ?_)
            have q := f.2.1 (x5 - wst x3) (by omega) (by omega)
            have q2 := hw.2.1 x5 (by omega) (by omega)
            rw [show wst x3 + (x5 - wst x3) = x5 by omega] at q
            omega
          have e7 : ¬ Mt (I 46) x1 x2 x3 := by
            intro m
            first
              | (have q := m.1; omega)
              | (have q := (Mt_of hw (by omega) (by omega) m.1).1 m; subst i1; exact absurd (by assumption) (by assumption))
              | (have q := (Mt_of hw (by omega) (by omega) m.1).1 m; rw [← i1] at q; contradiction)
          have e8 : ∀ k', 0 ≤ k' → k' < x3 + 1 → ¬ Mt (I 46) x1 x2 k' := fun k k1 k2 => by
            by_cases e : k = x3
            · subst e
              exact e7
            · exact i5 k k1 (by omega)
          by_cases e5 : x3 < 19
          · have q := (f.2.2.1 e5).2
            have f2 := (w_f (k := x3 + 1) (by omega) (by omega)).1
            exact ih (x3 + 1) (x5 + 1) (x5 + 1) (by omega) (by omega) (by omega) (by omega) (by omega) e8 (by omega)
          · have q := f.2.2.2 (by omega)
            refine b_Rdr_wordAt_8 (fun c => ?_) (fun c => absurd (show (ro 3).1 < x5 + 1 by omega) c)
            refine b_Rdr_wordAt_85 ?_
            exact H0 (fun k k1 k2 => e8 k k1 (by omega))
        · refine b_Rdr_wordAt_51 (by omega) (s_Rdr_isSpelt (by omega) (fun c8 => ?_) (fun c8 => ?_))
          · refine b_Rdr_wordAt_61  (fun c4 => absurd c4 (by decide)) (fun c4 => ?_)
            refine b_Rdr_wordAt_64 (by omega) ?_
            have e3 : x5 = wst x3 + wln x3 := by
              refine Decidable.byContradiction (fun z => ?_)
              have q := f.2.1 (x5 - wst x3) (by omega) (by omega)
              have q2 := hw.2.1 x5 (by omega) (by omega)
              rw [show wst x3 + (x5 - wst x3) = x5 by omega] at q
              omega
            exact H1 x3 (by omega) (by omega) ((Mt_of hw (by omega) (by omega) (by omega)).2 (by rw [← i1]; assumption)) i5
          · refine b_Rdr_wordAt_61  (fun c5 => ?_) (fun c5 => absurd c5 (by decide))
            refine b_Rdr_wordAt_70 (by omega) (by omega) ?_
            refine b_Rdr_wordAt_79 (by omega) ?_
            have e3 : x5 = wst x3 + wln x3 := by
              refine Decidable.byContradiction (fun z => ?_)
              have q := f.2.1 (x5 - wst x3) (by omega) (by omega)
              have q2 := hw.2.1 x5 (by omega) (by omega)
              rw [show wst x3 + (x5 - wst x3) = x5 by omega] at q
              omega
            have e7 : ¬ Mt (I 46) x1 x2 x3 := by
              intro m
              first
                | (have q := m.1; omega)
                | (have q := (Mt_of hw (by omega) (by omega) m.1).1 m; subst i1; exact absurd (by assumption) (by assumption))
                | (have q := (Mt_of hw (by omega) (by omega) m.1).1 m; rw [← i1] at q; contradiction)
            have e8 : ∀ k', 0 ≤ k' → k' < x3 + 1 → ¬ Mt (I 46) x1 x2 k' := fun k k1 k2 => by
              by_cases e : k = x3
              · subst e
                exact e7
              · exact i5 k k1 (by omega)
            by_cases e5 : x3 < 19
            · have q := (f.2.2.1 e5).2
              have f2 := (w_f (k := x3 + 1) (by omega) (by omega)).1
              exact ih (x3 + 1) (x5 + 1) (x5 + 1) (by omega) (by omega) (by omega) (by omega) (by omega) e8 (by omega)
            · have q := f.2.2.2 (by omega)
              refine b_Rdr_wordAt_8 (fun c => ?_) (fun c => absurd (show (ro 3).1 < x5 + 1 by omega) c)
              refine b_Rdr_wordAt_85 ?_
              exact H0 (fun k k1 k2 => e8 k k1 (by omega))
      · refine b_Rdr_wordAt_28 (by omega) (fun c6 => ?_) (fun c6 => ?_)
        · refine b_Rdr_wordAt_79 (by omega) ?_
          have e3 : x5 < wst x3 + wln x3 := by
            refine Decidable.byContradiction (fun z => ?_)
            have e4 : x5 = wst x3 + wln x3 := by omega
            by_cases e5 : x3 < 19
            · have q := (f.2.2.1 e5).1
              rw [← e4, ← hw.2.1 x5 (by omega) (by omega)] at q
              omega
            · have q := f.2.2.2 (by omega)
              omega
          exact ih x3 x4 (x5 + 1) (by omega) (by omega) (by omega) (by omega) (by omega) i5 (by omega)
        · refine b_Rdr_wordAt_40 (by omega) (by omega) (fun c7 => ?_) (fun c7 => ?_)
          · refine b_Rdr_wordAt_70 (by omega) (by omega) ?_
            refine b_Rdr_wordAt_79 (by omega) ?_
            have e3 : x5 = wst x3 + wln x3 := by
              refine Decidable.byContradiction (fun z => ?_)
              have q := f.2.1 (x5 - wst x3) (by omega) (by omega)
              have q2 := hw.2.1 x5 (by omega) (by omega)
              rw [show wst x3 + (x5 - wst x3) = x5 by omega] at q
              omega
            have e7 : ¬ Mt (I 46) x1 x2 x3 := by
              intro m
              first
                | (have q := m.1; omega)
                | (have q := (Mt_of hw (by omega) (by omega) m.1).1 m; subst i1; exact absurd (by assumption) (by assumption))
                | (have q := (Mt_of hw (by omega) (by omega) m.1).1 m; rw [← i1] at q; contradiction)
            have e8 : ∀ k', 0 ≤ k' → k' < x3 + 1 → ¬ Mt (I 46) x1 x2 k' := fun k k1 k2 => by
              by_cases e : k = x3
              · subst e
                exact e7
              · exact i5 k k1 (by omega)
            by_cases e5 : x3 < 19
            · have q := (f.2.2.1 e5).2
              have f2 := (w_f (k := x3 + 1) (by omega) (by omega)).1
              exact ih (x3 + 1) (x5 + 1) (x5 + 1) (by omega) (by omega) (by omega) (by omega) (by omega) e8 (by omega)
            · have q := f.2.2.2 (by omega)
              refine b_Rdr_wordAt_8 (fun c => ?_) (fun c => absurd (show (ro 3).1 < x5 + 1 by omega) c)
              refine b_Rdr_wordAt_85 ?_
              exact H0 (fun k k1 k2 => e8 k k1 (by omega))
          · refine b_Rdr_wordAt_51 (by omega) (s_Rdr_isSpelt (by omega) (fun c8 => ?_) (fun c8 => ?_))
            · refine b_Rdr_wordAt_61  (fun c8 => absurd c8 (by decide)) (fun c8 => ?_)
              refine b_Rdr_wordAt_64 (by omega) ?_
              have e3 : x5 = wst x3 + wln x3 := by
                refine Decidable.byContradiction (fun z => ?_)
                have q := f.2.1 (x5 - wst x3) (by omega) (by omega)
                have q2 := hw.2.1 x5 (by omega) (by omega)
                rw [show wst x3 + (x5 - wst x3) = x5 by omega] at q
                omega
              exact H1 x3 (by omega) (by omega) ((Mt_of hw (by omega) (by omega) (by omega)).2 (by rw [← i1]; assumption)) i5
            · refine b_Rdr_wordAt_61  (fun c9 => ?_) (fun c9 => absurd c9 (by decide))
              refine b_Rdr_wordAt_70 (by omega) (by omega) ?_
              refine b_Rdr_wordAt_79 (by omega) ?_
              have e3 : x5 = wst x3 + wln x3 := by
                refine Decidable.byContradiction (fun z => ?_)
                have q := f.2.1 (x5 - wst x3) (by omega) (by omega)
                have q2 := hw.2.1 x5 (by omega) (by omega)
                rw [show wst x3 + (x5 - wst x3) = x5 by omega] at q
                omega
              have e7 : ¬ Mt (I 46) x1 x2 x3 := by
                intro m
                first
                  | (have q := m.1; omega)
                  | (have q := (Mt_of hw (by omega) (by omega) m.1).1 m; subst i1; exact absurd (by assumption) (by assumption))
                  | (have q := (Mt_of hw (by omega) (by omega) m.1).1 m; rw [← i1] at q; contradiction)
              have e8 : ∀ k', 0 ≤ k' → k' < x3 + 1 → ¬ Mt (I 46) x1 x2 k' := fun k k1 k2 => by
                by_cases e : k = x3
                · subst e
                  exact e7
                · exact i5 k k1 (by omega)
              by_cases e5 : x3 < 19
              · have q := (f.2.2.1 e5).2
                have f2 := (w_f (k := x3 + 1) (by omega) (by omega)).1
                exact ih (x3 + 1) (x5 + 1) (x5 + 1) (by omega) (by omega) (by omega) (by omega) (by omega) e8 (by omega)
              · have q := f.2.2.2 (by omega)
                refine b_Rdr_wordAt_8 (fun c => ?_) (fun c => absurd (show (ro 3).1 < x5 + 1 by omega) c)
                refine b_Rdr_wordAt_85 ?_
                exact H0 (fun k k1 k2 => e8 k k1 (by omega))
theorem s_Rdr_wordAt {ro : Nat → Int × (Int → Int)} {d : Nat} {b : Bool} {I L : Nat → Int → Int} {Q : Option am_V → am_H → Prop} {x1 x2 : Int} (hw : RoW ro) (hx : 0 ≤ x1 ∧ x1 < x2 ∧ x2 ≤ 120) (H1 : ∀ k, 0 ≤ k → k < 20 → Mt (I 46) x1 x2 k → (∀ k', 0 ≤ k' → k' < k → ¬ Mt (I 46) x1 x2 k') → Q (some (am_I (1000 + k))) (sh b, I, L)) (H0 : (∀ k, 0 ≤ k → k < 20 → ¬ Mt (I 46) x1 x2 k) → Q (some (am_I 1)) (sh b, I, L)) : am_m ro (d + 2) 117 [am_R 45, am_I x1, am_I x2] (sh b, I, L) Q := by
  refine am_in rfl rfl rfl rfl ?_
  refine b_Rdr_wordAt_0  ?_
  exact lp_Rdr_wordAt (d := d) hw hx H1 H0 103 0 0 0 (by omega) rfl (by decide) (by decide) (by omega) (fun k k1 k2 => by omega) (by omega)
