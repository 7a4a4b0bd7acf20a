def Mf (I I' : Nat → Int → Int) : Prop := (∀ k, k ≠ 66 → I' k = I k) ∧ (∀ j, j < 11 ∨ 14 < j → I' 66 j = I 66 j)
theorem Mf_rf {I : Nat → Int → Int} : Mf I I := ⟨fun _ _ => rfl, fun _ _ => rfl⟩
theorem Mf_tr {I I1 I2 : Nat → Int → Int} (h : Mf I I1) (g : Mf I1 I2) : Mf I I2 := ⟨fun k hk => (g.1 k hk).trans (h.1 k hk), fun j hj => (g.2 j hj).trans (h.2 j hj)⟩
theorem Mf_up {I I1 : Nat → Int → Int} {i v : Int} (h : Mf I I1) (hi : 11 ≤ i ∧ i ≤ 14) : Mf I (am_up I1 66 i v) := ⟨fun k hk => (upn hk).trans (h.1 k hk), fun j hj => (upo (by omega)).trans (h.2 j hj)⟩
def wtk (k : Int) : Int := if k < 6 then 3 else if k < 16 then 2 else if k = 20 then -1 else k - 12
def tm (t : Int) : Int := if t = 1 then -1 else if t = 2 then 1 else if t < 1000 then t else if t < 1006 then 3 else if t < 1016 then 2 else t - 1012
def vm (t v : Int) : Int := if t = 2 then v else if t < 1006 then t - 1000 else t - 1006
def tp (n : Int) (T : Int → Int) (I : Nat → Int → Int) : Prop := I 66 8 = n ∧ (∀ j, 0 ≤ j → j < n → I 73 j = T j)
theorem tp_fr {n : Int} {T : Int → Int} {I I' : Nat → Int → Int} (h : tp n T I) (f : Mf I I') : tp n T I' := ⟨(f.2 8 (by omega)).trans h.1, fun j j1 j2 => by rw [f.1 73 (by omega)]; exact h.2 j j1 j2⟩
theorem lp2_M_nextWord {ro : Nat → Int × (Int → Int)} {d : Nat} {b : Bool} {I L : Nat → Int → Int} {Q : Option am_V → am_H → Prop} {bc bs : Nat} {x1 x3 : Int} {tn p e : Int} {T : Int → Int} {I0 : Nat → Int → Int} (hn : 0 ≤ p ∧ p < e ∧ e ≤ tn ∧ tn ≤ 120) (hl : ∀ j, p ≤ j → j < e → isL (T j)) (hW : ∀ k, 0 ≤ k → k < 20 → L 75 k = wdv k) (H : ∀ (I' : Nat → Int → Int) (k : Int), Mf I0 I' → I' 66 11 = e → I' 66 12 = I0 66 12 → 0 ≤ k → k ≤ 20 → (k < 20 → Mt T p e k) → (∀ k', 0 ≤ k' → k' < k → ¬ Mt T p e k') → I' 66 13 = wtk k → I' 66 14 = (if k < 6 then k else k - 6) → Q none (sh b, I', L)) (hM : Mf I0 I) (h11 : I 66 11 = e) (h12 : I 66 12 = I0 66 12) (h3 : x3 = e - p) (hx1 : x3 ≤ 7 → x1 = pk T p (e - p).toNat) : ∀ (n : Nat) (x4 : Int), (0 ≤ x4) → (x4 ≤ 20) → (∀ k, 0 ≤ k → k < x4 → ¬ Mt T p e k) → 20 - x4 < (n : Int) → am_ex (am_m ro (d + 0)) ro am_M196 Q (79, [some (am_R 66), some (am_L x1), none, some (am_I x3), some (am_I x4)], [], (sh b, I, L), bc, bs) := by
  intro n
  induction n with
  | zero =>
    intro x4 i0 i1 i2 im
    exact absurd im (by omega)
  | succ n ih =>
    intro x4 i0 i1 i2 im
    refine b_M_nextWord_79  (fun c1 => ?_) (fun c1 => ?_)
    · refine b_M_nextWord_110  (fun c2 => ?_) (fun c2 => ?_)
      · refine b_M_nextWord_122  (fun c3 => ?_) (fun c3 => ?_)
        · refine b_M_nextWord_133  (fun c4 => ?_) (fun c4 => ?_)
          · refine b_M_nextWord_144 (by omega) (by omega) ?_
            refine b_M_nextWord_151  (fun c5 => ?_) (fun c5 => ?_)
            · refine b_M_nextWord_167 (by omega) ?_
              refine b_M_nextWord_172  ?_
              refine H _ x4 (Mf_up (Mf_up hM (by omega)) (by omega)) ?_ ?_ i0 i1 (fun z => ?_) i2 ?_ ?_
              · rw [upo (by omega), upo (by omega)]
                exact h11
              · rw [upo (by omega), upo (by omega)]
                exact h12
              · first | omega | exact (Mt_pk (by omega) (by omega) (by omega) hl).2 ⟨by omega, by rw [← hW x4 (by omega) (by omega), ← hx1 (by omega)]; assumption⟩
              · rw [upo (by omega), ups]
                unfold wtk
                (repeat' split) <;> omega
              · rw [ups]
                split <;> omega
            · refine b_M_nextWord_162  ?_
              refine b_M_nextWord_172  ?_
              refine H _ x4 (Mf_up (Mf_up hM (by omega)) (by omega)) ?_ ?_ i0 i1 (fun z => ?_) i2 ?_ ?_
              · rw [upo (by omega), upo (by omega)]
                exact h11
              · rw [upo (by omega), upo (by omega)]
                exact h12
              · first | omega | exact (Mt_pk (by omega) (by omega) (by omega) hl).2 ⟨by omega, by rw [← hW x4 (by omega) (by omega), ← hx1 (by omega)]; assumption⟩
              · rw [upo (by omega), ups]
                unfold wtk
                (repeat' split) <;> omega
              · rw [ups]
                split <;> omega
          · refine b_M_nextWord_140  ?_
            refine b_M_nextWord_151  (fun c6 => ?_) (fun c6 => ?_)
            · refine b_M_nextWord_167 (by omega) ?_
              refine b_M_nextWord_172  ?_
              refine H _ x4 (Mf_up (Mf_up hM (by omega)) (by omega)) ?_ ?_ i0 i1 (fun z => ?_) i2 ?_ ?_
              · rw [upo (by omega), upo (by omega)]
                exact h11
              · rw [upo (by omega), upo (by omega)]
                exact h12
              · first | omega | exact (Mt_pk (by omega) (by omega) (by omega) hl).2 ⟨by omega, by rw [← hW x4 (by omega) (by omega), ← hx1 (by omega)]; assumption⟩
              · rw [upo (by omega), ups]
                unfold wtk
                (repeat' split) <;> omega
              · rw [ups]
                split <;> omega
            · refine b_M_nextWord_162  ?_
              refine b_M_nextWord_172  ?_
              refine H _ x4 (Mf_up (Mf_up hM (by omega)) (by omega)) ?_ ?_ i0 i1 (fun z => ?_) i2 ?_ ?_
              · rw [upo (by omega), upo (by omega)]
                exact h11
              · rw [upo (by omega), upo (by omega)]
                exact h12
              · first | omega | exact (Mt_pk (by omega) (by omega) (by omega) hl).2 ⟨by omega, by rw [← hW x4 (by omega) (by omega), ← hx1 (by omega)]; assumption⟩
              · rw [upo (by omega), ups]
                unfold wtk
                (repeat' split) <;> omega
              · rw [ups]
                split <;> omega
        · refine b_M_nextWord_129  ?_
          refine b_M_nextWord_151  (fun c7 => ?_) (fun c7 => ?_)
          · refine b_M_nextWord_167 (by omega) ?_
            refine b_M_nextWord_172  ?_
            refine H _ x4 (Mf_up (Mf_up hM (by omega)) (by omega)) ?_ ?_ i0 i1 (fun z => ?_) i2 ?_ ?_
            · rw [upo (by omega), upo (by omega)]
              exact h11
            · rw [upo (by omega), upo (by omega)]
              exact h12
            · first | omega | exact (Mt_pk (by omega) (by omega) (by omega) hl).2 ⟨by omega, by rw [← hW x4 (by omega) (by omega), ← hx1 (by omega)]; assumption⟩
            · rw [upo (by omega), ups]
              unfold wtk
              (repeat' split) <;> omega
            · rw [ups]
              split <;> omega
          · refine b_M_nextWord_162  ?_
            refine b_M_nextWord_172  ?_
            refine H _ x4 (Mf_up (Mf_up hM (by omega)) (by omega)) ?_ ?_ i0 i1 (fun z => ?_) i2 ?_ ?_
            · rw [upo (by omega), upo (by omega)]
              exact h11
            · rw [upo (by omega), upo (by omega)]
              exact h12
            · first | omega | exact (Mt_pk (by omega) (by omega) (by omega) hl).2 ⟨by omega, by rw [← hW x4 (by omega) (by omega), ← hx1 (by omega)]; assumption⟩
            · rw [upo (by omega), ups]
              unfold wtk
              (repeat' split) <;> omega
            · rw [ups]
              split <;> omega
      · refine b_M_nextWord_118  ?_
        refine b_M_nextWord_151  (fun c8 => ?_) (fun c8 => ?_)
        · refine b_M_nextWord_167 (by omega) ?_
          refine b_M_nextWord_172  ?_
          refine H _ x4 (Mf_up (Mf_up hM (by omega)) (by omega)) ?_ ?_ i0 i1 (fun z => ?_) i2 ?_ ?_
          · rw [upo (by omega), upo (by omega)]
            exact h11
          · rw [upo (by omega), upo (by omega)]
            exact h12
          · first | omega | exact (Mt_pk (by omega) (by omega) (by omega) hl).2 ⟨by omega, by rw [← hW x4 (by omega) (by omega), ← hx1 (by omega)]; assumption⟩
          · rw [upo (by omega), ups]
            unfold wtk
            (repeat' split) <;> omega
          · rw [ups]
            split <;> omega
        · refine b_M_nextWord_162  ?_
          refine b_M_nextWord_172  ?_
          refine H _ x4 (Mf_up (Mf_up hM (by omega)) (by omega)) ?_ ?_ i0 i1 (fun z => ?_) i2 ?_ ?_
          · rw [upo (by omega), upo (by omega)]
            exact h11
          · rw [upo (by omega), upo (by omega)]
            exact h12
          · first | omega | exact (Mt_pk (by omega) (by omega) (by omega) hl).2 ⟨by omega, by rw [← hW x4 (by omega) (by omega), ← hx1 (by omega)]; assumption⟩
          · rw [upo (by omega), ups]
            unfold wtk
            (repeat' split) <;> omega
          · rw [ups]
            split <;> omega
    · refine b_M_nextWord_86  (fun c9 => ?_) (fun c9 => ?_)
      · refine b_M_nextWord_104 (by omega) ?_
        refine ih (x4 + 1) (by omega) (by omega) (fun k k1 k2 => ?_) (by omega)
        by_cases e9 : k = x4
        · subst e9
          intro m
          have m2 := (Mt_pk (by omega) (by omega) (by omega) hl).1 m
          first
            | omega
            | (rw [← hW k (by omega) (by omega), ← hx1 (by omega)] at m2; exact absurd m2.2 (by assumption))
        · exact i2 k k1 (by omega)
      · refine b_M_nextWord_92 (by omega) (fun c10 => ?_) (fun c10 => ?_)
        · refine b_M_nextWord_110  (fun c11 => ?_) (fun c11 => ?_)
          · refine b_M_nextWord_122  (fun c12 => ?_) (fun c12 => ?_)
            · refine b_M_nextWord_133  (fun c13 => ?_) (fun c13 => ?_)
              · refine b_M_nextWord_144 (by omega) (by omega) ?_
                refine b_M_nextWord_151  (fun c14 => ?_) (fun c14 => ?_)
                · refine b_M_nextWord_167 (by omega) ?_
                  refine b_M_nextWord_172  ?_
                  refine H _ x4 (Mf_up (Mf_up hM (by omega)) (by omega)) ?_ ?_ i0 i1 (fun z => ?_) i2 ?_ ?_
                  · rw [upo (by omega), upo (by omega)]
                    exact h11
                  · rw [upo (by omega), upo (by omega)]
                    exact h12
                  · first | omega | exact (Mt_pk (by omega) (by omega) (by omega) hl).2 ⟨by omega, by rw [← hW x4 (by omega) (by omega), ← hx1 (by omega)]; assumption⟩
                  · rw [upo (by omega), ups]
                    unfold wtk
                    (repeat' split) <;> omega
                  · rw [ups]
                    split <;> omega
                · refine b_M_nextWord_162  ?_
                  refine b_M_nextWord_172  ?_
                  refine H _ x4 (Mf_up (Mf_up hM (by omega)) (by omega)) ?_ ?_ i0 i1 (fun z => ?_) i2 ?_ ?_
                  · rw [upo (by omega), upo (by omega)]
                    exact h11
                  · rw [upo (by omega), upo (by omega)]
                    exact h12
                  · first | omega | exact (Mt_pk (by omega) (by omega) (by omega) hl).2 ⟨by omega, by rw [← hW x4 (by omega) (by omega), ← hx1 (by omega)]; assumption⟩
                  · rw [upo (by omega), ups]
                    unfold wtk
                    (repeat' split) <;> omega
                  · rw [ups]
                    split <;> omega
              · refine b_M_nextWord_140  ?_
                refine b_M_nextWord_151  (fun c15 => ?_) (fun c15 => ?_)
                · refine b_M_nextWord_167 (by omega) ?_
                  refine b_M_nextWord_172  ?_
                  refine H _ x4 (Mf_up (Mf_up hM (by omega)) (by omega)) ?_ ?_ i0 i1 (fun z => ?_) i2 ?_ ?_
                  · rw [upo (by omega), upo (by omega)]
                    exact h11
                  · rw [upo (by omega), upo (by omega)]
                    exact h12
                  · first | omega | exact (Mt_pk (by omega) (by omega) (by omega) hl).2 ⟨by omega, by rw [← hW x4 (by omega) (by omega), ← hx1 (by omega)]; assumption⟩
                  · rw [upo (by omega), ups]
                    unfold wtk
                    (repeat' split) <;> omega
                  · rw [ups]
                    split <;> omega
                · refine b_M_nextWord_162  ?_
                  refine b_M_nextWord_172  ?_
                  refine H _ x4 (Mf_up (Mf_up hM (by omega)) (by omega)) ?_ ?_ i0 i1 (fun z => ?_) i2 ?_ ?_
                  · rw [upo (by omega), upo (by omega)]
                    exact h11
                  · rw [upo (by omega), upo (by omega)]
                    exact h12
                  · first | omega | exact (Mt_pk (by omega) (by omega) (by omega) hl).2 ⟨by omega, by rw [← hW x4 (by omega) (by omega), ← hx1 (by omega)]; assumption⟩
                  · rw [upo (by omega), ups]
                    unfold wtk
                    (repeat' split) <;> omega
                  · rw [ups]
                    split <;> omega
            · refine b_M_nextWord_129  ?_
              refine b_M_nextWord_151  (fun c16 => ?_) (fun c16 => ?_)
              · refine b_M_nextWord_167 (by omega) ?_
                refine b_M_nextWord_172  ?_
                refine H _ x4 (Mf_up (Mf_up hM (by omega)) (by omega)) ?_ ?_ i0 i1 (fun z => ?_) i2 ?_ ?_
                · rw [upo (by omega), upo (by omega)]
                  exact h11
                · rw [upo (by omega), upo (by omega)]
                  exact h12
                · first | omega | exact (Mt_pk (by omega) (by omega) (by omega) hl).2 ⟨by omega, by rw [← hW x4 (by omega) (by omega), ← hx1 (by omega)]; assumption⟩
                · rw [upo (by omega), ups]
                  unfold wtk
                  (repeat' split) <;> omega
                · rw [ups]
                  split <;> omega
              · refine b_M_nextWord_162  ?_
                refine b_M_nextWord_172  ?_
                refine H _ x4 (Mf_up (Mf_up hM (by omega)) (by omega)) ?_ ?_ i0 i1 (fun z => ?_) i2 ?_ ?_
                · rw [upo (by omega), upo (by omega)]
                  exact h11
                · rw [upo (by omega), upo (by omega)]
                  exact h12
                · first | omega | exact (Mt_pk (by omega) (by omega) (by omega) hl).2 ⟨by omega, by rw [← hW x4 (by omega) (by omega), ← hx1 (by omega)]; assumption⟩
                · rw [upo (by omega), ups]
                  unfold wtk
                  (repeat' split) <;> omega
                · rw [ups]
                  split <;> omega
          · refine b_M_nextWord_118  ?_
            refine b_M_nextWord_151  (fun c17 => ?_) (fun c17 => ?_)
            · refine b_M_nextWord_167 (by omega) ?_
              refine b_M_nextWord_172  ?_
              refine H _ x4 (Mf_up (Mf_up hM (by omega)) (by omega)) ?_ ?_ i0 i1 (fun z => ?_) i2 ?_ ?_
              · rw [upo (by omega), upo (by omega)]
                exact h11
              · rw [upo (by omega), upo (by omega)]
                exact h12
              · first | omega | exact (Mt_pk (by omega) (by omega) (by omega) hl).2 ⟨by omega, by rw [← hW x4 (by omega) (by omega), ← hx1 (by omega)]; assumption⟩
              · rw [upo (by omega), ups]
                unfold wtk
                (repeat' split) <;> omega
              · rw [ups]
                split <;> omega
            · refine b_M_nextWord_162  ?_
              refine b_M_nextWord_172  ?_
              refine H _ x4 (Mf_up (Mf_up hM (by omega)) (by omega)) ?_ ?_ i0 i1 (fun z => ?_) i2 ?_ ?_
              · rw [upo (by omega), upo (by omega)]
                exact h11
              · rw [upo (by omega), upo (by omega)]
                exact h12
              · first | omega | exact (Mt_pk (by omega) (by omega) (by omega) hl).2 ⟨by omega, by rw [← hW x4 (by omega) (by omega), ← hx1 (by omega)]; assumption⟩
              · rw [upo (by omega), ups]
                unfold wtk
                (repeat' split) <;> omega
              · rw [ups]
                split <;> omega
        · refine b_M_nextWord_104 (by omega) ?_
          refine ih (x4 + 1) (by omega) (by omega) (fun k k1 k2 => ?_) (by omega)
          by_cases e9 : k = x4
          · subst e9
            intro m
            have m2 := (Mt_pk (by omega) (by omega) (by omega) hl).1 m
            first
              | omega
              | (rw [← hW k (by omega) (by omega), ← hx1 (by omega)] at m2; exact absurd m2.2 (by assumption))
          · exact i2 k k1 (by omega)
theorem lp1_M_nextWord {ro : Nat → Int × (Int → Int)} {d : Nat} {b : Bool} {L : Nat → Int → Int} {Q : Option am_V → am_H → Prop} {bc bs : Nat} {tn p e : Int} {T : Int → Int} {I0 : Nat → Int → Int} (hn : 0 ≤ p ∧ p < e ∧ e ≤ tn ∧ tn ≤ 120) (hl : ∀ j, p ≤ j → j < e → isL (T j)) (hW : ∀ k, 0 ≤ k → k < 20 → L 75 k = wdv k) (H : ∀ (I' : Nat → Int → Int) (k : Int), Mf I0 I' → I' 66 11 = e → I' 66 12 = I0 66 12 → 0 ≤ k → k ≤ 20 → (k < 20 → Mt T p e k) → (∀ k', 0 ≤ k' → k' < k → ¬ Mt T p e k') → I' 66 13 = wtk k → I' 66 14 = (if k < 6 then k else k - 6) → Q none (sh b, I', L)) (h3 : tp tn T I0) (he : e < tn → ¬ isL (T e)) : ∀ (n : Nat) (I : Nat → Int → Int) (x1 x3 : Int), (Mf I0 I) → (I 66 11 = p + x3) → (p ≤ I 66 11) → (I 66 11 ≤ e) → (I 66 12 = I0 66 12) → (x3 ≤ 7 → x1 = pk T p x3.toNat) → e - I 66 11 < (n : Int) → am_ex (am_m ro (d + 1)) ro am_M196 Q (4, [some (am_R 66), some (am_L x1), none, some (am_I x3), none], [], (sh b, I, L), bc, bs) := by
  intro n
  induction n with
  | zero =>
    intro I x1 x3 i0 i1 i2 i3 i4 i5 im
    exact absurd im (by omega)
  | succ n ih =>
    intro I x1 x3 i0 i1 i2 i3 i4 i5 im
    have e8 : I 66 8 = tn := (i0.2 8 (by omega)).trans h3.1
    have hl9 : 0 ≤ x3 := by omega
    have bd : x3 ≤ 6 → 0 ≤ x1 ∧ x1 < 281474976710656 := fun z => by
      have w := pk_bd (T := T) (p := p) x3.toNat (fun j hj => by have q := hl (p + j) (by omega) (by omega); unfold isL at q; omega)
      have w2 := pw6_le (m := x3.toNat) (n := 6) (by omega)
      rw [show (256 : Int) ^ 6 = 281474976710656 by decide] at w2
      rw [i5 (by omega)]
      omega
    refine b_M_nextWord_4  (fun c1 => ?_) (fun c1 => ?_)
    · refine b_M_nextWord_76  ?_
      have e9 : I 66 11 = e := by
        refine Decidable.byContradiction (fun z => ?_)
        omega
      exact lp2_M_nextWord (d := d + 1) (x1 := x1) (x3 := x3) hn hl hW H i0 e9 i4 (by omega) (fun z => by rw [i5 (by omega), show (e - p).toNat = x3.toNat by omega]) 21 0 (by omega) (by omega) (fun k k1 k2 => by omega) (by omega)
    · refine b_M_nextWord_15 (by omega) (s_M_in (fun c2 => ?_) (fun c2 => ?_))
      · refine b_M_nextWord_31  (fun c3 => absurd c3 (by decide)) (fun c3 => ?_)
        have e7 : I 66 11 < e := by
          refine Decidable.byContradiction (fun z => ?_)
          have q := he (by omega)
          have e6 : I 66 11 = e := by omega
          rw [← e6, ← h3.2 (I 66 11) (by omega) (by omega), ← i0.1 73 (by omega)] at q
          unfold isL at q
          omega
        have e73 : I 73 (I 66 11) = T (I 66 11) := by rw [i0.1 73 (by omega)]; exact h3.2 _ (by omega) (by omega)
        have q7 := hl (I 66 11) (by omega) (by omega)
        unfold isL at q7
        refine b_M_nextWord_34  (fun c4 => ?_) (fun c4 => ?_)
        · refine b_M_nextWord_58  ?_
          refine b_M_nextWord_59 (by omega) (by omega) ?_
          refine ih _ x1 (x3 + 1) (Mf_up i0 (by omega)) ?_ ?_ ?_ ?_ ?_ (by rw [ups]; omega)
          · rw [ups]
            omega
          · rw [ups]
            omega
          · rw [ups]
            omega
          · rw [upo (by omega)]
            exact i4
          · intro z
            first
              | omega
              | (rw [lor8 (by omega) (by omega) (by omega) (by omega), i5 (by omega), e73, show (x3 + 1).toNat = x3.toNat + 1 by omega, pk_s, show p + (x3.toNat : Int) = I 66 11 by omega])
        · refine b_M_nextWord_40 (by omega) ?_
          refine b_M_nextWord_59 (by omega) (by omega) ?_
          refine ih _ ((am_lor (am_lshl x1 8) (I 73 (I 66 11)))) (x3 + 1) (Mf_up i0 (by omega)) ?_ ?_ ?_ ?_ ?_ (by rw [ups]; omega)
          · rw [ups]
            omega
          · rw [ups]
            omega
          · rw [ups]
            omega
          · rw [upo (by omega)]
            exact i4
          · intro z
            first
              | omega
              | (rw [lor8 (by omega) (by omega) (by omega) (by omega), i5 (by omega), e73, show (x3 + 1).toNat = x3.toNat + 1 by omega, pk_s, show p + (x3.toNat : Int) = I 66 11 by omega])
      · refine b_M_nextWord_31  (fun c5 => ?_) (fun c5 => absurd c5 (by decide))
        refine b_M_nextWord_76  ?_
        have e9 : I 66 11 = e := by
          refine Decidable.byContradiction (fun z => ?_)
          have q := hl (I 66 11) (by omega) (by omega)
          rw [← h3.2 (I 66 11) (by omega) (by omega), ← i0.1 73 (by omega)] at q
          exact absurd q (by assumption)
        exact lp2_M_nextWord (d := d + 1) (x1 := x1) (x3 := x3) hn hl hW H i0 e9 i4 (by omega) (fun z => by rw [i5 (by omega), show (e - p).toNat = x3.toNat by omega]) 21 0 (by omega) (by omega) (fun k k1 k2 => by omega) (by omega)
theorem s_M_nextWord {ro : Nat → Int × (Int → Int)} {d : Nat} {b : Bool} {I L : Nat → Int → Int} {Q : Option am_V → am_H → Prop} {tn p e : Int} {T : Int → Int} (hn : 0 ≤ p ∧ p < e ∧ e ≤ tn ∧ tn ≤ 120) (hl : ∀ j, p ≤ j → j < e → isL (T j)) (hW : ∀ k, 0 ≤ k → k < 20 → L 75 k = wdv k) (H : ∀ (I' : Nat → Int → Int) (k : Int), Mf I I' → I' 66 11 = e → I' 66 12 = I 66 12 → 0 ≤ k → k ≤ 20 → (k < 20 → Mt T p e k) → (∀ k', 0 ≤ k' → k' < k → ¬ Mt T p e k') → I' 66 13 = wtk k → I' 66 14 = (if k < 6 then k else k - 6) → Q none (sh b, I', L)) (h3 : tp tn T I) (he : e < tn → ¬ isL (T e)) (h11 : I 66 11 = p) : am_m ro (d + 2) 196 [am_R 66] (sh b, I, L) Q := by
  refine am_in rfl rfl rfl rfl ?_
  refine b_M_nextWord_0  ?_
  exact lp1_M_nextWord (d := d) hn hl hW H h3 he 121 I 0 0 Mf_rf (by omega) (by omega) (by omega) rfl (fun _ => rfl) (by omega)
