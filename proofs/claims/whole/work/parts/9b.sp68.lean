theorem lp_M_next_109 {ro : Nat → Int × (Int → Int)} {d : Nat} {b : Bool} {L : Nat → Int → Int} {Q : Option am_V → am_H → Prop} {bc bs : Nat} {tn p e : Int} {T : Int → Int} {I0 : Nat → Int → Int} (hn : 0 ≤ p ∧ p < e ∧ e ≤ tn ∧ tn ≤ 120) (hl : ∀ j, p ≤ j → j < e → isD (T j)) (h3 : tp tn T I0) (he : e < tn → ¬ isD (T e)) (H : ∀ (I' : Nat → Int → Int), Mf I0 I' → I' 66 11 = e → I' 66 12 = I0 66 12 → (e - p ≤ 7 → I' 66 13 = 1 ∧ I' 66 14 = num T p (e - p).toNat) → (7 < e - p → I' 66 13 = -1) → Q none (sh b, I', L)) : ∀ (n : Nat) (I : Nat → Int → Int) (x2 : Int), (Mf I0 I) → (I 66 11 = p + x2) → (p ≤ I 66 11) → (I 66 11 ≤ e) → (I 66 12 = I0 66 12) → (x2 ≤ 7 → I 66 14 = num T p x2.toNat) → e - I 66 11 < (n : Int) → am_ex (am_m ro (d + 2)) ro am_M197 Q (109, [some (am_R 66), none, some (am_I x2)], [], (sh b, I, L), bc, bs) := by
  intro n
  induction n with
  | zero =>
    intro I x2 i0 i1 i2 i3 i4 i5 im
    exact absurd im (by omega)
  | succ n ih =>
    intro I x2 i0 i1 i2 i3 i4 i5 im
    have e8 : I 66 8 = tn := (i0.2 8 (by omega)).trans h3.1
    have bd : x2 ≤ 6 → 0 ≤ I 66 14 ∧ I 66 14 < 1000000 := fun z => by
      rw [i5 (by omega)]
      exact (num_le (fun j j1 j2 => hl j j1 (by omega))).1 (by omega)
    refine b_M_next_109  (fun c1 => ?_) (fun c1 => ?_)
    · refine b_M_next_189  (fun c2 => ?_) (fun c2 => ?_)
      · refine b_M_next_200  ?_
        refine b_M_next_201  ?_
        refine b_M_next_296  ?_
        have e9 : I 66 11 = e := by
          refine Decidable.byContradiction (fun z => ?_)
          first
            | omega
            | (have q := hl (I 66 11) (by omega) (by omega); rw [← h3.2 (I 66 11) (by omega) (by omega), ← i0.1 73 (by omega)] at q; exact absurd q (by assumption))
        refine H _ (Mf_up i0 (by omega)) ?_ ?_ (fun z => ⟨?_, ?_⟩) (fun z => ?_)
        · rw [upo (by omega)]
          exact e9
        · rw [upo (by omega)]
          exact i4
        · (rw [ups]) <;> omega
        · rw [upo (by omega), i5 (by omega), show (e - p).toNat = x2.toNat by omega]
        · (rw [ups]) <;> omega
      · refine b_M_next_196  ?_
        refine b_M_next_201  ?_
        refine b_M_next_296  ?_
        have e9 : I 66 11 = e := by
          refine Decidable.byContradiction (fun z => ?_)
          first
            | omega
            | (have q := hl (I 66 11) (by omega) (by omega); rw [← h3.2 (I 66 11) (by omega) (by omega), ← i0.1 73 (by omega)] at q; exact absurd q (by assumption))
        refine H _ (Mf_up i0 (by omega)) ?_ ?_ (fun z => ⟨?_, ?_⟩) (fun z => ?_)
        · rw [upo (by omega)]
          exact e9
        · rw [upo (by omega)]
          exact i4
        · (rw [ups]) <;> omega
        · rw [upo (by omega), i5 (by omega), show (e - p).toNat = x2.toNat by omega]
        · (rw [ups]) <;> omega
    · refine b_M_next_120 (by first | omega | (rw [upo (by omega)]; omega)) (s_M_in (fun c3 => ?_) (fun c3 => ?_))
      · refine b_M_next_136  (fun c4 => absurd c4 (by decide)) (fun c4 => ?_)
        have e7 : I 66 11 < e := by
          refine Decidable.byContradiction (fun z => ?_)
          have q := he (by omega)
          have e6 : I 66 11 = e := by omega
          rw [← e6, ← h3.2 (I 66 11) (by omega) (by omega), ← i0.1 73 (by omega)] at q
          unfold isD at q
          omega
        have e73 : I 73 (I 66 11) = T (I 66 11) := by rw [i0.1 73 (by omega)]; exact h3.2 _ (by omega) (by omega)
        have q7 := hl (I 66 11) (by omega) (by omega)
        unfold isD at q7
        refine b_M_next_139  (fun c5 => ?_) (fun c5 => ?_)
        · refine b_M_next_169  ?_
          refine b_M_next_170 (by first | omega | (rw [upo (by omega)]; omega)) (by first | omega | (rw [upo (by omega)]; omega)) ?_
          refine ih _ (x2 + 1) (Mf_up (Mf_up i0 (by omega)) (by omega)) ?_ ?_ ?_ ?_ ?_ (by rw [ups, upo (by omega)]; omega)
          · rw [ups, upo (by omega)]
            omega
          · rw [ups, upo (by omega)]
            omega
          · rw [ups, upo (by omega)]
            omega
          · rw [upo (by omega), upo (by omega)]
            exact i4
          · intro z
            rw [upo (by omega), ups]
            first
              | omega
              | (rw [show (x2 + 1).toNat = x2.toNat + 1 by omega, num_s, ← i5 (by omega), show p + (x2.toNat : Int) = I 66 11 by omega, ← e73]; omega)
        · refine b_M_next_146 (by first | omega | (rw [upo (by omega)]; omega)) (by first | omega | (rw [upo (by omega)]; omega)) (by first | omega | (rw [upo (by omega)]; omega)) (by first | omega | (rw [upo (by omega)]; omega)) ?_
          refine b_M_next_170 (by first | omega | (rw [upo (by omega)]; omega)) (by first | omega | (rw [upo (by omega)]; omega)) ?_
          refine ih _ (x2 + 1) (Mf_up (Mf_up i0 (by omega)) (by omega)) ?_ ?_ ?_ ?_ ?_ (by rw [ups, upo (by omega)]; omega)
          · rw [ups, upo (by omega)]
            omega
          · rw [ups, upo (by omega)]
            omega
          · rw [ups, upo (by omega)]
            omega
          · rw [upo (by omega), upo (by omega)]
            exact i4
          · intro z
            rw [upo (by omega), ups]
            first
              | omega
              | (rw [show (x2 + 1).toNat = x2.toNat + 1 by omega, num_s, ← i5 (by omega), show p + (x2.toNat : Int) = I 66 11 by omega, ← e73]; omega)
      · refine b_M_next_136  (fun c6 => ?_) (fun c6 => absurd c6 (by decide))
        refine b_M_next_189  (fun c7 => ?_) (fun c7 => ?_)
        · refine b_M_next_200  ?_
          refine b_M_next_201  ?_
          refine b_M_next_296  ?_
          have e9 : I 66 11 = e := by
            refine Decidable.byContradiction (fun z => ?_)
            first
              | omega
              | (have q := hl (I 66 11) (by omega) (by omega); rw [← h3.2 (I 66 11) (by omega) (by omega), ← i0.1 73 (by omega)] at q; exact absurd q (by assumption))
          refine H _ (Mf_up i0 (by omega)) ?_ ?_ (fun z => ⟨?_, ?_⟩) (fun z => ?_)
          · rw [upo (by omega)]
            exact e9
          · rw [upo (by omega)]
            exact i4
          · (rw [ups]) <;> omega
          · rw [upo (by omega), i5 (by omega), show (e - p).toNat = x2.toNat by omega]
          · (rw [ups]) <;> omega
        · refine b_M_next_196  ?_
          refine b_M_next_201  ?_
          refine b_M_next_296  ?_
          have e9 : I 66 11 = e := by
            refine Decidable.byContradiction (fun z => ?_)
            first
              | omega
              | (have q := hl (I 66 11) (by omega) (by omega); rw [← h3.2 (I 66 11) (by omega) (by omega), ← i0.1 73 (by omega)] at q; exact absurd q (by assumption))
          refine H _ (Mf_up i0 (by omega)) ?_ ?_ (fun z => ⟨?_, ?_⟩) (fun z => ?_)
          · rw [upo (by omega)]
            exact e9
          · rw [upo (by omega)]
            exact i4
          · (rw [ups]) <;> omega
          · rw [upo (by omega), i5 (by omega), show (e - p).toNat = x2.toNat by omega]
          · (rw [ups]) <;> omega
theorem lp_M_next_68 {ro : Nat → Int × (Int → Int)} {d : Nat} {b : Bool} {I L : Nat → Int → Int} {Q : Option am_V → am_H → Prop} {bc bs : Nat} {tn p e t v : Int} {T : Int → Int} (hn : 0 ≤ p ∧ p < e ∧ e ≤ tn ∧ tn ≤ 120) (h3 : tp tn T I) (h11 : I 66 11 = p) (h14 : I 66 14 = 0) (hW : ∀ k, 0 ≤ k → k < 20 → L 75 k = wdv k) (hk : TkL T tn p e t ∨ TkD T tn p e t v ∨ TkS T p e t) (H : ∀ (I' : Nat → Int → Int), Mf I I' → I' 66 11 = e → I' 66 12 = I 66 12 → I' 66 13 = tm t → (t = 2 ∨ 1000 ≤ t → I' 66 14 = vm t v) → Q none (sh b, I', L)) : am_ex (am_m ro (d + 2)) ro am_M197 Q (68, [some (am_R 66), none, none], [], (sh b, I, L), bc, bs) := by
  have e73 : I 73 (I 66 11) = T p := by rw [h11]; exact h3.2 p (by omega) (by omega)
  refine b_M_next_68 (by first | omega | (rw [upo (by omega)]; omega)) (s_M_in (fun c1 => ?_) (fun c1 => ?_))
  · refine b_M_next_86  (fun c2 => absurd c2 (by decide)) (fun c2 => ?_)
    have kl : TkL T tn p e t := by
      rcases hk with hk | hk | hk
      · exact hk
      · exact absurd (show isL (T p) by unfold isL; omega) (isLD hk.1)
      · exact absurd (show isL (T p) by unfold isL; omega) hk.1
    refine b_M_next_89  (s_M_nextWord ⟨by omega, by omega, hn.2.2.1, hn.2.2.2⟩ kl.2.1 hW (fun I9 k f1 f2 f3 k1 k2 k3 k4 f4 f5 => ?_) h3 kl.2.2.1 h11)
    refine b_M_next_93  ?_
    refine b_M_next_296  ?_
    refine H I9 f1 f2 f3 ?_ ?_
    · rw [f4]
      rcases kl.2.2.2 with ⟨k', a1, a2, a3, a4, a5⟩ | ⟨a1, a2⟩
      · have e9 : k = k' := by
          refine Decidable.byContradiction (fun z => ?_)
          by_cases z2 : k < k'
          · exact a4 k k1 z2 (k3 (by omega))
          · exact k4 k' a1 (by omega) a3
        subst e9
        unfold wtk tm
        rw [a5]
        (repeat' split) <;> omega
      · have e9 : k = 20 := by
          refine Decidable.byContradiction (fun z => ?_)
          exact a1 k k1 (by omega) (k3 (by omega))
        subst e9
        unfold wtk tm
        rw [a2]
        (repeat' split) <;> omega
    · intro z
      rw [f5]
      rcases kl.2.2.2 with ⟨k', a1, a2, a3, a4, a5⟩ | ⟨a1, a2⟩
      · have e9 : k = k' := by
          refine Decidable.byContradiction (fun z => ?_)
          by_cases z2 : k < k'
          · exact a4 k k1 z2 (k3 (by omega))
          · exact k4 k' a1 (by omega) a3
        subst e9
        unfold vm
        rw [a5]
        (repeat' split) <;> omega
      · omega
  · refine b_M_next_86  (fun c3 => ?_) (fun c3 => absurd c3 (by decide))
    refine b_M_next_96  (s_M_in (fun c4 => ?_) (fun c4 => ?_))
    · refine b_M_next_104  (fun c5 => absurd c5 (by decide)) (fun c5 => ?_)
      have kd : TkD T tn p e t v := by
        rcases hk with hk | hk | hk
        · exact absurd hk.1 (isLD (show isD (T p) by unfold isD; omega))
        · exact hk
        · exact absurd (show isD (T p) by unfold isD; omega) hk.2.1
      refine b_M_next_107  ?_
      refine lp_M_next_109 (d := d) hn kd.2.1 h3 kd.2.2.1 (fun I9 f1 f2 f3 f4 f5 => H I9 f1 f2 f3 ?_ ?_) 121 I 0 Mf_rf (by omega) (by omega) (by omega) rfl (fun _ => h14) (by omega)
      · rcases kd.2.2.2 with ⟨a1, a2, a3⟩ | ⟨a1, a2⟩
        · rw [(f4 a1).1, a2]
          rfl
        · rw [f5 a1, a2]
          rfl
      · intro z
        rcases kd.2.2.2 with ⟨a1, a2, a3⟩ | ⟨a1, a2⟩
        · rw [(f4 a1).2, a2, a3]
          rfl
        · omega
    · refine b_M_next_104  (fun c6 => ?_) (fun c6 => absurd c6 (by decide))
      have ks : TkS T p e t := by
        rcases hk with hk | hk | hk
        · have q := hk.1
          unfold isL at q
          omega
        · have q := hk.1
          unfold isD at q
          omega
        · exact hk
      refine b_M_next_207  (fun c7 => ?_) (fun c7 => ?_)
      · refine b_M_next_267  ?_
        refine b_M_next_272  (fun c8 => absurd c8 (by decide)) (fun c8 => ?_)
        refine b_M_next_278  ?_
        refine b_M_next_283 (by first | omega | (rw [upo (by omega)]; omega)) ?_
        refine b_M_next_296  ?_
        refine H _ (Mf_up (Mf_up Mf_rf (by omega)) (by omega)) ?_ ?_ ?_ ?_
        · rw [ups, upo (by omega), ks.2.2.1]
          omega
        · rw [upo (by omega), upo (by omega)]
        · rw [upo (by omega), ups]
          rcases ks.2.2.2 with ⟨a1, a2⟩ | ⟨a1, a2⟩
          · unfold sgn at a1
            unfold tm
            (repeat' split) <;> omega
          · unfold sgn at a1
            unfold tm
            (repeat' split) <;> omega
        · intro z
          rcases ks.2.2.2 with ⟨a1, a2⟩ | ⟨a1, a2⟩
          · unfold sgn at a1
            omega
          · omega
      · refine b_M_next_213  (fun c9 => ?_) (fun c9 => ?_)
        · refine b_M_next_267  ?_
          refine b_M_next_272  (fun c10 => absurd c10 (by decide)) (fun c10 => ?_)
          refine b_M_next_278  ?_
          refine b_M_next_283 (by first | omega | (rw [upo (by omega)]; omega)) ?_
          refine b_M_next_296  ?_
          refine H _ (Mf_up (Mf_up Mf_rf (by omega)) (by omega)) ?_ ?_ ?_ ?_
          · rw [ups, upo (by omega), ks.2.2.1]
            omega
          · rw [upo (by omega), upo (by omega)]
          · rw [upo (by omega), ups]
            rcases ks.2.2.2 with ⟨a1, a2⟩ | ⟨a1, a2⟩
            · unfold sgn at a1
              unfold tm
              (repeat' split) <;> omega
            · unfold sgn at a1
              unfold tm
              (repeat' split) <;> omega
          · intro z
            rcases ks.2.2.2 with ⟨a1, a2⟩ | ⟨a1, a2⟩
            · unfold sgn at a1
              omega
            · omega
        · refine b_M_next_219  (fun c11 => ?_) (fun c11 => ?_)
          · refine b_M_next_267  ?_
            refine b_M_next_272  (fun c12 => absurd c12 (by decide)) (fun c12 => ?_)
            refine b_M_next_278  ?_
            refine b_M_next_283 (by first | omega | (rw [upo (by omega)]; omega)) ?_
            refine b_M_next_296  ?_
            refine H _ (Mf_up (Mf_up Mf_rf (by omega)) (by omega)) ?_ ?_ ?_ ?_
            · rw [ups, upo (by omega), ks.2.2.1]
              omega
            · rw [upo (by omega), upo (by omega)]
            · rw [upo (by omega), ups]
              rcases ks.2.2.2 with ⟨a1, a2⟩ | ⟨a1, a2⟩
              · unfold sgn at a1
                unfold tm
                (repeat' split) <;> omega
              · unfold sgn at a1
                unfold tm
                (repeat' split) <;> omega
            · intro z
              rcases ks.2.2.2 with ⟨a1, a2⟩ | ⟨a1, a2⟩
              · unfold sgn at a1
                omega
              · omega
          · refine b_M_next_225  (fun c13 => ?_) (fun c13 => ?_)
            · refine b_M_next_267  ?_
              refine b_M_next_272  (fun c14 => absurd c14 (by decide)) (fun c14 => ?_)
              refine b_M_next_278  ?_
              refine b_M_next_283 (by first | omega | (rw [upo (by omega)]; omega)) ?_
              refine b_M_next_296  ?_
              refine H _ (Mf_up (Mf_up Mf_rf (by omega)) (by omega)) ?_ ?_ ?_ ?_
              · rw [ups, upo (by omega), ks.2.2.1]
                omega
              · rw [upo (by omega), upo (by omega)]
              · rw [upo (by omega), ups]
                rcases ks.2.2.2 with ⟨a1, a2⟩ | ⟨a1, a2⟩
                · unfold sgn at a1
                  unfold tm
                  (repeat' split) <;> omega
                · unfold sgn at a1
                  unfold tm
                  (repeat' split) <;> omega
              · intro z
                rcases ks.2.2.2 with ⟨a1, a2⟩ | ⟨a1, a2⟩
                · unfold sgn at a1
                  omega
                · omega
            · refine b_M_next_231  (fun c15 => ?_) (fun c15 => ?_)
              · refine b_M_next_267  ?_
                refine b_M_next_272  (fun c16 => absurd c16 (by decide)) (fun c16 => ?_)
                refine b_M_next_278  ?_
                refine b_M_next_283 (by first | omega | (rw [upo (by omega)]; omega)) ?_
                refine b_M_next_296  ?_
                refine H _ (Mf_up (Mf_up Mf_rf (by omega)) (by omega)) ?_ ?_ ?_ ?_
                · rw [ups, upo (by omega), ks.2.2.1]
                  omega
                · rw [upo (by omega), upo (by omega)]
                · rw [upo (by omega), ups]
                  rcases ks.2.2.2 with ⟨a1, a2⟩ | ⟨a1, a2⟩
                  · unfold sgn at a1
                    unfold tm
                    (repeat' split) <;> omega
                  · unfold sgn at a1
                    unfold tm
                    (repeat' split) <;> omega
                · intro z
                  rcases ks.2.2.2 with ⟨a1, a2⟩ | ⟨a1, a2⟩
                  · unfold sgn at a1
                    omega
                  · omega
              · refine b_M_next_237  (fun c17 => ?_) (fun c17 => ?_)
                · refine b_M_next_267  ?_
                  refine b_M_next_272  (fun c18 => absurd c18 (by decide)) (fun c18 => ?_)
                  refine b_M_next_278  ?_
                  refine b_M_next_283 (by first | omega | (rw [upo (by omega)]; omega)) ?_
                  refine b_M_next_296  ?_
                  refine H _ (Mf_up (Mf_up Mf_rf (by omega)) (by omega)) ?_ ?_ ?_ ?_
                  · rw [ups, upo (by omega), ks.2.2.1]
                    omega
                  · rw [upo (by omega), upo (by omega)]
                  · rw [upo (by omega), ups]
                    rcases ks.2.2.2 with ⟨a1, a2⟩ | ⟨a1, a2⟩
                    · unfold sgn at a1
                      unfold tm
                      (repeat' split) <;> omega
                    · unfold sgn at a1
                      unfold tm
                      (repeat' split) <;> omega
                  · intro z
                    rcases ks.2.2.2 with ⟨a1, a2⟩ | ⟨a1, a2⟩
                    · unfold sgn at a1
                      omega
                    · omega
                · refine b_M_next_243  (fun c19 => ?_) (fun c19 => ?_)
                  · refine b_M_next_267  ?_
                    refine b_M_next_272  (fun c20 => absurd c20 (by decide)) (fun c20 => ?_)
                    refine b_M_next_278  ?_
                    refine b_M_next_283 (by first | omega | (rw [upo (by omega)]; omega)) ?_
                    refine b_M_next_296  ?_
                    refine H _ (Mf_up (Mf_up Mf_rf (by omega)) (by omega)) ?_ ?_ ?_ ?_
                    · rw [ups, upo (by omega), ks.2.2.1]
                      omega
                    · rw [upo (by omega), upo (by omega)]
                    · rw [upo (by omega), ups]
                      rcases ks.2.2.2 with ⟨a1, a2⟩ | ⟨a1, a2⟩
                      · unfold sgn at a1
                        unfold tm
                        (repeat' split) <;> omega
                      · unfold sgn at a1
                        unfold tm
                        (repeat' split) <;> omega
                    · intro z
                      rcases ks.2.2.2 with ⟨a1, a2⟩ | ⟨a1, a2⟩
                      · unfold sgn at a1
                        omega
                      · omega
                  · refine b_M_next_249  (fun c21 => ?_) (fun c21 => ?_)
                    · refine b_M_next_267  ?_
                      refine b_M_next_272  (fun c22 => absurd c22 (by decide)) (fun c22 => ?_)
                      refine b_M_next_278  ?_
                      refine b_M_next_283 (by first | omega | (rw [upo (by omega)]; omega)) ?_
                      refine b_M_next_296  ?_
                      refine H _ (Mf_up (Mf_up Mf_rf (by omega)) (by omega)) ?_ ?_ ?_ ?_
                      · rw [ups, upo (by omega), ks.2.2.1]
                        omega
                      · rw [upo (by omega), upo (by omega)]
                      · rw [upo (by omega), ups]
                        rcases ks.2.2.2 with ⟨a1, a2⟩ | ⟨a1, a2⟩
                        · unfold sgn at a1
                          unfold tm
                          (repeat' split) <;> omega
                        · unfold sgn at a1
                          unfold tm
                          (repeat' split) <;> omega
                      · intro z
                        rcases ks.2.2.2 with ⟨a1, a2⟩ | ⟨a1, a2⟩
                        · unfold sgn at a1
                          omega
                        · omega
                    · refine b_M_next_255  (fun c23 => ?_) (fun c23 => ?_)
                      · refine b_M_next_267  ?_
                        refine b_M_next_272  (fun c24 => absurd c24 (by decide)) (fun c24 => ?_)
                        refine b_M_next_278  ?_
                        refine b_M_next_283 (by first | omega | (rw [upo (by omega)]; omega)) ?_
                        refine b_M_next_296  ?_
                        refine H _ (Mf_up (Mf_up Mf_rf (by omega)) (by omega)) ?_ ?_ ?_ ?_
                        · rw [ups, upo (by omega), ks.2.2.1]
                          omega
                        · rw [upo (by omega), upo (by omega)]
                        · rw [upo (by omega), ups]
                          rcases ks.2.2.2 with ⟨a1, a2⟩ | ⟨a1, a2⟩
                          · unfold sgn at a1
                            unfold tm
                            (repeat' split) <;> omega
                          · unfold sgn at a1
                            unfold tm
                            (repeat' split) <;> omega
                        · intro z
                          rcases ks.2.2.2 with ⟨a1, a2⟩ | ⟨a1, a2⟩
                          · unfold sgn at a1
                            omega
                          · omega
                      · refine b_M_next_261  (fun c25 => ?_) (fun c25 => ?_)
                        · refine b_M_next_271  ?_
                          refine b_M_next_272  (fun c26 => ?_) (fun c26 => absurd c26 (by decide))
                          refine b_M_next_282  ?_
                          refine b_M_next_283 (by first | omega | (rw [upo (by omega)]; omega)) ?_
                          refine b_M_next_296  ?_
                          refine H _ (Mf_up (Mf_up Mf_rf (by omega)) (by omega)) ?_ ?_ ?_ ?_
                          · rw [ups, upo (by omega), ks.2.2.1]
                            omega
                          · rw [upo (by omega), upo (by omega)]
                          · rw [upo (by omega), ups]
                            rcases ks.2.2.2 with ⟨a1, a2⟩ | ⟨a1, a2⟩
                            · unfold sgn at a1
                              unfold tm
                              (repeat' split) <;> omega
                            · unfold sgn at a1
                              unfold tm
                              (repeat' split) <;> omega
                          · intro z
                            rcases ks.2.2.2 with ⟨a1, a2⟩ | ⟨a1, a2⟩
                            · unfold sgn at a1
                              omega
                            · omega
                        · refine b_M_next_267  ?_
                          refine b_M_next_272  (fun c27 => absurd c27 (by decide)) (fun c27 => ?_)
                          refine b_M_next_278  ?_
                          refine b_M_next_283 (by first | omega | (rw [upo (by omega)]; omega)) ?_
                          refine b_M_next_296  ?_
                          refine H _ (Mf_up (Mf_up Mf_rf (by omega)) (by omega)) ?_ ?_ ?_ ?_
                          · rw [ups, upo (by omega), ks.2.2.1]
                            omega
                          · rw [upo (by omega), upo (by omega)]
                          · rw [upo (by omega), ups]
                            rcases ks.2.2.2 with ⟨a1, a2⟩ | ⟨a1, a2⟩
                            · unfold sgn at a1
                              unfold tm
                              (repeat' split) <;> omega
                            · unfold sgn at a1
                              unfold tm
                              (repeat' split) <;> omega
                          · intro z
                            rcases ks.2.2.2 with ⟨a1, a2⟩ | ⟨a1, a2⟩
                            · unfold sgn at a1
                              omega
                            · omega
theorem lp_M_next_0 {ro : Nat → Int × (Int → Int)} {d : Nat} {b : Bool} {L : Nat → Int → Int} {Q : Option am_V → am_H → Prop} {bc bs : Nat} {tn s p e t v : Int} {T : Int → Int} {I0 : Nat → Int → Int} (hn : 0 ≤ s ∧ tn ≤ 120) (h3 : tp tn T I0) (hW : ∀ k, 0 ≤ k → k < 20 → L 75 k = wdv k) (hk : Tok T tn s p e t v) (H : ∀ (I' : Nat → Int → Int), Mf I0 I' → I' 66 11 = e → I' 66 12 = p → I' 66 13 = tm t → (t = 2 ∨ 1000 ≤ t → I' 66 14 = vm t v) → Q none (sh b, I', L)) : ∀ (n : Nat) (I : Nat → Int → Int), (Mf I0 I) → (s ≤ I 66 11) → (I 66 11 ≤ p) → p - I 66 11 < (n : Int) → am_ex (am_m ro (d + 2)) ro am_M197 Q (0, [some (am_R 66), none, none], [], (sh b, I, L), bc, bs) := by
  intro n
  induction n with
  | zero =>
    intro I  i0 i1 i2 im
    exact absurd im (by omega)
  | succ n ih =>
    intro I  i0 i1 i2 im
    have hk1 := hk.1
    have hk2 := hk.2.1
    have e8 : I 66 8 = tn := (i0.2 8 (by omega)).trans h3.1
    refine b_M_next_0  (fun c1 => ?_) (fun c1 => ?_)
    · have ep : I 66 11 = p := by
        refine Decidable.byContradiction (fun z => ?_)
        first
          | omega
          | (have q := hk.2.2.1 (I 66 11) (by omega) (by omega); rw [← h3.2 (I 66 11) (by omega) (by omega), ← i0.1 73 (by omega)] at q; exact absurd q (by assumption))
      have mf : Mf I0 (am_up (am_up (am_up I 66 12 (I 66 11)) 66 13 0) 66 14 0) := Mf_up (Mf_up (Mf_up i0 (by omega)) (by omega)) (by omega)
      have q12 : (am_up (am_up (am_up I 66 12 (I 66 11)) 66 13 0) 66 14 0) 66 12 = p := by rw [upo (by omega), upo (by omega), ups]; exact ep
      have q11 : (am_up (am_up (am_up I 66 12 (I 66 11)) 66 13 0) 66 14 0) 66 11 = p := by rw [upo (by omega), upo (by omega), upo (by omega)]; exact ep
      have q8 : (am_up (am_up (am_up I 66 12 (I 66 11)) 66 13 0) 66 14 0) 66 8 = tn := by rw [upo (by omega), upo (by omega), upo (by omega)]; exact e8
      refine b_M_next_38  (fun c2 => ?_) (fun c2 => ?_)
      · rcases hk.2.2.2.2 with ⟨a1, a2, a3⟩ | ⟨a1, a2, a3, a4⟩
        · omega
        · exact lp_M_next_68 (d := d) (p := p) (by omega) (tp_fr h3 mf) q11 ups hW a4 (fun I9 f1 f2 f3 f4 f5 => H I9 (Mf_tr mf f1) f2 (f3.trans q12) f4 f5)
      · refine b_M_next_67  ?_
        rcases hk.2.2.2.2 with ⟨a1, a2, a3⟩ | ⟨a1, a2, a3, a4⟩
        · refine H _ mf (by rw [q11]; omega) q12 ?_ ?_
          · rw [upo (by omega), ups, a3]
            rfl
          · intro z
            omega
        · omega
    · refine b_M_next_11 (by omega) (fun c3 => ?_) (fun c3 => ?_)
      · have ep : I 66 11 = p := by
          refine Decidable.byContradiction (fun z => ?_)
          first
            | omega
            | (have q := hk.2.2.1 (I 66 11) (by omega) (by omega); rw [← h3.2 (I 66 11) (by omega) (by omega), ← i0.1 73 (by omega)] at q; exact absurd q (by assumption))
        have mf : Mf I0 (am_up (am_up (am_up I 66 12 (I 66 11)) 66 13 0) 66 14 0) := Mf_up (Mf_up (Mf_up i0 (by omega)) (by omega)) (by omega)
        have q12 : (am_up (am_up (am_up I 66 12 (I 66 11)) 66 13 0) 66 14 0) 66 12 = p := by rw [upo (by omega), upo (by omega), ups]; exact ep
        have q11 : (am_up (am_up (am_up I 66 12 (I 66 11)) 66 13 0) 66 14 0) 66 11 = p := by rw [upo (by omega), upo (by omega), upo (by omega)]; exact ep
        have q8 : (am_up (am_up (am_up I 66 12 (I 66 11)) 66 13 0) 66 14 0) 66 8 = tn := by rw [upo (by omega), upo (by omega), upo (by omega)]; exact e8
        refine b_M_next_38  (fun c4 => ?_) (fun c4 => ?_)
        · rcases hk.2.2.2.2 with ⟨a1, a2, a3⟩ | ⟨a1, a2, a3, a4⟩
          · omega
          · exact lp_M_next_68 (d := d) (p := p) (by omega) (tp_fr h3 mf) q11 ups hW a4 (fun I9 f1 f2 f3 f4 f5 => H I9 (Mf_tr mf f1) f2 (f3.trans q12) f4 f5)
        · refine b_M_next_67  ?_
          rcases hk.2.2.2.2 with ⟨a1, a2, a3⟩ | ⟨a1, a2, a3, a4⟩
          · refine H _ mf (by rw [q11]; omega) q12 ?_ ?_
            · rw [upo (by omega), ups, a3]
              rfl
            · intro z
              omega
          · omega
      · have e7 : I 66 11 < p := by
          refine Decidable.byContradiction (fun z => ?_)
          have e6 : I 66 11 = p := by omega
          have q := hk.2.2.2.1 (by omega)
          rw [← e6, ← h3.2 (I 66 11) (by omega) (by omega), ← i0.1 73 (by omega)] at q
          omega
        refine b_M_next_25 (by omega) ?_
        exact ih _ (Mf_up i0 (by omega)) (by rw [ups]; omega) (by rw [ups]; omega) (by rw [ups]; omega)
theorem s_M_next {ro : Nat → Int × (Int → Int)} {d : Nat} {b : Bool} {I L : Nat → Int → Int} {Q : Option am_V → am_H → Prop} {tn s p e t v : Int} {T : Int → Int} (hn : 0 ≤ s ∧ tn ≤ 120) (h3 : tp tn T I) (hW : ∀ k, 0 ≤ k → k < 20 → L 75 k = wdv k) (hk : Tok T tn s p e t v) (H : ∀ (I' : Nat → Int → Int), Mf I I' → I' 66 11 = e → I' 66 12 = p → I' 66 13 = tm t → (t = 2 ∨ 1000 ≤ t → I' 66 14 = vm t v) → Q none (sh b, I', L)) (h11 : I 66 11 = s) : am_m ro (d + 3) 197 [am_R 66] (sh b, I, L) Q := by
  refine am_in rfl rfl rfl rfl ?_
  exact lp_M_next_0 (d := d) hn h3 hW hk H 121 I Mf_rf (by omega) (by have q := hk.1; omega) (by have q := hk.2.1; omega)
