theorem pv_n0 {p G q : Int → Int} {b l n : Int} (h : lkN p G q b n = 0) : pvN p G q b l n = 0 := by
  rw [pvN_def, h]
  split
  · rw [Int.zero_mul, Int.zero_ediv]
  · rfl
theorem QL_z {I L : Nat → Int → Int} {q : Int → Int} {f y s n : Int} (h : Mo I L) (g : lQ (I 67) q) (hp : I 67 0 = y) (hy : 0 ≤ y ∧ y < 40) (hs : 0 ≤ s) (hf : 0 ≤ f ∧ f ≤ 410000000) (hn : I 67 3 ≤ n ∧ 0 ≤ n ∧ n < 20) : ∀ i : Nat, s + i ≤ y → (QL (I 67) q f y s i).1 (943 + 20 * y + n) = q (943 + 20 * y + n)
  | 0, _ => rfl
  | i + 1, hi => by
    have ct := Mo_ct h
    have ih := QL_z (f := f) h g hp hy hs hf hn i (by omega)
    have hq := QL_hq (f := f) (s := s) (i := i) g hp hy hs hf (by omega)
    have e : (QL (I 67) q f y s (i + 1)).1 (943 + 20 * y + n) = stq y (s + i) (QL (I 67) q f y s i).1 (fun n => pvN (I 67) (fun m => wg (I 67) q (s + i) m y (-1)) (QL (I 67) q f y s i).1 (s + i) (QL (I 67) q f y s i).2 n) (943 + 20 * y + n) := rfl
    have e2 : 943 + 20 * y + n = 943 + (20 * y + n) := by omega
    have gb := g.1 (s + i) (by omega) (by omega)
    rw [e, e2, stq44 (by omega) (by omega), if_pos (by omega), ← e2, ih]
    have z : pvN (I 67) (fun m => wg (I 67) q (s + i) m y (-1)) (QL (I 67) q f y s i).1 (s + i) (QL (I 67) q f y s i).2 n = 0 := by
      refine pv_n0 ?_
      have w0 : wg (I 67) q (s + i) n y (-1) = 0 := wg_nh h (by omega) (by omega) (nh h (Or.inl hn.1) hn.2.1)
      have s0 : 0 ≤ sm (fun k => if I 67 (480 + k) = n then (QL (I 67) q f y s i).1 (123 + 20 * (s + i) + k) else 0) (I 67 3).toNat := sm_nn _ (fun k k1 k2 => by
        have := (hq (20 * (s + i) + k) (by omega) (by omega)).1.1
        rw [← Int.add_assoc] at this
        show 0 ≤ (if I 67 (480 + k) = n then (QL (I 67) q f y s i).1 (123 + 20 * (s + i) + k) else 0)
        split <;> omega)
      show max 0 (wg (I 67) q (s + i) n y (-1) - sm (fun k => if I 67 (480 + k) = n then (QL (I 67) q f y s i).1 (123 + 20 * (s + i) + k) else 0) (I 67 3).toNat) = 0
      omega
    rw [show 20 * y + n - 20 * y = n by omega, z]
    omega
set_option maxHeartbeats 1000000 in
theorem l3_M_close {ro : Nat → Int × (Int → Int)} {d : Nat} {b : Bool} {I : Nat → Int → Int} {Q : Option am_V → am_H → Prop} {bc bs : Nat} {x1 : Int} {q v : Int → Int} {L0 : Nat → Int → Int} (hM : Mo I L0) (hx : (0 ≤ x1 ∧ x1 < 40) ∧ I 67 0 = x1) (hq : ∀ k, 0 ≤ k → k < 820 → (0 ≤ q (123 + k) ∧ q (123 + k) ≤ 50000000000) ∧ 0 ≤ q (943 + k) ∧ q (943 + k) ≤ 50000000000) (hv : ∀ n, 0 ≤ n → n < 20 → L0 82 n = v n ∧ 0 ≤ v n ∧ v n ≤ 3000000000) (H : ∀ L : Nat → Int → Int, (∀ k, k ≠ 69 → L k = L0 k) → (∀ j, L 69 j = q j + (if 123 + 20 * x1 ≤ j ∧ j < 123 + 20 * x1 + I 67 3 then v (j - (123 + 20 * x1)) else 0) + (if 943 + 20 * x1 ≤ j ∧ j < 943 + 20 * x1 + I 67 3 then v (j - (943 + 20 * x1)) else 0)) → Q (some (am_I (sm (fun n => if 0 < q (943 + 20 * x1 + n) + v n then 1 else 0) (I 67 3).toNat))) (sh b, am_up (am_up I 67 0 (x1 + 1)) 67 (34 + x1 + 1) (I 67 (34 + x1)), L)) : ∀ (n : Nat) (L : Nat → Int → Int) (x7 x8 : Int), (0 ≤ x8) → (x8 ≤ I 67 3) → (∀ k, k ≠ 69 → L k = L0 k) → (∀ j, L 69 j = q j + (if 123 + 20 * x1 ≤ j ∧ j < 123 + 20 * x1 + x8 then v (j - (123 + 20 * x1)) else 0) + (if 943 + 20 * x1 ≤ j ∧ j < 943 + 20 * x1 + x8 then v (j - (943 + 20 * x1)) else 0)) → (x7 = sm (fun n => if 0 < q (943 + 20 * x1 + n) + v n then 1 else 0) x8.toNat) → (0 ≤ x7 ∧ x7 ≤ x8) → I 67 3 - x8 < (n : Int) → am_ex (am_m ro (d + 1)) ro am_M229 Q (177, [some (am_R 66), some (am_I x1), none, none, none, none, none, some (am_I x7), some (am_I x8)], [], (sh b, I, L), bc, bs) := by
  intro n
  induction n with
  | zero =>
    intro L x7 x8 i0 i1 i2 i3 i4 i5 im
    exact absurd im (by omega)
  | succ n ih =>
    intro L x7 x8 i0 i1 i2 i3 i4 i5 im
    have ct := Mo_ct hM
    refine b_M_close_177  (fun c1 => ?_) (fun c1 => ?_)
    · refine b_M_close_251 (by first | omega | (simp (disch := omega) only [upo, upm, ups]; omega)) (by first | omega | (simp (disch := omega) only [upo, upm, ups]; omega)) (by first | omega | (simp (disch := omega) only [upo, upm, ups]; omega)) (by first | omega | (simp (disch := omega) only [upo, upm, ups]; omega)) (by first | omega | (simp (disch := omega) only [upo, upm, ups]; omega)) (by first | omega | (simp (disch := omega) only [upo, upm, ups]; omega)) ?_
      have e9 : x8 = I 67 3 := by omega
      rw [e9] at i3 i4
      have k9 := H L i2 i3
      rw [← i4] at k9
      simp (disch := omega) only [upo, upm, ups]
      rw [hx.2]
      exact k9
    · have hv9 := hv x8 (by omega) (by omega)
      have e82 : L 82 x8 = v x8 := by rw [i2 82 (by omega)]; exact hv9.1
      have q9 := (hq (20 * x1 + x8) (by omega) (by omega)).1
      have q8 := (hq (20 * x1 + x8) (by omega) (by omega)).2
      rw [← Int.add_assoc] at q9 q8
      have j43 := i3 (123 + 20 * x1 + x8)
      have j44 := i3 (943 + 20 * x1 + x8)
      rw [if_neg (by omega), if_neg (by omega)] at j43 j44
      refine b_M_close_188 (by first | omega | (simp (disch := omega) only [upo, upm, ups]; omega)) (fun c2 => ?_) (fun c2 => ?_)
      · have v0 : v x8 = 0 := by omega
        have e94 : L 69 (943 + 20 * x1 + x8) = q (943 + 20 * x1 + x8) + v x8 := by omega
        refine b_M_close_214 (by first | omega | (simp (disch := omega) only [upo, upm, ups]; omega)) (by first | omega | (simp (disch := omega) only [upo, upm, ups]; omega)) (by first | omega | (simp (disch := omega) only [upo, upm, ups]; omega)) (by first | omega | (simp (disch := omega) only [upo, upm, ups]; omega)) (fun c3 => ?_) (fun c3 => ?_)
        · refine b_M_close_241  ?_
          refine b_M_close_242 (by first | omega | (simp (disch := omega) only [upo, upm, ups]; omega)) (by first | omega | (simp (disch := omega) only [upo, upm, ups]; omega)) ?_
          refine ih L (x7 + 0) (x8 + 1) (by omega) (by omega) i2 (fun j => ?_) ?_ (by omega) (by omega)
          · rw [i3 j]
            congr 1
            · congr 1
              by_cases e2 : j = 123 + 20 * x1 + x8
              · rw [e2, if_neg (by omega), if_pos (by omega), show 123 + 20 * x1 + x8 - (123 + 20 * x1) = x8 by omega]
                exact v0.symm
              · by_cases c : 123 + 20 * x1 ≤ j ∧ j < 123 + 20 * x1 + x8
                · rw [if_pos c, if_pos (by omega)]
                · rw [if_neg c, if_neg (by omega)]
            · by_cases e2 : j = 943 + 20 * x1 + x8
              · rw [e2, if_neg (by omega), if_pos (by omega), show 943 + 20 * x1 + x8 - (943 + 20 * x1) = x8 by omega]
                exact v0.symm
              · by_cases c : 943 + 20 * x1 ≤ j ∧ j < 943 + 20 * x1 + x8
                · rw [if_pos c, if_pos (by omega)]
                · rw [if_neg c, if_neg (by omega)]
          · rw [sm_step (by omega), i4]
            first
              | (rw [if_pos (by omega)]; done)
              | (rw [if_neg (by omega)]; done)
        · refine b_M_close_237  ?_
          refine b_M_close_242 (by first | omega | (simp (disch := omega) only [upo, upm, ups]; omega)) (by first | omega | (simp (disch := omega) only [upo, upm, ups]; omega)) ?_
          refine ih L (x7 + 1) (x8 + 1) (by omega) (by omega) i2 (fun j => ?_) ?_ (by omega) (by omega)
          · rw [i3 j]
            congr 1
            · congr 1
              by_cases e2 : j = 123 + 20 * x1 + x8
              · rw [e2, if_neg (by omega), if_pos (by omega), show 123 + 20 * x1 + x8 - (123 + 20 * x1) = x8 by omega]
                exact v0.symm
              · by_cases c : 123 + 20 * x1 ≤ j ∧ j < 123 + 20 * x1 + x8
                · rw [if_pos c, if_pos (by omega)]
                · rw [if_neg c, if_neg (by omega)]
            · by_cases e2 : j = 943 + 20 * x1 + x8
              · rw [e2, if_neg (by omega), if_pos (by omega), show 943 + 20 * x1 + x8 - (943 + 20 * x1) = x8 by omega]
                exact v0.symm
              · by_cases c : 943 + 20 * x1 ≤ j ∧ j < 943 + 20 * x1 + x8
                · rw [if_pos c, if_pos (by omega)]
                · rw [if_neg c, if_neg (by omega)]
          · rw [sm_step (by omega), i4]
            first
              | (rw [if_pos (by omega)]; done)
              | (rw [if_neg (by omega)]; done)
      · refine b_M_close_200 (by first | omega | (simp (disch := omega) only [upo, upm, ups]; omega)) (s_M_pays (by omega) (by rw [hx.2]; omega) ?_)
        have e94 : (am_up (am_up L 69 (123 + 20 * x1 + x8) (L 69 (123 + 20 * x1 + x8) + (L 82 x8))) 69 (943 + 20 * I 67 0 + x8) (L 69 (943 + 20 * I 67 0 + x8) + (L 82 x8))) 69 (943 + 20 * x1 + x8) = q (943 + 20 * x1 + x8) + v x8 := by rw [hx.2, ups, j44, e82]; omega
        refine b_M_close_214 (by first | omega | (simp (disch := omega) only [upo, upm, ups]; omega)) (by first | omega | (simp (disch := omega) only [upo, upm, ups]; omega)) (by first | omega | (simp (disch := omega) only [upo, upm, ups]; omega)) (by first | omega | (simp (disch := omega) only [upo, upm, ups]; omega)) (fun c4 => ?_) (fun c4 => ?_)
        · refine b_M_close_241  ?_
          refine b_M_close_242 (by first | omega | (simp (disch := omega) only [upo, upm, ups]; omega)) (by first | omega | (simp (disch := omega) only [upo, upm, ups]; omega)) ?_
          refine ih ((((am_up (am_up L 69 (123 + 20 * x1 + x8) (L 69 (123 + 20 * x1 + x8) + (L 82 x8))) 69 (943 + 20 * I 67 0 + x8) (L 69 (943 + 20 * I 67 0 + x8) + (L 82 x8)))))) (x7 + 0) (x8 + 1) (by omega) (by omega) (fun k hk => by rw [upn hk, upn hk]; exact i2 k hk) (fun j => ?_) ?_ (by omega) (by omega)
          · rw [hx.2]
            by_cases e1 : j = 943 + 20 * x1 + x8
            · rw [e1, ups, j44, e82, if_neg (by omega), if_pos (by omega), show 943 + 20 * x1 + x8 - (943 + 20 * x1) = x8 by omega]
              omega
            · rw [upo e1]
              by_cases e2 : j = 123 + 20 * x1 + x8
              · rw [e2, ups, j43, e82, if_pos (by omega), if_neg (by omega), show 123 + 20 * x1 + x8 - (123 + 20 * x1) = x8 by omega]
                omega
              · rw [upo e2, i3 j]
                congr 1
                · congr 1
                  by_cases c : 123 + 20 * x1 ≤ j ∧ j < 123 + 20 * x1 + x8
                  · rw [if_pos c, if_pos (by omega)]
                  · rw [if_neg c, if_neg (by omega)]
                · by_cases c : 943 + 20 * x1 ≤ j ∧ j < 943 + 20 * x1 + x8
                  · rw [if_pos c, if_pos (by omega)]
                  · rw [if_neg c, if_neg (by omega)]
          · rw [sm_step (by omega), i4]
            first
              | (rw [if_pos (by omega)]; done)
              | (rw [if_neg (by omega)]; done)
        · refine b_M_close_237  ?_
          refine b_M_close_242 (by first | omega | (simp (disch := omega) only [upo, upm, ups]; omega)) (by first | omega | (simp (disch := omega) only [upo, upm, ups]; omega)) ?_
          refine ih ((((am_up (am_up L 69 (123 + 20 * x1 + x8) (L 69 (123 + 20 * x1 + x8) + (L 82 x8))) 69 (943 + 20 * I 67 0 + x8) (L 69 (943 + 20 * I 67 0 + x8) + (L 82 x8)))))) (x7 + 1) (x8 + 1) (by omega) (by omega) (fun k hk => by rw [upn hk, upn hk]; exact i2 k hk) (fun j => ?_) ?_ (by omega) (by omega)
          · rw [hx.2]
            by_cases e1 : j = 943 + 20 * x1 + x8
            · rw [e1, ups, j44, e82, if_neg (by omega), if_pos (by omega), show 943 + 20 * x1 + x8 - (943 + 20 * x1) = x8 by omega]
              omega
            · rw [upo e1]
              by_cases e2 : j = 123 + 20 * x1 + x8
              · rw [e2, ups, j43, e82, if_pos (by omega), if_neg (by omega), show 123 + 20 * x1 + x8 - (123 + 20 * x1) = x8 by omega]
                omega
              · rw [upo e2, i3 j]
                congr 1
                · congr 1
                  by_cases c : 123 + 20 * x1 ≤ j ∧ j < 123 + 20 * x1 + x8
                  · rw [if_pos c, if_pos (by omega)]
                  · rw [if_neg c, if_neg (by omega)]
                · by_cases c : 943 + 20 * x1 ≤ j ∧ j < 943 + 20 * x1 + x8
                  · rw [if_pos c, if_pos (by omega)]
                  · rw [if_neg c, if_neg (by omega)]
          · rw [sm_step (by omega), i4]
            first
              | (rw [if_pos (by omega)]; done)
              | (rw [if_neg (by omega)]; done)
