theorem fnd_bd2 {I L : Nat → Int → Int} {q : Int → Int} {y : Int} (h : Mo I L) (g : lQ (I 67) q) (hy : 0 ≤ y ∧ y < 40) : (0 ≤ I 67 (239 + y) ∧ I 67 (239 + y) ≤ 9999999) ∧ (0 < y → 0 ≤ q (81 + y) ∧ q (81 + y) ≤ 10000000 * y) ∧ 0 ≤ fnd (I 67) q y ∧ fnd (I 67) q y ≤ 10000000 * (y + 1) ∧ fnd (I 67) q y ≤ 410000000 := by
  obtain ⟨C, CL, hM0⟩ := id h
  have w := hM0.1.2.2.2.2.2.2.2.1.2.1 y hy.1 (by omega)
  have w2 : 0 < y → 0 ≤ q (81 + y) ∧ q (81 + y) ≤ 10000000 * y := fun hp => by
    have u := g.1 (y - 1) (by omega) (by omega)
    have e : 82 + (y - 1) = 81 + y := by omega
    rw [e] at u
    omega
  refine ⟨by omega, w2, ?_⟩
  unfold fnd
  split
  · rename_i hp
    have := w2 hp
    omega
  · omega
theorem sm_cut {f : Int → Int} {m n : Nat} (h : m ≤ n) (hz : ∀ k : Int, m ≤ k → k < n → f k = 0) : sm f n = sm f m := by
  obtain ⟨j, rfl⟩ : ∃ j, n = m + j := ⟨n - m, by omega⟩
  induction j with
  | zero => rfl
  | succ j ih =>
    have e : sm f (m + (j + 1)) = sm f (m + j) + f ((m + j : Nat) : Int) := rfl
    rw [e, hz _ (by omega) (by omega), ih (by omega) (fun k a1 a2 => hz k a1 (by omega))]
    omega
set_option maxHeartbeats 2000000 in
theorem lp_M_close {ro : Nat → Int × (Int → Int)} {d : Nat} {b : Bool} {Q : Option am_V → am_H → Prop} {bc bs : Nat} {x1 x2 : Int} {I0 L0 : Nat → Int → Int} (hM : Mo I0 L0) (hw : I0 66 22 = -1) (lq : lQ (I0 67) (L0 69)) (hy : x1 = I0 67 0 ∧ 0 ≤ x1 ∧ x1 < 40) (h2 : x2 = fnd (I0 67) (L0 69) x1) (H : ∀ I L : Nat → Int → Int, (∀ k, k ≠ 67 → k ≠ 5 → k ≠ 35 → k ≠ 51 → k ≠ 52 → k ≠ 59 → k ≠ 63 → k ≠ 66 → k ≠ 76 → k ≠ 77 → k ≠ 78 → k ≠ 80 → k ≠ 83 → I k = I0 k) → (∀ j, j ≠ 23 → I 66 j = I0 66 j) → (∀ j, I 67 j = if j = 35 + x1 then I0 67 (34 + x1) else if j = 0 then x1 + 1 else I0 67 j) → (∀ k, k ≠ 69 → k ≤ 50 ∨ (63 ≤ k ∧ k ≤ 65) ∨ (67 ≤ k ∧ k ≤ 75) ∨ 85 ≤ k → L k = L0 k) → (∀ j, L 69 j = qZ (I0 67) (L0 69) x1 j) → Q (some (am_I (cZ (I0 67) (L0 69) x1))) (sh b, I, L)) : ∀ (n : Nat) (I L : Nat → Int → Int) (x5 x7 : Int), (x1 - ltN (I0 67) x1 ≤ x7) → (x7 ≤ x1) → (Sm I0 L0 I L) → (L 69 = (QL (I0 67) (L0 69) (fnd (I0 67) (L0 69) x1) x1 (sN (I0 67) x1) (max x7 (sN (I0 67) x1) - sN (I0 67) x1).toNat).1) → (x5 = (QL (I0 67) (L0 69) (fnd (I0 67) (L0 69) x1) x1 (sN (I0 67) x1) (max x7 (sN (I0 67) x1) - sN (I0 67) x1).toNat).2) → x1 - x7 < (n : Int) → am_ex (am_m ro (d + 9)) ro am_M229 Q (100, [some (am_R 66), some (am_I x1), some (am_L x2), none, none, some (am_L x5), none, some (am_I x7), none], [], (sh b, I, L), bc, bs) := by
  intro n
  induction n with
  | zero =>
    intro I L x5 x7 i0 i1 i2 i3 i4 im
    exact absurd im (by omega)
  | succ n ih =>
    intro I L x5 x7 i0 i1 i2 i3 i4 im
    have ct := Mo_ct hM
    have lt40 : 0 ≤ ltN (I0 67) x1 ∧ ltN (I0 67) x1 ≤ 40 := by unfold ltN; omega
    have fb := fnd_bd2 hM lq hy.2
    have f67 := Sm_67 i2
    have mI := Mo_sm hM i2
    have f22 : I 66 22 = -1 := by rw [i2.2.1 22 (by omega)]; exact hw
    have ey : I 67 0 = x1 := by rw [f67]; exact hy.1.symm
    have sn : 0 ≤ sN (I0 67) x1 ∧ sN (I0 67) x1 ≤ x1 ∧ sN (I0 67) x1 = max 0 (x1 - ltN (I0 67) x1) := by unfold sN ltN; omega
    have bq := QL_bd (p := I0 67) (q0 := L0 69) (f := fnd (I0 67) (L0 69) x1) (y := x1) (s := sN (I0 67) x1) ⟨hy.2.1, by omega⟩ sn.1 ⟨fb.2.2.1, fb.2.2.2.2⟩ (max x7 (sN (I0 67) x1) - sN (I0 67) x1).toNat (by omega)
    have hq := QL_hq (f := fnd (I0 67) (L0 69) x1) (s := sN (I0 67) x1) (i := (max x7 (sN (I0 67) x1) - sN (I0 67) x1).toNat) lq hy.1.symm hy.2 sn.1 ⟨fb.2.2.1, fb.2.2.2.2⟩ (by omega)
    refine b_M_close_100  (fun c1 => ?_) (fun c1 => ?_)
    · have e7 : x7 = x1 := by omega
      have m7 : max x7 (sN (I0 67) x1) = x1 := by omega
      rw [m7] at i3 i4 bq hq
      have qe : (QL (I0 67) (L0 69) (fnd (I0 67) (L0 69) x1) x1 (sN (I0 67) x1) (x1 - sN (I0 67) x1).toNat) = qE (I0 67) (L0 69) x1 := rfl
      rw [qe] at i3 i4 bq hq
      have m4 : Mo I (am_up L 69 (41 + x1) (x2 - x5)) := Mo_L mI
      refine b_M_close_127 (by first | omega | (simp (disch := omega) only [upo, upm, ups]; omega)) (by first | omega | (simp (disch := omega) only [upo, upm, ups]; omega)) (by first | omega | (simp (disch := omega) only [upo, upm, ups]; omega)) (s_M_parted m4 (by omega) (fun I9 L9 s9 r9 r8 => ?_))
      have f679 : I9 67 = I0 67 := by rw [Sc_67 s9]; exact f67
      rw [f67, f22] at r9 r8
      refine b_M_close_148 (by first | omega | (simp (disch := omega) only [upo, upm, ups]; omega)) (by first | omega | (simp (disch := omega) only [upo, upm, ups]; omega)) (by first | omega | (simp (disch := omega) only [upo, upm, ups]; omega)) (by first | omega | (simp (disch := omega) only [upo, upm, ups]; omega)) ?_
      have l9 : ∀ j, L9 69 j = if j = 41 + x1 then fnd (I0 67) (L0 69) x1 - (qE (I0 67) (L0 69) x1).2 else (qE (I0 67) (L0 69) x1).1 j := fun j => by
        rw [Sc_69 s9]
        by_cases ej : j = 41 + x1
        · rw [ej, ups, if_pos rfl, h2, i4]
        · rw [upo ej, if_neg ej, i3]
      have vb : ∀ n, 0 ≤ n → n < 20 → 0 ≤ fG (pY (I0 67) x1) (mY (I0 67) x1) (tY (I0 67) x1) (qE (I0 67) (L0 69) x1).2 n ∧ fG (pY (I0 67) x1) (mY (I0 67) x1) (tY (I0 67) x1) (qE (I0 67) (L0 69) x1).2 n ≤ 3000000000 := fun n n1 n2 => fG_bd (pp_of hM (by omega)) (by omega) ⟨n1, n2⟩ (sy_r hM (nmN_r (by omega)))
      have v0 : ∀ n, I0 67 3 ≤ n → 0 ≤ n → fG (pY (I0 67) x1) (mY (I0 67) x1) (tY (I0 67) x1) (qE (I0 67) (L0 69) x1).2 n = 0 := fun n n1 n2 => fG_P0 (pp_of hM (by omega)) (by omega) (by
        have := pnt_nh (E := fun e => est (I0 67) x1 x1 e) (y := x1) (w := -1) hM (nh hM (Or.inl n1) n2)
        unfold pY
        omega)
      refine l3_M_close (d := d + 8) (q := (fun j => if j = 82 + x1 then fR (pY (I0 67) x1) (mY (I0 67) x1) (tY (I0 67) x1) (qE (I0 67) (L0 69) x1).2 else if j = x1 then (qE (I0 67) (L0 69) x1).2 else if j = 41 + x1 then fnd (I0 67) (L0 69) x1 - (qE (I0 67) (L0 69) x1).2 else (qE (I0 67) (L0 69) x1).1 j)) (v := (fun n => fG (pY (I0 67) x1) (mY (I0 67) x1) (tY (I0 67) x1) (qE (I0 67) (L0 69) x1).2 n)) (L0 := _) (Mo_L (Mo_sc (Mo_L mI) s9)) ⟨hy.2, by rw [f679]; exact hy.1.symm⟩ (fun k k1 k2 => ?_) (fun n n1 n2 => ⟨?_, vb n n1 n2⟩) (fun L8 u1 u2 => ?_) 21 _ 0 0 (by omega) (by rw [f679]; omega) (fun _ _ => rfl) (fun j => ?_) rfl (by omega) (by rw [f679]; omega)
      · show (0 ≤ (if 123 + k = 82 + x1 then _ else if 123 + k = x1 then _ else if 123 + k = 41 + x1 then _ else (qE (I0 67) (L0 69) x1).1 (123 + k)) ∧ (if 123 + k = 82 + x1 then _ else if 123 + k = x1 then _ else if 123 + k = 41 + x1 then _ else (qE (I0 67) (L0 69) x1).1 (123 + k)) ≤ 50000000000) ∧ 0 ≤ (if 943 + k = 82 + x1 then _ else if 943 + k = x1 then _ else if 943 + k = 41 + x1 then _ else (qE (I0 67) (L0 69) x1).1 (943 + k)) ∧ (if 943 + k = 82 + x1 then _ else if 943 + k = x1 then _ else if 943 + k = 41 + x1 then _ else (qE (I0 67) (L0 69) x1).1 (943 + k)) ≤ 50000000000
        rw [if_neg (show ¬ 123 + k = 82 + x1 by omega), if_neg (show ¬ 123 + k = x1 by omega), if_neg (show ¬ 123 + k = 41 + x1 by omega), if_neg (show ¬ 943 + k = 82 + x1 by omega), if_neg (show ¬ 943 + k = x1 by omega), if_neg (show ¬ 943 + k = 41 + x1 by omega)]
        exact hq k k1 k2
      · rw [upm (by omega), upm (by omega), r9 n n1 n2, i4]
        rfl
      · rw [f679] at u2 ⊢
        have zz : ∀ n, I0 67 3 ≤ n → 0 ≤ n → n < 20 → (qE (I0 67) (L0 69) x1).1 (943 + 20 * x1 + n) = 0 := fun n n1 n2 n3 => by
          have w := QL_z (f := fnd (I0 67) (L0 69) x1) (s := sN (I0 67) x1) (n := n) hM lq hy.1.symm hy.2 sn.1 ⟨fb.2.2.1, fb.2.2.2.2⟩ ⟨n1, n2, n3⟩ (x1 - sN (I0 67) x1).toNat (by omega)
          have w2 := lq.2.2 (20 * x1 + n) (by omega) (by omega)
          rw [← Int.add_assoc] at w2
          rw [← w2]
          exact w
        have cz : sm (fun n => if 0 < (fun j => if j = 82 + x1 then fR (pY (I0 67) x1) (mY (I0 67) x1) (tY (I0 67) x1) (qE (I0 67) (L0 69) x1).2 else if j = x1 then (qE (I0 67) (L0 69) x1).2 else if j = 41 + x1 then fnd (I0 67) (L0 69) x1 - (qE (I0 67) (L0 69) x1).2 else (qE (I0 67) (L0 69) x1).1 j) (943 + 20 * x1 + n) + (fun n => fG (pY (I0 67) x1) (mY (I0 67) x1) (tY (I0 67) x1) (qE (I0 67) (L0 69) x1).2 n) n then 1 else 0) (I0 67 3).toNat = cZ (I0 67) (L0 69) x1 := by
          unfold cZ
          have e1 : sm (fun n => if 0 < qF (I0 67) (L0 69) x1 (943 + 20 * x1 + n) then 1 else 0) 20 = sm (fun n => if 0 < qF (I0 67) (L0 69) x1 (943 + 20 * x1 + n) then 1 else 0) (I0 67 3).toNat := sm_cut (by omega) (fun n n1 n2 => by
            have e3 : qF (I0 67) (L0 69) x1 (943 + 20 * x1 + n) = 0 := by
              show stq x1 x1 _ _ _ = 0
              rw [show 943 + 20 * x1 + n = 943 + (20 * x1 + n) by omega, stq44 (by omega) (by omega), if_pos (by omega), show 20 * x1 + n - 20 * x1 = n by omega, v0 n (by omega) (by omega), ← Int.add_assoc, zz n (by omega) (by omega) (by omega)]
              rfl
            show (if 0 < qF (I0 67) (L0 69) x1 (943 + 20 * x1 + n) then (1 : Int) else 0) = 0
            rw [e3]
            rfl)
          rw [e1]
          refine sm_congr _ (fun n n1 n2 => ?_)
          have e4 : (fun j => if j = 82 + x1 then fR (pY (I0 67) x1) (mY (I0 67) x1) (tY (I0 67) x1) (qE (I0 67) (L0 69) x1).2 else if j = x1 then (qE (I0 67) (L0 69) x1).2 else if j = 41 + x1 then fnd (I0 67) (L0 69) x1 - (qE (I0 67) (L0 69) x1).2 else (qE (I0 67) (L0 69) x1).1 j) (943 + 20 * x1 + n) + (fun n => fG (pY (I0 67) x1) (mY (I0 67) x1) (tY (I0 67) x1) (qE (I0 67) (L0 69) x1).2 n) n = qF (I0 67) (L0 69) x1 (943 + 20 * x1 + n) := by
            show (if 943 + 20 * x1 + n = 82 + x1 then _ else if 943 + 20 * x1 + n = x1 then _ else if 943 + 20 * x1 + n = 41 + x1 then _ else (qE (I0 67) (L0 69) x1).1 (943 + 20 * x1 + n)) + _ = stq x1 x1 _ _ _
            rw [if_neg (by omega), if_neg (by omega), if_neg (by omega), show 943 + 20 * x1 + n = 943 + (20 * x1 + n) by omega, stq44 (by omega) (by omega), if_pos (by omega), show 20 * x1 + n - 20 * x1 = n by omega]
          show (if 0 < (fun j => if j = 82 + x1 then fR (pY (I0 67) x1) (mY (I0 67) x1) (tY (I0 67) x1) (qE (I0 67) (L0 69) x1).2 else if j = x1 then (qE (I0 67) (L0 69) x1).2 else if j = 41 + x1 then fnd (I0 67) (L0 69) x1 - (qE (I0 67) (L0 69) x1).2 else (qE (I0 67) (L0 69) x1).1 j) (943 + 20 * x1 + n) + (fun n => fG (pY (I0 67) x1) (mY (I0 67) x1) (tY (I0 67) x1) (qE (I0 67) (L0 69) x1).2 n) n then (1 : Int) else 0) = if 0 < qF (I0 67) (L0 69) x1 (943 + 20 * x1 + n) then 1 else 0
          rw [e4]
        rw [cz]
        refine H _ L8 (fun k k1 a1 a2 a3 a4 a5 a6 a7 a8 a9 a10 a11 a12 => ?_) (fun j hj => ?_) (fun j => ?_) (fun k k1 hk => ?_) (fun j => ?_)
        · rw [upn k1, upn k1, s9.1 k a1 a2 a3 a4 a5 a6 a7 a8 a9 a10 a11 a12]
          exact i2.1 k a1 a2 a3 a4 a5 a6 a7 a8 a9 a10 a11 a12
        · rw [upn (by omega), upn (by omega), s9.2.1 j hj]
          exact i2.2.1 j hj
        · by_cases e1 : j = 35 + x1
          · rw [e1, show 34 + x1 + 1 = 35 + x1 by omega, ups, if_pos rfl]
          · rw [upo (by omega), if_neg e1]
            by_cases e2 : j = 0
            · rw [e2, ups, if_pos rfl]
            · rw [upo e2, if_neg e2, f679]
        · rw [u1 k k1, upn k1, upn k1, s9.2.2 k hk, upn k1]
          exact i2.2.2 k k1 hk
        · rw [u2 j]
          have e5 : (if 123 + 20 * x1 ≤ j ∧ j < 123 + 20 * x1 + I0 67 3 then (fun n => fG (pY (I0 67) x1) (mY (I0 67) x1) (tY (I0 67) x1) (qE (I0 67) (L0 69) x1).2 n) (j - (123 + 20 * x1)) else 0) = (if 123 + 20 * x1 ≤ j ∧ j < 123 + 20 * x1 + 20 then (fun n => fG (pY (I0 67) x1) (mY (I0 67) x1) (tY (I0 67) x1) (qE (I0 67) (L0 69) x1).2 n) (j - (123 + 20 * x1)) else 0) := by
            by_cases c : 123 + 20 * x1 ≤ j ∧ j < 123 + 20 * x1 + I0 67 3
            · rw [if_pos c, if_pos (by omega)]
            · rw [if_neg c]
              by_cases c2 : 123 + 20 * x1 ≤ j ∧ j < 123 + 20 * x1 + 20
              · rw [if_pos c2]
                exact (v0 _ (by omega) (by omega)).symm
              · rw [if_neg c2]
          have e6 : (if 943 + 20 * x1 ≤ j ∧ j < 943 + 20 * x1 + I0 67 3 then (fun n => fG (pY (I0 67) x1) (mY (I0 67) x1) (tY (I0 67) x1) (qE (I0 67) (L0 69) x1).2 n) (j - (943 + 20 * x1)) else 0) = (if 943 + 20 * x1 ≤ j ∧ j < 943 + 20 * x1 + 20 then (fun n => fG (pY (I0 67) x1) (mY (I0 67) x1) (tY (I0 67) x1) (qE (I0 67) (L0 69) x1).2 n) (j - (943 + 20 * x1)) else 0) := by
            by_cases c : 943 + 20 * x1 ≤ j ∧ j < 943 + 20 * x1 + I0 67 3
            · rw [if_pos c, if_pos (by omega)]
            · rw [if_neg c]
              by_cases c2 : 943 + 20 * x1 ≤ j ∧ j < 943 + 20 * x1 + 20
              · rw [if_pos c2]
                exact (v0 _ (by omega) (by omega)).symm
              · rw [if_neg c2]
          rw [e5, e6, ← vj_stq (q := (fun j => if j = 82 + x1 then fR (pY (I0 67) x1) (mY (I0 67) x1) (tY (I0 67) x1) (qE (I0 67) (L0 69) x1).2 else if j = x1 then (qE (I0 67) (L0 69) x1).2 else if j = 41 + x1 then fnd (I0 67) (L0 69) x1 - (qE (I0 67) (L0 69) x1).2 else (qE (I0 67) (L0 69) x1).1 j)) (v := (fun n => fG (pY (I0 67) x1) (mY (I0 67) x1) (tY (I0 67) x1) (qE (I0 67) (L0 69) x1).2 n)) (b := x1) (y := x1) (by omega) (by omega)]
          unfold qZ
          by_cases c1 : j = x1
          · rw [if_pos c1, stq_lo hy.2.1 hy.2.1 (by omega)]
            show (if j = 82 + x1 then _ else if j = x1 then (qE (I0 67) (L0 69) x1).2 else _) = (qE (I0 67) (L0 69) x1).2
            rw [if_neg (by omega), if_pos c1]
          · rw [if_neg c1]
            by_cases c2 : j = 41 + x1
            · rw [if_pos c2, stq_lo hy.2.1 hy.2.1 (by omega)]
              show (if j = 82 + x1 then _ else if j = x1 then _ else if j = 41 + x1 then fnd (I0 67) (L0 69) x1 - (qE (I0 67) (L0 69) x1).2 else _) = fnd (I0 67) (L0 69) x1 - (qE (I0 67) (L0 69) x1).2
              rw [if_neg (by omega), if_neg c1, if_pos c2]
            · rw [if_neg c2]
              by_cases c3 : j = 82 + x1
              · rw [if_pos c3, stq_lo hy.2.1 hy.2.1 (by omega)]
                exact if_pos c3
              · rw [if_neg c3]
                show stq x1 x1 _ _ j = stq x1 x1 _ _ j
                rw [vj_stq (by omega) (by omega), vj_stq (by omega) (by omega)]
                show (if j = 82 + x1 then _ else if j = x1 then _ else if j = 41 + x1 then _ else (qE (I0 67) (L0 69) x1).1 j) + _ + _ = _
                rw [if_neg c3, if_neg c1, if_neg c2]
      · rw [if_neg (show ¬ (123 + 20 * x1 ≤ j ∧ j < 123 + 20 * x1 + 0) by omega), if_neg (show ¬ (943 + 20 * x1 ≤ j ∧ j < 943 + 20 * x1 + 0) by omega)]
        show _ = (if j = 82 + x1 then _ else if j = x1 then _ else if j = 41 + x1 then _ else (qE (I0 67) (L0 69) x1).1 j) + 0 + 0
        by_cases c3 : j = 82 + x1
        · rw [c3, ups, if_pos rfl, upm (by omega), r8, i4]
          show fR _ _ _ _ = fR _ _ _ _ + 0 + 0
          rw [Int.add_zero, Int.add_zero]
          rfl
        · rw [upo c3, if_neg c3]
          by_cases c1 : j = x1
          · rw [if_pos c1, c1, show (0 : Int) + x1 = x1 by omega, ups, i4]
            omega
          · rw [upo (by omega), if_neg c1, l9 j]
            omega
    · refine b_M_close_106  (fun c2 => ?_) (fun c2 => ?_)
      · refine b_M_close_121 (by first | omega | (simp (disch := omega) only [upo, upm, ups]; omega)) ?_
        have m7 : max (x7 + 1) (sN (I0 67) x1) = max x7 (sN (I0 67) x1) := by omega
        exact ih I L x5 (x7 + 1) (by omega) (by omega) i2 (by rw [m7]; exact i3) (by rw [m7]; exact i4) (by omega)
      · have m7 : max x7 (sN (I0 67) x1) = x7 := by omega
        rw [m7] at i3 i4 bq hq
        have lo := QL_lo (p := I0 67) (q0 := L0 69) (f := fnd (I0 67) (L0 69) x1) (y := x1) (s := sN (I0 67) x1) (j := x7) hy.2.1 sn.1 (by omega) (x7 - sN (I0 67) x1).toNat
        have eG : (fun m => wg (I 67) (QL (I0 67) (L0 69) (fnd (I0 67) (L0 69) x1) x1 (sN (I0 67) x1) (x7 - sN (I0 67) x1).toNat).1 x7 m x1 (-1)) = fun m => wg (I0 67) (L0 69) x7 m x1 (-1) := funext (fun m => by rw [f67]; exact wg_cg lo)
        have b7 := lq.1 x7 (by omega) (by omega)
        refine b_M_close_111  (s_M_paysBack mI f22 (by rw [i3]; exact hq) (by rw [i3, lo]; omega) (fun I9 L9 s9 r9 => ?_))
        refine b_M_close_119  ?_
        refine b_M_close_121 (by first | omega | (simp (disch := omega) only [upo, upm, ups]; omega)) ?_
        have qs := QL_s (p := I0 67) (q0 := L0 69) (f := fnd (I0 67) (L0 69) x1) (y := x1) (s := sN (I0 67) x1) (x := x7) (by omega)
        have m8 : max (x7 + 1) (sN (I0 67) x1) = x7 + 1 := by omega
        refine ih I9 L9 _ (x7 + 1) (by omega) (by omega) (Sm_tr i2 s9) ?_ ?_ (by omega)
        · rw [m8, qs]
          funext j
          rw [r9 j, i3, ey, eG, f67, i4]
        · rw [m8, qs, i3, ey, eG, f67, i4]
