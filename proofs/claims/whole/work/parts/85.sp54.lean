theorem QL_s {p q0 : Int → Int} {f y s x : Int} (h : s ≤ x) : QL p q0 f y s (x + 1 - s).toNat = (stq y x (QL p q0 f y s (x - s).toNat).1 (fun n => pvN p (fun m => wg p q0 x m y (-1)) (QL p q0 f y s (x - s).toNat).1 x (QL p q0 f y s (x - s).toNat).2 n), (QL p q0 f y s (x - s).toNat).2 - sm (fun n => pvN p (fun m => wg p q0 x m y (-1)) (QL p q0 f y s (x - s).toNat).1 x (QL p q0 f y s (x - s).toNat).2 n) 20) := by
  obtain ⟨i, rfl⟩ : ∃ i : Nat, x = s + i := ⟨(x - s).toNat, by omega⟩
  have e1 : (s + (i : Int) + 1 - s).toNat = i + 1 := by omega
  have e2 : (s + (i : Int) - s).toNat = i := by omega
  rw [e1, e2]
  rfl
theorem fnd_bd {C CL : Nat → Int → Int} {p q : Int → Int} {y : Int} (h : lYr C CL p q) (g : lQ p q) (hy : 0 ≤ y ∧ y < 40) : (0 ≤ p (239 + y) ∧ p (239 + y) ≤ 9999999) ∧ (0 < y → 0 ≤ q (81 + y) ∧ q (81 + y) ≤ 10000000 * y) ∧ 0 ≤ fnd p q y ∧ fnd p q y ≤ 10000000 * (y + 1) ∧ fnd p q y ≤ 410000000 := by
  have w := h.2.1 y hy.1 (by omega)
  have w2 : 0 < y → 0 ≤ q (81 + y) ∧ q (81 + y) ≤ 10000000 * y := fun hp => by
    have u := g.1 (y - 1) (by omega) (by omega)
    have e : 82 + (y - 1) = 81 + y := by omega
    rw [e] at u
    omega
  refine ⟨by omega, w2, ?_⟩
  unfold fnd
  split
  · rename_i hp
    have := w2 hp
    omega
  · omega
theorem QL_hq {p q : Int → Int} {f y s : Int} {i : Nat} (g : lQ p q) (hp : p 0 = y) (hy : 0 ≤ y ∧ y < 40) (hs : 0 ≤ s) (hf : 0 ≤ f ∧ f ≤ 410000000) (hi : s + i ≤ y) : ∀ k, 0 ≤ k → k < 820 → (0 ≤ (QL p q f y s i).1 (123 + k) ∧ (QL p q f y s i).1 (123 + k) ≤ 50000000000) ∧ 0 ≤ (QL p q f y s i).1 (943 + k) ∧ (QL p q f y s i).1 (943 + k) ≤ 50000000000 := by
  intro k k1 k2
  have b := QL_bd (p := p) (q0 := q) (f := f) (y := y) (s := s) ⟨hy.1, by omega⟩ hs hf i hi
  have b2 := b.2.1 k k1 k2
  have b3 := b.2.2 k k1 k2
  have g2 := g.2.1 k k1 k2
  have g3 := g.2.2 k
  refine ⟨?_, ?_⟩
  · split at b2 <;> omega
  · by_cases c : 20 * y ≤ k ∧ k < 20 * y + 20
    · rw [if_pos c] at b3
      have g4 := g3 (by omega) k2
      omega
    · rw [if_neg c] at b3
      omega
set_option maxHeartbeats 1000000 in
theorem lp_P_close {ro : Nat → Int × (Int → Int)} {d : Nat} {b : Bool} {Q : Option am_V → am_H → Prop} {bc bs : Nat} {x1 x2 : Int} {I0 L0 : Nat → Int → Int} (hro : RoK ro) (hC : Cor I0 L0) (ly : lYr I0 L0 (I0 67) (L0 69)) (lq : lQ (I0 67) (L0 69)) (hy : x1 = I0 67 0 ∧ 0 ≤ x1 ∧ x1 < 40) (h2 : x2 = fnd (I0 67) (L0 69) x1) (H : ∀ I L : Nat → Int → Int, (∀ k, k ≠ 1 → k ≠ 37 → k ≠ 5 → k ≠ 35 → k ≠ 51 → k ≠ 52 → k ≠ 59 → k ≠ 63 → k ≠ 66 → k ≠ 76 → k ≠ 77 → k ≠ 78 → k ≠ 80 → k ≠ 83 → I k = I0 k) → (∀ j, j ≠ 23 → I 66 j = I0 66 j) → I 1 0 = x1 + 1 → (∀ k, I 37 k = if k = x1 + 1 then I0 37 x1 else I0 37 k) → (∀ k, (k < 40 ∨ 45 ≤ k) ∧ (k ≤ 50 ∨ (63 ≤ k ∧ k ≤ 65) ∨ (67 ≤ k ∧ k ≤ 75) ∨ 85 ≤ k) → L k = L0 k) → (∀ k, 0 ≤ k → k < 41 → L 40 k = qZ (I0 67) (L0 69) x1 k ∧ L 41 k = qZ (I0 67) (L0 69) x1 (41 + k) ∧ L 42 k = qZ (I0 67) (L0 69) x1 (82 + k)) → (∀ k, 0 ≤ k → k < 820 → L 43 k = qZ (I0 67) (L0 69) x1 (123 + k) ∧ L 44 k = qZ (I0 67) (L0 69) x1 (943 + k)) → Q (some (am_I (cZ (I0 67) (L0 69) x1))) (sh b, I, L)) : ∀ (n : Nat) (I L : Nat → Int → Int) (x4 x7 : Int), (sN (I0 67) x1 ≤ x7) → (x7 ≤ x1) → (Sy I0 L0 I L) → (∀ k, 0 ≤ k → k < 820 → L 43 k = (QL (I0 67) (L0 69) (fnd (I0 67) (L0 69) x1) x1 (sN (I0 67) x1) (x7 - sN (I0 67) x1).toNat).1 (123 + k) ∧ L 44 k = (QL (I0 67) (L0 69) (fnd (I0 67) (L0 69) x1) x1 (sN (I0 67) x1) (x7 - sN (I0 67) x1).toNat).1 (943 + k)) → (x4 = (QL (I0 67) (L0 69) (fnd (I0 67) (L0 69) x1) x1 (sN (I0 67) x1) (x7 - sN (I0 67) x1).toNat).2) → x1 - x7 < (n : Int) → am_ex (am_m ro (d + 8)) ro am_M25 Q (56, [some (am_R 0), some (am_I x1), some (am_L x2), none, some (am_L x4), none, none, some (am_I x7)], [], (sh b, I, L), bc, bs) := by
  intro n
  induction n with
  | zero =>
    intro I L x4 x7 i0 i1 i2 i3 i4 im
    exact absurd im (by omega)
  | succ n ih =>
    intro I L x4 x7 i0 i1 i2 i3 i4 im
    have ct := Cor_ct hC
    have fb := fnd_bd ly lq hy.2
    have f67 := Sy_67 i2
    have cI := Cor_sy hC i2
    have sn : 0 ≤ sN (I0 67) x1 ∧ sN (I0 67) x1 ≤ x1 := by unfold sN ltN; omega
    have bq := QL_bd (p := I0 67) (q0 := L0 69) (f := fnd (I0 67) (L0 69) x1) (y := x1) (s := sN (I0 67) x1) ⟨hy.2.1, by omega⟩ sn.1 ⟨fb.2.2.1, fb.2.2.2.2⟩ (x7 - sN (I0 67) x1).toNat (by omega)
    have hq := QL_hq (f := fnd (I0 67) (L0 69) x1) (s := sN (I0 67) x1) (i := (x7 - sN (I0 67) x1).toNat) lq hy.1.symm hy.2 sn.1 ⟨fb.2.2.1, fb.2.2.2.2⟩ (by omega)
    refine b_P_close_56  (fun c1 => ?_) (fun c1 => ?_)
    · have e7 : x7 = x1 := by omega
      have qe : (QL (I0 67) (L0 69) (fnd (I0 67) (L0 69) x1) x1 (sN (I0 67) x1) (x7 - sN (I0 67) x1).toNat) = qE (I0 67) (L0 69) x1 := by rw [e7]; rfl
      rw [qe] at i3 i4 hq bq
      have c4 : Cor I (am_up L 41 x1 (x2 - x4)) := Cor_L cI
      refine b_P_close_85 (by omega) (by omega) (s_Pay_payOut (q := (qE (I0 67) (L0 69) x1).1) hro c4 hq (fun k k1 k2 => by rw [upm (by omega), upm (by omega)]; exact i3 k k1 k2) (by omega) (fun I9 L9 s9 v1 v2 v3 v4 => ?_))
      rw [f67, i4] at v3 v4
      rw [i4] at v2
      have e10 : I9 1 0 = x1 := by
        have w1 := congrFun (s9.1 1 (by omega) (by omega) (by omega) (by omega) (by omega) (by omega) (by omega) (by omega) (by omega) (by omega) (by omega) (by omega)) 0
        have w2 := congrFun (i2.1 1 (by omega) (by omega) (by omega) (by omega) (by omega) (by omega) (by omega) (by omega) (by omega) (by omega) (by omega) (by omega)) 0
        rw [w1, w2, ct.1.1]
        exact hy.1.symm
      have e37 : I9 37 = I0 37 := by rw [s9.1 37 (by omega) (by omega) (by omega) (by omega) (by omega) (by omega) (by omega) (by omega) (by omega) (by omega) (by omega) (by omega)]; exact i2.1 37 (by omega) (by omega) (by omega) (by omega) (by omega) (by omega) (by omega) (by omega) (by omega) (by omega) (by omega) (by omega)
      refine b_P_close_111  (s_Land_openNext (by omega) ?_)
      refine b_P_close_118  (s_Yrs_manyPaid (r := fun n => qF (I0 67) (L0 69) x1 (943 + 20 * x1 + n)) (by omega) (fun n n1 n2 => by rw [(v4 (x1 * 20 + n) (by omega) (by omega)).2]; show _ = stq x1 x1 _ _ _; rw [show 943 + (x1 * 20 + n) = 943 + 20 * x1 + n by omega]) ?_)
      refine b_P_close_129  ?_
      refine H _ L9 (fun k k1 k37 a1 a2 a3 a4 a5 a6 a7 a8 a9 a10 a11 a12 => ?_) (fun j hj => ?_) ?_ (fun k => ?_) (fun k hk => ?_) (fun k k1 k2 => ⟨?_, ?_, ?_⟩) (fun k k1 k2 => ⟨?_, ?_⟩)
      · rw [upn k37, upn k1, s9.1 k a1 a2 a3 a4 a5 a6 a7 a8 a9 a10 a11 a12]
        exact i2.1 k a1 a2 a3 a4 a5 a6 a7 a8 a9 a10 a11 a12
      · rw [upn (by omega), upn (by omega), s9.2.1 j hj]
        exact i2.2.1 j hj
      · rw [upm (by omega), ups, e10]
      · rw [e10, e37]
        by_cases ek : k = x1 + 1
        · rw [ek, ups, if_pos rfl]
        · rw [upo ek, if_neg ek, upn (by omega), e37]
      · rw [v1 k (by omega), upn (by omega)]
        exact i2.2.2 k (by omega)
      · rw [v2 k]
        unfold qZ
        by_cases ek : k = x1
        · rw [if_pos ek, if_pos ek]
        · rw [if_neg ek, if_neg ek, if_neg (by omega), if_neg (by omega), upm (by omega), i2.2.2 40 (by omega)]
          show _ = stq x1 x1 _ _ k
          rw [stq_lo hy.2.1 hy.2.1 (by omega)]
          show _ = (QL _ _ _ _ _ _).1 k
          rw [QL_lo hy.2.1 sn.1 (by omega)]
          exact (ly.1 k k1 k2).2.2.1
      · rw [v1 41 (by omega)]
        unfold qZ
        rw [if_neg (by omega)]
        by_cases ek : k = x1
        · rw [ek, ups, if_pos rfl, h2, i4]
        · rw [upo ek, if_neg (by omega), if_neg (by omega), i2.2.2 41 (by omega)]
          show _ = stq x1 x1 _ _ (41 + k)
          rw [stq_lo hy.2.1 hy.2.1 (by omega)]
          show _ = (QL _ _ _ _ _ _).1 (41 + k)
          rw [QL_lo hy.2.1 sn.1 (by omega)]
          exact (ly.1 k k1 k2).2.2.2.1
      · rw [v3 k]
        unfold qZ
        rw [if_neg (show ¬ 82 + k = x1 by omega), if_neg (show ¬ 82 + k = 41 + x1 by omega)]
        by_cases ek : k = x1
        · rw [if_pos ek, if_pos (by omega)]
        · rw [if_neg ek, if_neg (by omega), upm (by omega), i2.2.2 42 (by omega)]
          show _ = stq x1 x1 _ _ (82 + k)
          rw [stq_lo hy.2.1 hy.2.1 (by omega)]
          show _ = (QL _ _ _ _ _ _).1 (82 + k)
          rw [QL_lo hy.2.1 sn.1 (by omega)]
          exact (ly.1 k k1 k2).2.2.2.2
      · rw [(v4 k k1 k2).1]
        unfold qZ
        rw [if_neg (by omega), if_neg (by omega), if_neg (by omega)]
        rfl
      · rw [(v4 k k1 k2).2]
        unfold qZ
        rw [if_neg (by omega), if_neg (by omega), if_neg (by omega)]
        rfl
    · have eG : (fun m => wg (I 67) (QL (I0 67) (L0 69) (fnd (I0 67) (L0 69) x1) x1 (sN (I0 67) x1) (x7 - sN (I0 67) x1).toNat).1 x7 m x1 (-1)) = fun m => wg (I0 67) (L0 69) x7 m x1 (-1) := funext (fun m => by rw [f67]; exact wg_cg (QL_lo hy.2.1 sn.1 (by omega) _))
      have e40 : L 40 x7 = (QL (I0 67) (L0 69) (fnd (I0 67) (L0 69) x1) x1 (sN (I0 67) x1) (x7 - sN (I0 67) x1).toNat).1 x7 := by rw [QL_lo hy.2.1 sn.1 (by omega), i2.2.2 40 (by omega)]; exact (ly.1 x7 (by omega) (by omega)).2.2.1
      have b40 : 0 ≤ (QL (I0 67) (L0 69) (fnd (I0 67) (L0 69) x1) x1 (sN (I0 67) x1) (x7 - sN (I0 67) x1).toNat).1 x7 ∧ (QL (I0 67) (L0 69) (fnd (I0 67) (L0 69) x1) x1 (sN (I0 67) x1) (x7 - sN (I0 67) x1).toNat).1 x7 ≤ 1000000000 := by
        rw [QL_lo hy.2.1 sn.1 (by omega)]
        have := lq.1 x7 (by omega) (by omega)
        omega
      have ps := pvN_sum (p := I0 67) (G := fun m => wg (I0 67) (L0 69) x7 m x1 (-1)) (q := (QL (I0 67) (L0 69) (fnd (I0 67) (L0 69) x1) x1 (sN (I0 67) x1) (x7 - sN (I0 67) x1).toNat).1) (b := x7) (l := (QL (I0 67) (L0 69) (fnd (I0 67) (L0 69) x1) x1 (sN (I0 67) x1) (x7 - sN (I0 67) x1).toNat).2) bq.1.1
      refine b_P_close_62  (s_Pay_payBack (q := (QL (I0 67) (L0 69) (fnd (I0 67) (L0 69) x1) x1 (sN (I0 67) x1) (x7 - sN (I0 67) x1).toNat).1) hro cI ⟨e40, b40⟩ hq i3 (by omega) (fun I9 L9 s9 r9 => ?_))
      rw [eG, f67, i4] at r9
      rw [eG, f67, i4]
      refine b_P_close_76 (by first | omega | (rw [eG, f67, i4]; omega) | (rw [i4]; omega)) (by first | omega | (rw [eG, f67, i4]; omega) | (rw [i4]; omega)) ?_
      have qs := QL_s (p := I0 67) (q0 := L0 69) (f := fnd (I0 67) (L0 69) x1) (y := x1) (s := sN (I0 67) x1) (x := x7) (by omega)
      refine ih I9 L9 ((QL (I0 67) (L0 69) (fnd (I0 67) (L0 69) x1) x1 (sN (I0 67) x1) (x7 - sN (I0 67) x1).toNat).2 - sm (fun n => pvN (I0 67) (fun m => wg (I0 67) (L0 69) x7 m x1 (-1)) (QL (I0 67) (L0 69) (fnd (I0 67) (L0 69) x1) x1 (sN (I0 67) x1) (x7 - sN (I0 67) x1).toNat).1 x7 (QL (I0 67) (L0 69) (fnd (I0 67) (L0 69) x1) x1 (sN (I0 67) x1) (x7 - sN (I0 67) x1).toNat).2 n) 20) (x7 + 1) (by omega) (by omega) (Sy_tr i2 s9) (fun k k1 k2 => ?_) ?_ (by omega)
      · rw [qs]
        exact r9 k k1 k2
      · rw [qs]
