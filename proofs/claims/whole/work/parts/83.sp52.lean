def Sy (I L I' L' : Nat → Int → Int) : Prop := (∀ k, k ≠ 5 → k ≠ 35 → k ≠ 51 → k ≠ 52 → k ≠ 59 → k ≠ 63 → k ≠ 66 → k ≠ 76 → k ≠ 77 → k ≠ 78 → k ≠ 80 → k ≠ 83 → I' k = I k) ∧ (∀ j, j ≠ 23 → I' 66 j = I 66 j) ∧ (∀ k, (k < 43 ∨ 45 ≤ k) ∧ (k ≤ 50 ∨ (63 ≤ k ∧ k ≤ 65) ∨ (67 ≤ k ∧ k ≤ 75) ∨ 85 ≤ k) → L' k = L k)
theorem Sy_sc {I L I' L' : Nat → Int → Int} (h : Sc I L I' L') : Sy I L I' L' := ⟨h.1, h.2.1, fun k a => h.2.2 k a.2⟩
theorem Sy_tr {I L I1 L1 I2 L2 : Nat → Int → Int} (h : Sy I L I1 L1) (g : Sy I1 L1 I2 L2) : Sy I L I2 L2 := ⟨fun k a1 a2 a3 a4 a5 a6 a7 a8 a9 a10 a11 a12 => (g.1 k a1 a2 a3 a4 a5 a6 a7 a8 a9 a10 a11 a12).trans (h.1 k a1 a2 a3 a4 a5 a6 a7 a8 a9 a10 a11 a12), fun j a => (g.2.1 j a).trans (h.2.1 j a), fun k a => (g.2.2 k a).trans (h.2.2 k a)⟩
theorem Sy_67 {I L I' L' : Nat → Int → Int} (s : Sy I L I' L') : I' 67 = I 67 := s.1 67 (by omega) (by omega) (by omega) (by omega) (by omega) (by omega) (by omega) (by omega) (by omega) (by omega) (by omega) (by omega)
theorem Cor_sy {I L I' L' : Nat → Int → Int} (h : Cor I L) (s : Sy I L I' L') : Cor I' L' := Cor_cg (L := L) (L' := L) h (fun k a => s.1 k (by omega) (by omega) (by omega) (by omega) (by omega) (by omega) (by omega) (by omega) (by omega) (by omega) (by omega) (by omega)) (fun _ _ => rfl)
theorem stq43 {y b k : Int} {q v : Int → Int} (hk : 0 ≤ k ∧ k < 820) (hy : 0 ≤ y ∧ y ≤ 40) : stq y b q v (123 + k) = q (123 + k) + if 20 * b ≤ k ∧ k < 20 * b + 20 then v (k - 20 * b) else 0 := by
  unfold stq
  by_cases c : 20 * b ≤ k ∧ k < 20 * b + 20
  · rw [if_pos (by omega), if_pos c]
    congr 2
    omega
  · rw [if_neg (by omega), if_neg (by omega), if_neg c]
    omega
theorem stq44 {y b k : Int} {q v : Int → Int} (hk : 0 ≤ k ∧ k < 820) (hb : 0 ≤ b ∧ b ≤ 40) : stq y b q v (943 + k) = q (943 + k) + if 20 * y ≤ k ∧ k < 20 * y + 20 then v (k - 20 * y) else 0 := by
  unfold stq
  by_cases c : 20 * y ≤ k ∧ k < 20 * y + 20
  · rw [if_neg (by omega), if_pos (by omega), if_pos c]
    congr 2
    omega
  · rw [if_neg (by omega), if_neg (by omega), if_neg c]
    omega
theorem pvN_def {p G q : Int → Int} {b l n : Int} : pvN p G q b l n = if l < lsN p G q b then lkN p G q b n * l / lsN p G q b else lkN p G q b n := rfl
theorem lkN_g {p G q : Int → Int} {b n : Int} (h : 0 ≤ sm (fun k => if p (480 + k) = n then q (123 + 20 * b + k) else 0) (p 3).toNat) (g : 0 ≤ G n) : lkN p G q b n ≤ G n := by
  unfold lkN
  omega
theorem pv_l0 {p G q : Int → Int} {b n : Int} (hn : 0 ≤ n ∧ n < 20) : pvN p G q b 0 n = 0 := by
  have := pvN_bd (p := p) (G := G) (q := q) (b := b) (l := 0) (by omega) hn
  omega
theorem pv_s0 {p G q : Int → Int} {b l n : Int} (hn : 0 ≤ n ∧ n < 20) (hl : 0 ≤ l) (h : lsN p G q b ≤ 0) : pvN p G q b l n = 0 := by
  have := lkN_le (p := p) (G := G) (q := q) (b := b) hn
  unfold pvN
  rw [if_neg (by omega)]
  omega
theorem pv_g0 {p G q : Int → Int} {b l n : Int} (hn : 0 ≤ n ∧ n < 20) (hl : 0 ≤ l) (hp : 0 ≤ p 3 ∧ p 3 ≤ 20) (hq : ∀ k, 0 ≤ k → k < 20 → 0 ≤ q (123 + 20 * b + k)) (h : ∀ n, 0 ≤ n → n < 20 → G n = 0) : pvN p G q b l n = 0 := by
  refine pv_s0 hn hl ?_
  have e : lsN p G q b = 0 := sm_zero _ (fun n n1 n2 => by
    have s0 : 0 ≤ sm (fun k => if p (480 + k) = n then q (123 + 20 * b + k) else 0) (p 3).toNat := sm_nn _ (fun k k1 k2 => by
      have := hq k k1 (by omega)
      show 0 ≤ (if p (480 + k) = n then q (123 + 20 * b + k) else 0)
      split <;> omega)
    show lkN p G q b n = 0
    unfold lkN
    rw [h n n1 (by omega)]
    omega)
  omega
set_option maxHeartbeats 1000000 in
theorem lp_Pay_payBack {ro : Nat → Int × (Int → Int)} {d : Nat} {b : Bool} {I : Nat → Int → Int} {Q : Option am_V → am_H → Prop} {bc bs : Nat} {x1 x2 x3 x5 : Int} {q v lk : Int → Int} {L0 : Nat → Int → Int} (hx : (0 ≤ x1 ∧ x1 ≤ 40) ∧ (0 ≤ x2 ∧ x2 ≤ 40) ∧ (0 ≤ x3 ∧ x3 ≤ 1000000000)) (hq : ∀ k, 0 ≤ k → k < 820 → (0 ≤ q (123 + k) ∧ q (123 + k) ≤ 50000000000) ∧ 0 ≤ q (943 + k) ∧ q (943 + k) ≤ 50000000000) (hv : ∀ n, 0 ≤ n → n < 20 → (v n = if x3 < x5 then lk n * x3 / x5 else lk n) ∧ (0 ≤ v n ∧ v n ≤ 1000000000) ∧ 0 ≤ lk n ∧ lk n ≤ x5 ∧ lk n ≤ 3000000000) (h61 : ∀ n, 0 ≤ n → n < 20 → L0 61 n = lk n) (H : ∀ L : Nat → Int → Int, (∀ k, k ≠ 43 → k ≠ 44 → L k = L0 k) → (∀ k, 0 ≤ k → k < 820 → L 43 k = q (123 + k) + if 20 * x1 ≤ k ∧ k < 20 * x1 + 20 then v (k - 20 * x1) else 0) → (∀ k, 0 ≤ k → k < 820 → L 44 k = q (943 + k) + if 20 * x2 ≤ k ∧ k < 20 * x2 + 20 then v (k - 20 * x2) else 0) → Q (some (am_L (sm v 20))) (sh b, I, L)) : ∀ (n : Nat) (L : Nat → Int → Int) (x7 x9 : Int), (0 ≤ x9) → (x9 ≤ 20) → (∀ k, k ≠ 43 → k ≠ 44 → L k = L0 k) → (∀ k, 0 ≤ k → k < 820 → L 43 k = q (123 + k) + if 20 * x1 ≤ k ∧ k < 20 * x1 + x9 then v (k - 20 * x1) else 0) → (∀ k, 0 ≤ k → k < 820 → L 44 k = q (943 + k) + if 20 * x2 ≤ k ∧ k < 20 * x2 + x9 then v (k - 20 * x2) else 0) → (x7 = sm v x9.toNat) → (0 ≤ x7 ∧ x7 ≤ 1000000000 * x9) → 20 - x9 < (n : Int) → am_ex (am_m ro (d + 1)) ro am_M151 Q (64, [some (am_R 58), some (am_I x1), some (am_I x2), some (am_L x3), none, some (am_L x5), none, some (am_L x7), none, some (am_I x9), none, none], [], (sh b, I, L), bc, bs) := by
  intro n
  induction n with
  | zero =>
    intro L x7 x9 i0 i1 i2 i3 i4 i5 i6 im
    exact absurd im (by omega)
  | succ n ih =>
    intro L x7 x9 i0 i1 i2 i3 i4 i5 i6 im
    refine b_Pay_payBack_64  (fun c1 => ?_) (fun c1 => ?_)
    · refine b_Pay_payBack_138  ?_
      have v0 : ∀ n, 0 ≤ n → n < 20 → v n = 0 := fun n n1 n2 => by
        have := hv n n1 n2
        rw [this.1, if_neg (by omega)]
        omega
      have s0 : sm v 20 = 0 := sm_zero _ (fun n n1 n2 => v0 n n1 (by omega))
      have s1 : x7 = 0 := by rw [i5]; exact sm_zero _ (fun n n1 n2 => v0 n n1 (by omega))
      have k9 := H L i2 (fun k k1 k2 => ?_) (fun k k1 k2 => ?_)
      · rw [s0] at k9
        rw [s1]
        exact k9
      · rw [i3 k k1 k2]
        congr 1
        by_cases c : 20 * x1 ≤ k ∧ k < 20 * x1 + x9
        · rw [if_pos c, if_pos (by omega)]
        · rw [if_neg c]
          by_cases c2 : 20 * x1 ≤ k ∧ k < 20 * x1 + 20
          · rw [if_pos c2, v0 _ (by omega) (by omega)]
          · rw [if_neg c2]
      · rw [i4 k k1 k2]
        congr 1
        by_cases c : 20 * x2 ≤ k ∧ k < 20 * x2 + x9
        · rw [if_pos c, if_pos (by omega)]
        · rw [if_neg c]
          by_cases c2 : 20 * x2 ≤ k ∧ k < 20 * x2 + 20
          · rw [if_pos c2, v0 _ (by omega) (by omega)]
          · rw [if_neg c2]
    · refine b_Pay_payBack_71  (fun c2 => ?_) (fun c2 => ?_)
      · refine b_Pay_payBack_138  ?_
        have e9 : x9 = 20 := by omega
        rw [e9] at i3 i4 i5
        rw [i5]
        exact H L i2 i3 i4
      · have hv9 := hv x9 (by omega) (by omega)
        have e61 : L 61 x9 = lk x9 := by rw [i2 61 (by omega) (by omega)]; exact h61 x9 (by omega) (by omega)
        have mb := mulb (a := lk x9) (c := x3) (A := 3000000000) (C := 1000000000) (by omega) hx.2.2
        have e62 : L 61 x9 * x3 = lk x9 * x3 := by rw [e61]
        have e63 : L 61 x9 * x3 / x5 = lk x9 * x3 / x5 := by rw [e61]
        have q9 := hq (x1 * 20 + x9) (by omega) (by omega)
        have q8 := hq (x2 * 20 + x9) (by omega) (by omega)
        have j43 := i3 (x1 * 20 + x9) (by omega) (by omega)
        have j44 := i4 (x2 * 20 + x9) (by omega) (by omega)
        rw [if_neg (by omega)] at j43 j44
        refine b_Pay_payBack_78  (fun c3 => ?_) (fun c3 => ?_)
        · refine b_Pay_payBack_100 (by omega) ?_
          have vv : L 61 x9 = v x9 := by
            rw [hv9.1]
            first
              | (rw [if_pos (by omega)]; exact e63)
              | (rw [if_neg (by omega)]; exact e61)
          refine b_Pay_payBack_107  (s_Yrs_pay (by omega) (by rw [vv]; omega) ?_)
          refine b_Pay_payBack_125 (by omega) (by omega) ?_
          refine ih ((am_up (am_up L 43 (x1 * 20 + x9) (L 43 (x1 * 20 + x9) + ((L 61 x9)))) 44 (x2 * 20 + x9) (L 44 (x2 * 20 + x9) + ((L 61 x9))))) (x7 + ((L 61 x9))) (x9 + 1) (by omega) (by omega) (fun k k1 k2 => by rw [upn k2, upn k1]; exact i2 k k1 k2) (fun k k1 k2 => ?_) (fun k k1 k2 => ?_) ?_ (by omega) (by omega)
          · rw [upm (by omega)]
            by_cases ek : k = x1 * 20 + x9
            · rw [ek, ups, if_pos (by omega), j43, vv]
              rw [show x1 * 20 + x9 - 20 * x1 = x9 by omega]
              omega
            · rw [upo ek, i3 k k1 k2]
              by_cases c : 20 * x1 ≤ k ∧ k < 20 * x1 + x9
              · rw [if_pos c, if_pos (by omega)]
              · rw [if_neg c, if_neg (by omega)]
          · by_cases ek : k = x2 * 20 + x9
            · rw [ek, ups, if_pos (by omega), j44, vv]
              rw [show x2 * 20 + x9 - 20 * x2 = x9 by omega]
              omega
            · rw [upo ek, upm (by omega), i4 k k1 k2]
              by_cases c : 20 * x2 ≤ k ∧ k < 20 * x2 + x9
              · rw [if_pos c, if_pos (by omega)]
              · rw [if_neg c, if_neg (by omega)]
          · rw [sm_step (by omega), i5, vv]
        · refine b_Pay_payBack_85 (by omega) (by omega) (by omega) ?_
          have vv : ((L 61 x9) * x3) / x5 = v x9 := by
            rw [hv9.1]
            first
              | (rw [if_pos (by omega)]; exact e63)
              | (rw [if_neg (by omega)]; exact e61)
          refine b_Pay_payBack_107  (s_Yrs_pay (by omega) (by rw [vv]; omega) ?_)
          refine b_Pay_payBack_125 (by omega) (by omega) ?_
          refine ih ((am_up (am_up L 43 (x1 * 20 + x9) (L 43 (x1 * 20 + x9) + ((((L 61 x9) * x3) / x5)))) 44 (x2 * 20 + x9) (L 44 (x2 * 20 + x9) + ((((L 61 x9) * x3) / x5))))) (x7 + ((((L 61 x9) * x3) / x5))) (x9 + 1) (by omega) (by omega) (fun k k1 k2 => by rw [upn k2, upn k1]; exact i2 k k1 k2) (fun k k1 k2 => ?_) (fun k k1 k2 => ?_) ?_ (by omega) (by omega)
          · rw [upm (by omega)]
            by_cases ek : k = x1 * 20 + x9
            · rw [ek, ups, if_pos (by omega), j43, vv]
              rw [show x1 * 20 + x9 - 20 * x1 = x9 by omega]
              omega
            · rw [upo ek, i3 k k1 k2]
              by_cases c : 20 * x1 ≤ k ∧ k < 20 * x1 + x9
              · rw [if_pos c, if_pos (by omega)]
              · rw [if_neg c, if_neg (by omega)]
          · by_cases ek : k = x2 * 20 + x9
            · rw [ek, ups, if_pos (by omega), j44, vv]
              rw [show x2 * 20 + x9 - 20 * x2 = x9 by omega]
              omega
            · rw [upo ek, upm (by omega), i4 k k1 k2]
              by_cases c : 20 * x2 ≤ k ∧ k < 20 * x2 + x9
              · rw [if_pos c, if_pos (by omega)]
              · rw [if_neg c, if_neg (by omega)]
          · rw [sm_step (by omega), i5, vv]
set_option maxHeartbeats 1000000 in
theorem s_Pay_payBack {ro : Nat → Int × (Int → Int)} {d : Nat} {b : Bool} {I L : Nat → Int → Int} {Q : Option am_V → am_H → Prop} {x1 x2 x3 : Int} {q : Int → Int} (hro : RoK ro) (hC : Cor I L) (h40 : L 40 x1 = q x1 ∧ 0 ≤ q x1 ∧ q x1 ≤ 1000000000) (hq : ∀ k, 0 ≤ k → k < 820 → (0 ≤ q (123 + k) ∧ q (123 + k) ≤ 50000000000) ∧ 0 ≤ q (943 + k) ∧ q (943 + k) ≤ 50000000000) (h43 : ∀ k, 0 ≤ k → k < 820 → L 43 k = q (123 + k) ∧ L 44 k = q (943 + k)) (hx : (0 ≤ x1 ∧ x1 ≤ 40) ∧ (0 ≤ x2 ∧ x2 ≤ 40) ∧ (0 ≤ x3 ∧ x3 ≤ 1000000000)) (H : ∀ I' L' : Nat → Int → Int, Sy I L I' L' → (∀ k, 0 ≤ k → k < 820 → L' 43 k = stq x2 x1 q (fun n => pvN (I 67) (fun m => wg (I 67) q x1 m x2 (-1)) q x1 x3 n) (123 + k) ∧ L' 44 k = stq x2 x1 q (fun n => pvN (I 67) (fun m => wg (I 67) q x1 m x2 (-1)) q x1 x3 n) (943 + k)) → Q (some (am_L (sm (fun n => pvN (I 67) (fun m => wg (I 67) q x1 m x2 (-1)) q x1 x3 n) 20))) (sh b, I', L')) : am_m ro (d + 8) 151 [am_R 58, am_I x1, am_I x2, am_L x3] (sh b, I, L) Q := by
  have ct := Cor_ct hC
  refine am_in rfl rfl rfl rfl ?_
  refine b_Pay_payBack_0  (fun c1 => ?_) (fun c1 => ?_)
  · refine b_Pay_payBack_23  ?_
    have x30 : x3 = 0 := by omega
    have v0 : ∀ n, 0 ≤ n → n < 20 → pvN (I 67) (fun m => wg (I 67) q x1 m x2 (-1)) q x1 x3 n = 0 := fun n n1 n2 => by rw [x30]; exact pv_l0 ⟨n1, n2⟩
    have s0 : sm (fun n => pvN (I 67) (fun m => wg (I 67) q x1 m x2 (-1)) q x1 x3 n) 20 = 0 := sm_zero _ (fun n n1 n2 => v0 n n1 (by omega))
    have k9 := H I L (Sy_sc Sc_rf) (fun k k1 k2 => ⟨by rw [stq_0 v0]; exact (h43 k k1 k2).1, by rw [stq_0 v0]; exact (h43 k k1 k2).2⟩)
    rw [s0] at k9
    exact k9
  · refine b_Pay_payBack_6 (by omega) (fun c2 => ?_) (fun c2 => ?_)
    · refine b_Pay_payBack_25  (s_Pay_gather hro hC (by omega) (fun I9 L9 s9 r9 => ?_))
      have f67 := Sc_67 s9
      have e40 : L9 40 x1 = q x1 := by rw [s9.2.2 40 (by omega)]; exact h40.1
      refine b_Pay_payBack_32 (by omega) (s_Pay_partPence (P := (fun z => pnt (I 67) (fun e => est (I 67) x1 x2 e) x1 (-1) z)) hro (Cor_sc hC s9) (pp_of (Mo_of hC) (by omega)) r9 (by omega) (fun I8 L8 s8 r8 => ?_))
      have t8 := Sc_tr s9 s8
      have c8 := Cor_sc hC t8
      have f678 := Sc_67 t8
      have gb : ∀ n, 0 ≤ n → n < 20 → 0 ≤ wg (I 67) q x1 n x2 (-1) ∧ wg (I 67) q x1 n x2 (-1) ≤ 3000000000 := fun n n1 n2 => fG_bd (pp_of (Mo_of hC) (by omega)) h40.2 ⟨n1, n2⟩ (sy_r (Mo_of hC) (nmN_r (by omega)))
      have gg : ∀ n, 0 ≤ n → n < 20 → L8 61 n = wg (I 67) q x1 n x2 (-1) := fun n n1 n2 => by rw [r8 n n1 n2, f67, e40]; rfl
      refine b_Pay_payBack_50  (s_Pay_keepLacks (G := (fun m => wg (I 67) q x1 m x2 (-1))) (q := q) (PoC_of c8) (by omega) (fun k k1 k2 => ⟨by rw [t8.2.2 43 (by omega)]; exact (h43 k k1 k2).1, (hq k k1 k2).1⟩) gb gg (fun L7 f1 f2 => ?_))
      refine b_Pay_payBack_56  ?_
      rw [f678] at f2 ⊢
      have lb : ∀ n, 0 ≤ n → n < 20 → 0 ≤ lkN (I 67) (fun m => wg (I 67) q x1 m x2 (-1)) q x1 n ∧ lkN (I 67) (fun m => wg (I 67) q x1 m x2 (-1)) q x1 n ≤ lsN (I 67) (fun m => wg (I 67) q x1 m x2 (-1)) q x1 ∧ lkN (I 67) (fun m => wg (I 67) q x1 m x2 (-1)) q x1 n ≤ 3000000000 := fun n n1 n2 => by
        have w := lkN_le (p := I 67) (G := (fun m => wg (I 67) q x1 m x2 (-1))) (q := q) (b := x1) ⟨n1, n2⟩
        have w2 := gb n n1 n2
        have s0 : 0 ≤ sm (fun k => if I 67 (480 + k) = n then q (123 + 20 * x1 + k) else 0) (I 67 3).toNat := sm_nn _ (fun k k1 k2 => by
          have := (hq (20 * x1 + k) (by omega) (by omega)).1.1
          rw [← Int.add_assoc] at this
          show 0 ≤ (if I 67 (480 + k) = n then q (123 + 20 * x1 + k) else 0)
          split <;> omega)
        have w3 : lkN (I 67) (fun m => wg (I 67) q x1 m x2 (-1)) q x1 n ≤ wg (I 67) q x1 n x2 (-1) := lkN_g (G := (fun m => wg (I 67) q x1 m x2 (-1))) s0 w2.1
        exact ⟨w.1, w.2, by omega⟩
      refine lp_Pay_payBack (d := d + 6) (x1 := x1) (x2 := x2) (x3 := x3) (x5 := lsN (I 67) (fun m => wg (I 67) q x1 m x2 (-1)) q x1) (q := q) (v := (fun n => pvN (I 67) (fun m => wg (I 67) q x1 m x2 (-1)) q x1 x3 n)) (lk := fun n => lkN (I 67) (fun m => wg (I 67) q x1 m x2 (-1)) q x1 n) (L0 := L7) hx hq (fun n n1 n2 => ⟨pvN_def, ?_, (lb n n1 n2).1, (lb n n1 n2).2.1, (lb n n1 n2).2.2⟩) f2 (fun L6 u1 u2 u3 => H I8 L6 ⟨t8.1, t8.2.1, fun k hk => ?_⟩ (fun k k1 k2 => ⟨?_, ?_⟩)) 21 L7 0 0 (by omega) (by omega) (fun _ _ _ => rfl) (fun k k1 k2 => ?_) (fun k k1 k2 => ?_) rfl (by omega) (by omega)
      · have := pvN_bd (p := I 67) (G := (fun m => wg (I 67) q x1 m x2 (-1))) (q := q) (b := x1) (l := x3) hx.2.2.1 ⟨n1, n2⟩
        show 0 ≤ pvN (I 67) (fun m => wg (I 67) q x1 m x2 (-1)) q x1 x3 n ∧ pvN (I 67) (fun m => wg (I 67) q x1 m x2 (-1)) q x1 x3 n ≤ 1000000000
        omega
      · rw [u1 k (by omega) (by omega), f1 k (by omega)]
        exact t8.2.2 k hk.2
      · rw [u2 k k1 k2, stq43 ⟨k1, k2⟩ hx.2.1]
      · rw [u3 k k1 k2, stq44 ⟨k1, k2⟩ hx.1]
      · rw [f1 43 (by omega), t8.2.2 43 (by omega), (h43 k k1 k2).1, if_neg (by omega)]
        omega
      · rw [f1 44 (by omega), t8.2.2 44 (by omega), (h43 k k1 k2).2, if_neg (by omega)]
        omega
    · refine b_Pay_payBack_23  ?_
      have q0 : q x1 = 0 := by omega
      have g0 : ∀ n, 0 ≤ n → n < 20 → wg (I 67) q x1 n x2 (-1) = 0 := fun n n1 n2 => by
        have w1 := fG_bd (T := sy (I 67) (nmN x1) 4 x1 (-1)) (q := n) (pp_of (y := x1) (w := -1) (a := x2) (Mo_of hC) (by omega)) h40.2 ⟨n1, n2⟩ (sy_r (key := 3) (y := x1) (w := -1) (Mo_of hC) (nmN_r (y := x1) (by omega)))
        have w2 := fG_le (T := sy (I 67) (nmN x1) 4 x1 (-1)) (q := n) (pp_of (y := x1) (w := -1) (a := x2) (Mo_of hC) (by omega)) h40.2 (sy_r (key := 3) (y := x1) (w := -1) (Mo_of hC) (nmN_r (y := x1) (by omega))) ⟨n1, n2⟩
        unfold wg
        omega
      have v0 : ∀ n, 0 ≤ n → n < 20 → pvN (I 67) (fun m => wg (I 67) q x1 m x2 (-1)) q x1 x3 n = 0 := fun n n1 n2 => pv_g0 ⟨n1, n2⟩ hx.2.2.1 (by omega) (fun k k1 k2 => by
        have := (hq (20 * x1 + k) (by omega) (by omega)).1.1
        rw [← Int.add_assoc] at this
        exact this) g0
      have s0 : sm (fun n => pvN (I 67) (fun m => wg (I 67) q x1 m x2 (-1)) q x1 x3 n) 20 = 0 := sm_zero _ (fun n n1 n2 => v0 n n1 (by omega))
      have k9 := H I L (Sy_sc Sc_rf) (fun k k1 k2 => ⟨by rw [stq_0 v0]; exact (h43 k k1 k2).1, by rw [stq_0 v0]; exact (h43 k k1 k2).2⟩)
      rw [s0] at k9
      exact k9
