theorem wg_cg {p q q' : Int → Int} {y n a w : Int} (h : q y = q' y) : wg p q y n a w = wg p q' y n a w := by
  unfold wg
  rw [h]
theorem stq_lo {y b j : Int} {q v : Int → Int} (hy : 0 ≤ y) (hb : 0 ≤ b) (hj : j < 123) : stq y b q v j = q j := by
  unfold stq
  rw [if_neg (by omega), if_neg (by omega)]
theorem QL_lo {p q0 : Int → Int} {f y s j : Int} (hy : 0 ≤ y) (hs : 0 ≤ s) (hj : j < 123) : ∀ i : Nat, (QL p q0 f y s i).1 j = q0 j
  | 0 => rfl
  | i + 1 => by
    have ih := QL_lo (p := p) (q0 := q0) (f := f) hy hs hj i
    show stq y (s + i) (QL p q0 f y s i).1 _ j = q0 j
    rw [stq_lo hy (by omega) hj]
    exact ih
/-- what holds of the rows while years behind are paid back -/
theorem QL_bd {p q0 : Int → Int} {f y s : Int} (hy : 0 ≤ y ∧ y ≤ 40) (hs : 0 ≤ s) (hf : 0 ≤ f ∧ f ≤ 410000000) : ∀ i : Nat, s + i ≤ y → (0 ≤ (QL p q0 f y s i).2 ∧ (QL p q0 f y s i).2 ≤ f) ∧ (∀ k, 0 ≤ k → k < 820 → q0 (123 + k) ≤ (QL p q0 f y s i).1 (123 + k) ∧ (QL p q0 f y s i).1 (123 + k) ≤ q0 (123 + k) + (if 20 * s ≤ k ∧ k < 20 * (s + i) then 410000000 else 0)) ∧ (∀ k, 0 ≤ k → k < 820 → q0 (943 + k) ≤ (QL p q0 f y s i).1 (943 + k) ∧ (QL p q0 f y s i).1 (943 + k) ≤ q0 (943 + k) + (if 20 * y ≤ k ∧ k < 20 * y + 20 then 410000000 * (i : Int) else 0))
  | 0, _ => by
    refine ⟨⟨hf.1, Int.le_refl _⟩, fun k k1 k2 => ?_, fun k k1 k2 => ?_⟩
    · show q0 (123 + k) ≤ q0 (123 + k) ∧ q0 (123 + k) ≤ q0 (123 + k) + (if 20 * s ≤ k ∧ k < 20 * (s + ((0 : Nat) : Int)) then 410000000 else 0)
      split <;> omega
    · show q0 (943 + k) ≤ q0 (943 + k) ∧ q0 (943 + k) ≤ q0 (943 + k) + (if 20 * y ≤ k ∧ k < 20 * y + 20 then 410000000 * ((0 : Nat) : Int) else 0)
      split <;> omega
  | i + 1, hi => by
    have ih := QL_bd (p := p) (q0 := q0) hy hs hf i (by omega)
    obtain ⟨h1, h2, h3⟩ := ih
    have pb := fun n (n1 : 0 ≤ n) (n2 : n < 20) => pvN_bd (p := p) (G := fun m => wg p q0 (s + i) m y (-1)) (q := (QL p q0 f y s i).1) (b := s + i) (l := (QL p q0 f y s i).2) h1.1 ⟨n1, n2⟩
    have ps := pvN_sum (p := p) (G := fun m => wg p q0 (s + i) m y (-1)) (q := (QL p q0 f y s i).1) (b := s + i) (l := (QL p q0 f y s i).2) h1.1
    refine ⟨?_, fun k k1 k2 => ?_, fun k k1 k2 => ?_⟩
    · show 0 ≤ (QL p q0 f y s i).2 - sm (fun n => pvN p (fun m => wg p q0 (s + i) m y (-1)) (QL p q0 f y s i).1 (s + i) (QL p q0 f y s i).2 n) 20 ∧ (QL p q0 f y s i).2 - sm (fun n => pvN p (fun m => wg p q0 (s + i) m y (-1)) (QL p q0 f y s i).1 (s + i) (QL p q0 f y s i).2 n) 20 ≤ f
      omega
    · have e : (QL p q0 f y s (i + 1)).1 (123 + k) = stq y (s + i) (QL p q0 f y s i).1 (fun n => pvN p (fun m => wg p q0 (s + i) m y (-1)) (QL p q0 f y s i).1 (s + i) (QL p q0 f y s i).2 n) (123 + k) := rfl
      have h2k := h2 k k1 k2
      rw [e, stq43 ⟨k1, k2⟩ hy]
      by_cases c : 20 * (s + i) ≤ k ∧ k < 20 * (s + i) + 20
      · have pk := pb (k - 20 * (s + i)) (by omega) (by omega)
        rw [if_neg (by omega)] at h2k
        rw [if_pos c, if_pos (by omega)]
        omega
      · rw [if_neg c]
        by_cases c2 : 20 * s ≤ k ∧ k < 20 * (s + i)
        · rw [if_pos c2] at h2k
          rw [if_pos (by omega)]
          omega
        · rw [if_neg c2] at h2k
          rw [if_neg (by omega)]
          omega
    · have e : (QL p q0 f y s (i + 1)).1 (943 + k) = stq y (s + i) (QL p q0 f y s i).1 (fun n => pvN p (fun m => wg p q0 (s + i) m y (-1)) (QL p q0 f y s i).1 (s + i) (QL p q0 f y s i).2 n) (943 + k) := rfl
      have h3k := h3 k k1 k2
      rw [e, stq44 ⟨k1, k2⟩ ⟨by omega, by omega⟩]
      by_cases c : 20 * y ≤ k ∧ k < 20 * y + 20
      · have pk := pb (k - 20 * y) (by omega) (by omega)
        rw [if_pos c] at h3k
        rw [if_pos c, if_pos c]
        omega
      · rw [if_neg c] at h3k
        rw [if_neg c, if_neg c]
        omega
def fnd (p q : Int → Int) (y : Int) : Int := p (239 + y) + (if 0 < y then q (81 + y) else 0)
def ltN (p : Int → Int) (y : Int) : Int := max 0 (min 40 (sy p (nmN y) 5 y (-1)))
def sN (p : Int → Int) (y : Int) : Int := max 0 (y - ltN p y)
def qE (p q : Int → Int) (y : Int) : (Int → Int) × Int := QL p q (fnd p q y) y (sN p y) (y - sN p y).toNat
def pY (p : Int → Int) (y : Int) : Int → Int := fun z => pnt p (fun e => est p y y e) y (-1) z
def mY (p : Int → Int) (y : Int) : Int := sy p (nmN y) 3 y (-1)
def tY (p : Int → Int) (y : Int) : Int := sy p (nmN y) 4 y (-1)
def qF (p q : Int → Int) (y : Int) : Int → Int := stq y y (qE p q y).1 (fun n => fG (pY p y) (mY p y) (tY p y) (qE p q y).2 n)
def qZ (p q : Int → Int) (y : Int) : Int → Int := fun j => if j = y then (qE p q y).2 else if j = 41 + y then fnd p q y - (qE p q y).2 else if j = 82 + y then fR (pY p y) (mY p y) (tY p y) (qE p q y).2 else qF p q y j
def cZ (p q : Int → Int) (y : Int) : Int := sm (fun n => if 0 < qF p q y (943 + 20 * y + n) then 1 else 0) 20
theorem lp_Yrs_manyPaid {ro : Nat → Int × (Int → Int)} {d : Nat} {b : Bool} {I L : Nat → Int → Int} {Q : Option am_V → am_H → Prop} {bc bs : Nat} {x1 : Int} {r : Int → Int} (hx : 0 ≤ x1 ∧ x1 ≤ 40) (hr : ∀ n, 0 ≤ n → n < 20 → L 44 (x1 * 20 + n) = r n) (H : Q (some (am_I (sm (fun n => if 0 < r n then 1 else 0) 20))) (sh b, I, L)) : ∀ (n : Nat) (x2 x3 : Int), (0 ≤ x3) → (x3 ≤ 20) → (x2 = sm (fun n => if 0 < r n then 1 else 0) x3.toNat) → (0 ≤ x2 ∧ x2 ≤ x3) → 20 - x3 < (n : Int) → am_ex (am_m ro (d + 0)) ro am_M109 Q (4, [some (am_R 36), some (am_I x1), some (am_I x2), some (am_I x3)], [], (sh b, I, L), bc, bs) := by
  intro n
  induction n with
  | zero =>
    intro x2 x3 i0 i1 i2 i3 im
    exact absurd im (by omega)
  | succ n ih =>
    intro x2 x3 i0 i1 i2 i3 im
    refine b_Yrs_manyPaid_4  (fun c1 => ?_) (fun c1 => ?_)
    · refine b_Yrs_manyPaid_35  ?_
      have e9 : x3 = 20 := by omega
      rw [e9] at i2
      rw [i2]
      exact H
    · have er := hr x3 (by omega) (by omega)
      refine b_Yrs_manyPaid_10 (by omega) (by omega) (by omega) (fun c2 => ?_) (fun c2 => ?_)
      · refine b_Yrs_manyPaid_29 (by omega) ?_
        exact ih x2 (x3 + 1) (by omega) (by omega) (by rw [sm_step (by omega), ← i2]; first | (rw [if_pos (by omega)]; done) | (rw [if_neg (by omega)]; omega)) (by omega) (by omega)
      · refine b_Yrs_manyPaid_26 (by omega) ?_
        refine b_Yrs_manyPaid_29 (by omega) ?_
        exact ih ((x2 + 1)) (x3 + 1) (by omega) (by omega) (by rw [sm_step (by omega), ← i2]; first | (rw [if_pos (by omega)]; done) | (rw [if_neg (by omega)]; omega)) (by omega) (by omega)
theorem s_Yrs_manyPaid {ro : Nat → Int × (Int → Int)} {d : Nat} {b : Bool} {I L : Nat → Int → Int} {Q : Option am_V → am_H → Prop} {x1 : Int} {r : Int → Int} (hx : 0 ≤ x1 ∧ x1 ≤ 40) (hr : ∀ n, 0 ≤ n → n < 20 → L 44 (x1 * 20 + n) = r n) (H : Q (some (am_I (sm (fun n => if 0 < r n then 1 else 0) 20))) (sh b, I, L)) : am_m ro (d + 1) 109 [am_R 36, am_I x1] (sh b, I, L) Q := by
  refine am_in rfl rfl rfl rfl ?_
  refine b_Yrs_manyPaid_0  ?_
  exact lp_Yrs_manyPaid (d := d) hx hr H 21 0 0 (by omega) (by omega) rfl (by omega) (by omega)
theorem s_Land_openNext {ro : Nat → Int × (Int → Int)} {d : Nat} {b : Bool} {I L : Nat → Int → Int} {Q : Option am_V → am_H → Prop} (hx : 0 ≤ I 1 0 ∧ I 1 0 < 40) (H : Q none (sh b, am_up (am_up I 1 0 (I 1 0 + 1)) 37 (I 1 0 + 1) (I 37 (I 1 0)), L)) : am_m ro (d + 1) 62 [am_R 1] (sh b, I, L) Q := by
  refine am_in rfl rfl rfl rfl ?_
  refine b_Land_openNext_0  (fun c1 => ?_) (fun c1 => ?_)
  · refine b_Land_openNext_45  ?_
    exfalso
    omega
  · refine b_Land_openNext_9 (by first | omega | (simp (disch := omega) only [upo, upm, ups]; omega)) (by first | omega | (simp (disch := omega) only [upo, upm, ups]; omega)) (by first | omega | (simp (disch := omega) only [upo, upm, ups]; omega)) (by first | omega | (simp (disch := omega) only [upo, upm, ups]; omega)) ?_
    refine b_Land_openNext_45  ?_
    have e9 : I 1 0 + 1 - 1 = I 1 0 := by omega
    simp (disch := omega) only [upo, upm, ups, e9]
    exact H
theorem lp_Pay_payOut {ro : Nat → Int × (Int → Int)} {d : Nat} {b : Bool} {I : Nat → Int → Int} {Q : Option am_V → am_H → Prop} {bc bs : Nat} {x1 : Int} {q v : Int → Int} {L0 : Nat → Int → Int} (hx : 0 ≤ x1 ∧ x1 ≤ 40) (hq : ∀ k, 0 ≤ k → k < 820 → (0 ≤ q (123 + k) ∧ q (123 + k) ≤ 50000000000) ∧ 0 ≤ q (943 + k) ∧ q (943 + k) ≤ 50000000000) (hv : ∀ n, 0 ≤ n → n < 20 → L0 61 n = v n ∧ 0 ≤ v n ∧ v n ≤ 3000000000) (H : ∀ L : Nat → Int → Int, (∀ k, k ≠ 43 → k ≠ 44 → L k = L0 k) → (∀ k, 0 ≤ k → k < 820 → L 43 k = q (123 + k) + if 20 * x1 ≤ k ∧ k < 20 * x1 + 20 then v (k - 20 * x1) else 0) → (∀ k, 0 ≤ k → k < 820 → L 44 k = q (943 + k) + if 20 * x1 ≤ k ∧ k < 20 * x1 + 20 then v (k - 20 * x1) else 0) → Q none (sh b, I, L)) : ∀ (n : Nat) (L : Nat → Int → Int) (x4 : Int), (0 ≤ x4) → (x4 ≤ 20) → (∀ k, k ≠ 43 → k ≠ 44 → L k = L0 k) → (∀ k, 0 ≤ k → k < 820 → L 43 k = q (123 + k) + if 20 * x1 ≤ k ∧ k < 20 * x1 + x4 then v (k - 20 * x1) else 0) → (∀ k, 0 ≤ k → k < 820 → L 44 k = q (943 + k) + if 20 * x1 ≤ k ∧ k < 20 * x1 + x4 then v (k - 20 * x1) else 0) → 20 - x4 < (n : Int) → am_ex (am_m ro (d + 1)) ro am_M153 Q (42, [some (am_R 58), some (am_I x1), none, none, some (am_I x4)], [], (sh b, I, L), bc, bs) := by
  intro n
  induction n with
  | zero =>
    intro L x4 i0 i1 i2 i3 i4 im
    exact absurd im (by omega)
  | succ n ih =>
    intro L x4 i0 i1 i2 i3 i4 im
    refine b_Pay_payOut_42  (fun c1 => ?_) (fun c1 => ?_)
    · refine b_Pay_payOut_76  ?_
      have e9 : x4 = 20 := by omega
      rw [e9] at i3 i4
      exact H L i2 i3 i4
    · have hv9 := hv x4 (by omega) (by omega)
      have e61 : L 61 x4 = v x4 := by rw [i2 61 (by omega) (by omega)]; exact hv9.1
      have q9 := hq (x1 * 20 + x4) (by omega) (by omega)
      have j43 := i3 (x1 * 20 + x4) (by omega) (by omega)
      have j44 := i4 (x1 * 20 + x4) (by omega) (by omega)
      rw [if_neg (by omega)] at j43 j44
      refine b_Pay_payOut_49 (by omega) (s_Yrs_pay (by omega) (by omega) ?_)
      refine b_Pay_payOut_70 (by omega) ?_
      refine ih ((am_up (am_up L 43 (x1 * 20 + x4) (L 43 (x1 * 20 + x4) + (L 61 x4))) 44 (x1 * 20 + x4) (L 44 (x1 * 20 + x4) + (L 61 x4)))) (x4 + 1) (by omega) (by omega) (fun k k1 k2 => by rw [upn k2, upn k1]; exact i2 k k1 k2) (fun k k1 k2 => ?_) (fun k k1 k2 => ?_) (by omega)
      · rw [upm (by omega)]
        by_cases ek : k = x1 * 20 + x4
        · rw [ek, ups, if_pos (by omega), j43, e61]
          rw [show x1 * 20 + x4 - 20 * x1 = x4 by omega]
          omega
        · rw [upo ek, i3 k k1 k2]
          by_cases c : 20 * x1 ≤ k ∧ k < 20 * x1 + x4
          · rw [if_pos c, if_pos (by omega)]
          · rw [if_neg c, if_neg (by omega)]
      · by_cases ek : k = x1 * 20 + x4
        · rw [ek, ups, if_pos (by omega), j44, e61]
          rw [show x1 * 20 + x4 - 20 * x1 = x4 by omega]
          omega
        · rw [upo ek, upm (by omega), i4 k k1 k2]
          by_cases c : 20 * x1 ≤ k ∧ k < 20 * x1 + x4
          · rw [if_pos c, if_pos (by omega)]
          · rw [if_neg c, if_neg (by omega)]
set_option maxHeartbeats 1000000 in
theorem s_Pay_payOut {ro : Nat → Int × (Int → Int)} {d : Nat} {b : Bool} {I L : Nat → Int → Int} {Q : Option am_V → am_H → Prop} {x1 x2 : Int} {q : Int → Int} (hro : RoK ro) (hC : Cor I L) (hq : ∀ k, 0 ≤ k → k < 820 → (0 ≤ q (123 + k) ∧ q (123 + k) ≤ 50000000000) ∧ 0 ≤ q (943 + k) ∧ q (943 + k) ≤ 50000000000) (h43 : ∀ k, 0 ≤ k → k < 820 → L 43 k = q (123 + k) ∧ L 44 k = q (943 + k)) (hx : (0 ≤ x1 ∧ x1 ≤ 40) ∧ 0 ≤ x2 ∧ x2 ≤ 1000000000) (H : ∀ I' L' : Nat → Int → Int, Sc I L I' L → (∀ k, (k < 40 ∨ k = 41 ∨ 45 ≤ k) ∧ (k ≤ 50 ∨ (63 ≤ k ∧ k ≤ 65) ∨ (67 ≤ k ∧ k ≤ 75) ∨ 85 ≤ k) → L' k = L k) → (∀ k, L' 40 k = if k = x1 then x2 else L 40 k) → (∀ k, L' 42 k = if k = x1 then fR (pY (I 67) x1) (mY (I 67) x1) (tY (I 67) x1) x2 else L 42 k) → (∀ k, 0 ≤ k → k < 820 → L' 43 k = stq x1 x1 q (fun n => fG (pY (I 67) x1) (mY (I 67) x1) (tY (I 67) x1) x2 n) (123 + k) ∧ L' 44 k = stq x1 x1 q (fun n => fG (pY (I 67) x1) (mY (I 67) x1) (tY (I 67) x1) x2 n) (943 + k)) → Q none (sh b, I', L')) : am_m ro (d + 8) 153 [am_R 58, am_I x1, am_L x2] (sh b, I, L) Q := by
  have ct := Cor_ct hC
  refine am_in rfl rfl rfl rfl ?_
  refine b_Pay_payOut_0  (s_Pay_gather hro hC (by omega) (fun I9 L9 s9 r9 => ?_))
  refine b_Pay_payOut_7 (by omega) (s_Pay_partPence (P := pY (I 67) x1) hro (Cor_L (Cor_sc hC s9)) (pp_of (Mo_of hC) (by omega)) (fun z z1 z2 => by rw [upm (by omega)]; exact r9 z z1 z2) (by omega) (fun I8 L8 s8 r8 => ?_))
  refine b_Pay_payOut_38 (by omega) ?_
  have f67 := Sc_67 s9
  rw [f67] at r8 ⊢
  have t8 : Sc I L I8 L := ⟨(Sc_tr (L1 := L) (L2 := L) (L := L) ⟨s9.1, s9.2.1, fun _ _ => rfl⟩ ⟨s8.1, s8.2.1, fun _ _ => rfl⟩).1, fun j hj => (s8.2.1 j hj).trans (s9.2.1 j hj), fun _ _ => rfl⟩
  have lk : ∀ k, k ≠ 40 → (k ≤ 50 ∨ (63 ≤ k ∧ k ≤ 65) ∨ (67 ≤ k ∧ k ≤ 75) ∨ 85 ≤ k) → L8 k = L k := fun k k1 k2 => by rw [s8.2.2 k k2, upn k1]; exact s9.2.2 k k2
  refine lp_Pay_payOut (d := d + 6) (q := q) (v := (fun n => fG (pY (I 67) x1) (mY (I 67) x1) (tY (I 67) x1) x2 n)) (L0 := am_up L8 42 x1 (fR (pY (I 67) x1) (mY (I 67) x1) (tY (I 67) x1) x2)) hx.1 hq (fun n n1 n2 => ⟨?_, fG_bd (pp_of (Mo_of hC) (by omega)) hx.2 ⟨n1, n2⟩ (sy_r (Mo_of hC) (nmN_r (by omega)))⟩) (fun L7 u1 u2 u3 => H I8 L7 t8 (fun k hk => ?_) (fun k => ?_) (fun k => ?_) (fun k k1 k2 => ⟨?_, ?_⟩)) 21 _ 0 (by omega) (by omega) (fun _ _ _ => rfl) (fun k k1 k2 => ?_) (fun k k1 k2 => ?_) (by omega)
  · rw [upm (by omega)]
    exact r8 n n1 n2
  · rw [u1 k (by omega) (by omega), upn (by omega)]
    exact lk k (by omega) hk.2
  · rw [u1 40 (by omega) (by omega), upm (by omega), s8.2.2 40 (by omega)]
    by_cases ek : k = x1
    · rw [ek, ups, if_pos rfl]
    · rw [upo ek, if_neg ek, s9.2.2 40 (by omega)]
  · rw [u1 42 (by omega) (by omega)]
    by_cases ek : k = x1
    · rw [ek, ups, if_pos rfl]
    · rw [upo ek, if_neg ek, lk 42 (by omega) (by omega)]
  · rw [u2 k k1 k2, stq43 ⟨k1, k2⟩ hx.1]
  · rw [u3 k k1 k2, stq44 ⟨k1, k2⟩ hx.1]
  · rw [upm (by omega), lk 43 (by omega) (by omega), (h43 k k1 k2).1, if_neg (by omega)]
    omega
  · rw [upm (by omega), lk 44 (by omega) (by omega), (h43 k k1 k2).2, if_neg (by omega)]
    omega
