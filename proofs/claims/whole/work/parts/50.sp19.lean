/-! THE COUNTS OF A YEAR: sums of n l e -/
def suO (n : Int → Int → Int) (m1 m2 x1 : Int) (I0 L0 I L : Nat → Int → Int) : Prop := (∀ k, k ≠ 51 → I k = I0 k) ∧ (∀ k, k ≠ 51 → k ≠ 53 → k ≠ 54 → L k = L0 k) ∧ (∀ l, 0 ≤ l → l < m1 → L 53 l = if l < x1 then sm (n l) m2.toNat else 0) ∧ (∀ e, 0 ≤ e → e < m2 → L 54 e = sm (fun l => n l e) x1.toNat) ∧ L 51 4 = sm (fun l => sm (n l) m2.toNat) x1.toNat ∧ I 51 5 = sm (fun l => sm (fun e => if 0 < n l e then 1 else 0) m2.toNat) x1.toNat
def suN (n : Int → Int → Int) (m1 m2 x1 x2 : Int) (I0 L0 I L : Nat → Int → Int) : Prop := (∀ k, k ≠ 51 → I k = I0 k) ∧ (∀ k, k ≠ 51 → k ≠ 53 → k ≠ 54 → L k = L0 k) ∧ (∀ l, 0 ≤ l → l < m1 → L 53 l = if l < x1 then sm (n l) m2.toNat else if l = x1 then sm (n l) x2.toNat else 0) ∧ (∀ e, 0 ≤ e → e < m2 → L 54 e = sm (fun l => n l e) (if e < x2 then x1 + 1 else x1).toNat) ∧ L 51 4 = sm (fun l => sm (n l) m2.toNat) x1.toNat + sm (n x1) x2.toNat ∧ I 51 5 = sm (fun l => sm (fun e => if 0 < n l e then 1 else 0) m2.toNat) x1.toNat + sm (fun e => if 0 < n x1 e then 1 else 0) x2.toNat
theorem suN_0 {n : Int → Int → Int} {m1 m2 x1 : Int} {I0 L0 I L : Nat → Int → Int} (h : suO n m1 m2 x1 I0 L0 I L) (h0 : 0 ≤ x1) : suN n m1 m2 x1 0 I0 L0 I L := by
  obtain ⟨h1, h2, h3, h4, h5, h6⟩ := h
  refine ⟨h1, h2, fun l a1 a2 => ?_, fun e a1 a2 => ?_, ?_, ?_⟩
  · rw [h3 l a1 a2]
    by_cases e : l < x1
    · rw [if_pos e, if_pos e]
    · rw [if_neg e, if_neg e]
      split
      · rfl
      · rfl
  · rw [h4 e a1 a2, if_neg (by omega)]
  · rw [h5]
    show _ = _ + 0
    omega
  · rw [h6]
    show _ = _ + 0
    omega
theorem suN_e {n : Int → Int → Int} {m1 m2 x1 : Int} {I0 L0 I L : Nat → Int → Int} (h : suN n m1 m2 x1 m2 I0 L0 I L) (h0 : 0 ≤ x1) : suO n m1 m2 (x1 + 1) I0 L0 I L := by
  obtain ⟨h1, h2, h3, h4, h5, h6⟩ := h
  refine ⟨h1, h2, fun l a1 a2 => ?_, fun e a1 a2 => ?_, ?_, ?_⟩
  · rw [h3 l a1 a2]
    by_cases e : l < x1
    · rw [if_pos e, if_pos (by omega)]
    · rw [if_neg e]
      by_cases e2 : l = x1
      · rw [if_pos e2, if_pos (by omega)]
      · rw [if_neg e2, if_neg (by omega)]
  · rw [h4 e a1 a2, if_pos a2]
  · rw [h5, sm_step h0]
  · rw [h6, sm_step h0]
theorem suN_s {n : Int → Int → Int} {m1 m2 x1 x2 v : Int} {I0 L0 I L I' L' : Nat → Int → Int} (h : suN n m1 m2 x1 x2 I0 L0 I L) (h0 : 0 ≤ x1 ∧ x1 < m1 ∧ 0 ≤ x2 ∧ x2 < m2) (hv : v = n x1 x2) (f1 : ∀ k, k ≠ 51 → I' k = I k) (f2 : ∀ k, k ≠ 51 → k ≠ 53 → k ≠ 54 → L' k = L k) (f3 : ∀ l, L' 53 l = if l = x1 then L 53 x1 + v else L 53 l) (f4 : ∀ e, L' 54 e = if e = x2 then L 54 x2 + v else L 54 e) (f5 : L' 51 4 = L 51 4 + v) (f6 : I' 51 5 = I 51 5 + if 0 < v then 1 else 0) : suN n m1 m2 x1 (x2 + 1) I0 L0 I' L' := by
  obtain ⟨h1, h2, h3, h4, h5, h6⟩ := h
  subst hv
  refine ⟨fun k a => (f1 k a).trans (h1 k a), fun k a1 a2 a3 => (f2 k a1 a2 a3).trans (h2 k a1 a2 a3), fun l a1 a2 => ?_, fun e a1 a2 => ?_, ?_, ?_⟩
  · rw [f3 l]
    by_cases e : l = x1
    · subst e
      rw [if_pos rfl, h3 l a1 a2, if_neg (by omega), if_pos rfl, if_neg (by omega), if_pos rfl, sm_step h0.2.2.1]
    · rw [if_neg e, h3 l a1 a2]
      by_cases e2 : l < x1
      · rw [if_pos e2, if_pos e2]
      · rw [if_neg e2, if_neg e2, if_neg e, if_neg e]
  · rw [f4 e]
    by_cases e2 : e = x2
    · subst e2
      rw [if_pos rfl, h4 e a1 a2, if_neg (by omega), if_pos (by omega), sm_step h0.1]
    · rw [if_neg e2, h4 e a1 a2]
      by_cases e3 : e < x2
      · rw [if_pos e3, if_pos (by omega)]
      · rw [if_neg e3, if_neg (by omega)]
  · rw [f5, h5, sm_step h0.2.2.1]
    omega
  · rw [f6, h6, sm_step h0.2.2.1]
    omega
theorem suN_bd {n : Int → Int → Int} {m1 m2 x1 x2 : Int} {I0 L0 I L : Nat → Int → Int} (h : suN n m1 m2 x1 x2 I0 L0 I L) (h0 : 0 ≤ x1 ∧ x1 < m1 ∧ 0 ≤ x2 ∧ x2 < m2) (hm : m1 ≤ 12 ∧ m2 ≤ 30) (hb : ∀ l e, 0 ≤ l → l < m1 → 0 ≤ e → e < m2 → 0 ≤ n l e ∧ n l e ≤ 9999999) : (0 ≤ L 53 x1 ∧ L 53 x1 ≤ 299999970) ∧ (0 ≤ L 54 x2 ∧ L 54 x2 ≤ 119999988) ∧ (0 ≤ L 51 4 ∧ L 51 4 ≤ 3899999610) ∧ (0 ≤ I 51 5 ∧ I 51 5 ≤ 390) := by
  obtain ⟨h1, h2, h3, h4, h5, h6⟩ := h
  have b1 := sm_bd (f := n x1) (B := 9999999) x2.toNat (fun k a1 a2 => hb x1 k h0.1 h0.2.1 a1 (by omega))
  have b2 := sm_bd (f := fun l => n l x2) (B := 9999999) x1.toNat (fun k a1 a2 => hb k x2 a1 (by omega) (by omega) (by omega))
  have b3 := sm_bd (f := fun l => sm (n l) m2.toNat) (B := 299999970) x1.toNat (fun k a1 a2 => by
    have := sm_bd (f := n k) (B := 9999999) m2.toNat (fun e c1 c2 => hb k e a1 (by omega) c1 (by omega))
    omega)
  have b4 := sm_bd (f := fun e => if 0 < n x1 e then 1 else 0) (B := 1) x2.toNat (fun k a1 a2 => by show (0 : Int) ≤ (if 0 < n x1 k then 1 else 0) ∧ (if 0 < n x1 k then 1 else 0) ≤ (1 : Int); split <;> omega)
  have b5 := sm_bd (f := fun l => sm (fun e => if 0 < n l e then 1 else 0) m2.toNat) (B := 30) x1.toNat (fun k a1 a2 => by
    have := sm_bd (f := fun e => if 0 < n k e then 1 else 0) (B := 1) m2.toNat (fun e c1 c2 => by show (0 : Int) ≤ (if 0 < n k e then 1 else 0) ∧ (if 0 < n k e then 1 else 0) ≤ (1 : Int); split <;> omega)
    omega)
  have e1 := h3 x1 h0.1 h0.2.1
  rw [if_neg (by omega), if_pos rfl] at e1
  have e2 := h4 x2 h0.2.2.1 h0.2.2.2
  rw [if_neg (by omega)] at e2
  omega
theorem lq_Cnt_sumUp {ro : Nat → Int × (Int → Int)} {d : Nat} {b : Bool} {Q : Option am_V → am_H → Prop} {bc bs : Nat} {x1 : Int} {n9 : Int → Int → Int} {I0 L0 : Nat → Int → Int} (hm : (0 ≤ I0 2 0 ∧ I0 2 0 ≤ 12) ∧ 0 ≤ I0 10 0 ∧ I0 10 0 ≤ 30) (hn : ∀ l e, 0 ≤ l → l < I0 2 0 → 0 ≤ e → e < I0 10 0 → I0 52 (l * 30 + e) = n9 l e ∧ 0 ≤ n9 l e ∧ n9 l e ≤ 9999999) (hx : 0 ≤ x1 ∧ x1 < I0 2 0) (HX : ∀ I L : Nat → Int → Int, suO n9 (I0 2 0) (I0 10 0) (x1 + 1) I0 L0 I L → am_ex (am_m ro (d + 0)) ro am_M132 Q (28, [some (am_R 51), some (am_I ((x1 + 1))), none, none], [], (sh b, I, L), bc, bs)) : ∀ (n : Nat) (I L : Nat → Int → Int) (x2 : Int), (0 ≤ x2) → (x2 ≤ I0 10 0) → (suN n9 (I0 2 0) (I0 10 0) x1 x2 I0 L0 I L) → I0 10 0 - x2 < (n : Int) → am_ex (am_m ro (d + 0)) ro am_M132 Q (44, [some (am_R 51), some (am_I x1), some (am_I x2), none], [], (sh b, I, L), bc, bs) := by
  intro n
  induction n with
  | zero =>
    intro I L x2 i0 i1 i2 im
    exact absurd im (by omega)
  | succ n ih =>
    intro I L x2 i0 i1 i2 im
    have e2 : I 2 0 = I0 2 0 := by rw [i2.1 2 (by omega)]
    have e10 : I 10 0 = I0 10 0 := by rw [i2.1 10 (by omega)]
    have e52 : I 52 = I0 52 := i2.1 52 (by omega)
    refine b_Cnt_sumUp_44  (fun c1 => ?_) (fun c1 => ?_)
    · refine b_Cnt_sumUp_123 (by (try simp (disch := omega) only [upo, upm, ups]); omega) ?_
      have e9 : x2 = I0 10 0 := by omega
      rw [e9] at i2
      exact HX I L (suN_e i2 (by omega))
    · have v := hn x1 x2 (by omega) (by omega) (by omega) (by omega)
      have v2 : I 52 (x1 * 30 + x2) = n9 x1 x2 := by rw [e52]; exact v.1
      have bd := suN_bd i2 (by omega) (by omega) (fun l e a1 a2 a3 a4 => (hn l e a1 a2 a3 a4).2)
      refine b_Cnt_sumUp_58 (by (try simp (disch := omega) only [upo, upm, ups]); omega) (by (try simp (disch := omega) only [upo, upm, ups]); omega) (by (try simp (disch := omega) only [upo, upm, ups]); omega) (by (try simp (disch := omega) only [upo, upm, ups]); omega) (by (try simp (disch := omega) only [upo, upm, ups]); omega) (by (try simp (disch := omega) only [upo, upm, ups]); omega) (by (try simp (disch := omega) only [upo, upm, ups]); omega) (by (try simp (disch := omega) only [upo, upm, ups]); omega) (by (try simp (disch := omega) only [upo, upm, ups]); omega) (by (try simp (disch := omega) only [upo, upm, ups]); omega) (fun c2 => ?_) (fun c2 => ?_)
      · refine b_Cnt_sumUp_117 (by (try simp (disch := omega) only [upo, upm, ups]); omega) ?_
        refine ih I ((am_up (am_up (am_up L 53 x1 ((L 53 x1) + (I 52 ((x1 * 30) + x2)))) 54 x2 (((am_up L 53 x1 ((L 53 x1) + (I 52 ((x1 * 30) + x2)))) 54 x2) + (I 52 ((x1 * 30) + x2)))) 51 4 (((am_up (am_up L 53 x1 ((L 53 x1) + (I 52 ((x1 * 30) + x2)))) 54 x2 (((am_up L 53 x1 ((L 53 x1) + (I 52 ((x1 * 30) + x2)))) 54 x2) + (I 52 ((x1 * 30) + x2)))) 51 4) + (I 52 ((x1 * 30) + x2))))) (x2 + 1) (by omega) (by omega) (suN_s i2 (by omega) v2 ?_ ?_ ?_ ?_ ?_ ?_) (by omega)
        · intro k hk
          rfl
        · intro k k1 k2 k3
          rw [upn k1, upn k3, upn k2]
        · exact (by intro z; by_cases ez : z = x1; (· subst ez; rw [if_pos rfl]; simp (disch := omega) only [upo, upm, ups]); (· rw [if_neg ez]; simp (disch := omega) only [upo, upm, ups]))
        · exact (by intro z; by_cases ez : z = x2; (· subst ez; rw [if_pos rfl]; simp (disch := omega) only [upo, upm, ups]); (· rw [if_neg ez]; simp (disch := omega) only [upo, upm, ups]))
        · simp (disch := omega) only [upo, upm, ups]
        · rw [if_neg (by omega)]
          omega
      · refine b_Cnt_sumUp_107 (by (try simp (disch := omega) only [upo, upm, ups]); omega) ?_
        refine b_Cnt_sumUp_117 (by (try simp (disch := omega) only [upo, upm, ups]); omega) ?_
        refine ih ((am_up I 51 5 ((I 51 5) + 1))) (((am_up (am_up (am_up L 53 x1 ((L 53 x1) + (I 52 ((x1 * 30) + x2)))) 54 x2 (((am_up L 53 x1 ((L 53 x1) + (I 52 ((x1 * 30) + x2)))) 54 x2) + (I 52 ((x1 * 30) + x2)))) 51 4 (((am_up (am_up L 53 x1 ((L 53 x1) + (I 52 ((x1 * 30) + x2)))) 54 x2 (((am_up L 53 x1 ((L 53 x1) + (I 52 ((x1 * 30) + x2)))) 54 x2) + (I 52 ((x1 * 30) + x2)))) 51 4) + (I 52 ((x1 * 30) + x2)))))) (x2 + 1) (by omega) (by omega) (suN_s i2 (by omega) v2 ?_ ?_ ?_ ?_ ?_ ?_) (by omega)
        · intro k hk
          exact upn hk
        · intro k k1 k2 k3
          rw [upn k1, upn k3, upn k2]
        · exact (by intro z; by_cases ez : z = x1; (· subst ez; rw [if_pos rfl]; simp (disch := omega) only [upo, upm, ups]); (· rw [if_neg ez]; simp (disch := omega) only [upo, upm, ups]))
        · exact (by intro z; by_cases ez : z = x2; (· subst ez; rw [if_pos rfl]; simp (disch := omega) only [upo, upm, ups]); (· rw [if_neg ez]; simp (disch := omega) only [upo, upm, ups]))
        · simp (disch := omega) only [upo, upm, ups]
        · simp (disch := omega) only [upo, upm, ups]
          rw [if_pos (by omega)]
theorem lp_Cnt_sumUp {ro : Nat → Int × (Int → Int)} {d : Nat} {b : Bool} {Q : Option am_V → am_H → Prop} {bc bs : Nat} {n9 : Int → Int → Int} {I0 L0 : Nat → Int → Int} (hm : (0 ≤ I0 2 0 ∧ I0 2 0 ≤ 12) ∧ 0 ≤ I0 10 0 ∧ I0 10 0 ≤ 30) (hn : ∀ l e, 0 ≤ l → l < I0 2 0 → 0 ≤ e → e < I0 10 0 → I0 52 (l * 30 + e) = n9 l e ∧ 0 ≤ n9 l e ∧ n9 l e ≤ 9999999) (H : ∀ I L : Nat → Int → Int, suO n9 (I0 2 0) (I0 10 0) (I0 2 0) I0 L0 I L → Q none (sh b, I, L)) : ∀ (n : Nat) (I L : Nat → Int → Int) (x1 : Int), (0 ≤ x1) → (x1 ≤ I0 2 0) → (suO n9 (I0 2 0) (I0 10 0) x1 I0 L0 I L) → I0 2 0 - x1 < (n : Int) → am_ex (am_m ro (d + 0)) ro am_M132 Q (28, [some (am_R 51), some (am_I x1), none, none], [], (sh b, I, L), bc, bs) := by
  intro n
  induction n with
  | zero =>
    intro I L x1 i0 i1 i2 im
    exact absurd im (by omega)
  | succ n ih =>
    intro I L x1 i0 i1 i2 im
    have e2 : I 2 0 = I0 2 0 := by rw [i2.1 2 (by omega)]
    have e10 : I 10 0 = I0 10 0 := by rw [i2.1 10 (by omega)]
    have e52 : I 52 = I0 52 := i2.1 52 (by omega)
    refine b_Cnt_sumUp_28  (fun c1 => ?_) (fun c1 => ?_)
    · refine b_Cnt_sumUp_129  ?_
      have e9 : x1 = I0 2 0 := by omega
      rw [e9] at i2
      exact H I L i2
    · refine b_Cnt_sumUp_42  ?_
      exact lq_Cnt_sumUp (d := d) hm hn (by omega) (fun I9 L9 h9 => ih I9 L9 (x1 + 1) (by omega) (by omega) h9 (by omega)) 31 I L 0 (by omega) (by omega) (suN_0 i2 (by omega)) (by omega)
theorem suO_0 {n : Int → Int → Int} {I L : Nat → Int → Int} {m1 m2 : Int} (hm : (0 ≤ m1 ∧ m1 ≤ 12) ∧ 0 ≤ m2 ∧ m2 ≤ 30) : suO n m1 m2 0 I L (am_up I 51 5 0) (am_up (am_fl (am_fl L 53 12 0) 54 30 0) 51 4 0) := by
  refine ⟨fun k hk => upn hk, fun k k1 k2 k3 => ?_, fun l a1 a2 => ?_, fun e a1 a2 => ?_, ups, ups⟩
  · rw [upn k1]
    funext i
    unfold am_fl
    rw [if_neg k3, if_neg k2]
  · rw [if_neg (by omega), upn (by omega)]
    unfold am_fl
    rw [if_neg (by omega), if_pos rfl, if_pos (by omega)]
  · rw [upn (by omega)]
    unfold am_fl
    rw [if_pos rfl, if_pos (by omega)]
    rfl
theorem s_Cnt_sumUp {ro : Nat → Int × (Int → Int)} {d : Nat} {b : Bool} {I L : Nat → Int → Int} {Q : Option am_V → am_H → Prop} {n9 : Int → Int → Int} (hm : (0 ≤ I 2 0 ∧ I 2 0 ≤ 12) ∧ 0 ≤ I 10 0 ∧ I 10 0 ≤ 30) (hn : ∀ l e, 0 ≤ l → l < I 2 0 → 0 ≤ e → e < I 10 0 → I 52 (l * 30 + e) = n9 l e ∧ 0 ≤ n9 l e ∧ n9 l e ≤ 9999999) (H : ∀ I' L' : Nat → Int → Int, suO n9 (I 2 0) (I 10 0) (I 2 0) I L I' L' → Q none (sh b, I', L')) : am_m ro (d + 2) 132 [am_R 51] (sh b, I, L) Q := by
  refine am_in rfl rfl rfl rfl ?_
  refine b_Cnt_sumUp_0  (s_jfilll_53 ?_)
  refine b_Cnt_sumUp_8  (s_jfilll_54 ?_)
  refine b_Cnt_sumUp_16  ?_
  exact lp_Cnt_sumUp (d := d + 1) (I0 := I) (L0 := L) hm hn H 13 _ _ 0 (by omega) (by omega) (suO_0 hm) (by omega)
theorem lnk_s {p : Int → Int} {y f a i : Int} (h : 0 ≤ i) : lnk p y f a (i + 1).toNat = if p (1200 + i) = y ∧ p (1600 + i) = f ∧ p (2400 + i) ≤ a then p (2000 + i) else lnk p y f a i.toNat := by
  unfold lnk
  rw [lst_s h]
  by_cases e : p (1200 + i) = y ∧ p (1600 + i) = f ∧ p (2400 + i) ≤ a
  · rw [if_pos e, if_pos e, if_neg (by omega)]
  · rw [if_neg e, if_neg e]
/-- the loans that count for a year of a library -/
def nn (p : Int → Int) (y a l e : Int) : Int := ln p y (100 * l + e) a
def Rd (p : Int → Int) (y a : Int) (I L : Nat → Int → Int) : Prop := (∀ l e, 0 ≤ l → l < p 1 → 0 ≤ e → e < p 2 → I 52 (l * 30 + e) = nn p y a l e) ∧ (∀ l, 0 ≤ l → l < p 1 → L 53 l = sm (nn p y a l) (p 2).toNat) ∧ (∀ e, 0 ≤ e → e < p 2 → L 54 e = sm (fun l => nn p y a l e) (p 1).toNat) ∧ L 51 4 = sm (fun l => sm (nn p y a l) (p 2).toNat) (p 1).toNat ∧ I 51 5 = sm (fun l => sm (fun e => if 0 < nn p y a l e then 1 else 0) (p 2).toNat) (p 1).toNat
theorem nn_bd {I L : Nat → Int → Int} {y a l e : Int} (h : Mo I L) : 0 ≤ nn (I 67) y a l e ∧ nn (I 67) y a l e ≤ 9999999 := ln_bd h
theorem drw_x {I : Nat → Int → Int} {p : Int → Int} {y s : Int} {k : Int} (h : I 37 y = p (34 + y)) (hk : p (1200 + k) = y) (hs : s = p (1600 + k) / 100) (hd : am_and (am_shr (p (34 + p (1200 + k))) (p (1600 + k) / 100)) 1 = 1) : am_and (am_shr (I 37 y) s) 1 = 1 := by
  rw [h, hs, ← hk]
  exact hd
theorem Rd_of {p : Int → Int} {y a m1 m2 : Int} {I L I' L' : Nat → Int → Int} (h : suO (nn p y a) m1 m2 m1 I L I' L') (e1 : m1 = p 1) (e2 : m2 = p 2) (h2 : ∀ l e, 0 ≤ l → l < p 1 → 0 ≤ e → e < p 2 → I 52 (l * 30 + e) = nn p y a l e) : Rd p y a I' L' := by
  obtain ⟨h1, -, h3, h4, h5, h6⟩ := h
  subst e1
  subst e2
  refine ⟨fun l e a1 a2 a3 a4 => ?_, fun l a1 a2 => ?_, h4, h5, h6⟩
  · rw [h1 52 (by omega)]
    exact h2 l e a1 a2 a3 a4
  · rw [h3 l a1 a2, if_pos a2]
theorem Sc_su {n : Int → Int → Int} {m1 m2 x : Int} {I0 L0 I I' L' : Nat → Int → Int} (h : suO n m1 m2 x I L0 I' L') (g : ∀ k, k ≠ 52 → I k = I0 k) : Sc I0 L0 I' L' :=
  ⟨fun k a1 a2 a3 a4 a5 a6 a7 a8 a9 a10 a11 a12 => (h.1 k a3).trans (g k a4), fun j a => by rw [h.1 66 (by omega), g 66 (by omega)], fun k a => h.2.1 k (by omega) (by omega) (by omega)⟩
theorem lp_Cnt_read {ro : Nat → Int × (Int → Int)} {d : Nat} {b : Bool} {Q : Option am_V → am_H → Prop} {bc bs : Nat} {x1 x2 : Int} {I0 L0 : Nat → Int → Int} (hC : Cor I0 L0) (hy : 0 ≤ x1 ∧ x1 ≤ 40) (H : ∀ I L : Nat → Int → Int, Sc I0 L0 I L → Rd (I0 67) x1 x2 I L → Q none (sh b, I, L)) : ∀ (n : Nat) (I L : Nat → Int → Int) (x4 : Int), (0 ≤ x4) → (x4 ≤ I0 67 6) → (∀ k, k ≠ 52 → I k = I0 k) → (∀ l e, 0 ≤ l → l < 12 → 0 ≤ e → e < 30 → I 52 (l * 30 + e) = lnk (I0 67) x1 (100 * l + e) x2 x4.toNat) → (L = L0) → I0 67 6 - x4 < (n : Int) → am_ex (am_m ro (d + 2)) ro am_M131 Q (19, [some (am_R 51), some (am_I x1), some (am_I x2), some (am_R 6), some (am_I x4), none], [], (sh b, I, L), bc, bs) := by
  intro n
  induction n with
  | zero =>
    intro I L x4 i0 i1 i2 i3 i4 im
    exact absurd im (by omega)
  | succ n ih =>
    intro I L x4 i0 i1 i2 i3 i4 im
    obtain ⟨g1, g2, g3, g4, g5, -, -, g8⟩ := hC.1.2.2.1
    have ct := Cor_ct hC
    have yr := (hC.1.2.2.2.2.2.2.2.1.1 x1 (by omega) (by omega)).1
    have e6 : I 6 0 = I0 6 0 := by rw [i2 6 (by omega)]
    have e7 : I 7 = I0 7 := i2 7 (by omega)
    have e8 : I 8 = I0 8 := i2 8 (by omega)
    have e9 : I 9 = I0 9 := i2 9 (by omega)
    have e37 : I 37 = I0 37 := i2 37 (by omega)
    refine b_Cnt_read_19  (fun c1 => ?_) (fun c1 => ?_)
    · have e2 : I 2 0 = I0 67 1 := by rw [i2 2 (by omega)]; exact ct.2.1.1
      have e10 : I 10 0 = I0 67 2 := by rw [i2 10 (by omega)]; exact ct.2.2.1.1
      have e99 : x4 = I0 67 6 := by omega
      have i9 : ∀ l e, 0 ≤ l → l < 12 → 0 ≤ e → e < 30 → I 52 (l * 30 + e) = nn (I0 67) x1 x2 l e := fun l e a1 a2 a3 a4 => by rw [i3 l e a1 a2 a3 a4, e99]; rfl
      refine b_Cnt_read_105  (s_Cnt_sumUp (n9 := nn (I0 67) x1 x2) (by omega) (fun l e a1 a2 a3 a4 => ⟨i9 l e a1 (by omega) a3 (by omega), nn_bd (Mo_of hC)⟩) (fun I9 L9 h9 => ?_))
      refine b_Cnt_read_109  ?_
      subst i4
      exact H I9 L9 (Sc_su h9 i2) (Rd_of h9 e2 e10 (fun l e a1 a2 a3 a4 => i9 l e a1 (by omega) a3 (by omega)))
    · have w := g4 x4 (by omega) (by omega)
      have w5 := g5 x4 (by omega) (by omega)
      have w8 := g8 x4 (by omega) (by omega)
      rw [← e7, ← e8, ← e9] at w
      refine b_Cnt_read_28 (by omega) (by omega) (by omega) (s_P_within (fun c2 => ?_) (fun c2 => ?_))
      · refine b_Cnt_read_52  (fun c3 => absurd c3 (by decide)) (fun c3 => ?_)
        refine b_Cnt_read_55 (by omega) (fun c4 => ?_) (fun c4 => ?_)
        · refine b_Cnt_read_99 (by omega) ?_
          refine ih I L (x4 + 1) (by omega) (by omega) i2 (fun l e a1 a2 a3 a4 => ?_) i4 (by omega)
          rw [lnk_s (by omega), i3 l e a1 a2 a3 a4, if_neg ?_]
          omega
        · refine b_Cnt_read_66 (by omega) (s_Yrs_isDrawn (by omega) (fun c99 => ?_) (fun c99 => absurd (drw_x (p := I0 67) (k := x4) (by rw [e37]; exact yr) (by omega) (by omega) w8) c99))
          refine b_Cnt_read_82  (fun c5 => absurd c5 (by decide)) (fun c5 => ?_)
          refine b_Cnt_read_85 (by omega) (by omega) ?_
          refine b_Cnt_read_99 (by omega) ?_
          refine ih ((am_up I 52 ((((((I 7 x4) - (x1 * 360)))))) (I 8 x4))) L (x4 + 1) (by omega) (by omega) (fun k hk => by rw [upn hk]; exact i2 k hk) (fun l e a1 a2 a3 a4 => ?_) i4 (by omega)
          rw [lnk_s (by omega)]
          by_cases ee : l * 30 + e = I 7 x4 - x1 * 360
          · rw [ee, ups, if_pos (by omega)]
            omega
          · rw [upo ee, if_neg (by omega)]
            exact i3 l e a1 a2 a3 a4
      · refine b_Cnt_read_52  (fun c6 => ?_) (fun c6 => absurd c6 (by decide))
        refine b_Cnt_read_99 (by omega) ?_
        refine ih I L (x4 + 1) (by omega) (by omega) i2 (fun l e a1 a2 a3 a4 => ?_) i4 (by omega)
        rw [lnk_s (by omega), i3 l e a1 a2 a3 a4, if_neg ?_]
        omega
theorem fl_i {I : Nat → Int → Int} {a : Nat} {n v i : Int} (h : 0 ≤ i ∧ i < n) : am_fl I a n v a i = v := by
  unfold am_fl
  rw [if_pos rfl, if_pos h]
theorem fl_n {I : Nat → Int → Int} {a k : Nat} {n v : Int} (h : k ≠ a) : am_fl I a n v k = I k := by
  funext i
  unfold am_fl
  rw [if_neg h]
theorem s_Cnt_read {ro : Nat → Int × (Int → Int)} {d : Nat} {b : Bool} {I L : Nat → Int → Int} {Q : Option am_V → am_H → Prop} {x1 x2 : Int} (hC : Cor I L) (hy : 0 ≤ x1 ∧ x1 ≤ 40) (H : ∀ I' L' : Nat → Int → Int, Sc I L I' L' → Rd (I 67) x1 x2 I' L' → Q none (sh b, I', L')) : am_m ro (d + 3) 131 [am_R 51, am_I x1, am_I x2] (sh b, I, L) Q := by
  have ct := Cor_ct hC
  refine am_in rfl rfl rfl rfl ?_
  refine b_Cnt_read_0  (s_jfilli_52 ?_)
  refine b_Cnt_read_8  ?_
  exact lp_Cnt_read (d := d) (I0 := I) (L0 := L) hC hy H ((I 67 6).toNat + 1) _ _ 0 (by omega) (by omega) (fun k hk => fl_n hk) (fun l e a1 a2 a3 a4 => fl_i (by omega)) rfl (by omega)
