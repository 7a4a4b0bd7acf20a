/-! WHAT THE CODES OF A RULE ARE WORTH -/
def opr (c a d : Int) : Int := if c = 20 then (if ¬ a = 0 ∨ ¬ d = 0 then 1 else 0) else if c = 21 then (if ¬ a = 0 ∧ ¬ d = 0 then 1 else 0) else if c = 23 then (if a = d then 1 else 0) else if c = 24 then (if a < d then 1 else 0) else if c = 25 then (if d < a then 1 else 0) else if c = 26 then am_w (a + d) else if c = 27 then am_w (a - d) else if c = 28 then am_w (a * d) else if c = 29 then (if d = 0 then 0 else am_w (Int.tdiv a d)) else (if d = 0 then 0 else Int.tmod a d)
def put1 (S : Int → Int) (i v : Int) : Int → Int := fun j => if j = i then v else S j
def stk (f nm : Int → Int) (a : Int) : Nat → Int → Int
  | 0 => fun _ => 0
  | n + 1 => if 100 ≤ f (a + n) ∨ f (a + n) < 10 then put1 (stk f nm a n) (cDp f a n) (if f (a + n) < 10 then nm (f (a + n)) else f (a + n) - 100) else if f (a + n) = 22 then put1 (stk f nm a n) (cDp f a n - 1) (if stk f nm a n (cDp f a n - 1) = 0 then 1 else 0) else if f (a + n) = 31 then put1 (stk f nm a n) (cDp f a n - 1) (am_w (-(stk f nm a n (cDp f a n - 1)))) else put1 (stk f nm a n) (cDp f a n - 2) (opr (f (a + n)) (stk f nm a n (cDp f a n - 2)) (stk f nm a n (cDp f a n - 1)))
theorem cm_cs {c : Int} (h : cOK c) : (100 ≤ c ∧ c ≤ 10000099 ∧ cm c = c + 1900) ∨ (0 ≤ c ∧ c < 10 ∧ cm c = 1000 + c) ∨ (c = 22 ∧ cm c = 110) ∨ (c = 31 ∧ cm c = 109) ∨ ((c = 20 ∧ cm c = 111) ∨ (c = 21 ∧ cm c = 97) ∨ (c = 23 ∧ cm c = 61) ∨ (c = 24 ∧ cm c = 60) ∨ (c = 25 ∧ cm c = 62) ∨ (c = 26 ∧ cm c = 43) ∨ (c = 27 ∧ cm c = 45) ∨ (c = 28 ∧ cm c = 42) ∨ (c = 29 ∧ cm c = 47) ∨ (c = 30 ∧ cm c = 37)) := by
  unfold cOK at h
  unfold cm
  rcases h with h | h | h
  · left
    rw [if_pos (by omega)]
    omega
  · right
    left
    rw [if_neg (by omega), if_pos (by omega)]
    omega
  · have hc : c = 20 ∨ c = 21 ∨ c = 22 ∨ c = 23 ∨ c = 24 ∨ c = 25 ∨ c = 26 ∨ c = 27 ∨ c = 28 ∨ c = 29 ∨ c = 30 ∨ c = 31 := by omega
    rcases hc with hc | hc | hc | hc | hc | hc | hc | hc | hc | hc | hc | hc <;> subst hc <;> simp
theorem cDp_s {f : Int → Int} {a i : Int} (h : 0 ≤ i) : cDp f a (i + 1).toNat = cDp f a i.toNat + cDl (f (a + i)) := by
  have e : (i + 1).toNat = i.toNat + 1 := by omega
  rw [e]
  show cDp f a i.toNat + cDl (f (a + (i.toNat : Int))) = _
  rw [Int.toNat_of_nonneg h]
theorem cDp_le {f : Int → Int} {a : Int} : ∀ n : Nat, cDp f a n ≤ n
  | 0 => Int.le_refl _
  | n + 1 => by
    have h := cDp_le (f := f) (a := a) n
    have : cDl (f (a + n)) ≤ 1 := by unfold cDl; split <;> (try split) <;> omega
    show cDp f a n + cDl (f (a + n)) ≤ ((n + 1 : Nat) : Int)
    omega
theorem cWf_at {f : Int → Int} {a i : Int} {n : Nat} (h : cWf f a n) (h1 : 0 ≤ i) (h2 : i < n) : cOK (f (a + i)) ∧ cNd (f (a + i)) ≤ cDp f a i.toNat := by
  have w := h.1 i.toNat (by omega)
  rw [Int.toNat_of_nonneg h1] at w
  exact w
theorem cNd_v {c : Int} : ((100 ≤ c ∨ c < 10) → cNd c = 0 ∧ cDl c = 1) ∧ ((c = 22 ∨ c = 31) → cNd c = 1 ∧ cDl c = 0) ∧ (20 ≤ c ∧ c ≤ 30 ∧ ¬ c = 22 → cNd c = 2 ∧ cDl c = -1) := by
  unfold cNd cDl
  refine ⟨fun h => ?_, fun h => ?_, fun h => ?_⟩
  · exact ⟨if_pos h, if_pos h⟩
  · have n1 : ¬ (100 ≤ c ∨ c < 10) := by omega
    exact ⟨(if_neg n1).trans (if_pos h), (if_neg n1).trans (if_pos h)⟩
  · have n1 : ¬ (100 ≤ c ∨ c < 10) := by omega
    have n2 : ¬ (c = 22 ∨ c = 31) := by omega
    exact ⟨(if_neg n1).trans (if_neg n2), (if_neg n1).trans (if_neg n2)⟩
theorem stk_s {f nm : Int → Int} {a i : Int} (h : 0 ≤ i) : stk f nm a (i + 1).toNat = if 100 ≤ f (a + i) ∨ f (a + i) < 10 then put1 (stk f nm a i.toNat) (cDp f a i.toNat) (if f (a + i) < 10 then nm (f (a + i)) else f (a + i) - 100) else if f (a + i) = 22 then put1 (stk f nm a i.toNat) (cDp f a i.toNat - 1) (if stk f nm a i.toNat (cDp f a i.toNat - 1) = 0 then 1 else 0) else if f (a + i) = 31 then put1 (stk f nm a i.toNat) (cDp f a i.toNat - 1) (am_w (-(stk f nm a i.toNat (cDp f a i.toNat - 1)))) else put1 (stk f nm a i.toNat) (cDp f a i.toNat - 2) (opr (f (a + i)) (stk f nm a i.toNat (cDp f a i.toNat - 2)) (stk f nm a i.toNat (cDp f a i.toNat - 1))) := by
  have e : (i + 1).toNat = i.toNat + 1 := by omega
  have e2 : ((i.toNat : Nat) : Int) = i := Int.toNat_of_nonneg h
  rw [e]
  show (if 100 ≤ f (a + (i.toNat : Int)) ∨ f (a + (i.toNat : Int)) < 10 then put1 (stk f nm a i.toNat) (cDp f a i.toNat) (if f (a + (i.toNat : Int)) < 10 then nm (f (a + (i.toNat : Int))) else f (a + (i.toNat : Int)) - 100) else if f (a + (i.toNat : Int)) = 22 then put1 (stk f nm a i.toNat) (cDp f a i.toNat - 1) (if stk f nm a i.toNat (cDp f a i.toNat - 1) = 0 then 1 else 0) else if f (a + (i.toNat : Int)) = 31 then put1 (stk f nm a i.toNat) (cDp f a i.toNat - 1) (am_w (-(stk f nm a i.toNat (cDp f a i.toNat - 1)))) else put1 (stk f nm a i.toNat) (cDp f a i.toNat - 2) (opr (f (a + (i.toNat : Int))) (stk f nm a i.toNat (cDp f a i.toNat - 2)) (stk f nm a i.toNat (cDp f a i.toNat - 1)))) = _
  rw [e2]
/-- one step of the stack, on a row whose lower cells hold it -/
theorem stk_up {R : Nat → Int → Int} {c : Nat} {f nm : Int → Int} {a i h w v : Int} (hi : 0 ≤ i) (hR : ∀ j, 0 ≤ j → j < h → R c j = stk f nm a i.toNat j) (hh : h = cDp f a i.toNat) (hs : stk f nm a (i + 1).toNat = put1 (stk f nm a i.toNat) w v) (hw : cDp f a (i + 1).toNat = w + 1) (hl : w ≤ h) : ∀ j, 0 ≤ j → j < cDp f a (i + 1).toNat → am_up R c w v c j = stk f nm a (i + 1).toNat j := by
  intro j j1 j2
  rw [hs]
  unfold put1
  by_cases e : j = w
  · rw [e, ups, if_pos rfl]
  · rw [upo e, if_neg e]
    exact hR j j1 (by omega)
theorem opr20 {a d : Int} : opr 20 a d = if ¬ a = 0 ∨ ¬ d = 0 then 1 else 0 := rfl
theorem opr21 {a d : Int} : opr 21 a d = if ¬ a = 0 ∧ ¬ d = 0 then 1 else 0 := rfl
theorem opr23 {a d : Int} : opr 23 a d = if a = d then 1 else 0 := rfl
theorem opr24 {a d : Int} : opr 24 a d = if a < d then 1 else 0 := rfl
theorem opr25 {a d : Int} : opr 25 a d = if d < a then 1 else 0 := rfl
theorem opr26 {a d : Int} : opr 26 a d = am_w (a + d) := rfl
theorem opr27 {a d : Int} : opr 27 a d = am_w (a - d) := rfl
theorem opr28 {a d : Int} : opr 28 a d = am_w (a * d) := rfl
theorem opr29 {a d : Int} : opr 29 a d = if d = 0 then 0 else am_w (Int.tdiv a d) := rfl
theorem opr30 {a d : Int} : opr 30 a d = if d = 0 then 0 else Int.tmod a d := rfl
set_option maxHeartbeats 1000000 in
theorem s_Ruls_ofTwo {ro : Nat → Int × (Int → Int)} {d : Nat} {b : Bool} {I L : Nat → Int → Int} {Q : Option am_V → am_H → Prop} {x0 x1 x2 : Int} {c : Int} (hx : ((c = 20 ∧ x0 = 111) ∨ (c = 21 ∧ x0 = 97) ∨ (c = 23 ∧ x0 = 61) ∨ (c = 24 ∧ x0 = 60) ∨ (c = 25 ∧ x0 = 62) ∨ (c = 26 ∧ x0 = 43) ∨ (c = 27 ∧ x0 = 45) ∨ (c = 28 ∧ x0 = 42) ∨ (c = 29 ∧ x0 = 47) ∨ (c = 30 ∧ x0 = 37))) (H : Q (some (am_I (opr c x1 x2))) (sh b, I, L)) : am_m ro (d + 1) 103 [am_I x0, am_I x1, am_I x2] (sh b, I, L) Q := by
  refine am_in rfl rfl rfl rfl ?_
  refine b_Ruls_ofTwo_0  (fun c1 => ?_) (fun c1 => ?_) (fun c1 => ?_) (fun c1 => ?_) (fun c1 => ?_) (fun c1 => ?_) (fun c1 => ?_) (fun c1 => ?_) (fun c1 => ?_) (fun c1_0 c1_1 c1_2 c1_3 c1_4 c1_5 c1_6 c1_7 c1_8 => ?_)
  · refine b_Ruls_ofTwo_108  (fun c2 => ?_) (fun c2 => ?_)
    · refine b_Ruls_ofTwo_116 (by omega) ?_
      refine b_Ruls_ofTwo_119  ?_
      have hc : c = 30 := by omega
      rw [hc, opr30] at H
      clear hx
      first
        | (rw [if_pos (by omega)] at H; exact H)
        | (rw [if_neg (by omega)] at H; exact H)
    · refine b_Ruls_ofTwo_112  ?_
      refine b_Ruls_ofTwo_119  ?_
      have hc : c = 30 := by omega
      rw [hc, opr30] at H
      clear hx
      first
        | (rw [if_pos (by omega)] at H; exact H)
        | (rw [if_neg (by omega)] at H; exact H)
  · refine b_Ruls_ofTwo_92  ?_
    have hc : c = 28 := by omega
    rw [hc, opr28] at H
    exact H
  · refine b_Ruls_ofTwo_84  ?_
    have hc : c = 26 := by omega
    rw [hc, opr26] at H
    exact H
  · refine b_Ruls_ofTwo_88  ?_
    have hc : c = 27 := by omega
    rw [hc, opr27] at H
    exact H
  · refine b_Ruls_ofTwo_96  (fun c3 => ?_) (fun c3 => ?_)
    · refine b_Ruls_ofTwo_104 (by omega) ?_
      refine b_Ruls_ofTwo_107  ?_
      have hc : c = 29 := by omega
      rw [hc, opr29] at H
      clear hx
      first
        | (rw [if_pos (by omega)] at H; exact H)
        | (rw [if_neg (by omega)] at H; exact H)
    · refine b_Ruls_ofTwo_100  ?_
      refine b_Ruls_ofTwo_107  ?_
      have hc : c = 29 := by omega
      rw [hc, opr29] at H
      clear hx
      first
        | (rw [if_pos (by omega)] at H; exact H)
        | (rw [if_neg (by omega)] at H; exact H)
  · refine b_Ruls_ofTwo_131  (fun c4 => ?_) (fun c4 => ?_)
    · refine b_Ruls_ofTwo_140  ?_
      refine b_Ruls_ofTwo_141  ?_
      have hc : c = 24 := by omega
      rw [hc, opr24] at H
      clear hx
      first
        | (rw [if_pos (by omega)] at H; exact H)
        | (rw [if_neg (by omega)] at H; exact H)
    · refine b_Ruls_ofTwo_136  ?_
      refine b_Ruls_ofTwo_141  ?_
      have hc : c = 24 := by omega
      rw [hc, opr24] at H
      clear hx
      first
        | (rw [if_pos (by omega)] at H; exact H)
        | (rw [if_neg (by omega)] at H; exact H)
  · refine b_Ruls_ofTwo_120  (fun c5 => ?_) (fun c5 => ?_)
    · refine b_Ruls_ofTwo_129  ?_
      refine b_Ruls_ofTwo_130  ?_
      have hc : c = 23 := by omega
      rw [hc, opr23] at H
      clear hx
      first
        | (rw [if_pos (by omega)] at H; exact H)
        | (rw [if_neg (by omega)] at H; exact H)
    · refine b_Ruls_ofTwo_125  ?_
      refine b_Ruls_ofTwo_130  ?_
      have hc : c = 23 := by omega
      rw [hc, opr23] at H
      clear hx
      first
        | (rw [if_pos (by omega)] at H; exact H)
        | (rw [if_neg (by omega)] at H; exact H)
  · refine b_Ruls_ofTwo_142  (fun c6 => ?_) (fun c6 => ?_)
    · refine b_Ruls_ofTwo_151  ?_
      refine b_Ruls_ofTwo_152  ?_
      have hc : c = 25 := by omega
      rw [hc, opr25] at H
      clear hx
      first
        | (rw [if_pos (by omega)] at H; exact H)
        | (rw [if_neg (by omega)] at H; exact H)
    · refine b_Ruls_ofTwo_147  ?_
      refine b_Ruls_ofTwo_152  ?_
      have hc : c = 25 := by omega
      rw [hc, opr25] at H
      clear hx
      first
        | (rw [if_pos (by omega)] at H; exact H)
        | (rw [if_neg (by omega)] at H; exact H)
  · refine b_Ruls_ofTwo_153  (fun c7 => ?_) (fun c7 => ?_)
    · refine b_Ruls_ofTwo_161  ?_
      refine b_Ruls_ofTwo_166  ?_
      have hc : c = 20 := by omega
      rw [hc, opr20] at H
      clear hx
      first
        | (rw [if_pos (by omega)] at H; exact H)
        | (rw [if_neg (by omega)] at H; exact H)
    · refine b_Ruls_ofTwo_157  (fun c8 => ?_) (fun c8 => ?_)
      · refine b_Ruls_ofTwo_165  ?_
        refine b_Ruls_ofTwo_166  ?_
        have hc : c = 20 := by omega
        rw [hc, opr20] at H
        clear hx
        first
          | (rw [if_pos (by omega)] at H; exact H)
          | (rw [if_neg (by omega)] at H; exact H)
      · refine b_Ruls_ofTwo_161  ?_
        refine b_Ruls_ofTwo_166  ?_
        have hc : c = 20 := by omega
        rw [hc, opr20] at H
        clear hx
        first
          | (rw [if_pos (by omega)] at H; exact H)
          | (rw [if_neg (by omega)] at H; exact H)
  · refine b_Ruls_ofTwo_167  (fun c9 => ?_) (fun c9 => ?_)
    · refine b_Ruls_ofTwo_179  ?_
      refine b_Ruls_ofTwo_180  ?_
      have hc : c = 21 := by omega
      rw [hc, opr21] at H
      clear hx
      first
        | (rw [if_pos (by omega)] at H; exact H)
        | (rw [if_neg (by omega)] at H; exact H)
    · refine b_Ruls_ofTwo_171  (fun c10 => ?_) (fun c10 => ?_)
      · refine b_Ruls_ofTwo_179  ?_
        refine b_Ruls_ofTwo_180  ?_
        have hc : c = 21 := by omega
        rw [hc, opr21] at H
        clear hx
        first
          | (rw [if_pos (by omega)] at H; exact H)
          | (rw [if_neg (by omega)] at H; exact H)
      · refine b_Ruls_ofTwo_175  ?_
        refine b_Ruls_ofTwo_180  ?_
        have hc : c = 21 := by omega
        rw [hc, opr21] at H
        clear hx
        first
          | (rw [if_pos (by omega)] at H; exact H)
          | (rw [if_neg (by omega)] at H; exact H)
set_option maxHeartbeats 1000000 in
theorem s_M_two {ro : Nat → Int × (Int → Int)} {d : Nat} {b : Bool} {I L : Nat → Int → Int} {Q : Option am_V → am_H → Prop} {x0 x1 x2 : Int} (hx : 20 ≤ x0 ∧ x0 ≤ 30 ∧ ¬ x0 = 22) (H : Q (some (am_I (opr x0 x1 x2))) (sh b, I, L)) : am_m ro (d + 1) 208 [am_I x0, am_I x1, am_I x2] (sh b, I, L) Q := by
  refine am_in rfl rfl rfl rfl ?_
  refine b_M_two_0  (fun c1 => ?_) (fun c1 => ?_) (fun c1 => ?_) (fun c1 => ?_) (fun c1 => ?_) (fun c1 => ?_) (fun c1 => ?_) (fun c1 => ?_) (fun c1 => ?_) (fun c1 => ?_) (fun c1_0 c1_1 c1_2 c1_3 c1_4 c1_5 c1_6 c1_7 c1_8 c1_9 => ?_)
  · refine b_M_two_56  (fun c2 => ?_) (fun c2 => ?_)
    · refine b_M_two_64  ?_
      refine b_M_two_69  ?_
      have hc : x0 = 20 := by omega
      rw [hc, opr20] at H
      clear hx
      first
        | (rw [if_pos (by omega)] at H; exact H)
        | (rw [if_neg (by omega)] at H; exact H)
    · refine b_M_two_60  (fun c3 => ?_) (fun c3 => ?_)
      · refine b_M_two_68  ?_
        refine b_M_two_69  ?_
        have hc : x0 = 20 := by omega
        rw [hc, opr20] at H
        clear hx
        first
          | (rw [if_pos (by omega)] at H; exact H)
          | (rw [if_neg (by omega)] at H; exact H)
      · refine b_M_two_64  ?_
        refine b_M_two_69  ?_
        have hc : x0 = 20 := by omega
        rw [hc, opr20] at H
        clear hx
        first
          | (rw [if_pos (by omega)] at H; exact H)
          | (rw [if_neg (by omega)] at H; exact H)
  · refine b_M_two_70  (fun c4 => ?_) (fun c4 => ?_)
    · refine b_M_two_82  ?_
      refine b_M_two_83  ?_
      have hc : x0 = 21 := by omega
      rw [hc, opr21] at H
      clear hx
      first
        | (rw [if_pos (by omega)] at H; exact H)
        | (rw [if_neg (by omega)] at H; exact H)
    · refine b_M_two_74  (fun c5 => ?_) (fun c5 => ?_)
      · refine b_M_two_82  ?_
        refine b_M_two_83  ?_
        have hc : x0 = 21 := by omega
        rw [hc, opr21] at H
        clear hx
        first
          | (rw [if_pos (by omega)] at H; exact H)
          | (rw [if_neg (by omega)] at H; exact H)
      · refine b_M_two_78  ?_
        refine b_M_two_83  ?_
        have hc : x0 = 21 := by omega
        rw [hc, opr21] at H
        clear hx
        first
          | (rw [if_pos (by omega)] at H; exact H)
          | (rw [if_neg (by omega)] at H; exact H)
  · refine b_M_two_141  (fun c6 => ?_) (fun c6 => ?_)
    · refine b_M_two_149 (by omega) ?_
      refine b_M_two_152  ?_
      exfalso
      omega
    · refine b_M_two_145  ?_
      refine b_M_two_152  ?_
      exfalso
      omega
  · refine b_M_two_84  (fun c7 => ?_) (fun c7 => ?_)
    · refine b_M_two_93  ?_
      refine b_M_two_94  ?_
      have hc : x0 = 23 := by omega
      rw [hc, opr23] at H
      clear hx
      first
        | (rw [if_pos (by omega)] at H; exact H)
        | (rw [if_neg (by omega)] at H; exact H)
    · refine b_M_two_89  ?_
      refine b_M_two_94  ?_
      have hc : x0 = 23 := by omega
      rw [hc, opr23] at H
      clear hx
      first
        | (rw [if_pos (by omega)] at H; exact H)
        | (rw [if_neg (by omega)] at H; exact H)
  · refine b_M_two_95  (fun c8 => ?_) (fun c8 => ?_)
    · refine b_M_two_104  ?_
      refine b_M_two_105  ?_
      have hc : x0 = 24 := by omega
      rw [hc, opr24] at H
      clear hx
      first
        | (rw [if_pos (by omega)] at H; exact H)
        | (rw [if_neg (by omega)] at H; exact H)
    · refine b_M_two_100  ?_
      refine b_M_two_105  ?_
      have hc : x0 = 24 := by omega
      rw [hc, opr24] at H
      clear hx
      first
        | (rw [if_pos (by omega)] at H; exact H)
        | (rw [if_neg (by omega)] at H; exact H)
  · refine b_M_two_106  (fun c9 => ?_) (fun c9 => ?_)
    · refine b_M_two_115  ?_
      refine b_M_two_116  ?_
      have hc : x0 = 25 := by omega
      rw [hc, opr25] at H
      clear hx
      first
        | (rw [if_pos (by omega)] at H; exact H)
        | (rw [if_neg (by omega)] at H; exact H)
    · refine b_M_two_111  ?_
      refine b_M_two_116  ?_
      have hc : x0 = 25 := by omega
      rw [hc, opr25] at H
      clear hx
      first
        | (rw [if_pos (by omega)] at H; exact H)
        | (rw [if_neg (by omega)] at H; exact H)
  · refine b_M_two_117  ?_
    have hc : x0 = 26 := by omega
    rw [hc, opr26] at H
    exact H
  · refine b_M_two_121  ?_
    have hc : x0 = 27 := by omega
    rw [hc, opr27] at H
    exact H
  · refine b_M_two_125  ?_
    have hc : x0 = 28 := by omega
    rw [hc, opr28] at H
    exact H
  · refine b_M_two_129  (fun c10 => ?_) (fun c10 => ?_)
    · refine b_M_two_137 (by omega) ?_
      refine b_M_two_140  ?_
      have hc : x0 = 29 := by omega
      rw [hc, opr29] at H
      clear hx
      first
        | (rw [if_pos (by omega)] at H; exact H)
        | (rw [if_neg (by omega)] at H; exact H)
    · refine b_M_two_133  ?_
      refine b_M_two_140  ?_
      have hc : x0 = 29 := by omega
      rw [hc, opr29] at H
      clear hx
      first
        | (rw [if_pos (by omega)] at H; exact H)
        | (rw [if_neg (by omega)] at H; exact H)
  · refine b_M_two_141  (fun c11 => ?_) (fun c11 => ?_)
    · refine b_M_two_149 (by omega) ?_
      refine b_M_two_152  ?_
      have hc : x0 = 30 := by omega
      rw [hc, opr30] at H
      clear hx
      first
        | (rw [if_pos (by omega)] at H; exact H)
        | (rw [if_neg (by omega)] at H; exact H)
    · refine b_M_two_145  ?_
      refine b_M_two_152  ?_
      have hc : x0 = 30 := by omega
      rw [hc, opr30] at H
      clear hx
      first
        | (rw [if_pos (by omega)] at H; exact H)
        | (rw [if_neg (by omega)] at H; exact H)
theorem am_w_id' {x y : Int} (h : am_r x) (e : x = y) : am_w x = y := by
  rw [am_w_id h]
  exact e
theorem st_push {R : Nat → Int → Int} {c : Nat} {f nm : Int → Int} {a i h v : Int} (hi : 0 ≤ i) (hR : ∀ j, 0 ≤ j → j < h → R c j = stk f nm a i.toNat j) (hh : h = cDp f a i.toNat) (hk : 100 ≤ f (a + i) ∨ f (a + i) < 10) (hv : v = if f (a + i) < 10 then nm (f (a + i)) else f (a + i) - 100) : ∀ j, 0 ≤ j → j < h + 1 → am_up R c h v c j = stk f nm a (i + 1).toNat j := by
  have d := (cNd_v (c := f (a + i))).1 hk
  have s := stk_s (f := f) (nm := nm) (a := a) (i := i) hi
  have e := cDp_s (f := f) (a := a) (i := i) hi
  rw [if_pos hk, ← hv, ← hh] at s
  intro j j1 j2
  exact stk_up hi hR hh s (by omega) (by omega) j j1 (by omega)
theorem st_not {R : Nat → Int → Int} {c : Nat} {f nm : Int → Int} {a i h w v : Int} (hi : 0 ≤ i) (hR : ∀ j, 0 ≤ j → j < h → R c j = stk f nm a i.toNat j) (hh : h = cDp f a i.toNat) (hk : f (a + i) = 22) (h1 : 1 ≤ h) (hw : w = h - 1) (hv : v = if R c w = 0 then 1 else 0) : ∀ j, 0 ≤ j → j < h → am_up R c w v c j = stk f nm a (i + 1).toNat j := by
  have d := (cNd_v (c := f (a + i))).2.1 (Or.inl hk)
  have s := stk_s (f := f) (nm := nm) (a := a) (i := i) hi
  have e := cDp_s (f := f) (a := a) (i := i) hi
  rw [if_neg (by omega), if_pos hk, ← hh, ← hw, ← hR w (by omega) (by omega), ← hv] at s
  intro j j1 j2
  exact stk_up hi hR hh s (by omega) (by omega) j j1 (by omega)
theorem st_neg {R : Nat → Int → Int} {c : Nat} {f nm : Int → Int} {a i h w v : Int} (hi : 0 ≤ i) (hR : ∀ j, 0 ≤ j → j < h → R c j = stk f nm a i.toNat j) (hh : h = cDp f a i.toNat) (hk : f (a + i) = 31) (h1 : 1 ≤ h) (hw : w = h - 1) (hv : v = am_w (-(R c w))) : ∀ j, 0 ≤ j → j < h → am_up R c w v c j = stk f nm a (i + 1).toNat j := by
  have d := (cNd_v (c := f (a + i))).2.1 (Or.inr hk)
  have s := stk_s (f := f) (nm := nm) (a := a) (i := i) hi
  have e := cDp_s (f := f) (a := a) (i := i) hi
  rw [if_neg (by omega), if_neg (by omega), if_pos hk, ← hh, ← hw, ← hR w (by omega) (by omega), ← hv] at s
  intro j j1 j2
  exact stk_up hi hR hh s (by omega) (by omega) j j1 (by omega)
theorem st_two {R : Nat → Int → Int} {c : Nat} {f nm : Int → Int} {a i h w u v : Int} (hi : 0 ≤ i) (hR : ∀ j, 0 ≤ j → j < h → R c j = stk f nm a i.toNat j) (hh : h = cDp f a i.toNat) (hk : 20 ≤ f (a + i) ∧ f (a + i) ≤ 30 ∧ ¬ f (a + i) = 22) (h1 : 2 ≤ h) (hw : w = h - 2) (hu : u = h - 1) (hv : v = opr (f (a + i)) (R c w) (R c u)) : ∀ j, 0 ≤ j → j < h - 1 → am_up R c w v c j = stk f nm a (i + 1).toNat j := by
  have d := (cNd_v (c := f (a + i))).2.2 hk
  have s := stk_s (f := f) (nm := nm) (a := a) (i := i) hi
  have e := cDp_s (f := f) (a := a) (i := i) hi
  rw [if_neg (by omega), if_neg (by omega), if_neg (by omega), ← hh, ← hw, ← hu, ← hR w (by omega) (by omega), ← hR u (by omega) (by omega), ← hv] at s
  intro j j1 j2
  exact stk_up hi hR hh s (by omega) (by omega) j j1 (by omega)
