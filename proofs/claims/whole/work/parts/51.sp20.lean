/-! ROOTS -/
def rtN : Nat → Nat
  | 0 => 0
  | n + 1 => if (rtN n + 1) * (rtN n + 1) ≤ n + 1 then rtN n + 1 else rtN n
theorem rtN_ok : ∀ n : Nat, rtN n * rtN n ≤ n ∧ n < (rtN n + 1) * (rtN n + 1)
  | 0 => by simp [rtN]
  | n + 1 => by
    have h := rtN_ok n
    simp only [Nat.add_mul, Nat.mul_add, Nat.one_mul, Nat.mul_one] at h
    by_cases e : (rtN n + 1) * (rtN n + 1) ≤ n + 1
    · have e2 : rtN (n + 1) = rtN n + 1 := if_pos e
      rw [e2]
      refine ⟨e, ?_⟩
      simp only [Nat.add_mul, Nat.mul_add, Nat.one_mul, Nat.mul_one] at e ⊢
      omega
    · have e2 : rtN (n + 1) = rtN n := if_neg e
      rw [e2]
      omega
def rt (v : Int) : Int := (rtN v.toNat : Nat)
theorem mulb {a c A C : Int} (h1 : 0 ≤ a ∧ a ≤ A) (h2 : 0 ≤ c ∧ c ≤ C) : 0 ≤ a * c ∧ a * c ≤ A * C := ⟨Int.mul_nonneg h1.1 h2.1, Int.mul_le_mul h1.2 h2.2 h2.1 (by omega)⟩
theorem rt_ok {v : Int} (h : 0 ≤ v) : 0 ≤ rt v ∧ rt v * rt v ≤ v ∧ v < (rt v + 1) * (rt v + 1) := by
  have w := rtN_ok v.toNat
  have e : rt v * rt v = ((rtN v.toNat * rtN v.toNat : Nat) : Int) := by unfold rt; rw [Int.natCast_mul]
  have e2 : (rt v + 1) * (rt v + 1) = (((rtN v.toNat + 1) * (rtN v.toNat + 1) : Nat) : Int) := by unfold rt; rw [Int.natCast_mul, Int.natCast_add]; rfl
  refine ⟨by unfold rt; omega, ?_, ?_⟩
  · rw [e]
    omega
  · rw [e2]
    omega
theorem rt_u {v s : Int} (h0 : 0 ≤ s) (h1 : s * s ≤ v) (h2 : v < (s + 1) * (s + 1)) : s = rt v := by
  have hv : 0 ≤ v := by
    have := Int.mul_nonneg h0 h0
    omega
  obtain ⟨w0, w1, w2⟩ := rt_ok hv
  rcases Int.lt_trichotomy s (rt v) with h | h | h
  · have := mulb (a := s + 1) (c := s + 1) (A := rt v) (C := rt v) ⟨by omega, by omega⟩ ⟨by omega, by omega⟩
    omega
  · exact h
  · have := mulb (a := rt v + 1) (c := rt v + 1) (A := s) (C := s) ⟨by omega, by omega⟩ ⟨by omega, by omega⟩
    omega
theorem rt_le {v : Int} (h : 0 ≤ v) : rt v ≤ v := by
  obtain ⟨w0, w1, w2⟩ := rt_ok h
  by_cases e : rt v = 0
  · omega
  · have := mulb (a := 1) (c := rt v) (A := rt v) (C := rt v) ⟨by omega, by omega⟩ ⟨by omega, by omega⟩
    omega
def pw (k : Int) : Int := (2 : Int) ^ (k + 1).toNat
theorem lsh_tab : ∀ k : Fin 17, am_lshl 1 (k.val : Int) = (2 : Int) ^ k.val := by decide +kernel
theorem lsh {x : Int} (h : 0 ≤ x ∧ x ≤ 16) : am_lshl 1 x = pw (x + -1) ∧ pw x = 2 * pw (x + -1) ∧ 1 ≤ pw (x + -1) := by
  have w := lsh_tab ⟨x.toNat, by omega⟩
  have e : ((x.toNat : Nat) : Int) = x := Int.toNat_of_nonneg h.1
  have e2 : (x + -1 + 1).toNat = x.toNat := by omega
  have e3 : (x + 1).toNat = x.toNat + 1 := by omega
  simp only [e] at w
  unfold pw
  rw [e2, e3, w]
  refine ⟨rfl, by rw [Int.pow_succ]; omega, ?_⟩
  have : 0 < (2 : Int) ^ x.toNat := Int.pow_pos (by omega)
  omega
theorem lp_P_rootOf {ro : Nat → Int × (Int → Int)} {d : Nat} {b : Bool} {I L : Nat → Int → Int} {Q : Option am_V → am_H → Prop} {bc bs : Nat} {x0 : Int} (hx : 0 ≤ x0 ∧ x0 < 17179869184) (H : Q (some (am_L (rt x0))) (sh b, I, L)) : ∀ (n : Nat) (x2 x4 : Int), (-1 ≤ x4) → (x4 ≤ 16) → (0 ≤ x2) → (x2 * x2 ≤ x0) → (x0 < (x2 + pw x4) * (x2 + pw x4)) → (x2 + pw x4 ≤ 131072) → x4 + 1 < (n : Int) → am_ex (am_m ro (d + 0)) ro am_M56 Q (6, [some (am_L x0), none, some (am_L x2), none, some (am_I x4), none, none], [], (sh b, I, L), bc, bs) := by
  intro n
  induction n with
  | zero =>
    intro x2 x4 i0 i1 i2 i3 i4 i5 im
    exact absurd im (by omega)
  | succ n ih =>
    intro x2 x4 i0 i1 i2 i3 i4 i5 im
    refine b_P_rootOf_6  (fun c1 => ?_) (fun c1 => ?_)
    · refine b_P_rootOf_38  ?_
      have e9 : x4 = -1 := by omega
      rw [e9] at i4
      rw [rt_u i2 i3 i4]
      exact H
    · have ls := lsh (x := x4) (by omega)
      have ls1 := ls.1
      have e7 : x2 + am_lshl 1 x4 = x2 + pw (x4 + -1) := by omega
      have mb := mulb (a := x2 + pw (x4 + -1)) (c := x2 + pw (x4 + -1)) (A := 131072) (C := 131072) (by omega) (by omega)
      refine b_P_rootOf_11 (by (try rw [e7]); omega) (by (try rw [e7]); omega) (fun c2 => ?_) (fun c2 => ?_)
      · refine b_P_rootOf_32 (by (try rw [e7]); omega) ?_
        exact ih x2 (x4 + -1) (by omega) (by omega) (by omega) (by omega) (by rw [ls.1] at c2; exact c2) (by omega) (by omega)
      · refine b_P_rootOf_29  ?_
        refine b_P_rootOf_32 (by (try rw [e7]); omega) ?_
        refine ih (x2 + am_lshl 1 x4) (x4 + -1) (by omega) (by omega) (by omega) (by omega) ?_ (by omega) (by omega)
        rw [ls.1]
        have e8 : x2 + pw (x4 + -1) + pw (x4 + -1) = x2 + pw x4 := by omega
        rw [e8]
        exact i4
theorem s_P_rootOf {ro : Nat → Int × (Int → Int)} {d : Nat} {b : Bool} {I L : Nat → Int → Int} {Q : Option am_V → am_H → Prop} {x0 : Int} (hx : 0 ≤ x0 ∧ x0 < 17179869184) (H : Q (some (am_L (rt x0))) (sh b, I, L)) : am_m ro (d + 1) 56 [am_L x0] (sh b, I, L) Q := by
  refine am_in rfl rfl rfl rfl ?_
  refine b_P_rootOf_0  ?_
  exact lp_P_rootOf (d := d) hx H 18 0 16 (by omega) (by omega) (by omega) (by omega) (by have e8 : (0 + pw 16) * (0 + pw 16) = 17179869184 := (by decide); omega) (by decide) (by omega)
theorem lp_M_rootOf {ro : Nat → Int × (Int → Int)} {d : Nat} {b : Bool} {I L : Nat → Int → Int} {Q : Option am_V → am_H → Prop} {bc bs : Nat} {x0 : Int} (hx : 0 ≤ x0 ∧ x0 < 17179869184) (H : Q (some (am_L (rt x0))) (sh b, I, L)) : ∀ (n : Nat) (x2 : Int), (0 ≤ x2) → (x2 * x2 ≤ x0) → (x2 ≤ 131071) → x0 - x2 < (n : Int) → am_ex (am_m ro (d + 0)) ro am_M239 Q (2, [some (am_L x0), none, some (am_L x2), none], [], (sh b, I, L), bc, bs) := by
  intro n
  induction n with
  | zero =>
    intro x2 i0 i1 i2 im
    exact absurd im (by have : x2 ≤ x0 := (by by_cases e : x2 = 0; (· omega); (have := mulb (a := 1) (c := x2) (A := x2) (C := x2) ⟨by omega, by omega⟩ ⟨by omega, by omega⟩; omega)); omega)
  | succ n ih =>
    intro x2 i0 i1 i2 im
    have rl : x2 ≤ x0 := by
      by_cases e : x2 = 0
      · omega
      · have := mulb (a := 1) (c := x2) (A := x2) (C := x2) ⟨by omega, by omega⟩ ⟨by omega, by omega⟩
        omega
    have mb := mulb (a := x2 + 1) (c := x2 + 1) (A := 131072) (C := 131072) (by omega) (by omega)
    have mc := mulb (a := x2 + 1024) (c := x2 + 1024) (A := 140000) (C := 140000) (by omega) (by omega)
    refine b_M_rootOf_2 (by omega) (by omega) (by omega) (fun c1 => ?_) (fun c1 => ?_)
    · refine b_M_rootOf_43  ?_
      rw [rt_u i0 i1 c1]
      exact H
    · refine b_M_rootOf_14 (by omega) (by omega) (by omega) (fun c2 => ?_) (fun c2 => ?_)
      · have md : x2 + 1 ≤ 131071 := by
          by_cases h9 : x2 + 1 ≤ 131071
          · exact h9
          · have := mulb (a := 131072) (c := 131072) (A := x2 + 1) (C := x2 + 1) (by omega) (by omega)
            omega
        refine b_M_rootOf_37  ?_
        refine b_M_rootOf_38 (by omega) ?_
        exact ih (x2 + 1) (by omega) (by omega) (by omega) (by omega)
      · have md : x2 + 1024 ≤ 131071 := by
          by_cases h9 : x2 + 1024 ≤ 131071
          · exact h9
          · have := mulb (a := 131072) (c := 131072) (A := x2 + 1024) (C := x2 + 1024) (by omega) (by omega)
            omega
        refine b_M_rootOf_31  ?_
        refine b_M_rootOf_38 (by omega) ?_
        exact ih (x2 + 1024) (by omega) (by omega) (by omega) (by omega)
theorem s_M_rootOf {ro : Nat → Int × (Int → Int)} {d : Nat} {b : Bool} {I L : Nat → Int → Int} {Q : Option am_V → am_H → Prop} {x0 : Int} (hx : 0 ≤ x0 ∧ x0 < 17179869184) (H : Q (some (am_L (rt x0))) (sh b, I, L)) : am_m ro (d + 1) 239 [am_L x0] (sh b, I, L) Q := by
  refine am_in rfl rfl rfl rfl ?_
  refine b_M_rootOf_0  ?_
  exact lp_M_rootOf (d := d) hx H ((x0).toNat + 1) 0 (by omega) (by omega) (by omega) (by omega)
/-! WHAT IS WORKED FROM COUNTS -/
def oL (p : Int → Int) (y a l : Int) : Int := sm (nn p y a l) (p 2).toNat
def oE (p : Int → Int) (y a e : Int) : Int := sm (fun l => nn p y a l e) (p 1).toNat
def oA (p : Int → Int) (y a : Int) : Int := sm (fun l => oL p y a l) (p 1).toNat
def oQ (p : Int → Int) (y a l : Int) : Int := sm (fun e => if 0 < nn p y a l e then 1 else 0) (p 2).toNat
def oP (p : Int → Int) (y a : Int) : Int := sm (fun l => oQ p y a l) (p 1).toNat
def due (p : Int → Int) (y a l e : Int) : Int := oE p y a e * oL p y a l / oA p y a
def mv (p : Int → Int) (y a l e : Int) : Int := if 0 < oA p y a ∧ due p y a l e + (3 + oP p y a / 8) * (rt (due p y a l e) + 1) < nn p y a l e then 1 else 0
theorem sm_mono {f g : Int → Int} : ∀ n : Nat, (∀ k : Int, 0 ≤ k → k < n → f k ≤ g k) → sm f n ≤ sm g n
  | 0, _ => Int.le_refl _
  | n + 1, h => by
    have h1 := sm_mono n (fun k a1 a2 => h k a1 (by omega))
    have h2 := h n (by omega) (by omega)
    show sm f n + f n ≤ sm g n + g n
    omega
theorem sm_one {f : Int → Int} {j : Int} : ∀ n : Nat, (∀ k : Int, 0 ≤ k → k < n → 0 ≤ f k) → 0 ≤ j → j < n → f j ≤ sm f n
  | 0, _, _, _ => by omega
  | n + 1, h, h1, h2 => by
    have w := sm_bd0 n h
    show f j ≤ sm f n + f n
    by_cases e : j = n
    · rw [e]
      omega
    · have := sm_one n (fun k a1 a2 => h k a1 (by omega)) h1 (by omega)
      have := h n (by omega) (by omega)
      omega
where
  sm_bd0 {f : Int → Int} : ∀ n : Nat, (∀ k : Int, 0 ≤ k → k < ((n + 1 : Nat) : Int) → 0 ≤ f k) → 0 ≤ sm f n
    | 0, _ => Int.le_refl _
    | n + 1, h => by
      have h1 := sm_bd0 n (fun k a1 a2 => h k a1 (by omega))
      have h2 := h n (by omega) (by omega)
      show 0 ≤ sm f n + f n
      omega
theorem cb {I L : Nat → Int → Int} {y a l e : Int} (h : Mo I L) (hl : 0 ≤ l ∧ l < I 67 1) (he : 0 ≤ e ∧ e < I 67 2) : (0 ≤ oL (I 67) y a l ∧ oL (I 67) y a l ≤ 299999970) ∧ (0 ≤ oE (I 67) y a e ∧ oE (I 67) y a e ≤ 119999988) ∧ (0 ≤ oA (I 67) y a ∧ oA (I 67) y a ≤ 3599999640) ∧ (0 ≤ oP (I 67) y a ∧ oP (I 67) y a ≤ 360) ∧ oE (I 67) y a e ≤ oA (I 67) y a := by
  have ct := Mo_ct h
  have nb : ∀ l e, 0 ≤ nn (I 67) y a l e ∧ nn (I 67) y a l e ≤ 9999999 := fun l e => nn_bd h
  have bL : ∀ l, 0 ≤ oL (I 67) y a l ∧ oL (I 67) y a l ≤ 299999970 := fun l => by
    have := sm_bd (f := nn (I 67) y a l) (B := 9999999) (I 67 2).toNat (fun k _ _ => nb l k)
    unfold oL
    omega
  have b2 := sm_bd (f := fun l => nn (I 67) y a l e) (B := 9999999) (I 67 1).toNat (fun k _ _ => nb k e)
  have b3 := sm_bd (f := fun l => oL (I 67) y a l) (B := 299999970) (I 67 1).toNat (fun k _ _ => bL k)
  have bQ : ∀ l, 0 ≤ oQ (I 67) y a l ∧ oQ (I 67) y a l ≤ 30 := fun l => by
    have := sm_bd (f := fun e => if 0 < nn (I 67) y a l e then 1 else 0) (B := 1) (I 67 2).toNat (fun k _ _ => by show (0 : Int) ≤ (if 0 < nn (I 67) y a l k then 1 else 0) ∧ (if 0 < nn (I 67) y a l k then 1 else 0) ≤ (1 : Int); split <;> omega)
    unfold oQ
    omega
  have b5 := sm_bd (f := fun l => oQ (I 67) y a l) (B := 30) (I 67 1).toNat (fun k _ _ => bQ k)
  have b6 : oE (I 67) y a e ≤ oA (I 67) y a := sm_mono _ (fun k a1 a2 => sm_one (f := nn (I 67) y a k) (j := e) _ (fun j _ _ => (nb k j).1) he.1 (by omega))
  refine ⟨bL l, ?_, ?_, ?_, b6⟩
  · unfold oE
    omega
  · unfold oA
    omega
  · unfold oP
    omega
theorem due_bd {I L : Nat → Int → Int} {y a l e : Int} (h : Mo I L) (hl : 0 ≤ l ∧ l < I 67 1) (he : 0 ≤ e ∧ e < I 67 2) : (0 ≤ oE (I 67) y a e * oL (I 67) y a l ∧ oE (I 67) y a e * oL (I 67) y a l ≤ 40000000000000000) ∧ 0 ≤ due (I 67) y a l e ∧ due (I 67) y a l e ≤ 299999970 ∧ 0 ≤ (3 + oP (I 67) y a / 8) * (rt (due (I 67) y a l e) + 1) ∧ (3 + oP (I 67) y a / 8) * (rt (due (I 67) y a l e) + 1) ≤ 16000000000 := by
  obtain ⟨h1, h2, h3, h4, h5⟩ := cb (y := y) (a := a) h hl he
  have m1 := mulb h2 h1
  have d1 : 0 ≤ due (I 67) y a l e ∧ due (I 67) y a l e ≤ 299999970 := by
    unfold due
    by_cases e0 : oA (I 67) y a = 0
    · rw [e0, Int.ediv_zero]
      omega
    · have m2 := mulb (a := oE (I 67) y a e) (c := oL (I 67) y a l) (A := oA (I 67) y a) (C := oL (I 67) y a l) ⟨by omega, h5⟩ ⟨by omega, by omega⟩
      refine ⟨Int.ediv_nonneg m1.1 h3.1, ?_⟩
      have m3 := Int.ediv_le_ediv (show 0 < oA (I 67) y a by omega) m2.2
      rw [Int.mul_ediv_cancel_left _ e0] at m3
      omega
  have r1 := rt_ok d1.1
  have r2 := rt_le d1.1
  have m4 := mulb (a := 3 + oP (I 67) y a / 8) (c := rt (due (I 67) y a l e) + 1) (A := 48) (C := 300000000) (by omega) (by omega)
  omega
theorem mv_01 {p : Int → Int} {y a l e : Int} : mv p y a l e = 0 ∨ mv p y a l e = 1 := by
  unfold mv
  split <;> omega
theorem mv_0 {I L : Nat → Int → Int} {y a l e : Int} (h : Mo I L) (hl : 0 ≤ l ∧ l < I 67 1) (he : 0 ≤ e ∧ e < I 67 2) (hn : nn (I 67) y a l e ≤ 0) : mv (I 67) y a l e = 0 := by
  have d := due_bd (y := y) (a := a) h hl he
  unfold mv
  rw [if_neg (by omega)]
/-- a library that is not drawn has no loans -/
theorem nn_nd {I L : Nat → Int → Int} {y a l e : Int} (h : Mo I L) (he : 0 ≤ e ∧ e < 100) (hd : ¬ am_and (am_shr (I 67 (34 + y)) l) 1 = 1) : nn (I 67) y a l e = 0 := by
  obtain ⟨C, CL, hM0⟩ := id h
  have g8 := hM0.1.2.2.1.2.2.2.2.2.2.2
  have ct := Mo_ct h
  unfold nn ln lnk
  by_cases e1 : lst (I 67) y (100 * l + e) a (I 67 6).toNat = -1
  · rw [if_pos e1]
  · have w := lst_ok (p := I 67) (y := y) (f := 100 * l + e) (a := a) (I 67 6).toNat e1
    have w2 := lst_bd (p := I 67) (y := y) (f := 100 * l + e) (a := a) (I 67 6).toNat
    have w3 := g8 (lst (I 67) y (100 * l + e) a (I 67 6).toNat) (by omega) (by omega)
    rw [w.1, w.2.1] at w3
    have e2 : (100 * l + e) / 100 = l := by omega
    rw [e2] at w3
    exact absurd w3 hd
theorem oQ_bd {I L : Nat → Int → Int} {y a l : Int} (h : Mo I L) : 0 ≤ oQ (I 67) y a l ∧ oQ (I 67) y a l ≤ 30 := by
  have ct := Mo_ct h
  have := sm_bd (f := fun e => if 0 < nn (I 67) y a l e then 1 else 0) (B := 1) (I 67 2).toNat (fun k _ _ => by show (0 : Int) ≤ (if 0 < nn (I 67) y a l k then 1 else 0) ∧ (if 0 < nn (I 67) y a l k then 1 else 0) ≤ (1 : Int); split <;> omega)
  unfold oQ
  omega
theorem s_Cnt_isMoved {ro : Nat → Int × (Int → Int)} {d : Nat} {b : Bool} {I L : Nat → Int → Int} {Q : Option am_V → am_H → Prop} {x1 x2 : Int} {y a : Int} (hM : Mo I L) (hr : Rd (I 67) y a I L) (hx : (0 ≤ x1 ∧ x1 < I 67 1) ∧ 0 ≤ x2 ∧ x2 < I 67 2) (H : Q (some (am_I (mv (I 67) y a x1 x2))) (sh b, I, L)) : am_m ro (d + 2) 136 [am_R 51, am_I x1, am_I x2] (sh b, I, L) Q := by
  have ct := Mo_ct hM
  have cb9 := cb (y := y) (a := a) hM hx.1 hx.2
  have d9 := due_bd (y := y) (a := a) hM hx.1 hx.2
  have q1 : I 52 (x1 * 30 + x2) = nn (I 67) y a x1 x2 := hr.1 x1 x2 hx.1.1 hx.1.2 hx.2.1 hx.2.2
  have q2 : L 53 x1 = oL (I 67) y a x1 := hr.2.1 x1 hx.1.1 hx.1.2
  have q3 : L 54 x2 = oE (I 67) y a x2 := hr.2.2.1 x2 hx.2.1 hx.2.2
  have q4 : L 51 4 = oA (I 67) y a := hr.2.2.2.1
  have q5 : I 51 5 = oP (I 67) y a := hr.2.2.2.2
  have q6 : L 54 x2 * L 53 x1 = oE (I 67) y a x2 * oL (I 67) y a x1 := by rw [q2, q3]
  have q7 : L 54 x2 * L 53 x1 / L 51 4 = due (I 67) y a x1 x2 := by rw [q6, q4]; rfl
  have r1 := rt_ok d9.2.1
  have r2 := rt_le d9.2.1
  have q8 : (3 + I 51 5 / 8) * (rt (L 54 x2 * L 53 x1 / L 51 4) + 1) = (3 + oP (I 67) y a / 8) * (rt (due (I 67) y a x1 x2) + 1) := by rw [q7, q5]
  have q9 : rt (L 54 x2 * L 53 x1 / L 51 4) = rt (due (I 67) y a x1 x2) := by rw [q7]
  refine am_in rfl rfl rfl rfl ?_
  refine b_Cnt_isMoved_0  (fun c1 => ?_) (fun c1 => ?_)
  · refine b_Cnt_isMoved_11 (by omega) (by omega) (by omega) (by omega) (by omega) (by omega) (by omega) (by omega) (by omega) (s_P_rootOf (by rw [q7]; omega) ?_)
    refine b_Cnt_isMoved_61 (by omega) (by omega) (by omega) (fun c2 => ?_) (fun c2 => ?_)
    · refine b_Cnt_isMoved_73  ?_
      refine b_Cnt_isMoved_74 (by omega) ?_
      have e8 : mv (I 67) y a x1 x2 = 0 := by
        unfold mv
        first | rw [if_pos (by omega)] | rw [if_neg (by omega)]
      rw [e8] at H
      exact H
    · refine b_Cnt_isMoved_69  ?_
      refine b_Cnt_isMoved_74 (by omega) ?_
      have e8 : mv (I 67) y a x1 x2 = 1 := by
        unfold mv
        first | rw [if_pos (by omega)] | rw [if_neg (by omega)]
      rw [e8] at H
      exact H
  · refine b_Cnt_isMoved_9  ?_
    have e8 : mv (I 67) y a x1 x2 = 0 := by
      unfold mv
      first | rw [if_pos (by omega)] | rw [if_neg (by omega)]
    rw [e8] at H
    exact H
theorem lp_M_lentBy {ro : Nat → Int × (Int → Int)} {d : Nat} {b : Bool} {I L : Nat → Int → Int} {Q : Option am_V → am_H → Prop} {bc bs : Nat} {x1 x2 : Int} (hM : Mo I L) (hx : 0 ≤ x2 ∧ x2 ≤ 12) (H : Q (some (am_L (oL (I 67) x1 (I 67 0) x2))) (sh b, I, L)) : ∀ (n : Nat) (x3 x5 : Int), (0 ≤ x5) → (x5 ≤ I 67 2) → (x3 = sm (nn (I 67) x1 (I 67 0) x2) x5.toNat) → (0 ≤ x3 ∧ x3 ≤ 9999999 * x5) → I 67 2 - x5 < (n : Int) → am_ex (am_m ro (d + 2)) ro am_M240 Q (5, [some (am_R 66), some (am_I x1), some (am_I x2), some (am_L x3), none, some (am_I x5)], [], (sh b, I, L), bc, bs) := by
  intro n
  induction n with
  | zero =>
    intro x3 x5 i0 i1 i2 i3 im
    exact absurd im (by omega)
  | succ n ih =>
    intro x3 x5 i0 i1 i2 i3 im
    have ct := Mo_ct hM
    refine b_M_lentBy_5  (fun c1 => ?_) (fun c1 => ?_)
    · refine b_M_lentBy_44  ?_
      have e9 : x5 = I 67 2 := by omega
      rw [i2, e9]
      exact H
    · have nb := nn_bd (y := x1) (a := I 67 0) (l := x2) (e := x5) hM
      have nb2 : ln (I 67) x1 (100 * x2 + x5) (I 67 0) = nn (I 67) x1 (I 67 0) x2 x5 := rfl
      refine b_M_lentBy_16 (by omega) (by omega) (s_M_loans hM ?_)
      refine b_M_lentBy_35 (by omega) (by omega) ?_
      exact ih (x3 + (ln (I 67) x1 ((100 * x2) + x5) (I 67 0))) (x5 + 1) (by omega) (by omega) (by rw [sm_step (by omega), ← i2]; rfl) (by omega) (by omega)
theorem s_M_lentBy {ro : Nat → Int × (Int → Int)} {d : Nat} {b : Bool} {I L : Nat → Int → Int} {Q : Option am_V → am_H → Prop} {x1 x2 : Int} (hM : Mo I L) (hx : 0 ≤ x2 ∧ x2 ≤ 12) (H : Q (some (am_L (oL (I 67) x1 (I 67 0) x2))) (sh b, I, L)) : am_m ro (d + 3) 240 [am_R 66, am_I x1, am_I x2] (sh b, I, L) Q := by
  have ct := Mo_ct hM
  refine am_in rfl rfl rfl rfl ?_
  refine b_M_lentBy_0  ?_
  exact lp_M_lentBy (d := d) hM hx H ((I 67 2).toNat + 1) _ _ (by omega) (by omega) rfl (by omega) (by omega)
theorem lq_M_isMoved {ro : Nat → Int × (Int → Int)} {d : Nat} {b : Bool} {I L : Nat → Int → Int} {Q : Option am_V → am_H → Prop} {bc bs : Nat} {x1 x2 x3 x4 x6 x9 : Int} {c0 : Int} (hM : Mo I L) (hx : 0 ≤ x9 ∧ x9 ≤ 11 ∧ 0 ≤ c0 ∧ c0 ≤ 330) (HX : ∀ z8 : Int, z8 = c0 + oQ (I 67) x1 (I 67 0) x9 → am_ex (am_m ro (d + 3)) ro am_M241 Q (12, [some (am_R 66), some (am_I x1), some (am_I x2), some (am_I x3), some (am_L x4), none, some (am_L x6), none, some (am_I z8), some (am_I ((x9 + 1))), none], [], (sh b, I, L), bc, bs)) : ∀ (n : Nat) (x8 x10 : Int), (0 ≤ x10) → (x10 ≤ I 67 2) → (x8 = c0 + sm (fun e => if 0 < nn (I 67) x1 (I 67 0) x9 e then 1 else 0) x10.toNat) → (c0 ≤ x8 ∧ x8 ≤ c0 + x10) → I 67 2 - x10 < (n : Int) → am_ex (am_m ro (d + 3)) ro am_M241 Q (72, [some (am_R 66), some (am_I x1), some (am_I x2), some (am_I x3), some (am_L x4), none, some (am_L x6), none, some (am_I x8), some (am_I x9), some (am_I x10)], [], (sh b, I, L), bc, bs) := by
  intro n
  induction n with
  | zero =>
    intro x8 x10 i0 i1 i2 i3 im
    exact absurd im (by omega)
  | succ n ih =>
    intro x8 x10 i0 i1 i2 i3 im
    have ct := Mo_ct hM
    refine b_M_isMoved_72  (fun c1 => ?_) (fun c1 => ?_)
    · refine b_M_isMoved_121 (by omega) ?_
      have e9 : x10 = I 67 2 := by omega
      rw [e9] at i2
      exact HX x8 i2
    · have nb2 : ln (I 67) x1 (100 * x9 + x10) (I 67 0) = nn (I 67) x1 (I 67 0) x9 x10 := rfl
      refine b_M_isMoved_83 (by omega) (by omega) (s_M_loans hM ?_)
      refine b_M_isMoved_104  (fun c2 => ?_) (fun c2 => ?_)
      · refine b_M_isMoved_111  ?_
        refine b_M_isMoved_112 (by omega) (by omega) ?_
        exact ih (x8 + 0) (x10 + 1) (by omega) (by omega) (by rw [sm_step (by omega)]; (first | rw [if_pos (by omega)] | rw [if_neg (by omega)]); omega) (by omega) (by omega)
      · refine b_M_isMoved_107  ?_
        refine b_M_isMoved_112 (by omega) (by omega) ?_
        exact ih (x8 + 1) (x10 + 1) (by omega) (by omega) (by rw [sm_step (by omega)]; (first | rw [if_pos (by omega)] | rw [if_neg (by omega)]); omega) (by omega) (by omega)
set_option maxHeartbeats 1000000 in
theorem lp_M_isMoved {ro : Nat → Int × (Int → Int)} {d : Nat} {b : Bool} {I L : Nat → Int → Int} {Q : Option am_V → am_H → Prop} {bc bs : Nat} {x1 x2 x3 : Int} (hM : Mo I L) (hx : (0 ≤ x1 ∧ x1 ≤ 40) ∧ (0 ≤ x2 ∧ x2 < I 67 1) ∧ 0 ≤ x3 ∧ x3 < I 67 2) (H : Q (some (am_I (mv (I 67) x1 (I 67 0) x2 x3))) (sh b, I, L)) : ∀ (n : Nat) (x4 x6 x8 x9 : Int), (0 ≤ x9) → (x9 ≤ I 67 1) → (x4 = sm (fun l => nn (I 67) x1 (I 67 0) l x3) x9.toNat) → (x6 = sm (fun l => oL (I 67) x1 (I 67 0) l) x9.toNat) → (x8 = sm (fun l => oQ (I 67) x1 (I 67 0) l) x9.toNat) → ((0 ≤ x4 ∧ x4 ≤ 9999999 * x9) ∧ (0 ≤ x6 ∧ x6 ≤ 299999970 * x9) ∧ 0 ≤ x8 ∧ x8 ≤ 30 * x9) → I 67 1 - x9 < (n : Int) → am_ex (am_m ro (d + 3)) ro am_M241 Q (12, [some (am_R 66), some (am_I x1), some (am_I x2), some (am_I x3), some (am_L x4), none, some (am_L x6), none, some (am_I x8), some (am_I x9), none], [], (sh b, I, L), bc, bs) := by
  intro n
  induction n with
  | zero =>
    intro x4 x6 x8 x9 i0 i1 i2 i3 i4 i5 im
    exact absurd im (by omega)
  | succ n ih =>
    intro x4 x6 x8 x9 i0 i1 i2 i3 i4 i5 im
    have ct := Mo_ct hM
    refine b_M_isMoved_12  (fun c1 => ?_) (fun c1 => ?_)
    · have e99 : x9 = I 67 1 := by omega
      rw [e99] at i2 i3 i4
      have cb9 := cb (y := x1) (a := I 67 0) hM hx.2.1 hx.2.2
      have d9 := due_bd (y := x1) (a := I 67 0) hM hx.2.1 hx.2.2
      have q1 : ln (I 67) x1 (100 * x2 + x3) (I 67 0) = nn (I 67) x1 (I 67 0) x2 x3 := rfl
      have q3 : x4 = oE (I 67) x1 (I 67 0) x3 := i2
      have q4 : x6 = oA (I 67) x1 (I 67 0) := i3
      have q5 : x8 = oP (I 67) x1 (I 67 0) := i4
      have q6 : x4 * oL (I 67) x1 (I 67 0) x2 = oE (I 67) x1 (I 67 0) x3 * oL (I 67) x1 (I 67 0) x2 := by rw [q3]
      have q7 : x4 * oL (I 67) x1 (I 67 0) x2 / x6 = due (I 67) x1 (I 67 0) x2 x3 := by rw [q6, q4]; rfl
      have r1 := rt_ok d9.2.1
      have r2 := rt_le d9.2.1
      have q8 : (3 + x8 / 8) * (rt (x4 * oL (I 67) x1 (I 67 0) x2 / x6) + 1) = (3 + oP (I 67) x1 (I 67 0) / 8) * (rt (due (I 67) x1 (I 67 0) x2 x3) + 1) := by rw [q7, q5]
      have q9 : rt (x4 * oL (I 67) x1 (I 67 0) x2 / x6) = rt (due (I 67) x1 (I 67 0) x2 x3) := by rw [q7]
      refine b_M_isMoved_127  (fun c2 => ?_) (fun c2 => ?_)
      · refine b_M_isMoved_136  (s_M_lentBy hM (by omega) ?_)
        refine b_M_isMoved_144 (by omega) (by omega) (by omega) (by omega) (s_M_loans hM ?_)
        refine b_M_isMoved_167 (by omega) (by omega) (s_M_rootOf (by rw [q7]; omega) ?_)
        refine b_M_isMoved_183 (by omega) (by omega) (by omega) (fun c3 => ?_) (fun c3 => ?_)
        · refine b_M_isMoved_195  ?_
          refine b_M_isMoved_196 (by omega) ?_
          have e8 : mv (I 67) x1 (I 67 0) x2 x3 = 0 := by
            unfold mv
            first | rw [if_pos (by omega)] | rw [if_neg (by omega)]
          rw [e8] at H
          exact H
        · refine b_M_isMoved_191  ?_
          refine b_M_isMoved_196 (by omega) ?_
          have e8 : mv (I 67) x1 (I 67 0) x2 x3 = 1 := by
            unfold mv
            first | rw [if_pos (by omega)] | rw [if_neg (by omega)]
          rw [e8] at H
          exact H
      · refine b_M_isMoved_134  ?_
        have e8 : mv (I 67) x1 (I 67 0) x2 x3 = 0 := by
          unfold mv
          first | rw [if_pos (by omega)] | rw [if_neg (by omega)]
        rw [e8] at H
        exact H
    · refine b_M_isMoved_23  (s_M_isDrawn (by omega) (fun c99 => ?_) (fun c99 => ?_))
      · refine b_M_isMoved_30  (fun c4 => absurd c4 (by decide)) (fun c4 => ?_)
        have nb := nn_bd (y := x1) (a := I 67 0) (l := x9) (e := x3) hM
        have nb2 : ln (I 67) x1 (100 * x9 + x3) (I 67 0) = nn (I 67) x1 (I 67 0) x9 x3 := rfl
        have cb9 := cb (y := x1) (a := I 67 0) (l := x9) (e := x3) hM (by omega) hx.2.2
        have bq : 0 ≤ oQ (I 67) x1 (I 67 0) x9 ∧ oQ (I 67) x1 (I 67 0) x9 ≤ 30 := oQ_bd hM
        refine b_M_isMoved_33 (by omega) (by omega) (s_M_loans hM ?_)
        refine b_M_isMoved_53 (by omega) (s_M_lentBy hM (by omega) ?_)
        refine b_M_isMoved_66 (by omega) ?_
        refine lq_M_isMoved (d := d) (c0 := x8) hM (by omega) (fun z8 hz => ih _ _ z8 (x9 + 1) (by omega) (by omega) ?_ ?_ ?_ (by omega) (by omega)) ((I 67 2).toNat + 1) x8 0 (by omega) (by omega) (by show x8 = x8 + 0; omega) (by omega) (by omega)
        · rw [sm_step (by omega), i2]
          rfl
        · rw [sm_step (by omega), i3]
        · rw [sm_step (by omega), hz, i4]
      · refine b_M_isMoved_30  (fun c5 => ?_) (fun c5 => absurd c5 (by decide))
        refine b_M_isMoved_121 (by omega) ?_
        refine ih x4 x6 x8 (x9 + 1) (by omega) (by omega) ?_ ?_ ?_ (by omega) (by omega)
        · rw [sm_step (by omega), i2]
          show _ = _ + nn (I 67) x1 (I 67 0) x9 x3
          rw [nn_nd hM (by omega) c99]
          omega
        · rw [sm_step (by omega), i3]
          show _ = _ + oL (I 67) x1 (I 67 0) x9
          unfold oL
          rw [sm_zero _ (fun k a1 a2 => nn_nd hM (by omega) c99)]
          omega
        · rw [sm_step (by omega), i4]
          show _ = _ + oQ (I 67) x1 (I 67 0) x9
          have z0 : oQ (I 67) x1 (I 67 0) x9 = 0 := sm_zero _ (fun k a1 a2 => by
            show (if 0 < nn (I 67) x1 (I 67 0) x9 k then (1 : Int) else 0) = 0
            rw [nn_nd hM (by omega) c99]
            rfl)
          rw [z0]
          omega
theorem s_M_isMoved {ro : Nat → Int × (Int → Int)} {d : Nat} {b : Bool} {I L : Nat → Int → Int} {Q : Option am_V → am_H → Prop} {x1 x2 x3 : Int} (hM : Mo I L) (hx : (0 ≤ x1 ∧ x1 ≤ 40) ∧ (0 ≤ x2 ∧ x2 < I 67 1) ∧ 0 ≤ x3 ∧ x3 < I 67 2) (H : Q (some (am_I (mv (I 67) x1 (I 67 0) x2 x3))) (sh b, I, L)) : am_m ro (d + 4) 241 [am_R 66, am_I x1, am_I x2, am_I x3] (sh b, I, L) Q := by
  have ct := Mo_ct hM
  refine am_in rfl rfl rfl rfl ?_
  refine b_M_isMoved_0  ?_
  exact lp_M_isMoved (d := d) hM hx H ((I 67 1).toNat + 1) _ _ _ _ (by omega) (by omega) rfl rfl rfl (by omega) (by omega)
