theorem i32s {x : Int} (h : 0 ≤ x ∧ x < 4096) : (Int32.ofInt x).toBitVec.toNat = x.toNat := by
  show (BitVec.ofInt 32 x).toNat = x.toNat
  rw [BitVec.toNat_ofInt]
  omega
theorem or_sm {a c : Int} (h1 : 0 ≤ a ∧ a < 4096) (h2 : 0 ≤ c ∧ c < 4096) : 0 ≤ am_or a c ∧ am_or a c < 4096 := by
  have e : am_or a c = ((Int32.ofInt a).toBitVec ||| (Int32.ofInt c).toBitVec).toInt := rfl
  have h : ((Int32.ofInt a).toBitVec ||| (Int32.ofInt c).toBitVec).toNat < 2 ^ 12 := by
    rw [BitVec.toNat_or, i32s h1, i32s h2]
    exact Nat.or_lt_two_pow (by omega) (by omega)
  rw [e, BitVec.toInt_eq_toNat_of_lt (by omega)]
  omega
theorem xor_sm {a c : Int} (h1 : 0 ≤ a ∧ a < 4096) (h2 : 0 ≤ c ∧ c < 4096) : 0 ≤ am_xor a c ∧ am_xor a c < 4096 := by
  have e : am_xor a c = ((Int32.ofInt a).toBitVec ^^^ (Int32.ofInt c).toBitVec).toInt := rfl
  have h : ((Int32.ofInt a).toBitVec ^^^ (Int32.ofInt c).toBitVec).toNat < 2 ^ 12 := by
    rw [BitVec.toNat_xor, i32s h1, i32s h2]
    exact Nat.xor_lt_two_pow (by omega) (by omega)
  rw [e, BitVec.toInt_eq_toNat_of_lt (by omega)]
  omega
theorem and_sm {a c : Int} (h1 : 0 ≤ a ∧ a < 4096) : 0 ≤ am_and a c ∧ am_and a c < 4096 := by
  have e : am_and a c = ((Int32.ofInt a).toBitVec &&& (Int32.ofInt c).toBitVec).toInt := rfl
  have h : ((Int32.ofInt a).toBitVec &&& (Int32.ofInt c).toBitVec).toNat ≤ a.toNat := by
    rw [BitVec.toNat_and, i32s h1]
    exact Nat.and_le_left
  rw [e, BitVec.toInt_eq_toNat_of_lt (by omega)]
  omega
theorem pp_tab : ∀ a : Fin 16, ∀ r : Fin 4, (0 ≤ am_or (a.val : Int) (am_shl 1 (r.val : Int)) ∧ am_or (a.val : Int) (am_shl 1 (r.val : Int)) < 16) ∧ ∀ q : Fin 4, am_and (am_shr (am_or (a.val : Int) (am_shl 1 (r.val : Int))) (q.val : Int)) 1 = if q = r then 1 else am_and (am_shr (a.val : Int) (q.val : Int)) 1 := by decide +kernel
theorem pp {a r : Int} (ha : 0 ≤ a ∧ a < 16) (hr : 0 ≤ r ∧ r < 4) : (0 ≤ am_or a (am_shl 1 r) ∧ am_or a (am_shl 1 r) < 16) ∧ ∀ q, 0 ≤ q → q < 4 → am_and (am_shr (am_or a (am_shl 1 r)) q) 1 = if q = r then 1 else am_and (am_shr a q) 1 := by
  have w := pp_tab ⟨a.toNat, by omega⟩ ⟨r.toNat, by omega⟩
  have e1 : ((a.toNat : Nat) : Int) = a := Int.toNat_of_nonneg ha.1
  have e2 : ((r.toNat : Nat) : Int) = r := Int.toNat_of_nonneg hr.1
  simp only [e1, e2] at w
  refine ⟨w.1, fun q q1 q2 => ?_⟩
  have w2 := w.2 ⟨q.toNat, by omega⟩
  have e3 : ((q.toNat : Nat) : Int) = q := Int.toNat_of_nonneg q1
  simp only [e3] at w2
  rw [w2]
  by_cases h : q = r
  · subst h
    rw [if_pos rfl, if_pos rfl]
  · rw [if_neg h, if_neg (fun g => h (by have := congrArg Fin.val g; simp only at this; omega))]
/-! WIDTHS -/
def isN (p : Int → Int) (g : Int) (n : Nat) : Int := sm (fun l => if p (10 + l) = g then 1 else 0) n
def szN (p : Int → Int) (s g : Int) (n : Nat) : Int := sm (fun l => if p (10 + l) = g ∧ am_and (am_shr s l) 1 = 1 then p (22 + l) else 0) n
def wdN (p : Int → Int) (s c : Int) : Nat → Int
  | 0 => 0
  | g + 1 => if wdN p s c g = -1 then -1 else if 0 < isN p g (p 1).toNat then (if szN p s g (p 1).toNat = 0 then -1 else max (wdN p s c g) (p (75 + 4 * c + g) / szN p s g (p 1).toNat)) else wdN p s c g
def wd (p : Int → Int) (s c : Int) : Int := wdN p s c 4
theorem wdN_s {p : Int → Int} {s c g : Int} (h : 0 ≤ g) : wdN p s c (g + 1).toNat = if wdN p s c g.toNat = -1 then -1 else if 0 < isN p g (p 1).toNat then (if szN p s g (p 1).toNat = 0 then -1 else max (wdN p s c g.toNat) (p (75 + 4 * c + g) / szN p s g (p 1).toNat)) else wdN p s c g.toNat := by
  have e : (g + 1).toNat = g.toNat + 1 := by omega
  rw [e]
  have e2 : ((g.toNat : Nat) : Int) = g := Int.toNat_of_nonneg h
  show (if wdN p s c g.toNat = -1 then -1 else if 0 < isN p (g.toNat : Int) (p 1).toNat then (if szN p s (g.toNat : Int) (p 1).toNat = 0 then -1 else max (wdN p s c g.toNat) (p (75 + 4 * c + (g.toNat : Int)) / szN p s (g.toNat : Int) (p 1).toNat)) else wdN p s c g.toNat) = _
  rw [e2]
theorem wd_st {p : Int → Int} {s c : Int} {g : Nat} (h : wdN p s c g = -1) : ∀ k : Nat, wdN p s c (g + k) = -1
  | 0 => h
  | k + 1 => if_pos (wd_st h k)
theorem isN_nn {p : Int → Int} {g : Int} (n : Nat) : 0 ≤ isN p g n ∧ isN p g n ≤ n := by
  have := sm_bd (f := fun l => if p (10 + l) = g then 1 else 0) (B := 1) n (fun k _ _ => by show (0 : Int) ≤ (if p (10 + k) = g then 1 else 0) ∧ (if p (10 + k) = g then 1 else 0) ≤ (1 : Int); split <;> omega)
  unfold isN
  omega
theorem szN_bd {p : Int → Int} {s g : Int} (n : Nat) (h : ∀ l : Int, 0 ≤ l → l < n → 1 ≤ p (22 + l) ∧ p (22 + l) ≤ 99999) : 0 ≤ szN p s g n ∧ szN p s g n ≤ 99999 * n := sm_bd n (fun k a1 a2 => by
  have := h k a1 a2
  show 0 ≤ (if p (10 + k) = g ∧ am_and (am_shr s k) 1 = 1 then p (22 + k) else 0) ∧ (if p (10 + k) = g ∧ am_and (am_shr s k) 1 = 1 then p (22 + k) else 0) ≤ 99999
  split <;> omega)
theorem lq_Libs_widthOf {ro : Nat → Int × (Int → Int)} {d : Nat} {b : Bool} {L : Nat → Int → Int} {Q : Option am_V → am_H → Prop} {bc bs : Nat} {x3 x4 : Int} {I0 : Nat → Int → Int} {s9 : Int} {I : Nat → Int → Int} (hC : Cor I0 L) (hx : 0 ≤ x3 ∧ x3 ≤ 39) (hf : ∀ k, k ≠ 5 → I k = I0 k) (hp : ∀ g, 0 ≤ g → g < 4 → (am_and (am_shr x4 g) 1 = if 0 < isN (I0 67) g (I0 67 1).toNat then 1 else 0) ∧ I 5 g = szN (I0 67) s9 g (I0 67 1).toNat) (H : ∀ I9 : Nat → Int → Int, (∀ k, k ≠ 5 → I9 k = I0 k) → Q (some (am_I (wd (I0 67) s9 x3))) (sh b, I9, L)) : ∀ (n : Nat) (x5 x6 : Int), (0 ≤ x6) → (x6 ≤ 4) → (x5 = wdN (I0 67) s9 x3 x6.toNat) → (0 ≤ x5 ∧ x5 ≤ 9999999) → 4 - x6 < (n : Int) → am_ex (am_m ro (d + 0)) ro am_M71 Q (81, [some (am_R 2), none, some (am_R 36), some (am_I x3), some (am_I x4), some (am_I x5), some (am_I x6)], [], (sh b, I, L), bc, bs) := by
  intro n
  induction n with
  | zero =>
    intro x5 x6 i0 i1 i2 i3 im
    exact absurd im (by omega)
  | succ n ih =>
    intro x5 x6 i0 i1 i2 i3 im
    refine b_Libs_widthOf_81  (fun c1 => ?_) (fun c1 => ?_)
    · refine b_Libs_widthOf_142  ?_
      have e9 : x6 = 4 := by omega
      rw [e9] at i2
      rw [i2]
      exact H I hf
    · have pb := hp x6 (by omega) (by omega)
      have sz := szN_bd (p := I0 67) (s := s9) (g := x6) (I0 67 1).toNat (fun l a1 a2 => by have w := hC.1.2.1.2.2.2.2 l a1 (by omega); omega)
      have al := hC.1.2.2.2.2.2.2.2.1.2.2.1 (x3 * 4 + x6) (by omega) (by omega)
      have e75 : 75 + (x3 * 4 + x6) = 75 + 4 * x3 + x6 := by omega
      rw [e75] at al
      have e38 : I 38 (x3 * 4 + x6) = I0 67 (75 + 4 * x3 + x6) := by rw [hf 38 (by omega)]; exact al.1
      have ws := wdN_s (p := I0 67) (s := s9) (c := x3) (g := x6) (by omega)
      rw [← i2] at ws
      refine b_Libs_widthOf_87  (fun c2 => ?_) (fun c2 => ?_)
      · refine b_Libs_widthOf_136 (by omega) ?_
        refine ih x5 (x6 + 1) (by omega) (by omega) ?_ (by omega) (by omega)
        rw [ws, if_neg (by omega), if_neg (fun q => by rw [pb.1, if_pos q] at c2; omega)]
      · refine b_Libs_widthOf_98 (by omega) (fun c3 => ?_) (fun c3 => ?_)
        · have qv := Int.ediv_nonneg (show 0 ≤ I 38 (x3 * 4 + x6) by omega) (show 0 ≤ I 5 x6 by omega)
          have qw := Int.ediv_le_self (I 5 x6) (show 0 ≤ I 38 (x3 * 4 + x6) by omega)
          refine b_Libs_widthOf_110 (by omega) (by omega) (by omega) (by omega) (by omega) ?_
          refine b_Libs_widthOf_136 (by omega) ?_
          have qv := Int.ediv_nonneg (show 0 ≤ I 38 (x3 * 4 + x6) by omega) (show 0 ≤ I 5 x6 by omega)
          refine ih ((max x5 ((I 38 ((x3 * 4) + x6)) / (I 5 x6)))) (x6 + 1) (by omega) (by omega) ?_ (by omega) (by omega)
          rw [ws, if_neg (by omega), if_pos (by first | (rw [pb.1] at c2; by_cases q : 0 < isN (I0 67) x6 (I0 67 1).toNat; (· exact q); (· rw [if_neg q] at c2; omega))), if_neg (by omega), e38, pb.2]
        · refine b_Libs_widthOf_108  ?_
          have e8 : wd (I0 67) s9 x3 = -1 := by
            rw [if_neg (by omega), if_pos (by first | (rw [pb.1] at c2; by_cases q : 0 < isN (I0 67) x6 (I0 67 1).toNat; (· exact q); (· rw [if_neg q] at c2; omega))), if_pos (by omega)] at ws
            have w9 := wd_st ws (4 - (x6 + 1).toNat)
            have e7 : (x6 + 1).toNat + (4 - (x6 + 1).toNat) = 4 := by omega
            rw [e7] at w9
            exact w9
          have k9 := H I hf
          rw [e8] at k9
          exact k9
theorem lp_Libs_widthOf {ro : Nat → Int × (Int → Int)} {d : Nat} {b : Bool} {L : Nat → Int → Int} {Q : Option am_V → am_H → Prop} {bc bs : Nat} {x1 x3 : Int} {I0 : Nat → Int → Int} (hC : Cor I0 L) (hx : 0 ≤ x3 ∧ x3 ≤ 39) (H : ∀ I : Nat → Int → Int, (∀ k, k ≠ 5 → I k = I0 k) → Q (some (am_I (wd (I0 67) x1 x3))) (sh b, I, L)) : ∀ (n : Nat) (I : Nat → Int → Int) (x4 x5 : Int), (0 ≤ x5) → (x5 ≤ I0 67 1) → (∀ k, k ≠ 5 → I k = I0 k) → (∀ g, 0 ≤ g → g < 4 → (am_and (am_shr x4 g) 1 = if 0 < isN (I0 67) g x5.toNat then 1 else 0) ∧ I 5 g = szN (I0 67) x1 g x5.toNat) → (0 ≤ x4 ∧ x4 < 16) → I0 67 1 - x5 < (n : Int) → am_ex (am_m ro (d + 0)) ro am_M71 Q (14, [some (am_R 2), some (am_I x1), some (am_R 36), some (am_I x3), some (am_I x4), some (am_I x5), none], [], (sh b, I, L), bc, bs) := by
  intro n
  induction n with
  | zero =>
    intro I x4 x5 i0 i1 i2 i3 i4 im
    exact absurd im (by omega)
  | succ n ih =>
    intro I x4 x5 i0 i1 i2 i3 i4 im
    have ct := Cor_ct hC
    have e2 : I 2 0 = I0 67 1 := by rw [i2 2 (by omega)]; exact ct.2.1.1
    refine b_Libs_widthOf_14  (fun c1 => ?_) (fun c1 => ?_)
    · refine b_Libs_widthOf_75  ?_
      have e9 : x5 = I0 67 1 := by omega
      rw [e9] at i3
      exact lq_Libs_widthOf (d := d) (s9 := x1) hC hx i2 i3 H 5 0 0 (by omega) (by omega) rfl (by omega) (by omega)
    · have w4 := hC.1.2.1.2.2.2.1 x5 (by omega) (by omega)
      have w5 := hC.1.2.1.2.2.2.2 x5 (by omega) (by omega)
      have e3 : I 3 x5 = I0 67 (10 + x5) := by rw [i2 3 (by omega)]; exact w4.1
      have e4 : I 4 x5 = I0 67 (22 + x5) := by rw [i2 4 (by omega)]; exact w4.2
      have pq := pp (a := x4) (r := I 3 x5) i4 (by omega)
      have i5 := i3 (I 3 x5) (by omega) (by omega)
      have sz := szN_bd (p := I0 67) (s := x1) (g := I 3 x5) x5.toNat (fun l a1 a2 => by have w := hC.1.2.1.2.2.2.2 l a1 (by omega); omega)
      refine b_Libs_widthOf_23 (by omega) (fun c2 => ?_) (fun c2 => ?_)
      · refine b_Libs_widthOf_69 (by omega) ?_
        refine ih I ((am_or x4 (am_shl 1 (I 3 x5)))) (x5 + 1) (by omega) (by omega) ?_ (fun g g1 g2 => ⟨?_, ?_⟩) pq.1 (by omega)
        · intro k hk
          exact i2 k hk
        · rw [pq.2 g g1 g2]
          have e9 : isN (I0 67) g (x5 + 1).toNat = isN (I0 67) g x5.toNat + if I0 67 (10 + x5) = g then 1 else 0 := sm_step (by omega)
          have b9 := isN_nn (p := I0 67) (g := g) x5.toNat
          rw [e9]
          by_cases q : g = I 3 x5
          · rw [if_pos q, if_pos (show I0 67 (10 + x5) = g by omega), if_pos (by omega)]
          · rw [if_neg q, (i3 g g1 g2).1, if_neg (show ¬ I0 67 (10 + x5) = g by omega), Int.add_zero]
        · have e9 : szN (I0 67) x1 g (x5 + 1).toNat = szN (I0 67) x1 g x5.toNat + if I0 67 (10 + x5) = g ∧ am_and (am_shr x1 x5) 1 = 1 then I0 67 (22 + x5) else 0 := sm_step (by omega)
          rw [e9]
          rw [if_neg (by omega), (i3 g g1 g2).2]
          omega
      · refine b_Libs_widthOf_47 (by omega) (by omega) (by omega) (by omega) (by omega) ?_
        refine b_Libs_widthOf_69 (by omega) ?_
        refine ih ((am_up I 5 (I 3 x5) ((I 5 (I 3 x5)) + (I 4 x5)))) (((am_or x4 (am_shl 1 (I 3 x5))))) (x5 + 1) (by omega) (by omega) ?_ (fun g g1 g2 => ⟨?_, ?_⟩) pq.1 (by omega)
        · intro k hk
          rw [upn hk]
          exact i2 k hk
        · rw [pq.2 g g1 g2]
          have e9 : isN (I0 67) g (x5 + 1).toNat = isN (I0 67) g x5.toNat + if I0 67 (10 + x5) = g then 1 else 0 := sm_step (by omega)
          have b9 := isN_nn (p := I0 67) (g := g) x5.toNat
          rw [e9]
          by_cases q : g = I 3 x5
          · rw [if_pos q, if_pos (show I0 67 (10 + x5) = g by omega), if_pos (by omega)]
          · rw [if_neg q, (i3 g g1 g2).1, if_neg (show ¬ I0 67 (10 + x5) = g by omega), Int.add_zero]
        · have e9 : szN (I0 67) x1 g (x5 + 1).toNat = szN (I0 67) x1 g x5.toNat + if I0 67 (10 + x5) = g ∧ am_and (am_shr x1 x5) 1 = 1 then I0 67 (22 + x5) else 0 := sm_step (by omega)
          rw [e9]
          by_cases q : g = I 3 x5
          · rw [q, ups, if_pos (by omega), i5.2, e4]
          · rw [upo q, if_neg (by omega), (i3 g g1 g2).2]
            omega
theorem s_Libs_widthOf {ro : Nat → Int × (Int → Int)} {d : Nat} {b : Bool} {I L : Nat → Int → Int} {Q : Option am_V → am_H → Prop} {x1 x3 : Int} (hC : Cor I L) (hx : 0 ≤ x3 ∧ x3 ≤ 39) (H : ∀ I' : Nat → Int → Int, (∀ k, k ≠ 5 → I' k = I k) → Q (some (am_I (wd (I 67) x1 x3))) (sh b, I', L)) : am_m ro (d + 2) 71 [am_R 2, am_I x1, am_R 36, am_I x3] (sh b, I, L) Q := by
  have ct := Cor_ct hC
  have shr0 : ∀ g : Int, 0 ≤ g → g < 4 → am_and (am_shr 0 g) 1 = if 0 < isN (I 67) g (0 : Int).toNat then 1 else 0 := fun g g1 g2 => by
    have w : ∀ q : Fin 4, am_and (am_shr 0 (q.val : Int)) 1 = 0 := by decide +kernel
    have w2 := w ⟨g.toNat, by omega⟩
    have e3 : ((g.toNat : Nat) : Int) = g := Int.toNat_of_nonneg g1
    simp only [e3] at w2
    rw [w2]
    rfl
  refine am_in rfl rfl rfl rfl ?_
  refine b_Libs_widthOf_0  (s_jfilli_5 ?_)
  refine b_Libs_widthOf_8  ?_
  exact lp_Libs_widthOf (d := d + 1) (I0 := I) hC hx H 13 _ 0 0 (by omega) (by omega) (fun k hk => fl_n hk) (fun g g1 g2 => ⟨shr0 g g1 g2, fl_i (by omega)⟩) (by omega) (by omega)
set_option maxHeartbeats 1000000 in
theorem lq_M_width {ro : Nat → Int × (Int → Int)} {d : Nat} {b : Bool} {I L : Nat → Int → Int} {Q : Option am_V → am_H → Prop} {bc bs : Nat} {x1 x2 x4 : Int} (hM : Mo I L) (hx : 1 ≤ I 67 0) (hy : 0 ≤ x4 ∧ x4 < 4) (h2 : x2 = wdN (I 67) x1 (I 67 0 - 1) x4.toNat) (h3 : 0 ≤ x2 ∧ x2 ≤ 9999999) (H : Q (some (am_L (wd (I 67) x1 (I 67 0 - 1)))) (sh b, I, L)) (HX : ∀ z2 : Int, z2 = wdN (I 67) x1 (I 67 0 - 1) (x4 + 1).toNat → 0 ≤ z2 ∧ z2 ≤ 9999999 → am_ex (am_m ro (d + 0)) ro am_M235 Q (5, [some (am_R 66), some (am_I x1), some (am_L z2), none, some (am_I ((x4 + 1))), none, none, none, none, none], [], (sh b, I, L), bc, bs)) : ∀ (n : Nat) (x5 x6 x8 : Int), (0 ≤ x8) → (x8 ≤ I 67 1) → ((x5 = if 0 < isN (I 67) x4 x8.toNat then 1 else 0) ∧ x6 = szN (I 67) x1 x4 x8.toNat) → (0 ≤ x6 ∧ x6 ≤ 99999 * x8) → I 67 1 - x8 < (n : Int) → am_ex (am_m ro (d + 0)) ro am_M235 Q (20, [some (am_R 66), some (am_I x1), some (am_L x2), none, some (am_I x4), some (am_I x5), some (am_L x6), none, some (am_I x8), none], [], (sh b, I, L), bc, bs) := by
  intro n
  induction n with
  | zero =>
    intro x5 x6 x8 i0 i1 i2 i3 im
    exact absurd im (by omega)
  | succ n ih =>
    intro x5 x6 x8 i0 i1 i2 i3 im
    have ct := Mo_ct hM
    obtain ⟨C, CL, hM0⟩ := id hM
    have w5 := hM0.1.2.1.2.2.2.2
    refine b_M_width_20  (fun c1 => ?_) (fun c1 => ?_)
    · have e9 : x8 = I 67 1 := by omega
      rw [e9] at i2
      have al := Mo_al (k := 4 * (I 67 0 - 1) + x4) hM (by omega)
      have e75 : 75 + (4 * (I 67 0 - 1) + x4) = 75 + 4 * (I 67 0 - 1) + x4 := by omega
      rw [e75] at al
      have sz := szN_bd (p := I 67) (s := x1) (g := x4) (I 67 1).toNat (fun l a1 a2 => by have w := w5 l a1 (by omega); omega)
      have ws := wdN_s (p := I 67) (s := x1) (c := I 67 0 - 1) (g := x4) (by omega)
      rw [← h2] at ws
      have isb : x5 = 0 ∨ x5 = 1 := by rw [i2.1]; split <;> omega
      refine b_M_width_109  (fun c2 => ?_) (fun c2 => ?_)
      · refine b_M_width_125  (fun c3 => ?_) (fun c3 => ?_)
        · refine b_M_width_158  ?_
          refine b_M_width_159  (fun c4 => ?_) (fun c4 => ?_)
          · refine b_M_width_173  ?_
            refine b_M_width_174 (by omega) ?_
            refine HX x2 ?_ ?_
            · rw [ws, if_neg (by omega)]
              by_cases q : 0 < isN (I 67) x4 (I 67 1).toNat
              · rw [if_pos q]
                have q2 := i2.1
                rw [if_pos q] at q2
                first
                  | (exfalso; omega)
                  | (rw [if_neg (by omega), ← i2.2]; omega)
              · have q2 := i2.1
                rw [if_neg q] at q2
                rw [if_neg q] <;> first | (exfalso; omega) | omega
            · omega
          · refine b_M_width_168  ?_
            refine b_M_width_174 (by omega) ?_
            refine HX 0 ?_ ?_
            · rw [ws, if_neg (by omega)]
              by_cases q : 0 < isN (I 67) x4 (I 67 1).toNat
              · rw [if_pos q]
                have q2 := i2.1
                rw [if_pos q] at q2
                first
                  | (exfalso; omega)
                  | (rw [if_neg (by omega), ← i2.2]; omega)
              · have q2 := i2.1
                rw [if_neg q] at q2
                rw [if_neg q] <;> first | (exfalso; omega) | omega
            · omega
        · have sp : 0 < x6 := by omega
          have qv := Int.ediv_nonneg al.1 (show 0 ≤ x6 by omega)
          have qw := Int.ediv_le_self x6 al.1
          refine b_M_width_130 (by omega) (by omega) (by omega) (by omega) (by omega) (by omega) ?_
          refine b_M_width_159  (fun c5 => ?_) (fun c5 => ?_)
          · refine b_M_width_173  ?_
            refine b_M_width_174 (by omega) ?_
            refine HX x2 ?_ ?_
            · rw [ws, if_neg (by omega)]
              by_cases q : 0 < isN (I 67) x4 (I 67 1).toNat
              · rw [if_pos q]
                have q2 := i2.1
                rw [if_pos q] at q2
                first
                  | (exfalso; omega)
                  | (rw [if_neg (by omega), ← i2.2]; omega)
              · have q2 := i2.1
                rw [if_neg q] at q2
                rw [if_neg q] <;> first | (exfalso; omega) | omega
            · omega
          · refine b_M_width_168  ?_
            refine b_M_width_174 (by omega) ?_
            refine HX (((((I 67 ((75 + (4 * ((I 67 0) - 1))) + x4)) / x6)))) ?_ ?_
            · rw [ws, if_neg (by omega)]
              by_cases q : 0 < isN (I 67) x4 (I 67 1).toNat
              · rw [if_pos q]
                have q2 := i2.1
                rw [if_pos q] at q2
                first
                  | (exfalso; omega)
                  | (rw [if_neg (by omega), ← i2.2]; omega)
              · have q2 := i2.1
                rw [if_neg q] at q2
                rw [if_neg q] <;> first | (exfalso; omega) | omega
            · omega
      · refine b_M_width_114  (fun c6 => ?_) (fun c6 => ?_)
        · refine b_M_width_125  (fun c7 => ?_) (fun c7 => ?_)
          · refine b_M_width_158  ?_
            refine b_M_width_159  (fun c8 => ?_) (fun c8 => ?_)
            · refine b_M_width_173  ?_
              refine b_M_width_174 (by omega) ?_
              refine HX x2 ?_ ?_
              · rw [ws, if_neg (by omega)]
                by_cases q : 0 < isN (I 67) x4 (I 67 1).toNat
                · rw [if_pos q]
                  have q2 := i2.1
                  rw [if_pos q] at q2
                  first
                    | (exfalso; omega)
                    | (rw [if_neg (by omega), ← i2.2]; omega)
                · have q2 := i2.1
                  rw [if_neg q] at q2
                  rw [if_neg q] <;> first | (exfalso; omega) | omega
              · omega
            · refine b_M_width_168  ?_
              refine b_M_width_174 (by omega) ?_
              refine HX 0 ?_ ?_
              · rw [ws, if_neg (by omega)]
                by_cases q : 0 < isN (I 67) x4 (I 67 1).toNat
                · rw [if_pos q]
                  have q2 := i2.1
                  rw [if_pos q] at q2
                  first
                    | (exfalso; omega)
                    | (rw [if_neg (by omega), ← i2.2]; omega)
                · have q2 := i2.1
                  rw [if_neg q] at q2
                  rw [if_neg q] <;> first | (exfalso; omega) | omega
              · omega
          · have sp : 0 < x6 := by omega
            have qv := Int.ediv_nonneg al.1 (show 0 ≤ x6 by omega)
            have qw := Int.ediv_le_self x6 al.1
            refine b_M_width_130 (by omega) (by omega) (by omega) (by omega) (by omega) (by omega) ?_
            refine b_M_width_159  (fun c9 => ?_) (fun c9 => ?_)
            · refine b_M_width_173  ?_
              refine b_M_width_174 (by omega) ?_
              refine HX x2 ?_ ?_
              · rw [ws, if_neg (by omega)]
                by_cases q : 0 < isN (I 67) x4 (I 67 1).toNat
                · rw [if_pos q]
                  have q2 := i2.1
                  rw [if_pos q] at q2
                  first
                    | (exfalso; omega)
                    | (rw [if_neg (by omega), ← i2.2]; omega)
                · have q2 := i2.1
                  rw [if_neg q] at q2
                  rw [if_neg q] <;> first | (exfalso; omega) | omega
              · omega
            · refine b_M_width_168  ?_
              refine b_M_width_174 (by omega) ?_
              refine HX (((((I 67 ((75 + (4 * ((I 67 0) - 1))) + x4)) / x6)))) ?_ ?_
              · rw [ws, if_neg (by omega)]
                by_cases q : 0 < isN (I 67) x4 (I 67 1).toNat
                · rw [if_pos q]
                  have q2 := i2.1
                  rw [if_pos q] at q2
                  first
                    | (exfalso; omega)
                    | (rw [if_neg (by omega), ← i2.2]; omega)
                · have q2 := i2.1
                  rw [if_neg q] at q2
                  rw [if_neg q] <;> first | (exfalso; omega) | omega
              · omega
        · refine b_M_width_121  ?_
          have e8 : wd (I 67) x1 (I 67 0 - 1) = -1 := by
            rw [if_neg (by omega), if_pos (by by_cases q : 0 < isN (I 67) x4 (I 67 1).toNat; (· exact q); (· have q2 := i2.1; rw [if_neg q] at q2; omega)), if_pos (by omega)] at ws
            have w9 := wd_st ws (4 - (x4 + 1).toNat)
            have e7 : (x4 + 1).toNat + (4 - (x4 + 1).toNat) = 4 := by omega
            rw [e7] at w9
            exact w9
          rw [e8] at H
          exact H
    · have w9 := w5 x8 (by omega) (by omega)
      have b9 := isN_nn (p := I 67) (g := x4) x8.toNat
      have i29 := i2.1
      refine b_M_width_31  (fun c10 => ?_) (fun c10 => ?_)
      · refine b_M_width_51  ?_
        refine b_M_width_56 (by omega) (by omega) (fun c11 => ?_) (fun c11 => ?_)
        · refine b_M_width_99  ?_
          refine b_M_width_100 (by omega) (by omega) ?_
          refine ih 1 (x6 + 0) (x8 + 1) (by omega) (by omega) ⟨?_, ?_⟩ (by omega) (by omega)
          · have e9 : isN (I 67) x4 (x8 + 1).toNat = isN (I 67) x4 x8.toNat + if I 67 (10 + x8) = x4 then 1 else 0 := sm_step (by omega)
            rw [e9]
            have q2 := i2.1
            by_cases q : I 67 (10 + x8) = x4
            · rw [if_pos q]
              first
                | (exfalso; omega)
                | (rw [if_pos (by omega)])
            · rw [if_neg q, Int.add_zero]
              by_cases q3 : 0 < isN (I 67) x4 x8.toNat
              · rw [if_pos q3] at q2
                rw [if_pos q3] <;> first | (exfalso; omega) | rfl
              · rw [if_neg q3] at q2
                rw [if_neg q3] <;> first | (exfalso; omega) | rfl
          · have e9 : szN (I 67) x1 x4 (x8 + 1).toNat = szN (I 67) x1 x4 x8.toNat + if I 67 (10 + x8) = x4 ∧ am_and (am_shr x1 x8) 1 = 1 then I 67 (22 + x8) else 0 := sm_step (by omega)
            rw [e9, ← i2.2]
            first
              | (exfalso; omega)
              | (rw [if_pos (by omega)])
              | (rw [if_neg (by omega)])
        · refine b_M_width_75  (fun c12 => ?_) (fun c12 => ?_)
          · refine b_M_width_99  ?_
            refine b_M_width_100 (by omega) (by omega) ?_
            refine ih 1 (x6 + 0) (x8 + 1) (by omega) (by omega) ⟨?_, ?_⟩ (by omega) (by omega)
            · have e9 : isN (I 67) x4 (x8 + 1).toNat = isN (I 67) x4 x8.toNat + if I 67 (10 + x8) = x4 then 1 else 0 := sm_step (by omega)
              rw [e9]
              have q2 := i2.1
              by_cases q : I 67 (10 + x8) = x4
              · rw [if_pos q]
                first
                  | (exfalso; omega)
                  | (rw [if_pos (by omega)])
              · rw [if_neg q, Int.add_zero]
                by_cases q3 : 0 < isN (I 67) x4 x8.toNat
                · rw [if_pos q3] at q2
                  rw [if_pos q3] <;> first | (exfalso; omega) | rfl
                · rw [if_neg q3] at q2
                  rw [if_neg q3] <;> first | (exfalso; omega) | rfl
            · have e9 : szN (I 67) x1 x4 (x8 + 1).toNat = szN (I 67) x1 x4 x8.toNat + if I 67 (10 + x8) = x4 ∧ am_and (am_shr x1 x8) 1 = 1 then I 67 (22 + x8) else 0 := sm_step (by omega)
              rw [e9, ← i2.2]
              first
                | (exfalso; omega)
                | (rw [if_pos (by omega)])
                | (rw [if_neg (by omega)])
          · refine b_M_width_85 (by omega) (by omega) ?_
            refine b_M_width_100 (by omega) (by omega) ?_
            refine ih 1 (x6 + (I 67 (22 + x8))) (x8 + 1) (by omega) (by omega) ⟨?_, ?_⟩ (by omega) (by omega)
            · have e9 : isN (I 67) x4 (x8 + 1).toNat = isN (I 67) x4 x8.toNat + if I 67 (10 + x8) = x4 then 1 else 0 := sm_step (by omega)
              rw [e9]
              have q2 := i2.1
              by_cases q : I 67 (10 + x8) = x4
              · rw [if_pos q]
                first
                  | (exfalso; omega)
                  | (rw [if_pos (by omega)])
              · rw [if_neg q, Int.add_zero]
                by_cases q3 : 0 < isN (I 67) x4 x8.toNat
                · rw [if_pos q3] at q2
                  rw [if_pos q3] <;> first | (exfalso; omega) | rfl
                · rw [if_neg q3] at q2
                  rw [if_neg q3] <;> first | (exfalso; omega) | rfl
            · have e9 : szN (I 67) x1 x4 (x8 + 1).toNat = szN (I 67) x1 x4 x8.toNat + if I 67 (10 + x8) = x4 ∧ am_and (am_shr x1 x8) 1 = 1 then I 67 (22 + x8) else 0 := sm_step (by omega)
              rw [e9, ← i2.2]
              first
                | (exfalso; omega)
                | (rw [if_pos (by omega)])
                | (rw [if_neg (by omega)])
      · refine b_M_width_36 (by omega) (by omega) (fun c13 => ?_) (fun c13 => ?_)
        · refine b_M_width_55  ?_
          refine b_M_width_56 (by omega) (by omega) (fun c14 => ?_) (fun c14 => ?_)
          · refine b_M_width_99  ?_
            refine b_M_width_100 (by omega) (by omega) ?_
            refine ih 0 (x6 + 0) (x8 + 1) (by omega) (by omega) ⟨?_, ?_⟩ (by omega) (by omega)
            · have e9 : isN (I 67) x4 (x8 + 1).toNat = isN (I 67) x4 x8.toNat + if I 67 (10 + x8) = x4 then 1 else 0 := sm_step (by omega)
              rw [e9]
              have q2 := i2.1
              by_cases q : I 67 (10 + x8) = x4
              · rw [if_pos q]
                first
                  | (exfalso; omega)
                  | (rw [if_pos (by omega)])
              · rw [if_neg q, Int.add_zero]
                by_cases q3 : 0 < isN (I 67) x4 x8.toNat
                · rw [if_pos q3] at q2
                  rw [if_pos q3] <;> first | (exfalso; omega) | rfl
                · rw [if_neg q3] at q2
                  rw [if_neg q3] <;> first | (exfalso; omega) | rfl
            · have e9 : szN (I 67) x1 x4 (x8 + 1).toNat = szN (I 67) x1 x4 x8.toNat + if I 67 (10 + x8) = x4 ∧ am_and (am_shr x1 x8) 1 = 1 then I 67 (22 + x8) else 0 := sm_step (by omega)
              rw [e9, ← i2.2]
              first
                | (exfalso; omega)
                | (rw [if_pos (by omega)])
                | (rw [if_neg (by omega)])
          · refine b_M_width_75  (fun c15 => ?_) (fun c15 => ?_)
            · refine b_M_width_99  ?_
              refine b_M_width_100 (by omega) (by omega) ?_
              refine ih 0 (x6 + 0) (x8 + 1) (by omega) (by omega) ⟨?_, ?_⟩ (by omega) (by omega)
              · have e9 : isN (I 67) x4 (x8 + 1).toNat = isN (I 67) x4 x8.toNat + if I 67 (10 + x8) = x4 then 1 else 0 := sm_step (by omega)
                rw [e9]
                have q2 := i2.1
                by_cases q : I 67 (10 + x8) = x4
                · rw [if_pos q]
                  first
                    | (exfalso; omega)
                    | (rw [if_pos (by omega)])
                · rw [if_neg q, Int.add_zero]
                  by_cases q3 : 0 < isN (I 67) x4 x8.toNat
                  · rw [if_pos q3] at q2
                    rw [if_pos q3] <;> first | (exfalso; omega) | rfl
                  · rw [if_neg q3] at q2
                    rw [if_neg q3] <;> first | (exfalso; omega) | rfl
              · have e9 : szN (I 67) x1 x4 (x8 + 1).toNat = szN (I 67) x1 x4 x8.toNat + if I 67 (10 + x8) = x4 ∧ am_and (am_shr x1 x8) 1 = 1 then I 67 (22 + x8) else 0 := sm_step (by omega)
                rw [e9, ← i2.2]
                first
                  | (exfalso; omega)
                  | (rw [if_pos (by omega)])
                  | (rw [if_neg (by omega)])
            · refine b_M_width_85 (by omega) (by omega) ?_
              refine b_M_width_100 (by omega) (by omega) ?_
              refine ih 0 (x6 + (I 67 (22 + x8))) (x8 + 1) (by omega) (by omega) ⟨?_, ?_⟩ (by omega) (by omega)
              · have e9 : isN (I 67) x4 (x8 + 1).toNat = isN (I 67) x4 x8.toNat + if I 67 (10 + x8) = x4 then 1 else 0 := sm_step (by omega)
                rw [e9]
                have q2 := i2.1
                by_cases q : I 67 (10 + x8) = x4
                · rw [if_pos q]
                  first
                    | (exfalso; omega)
                    | (rw [if_pos (by omega)])
                · rw [if_neg q, Int.add_zero]
                  by_cases q3 : 0 < isN (I 67) x4 x8.toNat
                  · rw [if_pos q3] at q2
                    rw [if_pos q3] <;> first | (exfalso; omega) | rfl
                  · rw [if_neg q3] at q2
                    rw [if_neg q3] <;> first | (exfalso; omega) | rfl
              · have e9 : szN (I 67) x1 x4 (x8 + 1).toNat = szN (I 67) x1 x4 x8.toNat + if I 67 (10 + x8) = x4 ∧ am_and (am_shr x1 x8) 1 = 1 then I 67 (22 + x8) else 0 := sm_step (by omega)
                rw [e9, ← i2.2]
                first
                  | (exfalso; omega)
                  | (rw [if_pos (by omega)])
                  | (rw [if_neg (by omega)])
        · refine b_M_width_51  ?_
          refine b_M_width_56 (by omega) (by omega) (fun c16 => ?_) (fun c16 => ?_)
          · refine b_M_width_99  ?_
            refine b_M_width_100 (by omega) (by omega) ?_
            refine ih 1 (x6 + 0) (x8 + 1) (by omega) (by omega) ⟨?_, ?_⟩ (by omega) (by omega)
            · have e9 : isN (I 67) x4 (x8 + 1).toNat = isN (I 67) x4 x8.toNat + if I 67 (10 + x8) = x4 then 1 else 0 := sm_step (by omega)
              rw [e9]
              have q2 := i2.1
              by_cases q : I 67 (10 + x8) = x4
              · rw [if_pos q]
                first
                  | (exfalso; omega)
                  | (rw [if_pos (by omega)])
              · rw [if_neg q, Int.add_zero]
                by_cases q3 : 0 < isN (I 67) x4 x8.toNat
                · rw [if_pos q3] at q2
                  rw [if_pos q3] <;> first | (exfalso; omega) | rfl
                · rw [if_neg q3] at q2
                  rw [if_neg q3] <;> first | (exfalso; omega) | rfl
            · have e9 : szN (I 67) x1 x4 (x8 + 1).toNat = szN (I 67) x1 x4 x8.toNat + if I 67 (10 + x8) = x4 ∧ am_and (am_shr x1 x8) 1 = 1 then I 67 (22 + x8) else 0 := sm_step (by omega)
              rw [e9, ← i2.2]
              first
                | (exfalso; omega)
                | (rw [if_pos (by omega)])
                | (rw [if_neg (by omega)])
          · refine b_M_width_75  (fun c17 => ?_) (fun c17 => ?_)
            · refine b_M_width_99  ?_
              refine b_M_width_100 (by omega) (by omega) ?_
              refine ih 1 (x6 + 0) (x8 + 1) (by omega) (by omega) ⟨?_, ?_⟩ (by omega) (by omega)
              · have e9 : isN (I 67) x4 (x8 + 1).toNat = isN (I 67) x4 x8.toNat + if I 67 (10 + x8) = x4 then 1 else 0 := sm_step (by omega)
                rw [e9]
                have q2 := i2.1
                by_cases q : I 67 (10 + x8) = x4
                · rw [if_pos q]
                  first
                    | (exfalso; omega)
                    | (rw [if_pos (by omega)])
                · rw [if_neg q, Int.add_zero]
                  by_cases q3 : 0 < isN (I 67) x4 x8.toNat
                  · rw [if_pos q3] at q2
                    rw [if_pos q3] <;> first | (exfalso; omega) | rfl
                  · rw [if_neg q3] at q2
                    rw [if_neg q3] <;> first | (exfalso; omega) | rfl
              · have e9 : szN (I 67) x1 x4 (x8 + 1).toNat = szN (I 67) x1 x4 x8.toNat + if I 67 (10 + x8) = x4 ∧ am_and (am_shr x1 x8) 1 = 1 then I 67 (22 + x8) else 0 := sm_step (by omega)
                rw [e9, ← i2.2]
                first
                  | (exfalso; omega)
                  | (rw [if_pos (by omega)])
                  | (rw [if_neg (by omega)])
            · refine b_M_width_85 (by omega) (by omega) ?_
              refine b_M_width_100 (by omega) (by omega) ?_
              refine ih 1 (x6 + (I 67 (22 + x8))) (x8 + 1) (by omega) (by omega) ⟨?_, ?_⟩ (by omega) (by omega)
              · have e9 : isN (I 67) x4 (x8 + 1).toNat = isN (I 67) x4 x8.toNat + if I 67 (10 + x8) = x4 then 1 else 0 := sm_step (by omega)
                rw [e9]
                have q2 := i2.1
                by_cases q : I 67 (10 + x8) = x4
                · rw [if_pos q]
                  first
                    | (exfalso; omega)
                    | (rw [if_pos (by omega)])
                · rw [if_neg q, Int.add_zero]
                  by_cases q3 : 0 < isN (I 67) x4 x8.toNat
                  · rw [if_pos q3] at q2
                    rw [if_pos q3] <;> first | (exfalso; omega) | rfl
                  · rw [if_neg q3] at q2
                    rw [if_neg q3] <;> first | (exfalso; omega) | rfl
              · have e9 : szN (I 67) x1 x4 (x8 + 1).toNat = szN (I 67) x1 x4 x8.toNat + if I 67 (10 + x8) = x4 ∧ am_and (am_shr x1 x8) 1 = 1 then I 67 (22 + x8) else 0 := sm_step (by omega)
                rw [e9, ← i2.2]
                first
                  | (exfalso; omega)
                  | (rw [if_pos (by omega)])
                  | (rw [if_neg (by omega)])
theorem lp_M_width {ro : Nat → Int × (Int → Int)} {d : Nat} {b : Bool} {I L : Nat → Int → Int} {Q : Option am_V → am_H → Prop} {bc bs : Nat} {x1 : Int} (hM : Mo I L) (hx : 1 ≤ I 67 0) (H : Q (some (am_L (wd (I 67) x1 (I 67 0 - 1)))) (sh b, I, L)) : ∀ (n : Nat) (x2 x4 : Int), (0 ≤ x4) → (x4 ≤ 4) → (x2 = wdN (I 67) x1 (I 67 0 - 1) x4.toNat) → (0 ≤ x2 ∧ x2 ≤ 9999999) → 4 - x4 < (n : Int) → am_ex (am_m ro (d + 0)) ro am_M235 Q (5, [some (am_R 66), some (am_I x1), some (am_L x2), none, some (am_I x4), none, none, none, none, none], [], (sh b, I, L), bc, bs) := by
  intro n
  induction n with
  | zero =>
    intro x2 x4 i0 i1 i2 i3 im
    exact absurd im (by omega)
  | succ n ih =>
    intro x2 x4 i0 i1 i2 i3 im
    have ct := Mo_ct hM
    refine b_M_width_5  (fun c1 => ?_) (fun c1 => ?_)
    · refine b_M_width_181  ?_
      have e9 : x4 = 4 := by omega
      rw [e9] at i2
      rw [i2]
      exact H
    · refine b_M_width_11  ?_
      exact lq_M_width (d := d) hM hx (by omega) i2 i3 H (fun z2 hz hb => ih z2 (x4 + 1) (by omega) (by omega) hz hb (by omega)) 13 0 0 0 (by omega) (by omega) ⟨rfl, rfl⟩ (by omega) (by omega)
theorem s_M_width {ro : Nat → Int × (Int → Int)} {d : Nat} {b : Bool} {I L : Nat → Int → Int} {Q : Option am_V → am_H → Prop} {x1 : Int} (hM : Mo I L) (hx : 1 ≤ I 67 0) (H : Q (some (am_L (wd (I 67) x1 (I 67 0 - 1)))) (sh b, I, L)) : am_m ro (d + 1) 235 [am_R 66, am_I x1] (sh b, I, L) Q := by
  have ct := Mo_ct hM
  refine am_in rfl rfl rfl rfl ?_
  refine b_M_width_0  ?_
  exact lp_M_width (d := d) hM hx H 5 0 0 (by omega) (by omega) rfl (by omega) (by omega)
