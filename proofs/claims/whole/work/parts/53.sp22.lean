def rE (p : Int → Int) (y a r e : Int) : Int := sm (fun l => if p (10 + l) = r then nn p y a l e else 0) (p 1).toNat
def rA (p : Int → Int) (y a r : Int) : Int := sm (fun l => if p (10 + l) = r then oL p y a l else 0) (p 1).toNat
theorem sm_add {f g : Int → Int} : ∀ n : Nat, sm (fun k => f k + g k) n = sm f n + sm g n
  | 0 => rfl
  | n + 1 => by
    show sm (fun k => f k + g k) n + (f n + g n) = (sm f n + f n) + (sm g n + g n)
    rw [sm_add n]
    omega
theorem sm_swap {f : Int → Int → Int} (m : Nat) : ∀ n : Nat, sm (fun l => sm (fun e => f l e) m) n = sm (fun e => sm (fun l => f l e) n) m
  | 0 => (sm_zero m (fun _ _ _ => rfl)).symm
  | n + 1 => by
    show sm (fun l => sm (fun e => f l e) m) n + sm (fun e => f n e) m = _
    rw [sm_swap m n, ← sm_add]
    rfl
theorem rA_E {p : Int → Int} {y a r : Int} : sm (fun e => rE p y a r e) (p 2).toNat = rA p y a r := by
  unfold rE rA
  rw [← sm_swap]
  refine sm_congr _ (fun l _ _ => ?_)
  show sm (fun e => if p (10 + l) = r then nn p y a l e else 0) (p 2).toNat = if p (10 + l) = r then oL p y a l else 0
  by_cases h : p (10 + l) = r
  · rw [if_pos h]
    exact sm_congr _ (fun e _ _ => if_pos h)
  · rw [if_neg h]
    exact sm_zero _ (fun e _ _ => if_neg h)
theorem rE_bd {I L : Nat → Int → Int} {y a r e : Int} (h : Mo I L) : 0 ≤ rE (I 67) y a r e ∧ rE (I 67) y a r e ≤ 119999988 := by
  have ct := Mo_ct h
  have b := sm_bd (f := fun l => if I 67 (10 + l) = r then nn (I 67) y a l e else 0) (B := 9999999) (I 67 1).toNat (fun k _ _ => by
    have := nn_bd (y := y) (a := a) (l := k) (e := e) h
    show 0 ≤ (if I 67 (10 + k) = r then nn (I 67) y a k e else 0) ∧ (if I 67 (10 + k) = r then nn (I 67) y a k e else 0) ≤ 9999999
    split <;> omega)
  unfold rE
  omega
theorem rA_bd {I L : Nat → Int → Int} {y a r : Int} (h : Mo I L) : 0 ≤ rA (I 67) y a r ∧ rA (I 67) y a r ≤ 3599999640 := by
  have ct := Mo_ct h
  have b := sm_bd (f := fun l => if I 67 (10 + l) = r then oL (I 67) y a l else 0) (B := 299999970) (I 67 1).toNat (fun k _ _ => by
    have := oL_bd (y := y) (a := a) (l := k) h
    show 0 ≤ (if I 67 (10 + k) = r then oL (I 67) y a k else 0) ∧ (if I 67 (10 + k) = r then oL (I 67) y a k else 0) ≤ 299999970
    split <;> omega)
  unfold rA
  omega
theorem rE_le {I L : Nat → Int → Int} {y a r e : Int} (h : Mo I L) (he : 0 ≤ e ∧ e < I 67 2) : rE (I 67) y a r e ≤ rA (I 67) y a r := by
  rw [← rA_E]
  exact sm_one (f := fun e => rE (I 67) y a r e) _ (fun k _ _ => (rE_bd h).1) he.1 (by omega)
theorem nn_oL0 {I L : Nat → Int → Int} {y a l e : Int} (h : Mo I L) (hz : oL (I 67) y a l ≤ 0) (he : 0 ≤ e ∧ e < I 67 2) : nn (I 67) y a l e = 0 := by
  have w := sm_one (f := nn (I 67) y a l) (j := e) (I 67 2).toNat (fun k _ _ => (nn_bd h).1) he.1 (by omega)
  have w2 := nn_bd (y := y) (a := a) (l := l) (e := e) h
  unfold oL at hz
  omega
theorem lq_Cnt_sumUpRegion {ro : Nat → Int × (Int → Int)} {d : Nat} {b : Bool} {I : Nat → Int → Int} {Q : Option am_V → am_H → Prop} {bc bs : Nat} {x1 x2 x4 : Int} {y a : Int} {L0 : Nat → Int → Int} (hM : Mo I L0) (hr : Rd (I 67) y a I L0) (hq : I 2 0 = I 67 1 ∧ I 10 0 = I 67 2 ∧ ∀ l, 0 ≤ l → l < 12 → I 3 l = I 67 (10 + l)) (hx : 0 ≤ x4 ∧ x4 < I 67 1 ∧ I 67 (10 + x4) = x1) (HX : ∀ L : Nat → Int → Int, (∀ k, k ≠ 55 → L k = L0 k) → (∀ e, 0 ≤ e → e < I 67 2 → L 55 e = sm (fun l => if I 67 (10 + l) = x1 then nn (I 67) y a l e else 0) (x4 + 1).toNat) → am_ex (am_m ro (d + 0)) ro am_M133 Q (13, [some (am_R 51), some (am_I x1), some (am_L x2), none, some (am_I ((x4 + 1))), none], [], (sh b, I, L), bc, bs)) : ∀ (n : Nat) (L : Nat → Int → Int) (x5 : Int), (0 ≤ x5) → (x5 ≤ I 67 2) → (∀ k, k ≠ 55 → L k = L0 k) → (∀ e, 0 ≤ e → e < I 67 2 → L 55 e = sm (fun l => if I 67 (10 + l) = x1 then nn (I 67) y a l e else 0) x4.toNat + if e < x5 then nn (I 67) y a x4 e else 0) → I 67 2 - x5 < (n : Int) → am_ex (am_m ro (d + 0)) ro am_M133 Q (70, [some (am_R 51), some (am_I x1), some (am_L x2), none, some (am_I x4), some (am_I x5)], [], (sh b, I, L), bc, bs) := by
  intro n
  induction n with
  | zero =>
    intro L x5 i0 i1 i2 i3 im
    exact absurd im (by omega)
  | succ n ih =>
    intro L x5 i0 i1 i2 i3 im
    have ct := Mo_ct hM
    refine b_Cnt_sumUpRegion_70  (fun c1 => ?_) (fun c1 => ?_)
    · refine b_Cnt_sumUpRegion_115 (by omega) ?_
      refine HX L i2 (fun e a1 a2 => ?_)
      rw [i3 e a1 a2, if_pos (by omega), sm_step (by omega), if_pos hx.2.2]
    · have q1 := hr.1 x4 x5 (by omega) (by omega) (by omega) (by omega)
      have nb := nn_bd (y := y) (a := a) (l := x4) (e := x5) hM
      have q2 := i3 x5 (by omega) (by omega)
      rw [if_neg (by omega)] at q2
      have bE : 0 ≤ sm (fun l => if I 67 (10 + l) = x1 then nn (I 67) y a l x5 else 0) x4.toNat ∧ sm (fun l => if I 67 (10 + l) = x1 then nn (I 67) y a l x5 else 0) x4.toNat ≤ 9999999 * x4 := by
        have b9 := sm_bd (f := (fun l => if I 67 (10 + l) = x1 then nn (I 67) y a l x5 else 0)) (B := 9999999) x4.toNat (fun k _ _ => by
          have := nn_bd (y := y) (a := a) (l := k) (e := x5) hM
          show 0 ≤ (if I 67 (10 + k) = x1 then nn (I 67) y a k x5 else 0) ∧ (if I 67 (10 + k) = x1 then nn (I 67) y a k x5 else 0) ≤ 9999999
          split <;> omega)
        omega
      refine b_Cnt_sumUpRegion_85 (by omega) (by omega) (by omega) (by omega) (by omega) (by omega) (by omega) ?_
      exact ih (am_up L 55 x5 ((L 55 x5) + (I 52 ((x4 * 30) + x5)))) (x5 + 1) (by omega) (by omega) (by intro k hk; rw [upn hk]; exact i2 k hk) (by intro e a1 a2; by_cases ee : e = x5; (· subst ee; rw [ups, q2, if_pos (by omega), q1]; omega); (· rw [upo ee, i3 e a1 a2]; by_cases e3 : e < x5; (· rw [if_pos e3, if_pos (by omega)]); (· rw [if_neg e3, if_neg (by omega)]))) (by omega)
theorem lp_Cnt_sumUpRegion {ro : Nat → Int × (Int → Int)} {d : Nat} {b : Bool} {I : Nat → Int → Int} {Q : Option am_V → am_H → Prop} {bc bs : Nat} {x1 : Int} {y a : Int} {L0 : Nat → Int → Int} (hM : Mo I L0) (hr : Rd (I 67) y a I L0) (hq : I 2 0 = I 67 1 ∧ I 10 0 = I 67 2 ∧ ∀ l, 0 ≤ l → l < 12 → I 3 l = I 67 (10 + l)) (H : ∀ L : Nat → Int → Int, (∀ k, k ≠ 55 → L k = L0 k) → (∀ e, 0 ≤ e → e < I 67 2 → L 55 e = rE (I 67) y a x1 e) → Q (some (am_L (rA (I 67) y a x1))) (sh b, I, L)) : ∀ (n : Nat) (L : Nat → Int → Int) (x2 x4 : Int), (0 ≤ x4) → (x4 ≤ I 67 1) → (x2 = sm (fun l => if I 67 (10 + l) = x1 then oL (I 67) y a l else 0) x4.toNat) → (∀ k, k ≠ 55 → L k = L0 k) → (∀ e, 0 ≤ e → e < I 67 2 → L 55 e = sm (fun l => if I 67 (10 + l) = x1 then nn (I 67) y a l e else 0) x4.toNat) → (0 ≤ x2 ∧ x2 ≤ 299999970 * x4) → I 67 1 - x4 < (n : Int) → am_ex (am_m ro (d + 0)) ro am_M133 Q (13, [some (am_R 51), some (am_I x1), some (am_L x2), none, some (am_I x4), none], [], (sh b, I, L), bc, bs) := by
  intro n
  induction n with
  | zero =>
    intro L x2 x4 i0 i1 i2 i3 i4 i5 im
    exact absurd im (by omega)
  | succ n ih =>
    intro L x2 x4 i0 i1 i2 i3 i4 i5 im
    have ct := Mo_ct hM
    refine b_Cnt_sumUpRegion_13  (fun c1 => ?_) (fun c1 => ?_)
    · refine b_Cnt_sumUpRegion_121  ?_
      have e9 : x4 = I 67 1 := by omega
      rw [e9] at i2 i4
      rw [i2]
      exact H L i3 i4
    · have q3 : L 53 x4 = oL (I 67) y a x4 := by rw [i3 53 (by omega)]; exact hr.2.1 x4 (by omega) (by omega)
      have ob9 := oL_bd (y := y) (a := a) (l := x4) hM
      have q4 := hq.2.2 x4 (by omega) (by omega)
      refine b_Cnt_sumUpRegion_28 (by omega) (fun c2 => ?_) (fun c2 => ?_)
      · refine b_Cnt_sumUpRegion_115 (by omega) ?_
        refine ih L x2 (x4 + 1) (by omega) (by omega) ?_ i3 (fun e a1 a2 => ?_) (by omega) (by omega)
        · rw [sm_step (by omega), ← i2, if_neg (by omega)]
          omega
        · rw [sm_step (by omega), i4 e a1 a2, if_neg (by omega)]
          omega
      · refine b_Cnt_sumUpRegion_45 (by omega) (fun c3 => ?_) (fun c3 => ?_)
        · refine b_Cnt_sumUpRegion_115 (by omega) ?_
          refine ih L x2 (x4 + 1) (by omega) (by omega) ?_ i3 (fun e a1 a2 => ?_) (by omega) (by omega)
          · rw [sm_step (by omega), ← i2]
            split <;> omega
          · rw [sm_step (by omega), i4 e a1 a2]
            have z := nn_oL0 (y := y) (a := a) (l := x4) (e := e) hM (by omega) (by omega)
            split <;> omega
        · refine b_Cnt_sumUpRegion_57 (by omega) (by omega) ?_
          refine lq_Cnt_sumUpRegion (d := d) hM hr hq (x4 := x4) (by omega) (fun L9 f1 f2 => ih L9 _ (x4 + 1) (by omega) (by omega) ?_ f1 f2 (by omega) (by omega)) 31 L 0 (by omega) (by omega) i3 (fun e a1 a2 => ?_) (by omega)
          · rw [sm_step (by omega), ← i2, if_pos (by omega), q3]
          · rw [i4 e a1 a2, if_neg (by omega)]
            omega
theorem s_Cnt_sumUpRegion {ro : Nat → Int × (Int → Int)} {d : Nat} {b : Bool} {I L : Nat → Int → Int} {Q : Option am_V → am_H → Prop} {x1 : Int} {y a : Int} (hM : Mo I L) (hr : Rd (I 67) y a I L) (hq : I 2 0 = I 67 1 ∧ I 10 0 = I 67 2 ∧ ∀ l, 0 ≤ l → l < 12 → I 3 l = I 67 (10 + l)) (H : ∀ L' : Nat → Int → Int, (∀ k, k ≠ 55 → L' k = L k) → (∀ e, 0 ≤ e → e < I 67 2 → L' 55 e = rE (I 67) y a x1 e) → Q (some (am_L (rA (I 67) y a x1))) (sh b, I, L')) : am_m ro (d + 2) 133 [am_R 51, am_I x1] (sh b, I, L) Q := by
  have ct := Mo_ct hM
  refine am_in rfl rfl rfl rfl ?_
  refine b_Cnt_sumUpRegion_0  (s_jfilll_55 ?_)
  refine b_Cnt_sumUpRegion_8  ?_
  exact lp_Cnt_sumUpRegion (d := d + 1) hM hr hq H 13 _ 0 0 (by omega) (by omega) rfl (fun k hk => fl_n hk) (fun e a1 a2 => fl_i (by omega)) (by omega) (by omega)
def spn (p : Int → Int) (y a e w r : Int) : Int := if 0 < rA p y a r then p (75 + 4 * y + r) * (if w = 1 then rE p y a r e + rt (rE p y a r e) + 1 else rE p y a r e - rt (rE p y a r e)) / rA p y a r else 0
theorem Rd_cg {p : Int → Int} {y a : Int} {I L I' L' : Nat → Int → Int} (h : Rd p y a I L) (h1 : I' 51 = I 51) (h2 : I' 52 = I 52) (h3 : L' 51 = L 51) (h4 : L' 53 = L 53) (h5 : L' 54 = L 54) : Rd p y a I' L' := by
  unfold Rd
  rw [h1, h2, h3, h4, h5]
  exact h
theorem spn_bd {p : Int → Int} {r e w c : Int} (h1 : 0 ≤ c ∧ c ≤ 9999999) (h2 : 0 ≤ e ∧ e ≤ 119999988) (h3 : 0 < r) : (0 ≤ rt e ∧ rt e ≤ e) ∧ (0 ≤ c * (e + rt e + 1) ∧ c * (e + rt e + 1) ≤ 2999999700000000 ∧ 0 ≤ c * (e + rt e + 1) / r ∧ c * (e + rt e + 1) / r ≤ 2999999700000000) ∧ (0 ≤ c * (e - rt e) ∧ c * (e - rt e) ≤ 2999999700000000 ∧ 0 ≤ c * (e - rt e) / r ∧ c * (e - rt e) / r ≤ 2999999700000000) := by
  have r1 := rt_ok h2.1
  have r2 := rt_le h2.1
  have m1 := mulb (a := c) (c := e + rt e + 1) (A := 9999999) (C := 300000000) h1 (by omega)
  have m2 := mulb (a := c) (c := e - rt e) (A := 9999999) (C := 300000000) h1 (by omega)
  have d1 := Int.ediv_nonneg m1.1 (show 0 ≤ r by omega)
  have d2 := Int.ediv_nonneg m2.1 (show 0 ≤ r by omega)
  have d3 := Int.ediv_le_self r m1.1
  have d4 := Int.ediv_le_self r m2.1
  omega
set_option maxHeartbeats 1000000 in
theorem lp_Cnt_boundOf {ro : Nat → Int × (Int → Int)} {d : Nat} {b : Bool} {I : Nat → Int → Int} {Q : Option am_V → am_H → Prop} {bc bs : Nat} {x1 x2 x3 : Int} {a : Int} {L0 : Nat → Int → Int} (hM : Mo I L0) (hr : Rd (I 67) x1 a I L0) (hq : I 2 0 = I 67 1 ∧ I 10 0 = I 67 2 ∧ ∀ l, 0 ≤ l → l < 12 → I 3 l = I 67 (10 + l)) (hx : (0 ≤ x1 ∧ x1 ≤ 40) ∧ (0 ≤ x2 ∧ x2 < I 67 2) ∧ (x3 = 0 ∨ x3 = 1)) (hl : ∀ k, 0 ≤ k → k < 164 → I 38 k = I 67 (75 + k) ∧ 0 ≤ I 67 (75 + k) ∧ I 67 (75 + k) ≤ 9999999) (H : ∀ L : Nat → Int → Int, (∀ k, k ≠ 55 → L k = L0 k) → Q (some (am_L (sm (fun r => spn (I 67) x1 a x2 x3 r) 4))) (sh b, I, L)) : ∀ (n : Nat) (L : Nat → Int → Int) (x4 x6 : Int), (0 ≤ x6) → (x6 ≤ 4) → (x4 = sm (fun r => spn (I 67) x1 a x2 x3 r) x6.toNat) → (0 ≤ x4 ∧ x4 ≤ 2999999700000000 * x6) → (∀ k, k ≠ 55 → L k = L0 k) → 4 - x6 < (n : Int) → am_ex (am_m ro (d + 2)) ro am_M137 Q (6, [some (am_R 51), some (am_I x1), some (am_I x2), some (am_I x3), some (am_L x4), none, some (am_I x6), none, none, none, none, none, none], [], (sh b, I, L), bc, bs) := by
  intro n
  induction n with
  | zero =>
    intro L x4 x6 i0 i1 i2 i3 i4 im
    exact absurd im (by omega)
  | succ n ih =>
    intro L x4 x6 i0 i1 i2 i3 i4 im
    have ct := Mo_ct hM
    refine b_Cnt_boundOf_6  (fun c1 => ?_) (fun c1 => ?_)
    · refine b_Cnt_boundOf_97  ?_
      have e9 : x6 = 4 := by omega
      rw [e9] at i2
      rw [i2]
      exact H L i4
    · refine b_Cnt_boundOf_12  (s_Cnt_sumUpRegion (y := x1) (a := a) (Mo_cg hM rfl (i4 69 (by omega)) rfl) (Rd_cg hr rfl rfl (i4 51 (by omega)) (i4 53 (by omega)) (i4 54 (by omega))) hq (fun L9 f1 f2 => ?_))
      have ra := rA_bd (y := x1) (a := a) (r := x6) hM
      have re := rE_bd (y := x1) (a := a) (r := x6) (e := x2) hM
      have ee := f2 x2 (by omega) (by omega)
      have al := hl (x1 * 4 + x6) (by omega) (by omega)
      have e75 : 75 + (x1 * 4 + x6) = 75 + 4 * x1 + x6 := by omega
      rw [e75] at al
      have e38 : I 38 (x1 * 4 + x6) = I 67 (75 + 4 * x1 + x6) := al.1
      refine b_Cnt_boundOf_18  (fun c2 => ?_) (fun c2 => ?_)
      · refine b_Cnt_boundOf_91 (by omega) ?_
        refine ih L9 x4 (x6 + 1) (by omega) (by omega) ?_ ?_ (fun k hk => (f1 k hk).trans (i4 k hk)) (by omega)
        · rw [sm_step (by omega), ← i2]
          show _ = _ + spn (I 67) x1 a x2 x3 x6
          unfold spn
          rw [if_neg (by omega)]
          omega
        · omega
      · refine b_Cnt_boundOf_27 (by omega) (fun c3 => ?_) (fun c3 => ?_)
        · have sb := spn_bd (p := I 67) (w := 0) (r := rA (I 67) x1 a x6) (e := rE (I 67) x1 a x6 x2) (c := I 67 (75 + 4 * x1 + x6)) al.2 re (by omega)
          have ert : rt (L9 55 x2) = rt (rE (I 67) x1 a x6 x2) := by rw [ee]
          have em1 : I 38 (x1 * 4 + x6) * (L9 55 x2 + rt (L9 55 x2) + 1) = I 67 (75 + 4 * x1 + x6) * (rE (I 67) x1 a x6 x2 + rt (rE (I 67) x1 a x6 x2) + 1) := by rw [e38, ee]
          have em2 : I 38 (x1 * 4 + x6) * (L9 55 x2 - rt (L9 55 x2)) = I 67 (75 + 4 * x1 + x6) * (rE (I 67) x1 a x6 x2 - rt (rE (I 67) x1 a x6 x2)) := by rw [e38, ee]
          have em3 : I 38 (x1 * 4 + x6) * (L9 55 x2 + rt (L9 55 x2) + 1) / rA (I 67) x1 a x6 = I 67 (75 + 4 * x1 + x6) * (rE (I 67) x1 a x6 x2 + rt (rE (I 67) x1 a x6 x2) + 1) / rA (I 67) x1 a x6 := by rw [em1]
          have em4 : I 38 (x1 * 4 + x6) * (L9 55 x2 - rt (L9 55 x2)) / rA (I 67) x1 a x6 = I 67 (75 + 4 * x1 + x6) * (rE (I 67) x1 a x6 x2 - rt (rE (I 67) x1 a x6 x2)) / rA (I 67) x1 a x6 := by rw [em2]
          refine b_Cnt_boundOf_52  (s_P_rootOf (by omega) ?_)
          refine b_Cnt_boundOf_59 (by omega) ?_
          refine b_Cnt_boundOf_60 (by omega) (by omega) (by omega) (by omega) (by omega) (by omega) ?_
          refine b_Cnt_boundOf_91 (by omega) ?_
          refine ih L9 ((x4 + (((I 38 ((x1 * 4) + x6)) * (((L9 55 x2)) - (rt ((L9 55 x2))))) / (((((rA (I 67) x1 a x6)))))))) (x6 + 1) (by omega) (by omega) ?_ ?_ (fun k hk => (f1 k hk).trans (i4 k hk)) (by omega)
          · rw [sm_step (by omega), ← i2]
            show _ = _ + spn (I 67) x1 a x2 x3 x6
            unfold spn
            rw [if_pos (by omega)]
            first
              | (rw [if_pos (by omega), e38, ee]; done)
              | (rw [if_neg (by omega), e38, ee]; done)
          · omega
        · have sb := spn_bd (p := I 67) (w := 0) (r := rA (I 67) x1 a x6) (e := rE (I 67) x1 a x6 x2) (c := I 67 (75 + 4 * x1 + x6)) al.2 re (by omega)
          have ert : rt (L9 55 x2) = rt (rE (I 67) x1 a x6 x2) := by rw [ee]
          have em1 : I 38 (x1 * 4 + x6) * (L9 55 x2 + rt (L9 55 x2) + 1) = I 67 (75 + 4 * x1 + x6) * (rE (I 67) x1 a x6 x2 + rt (rE (I 67) x1 a x6 x2) + 1) := by rw [e38, ee]
          have em2 : I 38 (x1 * 4 + x6) * (L9 55 x2 - rt (L9 55 x2)) = I 67 (75 + 4 * x1 + x6) * (rE (I 67) x1 a x6 x2 - rt (rE (I 67) x1 a x6 x2)) := by rw [e38, ee]
          have em3 : I 38 (x1 * 4 + x6) * (L9 55 x2 + rt (L9 55 x2) + 1) / rA (I 67) x1 a x6 = I 67 (75 + 4 * x1 + x6) * (rE (I 67) x1 a x6 x2 + rt (rE (I 67) x1 a x6 x2) + 1) / rA (I 67) x1 a x6 := by rw [em1]
          have em4 : I 38 (x1 * 4 + x6) * (L9 55 x2 - rt (L9 55 x2)) / rA (I 67) x1 a x6 = I 67 (75 + 4 * x1 + x6) * (rE (I 67) x1 a x6 x2 - rt (rE (I 67) x1 a x6 x2)) / rA (I 67) x1 a x6 := by rw [em2]
          refine b_Cnt_boundOf_39  (s_P_rootOf (by omega) ?_)
          refine b_Cnt_boundOf_46 (by omega) (by omega) ?_
          refine b_Cnt_boundOf_60 (by omega) (by omega) (by omega) (by omega) (by omega) (by omega) ?_
          refine b_Cnt_boundOf_91 (by omega) ?_
          refine ih L9 ((x4 + (((I 38 ((x1 * 4) + x6)) * ((((L9 55 x2)) + (rt ((L9 55 x2)))) + 1)) / (((((rA (I 67) x1 a x6)))))))) (x6 + 1) (by omega) (by omega) ?_ ?_ (fun k hk => (f1 k hk).trans (i4 k hk)) (by omega)
          · rw [sm_step (by omega), ← i2]
            show _ = _ + spn (I 67) x1 a x2 x3 x6
            unfold spn
            rw [if_pos (by omega)]
            first
              | (rw [if_pos (by omega), e38, ee]; done)
              | (rw [if_neg (by omega), e38, ee]; done)
          · omega
theorem s_Cnt_boundOf {ro : Nat → Int × (Int → Int)} {d : Nat} {b : Bool} {I L : Nat → Int → Int} {Q : Option am_V → am_H → Prop} {x1 x2 x3 : Int} {a : Int} (hM : Mo I L) (hr : Rd (I 67) x1 a I L) (hq : I 2 0 = I 67 1 ∧ I 10 0 = I 67 2 ∧ ∀ l, 0 ≤ l → l < 12 → I 3 l = I 67 (10 + l)) (hx : (0 ≤ x1 ∧ x1 ≤ 40) ∧ (0 ≤ x2 ∧ x2 < I 67 2) ∧ (x3 = 0 ∨ x3 = 1)) (hl : ∀ k, 0 ≤ k → k < 164 → I 38 k = I 67 (75 + k) ∧ 0 ≤ I 67 (75 + k) ∧ I 67 (75 + k) ≤ 9999999) (H : ∀ L' : Nat → Int → Int, (∀ k, k ≠ 55 → L' k = L k) → Q (some (am_L (sm (fun r => spn (I 67) x1 a x2 x3 r) 4))) (sh b, I, L')) : am_m ro (d + 3) 137 [am_R 51, am_I x1, am_I x2, am_I x3] (sh b, I, L) Q := by
  have ct := Mo_ct hM
  refine am_in rfl rfl rfl rfl ?_
  refine b_Cnt_boundOf_0  ?_
  exact lp_Cnt_boundOf (d := d) hM hr hq hx hl H 5 L 0 0 (by omega) (by omega) rfl (by omega) (fun _ _ => rfl) (by omega)
theorem lp_M_lentIn {ro : Nat → Int × (Int → Int)} {d : Nat} {b : Bool} {I L : Nat → Int → Int} {Q : Option am_V → am_H → Prop} {bc bs : Nat} {x1 x2 x3 x4 : Int} (hM : Mo I L) (hx : (0 ≤ x1 ∧ x1 ≤ 40) ∧ 0 ≤ x3 ∧ x3 < 30) (H : Q (some (am_L (rE (I 67) x1 x4 x2 x3))) (sh b, I, L)) : ∀ (n : Nat) (x5 x7 : Int), (0 ≤ x7) → (x7 ≤ I 67 1) → (x5 = sm (fun l => if I 67 (10 + l) = x2 then nn (I 67) x1 x4 l x3 else 0) x7.toNat) → (0 ≤ x5 ∧ x5 ≤ 9999999 * x7) → I 67 1 - x7 < (n : Int) → am_ex (am_m ro (d + 2)) ro am_M215 Q (6, [some (am_R 66), some (am_I x1), some (am_I x2), some (am_I x3), some (am_I x4), some (am_L x5), none, some (am_I x7)], [], (sh b, I, L), bc, bs) := by
  intro n
  induction n with
  | zero =>
    intro x5 x7 i0 i1 i2 i3 im
    exact absurd im (by omega)
  | succ n ih =>
    intro x5 x7 i0 i1 i2 i3 im
    have ct := Mo_ct hM
    refine b_M_lentIn_6  (fun c1 => ?_) (fun c1 => ?_)
    · refine b_M_lentIn_71  ?_
      have e9 : x7 = I 67 1 := by omega
      rw [i2, e9]
      exact H
    · have nb := nn_bd (y := x1) (a := x4) (l := x7) (e := x3) hM
      have nb2 : ln (I 67) x1 (100 * x7 + x3) x4 = nn (I 67) x1 x4 x7 x3 := rfl
      refine b_M_lentIn_17  (s_M_isDrawn (by omega) (fun c99 => ?_) (fun c99 => ?_))
      · refine b_M_lentIn_26  (fun c2 => absurd c2 (by decide)) (fun c2 => ?_)
        refine b_M_lentIn_29 (by omega) (by omega) (fun c3 => ?_) (fun c3 => ?_)
        · refine b_M_lentIn_61  ?_
          refine b_M_lentIn_62 (by omega) (by omega) ?_
          refine ih (x5 + 0) (x7 + 1) (by omega) (by omega) ?_ (by omega) (by omega)
          · rw [sm_step (by omega), ← i2]
            rw [if_neg (by omega)]
        · refine b_M_lentIn_43 (by omega) (by omega) (s_M_loans hM ?_)
          refine b_M_lentIn_57  ?_
          refine b_M_lentIn_62 (by omega) (by omega) ?_
          refine ih (x5 + ((ln (I 67) x1 ((100 * x7) + x3) x4))) (x7 + 1) (by omega) (by omega) ?_ (by omega) (by omega)
          · rw [sm_step (by omega), ← i2]
            rw [if_pos (by omega)]
            rfl
      · refine b_M_lentIn_26  (fun c4 => ?_) (fun c4 => absurd c4 (by decide))
        refine b_M_lentIn_61  ?_
        refine b_M_lentIn_62 (by omega) (by omega) ?_
        refine ih (x5 + 0) (x7 + 1) (by omega) (by omega) ?_ (by omega) (by omega)
        · rw [sm_step (by omega), ← i2]
          have z := nn_nd (y := x1) (a := x4) (l := x7) (e := x3) hM (by omega) c99
          split <;> omega
theorem s_M_lentIn {ro : Nat → Int × (Int → Int)} {d : Nat} {b : Bool} {I L : Nat → Int → Int} {Q : Option am_V → am_H → Prop} {x1 x2 x3 x4 : Int} (hM : Mo I L) (hx : (0 ≤ x1 ∧ x1 ≤ 40) ∧ 0 ≤ x3 ∧ x3 < 30) (H : Q (some (am_L (rE (I 67) x1 x4 x2 x3))) (sh b, I, L)) : am_m ro (d + 3) 215 [am_R 66, am_I x1, am_I x2, am_I x3, am_I x4] (sh b, I, L) Q := by
  have ct := Mo_ct hM
  refine am_in rfl rfl rfl rfl ?_
  refine b_M_lentIn_0  ?_
  exact lp_M_lentIn (d := d) hM hx H ((I 67 1).toNat + 1) 0 0 (by omega) (by omega) rfl (by omega) (by omega)
set_option maxHeartbeats 1000000 in
theorem lq_M_span {ro : Nat → Int × (Int → Int)} {d : Nat} {b : Bool} {I L : Nat → Int → Int} {Q : Option am_V → am_H → Prop} {bc bs : Nat} {x1 x2 x3 x4 x6 : Int} (hM : Mo I L) (hx : (0 ≤ x1 ∧ x1 ≤ I 67 0) ∧ (0 ≤ x2 ∧ x2 < I 67 2) ∧ (x3 = 0 ∨ x3 = 1)) (hy : 0 ≤ x6 ∧ x6 < 4 ∧ 0 ≤ x4 ∧ x4 ≤ 2999999700000000 * x6) (HX : ∀ z4 : Int, z4 = x4 + spn (I 67) x1 (I 67 0) x2 x3 x6 → 0 ≤ z4 ∧ z4 ≤ 2999999700000000 * (x6 + 1) → am_ex (am_m ro (d + 3)) ro am_M244 Q (47, [some (am_R 66), some (am_I x1), some (am_I x2), some (am_I x3), some (am_L z4), none, some (am_I ((x6 + 1))), none, none, none, none, none, none], [], (sh b, I, L), bc, bs)) : ∀ (n : Nat) (x7 x9 : Int), (0 ≤ x9) → (x9 ≤ I 67 2) → (x7 = sm (fun e => rE (I 67) x1 (I 67 0) x6 e) x9.toNat) → (0 ≤ x7 ∧ x7 ≤ 119999988 * x9) → I 67 2 - x9 < (n : Int) → am_ex (am_m ro (d + 3)) ro am_M244 Q (59, [some (am_R 66), some (am_I x1), some (am_I x2), some (am_I x3), some (am_L x4), none, some (am_I x6), some (am_L x7), none, some (am_I x9), none, none, none], [], (sh b, I, L), bc, bs) := by
  intro n
  induction n with
  | zero =>
    intro x7 x9 i0 i1 i2 i3 im
    exact absurd im (by omega)
  | succ n ih =>
    intro x7 x9 i0 i1 i2 i3 im
    have ct := Mo_ct hM
    refine b_M_span_59  (fun c1 => ?_) (fun c1 => ?_)
    · have ra := rA_bd (y := x1) (a := I 67 0) (r := x6) hM
      have re := rE_bd (y := x1) (a := I 67 0) (r := x6) (e := x2) hM
      obtain ⟨C, CL, hM0⟩ := id hM
      have al := (hM0.1.2.2.2.2.2.2.2.1.2.2.1 (4 * x1 + x6) (by omega) (by omega)).2
      have e75 : 75 + (4 * x1 + x6) = 75 + 4 * x1 + x6 := by omega
      rw [e75] at al
      have e9 : x9 = I 67 2 := by omega
      rw [e9] at i2
      have i8 : x7 = rA (I 67) x1 (I 67 0) x6 := by rw [i2]; exact rA_E
      refine b_M_span_96  (fun c2 => ?_) (fun c2 => ?_)
      · refine b_M_span_169 (by omega) ?_
        refine HX x4 ?_ ?_
        · unfold spn
          rw [if_neg (by omega)]
          omega
        · omega
      · refine b_M_span_103  (s_M_lentIn hM (by omega) ?_)
        refine b_M_span_117  (s_M_rootOf (by omega) ?_)
        have sb := spn_bd (p := I 67) (w := 0) (r := rA (I 67) x1 (I 67 0) x6) (e := rE (I 67) x1 (I 67 0) x6 x2) (c := I 67 (75 + 4 * x1 + x6)) al re (by omega)
        rw [i8]
        refine b_M_span_124 (by omega) (by omega) (by omega) (by omega) (fun c3 => ?_) (fun c3 => ?_)
        · refine b_M_span_155 (by omega) (by omega) ?_
          refine b_M_span_162 (by omega) (by omega) (by omega) ?_
          refine b_M_span_169 (by omega) ?_
          refine HX ((x4 + ((((I 67 ((75 + (4 * x1)) + x6))) * (((((rE (I 67) x1 (I 67 0) x6 x2))) + ((rt ((rE (I 67) x1 (I 67 0) x6 x2))))) + 1)) / (rA (I 67) x1 (I 67 0) x6)))) ?_ ?_
          · unfold spn
            rw [if_pos (by omega)]
            first
              | (rw [if_pos (by omega)]; done)
              | (rw [if_neg (by omega)]; done)
          · omega
        · refine b_M_span_147 (by omega) ?_
          refine b_M_span_162 (by omega) (by omega) (by omega) ?_
          refine b_M_span_169 (by omega) ?_
          refine HX ((x4 + ((((I 67 ((75 + (4 * x1)) + x6))) * ((((rE (I 67) x1 (I 67 0) x6 x2))) - ((rt ((rE (I 67) x1 (I 67 0) x6 x2)))))) / (rA (I 67) x1 (I 67 0) x6)))) ?_ ?_
          · unfold spn
            rw [if_pos (by omega)]
            first
              | (rw [if_pos (by omega)]; done)
              | (rw [if_neg (by omega)]; done)
          · omega
    · have re := rE_bd (y := x1) (a := I 67 0) (r := x6) (e := x9) hM
      refine b_M_span_70  (s_M_lentIn hM (by omega) ?_)
      refine b_M_span_87 (by omega) (by omega) ?_
      exact ih (x7 + (rE (I 67) x1 (I 67 0) x6 x9)) (x9 + 1) (by omega) (by omega) (by rw [sm_step (by omega), ← i2]) (by omega) (by omega)
theorem lp_M_span {ro : Nat → Int × (Int → Int)} {d : Nat} {b : Bool} {I L : Nat → Int → Int} {Q : Option am_V → am_H → Prop} {bc bs : Nat} {x1 x2 x3 : Int} (hM : Mo I L) (hx : (0 ≤ x1 ∧ x1 ≤ I 67 0) ∧ (0 ≤ x2 ∧ x2 < I 67 2) ∧ (x3 = 0 ∨ x3 = 1)) (H : Q (some (am_L (sm (fun r => spn (I 67) x1 (I 67 0) x2 x3 r) 4))) (sh b, I, L)) : ∀ (n : Nat) (x4 x6 : Int), (0 ≤ x6) → (x6 ≤ 4) → (x4 = sm (fun r => spn (I 67) x1 (I 67 0) x2 x3 r) x6.toNat) → (0 ≤ x4 ∧ x4 ≤ 2999999700000000 * x6) → 4 - x6 < (n : Int) → am_ex (am_m ro (d + 3)) ro am_M244 Q (47, [some (am_R 66), some (am_I x1), some (am_I x2), some (am_I x3), some (am_L x4), none, some (am_I x6), none, none, none, none, none, none], [], (sh b, I, L), bc, bs) := by
  intro n
  induction n with
  | zero =>
    intro x4 x6 i0 i1 i2 i3 im
    exact absurd im (by omega)
  | succ n ih =>
    intro x4 x6 i0 i1 i2 i3 im
    have ct := Mo_ct hM
    refine b_M_span_47  (fun c1 => ?_) (fun c1 => ?_)
    · refine b_M_span_175  ?_
      have e9 : x6 = 4 := by omega
      rw [e9] at i2
      rw [i2]
      exact H
    · refine b_M_span_53  ?_
      exact lq_M_span (d := d) hM hx (x4 := x4) (x6 := x6) (by omega) (fun z4 hz hb => ih z4 (x6 + 1) (by omega) (by omega) (by rw [sm_step (by omega), ← i2, hz]) (by omega) (by omega)) 31 0 0 (by omega) (by omega) rfl (by omega) (by omega)
theorem o_M_span {ro : Nat → Int × (Int → Int)} {d : Nat} {b : Bool} {I L : Nat → Int → Int} {Q : Option am_V → am_H → Prop} {x1 x2 x3 : Int} (hM : Mo I L) (H1 : ¬ ((0 ≤ x1 ∧ x1 ≤ I 67 0) ∧ 0 ≤ x2 ∧ x2 < I 67 2) → Q (some (am_L 0)) (sh b, rfM I (-3), L)) (H2 : ((0 ≤ x1 ∧ x1 ≤ I 67 0) ∧ 0 ≤ x2 ∧ x2 < I 67 2) ∧ ¬ (0 ≤ x3 ∧ x3 ≤ 1) → Q (some (am_L 0)) (sh b, rfM I (-7), L)) (H3 : ((0 ≤ x1 ∧ x1 ≤ I 67 0) ∧ 0 ≤ x2 ∧ x2 < I 67 2) ∧ (0 ≤ x3 ∧ x3 ≤ 1) → Q (some (am_L (sm (fun r => spn (I 67) x1 (I 67 0) x2 x3 r) 4))) (sh b, I, L)) : am_m ro (d + 4) 244 [am_R 66, am_I x1, am_I x2, am_I x3] (sh b, I, L) Q := by
  have ct := Mo_ct hM
  refine am_in rfl rfl rfl rfl ?_
  refine b_M_span_0  (s_M_isYear (fun c1 => ?_) (fun c1 => ?_))
  · refine b_M_span_5  (fun c2 => absurd c2 (by decide)) (fun c2 => ?_)
    refine b_M_span_8  (s_M_isEdition (by omega) (fun c3 => ?_) (fun c3 => ?_))
    · refine b_M_span_13  (fun c4 => ?_) (fun c4 => absurd c4 (by decide))
      refine b_M_span_24  (s_M_in (fun c5 => ?_) (fun c5 => ?_))
      · refine b_M_span_30  (fun c6 => ?_) (fun c6 => absurd c6 (by decide))
        refine b_M_span_41  ?_
        exact lp_M_span (d := d) hM (by omega) (H3 (by omega)) 5 0 0 (by omega) (by omega) rfl (by omega) (by omega)
      · refine b_M_span_30  (fun c7 => absurd c7 (by decide)) (fun c7 => ?_)
        refine b_M_span_33  (s_M_nought (by omega) ?_)
        refine b_M_span_39  ?_
        first | exact H1 (by omega) | exact H2 (by omega)
    · refine b_M_span_13  (fun c8 => absurd c8 (by decide)) (fun c8 => ?_)
      refine b_M_span_16  (s_M_nought (by omega) ?_)
      refine b_M_span_22  ?_
      first | exact H1 (by omega) | exact H2 (by omega)
  · refine b_M_span_5  (fun c9 => ?_) (fun c9 => absurd c9 (by decide))
    refine b_M_span_16  (s_M_nought (by omega) ?_)
    refine b_M_span_22  ?_
    first | exact H1 (by omega) | exact H2 (by omega)
theorem o_P_span {ro : Nat → Int × (Int → Int)} {d : Nat} {b : Bool} {I L : Nat → Int → Int} {Q : Option am_V → am_H → Prop} {x1 x2 x3 : Int} (hC : Cor I L) (H1 : ¬ ((0 ≤ x1 ∧ x1 ≤ I 67 0) ∧ 0 ≤ x2 ∧ x2 < I 67 2) → Q (some (am_L 0)) (sh b, rfC I (-3), L)) (H2 : ((0 ≤ x1 ∧ x1 ≤ I 67 0) ∧ 0 ≤ x2 ∧ x2 < I 67 2) ∧ ¬ (0 ≤ x3 ∧ x3 ≤ 1) → Q (some (am_L 0)) (sh b, rfC I (-7), L)) (H3 : ((0 ≤ x1 ∧ x1 ≤ I 67 0) ∧ 0 ≤ x2 ∧ x2 < I 67 2) ∧ (0 ≤ x3 ∧ x3 ≤ 1) → ∀ I' L' : Nat → Int → Int, Sc I L I' L' → Q (some (am_L (sm (fun r => spn (I 67) x1 (I 67 0) x2 x3 r) 4))) (sh b, I', L')) : am_m ro (d + 4) 35 [am_R 0, am_I x1, am_I x2, am_I x3] (sh b, I, L) Q := by
  have ct := Cor_ct hC
  refine am_in rfl rfl rfl rfl ?_
  refine b_P_span_0  (s_P_isYear (fun c1 => ?_) (fun c1 => ?_))
  · refine b_P_span_5  (fun c2 => absurd c2 (by decide)) (fun c2 => ?_)
    refine b_P_span_8  (s_Eds_has (by omega) (fun c3 => ?_) (fun c3 => ?_))
    · refine b_P_span_19  (fun c4 => ?_) (fun c4 => absurd c4 (by decide))
      refine b_P_span_30  (s_P_within (fun c5 => ?_) (fun c5 => ?_))
      · refine b_P_span_36  (fun c6 => ?_) (fun c6 => absurd c6 (by decide))
        refine b_P_span_47  (s_Cnt_read hC (by omega) (fun I9 L9 s9 r9 => ?_))
        have f67 := Sc_67 s9
        have c9 := Cor_sc hC s9
        have ct9 := Cor_ct c9
        have hq9 : I9 2 0 = I9 67 1 ∧ I9 10 0 = I9 67 2 ∧ ∀ l, 0 ≤ l → l < 12 → I9 3 l = I9 67 (10 + l) := ⟨ct9.2.1.1, ct9.2.2.1.1, fun l a1 a2 => (c9.1.2.1.2.2.2.1 l a1 a2).1⟩
        have hl9 := c9.1.2.2.2.2.2.2.2.1.2.2.1
        have e62 : I9 67 2 = I 67 2 := by rw [f67]
        refine b_P_span_62  (fun c7 => ?_) (fun c7 => ?_)
        · refine b_P_span_77  ?_
          refine b_P_span_78  (s_Cnt_boundOf (a := I 67 0) (Mo_sc (Mo_of hC) s9) (by rw [f67]; rw [ct.1.1] at r9; exact r9) hq9 (by omega) hl9 (fun L8 g1 => ?_))
          refine b_P_span_81  ?_
          have e8 : x3 = 0 := by omega
          have k9 := H3 (by omega) I9 L8 ⟨s9.1, s9.2.1, fun k hk => (g1 k (by omega)).trans (s9.2.2 k hk)⟩
          rw [e8] at k9
          rw [f67]
          exact k9
        · refine b_P_span_73  ?_
          refine b_P_span_78  (s_Cnt_boundOf (a := I 67 0) (Mo_sc (Mo_of hC) s9) (by rw [f67]; rw [ct.1.1] at r9; exact r9) hq9 (by omega) hl9 (fun L8 g1 => ?_))
          refine b_P_span_81  ?_
          have e8 : x3 = 1 := by omega
          have k9 := H3 (by omega) I9 L8 ⟨s9.1, s9.2.1, fun k hk => (g1 k (by omega)).trans (s9.2.2 k hk)⟩
          rw [e8] at k9
          rw [f67]
          exact k9
      · refine b_P_span_36  (fun c8 => absurd c8 (by decide)) (fun c8 => ?_)
        refine b_P_span_39  (s_P_refuseAsZero (by omega) ?_)
        refine b_P_span_45  ?_
        first | exact H1 (by omega) | exact H2 (by omega)
    · refine b_P_span_19  (fun c9 => absurd c9 (by decide)) (fun c9 => ?_)
      refine b_P_span_22  (s_P_refuseAsZero (by omega) ?_)
      refine b_P_span_28  ?_
      first | exact H1 (by omega) | exact H2 (by omega)
  · refine b_P_span_5  (fun c10 => ?_) (fun c10 => absurd c10 (by decide))
    refine b_P_span_22  (s_P_refuseAsZero (by omega) ?_)
    refine b_P_span_28  ?_
    first | exact H1 (by omega) | exact H2 (by omega)
theorem A_span {ro : Nat → Int × (Int → Int)} {d : Nat} {b : Bool} {I L : Nat → Int → Int} {x1 x2 x3 : Int} (hI : Inv b I L) : am_m ro (d + 4) 35 [am_R 0, am_I x1, am_I x2, am_I x3] (sh b, I, L) (fun r h => am_m ro (d + 4) 244 [am_R 66, am_I x1, am_I x2, am_I x3] h (fun r2 h2 => Pair r r2 h2)) := by
  have hC := Cor_of hI
  have ct := Cor_ct hC
  refine o_P_span hC (fun a => ?_) (fun a => ?_) (fun a I1 L1 s1 => ?_)
  · refine o_M_span (by repeat (first | exact Mo_of hC | refine Mo_rf ?_ | refine Mo_up ?_ (by decide))) (fun a2 => ?_) (fun a2 => by (try simp (disch := omega) only [rfm, rfn] at a2); omega) (fun a2 => by (try simp (disch := omega) only [rfm, rfn] at a2); omega)
    exact Pair_rf hI
  · refine o_M_span (by repeat (first | exact Mo_of hC | refine Mo_rf ?_ | refine Mo_up ?_ (by decide))) (fun a2 => by (try simp (disch := omega) only [rfm, rfn] at a2); omega) (fun a2 => ?_) (fun a2 => by (try simp (disch := omega) only [rfm, rfn] at a2); omega)
    exact Pair_rf hI
  · have f67 := Sc_67 s1
    refine o_M_span (Mo_sc (Mo_of hC) s1) (fun a2 => by rw [f67] at a2; omega) (fun a2 => by rw [f67] at a2; omega) (fun a2 => ?_)
    rw [f67]
    exact ⟨_, b, I1, L1, rfl, rfl, rfl, Inv_sc hI s1⟩
