theorem lp3_M_parts {ro : Nat → Int × (Int → Int)} {d : Nat} {b : Bool} {L : Nat → Int → Int} {Q : Option am_V → am_H → Prop} {bc bs : Nat} {t g : Int → Int} {I0 : Nat → Int → Int} (hm : 0 ≤ I0 67 2 ∧ I0 67 2 ≤ 30) (ht : ∀ e, 0 ≤ e → e < I0 67 2 → (0 ≤ t e ∧ t e ≤ 50000000) ∧ 0 ≤ g e ∧ g e ≤ 50000000) (H : ∀ I : Nat → Int → Int, (∀ k, k ≠ 78 → k ≠ 80 → I k = I0 k) → (∀ e, 0 ≤ e → e < I0 67 2 → I 78 e = t e + g e) → Q none (sh b, I, L)) : ∀ (n : Nat) (I : Nat → Int → Int) (x5 : Int), (0 ≤ x5) → (x5 ≤ I0 67 2) → (∀ k, k ≠ 78 → k ≠ 80 → I k = I0 k) → (∀ e, 0 ≤ e → e < I0 67 2 → I 80 e = g e) → (∀ e, 0 ≤ e → e < x5 → I 78 e = t e + g e) → (∀ e, x5 ≤ e → e < I0 67 2 → I 78 e = t e) → I0 67 2 - x5 < (n : Int) → am_ex (am_m ro (d + 0)) ro am_M217 Q (204, [some (am_R 66), none, none, none, none, some (am_I x5), none, none, none], [], (sh b, I, L), bc, bs) := by
  intro n
  induction n with
  | zero =>
    intro I x5 i0 i1 i2 i3 i4 i5 im
    exact absurd im (by omega)
  | succ n ih =>
    intro I x5 i0 i1 i2 i3 i4 i5 im
    have e67 : I 67 = I0 67 := i2 67 (by omega) (by omega)
    have e672 : I 67 2 = I0 67 2 := by rw [e67]
    refine b_M_parts_204  (fun c1 => ?_) (fun c1 => ?_)
    · refine b_M_parts_238  ?_
      exact H I i2 (fun e a1 a2 => i4 e a1 (by omega))
    · have q1 := i3 x5 (by omega) (by omega)
      have q2 := i5 x5 (by omega) (by omega)
      have q3 := ht x5 (by omega) (by omega)
      refine b_M_parts_215 (by omega) (by omega) (by omega) (by omega) (by omega) ?_
      refine ih (am_up I 78 x5 ((I 78 x5) + (I 80 x5))) (x5 + 1) (by omega) (by omega) (fun k k1 k2 => by rw [upn k1]; exact i2 k k1 k2) (fun e a1 a2 => by rw [upm (by omega)]; exact i3 e a1 a2) (fun e a1 a2 => ?_) (fun e a1 a2 => by rw [upo (by omega)]; exact i5 e (by omega) a2) (by omega)
      by_cases ee : e = x5
      · subst ee
        rw [ups, q1, q2]
      · rw [upo ee]
        exact i4 e a1 (by omega)
set_option maxHeartbeats 1000000 in
theorem lq_M_parts {ro : Nat → Int × (Int → Int)} {d : Nat} {b : Bool} {I L : Nat → Int → Int} {Q : Option am_V → am_H → Prop} {bc bs : Nat} {x1 x2 x4 x5 : Int} {h : Int → Int} {m9 : Int} (hm : I 67 2 = m9 ∧ 0 < m9 ∧ m9 ≤ 30) (hc : (0 ≤ x1 ∧ x1 ≤ 9999999) ∧ 0 < x2 ∧ x2 ≤ 3599999640) (hh : ∀ e, 0 ≤ e → e < m9 → 0 ≤ h e ∧ h e ≤ 119999988) (hs : sm h m9.toNat = x2) (h79 : ∀ e, 0 ≤ e → e < m9 → L 79 e = h e) (hx : 0 ≤ x5 ∧ x5 < x4 ∧ x4 ≤ 100) (hp : 0 < rs (fun e => x1 * h e % x2) m9.toNat x5.toNat (amx (rs (fun e => x1 * h e % x2) m9.toNat x5.toNat) m9.toNat)) (hg : ∀ e, 0 ≤ e → e < m9 → I 80 e = x1 * h e / x2 + gt (fun e => x1 * h e % x2) m9.toNat x5.toNat e) (HX : ∀ z : Int, z = amx (rs (fun e => x1 * h e % x2) m9.toNat x5.toNat) m9.toNat → am_ex (am_m ro (d + 0)) ro am_M217 Q (58, [some (am_R 66), some (am_I x1), some (am_L x2), none, some (am_I x4), some (am_I ((x5 + 1))), none, none, none], [], (sh b, am_up I 80 z (I 80 z + 1), L), bc, bs)) : ∀ (n : Nat) (x6 x7 : Int), (0 ≤ x7) → (x7 ≤ m9) → (x6 = bst (rs (fun e => x1 * h e % x2) m9.toNat x5.toNat) x7.toNat) → m9 - x7 < (n : Int) → am_ex (am_m ro (d + 0)) ro am_M217 Q (71, [some (am_R 66), some (am_I x1), some (am_L x2), none, some (am_I x4), some (am_I x5), some (am_I x6), some (am_I x7), none], [], (sh b, I, L), bc, bs) := by
  intro n
  induction n with
  | zero =>
    intro x6 x7 i0 i1 i2 im
    exact absurd im (by omega)
  | succ n ih =>
    intro x6 x7 i0 i1 i2 im
    have bd := bs_bd (f := rs (fun e => x1 * h e % x2) m9.toNat x5.toNat) x7.toNat
    refine b_M_parts_71  (fun c1 => ?_) (fun c1 => ?_)
    · have e9 : x7 = m9 := by omega
      rw [e9] at i2
      have ba := bs_amx (f := rs (fun e => x1 * h e % x2) m9.toNat x5.toNat) m9.toNat (by omega)
      have bb := amx_bd (f := rs (fun e => x1 * h e % x2) m9.toNat x5.toNat) m9.toNat (by omega)
      have b6 : x6 = amx (rs (fun e => x1 * h e % x2) m9.toNat x5.toNat) m9.toNat := by rcases ba with ba | ba; (· omega); (· rw [i2]; exact ba.1)
      have g0 := hg x6 (by omega) (by omega)
      have g3 := gt_le (r := (fun e => x1 * h e % x2)) (m := m9.toNat) (e := x6) x5.toNat
      have g4 := gt_nn (r := (fun e => x1 * h e % x2)) (m := m9.toNat) (e := x6) x5.toNat
      have h9 := hh x6 (by omega) (by omega)
      have q9 := qb (c := x1) (h := h x6) (s := x2) hc.1 h9 hc.2.1 (hle (fun e a1 a2 => (hh e a1 (by omega)).1) hs (by omega) (by omega))
      refine b_M_parts_184 (by omega) (by omega) (by omega) (by omega) ?_
      exact HX x6 b6
    · have h9 := hh x7 (by omega) (by omega)
      have q9 := qb (c := x1) (h := h x7) (s := x2) hc.1 h9 hc.2.1 (hle (fun e a1 a2 => (hh e a1 (by omega)).1) hs (by omega) (by omega))
      have e79 : L 79 x7 = h x7 := h79 x7 (by omega) (by omega)
      have e1 : x1 * L 79 x7 = x1 * h x7 := by rw [e79]
      have e2 : x1 * L 79 x7 / x2 = x1 * h x7 / x2 := by rw [e79]
      have e3 : x1 * L 79 x7 % x2 = x1 * h x7 % x2 := by rw [e79]
      have g0 := hg x7 (by omega) (by omega)
      have g1 := rs_gt (r := (fun e => x1 * h e % x2)) (m := m9.toNat) (e := x7) x5.toNat
      refine b_M_parts_82 (by omega) (by omega) (by omega) (by omega) (fun c2 => ?_) (fun c2 => ?_)
      · refine b_M_parts_127  ?_
        refine b_M_parts_128  (fun c3 => ?_) (fun c3 => absurd c3 (by decide))
        refine b_M_parts_174  ?_
        refine b_M_parts_176 (by omega) ?_
        exact ih x6 (x7 + 1) (by omega) (by omega) (by
                rw [bs_s (by omega), ← i2]
                first
                  | (rw [if_pos (by omega)]; done)
                  | (rw [if_neg (by omega)]; done)) (by omega)
      · refine b_M_parts_106 (by omega) (by omega) (by omega) (fun c4 => ?_) (fun c4 => ?_)
        · refine b_M_parts_127  ?_
          refine b_M_parts_128  (fun c5 => ?_) (fun c5 => absurd c5 (by decide))
          refine b_M_parts_174  ?_
          refine b_M_parts_176 (by omega) ?_
          exact ih x6 (x7 + 1) (by omega) (by omega) (by
                  rw [bs_s (by omega), ← i2]
                  first
                    | (rw [if_pos (by omega)]; done)
                    | (rw [if_neg (by omega)]; done)) (by omega)
        · refine b_M_parts_123  ?_
          refine b_M_parts_128  (fun c6 => absurd c6 (by decide)) (fun c6 => ?_)
          refine b_M_parts_135  (fun c7 => ?_) (fun c7 => ?_)
          · refine b_M_parts_169  ?_
            refine b_M_parts_176 (by omega) ?_
            exact ih x7 (x7 + 1) (by omega) (by omega) (by
                    rw [bs_s (by omega), ← i2]
                    first
                      | (rw [if_pos (by omega)]; done)
                      | (rw [if_neg (by omega)]; done)) (by omega)
          · have w6 := bs_ok (f := rs (fun e => x1 * h e % x2) m9.toNat x5.toNat) x7.toNat (by omega)
            rw [← i2] at w6
            have g2 := rs_gt (r := (fun e => x1 * h e % x2)) (m := m9.toNat) (e := x6) x5.toNat
            have f79 : L 79 x6 = h x6 := h79 x6 (by omega) (by omega)
            have h8 := hh x6 (by omega) (by omega)
            have q8 := qb (c := x1) (h := h x6) (s := x2) hc.1 h8 hc.2.1 (hle (fun e a1 a2 => (hh e a1 (by omega)).1) hs (by omega) (by omega))
            have f1 : x1 * L 79 x6 = x1 * h x6 := by rw [f79]
            have f3 : x1 * L 79 x6 % x2 = x1 * h x6 % x2 := by rw [f79]
            refine b_M_parts_141 (by omega) (by omega) (by omega) (by omega) (by omega) (by omega) (fun c8 => ?_) (fun c8 => ?_)
            · refine b_M_parts_174  ?_
              refine b_M_parts_176 (by omega) ?_
              exact ih x6 (x7 + 1) (by omega) (by omega) (by
                      rw [bs_s (by omega), ← i2]
                      first
                        | (rw [if_pos (by omega)]; done)
                        | (rw [if_neg (by omega)]; done)) (by omega)
            · refine b_M_parts_169  ?_
              refine b_M_parts_176 (by omega) ?_
              exact ih x7 (x7 + 1) (by omega) (by omega) (by
                      rw [bs_s (by omega), ← i2]
                      first
                        | (rw [if_pos (by omega)]; done)
                        | (rw [if_neg (by omega)]; done)) (by omega)
theorem lp2_M_parts {ro : Nat → Int × (Int → Int)} {d : Nat} {b : Bool} {L : Nat → Int → Int} {Q : Option am_V → am_H → Prop} {bc bs : Nat} {x1 x2 x4 : Int} {h : Int → Int} {m9 : Int} {I0 : Nat → Int → Int} {t : Int → Int} (hm : I0 67 2 = m9 ∧ 0 ≤ m9 ∧ m9 ≤ 30) (hc : (0 ≤ x1 ∧ x1 ≤ 9999999) ∧ 0 < x2 ∧ x2 ≤ 3599999640) (hh : ∀ e, 0 ≤ e → e < m9 → 0 ≤ h e ∧ h e ≤ 119999988) (hs : sm h m9.toNat = x2) (h79 : ∀ e, 0 ≤ e → e < m9 → L 79 e = h e) (ht : ∀ e, 0 ≤ e → e < m9 → (0 ≤ t e ∧ t e ≤ 50000000) ∧ I0 78 e = t e) (H : ∀ I : Nat → Int → Int, (∀ k, k ≠ 78 → k ≠ 80 → I k = I0 k) → (∀ e, 0 ≤ e → e < m9 → I 78 e = t e + prt h m9.toNat x1 x2 e) → Q none (sh b, I, L)) (h4 : x4 = x1 - sm (fun e => x1 * h e / x2) m9.toNat) : ∀ (n : Nat) (I : Nat → Int → Int) (x5 : Int), (0 ≤ x5) → (x5 ≤ x4) → (∀ k, k ≠ 80 → I k = I0 k) → (∀ e, 0 ≤ e → e < m9 → I 80 e = x1 * h e / x2 + gt (fun e => x1 * h e % x2) m9.toNat x5.toNat e) → x4 - x5 < (n : Int) → am_ex (am_m ro (d + 0)) ro am_M217 Q (58, [some (am_R 66), some (am_I x1), some (am_L x2), none, some (am_I x4), some (am_I x5), none, none, none], [], (sh b, I, L), bc, bs) := by
  intro n
  induction n with
  | zero =>
    intro I x5 i0 i1 i2 i3 im
    exact absurd im (by omega)
  | succ n ih =>
    intro I x5 i0 i1 i2 i3 im
    have e67 : I 67 = I0 67 := i2 67 (by omega)
    have e672 : I 67 2 = m9 := by rw [e67]; exact hm.1
    have hl := lr_of (h := h) (c := x1) (s := x2) (m := m9.toNat) (by omega) (by omega) (fun e a1 a2 => (hh e a1 (by omega)).1) hs
    rw [← h4] at hl
    have lm := lr_m hl
    refine b_M_parts_58  (fun c1 => ?_) (fun c1 => ?_)
    · refine b_M_parts_201  ?_
      have e9 : x5 = x4 := by omega
      rw [e9, h4] at i3
      refine lp3_M_parts (d := d) (t := t) (g := fun e => prt h m9.toNat x1 x2 e) (I0 := I0) (by omega) (fun e a1 a2 => ⟨(ht e a1 (by omega)).1, ?_⟩) (fun I9 f1 f2 => H I9 f1 (fun e a1 a2 => f2 e a1 (by omega))) 31 I 0 (by omega) (by omega) (fun k k1 k2 => i2 k k2) (fun e a1 a2 => i3 e a1 (by omega)) (fun e a1 a2 => by omega) (fun e a1 a2 => ?_) (by omega)
      · have w := prt_bd (h := h) (m := m9.toNat) (c := x1) (s := x2) (e := e) (by omega) (by omega) (fun e a1 a2 => (hh e a1 (by omega)).1) hs (by omega)
        show 0 ≤ prt h m9.toNat x1 x2 e ∧ prt h m9.toNat x1 x2 e ≤ 50000000
        omega
      · rw [i2 78 (by omega)]
        exact (ht e a1 (by omega)).2
    · refine b_M_parts_65  ?_
      have lp := lr_pos (k := x5.toNat) hl (by omega)
      refine lq_M_parts (d := d) (m9 := m9) (by omega) hc hh hs h79 (by omega) lp.2 i3 (fun z hz => ih _ (x5 + 1) (by omega) (by omega) (fun k k1 => by rw [upn k1]; exact i2 k k1) (fun e a1 a2 => ?_) (by omega)) 31 (-1) 0 (by omega) (by omega) rfl (by omega)
      have ab := amx_bd (f := rs (fun e => x1 * h e % x2) m9.toNat x5.toNat) m9.toNat lp.1
      rw [(rs_s (by omega)).2, ← hz]
      by_cases ee : e = z
      · rw [ee, ups, if_pos rfl, i3 z (by omega) (by omega)]
        omega
      · rw [upo ee, if_neg ee, i3 e a1 a2]
        omega
theorem lp1_M_parts {ro : Nat → Int × (Int → Int)} {d : Nat} {b : Bool} {L : Nat → Int → Int} {Q : Option am_V → am_H → Prop} {bc bs : Nat} {x1 x2 : Int} {h : Int → Int} {m9 : Int} {I0 : Nat → Int → Int} {t : Int → Int} (hm : I0 67 2 = m9 ∧ 0 ≤ m9 ∧ m9 ≤ 30) (hc : (0 ≤ x1 ∧ x1 ≤ 9999999) ∧ 0 < x2 ∧ x2 ≤ 3599999640) (hh : ∀ e, 0 ≤ e → e < m9 → 0 ≤ h e ∧ h e ≤ 119999988) (hs : sm h m9.toNat = x2) (h79 : ∀ e, 0 ≤ e → e < m9 → L 79 e = h e) (ht : ∀ e, 0 ≤ e → e < m9 → (0 ≤ t e ∧ t e ≤ 50000000) ∧ I0 78 e = t e) (H : ∀ I : Nat → Int → Int, (∀ k, k ≠ 78 → k ≠ 80 → I k = I0 k) → (∀ e, 0 ≤ e → e < m9 → I 78 e = t e + prt h m9.toNat x1 x2 e) → Q none (sh b, I, L)) : ∀ (n : Nat) (I : Nat → Int → Int) (x4 x5 : Int), (0 ≤ x5) → (x5 ≤ m9) → (x4 = x1 - sm (fun e => x1 * h e / x2) x5.toNat) → (∀ k, k ≠ 80 → I k = I0 k) → (∀ e, 0 ≤ e → e < x5 → I 80 e = x1 * h e / x2) → (x1 - 9999999 * x5 ≤ x4 ∧ x4 ≤ x1) → m9 - x5 < (n : Int) → am_ex (am_m ro (d + 0)) ro am_M217 Q (6, [some (am_R 66), some (am_I x1), some (am_L x2), none, some (am_I x4), some (am_I x5), none, none, none], [], (sh b, I, L), bc, bs) := by
  intro n
  induction n with
  | zero =>
    intro I x4 x5 i0 i1 i2 i3 i4 i5 im
    exact absurd im (by omega)
  | succ n ih =>
    intro I x4 x5 i0 i1 i2 i3 i4 i5 im
    have e67 : I 67 = I0 67 := i3 67 (by omega)
    have e672 : I 67 2 = m9 := by rw [e67]; exact hm.1
    refine b_M_parts_6  (fun c1 => ?_) (fun c1 => ?_)
    · refine b_M_parts_55  ?_
      have e9 : x5 = m9 := by omega
      rw [e9] at i2 i4
      have hl := lr_of (h := h) (c := x1) (s := x2) (m := m9.toNat) (by omega) (by omega) (fun e a1 a2 => (hh e a1 (by omega)).1) hs
      rw [← i2] at hl
      have l2 := hl.2.1
      refine lp2_M_parts (d := d) (I0 := I0) (t := t) hm hc hh hs h79 ht H i2 (x4.toNat + 1) I 0 (by omega) (by omega) i3 (fun e a1 a2 => ?_) (by omega)
      rw [i4 e a1 a2]
      show _ = _ + 0
      omega
    · have h9 := hh x5 (by omega) (by omega)
      have q9 := qb (c := x1) (h := h x5) (s := x2) hc.1 h9 hc.2.1 (hle (fun e a1 a2 => (hh e a1 (by omega)).1) hs (by omega) (by omega))
      have e79 : L 79 x5 = h x5 := h79 x5 (by omega) (by omega)
      have e1 : x1 * L 79 x5 = x1 * h x5 := by rw [e79]
      have e2 : x1 * L 79 x5 / x2 = x1 * h x5 / x2 := by rw [e79]
      have e3 : x1 * L 79 x5 % x2 = x1 * h x5 % x2 := by rw [e79]
      refine b_M_parts_17 (by (try simp (disch := omega) only [upo, upm, ups]); omega) (by (try simp (disch := omega) only [upo, upm, ups]); omega) (by (try simp (disch := omega) only [upo, upm, ups]); omega) (by (try simp (disch := omega) only [upo, upm, ups]); omega) (by (try simp (disch := omega) only [upo, upm, ups]); omega) (by (try simp (disch := omega) only [upo, upm, ups]); omega) (by (try simp (disch := omega) only [upo, upm, ups]); omega) (by (try simp (disch := omega) only [upo, upm, ups]); omega) ?_
      refine ih (am_up I 80 x5 ((x1 * (L 79 x5)) / x2)) (x4 - ((am_up I 80 x5 ((x1 * (L 79 x5)) / x2)) 80 x5)) (x5 + 1) (by omega) (by omega) ?_ (fun k k1 => by rw [upn k1]; exact i3 k k1) (fun e a1 a2 => ?_) (by (try simp (disch := omega) only [upo, upm, ups]); omega) (by omega)
      · rw [sm_step (by omega), ups, e2, i2]
        omega
      · by_cases ee : e = x5
        · rw [ee, ups, e2]
        · rw [upo ee]
          exact i4 e a1 (by omega)
theorem s_M_parts {ro : Nat → Int × (Int → Int)} {d : Nat} {b : Bool} {I L : Nat → Int → Int} {Q : Option am_V → am_H → Prop} {x1 x2 : Int} {h : Int → Int} {m9 : Int} (hm : I 67 2 = m9 ∧ 0 ≤ m9 ∧ m9 ≤ 30) (hc : (0 ≤ x1 ∧ x1 ≤ 9999999) ∧ 0 < x2 ∧ x2 ≤ 3599999640) (hh : ∀ e, 0 ≤ e → e < m9 → 0 ≤ h e ∧ h e ≤ 119999988) (hs : sm h m9.toNat = x2) (h79 : ∀ e, 0 ≤ e → e < m9 → L 79 e = h e) (ht : ∀ e, 0 ≤ e → e < m9 → 0 ≤ I 78 e ∧ I 78 e ≤ 50000000) (H : ∀ I' : Nat → Int → Int, (∀ k, k ≠ 78 → k ≠ 80 → I' k = I k) → (∀ e, 0 ≤ e → e < m9 → I' 78 e = I 78 e + prt h m9.toNat x1 x2 e) → Q none (sh b, I', L)) : am_m ro (d + 1) 217 [am_R 66, am_I x1, am_L x2] (sh b, I, L) Q := by
  refine am_in rfl rfl rfl rfl ?_
  refine b_M_parts_0  ?_
  exact lp1_M_parts (d := d) (I0 := I) (t := I 78) hm hc hh hs h79 (fun e a1 a2 => ⟨ht e a1 a2, rfl⟩) H 31 I x1 0 (by omega) (by omega) (by show x1 = x1 - 0; omega) (fun _ _ => rfl) (fun e a1 a2 => by omega) (by omega) (by omega)
theorem lq_M_estimatesOf {ro : Nat → Int × (Int → Int)} {d : Nat} {b : Bool} {I : Nat → Int → Int} {Q : Option am_V → am_H → Prop} {bc bs : Nat} {x1 x2 x3 : Int} {I0 L0 : Nat → Int → Int} (hM : Mo I0 L0) (hx : (0 ≤ x1 ∧ x1 ≤ 40) ∧ 0 ≤ x3 ∧ x3 < 4) (hI0 : (∀ k, k ≠ 78 → k ≠ 80 → I k = I0 k)) (hE : ∀ e, 0 ≤ e → e < I0 67 2 → I 78 e = sm (fun g => est1 (I0 67) x1 x2 g e) x3.toNat) (hB : ∀ e, 0 ≤ e → e < I0 67 2 → 0 ≤ I 78 e ∧ I 78 e ≤ 9999999 * x3) (HX : ∀ I L : Nat → Int → Int, (∀ k, k ≠ 78 → k ≠ 80 → I k = I0 k) → (∀ k, k ≠ 79 → L k = L0 k) → (∀ e, 0 ≤ e → e < I0 67 2 → I 78 e = sm (fun g => est1 (I0 67) x1 x2 g e) (x3 + 1).toNat) → (∀ e, 0 ≤ e → e < I0 67 2 → 0 ≤ I 78 e ∧ I 78 e ≤ 9999999 * (x3 + 1)) → am_ex (am_m ro (d + 3)) ro am_M216 Q (27, [some (am_R 66), some (am_I x1), some (am_I x2), some (am_I ((x3 + 1))), none, none, none], [], (sh b, I, L), bc, bs)) : ∀ (n : Nat) (L : Nat → Int → Int) (x4 x6 : Int), (0 ≤ x6) → (x6 ≤ I0 67 2) → (∀ k, k ≠ 79 → L k = L0 k) → (x4 = sm (fun e => rE (I0 67) x1 x2 x3 e) x6.toNat) → (∀ e, 0 ≤ e → e < x6 → L 79 e = rE (I0 67) x1 x2 x3 e) → (0 ≤ x4 ∧ x4 ≤ 119999988 * x6) → I0 67 2 - x6 < (n : Int) → am_ex (am_m ro (d + 3)) ro am_M216 Q (38, [some (am_R 66), some (am_I x1), some (am_I x2), some (am_I x3), some (am_L x4), none, some (am_I x6)], [], (sh b, I, L), bc, bs) := by
  intro n
  induction n with
  | zero =>
    intro L x4 x6 i0 i1 i2 i3 i4 i5 im
    exact absurd im (by omega)
  | succ n ih =>
    intro L x4 x6 i0 i1 i2 i3 i4 i5 im
    have ct := Mo_ct hM
    have e67 : I 67 = I0 67 := hI0 67 (by omega) (by omega)
    have e72 : I 72 = I0 72 := hI0 72 (by omega) (by omega)
    have e672 : I 67 2 = I0 67 2 := by rw [e67]
    have hM1 : Mo I L := Mo_cg hM e67 (i2 69 (by omega)) e72
    refine b_M_estimatesOf_38  (fun c1 => ?_) (fun c1 => ?_)
    · have e9 : x6 = I0 67 2 := by omega
      rw [e9] at i3
      have i8 : x4 = rA (I0 67) x1 x2 x3 := by rw [i3]; exact rA_E
      have ra := rA_bd (y := x1) (a := x2) (r := x3) hM
      have al := Mo_al (k := 4 * x1 + x3) hM (by omega)
      have e75 : 75 + (4 * x1 + x3) = 75 + 4 * x1 + x3 := by omega
      rw [e75] at al
      have e38 : I 67 (75 + 4 * x1 + x3) = I0 67 (75 + 4 * x1 + x3) := by rw [e67]
      refine b_M_estimatesOf_83  (fun c2 => ?_) (fun c2 => ?_)
      · refine b_M_estimatesOf_109 (by (try simp (disch := omega) only [upo, upm, ups]); omega) ?_
        refine HX I L hI0 i2 (fun e a1 a2 => ?_) (fun e a1 a2 => ?_)
        · rw [hE e a1 a2, sm_step (by omega)]
          show _ = _ + est1 (I0 67) x1 x2 x3 e
          unfold est1
          rw [if_neg (by omega)]
          omega
        · have w := hB e a1 a2
          omega
      · refine b_M_estimatesOf_90 (by (try simp (disch := omega) only [upo, upm, ups]); omega) (by (try simp (disch := omega) only [upo, upm, ups]); omega) (by (try simp (disch := omega) only [upo, upm, ups]); omega) (by (try simp (disch := omega) only [upo, upm, ups]); omega) (s_M_parts (h := fun e => rE (I0 67) x1 x2 x3 e) (m9 := I0 67 2) (by omega) (by omega) (fun e _ _ => rE_bd hM) (by rw [i8]; exact rA_E) (fun e a1 a2 => i4 e a1 (by omega)) (fun e a1 a2 => by have := hB e a1 a2; omega) (fun I9 f1 f2 => ?_))
        refine b_M_estimatesOf_109 (by (try simp (disch := omega) only [upo, upm, ups]); omega) ?_
        refine HX I9 L (fun k k1 k2 => (f1 k k1 k2).trans (hI0 k k1 k2)) i2 (fun e a1 a2 => ?_) (fun e a1 a2 => ?_)
        · rw [f2 e a1 a2, hE e a1 a2, sm_step (by omega)]
          show _ = _ + est1 (I0 67) x1 x2 x3 e
          unfold est1
          rw [if_pos (by omega), e38, i8]
        · rw [f2 e a1 a2, e38, i8]
          have w := hB e a1 a2
          have w2 := prt_bd (h := fun e => rE (I0 67) x1 x2 x3 e) (m := (I0 67 2).toNat) (c := I0 67 (75 + 4 * x1 + x3)) (s := rA (I0 67) x1 x2 x3) (e := e) (by omega) (by omega) (fun k _ _ => (rE_bd hM).1) rA_E (by omega)
          omega
    · have re := rE_bd (y := x1) (a := x2) (r := x3) (e := x6) hM
      refine b_M_estimatesOf_49  (s_M_lentIn hM1 (by omega) ?_)
      rw [e67]
      refine b_M_estimatesOf_64 (by (try simp (disch := omega) only [upo, upm, ups]); omega) (by (try simp (disch := omega) only [upo, upm, ups]); omega) (by (try simp (disch := omega) only [upo, upm, ups]); omega) (by (try simp (disch := omega) only [upo, upm, ups]); omega) ?_
      refine ih (am_up L 79 x6 (rE (I0 67) x1 x2 x3 x6)) (x4 + ((am_up L 79 x6 (rE (I0 67) x1 x2 x3 x6)) 79 x6)) (x6 + 1) (by omega) (by omega) (fun k k1 => by rw [upn k1]; exact i2 k k1) ?_ (fun e a1 a2 => ?_) (by (try simp (disch := omega) only [upo, upm, ups]); omega) (by omega)
      · rw [ups, sm_step (by omega), ← i3]
      · by_cases ee : e = x6
        · rw [ee, ups]
        · rw [upo ee]
          exact i4 e a1 (by omega)
theorem lp_M_estimatesOf {ro : Nat → Int × (Int → Int)} {d : Nat} {b : Bool} {Q : Option am_V → am_H → Prop} {bc bs : Nat} {x1 x2 : Int} {I0 L0 : Nat → Int → Int} (hM : Mo I0 L0) (hx : 0 ≤ x1 ∧ x1 ≤ 40) (H : ∀ I L : Nat → Int → Int, (∀ k, k ≠ 78 → k ≠ 80 → I k = I0 k) → (∀ k, k ≠ 79 → L k = L0 k) → (∀ e, 0 ≤ e → e < I0 67 2 → I 78 e = est (I0 67) x1 x2 e) → Q none (sh b, I, L)) : ∀ (n : Nat) (I L : Nat → Int → Int) (x3 : Int), (0 ≤ x3) → (x3 ≤ 4) → ((∀ k, k ≠ 78 → k ≠ 80 → I k = I0 k)) → ((∀ k, k ≠ 79 → L k = L0 k)) → (∀ e, 0 ≤ e → e < I0 67 2 → I 78 e = sm (fun g => est1 (I0 67) x1 x2 g e) x3.toNat) → (∀ e, 0 ≤ e → e < I0 67 2 → 0 ≤ I 78 e ∧ I 78 e ≤ 9999999 * x3) → 4 - x3 < (n : Int) → am_ex (am_m ro (d + 3)) ro am_M216 Q (27, [some (am_R 66), some (am_I x1), some (am_I x2), some (am_I x3), none, none, none], [], (sh b, I, L), bc, bs) := by
  intro n
  induction n with
  | zero =>
    intro I L x3 i0 i1 i2 i3 i4 i5 im
    exact absurd im (by omega)
  | succ n ih =>
    intro I L x3 i0 i1 i2 i3 i4 i5 im
    have ct := Mo_ct hM
    refine b_M_estimatesOf_27  (fun c1 => ?_) (fun c1 => ?_)
    · refine b_M_estimatesOf_115  ?_
      have e9 : x3 = 4 := by omega
      rw [e9] at i4
      exact H I L i2 i3 i4
    · refine b_M_estimatesOf_32  ?_
      exact lq_M_estimatesOf (d := d) hM (by omega) i2 i4 i5 (fun I9 L9 f1 f2 f3 f4 => ih I9 L9 (x3 + 1) (by omega) (by omega) f1 f2 f3 f4 (by omega)) 31 L 0 0 (by omega) (by omega) i3 rfl (fun e a1 a2 => by omega) (by omega) (by omega)
theorem lo_M_estimatesOf {ro : Nat → Int × (Int → Int)} {d : Nat} {b : Bool} {Q : Option am_V → am_H → Prop} {bc bs : Nat} {x1 x2 : Int} {I0 L : Nat → Int → Int} (hM : Mo I0 L) (hx : 0 ≤ x1 ∧ x1 ≤ 40) (H : ∀ I L9 : Nat → Int → Int, (∀ k, k ≠ 78 → k ≠ 80 → I k = I0 k) → (∀ k, k ≠ 79 → L9 k = L k) → (∀ e, 0 ≤ e → e < I0 67 2 → I 78 e = est (I0 67) x1 x2 e) → Q none (sh b, I, L9)) : ∀ (n : Nat) (I : Nat → Int → Int) (x3 : Int), (0 ≤ x3) → (x3 ≤ I0 67 2) → ((∀ k, k ≠ 78 → k ≠ 80 → I k = I0 k)) → (∀ e, 0 ≤ e → e < x3 → I 78 e = 0) → I0 67 2 - x3 < (n : Int) → am_ex (am_m ro (d + 3)) ro am_M216 Q (2, [some (am_R 66), some (am_I x1), some (am_I x2), some (am_I x3), none, none, none], [], (sh b, I, L), bc, bs) := by
  intro n
  induction n with
  | zero =>
    intro I x3 i0 i1 i2 i3 im
    exact absurd im (by omega)
  | succ n ih =>
    intro I x3 i0 i1 i2 i3 im
    have ct := Mo_ct hM
    have e67 : I 67 = I0 67 := i2 67 (by omega) (by omega)
    have e672 : I 67 2 = I0 67 2 := by rw [e67]
    refine b_M_estimatesOf_2  (fun c1 => ?_) (fun c1 => ?_)
    · refine b_M_estimatesOf_25  ?_
      exact lp_M_estimatesOf (d := d) (I0 := I0) (L0 := L) hM hx H 5 I L 0 (by omega) (by omega) i2 (fun _ _ => rfl) (fun e a1 a2 => i3 e a1 (by omega)) (fun e a1 a2 => by have := i3 e a1 (by omega); omega) (by omega)
    · refine b_M_estimatesOf_12 (by omega) (by omega) ?_
      exact ih (am_up I 78 x3 0) (x3 + 1) (by omega) (by omega) (by intro k k1 k2; rw [upn k1]; exact i2 k k1 k2) (by intro e a1 a2; by_cases ee : e = x3; (· rw [ee, ups]); (· rw [upo ee]; exact i3 e a1 (by omega))) (by omega)
theorem s_M_estimatesOf {ro : Nat → Int × (Int → Int)} {d : Nat} {b : Bool} {I L : Nat → Int → Int} {Q : Option am_V → am_H → Prop} {x1 x2 : Int} (hM : Mo I L) (hx : 0 ≤ x1 ∧ x1 ≤ 40) (H : ∀ I' L' : Nat → Int → Int, (∀ k, k ≠ 78 → k ≠ 80 → I' k = I k) → (∀ k, k ≠ 79 → L' k = L k) → (∀ e, 0 ≤ e → e < I 67 2 → I' 78 e = est (I 67) x1 x2 e) → Q none (sh b, I', L')) : am_m ro (d + 4) 216 [am_R 66, am_I x1, am_I x2] (sh b, I, L) Q := by
  have ct := Mo_ct hM
  refine am_in rfl rfl rfl rfl ?_
  refine b_M_estimatesOf_0  ?_
  exact lo_M_estimatesOf (d := d) hM hx H ((I 67 2).toNat + 1) I 0 (by omega) (by omega) (fun _ _ _ => rfl) (fun e a1 a2 => by omega) (by omega)
theorem Sc_es {I L I' L' : Nat → Int → Int} (h1 : ∀ k, k ≠ 78 → k ≠ 80 → I' k = I k) (h2 : ∀ k, k ≠ 79 → L' k = L k) : Sc I L I' L' :=
  ⟨fun k a1 a2 a3 a4 a5 a6 a7 a8 a9 a10 a11 a12 => h1 k a10 a11, fun j a => by rw [h1 66 (by omega) (by omega)], fun k a => h2 k (by omega)⟩
theorem o_M_estimate {ro : Nat → Int × (Int → Int)} {d : Nat} {b : Bool} {I L : Nat → Int → Int} {Q : Option am_V → am_H → Prop} {x1 x2 x3 : Int} (hM : Mo I L) (H1 : ¬ ((0 ≤ x1 ∧ x1 ≤ I 67 0) ∧ (0 ≤ x3 ∧ x3 ≤ I 67 0) ∧ 0 ≤ x2 ∧ x2 < I 67 2) → Q (some (am_I 0)) (sh b, rfM I (-3), L)) (H2 : (0 ≤ x1 ∧ x1 ≤ I 67 0) ∧ (0 ≤ x3 ∧ x3 ≤ I 67 0) ∧ 0 ≤ x2 ∧ x2 < I 67 2 → ∀ I' L' : Nat → Int → Int, Sc I L I' L' → Q (some (am_I (est (I 67) x1 x3 x2))) (sh b, I', L')) : am_m ro (d + 5) 230 [am_R 66, am_I x1, am_I x2, am_I x3] (sh b, I, L) Q := by
  have ct := Mo_ct hM
  refine am_in rfl rfl rfl rfl ?_
  refine b_M_estimate_0  (s_M_isYear (fun c1 => ?_) (fun c1 => ?_))
  · refine b_M_estimate_5  (fun c2 => absurd c2 (by decide)) (fun c2 => ?_)
    refine b_M_estimate_8  (s_M_isEdition (by omega) (fun c3 => ?_) (fun c3 => ?_))
    · refine b_M_estimate_13  (fun c4 => absurd c4 (by decide)) (fun c4 => ?_)
      refine b_M_estimate_16  (s_M_isYear (fun c5 => ?_) (fun c5 => ?_))
      · refine b_M_estimate_21  (fun c6 => ?_) (fun c6 => absurd c6 (by decide))
        refine b_M_estimate_31  (s_M_estimatesOf hM (by omega) (fun I9 L9 g1 g2 r9 => ?_))
        have q9 := r9 x2 (by omega) (by omega)
        refine b_M_estimate_37 (by omega) ?_
        rw [q9]
        exact H2 (by omega) I9 L9 (Sc_es g1 g2)
      · refine b_M_estimate_21  (fun c7 => absurd c7 (by decide)) (fun c7 => ?_)
        refine b_M_estimate_24  (s_M_nought (by omega) ?_)
        refine b_M_estimate_30  ?_
        exact H1 (by omega)
    · refine b_M_estimate_13  (fun c8 => ?_) (fun c8 => absurd c8 (by decide))
      refine b_M_estimate_24  (s_M_nought (by omega) ?_)
      refine b_M_estimate_30  ?_
      exact H1 (by omega)
  · refine b_M_estimate_5  (fun c9 => ?_) (fun c9 => absurd c9 (by decide))
    refine b_M_estimate_24  (s_M_nought (by omega) ?_)
    refine b_M_estimate_30  ?_
    exact H1 (by omega)
theorem A_estimate {ro : Nat → Int × (Int → Int)} {d : Nat} {b : Bool} {I L : Nat → Int → Int} {x1 x2 x3 : Int} (hI : Inv b I L) : am_m ro (d + 5) 26 [am_R 0, am_I x1, am_I x2, am_I x3] (sh b, I, L) (fun r h => am_m ro (d + 5) 230 [am_R 66, am_I x1, am_I x2, am_I x3] h (fun r2 h2 => Pair r r2 h2)) := by
  have hC := Cor_of hI
  have ct := Cor_ct hC
  refine o_P_estimate hC (fun a => ?_) (fun a I1 L1 s1 => ?_)
  · refine o_M_estimate (by repeat (first | exact Mo_of hC | refine Mo_rf ?_ | refine Mo_up ?_ (by decide))) (fun a2 => Pair_rf hI) (fun a2 => by (try simp (disch := omega) only [rfm, rfn] at a2); omega)
  · have f67 := Sc_67 s1
    refine o_M_estimate (Mo_sc (Mo_of hC) s1) (fun a2 => by rw [f67] at a2; omega) (fun a2 I2 L2 s2 => ?_)
    rw [f67]
    exact ⟨_, b, I2, L2, rfl, rfl, rfl, Inv_sc hI (Sc_tr s1 s2)⟩
theorem lp_M_book {ro : Nat → Int × (Int → Int)} {d : Nat} {b : Bool} {I L : Nat → Int → Int} {Q : Option am_V → am_H → Prop} {bc bs : Nat} {x2 : Int} {f g : Int → Int} {m9 : Int} (hm : I 67 2 = m9 ∧ 0 ≤ m9 ∧ m9 ≤ 30 ∧ 0 ≤ x2 ∧ x2 < m9) (hf : ∀ k, 0 ≤ k → k < m9 → I 78 k = f k ∧ 0 ≤ f k ∧ f k ≤ 39999996) (hg : ∀ k, 0 ≤ k → k < m9 → I 67 (370 + k) = g k) (H : Q (some (am_L (sm (fun k => if g k = g x2 then f k else 0) m9.toNat))) (sh b, I, L)) : ∀ (n : Nat) (x3 x5 : Int), (0 ≤ x5) → (x5 ≤ m9) → (x3 = sm (fun k => if g k = g x2 then f k else 0) x5.toNat) → (0 ≤ x3 ∧ x3 ≤ 39999996 * x5) → m9 - x5 < (n : Int) → am_ex (am_m ro (d + 0)) ro am_M231 Q (40, [some (am_R 66), none, some (am_I x2), some (am_L x3), none, some (am_I x5)], [], (sh b, I, L), bc, bs) := by
  intro n
  induction n with
  | zero =>
    intro x3 x5 i0 i1 i2 i3 im
    exact absurd im (by omega)
  | succ n ih =>
    intro x3 x5 i0 i1 i2 i3 im
    refine b_M_book_40  (fun c1 => ?_) (fun c1 => ?_)
    · refine b_M_book_96  ?_
      have e9 : x5 = m9 := by omega
      rw [i2, e9]
      exact H
    · have q9 := hf x5 (by omega) (by omega)
      have g9 := hg x5 (by omega) (by omega)
      have g8 := hg x2 (by omega) (by omega)
      refine b_M_book_51 (by omega) (by omega) (by omega) (by omega) (fun c2 => ?_) (fun c2 => ?_)
      · refine b_M_book_87  ?_
        refine b_M_book_88 (by omega) (by omega) ?_
        exact ih (x3 + 0) (x5 + 1) (by omega) (by omega) (by rw [sm_step (by omega), ← i2]; first | (rw [if_pos (by omega)]; omega) | (rw [if_neg (by omega)])) (by omega) (by omega)
      · refine b_M_book_76 (by omega) ?_
        refine b_M_book_88 (by omega) (by omega) ?_
        exact ih (x3 + (I 78 x5)) (x5 + 1) (by omega) (by omega) (by rw [sm_step (by omega), ← i2]; first | (rw [if_pos (by omega)]; omega) | (rw [if_neg (by omega)])) (by omega) (by omega)
theorem o_M_book {ro : Nat → Int × (Int → Int)} {d : Nat} {b : Bool} {I L : Nat → Int → Int} {Q : Option am_V → am_H → Prop} {x1 x2 : Int} (hM : Mo I L) (H1 : ¬ ((0 ≤ x1 ∧ x1 ≤ I 67 0) ∧ 0 ≤ x2 ∧ x2 < I 67 2) → Q (some (am_L 0)) (sh b, rfM I (-3), L)) (H2 : (0 ≤ x1 ∧ x1 ≤ I 67 0) ∧ 0 ≤ x2 ∧ x2 < I 67 2 → ∀ I' L' : Nat → Int → Int, Sc I L I' L' → Q (some (am_L (sm (fun k => if I 67 (370 + k) = I 67 (370 + x2) then est (I 67) x1 (I 67 0) k else 0) (I 67 2).toNat))) (sh b, I', L')) : am_m ro (d + 5) 231 [am_R 66, am_I x1, am_I x2] (sh b, I, L) Q := by
  have ct := Mo_ct hM
  refine am_in rfl rfl rfl rfl ?_
  refine b_M_book_0  (s_M_isYear (fun c1 => ?_) (fun c1 => ?_))
  · refine b_M_book_5  (fun c2 => absurd c2 (by decide)) (fun c2 => ?_)
    refine b_M_book_8  (s_M_isEdition (by omega) (fun c3 => ?_) (fun c3 => ?_))
    · refine b_M_book_13  (fun c4 => ?_) (fun c4 => absurd c4 (by decide))
      refine b_M_book_24  (s_M_estimatesOf hM (by omega) (fun I9 L9 g1 g2 r9 => ?_))
      refine b_M_book_35  ?_
      have f67 : I9 67 = I 67 := g1 67 (by omega) (by omega)
      refine lp_M_book (d := d + 4) (f := fun k => est (I 67) x1 (I 67 0) k) (m9 := I 67 2) (g := fun k => I 67 (370 + k)) (by rw [f67]; omega) (fun k a1 a2 => ⟨r9 k a1 a2, est_bd hM (by omega) ⟨a1, a2⟩⟩) (fun k a1 a2 => by rw [f67]) (H2 (by omega) I9 L9 (Sc_es g1 g2)) 31 0 0 (by omega) (by omega) rfl (by omega) (by omega)
    · refine b_M_book_13  (fun c5 => absurd c5 (by decide)) (fun c5 => ?_)
      refine b_M_book_16  (s_M_nought (by omega) ?_)
      refine b_M_book_22  ?_
      exact H1 (by omega)
  · refine b_M_book_5  (fun c6 => ?_) (fun c6 => absurd c6 (by decide))
    refine b_M_book_16  (s_M_nought (by omega) ?_)
    refine b_M_book_22  ?_
    exact H1 (by omega)
theorem A_book {ro : Nat → Int × (Int → Int)} {d : Nat} {b : Bool} {I L : Nat → Int → Int} {x1 x2 : Int} (hI : Inv b I L) : am_m ro (d + 5) 27 [am_R 0, am_I x1, am_I x2] (sh b, I, L) (fun r h => am_m ro (d + 5) 231 [am_R 66, am_I x1, am_I x2] h (fun r2 h2 => Pair r r2 h2)) := by
  have hC := Cor_of hI
  have ct := Cor_ct hC
  refine o_P_book hC (fun a => ?_) (fun a I1 L1 s1 => ?_)
  · refine o_M_book (by repeat (first | exact Mo_of hC | refine Mo_rf ?_ | refine Mo_up ?_ (by decide))) (fun a2 => Pair_rf hI) (fun a2 => by (try simp (disch := omega) only [rfm, rfn] at a2); omega)
  · have f67 := Sc_67 s1
    refine o_M_book (Mo_sc (Mo_of hC) s1) (fun a2 => by rw [f67] at a2; omega) (fun a2 I2 L2 s2 => ?_)
    rw [f67]
    exact ⟨_, b, I2, L2, rfl, rfl, rfl, Inv_sc hI (Sc_tr s1 s2)⟩
