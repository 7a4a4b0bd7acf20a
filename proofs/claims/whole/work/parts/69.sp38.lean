theorem lp_M_comes {ro : Nat → Int × (Int → Int)} {d : Nat} {b : Bool} {I : Nat → Int → Int} {Q : Option am_V → am_H → Prop} {bc bs : Nat} {x1 x2 x3 x5 : Int} {L0 : Nat → Int → Int} {m9 : Nat} (hP : Pm (I 67)) (hx : 0 ≤ x1 ∧ x1 < I 67 3) (hv : 0 ≤ x3 ∧ x3 ≤ 10000000000000000) (h5 : 1 ≤ x5 ∧ x5 ≤ 4) (h0 : ∀ q, 0 ≤ q → q < 20 → 0 ≤ L0 81 q ∧ L0 81 q + x3 ≤ 100000000000000000) (hd : dead (I 67) x2 x1) (Hrec : ∀ (L : Nat → Int → Int) (z v : Int) (Q : Option am_V → am_H → Prop), 0 ≤ z → z < I 67 3 → 0 ≤ v → v ≤ 10000000000000000 → (∀ q, 0 ≤ q → q < 20 → 0 ≤ L 81 q ∧ L 81 q + v ≤ 100000000000000000) → (∀ L' : Nat → Int → Int, (∀ k, k ≠ 81 → L' k = L k) → (∀ q, 0 ≤ q → q < 20 → L' 81 q = L 81 q + ctb (I 67) x2 m9 z v q) → Q none (sh b, I, L')) → am_m ro (d + 0) 220 [am_R 66, am_I z, am_I x2, am_L v, am_I (x5 - 1)] (sh b, I, L) Q) (H : ∀ L : Nat → Int → Int, (∀ k, k ≠ 81 → L k = L0 k) → (∀ q, 0 ≤ q → q < 20 → L 81 q = L0 81 q + ctb (I 67) x2 (m9 + 1) x1 x3 q) → Q none (sh b, I, L)) : ∀ (n : Nat) (L : Nat → Int → Int) (x6 : Int), (0 ≤ x6) → (x6 ≤ I 67 3) → (∀ k, k ≠ 81 → L k = L0 k) → (∀ q, 0 ≤ q → q < 20 → L 81 q = L0 81 q + ctk (I 67) x2 m9 x1 x3 q x6.toNat) → I 67 3 - x6 < (n : Int) → am_ex (am_m ro (d + 0)) ro am_M220 Q (39, [some (am_R 66), some (am_I x1), some (am_I x2), some (am_L x3), none, some (am_I x5), some (am_I x6)], [], (sh b, I, L), bc, bs) := by
  intro n
  induction n with
  | zero =>
    intro L x6 i0 i1 i2 i3 im
    exact absurd im (by omega)
  | succ n ih =>
    intro L x6 i0 i1 i2 i3 im
    have hp1 := hP.1
    refine b_M_comes_39  (fun c1 => ?_) (fun c1 => ?_)
    · refine b_M_comes_109  ?_
      have e9 : x6 = I 67 3 := by omega
      refine H L i2 (fun q q1 q2 => ?_)
      have e8 : ctb (I 67) x2 (m9 + 1) x1 x3 q = ctk (I 67) x2 m9 x1 x3 q (I 67 3).toNat := if_pos hd
      rw [i3 q q1 q2, e9, e8]
    · have a21 := hP.2.1 x1 x6 hx.1 hx.2 (by omega) (by omega)
      have kb := fun q (q1 : 0 ≤ q) (q2 : q < 20) => ctk_bd (y := x2) (m := m9) (n := x1) (v := x3) (q := q) (i := x6) hP hx.1 hx.2 hv.1 ⟨q1, q2⟩ ⟨by omega, by omega⟩
      have k0 := kb 0 (by omega) (by omega)
      have mb := mulb (a := x3) (c := I 67 (500 + 20 * x1 + x6)) (A := 10000000000000000) (C := 100) hv a21
      refine b_M_comes_50 (by omega) (by omega) (by omega) (by omega) (fun c2 => ?_) (fun c2 => ?_)
      · refine b_M_comes_103 (by omega) ?_
        refine ih L (x6 + 1) (by omega) (by omega) i2 (fun q q1 q2 => ?_) (by omega)
        rw [i3 q q1 q2, ctk_s (by omega), if_neg (by omega)]
        omega
      · refine b_M_comes_69 (by omega) (by omega) (by omega) (by omega) (by omega) (by omega) (by omega) (Hrec _ x6 (x3 * I 67 (500 + 20 * x1 + x6) / 100) _ (by omega) (by omega) (by omega) (by omega) (fun q q1 q2 => by have k9 := kb q q1 q2; have k8 := h0 q q1 q2; rw [i3 q q1 q2]; omega) (fun L9 f1 f2 => ?_))
        refine b_M_comes_103 (by omega) ?_
        refine ih L9 (x6 + 1) (by omega) (by omega) (fun k hk => (f1 k hk).trans (i2 k hk)) (fun q q1 q2 => ?_) (by omega)
        rw [f2 q q1 q2, i3 q q1 q2, ctk_s (by omega), if_pos (by omega)]
        omega
theorem s_M_isDead {ro : Nat → Int × (Int → Int)} {d : Nat} {b : Bool} {I L : Nat → Int → Int} {Q : Option am_V → am_H → Prop} {x1 x2 : Int} (hx : 0 ≤ x1 ∧ x1 < 20) (H1 : dead (I 67) x2 x1 → Q (some (am_I 1)) (sh b, I, L)) (H0 : ¬ (dead (I 67) x2 x1) → Q (some (am_I 0)) (sh b, I, L)) : am_m ro (d + 1) 219 [am_R 66, am_I x1, am_I x2] (sh b, I, L) Q := by
  refine am_in rfl rfl rfl rfl ?_
  refine b_M_isDead_0 (by omega) (by omega) (fun c1 => ?_) (fun c1 => ?_)
  · refine b_M_isDead_33  ?_
    refine b_M_isDead_34 (by omega) ?_
    exact H0 (by unfold dead; omega)
  · refine b_M_isDead_15 (by omega) (by omega) (fun c2 => ?_) (fun c2 => ?_)
    · refine b_M_isDead_33  ?_
      refine b_M_isDead_34 (by omega) ?_
      exact H0 (by unfold dead; omega)
    · refine b_M_isDead_29  ?_
      refine b_M_isDead_34 (by omega) ?_
      exact H1 (by unfold dead; omega)
theorem s_M_comes {ro : Nat → Int × (Int → Int)} {b : Bool} {I : Nat → Int → Int} {x2 : Int} (hP : Pm (I 67)) : ∀ (m : Nat) {d : Nat} {L : Nat → Int → Int} {Q : Option am_V → am_H → Prop} {x1 x3 x5 : Int}, x5 = (m : Int) → 0 ≤ x1 ∧ x1 < I 67 3 → 0 ≤ x3 ∧ x3 ≤ 10000000000000000 → m ≤ 4 → (∀ q, 0 ≤ q → q < 20 → 0 ≤ L 81 q ∧ L 81 q + x3 ≤ 100000000000000000) → (∀ L' : Nat → Int → Int, (∀ k, k ≠ 81 → L' k = L k) → (∀ q, 0 ≤ q → q < 20 → L' 81 q = L 81 q + ctb (I 67) x2 m x1 x3 q) → Q none (sh b, I, L')) → am_m ro (d + m + 2) 220 [am_R 66, am_I x1, am_I x2, am_L x3, am_I x5] (sh b, I, L) Q := by
  intro m
  induction m with
  | zero =>
    intro d L Q x1 x3 x5 hm hx hv hm4 hb H
    have p3 := hP.1
    have pq := hP.2.2.2 x1 hx.1 hx.2
    have bq := hb (I 67 (480 + x1)) (by omega) (by omega)
    refine am_in (d := d + 1) rfl rfl rfl rfl ?_
    refine b_M_comes_0  (s_M_isDead (by omega) (fun t1 => ?_) (fun t1 => ?_))
    · refine b_M_comes_6  (fun c1 => ?_) (fun c1 => absurd c1 (by decide))
      refine b_M_comes_31  (fun c2 => ?_) (fun c2 => ?_)
      · refine b_M_comes_109  ?_
        refine H L (fun _ _ => rfl) (fun q q1 q2 => ?_)
        have e8 : ctb (I 67) x2 0 x1 x3 q = 0 := if_pos t1
        rw [e8]
        omega
      · refine b_M_comes_36  ?_
        exfalso
        omega
    · refine b_M_comes_6  (fun c3 => absurd c3 (by decide)) (fun c3 => ?_)
      refine b_M_comes_9 (by omega) (by omega) (by omega) (by omega) (by omega) ?_
      refine b_M_comes_109  ?_
      refine H _ (fun k hk => upn hk) (fun q q1 q2 => ?_)
      have e8 : ctb (I 67) x2 0 x1 x3 q = if q = I 67 (480 + x1) then x3 else 0 := if_neg t1
      rw [e8]
      by_cases e7 : q = I 67 (480 + x1)
      · rw [e7, ups, if_pos rfl]
      · rw [upo e7, if_neg e7]
        omega
  | succ m ih =>
    intro d L Q x1 x3 x5 hm hx hv hm4 hb H
    have p3 := hP.1
    have pq := hP.2.2.2 x1 hx.1 hx.2
    have bq := hb (I 67 (480 + x1)) (by omega) (by omega)
    refine am_in (d := d + m + 2) rfl rfl rfl rfl ?_
    refine b_M_comes_0  (s_M_isDead (by omega) (fun t1 => ?_) (fun t1 => ?_))
    · refine b_M_comes_6  (fun c1 => ?_) (fun c1 => absurd c1 (by decide))
      refine b_M_comes_31  (fun c2 => ?_) (fun c2 => ?_)
      · refine b_M_comes_109  ?_
        exfalso
        omega
      · refine b_M_comes_36  ?_
        refine lp_M_comes (d := d + m + 2) (m9 := m) hP hx hv (by omega) hb t1 (fun L9 z v Q9 z1 z2 z3 z6 z4 z5 => ih (by omega) ⟨z1, z2⟩ ⟨z3, z6⟩ (by omega) z4 z5) H 21 L 0 (by omega) (by omega) (fun _ _ => rfl) (fun q q1 q2 => ?_) (by omega)
        show _ = _ + 0
        omega
    · refine b_M_comes_6  (fun c3 => absurd c3 (by decide)) (fun c3 => ?_)
      refine b_M_comes_9 (by omega) (by omega) (by omega) (by omega) (by omega) ?_
      refine b_M_comes_109  ?_
      refine H _ (fun k hk => upn hk) (fun q q1 q2 => ?_)
      have e8 : ctb (I 67) x2 (m + 1) x1 x3 q = if q = I 67 (480 + x1) then x3 else 0 := if_neg t1
      rw [e8]
      by_cases e7 : q = I 67 (480 + x1)
      · rw [e7, ups, if_pos rfl]
      · rw [upo e7, if_neg e7]
        omega
def bnd (v : Int) : Int := max 0 (min 100 v)
def kpt (k : Int) : Int := if k = 2 then 6 else if k = 3 then 7 else if k = 4 then 4 else if k = 5 then 6 else 12
def ptS (p E : Int → Int) (y w s : Int) : Int := if sy p (nmS p E y s) 0 y w = 0 then 0 else E (p (900 + s)) * kpt (p (280 + p (900 + s))) * p (1080 + s) * bnd (sy p (nmS p E y s) 1 y w) * (if p (420 + p (960 + s)) = 0 then 100 else bnd (sy p (nmS p E y s) 2 y w)) / 1000000
theorem kpt_bd {k : Int} : 4 ≤ kpt k ∧ kpt k ≤ 12 := by
  unfold kpt
  (repeat split) <;> omega
theorem bnd_bd {v : Int} : 0 ≤ bnd v ∧ bnd v ≤ 100 := by
  unfold bnd
  omega
/-- the five factors -/
theorem fac {e k s a c : Int} (he : 0 ≤ e ∧ e ≤ 39999996) (hk : 0 ≤ k ∧ k ≤ 12) (hs : 1 ≤ s ∧ s ≤ 100) (ha : 0 ≤ a ∧ a ≤ 100) (hc : 0 ≤ c ∧ c ≤ 100) : (0 ≤ e * k ∧ e * k ≤ 479999952) ∧ (0 ≤ e * k * s ∧ e * k * s ≤ 47999995200) ∧ (0 ≤ e * k * s * a ∧ e * k * s * a ≤ 4799999520000) ∧ (0 ≤ e * k * s * a * c ∧ e * k * s * a * c ≤ 479999952000000) ∧ (0 ≤ e * k * s * a * c / 1000000 ∧ e * k * s * a * c / 1000000 ≤ 479999952 ∧ 100 * (e * k * s * a * c / 1000000) ≤ e * 12 * s) := by
  have m1 := mulb he hk
  have m2 := mulb (a := e * k) (c := s) (A := 479999952) (C := 100) (by omega) (by omega)
  have m3 := mulb (a := e * k * s) (c := a) (A := 47999995200) (C := 100) (by omega) ha
  have m4 := mulb (a := e * k * s * a) (c := c) (A := 4799999520000) (C := 100) (by omega) hc
  have n1 := Int.mul_le_mul_of_nonneg_left hk.2 he.1
  have n2 := Int.mul_le_mul_of_nonneg_right n1 (show 0 ≤ s by omega)
  have n3 := mulb (a := e * k * s) (c := a) (A := e * 12 * s) (C := 100) ⟨m2.1, n2⟩ ha
  have n4 := mulb (a := e * k * s * a) (c := c) (A := e * 12 * s * 100) (C := 100) ⟨m3.1, n3.2⟩ hc
  omega
theorem ptS_bd {p E : Int → Int} {y w s : Int} (he : 0 ≤ E (p (900 + s)) ∧ E (p (900 + s)) ≤ 39999996) (hs : 1 ≤ p (1080 + s) ∧ p (1080 + s) ≤ 100) : 0 ≤ ptS p E y w s ∧ ptS p E y w s ≤ 479999952 ∧ 100 * ptS p E y w s ≤ E (p (900 + s)) * 12 * p (1080 + s) := by
  unfold ptS
  have kb := kpt_bd (k := p (280 + p (900 + s)))
  split
  · have := Int.mul_nonneg (show 0 ≤ E (p (900 + s)) * 12 by omega) (show 0 ≤ p (1080 + s) by omega)
    omega
  · have f := fac he (show 0 ≤ kpt (p (280 + p (900 + s))) ∧ kpt (p (280 + p (900 + s))) ≤ 12 by omega) hs (bnd_bd (v := sy p (nmS p E y s) 1 y w)) (show 0 ≤ (if p (420 + p (960 + s)) = 0 then 100 else bnd (sy p (nmS p E y s) 2 y w)) ∧ (if p (420 + p (960 + s)) = 0 then 100 else bnd (sy p (nmS p E y s) 2 y w)) ≤ 100 by have := bnd_bd (v := sy p (nmS p E y s) 2 y w); split <;> omega)
    omega
theorem ptS_cg {p E E' : Int → Int} {y w s : Int} (h : E (p (900 + s)) = E' (p (900 + s))) : ptS p E y w s = ptS p E' y w s := by
  unfold ptS
  rw [nmS_cg (y := y) h, h]
theorem ptS_0 {p E : Int → Int} {y w s : Int} (h : E (p (900 + s)) = 0) : ptS p E y w s = 0 := by
  unfold ptS
  rw [h]
  split
  · rfl
  · rw [Int.zero_mul, Int.zero_mul, Int.zero_mul, Int.zero_mul]
    rfl
def pnt (p E : Int → Int) (y w q : Int) : Int := sm (fun s => ctb p y 4 (p (960 + s)) (ptS p E y w s) q) (p 4).toNat
/-- all points together -/
theorem pnt_sum {I L : Nat → Int → Int} {y w a : Int} (h : Mo I L) (hy : 0 ≤ y ∧ y ≤ 40) : (∀ q, 0 ≤ pnt (I 67) (fun e => est (I 67) y a e) y w q) ∧ sm (fun q => pnt (I 67) (fun e => est (I 67) y a e) y w q) 20 ≤ 479999952 := by
  have hP := Mo_Pm h
  have ct := Mo_ct h
  obtain ⟨C, CL, hM0⟩ := id h
  have s5 := hM0.1.2.2.2.2.2.1.2.2.2.2
  have u3 := hM0.1.2.2.2.2.2.2.2.2.1.2.2
  have hb : ∀ s, 0 ≤ s → s < I 67 4 → 0 ≤ ptS (I 67) (fun e => est (I 67) y a e) y w s ∧ ptS (I 67) (fun e => est (I 67) y a e) y w s ≤ 479999952 ∧ 100 * ptS (I 67) (fun e => est (I 67) y a e) y w s ≤ est (I 67) y a (I 67 (900 + s)) * 12 * I 67 (1080 + s) := fun s a1 a2 => by
    have w5 := s5 s a1 a2
    exact ptS_bd (E := fun e => est (I 67) y a e) (est_bd h hy (by omega)) (by omega)
  have hc : ∀ s, 0 ≤ s → s < I 67 4 → (∀ q, 0 ≤ ctb (I 67) y 4 (I 67 (960 + s)) (ptS (I 67) (fun e => est (I 67) y a e) y w s) q) ∧ sm (fun q => ctb (I 67) y 4 (I 67 (960 + s)) (ptS (I 67) (fun e => est (I 67) y a e) y w s) q) 20 ≤ ptS (I 67) (fun e => est (I 67) y a e) y w s := fun s a1 a2 => by
    have w5 := s5 s a1 a2
    exact ctb_sum hP 4 _ _ (by omega) (by omega) (hb s a1 a2).1
  refine ⟨fun q => sm_nn _ (fun s a1 a2 => (hc s a1 (by omega)).1 q), ?_⟩
  have e1 : sm (fun q => pnt (I 67) (fun e => est (I 67) y a e) y w q) 20 = sm (fun s => sm (fun q => ctb (I 67) y 4 (I 67 (960 + s)) (ptS (I 67) (fun e => est (I 67) y a e) y w s) q) 20) (I 67 4).toNat := (sm_swap (f := fun s q => ctb (I 67) y 4 (I 67 (960 + s)) (ptS (I 67) (fun e => est (I 67) y a e) y w s) q) 20 (I 67 4).toNat).symm
  have l1 := sm_mono (f := fun s => sm (fun q => ctb (I 67) y 4 (I 67 (960 + s)) (ptS (I 67) (fun e => est (I 67) y a e) y w s) q) 20) (g := fun s => ptS (I 67) (fun e => est (I 67) y a e) y w s) (I 67 4).toNat (fun s a1 a2 => (hc s a1 (by omega)).2)
  -- by editions
  have l2 := sm_mono (f := fun s => 100 * ptS (I 67) (fun e => est (I 67) y a e) y w s) (g := fun s => sm (fun e => 12 * est (I 67) y a e * (if I 67 (900 + s) = e then I 67 (1080 + s) else 0)) (I 67 2).toNat) (I 67 4).toNat (fun s a1 a2 => by
    have w5 := s5 s a1 (by omega)
    have b9 := (hb s a1 (by omega)).2.2
    have o1 := sm_one (f := fun e => 12 * est (I 67) y a e * (if I 67 (900 + s) = e then I 67 (1080 + s) else 0)) (j := I 67 (900 + s)) (I 67 2).toNat (fun e e1 e2 => by
      have := est_bd (y := y) (a := a) (e := e) h hy ⟨e1, by omega⟩
      show 0 ≤ 12 * est (I 67) y a e * (if I 67 (900 + s) = e then I 67 (1080 + s) else 0)
      exact Int.mul_nonneg (by omega) (by split <;> omega)) (by omega) (by omega)
    have o2 : 12 * est (I 67) y a (I 67 (900 + s)) * (if I 67 (900 + s) = I 67 (900 + s) then I 67 (1080 + s) else 0) = est (I 67) y a (I 67 (900 + s)) * 12 * I 67 (1080 + s) := by rw [if_pos rfl, Int.mul_comm 12]
    show 100 * ptS (I 67) (fun e => est (I 67) y a e) y w s ≤ sm (fun e => 12 * est (I 67) y a e * (if I 67 (900 + s) = e then I 67 (1080 + s) else 0)) (I 67 2).toNat
    have o3 : 12 * est (I 67) y a (I 67 (900 + s)) * (if I 67 (900 + s) = I 67 (900 + s) then I 67 (1080 + s) else 0) ≤ sm (fun e => 12 * est (I 67) y a e * (if I 67 (900 + s) = e then I 67 (1080 + s) else 0)) (I 67 2).toNat := o1
    rw [o2] at o3
    omega)
  rw [sm_mul, sm_swap (f := fun s e => 12 * est (I 67) y a e * (if I 67 (900 + s) = e then I 67 (1080 + s) else 0)) (I 67 2).toNat (I 67 4).toNat] at l2
  have l3 := sm_mono (f := fun e => sm (fun s => 12 * est (I 67) y a e * (if I 67 (900 + s) = e then I 67 (1080 + s) else 0)) (I 67 4).toNat) (g := fun e => 1200 * est (I 67) y a e) (I 67 2).toNat (fun e e1 e2 => by
    have eb := est_bd (y := y) (a := a) (e := e) h hy ⟨e1, by omega⟩
    show sm (fun s => 12 * est (I 67) y a e * (if I 67 (900 + s) = e then I 67 (1080 + s) else 0)) (I 67 4).toNat ≤ 1200 * est (I 67) y a e
    rw [sm_mul]
    have := Int.mul_le_mul_of_nonneg_left (u3 e e1 (by omega)) (show 0 ≤ 12 * est (I 67) y a e by omega)
    omega)
  rw [sm_mul] at l3
  have l4 := est_sum (y := y) (a := a) h hy
  have l5 : sm (fun s => ptS (I 67) (fun e => est (I 67) y a e) y w s) (I 67 4).toNat = sm (ptS (I 67) (fun e => est (I 67) y a e) y w) (I 67 4).toNat := rfl
  have l6 : sm (fun e => est (I 67) y a e) (I 67 2).toNat = sm (est (I 67) y a) (I 67 2).toNat := rfl
  omega
