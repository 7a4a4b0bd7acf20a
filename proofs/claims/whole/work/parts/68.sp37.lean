def PoC (I : Nat → Int → Int) : Prop := Pm (I 67) ∧ I 15 0 = I 67 3 ∧ (∀ n, 0 ≤ n → n < 20 → I 19 n = I 67 (460 + n) ∧ I 20 n = I 67 (480 + n)) ∧ (∀ k, 0 ≤ k → k < 400 → I 21 k = I 67 (500 + k))
theorem PoC_of {I L : Nat → Int → Int} (h : Cor I L) : PoC I := by
  have lp := h.1.2.2.2.2.1
  exact ⟨Pm_of h.1, lp.1, fun n a1 a2 => ⟨(lp.2.2.2.1 n a1 a2).2.2.2.1, (lp.2.2.2.1 n a1 a2).2.2.2.2⟩, fun k a1 a2 => (lp.2.2.2.2.2 k a1 a2).1⟩
theorem Mo_Pm {I L : Nat → Int → Int} (h : Mo I L) : Pm (I 67) := by
  obtain ⟨C, CL, g, -⟩ := h
  exact Pm_of g
theorem lp_Pay_passOn {ro : Nat → Int × (Int → Int)} {d : Nat} {b : Bool} {I : Nat → Int → Int} {Q : Option am_V → am_H → Prop} {bc bs : Nat} {x2 x3 x5 x6 : Int} {L0 : Nat → Int → Int} {m9 : Nat} (hP : PoC I) (hx : 0 ≤ x2 ∧ x2 < I 67 3) (hv : 0 ≤ x3 ∧ x3 ≤ 10000000000000000) (h6 : 0 ≤ x6 ∧ x6 < 4) (h0 : ∀ q, 0 ≤ q → q < 20 → 0 ≤ L0 60 q ∧ L0 60 q + x3 ≤ 100000000000000000) (hd : dead (I 67) x5 x2) (Hrec : ∀ (L : Nat → Int → Int) (z v : Int) (Q : Option am_V → am_H → Prop), 0 ≤ z → z < I 67 3 → 0 ≤ v → v ≤ 10000000000000000 → (∀ q, 0 ≤ q → q < 20 → 0 ≤ L 60 q ∧ L 60 q + v ≤ 100000000000000000) → (∀ L' : Nat → Int → Int, (∀ k, k ≠ 60 → L' k = L k) → (∀ q, 0 ≤ q → q < 20 → L' 60 q = L 60 q + ctb (I 67) x5 m9 z v q) → Q none (sh b, I, L')) → am_m ro (d + 0) 145 [am_R 15, am_R 60, am_I z, am_L v, am_I x5, am_I (x6 + 1)] (sh b, I, L) Q) (H : ∀ L : Nat → Int → Int, (∀ k, k ≠ 60 → L k = L0 k) → (∀ q, 0 ≤ q → q < 20 → L 60 q = L0 60 q + ctb (I 67) x5 (m9 + 1) x2 x3 q) → Q none (sh b, I, L)) : ∀ (n : Nat) (L : Nat → Int → Int) (x7 : Int), (0 ≤ x7) → (x7 ≤ I 67 3) → (∀ k, k ≠ 60 → L k = L0 k) → (∀ q, 0 ≤ q → q < 20 → L 60 q = L0 60 q + ctk (I 67) x5 m9 x2 x3 q x7.toNat) → I 67 3 - x7 < (n : Int) → am_ex (am_m ro (d + 0)) ro am_M145 Q (41, [some (am_R 15), some (am_R 60), some (am_I x2), some (am_L x3), none, some (am_I x5), some (am_I x6), some (am_I x7), none, none], [], (sh b, I, L), bc, bs) := by
  intro n
  induction n with
  | zero =>
    intro L x7 i0 i1 i2 i3 im
    exact absurd im (by omega)
  | succ n ih =>
    intro L x7 i0 i1 i2 i3 im
    have e15 := hP.2.1
    have hp1 := hP.1.1
    refine b_Pay_passOn_41  (fun c1 => ?_) (fun c1 => ?_)
    · refine b_Pay_passOn_99  ?_
      have e9 : x7 = I 67 3 := by omega
      refine H L i2 (fun q q1 q2 => ?_)
      have e8 : ctb (I 67) x5 (m9 + 1) x2 x3 q = ctk (I 67) x5 m9 x2 x3 q (I 67 3).toNat := if_pos hd
      rw [i3 q q1 q2, e9, e8]
    · have e21 : I 21 (x2 * 20 + x7) = I 67 (500 + 20 * x2 + x7) := by rw [hP.2.2.2 (x2 * 20 + x7) (by omega) (by omega)]; congr 1; omega
      have a21 := hP.1.2.1 x2 x7 hx.1 hx.2 (by omega) (by omega)
      have kb := fun q (q1 : 0 ≤ q) (q2 : q < 20) => ctk_bd (y := x5) (m := m9) (n := x2) (v := x3) (q := q) (i := x7) hP.1 hx.1 hx.2 hv.1 ⟨q1, q2⟩ ⟨by omega, by omega⟩
      have k0 := kb 0 (by omega) (by omega)
      have mb := mulb (a := x3) (c := I 67 (500 + 20 * x2 + x7)) (A := 10000000000000000) (C := 100) hv a21
      have e22 : x3 * I 21 (x2 * 20 + x7) = x3 * I 67 (500 + 20 * x2 + x7) := by rw [e21]
      have e23 : x3 * I 21 (x2 * 20 + x7) / 100 = x3 * I 67 (500 + 20 * x2 + x7) / 100 := by rw [e21]
      refine b_Pay_passOn_50 (by omega) (by omega) (by omega) (fun c2 => ?_) (fun c2 => ?_)
      · refine b_Pay_passOn_93 (by omega) ?_
        refine ih L (x7 + 1) (by omega) (by omega) i2 (fun q q1 q2 => ?_) (by omega)
        rw [i3 q q1 q2, ctk_s (by omega), if_neg (by omega)]
        omega
      · refine b_Pay_passOn_72 (by omega) (by omega) (by omega) (Hrec _ x7 (x3 * I 21 (x2 * 20 + x7) / 100) _ (by omega) (by omega) (by omega) (by omega) (fun q q1 q2 => by have k9 := kb q q1 q2; have k8 := h0 q q1 q2; rw [i3 q q1 q2]; omega) (fun L9 f1 f2 => ?_))
        refine b_Pay_passOn_93 (by omega) ?_
        refine ih L9 (x7 + 1) (by omega) (by omega) (fun k hk => (f1 k hk).trans (i2 k hk)) (fun q q1 q2 => ?_) (by omega)
        rw [f2 q q1 q2, i3 q q1 q2, ctk_s (by omega), if_pos (by omega), e23]
        omega
theorem s_Pay_passOn {ro : Nat → Int × (Int → Int)} {b : Bool} {I : Nat → Int → Int} {x5 : Int} (hP : PoC I) (hy : 0 ≤ x5 ∧ x5 ≤ 40) : ∀ (m : Nat) {d : Nat} {L : Nat → Int → Int} {Q : Option am_V → am_H → Prop} {x2 x3 x6 : Int}, x6 = 4 - (m : Int) → 0 ≤ x2 ∧ x2 < I 67 3 → 0 ≤ x3 ∧ x3 ≤ 10000000000000000 → m ≤ 4 → (∀ q, 0 ≤ q → q < 20 → 0 ≤ L 60 q ∧ L 60 q + x3 ≤ 100000000000000000) → (∀ L' : Nat → Int → Int, (∀ k, k ≠ 60 → L' k = L k) → (∀ q, 0 ≤ q → q < 20 → L' 60 q = L 60 q + ctb (I 67) x5 m x2 x3 q) → Q none (sh b, I, L')) → am_m ro (d + m + 2) 145 [am_R 15, am_R 60, am_I x2, am_L x3, am_I x5, am_I x6] (sh b, I, L) Q := by
  intro m
  induction m with
  | zero =>
    intro d L Q x2 x3 x6 hm hx hv hm4 hb H
    have p3 := hP.1.1
    have pe := hP.2.2.1 x2 (by omega) (by omega)
    have pq := hP.1.2.2.2 x2 hx.1 hx.2
    have bq := hb (I 67 (480 + x2)) (by omega) (by omega)
    have e20 : L 60 (I 20 x2) = L 60 (I 67 (480 + x2)) := by rw [pe.2]
    have yd : (if I 19 x2 = -100 then 0 else max 0 (x5 - I 19 x2)) = if dead (I 67) x5 x2 then x5 - I 67 (460 + x2) else 0 := by
      rw [pe.1]
      unfold dead
      split <;> split <;> omega
    have yz : (if I 19 x2 = -100 then 0 else max 0 (x5 - I 19 x2)) = 0 ↔ ¬ dead (I 67) x5 x2 := by
      rw [yd]
      unfold dead
      split <;> omega
    refine am_in (d := d + 1) rfl rfl rfl rfl ?_
    refine b_Pay_passOn_0  (fun c1 => ?_) (fun c1 => ?_)
    · refine b_Pay_passOn_7  (s_Peo_yearsDead (by omega) ?_)
      refine b_Pay_passOn_14  (fun c2 => ?_) (fun c2 => ?_)
      · refine b_Pay_passOn_32  (fun c3 => ?_) (fun c3 => ?_)
        · refine b_Pay_passOn_99  ?_
          refine H L (fun _ _ => rfl) (fun q q1 q2 => ?_)
          have e8 : ctb (I 67) x5 0 x2 x3 q = 0 := if_pos (by unfold dead; omega)
          rw [e8]
          omega
        · refine b_Pay_passOn_38  ?_
          exfalso
          omega
      · have dz : ¬ dead (I 67) x5 x2 := yz.mp (by omega)
        refine b_Pay_passOn_17 (by omega) (by omega) (by omega) (by omega) ?_
        refine b_Pay_passOn_99  ?_
        refine H _ (fun k hk => upn hk) (fun q q1 q2 => ?_)
        have e8 : ctb (I 67) x5 0 x2 x3 q = if q = I 67 (480 + x2) then x3 else 0 := if_neg (by unfold dead; omega)
        rw [e8, pe.2]
        by_cases e7 : q = I 67 (480 + x2)
        · rw [e7, ups, if_pos rfl]
        · rw [upo e7, if_neg e7]
          omega
    · refine b_Pay_passOn_6  ?_
      have e0 : x3 = 0 := by omega
      refine H L (fun _ _ => rfl) (fun q q1 q2 => ?_)
      rw [e0, ctb_0]
      omega
  | succ m ih =>
    intro d L Q x2 x3 x6 hm hx hv hm4 hb H
    have p3 := hP.1.1
    have pe := hP.2.2.1 x2 (by omega) (by omega)
    have pq := hP.1.2.2.2 x2 hx.1 hx.2
    have bq := hb (I 67 (480 + x2)) (by omega) (by omega)
    have e20 : L 60 (I 20 x2) = L 60 (I 67 (480 + x2)) := by rw [pe.2]
    have yd : (if I 19 x2 = -100 then 0 else max 0 (x5 - I 19 x2)) = if dead (I 67) x5 x2 then x5 - I 67 (460 + x2) else 0 := by
      rw [pe.1]
      unfold dead
      split <;> split <;> omega
    have yz : (if I 19 x2 = -100 then 0 else max 0 (x5 - I 19 x2)) = 0 ↔ ¬ dead (I 67) x5 x2 := by
      rw [yd]
      unfold dead
      split <;> omega
    refine am_in (d := d + m + 2) rfl rfl rfl rfl ?_
    refine b_Pay_passOn_0  (fun c1 => ?_) (fun c1 => ?_)
    · refine b_Pay_passOn_7  (s_Peo_yearsDead (by omega) ?_)
      refine b_Pay_passOn_14  (fun c2 => ?_) (fun c2 => ?_)
      · refine b_Pay_passOn_32  (fun c3 => ?_) (fun c3 => ?_)
        · refine b_Pay_passOn_99  ?_
          exfalso
          omega
        · refine b_Pay_passOn_38  ?_
          refine lp_Pay_passOn (d := d + m + 2) (m9 := m) hP hx hv (by omega) hb (by by_cases q : dead (I 67) x5 x2; (· exact q); (· exact absurd (yz.mpr q) c2)) (fun L9 z v Q9 z1 z2 z3 z6 z4 z5 => ih (by omega) ⟨z1, z2⟩ ⟨z3, z6⟩ (by omega) z4 z5) H 21 L 0 (by omega) (by omega) (fun _ _ => rfl) (fun q q1 q2 => ?_) (by omega)
          · show _ = _ + 0
            omega
      · have dz : ¬ dead (I 67) x5 x2 := yz.mp (by omega)
        refine b_Pay_passOn_17 (by omega) (by omega) (by omega) (by omega) ?_
        refine b_Pay_passOn_99  ?_
        refine H _ (fun k hk => upn hk) (fun q q1 q2 => ?_)
        have e8 : ctb (I 67) x5 (m + 1) x2 x3 q = if q = I 67 (480 + x2) then x3 else 0 := if_neg (by unfold dead; omega)
        rw [e8, pe.2]
        by_cases e7 : q = I 67 (480 + x2)
        · rw [e7, ups, if_pos rfl]
        · rw [upo e7, if_neg e7]
          omega
    · refine b_Pay_passOn_6  ?_
      have e0 : x3 = 0 := by omega
      refine H L (fun _ _ => rfl) (fun q q1 q2 => ?_)
      rw [e0, ctb_0]
      omega
