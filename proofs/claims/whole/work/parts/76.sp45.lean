theorem oG_0 {P : Int → Int} {M Z q : Int} (h : M ≤ 0) : oG P M Z q = gE P (NZ P M Z 0).1 (gM P M Z 0) Z q := by
  have e : kk M = 0 := if_neg (by omega)
  unfold oG
  rw [e]
  rfl
theorem oG_21 {P : Int → Int} {M Z q : Int} (h : 0 < M) : oG P M Z q = gE P (NZ P M Z 21).1 (gM P M Z 21) (NZ P M Z 21).2 q := by
  have e : kk M = 21 := if_pos h
  unfold oG
  rw [e]
theorem gM_0 {P : Int → Int} {M Z q : Int} : gM P M Z 0 q = 0 := by
  unfold gM
  refine if_neg (fun c => ?_)
  have c2 : (if 0 < P q then 1 else 0) = (0 : Int) := c.2
  rw [if_pos c.1] at c2
  omega
set_option maxHeartbeats 1000000 in
theorem lp_Pay_partPence {ro : Nat → Int × (Int → Int)} {d : Nat} {b : Bool} {Q : Option am_V → am_H → Prop} {bc bs : Nat} {x1 x5 x7 : Int} {P : Int → Int} {I0 L0 : Nat → Int → Int} (hP : Pp P) (hZ : 0 ≤ x1 ∧ x1 ≤ 1000000000) (hM : -2147483648 ≤ x5 ∧ x5 ≤ 2147483647) (h60 : ∀ q, 0 ≤ q → q < 20 → L0 60 q = P q) (H : ∀ I L : Nat → Int → Int, (∀ k, k ≠ 63 → I k = I0 k) → (∀ k, k ≠ 61 → k ≠ 62 → L k = L0 k) → (∀ q, 0 ≤ q → q < 20 → L 61 q = fG P x5 x7 x1 q) → Q (some (am_L (fR P x5 x7 x1))) (sh b, I, L)) : ∀ (n : Nat) (I L : Nat → Int → Int) (x9 : Int), (0 ≤ x9) → (x9 ≤ 20) → (∀ k, k ≠ 63 → I k = I0 k) → (∀ k, k ≠ 61 → L k = L0 k) → (∀ q, 0 ≤ q → q < x9 → L 61 q = 0) → (∀ q, 0 ≤ q → q < x9 → I 63 q = if 0 < P q then 1 else 0) → 20 - x9 < (n : Int) → am_ex (am_m ro (d + 2)) ro am_M146 Q (50, [some (am_R 58), some (am_L x1), none, none, none, some (am_L x5), none, some (am_L x7), none, some (am_I x9), none, none], [], (sh b, I, L), bc, bs) := by
  intro n
  induction n with
  | zero =>
    intro I L x9 i0 i1 i2 i3 i4 i5 im
    exact absurd im (by omega)
  | succ n ih =>
    intro I L x9 i0 i1 i2 i3 i4 i5 im
    refine b_Pay_partPence_50  (fun c1 => ?_) (fun c1 => ?_)
    · have e9 : x9 = 20 := by omega
      have j61 : ∀ q, 0 ≤ q → q < 20 → L 61 q = 0 := fun q q1 q2 => i4 q q1 (by omega)
      have j63 : ∀ q, 0 ≤ q → q < 20 → I 63 q = if 0 < P q then 1 else 0 := fun q q1 q2 => i5 q q1 (by omega)
      refine b_Pay_partPence_95  (fun c2 => ?_) (fun c2 => ?_)
      · refine b_Pay_partPence_113  ?_
        refine b_Pay_partPence_114  (s_Pay_partEvenly (P := P) (N := (NZ P x5 x1 0).1) (G := gM P x5 x1 0) hP hZ (fun q q1 q2 => by rw [i3 60 (by omega)]; exact h60 q q1 q2) j63 (fun q q1 q2 => gM_bd hM (by unfold kk; rw [if_neg (by omega)])) (fun q q1 q2 => by rw [j61 q q1 q2, gM_0]) (fun L8 u1 u2 => ?_))
        refine b_Pay_partPence_117  ?_
        refine l3_Pay_partPence (d := d + 2) (g := fun q => oG P x5 x1 q) (Z := x1) (L0 := L8) hZ (fun q q1 q2 => oG_bd hP hZ ⟨q1, q2⟩ hM) (fun L7 w1 w2 => H I L7 i2 (fun k k1 k2 => by rw [w1 k k1, u1 k k1 k2]; exact i3 k k1) w2) 21 L8 x1 0 (by omega) (by omega) (fun _ _ => rfl) (fun q q1 q2 => by omega) (fun q q1 q2 => ?_) (by show x1 = x1 - 0; omega) (by omega) (by omega)
        rw [u2 q (by omega) q2]
        exact (oG_0 (by omega)).symm
      · refine b_Pay_partPence_103  (s_Pay_partToMost (P := P) hP hZ (by omega) (fun q q1 q2 => by rw [i3 60 (by omega)]; exact h60 q q1 q2) j61 j63 (fun I9 L9 f1 f2 f3 f4 => ?_))
        have zb : 0 ≤ (NZ P x5 x1 21).2 ∧ (NZ P x5 x1 21).2 ≤ 1000000000 := by
          have := NZ_z (P := P) (M := x5) (Z := x1) hP (by omega) hZ.1 21
          omega
        refine b_Pay_partPence_110  ?_
        refine b_Pay_partPence_114  (s_Pay_partEvenly (P := P) (N := (NZ P x5 x1 21).1) (G := gM P x5 x1 21) hP zb (fun q q1 q2 => by rw [f2 60 (by omega), i3 60 (by omega)]; exact h60 q q1 q2) f3 (fun q q1 q2 => gM_bd hM (by unfold kk; rw [if_pos (by omega)])) f4 (fun L8 u1 u2 => ?_))
        refine b_Pay_partPence_117  ?_
        refine l3_Pay_partPence (d := d + 2) (g := fun q => oG P x5 x1 q) (Z := x1) (L0 := L8) hZ (fun q q1 q2 => oG_bd hP hZ ⟨q1, q2⟩ hM) (fun L7 w1 w2 => H I9 L7 (fun k hk => (f1 k hk).trans (i2 k hk)) (fun k k1 k2 => by rw [w1 k k1, u1 k k1 k2, f2 k k1]; exact i3 k k1) w2) 21 L8 x1 0 (by omega) (by omega) (fun _ _ => rfl) (fun q q1 q2 => by omega) (fun q q1 q2 => ?_) (by show x1 = x1 - 0; omega) (by omega) (by omega)
        rw [u2 q (by omega) q2]
        exact (oG_21 (by omega)).symm
    · have e60 : (am_up L 61 x9 0) 60 x9 = P x9 := by rw [upm (by omega), i3 60 (by omega)]; exact h60 x9 (by omega) (by omega)
      refine b_Pay_partPence_57 (by omega) (by omega) (fun c3 => ?_) (fun c3 => ?_)
      · refine b_Pay_partPence_87  ?_
        refine b_Pay_partPence_88 (by omega) (by omega) (by omega) ?_
        refine ih (am_up I 63 x9 0) (((am_up L 61 x9 0))) (x9 + 1) (by omega) (by omega) (fun k hk => by rw [upn hk]; exact i2 k hk) (fun k hk => by rw [upn hk]; exact i3 k hk) (fun q q1 q2 => ?_) (fun q q1 q2 => ?_) (by omega)
        · by_cases eq : q = x9
          · rw [eq, ups]
          · rw [upo eq]
            exact i4 q q1 (by omega)
        · by_cases eq : q = x9
          · rw [eq, ups]
            first | rw [if_pos (by omega)] | rw [if_neg (by omega)]
          · rw [upo eq]
            exact i5 q q1 (by omega)
      · refine b_Pay_partPence_83  ?_
        refine b_Pay_partPence_88 (by omega) (by omega) (by omega) ?_
        refine ih (am_up I 63 x9 1) (((am_up L 61 x9 0))) (x9 + 1) (by omega) (by omega) (fun k hk => by rw [upn hk]; exact i2 k hk) (fun k hk => by rw [upn hk]; exact i3 k hk) (fun q q1 q2 => ?_) (fun q q1 q2 => ?_) (by omega)
        · by_cases eq : q = x9
          · rw [eq, ups]
          · rw [upo eq]
            exact i4 q q1 (by omega)
        · by_cases eq : q = x9
          · rw [eq, ups]
            first | rw [if_pos (by omega)] | rw [if_neg (by omega)]
          · rw [upo eq]
            exact i5 q q1 (by omega)
theorem s_Pay_partPence {ro : Nat → Int × (Int → Int)} {d : Nat} {b : Bool} {I L : Nat → Int → Int} {Q : Option am_V → am_H → Prop} {x1 x3 x4 : Int} {P : Int → Int} (hro : RoK ro) (hC : Cor I L) (hP : Pp P) (h60 : ∀ q, 0 ≤ q → q < 20 → L 60 q = P q) (hx : (0 ≤ x1 ∧ x1 ≤ 1000000000) ∧ 0 ≤ x3 ∧ x3 ≤ 40) (H : ∀ I' L' : Nat → Int → Int, Sc I L I' L' → (∀ q, 0 ≤ q → q < 20 → L' 61 q = fG P (sy (I 67) (nmN x3) 3 x3 x4) (sy (I 67) (nmN x3) 4 x3 x4) x1 q) → Q (some (am_L (fR P (sy (I 67) (nmN x3) 3 x3 x4) (sy (I 67) (nmN x3) 4 x3 x4) x1))) (sh b, I', L')) : am_m ro (d + 5) 146 [am_R 58, am_L x1, am_I x3, am_I x4] (sh b, I, L) Q := by
  have ct := Cor_ct hC
  refine am_in rfl rfl rfl rfl ?_
  refine b_Pay_partPence_0  (s_Pay_nameNone (fun I9 h1 h2 => ?_))
  refine b_Pay_partPence_5  (s_Ruls_worth (nm := nmN x3) hro (Cor_sc hC (Sc_59 h1)) h2 (by omega) (fun I8 v8 => ?_))
  have f9 : I9 67 = I 67 := h1 67 (by omega)
  have f8 : I8 67 = I 67 := by rw [v8 67 (by omega)]; exact f9
  have c8 : Cor I8 L := Cor_sc (Cor_sc hC (Sc_59 h1)) (Sc_35 v8)
  have n8 : ∀ c, 0 ≤ c → c < 10 → I8 59 c = nmN x3 c := fun c c1 c2 => by rw [v8 59 (by omega)]; exact h2 c c1 c2
  rw [f9]
  refine b_Pay_partPence_23  (s_Ruls_worth (nm := nmN x3) hro c8 n8 (by omega) (fun I7 v7 => ?_))
  have mr := sy_r (key := 3) (y := x3) (w := x4) (Mo_of hC) (nmN_r hx.2)
  rw [f8]
  refine b_Pay_partPence_44  ?_
  refine lp_Pay_partPence (d := d + 2) (P := P) (I0 := I7) (L0 := L) hP hx.1 ⟨mr.1, by have := mr.2; omega⟩ h60 (fun I6 L6 w1 w2 w3 => H I6 L6 ⟨fun k a1 a2 a3 a4 a5 a6 a7 a8 a9 a10 a11 a12 => ?_, fun j hj => ?_, fun k hk => w2 k (by omega) (by omega)⟩ w3) 21 I7 L 0 (by omega) (by omega) (fun _ _ => rfl) (fun _ _ => rfl) (fun q q1 q2 => by omega) (fun q q1 q2 => by omega) (by omega)
  · rw [w1 k a6, v7 k a2, v8 k a2, h1 k a5]
  · rw [w1 66 (by omega), v7 66 (by omega), v8 66 (by omega), h1 66 (by omega)]
