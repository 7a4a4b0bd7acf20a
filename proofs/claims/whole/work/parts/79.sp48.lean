theorem oG_k {P : Int → Int} {M Z : Int} {k : Nat} (h : (M ≤ 0 ∧ k = 0) ∨ (0 < M ∧ k ≤ 21 ∧ ∀ q, 0 ≤ q → q < 20 → ¬ cnd P M (NZ P M Z k).1 (NZ P M Z k).2 q)) {q : Int} (hq : 0 ≤ q ∧ q < 20) : gE P (NZ P M Z k).1 (gM P M Z k) (NZ P M Z k).2 q = oG P M Z q := by
  rcases h with h | h
  · rw [h.2]
    exact (oG_0 h.1).symm
  · have fx := NZ_fx h.2.2 (21 - k)
    rw [show k + (21 - k) = 21 by omega] at fx
    rw [oG_21 h.1, fx.2]
    exact gE_cg (fun q q1 q2 => (fx.1 q q1 q2).symm) (fun q q1 q2 => by unfold gM; rw [fx.1 q q1 q2]) hq
theorem NZ_zz {P : Int → Int} {M Z : Int} {k : Nat} (hP : Pp P) (hZ : 0 ≤ Z ∧ Z ≤ 1000000000) (h : (M ≤ 0 ∧ k = 0) ∨ 0 < M) : 0 ≤ (NZ P M Z k).2 ∧ (NZ P M Z k).2 ≤ 1000000000 := by
  rcases h with h | h
  · rw [h.2]
    exact hZ
  · have := NZ_z (k := k) hP h hZ.1
    omega
theorem gM_bd2 {P : Int → Int} {M Z : Int} {k : Nat} {q : Int} (hM : M ≤ 2147483647) (h : (M ≤ 0 ∧ k = 0) ∨ 0 < M) : 0 ≤ gM P M Z k q ∧ gM P M Z k q ≤ 2147483647 := by
  rcases h with h | h
  · rw [h.2, gM_0]
    omega
  · unfold gM
    split <;> omega
set_option maxHeartbeats 1000000 in
theorem lp_M_partsOut {ro : Nat → Int × (Int → Int)} {d : Nat} {b : Bool} {Q : Option am_V → am_H → Prop} {bc bs : Nat} {x1 x3 x4 : Int} {P : Int → Int} {I0 L0 : Nat → Int → Int} (hP : Pp P) (hZ : 0 ≤ x1 ∧ x1 ≤ 1000000000) (h81 : ∀ q, 0 ≤ q → q < 20 → L0 81 q = P q) (hM : -2147483648 ≤ x3 ∧ x3 ≤ 2147483647) (H : ∀ I L : Nat → Int → Int, (∀ k, k ≠ 83 → I k = I0 k) → (∀ k, k ≠ 82 → k ≠ 66 → L k = L0 k) → (∀ q, 0 ≤ q → q < 20 → L 82 q = fG P x3 x4 x1 q) → L 66 30 = fR P x3 x4 x1 → Q none (sh b, I, L)) : ∀ (n : Nat) (I L : Nat → Int → Int) (x5 x7 x9 k9 : Int), (0 ≤ k9 ∧ k9 + cN P x3 x1 k9.toNat ≤ 20) → ((∀ k, k ≠ 83 → I k = I0 k)) → ((∀ k, k ≠ 82 → L k = L0 k)) → (∀ q, 0 ≤ q → q < 20 → I 83 q = iz ((NZ P x3 x1 k9.toNat).1 q)) → (∀ q, 0 ≤ q → q < 20 → L 82 q = gM P x3 x1 k9.toNat q) → (x5 = (NZ P x3 x1 k9.toNat).2) → (x7 = ptsN P (NZ P x3 x1 k9.toNat).1) → (x9 = 0 → ((x3 ≤ 0 ∧ k9.toNat = 0) ∨ (0 < x3 ∧ k9.toNat ≤ 21 ∧ ∀ q, 0 ≤ q → q < 20 → ¬ cnd P x3 (NZ P x3 x1 k9.toNat).1 (NZ P x3 x1 k9.toNat).2 q))) → (x9 = 1 → 0 < x3) → (x9 = 0 ∨ x9 = 1) → 2 * cN P x3 x1 k9.toNat + x9 < (n : Int) → am_ex (am_m ro (d + 1)) ro am_M222 Q (77, [some (am_R 66), some (am_L x1), none, some (am_I x3), some (am_I x4), some (am_L x5), none, some (am_L x7), none, some (am_I x9), none, none, none, none, none], [], (sh b, I, L), bc, bs) := by
  intro n
  induction n with
  | zero =>
    intro I L x5 x7 x9 k9 i0 i1 i2 i3 i4 i5 i6 i7 i8 i9 im
    exact absurd im (by have := cN_bd (P := P) (M := x3) (Z := x1) (k := k9.toNat); omega)
  | succ n ih =>
    intro I L x5 x7 x9 k9 i0 i1 i2 i3 i4 i5 i6 i7 i8 i9 im
    refine b_M_partsOut_77  (fun c1 => ?_) (fun c1 => ?_)
    · have ck := i7 (by omega)
      have ck2 : (x3 ≤ 0 ∧ k9.toNat = 0) ∨ 0 < x3 := by rcases ck with ck | ck; (· exact Or.inl ck); (· exact Or.inr ck.1)
      refine b_M_partsOut_180  (fun c2 => ?_) (fun c2 => ?_)
      · refine b_M_partsOut_195  ?_
        refine l4_M_partsOut (d := d + 1) (g := fun q => oG P x3 x1 q) (Z := x1) (L0 := (am_up L 66 30 x1)) hZ (fun q q1 q2 => oG_bd hP hZ ⟨q1, q2⟩ (by omega)) (fun L7 w1 w2 w3 => H I L7 i1 (fun k k1 k2 => by rw [w1 k k1 k2, upn k2]; exact i2 k k1) w2 w3) 21 _ 0 (by omega) (by omega) (fun _ _ _ => rfl) (fun q q1 q2 => by omega) (fun q q1 q2 => ?_) (by rw [ups]; show x1 = x1 - 0; omega) (by rw [ups]; omega) (by omega)
        show _ = oG P x3 x1 q
        rw [upm (by omega), ← oG_k ck ⟨by omega, q2⟩]
        unfold gE
        rw [if_neg (by omega)]
        exact i4 q (by omega) q2
      · refine b_M_partsOut_187  (s_M_rests (P := P) (N := (NZ P x3 x1 k9.toNat).1) (G := gM P x3 x1 k9.toNat) hP (by rw [i5]; exact NZ_zz hP hZ ck2) i6 (by omega) i3 (fun q q1 q2 => gM_bd2 (by omega) ck2) (fun q q1 q2 => by rw [i2 81 (by omega)]; exact h81 q q1 q2) i4 (fun L9 f1 f2 => ?_))
        refine b_M_partsOut_195  ?_
        refine l4_M_partsOut (d := d + 1) (g := fun q => oG P x3 x1 q) (Z := x1) (L0 := (am_up L9 66 30 x1)) hZ (fun q q1 q2 => oG_bd hP hZ ⟨q1, q2⟩ (by omega)) (fun L7 w1 w2 w3 => H I L7 i1 (fun k k1 k2 => by rw [w1 k k1 k2, upn k2, f1 k k1]; exact i2 k k1) w2 w3) 21 _ 0 (by omega) (by omega) (fun _ _ _ => rfl) (fun q q1 q2 => by omega) (fun q q1 q2 => ?_) (by rw [ups]; show x1 = x1 - 0; omega) (by rw [ups]; omega) (by omega)
        show _ = oG P x3 x1 q
        rw [upm (by omega), ← oG_k ck ⟨by omega, q2⟩, f2 q (by omega) q2, i5]
    · refine b_M_partsOut_82  ?_
      have x39 := i8 (by omega)
      exact lq_M_partsOut (d := d) (k9 := k9) hP hZ h81 (by omega) (by omega) i5 i6 (fun I9 L9 z5 z7 z9 f1 f2 f3 f4 f5 f6 f7 f8 => ih I9 L9 z5 z7 z9 (k9 + 1) (by omega) f1 f2 f4 f5 f6 f7 (fun z => by omega) (fun _ => x39) (by omega) (by have := cN_bd (P := P) (M := x3) (Z := x1) (k := (k9 + 1).toNat); omega)) (fun I9 L9 z5 z7 z9 f1 f2 f3 f4 f5 f6 f7 f8 => ih I9 L9 z5 z7 z9 k9 i0 f1 f2 f4 f5 f6 f7 (fun _ => Or.inr ⟨x39, by have := cN_bd (P := P) (M := x3) (Z := x1) (k := k9.toNat); omega, f8⟩) (fun z => x39) (by omega) (by omega)) 21 I L x5 x7 0 0 (by omega) (by omega) i1 i2 (fun q q1 q2 => by rw [i3 q q1 q2, if_neg (by omega)]) (fun q q1 q2 => by rw [i4 q q1 q2, if_neg (by omega)]) (by rw [i5]; show _ = _ - 0; omega) (by rw [i6]; show _ = _ - 0; omega) (fun _ q q1 q2 => by omega) (fun z => by omega) (by have zb := NZ_zz (k := k9.toNat) (M := x3) hP hZ (Or.inr x39); have pt := pts_bd (N := (NZ P x3 x1 k9.toNat).1) hP; omega) (by omega)
theorem lo_M_partsOut {ro : Nat → Int × (Int → Int)} {d : Nat} {b : Bool} {Q : Option am_V → am_H → Prop} {bc bs : Nat} {x1 x3 x4 x5 : Int} {P : Int → Int} {I0 L0 : Nat → Int → Int} (hP : Pp P) (hZ : 0 ≤ x1 ∧ x1 ≤ 1000000000) (h81 : ∀ q, 0 ≤ q → q < 20 → L0 81 q = P q) (hM : -2147483648 ≤ x3 ∧ x3 ≤ 2147483647) (h5 : x5 = x1) (H : ∀ I L : Nat → Int → Int, (∀ k, k ≠ 83 → I k = I0 k) → (∀ k, k ≠ 82 → k ≠ 66 → L k = L0 k) → (∀ q, 0 ≤ q → q < 20 → L 82 q = fG P x3 x4 x1 q) → L 66 30 = fR P x3 x4 x1 → Q none (sh b, I, L)) : ∀ (n : Nat) (I L : Nat → Int → Int) (x7 x9 : Int), (0 ≤ x9) → (x9 ≤ 20) → ((∀ k, k ≠ 83 → I k = I0 k)) → ((∀ k, k ≠ 82 → L k = L0 k)) → (∀ q, 0 ≤ q → q < x9 → I 83 q = iz ((NZ P x3 x1 0).1 q)) → (∀ q, 0 ≤ q → q < x9 → L 82 q = 0) → (x7 = sm P x9.toNat) → (0 ≤ x7 ∧ x7 ≤ 479999952 * x9) → 20 - x9 < (n : Int) → am_ex (am_m ro (d + 1)) ro am_M222 Q (9, [some (am_R 66), some (am_L x1), none, some (am_I x3), some (am_I x4), some (am_L x5), none, some (am_L x7), none, some (am_I x9), none, none, none, none, none], [], (sh b, I, L), bc, bs) := by
  intro n
  induction n with
  | zero =>
    intro I L x7 x9 i0 i1 i2 i3 i4 i5 i6 i7 im
    exact absurd im (by omega)
  | succ n ih =>
    intro I L x7 x9 i0 i1 i2 i3 i4 i5 i6 i7 im
    refine b_M_partsOut_9  (fun c1 => ?_) (fun c1 => ?_)
    · refine b_M_partsOut_66  (fun c2 => ?_) (fun c2 => ?_)
      · refine b_M_partsOut_74  ?_
        refine b_M_partsOut_75  ?_
        have e9 : x9 = 20 := by omega
        have cb := cN_bd (P := P) (M := x3) (Z := x1) (k := (0 : Int).toNat)
        rw [e9] at i6
        exact lp_M_partsOut (d := d) hP hZ h81 hM H 42 I L x5 x7 0 0 (by omega) i2 i3 (fun q q1 q2 => i4 q q1 (by omega)) (fun q q1 q2 => by rw [i5 q q1 (by omega)]; exact gM_0.symm) h5 (by rw [i6]; exact (pts_0 hP).symm) (fun z => Or.inl ⟨by omega, rfl⟩) (fun z => by omega) (by omega) (by omega)
      · refine b_M_partsOut_70  ?_
        refine b_M_partsOut_75  ?_
        have e9 : x9 = 20 := by omega
        have cb := cN_bd (P := P) (M := x3) (Z := x1) (k := (0 : Int).toNat)
        rw [e9] at i6
        exact lp_M_partsOut (d := d) hP hZ h81 hM H 42 I L x5 x7 1 0 (by omega) i2 i3 (fun q q1 q2 => i4 q q1 (by omega)) (fun q q1 q2 => by rw [i5 q q1 (by omega)]; exact gM_0.symm) h5 (by rw [i6]; exact (pts_0 hP).symm) (fun z => Or.inl ⟨by omega, rfl⟩) (fun z => by omega) (by omega) (by omega)
    · have pb := P_le (q := x9) hP (by omega)
      have e81 : L 81 x9 = P x9 := by rw [i3 81 (by omega)]; exact h81 x9 (by omega) (by omega)
      refine b_M_partsOut_16 (by first | omega | (simp (disch := omega) only [upo, upm, ups]; omega)) (by first | omega | (simp (disch := omega) only [upo, upm, ups]; omega)) (fun c3 => ?_) (fun c3 => ?_)
      · refine b_M_partsOut_46  ?_
        refine b_M_partsOut_47 (by first | omega | (simp (disch := omega) only [upo, upm, ups]; omega)) (by first | omega | (simp (disch := omega) only [upo, upm, ups]; omega)) (by first | omega | (simp (disch := omega) only [upo, upm, ups]; omega)) (by first | omega | (simp (disch := omega) only [upo, upm, ups]; omega)) (by first | omega | (simp (disch := omega) only [upo, upm, ups]; omega)) ?_
        refine ih (am_up I 83 x9 0) (((am_up L 82 x9 0))) (x7 + (((am_up L 82 x9 0)) 81 x9)) (x9 + 1) (by omega) (by omega) (fun k hk => by rw [upn hk]; exact i2 k hk) (fun k hk => by rw [upn hk]; exact i3 k hk) (fun q q1 q2 => ?_) (fun q q1 q2 => ?_) ?_ ?_ (by omega)
        · by_cases eq : q = x9
          · rw [eq, ups]
            show _ = iz (if 0 < P x9 then 1 else 0)
            have e5 : am_up L 82 x9 0 81 x9 = P x9 := by rw [upm (by omega)]; exact e81
            unfold iz
            first
              | (rw [if_pos (show 0 < P x9 by omega), if_neg (by omega)]; done)
              | (rw [if_neg (show ¬ 0 < P x9 by omega), if_pos rfl]; done)
          · rw [upo eq]
            exact i4 q q1 (by omega)
        · by_cases eq : q = x9
          · rw [eq, ups]
          · rw [upo eq]
            exact i5 q q1 (by omega)
        · rw [sm_step (by omega), upm (by omega), e81, i6]
        · rw [upm (by omega), e81]
          omega
      · refine b_M_partsOut_42  ?_
        refine b_M_partsOut_47 (by first | omega | (simp (disch := omega) only [upo, upm, ups]; omega)) (by first | omega | (simp (disch := omega) only [upo, upm, ups]; omega)) (by first | omega | (simp (disch := omega) only [upo, upm, ups]; omega)) (by first | omega | (simp (disch := omega) only [upo, upm, ups]; omega)) (by first | omega | (simp (disch := omega) only [upo, upm, ups]; omega)) ?_
        refine ih (am_up I 83 x9 1) (((am_up L 82 x9 0))) (x7 + (((am_up L 82 x9 0)) 81 x9)) (x9 + 1) (by omega) (by omega) (fun k hk => by rw [upn hk]; exact i2 k hk) (fun k hk => by rw [upn hk]; exact i3 k hk) (fun q q1 q2 => ?_) (fun q q1 q2 => ?_) ?_ ?_ (by omega)
        · by_cases eq : q = x9
          · rw [eq, ups]
            show _ = iz (if 0 < P x9 then 1 else 0)
            have e5 : am_up L 82 x9 0 81 x9 = P x9 := by rw [upm (by omega)]; exact e81
            unfold iz
            first
              | (rw [if_pos (show 0 < P x9 by omega), if_neg (by omega)]; done)
              | (rw [if_neg (show ¬ 0 < P x9 by omega), if_pos rfl]; done)
          · rw [upo eq]
            exact i4 q q1 (by omega)
        · by_cases eq : q = x9
          · rw [eq, ups]
          · rw [upo eq]
            exact i5 q q1 (by omega)
        · rw [sm_step (by omega), upm (by omega), e81, i6]
        · rw [upm (by omega), e81]
          omega
theorem s_M_partsOut {ro : Nat → Int × (Int → Int)} {d : Nat} {b : Bool} {I L : Nat → Int → Int} {Q : Option am_V → am_H → Prop} {x1 x3 x4 : Int} {P : Int → Int} (hP : Pp P) (hZ : 0 ≤ x1 ∧ x1 ≤ 1000000000) (h81 : ∀ q, 0 ≤ q → q < 20 → L 81 q = P q) (hM : -2147483648 ≤ x3 ∧ x3 ≤ 2147483647) (H : ∀ I' L' : Nat → Int → Int, (∀ k, k ≠ 83 → I' k = I k) → (∀ k, k ≠ 82 → k ≠ 66 → L' k = L k) → (∀ q, 0 ≤ q → q < 20 → L' 82 q = fG P x3 x4 x1 q) → L' 66 30 = fR P x3 x4 x1 → Q none (sh b, I', L')) : am_m ro (d + 2) 222 [am_R 66, am_L x1, am_I x3, am_I x4] (sh b, I, L) Q := by
  refine am_in rfl rfl rfl rfl ?_
  refine b_M_partsOut_0  ?_
  exact lo_M_partsOut (d := d) (I0 := I) (L0 := L) hP hZ h81 hM rfl H 21 I L 0 0 (by omega) (by omega) (fun _ _ => rfl) (fun _ _ => rfl) (fun q q1 q2 => by omega) (fun q q1 q2 => by omega) rfl (by omega) (by omega)
theorem s_M_parted {ro : Nat → Int × (Int → Int)} {d : Nat} {b : Bool} {I L : Nat → Int → Int} {Q : Option am_V → am_H → Prop} {x1 x2 x3 : Int} (hM : Mo I L) (hx : (0 ≤ x1 ∧ x1 ≤ 40) ∧ 0 ≤ x3 ∧ x3 ≤ 1000000000) (H : ∀ I' L' : Nat → Int → Int, Sc I L I' L' → (∀ q, 0 ≤ q → q < 20 → L' 82 q = fG (fun q => pnt (I 67) (fun e => est (I 67) x1 x2 e) x1 (I 66 22) q) (sy (I 67) (nmN x1) 3 x1 (I 66 22)) (sy (I 67) (nmN x1) 4 x1 (I 66 22)) x3 q) → L' 66 30 = fR (fun q => pnt (I 67) (fun e => est (I 67) x1 x2 e) x1 (I 66 22) q) (sy (I 67) (nmN x1) 3 x1 (I 66 22)) (sy (I 67) (nmN x1) 4 x1 (I 66 22)) x3 → Q none (sh b, I', L')) : am_m ro (d + 8) 224 [am_R 66, am_I x1, am_I x2, am_L x3] (sh b, I, L) Q := by
  have ct := Mo_ct hM
  refine am_in rfl rfl rfl rfl ?_
  refine b_M_parted_0  (s_M_works hM (by omega) (fun I9 L9 s9 r9 => ?_))
  have f67 := Sc_67 s9
  have hM9 := Mo_sc hM s9
  have f22 : I9 66 22 = I 66 22 := s9.2.1 22 (by omega)
  refine b_M_parted_6  (s_M_finds hM9 (by rw [f67]; omega) (fun I8 a8 b8 c8 => ?_))
  have f678 : I8 67 = I 67 := by rw [a8 67 (by omega) (by omega) (by omega)]; exact f67
  have hM8 : Mo I8 L9 := Mo_sc hM9 (Sc_fi a8 b8)
  have f228 : I8 66 22 = I 66 22 := by rw [b8 22 (by omega)]; exact f22
  have nf : ∀ (p E : Int → Int) k, ¬ k < 3 → nmF p E k x1 (-1) = nmN x1 := fun p E k hk => by unfold nmF; rw [if_neg (by omega)]
  rw [f67, f22, nf _ _ 3 (by omega)] at c8
  refine b_M_parted_13  (s_M_finds hM8 (by rw [f678]; omega) (fun I7 a7 b7 c7 => ?_))
  rw [f678, f228, nf _ _ 4 (by omega)] at c7
  have mr := sy_r (key := 3) (y := x1) (w := I 66 22) hM (nmN_r hx.1)
  have pp9 : Pp (fun q => pnt (I 67) (fun e => est (I 67) x1 x2 e) x1 (I 66 22) q) := by
    have w := pnt_sum (y := x1) (w := I 66 22) (a := x2) hM hx.1
    exact ⟨fun q _ _ => w.1 q, w.2⟩
  refine b_M_parted_27  (s_M_partsOut (P := (fun q => pnt (I 67) (fun e => est (I 67) x1 x2 e) x1 (I 66 22) q)) pp9 hx.2 r9 (by rw [c8]; exact ⟨mr.1, by have := mr.2; omega⟩) (fun I6 L6 w1 w2 w3 w4 => ?_))
  refine b_M_parted_39  ?_
  rw [c8, c7] at w3 w4
  exact H I6 L6 (Sc_tr s9 (Sc_tr (Sc_fi a8 b8) (Sc_tr (Sc_fi a7 b7) ⟨fun k a1 a2 a3 a4 a5 a6 a7 a8 a9 a10 a11 a12 => w1 k a12, fun j hj => by rw [w1 66 (by omega)], fun k hk => w2 k (by omega) (by omega)⟩))) w3 w4
