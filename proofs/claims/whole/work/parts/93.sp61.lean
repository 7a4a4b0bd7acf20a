theorem l2_M_image {ro : Nat → Int × (Int → Int)} {d : Nat} {b : Bool} {Q : Option am_V → am_H → Prop} {bc bs : Nat} {I0 L0 I : Nat → Int → Int} (H : ∀ I L : Nat → Int → Int, (∀ k, k ≠ 68 → k ≠ 66 → I k = I0 k) → (∀ j, j ≠ 4 → I 66 j = I0 66 j) → I 66 4 = 1 → (∀ j, 0 ≤ j → j < 4420 → I 68 j = I0 67 j) → (∀ k, k ≠ 70 → L k = L0 k) → (∀ j, 0 ≤ j → j < 1763 → L 70 j = L0 69 j) → Q (some (am_I (I0 67 0))) (sh b, I, L)) (f1 : ∀ k, k ≠ 68 → I k = I0 k) (f2 : ∀ j, 0 ≤ j → j < 4420 → I 68 j = I0 67 j) : ∀ (n : Nat) (L : Nat → Int → Int) (x1 : Int), (0 ≤ x1) → (x1 ≤ 1763) → (∀ k, k ≠ 70 → L k = L0 k) → (∀ j, 0 ≤ j → j < x1 → L 70 j = L0 69 j) → 1763 - x1 < (n : Int) → am_ex (am_m ro (d + 0)) ro am_M247 Q (29, [some (am_R 66), some (am_I x1)], [], (sh b, I, L), bc, bs) := by
  intro n
  induction n with
  | zero =>
    intro L x1 i0 i1 i2 i3 im
    exact absurd im (by omega)
  | succ n ih =>
    intro L x1 i0 i1 i2 i3 im
    refine b_M_image_29  (fun c1 => ?_) (fun c1 => ?_)
    · refine b_M_image_54  ?_
      have e9 : x1 = 1763 := by omega
      rw [upm (by omega), f1 67 (by omega)]
      exact H _ L (fun k k1 k2 => by rw [upn k2]; exact f1 k k1) (fun j hj => by rw [upo hj, f1 66 (by omega)]) ups (fun j j1 j2 => by rw [upm (by omega)]; exact f2 j j1 j2) i2 (fun j j1 j2 => i3 j j1 (by omega))
    · refine b_M_image_36 (by omega) (by omega) (by omega) ?_
      exact ih (am_up L 70 x1 (L 69 x1)) (x1 + 1) (by omega) (by omega) (by intro k hk; rw [upn hk]; exact i2 k hk) (by intro j j1 j2; by_cases ej : j = x1; (· rw [ej, ups, i2 69 (by omega)]); (· rw [upo ej]; exact i3 j j1 (by omega))) (by omega)
theorem l1_M_image {ro : Nat → Int × (Int → Int)} {d : Nat} {b : Bool} {Q : Option am_V → am_H → Prop} {bc bs : Nat} {I0 L : Nat → Int → Int} (H : ∀ I L9 : Nat → Int → Int, (∀ k, k ≠ 68 → k ≠ 66 → I k = I0 k) → (∀ j, j ≠ 4 → I 66 j = I0 66 j) → I 66 4 = 1 → (∀ j, 0 ≤ j → j < 4420 → I 68 j = I0 67 j) → (∀ k, k ≠ 70 → L9 k = L k) → (∀ j, 0 ≤ j → j < 1763 → L9 70 j = L 69 j) → Q (some (am_I (I0 67 0))) (sh b, I, L9)) : ∀ (n : Nat) (I : Nat → Int → Int) (x1 : Int), (0 ≤ x1) → (x1 ≤ 4420) → (∀ k, k ≠ 68 → I k = I0 k) → (∀ j, 0 ≤ j → j < x1 → I 68 j = I0 67 j) → 4420 - x1 < (n : Int) → am_ex (am_m ro (d + 0)) ro am_M247 Q (2, [some (am_R 66), some (am_I x1)], [], (sh b, I, L), bc, bs) := by
  intro n
  induction n with
  | zero =>
    intro I x1 i0 i1 i2 i3 im
    exact absurd im (by omega)
  | succ n ih =>
    intro I x1 i0 i1 i2 i3 im
    refine b_M_image_2  (fun c1 => ?_) (fun c1 => ?_)
    · refine b_M_image_27  ?_
      exact l2_M_image (d := d) (L0 := L) H i2 (fun j j1 j2 => i3 j j1 (by omega)) 1764 L 0 (by omega) (by omega) (fun _ _ => rfl) (fun j j1 j2 => by omega) (by omega)
    · refine b_M_image_9 (by omega) (by omega) (by omega) ?_
      exact ih (am_up I 68 x1 (I 67 x1)) (x1 + 1) (by omega) (by omega) (by intro k hk; rw [upn hk]; exact i2 k hk) (by intro j j1 j2; by_cases ej : j = x1; (· rw [ej, ups, i2 67 (by omega)]); (· rw [upo ej]; exact i3 j j1 (by omega))) (by omega)
theorem o_M_image {ro : Nat → Int × (Int → Int)} {d : Nat} {b : Bool} {I L : Nat → Int → Int} {Q : Option am_V → am_H → Prop} (H : ∀ I' L' : Nat → Int → Int, (∀ k, k ≠ 68 → k ≠ 66 → I' k = I k) → (∀ j, j ≠ 4 → I' 66 j = I 66 j) → I' 66 4 = 1 → (∀ j, 0 ≤ j → j < 4420 → I' 68 j = I 67 j) → (∀ k, k ≠ 70 → L' k = L k) → (∀ j, 0 ≤ j → j < 1763 → L' 70 j = L 69 j) → Q (some (am_I (I 67 0))) (sh b, I', L')) : am_m ro (d + 1) 247 [am_R 66] (sh b, I, L) Q := by
  refine am_in rfl rfl rfl rfl ?_
  refine b_M_image_0  ?_
  exact l1_M_image (d := d) (I0 := I) H 4421 I 0 (by omega) (by omega) (fun _ _ => rfl) (fun j j1 j2 => by omega) (by omega)
theorem l2_M_back {ro : Nat → Int × (Int → Int)} {d : Nat} {b : Bool} {Q : Option am_V → am_H → Prop} {bc bs : Nat} {I0 L0 I : Nat → Int → Int} (H : ∀ I L : Nat → Int → Int, (∀ k, k ≠ 67 → I k = I0 k) → (∀ j, 0 ≤ j → j < 4420 → I 67 j = I0 68 j) → (∀ k, k ≠ 69 → L k = L0 k) → (∀ j, 0 ≤ j → j < 1763 → L 69 j = L0 70 j) → Q (some (am_I (I0 68 0))) (sh b, I, L)) (f1 : ∀ k, k ≠ 67 → I k = I0 k) (f2 : ∀ j, 0 ≤ j → j < 4420 → I 67 j = I0 68 j) : ∀ (n : Nat) (L : Nat → Int → Int) (x1 : Int), (0 ≤ x1) → (x1 ≤ 1763) → (∀ k, k ≠ 69 → L k = L0 k) → (∀ j, 0 ≤ j → j < x1 → L 69 j = L0 70 j) → 1763 - x1 < (n : Int) → am_ex (am_m ro (d + 1)) ro am_M248 Q (43, [some (am_R 66), some (am_I x1)], [], (sh b, I, L), bc, bs) := by
  intro n
  induction n with
  | zero =>
    intro L x1 i0 i1 i2 i3 im
    exact absurd im (by omega)
  | succ n ih =>
    intro L x1 i0 i1 i2 i3 im
    refine b_M_back_43  (fun c1 => ?_) (fun c1 => ?_)
    · refine b_M_back_68  ?_
      have e9 : x1 = 1763 := by omega
      rw [f2 0 (by omega) (by omega)]
      exact H I L f1 f2 i2 (fun j j1 j2 => i3 j j1 (by omega))
    · refine b_M_back_50 (by omega) (by omega) (by omega) ?_
      exact ih (am_up L 69 x1 (L 70 x1)) (x1 + 1) (by omega) (by omega) (by intro k hk; rw [upn hk]; exact i2 k hk) (by intro j j1 j2; by_cases ej : j = x1; (· rw [ej, ups, i2 70 (by omega)]); (· rw [upo ej]; exact i3 j j1 (by omega))) (by omega)
theorem l1_M_back {ro : Nat → Int × (Int → Int)} {d : Nat} {b : Bool} {Q : Option am_V → am_H → Prop} {bc bs : Nat} {I0 L : Nat → Int → Int} (H : ∀ I L9 : Nat → Int → Int, (∀ k, k ≠ 67 → I k = I0 k) → (∀ j, 0 ≤ j → j < 4420 → I 67 j = I0 68 j) → (∀ k, k ≠ 69 → L9 k = L k) → (∀ j, 0 ≤ j → j < 1763 → L9 69 j = L 70 j) → Q (some (am_I (I0 68 0))) (sh b, I, L9)) : ∀ (n : Nat) (I : Nat → Int → Int) (x1 : Int), (0 ≤ x1) → (x1 ≤ 4420) → (∀ k, k ≠ 67 → I k = I0 k) → (∀ j, 0 ≤ j → j < x1 → I 67 j = I0 68 j) → 4420 - x1 < (n : Int) → am_ex (am_m ro (d + 1)) ro am_M248 Q (16, [some (am_R 66), some (am_I x1)], [], (sh b, I, L), bc, bs) := by
  intro n
  induction n with
  | zero =>
    intro I x1 i0 i1 i2 i3 im
    exact absurd im (by omega)
  | succ n ih =>
    intro I x1 i0 i1 i2 i3 im
    refine b_M_back_16  (fun c1 => ?_) (fun c1 => ?_)
    · refine b_M_back_41  ?_
      exact l2_M_back (d := d) (L0 := L) H i2 (fun j j1 j2 => i3 j j1 (by omega)) 1764 L 0 (by omega) (by omega) (fun _ _ => rfl) (fun j j1 j2 => by omega) (by omega)
    · refine b_M_back_23 (by omega) (by omega) (by omega) ?_
      exact ih (am_up I 67 x1 (I 68 x1)) (x1 + 1) (by omega) (by omega) (by intro k hk; rw [upn hk]; exact i2 k hk) (by intro j j1 j2; by_cases ej : j = x1; (· rw [ej, ups, i2 68 (by omega)]); (· rw [upo ej]; exact i3 j j1 (by omega))) (by omega)
theorem o_M_back {ro : Nat → Int × (Int → Int)} {d : Nat} {b : Bool} {I L : Nat → Int → Int} {Q : Option am_V → am_H → Prop} (H1 : I 66 4 = 0 → Q (some (am_I (-2))) (sh b, rfM I (-2), L)) (H2 : ¬ I 66 4 = 0 → ∀ I' L' : Nat → Int → Int, (∀ k, k ≠ 67 → I' k = I k) → (∀ j, 0 ≤ j → j < 4420 → I' 67 j = I 68 j) → (∀ k, k ≠ 69 → L' k = L k) → (∀ j, 0 ≤ j → j < 1763 → L' 69 j = L 70 j) → Q (some (am_I (I 68 0))) (sh b, I', L')) : am_m ro (d + 2) 248 [am_R 66] (sh b, I, L) Q := by
  refine am_in rfl rfl rfl rfl ?_
  refine b_M_back_0  (fun c1 => ?_) (fun c1 => ?_)
  · refine b_M_back_14  ?_
    exact l1_M_back (d := d) (I0 := I) (H2 (by omega)) 4421 I 0 (by omega) (by omega) (fun _ _ => rfl) (fun j j1 j2 => by omega) (by omega)
  · refine b_M_back_7  (s_M_refuse (by omega) ?_)
    refine b_M_back_13  ?_
    exact H1 (by omega)
theorem o_P_backK {ro : Nat → Int × (Int → Int)} {d : Nat} {I L : Nat → Int → Int} {Q : Option am_V → am_H → Prop} (H : ∀ I' L' : Nat → Int → Int, (∀ k i, ¬ (1 ≤ k ∧ k ≤ 44) → I' k i = I k i ∧ L' k i = L k i) → Cpy (fun k => I (84 + k)) (fun k => L (84 + k)) I' L' → Q (some (am_I (I' 1 0))) (sh true, I', L')) : am_m ro (d + 3) 38 [am_R 0] (sh true, I, L) Q := by
  refine am_in rfl rfl rfl rfl ?_
  refine b_P_backK_0_0  ?_
  refine b_P_backK_0_14  (s_Land_takeFromK_1_85 (fun I9 L9 f1 f2 => ?_))
  refine b_P_backK_0_25  ?_
  exact H I9 L9 f1 f2
theorem o_P_backZ {ro : Nat → Int × (Int → Int)} {d : Nat} {I L : Nat → Int → Int} {Q : Option am_V → am_H → Prop} (H : Q (some (am_I (-2))) (sh false, rfC I (-2), L)) : am_m ro (d + 2) 38 [am_R 0] (sh false, I, L) Q := by
  refine am_in rfl rfl rfl rfl ?_
  refine b_P_backZ_0_0  ?_
  refine b_P_backZ_0_7  (s_P_refuse (by omega) ?_)
  refine b_P_backZ_0_13  ?_
  exact H
theorem o_P_imageK {ro : Nat → Int × (Int → Int)} {d : Nat} {I L : Nat → Int → Int} {Q : Option am_V → am_H → Prop} (H : ∀ I' L' : Nat → Int → Int, (∀ k i, ¬ (85 ≤ k ∧ k ≤ 128) → I' k i = I k i ∧ L' k i = L k i) → Cpy I L (fun k => I' (84 + k)) (fun k => L' (84 + k)) → Q (some (am_I (I' 1 0))) (sh true, I', L')) : am_m ro (d + 3) 37 [am_R 0] (sh true, I, L) Q := by
  refine am_in rfl rfl rfl rfl ?_
  refine b_P_imageK_0_0  ?_
  refine b_P_imageK_0_18  (s_Land_takeFromK_85_1 (fun I9 L9 f1 f2 => ?_))
  refine b_P_imageK_0_29  ?_
  exact H I9 L9 f1 f2
theorem A_back {ro : Nat → Int × (Int → Int)} {d : Nat} {b : Bool} {I L : Nat → Int → Int} (hI : Inv b I L) : am_m ro (d + 3) 38 [am_R 0] (sh b, I, L) (fun r h => am_m ro (d + 3) 248 [am_R 66] h (fun r2 h2 => Pair r r2 h2)) := by
  have h4 := hI.2.2.2.2.2.2.1
  cases b with
  | false =>
    rw [if_neg (by decide)] at h4
    refine o_P_backZ (d := d + 1) ?_
    exact o_M_back (d := d + 1) (fun a2 => Pair_rf hI) (fun a2 => by rw [rfm (by omega)] at a2; omega)
  | true =>
    rw [if_pos rfl] at h4
    have hk := hI.2.1 rfl
    refine o_P_backK (fun I1 L1 f1 f2 => ?_)
    have fI : ∀ k, ¬ (1 ≤ k ∧ k ≤ 44) → I1 k = I k := fun k hk => funext (fun i => (f1 k i hk).1)
    have fL : ∀ k, ¬ (1 ≤ k ∧ k ≤ 44) → L1 k = L k := fun k hk => funext (fun i => (f1 k i hk).2)
    have hl1 := iLand_cp hk f2
    refine o_M_back (d := d + 1) (fun a2 => by rw [fI 66 (by omega)] at a2; omega) (fun a2 I2 L2 g1 g2 g3 g4 => ?_)
    have e1 : I1 1 0 = I1 68 0 := by rw [fI 68 (by omega)]; exact hl1.1.1
    refine ⟨_, true, I2, L2, rfl, by rw [e1], rfl, Inv_ld hI ?_ ?_ ?_ (fun k hk => ?_) (fun j hj => ?_) (fun k hk => ?_)⟩
    · have hl2 := iLand_pq (p' := I2 67) (q' := L2 69) hl1 (fun j j1 j2 => by rw [g2 j j1 j2, fI 68 (by omega)]) (fun j j1 j2 => by rw [g4 j j1 j2, fL 70 (by omega)])
      exact iLand_cg hl2 (fun k k1 k2 => g1 k (by omega)) (fun k k1 k2 => g3 k (by omega))
    · rw [g1 0 (by omega), fI 0 (by omega)]
    · rw [g1 45 (by omega), fI 45 (by omega)]
    · rw [g1 k (by omega), fI k (by omega)]
    · rw [g1 66 (by omega), fI 66 (by omega)]
    · rw [g3 k (by omega), fL k (by omega)]
theorem Inv_img {b : Bool} {I L I1 L1 I2 L2 : Nat → Int → Int} (h : Inv b I L) (f1 : ∀ k, k < 85 → I1 k = I k) (f2 : ∀ k, k < 85 → L1 k = L k) (c : Cpy I L (fun k => I1 (84 + k)) (fun k => L1 (84 + k))) (g1 : ∀ k, k ≠ 68 → k ≠ 66 → I2 k = I1 k) (g2 : ∀ j, j ≠ 4 → I2 66 j = I1 66 j) (g3 : I2 66 4 = 1) (g4 : ∀ j, 0 ≤ j → j < 4420 → I2 68 j = I1 67 j) (g5 : ∀ k, k ≠ 70 → L2 k = L1 k) (g6 : ∀ j, 0 ≤ j → j < 1763 → L2 70 j = L1 69 j) : Inv true I2 L2 := by
  obtain ⟨h1, h2, h3, h4, h5, h6⟩ := h
  have e : ∀ k, k < 85 → k ≠ 68 → k ≠ 66 → I2 k = I k := fun k k1 k2 k3 => (g1 k k2 k3).trans (f1 k k1)
  have eL : ∀ k, k < 85 → k ≠ 70 → L2 k = L k := fun k k1 k2 => (g5 k k2).trans (f2 k k1)
  have e66 : ∀ j, j ≠ 4 → I2 66 j = I 66 j := fun j hj => by rw [g2 j hj, f1 66 (by omega)]
  refine ⟨?_, fun _ => ?_, ?_, ?_, ?_, ?_⟩
  · rw [e 67 (by omega) (by omega) (by omega), eL 69 (by omega) (by omega)]
    exact iLand_cg h1 (fun k k1 k2 => e k (by omega) (by omega) (by omega)) (fun k k1 k2 => eL k (by omega) (by omega))
  · have k1 := iLand_cp h1 c
    have k2 := iLand_pq (p' := I2 68) (q' := L2 70) k1 (fun j j1 j2 => by rw [g4 j j1 j2, f1 67 (by omega)]) (fun j j1 j2 => by rw [g6 j j1 j2, f2 69 (by omega)])
    exact iLand_cg k2 (fun k a1 a2 => g1 (84 + k) (by omega) (by omega)) (fun k a1 a2 => g5 (84 + k) (by omega))
  · unfold iRow at h3 ⊢
    rw [e 0 (by omega) (by omega) (by omega), e 64 (by omega) (by omega) (by omega), e 74 (by omega) (by omega) (by omega), e66 9 (by omega)]
    exact h3
  · unfold iTap at h4 ⊢
    rw [e 45 (by omega) (by omega) (by omega), e 46 (by omega) (by omega) (by omega), e 73 (by omega) (by omega) (by omega), e66 8 (by omega)]
    exact h4
  · unfold iRef at h5 ⊢
    rw [e 65 (by omega) (by omega) (by omega), e 71 (by omega) (by omega) (by omega)]
    exact h5
  · unfold iCon at h6 ⊢
    rw [e 72 (by omega) (by omega) (by omega), eL 75 (by omega) (by omega), e66 22 (by omega), g3, if_pos rfl]
    exact ⟨h6.1, rfl, h6.2.2⟩
theorem A_imageK {ro : Nat → Int × (Int → Int)} {d : Nat} {I L : Nat → Int → Int} (hI : Inv true I L) : am_m ro (d + 3) 37 [am_R 0] (sh true, I, L) (fun r h => am_m ro (d + 3) 247 [am_R 66] h (fun r2 h2 => Pair r r2 h2)) := by
  have ct := Cor_ct (Cor_of hI)
  refine o_P_imageK (fun I1 L1 f1 f2 => ?_)
  have fI : ∀ k, k < 85 → I1 k = I k := fun k hk => funext (fun i => (f1 k i (by omega)).1)
  have fL : ∀ k, k < 85 → L1 k = L k := fun k hk => funext (fun i => (f1 k i (by omega)).2)
  refine o_M_image (d := d + 2) (fun I2 L2 g1 g2 g3 g4 g5 g6 => ?_)
  exact ⟨_, true, I2, L2, rfl, by rw [fI 67 (by omega), fI 1 (by omega), ct.1.1], rfl, Inv_img hI fI fL f2 g1 g2 g3 g4 g5 g6⟩
