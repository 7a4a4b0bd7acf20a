theorem lo_M_works {ro : Nat → Int × (Int → Int)} {d : Nat} {b : Bool} {I : Nat → Int → Int} {Q : Option am_V → am_H → Prop} {bc bs : Nat} {x1 : Int} {E : Int → Int} {w9 : Int} {L0 : Nat → Int → Int} (hM : Mo I L0) (hx : 0 ≤ x1 ∧ x1 ≤ 40) (hw : I 66 22 = w9) (hE : ∀ e, 0 ≤ e → e < I 67 2 → I 78 e = E e ∧ 0 ≤ E e ∧ E e ≤ 39999996) (H : ∀ I' L' : Nat → Int → Int, (∀ k, k ≠ 66 → k ≠ 76 → k ≠ 77 → I' k = I k) → (∀ j, j ≠ 23 → I' 66 j = I 66 j) → (∀ k, k ≠ 81 → L' k = L0 k) → (∀ q, 0 ≤ q → q < 20 → L' 81 q = pnt (I 67) E x1 w9 q) → Q none (sh b, I', L')) : ∀ (n : Nat) (L : Nat → Int → Int) (x3 : Int), (0 ≤ x3) → (x3 ≤ 20) → (∀ k, k ≠ 81 → L k = L0 k) → (∀ q, 0 ≤ q → q < x3 → L 81 q = 0) → 20 - x3 < (n : Int) → am_ex (am_m ro (d + 6)) ro am_M221 Q (8, [some (am_R 66), some (am_I x1), none, some (am_I x3), none, none, none, none], [], (sh b, I, L), bc, bs) := by
  intro n
  induction n with
  | zero =>
    intro L x3 i0 i1 i2 i3 im
    exact absurd im (by omega)
  | succ n ih =>
    intro L x3 i0 i1 i2 i3 im
    refine b_M_works_8  (fun c1 => ?_) (fun c1 => ?_)
    · refine b_M_works_27  ?_
      have ct := Mo_ct hM
      exact lp_M_works (d := d) (I0 := I) (L0 := L0) hM hx hw hE H ((I 67 4).toNat + 1) I L 0 (by omega) (by omega) (fun _ _ _ _ => rfl) (fun _ _ => rfl) i2 (fun q q1 q2 => i3 q q1 (by omega)) (fun q q1 q2 => by have := i3 q q1 (by omega); omega) (by omega)
    · refine b_M_works_14 (by omega) (by omega) ?_
      exact ih (am_up L 81 x3 0) (x3 + 1) (by omega) (by omega) (by intro k hk; rw [upn hk]; exact i2 k hk) (by intro q q1 q2; by_cases eq : q = x3; (· rw [eq, ups]); (· rw [upo eq]; exact i3 q q1 (by omega))) (by omega)
theorem s_M_works {ro : Nat → Int × (Int → Int)} {d : Nat} {b : Bool} {I L : Nat → Int → Int} {Q : Option am_V → am_H → Prop} {x1 x2 : Int} (hM : Mo I L) (hx : 0 ≤ x1 ∧ x1 ≤ 40) (H : ∀ I' L' : Nat → Int → Int, Sc I L I' L' → (∀ q, 0 ≤ q → q < 20 → L' 81 q = pnt (I 67) (fun e => est (I 67) x1 x2 e) x1 (I 66 22) q) → Q none (sh b, I', L')) : am_m ro (d + 7) 221 [am_R 66, am_I x1, am_I x2] (sh b, I, L) Q := by
  have ct := Mo_ct hM
  refine am_in rfl rfl rfl rfl ?_
  refine b_M_works_0  (s_M_estimatesOf hM (by omega) (fun I9 L9 g1 g2 r9 => ?_))
  refine b_M_works_6  ?_
  have f67 : I9 67 = I 67 := g1 67 (by omega) (by omega)
  have hM9 : Mo I9 L9 := Mo_cg hM f67 (g2 69 (by omega)) (g1 72 (by omega) (by omega))
  refine lo_M_works (d := d) (E := fun e => est (I 67) x1 x2 e) (w9 := I 66 22) (L0 := L9) hM9 hx (by rw [g1 66 (by omega) (by omega)]) (fun e a1 a2 => ⟨r9 e a1 (by rw [f67] at a2; exact a2), est_bd hM hx ⟨a1, by rw [f67] at a2; exact a2⟩⟩) (fun I8 L8 u1 u2 u3 u4 => H I8 L8 (Sc_tr (Sc_es g1 g2) ⟨fun k a1 a2 a3 a4 a5 a6 a7 a8 a9 a10 a11 a12 => u1 k a7 a8 a9, u2, fun k hk => u3 k (by omega)⟩) (fun q q1 q2 => by rw [u4 q q1 q2, f67])) 21 L9 0 (by omega) (by omega) (fun _ _ => rfl) (fun q q1 q2 => by omega) (by omega)
theorem o_P_points {ro : Nat → Int × (Int → Int)} {d : Nat} {b : Bool} {I L : Nat → Int → Int} {Q : Option am_V → am_H → Prop} {x1 x2 : Int} (hro : RoK ro) (hC : Cor I L) (H1 : ¬ ((0 ≤ x1 ∧ x1 ≤ I 67 0) ∧ 0 ≤ x2 ∧ x2 < I 67 3) → Q (some (am_L 0)) (sh b, rfC I (-3), L)) (H2 : (0 ≤ x1 ∧ x1 ≤ I 67 0) ∧ 0 ≤ x2 ∧ x2 < I 67 3 → ∀ I' L' : Nat → Int → Int, Sc I L I' L' → Q (some (am_L (pnt (I 67) (fun e => est (I 67) x1 (I 67 0) e) x1 (-1) x2))) (sh b, I', L')) : am_m ro (d + 8) 28 [am_R 0, am_I x1, am_I x2] (sh b, I, L) Q := by
  have ct := Cor_ct hC
  refine am_in rfl rfl rfl rfl ?_
  refine b_P_points_0  (s_P_isYear (fun c1 => ?_) (fun c1 => ?_))
  · refine b_P_points_5  (fun c2 => absurd c2 (by decide)) (fun c2 => ?_)
    refine b_P_points_8  (s_Peo_has (by omega) (fun c3 => ?_) (fun c3 => ?_))
    · refine b_P_points_19  (fun c4 => ?_) (fun c4 => absurd c4 (by decide))
      refine b_P_points_30  (s_Pay_gather hro hC (by omega) (fun I9 L9 s9 r9 => ?_))
      refine b_P_points_46 (by omega) ?_
      rw [r9 x2 (by omega) (by omega), ct.1.1]
      exact H2 (by omega) I9 L9 s9
    · refine b_P_points_19  (fun c5 => absurd c5 (by decide)) (fun c5 => ?_)
      refine b_P_points_22  (s_P_refuseAsZero (by omega) ?_)
      refine b_P_points_28  ?_
      exact H1 (by omega)
  · refine b_P_points_5  (fun c6 => ?_) (fun c6 => absurd c6 (by decide))
    refine b_P_points_22  (s_P_refuseAsZero (by omega) ?_)
    refine b_P_points_28  ?_
    exact H1 (by omega)
theorem o_M_points {ro : Nat → Int × (Int → Int)} {d : Nat} {b : Bool} {I L : Nat → Int → Int} {Q : Option am_V → am_H → Prop} {x1 x2 : Int} (hM : Mo I L) (hw : I 66 22 = -1) (H1 : ¬ ((0 ≤ x1 ∧ x1 ≤ I 67 0) ∧ 0 ≤ x2 ∧ x2 < I 67 3) → Q (some (am_L 0)) (sh b, rfM I (-3), L)) (H2 : (0 ≤ x1 ∧ x1 ≤ I 67 0) ∧ 0 ≤ x2 ∧ x2 < I 67 3 → ∀ I' L' : Nat → Int → Int, Sc I L I' L' → Q (some (am_L (pnt (I 67) (fun e => est (I 67) x1 (I 67 0) e) x1 (-1) x2))) (sh b, I', L')) : am_m ro (d + 8) 232 [am_R 66, am_I x1, am_I x2] (sh b, I, L) Q := by
  have ct := Mo_ct hM
  refine am_in rfl rfl rfl rfl ?_
  refine b_M_points_0  (s_M_isYear (fun c1 => ?_) (fun c1 => ?_))
  · refine b_M_points_5  (fun c2 => absurd c2 (by decide)) (fun c2 => ?_)
    refine b_M_points_8  (s_M_isPerson (by omega) (fun c3 => ?_) (fun c3 => ?_))
    · refine b_M_points_13  (fun c4 => ?_) (fun c4 => absurd c4 (by decide))
      refine b_M_points_24  (s_M_works hM (by omega) (fun I9 L9 s9 r9 => ?_))
      refine b_M_points_35 (by omega) ?_
      rw [r9 x2 (by omega) (by omega), hw]
      exact H2 (by omega) I9 L9 s9
    · refine b_M_points_13  (fun c5 => absurd c5 (by decide)) (fun c5 => ?_)
      refine b_M_points_16  (s_M_nought (by omega) ?_)
      refine b_M_points_22  ?_
      exact H1 (by omega)
  · refine b_M_points_5  (fun c6 => ?_) (fun c6 => absurd c6 (by decide))
    refine b_M_points_16  (s_M_nought (by omega) ?_)
    refine b_M_points_22  ?_
    exact H1 (by omega)
theorem A_points {ro : Nat → Int × (Int → Int)} {d : Nat} {b : Bool} {I L : Nat → Int → Int} {x1 x2 : Int} (hro : RoK ro) (hI : Inv b I L) : am_m ro (d + 8) 28 [am_R 0, am_I x1, am_I x2] (sh b, I, L) (fun r h => am_m ro (d + 8) 232 [am_R 66, am_I x1, am_I x2] h (fun r2 h2 => Pair r r2 h2)) := by
  have hC := Cor_of hI
  have ct := Cor_ct hC
  have hw := hI.2.2.2.2.2.1
  refine o_P_points hro hC (fun a => ?_) (fun a I1 L1 s1 => ?_)
  · refine o_M_points (by repeat (first | exact Mo_of hC | refine Mo_rf ?_ | refine Mo_up ?_ (by decide))) (by rw [rfm (by omega)]; exact hw) (fun a2 => Pair_rf hI) (fun a2 => by (try simp (disch := omega) only [rfm, rfn] at a2); omega)
  · have f67 := Sc_67 s1
    refine o_M_points (Mo_sc (Mo_of hC) s1) (by rw [s1.2.1 22 (by omega)]; exact hw) (fun a2 => by rw [f67] at a2; omega) (fun a2 I2 L2 s2 => ?_)
    rw [f67]
    exact ⟨_, b, I2, L2, rfl, rfl, rfl, Inv_sc hI (Sc_tr s1 s2)⟩
