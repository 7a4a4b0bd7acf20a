/-- what a number would get of a year -/
def wg (p q : Int → Int) (y n a w : Int) : Int := fG (fun z => pnt p (fun e => est p y a e) y w z) (sy p (nmN y) 3 y w) (sy p (nmN y) 4 y w) (q y) n
theorem pp_of {I L : Nat → Int → Int} {y w a : Int} (h : Mo I L) (hy : 0 ≤ y ∧ y ≤ 40) : Pp (fun q => pnt (I 67) (fun e => est (I 67) y a e) y w q) := by
  have x := pnt_sum (y := y) (w := w) (a := a) h hy
  exact ⟨fun q _ _ => x.1 q, x.2⟩
def lQb (q : Int → Int) : Prop := ∀ y, 0 ≤ y → y < 41 → 0 ≤ q y ∧ q y ≤ 1000000000
theorem lQb_of {p q : Int → Int} (h : lQ p q) : lQb q := fun y a1 a2 => by
  have w := h.1 y a1 a2
  omega
theorem q_bd {q : Int → Int} {y : Int} (h : lQb q) (hy : 0 ≤ y ∧ y ≤ 40) : 0 ≤ q y ∧ q y ≤ 1000000000 := h y hy.1 (by omega)
theorem fG_bd {P : Int → Int} {M T Z q : Int} (hP : Pp P) (hZ : 0 ≤ Z ∧ Z ≤ 1000000000) (hq : 0 ≤ q ∧ q < 20) (hM : am_r M) : 0 ≤ fG P M T Z q ∧ fG P M T Z q ≤ 3000000000 := by
  have := oG_bd (M := M) hP hZ hq ⟨hM.1, by have := hM.2; omega⟩
  unfold fG
  split <;> omega
theorem wg_bd {I L : Nat → Int → Int} {y n a w : Int} (h : Mo I L) (hQ : lQb (L 69)) (hy : 0 ≤ y ∧ y ≤ 40) (hn : 0 ≤ n ∧ n < 20) : 0 ≤ wg (I 67) (L 69) y n a w ∧ wg (I 67) (L 69) y n a w ≤ 3000000000 := fG_bd (pp_of h hy) (q_bd hQ hy) hn (sy_r h (nmN_r hy))
theorem s_Pay_wouldGet {ro : Nat → Int × (Int → Int)} {d : Nat} {b : Bool} {I L : Nat → Int → Int} {Q : Option am_V → am_H → Prop} {x1 x2 x3 x4 : Int} (hro : RoK ro) (hC : Cor I L) (hQ : lQb (L 69)) (h40 : L 40 x1 = L 69 x1) (hx : (0 ≤ x1 ∧ x1 ≤ 40) ∧ 0 ≤ x2 ∧ x2 < 20) (H : ∀ I' L' : Nat → Int → Int, Sc I L I' L' → Q (some (am_L (wg (I 67) (L 69) x1 x2 x3 x4))) (sh b, I', L')) : am_m ro (d + 8) 150 [am_R 58, am_I x1, am_I x2, am_I x3, am_I x4] (sh b, I, L) Q := by
  refine am_in rfl rfl rfl rfl ?_
  refine b_Pay_wouldGet_0  (s_Pay_gather hro hC (by omega) (fun I9 L9 s9 r9 => ?_))
  have f67 := Sc_67 s9
  have c9 := Cor_sc hC s9
  have e40 : L9 40 x1 = L 69 x1 := by rw [s9.2.2 40 (by omega)]; exact h40
  refine b_Pay_wouldGet_8 (by omega) (s_Pay_partPence (P := (fun q => pnt (I 67) (fun e => est (I 67) x1 x3 e) x1 x4 q)) hro c9 (pp_of (Mo_of hC) (by omega)) r9 (by rw [e40]; have := q_bd (y := x1) hQ (by omega); omega) (fun I8 L8 s8 r8 => ?_))
  refine b_Pay_wouldGet_27 (by omega) ?_
  rw [r8 x2 (by omega) (by omega), f67, e40]
  exact H I8 L8 (Sc_tr s9 s8)
theorem o_P_paid {ro : Nat → Int × (Int → Int)} {d : Nat} {b : Bool} {I L : Nat → Int → Int} {Q : Option am_V → am_H → Prop} {x1 x2 x3 : Int} (hro : RoK ro) (hC : Cor I L) (hQ : lQb (L 69)) (ly : lYr I L (I 67) (L 69)) (H1 : ¬ ((0 ≤ x1 ∧ x1 < I 67 0) ∧ 0 ≤ x2 ∧ x2 < I 67 3) → Q (some (am_L 0)) (sh b, rfC I (-3), L)) (H2 : ((0 ≤ x1 ∧ x1 < I 67 0) ∧ 0 ≤ x2 ∧ x2 < I 67 3) ∧ ¬ (0 ≤ x3 ∧ x3 ≤ 3) → Q (some (am_L 0)) (sh b, rfC I (-7), L)) (H3 : ((0 ≤ x1 ∧ x1 < I 67 0) ∧ 0 ≤ x2 ∧ x2 < I 67 3) ∧ x3 = 0 → Q (some (am_L (L 69 (123 + 20 * x1 + x2)))) (sh b, I, L)) (H4 : ((0 ≤ x1 ∧ x1 < I 67 0) ∧ 0 ≤ x2 ∧ x2 < I 67 3) ∧ x3 = 3 → Q (some (am_L (L 69 (943 + 20 * x1 + x2)))) (sh b, I, L)) (H5 : ((0 ≤ x1 ∧ x1 < I 67 0) ∧ 0 ≤ x2 ∧ x2 < I 67 3) ∧ x3 = 1 → ∀ I' L' : Nat → Int → Int, Sc I L I' L' → Q (some (am_L (wg (I 67) (L 69) x1 x2 (I 67 0) (-1)))) (sh b, I', L')) (H6 : ((0 ≤ x1 ∧ x1 < I 67 0) ∧ 0 ≤ x2 ∧ x2 < I 67 3) ∧ x3 = 2 → ∀ I' L' : Nat → Int → Int, Sc I L I' L' → Q (some (am_L (wg (I 67) (L 69) x1 x2 x1 (-1)))) (sh b, I', L')) : am_m ro (d + 9) 29 [am_R 0, am_I x1, am_I x2, am_I x3] (sh b, I, L) Q := by
  have ct := Cor_ct hC
  refine am_in rfl rfl rfl rfl ?_
  refine b_P_paid_0  (s_P_isClosed (by omega) (fun c1 => ?_) (fun c1 => ?_))
  · refine b_P_paid_5  (fun c2 => absurd c2 (by decide)) (fun c2 => ?_)
    refine b_P_paid_8  (s_Peo_has (by omega) (fun c3 => ?_) (fun c3 => ?_))
    · refine b_P_paid_19  (fun c4 => ?_) (fun c4 => absurd c4 (by decide))
      refine b_P_paid_30 (by omega) (by omega) (fun c5 => ?_) (fun c5 => ?_) (fun c5 => ?_) (fun c5 => ?_) (fun c5_0 c5_1 c5_2 c5_3 => ?_)
      · refine b_P_paid_68 (by omega) ?_
        have y4 := And.left (ly.2.2.2 (x1 * 20 + x2) (by omega) (by omega))
        have e9 : 123 + (x1 * 20 + x2) = 123 + 20 * x1 + x2 := by omega
        rw [y4, e9]
        exact H3 (by omega)
      · refine b_P_paid_82  (s_Pay_wouldGet hro hC hQ (ly.1 x1 (by omega) (by omega)).2.2.1 (by omega) (fun I9 L9 s9 => ?_))
        refine b_P_paid_99  ?_
        rw [ct.1.1]
        exact H5 (by omega) I9 L9 s9
      · refine b_P_paid_100  (s_Pay_wouldGet hro hC hQ (ly.1 x1 (by omega) (by omega)).2.2.1 (by omega) (fun I9 L9 s9 => ?_))
        refine b_P_paid_111  ?_
        exact H6 (by omega) I9 L9 s9
      · refine b_P_paid_112 (by omega) ?_
        have y4 := And.right (ly.2.2.2 (x1 * 20 + x2) (by omega) (by omega))
        have e9 : 943 + (x1 * 20 + x2) = 943 + 20 * x1 + x2 := by omega
        rw [y4, e9]
        exact H4 (by omega)
      · refine b_P_paid_126  (s_P_refuseAsZero (by omega) ?_)
        refine b_P_paid_132  ?_
        first | exact H1 (by omega) | exact H2 (by omega)
    · refine b_P_paid_19  (fun c6 => absurd c6 (by decide)) (fun c6 => ?_)
      refine b_P_paid_22  (s_P_refuseAsZero (by omega) ?_)
      refine b_P_paid_28  ?_
      first | exact H1 (by omega) | exact H2 (by omega)
  · refine b_P_paid_5  (fun c7 => ?_) (fun c7 => absurd c7 (by decide))
    refine b_P_paid_22  (s_P_refuseAsZero (by omega) ?_)
    refine b_P_paid_28  ?_
    first | exact H1 (by omega) | exact H2 (by omega)
theorem o_M_paid {ro : Nat → Int × (Int → Int)} {d : Nat} {b : Bool} {I L : Nat → Int → Int} {Q : Option am_V → am_H → Prop} {x1 x2 x3 : Int} (hM : Mo I L) (hQ : lQb (L 69)) (hw : I 66 22 = -1) (H1 : ¬ ((0 ≤ x1 ∧ x1 < I 67 0) ∧ 0 ≤ x2 ∧ x2 < I 67 3) → Q (some (am_L 0)) (sh b, rfM I (-3), L)) (H2 : ((0 ≤ x1 ∧ x1 < I 67 0) ∧ 0 ≤ x2 ∧ x2 < I 67 3) ∧ ¬ (0 ≤ x3 ∧ x3 ≤ 3) → Q (some (am_L 0)) (sh b, rfM I (-7), L)) (H3 : ((0 ≤ x1 ∧ x1 < I 67 0) ∧ 0 ≤ x2 ∧ x2 < I 67 3) ∧ x3 = 0 → Q (some (am_L (L 69 (123 + 20 * x1 + x2)))) (sh b, I, L)) (H4 : ((0 ≤ x1 ∧ x1 < I 67 0) ∧ 0 ≤ x2 ∧ x2 < I 67 3) ∧ x3 = 3 → Q (some (am_L (L 69 (943 + 20 * x1 + x2)))) (sh b, I, L)) (H5 : ((0 ≤ x1 ∧ x1 < I 67 0) ∧ 0 ≤ x2 ∧ x2 < I 67 3) ∧ x3 = 1 → ∀ I' L' : Nat → Int → Int, Sc I L I' L' → Q (some (am_L (wg (I 67) (L 69) x1 x2 (I 67 0) (-1)))) (sh b, I', L')) (H6 : ((0 ≤ x1 ∧ x1 < I 67 0) ∧ 0 ≤ x2 ∧ x2 < I 67 3) ∧ x3 = 2 → ∀ I' L' : Nat → Int → Int, Sc I L I' L' → Q (some (am_L (wg (I 67) (L 69) x1 x2 x1 (-1)))) (sh b, I', L')) : am_m ro (d + 9) 233 [am_R 66, am_I x1, am_I x2, am_I x3] (sh b, I, L) Q := by
  have ct := Mo_ct hM
  refine am_in rfl rfl rfl rfl ?_
  refine b_M_paid_0  (s_M_isClosed (by omega) (fun c1 => ?_) (fun c1 => ?_))
  · refine b_M_paid_5  (fun c2 => absurd c2 (by decide)) (fun c2 => ?_)
    refine b_M_paid_8  (s_M_isPerson (by omega) (fun c3 => ?_) (fun c3 => ?_))
    · refine b_M_paid_13  (fun c4 => ?_) (fun c4 => absurd c4 (by decide))
      refine b_M_paid_24  (s_M_in (fun c5 => ?_) (fun c5 => ?_))
      · refine b_M_paid_30  (fun c6 => ?_) (fun c6 => absurd c6 (by decide))
        refine b_M_paid_41  (fun c7 => ?_) (fun c7 => ?_)
        · refine b_M_paid_50  (fun c8 => ?_) (fun c8 => ?_)
          · refine b_M_paid_63  ?_
            refine b_M_paid_66 (by omega) (by omega) (by omega) (by omega) ?_
            first | exact H3 (by omega) | exact H4 (by omega) | (exfalso; omega)
          · refine b_M_paid_58  ?_
            refine b_M_paid_66 (by omega) (by omega) (by omega) (by omega) ?_
            first | exact H3 (by omega) | exact H4 (by omega) | (exfalso; omega)
        · refine b_M_paid_45  (fun c9 => ?_) (fun c9 => ?_)
          · refine b_M_paid_75  (fun c10 => ?_) (fun c10 => ?_)
            · refine b_M_paid_91  ?_
              refine b_M_paid_92 (by omega) (by omega) (s_M_parted hM (by have := q_bd (y := 0 + x1) hQ (by omega); omega) (fun I9 L9 s9 r9 r8 => ?_))
              refine b_M_paid_103 (by omega) ?_
              first
                | (exfalso; omega)
                | (have k9 := H6 (by omega) I9 L9 s9
                   rw [r9 x2 (by omega) (by omega), hw, Int.zero_add]
                   exact k9)
            · refine b_M_paid_82  ?_
              refine b_M_paid_92 (by omega) (by omega) (s_M_parted hM (by have := q_bd (y := 0 + x1) hQ (by omega); omega) (fun I9 L9 s9 r9 r8 => ?_))
              refine b_M_paid_103 (by omega) ?_
              first
                | (exfalso; omega)
                | (have k9 := H5 (by omega) I9 L9 s9
                   rw [r9 x2 (by omega) (by omega), hw, Int.zero_add]
                   exact k9)
          · refine b_M_paid_50  (fun c11 => ?_) (fun c11 => ?_)
            · refine b_M_paid_63  ?_
              refine b_M_paid_66 (by omega) (by omega) (by omega) (by omega) ?_
              first | exact H3 (by omega) | exact H4 (by omega) | (exfalso; omega)
            · refine b_M_paid_58  ?_
              refine b_M_paid_66 (by omega) (by omega) (by omega) (by omega) ?_
              first | exact H3 (by omega) | exact H4 (by omega) | (exfalso; omega)
      · refine b_M_paid_30  (fun c12 => absurd c12 (by decide)) (fun c12 => ?_)
        refine b_M_paid_33  (s_M_nought (by omega) ?_)
        refine b_M_paid_39  ?_
        first | exact H1 (by omega) | exact H2 (by omega)
    · refine b_M_paid_13  (fun c13 => absurd c13 (by decide)) (fun c13 => ?_)
      refine b_M_paid_16  (s_M_nought (by omega) ?_)
      refine b_M_paid_22  ?_
      first | exact H1 (by omega) | exact H2 (by omega)
  · refine b_M_paid_5  (fun c14 => ?_) (fun c14 => absurd c14 (by decide))
    refine b_M_paid_16  (s_M_nought (by omega) ?_)
    refine b_M_paid_22  ?_
    first | exact H1 (by omega) | exact H2 (by omega)
theorem A_paid {ro : Nat → Int × (Int → Int)} {d : Nat} {b : Bool} {I L : Nat → Int → Int} {x1 x2 x3 : Int} (hro : RoK ro) (hI : Inv b I L) : am_m ro (d + 9) 29 [am_R 0, am_I x1, am_I x2, am_I x3] (sh b, I, L) (fun r h => am_m ro (d + 9) 233 [am_R 66, am_I x1, am_I x2, am_I x3] h (fun r2 h2 => Pair r r2 h2)) := by
  have hC := Cor_of hI
  have ct := Cor_ct hC
  have hw := hI.2.2.2.2.2.1
  have hQ := lQb_of hI.1.2.2.2.2.2.2.2.2.2
  refine o_P_paid hro hC hQ hI.1.2.2.2.2.2.2.2.1 (fun a => ?_) (fun a => ?_) (fun a => ?_) (fun a => ?_) (fun a I1 L1 s1 => ?_) (fun a I1 L1 s1 => ?_)
  · refine o_M_paid (by repeat (first | exact Mo_of hC | refine Mo_rf ?_ | refine Mo_up ?_ (by decide))) hQ (by rw [rfm (by omega)]; exact hw) (fun a2 => ?_) (fun a2 => by (try simp (disch := omega) only [rfm, rfn] at a2); omega) (fun a2 => by (try simp (disch := omega) only [rfm, rfn] at a2); omega) (fun a2 => by (try simp (disch := omega) only [rfm, rfn] at a2); omega) (fun a2 => by (try simp (disch := omega) only [rfm, rfn] at a2); omega) (fun a2 => by (try simp (disch := omega) only [rfm, rfn] at a2); omega)
    exact Pair_rf hI
  · refine o_M_paid (by repeat (first | exact Mo_of hC | refine Mo_rf ?_ | refine Mo_up ?_ (by decide))) hQ (by rw [rfm (by omega)]; exact hw) (fun a2 => by (try simp (disch := omega) only [rfm, rfn] at a2); omega) (fun a2 => ?_) (fun a2 => by (try simp (disch := omega) only [rfm, rfn] at a2); omega) (fun a2 => by (try simp (disch := omega) only [rfm, rfn] at a2); omega) (fun a2 => by (try simp (disch := omega) only [rfm, rfn] at a2); omega) (fun a2 => by (try simp (disch := omega) only [rfm, rfn] at a2); omega)
    exact Pair_rf hI
  · refine o_M_paid (Mo_of hC) hQ hw (fun a2 => by (try simp (disch := omega) only [rfm, rfn] at a2); omega) (fun a2 => by (try simp (disch := omega) only [rfm, rfn] at a2); omega) (fun a2 => ?_) (fun a2 => by (try simp (disch := omega) only [rfm, rfn] at a2); omega) (fun a2 => by (try simp (disch := omega) only [rfm, rfn] at a2); omega) (fun a2 => by (try simp (disch := omega) only [rfm, rfn] at a2); omega)
    exact ⟨_, b, I, L, rfl, rfl, rfl, hI⟩
  · refine o_M_paid (Mo_of hC) hQ hw (fun a2 => by (try simp (disch := omega) only [rfm, rfn] at a2); omega) (fun a2 => by (try simp (disch := omega) only [rfm, rfn] at a2); omega) (fun a2 => by (try simp (disch := omega) only [rfm, rfn] at a2); omega) (fun a2 => ?_) (fun a2 => by (try simp (disch := omega) only [rfm, rfn] at a2); omega) (fun a2 => by (try simp (disch := omega) only [rfm, rfn] at a2); omega)
    exact ⟨_, b, I, L, rfl, rfl, rfl, hI⟩
  · have f67 := Sc_67 s1
    have f69 := Sc_69 s1
    refine o_M_paid (Mo_sc (Mo_of hC) s1) (by rw [f69]; exact hQ) (by rw [s1.2.1 22 (by omega)]; exact hw) (fun a2 => by rw [f67] at a2; omega) (fun a2 => by rw [f67] at a2; omega) (fun a2 => by rw [f67] at a2; omega) (fun a2 => by rw [f67] at a2; omega) (fun a2 I2 L2 s2 => ?_) (fun a2 => by rw [f67] at a2; omega)
    rw [f67, f69]
    exact ⟨_, b, I2, L2, rfl, rfl, rfl, Inv_sc hI (Sc_tr s1 s2)⟩
  · have f67 := Sc_67 s1
    have f69 := Sc_69 s1
    refine o_M_paid (Mo_sc (Mo_of hC) s1) (by rw [f69]; exact hQ) (by rw [s1.2.1 22 (by omega)]; exact hw) (fun a2 => by rw [f67] at a2; omega) (fun a2 => by rw [f67] at a2; omega) (fun a2 => by rw [f67] at a2; omega) (fun a2 => by rw [f67] at a2; omega) (fun a2 => by rw [f67] at a2; omega) (fun a2 I2 L2 s2 => ?_)
    rw [f67, f69]
    exact ⟨_, b, I2, L2, rfl, rfl, rfl, Inv_sc hI (Sc_tr s1 s2)⟩
theorem o_P_gain {ro : Nat → Int × (Int → Int)} {d : Nat} {b : Bool} {I L : Nat → Int → Int} {Q : Option am_V → am_H → Prop} {x1 x2 x3 : Int} (hro : RoK ro) (hC : Cor I L) (hQ : lQb (L 69)) (ly : lYr I L (I 67) (L 69)) (H1 : ¬ ((0 ≤ x1 ∧ x1 < I 67 0) ∧ (0 ≤ x2 ∧ x2 < I 67 3) ∧ 0 ≤ x3 ∧ x3 < I 67 5) → Q (some (am_L 0)) (sh b, rfC I (-3), L)) (H2 : (0 ≤ x1 ∧ x1 < I 67 0) ∧ (0 ≤ x2 ∧ x2 < I 67 3) ∧ 0 ≤ x3 ∧ x3 < I 67 5 → ∀ I' L' : Nat → Int → Int, Sc I L I' L' → Q (some (am_L (wg (I 67) (L 69) x1 x2 (I 67 0) (-1) - wg (I 67) (L 69) x1 x2 (I 67 0) x3))) (sh b, I', L')) : am_m ro (d + 9) 30 [am_R 0, am_I x1, am_I x2, am_I x3] (sh b, I, L) Q := by
  have ct := Cor_ct hC
  refine am_in rfl rfl rfl rfl ?_
  refine b_P_gain_0  (s_P_isClosed (by omega) (fun c1 => ?_) (fun c1 => ?_))
  · refine b_P_gain_5  (fun c2 => absurd c2 (by decide)) (fun c2 => ?_)
    refine b_P_gain_8  (s_Peo_has (by omega) (fun c3 => ?_) (fun c3 => ?_))
    · refine b_P_gain_19  (fun c4 => absurd c4 (by decide)) (fun c4 => ?_)
      refine b_P_gain_22  (s_Ruls_has (by omega) (fun c5 => ?_) (fun c5 => ?_))
      · refine b_P_gain_33  (fun c6 => ?_) (fun c6 => absurd c6 (by decide))
        refine b_P_gain_44  (s_Pay_wouldGet hro hC hQ (ly.1 x1 (by omega) (by omega)).2.2.1 (by omega) (fun I9 L9 s9 => ?_))
        have f67 := Sc_67 s9
        have f69 := Sc_69 s9
        have c9 := Cor_sc hC s9
        have e10 : I9 1 0 = I 67 0 := by have := (Cor_ct c9).1.1; rw [f67] at this; exact this
        refine b_P_gain_61  (s_Pay_wouldGet hro c9 (by rw [f69]; exact hQ) (by rw [f69, s9.2.2 40 (by omega)]; exact (ly.1 x1 (by omega) (by omega)).2.2.1) (by omega) (fun I8 L8 s8 => ?_))
        rw [f67, f69, e10, ct.1.1]
        have b1 := wg_bd (y := x1) (n := x2) (a := I 67 0) (w := -1) (Mo_of hC) hQ (by omega) (by omega)
        have b2 := wg_bd (y := x1) (n := x2) (a := I 67 0) (w := x3) (Mo_of hC) hQ (by omega) (by omega)
        refine b_P_gain_82 (by (try rw [f67, f69, e10, ct.1.1]); omega) ?_
        exact H2 (by omega) I8 L8 (Sc_tr s9 s8)
      · refine b_P_gain_33  (fun c7 => absurd c7 (by decide)) (fun c7 => ?_)
        refine b_P_gain_36  (s_P_refuseAsZero (by omega) ?_)
        refine b_P_gain_42  ?_
        exact H1 (by omega)
    · refine b_P_gain_19  (fun c8 => ?_) (fun c8 => absurd c8 (by decide))
      refine b_P_gain_36  (s_P_refuseAsZero (by omega) ?_)
      refine b_P_gain_42  ?_
      exact H1 (by omega)
  · refine b_P_gain_5  (fun c9 => ?_) (fun c9 => absurd c9 (by decide))
    refine b_P_gain_36  (s_P_refuseAsZero (by omega) ?_)
    refine b_P_gain_42  ?_
    exact H1 (by omega)
theorem o_M_gain {ro : Nat → Int × (Int → Int)} {d : Nat} {b : Bool} {I L : Nat → Int → Int} {Q : Option am_V → am_H → Prop} {x1 x2 x3 : Int} (hM : Mo I L) (hQ : lQb (L 69)) (hw : I 66 22 = -1) (H1 : ¬ ((0 ≤ x1 ∧ x1 < I 67 0) ∧ (0 ≤ x2 ∧ x2 < I 67 3) ∧ 0 ≤ x3 ∧ x3 < I 67 5) → Q (some (am_L 0)) (sh b, rfM I (-3), L)) (H2 : (0 ≤ x1 ∧ x1 < I 67 0) ∧ (0 ≤ x2 ∧ x2 < I 67 3) ∧ 0 ≤ x3 ∧ x3 < I 67 5 → ∀ I' L' : Nat → Int → Int, Sc I L I' L' → Q (some (am_L (wg (I 67) (L 69) x1 x2 (I 67 0) (-1) - wg (I 67) (L 69) x1 x2 (I 67 0) x3))) (sh b, I', L')) : am_m ro (d + 9) 234 [am_R 66, am_I x1, am_I x2, am_I x3] (sh b, I, L) Q := by
  have ct := Mo_ct hM
  refine am_in rfl rfl rfl rfl ?_
  refine b_M_gain_0  (s_M_isClosed (by omega) (fun c1 => ?_) (fun c1 => ?_))
  · refine b_M_gain_5  (fun c2 => absurd c2 (by decide)) (fun c2 => ?_)
    refine b_M_gain_8  (s_M_isPerson (by omega) (fun c3 => ?_) (fun c3 => ?_))
    · refine b_M_gain_13  (fun c4 => absurd c4 (by decide)) (fun c4 => ?_)
      refine b_M_gain_16 (by omega) (s_M_in (fun c5 => ?_) (fun c5 => ?_))
      · refine b_M_gain_29  (fun c6 => ?_) (fun c6 => absurd c6 (by decide))
        refine b_M_gain_40 (by omega) (by omega) (s_M_parted hM (by have := q_bd (y := 0 + x1) hQ (by omega); omega) (fun I9 L9 s9 r9 z9 => ?_))
        have f67 := Sc_67 s9
        have f69 := Sc_69 s9
        have hM8 : Mo (am_up I9 66 22 x3) L9 := Mo_up (Mo_sc hM s9) (by omega)
        have e8 : (am_up I9 66 22 x3) 67 = I 67 := by rw [upn (by omega)]; exact f67
        have b1 := wg_bd (y := x1) (n := x2) (a := I 67 0) (w := -1) hM hQ (by omega) (by omega)
        have b2 := wg_bd (y := x1) (n := x2) (a := I 67 0) (w := x3) hM hQ (by omega) (by omega)
        have q1 : L9 82 x2 = wg (I 67) (L 69) x1 x2 (I 67 0) (-1) := by rw [r9 x2 (by omega) (by omega), hw, Int.zero_add]; rfl
        refine b_M_gain_59 (by first | omega | (rw [upm (by omega)]; omega)) (by first | omega | (rw [upm (by omega)]; omega)) (by first | omega | (rw [upm (by omega)]; omega)) (s_M_parted hM8 (by rw [f69]; have := q_bd (y := 0 + x1) hQ (by omega); omega) (fun I7 L7 s7 r7 z7 => ?_))
        have q2 : L7 82 x2 = wg (I 67) (L 69) x1 x2 (I 67 0) x3 := by rw [r7 x2 (by omega) (by omega), e8, ups, f69, Int.zero_add]; rfl
        refine b_M_gain_91 (by omega) (by omega) ?_
        rw [q1, q2]
        refine H2 (by omega) _ L7 ⟨fun k a1 a2 a3 a4 a5 a6 a7 a8 a9 a10 a11 a12 => ?_, fun j hj => ?_, fun k hk => ?_⟩
        · rw [upn a7, s7.1 k a1 a2 a3 a4 a5 a6 a7 a8 a9 a10 a11 a12, upn a7]
          exact s9.1 k a1 a2 a3 a4 a5 a6 a7 a8 a9 a10 a11 a12
        · by_cases ej : j = 22
          · rw [ej, ups, hw]
          · rw [upo ej, s7.2.1 j hj, upo ej]
            exact s9.2.1 j hj
        · rw [s7.2.2 k hk]
          exact s9.2.2 k hk
      · refine b_M_gain_29  (fun c7 => absurd c7 (by decide)) (fun c7 => ?_)
        refine b_M_gain_32  (s_M_nought (by omega) ?_)
        refine b_M_gain_38  ?_
        exact H1 (by omega)
    · refine b_M_gain_13  (fun c8 => ?_) (fun c8 => absurd c8 (by decide))
      refine b_M_gain_32  (s_M_nought (by omega) ?_)
      refine b_M_gain_38  ?_
      exact H1 (by omega)
  · refine b_M_gain_5  (fun c9 => ?_) (fun c9 => absurd c9 (by decide))
    refine b_M_gain_32  (s_M_nought (by omega) ?_)
    refine b_M_gain_38  ?_
    exact H1 (by omega)
theorem A_gain {ro : Nat → Int × (Int → Int)} {d : Nat} {b : Bool} {I L : Nat → Int → Int} {x1 x2 x3 : Int} (hro : RoK ro) (hI : Inv b I L) : am_m ro (d + 9) 30 [am_R 0, am_I x1, am_I x2, am_I x3] (sh b, I, L) (fun r h => am_m ro (d + 9) 234 [am_R 66, am_I x1, am_I x2, am_I x3] h (fun r2 h2 => Pair r r2 h2)) := by
  have hC := Cor_of hI
  have ct := Cor_ct hC
  have hw := hI.2.2.2.2.2.1
  have hQ := lQb_of hI.1.2.2.2.2.2.2.2.2.2
  refine o_P_gain hro hC hQ hI.1.2.2.2.2.2.2.2.1 (fun a => ?_) (fun a I1 L1 s1 => ?_)
  · refine o_M_gain (by repeat (first | exact Mo_of hC | refine Mo_rf ?_ | refine Mo_up ?_ (by decide))) hQ (by rw [rfm (by omega)]; exact hw) (fun a2 => Pair_rf hI) (fun a2 => by (try simp (disch := omega) only [rfm, rfn] at a2); omega)
  · have f67 := Sc_67 s1
    have f69 := Sc_69 s1
    refine o_M_gain (Mo_sc (Mo_of hC) s1) (by rw [f69]; exact hQ) (by rw [s1.2.1 22 (by omega)]; exact hw) (fun a2 => by rw [f67] at a2; omega) (fun a2 I2 L2 s2 => ?_)
    rw [f67, f69]
    exact ⟨_, b, I2, L2, rfl, rfl, rfl, Inv_sc hI (Sc_tr s1 s2)⟩
