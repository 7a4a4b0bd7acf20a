theorem oL_bd {I L : Nat → Int → Int} {y a l : Int} (h : Mo I L) : 0 ≤ oL (I 67) y a l ∧ oL (I 67) y a l ≤ 299999970 := by
  have ct := Mo_ct h
  have := sm_bd (f := nn (I 67) y a l) (B := 9999999) (I 67 2).toNat (fun k _ _ => nn_bd h)
  unfold oL
  omega
theorem o_P_look {ro : Nat → Int × (Int → Int)} {d : Nat} {b : Bool} {I L : Nat → Int → Int} {Q : Option am_V → am_H → Prop} {x1 x2 : Int} (hC : Cor I L) (H1 : ¬ (0 ≤ x1 ∧ x1 < I 67 1) → Q (some (am_I (-3))) (sh b, rfC I (-3), L)) (H2 : (0 ≤ x1 ∧ x1 < I 67 1) ∧ ¬ (0 ≤ x2 ∧ x2 ≤ 3) → Q (some (am_I (-7))) (sh b, rfC I (-7), L)) (H3 : (0 ≤ x1 ∧ x1 < I 67 1) ∧ x2 = 0 → Q (some (am_I (I 67 (10 + x1)))) (sh b, I, L)) (H4 : (0 ≤ x1 ∧ x1 < I 67 1) ∧ x2 = 1 → Q (some (am_I (I 67 (22 + x1)))) (sh b, I, L)) (H5 : (0 ≤ x1 ∧ x1 < I 67 1) ∧ x2 = 2 → Q (some (am_I (if am_and (am_shr (I 67 (34 + I 67 0)) x1) 1 = 1 then 1 else 0))) (sh b, I, L)) (H6 : (0 ≤ x1 ∧ x1 < I 67 1) ∧ x2 = 3 → ∀ I' L' : Nat → Int → Int, Sc I L I' L' → Q (some (am_I (oL (I 67) (I 67 0) (I 67 0) x1))) (sh b, I', L')) : am_m ro (d + 4) 7 [am_R 0, am_I x1, am_I x2] (sh b, I, L) Q := by
  have ct := Cor_ct hC
  have yr := (hC.1.2.2.2.2.2.2.2.1.1 (I 67 0) (by omega) (by omega)).1
  have edr : am_and (am_shr (I 37 (I 1 0)) x1) 1 = am_and (am_shr (I 67 (34 + I 67 0)) x1) 1 := by rw [ct.1.1, yr]
  refine am_in rfl rfl rfl rfl ?_
  refine b_P_look_0  (s_Libs_has (by omega) (fun c1 => ?_) (fun c1 => ?_))
  · refine b_P_look_11  (fun c2 => ?_) (fun c2 => absurd c2 (by decide))
    refine b_P_look_21  (fun c3 => ?_) (fun c3 => ?_) (fun c3 => ?_) (fun c3 => ?_) (fun c3_0 c3_1 c3_2 c3_3 => ?_)
    · have ll := hC.1.2.1.2.2.2.1 x1 (by omega) (by omega)
      refine b_P_look_52 (by omega) ?_
      rw [ll.1]
      exact H3 (by omega)
    · have ll := hC.1.2.1.2.2.2.1 x1 (by omega) (by omega)
      refine b_P_look_65 (by omega) ?_
      rw [ll.2]
      exact H4 (by omega)
    · refine b_P_look_78  (s_Yrs_isDrawn (by omega) (fun c4 => ?_) (fun c4 => ?_))
      · refine b_P_look_96  (fun c5 => absurd c5 (by decide)) (fun c5 => ?_)
        refine b_P_look_99  ?_
        refine b_P_look_104  ?_
        have k9 := H5 (by omega)
        rw [if_pos (by omega)] at k9
        exact k9
      · refine b_P_look_96  (fun c6 => ?_) (fun c6 => absurd c6 (by decide))
        refine b_P_look_103  ?_
        refine b_P_look_104  ?_
        have k9 := H5 (by omega)
        rw [if_neg (by omega)] at k9
        exact k9
    · refine b_P_look_105  (s_Cnt_read hC (by omega) (fun I9 L9 s9 r9 => ?_))
      rw [ct.1.1] at r9
      have q2 : L9 53 x1 = oL (I 67) (I 67 0) (I 67 0) x1 := r9.2.1 x1 (by omega) (by omega)
      have q3 : 0 ≤ oL (I 67) (I 67 0) (I 67 0) x1 ∧ oL (I 67) (I 67 0) (I 67 0) x1 ≤ 299999970 := oL_bd (Mo_of hC)
      refine b_P_look_126 (by omega) (by omega) ?_
      rw [q2]
      exact H6 (by omega) I9 L9 s9
    · refine b_P_look_137  (s_P_refuse (by omega) ?_)
      refine b_P_look_143  ?_
      first | exact H1 (by omega) | exact H2 (by omega)
  · refine b_P_look_11  (fun c7 => absurd c7 (by decide)) (fun c7 => ?_)
    refine b_P_look_14  (s_P_refuse (by omega) ?_)
    refine b_P_look_20  ?_
    first | exact H1 (by omega) | exact H2 (by omega)
theorem lp_M_look {ro : Nat → Int × (Int → Int)} {d : Nat} {b : Bool} {I L : Nat → Int → Int} {Q : Option am_V → am_H → Prop} {bc bs : Nat} {x1 : Int} (hM : Mo I L) (hx : 0 ≤ x1 ∧ x1 < I 67 1) (H : Q (some (am_I (oL (I 67) (I 67 0) (I 67 0) x1))) (sh b, I, L)) : ∀ (n : Nat) (x3 x4 : Int), (0 ≤ x4) → (x4 ≤ I 67 2) → (x3 = sm (nn (I 67) (I 67 0) (I 67 0) x1) x4.toNat) → (0 ≤ x3 ∧ x3 ≤ 9999999 * x4) → I 67 2 - x4 < (n : Int) → am_ex (am_m ro (d + 2)) ro am_M173 Q (91, [some (am_R 66), some (am_I x1), none, some (am_I x3), some (am_I x4)], [], (sh b, I, L), bc, bs) := by
  intro n
  induction n with
  | zero =>
    intro x3 x4 i0 i1 i2 i3 im
    exact absurd im (by omega)
  | succ n ih =>
    intro x3 x4 i0 i1 i2 i3 im
    have ct := Mo_ct hM
    refine b_M_look_91  (fun c1 => ?_) (fun c1 => ?_)
    · refine b_M_look_134  ?_
      have e9 : x4 = I 67 2 := by omega
      rw [i2, e9]
      exact H
    · have nb := nn_bd (y := I 67 0) (a := I 67 0) (l := x1) (e := x4) hM
      have nb2 : ln (I 67) (I 67 0) (100 * x1 + x4) (I 67 0) = nn (I 67) (I 67 0) (I 67 0) x1 x4 := rfl
      refine b_M_look_102 (by omega) (by omega) (s_M_loans hM ?_)
      refine b_M_look_126 (by omega) (by omega) ?_
      exact ih (x3 + (ln (I 67) (I 67 0) ((100 * x1) + x4) (I 67 0))) (x4 + 1) (by omega) (by omega) (by rw [sm_step (by omega), ← i2]; rfl) (by omega) (by omega)
theorem o_M_look {ro : Nat → Int × (Int → Int)} {d : Nat} {b : Bool} {I L : Nat → Int → Int} {Q : Option am_V → am_H → Prop} {x1 x2 : Int} (hM : Mo I L) (H1 : ¬ (0 ≤ x1 ∧ x1 < I 67 1) → Q (some (am_I (-3))) (sh b, rfM I (-3), L)) (H2 : (0 ≤ x1 ∧ x1 < I 67 1) ∧ ¬ (0 ≤ x2 ∧ x2 ≤ 3) → Q (some (am_I (-7))) (sh b, rfM I (-7), L)) (H3 : (0 ≤ x1 ∧ x1 < I 67 1) ∧ x2 = 0 → Q (some (am_I (I 67 (10 + x1)))) (sh b, I, L)) (H4 : (0 ≤ x1 ∧ x1 < I 67 1) ∧ x2 = 1 → Q (some (am_I (I 67 (22 + x1)))) (sh b, I, L)) (H5 : (0 ≤ x1 ∧ x1 < I 67 1) ∧ x2 = 2 → Q (some (am_I (if am_and (am_shr (I 67 (34 + I 67 0)) x1) 1 = 1 then 1 else 0))) (sh b, I, L)) (H6 : (0 ≤ x1 ∧ x1 < I 67 1) ∧ x2 = 3 → Q (some (am_I (oL (I 67) (I 67 0) (I 67 0) x1))) (sh b, I, L)) : am_m ro (d + 4) 173 [am_R 66, am_I x1, am_I x2] (sh b, I, L) Q := by
  have ct := Mo_ct hM
  refine am_in rfl rfl rfl rfl ?_
  refine b_M_look_0  (s_M_isLibrary (by omega) (fun c1 => ?_) (fun c1 => ?_))
  · refine b_M_look_5  (fun c2 => ?_) (fun c2 => absurd c2 (by decide))
    refine b_M_look_15  (fun c3 => ?_) (fun c3 => ?_) (fun c3 => ?_) (fun c3 => ?_) (fun c3_0 c3_1 c3_2 c3_3 => ?_)
    · refine b_M_look_48 (by omega) (by omega) ?_
      first | exact H3 (by omega) | exact H4 (by omega)
    · refine b_M_look_58 (by omega) (by omega) ?_
      first | exact H3 (by omega) | exact H4 (by omega)
    · refine b_M_look_68  (s_M_isDrawn (by omega) (fun c4 => ?_) (fun c4 => ?_))
      · refine b_M_look_79  (fun c5 => absurd c5 (by decide)) (fun c5 => ?_)
        refine b_M_look_82  ?_
        refine b_M_look_87  ?_
        have k9 := H5 (by omega)
        rw [if_pos (by omega)] at k9
        exact k9
      · refine b_M_look_79  (fun c6 => ?_) (fun c6 => absurd c6 (by decide))
        refine b_M_look_86  ?_
        refine b_M_look_87  ?_
        have k9 := H5 (by omega)
        rw [if_neg (by omega)] at k9
        exact k9
    · refine b_M_look_88  ?_
      exact lp_M_look (d := d + 1) hM (by omega) (H6 (by omega)) ((I 67 2).toNat + 1) _ _ (by omega) (by omega) rfl (by omega) (by omega)
    · refine b_M_look_136  (s_M_refuse (by omega) ?_)
      refine b_M_look_142  ?_
      first | exact H1 (by omega) | exact H2 (by omega)
  · refine b_M_look_5  (fun c7 => absurd c7 (by decide)) (fun c7 => ?_)
    refine b_M_look_8  (s_M_refuse (by omega) ?_)
    refine b_M_look_14  ?_
    first | exact H1 (by omega) | exact H2 (by omega)
theorem A_look {ro : Nat → Int × (Int → Int)} {d : Nat} {b : Bool} {I L : Nat → Int → Int} {x1 x2 : Int} (hI : Inv b I L) : am_m ro (d + 4) 7 [am_R 0, am_I x1, am_I x2] (sh b, I, L) (fun r h => am_m ro (d + 4) 173 [am_R 66, am_I x1, am_I x2] h (fun r2 h2 => Pair r r2 h2)) := by
  have hC := Cor_of hI
  have ct := Cor_ct hC
  refine o_P_look hC (fun a => ?_) (fun a => ?_) (fun a => ?_) (fun a => ?_) (fun a => ?_) (fun a I1 L1 s1 => ?_)
  · refine o_M_look (by repeat (first | exact Mo_of hC | refine Mo_rf ?_ | refine Mo_up ?_ (by decide))) (fun a2 => ?_) (fun a2 => by (try simp (disch := omega) only [rfm, rfn] at a2); omega) (fun a2 => by (try simp (disch := omega) only [rfm, rfn] at a2); omega) (fun a2 => by (try simp (disch := omega) only [rfm, rfn] at a2); omega) (fun a2 => by (try simp (disch := omega) only [rfm, rfn] at a2); omega) (fun a2 => by (try simp (disch := omega) only [rfm, rfn] at a2); omega)
    exact Pair_rf hI
  · refine o_M_look (by repeat (first | exact Mo_of hC | refine Mo_rf ?_ | refine Mo_up ?_ (by decide))) (fun a2 => by (try simp (disch := omega) only [rfm, rfn] at a2); omega) (fun a2 => ?_) (fun a2 => by (try simp (disch := omega) only [rfm, rfn] at a2); omega) (fun a2 => by (try simp (disch := omega) only [rfm, rfn] at a2); omega) (fun a2 => by (try simp (disch := omega) only [rfm, rfn] at a2); omega) (fun a2 => by (try simp (disch := omega) only [rfm, rfn] at a2); omega)
    exact Pair_rf hI
  · refine o_M_look (Mo_of hC) (fun a2 => by (try simp (disch := omega) only [rfm, rfn] at a2); omega) (fun a2 => by (try simp (disch := omega) only [rfm, rfn] at a2); omega) (fun a2 => ?_) (fun a2 => by (try simp (disch := omega) only [rfm, rfn] at a2); omega) (fun a2 => by (try simp (disch := omega) only [rfm, rfn] at a2); omega) (fun a2 => by (try simp (disch := omega) only [rfm, rfn] at a2); omega)
    exact ⟨_, b, I, L, rfl, rfl, rfl, hI⟩
  · refine o_M_look (Mo_of hC) (fun a2 => by (try simp (disch := omega) only [rfm, rfn] at a2); omega) (fun a2 => by (try simp (disch := omega) only [rfm, rfn] at a2); omega) (fun a2 => by (try simp (disch := omega) only [rfm, rfn] at a2); omega) (fun a2 => ?_) (fun a2 => by (try simp (disch := omega) only [rfm, rfn] at a2); omega) (fun a2 => by (try simp (disch := omega) only [rfm, rfn] at a2); omega)
    exact ⟨_, b, I, L, rfl, rfl, rfl, hI⟩
  · refine o_M_look (Mo_of hC) (fun a2 => by (try simp (disch := omega) only [rfm, rfn] at a2); omega) (fun a2 => by (try simp (disch := omega) only [rfm, rfn] at a2); omega) (fun a2 => by (try simp (disch := omega) only [rfm, rfn] at a2); omega) (fun a2 => by (try simp (disch := omega) only [rfm, rfn] at a2); omega) (fun a2 => ?_) (fun a2 => by (try simp (disch := omega) only [rfm, rfn] at a2); omega)
    exact ⟨_, b, I, L, rfl, rfl, rfl, hI⟩
  · have f67 := Sc_67 s1
    have hM := Mo_sc (Mo_of hC) s1
    refine o_M_look hM (fun a2 => by rw [f67] at a2; omega) (fun a2 => by rw [f67] at a2; omega) (fun a2 => by rw [f67] at a2; omega) (fun a2 => by rw [f67] at a2; omega) (fun a2 => by rw [f67] at a2; omega) (fun a2 => ?_)
    rw [f67]
    exact ⟨_, b, I1, L1, rfl, rfl, rfl, Inv_sc hI s1⟩
theorem o_P_moved {ro : Nat → Int × (Int → Int)} {d : Nat} {b : Bool} {I L : Nat → Int → Int} {Q : Option am_V → am_H → Prop} {x1 x2 : Int} (hC : Cor I L) (hx : am_r x2) (H1 : ¬ ((0 ≤ x1 ∧ x1 ≤ I 67 0) ∧ 0 ≤ x2 ∧ x2 / 100 < I 67 1 ∧ x2 % 100 < I 67 2) → Q (some (am_I (-3))) (sh b, rfC I (-3), L)) (H2 : ((0 ≤ x1 ∧ x1 ≤ I 67 0) ∧ 0 ≤ x2 ∧ x2 / 100 < I 67 1 ∧ x2 % 100 < I 67 2) ∧ ¬ am_and (am_shr (I 67 (34 + x1)) (x2 / 100)) 1 = 1 → Q (some (am_I (-5))) (sh b, rfC I (-5), L)) (H3 : ((0 ≤ x1 ∧ x1 ≤ I 67 0) ∧ 0 ≤ x2 ∧ x2 / 100 < I 67 1 ∧ x2 % 100 < I 67 2) ∧ am_and (am_shr (I 67 (34 + x1)) (x2 / 100)) 1 = 1 → ∀ I' L' : Nat → Int → Int, Sc I L I' L' → Q (some (am_I (mv (I 67) x1 (I 67 0) (x2 / 100) (x2 % 100)))) (sh b, I', L')) : am_m ro (d + 4) 33 [am_R 0, am_I x1, am_I x2] (sh b, I, L) Q := by
  have ct := Cor_ct hC
  have td := tdm (x := x2) (c := 100) (by omega)
  have tw : am_w (Int.tdiv x2 100) = Int.tdiv x2 100 := am_w_id (by rcases Int.lt_or_le x2 0 with h | h; (· have := td.2 h; constructor <;> omega); (· have := td.1 h; constructor <;> omega))
  have edr : 0 ≤ x1 → x1 < 41 → 0 ≤ x2 → am_and (am_shr (I 37 x1) (am_w (Int.tdiv x2 100))) 1 = am_and (am_shr (I 67 (34 + x1)) (x2 / 100)) 1 := fun a1 a2 a3 => by rw [(hC.1.2.2.2.2.2.2.2.1.1 x1 a1 a2).1, tw, (td.1 a3).1]
  refine am_in rfl rfl rfl rfl ?_
  refine b_P_moved_0  (s_P_isYear (fun c1 => ?_) (fun c1 => ?_))
  · refine b_P_moved_16  (fun c2 => absurd c2 (by decide)) (fun c2 => ?_)
    refine b_P_moved_19  (s_P_isPair (by omega) (fun c3 => ?_) (fun c3 => ?_))
    · refine b_P_moved_26  (fun c4 => ?_) (fun c4 => absurd c4 (by decide))
      have x20 : 0 ≤ x2 := by
        rcases Int.lt_or_le x2 0 with h9 | h9
        · have h8 := td.2 h9
          omega
        · exact h9
      have h8 := td.1 x20
      refine b_P_moved_36  (s_Yrs_isDrawn (by omega) (fun c99 => ?_) (fun c99 => ?_))
      · refine b_P_moved_48  (fun c5 => ?_) (fun c5 => absurd c5 (by decide))
        refine b_P_moved_58  (s_Cnt_read hC (by omega) (fun I9 L9 s9 r9 => ?_))
        refine b_P_moved_73  (s_Cnt_isMoved (y := x1) (a := I 67 0) (Mo_sc (Mo_of hC) s9) (by rw [Sc_67 s9]; rw [ct.1.1] at r9; exact r9) (by rw [Sc_67 s9]; have h8 := td.1 (by omega); omega) ?_)
        refine b_P_moved_83  (fun c6 => ?_) (fun c6 => ?_)
        · refine b_P_moved_90  ?_
          refine b_P_moved_91  ?_
          have h8 := td.1 (by omega)
          have k9 := H3 (by have e9 := edr (by omega) (by omega) (by omega); omega) I9 L9 s9
          have m9 := mv_01 (p := I9 67) (y := x1) (a := I 67 0) (l := am_w (Int.tdiv x2 100)) (e := Int.tmod x2 100)
          have e8 : mv (I 67) x1 (I 67 0) (x2 / 100) (x2 % 100) = 0 := by
            have e7 : mv (I9 67) x1 (I 67 0) (am_w (Int.tdiv x2 100)) (Int.tmod x2 100) = mv (I 67) x1 (I 67 0) (x2 / 100) (x2 % 100) := by rw [Sc_67 s9, tw, h8.1, h8.2]
            omega
          rw [e8] at k9
          exact k9
        · refine b_P_moved_86  ?_
          refine b_P_moved_91  ?_
          have h8 := td.1 (by omega)
          have k9 := H3 (by have e9 := edr (by omega) (by omega) (by omega); omega) I9 L9 s9
          have m9 := mv_01 (p := I9 67) (y := x1) (a := I 67 0) (l := am_w (Int.tdiv x2 100)) (e := Int.tmod x2 100)
          have e8 : mv (I 67) x1 (I 67 0) (x2 / 100) (x2 % 100) = 1 := by
            have e7 : mv (I9 67) x1 (I 67 0) (am_w (Int.tdiv x2 100)) (Int.tmod x2 100) = mv (I 67) x1 (I 67 0) (x2 / 100) (x2 % 100) := by rw [Sc_67 s9, tw, h8.1, h8.2]
            omega
          rw [e8] at k9
          exact k9
      · refine b_P_moved_48  (fun c7 => absurd c7 (by decide)) (fun c7 => ?_)
        refine b_P_moved_51  (s_P_refuse (by omega) ?_)
        refine b_P_moved_57  ?_
        first | exact H1 (by rcases Int.lt_or_le x2 0 with h9 | h9; (· have h8 := td.2 h9; omega); (· have h8 := td.1 h9; omega)) | exact H2 (by have e9 := edr (by omega) (by omega) (by omega); omega)
    · refine b_P_moved_26  (fun c8 => absurd c8 (by decide)) (fun c8 => ?_)
      refine b_P_moved_29  (s_P_refuse (by omega) ?_)
      refine b_P_moved_35  ?_
      first | exact H1 (by rcases Int.lt_or_le x2 0 with h9 | h9; (· have h8 := td.2 h9; omega); (· have h8 := td.1 h9; omega)) | exact H2 (by have e9 := edr (by omega) (by omega) (by omega); omega)
  · refine b_P_moved_16  (fun c9 => ?_) (fun c9 => absurd c9 (by decide))
    refine b_P_moved_29  (s_P_refuse (by omega) ?_)
    refine b_P_moved_35  ?_
    first | exact H1 (by rcases Int.lt_or_le x2 0 with h9 | h9; (· have h8 := td.2 h9; omega); (· have h8 := td.1 h9; omega)) | exact H2 (by have e9 := edr (by omega) (by omega) (by omega); omega)
theorem o_M_moved {ro : Nat → Int × (Int → Int)} {d : Nat} {b : Bool} {I L : Nat → Int → Int} {Q : Option am_V → am_H → Prop} {x1 x2 : Int} (hM : Mo I L) (H1 : ¬ ((0 ≤ x1 ∧ x1 ≤ I 67 0) ∧ 0 ≤ x2 ∧ x2 / 100 < I 67 1 ∧ x2 % 100 < I 67 2) → Q (some (am_I (-3))) (sh b, rfM I (-3), L)) (H2 : ((0 ≤ x1 ∧ x1 ≤ I 67 0) ∧ 0 ≤ x2 ∧ x2 / 100 < I 67 1 ∧ x2 % 100 < I 67 2) ∧ ¬ am_and (am_shr (I 67 (34 + x1)) (x2 / 100)) 1 = 1 → Q (some (am_I (-5))) (sh b, rfM I (-5), L)) (H3 : ((0 ≤ x1 ∧ x1 ≤ I 67 0) ∧ 0 ≤ x2 ∧ x2 / 100 < I 67 1 ∧ x2 % 100 < I 67 2) ∧ am_and (am_shr (I 67 (34 + x1)) (x2 / 100)) 1 = 1 → Q (some (am_I (mv (I 67) x1 (I 67 0) (x2 / 100) (x2 % 100)))) (sh b, I, L)) : am_m ro (d + 5) 242 [am_R 66, am_I x1, am_I x2] (sh b, I, L) Q := by
  have ct := Mo_ct hM
  refine am_in rfl rfl rfl rfl ?_
  refine b_M_moved_0  (s_M_isYear (fun c1 => ?_) (fun c1 => ?_))
  · refine b_M_moved_5  (fun c2 => absurd c2 (by decide)) (fun c2 => ?_)
    refine b_M_moved_8  (fun c3 => ?_) (fun c3 => ?_)
    · refine b_M_moved_34  (s_M_refuse (by omega) ?_)
      refine b_M_moved_40  ?_
      first | exact H1 (by omega) | exact H2 (by omega)
    · refine b_M_moved_12 (by omega) (s_M_isLibrary (by omega) (fun c4 => ?_) (fun c4 => ?_))
      · refine b_M_moved_20  (fun c5 => absurd c5 (by decide)) (fun c5 => ?_)
        refine b_M_moved_23 (by omega) (s_M_isEdition (by omega) (fun c6 => ?_) (fun c6 => ?_))
        · refine b_M_moved_31  (fun c7 => ?_) (fun c7 => absurd c7 (by decide))
          refine b_M_moved_41 (by omega) (s_M_isDrawn (by omega) (fun c99 => ?_) (fun c99 => ?_))
          · refine b_M_moved_50  (fun c8 => ?_) (fun c8 => absurd c8 (by decide))
            refine b_M_moved_60 (by omega) (by omega) (s_M_isMoved hM (by omega) ?_)
            refine b_M_moved_73  (fun c9 => ?_) (fun c9 => ?_)
            · refine b_M_moved_80  ?_
              refine b_M_moved_81  ?_
              have k9 := H3 (by omega)
              have m9 := mv_01 (p := I 67) (y := x1) (a := I 67 0) (l := x2 / 100) (e := x2 % 100)
              have e8 : mv (I 67) x1 (I 67 0) (x2 / 100) (x2 % 100) = 0 := by omega
              rw [e8] at k9
              exact k9
            · refine b_M_moved_76  ?_
              refine b_M_moved_81  ?_
              have k9 := H3 (by omega)
              have m9 := mv_01 (p := I 67) (y := x1) (a := I 67 0) (l := x2 / 100) (e := x2 % 100)
              have e8 : mv (I 67) x1 (I 67 0) (x2 / 100) (x2 % 100) = 1 := by omega
              rw [e8] at k9
              exact k9
          · refine b_M_moved_50  (fun c10 => absurd c10 (by decide)) (fun c10 => ?_)
            refine b_M_moved_53  (s_M_refuse (by omega) ?_)
            refine b_M_moved_59  ?_
            first | exact H1 (by omega) | exact H2 (by omega)
        · refine b_M_moved_31  (fun c11 => absurd c11 (by decide)) (fun c11 => ?_)
          refine b_M_moved_34  (s_M_refuse (by omega) ?_)
          refine b_M_moved_40  ?_
          first | exact H1 (by omega) | exact H2 (by omega)
      · refine b_M_moved_20  (fun c12 => ?_) (fun c12 => absurd c12 (by decide))
        refine b_M_moved_34  (s_M_refuse (by omega) ?_)
        refine b_M_moved_40  ?_
        first | exact H1 (by omega) | exact H2 (by omega)
  · refine b_M_moved_5  (fun c13 => ?_) (fun c13 => absurd c13 (by decide))
    refine b_M_moved_34  (s_M_refuse (by omega) ?_)
    refine b_M_moved_40  ?_
    first | exact H1 (by omega) | exact H2 (by omega)
theorem A_moved {ro : Nat → Int × (Int → Int)} {d : Nat} {b : Bool} {I L : Nat → Int → Int} {x1 x2 : Int} (hI : Inv b I L) (hx : am_r x2) : am_m ro (d + 5) 33 [am_R 0, am_I x1, am_I x2] (sh b, I, L) (fun r h => am_m ro (d + 5) 242 [am_R 66, am_I x1, am_I x2] h (fun r2 h2 => Pair r r2 h2)) := by
  have hC := Cor_of hI
  have ct := Cor_ct hC
  refine o_P_moved (d := d + 1) hC hx (fun a => ?_) (fun a => ?_) (fun a I1 L1 s1 => ?_)
  · refine o_M_moved (by repeat (first | exact Mo_of hC | refine Mo_rf ?_ | refine Mo_up ?_ (by decide))) (fun a2 => ?_) (fun a2 => by (try simp (disch := omega) only [rfm, rfn] at a2); omega) (fun a2 => by (try simp (disch := omega) only [rfm, rfn] at a2); omega)
    exact Pair_rf hI
  · refine o_M_moved (by repeat (first | exact Mo_of hC | refine Mo_rf ?_ | refine Mo_up ?_ (by decide))) (fun a2 => by (try simp (disch := omega) only [rfm, rfn] at a2); omega) (fun a2 => ?_) (fun a2 => by (try simp (disch := omega) only [rfm, rfn] at a2); omega)
    exact Pair_rf hI
  · have f67 := Sc_67 s1
    refine o_M_moved (Mo_sc (Mo_of hC) s1) (fun a2 => by rw [f67] at a2; omega) (fun a2 => by rw [f67] at a2; omega) (fun a2 => ?_)
    rw [f67]
    exact ⟨_, b, I1, L1, rfl, rfl, rfl, Inv_sc hI s1⟩
theorem lq_P_movedMany {ro : Nat → Int × (Int → Int)} {d : Nat} {b : Bool} {I L : Nat → Int → Int} {Q : Option am_V → am_H → Prop} {bc bs : Nat} {x3 : Int} {y a : Int} (hM : Mo I L) (hr : Rd (I 67) y a I L) (hq : I 2 0 = I 67 1 ∧ I 10 0 = I 67 2) {c0 : Int} (hx : 0 ≤ x3 ∧ x3 < I 67 1 ∧ 0 ≤ c0 ∧ c0 ≤ 330) (HX : ∀ z2 : Int, z2 = c0 + sm (fun e => mv (I 67) y a x3 e) (I 67 2).toNat → c0 ≤ z2 ∧ z2 ≤ c0 + 30 → am_ex (am_m ro (d + 2)) ro am_M34 Q (34, [some (am_R 0), none, some (am_I z2), some (am_I ((x3 + 1))), none], [], (sh b, I, L), bc, bs)) : ∀ (n : Nat) (x2 x4 : Int), (0 ≤ x4) → (x4 ≤ I 67 2) → (x2 = c0 + sm (fun e => mv (I 67) y a x3 e) x4.toNat) → (c0 ≤ x2 ∧ x2 ≤ c0 + x4) → I 67 2 - x4 < (n : Int) → am_ex (am_m ro (d + 2)) ro am_M34 Q (51, [some (am_R 0), none, some (am_I x2), some (am_I x3), some (am_I x4)], [], (sh b, I, L), bc, bs) := by
  intro n
  induction n with
  | zero =>
    intro x2 x4 i0 i1 i2 i3 im
    exact absurd im (by omega)
  | succ n ih =>
    intro x2 x4 i0 i1 i2 i3 im
    have ct := Mo_ct hM
    refine b_P_movedMany_51  (fun c1 => ?_) (fun c1 => ?_)
    · refine b_P_movedMany_88 (by omega) ?_
      have e9 : x4 = I 67 2 := by omega
      rw [e9] at i2
      exact HX x2 i2 (by omega)
    · have m9 := mv_01 (p := I 67) (y := y) (a := a) (l := x3) (e := x4)
      refine b_P_movedMany_66  (s_Cnt_isMoved (y := y) (a := a) hM hr (by omega) ?_)
      refine b_P_movedMany_76  (fun c2 => ?_) (fun c2 => ?_)
      · refine b_P_movedMany_82 (by omega) ?_
        exact ih x2 (x4 + 1) (by omega) (by omega) (by rw [sm_step (by omega)]; omega) (by omega) (by omega)
      · refine b_P_movedMany_79 (by omega) ?_
        refine b_P_movedMany_82 (by omega) ?_
        exact ih ((x2 + 1)) (x4 + 1) (by omega) (by omega) (by rw [sm_step (by omega)]; omega) (by omega) (by omega)
theorem lp_P_movedMany {ro : Nat → Int × (Int → Int)} {d : Nat} {b : Bool} {I L : Nat → Int → Int} {Q : Option am_V → am_H → Prop} {bc bs : Nat} {y a : Int} (hM : Mo I L) (hr : Rd (I 67) y a I L) (hq : I 2 0 = I 67 1 ∧ I 10 0 = I 67 2) (H : Q (some (am_I (sm (fun l => sm (fun e => mv (I 67) y a l e) (I 67 2).toNat) (I 67 1).toNat))) (sh b, I, L)) : ∀ (n : Nat) (x2 x3 : Int), (0 ≤ x3) → (x3 ≤ I 67 1) → (x2 = sm (fun l => sm (fun e => mv (I 67) y a l e) (I 67 2).toNat) x3.toNat) → (0 ≤ x2 ∧ x2 ≤ 30 * x3) → I 67 1 - x3 < (n : Int) → am_ex (am_m ro (d + 2)) ro am_M34 Q (34, [some (am_R 0), none, some (am_I x2), some (am_I x3), none], [], (sh b, I, L), bc, bs) := by
  intro n
  induction n with
  | zero =>
    intro x2 x3 i0 i1 i2 i3 im
    exact absurd im (by omega)
  | succ n ih =>
    intro x2 x3 i0 i1 i2 i3 im
    have ct := Mo_ct hM
    refine b_P_movedMany_34  (fun c1 => ?_) (fun c1 => ?_)
    · refine b_P_movedMany_94  ?_
      have e9 : x3 = I 67 1 := by omega
      rw [i2, e9]
      exact H
    · refine b_P_movedMany_48  ?_
      exact lq_P_movedMany (d := d) hM hr hq (c0 := x2) (by omega) (fun z2 hz hb => ih z2 (x3 + 1) (by omega) (by omega) (by rw [sm_step (by omega), hz, ← i2]) (by omega) (by omega)) ((I 67 2).toNat + 1) x2 0 (by omega) (by omega) (by show x2 = x2 + 0; omega) (by omega) (by omega)
theorem o_P_movedMany {ro : Nat → Int × (Int → Int)} {d : Nat} {b : Bool} {I L : Nat → Int → Int} {Q : Option am_V → am_H → Prop} {x1 : Int} (hC : Cor I L) (H1 : ¬ (0 ≤ x1 ∧ x1 ≤ I 67 0) → Q (some (am_I (-3))) (sh b, rfC I (-3), L)) (H2 : 0 ≤ x1 ∧ x1 ≤ I 67 0 → ∀ I' L' : Nat → Int → Int, Sc I L I' L' → Q (some (am_I (sm (fun l => sm (fun e => mv (I 67) x1 (I 67 0) l e) (I 67 2).toNat) (I 67 1).toNat))) (sh b, I', L')) : am_m ro (d + 4) 34 [am_R 0, am_I x1] (sh b, I, L) Q := by
  have ct := Cor_ct hC
  refine am_in rfl rfl rfl rfl ?_
  refine b_P_movedMany_0  (s_P_isYear (fun c1 => ?_) (fun c1 => ?_))
  · refine b_P_movedMany_5  (fun c2 => ?_) (fun c2 => absurd c2 (by decide))
    refine b_P_movedMany_15  (s_Cnt_read hC (by omega) (fun I9 L9 s9 r9 => ?_))
    refine b_P_movedMany_30  ?_
    have f67 := Sc_67 s9
    have hM := Mo_sc (Mo_of hC) s9
    have k9 := H2 (by omega) I9 L9 s9
    have ct9 := Cor_ct (Cor_sc hC s9)
    rw [ct.1.1, ← f67] at r9
    rw [← f67] at k9
    exact lp_P_movedMany (d := d + 1) (y := x1) (a := I9 67 0) hM r9 (by omega) k9 ((I9 67 1).toNat + 1) 0 0 (by omega) (by omega) rfl (by omega) (by omega)
  · refine b_P_movedMany_5  (fun c3 => absurd c3 (by decide)) (fun c3 => ?_)
    refine b_P_movedMany_8  (s_P_refuse (by omega) ?_)
    refine b_P_movedMany_14  ?_
    exact H1 (by omega)
theorem lq_M_movedMany {ro : Nat → Int × (Int → Int)} {d : Nat} {b : Bool} {I L : Nat → Int → Int} {Q : Option am_V → am_H → Prop} {bc bs : Nat} {x1 x3 : Int} (hM : Mo I L) {c0 : Int} (hx : (0 ≤ x1 ∧ x1 ≤ 40) ∧ 0 ≤ x3 ∧ x3 < I 67 1 ∧ 0 ≤ c0 ∧ c0 ≤ 330) (HX : ∀ z2 : Int, z2 = c0 + sm (fun e => mv (I 67) x1 (I 67 0) x3 e) (I 67 2).toNat → c0 ≤ z2 ∧ z2 ≤ c0 + 30 → am_ex (am_m ro (d + 4)) ro am_M243 Q (19, [some (am_R 66), some (am_I x1), some (am_I z2), some (am_I ((x3 + 1))), none], [], (sh b, I, L), bc, bs)) : ∀ (n : Nat) (x2 x4 : Int), (0 ≤ x4) → (x4 ≤ I 67 2) → (x2 = c0 + sm (fun e => mv (I 67) x1 (I 67 0) x3 e) x4.toNat) → (c0 ≤ x2 ∧ x2 ≤ c0 + x4) → I 67 2 - x4 < (n : Int) → am_ex (am_m ro (d + 4)) ro am_M243 Q (32, [some (am_R 66), some (am_I x1), some (am_I x2), some (am_I x3), some (am_I x4)], [], (sh b, I, L), bc, bs) := by
  intro n
  induction n with
  | zero =>
    intro x2 x4 i0 i1 i2 i3 im
    exact absurd im (by omega)
  | succ n ih =>
    intro x2 x4 i0 i1 i2 i3 im
    have ct := Mo_ct hM
    refine b_M_movedMany_32  (fun c1 => ?_) (fun c1 => ?_)
    · refine b_M_movedMany_98 (by omega) ?_
      have e9 : x4 = I 67 2 := by omega
      rw [e9] at i2
      exact HX x2 i2 (by omega)
    · refine b_M_movedMany_43  (s_M_isDrawn (by omega) (fun c99 => ?_) (fun c99 => ?_))
      · refine b_M_movedMany_49  (fun c2 => absurd c2 (by decide)) (fun c2 => ?_)
        have nb2 : ln (I 67) x1 (100 * x3 + x4) (I 67 0) = nn (I 67) x1 (I 67 0) x3 x4 := rfl
        refine b_M_movedMany_52 (by omega) (by omega) (s_M_loans hM ?_)
        refine b_M_movedMany_71  (fun c3 => ?_) (fun c3 => ?_)
        · refine b_M_movedMany_89  ?_
          refine b_M_movedMany_90 (by omega) (by omega) ?_
          exact ih (x2 + 0) (x4 + 1) (by omega) (by omega) (by rw [sm_step (by omega), ← Int.add_assoc, ← i2]; show _ = _ + mv (I 67) x1 (I 67 0) x3 x4; have m9 := mv_01 (p := I 67) (y := x1) (a := I 67 0) (l := x3) (e := x4); first | omega | (have m8 := mv_0 (y := x1) (a := I 67 0) (l := x3) (e := x4) hM (by omega) (by omega) (by omega); omega)) (by omega) (by omega)
        · refine b_M_movedMany_74  (s_M_isMoved hM (by omega) ?_)
          refine b_M_movedMany_82  (fun c4 => ?_) (fun c4 => ?_)
          · refine b_M_movedMany_89  ?_
            refine b_M_movedMany_90 (by omega) (by omega) ?_
            exact ih (x2 + 0) (x4 + 1) (by omega) (by omega) (by rw [sm_step (by omega), ← Int.add_assoc, ← i2]; show _ = _ + mv (I 67) x1 (I 67 0) x3 x4; have m9 := mv_01 (p := I 67) (y := x1) (a := I 67 0) (l := x3) (e := x4); first | omega | (have m8 := mv_0 (y := x1) (a := I 67 0) (l := x3) (e := x4) hM (by omega) (by omega) (by omega); omega)) (by omega) (by omega)
          · refine b_M_movedMany_85  ?_
            refine b_M_movedMany_90 (by omega) (by omega) ?_
            exact ih (x2 + 1) (x4 + 1) (by omega) (by omega) (by rw [sm_step (by omega), ← Int.add_assoc, ← i2]; show _ = _ + mv (I 67) x1 (I 67 0) x3 x4; have m9 := mv_01 (p := I 67) (y := x1) (a := I 67 0) (l := x3) (e := x4); first | omega | (have m8 := mv_0 (y := x1) (a := I 67 0) (l := x3) (e := x4) hM (by omega) (by omega) (by omega); omega)) (by omega) (by omega)
      · refine b_M_movedMany_49  (fun c5 => ?_) (fun c5 => absurd c5 (by decide))
        refine b_M_movedMany_98 (by omega) ?_
        have zz : ∀ e, 0 ≤ e → e < I 67 2 → mv (I 67) x1 (I 67 0) x3 e = 0 := fun e a1 a2 => mv_0 hM (by omega) (by omega) (by rw [nn_nd hM (by omega) c99]; omega)
        rw [sm_zero _ (fun k a1 a2 => zz k a1 (by omega))] at i2
        refine HX x2 ?_ (by omega)
        rw [sm_zero _ (fun k a1 a2 => zz k a1 (by omega))]
        exact i2
theorem lp_M_movedMany {ro : Nat → Int × (Int → Int)} {d : Nat} {b : Bool} {I L : Nat → Int → Int} {Q : Option am_V → am_H → Prop} {bc bs : Nat} {x1 : Int} (hM : Mo I L) (hx : 0 ≤ x1 ∧ x1 ≤ 40) (H : Q (some (am_I (sm (fun l => sm (fun e => mv (I 67) x1 (I 67 0) l e) (I 67 2).toNat) (I 67 1).toNat))) (sh b, I, L)) : ∀ (n : Nat) (x2 x3 : Int), (0 ≤ x3) → (x3 ≤ I 67 1) → (x2 = sm (fun l => sm (fun e => mv (I 67) x1 (I 67 0) l e) (I 67 2).toNat) x3.toNat) → (0 ≤ x2 ∧ x2 ≤ 30 * x3) → I 67 1 - x3 < (n : Int) → am_ex (am_m ro (d + 4)) ro am_M243 Q (19, [some (am_R 66), some (am_I x1), some (am_I x2), some (am_I x3), none], [], (sh b, I, L), bc, bs) := by
  intro n
  induction n with
  | zero =>
    intro x2 x3 i0 i1 i2 i3 im
    exact absurd im (by omega)
  | succ n ih =>
    intro x2 x3 i0 i1 i2 i3 im
    have ct := Mo_ct hM
    refine b_M_movedMany_19  (fun c1 => ?_) (fun c1 => ?_)
    · refine b_M_movedMany_104  ?_
      have e9 : x3 = I 67 1 := by omega
      rw [i2, e9]
      exact H
    · refine b_M_movedMany_29  ?_
      exact lq_M_movedMany (d := d) hM (c0 := x2) (by omega) (fun z2 hz hb => ih z2 (x3 + 1) (by omega) (by omega) (by rw [sm_step (by omega), hz, ← i2]) (by omega) (by omega)) ((I 67 2).toNat + 1) x2 0 (by omega) (by omega) (by show x2 = x2 + 0; omega) (by omega) (by omega)
theorem o_M_movedMany {ro : Nat → Int × (Int → Int)} {d : Nat} {b : Bool} {I L : Nat → Int → Int} {Q : Option am_V → am_H → Prop} {x1 : Int} (hM : Mo I L) (H1 : ¬ (0 ≤ x1 ∧ x1 ≤ I 67 0) → Q (some (am_I (-3))) (sh b, rfM I (-3), L)) (H2 : 0 ≤ x1 ∧ x1 ≤ I 67 0 → Q (some (am_I (sm (fun l => sm (fun e => mv (I 67) x1 (I 67 0) l e) (I 67 2).toNat) (I 67 1).toNat))) (sh b, I, L)) : am_m ro (d + 5) 243 [am_R 66, am_I x1] (sh b, I, L) Q := by
  have ct := Mo_ct hM
  refine am_in rfl rfl rfl rfl ?_
  refine b_M_movedMany_0  (s_M_isYear (fun c1 => ?_) (fun c1 => ?_))
  · refine b_M_movedMany_5  (fun c2 => ?_) (fun c2 => absurd c2 (by decide))
    refine b_M_movedMany_15  ?_
    exact lp_M_movedMany (d := d) hM (by omega) (H2 (by omega)) ((I 67 1).toNat + 1) 0 0 (by omega) (by omega) rfl (by omega) (by omega)
  · refine b_M_movedMany_5  (fun c3 => absurd c3 (by decide)) (fun c3 => ?_)
    refine b_M_movedMany_8  (s_M_refuse (by omega) ?_)
    refine b_M_movedMany_14  ?_
    exact H1 (by omega)
theorem A_movedMany {ro : Nat → Int × (Int → Int)} {d : Nat} {b : Bool} {I L : Nat → Int → Int} {x1 : Int} (hI : Inv b I L) : am_m ro (d + 5) 34 [am_R 0, am_I x1] (sh b, I, L) (fun r h => am_m ro (d + 5) 243 [am_R 66, am_I x1] h (fun r2 h2 => Pair r r2 h2)) := by
  have hC := Cor_of hI
  have ct := Cor_ct hC
  refine o_P_movedMany (d := d + 1) hC (fun a => ?_) (fun a I1 L1 s1 => ?_)
  · refine o_M_movedMany (by repeat (first | exact Mo_of hC | refine Mo_rf ?_ | refine Mo_up ?_ (by decide))) (fun a2 => ?_) (fun a2 => by (try simp (disch := omega) only [rfm, rfn] at a2); omega)
    exact Pair_rf hI
  · have f67 := Sc_67 s1
    refine o_M_movedMany (Mo_sc (Mo_of hC) s1) (fun a2 => by rw [f67] at a2; omega) (fun a2 => ?_)
    rw [f67]
    exact ⟨_, b, I1, L1, rfl, rfl, rfl, Inv_sc hI s1⟩
