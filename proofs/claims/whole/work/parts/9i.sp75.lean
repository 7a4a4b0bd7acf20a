def RA (I C : Nat → Int → Int) (x1 x2 : Int) : Prop := (∀ k, k < 28 ∨ 34 < k → C k = I k) ∧ C 28 0 = I 28 0 + 1 ∧ (C 29 (I 28 0) = I 45 7 ∧ C 30 (I 28 0) = x1 ∧ C 31 (I 28 0) = x2 ∧ C 32 (I 28 0) = 120 * I 28 0 + I 45 10 ∧ C 33 (I 28 0) = 120 * I 28 0 + I 45 9) ∧ (∀ j, j ≠ I 28 0 → C 29 j = I 29 j ∧ C 30 j = I 30 j ∧ C 31 j = I 31 j ∧ C 32 j = I 32 j ∧ C 33 j = I 33 j) ∧ (∀ k, 0 ≤ k → k < I 45 9 → C 34 (120 * I 28 0 + k) = I 50 k) ∧ (∀ j, j < 120 * I 28 0 → C 34 j = I 34 j)
theorem cpn {I : Nat → Int → Int} {a0 a k : Nat} {s d n : Int} (h : k ≠ a) : am_cp I a0 a s d n k = I k := funext (fun i => cpm h)
theorem cp_in {I : Nat → Int → Int} {a0 a : Nat} {s d n i : Int} (h : d ≤ i ∧ i < d + n) : am_cp I a0 a s d n a i = I a0 (s + (i - d)) := by
  unfold am_cp
  rw [if_pos rfl, if_pos h]
theorem cp_out {I : Nat → Int → Int} {a0 a : Nat} {s d n i : Int} (h : i < d) : am_cp I a0 a s d n a i = I a i := by
  unfold am_cp
  rw [if_pos rfl, if_neg (by omega)]
theorem s_Ruls_add {ro : Nat → Int × (Int → Int)} {d : Nat} {b : Bool} {I L : Nat → Int → Int} {Q : Option am_V → am_H → Prop} {x1 x2 : Int} (hx : (0 ≤ I 28 0 ∧ I 28 0 < 12) ∧ (0 ≤ I 45 10 ∧ I 45 10 ≤ 120) ∧ (0 ≤ I 45 9 ∧ I 45 9 ≤ 120)) (H : ∀ C : Nat → Int → Int, RA I C x1 x2 → Q (some (am_I (I 28 0))) (sh b, C, L)) : am_m ro (d + 1) 99 [am_R 28, am_I x1, am_I x2, am_R 45] (sh b, I, L) Q := by
  refine am_in rfl rfl rfl rfl ?_
  refine b_Ruls_add_0 (by omega) (by omega) (by omega) (by omega) (by simp (disch := omega) only [upm, upo, ups, cpm]; omega) (by omega) (by simp (disch := omega) only [upm, upo, ups, cpm]; omega) (by omega) (by simp (disch := omega) only [upm, upo, ups, cpm]; omega) (by simp (disch := omega) only [upm, upo, ups, cpm]; omega) ?_
  refine H _ ⟨fun k hk => ?_, ?_, ⟨?_, ?_, ?_, ?_, ?_⟩, fun j hj => ⟨?_, ?_, ?_, ?_, ?_⟩, fun k k1 k2 => ?_, fun j hj => ?_⟩
  · rw [upn (by omega), cpn (by omega), upn (by omega), upn (by omega), upn (by omega), upn (by omega), upn (by omega)]
  · simp (disch := omega) only [upm, upo, ups, cpm]
  · simp (disch := omega) only [upm, upo, ups, cpm]
  · simp (disch := omega) only [upm, upo, ups, cpm]
  · simp (disch := omega) only [upm, upo, ups, cpm]
  · simp (disch := omega) only [upm, upo, ups, cpm]
    omega
  · simp (disch := omega) only [upm, upo, ups, cpm]
    omega
  · simp (disch := omega) only [upm, upo, ups, cpm]
  · simp (disch := omega) only [upm, upo, ups, cpm]
  · simp (disch := omega) only [upm, upo, ups, cpm]
  · simp (disch := omega) only [upm, upo, ups, cpm]
  · simp (disch := omega) only [upm, upo, ups, cpm]
  · rw [upm (by omega)]
    simp (disch := omega) only [upm, upo]
    rw [cp_in (by omega)]
    simp (disch := omega) only [upm, upo]
    congr 1
    omega
  · rw [upm (by omega), cp_out (by omega)]
    simp (disch := omega) only [upm, upo]
theorem r7_M_rule {ro : Nat → Int × (Int → Int)} {d : Nat} {b : Bool} {I L : Nat → Int → Int} {Q : Option am_V → am_H → Prop} {x1 x2 : Int} (h : ¬ (0 ≤ x1 ∧ x1 < x2 ∧ x2 ≤ 100)) (H : Q (some (am_I (-7))) (sh b, rfM I (-7), L)) : am_m ro (d + 3) 207 [am_R 66, am_I x1, am_I x2] (sh b, I, L) Q := by
  refine am_in rfl rfl rfl rfl ?_
  refine b_M_rule_0  (s_M_in (fun c1 => ?_) (fun c1 => ?_))
  · refine b_M_rule_7  (fun c2 => absurd c2 (by decide)) (fun c2 => ?_)
    refine b_M_rule_10 (by omega) (s_M_in (fun c3 => ?_) (fun c3 => ?_))
    · refine b_M_rule_19  (fun c4 => ?_) (fun c4 => absurd c4 (by decide))
      refine b_M_rule_29  (fun c5 => ?_) (fun c5 => ?_)
      · exfalso
        omega
      · refine b_M_rule_40  (s_M_refuse (by omega) ?_)
        refine b_M_rule_46  ?_
        exfalso
        omega
    · refine b_M_rule_19  (fun c6 => absurd c6 (by decide)) (fun c6 => ?_)
      refine b_M_rule_22  (s_M_refuse (by omega) ?_)
      refine b_M_rule_28  ?_
      exact H
  · refine b_M_rule_7  (fun c7 => ?_) (fun c7 => absurd c7 (by decide))
    refine b_M_rule_22  (s_M_refuse (by omega) ?_)
    refine b_M_rule_28  ?_
    exact H
theorem r8_M_rule {ro : Nat → Int × (Int → Int)} {d : Nat} {b : Bool} {I L : Nat → Int → Int} {Q : Option am_V → am_H → Prop} {x1 x2 : Int} (h : (0 ≤ x1 ∧ x1 < x2 ∧ x2 ≤ 100)) (h5 : I 67 5 = 12) (H : Q (some (am_I (-8))) (sh b, rfM I (-8), L)) : am_m ro (d + 3) 207 [am_R 66, am_I x1, am_I x2] (sh b, I, L) Q := by
  refine am_in rfl rfl rfl rfl ?_
  refine b_M_rule_0  (s_M_in (fun c1 => ?_) (fun c1 => ?_))
  · refine b_M_rule_7  (fun c2 => absurd c2 (by decide)) (fun c2 => ?_)
    refine b_M_rule_10 (by omega) (s_M_in (fun c3 => ?_) (fun c3 => ?_))
    · refine b_M_rule_19  (fun c4 => ?_) (fun c4 => absurd c4 (by decide))
      refine b_M_rule_29  (fun c5 => ?_) (fun c5 => ?_)
      · exfalso
        omega
      · refine b_M_rule_40  (s_M_refuse (by omega) ?_)
        refine b_M_rule_46  ?_
        exact H
    · refine b_M_rule_19  (fun c6 => absurd c6 (by decide)) (fun c6 => ?_)
      refine b_M_rule_22  (s_M_refuse (by omega) ?_)
      refine b_M_rule_28  ?_
      exfalso
      omega
  · refine b_M_rule_7  (fun c7 => ?_) (fun c7 => absurd c7 (by decide))
    refine b_M_rule_22  (s_M_refuse (by omega) ?_)
    refine b_M_rule_28  ?_
    exfalso
    omega
theorem o_P_rule {ro : Nat → Int × (Int → Int)} {d : Nat} {b : Bool} {I L : Nat → Int → Int} {Q : Option am_V → am_H → Prop} {x1 x2 : Int} (hw : RoW ro) (hW : ∀ k, 0 ≤ k → k < 20 → L 75 k = wdv k) (hn : 0 ≤ I 45 1 ∧ I 45 1 ≤ 120) (hT : ∀ k, 0 ≤ k → k < 120 → 0 ≤ I 46 k ∧ I 46 k ≤ 255) (hr : 0 ≤ I 28 0 ∧ I 28 0 ≤ 12) (H7 : ¬ (0 ≤ x1 ∧ x1 < x2 ∧ x2 ≤ 100) → Q (some (am_I (-7))) (sh b, rfC I (-7), L)) (H8 : (0 ≤ x1 ∧ x1 < x2 ∧ x2 ≤ 100) → I 28 0 = 12 → Q (some (am_I (-8))) (sh b, rfC I (-8), L)) (HF : (0 ≤ x1 ∧ x1 < x2 ∧ x2 ≤ 100) → I 28 0 < 12 → ∀ (I1 : Nat → Int → Int) (f : Int), Rf I I1 → I1 45 6 = f → 0 ≤ f → f ≤ 120 → MFt ro d b L (I 46) (I 45 1) (I 28 0) f → Q (some (am_I (-10 - I1 45 6))) (sh b, I1, L)) (HS : (0 ≤ x1 ∧ x1 < x2 ∧ x2 ≤ 100) → I 28 0 < 12 → ∀ (I1 : Nat → Int → Int) (G : Int → Int), Rf I I1 → I1 45 6 = -1 → (0 ≤ I1 45 7 ∧ I1 45 7 ≤ 5) → (0 < I1 45 10 ∧ I1 45 10 ≤ I1 45 9 ∧ I1 45 9 ≤ 120) → CG I1 G → cWf G 0 (I1 45 10).toNat → (I1 45 10 < I1 45 9 → cWf G (I1 45 10) (I1 45 9 - I1 45 10).toNat) → MSc ro d b L (I 46) (I 45 1) (I 28 0) G (I1 45 7) (I1 45 10) (I1 45 9) → ∀ C : Nat → Int → Int, RA (am_up I1 45 1 0) C x1 x2 → Q (some (am_I (am_up I1 45 1 0 28 0))) (sh b, C, L)) : am_m ro (d + 47) 21 [am_R 0, am_I x1, am_I x2] (sh b, I, L) Q := by
  refine am_in rfl rfl rfl rfl ?_
  refine b_P_rule_0  (s_P_within (fun c1 => ?_) (fun c1 => ?_))
  · refine b_P_rule_7  (fun c2 => absurd c2 (by decide)) (fun c2 => ?_)
    refine b_P_rule_10  (s_P_within (fun c3 => ?_) (fun c3 => ?_))
    · refine b_P_rule_17  (fun c4 => absurd c4 (by decide)) (fun c4 => ?_)
      refine b_P_rule_20  (fun c5 => ?_) (fun c5 => ?_)
      · refine b_P_rule_32  (fun c6 => ?_) (fun c6 => ?_)
        · refine b_P_rule_54  (RR (r := I 28 0) hw hW hn hT (by omega) (fun I1 f R1 z1 f0 f1 M1 => ?_) (fun I1 G R1 z1 k7 k10 g1 w1 w2 M1 => ?_))
          · refine b_P_rule_61  (fun c7 => ?_) (fun c7 => ?_)
            · exfalso
              omega
            · refine b_P_rule_72 (by omega) ?_
              exact HF (by omega) (by omega) I1 f R1 z1 f0 f1 M1
          · refine b_P_rule_61  (fun c8 => ?_) (fun c8 => ?_)
            · refine b_P_rule_83 (s_Ruls_add (d := d + 45) (by rw [upm (by omega), upo (by omega), upo (by omega), congrFun (R1.1 28 (by omega) (by omega) (by omega) (by omega) (by omega)) 0]; omega) (fun C ra => ?_))
              refine b_P_rule_107 ?_
              exact HS (by omega) (by omega) I1 G R1 z1 k7 k10 g1 w1 w2 M1 C ra
            · refine b_P_rule_72 (by omega) ?_
              exfalso
              omega
        · refine b_P_rule_47  (s_P_refuse (by omega) ?_)
          refine b_P_rule_53  ?_
          exact H8 (by omega) (by omega)
      · refine b_P_rule_25  (s_P_refuse (by omega) ?_)
        refine b_P_rule_31  ?_
        exact H7 (by omega)
    · refine b_P_rule_17  (fun c9 => ?_) (fun c9 => absurd c9 (by decide))
      refine b_P_rule_25  (s_P_refuse (by omega) ?_)
      refine b_P_rule_31  ?_
      exact H7 (by omega)
  · refine b_P_rule_7  (fun c10 => ?_) (fun c10 => absurd c10 (by decide))
    refine b_P_rule_25  (s_P_refuse (by omega) ?_)
    refine b_P_rule_31  ?_
    exact H7 (by omega)
theorem iLand_rl {C CL C' : Nat → Int → Int} {p q p' : Int → Int} (g : iLand C CL p q) (hc : ∀ k, k < 28 ∨ (34 < k ∧ k < 45) → C' k = C k) (hp : ∀ j, j < 2800 → j ≠ 5 → p' j = p j) (hR : lRul C' p') : iLand C' CL p' q := by
  obtain ⟨h1, h2, h3, h4, h5, h6, h7, h8, h9, h10⟩ := g
  have e0 := hp 0 (by omega) (by omega)
  have e1 := hp 1 (by omega) (by omega)
  have e2 := hp 2 (by omega) (by omega)
  have e3 := hp 3 (by omega) (by omega)
  have q1 := h1.2
  have q5 := h5.2.1
  have q5b := h5.2.2.1
  have q6 := h6.2.1
  have q6b := h6.2.2.1
  exact ⟨lOp_fr h1 (hc 1 (by omega)) e0, lLib_fr h2 ⟨hc _ (by omega), hc _ (by omega), hc _ (by omega)⟩ (fun j hj => hp j (by omega) (by omega)), lEnt_fr h3 ⟨hc _ (by omega), hc _ (by omega), hc _ (by omega), hc _ (by omega)⟩ (fun j hj => hp j (by omega) (by omega)) h1.2 (by omega) (by omega) (by omega), lEd_fr h4 ⟨hc _ (by omega), hc _ (by omega), hc _ (by omega), hc _ (by omega), hc _ (by omega)⟩ (fun j hj => hp j (by omega) (by omega)), lPeo_fr h5 ⟨hc _ (by omega), hc _ (by omega), hc _ (by omega), hc _ (by omega), hc _ (by omega), hc _ (by omega), hc _ (by omega)⟩ (fun j hj => hp j (by omega) (by omega)), lSh_fr h6 ⟨hc _ (by omega), hc _ (by omega), hc _ (by omega), hc _ (by omega), hc _ (by omega), hc _ (by omega)⟩ (fun j hj => hp j (by omega) (by omega)) (by omega) (by omega) (by omega), hR, lYr_fr h8 ⟨hc _ (by omega), hc _ (by omega), hc _ (by omega)⟩ ⟨rfl, rfl, rfl, rfl, rfl⟩ (fun j hj => hp j (by omega) (by omega)) (fun j hj => rfl), lSum_fr h9 (by omega) e2 e3 (hp 4 (by omega) (by omega)) (fun j hj => hp j (by omega) (by omega)), lQ_fr h10 (by omega) (by omega) (fun j hj => rfl)⟩
theorem Inv_rl {b : Bool} {I L F : Nat → Int → Int} (h : Inv b I L) (hc : ∀ k, k ≠ 66 → k ≠ 67 → (k < 28 ∨ 34 < k) → k ≠ 45 → (k < 47 ∨ 50 < k) → F k = I k) (h66 : ∀ j, j = 4 ∨ j = 9 ∨ j = 22 → F 66 j = I 66 j) (hp : ∀ j, j < 2800 → j ≠ 5 → F 67 j = I 67 j) (hR : lRul F (F 67)) (hT : iTap F) : Inv b F L := by
  obtain ⟨h1, h2, h3, h4, h5, h6⟩ := id h
  refine ⟨iLand_rl h1 (fun k hk => hc k (by omega) (by omega) (by omega) (by omega) (by omega)) hp hR, iKept_fr h2 (fun k a => hc k (by omega) (by omega) (by omega) (by omega) (by omega)) (fun k a => rfl) (hc _ (by omega) (by omega) (by omega) (by omega) (by omega)) rfl, ?_, hT, ?_, ?_⟩
  · unfold iRow at h3 ⊢
    rw [hc 0 (by omega) (by omega) (by omega) (by omega) (by omega), h66 9 (by omega), hc 64 (by omega) (by omega) (by omega) (by omega) (by omega), hc 74 (by omega) (by omega) (by omega) (by omega) (by omega)]
    exact h3
  · unfold iRef at h5 ⊢
    rw [hc 65 (by omega) (by omega) (by omega) (by omega) (by omega), hc 71 (by omega) (by omega) (by omega) (by omega) (by omega)]
    exact h5
  · unfold iCon at h6 ⊢
    rw [h66 22 (by omega), h66 4 (by omega), hc 72 (by omega) (by omega) (by omega) (by omega) (by omega)]
    exact h6
theorem lRul_new {I F : Nat → Int → Int} {x1 x2 ky hf ou r : Int} {G : Int → Int} (h : lRul I (I 67)) (hr : I 28 0 = r) (hr2 : 0 ≤ r ∧ r < 12) (hx : 0 ≤ x1 ∧ x1 < x2 ∧ x2 ≤ 100) (hky : 0 ≤ ky ∧ ky ≤ 5) (hho : 0 < hf ∧ hf ≤ ou ∧ ou ≤ 120) (w1 : cWf G 0 hf.toNat) (w2 : hf < ou → cWf G hf (ou - hf).toNat) (f28 : F 28 0 = r + 1) (fc : F 29 r = ky ∧ F 30 r = x1 ∧ F 31 r = x2 ∧ F 32 r = 120 * r + hf ∧ F 33 r = 120 * r + ou) (fo : ∀ j, j ≠ r → F 29 j = I 29 j ∧ F 30 j = I 30 j ∧ F 31 j = I 31 j ∧ F 32 j = I 32 j ∧ F 33 j = I 33 j) (f34 : ∀ k, 0 ≤ k → k < ou → F 34 (120 * r + k) = cm (G k)) (g34 : ∀ j, j < 120 * r → F 34 j = I 34 j) (p5 : F 67 5 = r + 1) (pc : F 67 (2800 + r) = ky ∧ F 67 (2812 + r) = x1 ∧ F 67 (2824 + r) = x2 ∧ F 67 (2836 + r) = hf ∧ F 67 (2848 + r) = ou) (po : ∀ j, j < 2860 + 130 * r → j ≠ 5 → j ≠ 2800 + r → j ≠ 2812 + r → j ≠ 2824 + r → j ≠ 2836 + r → j ≠ 2848 + r → F 67 j = I 67 j) (pg : ∀ k, 0 ≤ k → k < ou → F 67 (2860 + 130 * r + k) = G k) : lRul F (F 67) := by
  obtain ⟨g1, g2, g3, g4, g5, g6⟩ := h
  have e5 : I 67 5 = r := by omega
  refine ⟨by omega, by omega, by omega, fun s a1 a2 => ?_, fun s k a1 a2 a3 a4 => ?_, fun s a1 a2 => ?_⟩
  · by_cases e : s = r
    · subst e
      rw [fc.1, fc.2.1, fc.2.2.1, fc.2.2.2.1, fc.2.2.2.2, pc.1, pc.2.1, pc.2.2.1, pc.2.2.2.1, pc.2.2.2.2]
      exact ⟨rfl, rfl, rfl, rfl, rfl, by omega, by omega, by omega, by omega, by omega, by omega, by omega, by omega⟩
    · have q := fo s e
      have sl : s < r := by omega
      rw [q.1, q.2.1, q.2.2.1, q.2.2.2.1, q.2.2.2.2]
      have w := g4 s a1 (by omega)
      rw [po (2800 + s) (by omega) (by omega) (by omega) (by omega) (by omega) (by omega) (by omega), po (2812 + s) (by omega) (by omega) (by omega) (by omega) (by omega) (by omega) (by omega), po (2824 + s) (by omega) (by omega) (by omega) (by omega) (by omega) (by omega) (by omega), po (2836 + s) (by omega) (by omega) (by omega) (by omega) (by omega) (by omega) (by omega), po (2848 + s) (by omega) (by omega) (by omega) (by omega) (by omega) (by omega) (by omega)]
      exact w
  · by_cases e : s = r
    · subst e
      rw [pc.2.2.2.2] at a4
      rw [f34 k a3 a4, pg k a3 a4]
    · have sl : s < r := by omega
      rw [po (2848 + s) (by omega) (by omega) (by omega) (by omega) (by omega) (by omega) (by omega)] at a4
      have w := g4 s a1 (by omega)
      rw [g34 _ (by omega), po _ (by omega) (by omega) (by omega) (by omega) (by omega) (by omega) (by omega)]
      exact g5 s k a1 (by omega) a3 a4
  · by_cases e : s = r
    · subst e
      rw [pc.2.2.2.1, pc.2.2.2.2]
      refine ⟨cWf_congr (fun k hk => ?_) w1, fun y => cWf_congr (fun k hk => ?_) (w2 y)⟩
      · exact pg _ (by omega) (by omega)
      · exact pg _ (by omega) (by omega)
    · have sl : s < r := by omega
      have w4 := g4 s a1 (by omega)
      have w := g6 s a1 (by omega)
      rw [po (2836 + s) (by omega) (by omega) (by omega) (by omega) (by omega) (by omega) (by omega), po (2848 + s) (by omega) (by omega) (by omega) (by omega) (by omega) (by omega) (by omega)]
      refine ⟨cWf_congr (fun k hk => ?_) w.1, fun y => cWf_congr (fun k hk => ?_) (w.2 y)⟩
      · exact po _ (by omega) (by omega) (by omega) (by omega) (by omega) (by omega) (by omega)
      · exact po _ (by omega) (by omega) (by omega) (by omega) (by omega) (by omega) (by omega)
theorem lRul_z {I F : Nat → Int → Int} {r : Int} (h : lRul I (I 67)) (hr : I 67 5 = r) (hc : ∀ k, 28 ≤ k → k ≤ 34 → F k = I k) (hp : ∀ j, j < 2860 + 130 * r → F 67 j = I 67 j) : lRul F (F 67) := by
  have g := h.2
  exact lRul_fr h ⟨hc _ (by omega) (by omega), hc _ (by omega) (by omega), hc _ (by omega) (by omega), hc _ (by omega) (by omega), hc _ (by omega) (by omega), hc _ (by omega) (by omega), hc _ (by omega) (by omega)⟩ (fun j hj => hp j (by omega)) (fun s k a1 a2 a3 a4 => hp _ (by omega))
theorem A_rule {ro : Nat → Int × (Int → Int)} {d : Nat} {b : Bool} {I L : Nat → Int → Int} {x1 x2 : Int} (hI : Inv b I L) (hw : RoW ro) : am_m ro (d + 47) 21 [am_R 0, am_I x1, am_I x2] (sh b, I, L) (fun r h => am_m ro (d + 47) 207 [am_R 66, am_I x1, am_I x2] h (fun r2 h2 => Pair r r2 h2)) := by
  obtain ⟨⟨lo, ll, le, ld, lp, ls, lr, ly, lu, lq⟩, hk, hro, ht, hf, hcn⟩ := id hI
  obtain ⟨t1, t2, t3, t4⟩ := ht
  have r1 := lr.1
  have r2 := lr.2.1
  have r3 := lr.2.2.1
  have hW := wdv_L hcn.2.2.2
  refine o_P_rule hw hW ⟨t2, t3⟩ (fun k a1 a2 => (t4 k a1 a2).2) (by omega) (fun v => ?_) (fun v e => ?_) (fun v e I1 f R z f0 f1 M => ?_) (fun v e I1 G R z k7 k10 g1 w1 w2 M C ra => ?_)
  · exact r7_M_rule (d := d + 44) v (Pair_rf hI)
  · exact r8_M_rule (d := d + 44) v (by rw [rfm (by omega)]; omega) (Pair_rf hI)
  · have c66 : I1 66 = I 66 := R.1 66 (by omega) (by omega) (by omega) (by omega) (by omega)
    have c67 : I1 67 = I 67 := R.1 67 (by omega) (by omega) (by omega) (by omega) (by omega)
    have c73 : I1 73 = I 73 := R.1 73 (by omega) (by omega) (by omega) (by omega) (by omega)
    have c46 : I1 46 = I 46 := R.1 46 (by omega) (by omega) (by omega) (by omega) (by omega)
    refine M I1 x1 x2 _ ⟨by rw [c66]; omega, fun j j1 j2 => by rw [c73]; exact (t4 j j1 (by omega)).1.symm⟩ (by rw [c67]; omega) v (fun J mz => ?_)
    have j67 : ∀ j, j < 2860 + 130 * I 28 0 → J 67 j = I 67 j := fun j hj => by rw [mz.2.2 j hj, c67]
    have jc : ∀ k, k ≠ 66 → k ≠ 67 → k ≠ 45 → (k < 47 ∨ 50 < k) → J k = I k := fun k a1 a2 a3 a4 => by rw [mz.1 k a1 a2]; exact R.1 k a3 (by omega) (by omega) (by omega) (by omega)
    have j66 : ∀ j, j < 11 ∨ 18 < j → J 66 j = I 66 j := fun j hj => by rw [mz.2.1 j hj, c66]
    refine ⟨_, b, J, L, rfl, by rw [z], rfl, Inv_rl hI (fun k a1 a2 a3 a4 a5 => jc k a1 a2 a4 a5) (fun j hj => j66 j (by omega)) (fun j hj _ => j67 j (by omega)) (lRul_z lr r1.symm (fun k a1 a2 => jc k (by omega) (by omega) (by omega) (by omega)) j67) ⟨?_, ?_, ?_, fun k a1 a2 => ?_⟩⟩
    · rw [mz.1 45 (by omega) (by omega), R.2, j66 8 (by omega), t1]
    · rw [mz.1 45 (by omega) (by omega), R.2]
      exact t2
    · rw [mz.1 45 (by omega) (by omega), R.2]
      exact t3
    · rw [jc 46 (by omega) (by omega) (by omega) (by omega), jc 73 (by omega) (by omega) (by omega) (by omega)]
      exact t4 k a1 a2
  · obtain ⟨a1, a2, a3, a4, a5, a6⟩ := ra
    have u28 : am_up I1 45 1 0 28 0 = I 28 0 := by
      rw [upm (by omega)]
      exact congrFun (R.1 28 (by omega) (by omega) (by omega) (by omega) (by omega)) 0
    have u7 : am_up I1 45 1 0 45 7 = I1 45 7 := upo (by omega)
    have u9 : am_up I1 45 1 0 45 9 = I1 45 9 := upo (by omega)
    have u10 : am_up I1 45 1 0 45 10 = I1 45 10 := upo (by omega)
    rw [u28] at a2 a3 a4 a5 a6
    rw [u7, u9, u10] at a3
    rw [u9] at a5
    rw [u28]
    have cc : ∀ k, k ≠ 45 → (k < 28 ∨ 34 < k) → (k < 47 ∨ 50 < k) → C k = I k := fun k q1 q2 q3 => by
      rw [a1 k q2, upn q1]
      exact R.1 k q1 (by omega) (by omega) (by omega) (by omega)
    have i29 : ∀ k, 28 ≤ k → k ≤ 34 → am_up I1 45 1 0 k = I k := fun k q1 q2 => by
      rw [upn (by omega)]
      exact R.1 k (by omega) (by omega) (by omega) (by omega) (by omega)
    rw [i29 29 (by omega) (by omega), i29 30 (by omega) (by omega), i29 31 (by omega) (by omega), i29 32 (by omega) (by omega), i29 33 (by omega) (by omega)] at a4
    rw [i29 34 (by omega) (by omega)] at a6
    rw [upn (show (50 : Nat) ≠ 45 by omega)] at a5
    have c66 : C 66 = I 66 := cc 66 (by omega) (by omega) (by omega)
    have c67 : C 67 = I 67 := cc 67 (by omega) (by omega) (by omega)
    have c73 : C 73 = I 73 := cc 73 (by omega) (by omega) (by omega)
    have c45 : C 45 1 = 0 := by rw [a1 45 (by omega), ups]
    refine M C x1 x2 _ ⟨by rw [c66]; omega, fun j j1 j2 => by rw [c73]; exact (t4 j j1 (by omega)).1.symm⟩ (by rw [c67]; omega) v (fun J mz j16 jg => ?_)
    have j67 : ∀ j, j < 2860 + 130 * I 28 0 → J 67 j = I 67 j := fun j hj => by rw [mz.2.2 j hj, c67]
    have j66 : ∀ j, j < 11 ∨ 18 < j → J 66 j = I 66 j := fun j hj => by rw [mz.2.1 j hj, c66]
    obtain ⟨m1, m2, m3, m4, m5, m6⟩ := uM_f (I := J) (x1 := x1) (x2 := x2) (x3 := I 28 0) (x4 := I1 45 7) (x5 := I1 45 10) (by omega)
    have fk : ∀ k, k ≠ 66 → k ≠ 67 → uM J x1 x2 (I 28 0) (I1 45 7) (I1 45 10) k = C k := fun k q1 q2 => by rw [m1 k q1 q2, mz.1 k q1 q2]
    have po : ∀ j, j < 2860 + 130 * I 28 0 → j ≠ 5 → j ≠ 2800 + I 28 0 → j ≠ 2812 + I 28 0 → j ≠ 2824 + I 28 0 → j ≠ 2836 + I 28 0 → j ≠ 2848 + I 28 0 → uM J x1 x2 (I 28 0) (I1 45 7) (I1 45 10) 67 j = I 67 j := fun j q1 q2 q3 q4 q5 q6 q7 => by rw [m6 j q2 q3 q4 q5 q6 q7, j67 j q1]
    rw [j16] at m5
    refine ⟨_, b, _, L, rfl, rfl, rfl, Inv_rl hI (fun k q1 q2 q3 q4 q5 => by rw [fk k q1 q2]; exact cc k q4 q3 q5) (fun j hj => by rw [m3 j (by omega)]; exact j66 j (by omega)) (fun j hj hj2 => po j (by omega) hj2 (by omega) (by omega) (by omega) (by omega) (by omega)) ?_ ⟨?_, ?_, ?_, fun k q1 q2 => ?_⟩⟩
    · refine lRul_new (G := G) (r := I 28 0) (x1 := x1) (x2 := x2) (ky := I1 45 7) (hf := I1 45 10) (ou := I1 45 9) lr rfl (by omega) v k7 k10 w1 w2 ?_ ?_ (fun j hj => ?_) (fun k q1 q2 => ?_) (fun j hj => ?_) ?_ m5 po (fun k q1 q2 => ?_)
      · rw [fk 28 (by omega) (by omega)]
        exact a2
      · rw [fk 29 (by omega) (by omega), fk 30 (by omega) (by omega), fk 31 (by omega) (by omega), fk 32 (by omega) (by omega), fk 33 (by omega) (by omega)]
        exact a3
      · rw [fk 29 (by omega) (by omega), fk 30 (by omega) (by omega), fk 31 (by omega) (by omega), fk 32 (by omega) (by omega), fk 33 (by omega) (by omega)]
        exact a4 j hj
      · rw [fk 34 (by omega) (by omega), a5 k q1 q2]
        exact g1 k q1 q2
      · rw [fk 34 (by omega) (by omega)]
        exact a6 j hj
      · rw [m4, j67 5 (by omega)]
        omega
      · rw [m6 _ (by omega) (by omega) (by omega) (by omega) (by omega) (by omega)]
        exact jg k q1 q2
    · rw [fk 45 (by omega) (by omega), m2, c45]
    · rw [fk 45 (by omega) (by omega), c45]
      omega
    · rw [fk 45 (by omega) (by omega), c45]
      omega
    · rw [fk 46 (by omega) (by omega), fk 73 (by omega) (by omega), cc 46 (by omega) (by omega) (by omega), cc 73 (by omega) (by omega) (by omega)]
      exact t4 k q1 q2
