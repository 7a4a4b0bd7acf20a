theorem wdv_L {L : Nat → Int → Int} (h : L 75 0 = 7825519 ∧ L 75 1 = 1885434484 ∧ L 75 2 = 107075454591332 ∧ L 75 3 = 1836020596 ∧ L 75 4 = 465557353332 ∧ L 75 5 = 1818326117 ∧ L 75 6 = 1919904869 ∧ L 75 7 = 1802071652 ∧ L 75 8 = 1818324580 ∧ L 75 9 = 2036687218 ∧ L 75 10 = 1684365668 ∧ L 75 11 = 427020085613 ∧ L 75 12 = 482671228019 ∧ L 75 13 = 31650994541847908 ∧ L 75 14 = 499985443941 ∧ L 75 15 = 465725124211 ∧ L 75 16 = 26982 ∧ L 75 17 = 28530 ∧ L 75 18 = 6385252 ∧ L 75 19 = 7237492) : ∀ k, 0 ≤ k → k < 20 → L 75 k = wdv k := by
  intro k k1 k2
  rcases (show k = 0 ∨ k = 1 ∨ k = 2 ∨ k = 3 ∨ k = 4 ∨ k = 5 ∨ k = 6 ∨ k = 7 ∨ k = 8 ∨ k = 9 ∨ k = 10 ∨ k = 11 ∨ k = 12 ∨ k = 13 ∨ k = 14 ∨ k = 15 ∨ k = 16 ∨ k = 17 ∨ k = 18 ∨ k = 19 by omega) with rfl | rfl | rfl | rfl | rfl | rfl | rfl | rfl | rfl | rfl | rfl | rfl | rfl | rfl | rfl | rfl | rfl | rfl | rfl | rfl
  · exact h.1
  · exact h.2.1
  · exact h.2.2.1
  · exact h.2.2.2.1
  · exact h.2.2.2.2.1
  · exact h.2.2.2.2.2.1
  · exact h.2.2.2.2.2.2.1
  · exact h.2.2.2.2.2.2.2.1
  · exact h.2.2.2.2.2.2.2.2.1
  · exact h.2.2.2.2.2.2.2.2.2.1
  · exact h.2.2.2.2.2.2.2.2.2.2.1
  · exact h.2.2.2.2.2.2.2.2.2.2.2.1
  · exact h.2.2.2.2.2.2.2.2.2.2.2.2.1
  · exact h.2.2.2.2.2.2.2.2.2.2.2.2.2.1
  · exact h.2.2.2.2.2.2.2.2.2.2.2.2.2.2.1
  · exact h.2.2.2.2.2.2.2.2.2.2.2.2.2.2.2.1
  · exact h.2.2.2.2.2.2.2.2.2.2.2.2.2.2.2.2.1
  · exact h.2.2.2.2.2.2.2.2.2.2.2.2.2.2.2.2.2.1
  · exact h.2.2.2.2.2.2.2.2.2.2.2.2.2.2.2.2.2.2.1
  · exact h.2.2.2.2.2.2.2.2.2.2.2.2.2.2.2.2.2.2.2
theorem RRe {ro : Nat → Int × (Int → Int)} {d : Nat} {b : Bool} {I L : Nat → Int → Int} {Q : Option am_V → am_H → Prop} {bc bs : Nat} {r ky hf : Int} {X K : Nat → Int → Int} {G : Int → Int} (hX : CX X) (P : Pre X K) (R : Rf I K) (hG : CG K G) (hfl : K 45 6 = -1 ∨ K 45 6 = X 2 (K 45 5)) (k7 : K 45 7 = ky) (hky : 0 ≤ ky ∧ ky ≤ 5) (k10 : K 45 10 = hf) (wf : K 45 6 = -1 → 0 < hf ∧ hf ≤ K 45 9 ∧ cWf G 0 hf.toNat ∧ (hf < K 45 9 → cWf G hf (K 45 9 - hf).toNat)) (mod : ∀ (J : Nat → Int → Int) (y1 y2 : Int) (Q' : Option am_V → am_H → Prop), tp (I 45 1) (I 46) J → J 67 5 = r → (0 ≤ y1 ∧ y1 < y2 ∧ y2 ≤ 100) → (¬ (K 45 6 = -1 ∧ X 1 (K 45 5) = 0) → ∀ J' : Nat → Int → Int, Mz r J J' → Q' (some (am_I (-10 - X 2 (K 45 5)))) (sh b, J', L)) → (K 45 6 = -1 → X 1 (K 45 5) = 0 → ∀ J' : Nat → Int → Int, Mz r J J' → J' 66 16 = K 45 9 → (∀ k, 0 ≤ k → k < K 45 9 → J' 67 (2860 + 130 * r + k) = G k) → Q' (some (am_I r)) (sh b, uM J' y1 y2 r ky hf, L)) → am_m ro (d + 47) 207 [am_R 66, am_I y1, am_I y2] (sh b, J, L) Q') (HF : ∀ (I' : Nat → Int → Int) (f : Int), Rf I I' → I' 45 6 = f → 0 ≤ f → f ≤ 120 → MFt ro d b L (I 46) (I 45 1) r f → Q none (sh b, I', L)) (HS : ∀ (I' : Nat → Int → Int) (G : Int → Int), Rf I I' → I' 45 6 = -1 → (0 ≤ I' 45 7 ∧ I' 45 7 ≤ 5) → (0 < I' 45 10 ∧ I' 45 10 ≤ I' 45 9 ∧ I' 45 9 ≤ 120) → CG I' G → cWf G 0 (I' 45 10).toNat → (I' 45 10 < I' 45 9 → cWf G (I' 45 10) (I' 45 9 - I' 45 10).toNat) → MSc ro d b L (I 46) (I 45 1) r G (I' 45 7) (I' 45 10) (I' 45 9) → Q none (sh b, I', L)) : am_ex (am_m ro (d + 45)) ro am_M112 Q (104, [some (am_R 45)], [], (sh b, K, L), bc, bs) := by
  obtain ⟨hB, p1, p2, p3, p4⟩ := id P
  have x120 := hX.1
  have pl := CX_pl hX (a := K 45 5) (by omega) p2
  refine e_Rdr_readRule hX hB ⟨by omega, p2⟩ (fun z t => ?_) (fun z t => ?_) (fun z => ?_)
  · obtain ⟨w1, w2, w3, w4⟩ := wf z
    subst k7 k10
    exact HS K G R z hky ⟨w1, w2, by omega⟩ hG w3 w4 (fun J y1 y2 Q' a1 a2 a3 H => mod J y1 y2 Q' a1 a2 a3 (fun y => absurd ⟨z, t⟩ y) (fun _ _ J' b1 b2 b3 => H J' b1 b2 b3))
  · refine HF (fC K) (X 2 (K 45 5)) (Rf_f R) ?_ pl.1 pl.2 (fun J y1 y2 Q' a1 a2 a3 H => mod J y1 y2 Q' a1 a2 a3 (fun _ J' b1 => H J' b1) (fun _ y => absurd y t))
    rw [(fC_f (I := K)).2.1, hB.2.1]
  · refine HF K (X 2 (K 45 5)) R (by omega) pl.1 pl.2 (fun J y1 y2 Q' a1 a2 a3 H => mod J y1 y2 Q' a1 a2 a3 (fun _ J' b1 => H J' b1) (fun y => absurd y z))
theorem RR {ro : Nat → Int × (Int → Int)} {d : Nat} {b : Bool} {I L : Nat → Int → Int} {Q : Option am_V → am_H → Prop} {r : Int} (hw : RoW ro) (hW : ∀ k, 0 ≤ k → k < 20 → L 75 k = wdv k) (hn : 0 ≤ I 45 1 ∧ I 45 1 ≤ 120) (hT : ∀ k, 0 ≤ k → k < 120 → 0 ≤ I 46 k ∧ I 46 k ≤ 255) (hr : 0 ≤ r ∧ r < 12) (HF : ∀ (I' : Nat → Int → Int) (f : Int), Rf I I' → I' 45 6 = f → 0 ≤ f → f ≤ 120 → MFt ro d b L (I 46) (I 45 1) r f → Q none (sh b, I', L)) (HS : ∀ (I' : Nat → Int → Int) (G : Int → Int), Rf I I' → I' 45 6 = -1 → (0 ≤ I' 45 7 ∧ I' 45 7 ≤ 5) → (0 < I' 45 10 ∧ I' 45 10 ≤ I' 45 9 ∧ I' 45 9 ≤ 120) → CG I' G → cWf G 0 (I' 45 10).toNat → (I' 45 10 < I' 45 9 → cWf G (I' 45 10) (I' 45 9 - I' 45 10).toNat) → MSc ro d b L (I 46) (I 45 1) r G (I' 45 7) (I' 45 10) (I' 45 9) → Q none (sh b, I', L)) : am_m ro (d + 46) 112 [am_R 45] (sh b, I, L) Q := by
  refine am_in rfl rfl rfl rfl ?_
  refine b_Rdr_readRule_0 (s_Rdr_readTokens (d := d + 41) hw hn hT (fun I1 f1 en m m1 m2 tk tl => ?_))
  obtain ⟨X, hX, x0, x1, x2, x3, x50, x51⟩ : ∃ X : Nat → Int → Int, CX X ∧ X 0 = I 46 ∧ X 1 = I1 47 ∧ X 2 = I1 48 ∧ X 3 = I1 49 ∧ X 5 0 = I 45 1 ∧ X 5 1 = 2860 + 130 * r := by
    refine ⟨fun k => if k = 0 then I 46 else if k = 1 then I1 47 else if k = 2 then I1 48 else if k = 3 then I1 49 else if k = 4 then en else fun j => if j = 0 then I 45 1 else if j = 1 then 2860 + 130 * r else m, ⟨?_, tk, tl⟩, rfl, rfl, rfl, rfl, rfl, rfl⟩
    show 0 ≤ m ∧ m ≤ 120 ∧ I 45 1 ≤ 120 ∧ 2860 ≤ 2860 + 130 * r ∧ 2860 + 130 * r ≤ 4290
    omega
  have x120 := hX.1
  have kf := kC_f (I := I1)
  have hB : CB X (kC I1) := by
    unfold CB
    rw [kf.2.2.2.2.2 47 (by omega), kf.2.2.2.2.2 48 (by omega), kf.2.2.2.2.2 49 (by omega), x1, x2, x3]
    exact ⟨rfl, rfl, rfl⟩
  have R1 : Rf I (kC I1) := ⟨fun k a1 a2 a3 a4 a5 => (kf.2.2.2.2.2 k a1).trans (f1 k a2 a3 a4), kf.2.2.2.2.1.trans (congrFun (f1 45 (by omega) (by omega) (by omega)) 1)⟩
  have b0 : 0 ≤ I1 47 0 ∧ I1 47 0 ≤ 1019 := by
    rw [← x1]
    have q := (CX_tr hX (a := 0) (by omega) (by omega)).1
    unfold TR sgn at q
    omega
  have e1 : X 1 0 = I1 47 0 := by rw [x1]
  have pl0 := CX_pl hX (a := 0) (by omega) (by omega)
  have hlt := CX_lt hX (a := 0) (by omega)
  have tpX : ∀ J : Nat → Int → Int, tp (I 45 1) (I 46) J → tp (X 5 0) (X 0) J := fun J h => by
    rw [x50, x0]
    exact h
  refine b_Rdr_readRule_4 (by rw [upm (by omega), upm (by omega), upm (by omega)]; omega) (s_P_within (d := d + 44) (fun c1 => ?_) (fun c1 => ?_))
  · have c1 : 0 ≤ kC I1 45 7 ∧ kC I1 45 7 ≤ 5 := c1
    rw [kf.2.2.2.1, ← e1] at c1
    refine b_Rdr_readRule_42 (fun c2 => ?_) (fun c2 => absurd c2 (by decide))
    have n := nC_f (I := kC I1)
    have P0 : Pre X (nC (kC I1)) := ⟨CB_fr hB (Cfr_up Cfr_rf (by omega)), by omega, by omega, by omega, by omega⟩
    obtain ⟨I3, G3, r3, s3, m3⟩ := sm_top (ro := ro) (d := d) (b := b) hX hW (nC (kC I1)) (fun _ => 0) P0 (n.2.1.trans kf.2.1) (fun k k1 k2 => by omega)
    have P3 := Pre_c P0 s3.1
    obtain ⟨B3, u1, u2, u3, u4⟩ := id P3
    have R3 : Rf I I3 := Rf_c (Rf_c R1 (Cfr_up (i := 5) (v := kC I1 45 5 + 1) Cfr_rf (by omega))) s3.1.1
    have h7 : I3 45 7 = X 1 0 - 1000 := by
      rw [s3.1.1 45 7 (by omega) (by omega), show nC (kC I1) 45 7 = kC I1 45 7 from upo (by omega), kf.2.2.2.1, e1]
    have w3 := s3.2.2.2
    rw [n.2.2.1, kf.2.2.1] at w3
    have hf := hC_f (I := I3)
    have B4 : CB X (hC I3) := by
      unfold CB
      rw [hf.2.2.2.2.2 47 (by omega), hf.2.2.2.2.2 48 (by omega), hf.2.2.2.2.2 49 (by omega)]
      exact B3
    have P4 : Pre X (hC I3) := ⟨B4, by omega, by omega, by omega, by omega⟩
    have G4 : CG (hC I3) G3 := by
      intro k k1 k2
      rw [hf.2.2.2.2.2 50 (by omega)]
      exact s3.2.1 k k1 (by omega)
    have R4 : Rf I (hC I3) := ⟨fun k a1 a2 a3 a4 a5 => (hf.2.2.2.2.2 k a1).trans (R3.1 k a1 a2 a3 a4 a5), (hf.2.2.2.2.1 1 (by omega)).trans R3.2⟩
    have e47 : hC I3 47 (hC I3 45 5) = X 1 (I3 45 5) := by rw [hf.1, B4.1]
    have lt3 := CX_lt hX u2
    have t4 := tm_if (CX_tr hX (a := I3 45 5) (by omega) u2).1
    refine b_Rdr_readRule_56 (by show am_r (kC I1 45 5 + 1); omega) (r3 _ ?_)
    refine b_Rdr_readRule_71 (s_Rdr_stands (d := d + 44) (show 0 ≤ hC I3 45 5 ∧ hC I3 45 5 ≤ 120 by omega) (fun c3 => ?_) (fun c3 => ?_))
    · have c3 : hC I3 45 6 = -1 ∧ hC I3 47 (hC I3 45 5) = 1016 := c3
      have Pn : Pre X (nC (hC I3)) := Pre_n P4 (by omega)
      obtain ⟨I5, G5, r5, s5, m5⟩ := sm_top (ro := ro) (d := d) (b := b) hX hW (nC (hC I3)) G3 Pn (nC_f.2.1.trans c3.1) (CG_n G4)
      have n4 := nC_f (I := hC I3)
      have P5 := Pre_c Pn s5.1
      have f5 := s5.1.2.2.2.2.1
      have wd := s5.2.2.2
      rw [n4.2.2.1, hf.2.2.1] at wd
      refine b_Rdr_readRule_86 (fun c4 => absurd c4 (by decide)) (fun c4 => ?_)
      refine b_Rdr_readRule_89 (by show am_r (hC I3 45 5 + 1); omega) (r5 _ ?_)
      refine RRe (X := X) (r := r) (ky := X 1 0 - 1000) (hf := I3 45 9) (G := G5) hX P5 (Rf_c (Rf_c R4 (Cfr_up (i := 5) (v := hC I3 45 5 + 1) Cfr_rf (by omega))) s5.1.1) s5.2.1 s5.1.2.2.2.2.2.2 ?_ c1 ?_ (fun z => ?_) ?_ HF HS
      · rw [s5.1.1 45 7 (by omega) (by omega), show nC (hC I3) 45 7 = hC I3 45 7 from upo (by omega), hf.2.2.2.2.1 7 (by omega), h7]
      · rw [s5.1.1 45 10 (by omega) (by omega), show nC (hC I3) 45 10 = hC I3 45 10 from upo (by omega), hf.2.2.2.1]
      · have w4 := w3 (by omega)
        have w5 := cWf_pos w4
        rw [Int.sub_zero] at w4 w5
        refine ⟨by omega, by omega, cWf_congr (fun k hk => ?_) w4, fun _ => wd z⟩
        exact s5.2.2.1 _ (by omega)
      · intro J y1 y2 Q' a1 a2 a3 KF KS
        refine h_M_rule (K := kC I1) (G := fun _ => 0) hX hW (tpX J a1) a2 hr x51 a3 kf.1 kf.2.1 kf.2.2.1 (fun _ J1 hJ1 bc bs => ?_) (fun z => absurd (by omega) z)
        refine b_M_rule_125 (m3 (jz J) J1 hJ1 _ (fun J2 hJ2 => ?_))
        have e18 := hJ2.2.2.2.2.2.1
        have e13 := hJ2.2.2.1.2.2.1
        have e16 := hJ2.2.2.2.2.1.1
        refine b_M_rule_129 (fun c => by exfalso; omega) (fun c => ?_)
        rw [e16]
        refine b_M_rule_142 (fun c => by exfalso; omega) (fun c => ?_)
        refine b_M_rule_150 (q_M_next (d := d + 43) hX hW (MR_cg hJ2 hf.1 hf.2.1 hf.2.2.1) (by omega) (by omega) (fun J3 hJ3 => ?_))
        refine b_M_rule_154 (m5 (jz J) J3 hJ3 _ (fun J4 hJ4 => ?_))
        have mz := MR_Mz hJ4 x51
        have q5 := mz.2.2 5 (by omega)
        refine e_M_rule hX hJ4 ⟨by have q := P5.2.1; omega, P5.2.2.1⟩ hr (by omega) (fun y => KF y J4 mz) (fun y z => KS y z J4 mz hJ4.2.2.2.2.1.1 (fun k k1 k2 => ?_))
        rw [← x51]
        exact hJ4.2.2.2.2.2.2 k k1 k2
    · have c3 : ¬ (hC I3 45 6 = -1 ∧ hC I3 47 (hC I3 45 5) = 1016) := c3
      refine b_Rdr_readRule_86 (fun c4 => ?_) (fun c4 => absurd c4 (by decide))
      have sf := s3.1.2.2.2.2.2.2
      refine RRe (X := X) (K := hC I3) (r := r) (ky := X 1 0 - 1000) (hf := I3 45 9) (G := G3) hX P4 R4 G4 (by rw [hf.1, hf.2.1]; exact sf) ?_ c1 hf.2.2.2.1 (fun z => ?_) ?_ HF HS
      · rw [hf.2.2.2.2.1 7 (by omega), h7]
      · have w4 := w3 (by omega)
        have w5 := cWf_pos w4
        rw [Int.sub_zero] at w4 w5
        exact ⟨by omega, by omega, w4, fun y => by omega⟩
      · intro J y1 y2 Q' a1 a2 a3 KF KS
        refine h_M_rule (K := kC I1) (G := fun _ => 0) hX hW (tpX J a1) a2 hr x51 a3 kf.1 kf.2.1 kf.2.2.1 (fun _ J1 hJ1 bc bs => ?_) (fun z => absurd (by omega) z)
        refine b_M_rule_125 (m3 (jz J) J1 hJ1 _ (fun J2 hJ2 => ?_))
        have hJ2 := MR_cg hJ2 hf.1 hf.2.1 hf.2.2.1
        have e18 := hJ2.2.2.2.2.2.1
        have e13 := hJ2.2.2.1.2.2.1
        have e16 := hJ2.2.2.2.2.1.1
        have mz := MR_Mz hJ2 x51
        have q5 := mz.2.2 5 (by omega)
        have fin : ∀ bc bs : Nat, am_ex (am_m ro (d + 46)) ro am_M207 Q' (158, [some (am_R 66), some (am_I y1), some (am_I y2), some (am_I r), some (am_I ((X 1 0 - 1000))), some (am_I ((I3 45 9)))], [], (sh b, J2, L), bc, bs) := fun bc bs => by
          refine e_M_rule hX hJ2 ⟨by omega, by omega⟩ hr (by omega) (fun y => KF y J2 mz) (fun y z => KS y z J2 mz e16 (fun k k1 k2 => ?_))
          rw [← x51]
          exact hJ2.2.2.2.2.2.2 k k1 k2
        rw [hf.1] at e13
        refine b_M_rule_129 (fun c => ?_) (fun c => ?_)
        · rw [e16, hf.2.2.1]
          exact fin _ _
        · rw [e16, hf.2.2.1]
          refine b_M_rule_142 (fun c => fin _ _) (fun c => ?_)
          exfalso
          omega
  · have c1 : ¬ (0 ≤ kC I1 45 7 ∧ kC I1 45 7 ≤ 5) := c1
    rw [kf.2.2.2.1, ← e1] at c1
    refine b_Rdr_readRule_42 (fun c2 => absurd rfl c2) (fun c2 => ?_)
    refine b_Rdr_readRule_45 ?_
    refine HF (am_up (kC I1) 45 6 (kC I1 48 0)) (X 2 0) ⟨fun k a1 a2 a3 a4 a5 => (upn a1).trans (R1.1 k a1 a2 a3 a4 a5), (upo (by omega)).trans R1.2⟩ ?_ pl0.1 pl0.2 ?_
    · rw [ups, hB.2.1]
    · intro J y1 y2 Q' a1 a2 a3 H
      exact h_M_rule (K := kC I1) (G := fun _ => 0) hX hW (tpX J a1) a2 hr x51 a3 kf.1 kf.2.1 kf.2.2.1 (fun z => absurd z (by omega)) (fun _ J' hz => H J' hz)
