def ST (X I : Nat → Int → Int) (G : Int → Int) (I' : Nat → Int → Int) (G' : Int → Int) (c0 : Int) : Prop := CP X I I' ∧ CG I' G' ∧ (∀ k, k < I 45 9 → G' k = G k) ∧ (I' 45 6 = -1 → cWf G' c0 (I' 45 9 - c0).toNat)
def Sim (ro : Nat → Int × (Int → Int)) (b : Bool) (L X : Nat → Int → Int) (dC dM mc mm : Nat) (op : Int) : Prop := ∀ (I : Nat → Int → Int) (G : Int → Int), Pre X I → I 45 6 = -1 → CG I G → ∃ (I' : Nat → Int → Int) (G' : Int → Int), (∀ Q : Option am_V → am_H → Prop, Q none (sh b, I', L) → am_m ro dC mc [am_R 45, am_I op] (sh b, I, L) Q) ∧ ST X I G I' G' (I 45 9) ∧ (∀ J0 J : Nat → Int → Int, MR X J0 op I G J → ∀ Q : Option am_V → am_H → Prop, (∀ J' : Nat → Int → Int, MR X J0 op I' G' J' → Q none (sh b, J', L)) → am_m ro dM mm [am_R 66] (sh b, J, L) Q)
theorem CG_n {I : Nat → Int → Int} {G : Int → Int} (h : CG I G) : CG (nC I) G := by
  have n := nC_f (I := I)
  intro k k1 k2
  rw [n.2.2.2]
  exact h k k1 (by omega)
theorem CG_f {I : Nat → Int → Int} {G : Int → Int} (h : CG I G) : CG (fC I) G := by
  have n := fC_f (I := I)
  intro k k1 k2
  rw [n.2.2.2]
  exact h k k1 (by omega)
theorem CG_e {I : Nat → Int → Int} {G : Int → Int} {v c : Int} (h : CG I G) (hv : v = cm c) : CG (eC I v) (gup G (I 45 9) c) := by
  have n := eC_f (I := I) (c := v)
  intro k k1 k2
  by_cases e : k = I 45 9
  · rw [e, n.2.2.2.1, gup_s, hv]
  · rw [n.2.2.2.2 k e, gup_n e]
    exact h k k1 (by omega)
theorem ST_tr {X I I1 I2 : Nat → Int → Int} {G G1 G2 : Int → Int} {c0 c1 : Int} (h : ST X I G I1 G1 c0) (g : ST X I1 G1 I2 G2 c1) : ST X I G I2 G2 c1 := by
  obtain ⟨h1, h2, h3, h4⟩ := h
  obtain ⟨g1, g2, g3, g4⟩ := g
  refine ⟨CP_tr h1 g1, g2, fun k k1 => ?_, g4⟩
  rw [g3 k (by have q := h1.2.2.2.2.1; omega)]
  exact h3 k k1
theorem ST_n {X I I2 : Nat → Int → Int} {G G2 : Int → Int} {c0 : Int} (h : ST X (nC I) G I2 G2 c0) : ST X I G I2 G2 c0 := by
  obtain ⟨h1, h2, h3, h4⟩ := h
  refine ⟨(CP_n h1).1, h2, fun k k1 => h3 k (by have n := nC_f (I := I); omega), h4⟩
theorem ST_f {X I I2 : Nat → Int → Int} {G G2 : Int → Int} {c0 : Int} (hX : CX X) (hP : Pre X I) (h : ST X I G I2 G2 c0) : ST X I G (fC I2) G2 c0 := by
  obtain ⟨h1, h2, h3, h4⟩ := h
  have p := Pre_c hP h1
  obtain ⟨hB, p1, p2, p3, p4⟩ := p
  refine ⟨CP_f hP.1 h1, CG_f h2, h3, fun z => ?_⟩
  have w := CX_nn hX (a := I2 45 5) (by omega) p2
  rw [(fC_f (I := I2)).2.1, hB.2.1] at z
  omega
theorem ST_rf {X I : Nat → Int → Int} {G : Int → Int} {c0 : Int} (hP : Pre X I) (hf : I 45 6 = -1 ∨ I 45 6 = X 2 (I 45 5)) (hG : CG I G) (hw : I 45 6 = -1 → cWf G c0 (I 45 9 - c0).toNat) : ST X I G I G c0 := ⟨CP_rf hP hf, hG, fun _ _ => rfl, hw⟩
theorem ST_fl {X I : Nat → Int → Int} {G : Int → Int} {c0 : Int} (hX : CX X) (hP : Pre X I) (hz : I 45 6 = -1) (hG : CG I G) : ST X I G (fC I) G c0 := by
  obtain ⟨hB, p1, p2, p3, p4⟩ := id hP
  refine ⟨CP_f hP.1 (CP_rf hP (Or.inl hz)), CG_f hG, fun _ _ => rfl, fun z => ?_⟩
  have w := CX_nn hX (a := I 45 5) (by omega) p2
  rw [(fC_f (I := I)).2.1, hB.2.1] at z
  omega
theorem ST_n2 {X I I2 : Nat → Int → Int} {G G2 : Int → Int} {c0 : Int} (h : ST X I G I2 G2 c0) (hz : I2 45 6 = -1) (hlt : I2 45 5 < X 5 2) : ST X I G (nC I2) G2 c0 := by
  have n := nC_f (I := I2)
  obtain ⟨⟨g1, g2, g3, g4, g5, g6, g7⟩, h2, h3, h4⟩ := h
  refine ⟨⟨Cfr_up g1 (by omega), fun k k1 k2 => by rw [n.2.2.2]; exact g2 k k1 k2, by omega, by omega, by omega, by omega, by omega⟩, CG_n h2, h3, fun z => ?_⟩
  rw [n.2.2.1]
  exact h4 hz
theorem ST_bin {X I I2 : Nat → Int → Int} {G G2 : Int → Int} {c0 c v : Int} (hX : CX X) (hP : Pre X I) (hz : I 45 6 = -1) (hlt : I 45 5 < X 5 2) (s : ST X (nC I) G I2 G2 (nC I 45 9)) (w : cWf G c0 (I 45 9 - c0).toNat) (h0 : 0 ≤ c0 ∧ c0 ≤ I 45 9) (hv : v = cm c) (hc : 20 ≤ c ∧ c ≤ 30 ∧ c ≠ 22) : ST X I G (eC I2 v) (gup G2 (I2 45 9) c) c0 ∧ Pre X (eC I2 v) ∧ I 45 5 < eC I2 v 45 5 ∧ (0 ≤ I2 45 9 ∧ I2 45 9 < 120) ∧ I 45 9 ≤ eC I2 v 45 9 := by
  have n := nC_f (I := I)
  have n2 := eC_f (I := I2) (c := v)
  obtain ⟨s1, s2, s3, s4⟩ := s
  obtain ⟨q1, q2⟩ := CP_n s1
  have q3 := CP_e (c := v) q1 q2
  have P2 := Pre_c hP q1
  have P3 := Pre_c hP q3
  have x1 := hX.1
  have p2 := P2.2.2
  have p3 := P3.2.2
  have q4 := s1.2.2.1
  have q5 := s1.2.2.2.2.1
  refine ⟨⟨q3, CG_e s2 hv, fun k k1 => ?_, fun z => ?_⟩, P3, by omega, by omega, by omega⟩
  · rw [gup_n (by omega)]
    exact s3 k (by omega)
  · rw [n2.2.1] at z
    rw [n2.2.2.1]
    have w2 := s4 z
    rw [n.2.2.1] at w2 s3
    have e : (I2 45 9 + 1 - c0).toNat = (I 45 9 - c0).toNat + (I2 45 9 - I 45 9).toNat + 1 := by omega
    have e2 : c0 + ((I 45 9 - c0).toNat : Int) = I 45 9 := by omega
    have e3 : c0 + ((I 45 9 - c0).toNat : Int) + ((I2 45 9 - I 45 9).toNat : Int) = I2 45 9 := by omega
    have k1 : 20 ≤ c := hc.1
    have k2 : cNd c = 2 := by
      unfold cNd
      rw [if_neg (by omega), if_neg (by omega)]
    have k3 : cDl c = -1 := by
      unfold cDl
      rw [if_neg (by omega), if_neg (by omega)]
    rw [e]
    refine cWf_bn (cWf_congr (fun k hk => ?_) w) ?_ ?_ ?_ ?_
    · rw [gup_n (by omega)]
      exact s3 _ (by omega)
    · rw [e2]
      refine cWf_congr (fun k hk => ?_) w2
      rw [gup_n (by omega)]
    · rw [e3, gup_s]
      exact Or.inr (Or.inr (by omega))
    · rw [e3, gup_s, k2]
    · rw [e3, gup_s, k3]
theorem ST_un {X I I2 : Nat → Int → Int} {G G2 : Int → Int} {c v : Int} (hX : CX X) (hP : Pre X I) (s : ST X (nC I) G I2 G2 (nC I 45 9)) (hv : v = cm c) (hc : c = 22 ∨ c = 31) : ST X I G (eC I2 v) (gup G2 (I2 45 9) c) (I 45 9) ∧ (0 ≤ I2 45 9 ∧ I2 45 9 < 120) := by
  have n := nC_f (I := I)
  have n2 := eC_f (I := I2) (c := v)
  obtain ⟨s1, s2, s3, s4⟩ := s
  obtain ⟨q1, q2⟩ := CP_n s1
  have q3 := CP_e (c := v) q1 q2
  have P2 := Pre_c hP q1
  have x1 := hX.1
  have p2 := P2.2.2
  have q4 := s1.2.2.1
  have q5 := s1.2.2.2.2.1
  refine ⟨⟨q3, CG_e s2 hv, fun k k1 => ?_, fun z => ?_⟩, by omega⟩
  · rw [gup_n (by omega)]
    exact s3 k (by omega)
  · rw [n2.2.1] at z
    rw [n2.2.2.1]
    have w2 := s4 z
    rw [n.2.2.1] at w2 s3
    have e : (I2 45 9 + 1 - I 45 9).toNat = (I2 45 9 - I 45 9).toNat + 1 := by omega
    have e2 : I 45 9 + ((I2 45 9 - I 45 9).toNat : Int) = I2 45 9 := by omega
    have k2 : cNd c = 1 := by
      unfold cNd
      rw [if_neg (by omega), if_pos hc]
    have k3 : cDl c = 0 := by
      unfold cDl
      rw [if_neg (by omega), if_pos hc]
    rw [e]
    refine cWf_un (cWf_congr (fun k hk => ?_) w2) ?_ ?_ ?_
    · rw [gup_n (by omega)]
    · rw [e2, gup_s]
      exact Or.inr (Or.inr (by omega))
    · rw [e2, gup_s, k2]
    · rw [e2, gup_s, k3]
theorem ST_lt {X I : Nat → Int → Int} {G : Int → Int} {c v : Int} (hX : CX X) (hP : Pre X I) (hz : I 45 6 = -1) (hG : CG I G) (hlt : I 45 5 < X 5 2) (hv : v = cm c) (hc : (100 ≤ c ∧ c ≤ 10000099) ∨ (0 ≤ c ∧ c < 10)) : ST X I G (nC (eC I v)) (gup G (I 45 9) c) (I 45 9) ∧ (0 ≤ I 45 9 ∧ I 45 9 < 120) ∧ eC I v 45 5 = I 45 5 ∧ eC I v 45 6 = -1 := by
  have n2 := eC_f (I := I) (c := v)
  have n := nC_f (I := eC I v)
  have x1 := hX.1
  have p2 := hP.2.2
  refine ⟨⟨⟨Cfr_up (Cfr_up (Cfr_50 Cfr_rf) (by omega)) (by omega), fun k k1 k2 => ?_, by omega, by omega, by omega, by omega, by omega⟩, CG_n (CG_e hG hv), fun k k1 => gup_n (by omega), fun z => ?_⟩, by omega, n2.1, by omega⟩
  · rw [n.2.2.2]
    exact n2.2.2.2.2 k (by omega)
  · rw [n.2.2.1, n2.2.2.1, show (I 45 9 + 1 - I 45 9).toNat = 1 by omega]
    refine cWf_lt ?_ ?_
    · rw [gup_s]
      unfold cOK
      omega
    · rw [gup_s]
      omega
theorem ls_E {ro : Nat → Int × (Int → Int)} {dc dm : Nat} {b : Bool} {L X : Nat → Int → Int} {op : Int} (hX : CX X) (hW : ∀ k, 0 ≤ k → k < 20 → L 75 k = wdv k) (hs : Sim ro b L X (dc + 1) (dm + 3) 125 201 op) {c0 : Int} : ∀ (n : Nat) (I : Nat → Int → Int) (G : Int → Int) (i : Int), Pre X I → (I 45 6 = -1 ∨ I 45 6 = X 2 (I 45 5)) → CG I G → (0 ≤ c0 ∧ c0 ≤ I 45 9) → (I 45 6 = -1 → cWf G c0 (I 45 9 - c0).toNat) → 0 ≤ i → i < I 45 5 → X 5 2 - I 45 5 < (n : Int) → ∃ (I' : Nat → Int → Int) (G' : Int → Int), (∀ (bc bs : Nat) (Q : Option am_V → am_H → Prop), Q none (sh b, I', L) → am_ex (am_m ro (dc + 1)) ro am_M124 Q (7, [some (am_R 45), some (am_I op), some (am_I i)], [], (sh b, I, L), bc, bs)) ∧ ST X I G I' G' c0 ∧ (∀ (J0 J : Nat → Int → Int), MR X J0 op I G J → ∀ (bc bs : Nat) (Q : Option am_V → am_H → Prop), (∀ J' : Nat → Int → Int, MR X J0 op I' G' J' → Q none (sh b, J', L)) → am_ex (am_m ro (dm + 3)) ro am_M200 Q (4, [some (am_R 66)], [], (sh b, J, L), bc, bs)) := by
  intro n
  induction n with
  | zero =>
    intro I G i hP hf hG h0 hw i1 i2 im
    have q := hP.2.2.1
    omega
  | succ n ih =>
    intro I G i hP hf hG h0 hw i1 i2 im
    obtain ⟨hB, p1, p2, p3, p4⟩ := id hP
    have e47 : I 47 (I 45 5) = X 1 (I 45 5) := by rw [hB.1]
    have x120 := hX.1
    have hlt := CX_lt hX p2
    have hT := (CX_tr hX (a := I 45 5) (by omega) p2).1
    have t0 := tm_or hT
    by_cases st : I 45 6 = -1 ∧ (X 1 (I 45 5) = 1017)
    · obtain ⟨z, s1⟩ := st
      obtain ⟨c, hc⟩ : ∃ c, (X 1 (I 45 5) = 1017 ∧ c = 20) := by
        exact ⟨20, s1, rfl⟩
      have hv : 111 = cm c := by
        rw [hc.2]
        rfl
      obtain ⟨I2, G2, r2, s2, m2⟩ := hs (nC I) G (Pre_n hP (by omega)) (nC_f.2.1.trans z) (CG_n hG)
      obtain ⟨s3, P3, a3, hc3, d3⟩ := ST_bin hX hP z (by omega) s2 (hw z) h0 hv (by omega)
      obtain ⟨I', G', r', s', m'⟩ := ih _ _ (i + 1) P3 s3.1.2.2.2.2.2.2 s3.2.1 ⟨h0.1, by omega⟩ s3.2.2.2 (by omega) (by omega) (by omega)
      refine ⟨I', G', fun bc bs Q H => ?_, ST_tr s3 s', fun J0 J hJ bc bs Q H => ?_⟩
      · clear m' s' ih s3 m2 s2
        refine b_Rdr_readE_7  (fun c1 => ?_) (fun c1 => ?_)
        · exfalso
          omega
        · refine b_Rdr_readE_13  (s_Rdr_stands (by omega) (fun c2 => ?_) (fun c2 => ?_))
          · refine b_Rdr_readE_20  (fun c3 => absurd c3 (by decide)) (fun c3 => ?_)
            refine b_Rdr_readE_23 (by omega) (r2 _ ?_)
            refine b_Rdr_readE_38  (s_Rdr_emit hc3 ?_)
            refine b_Rdr_readE_44 (by omega) ?_
            exact r' _ _ _ H
          · refine b_Rdr_readE_20  (fun c4 => ?_) (fun c4 => absurd c4 (by decide))
            exfalso
            omega
      · clear r' s' ih s3 r2 s2
        have e18 := hJ.2.2.2.2.2.1
        have e13 := hJ.2.2.1.2.2.1
        refine b_M_or_4  (fun c1 => ?_) (fun c1 => ?_)
        · exfalso
          omega
        · refine b_M_or_11  (fun c2 => ?_) (fun c2 => ?_)
          · exfalso
            omega
          · refine b_M_or_19  (q_M_next hX hW hJ (by omega) (by omega) (fun J1 hJ1 => ?_))
            refine b_M_or_23  (m2 J0 J1 hJ1 _ (fun J2 hJ2 => ?_))
            refine b_M_or_27  (q_M_puts hX hJ2 hc3 (fun J3 hJ3 => ?_))
            refine b_M_or_33  ?_
            rw [show (20 : Int) = c by omega, ← hv] at hJ3
            exact m' J0 J3 hJ3 _ _ _ H
    · refine ⟨I, G, fun bc bs Q H => ?_, ST_rf hP hf hG hw, fun J0 J hJ bc bs Q H => ?_⟩
      · clear ih
        refine b_Rdr_readE_7  (fun c1 => ?_) (fun c1 => ?_)
        · refine b_Rdr_readE_50  ?_
          exact H
        · refine b_Rdr_readE_13  (s_Rdr_stands (by omega) (fun c2 => ?_) (fun c2 => ?_))
          · refine b_Rdr_readE_20  (fun c3 => absurd c3 (by decide)) (fun c3 => ?_)
            exfalso
            omega
          · refine b_Rdr_readE_20  (fun c4 => ?_) (fun c4 => absurd c4 (by decide))
            refine b_Rdr_readE_50  ?_
            exact H
      · clear ih
        have e18 := hJ.2.2.2.2.2.1
        have e13 := hJ.2.2.1.2.2.1
        refine b_M_or_4  (fun c1 => ?_) (fun c1 => ?_)
        · refine b_M_or_36  ?_
          exact H _ hJ
        · refine b_M_or_11  (fun c2 => ?_) (fun c2 => ?_)
          · refine b_M_or_36  ?_
            exact H _ hJ
          · exfalso
            omega
theorem sm_E {ro : Nat → Int × (Int → Int)} {dc dm : Nat} {b : Bool} {L X : Nat → Int → Int} {op : Int} (hX : CX X) (hW : ∀ k, 0 ≤ k → k < 20 → L 75 k = wdv k) (hs : Sim ro b L X (dc + 1) (dm + 3) 125 201 op) : Sim ro b L X (dc + 2) (dm + 4) 124 200 op := by
  intro I G hP hz hG
  obtain ⟨I1, G1, r1, s1, m1⟩ := hs I G hP hz hG
  have P1 := Pre_c hP s1.1
  have x120 := hX.1
  obtain ⟨I', G', r', s', m'⟩ := ls_E hX hW hs (c0 := I 45 9) 121 I1 G1 0 P1 s1.1.2.2.2.2.2.2 s1.2.1 ⟨hP.2.2.2.1, s1.1.2.2.2.2.1⟩ s1.2.2.2 (by omega) (by have q := P1.2.1; omega) (by have q := P1.2.1; omega)
  refine ⟨I', G', fun Q H => ?_, ST_tr s1 s', fun J0 J hJ Q H => ?_⟩
  · refine am_in rfl rfl rfl rfl ?_
    refine b_Rdr_readE_0  (r1 _ ?_)
    refine b_Rdr_readE_5  ?_
    exact r' _ _ _ H
  · refine am_in rfl rfl rfl rfl ?_
    refine b_M_or_0  (m1 J0 J hJ _ (fun J1 hJ1 => ?_))
    exact m' J0 J1 hJ1 _ _ _ H
theorem ls_And {ro : Nat → Int × (Int → Int)} {dc dm : Nat} {b : Bool} {L X : Nat → Int → Int} {op : Int} (hX : CX X) (hW : ∀ k, 0 ≤ k → k < 20 → L 75 k = wdv k) (hs : Sim ro b L X (dc + 1) (dm + 3) 126 202 op) {c0 : Int} : ∀ (n : Nat) (I : Nat → Int → Int) (G : Int → Int) (i : Int), Pre X I → (I 45 6 = -1 ∨ I 45 6 = X 2 (I 45 5)) → CG I G → (0 ≤ c0 ∧ c0 ≤ I 45 9) → (I 45 6 = -1 → cWf G c0 (I 45 9 - c0).toNat) → 0 ≤ i → i < I 45 5 → X 5 2 - I 45 5 < (n : Int) → ∃ (I' : Nat → Int → Int) (G' : Int → Int), (∀ (bc bs : Nat) (Q : Option am_V → am_H → Prop), Q none (sh b, I', L) → am_ex (am_m ro (dc + 1)) ro am_M125 Q (7, [some (am_R 45), some (am_I op), some (am_I i)], [], (sh b, I, L), bc, bs)) ∧ ST X I G I' G' c0 ∧ (∀ (J0 J : Nat → Int → Int), MR X J0 op I G J → ∀ (bc bs : Nat) (Q : Option am_V → am_H → Prop), (∀ J' : Nat → Int → Int, MR X J0 op I' G' J' → Q none (sh b, J', L)) → am_ex (am_m ro (dm + 3)) ro am_M201 Q (4, [some (am_R 66)], [], (sh b, J, L), bc, bs)) := by
  intro n
  induction n with
  | zero =>
    intro I G i hP hf hG h0 hw i1 i2 im
    have q := hP.2.2.1
    omega
  | succ n ih =>
    intro I G i hP hf hG h0 hw i1 i2 im
    obtain ⟨hB, p1, p2, p3, p4⟩ := id hP
    have e47 : I 47 (I 45 5) = X 1 (I 45 5) := by rw [hB.1]
    have x120 := hX.1
    have hlt := CX_lt hX p2
    have hT := (CX_tr hX (a := I 45 5) (by omega) p2).1
    have t0 := tm_and hT
    by_cases st : I 45 6 = -1 ∧ (X 1 (I 45 5) = 1018)
    · obtain ⟨z, s1⟩ := st
      obtain ⟨c, hc⟩ : ∃ c, (X 1 (I 45 5) = 1018 ∧ c = 21) := by
        exact ⟨21, s1, rfl⟩
      have hv : 97 = cm c := by
        rw [hc.2]
        rfl
      obtain ⟨I2, G2, r2, s2, m2⟩ := hs (nC I) G (Pre_n hP (by omega)) (nC_f.2.1.trans z) (CG_n hG)
      obtain ⟨s3, P3, a3, hc3, d3⟩ := ST_bin hX hP z (by omega) s2 (hw z) h0 hv (by omega)
      obtain ⟨I', G', r', s', m'⟩ := ih _ _ (i + 1) P3 s3.1.2.2.2.2.2.2 s3.2.1 ⟨h0.1, by omega⟩ s3.2.2.2 (by omega) (by omega) (by omega)
      refine ⟨I', G', fun bc bs Q H => ?_, ST_tr s3 s', fun J0 J hJ bc bs Q H => ?_⟩
      · clear m' s' ih s3 m2 s2
        refine b_Rdr_readAnd_7  (fun c1 => ?_) (fun c1 => ?_)
        · exfalso
          omega
        · refine b_Rdr_readAnd_13  (s_Rdr_stands (by omega) (fun c2 => ?_) (fun c2 => ?_))
          · refine b_Rdr_readAnd_20  (fun c3 => absurd c3 (by decide)) (fun c3 => ?_)
            refine b_Rdr_readAnd_23 (by omega) (r2 _ ?_)
            refine b_Rdr_readAnd_38  (s_Rdr_emit hc3 ?_)
            refine b_Rdr_readAnd_44 (by omega) ?_
            exact r' _ _ _ H
          · refine b_Rdr_readAnd_20  (fun c4 => ?_) (fun c4 => absurd c4 (by decide))
            exfalso
            omega
      · clear r' s' ih s3 r2 s2
        have e18 := hJ.2.2.2.2.2.1
        have e13 := hJ.2.2.1.2.2.1
        refine b_M_and_4  (fun c1 => ?_) (fun c1 => ?_)
        · exfalso
          omega
        · refine b_M_and_11  (fun c2 => ?_) (fun c2 => ?_)
          · exfalso
            omega
          · refine b_M_and_20  (q_M_next hX hW hJ (by omega) (by omega) (fun J1 hJ1 => ?_))
            refine b_M_and_24  (m2 J0 J1 hJ1 _ (fun J2 hJ2 => ?_))
            refine b_M_and_28  (q_M_puts hX hJ2 hc3 (fun J3 hJ3 => ?_))
            refine b_M_and_34  ?_
            rw [show (21 : Int) = c by omega, ← hv] at hJ3
            exact m' J0 J3 hJ3 _ _ _ H
    · refine ⟨I, G, fun bc bs Q H => ?_, ST_rf hP hf hG hw, fun J0 J hJ bc bs Q H => ?_⟩
      · clear ih
        refine b_Rdr_readAnd_7  (fun c1 => ?_) (fun c1 => ?_)
        · refine b_Rdr_readAnd_50  ?_
          exact H
        · refine b_Rdr_readAnd_13  (s_Rdr_stands (by omega) (fun c2 => ?_) (fun c2 => ?_))
          · refine b_Rdr_readAnd_20  (fun c3 => absurd c3 (by decide)) (fun c3 => ?_)
            exfalso
            omega
          · refine b_Rdr_readAnd_20  (fun c4 => ?_) (fun c4 => absurd c4 (by decide))
            refine b_Rdr_readAnd_50  ?_
            exact H
      · clear ih
        have e18 := hJ.2.2.2.2.2.1
        have e13 := hJ.2.2.1.2.2.1
        refine b_M_and_4  (fun c1 => ?_) (fun c1 => ?_)
        · refine b_M_and_37  ?_
          exact H _ hJ
        · refine b_M_and_11  (fun c2 => ?_) (fun c2 => ?_)
          · refine b_M_and_37  ?_
            exact H _ hJ
          · exfalso
            omega
theorem sm_And {ro : Nat → Int × (Int → Int)} {dc dm : Nat} {b : Bool} {L X : Nat → Int → Int} {op : Int} (hX : CX X) (hW : ∀ k, 0 ≤ k → k < 20 → L 75 k = wdv k) (hs : Sim ro b L X (dc + 1) (dm + 3) 126 202 op) : Sim ro b L X (dc + 2) (dm + 4) 125 201 op := by
  intro I G hP hz hG
  obtain ⟨I1, G1, r1, s1, m1⟩ := hs I G hP hz hG
  have P1 := Pre_c hP s1.1
  have x120 := hX.1
  obtain ⟨I', G', r', s', m'⟩ := ls_And hX hW hs (c0 := I 45 9) 121 I1 G1 0 P1 s1.1.2.2.2.2.2.2 s1.2.1 ⟨hP.2.2.2.1, s1.1.2.2.2.2.1⟩ s1.2.2.2 (by omega) (by have q := P1.2.1; omega) (by have q := P1.2.1; omega)
  refine ⟨I', G', fun Q H => ?_, ST_tr s1 s', fun J0 J hJ Q H => ?_⟩
  · refine am_in rfl rfl rfl rfl ?_
    refine b_Rdr_readAnd_0  (r1 _ ?_)
    refine b_Rdr_readAnd_5  ?_
    exact r' _ _ _ H
  · refine am_in rfl rfl rfl rfl ?_
    refine b_M_and_0  (m1 J0 J hJ _ (fun J1 hJ1 => ?_))
    exact m' J0 J1 hJ1 _ _ _ H
theorem ls_Sum {ro : Nat → Int × (Int → Int)} {dc dm : Nat} {b : Bool} {L X : Nat → Int → Int} {op : Int} (hX : CX X) (hW : ∀ k, 0 ≤ k → k < 20 → L 75 k = wdv k) (hs : Sim ro b L X (dc + 1) (dm + 3) 128 204 op) {c0 : Int} : ∀ (n : Nat) (I : Nat → Int → Int) (G : Int → Int) (i : Int), Pre X I → (I 45 6 = -1 ∨ I 45 6 = X 2 (I 45 5)) → CG I G → (0 ≤ c0 ∧ c0 ≤ I 45 9) → (I 45 6 = -1 → cWf G c0 (I 45 9 - c0).toNat) → 0 ≤ i → i < I 45 5 → X 5 2 - I 45 5 < (n : Int) → ∃ (I' : Nat → Int → Int) (G' : Int → Int), (∀ (bc bs : Nat) (Q : Option am_V → am_H → Prop), Q none (sh b, I', L) → am_ex (am_m ro (dc + 1)) ro am_M127 Q (7, [some (am_R 45), some (am_I op), some (am_I i), none], [], (sh b, I, L), bc, bs)) ∧ ST X I G I' G' c0 ∧ (∀ (J0 J : Nat → Int → Int), MR X J0 op I G J → ∀ (bc bs : Nat) (Q : Option am_V → am_H → Prop), (∀ J' : Nat → Int → Int, MR X J0 op I' G' J' → Q none (sh b, J', L)) → am_ex (am_m ro (dm + 3)) ro am_M203 Q (4, [some (am_R 66), none], [], (sh b, J, L), bc, bs)) := by
  intro n
  induction n with
  | zero =>
    intro I G i hP hf hG h0 hw i1 i2 im
    have q := hP.2.2.1
    omega
  | succ n ih =>
    intro I G i hP hf hG h0 hw i1 i2 im
    obtain ⟨hB, p1, p2, p3, p4⟩ := id hP
    have e47 : I 47 (I 45 5) = X 1 (I 45 5) := by rw [hB.1]
    have x120 := hX.1
    have hlt := CX_lt hX p2
    have hT := (CX_tr hX (a := I 45 5) (by omega) p2).1
    have t0 := tm_s43 hT
    have t1 := tm_s45 hT
    by_cases st : I 45 6 = -1 ∧ (X 1 (I 45 5) = 43 ∨ X 1 (I 45 5) = 45)
    · obtain ⟨z, s1⟩ := st
      obtain ⟨c, hc⟩ : ∃ c, (X 1 (I 45 5) = 43 ∧ c = 26) ∨ (X 1 (I 45 5) = 45 ∧ c = 27) := by
        rcases s1 with a | a
        · exact ⟨26, Or.inl ⟨a, rfl⟩⟩
        · exact ⟨27, Or.inr (⟨a, rfl⟩)⟩
      have hv : I 47 (I 45 5) = cm c := by
        rcases hc with ⟨a, a2⟩ | ⟨a, a2⟩ <;> (rw [e47, a, a2]; rfl)
      obtain ⟨I2, G2, r2, s2, m2⟩ := hs (nC I) G (Pre_n hP (by omega)) (nC_f.2.1.trans z) (CG_n hG)
      obtain ⟨s3, P3, a3, hc3, d3⟩ := ST_bin hX hP z (by omega) s2 (hw z) h0 hv (by omega)
      obtain ⟨I', G', r', s', m'⟩ := ih _ _ (i + 1) P3 s3.1.2.2.2.2.2.2 s3.2.1 ⟨h0.1, by omega⟩ s3.2.2.2 (by omega) (by omega) (by omega)
      refine ⟨I', G', fun bc bs Q H => ?_, ST_tr s3 s', fun J0 J hJ bc bs Q H => ?_⟩
      · clear m' s' ih s3 m2 s2
        refine b_Rdr_readSum_7  (fun c1 => ?_) (fun c1 => ?_)
        · exfalso
          omega
        · refine b_Rdr_readSum_13  (s_Rdr_stands (by omega) (fun c2 => ?_) (fun c2 => ?_))
          · refine b_Rdr_readSum_19  (fun c3 => ?_) (fun c3 => absurd c3 (by decide))
            refine b_Rdr_readSum_31 (by omega) (by omega) (r2 _ ?_)
            refine b_Rdr_readSum_56  (s_Rdr_emit hc3 ?_)
            refine b_Rdr_readSum_61 (by omega) ?_
            exact r' _ _ _ H
          · refine b_Rdr_readSum_19  (fun c4 => absurd c4 (by decide)) (fun c4 => ?_)
            refine b_Rdr_readSum_22  (s_Rdr_stands (by omega) (fun c5 => ?_) (fun c5 => ?_))
            · refine b_Rdr_readSum_28  (fun c6 => absurd c6 (by decide)) (fun c6 => ?_)
              refine b_Rdr_readSum_31 (by omega) (by omega) (r2 _ ?_)
              refine b_Rdr_readSum_56  (s_Rdr_emit hc3 ?_)
              refine b_Rdr_readSum_61 (by omega) ?_
              exact r' _ _ _ H
            · refine b_Rdr_readSum_28  (fun c7 => ?_) (fun c7 => absurd c7 (by decide))
              exfalso
              omega
      · clear r' s' ih s3 r2 s2
        have e18 := hJ.2.2.2.2.2.1
        have e13 := hJ.2.2.1.2.2.1
        refine b_M_sum_4  (fun c1 => ?_) (fun c1 => ?_)
        · exfalso
          omega
        · refine b_M_sum_11  (fun c2 => ?_) (fun c2 => ?_)
          · refine b_M_sum_29  (fun c3 => ?_) (fun c3 => ?_)
            · refine b_M_sum_43  ?_
              refine b_M_sum_45  (q_M_next hX hW hJ (by omega) (by omega) (fun J1 hJ1 => ?_))
              refine b_M_sum_50  (m2 J0 J1 hJ1 _ (fun J2 hJ2 => ?_))
              refine b_M_sum_54  (q_M_puts hX hJ2 hc3 (fun J3 hJ3 => ?_))
              refine b_M_sum_59  ?_
              rw [show (27 : Int) = c by omega, ← hv] at hJ3
              exact m' J0 J3 hJ3 _ _ _ H
            · refine b_M_sum_38  ?_
              refine b_M_sum_45  (q_M_next hX hW hJ (by omega) (by omega) (fun J1 hJ1 => ?_))
              refine b_M_sum_50  (m2 J0 J1 hJ1 _ (fun J2 hJ2 => ?_))
              refine b_M_sum_54  (q_M_puts hX hJ2 hc3 (fun J3 hJ3 => ?_))
              refine b_M_sum_59  ?_
              rw [show (26 : Int) = c by omega, ← hv] at hJ3
              exact m' J0 J3 hJ3 _ _ _ H
          · refine b_M_sum_20  (fun c4 => ?_) (fun c4 => ?_)
            · exfalso
              omega
            · refine b_M_sum_29  (fun c5 => ?_) (fun c5 => ?_)
              · refine b_M_sum_43  ?_
                refine b_M_sum_45  (q_M_next hX hW hJ (by omega) (by omega) (fun J1 hJ1 => ?_))
                refine b_M_sum_50  (m2 J0 J1 hJ1 _ (fun J2 hJ2 => ?_))
                refine b_M_sum_54  (q_M_puts hX hJ2 hc3 (fun J3 hJ3 => ?_))
                refine b_M_sum_59  ?_
                rw [show (27 : Int) = c by omega, ← hv] at hJ3
                exact m' J0 J3 hJ3 _ _ _ H
              · refine b_M_sum_38  ?_
                refine b_M_sum_45  (q_M_next hX hW hJ (by omega) (by omega) (fun J1 hJ1 => ?_))
                refine b_M_sum_50  (m2 J0 J1 hJ1 _ (fun J2 hJ2 => ?_))
                refine b_M_sum_54  (q_M_puts hX hJ2 hc3 (fun J3 hJ3 => ?_))
                refine b_M_sum_59  ?_
                rw [show (26 : Int) = c by omega, ← hv] at hJ3
                exact m' J0 J3 hJ3 _ _ _ H
    · refine ⟨I, G, fun bc bs Q H => ?_, ST_rf hP hf hG hw, fun J0 J hJ bc bs Q H => ?_⟩
      · clear ih
        refine b_Rdr_readSum_7  (fun c1 => ?_) (fun c1 => ?_)
        · refine b_Rdr_readSum_67  ?_
          exact H
        · refine b_Rdr_readSum_13  (s_Rdr_stands (by omega) (fun c2 => ?_) (fun c2 => ?_))
          · refine b_Rdr_readSum_19  (fun c3 => ?_) (fun c3 => absurd c3 (by decide))
            exfalso
            omega
          · refine b_Rdr_readSum_19  (fun c4 => absurd c4 (by decide)) (fun c4 => ?_)
            refine b_Rdr_readSum_22  (s_Rdr_stands (by omega) (fun c5 => ?_) (fun c5 => ?_))
            · refine b_Rdr_readSum_28  (fun c6 => absurd c6 (by decide)) (fun c6 => ?_)
              exfalso
              omega
            · refine b_Rdr_readSum_28  (fun c7 => ?_) (fun c7 => absurd c7 (by decide))
              refine b_Rdr_readSum_67  ?_
              exact H
      · clear ih
        have e18 := hJ.2.2.2.2.2.1
        have e13 := hJ.2.2.1.2.2.1
        refine b_M_sum_4  (fun c1 => ?_) (fun c1 => ?_)
        · refine b_M_sum_62  ?_
          exact H _ hJ
        · refine b_M_sum_11  (fun c2 => ?_) (fun c2 => ?_)
          · exfalso
            omega
          · refine b_M_sum_20  (fun c3 => ?_) (fun c3 => ?_)
            · refine b_M_sum_62  ?_
              exact H _ hJ
            · exfalso
              omega
theorem sm_Sum {ro : Nat → Int × (Int → Int)} {dc dm : Nat} {b : Bool} {L X : Nat → Int → Int} {op : Int} (hX : CX X) (hW : ∀ k, 0 ≤ k → k < 20 → L 75 k = wdv k) (hs : Sim ro b L X (dc + 1) (dm + 3) 128 204 op) : Sim ro b L X (dc + 2) (dm + 4) 127 203 op := by
  intro I G hP hz hG
  obtain ⟨I1, G1, r1, s1, m1⟩ := hs I G hP hz hG
  have P1 := Pre_c hP s1.1
  have x120 := hX.1
  obtain ⟨I', G', r', s', m'⟩ := ls_Sum hX hW hs (c0 := I 45 9) 121 I1 G1 0 P1 s1.1.2.2.2.2.2.2 s1.2.1 ⟨hP.2.2.2.1, s1.1.2.2.2.2.1⟩ s1.2.2.2 (by omega) (by have q := P1.2.1; omega) (by have q := P1.2.1; omega)
  refine ⟨I', G', fun Q H => ?_, ST_tr s1 s', fun J0 J hJ Q H => ?_⟩
  · refine am_in rfl rfl rfl rfl ?_
    refine b_Rdr_readSum_0  (r1 _ ?_)
    refine b_Rdr_readSum_5  ?_
    exact r' _ _ _ H
  · refine am_in rfl rfl rfl rfl ?_
    refine b_M_sum_0  (m1 J0 J hJ _ (fun J1 hJ1 => ?_))
    exact m' J0 J1 hJ1 _ _ _ H
theorem ls_Term {ro : Nat → Int × (Int → Int)} {dc dm : Nat} {b : Bool} {L X : Nat → Int → Int} {op : Int} (hX : CX X) (hW : ∀ k, 0 ≤ k → k < 20 → L 75 k = wdv k) (hs : Sim ro b L X (dc + 1) (dm + 3) 129 205 op) {c0 : Int} : ∀ (n : Nat) (I : Nat → Int → Int) (G : Int → Int) (i : Int), Pre X I → (I 45 6 = -1 ∨ I 45 6 = X 2 (I 45 5)) → CG I G → (0 ≤ c0 ∧ c0 ≤ I 45 9) → (I 45 6 = -1 → cWf G c0 (I 45 9 - c0).toNat) → 0 ≤ i → i < I 45 5 → X 5 2 - I 45 5 < (n : Int) → ∃ (I' : Nat → Int → Int) (G' : Int → Int), (∀ (bc bs : Nat) (Q : Option am_V → am_H → Prop), Q none (sh b, I', L) → am_ex (am_m ro (dc + 1)) ro am_M128 Q (7, [some (am_R 45), some (am_I op), some (am_I i), none], [], (sh b, I, L), bc, bs)) ∧ ST X I G I' G' c0 ∧ (∀ (J0 J : Nat → Int → Int), MR X J0 op I G J → ∀ (bc bs : Nat) (Q : Option am_V → am_H → Prop), (∀ J' : Nat → Int → Int, MR X J0 op I' G' J' → Q none (sh b, J', L)) → am_ex (am_m ro (dm + 3)) ro am_M204 Q (4, [some (am_R 66), none], [], (sh b, J, L), bc, bs)) := by
  intro n
  induction n with
  | zero =>
    intro I G i hP hf hG h0 hw i1 i2 im
    have q := hP.2.2.1
    omega
  | succ n ih =>
    intro I G i hP hf hG h0 hw i1 i2 im
    obtain ⟨hB, p1, p2, p3, p4⟩ := id hP
    have e47 : I 47 (I 45 5) = X 1 (I 45 5) := by rw [hB.1]
    have x120 := hX.1
    have hlt := CX_lt hX p2
    have hT := (CX_tr hX (a := I 45 5) (by omega) p2).1
    have t0 := tm_s42 hT
    have t1 := tm_s47 hT
    have t2 := tm_s37 hT
    by_cases st : I 45 6 = -1 ∧ (X 1 (I 45 5) = 42 ∨ X 1 (I 45 5) = 47 ∨ X 1 (I 45 5) = 37)
    · obtain ⟨z, s1⟩ := st
      obtain ⟨c, hc⟩ : ∃ c, (X 1 (I 45 5) = 42 ∧ c = 28) ∨ (X 1 (I 45 5) = 47 ∧ c = 29) ∨ (X 1 (I 45 5) = 37 ∧ c = 30) := by
        rcases s1 with a | a | a
        · exact ⟨28, Or.inl ⟨a, rfl⟩⟩
        · exact ⟨29, Or.inr (Or.inl ⟨a, rfl⟩)⟩
        · exact ⟨30, Or.inr (Or.inr (⟨a, rfl⟩))⟩
      have hv : I 47 (I 45 5) = cm c := by
        rcases hc with ⟨a, a2⟩ | ⟨a, a2⟩ | ⟨a, a2⟩ <;> (rw [e47, a, a2]; rfl)
      obtain ⟨I2, G2, r2, s2, m2⟩ := hs (nC I) G (Pre_n hP (by omega)) (nC_f.2.1.trans z) (CG_n hG)
      obtain ⟨s3, P3, a3, hc3, d3⟩ := ST_bin hX hP z (by omega) s2 (hw z) h0 hv (by omega)
      obtain ⟨I', G', r', s', m'⟩ := ih _ _ (i + 1) P3 s3.1.2.2.2.2.2.2 s3.2.1 ⟨h0.1, by omega⟩ s3.2.2.2 (by omega) (by omega) (by omega)
      refine ⟨I', G', fun bc bs Q H => ?_, ST_tr s3 s', fun J0 J hJ bc bs Q H => ?_⟩
      · clear m' s' ih s3 m2 s2
        refine b_Rdr_readTerm_7  (fun c1 => ?_) (fun c1 => ?_)
        · exfalso
          omega
        · refine b_Rdr_readTerm_13  (s_Rdr_stands (by omega) (fun c2 => ?_) (fun c2 => ?_))
          · refine b_Rdr_readTerm_19  (fun c3 => ?_) (fun c3 => absurd c3 (by decide))
            refine b_Rdr_readTerm_40 (by omega) (by omega) (r2 _ ?_)
            refine b_Rdr_readTerm_65  (s_Rdr_emit hc3 ?_)
            refine b_Rdr_readTerm_70 (by omega) ?_
            exact r' _ _ _ H
          · refine b_Rdr_readTerm_19  (fun c4 => absurd c4 (by decide)) (fun c4 => ?_)
            refine b_Rdr_readTerm_22  (s_Rdr_stands (by omega) (fun c5 => ?_) (fun c5 => ?_))
            · refine b_Rdr_readTerm_28  (fun c6 => ?_) (fun c6 => absurd c6 (by decide))
              refine b_Rdr_readTerm_40 (by omega) (by omega) (r2 _ ?_)
              refine b_Rdr_readTerm_65  (s_Rdr_emit hc3 ?_)
              refine b_Rdr_readTerm_70 (by omega) ?_
              exact r' _ _ _ H
            · refine b_Rdr_readTerm_28  (fun c7 => absurd c7 (by decide)) (fun c7 => ?_)
              refine b_Rdr_readTerm_31  (s_Rdr_stands (by omega) (fun c8 => ?_) (fun c8 => ?_))
              · refine b_Rdr_readTerm_37  (fun c9 => absurd c9 (by decide)) (fun c9 => ?_)
                refine b_Rdr_readTerm_40 (by omega) (by omega) (r2 _ ?_)
                refine b_Rdr_readTerm_65  (s_Rdr_emit hc3 ?_)
                refine b_Rdr_readTerm_70 (by omega) ?_
                exact r' _ _ _ H
              · refine b_Rdr_readTerm_37  (fun c10 => ?_) (fun c10 => absurd c10 (by decide))
                exfalso
                omega
      · clear r' s' ih s3 r2 s2
        have e18 := hJ.2.2.2.2.2.1
        have e13 := hJ.2.2.1.2.2.1
        refine b_M_term_4  (fun c1 => ?_) (fun c1 => ?_)
        · exfalso
          omega
        · refine b_M_term_11  (fun c2 => ?_) (fun c2 => ?_)
          · refine b_M_term_38  (fun c3 => ?_) (fun c3 => ?_)
            · refine b_M_term_52  (fun c4 => ?_) (fun c4 => ?_)
              · refine b_M_term_66  ?_
                refine b_M_term_68  (q_M_next hX hW hJ (by omega) (by omega) (fun J1 hJ1 => ?_))
                refine b_M_term_73  (m2 J0 J1 hJ1 _ (fun J2 hJ2 => ?_))
                refine b_M_term_77  (q_M_puts hX hJ2 hc3 (fun J3 hJ3 => ?_))
                refine b_M_term_82  ?_
                rw [show (30 : Int) = c by omega, ← hv] at hJ3
                exact m' J0 J3 hJ3 _ _ _ H
              · refine b_M_term_61  ?_
                refine b_M_term_68  (q_M_next hX hW hJ (by omega) (by omega) (fun J1 hJ1 => ?_))
                refine b_M_term_73  (m2 J0 J1 hJ1 _ (fun J2 hJ2 => ?_))
                refine b_M_term_77  (q_M_puts hX hJ2 hc3 (fun J3 hJ3 => ?_))
                refine b_M_term_82  ?_
                rw [show (29 : Int) = c by omega, ← hv] at hJ3
                exact m' J0 J3 hJ3 _ _ _ H
            · refine b_M_term_47  ?_
              refine b_M_term_68  (q_M_next hX hW hJ (by omega) (by omega) (fun J1 hJ1 => ?_))
              refine b_M_term_73  (m2 J0 J1 hJ1 _ (fun J2 hJ2 => ?_))
              refine b_M_term_77  (q_M_puts hX hJ2 hc3 (fun J3 hJ3 => ?_))
              refine b_M_term_82  ?_
              rw [show (28 : Int) = c by omega, ← hv] at hJ3
              exact m' J0 J3 hJ3 _ _ _ H
          · refine b_M_term_20  (fun c5 => ?_) (fun c5 => ?_)
            · refine b_M_term_38  (fun c6 => ?_) (fun c6 => ?_)
              · refine b_M_term_52  (fun c7 => ?_) (fun c7 => ?_)
                · refine b_M_term_66  ?_
                  refine b_M_term_68  (q_M_next hX hW hJ (by omega) (by omega) (fun J1 hJ1 => ?_))
                  refine b_M_term_73  (m2 J0 J1 hJ1 _ (fun J2 hJ2 => ?_))
                  refine b_M_term_77  (q_M_puts hX hJ2 hc3 (fun J3 hJ3 => ?_))
                  refine b_M_term_82  ?_
                  rw [show (30 : Int) = c by omega, ← hv] at hJ3
                  exact m' J0 J3 hJ3 _ _ _ H
                · refine b_M_term_61  ?_
                  refine b_M_term_68  (q_M_next hX hW hJ (by omega) (by omega) (fun J1 hJ1 => ?_))
                  refine b_M_term_73  (m2 J0 J1 hJ1 _ (fun J2 hJ2 => ?_))
                  refine b_M_term_77  (q_M_puts hX hJ2 hc3 (fun J3 hJ3 => ?_))
                  refine b_M_term_82  ?_
                  rw [show (29 : Int) = c by omega, ← hv] at hJ3
                  exact m' J0 J3 hJ3 _ _ _ H
              · refine b_M_term_47  ?_
                refine b_M_term_68  (q_M_next hX hW hJ (by omega) (by omega) (fun J1 hJ1 => ?_))
                refine b_M_term_73  (m2 J0 J1 hJ1 _ (fun J2 hJ2 => ?_))
                refine b_M_term_77  (q_M_puts hX hJ2 hc3 (fun J3 hJ3 => ?_))
                refine b_M_term_82  ?_
                rw [show (28 : Int) = c by omega, ← hv] at hJ3
                exact m' J0 J3 hJ3 _ _ _ H
            · refine b_M_term_29  (fun c8 => ?_) (fun c8 => ?_)
              · exfalso
                omega
              · refine b_M_term_38  (fun c9 => ?_) (fun c9 => ?_)
                · refine b_M_term_52  (fun c10 => ?_) (fun c10 => ?_)
                  · refine b_M_term_66  ?_
                    refine b_M_term_68  (q_M_next hX hW hJ (by omega) (by omega) (fun J1 hJ1 => ?_))
                    refine b_M_term_73  (m2 J0 J1 hJ1 _ (fun J2 hJ2 => ?_))
                    refine b_M_term_77  (q_M_puts hX hJ2 hc3 (fun J3 hJ3 => ?_))
                    refine b_M_term_82  ?_
                    rw [show (30 : Int) = c by omega, ← hv] at hJ3
                    exact m' J0 J3 hJ3 _ _ _ H
                  · refine b_M_term_61  ?_
                    refine b_M_term_68  (q_M_next hX hW hJ (by omega) (by omega) (fun J1 hJ1 => ?_))
                    refine b_M_term_73  (m2 J0 J1 hJ1 _ (fun J2 hJ2 => ?_))
                    refine b_M_term_77  (q_M_puts hX hJ2 hc3 (fun J3 hJ3 => ?_))
                    refine b_M_term_82  ?_
                    rw [show (29 : Int) = c by omega, ← hv] at hJ3
                    exact m' J0 J3 hJ3 _ _ _ H
                · refine b_M_term_47  ?_
                  refine b_M_term_68  (q_M_next hX hW hJ (by omega) (by omega) (fun J1 hJ1 => ?_))
                  refine b_M_term_73  (m2 J0 J1 hJ1 _ (fun J2 hJ2 => ?_))
                  refine b_M_term_77  (q_M_puts hX hJ2 hc3 (fun J3 hJ3 => ?_))
                  refine b_M_term_82  ?_
                  rw [show (28 : Int) = c by omega, ← hv] at hJ3
                  exact m' J0 J3 hJ3 _ _ _ H
    · refine ⟨I, G, fun bc bs Q H => ?_, ST_rf hP hf hG hw, fun J0 J hJ bc bs Q H => ?_⟩
      · clear ih
        refine b_Rdr_readTerm_7  (fun c1 => ?_) (fun c1 => ?_)
        · refine b_Rdr_readTerm_76  ?_
          exact H
        · refine b_Rdr_readTerm_13  (s_Rdr_stands (by omega) (fun c2 => ?_) (fun c2 => ?_))
          · refine b_Rdr_readTerm_19  (fun c3 => ?_) (fun c3 => absurd c3 (by decide))
            exfalso
            omega
          · refine b_Rdr_readTerm_19  (fun c4 => absurd c4 (by decide)) (fun c4 => ?_)
            refine b_Rdr_readTerm_22  (s_Rdr_stands (by omega) (fun c5 => ?_) (fun c5 => ?_))
            · refine b_Rdr_readTerm_28  (fun c6 => ?_) (fun c6 => absurd c6 (by decide))
              exfalso
              omega
            · refine b_Rdr_readTerm_28  (fun c7 => absurd c7 (by decide)) (fun c7 => ?_)
              refine b_Rdr_readTerm_31  (s_Rdr_stands (by omega) (fun c8 => ?_) (fun c8 => ?_))
              · refine b_Rdr_readTerm_37  (fun c9 => absurd c9 (by decide)) (fun c9 => ?_)
                exfalso
                omega
              · refine b_Rdr_readTerm_37  (fun c10 => ?_) (fun c10 => absurd c10 (by decide))
                refine b_Rdr_readTerm_76  ?_
                exact H
      · clear ih
        have e18 := hJ.2.2.2.2.2.1
        have e13 := hJ.2.2.1.2.2.1
        refine b_M_term_4  (fun c1 => ?_) (fun c1 => ?_)
        · refine b_M_term_85  ?_
          exact H _ hJ
        · refine b_M_term_11  (fun c2 => ?_) (fun c2 => ?_)
          · exfalso
            omega
          · refine b_M_term_20  (fun c3 => ?_) (fun c3 => ?_)
            · exfalso
              omega
            · refine b_M_term_29  (fun c4 => ?_) (fun c4 => ?_)
              · refine b_M_term_85  ?_
                exact H _ hJ
              · exfalso
                omega
theorem sm_Term {ro : Nat → Int × (Int → Int)} {dc dm : Nat} {b : Bool} {L X : Nat → Int → Int} {op : Int} (hX : CX X) (hW : ∀ k, 0 ≤ k → k < 20 → L 75 k = wdv k) (hs : Sim ro b L X (dc + 1) (dm + 3) 129 205 op) : Sim ro b L X (dc + 2) (dm + 4) 128 204 op := by
  intro I G hP hz hG
  obtain ⟨I1, G1, r1, s1, m1⟩ := hs I G hP hz hG
  have P1 := Pre_c hP s1.1
  have x120 := hX.1
  obtain ⟨I', G', r', s', m'⟩ := ls_Term hX hW hs (c0 := I 45 9) 121 I1 G1 0 P1 s1.1.2.2.2.2.2.2 s1.2.1 ⟨hP.2.2.2.1, s1.1.2.2.2.2.1⟩ s1.2.2.2 (by omega) (by have q := P1.2.1; omega) (by have q := P1.2.1; omega)
  refine ⟨I', G', fun Q H => ?_, ST_tr s1 s', fun J0 J hJ Q H => ?_⟩
  · refine am_in rfl rfl rfl rfl ?_
    refine b_Rdr_readTerm_0  (r1 _ ?_)
    refine b_Rdr_readTerm_5  ?_
    exact r' _ _ _ H
  · refine am_in rfl rfl rfl rfl ?_
    refine b_M_term_0  (m1 J0 J hJ _ (fun J1 hJ1 => ?_))
    exact m' J0 J1 hJ1 _ _ _ H
