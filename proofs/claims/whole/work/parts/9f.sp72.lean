theorem sm_Not {ro : Nat → Int × (Int → Int)} {dc dm : Nat} {b : Bool} {L X : Nat → Int → Int} {op : Int} (hX : CX X) (hW : ∀ k, 0 ≤ k → k < 20 → L 75 k = wdv k) (ho : 0 ≤ op ∧ op ≤ 6) (hN : op < 6 → Sim ro b L X (dc + 1) (dm + 4) 126 202 (op + 1)) (hs : Sim ro b L X (dc + 1) (dm + 4) 127 203 op) : Sim ro b L X (dc + 2) (dm + 5) 126 202 op := by
  intro I G hP hz hG
  obtain ⟨hB, p1, p2, p3, p4⟩ := id hP
  have e47 : I 47 (I 45 5) = X 1 (I 45 5) := by rw [hB.1]
  have x120 := hX.1
  have hlt := CX_lt hX p2
  have hT := (CX_tr hX (a := I 45 5) (by omega) p2).1
  have t0 := tm_not hT
  by_cases st : X 1 (I 45 5) = 1019
  · by_cases o6 : op < 6
    · obtain ⟨I2, G2, r2, s2, m2⟩ := hN o6 (nC I) G (Pre_n hP (by omega)) (nC_f.2.1.trans hz) (CG_n hG)
      obtain ⟨s3, hc3⟩ := ST_un (c := 22) (v := 110) hX hP s2 rfl (by omega)
      refine ⟨_, _, fun Q H => ?_, s3, fun J0 J hJ Q H => ?_⟩
      · clear m2 s3 s2 hs hN
        refine am_in rfl rfl rfl rfl ?_
        refine b_Rdr_readNot_0  (s_Rdr_stands (by omega) (fun c1 => ?_) (fun c1 => ?_))
        · refine b_Rdr_readNot_7  (fun c2 => absurd c2 (by decide)) (fun c2 => ?_)
          refine b_Rdr_readNot_10  (fun c3 => ?_) (fun c3 => ?_)
          · refine b_Rdr_readNot_21 (by omega) (by omega) (r2 _ ?_)
            refine b_Rdr_readNot_38  (s_Rdr_emit hc3 ?_)
            refine b_Rdr_readNot_44  ?_
            exact H
          · exfalso
            omega
        · refine b_Rdr_readNot_7  (fun c4 => ?_) (fun c4 => absurd c4 (by decide))
          exfalso
          omega
      · clear r2 s3 s2 hs hN
        have e18 := hJ.2.2.2.2.2.1
        have e13 := hJ.2.2.1.2.2.1
        refine am_in rfl rfl rfl rfl ?_
        refine b_M_not_0  (fun c1 => ?_) (fun c1 => ?_)
        · refine b_M_not_8  (fun c2 => ?_) (fun c2 => ?_)
          · exfalso
            omega
          · refine b_M_not_17  (q_M_opensOne hX hW hJ hB hz (by omega) (by omega) (fun o1 J1 hJ1 => ?_) (fun o1 J1 hJ1 => by omega))
            refine b_M_not_21  (fun c3 => absurd c3 (by decide)) (fun c3 => ?_)
            refine b_M_not_24  (m2 J0 J1 hJ1 _ (fun J2 hJ2 => ?_))
            refine b_M_not_28  (q_M_puts hX hJ2 hc3 (fun J3 hJ3 => ?_))
            refine b_M_not_34 (by have q := hJ3.2.2.2.1; omega) ?_
            refine b_M_not_44  ?_
            exact H _ (MR_dn hJ3)
        · exfalso
          omega
    · refine ⟨fC I, G, fun Q H => ?_, ST_fl hX hP hz hG, fun J0 J hJ Q H => ?_⟩
      · clear hs hN
        refine am_in rfl rfl rfl rfl ?_
        refine b_Rdr_readNot_0  (s_Rdr_stands (by omega) (fun c1 => ?_) (fun c1 => ?_))
        · refine b_Rdr_readNot_7  (fun c2 => absurd c2 (by decide)) (fun c2 => ?_)
          refine b_Rdr_readNot_10  (fun c3 => ?_) (fun c3 => ?_)
          · exfalso
            omega
          · refine b_Rdr_readNot_16  (s_Rdr_fail (by omega) (fun z1 => ?_) (fun z1 => absurd hz z1))
            refine b_Rdr_readNot_20  ?_
            exact H
        · refine b_Rdr_readNot_7  (fun c4 => ?_) (fun c4 => absurd c4 (by decide))
          exfalso
          omega
      · clear hs hN
        have e18 := hJ.2.2.2.2.2.1
        have e13 := hJ.2.2.1.2.2.1
        refine am_in rfl rfl rfl rfl ?_
        refine b_M_not_0  (fun c1 => ?_) (fun c1 => ?_)
        · refine b_M_not_8  (fun c2 => ?_) (fun c2 => ?_)
          · exfalso
            omega
          · refine b_M_not_17  (q_M_opensOne hX hW hJ hB hz (by omega) (by omega) (fun o1 J1 hJ1 => by omega) (fun o1 J1 hJ1 => ?_))
            refine b_M_not_21  (fun c3 => ?_) (fun c3 => absurd c3 (by decide))
            refine b_M_not_44  ?_
            exact H _ hJ1
        · exfalso
          omega
  · obtain ⟨I1, G1, r1, s1, m1⟩ := hs I G hP hz hG
    have P1 := Pre_c hP s1.1
    obtain ⟨hB1, u1, u2, u3, u4⟩ := id P1
    have e47' : I1 47 (I1 45 5) = X 1 (I1 45 5) := by rw [hB1.1]
    have hlt' := CX_lt hX u2
    have hT' := (CX_tr hX (a := I1 45 5) (by omega) u2).1
    have t1 := tm_s61 hT'
    have t2 := tm_s60 hT'
    have t3 := tm_s62 hT'
    by_cases st1 : I1 45 6 = -1 ∧ (X 1 (I1 45 5) = 61 ∨ X 1 (I1 45 5) = 60 ∨ X 1 (I1 45 5) = 62)
    · obtain ⟨z, s9⟩ := st1
      obtain ⟨c, hc⟩ : ∃ c, (X 1 (I1 45 5) = 61 ∧ c = 23) ∨ (X 1 (I1 45 5) = 60 ∧ c = 24) ∨ (X 1 (I1 45 5) = 62 ∧ c = 25) := by
        rcases s9 with a | a | a
        · exact ⟨23, Or.inl ⟨a, rfl⟩⟩
        · exact ⟨24, Or.inr (Or.inl ⟨a, rfl⟩)⟩
        · exact ⟨25, Or.inr (Or.inr ⟨a, rfl⟩)⟩
      have hv : I1 47 (I1 45 5) = cm c := by
        rcases hc with ⟨a, a2⟩ | ⟨a, a2⟩ | ⟨a, a2⟩ <;> (rw [e47', a, a2]; rfl)
      obtain ⟨I2, G2, r2, s2, m2⟩ := hs (nC I1) G1 (Pre_n P1 (by omega)) (nC_f.2.1.trans z) (CG_n s1.2.1)
      obtain ⟨s3, P3, a3, hc3, d3⟩ := ST_bin hX P1 z (by omega) s2 (s1.2.2.2 z) ⟨p3, s1.1.2.2.2.2.1⟩ hv (by omega)
      refine ⟨_, _, fun Q H => ?_, ST_tr s1 s3, fun J0 J hJ Q H => ?_⟩
      · clear m1 m2 s1 s3 s2 hs hN
        refine am_in rfl rfl rfl rfl ?_
        refine b_Rdr_readNot_0  (s_Rdr_stands (by omega) (fun c1 => ?_) (fun c1 => ?_))
        · refine b_Rdr_readNot_7  (fun c2 => absurd c2 (by decide)) (fun c2 => ?_)
          exfalso
          omega
        · refine b_Rdr_readNot_7  (fun c3 => ?_) (fun c3 => absurd c3 (by decide))
          refine b_Rdr_readNot_45  (r1 _ ?_)
          refine b_Rdr_readNot_50  (s_Rdr_stands (by omega) (fun c4 => ?_) (fun c4 => ?_))
          · refine b_Rdr_readNot_56  (fun c5 => ?_) (fun c5 => absurd c5 (by decide))
            refine b_Rdr_readNot_77 (by omega) (by omega) (r2 _ ?_)
            refine b_Rdr_readNot_102  (s_Rdr_emit hc3 ?_)
            refine b_Rdr_readNot_107  ?_
            exact H
          · refine b_Rdr_readNot_56  (fun c6 => absurd c6 (by decide)) (fun c6 => ?_)
            refine b_Rdr_readNot_59  (s_Rdr_stands (by omega) (fun c7 => ?_) (fun c7 => ?_))
            · refine b_Rdr_readNot_65  (fun c8 => ?_) (fun c8 => absurd c8 (by decide))
              refine b_Rdr_readNot_77 (by omega) (by omega) (r2 _ ?_)
              refine b_Rdr_readNot_102  (s_Rdr_emit hc3 ?_)
              refine b_Rdr_readNot_107  ?_
              exact H
            · refine b_Rdr_readNot_65  (fun c9 => absurd c9 (by decide)) (fun c9 => ?_)
              refine b_Rdr_readNot_68  (s_Rdr_stands (by omega) (fun c10 => ?_) (fun c10 => ?_))
              · refine b_Rdr_readNot_74  (fun c11 => absurd c11 (by decide)) (fun c11 => ?_)
                refine b_Rdr_readNot_77 (by omega) (by omega) (r2 _ ?_)
                refine b_Rdr_readNot_102  (s_Rdr_emit hc3 ?_)
                refine b_Rdr_readNot_107  ?_
                exact H
              · refine b_Rdr_readNot_74  (fun c12 => ?_) (fun c12 => absurd c12 (by decide))
                refine b_Rdr_readNot_107  ?_
                exfalso
                omega
      · clear r1 r2 s1 s3 s2 hs hN
        have e18 := hJ.2.2.2.2.2.1
        have e13 := hJ.2.2.1.2.2.1
        refine am_in rfl rfl rfl rfl ?_
        refine b_M_not_0  (fun c1 => ?_) (fun c1 => ?_)
        · refine b_M_not_8  (fun c2 => ?_) (fun c2 => ?_)
          · refine b_M_not_45  (m1 J0 J hJ _ (fun J1 hJ1 => ?_))
            have e18 := hJ1.2.2.2.2.2.1
            have e13 := hJ1.2.2.1.2.2.1
            refine b_M_not_49  (fun c3 => ?_) (fun c3 => ?_)
            · refine b_M_not_127  ?_
              exfalso
              omega
            · refine b_M_not_56  (fun c4 => ?_) (fun c4 => ?_)
              · refine b_M_not_83  (fun c5 => ?_) (fun c5 => ?_)
                · refine b_M_not_97  (fun c6 => ?_) (fun c6 => ?_)
                  · refine b_M_not_111  ?_
                    refine b_M_not_113  (q_M_next hX hW hJ1 (by omega) (by omega) (fun J2 hJ2 => ?_))
                    refine b_M_not_118  (m2 J0 J2 hJ2 _ (fun J3 hJ3 => ?_))
                    refine b_M_not_122  (q_M_puts hX hJ3 hc3 (fun J4 hJ4 => ?_))
                    refine b_M_not_127  ?_
                    rw [show (25 : Int) = c by omega, ← hv] at hJ4
                    exact H _ hJ4
                  · refine b_M_not_106  ?_
                    refine b_M_not_113  (q_M_next hX hW hJ1 (by omega) (by omega) (fun J2 hJ2 => ?_))
                    refine b_M_not_118  (m2 J0 J2 hJ2 _ (fun J3 hJ3 => ?_))
                    refine b_M_not_122  (q_M_puts hX hJ3 hc3 (fun J4 hJ4 => ?_))
                    refine b_M_not_127  ?_
                    rw [show (24 : Int) = c by omega, ← hv] at hJ4
                    exact H _ hJ4
                · refine b_M_not_92  ?_
                  refine b_M_not_113  (q_M_next hX hW hJ1 (by omega) (by omega) (fun J2 hJ2 => ?_))
                  refine b_M_not_118  (m2 J0 J2 hJ2 _ (fun J3 hJ3 => ?_))
                  refine b_M_not_122  (q_M_puts hX hJ3 hc3 (fun J4 hJ4 => ?_))
                  refine b_M_not_127  ?_
                  rw [show (23 : Int) = c by omega, ← hv] at hJ4
                  exact H _ hJ4
              · refine b_M_not_65  (fun c7 => ?_) (fun c7 => ?_)
                · refine b_M_not_83  (fun c8 => ?_) (fun c8 => ?_)
                  · refine b_M_not_97  (fun c9 => ?_) (fun c9 => ?_)
                    · refine b_M_not_111  ?_
                      refine b_M_not_113  (q_M_next hX hW hJ1 (by omega) (by omega) (fun J2 hJ2 => ?_))
                      refine b_M_not_118  (m2 J0 J2 hJ2 _ (fun J3 hJ3 => ?_))
                      refine b_M_not_122  (q_M_puts hX hJ3 hc3 (fun J4 hJ4 => ?_))
                      refine b_M_not_127  ?_
                      rw [show (25 : Int) = c by omega, ← hv] at hJ4
                      exact H _ hJ4
                    · refine b_M_not_106  ?_
                      refine b_M_not_113  (q_M_next hX hW hJ1 (by omega) (by omega) (fun J2 hJ2 => ?_))
                      refine b_M_not_118  (m2 J0 J2 hJ2 _ (fun J3 hJ3 => ?_))
                      refine b_M_not_122  (q_M_puts hX hJ3 hc3 (fun J4 hJ4 => ?_))
                      refine b_M_not_127  ?_
                      rw [show (24 : Int) = c by omega, ← hv] at hJ4
                      exact H _ hJ4
                  · refine b_M_not_92  ?_
                    refine b_M_not_113  (q_M_next hX hW hJ1 (by omega) (by omega) (fun J2 hJ2 => ?_))
                    refine b_M_not_118  (m2 J0 J2 hJ2 _ (fun J3 hJ3 => ?_))
                    refine b_M_not_122  (q_M_puts hX hJ3 hc3 (fun J4 hJ4 => ?_))
                    refine b_M_not_127  ?_
                    rw [show (23 : Int) = c by omega, ← hv] at hJ4
                    exact H _ hJ4
                · refine b_M_not_74  (fun c10 => ?_) (fun c10 => ?_)
                  · refine b_M_not_127  ?_
                    exfalso
                    omega
                  · refine b_M_not_83  (fun c11 => ?_) (fun c11 => ?_)
                    · refine b_M_not_97  (fun c12 => ?_) (fun c12 => ?_)
                      · refine b_M_not_111  ?_
                        refine b_M_not_113  (q_M_next hX hW hJ1 (by omega) (by omega) (fun J2 hJ2 => ?_))
                        refine b_M_not_118  (m2 J0 J2 hJ2 _ (fun J3 hJ3 => ?_))
                        refine b_M_not_122  (q_M_puts hX hJ3 hc3 (fun J4 hJ4 => ?_))
                        refine b_M_not_127  ?_
                        rw [show (25 : Int) = c by omega, ← hv] at hJ4
                        exact H _ hJ4
                      · refine b_M_not_106  ?_
                        refine b_M_not_113  (q_M_next hX hW hJ1 (by omega) (by omega) (fun J2 hJ2 => ?_))
                        refine b_M_not_118  (m2 J0 J2 hJ2 _ (fun J3 hJ3 => ?_))
                        refine b_M_not_122  (q_M_puts hX hJ3 hc3 (fun J4 hJ4 => ?_))
                        refine b_M_not_127  ?_
                        rw [show (24 : Int) = c by omega, ← hv] at hJ4
                        exact H _ hJ4
                    · refine b_M_not_92  ?_
                      refine b_M_not_113  (q_M_next hX hW hJ1 (by omega) (by omega) (fun J2 hJ2 => ?_))
                      refine b_M_not_118  (m2 J0 J2 hJ2 _ (fun J3 hJ3 => ?_))
                      refine b_M_not_122  (q_M_puts hX hJ3 hc3 (fun J4 hJ4 => ?_))
                      refine b_M_not_127  ?_
                      rw [show (23 : Int) = c by omega, ← hv] at hJ4
                      exact H _ hJ4
          · exfalso
            omega
        · exfalso
          omega
    · refine ⟨I1, G1, fun Q H => ?_, s1, fun J0 J hJ Q H => ?_⟩
      · clear m1 s1 hs hN
        refine am_in rfl rfl rfl rfl ?_
        refine b_Rdr_readNot_0  (s_Rdr_stands (by omega) (fun c1 => ?_) (fun c1 => ?_))
        · refine b_Rdr_readNot_7  (fun c2 => absurd c2 (by decide)) (fun c2 => ?_)
          exfalso
          omega
        · refine b_Rdr_readNot_7  (fun c3 => ?_) (fun c3 => absurd c3 (by decide))
          refine b_Rdr_readNot_45  (r1 _ ?_)
          refine b_Rdr_readNot_50  (s_Rdr_stands (by omega) (fun c4 => ?_) (fun c4 => ?_))
          · refine b_Rdr_readNot_56  (fun c5 => ?_) (fun c5 => absurd c5 (by decide))
            exfalso
            omega
          · refine b_Rdr_readNot_56  (fun c6 => absurd c6 (by decide)) (fun c6 => ?_)
            refine b_Rdr_readNot_59  (s_Rdr_stands (by omega) (fun c7 => ?_) (fun c7 => ?_))
            · refine b_Rdr_readNot_65  (fun c8 => ?_) (fun c8 => absurd c8 (by decide))
              exfalso
              omega
            · refine b_Rdr_readNot_65  (fun c9 => absurd c9 (by decide)) (fun c9 => ?_)
              refine b_Rdr_readNot_68  (s_Rdr_stands (by omega) (fun c10 => ?_) (fun c10 => ?_))
              · refine b_Rdr_readNot_74  (fun c11 => absurd c11 (by decide)) (fun c11 => ?_)
                exfalso
                omega
              · refine b_Rdr_readNot_74  (fun c12 => ?_) (fun c12 => absurd c12 (by decide))
                refine b_Rdr_readNot_107  ?_
                exact H
      · clear r1 s1 hs hN
        have e18 := hJ.2.2.2.2.2.1
        have e13 := hJ.2.2.1.2.2.1
        refine am_in rfl rfl rfl rfl ?_
        refine b_M_not_0  (fun c1 => ?_) (fun c1 => ?_)
        · refine b_M_not_8  (fun c2 => ?_) (fun c2 => ?_)
          · refine b_M_not_45  (m1 J0 J hJ _ (fun J1 hJ1 => ?_))
            have e18 := hJ1.2.2.2.2.2.1
            have e13 := hJ1.2.2.1.2.2.1
            refine b_M_not_49  (fun c3 => ?_) (fun c3 => ?_)
            · refine b_M_not_127  ?_
              exact H _ hJ1
            · refine b_M_not_56  (fun c4 => ?_) (fun c4 => ?_)
              · exfalso
                omega
              · refine b_M_not_65  (fun c5 => ?_) (fun c5 => ?_)
                · exfalso
                  omega
                · refine b_M_not_74  (fun c6 => ?_) (fun c6 => ?_)
                  · refine b_M_not_127  ?_
                    exact H _ hJ1
                  · exfalso
                    omega
          · exfalso
            omega
        · exfalso
          omega
theorem sm_One {ro : Nat → Int × (Int → Int)} {dc dm : Nat} {b : Bool} {L X : Nat → Int → Int} {op : Int} (hX : CX X) (hW : ∀ k, 0 ≤ k → k < 20 → L 75 k = wdv k) (ho : 0 ≤ op ∧ op ≤ 6) (hO : op < 6 → Sim ro b L X (dc + 1) (dm + 4) 129 205 (op + 1)) (hE : op < 6 → Sim ro b L X (dc + 1) (dm + 4) 124 200 (op + 1)) : Sim ro b L X (dc + 2) (dm + 5) 129 205 op := by
  intro I G hP hz hG
  obtain ⟨hB, p1, p2, p3, p4⟩ := id hP
  have e47 : I 47 (I 45 5) = X 1 (I 45 5) := by rw [hB.1]
  have x120 := hX.1
  have hlt := CX_lt hX p2
  have hT := (CX_tr hX (a := I 45 5) (by omega) p2).1
  have hV := (CX_tr hX (a := I 45 5) (by omega) p2).2
  have e49 : I 49 (I 45 5) = X 3 (I 45 5) := by rw [hB.2.2]
  have t0 := tm_num hT
  have t1 := tm_nam hT
  have t2 := tm_s45 hT
  have t3 := tm_s40 hT
  by_cases st1 : X 1 (I 45 5) = 2
  · have hv := hV st1
    obtain ⟨c, hc⟩ : ∃ c, c = 100 + X 3 (I 45 5) := ⟨_, rfl⟩
    have hv : 2000 + I 49 (I 45 5) = cm c := by
      unfold cm
      rw [if_pos (by omega)]
      omega
    obtain ⟨s3, hc3, q5, q6⟩ := ST_lt hX hP hz hG (by omega) hv (by omega)
    refine ⟨_, _, fun Q H => ?_, s3, fun J0 J hJ Q H => ?_⟩
    · clear s3 hE hO
      refine am_in rfl rfl rfl rfl ?_
      refine b_Rdr_readOne_0  (fun c1 => ?_) (fun c1 => ?_)
      · refine b_Rdr_readOne_9 (by omega) (fun c2 => ?_) (fun c2 => ?_)
        · exfalso
          omega
        · refine b_Rdr_readOne_24 (by omega) (by omega) (s_Rdr_emit hc3 ?_)
          refine b_Rdr_readOne_41 (by rw [q5]; omega) ?_
          refine b_Rdr_readOne_193  ?_
          exact H
      · exfalso
        omega
    · clear s3 hE hO
      have e14 := hJ.2.2.1.2.2.2 (by omega)
      have ev : vm (X 1 (I 45 5)) (X 3 (I 45 5)) = X 3 (I 45 5) := by
        unfold vm
        rw [if_pos st1]
      have e18 := hJ.2.2.2.2.2.1
      have e13 := hJ.2.2.1.2.2.1
      refine am_in rfl rfl rfl rfl ?_
      refine b_M_one_0  (fun c1 => ?_) (fun c1 => ?_)
      · refine b_M_one_8  (fun c2 => ?_) (fun c2 => ?_)
        · refine b_M_one_24  (fun c3 => ?_) (fun c3 => ?_)
          · exfalso
            omega
          · refine b_M_one_33 (by omega) ?_
            refine b_M_one_47  (q_M_puts hX hJ hc3 (fun J1 hJ1 => ?_))
            rw [show (100 + (J 66 14)) = c by omega, ← hv] at hJ1
            refine b_M_one_50  (q_M_next hX hW hJ1 (by rw [q5]; omega) (by rw [q5]; omega) (fun J2 hJ2 => ?_))
            refine b_M_one_54  ?_
            refine b_M_one_128  ?_
            exact H _ hJ2
        · refine b_M_one_16  (fun c4 => ?_) (fun c4 => ?_)
          · exfalso
            omega
          · refine b_M_one_24  (fun c5 => ?_) (fun c5 => ?_)
            · exfalso
              omega
            · refine b_M_one_33 (by omega) ?_
              refine b_M_one_47  (q_M_puts hX hJ hc3 (fun J1 hJ1 => ?_))
              rw [show (100 + (J 66 14)) = c by omega, ← hv] at hJ1
              refine b_M_one_50  (q_M_next hX hW hJ1 (by rw [q5]; omega) (by rw [q5]; omega) (fun J2 hJ2 => ?_))
              refine b_M_one_54  ?_
              refine b_M_one_128  ?_
              exact H _ hJ2
      · exfalso
        omega
  · by_cases st2 : 1006 ≤ X 1 (I 45 5) ∧ X 1 (I 45 5) ≤ 1015
    · obtain ⟨c, hc⟩ : ∃ c, c = X 1 (I 45 5) - 1006 := ⟨_, rfl⟩
      have hv : 1000 + I 47 (I 45 5) - 1006 = cm c := by
        unfold cm
        rw [if_neg (by omega), if_pos (by omega)]
        omega
      obtain ⟨s3, hc3, q5, q6⟩ := ST_lt hX hP hz hG (by omega) hv (by omega)
      refine ⟨_, _, fun Q H => ?_, s3, fun J0 J hJ Q H => ?_⟩
      · clear s3 hE hO
        refine am_in rfl rfl rfl rfl ?_
        refine b_Rdr_readOne_0  (fun c1 => ?_) (fun c1 => ?_)
        · refine b_Rdr_readOne_9 (by omega) (fun c2 => ?_) (fun c2 => ?_)
          · refine b_Rdr_readOne_54  (s_P_within (fun c3 => ?_) (fun c3 => ?_))
            · refine b_Rdr_readOne_64  (fun c4 => absurd c4 (by decide)) (fun c4 => ?_)
              refine b_Rdr_readOne_67 (by omega) (by omega) (s_Rdr_emit hc3 ?_)
              refine b_Rdr_readOne_80 (by rw [q5]; omega) ?_
              refine b_Rdr_readOne_193  ?_
              exact H
            · refine b_Rdr_readOne_64  (fun c5 => ?_) (fun c5 => absurd c5 (by decide))
              exfalso
              omega
          · exfalso
            omega
        · exfalso
          omega
      · clear s3 hE hO
        have e14 := hJ.2.2.1.2.2.2 (by omega)
        have ev : vm (X 1 (I 45 5)) (X 3 (I 45 5)) = X 1 (I 45 5) - 1006 := by
          unfold vm
          rw [if_neg st1, if_neg (by omega)]
        have e18 := hJ.2.2.2.2.2.1
        have e13 := hJ.2.2.1.2.2.1
        refine am_in rfl rfl rfl rfl ?_
        refine b_M_one_0  (fun c1 => ?_) (fun c1 => ?_)
        · refine b_M_one_8  (fun c2 => ?_) (fun c2 => ?_)
          · refine b_M_one_24  (fun c3 => ?_) (fun c3 => ?_)
            · refine b_M_one_43  ?_
              refine b_M_one_47  (q_M_puts hX hJ hc3 (fun J1 hJ1 => ?_))
              rw [show (J 66 14) = c by omega, ← hv] at hJ1
              refine b_M_one_50  (q_M_next hX hW hJ1 (by rw [q5]; omega) (by rw [q5]; omega) (fun J2 hJ2 => ?_))
              refine b_M_one_54  ?_
              refine b_M_one_128  ?_
              exact H _ hJ2
            · exfalso
              omega
          · refine b_M_one_16  (fun c4 => ?_) (fun c4 => ?_)
            · exfalso
              omega
            · refine b_M_one_24  (fun c5 => ?_) (fun c5 => ?_)
              · refine b_M_one_43  ?_
                refine b_M_one_47  (q_M_puts hX hJ hc3 (fun J1 hJ1 => ?_))
                rw [show (J 66 14) = c by omega, ← hv] at hJ1
                refine b_M_one_50  (q_M_next hX hW hJ1 (by rw [q5]; omega) (by rw [q5]; omega) (fun J2 hJ2 => ?_))
                refine b_M_one_54  ?_
                refine b_M_one_128  ?_
                exact H _ hJ2
              · exfalso
                omega
        · exfalso
          omega
    · by_cases st3 : op < 6 ∧ (X 1 (I 45 5) = 45 ∨ X 1 (I 45 5) = 40)
      · obtain ⟨o6, st3⟩ := st3
        by_cases st4 : X 1 (I 45 5) = 45
        · obtain ⟨I2, G2, r2, s2, m2⟩ := hO o6 (nC I) G (Pre_n hP (by omega)) (nC_f.2.1.trans hz) (CG_n hG)
          obtain ⟨s3, hc3⟩ := ST_un (c := 31) (v := 109) hX hP s2 rfl (by omega)
          refine ⟨_, _, fun Q H => ?_, s3, fun J0 J hJ Q H => ?_⟩
          · clear m2 s3 s2 hE hO
            refine am_in rfl rfl rfl rfl ?_
            refine b_Rdr_readOne_0  (fun c1 => ?_) (fun c1 => ?_)
            · refine b_Rdr_readOne_9 (by omega) (fun c2 => ?_) (fun c2 => ?_)
              · refine b_Rdr_readOne_54  (s_P_within (fun c3 => ?_) (fun c3 => ?_))
                · refine b_Rdr_readOne_64  (fun c4 => absurd c4 (by decide)) (fun c4 => ?_)
                  exfalso
                  omega
                · refine b_Rdr_readOne_64  (fun c5 => ?_) (fun c5 => absurd c5 (by decide))
                  refine b_Rdr_readOne_93  (fun c6 => ?_) (fun c6 => ?_)
                  · exfalso
                    omega
                  · refine b_Rdr_readOne_99  (fun c7 => ?_) (fun c7 => ?_)
                    · exfalso
                      omega
                    · refine b_Rdr_readOne_105 (by omega) (by omega) (r2 _ ?_)
                      refine b_Rdr_readOne_122  (s_Rdr_emit hc3 ?_)
                      refine b_Rdr_readOne_128  ?_
                      refine b_Rdr_readOne_193  ?_
                      exact H
              · exfalso
                omega
            · exfalso
              omega
          · clear r2 s3 s2 hE hO
            have e18 := hJ.2.2.2.2.2.1
            have e13 := hJ.2.2.1.2.2.1
            refine am_in rfl rfl rfl rfl ?_
            refine b_M_one_0  (fun c1 => ?_) (fun c1 => ?_)
            · refine b_M_one_8  (fun c2 => ?_) (fun c2 => ?_)
              · exfalso
                omega
              · refine b_M_one_16  (fun c3 => ?_) (fun c3 => ?_)
                · refine b_M_one_57  (fun c4 => ?_) (fun c4 => ?_)
                  · exfalso
                    omega
                  · refine b_M_one_66  (q_M_opensOne hX hW hJ hB hz (by omega) (by omega) (fun o1 J1 hJ1 => ?_) (fun o1 J1 hJ1 => by omega))
                    refine b_M_one_70  (fun c5 => absurd c5 (by decide)) (fun c5 => ?_)
                    refine b_M_one_73  (m2 J0 J1 hJ1 _ (fun J2 hJ2 => ?_))
                    refine b_M_one_77  (q_M_puts hX hJ2 hc3 (fun J3 hJ3 => ?_))
                    refine b_M_one_83 (by have q := hJ3.2.2.2.1; omega) ?_
                    refine b_M_one_128  ?_
                    exact H _ (MR_dn hJ3)
                · exfalso
                  omega
            · exfalso
              omega
        · obtain ⟨I2, G2, r2, s2, m2⟩ := hE o6 (nC I) G (Pre_n hP (by omega)) (nC_f.2.1.trans hz) (CG_n hG)
          rw [(nC_f (I := I)).2.2.1] at s2
          have s3 := ST_n s2
          have P2 := Pre_c hP s3.1
          obtain ⟨hB2, u1, u2, u3, u4⟩ := id P2
          have e47' : I2 47 (I2 45 5) = X 1 (I2 45 5) := by rw [hB2.1]
          have hlt' := CX_lt hX u2
          by_cases z2 : I2 45 6 = -1
          · by_cases t41 : X 1 (I2 45 5) = 41
            · refine ⟨nC I2, G2, fun Q H => ?_, ST_n2 s3 z2 (by omega), fun J0 J hJ Q H => ?_⟩
              · clear m2 s3 s2 hE hO
                refine am_in rfl rfl rfl rfl ?_
                refine b_Rdr_readOne_0  (fun c1 => ?_) (fun c1 => ?_)
                · refine b_Rdr_readOne_9 (by omega) (fun c2 => ?_) (fun c2 => ?_)
                  · refine b_Rdr_readOne_54  (s_P_within (fun c3 => ?_) (fun c3 => ?_))
                    · refine b_Rdr_readOne_64  (fun c4 => absurd c4 (by decide)) (fun c4 => ?_)
                      exfalso
                      omega
                    · refine b_Rdr_readOne_64  (fun c5 => ?_) (fun c5 => absurd c5 (by decide))
                      refine b_Rdr_readOne_93  (fun c6 => ?_) (fun c6 => ?_)
                      · refine b_Rdr_readOne_131  (fun c7 => ?_) (fun c7 => ?_)
                        · exfalso
                          omega
                        · refine b_Rdr_readOne_137  (fun c8 => ?_) (fun c8 => ?_)
                          · exfalso
                            omega
                          · refine b_Rdr_readOne_143 (by omega) (by omega) (r2 _ ?_)
                            refine b_Rdr_readOne_160  (s_Rdr_stands (by omega) (fun c9 => ?_) (fun c9 => ?_))
                            · refine b_Rdr_readOne_166  (fun c10 => absurd c10 (by decide)) (fun c10 => ?_)
                              refine b_Rdr_readOne_169 (by omega) ?_
                              refine b_Rdr_readOne_193  ?_
                              exact H
                            · refine b_Rdr_readOne_166  (fun c11 => ?_) (fun c11 => absurd c11 (by decide))
                              refine b_Rdr_readOne_182  (s_Rdr_fail (by omega) (fun z1 => ?_) (fun z1 => ?_))
                              · refine b_Rdr_readOne_186  ?_
                                refine b_Rdr_readOne_193  ?_
                                exfalso
                                omega
                              · refine b_Rdr_readOne_186  ?_
                                refine b_Rdr_readOne_193  ?_
                                exfalso
                                omega
                      · refine b_Rdr_readOne_99  (fun c12 => ?_) (fun c12 => ?_)
                        · refine b_Rdr_readOne_131  (fun c13 => ?_) (fun c13 => ?_)
                          · exfalso
                            omega
                          · refine b_Rdr_readOne_137  (fun c14 => ?_) (fun c14 => ?_)
                            · exfalso
                              omega
                            · refine b_Rdr_readOne_143 (by omega) (by omega) (r2 _ ?_)
                              refine b_Rdr_readOne_160  (s_Rdr_stands (by omega) (fun c15 => ?_) (fun c15 => ?_))
                              · refine b_Rdr_readOne_166  (fun c16 => absurd c16 (by decide)) (fun c16 => ?_)
                                refine b_Rdr_readOne_169 (by omega) ?_
                                refine b_Rdr_readOne_193  ?_
                                exact H
                              · refine b_Rdr_readOne_166  (fun c17 => ?_) (fun c17 => absurd c17 (by decide))
                                refine b_Rdr_readOne_182  (s_Rdr_fail (by omega) (fun z1 => ?_) (fun z1 => ?_))
                                · refine b_Rdr_readOne_186  ?_
                                  refine b_Rdr_readOne_193  ?_
                                  exfalso
                                  omega
                                · refine b_Rdr_readOne_186  ?_
                                  refine b_Rdr_readOne_193  ?_
                                  exfalso
                                  omega
                        · exfalso
                          omega
                  · exfalso
                    omega
                · exfalso
                  omega
              · clear r2 s3 s2 hE hO
                have e18 := hJ.2.2.2.2.2.1
                have e13 := hJ.2.2.1.2.2.1
                refine am_in rfl rfl rfl rfl ?_
                refine b_M_one_0  (fun c1 => ?_) (fun c1 => ?_)
                · refine b_M_one_8  (fun c2 => ?_) (fun c2 => ?_)
                  · exfalso
                    omega
                  · refine b_M_one_16  (fun c3 => ?_) (fun c3 => ?_)
                    · refine b_M_one_57  (fun c4 => ?_) (fun c4 => ?_)
                      · refine b_M_one_96  (fun c5 => ?_) (fun c5 => ?_)
                        · exfalso
                          omega
                        · refine b_M_one_105  (q_M_opensOne hX hW hJ hB hz (by omega) (by omega) (fun o1 J1 hJ1 => ?_) (fun o1 J1 hJ1 => by omega))
                          refine b_M_one_109  (fun c6 => absurd c6 (by decide)) (fun c6 => ?_)
                          refine b_M_one_112  (m2 J0 J1 hJ1 _ (fun J2 hJ2 => ?_))
                          refine b_M_one_116  (q_M_closes hX hW hJ2 hB2 (by omega) (by omega) hJ2.2.2.1.2.2.1 hJ2.2.2.2.2.2.1 (fun y1 y2 J3 hJ3 => ?_) (fun y1 y2 => absurd t41 y2) (fun y1 => absurd z2 y1))
                          refine b_M_one_120  ?_
                          refine b_M_one_128  ?_
                          exact H _ hJ3
                      · exfalso
                        omega
                    · exfalso
                      omega
                · exfalso
                  omega
            · refine ⟨fC I2, G2, fun Q H => ?_, ST_f hX hP s3, fun J0 J hJ Q H => ?_⟩
              · clear m2 s3 s2 hE hO
                refine am_in rfl rfl rfl rfl ?_
                refine b_Rdr_readOne_0  (fun c1 => ?_) (fun c1 => ?_)
                · refine b_Rdr_readOne_9 (by omega) (fun c2 => ?_) (fun c2 => ?_)
                  · refine b_Rdr_readOne_54  (s_P_within (fun c3 => ?_) (fun c3 => ?_))
                    · refine b_Rdr_readOne_64  (fun c4 => absurd c4 (by decide)) (fun c4 => ?_)
                      exfalso
                      omega
                    · refine b_Rdr_readOne_64  (fun c5 => ?_) (fun c5 => absurd c5 (by decide))
                      refine b_Rdr_readOne_93  (fun c6 => ?_) (fun c6 => ?_)
                      · refine b_Rdr_readOne_131  (fun c7 => ?_) (fun c7 => ?_)
                        · exfalso
                          omega
                        · refine b_Rdr_readOne_137  (fun c8 => ?_) (fun c8 => ?_)
                          · exfalso
                            omega
                          · refine b_Rdr_readOne_143 (by omega) (by omega) (r2 _ ?_)
                            refine b_Rdr_readOne_160  (s_Rdr_stands (by omega) (fun c9 => ?_) (fun c9 => ?_))
                            · refine b_Rdr_readOne_166  (fun c10 => absurd c10 (by decide)) (fun c10 => ?_)
                              refine b_Rdr_readOne_169 (by omega) ?_
                              refine b_Rdr_readOne_193  ?_
                              exfalso
                              omega
                            · refine b_Rdr_readOne_166  (fun c11 => ?_) (fun c11 => absurd c11 (by decide))
                              refine b_Rdr_readOne_182  (s_Rdr_fail (by omega) (fun z1 => ?_) (fun z1 => ?_))
                              · refine b_Rdr_readOne_186  ?_
                                refine b_Rdr_readOne_193  ?_
                                exact H
                              · refine b_Rdr_readOne_186  ?_
                                refine b_Rdr_readOne_193  ?_
                                exfalso
                                omega
                      · refine b_Rdr_readOne_99  (fun c12 => ?_) (fun c12 => ?_)
                        · refine b_Rdr_readOne_131  (fun c13 => ?_) (fun c13 => ?_)
                          · exfalso
                            omega
                          · refine b_Rdr_readOne_137  (fun c14 => ?_) (fun c14 => ?_)
                            · exfalso
                              omega
                            · refine b_Rdr_readOne_143 (by omega) (by omega) (r2 _ ?_)
                              refine b_Rdr_readOne_160  (s_Rdr_stands (by omega) (fun c15 => ?_) (fun c15 => ?_))
                              · refine b_Rdr_readOne_166  (fun c16 => absurd c16 (by decide)) (fun c16 => ?_)
                                refine b_Rdr_readOne_169 (by omega) ?_
                                refine b_Rdr_readOne_193  ?_
                                exfalso
                                omega
                              · refine b_Rdr_readOne_166  (fun c17 => ?_) (fun c17 => absurd c17 (by decide))
                                refine b_Rdr_readOne_182  (s_Rdr_fail (by omega) (fun z1 => ?_) (fun z1 => ?_))
                                · refine b_Rdr_readOne_186  ?_
                                  refine b_Rdr_readOne_193  ?_
                                  exact H
                                · refine b_Rdr_readOne_186  ?_
                                  refine b_Rdr_readOne_193  ?_
                                  exfalso
                                  omega
                        · exfalso
                          omega
                  · exfalso
                    omega
                · exfalso
                  omega
              · clear r2 s3 s2 hE hO
                have e18 := hJ.2.2.2.2.2.1
                have e13 := hJ.2.2.1.2.2.1
                refine am_in rfl rfl rfl rfl ?_
                refine b_M_one_0  (fun c1 => ?_) (fun c1 => ?_)
                · refine b_M_one_8  (fun c2 => ?_) (fun c2 => ?_)
                  · exfalso
                    omega
                  · refine b_M_one_16  (fun c3 => ?_) (fun c3 => ?_)
                    · refine b_M_one_57  (fun c4 => ?_) (fun c4 => ?_)
                      · refine b_M_one_96  (fun c5 => ?_) (fun c5 => ?_)
                        · exfalso
                          omega
                        · refine b_M_one_105  (q_M_opensOne hX hW hJ hB hz (by omega) (by omega) (fun o1 J1 hJ1 => ?_) (fun o1 J1 hJ1 => by omega))
                          refine b_M_one_109  (fun c6 => absurd c6 (by decide)) (fun c6 => ?_)
                          refine b_M_one_112  (m2 J0 J1 hJ1 _ (fun J2 hJ2 => ?_))
                          refine b_M_one_116  (q_M_closes hX hW hJ2 hB2 (by omega) (by omega) hJ2.2.2.1.2.2.1 hJ2.2.2.2.2.2.1 (fun y1 y2 => absurd y2 t41) (fun y1 y2 J3 hJ3 => ?_) (fun y1 => absurd z2 y1))
                          refine b_M_one_120  ?_
                          refine b_M_one_128  ?_
                          exact H _ hJ3
                      · exfalso
                        omega
                    · exfalso
                      omega
                · exfalso
                  omega
          · refine ⟨I2, G2, fun Q H => ?_, s3, fun J0 J hJ Q H => ?_⟩
            · clear m2 s3 s2 hE hO
              refine am_in rfl rfl rfl rfl ?_
              refine b_Rdr_readOne_0  (fun c1 => ?_) (fun c1 => ?_)
              · refine b_Rdr_readOne_9 (by omega) (fun c2 => ?_) (fun c2 => ?_)
                · refine b_Rdr_readOne_54  (s_P_within (fun c3 => ?_) (fun c3 => ?_))
                  · refine b_Rdr_readOne_64  (fun c4 => absurd c4 (by decide)) (fun c4 => ?_)
                    exfalso
                    omega
                  · refine b_Rdr_readOne_64  (fun c5 => ?_) (fun c5 => absurd c5 (by decide))
                    refine b_Rdr_readOne_93  (fun c6 => ?_) (fun c6 => ?_)
                    · refine b_Rdr_readOne_131  (fun c7 => ?_) (fun c7 => ?_)
                      · exfalso
                        omega
                      · refine b_Rdr_readOne_137  (fun c8 => ?_) (fun c8 => ?_)
                        · exfalso
                          omega
                        · refine b_Rdr_readOne_143 (by omega) (by omega) (r2 _ ?_)
                          refine b_Rdr_readOne_160  (s_Rdr_stands (by omega) (fun c9 => ?_) (fun c9 => ?_))
                          · refine b_Rdr_readOne_166  (fun c10 => absurd c10 (by decide)) (fun c10 => ?_)
                            refine b_Rdr_readOne_169 (by omega) ?_
                            refine b_Rdr_readOne_193  ?_
                            exfalso
                            omega
                          · refine b_Rdr_readOne_166  (fun c11 => ?_) (fun c11 => absurd c11 (by decide))
                            refine b_Rdr_readOne_182  (s_Rdr_fail (by omega) (fun z1 => ?_) (fun z1 => ?_))
                            · refine b_Rdr_readOne_186  ?_
                              refine b_Rdr_readOne_193  ?_
                              exfalso
                              omega
                            · refine b_Rdr_readOne_186  ?_
                              refine b_Rdr_readOne_193  ?_
                              exact H
                    · refine b_Rdr_readOne_99  (fun c12 => ?_) (fun c12 => ?_)
                      · refine b_Rdr_readOne_131  (fun c13 => ?_) (fun c13 => ?_)
                        · exfalso
                          omega
                        · refine b_Rdr_readOne_137  (fun c14 => ?_) (fun c14 => ?_)
                          · exfalso
                            omega
                          · refine b_Rdr_readOne_143 (by omega) (by omega) (r2 _ ?_)
                            refine b_Rdr_readOne_160  (s_Rdr_stands (by omega) (fun c15 => ?_) (fun c15 => ?_))
                            · refine b_Rdr_readOne_166  (fun c16 => absurd c16 (by decide)) (fun c16 => ?_)
                              refine b_Rdr_readOne_169 (by omega) ?_
                              refine b_Rdr_readOne_193  ?_
                              exfalso
                              omega
                            · refine b_Rdr_readOne_166  (fun c17 => ?_) (fun c17 => absurd c17 (by decide))
                              refine b_Rdr_readOne_182  (s_Rdr_fail (by omega) (fun z1 => ?_) (fun z1 => ?_))
                              · refine b_Rdr_readOne_186  ?_
                                refine b_Rdr_readOne_193  ?_
                                exfalso
                                omega
                              · refine b_Rdr_readOne_186  ?_
                                refine b_Rdr_readOne_193  ?_
                                exact H
                      · exfalso
                        omega
                · exfalso
                  omega
              · exfalso
                omega
            · clear r2 s3 s2 hE hO
              have e18 := hJ.2.2.2.2.2.1
              have e13 := hJ.2.2.1.2.2.1
              refine am_in rfl rfl rfl rfl ?_
              refine b_M_one_0  (fun c1 => ?_) (fun c1 => ?_)
              · refine b_M_one_8  (fun c2 => ?_) (fun c2 => ?_)
                · exfalso
                  omega
                · refine b_M_one_16  (fun c3 => ?_) (fun c3 => ?_)
                  · refine b_M_one_57  (fun c4 => ?_) (fun c4 => ?_)
                    · refine b_M_one_96  (fun c5 => ?_) (fun c5 => ?_)
                      · exfalso
                        omega
                      · refine b_M_one_105  (q_M_opensOne hX hW hJ hB hz (by omega) (by omega) (fun o1 J1 hJ1 => ?_) (fun o1 J1 hJ1 => by omega))
                        refine b_M_one_109  (fun c6 => absurd c6 (by decide)) (fun c6 => ?_)
                        refine b_M_one_112  (m2 J0 J1 hJ1 _ (fun J2 hJ2 => ?_))
                        refine b_M_one_116  (q_M_closes hX hW hJ2 hB2 (by omega) (by omega) hJ2.2.2.1.2.2.1 hJ2.2.2.2.2.2.1 (fun y1 => absurd y1 z2) (fun y1 => absurd y1 z2) (fun y1 J3 hJ3 => ?_))
                        refine b_M_one_120  ?_
                        refine b_M_one_128  ?_
                        exact H _ hJ3
                    · exfalso
                      omega
                  · exfalso
                    omega
              · exfalso
                omega
      · refine ⟨fC I, G, fun Q H => ?_, ST_fl hX hP hz hG, fun J0 J hJ Q H => ?_⟩
        · clear hE hO
          refine am_in rfl rfl rfl rfl ?_
          refine b_Rdr_readOne_0  (fun c1 => ?_) (fun c1 => ?_)
          · refine b_Rdr_readOne_9 (by omega) (fun c2 => ?_) (fun c2 => ?_)
            · refine b_Rdr_readOne_54  (s_P_within (fun c3 => ?_) (fun c3 => ?_))
              · refine b_Rdr_readOne_64  (fun c4 => absurd c4 (by decide)) (fun c4 => ?_)
                exfalso
                omega
              · refine b_Rdr_readOne_64  (fun c5 => ?_) (fun c5 => absurd c5 (by decide))
                refine b_Rdr_readOne_93  (fun c6 => ?_) (fun c6 => ?_)
                · refine b_Rdr_readOne_131  (fun c7 => ?_) (fun c7 => ?_)
                  · refine b_Rdr_readOne_189  (s_Rdr_fail (by omega) (fun z1 => ?_) (fun z1 => absurd hz z1))
                    refine b_Rdr_readOne_193  ?_
                    exact H
                  · refine b_Rdr_readOne_137  (fun c8 => ?_) (fun c8 => ?_)
                    · refine b_Rdr_readOne_189  (s_Rdr_fail (by omega) (fun z1 => ?_) (fun z1 => absurd hz z1))
                      refine b_Rdr_readOne_193  ?_
                      exact H
                    · exfalso
                      omega
                · refine b_Rdr_readOne_99  (fun c9 => ?_) (fun c9 => ?_)
                  · refine b_Rdr_readOne_131  (fun c10 => ?_) (fun c10 => ?_)
                    · refine b_Rdr_readOne_189  (s_Rdr_fail (by omega) (fun z1 => ?_) (fun z1 => absurd hz z1))
                      refine b_Rdr_readOne_193  ?_
                      exact H
                    · refine b_Rdr_readOne_137  (fun c11 => ?_) (fun c11 => ?_)
                      · refine b_Rdr_readOne_189  (s_Rdr_fail (by omega) (fun z1 => ?_) (fun z1 => absurd hz z1))
                        refine b_Rdr_readOne_193  ?_
                        exact H
                      · exfalso
                        omega
                  · exfalso
                    omega
            · exfalso
              omega
          · exfalso
            omega
        · clear hE hO
          have e18 := hJ.2.2.2.2.2.1
          have e13 := hJ.2.2.1.2.2.1
          refine am_in rfl rfl rfl rfl ?_
          refine b_M_one_0  (fun c1 => ?_) (fun c1 => ?_)
          · refine b_M_one_8  (fun c2 => ?_) (fun c2 => ?_)
            · exfalso
              omega
            · refine b_M_one_16  (fun c3 => ?_) (fun c3 => ?_)
              · refine b_M_one_57  (fun c4 => ?_) (fun c4 => ?_)
                · refine b_M_one_96  (fun c5 => ?_) (fun c5 => ?_)
                  · refine b_M_one_123  ?_
                    refine b_M_one_128  ?_
                    exact H _ (MR_f hX hB (by omega) hJ)
                  · refine b_M_one_105  (q_M_opensOne hX hW hJ hB hz (by omega) (by omega) (fun o1 J1 hJ1 => by omega) (fun o1 J1 hJ1 => ?_))
                    refine b_M_one_109  (fun c6 => ?_) (fun c6 => absurd c6 (by decide))
                    refine b_M_one_128  ?_
                    exact H _ hJ1
                · refine b_M_one_66  (q_M_opensOne hX hW hJ hB hz (by omega) (by omega) (fun o1 J1 hJ1 => by omega) (fun o1 J1 hJ1 => ?_))
                  refine b_M_one_70  (fun c7 => ?_) (fun c7 => absurd c7 (by decide))
                  refine b_M_one_128  ?_
                  exact H _ hJ1
              · exfalso
                omega
          · exfalso
            omega
theorem sm_all {ro : Nat → Int × (Int → Int)} {b : Bool} {L X : Nat → Int → Int} (hX : CX X) (hW : ∀ k, 0 ≤ k → k < 20 → L 75 k = wdv k) : ∀ (n D : Nat) (op : Int), 0 ≤ op → op ≤ 6 → 6 - op ≤ (n : Int) → Sim ro b L X (D + 6 * n + 9) (D + 6 * n + 10) 124 200 op ∧ Sim ro b L X (D + 6 * n + 9) (D + 6 * n + 10) 129 205 op ∧ Sim ro b L X (D + 6 * n + 9) (D + 6 * n + 10) 126 202 op
  | 0, D, op, h1, h2, h3 => by
    have one : ∀ d : Nat, Sim ro b L X (d + 4) (d + 5) 129 205 op := fun d => sm_One (dc := d + 2) (dm := d) hX hW ⟨h1, h2⟩ (fun z => absurd z (by omega)) (fun z => absurd z (by omega))
    have not : ∀ d : Nat, Sim ro b L X (d + 7) (d + 8) 126 202 op := fun d => sm_Not (dc := d + 5) (dm := d + 3) hX hW ⟨h1, h2⟩ (fun z => absurd z (by omega)) (sm_Sum (dc := d + 4) (dm := d + 3) hX hW (sm_Term (dc := d + 3) (dm := d + 2) hX hW (one d)))
    exact ⟨sm_E (dc := D + 7) (dm := D + 6) hX hW (sm_And (dc := D + 6) (dm := D + 5) hX hW (not D)), one (D + 5), not (D + 2)⟩
  | n + 1, D, op, h1, h2, h3 => by
    have one : ∀ d : Nat, Sim ro b L X (d + 6 * n + 10) (d + 6 * n + 11) 129 205 op := fun d => sm_One (dc := d + 6 * n + 8) (dm := d + 6 * n + 6) hX hW ⟨h1, h2⟩ (fun z => (sm_all hX hW n d (op + 1) (by omega) (by omega) (by omega)).2.1) (fun z => (sm_all hX hW n d (op + 1) (by omega) (by omega) (by omega)).1)
    have not : ∀ d : Nat, Sim ro b L X (d + 6 * n + 13) (d + 6 * n + 14) 126 202 op := fun d => sm_Not (dc := d + 6 * n + 11) (dm := d + 6 * n + 9) hX hW ⟨h1, h2⟩ (fun z => by
      have q := (sm_all (ro := ro) (b := b) hX hW n (d + 3) (op + 1) (by omega) (by omega) (by omega)).2.2
      rw [show d + 3 + 6 * n + 9 = d + 6 * n + 11 + 1 by omega, show d + 3 + 6 * n + 10 = d + 6 * n + 9 + 4 by omega] at q
      exact q) (sm_Sum (dc := d + 6 * n + 10) (dm := d + 6 * n + 9) hX hW (sm_Term (dc := d + 6 * n + 9) (dm := d + 6 * n + 8) hX hW (one d)))
    have e1 : D + 6 * (n + 1) + 9 = D + 6 * n + 15 := by omega
    have e2 : D + 6 * (n + 1) + 10 = D + 6 * n + 16 := by omega
    rw [e1, e2]
    refine ⟨sm_E (dc := D + 6 * n + 13) (dm := D + 6 * n + 12) hX hW (sm_And (dc := D + 6 * n + 12) (dm := D + 6 * n + 11) hX hW (not D)), ?_, ?_⟩
    · have q := one (D + 5)
      rw [show D + 5 + 6 * n + 10 = D + 6 * n + 15 by omega, show D + 5 + 6 * n + 11 = D + 6 * n + 16 by omega] at q
      exact q
    · have q := not (D + 2)
      rw [show D + 2 + 6 * n + 13 = D + 6 * n + 15 by omega, show D + 2 + 6 * n + 14 = D + 6 * n + 16 by omega] at q
      exact q
theorem sm_top {ro : Nat → Int × (Int → Int)} {d : Nat} {b : Bool} {L X : Nat → Int → Int} (hX : CX X) (hW : ∀ k, 0 ≤ k → k < 20 → L 75 k = wdv k) : Sim ro b L X (d + 45) (d + 46) 124 200 0 := (sm_all hX hW 6 d 0 (by omega) (by omega) (by omega)).1
