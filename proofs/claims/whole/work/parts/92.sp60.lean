def Cpy (C CL C' CL' : Nat → Int → Int) : Prop := (C' 1 0 = C 1 0 ∧ C' 2 0 = C 2 0 ∧ C' 6 0 = C 6 0 ∧ C' 10 0 = C 10 0 ∧ C' 15 0 = C 15 0 ∧ C' 22 0 = C 22 0 ∧ C' 28 0 = C 28 0) ∧ (∀ i, 0 ≤ i → i < 12 → C' 3 i = C 3 i ∧ C' 4 i = C 4 i ∧ C' 29 i = C 29 i ∧ C' 30 i = C 30 i ∧ C' 31 i = C 31 i ∧ C' 32 i = C 32 i ∧ C' 33 i = C 33 i) ∧ (∀ i, 0 ≤ i → i < 20 → C' 16 i = C 16 i ∧ C' 17 i = C 17 i ∧ C' 18 i = C 18 i ∧ C' 19 i = C 19 i ∧ C' 20 i = C 20 i) ∧ (∀ i, 0 ≤ i → i < 30 → C' 11 i = C 11 i ∧ C' 12 i = C 12 i ∧ C' 13 i = C 13 i ∧ C' 14 i = C 14 i) ∧ (∀ i, 0 ≤ i → i < 41 → C' 37 i = C 37 i ∧ C' 39 i = C 39 i ∧ CL' 40 i = CL 40 i ∧ CL' 41 i = CL 41 i ∧ CL' 42 i = CL 42 i) ∧ (∀ i, 0 ≤ i → i < 60 → C' 23 i = C 23 i ∧ C' 24 i = C 24 i ∧ C' 25 i = C 25 i ∧ C' 26 i = C 26 i ∧ C' 27 i = C 27 i) ∧ (∀ i, 0 ≤ i → i < 164 → C' 38 i = C 38 i) ∧ (∀ i, 0 ≤ i → i < 400 → C' 7 i = C 7 i ∧ C' 8 i = C 8 i ∧ C' 9 i = C 9 i ∧ C' 21 i = C 21 i) ∧ (∀ i, 0 ≤ i → i < 820 → CL' 43 i = CL 43 i ∧ CL' 44 i = CL 44 i) ∧ (∀ i, 0 ≤ i → i < 1440 → C' 34 i = C 34 i)
theorem iLand_cp {C CL C' CL' : Nat → Int → Int} {p q : Int → Int} (g : iLand C CL p q) (h : Cpy C CL C' CL') : iLand C' CL' p q := by
  obtain ⟨h1, h2, h3, h4, h5, h6, h7, h8, h9, h10⟩ := g
  refine ⟨?_, ?_, ?_, ?_, ?_, ?_, ?_, ?_, h9, h10⟩
  · exact ⟨by rw [h.1.1]; exact h1.1, h1.2⟩
  · exact ⟨by rw [h.1.2.1]; exact h2.1, h2.2.1, h2.2.2.1, fun l a1 a2 => by rw [(h.2.1 l (by omega) (by omega)).1, (h.2.1 l (by omega) (by omega)).2.1]; exact h2.2.2.2.1 l a1 a2, h2.2.2.2.2⟩
  · have n1 := h3.2.1
    have n2 := h3.2.2.1
    exact ⟨by rw [h.1.2.2.1]; exact h3.1, h3.2.1, h3.2.2.1, fun k a1 a2 => by rw [(h.2.2.2.2.2.2.2.1 k (by omega) (by omega)).1, (h.2.2.2.2.2.2.2.1 k (by omega) (by omega)).2.1, (h.2.2.2.2.2.2.2.1 k (by omega) (by omega)).2.2.1]; exact h3.2.2.2.1 k a1 a2, h3.2.2.2.2⟩
  · exact ⟨by rw [h.1.2.2.2.1]; exact h4.1, h4.2.1, h4.2.2.1, fun e a1 a2 => by rw [(h.2.2.2.1 e (by omega) (by omega)).1, (h.2.2.2.1 e (by omega) (by omega)).2.1, (h.2.2.2.1 e (by omega) (by omega)).2.2.1, (h.2.2.2.1 e (by omega) (by omega)).2.2.2]; exact h4.2.2.2.1 e a1 a2, h4.2.2.2.2⟩
  · exact ⟨by rw [h.1.2.2.2.2.1]; exact h5.1, h5.2.1, h5.2.2.1, fun n a1 a2 => by rw [(h.2.2.1 n (by omega) (by omega)).1, (h.2.2.1 n (by omega) (by omega)).2.1, (h.2.2.1 n (by omega) (by omega)).2.2.1, (h.2.2.1 n (by omega) (by omega)).2.2.2.1, (h.2.2.1 n (by omega) (by omega)).2.2.2.2]; exact h5.2.2.2.1 n a1 a2, h5.2.2.2.2.1, fun k a1 a2 => by rw [(h.2.2.2.2.2.2.2.1 k (by omega) (by omega)).2.2.2]; exact h5.2.2.2.2.2 k a1 a2⟩
  · exact ⟨by rw [h.1.2.2.2.2.2.1]; exact h6.1, h6.2.1, h6.2.2.1, fun s a1 a2 => by rw [(h.2.2.2.2.2.1 s (by omega) (by omega)).1, (h.2.2.2.2.2.1 s (by omega) (by omega)).2.1, (h.2.2.2.2.2.1 s (by omega) (by omega)).2.2.1, (h.2.2.2.2.2.1 s (by omega) (by omega)).2.2.2.1, (h.2.2.2.2.2.1 s (by omega) (by omega)).2.2.2.2]; exact h6.2.2.2.1 s a1 a2, h6.2.2.2.2⟩
  · have n1 := h7.2.1
    have n2 := h7.2.2.1
    refine ⟨by rw [h.1.2.2.2.2.2.2]; exact h7.1, h7.2.1, h7.2.2.1, fun r a1 a2 => by rw [(h.2.1 r (by omega) (by omega)).2.2.1, (h.2.1 r (by omega) (by omega)).2.2.2.1, (h.2.1 r (by omega) (by omega)).2.2.2.2.1, (h.2.1 r (by omega) (by omega)).2.2.2.2.2.1, (h.2.1 r (by omega) (by omega)).2.2.2.2.2.2]; exact h7.2.2.2.1 r a1 a2, fun r k a1 a2 a3 a4 => ?_, h7.2.2.2.2.2⟩
    have w := h7.2.2.2.1 r a1 a2
    rw [(h.2.2.2.2.2.2.2.2.2 (120 * r + k) (by omega) (by omega))]
    exact h7.2.2.2.2.1 r k a1 a2 a3 a4
  · exact ⟨fun y a1 a2 => by rw [(h.2.2.2.2.1 y (by omega) (by omega)).1, (h.2.2.2.2.1 y (by omega) (by omega)).2.1, (h.2.2.2.2.1 y (by omega) (by omega)).2.2.1, (h.2.2.2.2.1 y (by omega) (by omega)).2.2.2.1, (h.2.2.2.2.1 y (by omega) (by omega)).2.2.2.2]; exact h8.1 y a1 a2, h8.2.1, fun k a1 a2 => by rw [(h.2.2.2.2.2.2.1 k (by omega) (by omega))]; exact h8.2.2.1 k a1 a2, fun k a1 a2 => by rw [(h.2.2.2.2.2.2.2.2.1 k (by omega) (by omega)).1, (h.2.2.2.2.2.2.2.2.1 k (by omega) (by omega)).2]; exact h8.2.2.2 k a1 a2⟩
theorem iLand_pq {C CL : Nat → Int → Int} {p q p' q' : Int → Int} (g : iLand C CL p q) (hp : ∀ j, 0 ≤ j → j < 4420 → p' j = p j) (hq : ∀ j, 0 ≤ j → j < 1763 → q' j = q j) : iLand C CL p' q' := by
  obtain ⟨h1, h2, h3, h4, h5, h6, h7, h8, h9, h10⟩ := g
  have e0 := hp 0 (by omega) (by omega)
  have e1 := hp 1 (by omega) (by omega)
  have e2 := hp 2 (by omega) (by omega)
  have e3 := hp 3 (by omega) (by omega)
  have q1 := h1.2
  have q5 := h5.2.1
  have q5b := h5.2.2.1
  have q6 := h6.2.1
  have q6b := h6.2.2.1
  have q7 := h7.2.1
  have q7b := h7.2.2.1
  exact ⟨lOp_fr h1 rfl e0, lLib_fr h2 ⟨rfl, rfl, rfl⟩ (fun j hj => hp j (by omega) (by omega)), lEnt_fr h3 ⟨rfl, rfl, rfl, rfl⟩ (fun j hj => hp j (by omega) (by omega)) h1.2 (by omega) (by omega) (by omega), lEd_fr h4 ⟨rfl, rfl, rfl, rfl, rfl⟩ (fun j hj => hp j (by omega) (by omega)), lPeo_fr h5 ⟨rfl, rfl, rfl, rfl, rfl, rfl, rfl⟩ (fun j hj => hp j (by omega) (by omega)), lSh_fr h6 ⟨rfl, rfl, rfl, rfl, rfl, rfl⟩ (fun j hj => hp j (by omega) (by omega)) (by omega) (by omega) (by omega), lRul_fr h7 ⟨rfl, rfl, rfl, rfl, rfl, rfl, rfl⟩ (fun j hj => hp j (by omega) (by omega)) (fun r k a1 a2 a3 a4 => hp _ (by omega) (by omega)), lYr_fr h8 ⟨rfl, rfl, rfl⟩ ⟨rfl, rfl, rfl, rfl, rfl⟩ (fun j hj => hp j (by omega) (by omega)) (fun j hj => hq j (by omega) (by omega)), lSum_fr h9 (by omega) e2 e3 (hp 4 (by omega) (by omega)) (fun j hj => hp j (by omega) (by omega)), lQ_fr h10 (by omega) (by omega) (fun j hj => hq j (by omega) (by omega))⟩
theorem cps {I : Nat → Int → Int} {a0 a : Nat} {n i : Int} (h : 0 ≤ i ∧ i < n) : am_cp I a0 a 0 0 n a i = I a0 i := by
  unfold am_cp
  rw [if_pos rfl, if_pos (by omega)]
  congr 1
  omega
theorem cpm {I : Nat → Int → Int} {a0 a k : Nat} {s d n i : Int} (h : ¬ k = a) : am_cp I a0 a s d n k i = I k i := by
  unfold am_cp
  rw [if_neg h]
theorem s_Libs_takeFromK_2_86 {ro : Nat → Int × (Int → Int)} {d : Nat} {I L : Nat → Int → Int} {Q : Option am_V → am_H → Prop} (H : Q none (sh true, am_cp (am_cp (am_up I 2 0 (I 86 0)) 87 3 0 0 12) 88 4 0 0 12, L)) : am_m ro (d + 1) 67 [am_R 2, am_R 86] (sh true, I, L) Q := by
  refine am_in rfl rfl rfl rfl ?_
  refine b_Libs_takeFromK_2_86_0  ?_
  exact H
theorem s_Ents_takeFromK_6_90 {ro : Nat → Int × (Int → Int)} {d : Nat} {I L : Nat → Int → Int} {Q : Option am_V → am_H → Prop} (H : Q none (sh true, am_cp (am_cp (am_cp (am_up I 6 0 (I 90 0)) 91 7 0 0 400) 92 8 0 0 400) 93 9 0 0 400, L)) : am_m ro (d + 1) 73 [am_R 6, am_R 90] (sh true, I, L) Q := by
  refine am_in rfl rfl rfl rfl ?_
  refine b_Ents_takeFromK_6_90_0  ?_
  exact H
theorem s_Eds_takeFromK_10_94 {ro : Nat → Int × (Int → Int)} {d : Nat} {I L : Nat → Int → Int} {Q : Option am_V → am_H → Prop} (H : Q none (sh true, am_cp (am_cp (am_cp (am_cp (am_up I 10 0 (I 94 0)) 95 11 0 0 30) 96 12 0 0 30) 97 13 0 0 30) 98 14 0 0 30, L)) : am_m ro (d + 1) 78 [am_R 10, am_R 94] (sh true, I, L) Q := by
  refine am_in rfl rfl rfl rfl ?_
  refine b_Eds_takeFromK_10_94_0  ?_
  exact H
theorem s_Peo_takeFromK_15_99 {ro : Nat → Int × (Int → Int)} {d : Nat} {I L : Nat → Int → Int} {Q : Option am_V → am_H → Prop} (H : Q none (sh true, am_cp (am_cp (am_cp (am_cp (am_cp (am_cp (am_up I 15 0 (I 99 0)) 100 16 0 0 20) 101 17 0 0 20) 102 18 0 0 20) 103 19 0 0 20) 104 20 0 0 20) 105 21 0 0 400, L)) : am_m ro (d + 1) 82 [am_R 15, am_R 99] (sh true, I, L) Q := by
  refine am_in rfl rfl rfl rfl ?_
  refine b_Peo_takeFromK_15_99_0  ?_
  exact H
theorem s_Shs_takeFromK_22_106 {ro : Nat → Int × (Int → Int)} {d : Nat} {I L : Nat → Int → Int} {Q : Option am_V → am_H → Prop} (H : Q none (sh true, am_cp (am_cp (am_cp (am_cp (am_cp (am_up I 22 0 (I 106 0)) 107 23 0 0 60) 108 24 0 0 60) 109 25 0 0 60) 110 26 0 0 60) 111 27 0 0 60, L)) : am_m ro (d + 1) 90 [am_R 22, am_R 106] (sh true, I, L) Q := by
  refine am_in rfl rfl rfl rfl ?_
  refine b_Shs_takeFromK_22_106_0  ?_
  exact H
theorem s_Ruls_takeFromK_28_112 {ro : Nat → Int × (Int → Int)} {d : Nat} {I L : Nat → Int → Int} {Q : Option am_V → am_H → Prop} (H : Q none (sh true, am_cp (am_cp (am_cp (am_cp (am_cp (am_cp (am_up I 28 0 (I 112 0)) 113 29 0 0 12) 114 30 0 0 12) 115 31 0 0 12) 116 32 0 0 12) 117 33 0 0 12) 118 34 0 0 1440, L)) : am_m ro (d + 1) 97 [am_R 28, am_R 112] (sh true, I, L) Q := by
  refine am_in rfl rfl rfl rfl ?_
  refine b_Ruls_takeFromK_28_112_0  ?_
  exact H
theorem s_Yrs_takeFromK_36_120 {ro : Nat → Int × (Int → Int)} {d : Nat} {I L : Nat → Int → Int} {Q : Option am_V → am_H → Prop} (H : Q none (sh true, am_cp (am_cp (am_cp I 121 37 0 0 41) 122 38 0 0 164) 123 39 0 0 41, am_cp (am_cp (am_cp (am_cp (am_cp L 124 40 0 0 41) 125 41 0 0 41) 126 42 0 0 41) 127 43 0 0 820) 128 44 0 0 820)) : am_m ro (d + 1) 105 [am_R 36, am_R 120] (sh true, I, L) Q := by
  refine am_in rfl rfl rfl rfl ?_
  refine b_Yrs_takeFromK_36_120_0  ?_
  exact H
theorem s_Libs_takeFromK_86_2 {ro : Nat → Int × (Int → Int)} {d : Nat} {I L : Nat → Int → Int} {Q : Option am_V → am_H → Prop} (H : Q none (sh true, am_cp (am_cp (am_up I 86 0 (I 2 0)) 3 87 0 0 12) 4 88 0 0 12, L)) : am_m ro (d + 1) 67 [am_R 86, am_R 2] (sh true, I, L) Q := by
  refine am_in rfl rfl rfl rfl ?_
  refine b_Libs_takeFromK_86_2_0  ?_
  exact H
theorem s_Ents_takeFromK_90_6 {ro : Nat → Int × (Int → Int)} {d : Nat} {I L : Nat → Int → Int} {Q : Option am_V → am_H → Prop} (H : Q none (sh true, am_cp (am_cp (am_cp (am_up I 90 0 (I 6 0)) 7 91 0 0 400) 8 92 0 0 400) 9 93 0 0 400, L)) : am_m ro (d + 1) 73 [am_R 90, am_R 6] (sh true, I, L) Q := by
  refine am_in rfl rfl rfl rfl ?_
  refine b_Ents_takeFromK_90_6_0  ?_
  exact H
theorem s_Eds_takeFromK_94_10 {ro : Nat → Int × (Int → Int)} {d : Nat} {I L : Nat → Int → Int} {Q : Option am_V → am_H → Prop} (H : Q none (sh true, am_cp (am_cp (am_cp (am_cp (am_up I 94 0 (I 10 0)) 11 95 0 0 30) 12 96 0 0 30) 13 97 0 0 30) 14 98 0 0 30, L)) : am_m ro (d + 1) 78 [am_R 94, am_R 10] (sh true, I, L) Q := by
  refine am_in rfl rfl rfl rfl ?_
  refine b_Eds_takeFromK_94_10_0  ?_
  exact H
theorem s_Peo_takeFromK_99_15 {ro : Nat → Int × (Int → Int)} {d : Nat} {I L : Nat → Int → Int} {Q : Option am_V → am_H → Prop} (H : Q none (sh true, am_cp (am_cp (am_cp (am_cp (am_cp (am_cp (am_up I 99 0 (I 15 0)) 16 100 0 0 20) 17 101 0 0 20) 18 102 0 0 20) 19 103 0 0 20) 20 104 0 0 20) 21 105 0 0 400, L)) : am_m ro (d + 1) 82 [am_R 99, am_R 15] (sh true, I, L) Q := by
  refine am_in rfl rfl rfl rfl ?_
  refine b_Peo_takeFromK_99_15_0  ?_
  exact H
theorem s_Shs_takeFromK_106_22 {ro : Nat → Int × (Int → Int)} {d : Nat} {I L : Nat → Int → Int} {Q : Option am_V → am_H → Prop} (H : Q none (sh true, am_cp (am_cp (am_cp (am_cp (am_cp (am_up I 106 0 (I 22 0)) 23 107 0 0 60) 24 108 0 0 60) 25 109 0 0 60) 26 110 0 0 60) 27 111 0 0 60, L)) : am_m ro (d + 1) 90 [am_R 106, am_R 22] (sh true, I, L) Q := by
  refine am_in rfl rfl rfl rfl ?_
  refine b_Shs_takeFromK_106_22_0  ?_
  exact H
theorem s_Ruls_takeFromK_112_28 {ro : Nat → Int × (Int → Int)} {d : Nat} {I L : Nat → Int → Int} {Q : Option am_V → am_H → Prop} (H : Q none (sh true, am_cp (am_cp (am_cp (am_cp (am_cp (am_cp (am_up I 112 0 (I 28 0)) 29 113 0 0 12) 30 114 0 0 12) 31 115 0 0 12) 32 116 0 0 12) 33 117 0 0 12) 34 118 0 0 1440, L)) : am_m ro (d + 1) 97 [am_R 112, am_R 28] (sh true, I, L) Q := by
  refine am_in rfl rfl rfl rfl ?_
  refine b_Ruls_takeFromK_112_28_0  ?_
  exact H
theorem s_Yrs_takeFromK_120_36 {ro : Nat → Int × (Int → Int)} {d : Nat} {I L : Nat → Int → Int} {Q : Option am_V → am_H → Prop} (H : Q none (sh true, am_cp (am_cp (am_cp I 37 121 0 0 41) 38 122 0 0 164) 39 123 0 0 41, am_cp (am_cp (am_cp (am_cp (am_cp L 40 124 0 0 41) 41 125 0 0 41) 42 126 0 0 41) 43 127 0 0 820) 44 128 0 0 820)) : am_m ro (d + 1) 105 [am_R 120, am_R 36] (sh true, I, L) Q := by
  refine am_in rfl rfl rfl rfl ?_
  refine b_Yrs_takeFromK_120_36_0  ?_
  exact H
set_option maxHeartbeats 2000000 in
theorem s_Land_takeFromK_1_85 {ro : Nat → Int × (Int → Int)} {d : Nat} {I L : Nat → Int → Int} {Q : Option am_V → am_H → Prop} (H : ∀ I' L' : Nat → Int → Int, (∀ k i, ¬ (1 ≤ k ∧ k ≤ 44) → I' k i = I k i ∧ L' k i = L k i) → Cpy (fun k => I (84 + k)) (fun k => L (84 + k)) I' L' → Q none (sh true, I', L')) : am_m ro (d + 2) 61 [am_R 1, am_R 85] (sh true, I, L) Q := by
  refine am_in rfl rfl rfl rfl ?_
  refine b_Land_takeFromK_1_85_0  (s_Libs_takeFromK_2_86 ?_)
  refine b_Land_takeFromK_1_85_19  (s_Ents_takeFromK_6_90 ?_)
  refine b_Land_takeFromK_1_85_30  (s_Eds_takeFromK_10_94 ?_)
  refine b_Land_takeFromK_1_85_41  (s_Peo_takeFromK_15_99 ?_)
  refine b_Land_takeFromK_1_85_52  (s_Shs_takeFromK_22_106 ?_)
  refine b_Land_takeFromK_1_85_63  (s_Ruls_takeFromK_28_112 ?_)
  refine b_Land_takeFromK_1_85_74  (s_Yrs_takeFromK_36_120 ?_)
  refine b_Land_takeFromK_1_85_85  ?_
  refine H _ _ (fun k i hk => ⟨by simp (disch := omega) only [cps, cpm, upm, ups], by simp (disch := omega) only [cps, cpm, upm, ups]⟩) ⟨⟨by simp (disch := omega) only [cps, cpm, upm, ups], by simp (disch := omega) only [cps, cpm, upm, ups], by simp (disch := omega) only [cps, cpm, upm, ups], by simp (disch := omega) only [cps, cpm, upm, ups], by simp (disch := omega) only [cps, cpm, upm, ups], by simp (disch := omega) only [cps, cpm, upm, ups], by simp (disch := omega) only [cps, cpm, upm, ups]⟩, fun i a1 a2 => ⟨by simp (disch := omega) only [cps, cpm, upm, ups], by simp (disch := omega) only [cps, cpm, upm, ups], by simp (disch := omega) only [cps, cpm, upm, ups], by simp (disch := omega) only [cps, cpm, upm, ups], by simp (disch := omega) only [cps, cpm, upm, ups], by simp (disch := omega) only [cps, cpm, upm, ups], by simp (disch := omega) only [cps, cpm, upm, ups]⟩, fun i a1 a2 => ⟨by simp (disch := omega) only [cps, cpm, upm, ups], by simp (disch := omega) only [cps, cpm, upm, ups], by simp (disch := omega) only [cps, cpm, upm, ups], by simp (disch := omega) only [cps, cpm, upm, ups], by simp (disch := omega) only [cps, cpm, upm, ups]⟩, fun i a1 a2 => ⟨by simp (disch := omega) only [cps, cpm, upm, ups], by simp (disch := omega) only [cps, cpm, upm, ups], by simp (disch := omega) only [cps, cpm, upm, ups], by simp (disch := omega) only [cps, cpm, upm, ups]⟩, fun i a1 a2 => ⟨by simp (disch := omega) only [cps, cpm, upm, ups], by simp (disch := omega) only [cps, cpm, upm, ups], by simp (disch := omega) only [cps, cpm, upm, ups], by simp (disch := omega) only [cps, cpm, upm, ups], by simp (disch := omega) only [cps, cpm, upm, ups]⟩, fun i a1 a2 => ⟨by simp (disch := omega) only [cps, cpm, upm, ups], by simp (disch := omega) only [cps, cpm, upm, ups], by simp (disch := omega) only [cps, cpm, upm, ups], by simp (disch := omega) only [cps, cpm, upm, ups], by simp (disch := omega) only [cps, cpm, upm, ups]⟩, fun i a1 a2 => by simp (disch := omega) only [cps, cpm, upm, ups], fun i a1 a2 => ⟨by simp (disch := omega) only [cps, cpm, upm, ups], by simp (disch := omega) only [cps, cpm, upm, ups], by simp (disch := omega) only [cps, cpm, upm, ups], by simp (disch := omega) only [cps, cpm, upm, ups]⟩, fun i a1 a2 => ⟨by simp (disch := omega) only [cps, cpm, upm, ups], by simp (disch := omega) only [cps, cpm, upm, ups]⟩, fun i a1 a2 => by simp (disch := omega) only [cps, cpm, upm, ups]⟩
set_option maxHeartbeats 2000000 in
theorem s_Land_takeFromK_85_1 {ro : Nat → Int × (Int → Int)} {d : Nat} {I L : Nat → Int → Int} {Q : Option am_V → am_H → Prop} (H : ∀ I' L' : Nat → Int → Int, (∀ k i, ¬ (85 ≤ k ∧ k ≤ 128) → I' k i = I k i ∧ L' k i = L k i) → Cpy I L (fun k => I' (84 + k)) (fun k => L' (84 + k)) → Q none (sh true, I', L')) : am_m ro (d + 2) 61 [am_R 85, am_R 1] (sh true, I, L) Q := by
  refine am_in rfl rfl rfl rfl ?_
  refine b_Land_takeFromK_85_1_0  (s_Libs_takeFromK_86_2 ?_)
  refine b_Land_takeFromK_85_1_19  (s_Ents_takeFromK_90_6 ?_)
  refine b_Land_takeFromK_85_1_30  (s_Eds_takeFromK_94_10 ?_)
  refine b_Land_takeFromK_85_1_41  (s_Peo_takeFromK_99_15 ?_)
  refine b_Land_takeFromK_85_1_52  (s_Shs_takeFromK_106_22 ?_)
  refine b_Land_takeFromK_85_1_63  (s_Ruls_takeFromK_112_28 ?_)
  refine b_Land_takeFromK_85_1_74  (s_Yrs_takeFromK_120_36 ?_)
  refine b_Land_takeFromK_85_1_85  ?_
  refine H _ _ (fun k i hk => ⟨by simp (disch := omega) only [cps, cpm, upm, ups], by simp (disch := omega) only [cps, cpm, upm, ups]⟩) ⟨⟨by show _ = _; simp (disch := omega) only [cps, cpm, upm, ups], by show _ = _; simp (disch := omega) only [cps, cpm, upm, ups], by show _ = _; simp (disch := omega) only [cps, cpm, upm, ups], by show _ = _; simp (disch := omega) only [cps, cpm, upm, ups], by show _ = _; simp (disch := omega) only [cps, cpm, upm, ups], by show _ = _; simp (disch := omega) only [cps, cpm, upm, ups], by show _ = _; simp (disch := omega) only [cps, cpm, upm, ups]⟩, fun i a1 a2 => ⟨by show _ = _; simp (disch := omega) only [cps, cpm, upm, ups], by show _ = _; simp (disch := omega) only [cps, cpm, upm, ups], by show _ = _; simp (disch := omega) only [cps, cpm, upm, ups], by show _ = _; simp (disch := omega) only [cps, cpm, upm, ups], by show _ = _; simp (disch := omega) only [cps, cpm, upm, ups], by show _ = _; simp (disch := omega) only [cps, cpm, upm, ups], by show _ = _; simp (disch := omega) only [cps, cpm, upm, ups]⟩, fun i a1 a2 => ⟨by show _ = _; simp (disch := omega) only [cps, cpm, upm, ups], by show _ = _; simp (disch := omega) only [cps, cpm, upm, ups], by show _ = _; simp (disch := omega) only [cps, cpm, upm, ups], by show _ = _; simp (disch := omega) only [cps, cpm, upm, ups], by show _ = _; simp (disch := omega) only [cps, cpm, upm, ups]⟩, fun i a1 a2 => ⟨by show _ = _; simp (disch := omega) only [cps, cpm, upm, ups], by show _ = _; simp (disch := omega) only [cps, cpm, upm, ups], by show _ = _; simp (disch := omega) only [cps, cpm, upm, ups], by show _ = _; simp (disch := omega) only [cps, cpm, upm, ups]⟩, fun i a1 a2 => ⟨by show _ = _; simp (disch := omega) only [cps, cpm, upm, ups], by show _ = _; simp (disch := omega) only [cps, cpm, upm, ups], by show _ = _; simp (disch := omega) only [cps, cpm, upm, ups], by show _ = _; simp (disch := omega) only [cps, cpm, upm, ups], by show _ = _; simp (disch := omega) only [cps, cpm, upm, ups]⟩, fun i a1 a2 => ⟨by show _ = _; simp (disch := omega) only [cps, cpm, upm, ups], by show _ = _; simp (disch := omega) only [cps, cpm, upm, ups], by show _ = _; simp (disch := omega) only [cps, cpm, upm, ups], by show _ = _; simp (disch := omega) only [cps, cpm, upm, ups], by show _ = _; simp (disch := omega) only [cps, cpm, upm, ups]⟩, fun i a1 a2 => by show _ = _; simp (disch := omega) only [cps, cpm, upm, ups], fun i a1 a2 => ⟨by show _ = _; simp (disch := omega) only [cps, cpm, upm, ups], by show _ = _; simp (disch := omega) only [cps, cpm, upm, ups], by show _ = _; simp (disch := omega) only [cps, cpm, upm, ups], by show _ = _; simp (disch := omega) only [cps, cpm, upm, ups]⟩, fun i a1 a2 => ⟨by show _ = _; simp (disch := omega) only [cps, cpm, upm, ups], by show _ = _; simp (disch := omega) only [cps, cpm, upm, ups]⟩, fun i a1 a2 => by show _ = _; simp (disch := omega) only [cps, cpm, upm, ups]⟩
