def Zr (n m : Nat) (I L I' L' : Nat → Int → Int) : Prop := (∀ k, k < n → I' k = I k ∧ L' k = L k) ∧ (∀ k, n ≤ k → k < m → (∀ i, I' k i = 0) ∧ ∀ i, L' k i = 0)
theorem Zr_rf {n : Nat} {I L : Nat → Int → Int} : Zr n n I L I L := ⟨fun _ _ => ⟨rfl, rfl⟩, fun k a1 a2 => absurd a2 (by omega)⟩
theorem z_s {I : Nat → Int → Int} {k : Nat} {i : Int} : am_z I k k i = 0 := if_pos rfl
theorem z_n {I : Nat → Int → Int} {k j : Nat} (h : j ≠ k) : am_z I k j = I j := by
  funext i
  exact if_neg h
theorem Zr_z {n m : Nat} {I L I1 L1 : Nat → Int → Int} (h : Zr n m I L I1 L1) (hm : n ≤ m) : Zr n (m + 1) I L (am_z I1 m) (am_z L1 m) := by
  refine ⟨fun k hk => ?_, fun k a1 a2 => ?_⟩
  · rw [z_n (by omega), z_n (by omega)]
    exact h.1 k hk
  · by_cases e : k = m
    · subst e
      exact ⟨fun i => z_s, fun i => z_s⟩
    · rw [z_n e, z_n e]
      exact h.2 k a1 (by omega)
theorem Zr_tr {n m r : Nat} {I L I1 L1 I2 L2 : Nat → Int → Int} (h : Zr n m I L I1 L1) (g : Zr m r I1 L1 I2 L2) (hm : n ≤ m) : Zr n r I L I2 L2 := by
  refine ⟨fun k hk => ?_, fun k a1 a2 => ?_⟩
  · rw [(g.1 k (by omega)).1, (g.1 k (by omega)).2]
    exact h.1 k hk
  · by_cases e : k < m
    · rw [(g.1 k e).1, (g.1 k e).2]
      exact h.2 k a1 e
    · exact g.2 k (by omega) a2
theorem Cpy_cg {I L I1 L1 C CL : Nat → Int → Int} (h : Cpy I1 L1 C CL) (f1 : ∀ k, k < 85 → I1 k = I k) (f2 : ∀ k, k < 85 → L1 k = L k) : Cpy I L C CL := by
  unfold Cpy at h ⊢
  simp only [f1 1 (by omega), f1 2 (by omega), f1 6 (by omega), f1 10 (by omega), f1 15 (by omega), f1 22 (by omega), f1 28 (by omega), f1 3 (by omega), f1 4 (by omega), f1 29 (by omega), f1 30 (by omega), f1 31 (by omega), f1 32 (by omega), f1 33 (by omega), f1 7 (by omega), f1 8 (by omega), f1 9 (by omega), f1 21 (by omega), f1 11 (by omega), f1 12 (by omega), f1 13 (by omega), f1 14 (by omega), f1 16 (by omega), f1 17 (by omega), f1 18 (by omega), f1 19 (by omega), f1 20 (by omega), f1 23 (by omega), f1 24 (by omega), f1 25 (by omega), f1 26 (by omega), f1 27 (by omega), f1 34 (by omega), f1 37 (by omega), f1 39 (by omega), f1 38 (by omega), f2 40 (by omega), f2 41 (by omega), f2 42 (by omega), f2 43 (by omega), f2 44 (by omega)] at h
  exact h
theorem s_Libs_init_87 {ro : Nat → Int × (Int → Int)} {d : Nat} {I L : Nat → Int → Int} {Q : Option am_V → am_H → Prop} (H : ∀ I' L' : Nat → Int → Int, Zr 87 90 I L I' L' → Q none (zs6, I', L')) : am_m ro (d + 1) 66 [am_R 86] (zs1, I, L) Q := by
  refine am_in rfl rfl rfl rfl ?_
  refine b_Libs_init_87_0 ?_
  refine b_Libs_init_87_9 ?_
  refine b_Libs_init_87_12 ?_
  refine b_Libs_init_87_17 ?_
  refine b_Libs_init_87_20 ?_
  refine b_Libs_init_87_24 ?_
  refine b_Libs_init_87_27 ?_
  exact H _ _ (Zr_z (Zr_z (Zr_z (Zr_rf) (by omega)) (by omega)) (by omega))
theorem s_Ents_init_91 {ro : Nat → Int × (Int → Int)} {d : Nat} {I L : Nat → Int → Int} {Q : Option am_V → am_H → Prop} (H : ∀ I' L' : Nat → Int → Int, Zr 91 94 I L I' L' → Q none (zs13, I', L')) : am_m ro (d + 1) 72 [am_R 90] (zs8, I, L) Q := by
  refine am_in rfl rfl rfl rfl ?_
  refine b_Ents_init_91_0 ?_
  refine b_Ents_init_91_10 ?_
  refine b_Ents_init_91_13 ?_
  refine b_Ents_init_91_19 ?_
  refine b_Ents_init_91_22 ?_
  refine b_Ents_init_91_28 ?_
  refine b_Ents_init_91_31 ?_
  exact H _ _ (Zr_z (Zr_z (Zr_z (Zr_rf) (by omega)) (by omega)) (by omega))
theorem s_Eds_init_95 {ro : Nat → Int × (Int → Int)} {d : Nat} {I L : Nat → Int → Int} {Q : Option am_V → am_H → Prop} (H : ∀ I' L' : Nat → Int → Int, Zr 95 99 I L I' L' → Q none (zs22, I', L')) : am_m ro (d + 1) 77 [am_R 94] (zs15, I, L) Q := by
  refine am_in rfl rfl rfl rfl ?_
  refine b_Eds_init_95_0 ?_
  refine b_Eds_init_95_9 ?_
  refine b_Eds_init_95_12 ?_
  refine b_Eds_init_95_17 ?_
  refine b_Eds_init_95_20 ?_
  refine b_Eds_init_95_25 ?_
  refine b_Eds_init_95_28 ?_
  refine b_Eds_init_95_33 ?_
  refine b_Eds_init_95_36 ?_
  exact H _ _ (Zr_z (Zr_z (Zr_z (Zr_z (Zr_rf) (by omega)) (by omega)) (by omega)) (by omega))
theorem s_Peo_init_100 {ro : Nat → Int × (Int → Int)} {d : Nat} {I L : Nat → Int → Int} {Q : Option am_V → am_H → Prop} (H : ∀ I' L' : Nat → Int → Int, Zr 100 106 I L I' L' → Q none (zs35, I', L')) : am_m ro (d + 1) 81 [am_R 99] (zs24, I, L) Q := by
  refine am_in rfl rfl rfl rfl ?_
  refine b_Peo_init_100_0 ?_
  refine b_Peo_init_100_9 ?_
  refine b_Peo_init_100_12 ?_
  refine b_Peo_init_100_17 ?_
  refine b_Peo_init_100_20 ?_
  refine b_Peo_init_100_25 ?_
  refine b_Peo_init_100_28 ?_
  refine b_Peo_init_100_33 ?_
  refine b_Peo_init_100_36 ?_
  refine b_Peo_init_100_41 ?_
  refine b_Peo_init_100_44 ?_
  refine b_Peo_init_100_50 ?_
  refine b_Peo_init_100_53 ?_
  exact H _ _ (Zr_z (Zr_z (Zr_z (Zr_z (Zr_z (Zr_z (Zr_rf) (by omega)) (by omega)) (by omega)) (by omega)) (by omega)) (by omega))
theorem s_Shs_init_107 {ro : Nat → Int × (Int → Int)} {d : Nat} {I L : Nat → Int → Int} {Q : Option am_V → am_H → Prop} (H : ∀ I' L' : Nat → Int → Int, Zr 107 112 I L I' L' → Q none (zs46, I', L')) : am_m ro (d + 1) 89 [am_R 106] (zs37, I, L) Q := by
  refine am_in rfl rfl rfl rfl ?_
  refine b_Shs_init_107_0 ?_
  refine b_Shs_init_107_9 ?_
  refine b_Shs_init_107_12 ?_
  refine b_Shs_init_107_17 ?_
  refine b_Shs_init_107_20 ?_
  refine b_Shs_init_107_25 ?_
  refine b_Shs_init_107_28 ?_
  refine b_Shs_init_107_33 ?_
  refine b_Shs_init_107_36 ?_
  refine b_Shs_init_107_41 ?_
  refine b_Shs_init_107_44 ?_
  exact H _ _ (Zr_z (Zr_z (Zr_z (Zr_z (Zr_z (Zr_rf) (by omega)) (by omega)) (by omega)) (by omega)) (by omega))
theorem s_Ruls_init_113 {ro : Nat → Int × (Int → Int)} {d : Nat} {I L : Nat → Int → Int} {Q : Option am_V → am_H → Prop} (H : ∀ I' L' : Nat → Int → Int, Zr 113 120 I L I' L' → Q none (zs61, I', L')) : am_m ro (d + 1) 96 [am_R 112] (zs48, I, L) Q := by
  refine am_in rfl rfl rfl rfl ?_
  refine b_Ruls_init_113_0 ?_
  refine b_Ruls_init_113_9 ?_
  refine b_Ruls_init_113_12 ?_
  refine b_Ruls_init_113_17 ?_
  refine b_Ruls_init_113_20 ?_
  refine b_Ruls_init_113_25 ?_
  refine b_Ruls_init_113_28 ?_
  refine b_Ruls_init_113_33 ?_
  refine b_Ruls_init_113_36 ?_
  refine b_Ruls_init_113_41 ?_
  refine b_Ruls_init_113_44 ?_
  refine b_Ruls_init_113_50 ?_
  refine b_Ruls_init_113_53 ?_
  refine b_Ruls_init_113_58 ?_
  refine b_Ruls_init_113_61 ?_
  exact H _ _ (Zr_z (Zr_z (Zr_z (Zr_z (Zr_z (Zr_z (Zr_z (Zr_rf) (by omega)) (by omega)) (by omega)) (by omega)) (by omega)) (by omega)) (by omega))
theorem s_Yrs_init_121 {ro : Nat → Int × (Int → Int)} {d : Nat} {I L : Nat → Int → Int} {Q : Option am_V → am_H → Prop} (H : ∀ I' L' : Nat → Int → Int, Zr 121 129 I L I' L' → Q none (zs78, I', L')) : am_m ro (d + 1) 104 [am_R 120] (zs63, I, L) Q := by
  refine am_in rfl rfl rfl rfl ?_
  refine b_Yrs_init_121_0 ?_
  refine b_Yrs_init_121_9 ?_
  refine b_Yrs_init_121_12 ?_
  refine b_Yrs_init_121_18 ?_
  refine b_Yrs_init_121_21 ?_
  refine b_Yrs_init_121_26 ?_
  refine b_Yrs_init_121_29 ?_
  refine b_Yrs_init_121_34 ?_
  refine b_Yrs_init_121_37 ?_
  refine b_Yrs_init_121_42 ?_
  refine b_Yrs_init_121_45 ?_
  refine b_Yrs_init_121_50 ?_
  refine b_Yrs_init_121_53 ?_
  refine b_Yrs_init_121_59 ?_
  refine b_Yrs_init_121_62 ?_
  refine b_Yrs_init_121_68 ?_
  refine b_Yrs_init_121_71 ?_
  exact H _ _ (Zr_z (Zr_z (Zr_z (Zr_z (Zr_z (Zr_z (Zr_z (Zr_z (Zr_rf) (by omega)) (by omega)) (by omega)) (by omega)) (by omega)) (by omega)) (by omega)) (by omega))
theorem s_Land_init_86 {ro : Nat → Int × (Int → Int)} {d : Nat} {I L : Nat → Int → Int} {Q : Option am_V → am_H → Prop} (H : ∀ I' L' : Nat → Int → Int, Zr 86 129 I L I' L' → Q none (zs86, I', L')) : am_m ro (d + 2) 60 [am_R 85] (zs79, I, L) Q := by
  refine am_in rfl rfl rfl rfl ?_
  refine b_Land_init_86_0 ?_
  refine b_Land_init_86_8 (s_Libs_init_87 (fun I1 L1 z1 => ?_))
  refine b_Land_init_86_12 ?_
  refine b_Land_init_86_15 ?_
  refine b_Land_init_86_19 (s_Ents_init_91 (fun I2 L2 z2 => ?_))
  refine b_Land_init_86_23 ?_
  refine b_Land_init_86_26 ?_
  refine b_Land_init_86_30 (s_Eds_init_95 (fun I3 L3 z3 => ?_))
  refine b_Land_init_86_34 ?_
  refine b_Land_init_86_37 ?_
  refine b_Land_init_86_41 (s_Peo_init_100 (fun I4 L4 z4 => ?_))
  refine b_Land_init_86_45 ?_
  refine b_Land_init_86_48 ?_
  refine b_Land_init_86_52 (s_Shs_init_107 (fun I5 L5 z5 => ?_))
  refine b_Land_init_86_56 ?_
  refine b_Land_init_86_59 ?_
  refine b_Land_init_86_63 (s_Ruls_init_113 (fun I6 L6 z6 => ?_))
  refine b_Land_init_86_67 ?_
  refine b_Land_init_86_70 ?_
  refine b_Land_init_86_74 (s_Yrs_init_121 (fun I7 L7 z7 => ?_))
  refine b_Land_init_86_78 ?_
  refine b_Land_init_86_81 ?_
  exact H _ _ (Zr_tr (Zr_z (Zr_tr (Zr_z (Zr_tr (Zr_z (Zr_tr (Zr_z (Zr_tr (Zr_z (Zr_tr (Zr_z (Zr_tr (Zr_z (Zr_rf) (by omega)) z1 (by omega)) (by omega)) z2 (by omega)) (by omega)) z3 (by omega)) (by omega)) z4 (by omega)) (by omega)) z5 (by omega)) (by omega)) z6 (by omega)) (by omega)) z7 (by omega))
theorem s_Libs_init_3 {ro : Nat → Int × (Int → Int)} {d : Nat} {I L : Nat → Int → Int} {Q : Option am_V → am_H → Prop} (H : ∀ I' L' : Nat → Int → Int, Zr 3 6 I L I' L' → Q none (zs93, I', L')) : am_m ro (d + 1) 66 [am_R 2] (zs88, I, L) Q := by
  refine am_in rfl rfl rfl rfl ?_
  refine b_Libs_init_3_0 ?_
  refine b_Libs_init_3_9 ?_
  refine b_Libs_init_3_12 ?_
  refine b_Libs_init_3_17 ?_
  refine b_Libs_init_3_20 ?_
  refine b_Libs_init_3_24 ?_
  refine b_Libs_init_3_27 ?_
  exact H _ _ (Zr_z (Zr_z (Zr_z (Zr_rf) (by omega)) (by omega)) (by omega))
theorem s_Ents_init_7 {ro : Nat → Int × (Int → Int)} {d : Nat} {I L : Nat → Int → Int} {Q : Option am_V → am_H → Prop} (H : ∀ I' L' : Nat → Int → Int, Zr 7 10 I L I' L' → Q none (zs100, I', L')) : am_m ro (d + 1) 72 [am_R 6] (zs95, I, L) Q := by
  refine am_in rfl rfl rfl rfl ?_
  refine b_Ents_init_7_0 ?_
  refine b_Ents_init_7_10 ?_
  refine b_Ents_init_7_13 ?_
  refine b_Ents_init_7_19 ?_
  refine b_Ents_init_7_22 ?_
  refine b_Ents_init_7_28 ?_
  refine b_Ents_init_7_31 ?_
  exact H _ _ (Zr_z (Zr_z (Zr_z (Zr_rf) (by omega)) (by omega)) (by omega))
theorem s_Eds_init_11 {ro : Nat → Int × (Int → Int)} {d : Nat} {I L : Nat → Int → Int} {Q : Option am_V → am_H → Prop} (H : ∀ I' L' : Nat → Int → Int, Zr 11 15 I L I' L' → Q none (zs109, I', L')) : am_m ro (d + 1) 77 [am_R 10] (zs102, I, L) Q := by
  refine am_in rfl rfl rfl rfl ?_
  refine b_Eds_init_11_0 ?_
  refine b_Eds_init_11_9 ?_
  refine b_Eds_init_11_12 ?_
  refine b_Eds_init_11_17 ?_
  refine b_Eds_init_11_20 ?_
  refine b_Eds_init_11_25 ?_
  refine b_Eds_init_11_28 ?_
  refine b_Eds_init_11_33 ?_
  refine b_Eds_init_11_36 ?_
  exact H _ _ (Zr_z (Zr_z (Zr_z (Zr_z (Zr_rf) (by omega)) (by omega)) (by omega)) (by omega))
theorem s_Peo_init_16 {ro : Nat → Int × (Int → Int)} {d : Nat} {I L : Nat → Int → Int} {Q : Option am_V → am_H → Prop} (H : ∀ I' L' : Nat → Int → Int, Zr 16 22 I L I' L' → Q none (zs122, I', L')) : am_m ro (d + 1) 81 [am_R 15] (zs111, I, L) Q := by
  refine am_in rfl rfl rfl rfl ?_
  refine b_Peo_init_16_0 ?_
  refine b_Peo_init_16_9 ?_
  refine b_Peo_init_16_12 ?_
  refine b_Peo_init_16_17 ?_
  refine b_Peo_init_16_20 ?_
  refine b_Peo_init_16_25 ?_
  refine b_Peo_init_16_28 ?_
  refine b_Peo_init_16_33 ?_
  refine b_Peo_init_16_36 ?_
  refine b_Peo_init_16_41 ?_
  refine b_Peo_init_16_44 ?_
  refine b_Peo_init_16_50 ?_
  refine b_Peo_init_16_53 ?_
  exact H _ _ (Zr_z (Zr_z (Zr_z (Zr_z (Zr_z (Zr_z (Zr_rf) (by omega)) (by omega)) (by omega)) (by omega)) (by omega)) (by omega))
theorem s_Shs_init_23 {ro : Nat → Int × (Int → Int)} {d : Nat} {I L : Nat → Int → Int} {Q : Option am_V → am_H → Prop} (H : ∀ I' L' : Nat → Int → Int, Zr 23 28 I L I' L' → Q none (zs133, I', L')) : am_m ro (d + 1) 89 [am_R 22] (zs124, I, L) Q := by
  refine am_in rfl rfl rfl rfl ?_
  refine b_Shs_init_23_0 ?_
  refine b_Shs_init_23_9 ?_
  refine b_Shs_init_23_12 ?_
  refine b_Shs_init_23_17 ?_
  refine b_Shs_init_23_20 ?_
  refine b_Shs_init_23_25 ?_
  refine b_Shs_init_23_28 ?_
  refine b_Shs_init_23_33 ?_
  refine b_Shs_init_23_36 ?_
  refine b_Shs_init_23_41 ?_
  refine b_Shs_init_23_44 ?_
  exact H _ _ (Zr_z (Zr_z (Zr_z (Zr_z (Zr_z (Zr_rf) (by omega)) (by omega)) (by omega)) (by omega)) (by omega))
theorem s_Ruls_init_29 {ro : Nat → Int × (Int → Int)} {d : Nat} {I L : Nat → Int → Int} {Q : Option am_V → am_H → Prop} (H : ∀ I' L' : Nat → Int → Int, Zr 29 36 I L I' L' → Q none (zs148, I', L')) : am_m ro (d + 1) 96 [am_R 28] (zs135, I, L) Q := by
  refine am_in rfl rfl rfl rfl ?_
  refine b_Ruls_init_29_0 ?_
  refine b_Ruls_init_29_9 ?_
  refine b_Ruls_init_29_12 ?_
  refine b_Ruls_init_29_17 ?_
  refine b_Ruls_init_29_20 ?_
  refine b_Ruls_init_29_25 ?_
  refine b_Ruls_init_29_28 ?_
  refine b_Ruls_init_29_33 ?_
  refine b_Ruls_init_29_36 ?_
  refine b_Ruls_init_29_41 ?_
  refine b_Ruls_init_29_44 ?_
  refine b_Ruls_init_29_50 ?_
  refine b_Ruls_init_29_53 ?_
  refine b_Ruls_init_29_58 ?_
  refine b_Ruls_init_29_61 ?_
  exact H _ _ (Zr_z (Zr_z (Zr_z (Zr_z (Zr_z (Zr_z (Zr_z (Zr_rf) (by omega)) (by omega)) (by omega)) (by omega)) (by omega)) (by omega)) (by omega))
theorem s_Yrs_init_37 {ro : Nat → Int × (Int → Int)} {d : Nat} {I L : Nat → Int → Int} {Q : Option am_V → am_H → Prop} (H : ∀ I' L' : Nat → Int → Int, Zr 37 45 I L I' L' → Q none (zs165, I', L')) : am_m ro (d + 1) 104 [am_R 36] (zs150, I, L) Q := by
  refine am_in rfl rfl rfl rfl ?_
  refine b_Yrs_init_37_0 ?_
  refine b_Yrs_init_37_9 ?_
  refine b_Yrs_init_37_12 ?_
  refine b_Yrs_init_37_18 ?_
  refine b_Yrs_init_37_21 ?_
  refine b_Yrs_init_37_26 ?_
  refine b_Yrs_init_37_29 ?_
  refine b_Yrs_init_37_34 ?_
  refine b_Yrs_init_37_37 ?_
  refine b_Yrs_init_37_42 ?_
  refine b_Yrs_init_37_45 ?_
  refine b_Yrs_init_37_50 ?_
  refine b_Yrs_init_37_53 ?_
  refine b_Yrs_init_37_59 ?_
  refine b_Yrs_init_37_62 ?_
  refine b_Yrs_init_37_68 ?_
  refine b_Yrs_init_37_71 ?_
  exact H _ _ (Zr_z (Zr_z (Zr_z (Zr_z (Zr_z (Zr_z (Zr_z (Zr_z (Zr_rf) (by omega)) (by omega)) (by omega)) (by omega)) (by omega)) (by omega)) (by omega)) (by omega))
theorem s_Land_init_2 {ro : Nat → Int × (Int → Int)} {d : Nat} {I L : Nat → Int → Int} {Q : Option am_V → am_H → Prop} (H : ∀ I' L' : Nat → Int → Int, Zr 2 45 I L I' L' → Q none (zs173, I', L')) : am_m ro (d + 2) 60 [am_R 1] (zs166, I, L) Q := by
  refine am_in rfl rfl rfl rfl ?_
  refine b_Land_init_2_0 ?_
  refine b_Land_init_2_8 (s_Libs_init_3 (fun I1 L1 z1 => ?_))
  refine b_Land_init_2_12 ?_
  refine b_Land_init_2_15 ?_
  refine b_Land_init_2_19 (s_Ents_init_7 (fun I2 L2 z2 => ?_))
  refine b_Land_init_2_23 ?_
  refine b_Land_init_2_26 ?_
  refine b_Land_init_2_30 (s_Eds_init_11 (fun I3 L3 z3 => ?_))
  refine b_Land_init_2_34 ?_
  refine b_Land_init_2_37 ?_
  refine b_Land_init_2_41 (s_Peo_init_16 (fun I4 L4 z4 => ?_))
  refine b_Land_init_2_45 ?_
  refine b_Land_init_2_48 ?_
  refine b_Land_init_2_52 (s_Shs_init_23 (fun I5 L5 z5 => ?_))
  refine b_Land_init_2_56 ?_
  refine b_Land_init_2_59 ?_
  refine b_Land_init_2_63 (s_Ruls_init_29 (fun I6 L6 z6 => ?_))
  refine b_Land_init_2_67 ?_
  refine b_Land_init_2_70 ?_
  refine b_Land_init_2_74 (s_Yrs_init_37 (fun I7 L7 z7 => ?_))
  refine b_Land_init_2_78 ?_
  refine b_Land_init_2_81 ?_
  exact H _ _ (Zr_tr (Zr_z (Zr_tr (Zr_z (Zr_tr (Zr_z (Zr_tr (Zr_z (Zr_tr (Zr_z (Zr_tr (Zr_z (Zr_tr (Zr_z (Zr_rf) (by omega)) z1 (by omega)) (by omega)) z2 (by omega)) (by omega)) z3 (by omega)) (by omega)) z4 (by omega)) (by omega)) z5 (by omega)) (by omega)) z6 (by omega)) (by omega)) z7 (by omega))
theorem s_Rdr_init_46 {ro : Nat → Int × (Int → Int)} {d : Nat} {I L : Nat → Int → Int} {Q : Option am_V → am_H → Prop} (H : ∀ I' L' : Nat → Int → Int, Zr 46 51 I L I' L' → Q none (zs184, I', L')) : am_m ro (d + 1) 110 [am_R 45] (zs175, I, L) Q := by
  refine am_in rfl rfl rfl rfl ?_
  refine b_Rdr_init_46_0 ?_
  refine b_Rdr_init_46_9 ?_
  refine b_Rdr_init_46_12 ?_
  refine b_Rdr_init_46_17 ?_
  refine b_Rdr_init_46_20 ?_
  refine b_Rdr_init_46_25 ?_
  refine b_Rdr_init_46_28 ?_
  refine b_Rdr_init_46_33 ?_
  refine b_Rdr_init_46_36 ?_
  refine b_Rdr_init_46_41 ?_
  refine b_Rdr_init_46_44 ?_
  exact H _ _ (Zr_z (Zr_z (Zr_z (Zr_z (Zr_z (Zr_rf) (by omega)) (by omega)) (by omega)) (by omega)) (by omega))
theorem s_Cnt_init_52 {ro : Nat → Int × (Int → Int)} {d : Nat} {I L : Nat → Int → Int} {Q : Option am_V → am_H → Prop} (H : ∀ I' L' : Nat → Int → Int, Zr 52 58 I L I' L' → Q none (zs198, I', L')) : am_m ro (d + 1) 130 [am_R 51, am_R 1] (zs186, I, L) Q := by
  refine am_in rfl rfl rfl rfl ?_
  refine b_Cnt_init_52_0 ?_
  refine b_Cnt_init_52_10 ?_
  refine b_Cnt_init_52_13 ?_
  refine b_Cnt_init_52_18 ?_
  refine b_Cnt_init_52_21 ?_
  refine b_Cnt_init_52_26 ?_
  refine b_Cnt_init_52_29 ?_
  refine b_Cnt_init_52_34 ?_
  refine b_Cnt_init_52_37 ?_
  refine b_Cnt_init_52_42 ?_
  refine b_Cnt_init_52_45 ?_
  refine b_Cnt_init_52_50 ?_
  refine b_Cnt_init_52_53 ?_
  refine b_Cnt_init_52_58 ?_
  exact H _ _ (Zr_z (Zr_z (Zr_z (Zr_z (Zr_z (Zr_z (Zr_rf) (by omega)) (by omega)) (by omega)) (by omega)) (by omega)) (by omega))
theorem s_Pay_init_59 {ro : Nat → Int × (Int → Int)} {d : Nat} {I L : Nat → Int → Int} {Q : Option am_V → am_H → Prop} (H : ∀ I' L' : Nat → Int → Int, Zr 59 64 I L I' L' → Q none (zs211, I', L')) : am_m ro (d + 1) 138 [am_R 58, am_R 1, am_R 51] (zs200, I, L) Q := by
  refine am_in rfl rfl rfl rfl ?_
  refine b_Pay_init_59_0 ?_
  refine b_Pay_init_59_9 ?_
  refine b_Pay_init_59_12 ?_
  refine b_Pay_init_59_17 ?_
  refine b_Pay_init_59_20 ?_
  refine b_Pay_init_59_25 ?_
  refine b_Pay_init_59_28 ?_
  refine b_Pay_init_59_33 ?_
  refine b_Pay_init_59_36 ?_
  refine b_Pay_init_59_41 ?_
  refine b_Pay_init_59_44 ?_
  refine b_Pay_init_59_49 ?_
  refine b_Pay_init_59_54 ?_
  exact H _ _ (Zr_z (Zr_z (Zr_z (Zr_z (Zr_z (Zr_rf) (by omega)) (by omega)) (by omega)) (by omega)) (by omega))
theorem o_P_imageZ {ro : Nat → Int × (Int → Int)} {d : Nat} {I L : Nat → Int → Int} {Q : Option am_V → am_H → Prop} (H : ∀ I' L' : Nat → Int → Int, (∀ k, k < 85 → I' k = I k ∧ L' k = L k) → Cpy I L (fun k => I' (84 + k)) (fun k => L' (84 + k)) → Q (some (am_I (I' 1 0))) (sh true, I', L')) : am_m ro (d + 3) 37 [am_R 0] (sh false, I, L) Q := by
  refine am_in rfl rfl rfl rfl ?_
  refine b_P_image_85_0 ?_
  refine b_P_image_85_11 (s_Land_init_86 (fun I1 L1 z1 => ?_))
  have zz := Zr_tr (Zr_z Zr_rf (by omega)) z1 (by omega)
  refine b_P_image_85_15 ?_
  refine b_P_image_85_18 (s_Land_takeFromK_85_1 (fun I9 L9 f1 f2 => ?_))
  refine b_P_image_85_29 ?_
  refine H I9 L9 (fun k hk => ?_) (Cpy_cg f2 (fun k hk => (zz.1 k hk).1) (fun k hk => (zz.1 k hk).2))
  have e1 : I9 k = I1 k := funext (fun i => (f1 k i (by omega)).1)
  have e2 : L9 k = L1 k := funext (fun i => (f1 k i (by omega)).2)
  rw [e1, e2]
  exact zz.1 k hk
theorem A_image {ro : Nat → Int × (Int → Int)} {d : Nat} {b : Bool} {I L : Nat → Int → Int} (hI : Inv b I L) : am_m ro (d + 3) 37 [am_R 0] (sh b, I, L) (fun r h => am_m ro (d + 3) 247 [am_R 66] h (fun r2 h2 => Pair r r2 h2)) := by
  cases b with
  | true => exact A_imageK hI
  | false =>
    have ct := Cor_ct (Cor_of hI)
    refine o_P_imageZ (fun I1 L1 f1 f2 => ?_)
    refine o_M_image (d := d + 2) (fun I2 L2 g1 g2 g3 g4 g5 g6 => ?_)
    exact ⟨_, true, I2, L2, rfl, by rw [(f1 67 (by omega)).1, (f1 1 (by omega)).1, ct.1.1], rfl, Inv_img hI (fun k hk => (f1 k hk).1) (fun k hk => (f1 k hk).2) f2 g1 g2 g3 g4 g5 g6⟩
