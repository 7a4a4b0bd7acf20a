theorem o_P_init {ro : Nat → Int × (Int → Int)} {d : Nat} {I L : Nat → Int → Int} {Q : Option am_V → am_H → Prop} (H : ∀ I' L' : Nat → Int → Int, (∀ i, i ≠ 6 → I' 0 i = I 0 i) → L' 0 = L 0 → I' 0 6 = -1 → (∀ k i, 1 ≤ k → k < 66 → I' k i = 0 ∧ L' k i = 0) → Q none (zs220, I', L')) : am_m ro (d + 3) 0 [am_R 0] (zs212, I, L) Q := by
  refine am_in rfl rfl rfl rfl ?_
  refine b_P_init_1_0 ?_
  refine b_P_init_1_8 (s_Land_init_2 (fun I1 L1 z1 => ?_))
  refine b_P_init_1_12 ?_
  refine b_P_init_1_15 ?_
  refine b_P_init_1_20 ?_
  refine b_P_init_1_24 (s_Rdr_init_46 (fun I2 L2 z2 => ?_))
  refine b_P_init_1_28 ?_
  refine b_P_init_1_31 ?_
  refine b_P_init_1_35 (s_Cnt_init_52 (fun I3 L3 z3 => ?_))
  refine b_P_init_1_43 ?_
  refine b_P_init_1_46 ?_
  refine b_P_init_1_50 (s_Pay_init_59 (fun I4 L4 z4 => ?_))
  refine b_P_init_1_62 ?_
  refine b_P_init_1_65 ?_
  refine b_P_init_1_70 ?_
  have zz := Zr_z (Zr_tr (Zr_z (Zr_tr (Zr_z (Zr_tr (Zr_z (Zr_tr (Zr_z (Zr_rf) (by omega)) z1 (by omega)) (by omega)) z2 (by omega)) (by omega)) z3 (by omega)) (by omega)) z4 (by omega)) (by omega)
  refine b_P_init_1_73 ?_
  refine b_P_init_1_83 ?_
  refine b_P_init_1_86 ?_
  refine H _ _ (fun i hi => ?_) ?_ ?_ (fun k i k1 k2 => ?_)
  · rw [z_n (by omega), upo hi]
    exact congrFun (zz.1 0 (by omega)).1 i
  · rw [z_n (by omega)]
    exact (zz.1 0 (by omega)).2
  · rw [z_n (by omega), ups]
  · by_cases e : k = 65
    · subst e
      exact ⟨z_s, z_s⟩
    · rw [z_n e, z_n e, upn (by omega)]
      exact ⟨(zz.2 k k1 (by omega)).1 i, (zz.2 k k1 (by omega)).2 i⟩
theorem o_M_init {ro : Nat → Int × (Int → Int)} {d : Nat} {I L : Nat → Int → Int} {Q : Option am_V → am_H → Prop} (H : ∀ I' L' : Nat → Int → Int, (∀ k i, k < 66 → I' k i = I k i ∧ L' k i = L k i) → (∀ i, i ≠ 9 → i ≠ 22 → I' 66 i = I 66 i) → (∀ i, L' 66 i = L 66 i) → I' 66 9 = -1 → I' 66 22 = -1 → (∀ k i, 67 ≤ k → k < 85 → (k ≠ 72 → I' k i = 0) ∧ (k ≠ 75 → L' k i = 0)) → (I' 72 0 = 12 ∧ I' 72 1 = 12 ∧ I' 72 2 = 6 ∧ I' 72 3 = 7 ∧ I' 72 4 = 4 ∧ I' 72 5 = 6) → (L' 75 0 = 7825519 ∧ L' 75 1 = 1885434484 ∧ L' 75 2 = 107075454591332 ∧ L' 75 3 = 1836020596 ∧ L' 75 4 = 465557353332 ∧ L' 75 5 = 1818326117 ∧ L' 75 6 = 1919904869 ∧ L' 75 7 = 1802071652 ∧ L' 75 8 = 1818324580 ∧ L' 75 9 = 2036687218 ∧ L' 75 10 = 1684365668 ∧ L' 75 11 = 427020085613 ∧ L' 75 12 = 482671228019 ∧ L' 75 13 = 31650994541847908 ∧ L' 75 14 = 499985443941 ∧ L' 75 15 = 465725124211 ∧ L' 75 16 = 26982 ∧ L' 75 17 = 28530 ∧ L' 75 18 = 6385252 ∧ L' 75 19 = 7237492) → Q none (sh false, I', L')) : am_m ro (d + 1) 154 [am_R 66] (zs222, I, L) Q := by
  refine am_in rfl rfl rfl rfl ?_
  refine b_M_init_67_0 ?_
  refine b_M_init_67_10 ?_
  refine b_M_init_67_13 ?_
  refine b_M_init_67_19 ?_
  refine b_M_init_67_22 ?_
  refine b_M_init_67_28 ?_
  refine b_M_init_67_31 ?_
  refine b_M_init_67_37 ?_
  refine b_M_init_67_40 ?_
  refine b_M_init_67_45 ?_
  refine b_M_init_67_48 ?_
  refine b_M_init_67_53 ?_
  refine b_M_init_67_82 ?_
  refine b_M_init_67_85 ?_
  refine b_M_init_67_90 ?_
  refine b_M_init_67_93 ?_
  refine b_M_init_67_103 ?_
  refine b_M_init_67_106 ?_
  refine b_M_init_67_111 ?_
  refine b_M_init_67_147 ?_
  refine b_M_init_67_189 ?_
  refine b_M_init_67_231 ?_
  refine b_M_init_67_248 ?_
  refine b_M_init_67_253 ?_
  refine b_M_init_67_256 ?_
  refine b_M_init_67_262 ?_
  refine b_M_init_67_265 ?_
  refine b_M_init_67_275 ?_
  refine b_M_init_67_278 ?_
  refine b_M_init_67_283 ?_
  refine b_M_init_67_286 ?_
  refine b_M_init_67_291 ?_
  refine b_M_init_67_294 ?_
  refine b_M_init_67_299 ?_
  refine b_M_init_67_302 ?_
  refine b_M_init_67_307 ?_
  refine b_M_init_67_310 ?_
  refine b_M_init_67_315 ?_
  refine b_M_init_67_318 ?_
  refine b_M_init_67_323 ?_
  refine b_M_init_67_326 ?_
  refine H _ _ (fun k i hk => ?_) (fun i h1 h2 => ?_) (fun i => ?_) ?_ ?_ (fun k i k1 k2 => ?_) ?_ ?_
  · have e : ∀ j, 66 ≤ j → (k = j) = False := fun j hj => eq_false (by omega)
    simp [am_z, am_up, e]
  · simp [am_z, am_up, h1, h2]
  · simp [am_z, am_up]
  · simp [am_z, am_up]
  · simp [am_z, am_up]
  · have hk : k = 67 ∨ k = 68 ∨ k = 69 ∨ k = 70 ∨ k = 71 ∨ k = 72 ∨ k = 73 ∨ k = 74 ∨ k = 75 ∨ k = 76 ∨ k = 77 ∨ k = 78 ∨ k = 79 ∨ k = 80 ∨ k = 81 ∨ k = 82 ∨ k = 83 ∨ k = 84 := by omega
    rcases hk with rfl | rfl | rfl | rfl | rfl | rfl | rfl | rfl | rfl | rfl | rfl | rfl | rfl | rfl | rfl | rfl | rfl | rfl <;> simp [am_z, am_up]
  · simp [am_z, am_up]
  · simp [am_z, am_up]
theorem Inv_new {I L : Nat → Int → Int} (h0 : ∀ k i, k < 85 → k ≠ 0 → k ≠ 66 → k ≠ 72 → I k i = 0) (hL : ∀ k i, k < 85 → k ≠ 75 → L k i = 0) (h1 : I 0 6 = -1) (h2 : ∀ i, i ≠ 9 → i ≠ 22 → I 66 i = 0) (h3 : I 66 9 = -1) (h4 : I 66 22 = -1) (h5 : I 72 0 = 12 ∧ I 72 1 = 12 ∧ I 72 2 = 6 ∧ I 72 3 = 7 ∧ I 72 4 = 4 ∧ I 72 5 = 6) (h6 : L 75 0 = 7825519 ∧ L 75 1 = 1885434484 ∧ L 75 2 = 107075454591332 ∧ L 75 3 = 1836020596 ∧ L 75 4 = 465557353332 ∧ L 75 5 = 1818326117 ∧ L 75 6 = 1919904869 ∧ L 75 7 = 1802071652 ∧ L 75 8 = 1818324580 ∧ L 75 9 = 2036687218 ∧ L 75 10 = 1684365668 ∧ L 75 11 = 427020085613 ∧ L 75 12 = 482671228019 ∧ L 75 13 = 31650994541847908 ∧ L 75 14 = 499985443941 ∧ L 75 15 = 465725124211 ∧ L 75 16 = 26982 ∧ L 75 17 = 28530 ∧ L 75 18 = 6385252 ∧ L 75 19 = 7237492) : Inv false I L := by
  have z : ∀ k i, k < 85 → k ≠ 0 → k ≠ 66 → k ≠ 72 → I k i = 0 := h0
  have p0 : ∀ i, I 67 i = 0 := fun i => h0 67 i (by omega) (by omega) (by omega) (by omega)
  have q0 : ∀ i, L 69 i = 0 := fun i => hL 69 i (by omega) (by omega)
  have hp : I 67 = fun _ => 0 := funext p0
  have hq : L 69 = fun _ => 0 := funext q0
  have c : ∀ k, 1 ≤ k → k ≤ 65 → I k = fun _ => 0 := fun k k1 k2 => funext (fun i => h0 k i (by omega) (by omega) (by omega) (by omega))
  have cl : ∀ k, 1 ≤ k → k ≤ 65 → L k = fun _ => 0 := fun k k1 k2 => funext (fun i => hL k i (by omega) (by omega))
  refine ⟨?_, fun e => (by cases e), ?_, ?_, ?_, ?_⟩
  · rw [hp, hq]
    refine ⟨?_, ?_, ?_, ?_, ?_, ?_, ?_, ?_, ?_, ?_⟩
    · unfold lOp
      rw [c 1 (by omega) (by omega)]
      dsimp only
      omega
    · unfold lLib
      rw [c 2 (by omega) (by omega), c 3 (by omega) (by omega), c 4 (by omega) (by omega)]
      dsimp only
      exact ⟨rfl, by omega, by omega, fun l a b => ⟨rfl, rfl⟩, fun l a b => by omega⟩
    · unfold lEnt
      rw [c 6 (by omega) (by omega)]
      dsimp only
      exact ⟨rfl, by omega, by omega, fun l a b => by omega, fun l a b => by omega, fun l a b => by omega, fun l a b => by omega, fun l a b => by omega⟩
    · unfold lEd
      rw [c 10 (by omega) (by omega), c 11 (by omega) (by omega), c 12 (by omega) (by omega), c 13 (by omega) (by omega), c 14 (by omega) (by omega)]
      dsimp only
      exact ⟨rfl, by omega, by omega, fun l a b => ⟨rfl, rfl, rfl, rfl⟩, fun l a b => by omega⟩
    · unfold lPeo
      rw [c 15 (by omega) (by omega), c 16 (by omega) (by omega), c 17 (by omega) (by omega), c 18 (by omega) (by omega), c 19 (by omega) (by omega), c 20 (by omega) (by omega), c 21 (by omega) (by omega)]
      dsimp only
      exact ⟨rfl, by omega, by omega, fun l a b => ⟨rfl, rfl, rfl, rfl, rfl⟩, fun l a b => by omega, fun k a b => ⟨rfl, by omega, by omega⟩⟩
    · unfold lSh
      rw [c 22 (by omega) (by omega), c 23 (by omega) (by omega), c 24 (by omega) (by omega), c 25 (by omega) (by omega), c 26 (by omega) (by omega), c 27 (by omega) (by omega)]
      dsimp only
      exact ⟨rfl, by omega, by omega, fun l a b => ⟨rfl, rfl, rfl, rfl, rfl⟩, fun l a b => by omega⟩
    · unfold lRul
      rw [c 28 (by omega) (by omega)]
      dsimp only
      exact ⟨rfl, by omega, by omega, fun l a b => by omega, fun l k a b => by omega, fun l a b => by omega⟩
    · unfold lYr
      rw [c 37 (by omega) (by omega), c 38 (by omega) (by omega), c 39 (by omega) (by omega), cl 40 (by omega) (by omega), cl 41 (by omega) (by omega), cl 42 (by omega) (by omega), cl 43 (by omega) (by omega), cl 44 (by omega) (by omega)]
      dsimp only
      exact ⟨fun l a b => ⟨rfl, rfl, rfl, rfl, rfl⟩, fun l a b => ⟨by omega, by omega, by omega, by omega⟩, fun k a b => ⟨rfl, by omega, by omega⟩, fun k a b => ⟨rfl, rfl⟩⟩
    · unfold lSum
      dsimp only
      exact ⟨fun l a b => by omega, fun l a b c d e => fun _ => rfl, fun l a b => by omega⟩
    · unfold lQ
      dsimp only
      exact ⟨fun y a b => ⟨by omega, by omega, by omega, by omega, by omega, by omega⟩, fun k a b => ⟨by omega, by omega, by omega, by omega⟩, fun k a b => rfl⟩
  · refine ⟨by omega, by omega, by omega, fun k a b => ?_⟩
    rw [c 64 (by omega) (by omega), h0 74 k (by omega) (by omega) (by omega) (by omega)]
  · unfold iTap
    rw [c 45 (by omega) (by omega), c 46 (by omega) (by omega), h2 8 (by omega) (by omega)]
    dsimp only
    exact ⟨rfl, by omega, by omega, fun k a b => ⟨(h0 73 k (by omega) (by omega) (by omega) (by omega)).symm, by omega, by omega⟩⟩
  · intro k a b
    rw [c 65 (by omega) (by omega), h0 71 k (by omega) (by omega) (by omega) (by omega)]
  · refine ⟨h4, ?_, h5, h6⟩
    rw [h2 4 (by omega) (by omega)]
    rfl
