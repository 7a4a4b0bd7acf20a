theorem s_P_bounded {ro : Nat → Int × (Int → Int)} {d : Nat} {b : Bool} {I L : Nat → Int → Int} {Q : Option am_V → am_H → Prop} {x0 x1 x2 : Int}  (H : Q (some (am_I (max x1 (min x2 x0)))) (sh b, I, L)) : am_m ro (d + 1) 54 [am_I x0, am_I x1, am_I x2] (sh b, I, L) Q := by
  refine am_in rfl rfl rfl rfl ?_
  refine b_P_bounded_0  ?_
  exact H
theorem s_M_bound {ro : Nat → Int × (Int → Int)} {d : Nat} {b : Bool} {I L : Nat → Int → Int} {Q : Option am_V → am_H → Prop} {x0 : Int}  (H : Q (some (am_I (bnd x0))) (sh b, I, L)) : am_m ro (d + 1) 218 [am_I x0] (sh b, I, L) Q := by
  refine am_in rfl rfl rfl rfl ?_
  refine b_M_bound_0  (fun c1 => ?_) (fun c1 => ?_)
  · refine b_M_bound_8  (fun c2 => ?_) (fun c2 => ?_)
    · refine b_M_bound_19  ?_
      refine b_M_bound_20  ?_
      have e8 : bnd x0 = x0 := by unfold bnd; omega
      rw [e8] at H
      exact H
    · refine b_M_bound_14  ?_
      refine b_M_bound_20  ?_
      have e8 : bnd x0 = 100 := by unfold bnd; omega
      rw [e8] at H
      exact H
  · refine b_M_bound_4  ?_
    refine b_M_bound_20  ?_
    have e8 : bnd x0 = 0 := by unfold bnd; omega
    rw [e8] at H
    exact H
theorem RoK_kp {ro : Nat → Int × (Int → Int)} {k : Int} (h : RoK ro) (hk : 0 ≤ k ∧ k ≤ 5) : (ro 2).2 k = kpt k := by
  obtain ⟨-, ⟨h0, h1, h2, h3, h4, h5, h6⟩⟩ := h
  have e : k = 0 ∨ k = 1 ∨ k = 2 ∨ k = 3 ∨ k = 4 ∨ k = 5 := by omega
  rcases e with e | e | e | e | e | e <;> subst e <;> simp [kpt, *]
theorem Mo_kp {I L : Nat → Int → Int} {k : Int} (h : Mo I L) (hk : 0 ≤ k ∧ k ≤ 5) : I 72 k = kpt k := by
  obtain ⟨C, CL, -, h1, h2, h3, h4, h5, h6⟩ := h
  have e : k = 0 ∨ k = 1 ∨ k = 2 ∨ k = 3 ∨ k = 4 ∨ k = 5 := by omega
  rcases e with e | e | e | e | e | e <;> subst e <;> simp [kpt, *]
set_option maxHeartbeats 1000000 in
theorem s_Pay_pointsOf {ro : Nat → Int × (Int → Int)} {d : Nat} {b : Bool} {I L : Nat → Int → Int} {Q : Option am_V → am_H → Prop} {x1 x2 x3 : Int} {E : Int → Int} (hro : RoK ro) (hC : Cor I L) (hx : (0 ≤ x1 ∧ x1 < I 67 4) ∧ 0 ≤ x2 ∧ x2 ≤ 40) (hE : ∀ e, 0 ≤ e → e < I 67 2 → L 57 e = E e ∧ 0 ≤ E e ∧ E e ≤ 39999996) (H : ∀ I' : Nat → Int → Int, (∀ k, k ≠ 35 → k ≠ 59 → I' k = I k) → Q (some (am_L (ptS (I 67) E x2 x3 x1))) (sh b, I', L)) : am_m ro (d + 5) 144 [am_R 58, am_I x1, am_I x2, am_I x3] (sh b, I, L) Q := by
  have ct := Cor_ct hC
  have s4 := hC.1.2.2.2.2.2.1.2.2.2.1 x1 (by omega) (by omega)
  have s5 := hC.1.2.2.2.2.2.1.2.2.2.2 x1 (by omega) (by omega)
  have d4 := hC.1.2.2.2.1.2.2.2.1 (I 67 (900 + x1)) (by omega) (by omega)
  have p4 := hC.1.2.2.2.2.1.2.2.2.1 (I 67 (960 + x1)) (by omega) (by omega)
  have p5 := hC.1.2.2.2.2.1.2.2.2.2.1 (I 67 (960 + x1)) (by omega) (by omega)
  have e23 : I 23 x1 = I 67 (900 + x1) := s4.1
  have e24 : I 24 x1 = I 67 (960 + x1) := s4.2.1
  have e19 : I 19 (I 24 x1) = I 67 (460 + I 67 (960 + x1)) := by rw [e24]; exact p4.2.2.2.1
  have e11 : I 11 (I 23 x1) = I 67 (280 + I 67 (900 + x1)) := by rw [e23]; exact d4.1
  have e17 : I 17 (I 24 x1) = I 67 (420 + I 67 (960 + x1)) := by rw [e24]; exact p4.2.1
  have d5 := hC.1.2.2.2.1.2.2.2.2 (I 67 (900 + x1)) (by omega) (by omega)
  refine am_in rfl rfl rfl rfl ?_
  refine b_Pay_pointsOf_0  (s_Pay_nameShare hC (by omega) (by rw [(hE _ (by omega) (by omega)).1]; have := (hE (I 67 (900 + x1)) (by omega) (by omega)).2; constructor <;> omega) (fun I9 h1 h2 => ?_))
  have c9 : Cor I9 L := Cor_sc hC (Sc_59 h1)
  have n9 : ∀ c, 0 ≤ c → c < 10 → I9 59 c = nmS (I 67) E x2 x1 c := fun c c1 c2 => by rw [h2 c c1 c2, nmS_cg (E' := E) (hE _ (by omega) (by omega)).1]
  have f9 : I9 67 = I 67 := h1 67 (by omega)
  refine b_Pay_pointsOf_15  (s_Ruls_worth (nm := nmS (I 67) E x2 x1) hro c9 n9 (by omega) (fun I8 v8 => ?_))
  have f8 : I8 67 = I 67 := by rw [v8 67 (by omega)]; exact f9
  have c8 : Cor I8 L := Cor_sc c9 (Sc_35 v8)
  have n8 : ∀ c, 0 ≤ c → c < 10 → I8 59 c = nmS (I 67) E x2 x1 c := fun c c1 c2 => by rw [v8 59 (by omega)]; exact n9 c c1 c2
  have g8 : ∀ k, k ≠ 35 → k ≠ 59 → I8 k = I k := fun k k1 k2 => (v8 k k1).trans (h1 k k2)
  rw [f9]
  refine b_Pay_pointsOf_27  (fun c1 => ?_) (fun c1 => ?_)
  · refine b_Pay_pointsOf_32 (by omega) (s_Ruls_worth (nm := nmS (I 67) E x2 x1) hro c8 n8 (by omega) (fun I7 v7 => ?_))
    have f7 : I7 67 = I 67 := by rw [v7 67 (by omega)]; exact f8
    have c7 : Cor I7 L := Cor_sc c8 (Sc_35 v7)
    have n7 : ∀ c, 0 ≤ c → c < 10 → I7 59 c = nmS (I 67) E x2 x1 c := fun c c1 c2 => by rw [v7 59 (by omega)]; exact n8 c c1 c2
    have g7 : ∀ k, k ≠ 35 → k ≠ 59 → I7 k = I k := fun k k1 k2 => (v7 k k1).trans (g8 k k1 k2)
    rw [f8]
    refine b_Pay_pointsOf_58  (s_P_bounded ?_)
    have q24 : I7 24 x1 = I 67 (960 + x1) := by rw [g7 24 (by omega) (by omega)]; exact e24
    have q17 : I7 17 (I7 24 x1) = I 67 (420 + I 67 (960 + x1)) := by rw [g7 17 (by omega) (by omega), g7 24 (by omega) (by omega)]; exact e17
    refine b_Pay_pointsOf_64 (by omega) (by omega) (fun c2 => ?_) (fun c2 => ?_)
    · have w23 : I8 23 x1 = I 67 (900 + x1) := by rw [g8 23 (by omega) (by omega)]; exact e23
      have w11 : I7 11 (I8 23 x1) = I 67 (280 + I 67 (900 + x1)) := by rw [w23, g7 11 (by omega) (by omega)]; exact d4.1
      have w26 : I7 26 x1 = I 67 (1080 + x1) := by rw [g7 26 (by omega) (by omega)]; exact s4.2.2.2.1
      have w57 : L 57 (I8 23 x1) = E (I 67 (900 + x1)) := by rw [w23]; exact (hE _ (by omega) (by omega)).1
      have wkp : (ro 2).2 (I7 11 (I8 23 x1)) = kpt (I 67 (280 + I 67 (900 + x1))) := by rw [w11]; exact RoK_kp hro (by omega)
      have kb := kpt_bd (k := I 67 (280 + I 67 (900 + x1)))
      have fc := fac (e := E (I 67 (900 + x1))) (k := kpt (I 67 (280 + I 67 (900 + x1)))) (s := I 67 (1080 + x1)) (a := max 0 (min 100 (sy (I 67) (nmS (I 67) E x2 x1) 1 x2 x3))) (c := 100) (hE _ (by omega) (by omega)).2 (by omega) (by omega) (by omega) (by omega)
      have r2 := hro.2.1
      refine b_Pay_pointsOf_119 (by first | omega | (simp only [w57, wkp, w26]; omega)) (by first | omega | (simp only [w57, wkp, w26]; omega)) (by first | omega | (simp only [w57, wkp, w26]; omega)) (by first | omega | (simp only [w57, wkp, w26]; omega)) (by first | omega | (simp only [w57, wkp, w26]; omega)) (by first | omega | (simp only [w57, wkp, w26]; omega)) (by first | omega | (simp only [w57, wkp, w26]; omega)) (by first | omega | (simp only [w57, wkp, w26]; omega)) (by first | omega | (simp only [w57, wkp, w26]; omega)) ?_
      have k9 := H I7 g7
      have e8 : ptS (I 67) E x2 x3 x1 = E (I 67 (900 + x1)) * kpt (I 67 (280 + I 67 (900 + x1))) * I 67 (1080 + x1) * max 0 (min 100 (sy (I 67) (nmS (I 67) E x2 x1) 1 x2 x3)) * (100) / 1000000 := by
        unfold ptS
        rw [if_neg (by omega), if_pos (by omega)]
        rfl
      rw [e8] at k9
      rw [w57, wkp, w26]
      exact k9
    · refine b_Pay_pointsOf_98  (s_Ruls_worth (nm := nmS (I 67) E x2 x1) hro c7 n7 (by omega) (fun I6 v6 => ?_))
      have g6 : ∀ k, k ≠ 35 → k ≠ 59 → I6 k = I k := fun k k1 k2 => (v6 k k1).trans (g7 k k1 k2)
      rw [f7]
      refine b_Pay_pointsOf_110  (s_P_bounded ?_)
      refine b_Pay_pointsOf_116  ?_
      have w23 : I8 23 x1 = I 67 (900 + x1) := by rw [g8 23 (by omega) (by omega)]; exact e23
      have w11 : I6 11 (I8 23 x1) = I 67 (280 + I 67 (900 + x1)) := by rw [w23, g6 11 (by omega) (by omega)]; exact d4.1
      have w26 : I6 26 x1 = I 67 (1080 + x1) := by rw [g6 26 (by omega) (by omega)]; exact s4.2.2.2.1
      have w57 : L 57 (I8 23 x1) = E (I 67 (900 + x1)) := by rw [w23]; exact (hE _ (by omega) (by omega)).1
      have wkp : (ro 2).2 (I6 11 (I8 23 x1)) = kpt (I 67 (280 + I 67 (900 + x1))) := by rw [w11]; exact RoK_kp hro (by omega)
      have kb := kpt_bd (k := I 67 (280 + I 67 (900 + x1)))
      have fc := fac (e := E (I 67 (900 + x1))) (k := kpt (I 67 (280 + I 67 (900 + x1)))) (s := I 67 (1080 + x1)) (a := max 0 (min 100 (sy (I 67) (nmS (I 67) E x2 x1) 1 x2 x3))) (c := max 0 (min 100 (sy (I 67) (nmS (I 67) E x2 x1) 2 x2 x3))) (hE _ (by omega) (by omega)).2 (by omega) (by omega) (by omega) (by omega)
      have r2 := hro.2.1
      refine b_Pay_pointsOf_119 (by first | omega | (simp only [w57, wkp, w26]; omega)) (by first | omega | (simp only [w57, wkp, w26]; omega)) (by first | omega | (simp only [w57, wkp, w26]; omega)) (by first | omega | (simp only [w57, wkp, w26]; omega)) (by first | omega | (simp only [w57, wkp, w26]; omega)) (by first | omega | (simp only [w57, wkp, w26]; omega)) (by first | omega | (simp only [w57, wkp, w26]; omega)) (by first | omega | (simp only [w57, wkp, w26]; omega)) (by first | omega | (simp only [w57, wkp, w26]; omega)) ?_
      have k9 := H I6 g6
      have e8 : ptS (I 67) E x2 x3 x1 = E (I 67 (900 + x1)) * kpt (I 67 (280 + I 67 (900 + x1))) * I 67 (1080 + x1) * max 0 (min 100 (sy (I 67) (nmS (I 67) E x2 x1) 1 x2 x3)) * (max 0 (min 100 (sy (I 67) (nmS (I 67) E x2 x1) 2 x2 x3))) / 1000000 := by
        unfold ptS
        rw [if_neg (by omega), if_neg (by omega)]
        rfl
      rw [e8] at k9
      rw [w57, wkp, w26]
      exact k9
  · refine b_Pay_pointsOf_30  ?_
    have k9 := H I8 g8
    have e8 : ptS (I 67) E x2 x3 x1 = 0 := by
      unfold ptS
      rw [if_pos (by omega)]
    rw [e8] at k9
    exact k9
set_option maxHeartbeats 1000000 in
theorem lp_Pay_gather {ro : Nat → Int × (Int → Int)} {d : Nat} {b : Bool} {Q : Option am_V → am_H → Prop} {bc bs : Nat} {x1 x3 : Int} {E : Int → Int} {I0 L0 : Nat → Int → Int} (hro : RoK ro) (hC : Cor I0 L0) (hx : 0 ≤ x1 ∧ x1 ≤ 40) (hE : ∀ e, 0 ≤ e → e < I0 67 2 → L0 57 e = E e ∧ 0 ≤ E e ∧ E e ≤ 39999996) (H : ∀ I L : Nat → Int → Int, (∀ k, k ≠ 35 → k ≠ 59 → I k = I0 k) → (∀ k, k ≠ 60 → L k = L0 k) → (∀ q, 0 ≤ q → q < 20 → L 60 q = pnt (I0 67) E x1 x3 q) → Q none (sh b, I, L)) : ∀ (n : Nat) (I L : Nat → Int → Int) (x4 : Int), (0 ≤ x4) → (x4 ≤ I0 67 4) → ((∀ k, k ≠ 35 → k ≠ 59 → I k = I0 k)) → ((∀ k, k ≠ 60 → L k = L0 k)) → (∀ q, 0 ≤ q → q < 20 → L 60 q = sm (fun s => ctb (I0 67) x1 4 (I0 67 (960 + s)) (ptS (I0 67) E x1 x3 s) q) x4.toNat) → (∀ q, 0 ≤ q → q < 20 → 0 ≤ L 60 q ∧ L 60 q ≤ 479999952 * x4) → I0 67 4 - x4 < (n : Int) → am_ex (am_m ro (d + 6)) ro am_M143 Q (20, [some (am_R 58), some (am_I x1), none, some (am_I x3), some (am_I x4), none, none], [], (sh b, I, L), bc, bs) := by
  intro n
  induction n with
  | zero =>
    intro I L x4 i0 i1 i2 i3 i4 i5 im
    exact absurd im (by omega)
  | succ n ih =>
    intro I L x4 i0 i1 i2 i3 i4 i5 im
    have ct := Cor_ct hC
    have f67 : I 67 = I0 67 := i2 67 (by omega) (by omega)
    have cI : Cor I L := Cor_cg hC (fun k hk => i2 k (by omega) (by omega)) (fun k hk => i3 k (by omega))
    have e22 : I 22 0 = I0 67 4 := by rw [i2 22 (by omega) (by omega)]; exact ct.2.2.2.2.1.1
    refine b_Pay_gather_20  (fun c1 => ?_) (fun c1 => ?_)
    · refine b_Pay_gather_108  ?_
      have e9 : x4 = I0 67 4 := by omega
      rw [e9] at i4
      exact H I L i2 i3 i4
    · have s4 := hC.1.2.2.2.2.2.1.2.2.2.1 x4 (by omega) (by omega)
      have s5 := hC.1.2.2.2.2.2.1.2.2.2.2 x4 (by omega) (by omega)
      have e23 : I 23 x4 = I0 67 (900 + x4) := by rw [i2 23 (by omega) (by omega)]; exact s4.1
      have e24 : I 24 x4 = I0 67 (960 + x4) := by rw [i2 24 (by omega) (by omega)]; exact s4.2.1
      have e57 : L 57 (I 23 x4) = E (I0 67 (900 + x4)) := by rw [e23, i3 57 (by omega)]; exact (hE _ (by omega) (by omega)).1
      have eb := (hE (I0 67 (900 + x4)) (by omega) (by omega)).2
      have pb := ptS_bd (p := I0 67) (E := E) (y := x1) (w := x3) (s := x4) eb (by omega)
      refine b_Pay_gather_35 (by omega) (by omega) (fun c2 => ?_) (fun c2 => ?_)
      · refine b_Pay_gather_102 (by omega) ?_
        refine ih I L (x4 + 1) (by omega) (by omega) i2 i3 (fun q q1 q2 => ?_) (fun q q1 q2 => ?_) (by omega)
        · rw [sm_step (by omega), i4 q q1 q2, ptS_0 (by omega), ctb_0]
          omega
        · have := i5 q q1 q2
          omega
      · refine b_Pay_gather_61  (s_Pay_pointsOf (E := E) hro cI (by rw [f67]; omega) (fun e a1 a2 => by rw [i3 57 (by omega)]; exact hE e a1 (by rw [f67] at a2; exact a2)) (fun I9 h9 => ?_))
        have g9 : ∀ k, k ≠ 35 → k ≠ 59 → I9 k = I0 k := fun k k1 k2 => (h9 k k1 k2).trans (i2 k k1 k2)
        have f9 : I9 67 = I0 67 := g9 67 (by omega) (by omega)
        have c9 : Cor I9 L := Cor_cg hC (fun k hk => g9 k (by omega) (by omega)) (fun k hk => i3 k (by omega))
        have e249 : I9 24 x4 = I0 67 (960 + x4) := by rw [g9 24 (by omega) (by omega)]; exact s4.2.1
        rw [f67]
        refine b_Pay_gather_69 (by omega) (s_Pay_passOn (PoC_of c9) hx 4 (by omega) (by rw [e249, f9]; omega) (by omega) (by omega) (fun q q1 q2 => by have := i5 q q1 q2; omega) (fun L9 u1 u2 => ?_))
        refine b_Pay_gather_102 (by omega) ?_
        refine ih I9 L9 (x4 + 1) (by omega) (by omega) g9 (fun k hk => (u1 k hk).trans (i3 k hk)) (fun q q1 q2 => ?_) (fun q q1 q2 => ?_) (by omega)
        · rw [u2 q q1 q2, i4 q q1 q2, f9, e249, sm_step (by omega)]
        · have cb := ctb_bd (y := x1) (m := 4) (n := I0 67 (960 + x4)) (v := ptS (I0 67) E x1 x3 x4) (q := q) (Pm_of hC.1) (by omega) (by omega) pb.1 ⟨q1, q2⟩
          have := i5 q q1 q2
          rw [u2 q q1 q2, f9, e249]
          omega
theorem s_Pay_gather {ro : Nat → Int × (Int → Int)} {d : Nat} {b : Bool} {I L : Nat → Int → Int} {Q : Option am_V → am_H → Prop} {x1 x2 x3 : Int} (hro : RoK ro) (hC : Cor I L) (hx : 0 ≤ x1 ∧ x1 ≤ 40) (H : ∀ I' L' : Nat → Int → Int, Sc I L I' L' → (∀ q, 0 ≤ q → q < 20 → L' 60 q = pnt (I 67) (fun e => est (I 67) x1 x2 e) x1 x3 q) → Q none (sh b, I', L')) : am_m ro (d + 7) 143 [am_R 58, am_I x1, am_I x2, am_I x3] (sh b, I, L) Q := by
  have ct := Cor_ct hC
  refine am_in rfl rfl rfl rfl ?_
  refine b_Pay_gather_0  (s_Cnt_work hC (by omega) (fun I9 L9 s9 r9 => ?_))
  refine b_Pay_gather_9  (s_jfilll_60 ?_)
  refine b_Pay_gather_17  ?_
  have f67 := Sc_67 s9
  have c9 := Cor_sc hC s9
  have c8 : Cor I9 (am_fl L9 60 20 0) := Cor_cg c9 (fun _ _ => rfl) (fun k hk => fl_n (by omega))
  refine lp_Pay_gather (d := d) (E := fun e => est (I 67) x1 x2 e) (I0 := I9) (L0 := am_fl L9 60 20 0) hro c8 hx (fun e a1 a2 => ⟨?_, est_bd (Mo_of hC) hx ⟨a1, by rw [f67] at a2; exact a2⟩⟩) (fun I8 L8 u1 u2 u3 => H I8 L8 ⟨fun k a1 a2 a3 a4 a5 a6 a7 a8 a9 a10 a11 a12 => (u1 k a2 a5).trans (s9.1 k a1 a2 a3 a4 a5 a6 a7 a8 a9 a10 a11 a12), fun j hj => by rw [u1 66 (by omega) (by omega)]; exact s9.2.1 j hj, fun k hk => by rw [u2 k (by omega), fl_n (by omega)]; exact s9.2.2 k hk⟩ (fun q q1 q2 => by rw [u3 q q1 q2, f67])) ((I9 67 4).toNat + 1) I9 _ 0 (by omega) (by rw [f67]; omega) (fun _ _ _ => rfl) (fun _ _ => rfl) (fun q q1 q2 => fl_i ⟨q1, q2⟩) (fun q q1 q2 => by rw [fl_i ⟨q1, q2⟩]; omega) (by omega)
  rw [fl_n (by omega)]
  exact r9 e a1 (by rw [f67] at a2; exact a2)
