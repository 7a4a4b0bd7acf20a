set_option maxHeartbeats 1000000 in
theorem lp_M_works {ro : Nat → Int × (Int → Int)} {d : Nat} {b : Bool} {Q : Option am_V → am_H → Prop} {bc bs : Nat} {x1 : Int} {E : Int → Int} {w9 : Int} {I0 L0 : Nat → Int → Int} (hM : Mo I0 L0) (hx : 0 ≤ x1 ∧ x1 ≤ 40) (hw : I0 66 22 = w9) (hE : ∀ e, 0 ≤ e → e < I0 67 2 → I0 78 e = E e ∧ 0 ≤ E e ∧ E e ≤ 39999996) (H : ∀ I L : Nat → Int → Int, (∀ k, k ≠ 66 → k ≠ 76 → k ≠ 77 → I k = I0 k) → (∀ j, j ≠ 23 → I 66 j = I0 66 j) → (∀ k, k ≠ 81 → L k = L0 k) → (∀ q, 0 ≤ q → q < 20 → L 81 q = pnt (I0 67) E x1 w9 q) → Q none (sh b, I, L)) : ∀ (n : Nat) (I L : Nat → Int → Int) (x3 : Int), (0 ≤ x3) → (x3 ≤ I0 67 4) → ((∀ k, k ≠ 66 → k ≠ 76 → k ≠ 77 → I k = I0 k)) → ((∀ j, j ≠ 23 → I 66 j = I0 66 j)) → ((∀ k, k ≠ 81 → L k = L0 k)) → (∀ q, 0 ≤ q → q < 20 → L 81 q = sm (fun s => ctb (I0 67) x1 4 (I0 67 (960 + s)) (ptS (I0 67) E x1 w9 s) q) x3.toNat) → (∀ q, 0 ≤ q → q < 20 → 0 ≤ L 81 q ∧ L 81 q ≤ 479999952 * x3) → I0 67 4 - x3 < (n : Int) → am_ex (am_m ro (d + 6)) ro am_M221 Q (29, [some (am_R 66), some (am_I x1), none, some (am_I x3), none, none, none, none], [], (sh b, I, L), bc, bs) := by
  intro n
  induction n with
  | zero =>
    intro I L x3 i0 i1 i2 i3 i4 i5 i6 im
    exact absurd im (by omega)
  | succ n ih =>
    intro I L x3 i0 i1 i2 i3 i4 i5 i6 im
    have ct := Mo_ct hM
    have f67 : I 67 = I0 67 := i2 67 (by omega) (by omega) (by omega)
    have f78 : I 78 = I0 78 := i2 78 (by omega) (by omega) (by omega)
    have f674 : I 67 4 = I0 67 4 := by rw [f67]
    have mI : Mo I L := Mo_cg hM f67 (i4 69 (by omega)) (i2 72 (by omega) (by omega) (by omega))
    have f22 : I 66 22 = w9 := by rw [i3 22 (by omega)]; exact hw
    refine b_M_works_29  (fun c1 => ?_) (fun c1 => ?_)
    · refine b_M_works_195  ?_
      have e9 : x3 = I0 67 4 := by omega
      rw [e9] at i5
      exact H I L i2 i3 i4 i5
    · obtain ⟨C, CL, hM0⟩ := id hM
      have s5 := hM0.1.2.2.2.2.2.1.2.2.2.2 x3 (by omega) (by omega)
      have d5 := hM0.1.2.2.2.1.2.2.2.2 (I0 67 (900 + x3)) (by omega) (by omega)
      clear hM0
      have eE := hE (I0 67 (900 + x3)) (by omega) (by omega)
      have nf : ∀ k, k < 3 → nmF (I0 67) (I0 78) k x1 x3 = nmS (I0 67) E x1 x3 := fun k hk => by
        unfold nmF
        rw [if_pos ⟨hk, i0⟩]
        exact nmS_cg eE.1
      have pb := ptS_bd (p := I0 67) (E := E) (y := x1) (w := w9) (s := x3) eE.2 (by omega)
      have f72 : I 72 = I0 72 := i2 72 (by omega) (by omega) (by omega)
      have g := i2
      have j := i3
      refine b_M_works_39  (s_M_finds mI (by rw [f67]; omega) (fun I9 a9 b9 c9 => ?_))
      have f679 : I9 67 = I0 67 := by rw [a9 67 (by omega) (by omega) (by omega)]; exact f67
      have f789 : I9 78 = I0 78 := by rw [a9 78 (by omega) (by omega) (by omega)]; exact f78
      have mI9 : Mo I9 L := Mo_cg hM f679 (i4 69 (by omega)) (by rw [a9 72 (by omega) (by omega) (by omega)]; exact f72)
      have f729 : I9 72 = I0 72 := by rw [a9 72 (by omega) (by omega) (by omega)]; exact f72
      have f229 : I9 66 22 = w9 := by rw [b9 22 (by omega)]; exact f22
      have g9 : ∀ k, k ≠ 66 → k ≠ 76 → k ≠ 77 → I9 k = I0 k := fun k k1 k2 k3 => (a9 k k1 k2 k3).trans (g k k1 k2 k3)
      have j9 : ∀ j, j ≠ 23 → I9 66 j = I0 66 j := fun t ht => (b9 t ht).trans (j t ht)
      rw [f67, f78, f22, nf 0 (by omega)] at c9
      refine b_M_works_46  (fun c2 => ?_) (fun c2 => ?_)
      · refine b_M_works_189 (by omega) ?_
        refine ih I9 L (x3 + 1) (by omega) (by omega) g9 j9 i4 (fun q q1 q2 => ?_) (fun q q1 q2 => ?_) (by omega)
        · have z0 : ptS (I0 67) E x1 w9 x3 = 0 := by
            unfold ptS
            rw [if_pos (by omega)]
          rw [sm_step (by omega), i5 q q1 q2, z0, ctb_0]
          omega
        · have := i6 q q1 q2
          omega
      · have q00 : I9 67 (900 + x3) = I0 67 (900 + x3) := by rw [f679]
        have q60 : I9 67 (960 + x3) = I0 67 (960 + x3) := by rw [f679]
        refine b_M_works_54 (by omega) (by omega) (by omega) (by omega) (s_M_finds mI9 (by rw [f679]; omega) (fun I8 a8 b8 c8 => ?_))
        have f678 : I8 67 = I0 67 := by rw [a8 67 (by omega) (by omega) (by omega)]; exact f679
        have f788 : I8 78 = I0 78 := by rw [a8 78 (by omega) (by omega) (by omega)]; exact f789
        have mI8 : Mo I8 L := Mo_cg hM f678 (i4 69 (by omega)) (by rw [a8 72 (by omega) (by omega) (by omega)]; exact f729)
        have f728 : I8 72 = I0 72 := by rw [a8 72 (by omega) (by omega) (by omega)]; exact f729
        have f228 : I8 66 22 = w9 := by rw [b8 22 (by omega)]; exact f229
        have g8 : ∀ k, k ≠ 66 → k ≠ 76 → k ≠ 77 → I8 k = I0 k := fun k k1 k2 k3 => (a8 k k1 k2 k3).trans (g9 k k1 k2 k3)
        have j8 : ∀ j, j ≠ 23 → I8 66 j = I0 66 j := fun t ht => (b8 t ht).trans (j9 t ht)
        rw [f679, f789, f229, nf 1 (by omega)] at c8
        refine b_M_works_85  (s_M_bound ?_)
        refine b_M_works_93  (s_M_finds mI8 (by rw [f678]; omega) (fun I7 a7 b7 c7 => ?_))
        have f677 : I7 67 = I0 67 := by rw [a7 67 (by omega) (by omega) (by omega)]; exact f678
        have f787 : I7 78 = I0 78 := by rw [a7 78 (by omega) (by omega) (by omega)]; exact f788
        have mI7 : Mo I7 L := Mo_cg hM f677 (i4 69 (by omega)) (by rw [a7 72 (by omega) (by omega) (by omega)]; exact f728)
        have f727 : I7 72 = I0 72 := by rw [a7 72 (by omega) (by omega) (by omega)]; exact f728
        have f227 : I7 66 22 = w9 := by rw [b7 22 (by omega)]; exact f228
        have g7 : ∀ k, k ≠ 66 → k ≠ 76 → k ≠ 77 → I7 k = I0 k := fun k k1 k2 k3 => (a7 k k1 k2 k3).trans (g8 k k1 k2 k3)
        have j7 : ∀ j, j ≠ 23 → I7 66 j = I0 66 j := fun t ht => (b7 t ht).trans (j8 t ht)
        rw [f678, f788, f228, nf 2 (by omega)] at c7
        have q42 : I7 67 (420 + I9 67 (960 + x3)) = I0 67 (420 + I0 67 (960 + x3)) := by rw [f677, f679]
        refine b_M_works_102 (by omega) (by omega) (fun c3 => ?_) (fun c3 => ?_)
        · refine b_M_works_122  (s_M_bound ?_)
          have q78 : I7 78 (I9 67 (900 + x3)) = E (I0 67 (900 + x3)) := by rw [f787, f679]; exact eE.1
          have q28 : I7 67 (280 + I9 67 (900 + x3)) = I0 67 (280 + I0 67 (900 + x3)) := by rw [f677, f679]
          have q72 : I7 72 (I7 67 (280 + I9 67 (900 + x3))) = kpt (I0 67 (280 + I0 67 (900 + x3))) := by rw [q28]; rw [f727]; exact Mo_kp hM (by omega)
          have q10 : I7 67 (1080 + x3) = I0 67 (1080 + x3) := by rw [f677]
          have kb := kpt_bd (k := I0 67 (280 + I0 67 (900 + x3)))
          have b1 := bnd_bd (v := sy (I0 67) (nmS (I0 67) E x1 x3) 1 x1 w9)
          have b2 := bnd_bd (v := sy (I0 67) (nmS (I0 67) E x1 x3) 2 x1 w9)
          have fc := fac (e := E (I0 67 (900 + x3))) (k := kpt (I0 67 (280 + I0 67 (900 + x3)))) (s := I0 67 (1080 + x3)) (a := bnd (sy (I0 67) (nmS (I0 67) E x1 x3) 1 x1 w9)) (c := bnd (sy (I0 67) (nmS (I0 67) E x1 x3) 2 x1 w9)) eE.2 (by omega) (by omega) b1 (by omega)
          have pv : ptS (I0 67) E x1 w9 x3 = E (I0 67 (900 + x3)) * kpt (I0 67 (280 + I0 67 (900 + x3))) * I0 67 (1080 + x3) * bnd (sy (I0 67) (nmS (I0 67) E x1 x3) 1 x1 w9) * (bnd (sy (I0 67) (nmS (I0 67) E x1 x3) 2 x1 w9)) / 1000000 := by
            unfold ptS
            rw [if_neg (by omega), if_neg (by omega)]
          refine b_M_works_129 (by first | omega | (rw [q78]; omega) | (rw [q78, q72]; omega) | (rw [q78, q72, q10]; omega) | (rw [q78, q72, q10, c8]; omega) | (rw [q78, q72, q10, c8, c7]; omega)) (by first | omega | (rw [q78]; omega) | (rw [q78, q72]; omega) | (rw [q78, q72, q10]; omega) | (rw [q78, q72, q10, c8]; omega) | (rw [q78, q72, q10, c8, c7]; omega)) (by first | omega | (rw [q78]; omega) | (rw [q78, q72]; omega) | (rw [q78, q72, q10]; omega) | (rw [q78, q72, q10, c8]; omega) | (rw [q78, q72, q10, c8, c7]; omega)) (by first | omega | (rw [q78]; omega) | (rw [q78, q72]; omega) | (rw [q78, q72, q10]; omega) | (rw [q78, q72, q10, c8]; omega) | (rw [q78, q72, q10, c8, c7]; omega)) (by first | omega | (rw [q78]; omega) | (rw [q78, q72]; omega) | (rw [q78, q72, q10]; omega) | (rw [q78, q72, q10, c8]; omega) | (rw [q78, q72, q10, c8, c7]; omega)) (by first | omega | (rw [q78]; omega) | (rw [q78, q72]; omega) | (rw [q78, q72, q10]; omega) | (rw [q78, q72, q10, c8]; omega) | (rw [q78, q72, q10, c8, c7]; omega)) (by first | omega | (rw [q78]; omega) | (rw [q78, q72]; omega) | (rw [q78, q72, q10]; omega) | (rw [q78, q72, q10, c8]; omega) | (rw [q78, q72, q10, c8, c7]; omega)) (by first | omega | (rw [q78]; omega) | (rw [q78, q72]; omega) | (rw [q78, q72, q10]; omega) | (rw [q78, q72, q10, c8]; omega) | (rw [q78, q72, q10, c8, c7]; omega)) (by first | omega | (rw [q78]; omega) | (rw [q78, q72]; omega) | (rw [q78, q72, q10]; omega) | (rw [q78, q72, q10, c8]; omega) | (rw [q78, q72, q10, c8, c7]; omega)) (by first | omega | (rw [q78]; omega) | (rw [q78, q72]; omega) | (rw [q78, q72, q10]; omega) | (rw [q78, q72, q10, c8]; omega) | (rw [q78, q72, q10, c8, c7]; omega)) (by first | omega | (rw [q78]; omega) | (rw [q78, q72]; omega) | (rw [q78, q72, q10]; omega) | (rw [q78, q72, q10, c8]; omega) | (rw [q78, q72, q10, c8, c7]; omega)) (s_M_comes (by rw [f677]; exact Mo_Pm hM) 4 rfl (by rw [f677, q60]; omega) (by rw [q78, q72, q10, c8, c7]; omega) (by omega) (fun q q1 q2 => by have := i6 q q1 q2; rw [q78, q72, q10, c8, c7, ← pv]; omega) (fun L9 u1 u2 => ?_))
          refine b_M_works_189 (by omega) ?_
          refine ih I7 L9 (x3 + 1) (by omega) (by omega) g7 j7 (fun k hk => (u1 k hk).trans (i4 k hk)) (fun q q1 q2 => ?_) (fun q q1 q2 => ?_) (by omega)
          · rw [u2 q q1 q2, i5 q q1 q2, q78, q72, q10, c8, c7, f677, q60, sm_step (by omega), pv]
          · have cb := ctb_bd (y := x1) (m := 4) (n := I0 67 (960 + x3)) (v := ptS (I0 67) E x1 w9 x3) (q := q) (Mo_Pm hM) (by omega) (by omega) pb.1 ⟨q1, q2⟩
            have := i6 q q1 q2
            rw [pv] at cb pb
            rw [u2 q q1 q2, q78, q72, q10, c8, c7, f677, q60]
            omega
        · refine b_M_works_117  ?_
          have q78 : I7 78 (I9 67 (900 + x3)) = E (I0 67 (900 + x3)) := by rw [f787, f679]; exact eE.1
          have q28 : I7 67 (280 + I9 67 (900 + x3)) = I0 67 (280 + I0 67 (900 + x3)) := by rw [f677, f679]
          have q72 : I7 72 (I7 67 (280 + I9 67 (900 + x3))) = kpt (I0 67 (280 + I0 67 (900 + x3))) := by rw [q28]; rw [f727]; exact Mo_kp hM (by omega)
          have q10 : I7 67 (1080 + x3) = I0 67 (1080 + x3) := by rw [f677]
          have kb := kpt_bd (k := I0 67 (280 + I0 67 (900 + x3)))
          have b1 := bnd_bd (v := sy (I0 67) (nmS (I0 67) E x1 x3) 1 x1 w9)
          have b2 := bnd_bd (v := sy (I0 67) (nmS (I0 67) E x1 x3) 2 x1 w9)
          have fc := fac (e := E (I0 67 (900 + x3))) (k := kpt (I0 67 (280 + I0 67 (900 + x3)))) (s := I0 67 (1080 + x3)) (a := bnd (sy (I0 67) (nmS (I0 67) E x1 x3) 1 x1 w9)) (c := 100) eE.2 (by omega) (by omega) b1 (by omega)
          have pv : ptS (I0 67) E x1 w9 x3 = E (I0 67 (900 + x3)) * kpt (I0 67 (280 + I0 67 (900 + x3))) * I0 67 (1080 + x3) * bnd (sy (I0 67) (nmS (I0 67) E x1 x3) 1 x1 w9) * (100) / 1000000 := by
            unfold ptS
            rw [if_neg (by omega), if_pos (by omega)]
          refine b_M_works_129 (by first | omega | (rw [q78]; omega) | (rw [q78, q72]; omega) | (rw [q78, q72, q10]; omega) | (rw [q78, q72, q10, c8]; omega) | (rw [q78, q72, q10, c8, c7]; omega)) (by first | omega | (rw [q78]; omega) | (rw [q78, q72]; omega) | (rw [q78, q72, q10]; omega) | (rw [q78, q72, q10, c8]; omega) | (rw [q78, q72, q10, c8, c7]; omega)) (by first | omega | (rw [q78]; omega) | (rw [q78, q72]; omega) | (rw [q78, q72, q10]; omega) | (rw [q78, q72, q10, c8]; omega) | (rw [q78, q72, q10, c8, c7]; omega)) (by first | omega | (rw [q78]; omega) | (rw [q78, q72]; omega) | (rw [q78, q72, q10]; omega) | (rw [q78, q72, q10, c8]; omega) | (rw [q78, q72, q10, c8, c7]; omega)) (by first | omega | (rw [q78]; omega) | (rw [q78, q72]; omega) | (rw [q78, q72, q10]; omega) | (rw [q78, q72, q10, c8]; omega) | (rw [q78, q72, q10, c8, c7]; omega)) (by first | omega | (rw [q78]; omega) | (rw [q78, q72]; omega) | (rw [q78, q72, q10]; omega) | (rw [q78, q72, q10, c8]; omega) | (rw [q78, q72, q10, c8, c7]; omega)) (by first | omega | (rw [q78]; omega) | (rw [q78, q72]; omega) | (rw [q78, q72, q10]; omega) | (rw [q78, q72, q10, c8]; omega) | (rw [q78, q72, q10, c8, c7]; omega)) (by first | omega | (rw [q78]; omega) | (rw [q78, q72]; omega) | (rw [q78, q72, q10]; omega) | (rw [q78, q72, q10, c8]; omega) | (rw [q78, q72, q10, c8, c7]; omega)) (by first | omega | (rw [q78]; omega) | (rw [q78, q72]; omega) | (rw [q78, q72, q10]; omega) | (rw [q78, q72, q10, c8]; omega) | (rw [q78, q72, q10, c8, c7]; omega)) (by first | omega | (rw [q78]; omega) | (rw [q78, q72]; omega) | (rw [q78, q72, q10]; omega) | (rw [q78, q72, q10, c8]; omega) | (rw [q78, q72, q10, c8, c7]; omega)) (by first | omega | (rw [q78]; omega) | (rw [q78, q72]; omega) | (rw [q78, q72, q10]; omega) | (rw [q78, q72, q10, c8]; omega) | (rw [q78, q72, q10, c8, c7]; omega)) (s_M_comes (by rw [f677]; exact Mo_Pm hM) 4 rfl (by rw [f677, q60]; omega) (by rw [q78, q72, q10, c8]; omega) (by omega) (fun q q1 q2 => by have := i6 q q1 q2; rw [q78, q72, q10, c8, ← pv]; omega) (fun L9 u1 u2 => ?_))
          refine b_M_works_189 (by omega) ?_
          refine ih I7 L9 (x3 + 1) (by omega) (by omega) g7 j7 (fun k hk => (u1 k hk).trans (i4 k hk)) (fun q q1 q2 => ?_) (fun q q1 q2 => ?_) (by omega)
          · rw [u2 q q1 q2, i5 q q1 q2, q78, q72, q10, c8, f677, q60, sm_step (by omega), pv]
          · have cb := ctb_bd (y := x1) (m := 4) (n := I0 67 (960 + x3)) (v := ptS (I0 67) E x1 w9 x3) (q := q) (Mo_Pm hM) (by omega) (by omega) pb.1 ⟨q1, q2⟩
            have := i6 q q1 q2
            rw [pv] at cb pb
            rw [u2 q q1 q2, q78, q72, q10, c8, f677, q60]
            omega
