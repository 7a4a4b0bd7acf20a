theorem Mo_al {I L : Nat → Int → Int} {k : Int} (h : Mo I L) (hk : 0 ≤ k ∧ k < 164) : 0 ≤ I 67 (75 + k) ∧ I 67 (75 + k) ≤ 9999999 := by
  obtain ⟨C, CL, hM0⟩ := h
  exact (hM0.1.2.2.2.2.2.2.2.1.2.2.1 k hk.1 hk.2).2
theorem gt0 {r : Int → Int} {m : Nat} {e : Int} : gt r m 0 e = 0 := rfl
theorem prt_0 {h : Int → Int} {m : Nat} {s e : Int} : prt h m 0 s e = 0 := by
  unfold prt
  have e1 : sm (fun e => 0 * h e / s) m = 0 := sm_zero m (fun k _ _ => by show 0 * h k / s = 0; rw [Int.zero_mul, Int.zero_ediv])
  rw [e1, Int.zero_mul, Int.zero_ediv]
  rfl
theorem est1_bd {I L : Nat → Int → Int} {y a g e : Int} (h : Mo I L) (hy : 0 ≤ y ∧ y ≤ 40) (hg : 0 ≤ g ∧ g < 4) (he : 0 ≤ e ∧ e < I 67 2) : 0 ≤ est1 (I 67) y a g e ∧ est1 (I 67) y a g e ≤ 9999999 := by
  have al := Mo_al (k := 4 * y + g) h (by omega)
  have e75 : 75 + (4 * y + g) = 75 + 4 * y + g := by omega
  rw [e75] at al
  unfold est1
  split
  · rename_i hp
    have w := prt_bd (h := fun e => rE (I 67) y a g e) (m := (I 67 2).toNat) (c := I 67 (75 + 4 * y + g)) (s := rA (I 67) y a g) (e := e) hp al.1 (fun k _ _ => (rE_bd h).1) rA_E (by omega)
    omega
  · omega
theorem est_sum {I L : Nat → Int → Int} {y a : Int} (h : Mo I L) (hy : 0 ≤ y ∧ y ≤ 40) : sm (fun e => est (I 67) y a e) (I 67 2).toNat ≤ 39999996 := by
  have e1 : sm (fun e => est (I 67) y a e) (I 67 2).toNat = sm (fun g => sm (fun e => est1 (I 67) y a g e) (I 67 2).toNat) 4 := (sm_swap (f := fun g e => est1 (I 67) y a g e) (I 67 2).toNat 4).symm
  rw [e1]
  have w := sm_bd (f := fun g => sm (fun e => est1 (I 67) y a g e) (I 67 2).toNat) (B := 9999999) 4 (fun g a1 a2 => by
    have al := Mo_al (k := 4 * y + g) h (by omega)
    have e75 : 75 + (4 * y + g) = 75 + 4 * y + g := by omega
    rw [e75] at al
    show 0 ≤ sm (fun e => est1 (I 67) y a g e) (I 67 2).toNat ∧ sm (fun e => est1 (I 67) y a g e) (I 67 2).toNat ≤ 9999999
    by_cases hp : 0 < rA (I 67) y a g
    · have e2 : sm (fun e => est1 (I 67) y a g e) (I 67 2).toNat = I 67 (75 + 4 * y + g) := by
        rw [← prt_sum (h := fun e => rE (I 67) y a g e) (m := (I 67 2).toNat) (c := I 67 (75 + 4 * y + g)) (s := rA (I 67) y a g) hp al.1 (fun k _ _ => (rE_bd h).1) rA_E]
        exact sm_congr _ (fun k _ _ => if_pos hp)
      omega
    · have e3 : sm (fun e => est1 (I 67) y a g e) (I 67 2).toNat = 0 := sm_zero _ (fun k _ _ => if_neg hp)
      omega)
  omega
theorem est_bd {I L : Nat → Int → Int} {y a e : Int} (h : Mo I L) (hy : 0 ≤ y ∧ y ≤ 40) (he : 0 ≤ e ∧ e < I 67 2) : 0 ≤ est (I 67) y a e ∧ est (I 67) y a e ≤ 39999996 := by
  have w := sm_bd (f := fun g => est1 (I 67) y a g e) (B := 9999999) 4 (fun g a1 a2 => est1_bd h hy ⟨a1, by omega⟩ he)
  unfold est
  omega
theorem lp_Cnt_work {ro : Nat → Int × (Int → Int)} {d : Nat} {b : Bool} {I : Nat → Int → Int} {Q : Option am_V → am_H → Prop} {bc bs : Nat} {x1 : Int} {a : Int} {L0 : Nat → Int → Int} (hM : Mo I L0) (hr : Rd (I 67) x1 a I L0) (hq : I 2 0 = I 67 1 ∧ I 10 0 = I 67 2 ∧ ∀ l, 0 ≤ l → l < 12 → I 3 l = I 67 (10 + l)) (hx : 0 ≤ x1 ∧ x1 ≤ 40) (hl : ∀ k, 0 ≤ k → k < 164 → I 38 k = I 67 (75 + k) ∧ 0 ≤ I 67 (75 + k) ∧ I 67 (75 + k) ≤ 9999999) (H : ∀ L : Nat → Int → Int, (∀ k, k ≠ 55 → k ≠ 56 → k ≠ 57 → L k = L0 k) → (∀ e, 0 ≤ e → e < I 67 2 → L 57 e = est (I 67) x1 a e) → Q none (sh b, I, L)) : ∀ (n : Nat) (L : Nat → Int → Int) (x3 : Int), (0 ≤ x3) → (x3 ≤ 4) → (∀ k, k ≠ 55 → k ≠ 56 → k ≠ 57 → L k = L0 k) → (∀ e, 0 ≤ e → e < I 67 2 → L 57 e = sm (fun g => est1 (I 67) x1 a g e) x3.toNat) → (∀ e, 0 ≤ e → e < I 67 2 → 0 ≤ L 57 e ∧ L 57 e ≤ 9999999 * x3) → 4 - x3 < (n : Int) → am_ex (am_m ro (d + 2)) ro am_M134 Q (16, [some (am_R 51), some (am_I x1), none, some (am_I x3), none, none, none, none], [], (sh b, I, L), bc, bs) := by
  intro n
  induction n with
  | zero =>
    intro L x3 i0 i1 i2 i3 i4 im
    exact absurd im (by omega)
  | succ n ih =>
    intro L x3 i0 i1 i2 i3 i4 im
    have ct := Mo_ct hM
    refine b_Cnt_work_16  (fun c1 => ?_) (fun c1 => ?_)
    · refine b_Cnt_work_75  ?_
      have e9 : x3 = 4 := by omega
      rw [e9] at i3
      exact H L i2 i3
    · refine b_Cnt_work_21  (s_Cnt_sumUpRegion (y := x1) (a := a) (Mo_cg hM rfl (i2 69 (by omega) (by omega) (by omega)) rfl) (Rd_cg hr rfl rfl (i2 51 (by omega) (by omega) (by omega)) (i2 53 (by omega) (by omega) (by omega)) (i2 54 (by omega) (by omega) (by omega))) hq (fun L9 f1 f2 => ?_))
      have ra := rA_bd (y := x1) (a := a) (r := x3) hM
      have al := hl (x1 * 4 + x3) (by omega) (by omega)
      have e75 : 75 + (x1 * 4 + x3) = 75 + 4 * x1 + x3 := by omega
      rw [e75] at al
      have e38 : I 38 (x1 * 4 + x3) = I 67 (75 + 4 * x1 + x3) := al.1
      refine b_Cnt_work_26 (by omega) (by omega) (by omega) (fun c2 => ?_) (fun c2 => ?_)
      · refine b_Cnt_work_69 (by omega) ?_
        refine ih L9 (x3 + 1) (by omega) (by omega) (fun k k1 k2 k3 => (f1 k k1).trans (i2 k k1 k2 k3)) (fun e a1 a2 => ?_) (fun e a1 a2 => ?_) (by omega)
        · rw [f1 57 (by omega), i3 e a1 a2, sm_step (by omega)]
          show _ = _ + est1 (I 67) x1 a x3 e
          unfold est1
          rw [if_neg (by omega)]
          omega
        · rw [f1 57 (by omega)]
          have w := i4 e a1 a2
          omega
      · refine b_Cnt_work_54  (fun c3 => ?_) (fun c3 => ?_)
        · refine b_Cnt_work_69 (by omega) ?_
          refine ih L9 (x3 + 1) (by omega) (by omega) (fun k k1 k2 k3 => (f1 k k1).trans (i2 k k1 k2 k3)) (fun e a1 a2 => ?_) (fun e a1 a2 => ?_) (by omega)
          · rw [f1 57 (by omega), i3 e a1 a2, sm_step (by omega)]
            show _ = _ + est1 (I 67) x1 a x3 e
            unfold est1
            rw [if_pos (by omega)]
            have e0 : I 67 (75 + 4 * x1 + x3) = 0 := by omega
            rw [e0, prt_0]
            omega
          · rw [f1 57 (by omega)]
            have w := i4 e a1 a2
            omega
        · refine b_Cnt_work_61  (s_Cnt_weighUp (h := fun e => rE (I 67) x1 a x3 e) (m9 := I 67 2) (by omega) (by omega) (fun e _ _ => rE_bd hM) rA_E f2 (fun e a1 a2 => by rw [f1 57 (by omega)]; have := i4 e a1 a2; omega) (fun L8 g1 g2 => ?_))
          refine b_Cnt_work_69 (by omega) ?_
          refine ih L8 (x3 + 1) (by omega) (by omega) (fun k k1 k2 k3 => (g1 k k2 k3).trans ((f1 k k1).trans (i2 k k1 k2 k3))) (fun e a1 a2 => ?_) (fun e a1 a2 => ?_) (by omega)
          · rw [g2 e a1 a2, f1 57 (by omega), i3 e a1 a2, sm_step (by omega)]
            show _ = _ + est1 (I 67) x1 a x3 e
            unfold est1
            rw [if_pos (by omega), e38]
          · rw [g2 e a1 a2, f1 57 (by omega)]
            have w := i4 e a1 a2
            have w2 := prt_bd (h := fun e => rE (I 67) x1 a x3 e) (m := (I 67 2).toNat) (c := I 38 (x1 * 4 + x3)) (s := rA (I 67) x1 a x3) (e := e) (by omega) (by omega) (fun k _ _ => (rE_bd hM).1) rA_E (by omega)
            omega
theorem s_Cnt_work {ro : Nat → Int × (Int → Int)} {d : Nat} {b : Bool} {I L : Nat → Int → Int} {Q : Option am_V → am_H → Prop} {x1 x2 : Int} (hC : Cor I L) (hx : 0 ≤ x1 ∧ x1 ≤ 40) (H : ∀ I' L' : Nat → Int → Int, Sc I L I' L' → (∀ e, 0 ≤ e → e < I 67 2 → L' 57 e = est (I 67) x1 x2 e) → Q none (sh b, I', L')) : am_m ro (d + 4) 134 [am_R 51, am_I x1, am_I x2] (sh b, I, L) Q := by
  have ct := Cor_ct hC
  refine am_in rfl rfl rfl rfl ?_
  refine b_Cnt_work_0  (s_Cnt_read hC (by omega) (fun I9 L9 s9 r9 => ?_))
  have f67 := Sc_67 s9
  have c9 := Cor_sc hC s9
  have ct9 := Cor_ct c9
  have hq9 : I9 2 0 = I9 67 1 ∧ I9 10 0 = I9 67 2 ∧ ∀ l, 0 ≤ l → l < 12 → I9 3 l = I9 67 (10 + l) := ⟨ct9.2.1.1, ct9.2.2.1.1, fun l a1 a2 => (c9.1.2.1.2.2.2.1 l a1 a2).1⟩
  have hl9 := c9.1.2.2.2.2.2.2.2.1.2.2.1
  have e62 : I9 67 2 = I 67 2 := by rw [f67]
  refine b_Cnt_work_6  (s_jfilll_57 ?_)
  refine b_Cnt_work_14  ?_
  have c8 := Cor_cg c9 (fun _ _ => rfl) (L' := am_fl L9 57 30 0) (fun k hk => fl_n (by omega))
  refine lp_Cnt_work (d := d + 1) (a := x2) (Mo_of c8) (Rd_cg (by rw [f67]; exact r9) rfl rfl (fl_n (by omega)) (fl_n (by omega)) (fl_n (by omega))) hq9 hx hl9 (fun L8 g1 g2 => ?_) 5 _ 0 (by omega) (by omega) (fun _ _ _ _ => rfl) (fun e a1 a2 => fl_i (by omega)) (fun e a1 a2 => by rw [fl_i (by omega)]; omega) (by omega)
  refine H I9 L8 ⟨s9.1, s9.2.1, fun k hk => ?_⟩ (fun e a1 a2 => ?_)
  · rw [g1 k (by omega) (by omega) (by omega), fl_n (by omega)]
    exact s9.2.2 k hk
  · rw [g2 e a1 (by omega), f67]
theorem o_P_estimate {ro : Nat → Int × (Int → Int)} {d : Nat} {b : Bool} {I L : Nat → Int → Int} {Q : Option am_V → am_H → Prop} {x1 x2 x3 : Int} (hC : Cor I L) (H1 : ¬ ((0 ≤ x1 ∧ x1 ≤ I 67 0) ∧ (0 ≤ x3 ∧ x3 ≤ I 67 0) ∧ 0 ≤ x2 ∧ x2 < I 67 2) → Q (some (am_I 0)) (sh b, rfC I (-3), L)) (H2 : (0 ≤ x1 ∧ x1 ≤ I 67 0) ∧ (0 ≤ x3 ∧ x3 ≤ I 67 0) ∧ 0 ≤ x2 ∧ x2 < I 67 2 → ∀ I' L' : Nat → Int → Int, Sc I L I' L' → Q (some (am_I (est (I 67) x1 x3 x2))) (sh b, I', L')) : am_m ro (d + 5) 26 [am_R 0, am_I x1, am_I x2, am_I x3] (sh b, I, L) Q := by
  have ct := Cor_ct hC
  refine am_in rfl rfl rfl rfl ?_
  refine b_P_estimate_0  (s_P_isYear (fun c1 => ?_) (fun c1 => ?_))
  · refine b_P_estimate_5  (fun c2 => absurd c2 (by decide)) (fun c2 => ?_)
    refine b_P_estimate_8  (s_P_isYear (fun c3 => ?_) (fun c3 => ?_))
    · refine b_P_estimate_13  (fun c4 => absurd c4 (by decide)) (fun c4 => ?_)
      refine b_P_estimate_16  (s_Eds_has (by omega) (fun c5 => ?_) (fun c5 => ?_))
      · refine b_P_estimate_27  (fun c6 => ?_) (fun c6 => absurd c6 (by decide))
        refine b_P_estimate_37  (s_Cnt_work hC (by omega) (fun I9 L9 s9 r9 => ?_))
        have q9 := r9 x2 (by omega) (by omega)
        have b9 := est_bd (y := x1) (a := x3) (e := x2) (Mo_of hC) (by omega) (by omega)
        refine b_P_estimate_46 (by omega) (by omega) ?_
        rw [q9]
        exact H2 (by omega) I9 L9 s9
      · refine b_P_estimate_27  (fun c7 => absurd c7 (by decide)) (fun c7 => ?_)
        refine b_P_estimate_30  (s_P_refuseAsZero (by omega) ?_)
        refine b_P_estimate_36  ?_
        exact H1 (by omega)
    · refine b_P_estimate_13  (fun c8 => ?_) (fun c8 => absurd c8 (by decide))
      refine b_P_estimate_30  (s_P_refuseAsZero (by omega) ?_)
      refine b_P_estimate_36  ?_
      exact H1 (by omega)
  · refine b_P_estimate_5  (fun c9 => ?_) (fun c9 => absurd c9 (by decide))
    refine b_P_estimate_30  (s_P_refuseAsZero (by omega) ?_)
    refine b_P_estimate_36  ?_
    exact H1 (by omega)
theorem lp_P_book {ro : Nat → Int × (Int → Int)} {d : Nat} {b : Bool} {I L : Nat → Int → Int} {Q : Option am_V → am_H → Prop} {bc bs : Nat} {x2 : Int} {f : Int → Int} {m9 : Int} {g : Int → Int} (hm : I 10 0 = m9 ∧ 0 ≤ m9 ∧ m9 ≤ 30 ∧ 0 ≤ x2 ∧ x2 < 30) (hf : ∀ k, 0 ≤ k → k < m9 → L 57 k = f k ∧ 0 ≤ f k ∧ f k ≤ 39999996) (hg : ∀ k, 0 ≤ k → k < 30 → I 14 k = g k) (H : Q (some (am_L (sm (fun k => if g k = g x2 then f k else 0) m9.toNat))) (sh b, I, L)) : ∀ (n : Nat) (x4 x6 : Int), (0 ≤ x6) → (x6 ≤ m9) → (x4 = sm (fun k => if g k = g x2 then f k else 0) x6.toNat) → (0 ≤ x4 ∧ x4 ≤ 39999996 * x6) → m9 - x6 < (n : Int) → am_ex (am_m ro (d + 0)) ro am_M27 Q (62, [some (am_R 0), none, some (am_I x2), some (am_R 14), some (am_L x4), none, some (am_I x6)], [], (sh b, I, L), bc, bs) := by
  intro n
  induction n with
  | zero =>
    intro x4 x6 i0 i1 i2 i3 im
    exact absurd im (by omega)
  | succ n ih =>
    intro x4 x6 i0 i1 i2 i3 im
    refine b_P_book_62  (fun c1 => ?_) (fun c1 => ?_)
    · refine b_P_book_108  ?_
      have e9 : x6 = m9 := by omega
      rw [i2, e9]
      exact H
    · have q9 := hf x6 (by omega) (by omega)
      have g9 := hg x6 (by omega) (by omega)
      have g8 := hg x2 (by omega) (by omega)
      refine b_P_book_77 (by omega) (by omega) (fun c2 => ?_) (fun c2 => ?_)
      · refine b_P_book_102 (by omega) ?_
        exact ih x4 (x6 + 1) (by omega) (by omega) (by rw [sm_step (by omega), ← i2]; first | (rw [if_pos (by omega)]; omega) | (rw [if_neg (by omega)]; omega)) (by omega) (by omega)
      · refine b_P_book_87 (by omega) (by omega) ?_
        refine b_P_book_102 (by omega) ?_
        exact ih ((x4 + (L 57 x6))) (x6 + 1) (by omega) (by omega) (by rw [sm_step (by omega), ← i2]; first | (rw [if_pos (by omega)]; omega) | (rw [if_neg (by omega)]; omega)) (by omega) (by omega)
theorem o_P_book {ro : Nat → Int × (Int → Int)} {d : Nat} {b : Bool} {I L : Nat → Int → Int} {Q : Option am_V → am_H → Prop} {x1 x2 : Int} (hC : Cor I L) (H1 : ¬ ((0 ≤ x1 ∧ x1 ≤ I 67 0) ∧ 0 ≤ x2 ∧ x2 < I 67 2) → Q (some (am_L 0)) (sh b, rfC I (-3), L)) (H2 : (0 ≤ x1 ∧ x1 ≤ I 67 0) ∧ 0 ≤ x2 ∧ x2 < I 67 2 → ∀ I' L' : Nat → Int → Int, Sc I L I' L' → Q (some (am_L (sm (fun k => if I 67 (370 + k) = I 67 (370 + x2) then est (I 67) x1 (I 67 0) k else 0) (I 67 2).toNat))) (sh b, I', L')) : am_m ro (d + 5) 27 [am_R 0, am_I x1, am_I x2] (sh b, I, L) Q := by
  have ct := Cor_ct hC
  refine am_in rfl rfl rfl rfl ?_
  refine b_P_book_0  (s_P_isYear (fun c1 => ?_) (fun c1 => ?_))
  · refine b_P_book_5  (fun c2 => absurd c2 (by decide)) (fun c2 => ?_)
    refine b_P_book_8  (s_Eds_has (by omega) (fun c3 => ?_) (fun c3 => ?_))
    · refine b_P_book_19  (fun c4 => ?_) (fun c4 => absurd c4 (by decide))
      refine b_P_book_30  (s_Cnt_work hC (by omega) (fun I9 L9 s9 r9 => ?_))
      refine b_P_book_45  ?_
      have f67 := Sc_67 s9
      have c9 := Cor_sc hC s9
      have ct9 := Cor_ct c9
      rw [f67] at ct9
      refine lp_P_book (d := d + 4) (f := fun k => est (I 67) x1 (I 67 0) k) (m9 := I 67 2) (g := fun k => I 67 (370 + k)) (by omega) (fun k a1 a2 => ⟨?_, est_bd (Mo_of hC) (by omega) ⟨a1, a2⟩⟩) (fun k a1 a2 => ?_) (H2 (by omega) I9 L9 s9) 31 0 0 (by omega) (by omega) rfl (by omega) (by omega)
      · rw [r9 k a1 a2, ct.1.1]
      · rw [(c9.1.2.2.2.1.2.2.2.1 k a1 a2).2.2.2, f67]
    · refine b_P_book_19  (fun c5 => absurd c5 (by decide)) (fun c5 => ?_)
      refine b_P_book_22  (s_P_refuseAsZero (by omega) ?_)
      refine b_P_book_28  ?_
      exact H1 (by omega)
  · refine b_P_book_5  (fun c6 => ?_) (fun c6 => absurd c6 (by decide))
    refine b_P_book_22  (s_P_refuseAsZero (by omega) ?_)
    refine b_P_book_28  ?_
    exact H1 (by omega)
