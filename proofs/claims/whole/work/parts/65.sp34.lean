theorem Sc_59 {I L I' : Nat → Int → Int} (h : ∀ k, k ≠ 59 → I' k = I k) : Sc I L I' L :=
  ⟨fun k a1 a2 a3 a4 a5 a6 a7 a8 a9 a10 a11 a12 => h k a5, fun j a => by rw [h 66 (by omega)], fun k a => rfl⟩
theorem Sc_35 {I L I' : Nat → Int → Int} (h : ∀ k, k ≠ 35 → I' k = I k) : Sc I L I' L :=
  ⟨fun k a1 a2 a3 a4 a5 a6 a7 a8 a9 a10 a11 a12 => h k a2, fun j a => by rw [h 66 (by omega)], fun k a => rfl⟩
theorem s_Pay_nameFor {ro : Nat → Int × (Int → Int)} {d : Nat} {b : Bool} {I L : Nat → Int → Int} {Q : Option am_V → am_H → Prop} {x1 x2 x3 : Int} (hC : Cor I L) (hx : (0 ≤ x1 ∧ x1 ≤ 5) ∧ (0 ≤ x2 ∧ x2 ≤ 40) ∧ -1 ≤ x3 ∧ x3 < I 67 4) (H : ∀ I' L' : Nat → Int → Int, Sc I L I' L' → (∀ c, 0 ≤ c → c < 10 → I' 59 c = nmF (I 67) (fun e => est (I 67) x2 (I 67 0) e) x1 x2 x3 c) → Q none (sh b, I', L')) : am_m ro (d + 5) 139 [am_R 58, am_I x1, am_I x2, am_I x3] (sh b, I, L) Q := by
  have ct := Cor_ct hC
  refine am_in rfl rfl rfl rfl ?_
  refine b_Pay_nameFor_0  (fun c1 => ?_) (fun c1 => ?_)
  · refine b_Pay_nameFor_34  (s_Pay_nameNone (fun I8 h1 h2 => ?_))
    refine b_Pay_nameFor_39  ?_
    refine H I8 L (Sc_59 h1) (fun c c1 c2 => ?_)
    rw [h2 c c1 c2]
    unfold nmF
    rw [if_neg (by omega)]
  · refine b_Pay_nameFor_5  (fun c2 => ?_) (fun c2 => ?_)
    · refine b_Pay_nameFor_34  (s_Pay_nameNone (fun I8 h1 h2 => ?_))
      refine b_Pay_nameFor_39  ?_
      refine H I8 L (Sc_59 h1) (fun c c1 c2 => ?_)
      rw [h2 c c1 c2]
      unfold nmF
      rw [if_neg (by omega)]
    · refine b_Pay_nameFor_10  (s_Cnt_work hC (by omega) (fun I9 L9 s9 r9 => ?_))
      have f67 := Sc_67 s9
      have c9 := Cor_sc hC s9
      have s5 := hC.1.2.2.2.2.2.1.2.2.2.2 x3 (by omega) (by omega)
      refine b_Pay_nameFor_25  (s_Pay_nameShare c9 (by rw [f67]; omega) (by rw [f67, r9 _ (by omega) (by omega)]; have := est_bd (y := x2) (a := I 1 0) (e := I 67 (900 + x3)) (Mo_of hC) (by omega) (by omega); constructor <;> omega) (fun I8 h1 h2 => ?_))
      refine b_Pay_nameFor_31  ?_
      refine b_Pay_nameFor_39  ?_
      refine H I8 L9 (Sc_tr s9 (Sc_59 h1)) (fun c c1 c2 => ?_)
      rw [h2 c c1 c2, f67]
      unfold nmF
      rw [if_pos (by omega), nmS_cg (E := L9 57) (E' := fun e => est (I 67) x2 (I 67 0) e) ?_]
      rw [r9 _ (by omega) (by omega), ct.1.1]
theorem o_P_says {ro : Nat → Int × (Int → Int)} {d : Nat} {b : Bool} {I L : Nat → Int → Int} {Q : Option am_V → am_H → Prop} {x1 x2 x3 : Int} (hro : RoK ro) (hC : Cor I L) (H1 : ¬ ((0 ≤ x1 ∧ x1 ≤ 5) ∧ (0 ≤ x2 ∧ x2 ≤ I 67 0) ∧ -1 ≤ x3 ∧ x3 < I 67 4) → Q (some (am_I (0))) (sh b, rfC I (-3), L)) (H2 : (0 ≤ x1 ∧ x1 ≤ 5) ∧ (0 ≤ x2 ∧ x2 ≤ I 67 0) ∧ -1 ≤ x3 ∧ x3 < I 67 4 → ∀ I' L' : Nat → Int → Int, Sc I L I' L' → Q (some (am_I (sy (I 67) (nmF (I 67) (fun e => est (I 67) x2 (I 67 0) e) x1 x2 x3) x1 x2 (-1)))) (sh b, I', L')) : am_m ro (d + 6) 22 [am_R 0, am_I x1, am_I x2, am_I x3] (sh b, I, L) Q := by
  have ct := Cor_ct hC
  refine am_in rfl rfl rfl rfl ?_
  refine b_P_says_0  (s_P_isAsked (by omega) (fun c1 => ?_) (fun c1 => ?_))
  · refine b_P_says_7  (fun c2 => ?_) (fun c2 => absurd c2 (by decide))
    refine b_P_says_17  (s_Pay_nameFor hC (by omega) (fun I9 L9 s9 n9 => ?_))
    refine b_P_says_27  (s_Ruls_worth (nm := nmF (I 67) (fun e => est (I 67) x2 (I 67 0) e) x1 x2 x3) hro (Cor_sc hC s9) n9 (by omega) (fun I8 h8 => ?_))
    refine b_P_says_47  ?_
    rw [Sc_67 s9]
    exact H2 (by omega) I8 L9 (Sc_tr s9 (Sc_35 h8))
  · refine b_P_says_7  (fun c3 => absurd c3 (by decide)) (fun c3 => ?_)
    refine b_P_says_10  (s_P_refuseAsZero (by omega) ?_)
    refine b_P_says_16  ?_
    exact H1 (by omega)
theorem o_P_why {ro : Nat → Int × (Int → Int)} {d : Nat} {b : Bool} {I L : Nat → Int → Int} {Q : Option am_V → am_H → Prop} {x1 x2 x3 : Int} (hC : Cor I L) (H1 : ¬ ((0 ≤ x1 ∧ x1 ≤ 5) ∧ (0 ≤ x2 ∧ x2 ≤ I 67 0) ∧ -1 ≤ x3 ∧ x3 < I 67 4) → Q (some (am_I (-3))) (sh b, rfC I (-3), L)) (H2 : (0 ≤ x1 ∧ x1 ≤ 5) ∧ (0 ≤ x2 ∧ x2 ≤ I 67 0) ∧ -1 ≤ x3 ∧ x3 < I 67 4 → ∀ I' L' : Nat → Int → Int, Sc I L I' L' → Q (some (am_I (rl (I 67) (nmF (I 67) (fun e => est (I 67) x2 (I 67 0) e) x1 x2 x3) x1 x2 (-1) (I 67 5).toNat))) (sh b, I', L')) : am_m ro (d + 6) 23 [am_R 0, am_I x1, am_I x2, am_I x3] (sh b, I, L) Q := by
  have ct := Cor_ct hC
  refine am_in rfl rfl rfl rfl ?_
  refine b_P_why_0  (s_P_isAsked (by omega) (fun c1 => ?_) (fun c1 => ?_))
  · refine b_P_why_7  (fun c2 => ?_) (fun c2 => absurd c2 (by decide))
    refine b_P_why_17  (s_Pay_nameFor hC (by omega) (fun I9 L9 s9 n9 => ?_))
    refine b_P_why_27  (s_Ruls_ruling (nm := nmF (I 67) (fun e => est (I 67) x2 (I 67 0) e) x1 x2 x3) (Cor_sc hC s9) n9 (fun I8 h8 => ?_))
    refine b_P_why_47  ?_
    rw [Sc_67 s9]
    exact H2 (by omega) I8 L9 (Sc_tr s9 (Sc_35 h8))
  · refine b_P_why_7  (fun c3 => absurd c3 (by decide)) (fun c3 => ?_)
    refine b_P_why_10  (s_P_refuse (by omega) ?_)
    refine b_P_why_16  ?_
    exact H1 (by omega)
set_option maxHeartbeats 1000000 in
theorem lp_M_names {ro : Nat → Int × (Int → Int)} {d : Nat} {b : Bool} {L : Nat → Int → Int} {Q : Option am_V → am_H → Prop} {bc bs : Nat} {x1 x2 x3 : Int} {I0 : Nat → Int → Int} (hM : Mo I0 L) (hx : (0 ≤ x2 ∧ x2 ≤ 40) ∧ -1 ≤ x3 ∧ x3 < I0 67 4) (H : ∀ I : Nat → Int → Int, (∀ k, k ≠ 76 → I k = I0 k) → (∀ c, 0 ≤ c → c < 10 → I 76 c = nmF (I0 67) (I0 78) x1 x2 x3 c) → Q none (sh b, I, L)) : ∀ (n : Nat) (I : Nat → Int → Int) (x4 : Int), (0 ≤ x4) → (x4 ≤ 10) → (∀ k, k ≠ 76 → I k = I0 k) → (∀ c, 0 ≤ c → c < x4 → I 76 c = 0) → 10 - x4 < (n : Int) → am_ex (am_m ro (d + 0)) ro am_M210 Q (3, [some (am_R 66), some (am_I x1), some (am_I x2), some (am_I x3), some (am_I x4), none, none], [], (sh b, I, L), bc, bs) := by
  intro n
  induction n with
  | zero =>
    intro I x4 i0 i1 i2 i3 im
    exact absurd im (by omega)
  | succ n ih =>
    intro I x4 i0 i1 i2 i3 im
    have ct := Mo_ct hM
    have f67 : I 67 = I0 67 := i2 67 (by omega)
    have f78 : I 78 = I0 78 := i2 78 (by omega)
    refine b_M_names_3  (fun c1 => ?_) (fun c1 => ?_)
    · refine b_M_names_24  (fun c2 => ?_) (fun c2 => ?_)
      · refine b_M_names_237  ?_
        refine H _ (fun k hk => by rw [upn hk]; exact i2 k hk) (fun c c1 c2 => ?_)
        unfold nmF
        rw [if_neg (by omega)]
        unfold nmN
        by_cases ec : c = 3
        · rw [ec, ups, if_pos rfl]
        · rw [upo ec, if_neg ec]
          exact i3 c c1 (by omega)
      · refine b_M_names_36  (fun c3 => ?_) (fun c3 => ?_)
        · refine b_M_names_237  ?_
          refine H _ (fun k hk => by rw [upn hk]; exact i2 k hk) (fun c c1 c2 => ?_)
          unfold nmF
          rw [if_neg (by omega)]
          unfold nmN
          by_cases ec : c = 3
          · rw [ec, ups, if_pos rfl]
          · rw [upo ec, if_neg ec]
            exact i3 c c1 (by omega)
        · obtain ⟨C, CL, hM0⟩ := id hM
          have s5 := hM0.1.2.2.2.2.2.1.2.2.2.2 x3 (by omega) (by omega)
          have p5 := hM0.1.2.2.2.2.1.2.2.2.2.1 (I0 67 (960 + x3)) (by omega) (by omega)
          have d5 := hM0.1.2.2.2.1.2.2.2.2 (I0 67 (900 + x3)) (by omega) (by omega)
          have f60 : I 67 (960 + x3) = I0 67 (960 + x3) := by rw [f67]
          have f00 : I 67 (900 + x3) = I0 67 (900 + x3) := by rw [f67]
          have f46 : I 67 (460 + I 67 (960 + x3)) = I0 67 (460 + I0 67 (960 + x3)) := by rw [f67]
          have g46 : am_up I 76 3 x2 67 (460 + am_up I 76 3 x2 67 (960 + x3)) = I0 67 (460 + I0 67 (960 + x3)) := by simp (disch := omega) only [upm]; rw [f67]
          refine b_M_names_40 (by (try simp (disch := omega) only [upo, upm, ups, f67]); omega) (by (try simp (disch := omega) only [upo, upm, ups, f67]); omega) (by (try simp (disch := omega) only [upo, upm, ups, f67]); omega) (by (try simp (disch := omega) only [upo, upm, ups, f67]); omega) (by (try simp (disch := omega) only [upo, upm, ups, f67]); omega) (by (try simp (disch := omega) only [upo, upm, ups, f67]); omega) (by (try simp (disch := omega) only [upo, upm, ups, f67]); omega) (by (try simp (disch := omega) only [upo, upm, ups, f67]); omega) (by (try simp (disch := omega) only [upo, upm, ups, f67]); omega) (by (try simp (disch := omega) only [upo, upm, ups, f67]); omega) (by (try simp (disch := omega) only [upo, upm, ups, f67]); omega) (by (try simp (disch := omega) only [upo, upm, ups, f67]); omega) (fun c4 => ?_) (fun c4 => ?_)
          · refine b_M_names_145  ?_
            refine b_M_names_153 (by (try simp (disch := omega) only [upo, upm, ups, f67]); omega) (by (try simp (disch := omega) only [upo, upm, ups, f67]); omega) (by (try simp (disch := omega) only [upo, upm, ups, f67]); omega) (by (try simp (disch := omega) only [upo, upm, ups, f67]); omega) (by (try simp (disch := omega) only [upo, upm, ups, f67]); omega) (by (try simp (disch := omega) only [upo, upm, ups, f67]); omega) (by (try simp (disch := omega) only [upo, upm, ups, f67]); omega) (by (try simp (disch := omega) only [upo, upm, ups, f67]); omega) (by (try simp (disch := omega) only [upo, upm, ups, f67]); omega) (by (try simp (disch := omega) only [upo, upm, ups, f67]); omega) ?_
            refine b_M_names_237  ?_
            simp (disch := omega) only [upo, upm, ups, f67, f78]
            refine H _ (fun k hk => by (repeat rw [upn hk]); exact i2 k hk) ?_
            unfold nmF
            rw [if_pos (by omega)]
            refine c10 ?_ ?_ ?_ ?_ ?_ ?_ ?_ ?_ ?_ ?_
            all_goals (try simp (disch := omega) only [upo, upm, ups])
            all_goals first
              | rfl
              | (show _ = (if I0 67 (460 + I0 67 (960 + x3)) = -100 ∨ x2 ≤ I0 67 (460 + I0 67 (960 + x3)) then 0 else x2 - I0 67 (460 + I0 67 (960 + x3))); (first | rw [if_pos (by omega)] | rw [if_neg (by omega)]); done)
          · refine b_M_names_139  (fun c5 => ?_) (fun c5 => ?_)
            · refine b_M_names_149 (by (try simp (disch := omega) only [upo, upm, ups, f67]); omega) ?_
              refine b_M_names_153 (by (try simp (disch := omega) only [upo, upm, ups, f67]); omega) (by (try simp (disch := omega) only [upo, upm, ups, f67]); omega) (by (try simp (disch := omega) only [upo, upm, ups, f67]); omega) (by (try simp (disch := omega) only [upo, upm, ups, f67]); omega) (by (try simp (disch := omega) only [upo, upm, ups, f67]); omega) (by (try simp (disch := omega) only [upo, upm, ups, f67]); omega) (by (try simp (disch := omega) only [upo, upm, ups, f67]); omega) (by (try simp (disch := omega) only [upo, upm, ups, f67]); omega) (by (try simp (disch := omega) only [upo, upm, ups, f67]); omega) (by (try simp (disch := omega) only [upo, upm, ups, f67]); omega) ?_
              refine b_M_names_237  ?_
              simp (disch := omega) only [upo, upm, ups, f67, f78]
              refine H _ (fun k hk => by (repeat rw [upn hk]); exact i2 k hk) ?_
              unfold nmF
              rw [if_pos (by omega)]
              refine c10 ?_ ?_ ?_ ?_ ?_ ?_ ?_ ?_ ?_ ?_
              all_goals (try simp (disch := omega) only [upo, upm, ups])
              all_goals first
                | rfl
                | (show _ = (if I0 67 (460 + I0 67 (960 + x3)) = -100 ∨ x2 ≤ I0 67 (460 + I0 67 (960 + x3)) then 0 else x2 - I0 67 (460 + I0 67 (960 + x3))); (first | rw [if_pos (by omega)] | rw [if_neg (by omega)]); done)
            · refine b_M_names_145  ?_
              refine b_M_names_153 (by (try simp (disch := omega) only [upo, upm, ups, f67]); omega) (by (try simp (disch := omega) only [upo, upm, ups, f67]); omega) (by (try simp (disch := omega) only [upo, upm, ups, f67]); omega) (by (try simp (disch := omega) only [upo, upm, ups, f67]); omega) (by (try simp (disch := omega) only [upo, upm, ups, f67]); omega) (by (try simp (disch := omega) only [upo, upm, ups, f67]); omega) (by (try simp (disch := omega) only [upo, upm, ups, f67]); omega) (by (try simp (disch := omega) only [upo, upm, ups, f67]); omega) (by (try simp (disch := omega) only [upo, upm, ups, f67]); omega) (by (try simp (disch := omega) only [upo, upm, ups, f67]); omega) ?_
              refine b_M_names_237  ?_
              simp (disch := omega) only [upo, upm, ups, f67, f78]
              refine H _ (fun k hk => by (repeat rw [upn hk]); exact i2 k hk) ?_
              unfold nmF
              rw [if_pos (by omega)]
              refine c10 ?_ ?_ ?_ ?_ ?_ ?_ ?_ ?_ ?_ ?_
              all_goals (try simp (disch := omega) only [upo, upm, ups])
              all_goals first
                | rfl
                | (show _ = (if I0 67 (460 + I0 67 (960 + x3)) = -100 ∨ x2 ≤ I0 67 (460 + I0 67 (960 + x3)) then 0 else x2 - I0 67 (460 + I0 67 (960 + x3))); (first | rw [if_pos (by omega)] | rw [if_neg (by omega)]); done)
    · refine b_M_names_10 (by (try simp (disch := omega) only [upo, upm, ups, f67]); omega) (by (try simp (disch := omega) only [upo, upm, ups, f67]); omega) ?_
      exact ih (am_up I 76 x4 0) (x4 + 1) (by omega) (by omega) (by intro k hk; rw [upn hk]; exact i2 k hk) (by intro c c1 c2; by_cases ec : c = x4; (· rw [ec, ups]); (· rw [upo ec]; exact i3 c c1 (by omega))) (by omega)
theorem s_M_names {ro : Nat → Int × (Int → Int)} {d : Nat} {b : Bool} {I L : Nat → Int → Int} {Q : Option am_V → am_H → Prop} {x1 x2 x3 : Int} (hM : Mo I L) (hx : (0 ≤ x2 ∧ x2 ≤ 40) ∧ -1 ≤ x3 ∧ x3 < I 67 4) (H : ∀ I' : Nat → Int → Int, (∀ k, k ≠ 76 → I' k = I k) → (∀ c, 0 ≤ c → c < 10 → I' 76 c = nmF (I 67) (I 78) x1 x2 x3 c) → Q none (sh b, I', L)) : am_m ro (d + 1) 210 [am_R 66, am_I x1, am_I x2, am_I x3] (sh b, I, L) Q := by
  refine am_in rfl rfl rfl rfl ?_
  refine b_M_names_0  ?_
  exact lp_M_names (d := d) (I0 := I) hM hx H 11 I 0 (by omega) (by omega) (fun _ _ => rfl) (fun c c1 c2 => by omega) (by omega)
set_option maxHeartbeats 1000000 in
theorem lp_M_finds {ro : Nat → Int × (Int → Int)} {d : Nat} {b : Bool} {L : Nat → Int → Int} {Q : Option am_V → am_H → Prop} {bc bs : Nat} {x1 x2 : Int} {nm : Int → Int} {w9 : Int} {I0 : Nat → Int → Int} (hM : Mo I0 L) (H : ∀ I : Nat → Int → Int, (∀ k, k ≠ 66 → k ≠ 76 → k ≠ 77 → I k = I0 k) → (∀ j, j ≠ 23 → I 66 j = I0 66 j) → I 66 23 = sy (I0 67) nm x1 x2 w9 → Q (some (am_I (rl (I0 67) nm x1 x2 w9 (I0 67 5).toNat))) (sh b, I, L)) (hw9 : I0 66 22 = w9) : ∀ (n : Nat) (I : Nat → Int → Int) (x4 x5 : Int), (0 ≤ x5) → (x5 ≤ I0 67 5) → ((∀ k, k ≠ 66 → k ≠ 76 → k ≠ 77 → I k = I0 k)) → (∀ j, j ≠ 23 → I 66 j = I0 66 j) → (∀ c, 0 ≤ c → c < 10 → I 76 c = nm c) → (x4 = rl (I0 67) nm x1 x2 w9 x5.toNat) → (I 66 23 = if x4 = -1 then df x1 else vl (I0 67) nm x4) → I0 67 5 - x5 < (n : Int) → am_ex (am_m ro (d + 2)) ro am_M211 Q (36, [some (am_R 66), some (am_I x1), some (am_I x2), none, some (am_I x4), some (am_I x5), none], [], (sh b, I, L), bc, bs) := by
  intro n
  induction n with
  | zero =>
    intro I x4 x5 i0 i1 i2 i3 i4 i5 i6 im
    exact absurd im (by omega)
  | succ n ih =>
    intro I x4 x5 i0 i1 i2 i3 i4 i5 i6 im
    have ct := Mo_ct hM
    have f67 : I 67 = I0 67 := i2 67 (by omega) (by omega) (by omega)
    have f5 : I 67 5 = I0 67 5 := by rw [f67]
    have f22 : I 66 22 = w9 := by rw [i3 22 (by omega)]; exact hw9
    refine b_M_finds_36  (fun c1 => ?_) (fun c1 => ?_)
    · refine b_M_finds_218  ?_
      have e9 : x5 = I0 67 5 := by omega
      rw [e9] at i5
      rw [i5] at i6 ⊢
      exact H I i2 i3 i6
    · obtain ⟨C, CL, hM0⟩ := id hM
      have wq := (hM0.1.2.2.2.2.2.2.1.2.2.2.1 x5 (by omega) (by omega)).2.2.2.2.2
      have w6 := hM0.1.2.2.2.2.2.2.1.2.2.2.2.2 x5 (by omega) (by omega)
      clear hM0
      have m0 : I 67 (2800 + x5) = I0 67 (2800 + x5) := by rw [f67]
      have m1 : I 67 (2812 + x5) = I0 67 (2812 + x5) := by rw [f67]
      have m2 : I 67 (2824 + x5) = I0 67 (2824 + x5) := by rw [f67]
      have m3 : I 67 (2836 + x5) = I0 67 (2836 + x5) := by rw [f67]
      have m4 : I 67 (2848 + x5) = I0 67 (2848 + x5) := by rw [f67]
      have rs9 := rl_s (p := I0 67) (nm := nm) (key := x1) (y := x2) (w := w9) (i := x5) (by omega)
      rw [← i5] at rs9
      refine b_M_finds_47  (fun c2 => ?_) (fun c2 => ?_)
      · refine b_M_finds_212 (by omega) ?_
        rw [if_neg (fun q => by omega)] at rs9
        exact ih I x4 (x5 + 1) (by omega) (by omega) i2 i3 i4 rs9.symm i6 (by omega)
      · refine b_M_finds_56 (by omega) (by omega) (fun c3 => ?_) (fun c3 => ?_)
        · refine b_M_finds_212 (by omega) ?_
          rw [if_neg (fun q => by omega)] at rs9
          exact ih I x4 (x5 + 1) (by omega) (by omega) i2 i3 i4 rs9.symm i6 (by omega)
        · refine b_M_finds_71 (by omega) (by omega) (fun c4 => ?_) (fun c4 => ?_)
          · refine b_M_finds_212 (by omega) ?_
            rw [if_neg (fun q => by omega)] at rs9
            exact ih I x4 (x5 + 1) (by omega) (by omega) i2 i3 i4 rs9.symm i6 (by omega)
          · refine b_M_finds_86 (by omega) (by omega) (fun c5 => ?_) (fun c5 => ?_)
            · refine b_M_finds_212 (by omega) ?_
              rw [if_neg (fun q => by omega)] at rs9
              exact ih I x4 (x5 + 1) (by omega) (by omega) i2 i3 i4 rs9.symm i6 (by omega)
            · refine b_M_finds_101 (by omega) (by omega) (by omega) (by omega) (fun c6 => ?_) (fun c6 => ?_)
              · refine b_M_finds_157  ?_
                refine b_M_finds_162  (fun c7 => absurd c7 (by decide)) (fun c7 => ?_)
                refine b_M_finds_169  ?_
                refine b_M_finds_176  (fun c8 => absurd c8 (by decide)) (fun c8 => ?_)
                refine b_M_finds_184 (by omega) (by omega) (s_M_worth (f := fr (I0 67) x5) (nm := nm) (by omega) (fun k => by rw [f67]; rfl) i4 (by rw [m3, Int.sub_zero]; exact w6.1) (fun I8 f8 => ?_))
                refine b_M_finds_202  ?_
                refine b_M_finds_209  ?_
                refine b_M_finds_212 (by omega) ?_
                have cdv : cdn (I0 67) nm x5 = 1 := by
                  unfold cdn
                  rw [if_pos (by omega)]
                rw [if_pos ⟨by omega, by omega, by omega, by omega, by omega⟩] at rs9
                refine ih ((am_up I8 66 23 ((stk (fr (I0 67) x5) nm 0 (I 67 (2836 + x5) - 0).toNat 0)))) x5 (x5 + 1) (by omega) (by omega) (fun k k1 k2 k3 => ?_) (fun j hj => ?_) (fun c c1 c2 => ?_) rs9.symm ?_ (by omega)
                · rw [upn k1]
                  exact (f8 k k3).trans (i2 k k1 k2 k3)
                · rw [upo hj, f8 66 (by omega)]
                  exact i3 j hj
                · rw [upm (by omega), f8 76 (by omega)]
                  exact i4 c c1 c2
                · rw [ups, if_neg (by omega)]
                  unfold vl
                  rw [m3, Int.sub_zero]
              · refine b_M_finds_126 (by omega) (by omega) (by omega) (by omega) (s_M_worth (f := fr (I0 67) x5) (nm := nm) (by omega) (fun k => by rw [f67]; rfl) i4 (by rw [m3, m4]; exact w6.2 (by omega)) (fun I9 f9 => ?_))
                have cdv : cdn (I0 67) nm x5 = stk (fr (I0 67) x5) nm (I 67 (2836 + x5)) (I 67 (2848 + x5) - I 67 (2836 + x5)).toNat 0 := by
                  unfold cdn
                  rw [if_neg (by omega), m3, m4]
                refine b_M_finds_154  (fun c9 => ?_) (fun c9 => ?_)
                · refine b_M_finds_161  ?_
                  refine b_M_finds_162  (fun c10 => ?_) (fun c10 => absurd c10 (by decide))
                  refine b_M_finds_174  ?_
                  refine b_M_finds_176  (fun c11 => ?_) (fun c11 => absurd c11 (by decide))
                  refine b_M_finds_205  ?_
                  refine b_M_finds_209  ?_
                  refine b_M_finds_212 (by omega) ?_
                  rw [if_neg (fun q => by omega)] at rs9
                  refine ih ((am_up I9 66 23 (I9 66 23))) x4 (x5 + 1) (by omega) (by omega) (fun k k1 k2 k3 => ?_) (fun j hj => ?_) (fun c c1 c2 => ?_) rs9.symm ?_ (by omega)
                  · rw [upn k1]
                    exact (f9 k k3).trans (i2 k k1 k2 k3)
                  · rw [upo hj, f9 66 (by omega)]
                    exact i3 j hj
                  · rw [upm (by omega), f9 76 (by omega)]
                    exact i4 c c1 c2
                  · rw [ups, f9 66 (by omega)]
                    exact i6
                · refine b_M_finds_157  ?_
                  refine b_M_finds_162  (fun c12 => absurd c12 (by decide)) (fun c12 => ?_)
                  refine b_M_finds_169  ?_
                  refine b_M_finds_176  (fun c13 => absurd c13 (by decide)) (fun c13 => ?_)
                  refine b_M_finds_184 (by omega) (by omega) (s_M_worth (f := fr (I0 67) x5) (nm := nm) (by rw [f9 67 (by omega)]; omega) (fun k => by rw [f9 67 (by omega), f67]; rfl) (fun c c1 c2 => by rw [f9 76 (by omega)]; exact i4 c c1 c2) (by rw [f9 67 (by omega), m3, Int.sub_zero]; exact w6.1) (fun I8 f8 => ?_))
                  refine b_M_finds_202  ?_
                  refine b_M_finds_209  ?_
                  refine b_M_finds_212 (by omega) ?_
                  rw [if_pos ⟨by omega, by omega, by omega, by omega, by omega⟩] at rs9
                  refine ih ((am_up I8 66 23 ((stk (fr (I0 67) x5) nm 0 (I9 67 (2836 + x5) - 0).toNat 0)))) x5 (x5 + 1) (by omega) (by omega) (fun k k1 k2 k3 => ?_) (fun j hj => ?_) (fun c c1 c2 => ?_) rs9.symm ?_ (by omega)
                  · rw [upn k1]
                    exact (f8 k k3).trans ((f9 k k3).trans (i2 k k1 k2 k3))
                  · rw [upo hj, f8 66 (by omega), f9 66 (by omega)]
                    exact i3 j hj
                  · rw [upm (by omega), f8 76 (by omega), f9 76 (by omega)]
                    exact i4 c c1 c2
                  · rw [ups, if_neg (by omega)]
                    unfold vl
                    rw [f9 67 (by omega), m3, Int.sub_zero]
