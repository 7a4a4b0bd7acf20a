theorem s_M_finds {ro : Nat → Int × (Int → Int)} {d : Nat} {b : Bool} {I L : Nat → Int → Int} {Q : Option am_V → am_H → Prop} {x1 x2 x3 : Int} (hM : Mo I L) (hx : (0 ≤ x1 ∧ x1 ≤ 5) ∧ (0 ≤ x2 ∧ x2 ≤ 40) ∧ -1 ≤ x3 ∧ x3 < I 67 4) (H : ∀ I' : Nat → Int → Int, (∀ k, k ≠ 66 → k ≠ 76 → k ≠ 77 → I' k = I k) → (∀ j, j ≠ 23 → I' 66 j = I 66 j) → I' 66 23 = sy (I 67) (nmF (I 67) (I 78) x1 x2 x3) x1 x2 (I 66 22) → Q (some (am_I (rl (I 67) (nmF (I 67) (I 78) x1 x2 x3) x1 x2 (I 66 22) (I 67 5).toNat))) (sh b, I', L)) : am_m ro (d + 3) 211 [am_R 66, am_I x1, am_I x2, am_I x3] (sh b, I, L) Q := by
  have ct := Mo_ct hM
  refine am_in rfl rfl rfl rfl ?_
  refine b_M_finds_0  (s_M_names hM (by omega) (fun I9 h1 h2 => ?_))
  refine b_M_finds_7  (fun c1 => ?_) (fun c1 => ?_)
  · refine b_M_finds_19  (fun c2 => ?_) (fun c2 => ?_)
    · refine b_M_finds_29  ?_
      refine b_M_finds_30  ?_
      exact lp_M_finds (d := d) (nm := nmF (I 67) (I 78) x1 x2 x3) (w9 := I 66 22) (I0 := I) hM H rfl ((I 67 5).toNat + 1) _ (-1) 0 (by omega) (by omega) (fun k k1 k2 k3 => by rw [upn k1]; exact h1 k k2) (fun j hj => by rw [upo hj, h1 66 (by omega)]) (fun c c1 c2 => by rw [upm (by omega)]; exact h2 c c1 c2) rfl (by rw [ups, if_pos rfl]; unfold df; first | (rw [if_pos (by omega)]; done) | (rw [if_neg (by omega), if_pos (by omega)]; done) | (rw [if_neg (by omega), if_neg (by omega)]; done)) (by omega)
    · refine b_M_finds_24  ?_
      refine b_M_finds_30  ?_
      exact lp_M_finds (d := d) (nm := nmF (I 67) (I 78) x1 x2 x3) (w9 := I 66 22) (I0 := I) hM H rfl ((I 67 5).toNat + 1) _ (-1) 0 (by omega) (by omega) (fun k k1 k2 k3 => by rw [upn k1]; exact h1 k k2) (fun j hj => by rw [upo hj, h1 66 (by omega)]) (fun c c1 c2 => by rw [upm (by omega)]; exact h2 c c1 c2) rfl (by rw [ups, if_pos rfl]; unfold df; first | (rw [if_pos (by omega)]; done) | (rw [if_neg (by omega), if_pos (by omega)]; done) | (rw [if_neg (by omega), if_neg (by omega)]; done)) (by omega)
  · refine b_M_finds_15  ?_
    refine b_M_finds_30  ?_
    exact lp_M_finds (d := d) (nm := nmF (I 67) (I 78) x1 x2 x3) (w9 := I 66 22) (I0 := I) hM H rfl ((I 67 5).toNat + 1) _ (-1) 0 (by omega) (by omega) (fun k k1 k2 k3 => by rw [upn k1]; exact h1 k k2) (fun j hj => by rw [upo hj, h1 66 (by omega)]) (fun c c1 c2 => by rw [upm (by omega)]; exact h2 c c1 c2) rfl (by rw [ups, if_pos rfl]; unfold df; first | (rw [if_pos (by omega)]; done) | (rw [if_neg (by omega), if_pos (by omega)]; done) | (rw [if_neg (by omega), if_neg (by omega)]; done)) (by omega)
theorem nmF_cg {p E E' : Int → Int} {key y s : Int} (h : 0 ≤ s → E (p (900 + s)) = E' (p (900 + s))) : nmF p E key y s = nmF p E' key y s := by
  unfold nmF
  by_cases q : key < 3 ∧ 0 ≤ s
  · rw [if_pos q, if_pos q]
    exact nmS_cg (h q.2)
  · rw [if_neg q, if_neg q]
theorem Sc_fi {I L I' : Nat → Int → Int} (h1 : ∀ k, k ≠ 66 → k ≠ 76 → k ≠ 77 → I' k = I k) (h2 : ∀ j, j ≠ 23 → I' 66 j = I 66 j) : Sc I L I' L :=
  ⟨fun k a1 a2 a3 a4 a5 a6 a7 a8 a9 a10 a11 a12 => h1 k a7 a8 a9, h2, fun k a => rfl⟩
theorem o_M_says {ro : Nat → Int × (Int → Int)} {d : Nat} {b : Bool} {I L : Nat → Int → Int} {Q : Option am_V → am_H → Prop} {x1 x2 x3 : Int} (hM : Mo I L) (hw : I 66 22 = -1) (H1 : ¬ ((0 ≤ x1 ∧ x1 ≤ 5) ∧ (0 ≤ x2 ∧ x2 ≤ I 67 0) ∧ -1 ≤ x3 ∧ x3 < I 67 4) → Q (some (am_I (0))) (sh b, rfM I (-3), L)) (H2 : (0 ≤ x1 ∧ x1 ≤ 5) ∧ (0 ≤ x2 ∧ x2 ≤ I 67 0) ∧ -1 ≤ x3 ∧ x3 < I 67 4 → ∀ I' L' : Nat → Int → Int, Sc I L I' L' → Q (some (am_I (sy (I 67) (nmF (I 67) (fun e => est (I 67) x2 (I 67 0) e) x1 x2 x3) x1 x2 (-1)))) (sh b, I', L')) : am_m ro (d + 5) 213 [am_R 66, am_I x1, am_I x2, am_I x3] (sh b, I, L) Q := by
  have ct := Mo_ct hM
  refine am_in rfl rfl rfl rfl ?_
  refine b_M_says_0  (s_M_isAsked (by omega) (fun c1 => ?_) (fun c1 => ?_))
  · refine b_M_says_7  (fun c2 => ?_) (fun c2 => absurd c2 (by decide))
    refine b_M_says_17  (s_M_estimatesOf hM (by omega) (fun I9 L9 g1 g2 r9 => ?_))
    have f67 : I9 67 = I 67 := g1 67 (by omega) (by omega)
    have hM9 : Mo I9 L9 := Mo_cg hM f67 (g2 69 (by omega)) (g1 72 (by omega) (by omega))
    have f22 : I9 66 22 = -1 := by rw [g1 66 (by omega) (by omega)]; exact hw
    obtain ⟨C, CL, hM0⟩ := id hM
    have ne : nmF (I 67) (I9 78) x1 x2 x3 = nmF (I 67) (fun e => est (I 67) x2 (I 67 0) e) x1 x2 x3 := nmF_cg (fun hs => by
      have s5 := hM0.1.2.2.2.2.2.1.2.2.2.2 x3 (by omega) (by omega)
      exact r9 _ (by omega) (by omega))
    refine b_M_says_28  (s_M_finds hM9 (by rw [f67]; omega) (fun I8 u1 u2 u3 => ?_))
    refine b_M_says_35  ?_
    rw [u3, f67, f22, ne]
    exact H2 (by omega) I8 L9 (Sc_tr (Sc_es g1 g2) (Sc_fi u1 u2))
  · refine b_M_says_7  (fun c3 => absurd c3 (by decide)) (fun c3 => ?_)
    refine b_M_says_10  (s_M_nought (by omega) ?_)
    refine b_M_says_16  ?_
    exact H1 (by omega)
theorem o_M_why {ro : Nat → Int × (Int → Int)} {d : Nat} {b : Bool} {I L : Nat → Int → Int} {Q : Option am_V → am_H → Prop} {x1 x2 x3 : Int} (hM : Mo I L) (hw : I 66 22 = -1) (H1 : ¬ ((0 ≤ x1 ∧ x1 ≤ 5) ∧ (0 ≤ x2 ∧ x2 ≤ I 67 0) ∧ -1 ≤ x3 ∧ x3 < I 67 4) → Q (some (am_I (-3))) (sh b, rfM I (-3), L)) (H2 : (0 ≤ x1 ∧ x1 ≤ 5) ∧ (0 ≤ x2 ∧ x2 ≤ I 67 0) ∧ -1 ≤ x3 ∧ x3 < I 67 4 → ∀ I' L' : Nat → Int → Int, Sc I L I' L' → Q (some (am_I (rl (I 67) (nmF (I 67) (fun e => est (I 67) x2 (I 67 0) e) x1 x2 x3) x1 x2 (-1) (I 67 5).toNat))) (sh b, I', L')) : am_m ro (d + 5) 214 [am_R 66, am_I x1, am_I x2, am_I x3] (sh b, I, L) Q := by
  have ct := Mo_ct hM
  refine am_in rfl rfl rfl rfl ?_
  refine b_M_why_0  (s_M_isAsked (by omega) (fun c1 => ?_) (fun c1 => ?_))
  · refine b_M_why_7  (fun c2 => ?_) (fun c2 => absurd c2 (by decide))
    refine b_M_why_17  (s_M_estimatesOf hM (by omega) (fun I9 L9 g1 g2 r9 => ?_))
    have f67 : I9 67 = I 67 := g1 67 (by omega) (by omega)
    have hM9 : Mo I9 L9 := Mo_cg hM f67 (g2 69 (by omega)) (g1 72 (by omega) (by omega))
    have f22 : I9 66 22 = -1 := by rw [g1 66 (by omega) (by omega)]; exact hw
    obtain ⟨C, CL, hM0⟩ := id hM
    have ne : nmF (I 67) (I9 78) x1 x2 x3 = nmF (I 67) (fun e => est (I 67) x2 (I 67 0) e) x1 x2 x3 := nmF_cg (fun hs => by
      have s5 := hM0.1.2.2.2.2.2.1.2.2.2.2 x3 (by omega) (by omega)
      exact r9 _ (by omega) (by omega))
    refine b_M_why_28  (s_M_finds hM9 (by rw [f67]; omega) (fun I8 u1 u2 u3 => ?_))
    refine b_M_why_35  ?_
    rw [f67, f22, ne]
    exact H2 (by omega) I8 L9 (Sc_tr (Sc_es g1 g2) (Sc_fi u1 u2))
  · refine b_M_why_7  (fun c3 => absurd c3 (by decide)) (fun c3 => ?_)
    refine b_M_why_10  (s_M_refuse (by omega) ?_)
    refine b_M_why_16  ?_
    exact H1 (by omega)
theorem A_says {ro : Nat → Int × (Int → Int)} {d : Nat} {b : Bool} {I L : Nat → Int → Int} {x1 x2 x3 : Int} (hro : RoK ro) (hI : Inv b I L) : am_m ro (d + 6) 22 [am_R 0, am_I x1, am_I x2, am_I x3] (sh b, I, L) (fun r h => am_m ro (d + 6) 213 [am_R 66, am_I x1, am_I x2, am_I x3] h (fun r2 h2 => Pair r r2 h2)) := by
  have hC := Cor_of hI
  have ct := Cor_ct hC
  have hw := hI.2.2.2.2.2.1
  refine o_P_says hro hC (fun a => ?_) (fun a I1 L1 s1 => ?_)
  · refine o_M_says (d := d + 1) (by repeat (first | exact Mo_of hC | refine Mo_rf ?_ | refine Mo_up ?_ (by decide))) (by rw [rfm (by omega)]; exact hw) (fun a2 => Pair_rf hI) (fun a2 => by (try simp (disch := omega) only [rfm, rfn] at a2); omega)
  · have f67 := Sc_67 s1
    refine o_M_says (d := d + 1) (Mo_sc (Mo_of hC) s1) (by rw [s1.2.1 22 (by omega)]; exact hw) (fun a2 => by rw [f67] at a2; omega) (fun a2 I2 L2 s2 => ?_)
    rw [f67]
    exact ⟨_, b, I2, L2, rfl, rfl, rfl, Inv_sc hI (Sc_tr s1 s2)⟩
theorem A_why {ro : Nat → Int × (Int → Int)} {d : Nat} {b : Bool} {I L : Nat → Int → Int} {x1 x2 x3 : Int} (hI : Inv b I L) : am_m ro (d + 6) 23 [am_R 0, am_I x1, am_I x2, am_I x3] (sh b, I, L) (fun r h => am_m ro (d + 6) 214 [am_R 66, am_I x1, am_I x2, am_I x3] h (fun r2 h2 => Pair r r2 h2)) := by
  have hC := Cor_of hI
  have ct := Cor_ct hC
  have hw := hI.2.2.2.2.2.1
  refine o_P_why hC (fun a => ?_) (fun a I1 L1 s1 => ?_)
  · refine o_M_why (d := d + 1) (by repeat (first | exact Mo_of hC | refine Mo_rf ?_ | refine Mo_up ?_ (by decide))) (by rw [rfm (by omega)]; exact hw) (fun a2 => Pair_rf hI) (fun a2 => by (try simp (disch := omega) only [rfm, rfn] at a2); omega)
  · have f67 := Sc_67 s1
    refine o_M_why (d := d + 1) (Mo_sc (Mo_of hC) s1) (by rw [s1.2.1 22 (by omega)]; exact hw) (fun a2 => by rw [f67] at a2; omega) (fun a2 I2 L2 s2 => ?_)
    rw [f67]
    exact ⟨_, b, I2, L2, rfl, rfl, rfl, Inv_sc hI (Sc_tr s1 s2)⟩
