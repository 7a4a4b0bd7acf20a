def kC (I : Nat → Int → Int) : Nat → Int → Int := am_up (am_up (am_up (am_up I 45 5 0) 45 6 (-1)) 45 9 0) 45 7 (((am_up (am_up (am_up I 45 5 0) 45 6 (-1)) 45 9 0) 47 0) - 1000)
def hC (I : Nat → Int → Int) : Nat → Int → Int := am_up I 45 10 (I 45 9)
theorem kC_f {I : Nat → Int → Int} : kC I 45 5 = 0 ∧ kC I 45 6 = -1 ∧ kC I 45 9 = 0 ∧ kC I 45 7 = I 47 0 - 1000 ∧ kC I 45 1 = I 45 1 ∧ ∀ k, k ≠ 45 → kC I k = I k := by
  unfold kC
  refine ⟨?_, ?_, ?_, ?_, ?_, fun k hk => ?_⟩
  · rw [upo (by omega), upo (by omega), upo (by omega), ups]
  · rw [upo (by omega), upo (by omega), ups]
  · rw [upo (by omega), ups]
  · rw [ups, upm (by omega), upm (by omega), upm (by omega)]
  · rw [upo (by omega), upo (by omega), upo (by omega), upo (by omega)]
  · rw [upn hk, upn hk, upn hk, upn hk]
theorem hC_f {I : Nat → Int → Int} : hC I 45 5 = I 45 5 ∧ hC I 45 6 = I 45 6 ∧ hC I 45 9 = I 45 9 ∧ hC I 45 10 = I 45 9 ∧ (∀ j, j ≠ 10 → hC I 45 j = I 45 j) ∧ ∀ k, k ≠ 45 → hC I k = I k := ⟨upo (by omega), upo (by omega), upo (by omega), ups, fun j hj => upo hj, fun k hk => upn hk⟩
def jz (I : Nat → Int → Int) : Nat → Int → Int := am_up (am_up (am_up (am_up (am_up I 66 11 0) 66 16 0) 66 15 0) 66 18 0) 66 17 (2860 + (130 * (I 67 5)))
theorem jz_f {I : Nat → Int → Int} : jz I 66 11 = 0 ∧ jz I 66 15 = 0 ∧ jz I 66 16 = 0 ∧ jz I 66 17 = 2860 + 130 * I 67 5 ∧ jz I 66 18 = 0 ∧ (∀ j, j < 11 ∨ 18 < j → jz I 66 j = I 66 j) ∧ ∀ k, k ≠ 66 → jz I k = I k := by
  unfold jz
  refine ⟨?_, ?_, ?_, ups, ?_, fun j hj => ?_, fun k hk => ?_⟩
  · rw [upo (by omega), upo (by omega), upo (by omega), upo (by omega), ups]
  · rw [upo (by omega), upo (by omega), ups]
  · rw [upo (by omega), upo (by omega), upo (by omega), ups]
  · rw [upo (by omega), ups]
  · rw [upo (by omega), upo (by omega), upo (by omega), upo (by omega), upo (by omega)]
  · rw [upn hk, upn hk, upn hk, upn hk, upn hk]
def uM (I : Nat → Int → Int) (x1 x2 x3 x4 x5 : Int) : Nat → Int → Int := am_up (am_up (am_up (am_up (am_up (am_up (am_up I 66 8 0) 67 (2800 + x3) x4) 67 (2812 + x3) x1) 67 (2824 + x3) x2) 67 (2836 + x3) x5) 67 (2848 + x3) (I 66 16)) 67 5 (I 67 5 + 1)
theorem uM_f {I : Nat → Int → Int} {x1 x2 x3 x4 x5 : Int} (h : 0 ≤ x3 ∧ x3 < 12) : (∀ k, k ≠ 66 → k ≠ 67 → uM I x1 x2 x3 x4 x5 k = I k) ∧ uM I x1 x2 x3 x4 x5 66 8 = 0 ∧ (∀ j, j ≠ 8 → uM I x1 x2 x3 x4 x5 66 j = I 66 j) ∧ uM I x1 x2 x3 x4 x5 67 5 = I 67 5 + 1 ∧ (uM I x1 x2 x3 x4 x5 67 (2800 + x3) = x4 ∧ uM I x1 x2 x3 x4 x5 67 (2812 + x3) = x1 ∧ uM I x1 x2 x3 x4 x5 67 (2824 + x3) = x2 ∧ uM I x1 x2 x3 x4 x5 67 (2836 + x3) = x5 ∧ uM I x1 x2 x3 x4 x5 67 (2848 + x3) = I 66 16) ∧ (∀ j, j ≠ 5 → j ≠ 2800 + x3 → j ≠ 2812 + x3 → j ≠ 2824 + x3 → j ≠ 2836 + x3 → j ≠ 2848 + x3 → uM I x1 x2 x3 x4 x5 67 j = I 67 j) := by
  unfold uM
  refine ⟨fun k k1 k2 => ?_, ?_, fun j hj => ?_, ups, ⟨?_, ?_, ?_, ?_, ?_⟩, fun j j1 j2 j3 j4 j5 j6 => ?_⟩
  · rw [upn k2, upn k2, upn k2, upn k2, upn k2, upn k2, upn k1]
  · simp (disch := omega) only [upm, ups]
  · simp (disch := omega) only [upm, upo]
  · simp (disch := omega) only [upo, ups]
  · simp (disch := omega) only [upo, ups]
  · simp (disch := omega) only [upo, ups]
  · simp (disch := omega) only [upo, ups]
  · simp (disch := omega) only [upo, ups]
  · rw [upo j1, upo j6, upo j5, upo j4, upo j3, upo j2, upm (by omega)]
def Mz (r : Int) (J J' : Nat → Int → Int) : Prop := (∀ k, k ≠ 66 → k ≠ 67 → J' k = J k) ∧ (∀ j, j < 11 ∨ 18 < j → J' 66 j = J 66 j) ∧ (∀ j, j < 2860 + 130 * r → J' 67 j = J 67 j)
theorem MR_Mz {X K I J : Nat → Int → Int} {op r : Int} {G : Int → Int} (h : MR X (jz I) op K G J) (hb : X 5 1 = 2860 + 130 * r) : Mz r I J := by
  obtain ⟨⟨f1, f2, f3⟩, -⟩ := h
  have z := jz_f (I := I)
  refine ⟨fun k k1 k2 => ?_, fun j hj => ?_, fun j hj => ?_⟩
  · rw [f1 k k1 k2, z.2.2.2.2.2.2 k k1]
  · rw [f2 j (by omega), z.2.2.2.2.2.1 j hj]
  · rw [f3 j (by omega), z.2.2.2.2.2.2 67 (by omega)]
theorem MR_cg {X J0 K K' J : Nat → Int → Int} {op : Int} {G : Int → Int} (h : MR X J0 op K G J) (k5 : K' 45 5 = K 45 5) (k6 : K' 45 6 = K 45 6) (k9 : K' 45 9 = K 45 9) : MR X J0 op K' G J := by
  unfold MR at h ⊢
  rw [k5, k6, k9]
  exact h
theorem CX_pl {X : Nat → Int → Int} (hX : CX X) {a : Int} (h1 : 0 ≤ a) (h2 : a ≤ X 5 2) : 0 ≤ X 2 a ∧ X 2 a ≤ 120 := by
  have w := CX_nn hX h1 h2
  have q := Tok_e (hX.2.1.1 a h1 (by omega))
  have x := hX.1
  omega
theorem cWf_pos {f : Int → Int} {a : Int} {n : Nat} (h : cWf f a n) : 0 < n := by
  cases n with
  | zero =>
    have q : (0 : Int) = 1 := h.2
    omega
  | succ n => omega
theorem e_M_rule {ro : Nat → Int × (Int → Int)} {d : Nat} {b : Bool} {I L : Nat → Int → Int} {Q : Option am_V → am_H → Prop} {bc bs : Nat} {x1 x2 x3 x4 x5 : Int} {X J0 K : Nat → Int → Int} {G : Int → Int} (hX : CX X) (hJ : MR X J0 0 K G I) (hk : 0 ≤ K 45 5 ∧ K 45 5 ≤ X 5 2) (hr : 0 ≤ x3 ∧ x3 < 12) (h5 : 0 ≤ I 67 5 ∧ I 67 5 < 12) (HF : ¬ (K 45 6 = -1 ∧ X 1 (K 45 5) = 0) → Q (some (am_I (-10 - X 2 (K 45 5)))) (sh b, I, L)) (HS : K 45 6 = -1 → X 1 (K 45 5) = 0 → Q (some (am_I x3)) (sh b, uM I x1 x2 x3 x4 x5, L)) : am_ex (am_m ro (d + 46)) ro am_M207 Q (158, [some (am_R 66), some (am_I x1), some (am_I x2), some (am_I x3), some (am_I x4), some (am_I x5)], [], (sh b, I, L), bc, bs) := by
  have e18 := hJ.2.2.2.2.2.1
  have e13 := hJ.2.2.1.2.2.1
  have e12 := hJ.2.2.1.2.1
  have te := tm_end (CX_tr hX hk.1 hk.2).1
  have pl := CX_pl hX hk.1 hk.2
  refine b_M_rule_158  (fun c1 => ?_) (fun c1 => ?_)
  · refine b_M_rule_172 (by omega) ?_
    rw [e12]
    exact HF (by omega)
  · refine b_M_rule_165  (fun c2 => ?_) (fun c2 => ?_)
    · refine b_M_rule_180 (by omega) (by omega) (by omega) (by omega) (by omega) (by omega) (by omega) (by omega) (by omega) (by omega) (by simp (disch := omega) only [upm, upo]; omega) ?_
      have e16 : (am_up (am_up (am_up (am_up (am_up I 66 8 0) 67 (2800 + x3) x4) 67 (2812 + x3) x1) 67 (2824 + x3) x2) 67 (2836 + x3) x5) 66 16 = I 66 16 := by simp (disch := omega) only [upm, upo]
      rw [e16]
      have e5 : (am_up (am_up (am_up (am_up (am_up (am_up I 66 8 0) 67 (2800 + x3) x4) 67 (2812 + x3) x1) 67 (2824 + x3) x2) 67 (2836 + x3) x5) 67 (2848 + x3) (I 66 16)) 67 5 = I 67 5 := by simp (disch := omega) only [upm, upo]
      rw [e5]
      exact HS (by omega) (by omega)
    · refine b_M_rule_172 (by omega) ?_
      rw [e12]
      exact HF (by omega)
theorem h_M_rule {ro : Nat → Int × (Int → Int)} {d : Nat} {b : Bool} {I L : Nat → Int → Int} {Q : Option am_V → am_H → Prop} {x1 x2 r : Int} {X K : Nat → Int → Int} {G : Int → Int} (hX : CX X) (hW : ∀ k, 0 ≤ k → k < 20 → L 75 k = wdv k) (hT : tp (X 5 0) (X 0) I) (h5 : I 67 5 = r) (hr : 0 ≤ r ∧ r < 12) (hb : X 5 1 = 2860 + 130 * r) (hx : 0 ≤ x1 ∧ x1 < x2 ∧ x2 ≤ 100) (k5 : K 45 5 = 0) (k6 : K 45 6 = -1) (k9 : K 45 9 = 0) (K1 : (1000 ≤ X 1 0 ∧ X 1 0 ≤ 1005) → ∀ J' : Nat → Int → Int, MR X (jz I) 0 (nC K) G J' → ∀ bc bs : Nat, am_ex (am_m ro (d + 46)) ro am_M207 Q (125, [some (am_R 66), some (am_I x1), some (am_I x2), some (am_I r), some (am_I ((X 1 0 - 1000))), none], [], (sh b, J', L), bc, bs)) (K0 : ¬ (1000 ≤ X 1 0 ∧ X 1 0 ≤ 1005) → ∀ J' : Nat → Int → Int, Mz r I J' → Q (some (am_I (-10 - X 2 0))) (sh b, J', L)) : am_m ro (d + 47) 207 [am_R 66, am_I x1, am_I x2] (sh b, I, L) Q := by
  have m0 := hX.1
  have hTr := (CX_tr hX (a := 0) (by omega) (by omega)).1
  have hlt := CX_lt hX (a := 0) (by omega)
  have t3 := tm_key hTr
  have pl := CX_pl hX (a := 0) (by omega) (by omega)
  have tk := hX.2.1.1 0 (by omega) (by omega)
  rw [if_pos rfl] at tk
  have z := jz_f (I := I)
  have hT' : tp (X 5 0) (X 0) (jz I) := tp_J hT (z.2.2.2.2.2.1 8 (by omega)) (z.2.2.2.2.2.2 73 (by omega))
  refine am_in rfl rfl rfl rfl ?_
  refine b_M_rule_0 (s_M_in (fun c1 => ?_) (fun c1 => ?_))
  · refine b_M_rule_7 (fun c2 => absurd c2 (by decide)) (fun c2 => ?_)
    refine b_M_rule_10 (by omega) (s_M_in (fun c3 => ?_) (fun c3 => ?_))
    · refine b_M_rule_19 (fun c4 => ?_) (fun c4 => absurd c4 (by decide))
      refine b_M_rule_29 (fun c5 => ?_) (fun c5 => ?_)
      · refine b_M_rule_47 (by omega) (by omega) (s_M_next (d := d + 43) (tn := X 5 0) ⟨Int.le_refl 0, hX.1.2.2.1⟩ hT' hW tk (fun J1 m a1 a2 a3 a4 => ?_) z.1)
        have m : Mf (jz I) J1 := m
        refine b_M_rule_91 (fun c6 => ?_) (fun c6 => ?_)
        · refine b_M_rule_110 ?_
          refine b_M_rule_111 (by omega) (fun c7 => absurd ups c7) (fun c7 => ?_)
          have e14 : J1 66 14 = X 1 0 - 1000 := by
            rw [a4 (by omega)]
            unfold vm
            rw [if_neg (by omega), if_pos (by omega)]
          rw [e14, h5]
          have hM : MR X (jz I) 0 K G (am_up J1 66 18 0) := by
            refine ⟨⟨fun k q1 q2 => ?_, fun j hj => ?_, fun j hj => ?_⟩, tp_J (tp_fr hT' m) (upo (by omega)) (upn (by omega)), ?_, ⟨?_, ?_, fun _ => ?_⟩, ⟨?_, ?_⟩, ⟨fun _ => ups, fun y => absurd k6 y⟩, fun k q1 q2 => ?_⟩
            · rw [upn q1, m.1 k q1]
            · rw [upo (by omega), m.2 j (by omega)]
            · rw [upm (by omega), m.1 67 (by omega)]
            · rw [k5, upo (by omega), upo (by omega), upo (by omega), upo (by omega)]
              exact ⟨a1, a2, a3, a4⟩
            · rw [upo (by omega), m.2 15 (by omega), z.2.1]
              omega
            · rw [upo (by omega), m.2 15 (by omega), z.2.1]
              omega
            · rw [upo (by omega), m.2 15 (by omega), z.2.1]
            · rw [upo (by omega), m.2 16 (by omega), z.2.2.1, k9]
            · rw [upo (by omega), m.2 17 (by omega), z.2.2.2.1, h5, hb]
            · omega
          refine b_M_rule_121 (q_M_next (d := d + 43) hX hW hM (by omega) (by omega) (fun J2 hJ2 => K1 (by omega) J2 hJ2 _ _))
        · refine b_M_rule_106 ?_
          refine b_M_rule_111 (by omega) (fun c7 => ?_) (fun c7 => by rw [ups] at c7; omega)
          refine b_M_rule_129 (fun c8 => ?_) (fun c8 => by rw [ups] at c8; omega)
          refine b_M_rule_158 (fun c9 => ?_) (fun c9 => by rw [ups] at c9; omega)
          have e12 : am_up J1 66 18 1 66 12 = X 2 0 := (upo (by omega)).trans a2
          refine b_M_rule_172 (by rw [e12]; omega) ?_
          rw [e12]
          refine K0 (by omega) _ ⟨fun k q1 q2 => ?_, fun j hj => ?_, fun j hj => ?_⟩
          · rw [upn q1, m.1 k q1, z.2.2.2.2.2.2 k q1]
          · rw [upo (by omega), m.2 j (by omega), z.2.2.2.2.2.1 j hj]
          · rw [upm (by omega), m.1 67 (by omega), z.2.2.2.2.2.2 67 (by omega)]
      · exfalso
        omega
    · exfalso
      omega
  · exfalso
    omega
def MFt (ro : Nat → Int × (Int → Int)) (d : Nat) (b : Bool) (L : Nat → Int → Int) (T : Int → Int) (n r f : Int) : Prop := ∀ (J : Nat → Int → Int) (x1 x2 : Int) (Q : Option am_V → am_H → Prop), tp n T J → J 67 5 = r → (0 ≤ x1 ∧ x1 < x2 ∧ x2 ≤ 100) → (∀ J' : Nat → Int → Int, Mz r J J' → Q (some (am_I (-10 - f))) (sh b, J', L)) → am_m ro (d + 47) 207 [am_R 66, am_I x1, am_I x2] (sh b, J, L) Q
def MSc (ro : Nat → Int × (Int → Int)) (d : Nat) (b : Bool) (L : Nat → Int → Int) (T : Int → Int) (n r : Int) (G : Int → Int) (ky hf ou : Int) : Prop := ∀ (J : Nat → Int → Int) (x1 x2 : Int) (Q : Option am_V → am_H → Prop), tp n T J → J 67 5 = r → (0 ≤ x1 ∧ x1 < x2 ∧ x2 ≤ 100) → (∀ J' : Nat → Int → Int, Mz r J J' → J' 66 16 = ou → (∀ k, 0 ≤ k → k < ou → J' 67 (2860 + 130 * r + k) = G k) → Q (some (am_I r)) (sh b, uM J' x1 x2 r ky hf, L)) → am_m ro (d + 47) 207 [am_R 66, am_I x1, am_I x2] (sh b, J, L) Q
def Rf (I I' : Nat → Int → Int) : Prop := (∀ k, k ≠ 45 → k ≠ 47 → k ≠ 48 → k ≠ 49 → k ≠ 50 → I' k = I k) ∧ I' 45 1 = I 45 1
theorem Rf_c {I I1 I2 : Nat → Int → Int} (h : Rf I I1) (g : Cfr I1 I2) : Rf I I2 := ⟨fun k a1 a2 a3 a4 a5 => (funext (fun i => g k i (by omega) a5)).trans (h.1 k a1 a2 a3 a4 a5), (g 45 1 (by omega) (by omega)).trans h.2⟩
theorem Rf_f {I I1 : Nat → Int → Int} (h : Rf I I1) : Rf I (fC I1) := Rf_c h (Cfr_up Cfr_rf (by omega))
theorem e_Rdr_readRule {ro : Nat → Int × (Int → Int)} {d : Nat} {b : Bool} {L : Nat → Int → Int} {Q : Option am_V → am_H → Prop} {bc bs : Nat} {X K : Nat → Int → Int} (hX : CX X) (hB : CB X K) (hk : 0 ≤ K 45 5 ∧ K 45 5 ≤ X 5 2) (H1 : K 45 6 = -1 → X 1 (K 45 5) = 0 → Q none (sh b, K, L)) (H2 : K 45 6 = -1 → ¬ X 1 (K 45 5) = 0 → Q none (sh b, fC K, L)) (H3 : ¬ K 45 6 = -1 → Q none (sh b, K, L)) : am_ex (am_m ro (d + 45)) ro am_M112 Q (104, [some (am_R 45)], [], (sh b, K, L), bc, bs) := by
  have x120 := hX.1
  have e47 : K 47 (K 45 5) = X 1 (K 45 5) := by rw [hB.1]
  refine b_Rdr_readRule_104  (s_Rdr_stands (by omega) (fun c1 => ?_) (fun c1 => ?_))
  · refine b_Rdr_readRule_109  (fun c2 => ?_) (fun c2 => absurd c2 (by decide))
    refine b_Rdr_readRule_116  ?_
    exact H1 (by omega) (by omega)
  · refine b_Rdr_readRule_109  (fun c3 => absurd c3 (by decide)) (fun c3 => ?_)
    refine b_Rdr_readRule_112  (s_Rdr_fail (d := d + 44) (by omega) (fun z1 => ?_) (fun z1 => ?_))
    · refine b_Rdr_readRule_116  ?_
      exact H2 z1 (by omega)
    · refine b_Rdr_readRule_116  ?_
      exact H3 z1
