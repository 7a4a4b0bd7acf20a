theorem sm_upd {f g : Int → Int} {h : Int} : ∀ n : Nat, 0 ≤ h → h < n → (∀ k : Int, 0 ≤ k → k < n → k ≠ h → g k = f k) → sm g n = sm f n - f h + g h
  | 0, h1, h2, _ => by omega
  | n + 1, h1, h2, hq => by
    show sm g n + g n = sm f n + f n - f h + g h
    by_cases e : h = n
    · rw [sm_congr n (f := g) (g := f) (fun k a1 a2 => hq k a1 (by omega) (by omega)), e]
      omega
    · rw [sm_upd n h1 (by omega) (fun k a1 a2 a3 => hq k a1 (by omega) a3), hq n (by omega) (by omega) (by omega)]
      omega
theorem lSum_he {p p' : Int → Int} {a c v : Int} (h : lSum p) (ha : 0 ≤ a ∧ a < p 3) (hc : 0 ≤ c ∧ c < p 3) (h0 : 0 ≤ p 3 ∧ p 3 ≤ 20 ∧ 0 ≤ p 4 ∧ p 4 ≤ 60) (hv : sm (fun k => p (500 + 20 * a + k)) (p 3).toNat - p (500 + 20 * a + c) + v ≤ 100) (h2 : p' 2 = p 2) (h3 : p' 3 = p 3) (h4 : p' 4 = p 4) (he : p' (500 + 20 * a + c) = v) (hp : ∀ j, (500 ≤ j ∧ j < 960) ∨ (1080 ≤ j ∧ j < 1140) → j ≠ 500 + 20 * a + c → p' j = p j) : lSum p' := by
  obtain ⟨g1, g2, g3⟩ := h
  refine ⟨fun n a1 a2 => ?_, fun n h a1 a2 a3 a4 a5 => ?_, fun e a1 a2 => ?_⟩
  · rw [h3]
    by_cases hE : n = a
    · subst hE
      rw [sm_upd (f := fun k => p (500 + 20 * n + k)) (h := c) _ (by omega) (by omega) (fun k b1 b2 b3 => hp _ (by omega) (by omega))]
      show sm (fun k => p (500 + 20 * n + k)) (p 3).toNat - p (500 + 20 * n + c) + p' (500 + 20 * n + c) ≤ 100
      rw [he]
      exact hv
    · rw [sm_congr (g := fun h => p (500 + 20 * n + h)) _ (fun k b1 b2 => hp _ (by omega) (by omega))]
      exact g1 n a1 (by omega)
  · rw [hp _ (by omega) (by omega)]
    exact g2 n h a1 a2 a3 a4 (by omega)
  · rw [h4, sm_congr (g := fun s => if p (900 + s) = e then p (1080 + s) else 0) _ (fun k b1 b2 => by show (if p' (900 + k) = e then p' (1080 + k) else 0) = _; rw [hp (900 + k) (by omega) (by omega), hp (1080 + k) (by omega) (by omega)])]
    exact g3 e a1 (by omega)
theorem lSum_sh {p p' : Int → Int} {a v : Int} (h : lSum p) (h0 : 0 ≤ p 3 ∧ p 3 ≤ 20 ∧ 0 ≤ p 4 ∧ p 4 < 60) (hv : sm (fun k => if p (900 + k) = a then p (1080 + k) else 0) (p 4).toNat + v ≤ 100) (h2 : p' 2 = p 2) (h3 : p' 3 = p 3) (h4 : p' 4 = p 4 + 1) (he : p' (900 + p 4) = a) (hw : p' (1080 + p 4) = v) (hp : ∀ j, (500 ≤ j ∧ j < 960) ∨ (1080 ≤ j ∧ j < 1140) → j ≠ 900 + p 4 → j ≠ 1080 + p 4 → p' j = p j) : lSum p' := by
  obtain ⟨g1, g2, g3⟩ := h
  refine ⟨fun n a1 a2 => ?_, fun n h a1 a2 a3 a4 a5 => ?_, fun e a1 a2 => ?_⟩
  · rw [h3, sm_congr (g := fun h => p (500 + 20 * n + h)) _ (fun k b1 b2 => hp _ (by omega) (by omega) (by omega))]
    exact g1 n a1 (by omega)
  · rw [hp _ (by omega) (by omega) (by omega)]
    exact g2 n h a1 a2 a3 a4 (by omega)
  · rw [h4, sm_step (by omega)]
    show sm _ (p 4).toNat + (if p' (900 + p 4) = e then p' (1080 + p 4) else 0) ≤ 100
    rw [he, hw, sm_congr (g := fun s => if p (900 + s) = e then p (1080 + s) else 0) _ (fun k b1 b2 => by show (if p' (900 + k) = e then p' (1080 + k) else 0) = _; rw [hp (900 + k) (by omega) (by omega) (by omega), hp (1080 + k) (by omega) (by omega) (by omega)])]
    by_cases hE : a = e
    · subst hE
      rw [if_pos rfl]
      exact hv
    · rw [if_neg hE]
      have := g3 e a1 (by omega)
      omega
theorem o_P_heir {ro : Nat → Int × (Int → Int)} {d : Nat} {b : Bool} {I L : Nat → Int → Int} {Q : Option am_V → am_H → Prop} {x1 x2 x3 : Int} (hp : 0 ≤ I 15 0 ∧ I 15 0 ≤ 20) (hb : ∀ x1, 0 ≤ x1 → x1 < 20 → ∀ k, 0 ≤ k → k < 20 → 0 ≤ I 21 (x1 * 20 + k) ∧ I 21 (x1 * 20 + k) ≤ 100) (hs : 0 ≤ x1 → x1 < 20 → 0 ≤ sm (fun k => I 21 (x1 * 20 + k)) (I 15 0).toNat ∧ sm (fun k => I 21 (x1 * 20 + k)) (I 15 0).toNat ≤ 2000) (H1 : ¬ ((0 ≤ x1 ∧ x1 < I 15 0) ∧ (0 ≤ x2 ∧ x2 < I 15 0)) → Q (some (am_I (-3))) (sh b, rfC I (-3), L)) (H2 : ((0 ≤ x1 ∧ x1 < I 15 0) ∧ (0 ≤ x2 ∧ x2 < I 15 0)) ∧ (x1 = x2 ∨ ¬ (0 ≤ x3 ∧ x3 ≤ 100) ∨ 100 < sm (fun k => I 21 (x1 * 20 + k)) (I 15 0).toNat - I 21 (x1 * 20 + x2) + x3) → Q (some (am_I (-7))) (sh b, rfC I (-7), L)) (H3 : ((0 ≤ x1 ∧ x1 < I 15 0) ∧ (0 ≤ x2 ∧ x2 < I 15 0)) ∧ ¬ (x1 = x2 ∨ ¬ (0 ≤ x3 ∧ x3 ≤ 100) ∨ 100 < sm (fun k => I 21 (x1 * 20 + k)) (I 15 0).toNat - I 21 (x1 * 20 + x2) + x3) → Q (some (am_I (I 21 (x1 * 20 + x2)))) (sh b, am_up I 21 (x1 * 20 + x2) x3, L)) : am_m ro (d + 3) 12 [am_R 0, am_I x1, am_I x2, am_I x3] (sh b, I, L) Q := by
  refine am_in rfl rfl rfl rfl ?_
  refine b_P_heir_0  (s_Peo_has (by omega) (fun c1 => ?_) (fun c1 => ?_))
  · refine b_P_heir_15  (fun c2 => absurd c2 (by decide)) (fun c2 => ?_)
    refine b_P_heir_18  (s_Peo_has (by omega) (fun c3 => ?_) (fun c3 => ?_))
    · refine b_P_heir_24  (fun c4 => ?_) (fun c4 => absurd c4 (by decide))
      refine b_P_heir_34  (fun c5 => ?_) (fun c5 => ?_)
      · refine b_P_heir_49  (s_P_refuse (by omega) ?_)
        refine b_P_heir_55  ?_
        first | exact H1 (by omega) | exact H2 (by omega) | exact H3 (by omega)
      · refine b_P_heir_39  (s_P_within (fun c6 => ?_) (fun c6 => ?_))
        · refine b_P_heir_46  (fun c7 => ?_) (fun c7 => absurd c7 (by decide))
          refine b_P_heir_56 (by first | omega | (have w1 := hs (by omega) (by omega); have w2 := hb x1 (by omega) (by omega) x2 (by omega) (by omega); omega)) (by first | omega | (have w1 := hs (by omega) (by omega); have w2 := hb x1 (by omega) (by omega) x2 (by omega) (by omega); omega)) (by first | omega | (have w1 := hs (by omega) (by omega); have w2 := hb x1 (by omega) (by omega) x2 (by omega) (by omega); omega)) (s_Peo_partsOfHeirs (by omega) (by omega) (hb _ (by omega) (by omega)) ?_)
          refine b_P_heir_80 (by first | omega | (have w1 := hs (by omega) (by omega); have w2 := hb x1 (by omega) (by omega) x2 (by omega) (by omega); omega)) (by first | omega | (have w1 := hs (by omega) (by omega); have w2 := hb x1 (by omega) (by omega) x2 (by omega) (by omega); omega)) (fun c8 => ?_) (fun c8 => ?_)
          · refine b_P_heir_97 (by first | omega | (have w1 := hs (by omega) (by omega); have w2 := hb x1 (by omega) (by omega) x2 (by omega) (by omega); omega)) ?_
            first | exact H1 (by omega) | exact H2 (by omega) | exact H3 (by omega)
          · refine b_P_heir_90  (s_P_refuse (by omega) ?_)
            refine b_P_heir_96  ?_
            first | exact H1 (by omega) | exact H2 (by omega) | exact H3 (by omega)
        · refine b_P_heir_46  (fun c9 => absurd c9 (by decide)) (fun c9 => ?_)
          refine b_P_heir_49  (s_P_refuse (by omega) ?_)
          refine b_P_heir_55  ?_
          first | exact H1 (by omega) | exact H2 (by omega) | exact H3 (by omega)
    · refine b_P_heir_24  (fun c10 => absurd c10 (by decide)) (fun c10 => ?_)
      refine b_P_heir_27  (s_P_refuse (by omega) ?_)
      refine b_P_heir_33  ?_
      first | exact H1 (by omega) | exact H2 (by omega) | exact H3 (by omega)
  · refine b_P_heir_15  (fun c11 => ?_) (fun c11 => absurd c11 (by decide))
    refine b_P_heir_27  (s_P_refuse (by omega) ?_)
    refine b_P_heir_33  ?_
    first | exact H1 (by omega) | exact H2 (by omega) | exact H3 (by omega)
theorem o_M_heir {ro : Nat → Int × (Int → Int)} {d : Nat} {b : Bool} {I L : Nat → Int → Int} {Q : Option am_V → am_H → Prop} {x1 x2 x3 : Int} (hp : 0 ≤ I 67 3 ∧ I 67 3 ≤ 20) (hb : ∀ x1, 0 ≤ x1 → x1 < 20 → ∀ k, 0 ≤ k → k < 20 → 0 ≤ I 67 (500 + 20 * x1 + k) ∧ I 67 (500 + 20 * x1 + k) ≤ 100) (hs : 0 ≤ x1 → x1 < 20 → 0 ≤ sm (fun k => I 67 (500 + 20 * x1 + k)) (I 67 3).toNat ∧ sm (fun k => I 67 (500 + 20 * x1 + k)) (I 67 3).toNat ≤ 2000) (H1 : ¬ ((0 ≤ x1 ∧ x1 < I 67 3) ∧ (0 ≤ x2 ∧ x2 < I 67 3)) → Q (some (am_I (-3))) (sh b, rfM I (-3), L)) (H2 : ((0 ≤ x1 ∧ x1 < I 67 3) ∧ (0 ≤ x2 ∧ x2 < I 67 3)) ∧ (x1 = x2 ∨ ¬ (0 ≤ x3 ∧ x3 ≤ 100) ∨ 100 < sm (fun k => I 67 (500 + 20 * x1 + k)) (I 67 3).toNat - I 67 (500 + 20 * x1 + x2) + x3) → Q (some (am_I (-7))) (sh b, rfM I (-7), L)) (H3 : ((0 ≤ x1 ∧ x1 < I 67 3) ∧ (0 ≤ x2 ∧ x2 < I 67 3)) ∧ ¬ (x1 = x2 ∨ ¬ (0 ≤ x3 ∧ x3 ≤ 100) ∨ 100 < sm (fun k => I 67 (500 + 20 * x1 + k)) (I 67 3).toNat - I 67 (500 + 20 * x1 + x2) + x3) → Q (some (am_I (I 67 (500 + 20 * x1 + x2)))) (sh b, am_up I 67 (500 + 20 * x1 + x2) x3, L)) : am_m ro (d + 3) 179 [am_R 66, am_I x1, am_I x2, am_I x3] (sh b, I, L) Q := by
  refine am_in rfl rfl rfl rfl ?_
  refine b_M_heir_0  (s_M_isPerson (by omega) (fun c1 => ?_) (fun c1 => ?_))
  · refine b_M_heir_5  (fun c2 => absurd c2 (by decide)) (fun c2 => ?_)
    refine b_M_heir_8  (s_M_isPerson (by omega) (fun c3 => ?_) (fun c3 => ?_))
    · refine b_M_heir_13  (fun c4 => ?_) (fun c4 => absurd c4 (by decide))
      refine b_M_heir_23 (by first | omega | (have w1 := hs (by omega) (by omega); have w2 := hb x1 (by omega) (by omega) x2 (by omega) (by omega); omega)) (by first | omega | (have w1 := hs (by omega) (by omega); have w2 := hb x1 (by omega) (by omega) x2 (by omega) (by omega); omega)) (by first | omega | (have w1 := hs (by omega) (by omega); have w2 := hb x1 (by omega) (by omega) x2 (by omega) (by omega); omega)) (by first | omega | (have w1 := hs (by omega) (by omega); have w2 := hb x1 (by omega) (by omega) x2 (by omega) (by omega); omega)) (fun c5 => ?_) (fun c5 => ?_)
      · refine b_M_heir_70  (s_M_refuse (by omega) ?_)
        refine b_M_heir_76  ?_
        first | exact H1 (by omega) | exact H2 (by omega) | exact H3 (by omega)
      · refine b_M_heir_45  (s_M_in (fun c6 => ?_) (fun c6 => ?_))
        · refine b_M_heir_52  (fun c7 => absurd c7 (by decide)) (fun c7 => ?_)
          refine b_M_heir_55  (s_M_heirsOf (by omega) (by omega) (hb _ (by omega) (by omega)) ?_)
          refine b_M_heir_60 (by first | omega | (have w1 := hs (by omega) (by omega); have w2 := hb x1 (by omega) (by omega) x2 (by omega) (by omega); omega)) (by first | omega | (have w1 := hs (by omega) (by omega); have w2 := hb x1 (by omega) (by omega) x2 (by omega) (by omega); omega)) (fun c8 => ?_) (fun c8 => ?_)
          · refine b_M_heir_77 (by first | omega | (have w1 := hs (by omega) (by omega); have w2 := hb x1 (by omega) (by omega) x2 (by omega) (by omega); omega)) (by first | omega | (have w1 := hs (by omega) (by omega); have w2 := hb x1 (by omega) (by omega) x2 (by omega) (by omega); omega)) (by first | omega | (have w1 := hs (by omega) (by omega); have w2 := hb x1 (by omega) (by omega) x2 (by omega) (by omega); omega)) (by first | omega | (have w1 := hs (by omega) (by omega); have w2 := hb x1 (by omega) (by omega) x2 (by omega) (by omega); omega)) ?_
            first | exact H1 (by omega) | exact H2 (by omega) | exact H3 (by omega)
          · refine b_M_heir_70  (s_M_refuse (by omega) ?_)
            refine b_M_heir_76  ?_
            first | exact H1 (by omega) | exact H2 (by omega) | exact H3 (by omega)
        · refine b_M_heir_52  (fun c9 => ?_) (fun c9 => absurd c9 (by decide))
          refine b_M_heir_70  (s_M_refuse (by omega) ?_)
          refine b_M_heir_76  ?_
          first | exact H1 (by omega) | exact H2 (by omega) | exact H3 (by omega)
    · refine b_M_heir_13  (fun c10 => absurd c10 (by decide)) (fun c10 => ?_)
      refine b_M_heir_16  (s_M_refuse (by omega) ?_)
      refine b_M_heir_22  ?_
      first | exact H1 (by omega) | exact H2 (by omega) | exact H3 (by omega)
  · refine b_M_heir_5  (fun c11 => ?_) (fun c11 => absurd c11 (by decide))
    refine b_M_heir_16  (s_M_refuse (by omega) ?_)
    refine b_M_heir_22  ?_
    first | exact H1 (by omega) | exact H2 (by omega) | exact H3 (by omega)
set_option maxHeartbeats 400000 in
theorem A_heir {ro : Nat → Int × (Int → Int)} {d : Nat} {b : Bool} {I L : Nat → Int → Int} {x1 x2 x3 : Int} (hI : Inv b I L) : am_m ro (d + 3) 12 [am_R 0, am_I x1, am_I x2, am_I x3] (sh b, I, L) (fun r h => am_m ro (d + 3) 179 [am_R 66, am_I x1, am_I x2, am_I x3] h (fun r2 h2 => Pair r r2 h2)) := by
  obtain ⟨⟨lo, ll, le, ld, lp, ls, lr, ly, lu, lq⟩, hk, hr, ht, hf, hcn⟩ := id hI
  have hr1 := hr.1
  have hr2 := hr.2.1
  have hr3 := hr.2.2.1
  have lo1 := lo.1
  have lo2 := lo.2
  have ll1 := ll.1
  have ll2 := ll.2.1
  have ll3 := ll.2.2.1
  have ld1 := ld.1
  have ld2 := ld.2.1
  have ld3 := ld.2.2.1
  have lp1 := lp.1
  have lp2 := lp.2.1
  have lp3 := lp.2.2.1
  have ls1 := ls.1
  have ls2 := ls.2.1
  have ls3 := ls.2.2.1
  have hbM : ∀ x1, 0 ≤ x1 → x1 < 20 → ∀ k, 0 ≤ k → k < 20 → 0 ≤ I 67 (500 + 20 * x1 + k) ∧ I 67 (500 + 20 * x1 + k) ≤ 100 := fun x1 c1 c2 k a1 a2 => by
    have w := lp.2.2.2.2.2 (20 * x1 + k) (by omega) (by omega)
    rw [← Int.add_assoc] at w
    exact w.2
  have hbC : ∀ x1, 0 ≤ x1 → x1 < 20 → ∀ k, 0 ≤ k → k < 20 → 0 ≤ I 21 (x1 * 20 + k) ∧ I 21 (x1 * 20 + k) ≤ 100 := fun x1 c1 c2 k a1 a2 => by
    have w := lp.2.2.2.2.2 (x1 * 20 + k) (by omega) (by omega)
    rw [w.1]
    exact w.2
  have es : 0 ≤ x1 → x1 < 20 → sm (fun k => I 21 (x1 * 20 + k)) (I 15 0).toNat = sm (fun k => I 67 (500 + 20 * x1 + k)) (I 67 3).toNat := by
    intro c1 c2
    rw [lp1]
    refine sm_congr _ (fun k b1 b2 => ?_)
    have w := (lp.2.2.2.2.2 (x1 * 20 + k) (by omega) (by omega)).1
    show I 21 (x1 * 20 + k) = I 67 (500 + 20 * x1 + k)
    rw [w]
    congr 1
    omega
  have hsM : 0 ≤ x1 → x1 < 20 → 0 ≤ sm (fun k => I 67 (500 + 20 * x1 + k)) (I 67 3).toNat ∧ sm (fun k => I 67 (500 + 20 * x1 + k)) (I 67 3).toNat ≤ 2000 := by
    intro c1 c2
    have w := sm_bd (f := fun k => I 67 (500 + 20 * x1 + k)) (B := 100) (I 67 3).toNat (fun k a1 a2 => hbM x1 c1 c2 k a1 (by omega))
    omega
  have hsC : 0 ≤ x1 → x1 < 20 → 0 ≤ sm (fun k => I 21 (x1 * 20 + k)) (I 15 0).toNat ∧ sm (fun k => I 21 (x1 * 20 + k)) (I 15 0).toNat ≤ 2000 := by
    intro c1 c2
    rw [es c1 c2]
    exact hsM c1 c2
  have ew : 0 ≤ x1 → x1 < 20 → 0 ≤ x2 → x2 < 20 → I 21 (x1 * 20 + x2) = I 67 (500 + 20 * x1 + x2) := by
    intro c1 c2 c3 c4
    rw [(lp.2.2.2.2.2 (x1 * 20 + x2) (by omega) (by omega)).1]
    congr 1
    omega
  refine o_P_heir (by omega) hbC hsC (fun a => ?_) (fun a => ?_) (fun a => ?_)
  all_goals refine o_M_heir (by (try simp (disch := omega) only [rfm, upm]); omega) (by intro y c1 c2 k a1 a2; (try simp (disch := omega) only [rfm, upm]); exact hbM y c1 c2 k a1 a2) (by intro c1 c2; (try simp (disch := omega) only [rfm, upm]); exact hsM c1 c2) (fun a2 => ?_) (fun a2 => ?_) (fun a2 => ?_)
  all_goals (try simp (disch := omega) only [upo, upm, ups, rfm] at a2 ⊢)
  all_goals first
    | (exfalso; omega)
    | exact Pair_rf hI
    | (exfalso; have w1 := es; have w2 := ew; clear hI lo ll le ld lp ls lr ly lu lq hk hr ht hf hcn hbM hbC hsM hsC; have w3 := w1 (by omega) (by omega); have w4 := w2 (by omega) (by omega) (by omega) (by omega); omega)
    | exact ⟨_, b, _, L, rfl, by rw [ew (by omega) (by omega) (by omega) (by omega)], rfl, Inv_ld hI ⟨lOp_fr lo (by (clear hI lo ll le ld lp ls lr ly lu lq hk hr ht hf hcn hbM hbC es hsM hsC ew; (try simp (disch := omega) only [upo, upm, ups, upn]) <;> grind (gen := 16) (splits := 16) [am_up])) (by (clear hI lo ll le ld lp ls lr ly lu lq hk hr ht hf hcn hbM hbC es hsM hsC ew; (try simp (disch := omega) only [upo, upm, ups, upn]) <;> grind (gen := 16) (splits := 16) [am_up])), lLib_fr ll ⟨by (clear hI lo ll le ld lp ls lr ly lu lq hk hr ht hf hcn hbM hbC es hsM hsC ew; (try simp (disch := omega) only [upo, upm, ups, upn]) <;> grind (gen := 16) (splits := 16) [am_up]), by (clear hI lo ll le ld lp ls lr ly lu lq hk hr ht hf hcn hbM hbC es hsM hsC ew; (try simp (disch := omega) only [upo, upm, ups, upn]) <;> grind (gen := 16) (splits := 16) [am_up]), by (clear hI lo ll le ld lp ls lr ly lu lq hk hr ht hf hcn hbM hbC es hsM hsC ew; (try simp (disch := omega) only [upo, upm, ups, upn]) <;> grind (gen := 16) (splits := 16) [am_up])⟩ (by intro j hj; (clear hI lo ll le ld lp ls lr ly lu lq hk hr ht hf hcn hbM hbC es hsM hsC ew; (try simp (disch := omega) only [upo, upm, ups, upn]) <;> grind (gen := 16) (splits := 16) [am_up])), lEnt_fr le ⟨by (clear hI lo ll le ld lp ls lr ly lu lq hk hr ht hf hcn hbM hbC es hsM hsC ew; (try simp (disch := omega) only [upo, upm, ups, upn]) <;> grind (gen := 16) (splits := 16) [am_up]), by (clear hI lo ll le ld lp ls lr ly lu lq hk hr ht hf hcn hbM hbC es hsM hsC ew; (try simp (disch := omega) only [upo, upm, ups, upn]) <;> grind (gen := 16) (splits := 16) [am_up]), by (clear hI lo ll le ld lp ls lr ly lu lq hk hr ht hf hcn hbM hbC es hsM hsC ew; (try simp (disch := omega) only [upo, upm, ups, upn]) <;> grind (gen := 16) (splits := 16) [am_up]), by (clear hI lo ll le ld lp ls lr ly lu lq hk hr ht hf hcn hbM hbC es hsM hsC ew; (try simp (disch := omega) only [upo, upm, ups, upn]) <;> grind (gen := 16) (splits := 16) [am_up])⟩ (by intro j hj; (clear hI lo ll le ld lp ls lr ly lu lq hk hr ht hf hcn hbM hbC es hsM hsC ew; (try simp (disch := omega) only [upo, upm, ups, upn]) <;> grind (gen := 16) (splits := 16) [am_up])) (by omega) (by (clear hI lo ll le ld lp ls lr ly lu lq hk hr ht hf hcn hbM hbC es hsM hsC ew; (try simp (disch := omega) only [upo, upm, ups, upn]) <;> grind (gen := 16) (splits := 16) [am_up])) (by (clear hI lo ll le ld lp ls lr ly lu lq hk hr ht hf hcn hbM hbC es hsM hsC ew; (try simp (disch := omega) only [upo, upm, ups, upn]) <;> grind (gen := 16) (splits := 16) [am_up])) (by (clear hI lo ll le ld lp ls lr ly lu lq hk hr ht hf hcn hbM hbC es hsM hsC ew; (try simp (disch := omega) only [upo, upm, ups, upn]) <;> grind (gen := 16) (splits := 16) [am_up])), lEd_fr ld ⟨by (clear hI lo ll le ld lp ls lr ly lu lq hk hr ht hf hcn hbM hbC es hsM hsC ew; (try simp (disch := omega) only [upo, upm, ups, upn]) <;> grind (gen := 16) (splits := 16) [am_up]), by (clear hI lo ll le ld lp ls lr ly lu lq hk hr ht hf hcn hbM hbC es hsM hsC ew; (try simp (disch := omega) only [upo, upm, ups, upn]) <;> grind (gen := 16) (splits := 16) [am_up]), by (clear hI lo ll le ld lp ls lr ly lu lq hk hr ht hf hcn hbM hbC es hsM hsC ew; (try simp (disch := omega) only [upo, upm, ups, upn]) <;> grind (gen := 16) (splits := 16) [am_up]), by (clear hI lo ll le ld lp ls lr ly lu lq hk hr ht hf hcn hbM hbC es hsM hsC ew; (try simp (disch := omega) only [upo, upm, ups, upn]) <;> grind (gen := 16) (splits := 16) [am_up]), by (clear hI lo ll le ld lp ls lr ly lu lq hk hr ht hf hcn hbM hbC es hsM hsC ew; (try simp (disch := omega) only [upo, upm, ups, upn]) <;> grind (gen := 16) (splits := 16) [am_up])⟩ (by intro j hj; (clear hI lo ll le ld lp ls lr ly lu lq hk hr ht hf hcn hbM hbC es hsM hsC ew; (try simp (disch := omega) only [upo, upm, ups, upn]) <;> grind (gen := 16) (splits := 16) [am_up])), (by clear hI lo ll le ld ls lr ly lu lq hk hr ht hf hcn hbM hbC es hsM hsC ew; obtain ⟨g1, g2, g3, g4, g5, g6⟩ := lp; exact ⟨by clear g4 g5 g6; (try simp (disch := omega) only [upo, upm, ups, upn]) <;> grind (gen := 16) (splits := 16) [am_up], by clear g4 g5 g6; (try simp (disch := omega) only [upo, upm, ups, upn]) <;> grind (gen := 16) (splits := 16) [am_up], by clear g4 g5 g6; (try simp (disch := omega) only [upo, upm, ups, upn]) <;> grind (gen := 16) (splits := 16) [am_up], fun n a1 a2 => (by have w := g4 n a1 a2; clear g4 g5 g6; simp (disch := omega) only [upo, upm, ups]; omega), fun n a1 a2 => (by have a3 := a2; simp (disch := omega) only [upo, upm, ups] at a3; have w := g5 n a1 (by omega); clear g4 g5 g6; simp (disch := omega) only [upo, upm, ups, and_true]; omega), fun k a1 a2 => (by have w := g6 k a1 a2; clear g4 g5 g6; exact (if hE : k = x1 * 20 + x2 then (by have e5 : 500 + k = 500 + 20 * x1 + x2 := (by omega); rw [e5, hE]; simp (disch := omega) only [upo, upm, ups, true_and]; omega) else (by simp (disch := omega) only [upo, upm, ups]; omega)))⟩), lSh_fr ls ⟨by (clear hI lo ll le ld lp ls lr ly lu lq hk hr ht hf hcn hbM hbC es hsM hsC ew; (try simp (disch := omega) only [upo, upm, ups, upn]) <;> grind (gen := 16) (splits := 16) [am_up]), by (clear hI lo ll le ld lp ls lr ly lu lq hk hr ht hf hcn hbM hbC es hsM hsC ew; (try simp (disch := omega) only [upo, upm, ups, upn]) <;> grind (gen := 16) (splits := 16) [am_up]), by (clear hI lo ll le ld lp ls lr ly lu lq hk hr ht hf hcn hbM hbC es hsM hsC ew; (try simp (disch := omega) only [upo, upm, ups, upn]) <;> grind (gen := 16) (splits := 16) [am_up]), by (clear hI lo ll le ld lp ls lr ly lu lq hk hr ht hf hcn hbM hbC es hsM hsC ew; (try simp (disch := omega) only [upo, upm, ups, upn]) <;> grind (gen := 16) (splits := 16) [am_up]), by (clear hI lo ll le ld lp ls lr ly lu lq hk hr ht hf hcn hbM hbC es hsM hsC ew; (try simp (disch := omega) only [upo, upm, ups, upn]) <;> grind (gen := 16) (splits := 16) [am_up]), by (clear hI lo ll le ld lp ls lr ly lu lq hk hr ht hf hcn hbM hbC es hsM hsC ew; (try simp (disch := omega) only [upo, upm, ups, upn]) <;> grind (gen := 16) (splits := 16) [am_up])⟩ (by intro j hj; (clear hI lo ll le ld lp ls lr ly lu lq hk hr ht hf hcn hbM hbC es hsM hsC ew; (try simp (disch := omega) only [upo, upm, ups, upn]) <;> grind (gen := 16) (splits := 16) [am_up])) (by (clear hI lo ll le ld lp ls lr ly lu lq hk hr ht hf hcn hbM hbC es hsM hsC ew; (try simp (disch := omega) only [upo, upm, ups, upn]) <;> grind (gen := 16) (splits := 16) [am_up])) (by (clear hI lo ll le ld lp ls lr ly lu lq hk hr ht hf hcn hbM hbC es hsM hsC ew; (try simp (disch := omega) only [upo, upm, ups, upn]) <;> grind (gen := 16) (splits := 16) [am_up])) (by (clear hI lo ll le ld lp ls lr ly lu lq hk hr ht hf hcn hbM hbC es hsM hsC ew; (try simp (disch := omega) only [upo, upm, ups, upn]) <;> grind (gen := 16) (splits := 16) [am_up])), lRul_fr lr ⟨by (clear hI lo ll le ld lp ls lr ly lu lq hk hr ht hf hcn hbM hbC es hsM hsC ew; (try simp (disch := omega) only [upo, upm, ups, upn]) <;> grind (gen := 16) (splits := 16) [am_up]), by (clear hI lo ll le ld lp ls lr ly lu lq hk hr ht hf hcn hbM hbC es hsM hsC ew; (try simp (disch := omega) only [upo, upm, ups, upn]) <;> grind (gen := 16) (splits := 16) [am_up]), by (clear hI lo ll le ld lp ls lr ly lu lq hk hr ht hf hcn hbM hbC es hsM hsC ew; (try simp (disch := omega) only [upo, upm, ups, upn]) <;> grind (gen := 16) (splits := 16) [am_up]), by (clear hI lo ll le ld lp ls lr ly lu lq hk hr ht hf hcn hbM hbC es hsM hsC ew; (try simp (disch := omega) only [upo, upm, ups, upn]) <;> grind (gen := 16) (splits := 16) [am_up]), by (clear hI lo ll le ld lp ls lr ly lu lq hk hr ht hf hcn hbM hbC es hsM hsC ew; (try simp (disch := omega) only [upo, upm, ups, upn]) <;> grind (gen := 16) (splits := 16) [am_up]), by (clear hI lo ll le ld lp ls lr ly lu lq hk hr ht hf hcn hbM hbC es hsM hsC ew; (try simp (disch := omega) only [upo, upm, ups, upn]) <;> grind (gen := 16) (splits := 16) [am_up]), by (clear hI lo ll le ld lp ls lr ly lu lq hk hr ht hf hcn hbM hbC es hsM hsC ew; (try simp (disch := omega) only [upo, upm, ups, upn]) <;> grind (gen := 16) (splits := 16) [am_up])⟩ (by intro j hj; (clear hI lo ll le ld lp ls lr ly lu lq hk hr ht hf hcn hbM hbC es hsM hsC ew; (try simp (disch := omega) only [upo, upm, ups, upn]) <;> grind (gen := 16) (splits := 16) [am_up])) (by intro r k h1 h2 h3 h4; have lr8 := lr.2.1; have lr9 := lr.2.2.1; (clear hI lo ll le ld lp ls lr ly lu lq hk hr ht hf hcn hbM hbC es hsM hsC ew; (try simp (disch := omega) only [upo, upm, ups, upn]) <;> grind (gen := 16) (splits := 16) [am_up])), lYr_fr ly ⟨by (clear hI lo ll le ld lp ls lr ly lu lq hk hr ht hf hcn hbM hbC es hsM hsC ew; (try simp (disch := omega) only [upo, upm, ups, upn]) <;> grind (gen := 16) (splits := 16) [am_up]), by (clear hI lo ll le ld lp ls lr ly lu lq hk hr ht hf hcn hbM hbC es hsM hsC ew; (try simp (disch := omega) only [upo, upm, ups, upn]) <;> grind (gen := 16) (splits := 16) [am_up]), by (clear hI lo ll le ld lp ls lr ly lu lq hk hr ht hf hcn hbM hbC es hsM hsC ew; (try simp (disch := omega) only [upo, upm, ups, upn]) <;> grind (gen := 16) (splits := 16) [am_up])⟩ ⟨by (clear hI lo ll le ld lp ls lr ly lu lq hk hr ht hf hcn hbM hbC es hsM hsC ew; (try simp (disch := omega) only [upo, upm, ups, upn]) <;> grind (gen := 16) (splits := 16) [am_up]), by (clear hI lo ll le ld lp ls lr ly lu lq hk hr ht hf hcn hbM hbC es hsM hsC ew; (try simp (disch := omega) only [upo, upm, ups, upn]) <;> grind (gen := 16) (splits := 16) [am_up]), by (clear hI lo ll le ld lp ls lr ly lu lq hk hr ht hf hcn hbM hbC es hsM hsC ew; (try simp (disch := omega) only [upo, upm, ups, upn]) <;> grind (gen := 16) (splits := 16) [am_up]), by (clear hI lo ll le ld lp ls lr ly lu lq hk hr ht hf hcn hbM hbC es hsM hsC ew; (try simp (disch := omega) only [upo, upm, ups, upn]) <;> grind (gen := 16) (splits := 16) [am_up]), by (clear hI lo ll le ld lp ls lr ly lu lq hk hr ht hf hcn hbM hbC es hsM hsC ew; (try simp (disch := omega) only [upo, upm, ups, upn]) <;> grind (gen := 16) (splits := 16) [am_up])⟩ (by intro j hj; (clear hI lo ll le ld lp ls lr ly lu lq hk hr ht hf hcn hbM hbC es hsM hsC ew; (try simp (disch := omega) only [upo, upm, ups, upn]) <;> grind (gen := 16) (splits := 16) [am_up])) (by intro j hj; (clear hI lo ll le ld lp ls lr ly lu lq hk hr ht hf hcn hbM hbC es hsM hsC ew; (try simp (disch := omega) only [upo, upm, ups, upn]) <;> grind (gen := 16) (splits := 16) [am_up])), lSum_he (a := x1) (c := x2) (v := x3) lu (by omega) (by omega) (by omega) (by have w1 := es (by omega) (by omega); have w2 := ew (by omega) (by omega) (by omega) (by omega); omega) (by (clear hI lo ll le ld lp ls lr ly lu lq hk hr ht hf hcn hbM hbC es hsM hsC ew; (try simp (disch := omega) only [upo, upm, ups, upn]) <;> grind (gen := 16) (splits := 16) [am_up])) (by (clear hI lo ll le ld lp ls lr ly lu lq hk hr ht hf hcn hbM hbC es hsM hsC ew; (try simp (disch := omega) only [upo, upm, ups, upn]) <;> grind (gen := 16) (splits := 16) [am_up])) (by (clear hI lo ll le ld lp ls lr ly lu lq hk hr ht hf hcn hbM hbC es hsM hsC ew; (try simp (disch := omega) only [upo, upm, ups, upn]) <;> grind (gen := 16) (splits := 16) [am_up])) (by (clear hI lo ll le ld lp ls lr ly lu lq hk hr ht hf hcn hbM hbC es hsM hsC ew; (try simp (disch := omega) only [upo, upm, ups, upn]) <;> grind (gen := 16) (splits := 16) [am_up])) (by intro j hj hj2; (clear hI lo ll le ld lp ls lr ly lu lq hk hr ht hf hcn hbM hbC es hsM hsC ew; (try simp (disch := omega) only [upo, upm, ups, upn]) <;> grind (gen := 16) (splits := 16) [am_up])), lQ_fr lq (by omega) (by (clear hI lo ll le ld lp ls lr ly lu lq hk hr ht hf hcn hbM hbC es hsM hsC ew; (try simp (disch := omega) only [upo, upm, ups, upn]) <;> grind (gen := 16) (splits := 16) [am_up])) (by intro j hj; (clear hI lo ll le ld lp ls lr ly lu lq hk hr ht hf hcn hbM hbC es hsM hsC ew; (try simp (disch := omega) only [upo, upm, ups, upn]) <;> grind (gen := 16) (splits := 16) [am_up]))⟩ (by (clear hI lo ll le ld lp ls lr ly lu lq hk hr ht hf hcn hbM hbC es hsM hsC ew; (try simp (disch := omega) only [upo, upm, ups, upn]) <;> grind (gen := 16) (splits := 16) [am_up])) (by (clear hI lo ll le ld lp ls lr ly lu lq hk hr ht hf hcn hbM hbC es hsM hsC ew; (try simp (disch := omega) only [upo, upm, ups, upn]) <;> grind (gen := 16) (splits := 16) [am_up])) (by intro k hz; (clear hI lo ll le ld lp ls lr ly lu lq hk hr ht hf hcn hbM hbC es hsM hsC ew; (try simp (disch := omega) only [upo, upm, ups, upn]) <;> grind (gen := 16) (splits := 16) [am_up])) (by intro j hz; (clear hI lo ll le ld lp ls lr ly lu lq hk hr ht hf hcn hbM hbC es hsM hsC ew; (try simp (disch := omega) only [upo, upm, ups, upn]) <;> grind (gen := 16) (splits := 16) [am_up])) (by intro k hz; (clear hI lo ll le ld lp ls lr ly lu lq hk hr ht hf hcn hbM hbC es hsM hsC ew; (try simp (disch := omega) only [upo, upm, ups, upn]) <;> grind (gen := 16) (splits := 16) [am_up]))⟩
