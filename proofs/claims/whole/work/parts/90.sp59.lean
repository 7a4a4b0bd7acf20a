set_option maxHeartbeats 1000000 in
theorem o_M_close {ro : Nat → Int × (Int → Int)} {d : Nat} {b : Bool} {I L : Nat → Int → Int} {Q : Option am_V → am_H → Prop} (hM : Mo I L) (hw : I 66 22 = -1) (lq : lQ (I 67) (L 69)) (H1 : I 67 0 = 40 → Q (some (am_I (-8))) (sh b, rfM I (-8), L)) (H2 : I 67 0 < 40 → ∀ I' L' : Nat → Int → Int, (∀ k, k ≠ 67 → k ≠ 5 → k ≠ 35 → k ≠ 51 → k ≠ 52 → k ≠ 59 → k ≠ 63 → k ≠ 66 → k ≠ 76 → k ≠ 77 → k ≠ 78 → k ≠ 80 → k ≠ 83 → I' k = I k) → (∀ j, j ≠ 23 → I' 66 j = I 66 j) → (∀ j, I' 67 j = if j = 35 + I 67 0 then I 67 (34 + I 67 0) else if j = 0 then I 67 0 + 1 else I 67 j) → (∀ k, k ≠ 69 → k ≤ 50 ∨ (63 ≤ k ∧ k ≤ 65) ∨ (67 ≤ k ∧ k ≤ 75) ∨ 85 ≤ k → L' k = L k) → (∀ j, L' 69 j = qZ (I 67) (L 69) (I 67 0) j) → Q (some (am_I (cZ (I 67) (L 69) (I 67 0)))) (sh b, I', L')) : am_m ro (d + 10) 229 [am_R 66] (sh b, I, L) Q := by
  have ct := Mo_ct hM
  refine am_in rfl rfl rfl rfl ?_
  refine b_M_close_0  (fun c1 => ?_) (fun c1 => ?_)
  · have fb := fnd_bd2 hM lq (y := I 67 0) (by omega)
    have e82 : L 69 (82 + I 67 0 - 1) = L 69 (81 + I 67 0) := by congr 1; omega
    refine b_M_close_20 (by omega) (by omega) (fun c2 => ?_) (fun c2 => ?_)
    · refine b_M_close_49  ?_
      refine b_M_close_50 (by omega) (s_M_finds hM (by omega) (fun I9 a9 b9 c9 => ?_))
      have nf : nmF (I 67) (I 78) 5 (I 67 0) (-1) = nmN (I 67 0) := by unfold nmF; rw [if_neg (by omega)]
      rw [nf, hw] at c9
      have ltv : ltN (I 67) (I 67 0) = max 0 (min 40 (I9 66 23)) := by rw [c9]; rfl
      have sn : sN (I 67) (I 67 0) = max 0 (I 67 0 - ltN (I 67) (I 67 0)) := rfl
      refine b_M_close_59  (fun c3 => ?_) (fun c3 => ?_)
      · refine b_M_close_71  (fun c4 => ?_) (fun c4 => ?_)
        · refine b_M_close_85  ?_
          refine b_M_close_89 (by omega) ?_
          have e0 : ((((((I 67 (239 + (I 67 0)))) + 0)))) = fnd (I 67) (L 69) (I 67 0) := by
            unfold fnd
            first
              | (rw [if_pos (by omega)]; omega)
              | (rw [if_neg (by omega)])
          rw [e0]
          refine lp_M_close (d := d) (x1 := I 67 0) (I0 := I) (L0 := L) hM hw lq (by omega) rfl (H2 (by omega)) 82 I9 L _ _ (by omega) (by omega) (Sm_sc (Sc_fi a9 b9)) ?_ ?_ (by omega)
          · rw [show (max ((((((((I 67 0))))))) - (I9 66 23)) (sN (I 67) (I 67 0)) - sN (I 67) (I 67 0)).toNat = 0 by omega]
            rfl
          · rw [show (max ((((((((I 67 0))))))) - (I9 66 23)) (sN (I 67) (I 67 0)) - sN (I 67) (I 67 0)).toNat = 0 by omega]
            rfl
        · refine b_M_close_80  ?_
          refine b_M_close_89 (by omega) ?_
          have e0 : ((((((I 67 (239 + (I 67 0)))) + 0)))) = fnd (I 67) (L 69) (I 67 0) := by
            unfold fnd
            first
              | (rw [if_pos (by omega)]; omega)
              | (rw [if_neg (by omega)])
          rw [e0]
          refine lp_M_close (d := d) (x1 := I 67 0) (I0 := I) (L0 := L) hM hw lq (by omega) rfl (H2 (by omega)) 82 I9 L _ _ (by omega) (by omega) (Sm_sc (Sc_fi a9 b9)) ?_ ?_ (by omega)
          · rw [show (max ((((((((I 67 0))))))) - 40) (sN (I 67) (I 67 0)) - sN (I 67) (I 67 0)).toNat = 0 by omega]
            rfl
          · rw [show (max ((((((((I 67 0))))))) - 40) (sN (I 67) (I 67 0)) - sN (I 67) (I 67 0)).toNat = 0 by omega]
            rfl
      · refine b_M_close_67  ?_
        refine b_M_close_89 (by omega) ?_
        have e0 : (((((I 67 (239 + (I 67 0)))) + 0))) = fnd (I 67) (L 69) (I 67 0) := by
          unfold fnd
          first
            | (rw [if_pos (by omega)]; omega)
            | (rw [if_neg (by omega)])
        rw [e0]
        refine lp_M_close (d := d) (x1 := I 67 0) (I0 := I) (L0 := L) hM hw lq (by omega) rfl (H2 (by omega)) 82 I9 L _ _ (by omega) (by omega) (Sm_sc (Sc_fi a9 b9)) ?_ ?_ (by omega)
        · rw [show (max (((((((I 67 0)))))) - 0) (sN (I 67) (I 67 0)) - sN (I 67) (I 67 0)).toNat = 0 by omega]
          rfl
        · rw [show (max (((((((I 67 0)))))) - 0) (sN (I 67) (I 67 0)) - sN (I 67) (I 67 0)).toNat = 0 by omega]
          rfl
    · refine b_M_close_35 (by omega) (by omega) (by omega) ?_
      refine b_M_close_50 (by omega) (s_M_finds hM (by omega) (fun I9 a9 b9 c9 => ?_))
      have nf : nmF (I 67) (I 78) 5 (I 67 0) (-1) = nmN (I 67 0) := by unfold nmF; rw [if_neg (by omega)]
      rw [nf, hw] at c9
      have ltv : ltN (I 67) (I 67 0) = max 0 (min 40 (I9 66 23)) := by rw [c9]; rfl
      have sn : sN (I 67) (I 67 0) = max 0 (I 67 0 - ltN (I 67) (I 67 0)) := rfl
      refine b_M_close_59  (fun c5 => ?_) (fun c5 => ?_)
      · refine b_M_close_71  (fun c6 => ?_) (fun c6 => ?_)
        · refine b_M_close_85  ?_
          refine b_M_close_89 (by omega) ?_
          have e0 : ((((((I 67 (239 + (I 67 0)))) + (L 69 ((82 + ((I 67 0))) - 1)))))) = fnd (I 67) (L 69) (I 67 0) := by
            unfold fnd
            first
              | (rw [if_pos (by omega)]; omega)
              | (rw [if_neg (by omega)])
          rw [e0]
          refine lp_M_close (d := d) (x1 := I 67 0) (I0 := I) (L0 := L) hM hw lq (by omega) rfl (H2 (by omega)) 82 I9 L _ _ (by omega) (by omega) (Sm_sc (Sc_fi a9 b9)) ?_ ?_ (by omega)
          · rw [show (max ((((((((I 67 0))))))) - (I9 66 23)) (sN (I 67) (I 67 0)) - sN (I 67) (I 67 0)).toNat = 0 by omega]
            rfl
          · rw [show (max ((((((((I 67 0))))))) - (I9 66 23)) (sN (I 67) (I 67 0)) - sN (I 67) (I 67 0)).toNat = 0 by omega]
            rfl
        · refine b_M_close_80  ?_
          refine b_M_close_89 (by omega) ?_
          have e0 : ((((((I 67 (239 + (I 67 0)))) + (L 69 ((82 + ((I 67 0))) - 1)))))) = fnd (I 67) (L 69) (I 67 0) := by
            unfold fnd
            first
              | (rw [if_pos (by omega)]; omega)
              | (rw [if_neg (by omega)])
          rw [e0]
          refine lp_M_close (d := d) (x1 := I 67 0) (I0 := I) (L0 := L) hM hw lq (by omega) rfl (H2 (by omega)) 82 I9 L _ _ (by omega) (by omega) (Sm_sc (Sc_fi a9 b9)) ?_ ?_ (by omega)
          · rw [show (max ((((((((I 67 0))))))) - 40) (sN (I 67) (I 67 0)) - sN (I 67) (I 67 0)).toNat = 0 by omega]
            rfl
          · rw [show (max ((((((((I 67 0))))))) - 40) (sN (I 67) (I 67 0)) - sN (I 67) (I 67 0)).toNat = 0 by omega]
            rfl
      · refine b_M_close_67  ?_
        refine b_M_close_89 (by omega) ?_
        have e0 : (((((I 67 (239 + (I 67 0)))) + (L 69 ((82 + ((I 67 0))) - 1))))) = fnd (I 67) (L 69) (I 67 0) := by
          unfold fnd
          first
            | (rw [if_pos (by omega)]; omega)
            | (rw [if_neg (by omega)])
        rw [e0]
        refine lp_M_close (d := d) (x1 := I 67 0) (I0 := I) (L0 := L) hM hw lq (by omega) rfl (H2 (by omega)) 82 I9 L _ _ (by omega) (by omega) (Sm_sc (Sc_fi a9 b9)) ?_ ?_ (by omega)
        · rw [show (max (((((((I 67 0)))))) - 0) (sN (I 67) (I 67 0)) - sN (I 67) (I 67 0)).toNat = 0 by omega]
          rfl
        · rw [show (max (((((((I 67 0)))))) - 0) (sN (I 67) (I 67 0)) - sN (I 67) (I 67 0)).toNat = 0 by omega]
          rfl
  · refine b_M_close_13  (s_M_refuse (by omega) ?_)
    refine b_M_close_19  ?_
    exact H1 (by omega)
theorem lEnt_cl {C C' : Nat → Int → Int} {p p' : Int → Int} (h : lEnt C p) (hc : C' 6 = C 6 ∧ C' 7 = C 7 ∧ C' 8 = C 8 ∧ C' 9 = C 9) (h4 : 0 ≤ p 0 ∧ p 0 < 40) (hp : ∀ j, ¬ j = 0 → ¬ j = 35 + p 0 → p' j = p j) (h0 : p 0 ≤ p' 0) : lEnt C' p' := by
  obtain ⟨g1, g2, g3, g4, g5, g6, g7, g8⟩ := h
  have e1 := hp 1 (by omega) (by omega)
  have e2 := hp 2 (by omega) (by omega)
  have e6 := hp 6 (by omega) (by omega)
  refine ⟨by rw [hc.1, e6]; exact g1, by omega, by omega, fun k a1 a2 => ?_, fun k a1 a2 => ?_, fun j k a1 a2 a3 => ?_, fun j k a1 a2 a3 a4 a5 => ?_, fun k a1 a2 => ?_⟩
  · have := g4 k a1 (by omega)
    rw [hp (1200 + k) (by omega) (by omega), hp (1600 + k) (by omega) (by omega), hp (2000 + k) (by omega) (by omega), hp (2400 + k) (by omega) (by omega), hc.2.1, hc.2.2.1, hc.2.2.2]
    exact this
  · have g := g5 k a1 (by omega)
    rw [hp (1200 + k) (by omega) (by omega), hp (1600 + k) (by omega) (by omega), hp (2000 + k) (by omega) (by omega), hp (2400 + k) (by omega) (by omega), e1, e2]
    omega
  · rw [hp (2400 + j) (by omega) (by omega), hp (2400 + k) (by omega) (by omega)]
    exact g6 j k a1 a2 (by omega)
  · rw [hp (2400 + j) (by omega) (by omega), hp (2400 + k) (by omega) (by omega)]
    rw [hp (1200 + j) (by omega) (by omega), hp (1200 + k) (by omega) (by omega)] at a4
    rw [hp (1600 + j) (by omega) (by omega), hp (1600 + k) (by omega) (by omega)] at a5
    exact g7 j k a1 a2 (by omega) a4 a5
  · have g := g5 k a1 (by omega)
    have w := g8 k a1 (by omega)
    rw [hp (1200 + k) (by omega) (by omega), hp (1600 + k) (by omega) (by omega), hp (34 + p (1200 + k)) (by omega) (by omega)]
    exact w
theorem qZ_lo {p q : Int → Int} {y j : Int} (hy : 0 ≤ y ∧ y < 40) (hj : j < 123) (h1 : ¬ j = y) (h2 : ¬ j = 41 + y) (h3 : ¬ j = 82 + y) : qZ p q y j = q j := by
  have sn : 0 ≤ sN p y := by unfold sN; omega
  unfold qZ
  rw [if_neg h1, if_neg h2, if_neg h3]
  show stq y y _ _ j = q j
  rw [stq_lo hy.1 hy.1 hj]
  exact QL_lo hy.1 sn hj _
theorem qZ_hi {p q : Int → Int} {y j : Int} (hy : 0 ≤ y ∧ y < 40) (hj : 123 ≤ j) : qZ p q y j = stq y y (qE p q y).1 (fun n => fG (pY p y) (mY p y) (tY p y) (qE p q y).2 n) j := by
  unfold qZ
  rw [if_neg (by omega), if_neg (by omega), if_neg (by omega)]
  rfl
theorem lQ_cl {I L : Nat → Int → Int} {q p' q' : Int → Int} {y : Int} (h : Mo I L) (g : lQ (I 67) q) (hy : I 67 0 = y ∧ 0 ≤ y ∧ y < 40) (hp : p' 0 = y + 1) (hq : ∀ j, q' j = qZ (I 67) q y j) : lQ p' q' := by
  have fb := fnd_bd2 h g hy.2
  have sn : 0 ≤ sN (I 67) y ∧ sN (I 67) y ≤ y := by unfold sN ltN; omega
  have bq := QL_bd (p := I 67) (q0 := q) (f := fnd (I 67) q y) (y := y) (s := sN (I 67) y) ⟨hy.2.1, by omega⟩ sn.1 ⟨fb.2.2.1, fb.2.2.2.2⟩ (y - sN (I 67) y).toNat (by omega)
  have e : QL (I 67) q (fnd (I 67) q y) y (sN (I 67) y) (y - sN (I 67) y).toNat = qE (I 67) q y := rfl
  rw [e] at bq
  have hpp : Pp (pY (I 67) y) := pp_of (y := y) (w := -1) (a := y) h (by omega)
  have hmr : am_r (mY (I 67) y) := sy_r (key := 3) (y := y) (w := -1) h (nmN_r (y := y) (by omega))
  have hz : 0 ≤ (qE (I 67) q y).2 ∧ (qE (I 67) q y).2 ≤ 1000000000 := by omega
  have fr := fR_bd (M := mY (I 67) y) (T := tY (I 67) y) (Z := (qE (I 67) q y).2) hpp hz hmr
  have fg : ∀ n, 0 ≤ n → n < 20 → 0 ≤ fG (pY (I 67) y) (mY (I 67) y) (tY (I 67) y) (qE (I 67) q y).2 n ∧ fG (pY (I 67) y) (mY (I 67) y) (tY (I 67) y) (qE (I 67) q y).2 n ≤ (qE (I 67) q y).2 := fun n n1 n2 => ⟨(fG_bd hpp hz ⟨n1, n2⟩ hmr).1, fG_le hpp hz hmr ⟨n1, n2⟩⟩
  obtain ⟨g1, g2, g3⟩ := g
  refine ⟨fun k a1 a2 => ?_, fun k a1 a2 => ?_, fun k a1 a2 => ?_⟩
  · have gk := g1 k a1 a2
    rw [hq k, hq (41 + k), hq (82 + k)]
    by_cases ek : k = y
    · subst ek
      have z1 : qZ (I 67) q k k = (qE (I 67) q k).2 := by
        unfold qZ
        rw [if_pos rfl]
      have z2 : qZ (I 67) q k (41 + k) = fnd (I 67) q k - (qE (I 67) q k).2 := by
        unfold qZ
        rw [if_neg (by omega), if_pos rfl]
      have z3 : qZ (I 67) q k (82 + k) = fR (pY (I 67) k) (mY (I 67) k) (tY (I 67) k) (qE (I 67) q k).2 := by
        unfold qZ
        rw [if_neg (by omega), if_neg (by omega), if_pos rfl]
      rw [z1, z2, z3]
      omega
    · rw [qZ_lo hy.2 (by omega) ek (by omega) (by omega), qZ_lo hy.2 (by omega) (by omega) (by omega) (by omega), qZ_lo hy.2 (by omega) (by omega) (by omega) (by omega)]
      exact gk
  · have gk := g2 k a1 a2
    have b2 := bq.2.1 k a1 a2
    have b3 := bq.2.2 k a1 a2
    have g4 := g3 k
    rw [hq (123 + k), hq (943 + k), qZ_hi hy.2 (by omega), qZ_hi hy.2 (by omega), stq43 ⟨a1, a2⟩ (by omega), stq44 ⟨a1, a2⟩ (by omega)]
    by_cases c : 20 * y ≤ k ∧ k < 20 * y + 20
    · have f9 := fg (k - 20 * y) (by omega) (by omega)
      have g5 := g4 (by omega) a2
      rw [if_neg (by omega)] at b2
      rw [if_pos c] at b3
      rw [if_pos c]
      omega
    · rw [if_neg c] at b3
      rw [if_neg c]
      split at b2 <;> omega
  · have b3 := bq.2.2 k (by omega) a2
    have g4 := g3 k (by omega) a2
    rw [hq (943 + k), qZ_hi hy.2 (by omega), stq44 ⟨by omega, a2⟩ (by omega), if_neg (by omega)]
    rw [if_neg (by omega)] at b3
    omega
set_option maxHeartbeats 1000000 in
theorem A_close {ro : Nat → Int × (Int → Int)} {d : Nat} {b : Bool} {I L : Nat → Int → Int} (hro : RoK ro) (hI : Inv b I L) : am_m ro (d + 10) 25 [am_R 0] (sh b, I, L) (fun r h => am_m ro (d + 10) 229 [am_R 66] h (fun r2 h2 => Pair r r2 h2)) := by
  have hC := Cor_of hI
  have ct := Cor_ct hC
  have hw := hI.2.2.2.2.2.1
  obtain ⟨lo, ll, le, ld, lp, ls, lr, ly, lu, lq⟩ := id hI.1
  have p5 := lp.2.1
  have p5b := lp.2.2.1
  have p6 := ls.2.1
  have p6b := ls.2.2.1
  have p7 := lr.2.1
  have p7b := lr.2.2.1
  refine o_P_close (d := d + 1) hro hC ly lq (fun a => ?_) (fun a I1 L1 c1 c2 c3 c4 e1 e2 e3 => ?_)
  · refine o_M_close (by repeat (first | exact Mo_of hC | refine Mo_rf ?_ | refine Mo_up ?_ (by decide))) (by rw [rfm (by omega)]; exact hw) (by rw [rfn (by omega)]; exact lq) (fun a2 => Pair_rf hI) (fun a2 => by (try simp (disch := omega) only [rfm, rfn] at a2); omega)
  · have f67 : I1 67 = I 67 := c1 67 (by omega) (by omega) (by omega) (by omega) (by omega) (by omega) (by omega) (by omega) (by omega) (by omega) (by omega) (by omega) (by omega) (by omega)
    have f72 : I1 72 = I 72 := c1 72 (by omega) (by omega) (by omega) (by omega) (by omega) (by omega) (by omega) (by omega) (by omega) (by omega) (by omega) (by omega) (by omega) (by omega)
    have f69 : L1 69 = L 69 := e1 69 (by omega)
    refine o_M_close (Mo_cg (L := L) (L' := L) (Mo_of hC) f67 rfl f72) (by rw [c2 22 (by omega)]; exact hw) (by rw [f67, f69]; exact lq) (fun a2 => by rw [f67] at a2; omega) (fun a2 I2 L2 d1 d2 d3 u1 u2 => ?_)
    rw [f67] at d3 u2 ⊢
    rw [f69] at u2 ⊢
    have cc : ∀ k, (2 ≤ k ∧ k ≤ 4) ∨ (6 ≤ k ∧ k ≤ 34) ∨ k = 36 ∨ (38 ≤ k ∧ k ≤ 44) ∨ k = 0 ∨ k = 45 ∨ k = 46 ∨ k = 64 ∨ k = 65 ∨ k = 68 ∨ (71 ≤ k ∧ k ≤ 74) ∨ 85 ≤ k → I2 k = I k := fun k hk => (d1 k (by omega) (by omega) (by omega) (by omega) (by omega) (by omega) (by omega) (by omega) (by omega) (by omega) (by omega) (by omega) (by omega)).trans (c1 k (by omega) (by omega) (by omega) (by omega) (by omega) (by omega) (by omega) (by omega) (by omega) (by omega) (by omega) (by omega) (by omega) (by omega))
    have h1 : I2 1 0 = I 67 0 + 1 := by rw [d1 1 (by omega) (by omega) (by omega) (by omega) (by omega) (by omega) (by omega) (by omega) (by omega) (by omega) (by omega) (by omega) (by omega)]; exact c3
    have h37 : I2 37 = I1 37 := d1 37 (by omega) (by omega) (by omega) (by omega) (by omega) (by omega) (by omega) (by omega) (by omega) (by omega) (by omega) (by omega) (by omega)
    have hp : ∀ j, ¬ j = 0 → ¬ j = 35 + I 67 0 → I2 67 j = I 67 j := fun j j1 j2 => by rw [d3 j, if_neg j2, if_neg j1]
    have h0 : I2 67 0 = I 67 0 + 1 := by rw [d3 0, if_neg (by omega), if_pos rfl]
    have hL : ∀ k, (40 ≤ k ∧ k ≤ 44) → L2 k = L1 k := fun k hk => u1 k (by omega) (by omega)
    refine ⟨_, b, I2, L2, rfl, rfl, rfl, Inv_ld hI ⟨?_, ?_, ?_, ?_, ?_, ?_, ?_, ?_, ?_, ?_⟩ ?_ ?_ (fun k hk => cc k (by omega)) (fun j hj => by rw [d2 j (by omega)]; exact c2 j (by omega)) (fun k hk => by rw [u1 k (by omega) (by omega)]; exact e1 k (by omega))⟩
    · exact ⟨by rw [h1, h0], by omega, by omega⟩
    · exact lLib_fr ll ⟨cc _ (by omega), cc _ (by omega), cc _ (by omega)⟩ (fun j hj => hp j (by omega) (by omega))
    · exact lEnt_cl le ⟨cc _ (by omega), cc _ (by omega), cc _ (by omega), cc _ (by omega)⟩ (by omega) hp (by omega)
    · exact lEd_fr ld ⟨cc _ (by omega), cc _ (by omega), cc _ (by omega), cc _ (by omega), cc _ (by omega)⟩ (fun j hj => hp j (by omega) (by omega))
    · exact lPeo_fr lp ⟨cc _ (by omega), cc _ (by omega), cc _ (by omega), cc _ (by omega), cc _ (by omega), cc _ (by omega), cc _ (by omega)⟩ (fun j hj => hp j (by omega) (by omega))
    · exact lSh_fr ls ⟨cc _ (by omega), cc _ (by omega), cc _ (by omega), cc _ (by omega), cc _ (by omega), cc _ (by omega)⟩ (fun j hj => hp j (by omega) (by omega)) (by omega) (by rw [hp 2 (by omega) (by omega)]; omega) (by rw [hp 3 (by omega) (by omega)]; omega)
    · exact lRul_fr lr ⟨cc _ (by omega), cc _ (by omega), cc _ (by omega), cc _ (by omega), cc _ (by omega), cc _ (by omega), cc _ (by omega)⟩ (fun j hj => hp j (by omega) (by omega)) (fun r k a1 a2 a3 a4 => hp _ (by omega) (by omega))
    · obtain ⟨g1, g2, g3, g4⟩ := ly
      refine ⟨fun k k1 k2 => ?_, fun k k1 k2 => ?_, fun k k1 k2 => ?_, fun k k1 k2 => ?_⟩
      · have w := g1 k k1 k2
        have w0 := g1 (I 67 0) (by omega) (by omega)
        have z := e2 k k1 k2
        refine ⟨?_, ?_, ?_, ?_, ?_⟩
        · rw [h37, c4 k]
          by_cases ek : k = I 67 0 + 1
          · rw [if_pos ek, w0.1, d3 (34 + k), if_pos (by omega)]
          · rw [if_neg ek, w.1, hp (34 + k) (by omega) (by omega)]
        · rw [cc 39 (by omega), w.2.1, hp (239 + k) (by omega) (by omega)]
        · rw [hL 40 (by omega), z.1, u2 k]
        · rw [hL 41 (by omega), z.2.1, u2 (41 + k)]
        · rw [hL 42 (by omega), z.2.2, u2 (82 + k)]
      · have w := g2 k k1 k2
        have w0 := g2 (I 67 0) (by omega) (by omega)
        rw [hp (239 + k) (by omega) (by omega)]
        by_cases ek : k = I 67 0 + 1
        · rw [d3 (34 + k), if_pos (by omega)]
          omega
        · rw [hp (34 + k) (by omega) (by omega)]
          exact w
      · rw [cc 38 (by omega), hp (75 + k) (by omega) (by omega)]
        exact g3 k k1 k2
      · have z := e3 k k1 k2
        rw [hL 43 (by omega), hL 44 (by omega), z.1, z.2, u2 (123 + k), u2 (943 + k)]
        exact ⟨rfl, rfl⟩
    · exact lSum_fr lu (by omega) (hp 2 (by omega) (by omega)) (hp 3 (by omega) (by omega)) (hp 4 (by omega) (by omega)) (fun j hj => hp j (by omega) (by omega))
    · exact lQ_cl (Mo_of hC) lq ⟨rfl, by omega, by omega⟩ h0 u2
    · rw [cc 0 (by omega)]
    · rw [cc 45 (by omega)]
