def MR (X J0 : Nat → Int → Int) (op : Int) (I : Nat → Int → Int) (G : Int → Int) (J : Nat → Int → Int) : Prop :=
  ((∀ k, k ≠ 66 → k ≠ 67 → J k = J0 k) ∧ (∀ j, j < 11 ∨ j = 17 ∨ 18 < j → J 66 j = J0 66 j) ∧ (∀ j, j < X 5 1 ∨ X 5 1 + 120 ≤ j → J 67 j = J0 67 j)) ∧ tp (X 5 0) (X 0) J ∧ (J 66 11 = X 4 (I 45 5) ∧ J 66 12 = X 2 (I 45 5) ∧ J 66 13 = tm (X 1 (I 45 5)) ∧ (X 1 (I 45 5) = 2 ∨ 1000 ≤ X 1 (I 45 5) → J 66 14 = vm (X 1 (I 45 5)) (X 3 (I 45 5)))) ∧ (op ≤ J 66 15 ∧ J 66 15 ≤ 6 ∧ (I 45 6 = -1 → J 66 15 = op)) ∧ (J 66 16 = I 45 9 ∧ J 66 17 = X 5 1) ∧ ((I 45 6 = -1 → J 66 18 = 0) ∧ (¬ I 45 6 = -1 → J 66 18 = 1)) ∧ (∀ k, 0 ≤ k → k < I 45 9 → J 67 (X 5 1 + k) = G k)
def gup (G : Int → Int) (i c : Int) : Int → Int := fun k => if k = i then c else G k
theorem gup_s {G : Int → Int} {i c : Int} : gup G i c i = c := if_pos rfl
theorem gup_n {G : Int → Int} {i c k : Int} (h : k ≠ i) : gup G i c k = G k := if_neg h
def CG (I : Nat → Int → Int) (G : Int → Int) : Prop := ∀ k, 0 ≤ k → k < I 45 9 → I 50 k = cm (G k)
theorem tp_J {n : Int} {T : Int → Int} {I I' : Nat → Int → Int} (h : tp n T I) (h1 : I' 66 8 = I 66 8) (h2 : I' 73 = I 73) : tp n T I' := ⟨h1.trans h.1, fun j j1 j2 => by rw [h2]; exact h.2 j j1 j2⟩
theorem q_M_next {ro : Nat → Int × (Int → Int)} {d : Nat} {b : Bool} {L : Nat → Int → Int} {Q : Option am_V → am_H → Prop} {X J0 I J : Nat → Int → Int} {op : Int} {G : Int → Int} (hX : CX X) (hW : ∀ k, 0 ≤ k → k < 20 → L 75 k = wdv k) (h : MR X J0 op I G J) (h1 : 0 ≤ I 45 5) (h2 : I 45 5 < X 5 2) (H : ∀ J' : Nat → Int → Int, MR X J0 op (nC I) G J' → Q none (sh b, J', L)) : am_m ro (d + 3) 197 [am_R 66] (sh b, J, L) Q := by
  obtain ⟨⟨f1, f2, f3⟩, g, ⟨t1, t2, t3, t4⟩, op1, ⟨c1, c2⟩, z, k⟩ := h
  have w := CX_nx hX h1 h2
  have w2 := CX_nn hX h1 (by omega)
  have n := nC_f (I := I)
  refine s_M_next (tn := X 5 0) ⟨w2.2, hX.1.2.2.1⟩ g hW w (fun J' m a1 a2 a3 a4 => H J' ⟨⟨?_, ?_, ?_⟩, tp_fr g m, ⟨?_, ?_, ?_, ?_⟩, ⟨?_, ?_, ?_⟩, ⟨?_, ?_⟩, ⟨?_, ?_⟩, ?_⟩) t1
  · intro k k1 k2
    rw [m.1 k k1]
    exact f1 k k1 k2
  · intro j hj
    rw [m.2 j (by omega)]
    exact f2 j hj
  · intro j hj
    rw [m.1 67 (by omega)]
    exact f3 j hj
  · rw [n.1]
    exact a1
  · rw [n.1]
    exact a2
  · rw [n.1]
    exact a3
  · rw [n.1]
    exact a4
  · rw [m.2 15 (by omega)]
    exact op1.1
  · rw [m.2 15 (by omega)]
    exact op1.2.1
  · rw [m.2 15 (by omega), n.2.1]
    exact op1.2.2
  · rw [m.2 16 (by omega), n.2.2.1]
    exact c1
  · rw [m.2 17 (by omega)]
    exact c2
  · rw [m.2 18 (by omega), n.2.1]
    exact z.1
  · rw [m.2 18 (by omega), n.2.1]
    exact z.2
  · rw [m.1 67 (by omega), n.2.2.1]
    exact k
theorem MR_e {X J0 K I : Nat → Int → Int} {op x1 : Int} {G : Int → Int} (hX : CX X) (h : MR X J0 op K G I) (hx : 0 ≤ K 45 9 ∧ K 45 9 < 120) : MR X J0 op (eC K (cm x1)) (gup G (K 45 9) x1) (am_up (am_up I 67 ((I 66 17) + (I 66 16)) x1) 66 16 (((am_up I 67 ((I 66 17) + (I 66 16)) x1) 66 16) + 1)) := by
  obtain ⟨⟨f1, f2, f3⟩, g, ⟨t1, t2, t3, t4⟩, op1, ⟨c1, c2⟩, z, k⟩ := h
  have n := eC_f (I := K) (c := cm x1)
  have e66 : ∀ j, j ≠ 16 → (am_up (am_up I 67 ((I 66 17) + (I 66 16)) x1) 66 16 (((am_up I 67 ((I 66 17) + (I 66 16)) x1) 66 16) + 1)) 66 j = I 66 j := fun j hj => by rw [upo hj, upm (by omega)]
  have e67 : ∀ j, j ≠ X 5 1 + K 45 9 → (am_up (am_up I 67 ((I 66 17) + (I 66 16)) x1) 66 16 (((am_up I 67 ((I 66 17) + (I 66 16)) x1) 66 16) + 1)) 67 j = I 67 j := fun j hj => by rw [upm (by omega), upo (by omega)]
  have e67s : (am_up (am_up I 67 ((I 66 17) + (I 66 16)) x1) 66 16 (((am_up I 67 ((I 66 17) + (I 66 16)) x1) 66 16) + 1)) 67 (X 5 1 + K 45 9) = x1 := by
    rw [upm (by omega), c1, c2, ups]
  refine ⟨⟨?_, ?_, ?_⟩, tp_J g (e66 8 (by omega)) ?_, ⟨?_, ?_, ?_, ?_⟩, ⟨?_, ?_, ?_⟩, ⟨?_, ?_⟩, ⟨?_, ?_⟩, ?_⟩
  · intro k k1 k2
    rw [upn k1, upn k2]
    exact f1 k k1 k2
  · intro j hj
    rw [e66 j (by omega)]
    exact f2 j hj
  · intro j hj
    rw [e67 j (by omega)]
    exact f3 j hj
  · rw [upn (by omega), upn (by omega)]
  · rw [n.1, e66 11 (by omega)]
    exact t1
  · rw [n.1, e66 12 (by omega)]
    exact t2
  · rw [n.1, e66 13 (by omega)]
    exact t3
  · rw [n.1, e66 14 (by omega)]
    exact t4
  · rw [e66 15 (by omega)]
    exact op1.1
  · rw [e66 15 (by omega)]
    exact op1.2.1
  · rw [e66 15 (by omega), n.2.1]
    exact op1.2.2
  · rw [ups, upm (by omega), n.2.2.1, c1]
  · rw [e66 17 (by omega)]
    exact c2
  · rw [e66 18 (by omega), n.2.1]
    exact z.1
  · rw [e66 18 (by omega), n.2.1]
    exact z.2
  · rw [n.2.2.1]
    intro j j1 j2
    by_cases e9 : j = K 45 9
    · rw [e9, e67s, gup_s]
    · rw [e67 _ (by omega), gup_n e9]
      exact k j j1 (by omega)
theorem q_M_puts {ro : Nat → Int × (Int → Int)} {d : Nat} {b : Bool} {I L : Nat → Int → Int} {Q : Option am_V → am_H → Prop} {x1 : Int} {X J0 K : Nat → Int → Int} {op : Int} {G : Int → Int} (hX : CX X) (h : MR X J0 op K G I) (hx : 0 ≤ K 45 9 ∧ K 45 9 < 120) (H : ∀ J' : Nat → Int → Int, MR X J0 op (eC K (cm x1)) (gup G (K 45 9) x1) J' → Q none (sh b, J', L)) : am_m ro (d + 1) 198 [am_R 66, am_I x1] (sh b, I, L) Q := by
  have hx1 := hX.1
  have hc := h.2.2.2.2.1
  refine am_in rfl rfl rfl rfl ?_
  refine b_M_puts_0 (by omega) (by omega) (by rw [upm (by omega)]; omega) ?_
  exact H _ (MR_e hX h hx)
theorem MR_u {X J0 K K' I : Nat → Int → Int} {op op' i v : Int} {G : Int → Int} (h : MR X J0 op K G I) (hi : i = 15 ∨ i = 18) (k1 : K' 45 5 = K 45 5) (k2 : K' 45 9 = K 45 9) (ho : op' ≤ am_up I 66 i v 66 15 ∧ am_up I 66 i v 66 15 ≤ 6 ∧ (K' 45 6 = -1 → am_up I 66 i v 66 15 = op')) (hz : (K' 45 6 = -1 → am_up I 66 i v 66 18 = 0) ∧ (¬ K' 45 6 = -1 → am_up I 66 i v 66 18 = 1)) : MR X J0 op' K' G (am_up I 66 i v) := by
  obtain ⟨⟨f1, f2, f3⟩, g, ⟨t1, t2, t3, t4⟩, op1, ⟨c1, c2⟩, z, k⟩ := h
  refine ⟨⟨?_, ?_, ?_⟩, tp_J g (upo (by omega)) (upn (by omega)), ?_, ho, ?_, hz, ?_⟩
  · intro k k1 k2
    rw [upn k1]
    exact f1 k k1 k2
  · intro j hj
    rw [upo (by omega)]
    exact f2 j hj
  · intro j hj
    rw [upm (by omega)]
    exact f3 j hj
  · rw [k1, upo (by omega), upo (by omega), upo (by omega), upo (by omega)]
    exact ⟨t1, t2, t3, t4⟩
  · rw [k2, upo (by omega), upo (by omega)]
    exact ⟨c1, c2⟩
  · rw [k2, upn (by omega)]
    exact k
theorem MR_f {X J0 K I : Nat → Int → Int} {op : Int} {G : Int → Int} (hX : CX X) (hB : CB X K) (h1 : 0 ≤ K 45 5 ∧ K 45 5 ≤ X 5 2) (h : MR X J0 op K G I) : MR X J0 op (fC K) G (am_up I 66 18 1) := by
  have f := fC_f (I := K)
  have w := CX_nn hX h1.1 h1.2
  have o1 := h.2.2.2.1
  have e : fC K 45 6 = X 2 (K 45 5) := by rw [f.2.1, hB.2.1]
  refine MR_u h (by omega) f.1 f.2.2.1 ?_ ?_
  · rw [upo (by omega)]
    exact ⟨o1.1, o1.2.1, fun z => by omega⟩
  · rw [ups]
    exact ⟨fun z => by omega, fun _ => rfl⟩
theorem MR_dn {X J0 K I : Nat → Int → Int} {op : Int} {G : Int → Int} (h : MR X J0 (op + 1) K G I) : MR X J0 op K G (am_up I 66 15 (I 66 15 - 1)) := by
  have o1 := h.2.2.2.1
  have z := h.2.2.2.2.2.1
  refine MR_u h (by omega) rfl rfl ?_ ?_
  · rw [ups]
    exact ⟨by omega, by omega, fun y => by have q := o1.2.2 y; omega⟩
  · rw [upo (by omega)]
    exact z
theorem MR_wk {X J0 K I : Nat → Int → Int} {op : Int} {G : Int → Int} (h : MR X J0 (op + 1) K G I) (hz : ¬ K 45 6 = -1) : MR X J0 op K G I := by
  obtain ⟨f, g, t, op1, c, z, k⟩ := h
  exact ⟨f, g, t, ⟨by omega, op1.2.1, fun y => absurd y hz⟩, c, z, k⟩
theorem MR_up {X J0 K I : Nat → Int → Int} {op : Int} {G : Int → Int} (h : MR X J0 op K G I) (hz : K 45 6 = -1) (ho : op < 6) : MR X J0 (op + 1) K G (am_up I 66 15 (I 66 15 + 1)) := by
  have o1 := h.2.2.2.1
  have z := h.2.2.2.2.2.1
  have q := o1.2.2 hz
  refine MR_u h (by omega) rfl rfl ?_ ?_
  · rw [ups]
    exact ⟨by omega, by omega, fun y => by omega⟩
  · rw [upo (by omega)]
    exact z
theorem q_M_opensOne {ro : Nat → Int × (Int → Int)} {d : Nat} {b : Bool} {I L : Nat → Int → Int} {Q : Option am_V → am_H → Prop} {X J0 K : Nat → Int → Int} {op : Int} {G : Int → Int} (hX : CX X) (hW : ∀ k, 0 ≤ k → k < 20 → L 75 k = wdv k) (h : MR X J0 op K G I) (hB : CB X K) (hz : K 45 6 = -1) (h1 : 0 ≤ K 45 5 ∧ K 45 5 < X 5 2) (ho : 0 ≤ op ∧ op ≤ 6) (H1 : op < 6 → ∀ J' : Nat → Int → Int, MR X J0 (op + 1) (nC K) G J' → Q (some (am_I 1)) (sh b, J', L)) (H0 : op = 6 → ∀ J' : Nat → Int → Int, MR X J0 op (fC K) G J' → Q (some (am_I 0)) (sh b, J', L)) : am_m ro (d + 4) 199 [am_R 66] (sh b, I, L) Q := by
  have q := h.2.2.2.1.2.2 hz
  refine am_in rfl rfl rfl rfl ?_
  refine b_M_opensOne_0  (fun c1 => ?_) (fun c1 => ?_)
  · refine b_M_opensOne_16 (by omega) (q_M_next hX hW (MR_up h hz (by omega)) (by omega) (by omega) (fun J1 hJ1 => ?_))
    refine b_M_opensOne_30  ?_
    exact H1 (by omega) _ hJ1
  · refine b_M_opensOne_9  ?_
    exact H0 (by omega) _ (MR_f hX hB (by omega) h)
theorem MR_cl {P : Prop} {X J0 K I : Nat → Int → Int} {op : Int} {G : Int → Int} (hX : CX X) (hB : CB X K) (h1 : 0 ≤ K 45 5 ∧ K 45 5 ≤ X 5 2) (h : MR X J0 (op + 1) K G I) (ho : op + 1 ≤ I 66 15 ∧ I 66 15 ≤ 6 ∧ (K 45 6 = -1 → I 66 15 = op + 1)) (e13 : I 66 13 = tm (X 1 (K 45 5))) (e18 : (K 45 6 = -1 → I 66 18 = 0) ∧ (¬ K 45 6 = -1 → I 66 18 = 1)) (hc : I 66 18 = 0 → ¬ I 66 13 = 41) (H0 : K 45 6 = -1 → ¬ X 1 (K 45 5) = 41 → MR X J0 op (fC K) G (am_up I 66 18 1) → P) (H2 : ¬ K 45 6 = -1 → MR X J0 op K G (am_up I 66 18 1) → P) : P := by
  have t41 := tm_s41 (CX_tr hX h1.1 h1.2).1
  have w := CX_nn hX h1.1 h1.2
  have f := fC_f (I := K)
  have ef : fC K 45 6 = X 2 (K 45 5) := by rw [f.2.1, hB.2.1]
  by_cases hz : K 45 6 = -1
  · have q := hc (e18.1 hz)
    refine H0 hz (by omega) ?_
    refine MR_u h (by omega) f.1 f.2.2.1 ?_ ?_
    · rw [upo (by omega)]
      exact ⟨by omega, ho.2.1, fun z => by omega⟩
    · rw [ups]
      exact ⟨fun z => by omega, fun _ => rfl⟩
  · refine H2 hz ?_
    refine MR_u h (by omega) rfl rfl ?_ ?_
    · rw [upo (by omega)]
      exact ⟨by omega, ho.2.1, fun z => absurd z hz⟩
    · rw [ups]
      exact ⟨fun z => absurd z hz, fun _ => rfl⟩
theorem q_M_closes {ro : Nat → Int × (Int → Int)} {d : Nat} {b : Bool} {I L : Nat → Int → Int} {Q : Option am_V → am_H → Prop} {X J0 K : Nat → Int → Int} {op : Int} {G : Int → Int} (hX : CX X) (hW : ∀ k, 0 ≤ k → k < 20 → L 75 k = wdv k) (h : MR X J0 (op + 1) K G I) (hB : CB X K) (h1 : 0 ≤ K 45 5 ∧ K 45 5 ≤ X 5 2) (ho : 0 ≤ op) (e13 : I 66 13 = tm (X 1 (K 45 5))) (e18 : (K 45 6 = -1 → I 66 18 = 0) ∧ (¬ K 45 6 = -1 → I 66 18 = 1)) (H1 : K 45 6 = -1 → X 1 (K 45 5) = 41 → ∀ J' : Nat → Int → Int, MR X J0 op (nC K) G J' → Q none (sh b, J', L)) (H0 : K 45 6 = -1 → ¬ X 1 (K 45 5) = 41 → ∀ J' : Nat → Int → Int, MR X J0 op (fC K) G J' → Q none (sh b, J', L)) (H2 : ¬ K 45 6 = -1 → ∀ J' : Nat → Int → Int, MR X J0 op K G J' → Q none (sh b, J', L)) : am_m ro (d + 4) 206 [am_R 66] (sh b, I, L) Q := by
  have hop := h.2.2.2.1
  have hop2 := hop.2.1
  have t41 := tm_s41 (CX_tr hX h1.1 h1.2).1
  have lt41 := CX_lt hX h1.2
  refine am_in rfl rfl rfl rfl ?_
  refine b_M_closes_0  (fun c1 => ?_) (fun c1 => ?_)
  · refine b_M_closes_16  ?_
    exact MR_cl hX hB h1 h hop e13 e18 (fun y => by first | omega | exact absurd y (by assumption)) (fun y1 y2 => H0 y1 y2 _) (fun y => H2 y _)
  · refine b_M_closes_7  (fun c2 => ?_) (fun c2 => ?_)
    · refine b_M_closes_22 (by omega) (q_M_next hX hW (MR_dn h) (by omega) (by omega) (fun J1 hJ1 => ?_))
      refine b_M_closes_36  ?_
      exact H1 (by omega) (by omega) _ hJ1
    · refine b_M_closes_16  ?_
      exact MR_cl hX hB h1 h hop e13 e18 (fun y => by first | omega | exact absurd y (by assumption)) (fun y1 y2 => H0 y1 y2 _) (fun y => H2 y _)
theorem cDp_ad {f : Int → Int} {a : Int} {n : Nat} : ∀ k : Nat, cDp f a (n + k) = cDp f a n + cDp f (a + n) k
  | 0 => by simp [cDp]
  | k + 1 => by
    show cDp f a (n + k) + cDl (f (a + ((n + k : Nat) : Int))) = cDp f a n + (cDp f (a + n) k + cDl (f (a + n + k)))
    rw [cDp_ad k, show a + ((n + k : Nat) : Int) = a + n + k by omega]
    omega
theorem cWf_bn {f : Int → Int} {a : Int} {n m : Nat} (h1 : cWf f a n) (h2 : cWf f (a + n) m) (h3 : cOK (f (a + n + m))) (h4 : cNd (f (a + n + m)) = 2) (h5 : cDl (f (a + n + m)) = -1) : cWf f a (n + m + 1) := by
  have e : cDp f a (n + m) = 2 := by rw [cDp_ad, h1.2, h2.2]; rfl
  have e2 : a + ((n + m : Nat) : Int) = a + n + m := by omega
  refine ⟨fun k hk => ?_, ?_⟩
  · by_cases c1 : k < n
    · exact h1.1 k c1
    · by_cases c2 : k < n + m
      · obtain ⟨j, rfl⟩ := Nat.exists_eq_add_of_le (Nat.le_of_not_lt c1)
        have w := h2.1 j (by omega)
        rw [cDp_ad, h1.2, show a + ((n + j : Nat) : Int) = a + n + j by omega]
        exact ⟨w.1, by omega⟩
      · have c3 : k = n + m := by omega
        subst c3
        rw [e, e2]
        exact ⟨h3, by omega⟩
  · show cDp f a (n + m) + cDl (f (a + ((n + m : Nat) : Int))) = 1
    rw [e, e2, h5]
    rfl
theorem cWf_un {f : Int → Int} {a : Int} {n : Nat} (h1 : cWf f a n) (h3 : cOK (f (a + n))) (h4 : cNd (f (a + n)) = 1) (h5 : cDl (f (a + n)) = 0) : cWf f a (n + 1) := by
  refine ⟨fun k hk => ?_, ?_⟩
  · by_cases c1 : k < n
    · exact h1.1 k c1
    · have c3 : k = n := by omega
      subst c3
      rw [h1.2]
      exact ⟨h3, by omega⟩
  · show cDp f a n + cDl (f (a + n)) = 1
    rw [h1.2, h5]
    rfl
theorem cWf_lt {f : Int → Int} {a : Int} (h3 : cOK (f a)) (h4 : 100 ≤ f a ∨ f a < 10) : cWf f a 1 := by
  have e : a + ((0 : Nat) : Int) = a := by simp
  refine ⟨fun k hk => ?_, ?_⟩
  · have c3 : k = 0 := by omega
    subst c3
    rw [e]
    refine ⟨h3, ?_⟩
    show cNd (f a) ≤ 0
    unfold cNd
    rw [if_pos h4]
    exact Int.le_refl _
  · show 0 + cDl (f (a + ((0 : Nat) : Int))) = 1
    rw [e]
    unfold cDl
    rw [if_pos h4]
    rfl
