def stS (f : Int → Int) : Nat → Int
  | 0 => 0
  | k + 1 => am_or (stS f k) (am_shl 1 (f k))
theorem stS_s {f : Int → Int} {i : Int} (h : 0 ≤ i) : stS f (i + 1).toNat = am_or (stS f i.toNat) (am_shl 1 (f i)) := by
  have e : (i + 1).toNat = i.toNat + 1 := by omega
  rw [e]
  show am_or (stS f i.toNat) (am_shl 1 (f (i.toNat : Int))) = _
  rw [Int.toNat_of_nonneg h]
theorem stS_cg {f g : Int → Int} : ∀ n : Nat, (∀ k : Int, 0 ≤ k → k < n → f k = g k) → stS f n = stS g n
  | 0, _ => rfl
  | n + 1, h => by
    show am_or (stS f n) (am_shl 1 (f n)) = am_or (stS g n) (am_shl 1 (g n))
    rw [stS_cg n (fun k a1 a2 => h k a1 (by omega)), h n (by omega) (by omega)]
def jbd (f : Int → Int) (m k : Int) : Prop := ¬ (0 ≤ f k ∧ f k < m) ∨ am_and (am_shr (stS f k.toNat) (f k)) 1 = 1
theorem jbd_cg {f g : Int → Int} {m k n : Int} (h : ∀ k, 0 ≤ k → k < n → f k = g k) (h1 : 0 ≤ k) (h2 : k < n) : jbd f m k ↔ jbd g m k := by
  unfold jbd
  rw [h k h1 h2, stS_cg (f := f) (g := g) k.toNat (fun j a1 a2 => h j a1 (by omega))]
theorem wdN_bd {p : Int → Int} {s c : Int} (hz : ∀ g, 0 ≤ szN p s g (p 1).toNat) (ha : ∀ g, 0 ≤ g → g < 4 → 0 ≤ p (75 + 4 * c + g) ∧ p (75 + 4 * c + g) ≤ 9999999) : ∀ g : Nat, g ≤ 4 → -1 ≤ wdN p s c g ∧ wdN p s c g ≤ 9999999
  | 0, _ => by simp [wdN]
  | g + 1, h => by
    have hi := wdN_bd hz ha g (by omega)
    have h1 := hz g
    have h2 := ha g (by omega) (by omega)
    have qw := Int.ediv_le_self (szN p s g (p 1).toNat) h2.1
    have qv := Int.ediv_nonneg h2.1 h1
    show -1 ≤ (if wdN p s c g = -1 then -1 else if 0 < isN p g (p 1).toNat then (if szN p s g (p 1).toNat = 0 then -1 else max (wdN p s c g) (p (75 + 4 * c + g) / szN p s g (p 1).toNat)) else wdN p s c g) ∧ (if wdN p s c g = -1 then -1 else if 0 < isN p g (p 1).toNat then (if szN p s g (p 1).toNat = 0 then -1 else max (wdN p s c g) (p (75 + 4 * c + g) / szN p s g (p 1).toNat)) else wdN p s c g) ≤ 9999999
    split
    · omega
    · split
      · split <;> omega
      · omega
theorem wd_bd {I L : Nat → Int → Int} {s : Int} (h : Mo I L) (h0 : 1 ≤ I 67 0) : -1 ≤ wd (I 67) s (I 67 0 - 1) ∧ wd (I 67) s (I 67 0 - 1) ≤ 9999999 := by
  have ct := Mo_ct h
  obtain ⟨C, CL, hM0⟩ := id h
  refine wdN_bd (fun g => (szN_bd _ (fun l a1 a2 => by have w := hM0.1.2.1.2.2.2.2 l a1 (by omega); omega)).1) (fun g g1 g2 => ?_) 4 (by omega)
  have al := Mo_al (k := 4 * (I 67 0 - 1) + g) h (by omega)
  have e75 : 75 + (4 * (I 67 0 - 1) + g) = 75 + 4 * (I 67 0 - 1) + g := by omega
  rw [e75] at al
  exact al
theorem lp_P_judge {ro : Nat → Int × (Int → Int)} {d : Nat} {b : Bool} {I L : Nat → Int → Int} {Q : Option am_V → am_H → Prop} {bc bs : Nat} (hC : Cor I L) (hs : 0 ≤ I 0 6 ∧ I 0 6 ≤ 12 ∧ 1 ≤ I 67 0) (H3 : (∃ k, 0 ≤ k ∧ k < I 0 6 ∧ jbd (I 64) (I 67 1) k) → Q (some (am_I (-1))) (sh b, I, L)) (H4 : (∀ k, 0 ≤ k → k < I 0 6 → ¬ jbd (I 64) (I 67 1) k) → ∀ I' : Nat → Int → Int, (∀ k, k ≠ 5 → I' k = I k) → Q (some (am_I (wd (I 67) (stS (I 64) (I 0 6).toNat) (I 67 0 - 1)))) (sh b, I', L)) : ∀ (n : Nat) (x1 x2 : Int), (0 ≤ x2) → (x2 ≤ I 0 6) → (x1 = stS (I 64) x2.toNat) → (∀ k, 0 ≤ k → k < x2 → ¬ jbd (I 64) (I 67 1) k) → I 0 6 - x2 < (n : Int) → am_ex (am_m ro (d + 2)) ro am_M32 Q (36, [some (am_R 0), some (am_I x1), some (am_I x2), none], [], (sh b, I, L), bc, bs) := by
  intro n
  induction n with
  | zero =>
    intro x1 x2 i0 i1 i2 i3 im
    exact absurd im (by omega)
  | succ n ih =>
    intro x1 x2 i0 i1 i2 i3 im
    have ct := Cor_ct hC
    refine b_P_judge_36  (fun c1 => ?_) (fun c1 => ?_)
    · refine b_P_judge_88 (by omega) (s_Libs_widthOf hC (by omega) (fun I9 f9 => ?_))
      refine b_P_judge_115  ?_
      have e9 : x2 = I 0 6 := by omega
      rw [e9] at i2 i3
      rw [ct.1.1, i2]
      exact H4 i3 I9 f9
    · refine b_P_judge_44 (by omega) (s_Libs_has (by omega) (fun c2 => ?_) (fun c2 => ?_))
      · refine b_P_judge_62  (fun c3 => absurd c3 (by decide)) (fun c3 => ?_)
        refine b_P_judge_65  (fun c4 => ?_) (fun c4 => ?_)
        · refine b_P_judge_76 (by omega) ?_
          exact ih (am_or x1 (am_shl 1 (((I 64 x2))))) (x2 + 1) (by omega) (by omega) (by rw [stS_s (by omega), ← i2]) (by intro k a1 a2; by_cases ee : k = x2; (· subst ee; intro q; rcases q with q | q; (· omega); (· rw [← i2] at q; omega)); (· exact i3 k a1 (by omega))) (by omega)
        · refine b_P_judge_74  ?_
          exact H3 ⟨x2, by omega, by omega, Or.inr (by rw [← i2]; omega)⟩
      · refine b_P_judge_62  (fun c5 => ?_) (fun c5 => absurd c5 (by decide))
        refine b_P_judge_74  ?_
        exact H3 ⟨x2, by omega, by omega, Or.inl (by omega)⟩
theorem o_P_judge {ro : Nat → Int × (Int → Int)} {d : Nat} {b : Bool} {I L : Nat → Int → Int} {Q : Option am_V → am_H → Prop} (hC : Cor I L) (hs : -1 ≤ I 0 6 ∧ I 0 6 ≤ 12) (H1 : I 0 6 = -1 → Q (some (am_I (-2))) (sh b, rfC I (-2), L)) (H2 : 0 ≤ I 0 6 ∧ I 67 0 = 0 → Q (some (am_I (-7))) (sh b, rfC I (-7), L)) (H3 : 0 ≤ I 0 6 ∧ 1 ≤ I 67 0 → (∃ k, 0 ≤ k ∧ k < I 0 6 ∧ jbd (I 64) (I 67 1) k) → Q (some (am_I (-1))) (sh b, I, L)) (H4 : 0 ≤ I 0 6 ∧ 1 ≤ I 67 0 → (∀ k, 0 ≤ k → k < I 0 6 → ¬ jbd (I 64) (I 67 1) k) → ∀ I' : Nat → Int → Int, (∀ k, k ≠ 5 → I' k = I k) → Q (some (am_I (wd (I 67) (stS (I 64) (I 0 6).toNat) (I 67 0 - 1)))) (sh b, I', L)) : am_m ro (d + 3) 32 [am_R 0] (sh b, I, L) Q := by
  have ct := Cor_ct hC
  refine am_in rfl rfl rfl rfl ?_
  refine b_P_judge_0  (fun c1 => ?_) (fun c1 => ?_)
  · refine b_P_judge_15  (fun c2 => ?_) (fun c2 => ?_)
    · refine b_P_judge_32  ?_
      exact lp_P_judge (d := d) hC (by omega) (H3 (by omega)) (H4 (by omega)) 13 0 0 (by omega) (by omega) rfl (by intro k a1 a2; omega) (by omega)
    · refine b_P_judge_25  (s_P_refuse (by omega) ?_)
      refine b_P_judge_31  ?_
      first | exact H1 (by omega) | exact H2 (by omega)
  · refine b_P_judge_8  (s_P_refuse (by omega) ?_)
    refine b_P_judge_14  ?_
    first | exact H1 (by omega) | exact H2 (by omega)
theorem lp_M_judge {ro : Nat → Int × (Int → Int)} {d : Nat} {b : Bool} {I L : Nat → Int → Int} {Q : Option am_V → am_H → Prop} {bc bs : Nat} (hM : Mo I L) (hs : 0 ≤ I 66 9 ∧ I 66 9 ≤ 12 ∧ 1 ≤ I 67 0) (H3 : (∃ k, 0 ≤ k ∧ k < I 66 9 ∧ jbd (I 74) (I 67 1) k) → Q (some (am_I (-1))) (sh b, I, L)) (H4 : (∀ k, 0 ≤ k → k < I 66 9 → ¬ jbd (I 74) (I 67 1) k) → Q (some (am_I (wd (I 67) (stS (I 74) (I 66 9).toNat) (I 67 0 - 1)))) (sh b, I, L)) : ∀ (n : Nat) (x1 x2 : Int), (0 ≤ x2) → (x2 ≤ I 66 9) → (x1 = stS (I 74) x2.toNat) → (∀ k, 0 ≤ k → k < x2 → ¬ jbd (I 74) (I 67 1) k) → I 66 9 - x2 < (n : Int) → am_ex (am_m ro (d + 2)) ro am_M238 Q (34, [some (am_R 66), some (am_I x1), some (am_I x2)], [], (sh b, I, L), bc, bs) := by
  intro n
  induction n with
  | zero =>
    intro x1 x2 i0 i1 i2 i3 im
    exact absurd im (by omega)
  | succ n ih =>
    intro x1 x2 i0 i1 i2 i3 im
    have ct := Mo_ct hM
    refine b_M_judge_34  (fun c1 => ?_) (fun c1 => ?_)
    · refine b_M_judge_88  (s_M_width hM (by omega) ?_)
      have wb := wd_bd (s := x1) hM (by omega)
      refine b_M_judge_93 (by omega) ?_
      have e9 : x2 = I 66 9 := by omega
      rw [e9] at i2 i3
      rw [i2]
      exact H4 i3
    · refine b_M_judge_42 (by omega) (s_M_isLibrary (by omega) (fun c2 => ?_) (fun c2 => ?_))
      · refine b_M_judge_52  (fun c3 => absurd c3 (by decide)) (fun c3 => ?_)
        refine b_M_judge_55 (by omega) (fun c4 => ?_) (fun c4 => ?_)
        · refine b_M_judge_71 (by omega) (by omega) ?_
          exact ih (am_or x1 (am_shl 1 (I 74 x2))) (x2 + 1) (by omega) (by omega) (by rw [stS_s (by omega), ← i2]) (by intro k a1 a2; by_cases ee : k = x2; (· subst ee; intro q; rcases q with q | q; (· omega); (· rw [← i2] at q; omega)); (· exact i3 k a1 (by omega))) (by omega)
        · refine b_M_judge_69  ?_
          exact H3 ⟨x2, by omega, by omega, Or.inr (by rw [← i2]; omega)⟩
      · refine b_M_judge_52  (fun c5 => ?_) (fun c5 => absurd c5 (by decide))
        refine b_M_judge_69  ?_
        exact H3 ⟨x2, by omega, by omega, Or.inl (by omega)⟩
theorem o_M_judge {ro : Nat → Int × (Int → Int)} {d : Nat} {b : Bool} {I L : Nat → Int → Int} {Q : Option am_V → am_H → Prop} (hM : Mo I L) (hs : -1 ≤ I 66 9 ∧ I 66 9 ≤ 12) (H1 : I 66 9 < 0 → Q (some (am_I (-2))) (sh b, rfM I (-2), L)) (H2 : 0 ≤ I 66 9 ∧ I 67 0 = 0 → Q (some (am_I (-7))) (sh b, rfM I (-7), L)) (H3 : 0 ≤ I 66 9 ∧ 1 ≤ I 67 0 → (∃ k, 0 ≤ k ∧ k < I 66 9 ∧ jbd (I 74) (I 67 1) k) → Q (some (am_I (-1))) (sh b, I, L)) (H4 : 0 ≤ I 66 9 ∧ 1 ≤ I 67 0 → (∀ k, 0 ≤ k → k < I 66 9 → ¬ jbd (I 74) (I 67 1) k) → Q (some (am_I (wd (I 67) (stS (I 74) (I 66 9).toNat) (I 67 0 - 1)))) (sh b, I, L)) : am_m ro (d + 3) 238 [am_R 66] (sh b, I, L) Q := by
  have ct := Mo_ct hM
  refine am_in rfl rfl rfl rfl ?_
  refine b_M_judge_0  (fun c1 => ?_) (fun c1 => ?_)
  · refine b_M_judge_14  (fun c2 => ?_) (fun c2 => ?_)
    · refine b_M_judge_30  ?_
      exact lp_M_judge (d := d) hM (by omega) (H3 (by omega)) (H4 (by omega)) 13 0 0 (by omega) (by omega) rfl (by intro k a1 a2; omega) (by omega)
    · refine b_M_judge_23  (s_M_refuse (by omega) ?_)
      refine b_M_judge_29  ?_
      first | exact H1 (by omega) | exact H2 (by omega)
  · refine b_M_judge_7  (s_M_refuse (by omega) ?_)
    refine b_M_judge_13  ?_
    first | exact H1 (by omega) | exact H2 (by omega)
theorem Sc_5 {I L I' : Nat → Int → Int} (h : ∀ k, k ≠ 5 → I' k = I k) : Sc I L I' L :=
  ⟨fun k a1 a2 a3 a4 a5 a6 a7 a8 a9 a10 a11 a12 => h k a1, fun j a => by rw [h 66 (by omega)], fun k a => rfl⟩
theorem A_judge {ro : Nat → Int × (Int → Int)} {d : Nat} {b : Bool} {I L : Nat → Int → Int} (hI : Inv b I L) : am_m ro (d + 3) 32 [am_R 0] (sh b, I, L) (fun r h => am_m ro (d + 3) 238 [am_R 66] h (fun r2 h2 => Pair r r2 h2)) := by
  have hC := Cor_of hI
  have ct := Cor_ct hC
  obtain ⟨t1, t2, t3, t4⟩ := hI.2.2.1
  have jc : ∀ k, 0 ≤ k → k < I 66 9 → (jbd (I 64) (I 67 1) k ↔ jbd (I 74) (I 67 1) k) := fun k a1 a2 => jbd_cg (n := 12) t4 a1 (by omega)
  refine o_P_judge hC (by omega) (fun a => ?_) (fun a => ?_) (fun a a9 => ?_) (fun a a9 I1 f1 => ?_)
  · refine o_M_judge (by repeat (first | exact Mo_of hC | refine Mo_rf ?_ | refine Mo_up ?_ (by decide))) (by (try simp (disch := omega) only [rfm]); omega) (fun a2 => Pair_rf hI) (fun a2 => by (try simp (disch := omega) only [rfm, rfn] at a2); omega) (fun a2 => by (try simp (disch := omega) only [rfm, rfn] at a2); omega) (fun a2 => by (try simp (disch := omega) only [rfm, rfn] at a2); omega)
  · refine o_M_judge (by repeat (first | exact Mo_of hC | refine Mo_rf ?_ | refine Mo_up ?_ (by decide))) (by (try simp (disch := omega) only [rfm]); omega) (fun a2 => by (try simp (disch := omega) only [rfm, rfn] at a2); omega) (fun a2 => Pair_rf hI) (fun a2 => by (try simp (disch := omega) only [rfm, rfn] at a2); omega) (fun a2 => by (try simp (disch := omega) only [rfm, rfn] at a2); omega)
  · refine o_M_judge (Mo_of hC) (by omega) (fun a2 => by omega) (fun a2 => by omega) (fun a2 b2 => ⟨_, b, I, L, rfl, rfl, rfl, hI⟩) (fun a2 b2 => ?_)
    obtain ⟨k, k1, k2, k3⟩ := a9
    exact absurd ((jc k k1 (by omega)).mp k3) (b2 k k1 (by omega))
  · have s1 := Sc_5 (L := L) f1
    have f66 := f1 66 (by omega)
    have f67 := f1 67 (by omega)
    have f74 := f1 74 (by omega)
    refine o_M_judge (Mo_sc (Mo_of hC) s1) (by rw [f66]; omega) (fun a2 => by rw [f66] at a2; omega) (fun a2 => by rw [f66, f67] at a2; omega) (fun a2 b2 => ?_) (fun a2 b2 => ?_)
    · obtain ⟨k, k1, k2, k3⟩ := b2
      rw [f66] at k2
      rw [f74, f67] at k3
      exact absurd ((jc k k1 k2).mpr k3) (a9 k k1 (by omega))
    · rw [f67, f74, f66, ← t1, ← stS_cg (f := I 64) (g := I 74) (I 0 6).toNat (fun k a1 a2 => t4 k a1 (by omega))]
      exact ⟨_, b, I1, L, rfl, rfl, rfl, Inv_sc hI s1⟩
abbrev Fr (d s t : Int) : Prop := jb (am_and t (am_xor d (-1))) < jb (am_and s (am_xor d (-1))) ∨ (jb (am_and s (am_xor d (-1))) = jb (am_and t (am_xor d (-1))) ∧ ¬ am_and (am_and s (am_xor s t)) (-(am_xor s t)) = 0)
def bdS (p : Int → Int) (n : Int) : Nat → Int × Int
  | 0 => (-1, -1)
  | k + 1 => if jb k = n ∧ ¬ wd p k (p 0 - 1) = -1 ∧ ((bdS p n k).1 = -1 ∨ wd p k (p 0 - 1) < (bdS p n k).2 ∨ (wd p k (p 0 - 1) = (bdS p n k).2 ∧ Fr (p (34 + p 0)) k (bdS p n k).1)) then ((k : Int), wd p k (p 0 - 1)) else bdS p n k
theorem bdS_s {p : Int → Int} {n i : Int} (h : 0 ≤ i) : bdS p n (i + 1).toNat = if jb i = n ∧ ¬ wd p i (p 0 - 1) = -1 ∧ ((bdS p n i.toNat).1 = -1 ∨ wd p i (p 0 - 1) < (bdS p n i.toNat).2 ∨ (wd p i (p 0 - 1) = (bdS p n i.toNat).2 ∧ Fr (p (34 + p 0)) i (bdS p n i.toNat).1)) then (i, wd p i (p 0 - 1)) else bdS p n i.toNat := by
  have e : (i + 1).toNat = i.toNat + 1 := by omega
  rw [e]
  have e2 : ((i.toNat : Nat) : Int) = i := Int.toNat_of_nonneg h
  show (if jb (i.toNat : Int) = n ∧ ¬ wd p (i.toNat : Int) (p 0 - 1) = -1 ∧ ((bdS p n i.toNat).1 = -1 ∨ wd p (i.toNat : Int) (p 0 - 1) < (bdS p n i.toNat).2 ∨ (wd p (i.toNat : Int) (p 0 - 1) = (bdS p n i.toNat).2 ∧ Fr (p (34 + p 0)) (i.toNat : Int) (bdS p n i.toNat).1)) then ((i.toNat : Int), wd p (i.toNat : Int) (p 0 - 1)) else bdS p n i.toNat) = _
  rw [e2]
theorem bdS_bd {p : Int → Int} {n : Int} : ∀ k : Nat, (bdS p n k).1 = -1 ∨ (0 ≤ (bdS p n k).1 ∧ (bdS p n k).1 < k)
  | 0 => Or.inl rfl
  | k + 1 => by
    have h := bdS_bd (p := p) (n := n) k
    have e : bdS p n (k + 1) = if jb k = n ∧ ¬ wd p k (p 0 - 1) = -1 ∧ ((bdS p n k).1 = -1 ∨ wd p k (p 0 - 1) < (bdS p n k).2 ∨ (wd p k (p 0 - 1) = (bdS p n k).2 ∧ Fr (p (34 + p 0)) k (bdS p n k).1)) then ((k : Int), wd p k (p 0 - 1)) else bdS p n k := rfl
    rw [e]
    split
    · right
      show 0 ≤ (k : Int) ∧ (k : Int) < ((k + 1 : Nat) : Int)
      omega
    · omega
theorem s_P_isFresher {ro : Nat → Int × (Int → Int)} {d : Nat} {b : Bool} {I L : Nat → Int → Int} {Q : Option am_V → am_H → Prop} {x0 x1 x2 : Int} (hx : (0 ≤ x0 ∧ x0 < 4096) ∧ 0 ≤ x1 ∧ x1 < 4096) (H1 : Fr x2 x0 x1 → Q (some (am_I 1)) (sh b, I, L)) (H0 : ¬ Fr x2 x0 x1 → Q (some (am_I 0)) (sh b, I, L)) : am_m ro (d + 2) 52 [am_I x0, am_I x1, am_I x2] (sh b, I, L) Q := by
  have xs := xor_sm hx.1 hx.2
  refine am_in rfl rfl rfl rfl ?_
  refine b_P_isFresher_0  (s_jbits  ?_)
  refine b_P_isFresher_8  (s_jbits  ?_)
  refine b_P_isFresher_17  (fun c1 => ?_) (fun c1 => ?_)
  · refine b_P_isFresher_37 (by omega) (fun c2 => ?_) (fun c2 => ?_)
    · refine b_P_isFresher_57  ?_
      refine b_P_isFresher_58 (by omega) ?_
      exact H0 (by unfold Fr; omega)
    · refine b_P_isFresher_53  ?_
      refine b_P_isFresher_58 (by omega) ?_
      exact H1 (by unfold Fr; omega)
  · refine b_P_isFresher_25  (fun c3 => ?_) (fun c3 => ?_)
    · refine b_P_isFresher_35  ?_
      refine b_P_isFresher_36 (by omega) ?_
      exact H0 (by unfold Fr; omega)
    · refine b_P_isFresher_31  ?_
      refine b_P_isFresher_36 (by omega) ?_
      exact H1 (by unfold Fr; omega)
set_option maxHeartbeats 1000000 in
theorem lp_P_bestDraw {ro : Nat → Int × (Int → Int)} {d : Nat} {b : Bool} {L : Nat → Int → Int} {Q : Option am_V → am_H → Prop} {bc bs : Nat} {x1 x2 x5 : Int} {I0 : Nat → Int → Int} (hC : Cor I0 L) (hx : 1 ≤ I0 67 0 ∧ x5 = am_shl 1 (I0 67 1) - 1 ∧ 0 ≤ x5 ∧ x5 < 4096) (h2 : x2 = I0 67 (34 + I0 67 0)) (H : ∀ I : Nat → Int → Int, (∀ k, k ≠ 5 → I k = I0 k) → Q (some (am_I (bdS (I0 67) x1 (x5 + 1).toNat).1)) (sh b, I, L)) : ∀ (n : Nat) (I : Nat → Int → Int) (x3 x4 x6 : Int), (0 ≤ x6) → (x6 ≤ x5 + 1) → (x3 = (bdS (I0 67) x1 x6.toNat).1) → (x4 = (bdS (I0 67) x1 x6.toNat).2) → (∀ k, k ≠ 5 → I k = I0 k) → x5 + 1 - x6 < (n : Int) → am_ex (am_m ro (d + 2)) ro am_M31 Q (81, [some (am_R 0), some (am_I x1), some (am_I x2), some (am_I x3), some (am_I x4), some (am_I x5), some (am_I x6), none], [], (sh b, I, L), bc, bs) := by
  intro n
  induction n with
  | zero =>
    intro I x3 x4 x6 i0 i1 i2 i3 i4 im
    exact absurd im (by omega)
  | succ n ih =>
    intro I x3 x4 x6 i0 i1 i2 i3 i4 im
    have ct := Cor_ct hC
    have s5 := Sc_5 (L := L) i4
    have hC1 : Cor I L := Cor_sc hC s5
    have e67 : I 67 = I0 67 := i4 67 (by omega)
    have e10 : I 1 0 = I0 67 0 := by rw [i4 1 (by omega)]; exact ct.1.1
    have e672 : I 67 0 = I0 67 0 := by rw [e67]
    refine b_P_bestDraw_81  (fun c1 => ?_) (fun c1 => ?_)
    · refine b_P_bestDraw_175  ?_
      have e9 : x6 = x5 + 1 := by omega
      rw [e9] at i2
      rw [i2]
      exact H I i4
    · refine b_P_bestDraw_88  (s_jbits  ?_)
      refine b_P_bestDraw_93  (fun c2 => ?_) (fun c2 => ?_)
      · refine b_P_bestDraw_169 (by omega) ?_
        have bs9 := bdS_s (p := I0 67) (n := x1) (i := x6) (by omega)
        rw [← i2, ← i3, ← h2] at bs9
        rw [if_neg (fun q => by have q1 := q.1; have q2 := q.2.1; have q3 := q.2.2; omega)] at bs9
        refine ih I x3 x4 (x6 + 1) (by omega) (by omega) ?_ ?_ i4 (by omega)
        · rw [bs9]
          exact i2
        · rw [bs9]
          exact i3
      · refine b_P_bestDraw_97 (by omega) (s_Libs_widthOf hC1 (by omega) (fun I9 f9 => ?_))
        rw [e67, e10]
        refine b_P_bestDraw_125  (fun c3 => ?_) (fun c3 => ?_)
        · refine b_P_bestDraw_169 (by omega) ?_
          have bs9 := bdS_s (p := I0 67) (n := x1) (i := x6) (by omega)
          rw [← i2, ← i3, ← h2] at bs9
          rw [if_neg (fun q => by have q1 := q.1; have q2 := q.2.1; have q3 := q.2.2; omega)] at bs9
          refine ih I9 x3 x4 (x6 + 1) (by omega) (by omega) ?_ ?_ (fun k hk => (f9 k hk).trans (i4 k hk)) (by omega)
          · rw [bs9]
            exact i2
          · rw [bs9]
            exact i3
        · refine b_P_bestDraw_133  (fun c4 => ?_) (fun c4 => ?_)
          · refine b_P_bestDraw_162  ?_
            refine b_P_bestDraw_169 (by omega) ?_
            have bs9 := bdS_s (p := I0 67) (n := x1) (i := x6) (by omega)
            rw [← i2, ← i3, ← h2] at bs9
            rw [if_pos ⟨by omega, by omega, by omega⟩] at bs9
            refine ih I9 x6 (((((wd (I0 67) x6 (I0 67 0 - 1)))))) (x6 + 1) (by omega) (by omega) ?_ ?_ (fun k hk => (f9 k hk).trans (i4 k hk)) (by omega)
            · rw [bs9]
            · rw [bs9]
          · refine b_P_bestDraw_138  (fun c5 => ?_) (fun c5 => ?_)
            · refine b_P_bestDraw_162  ?_
              refine b_P_bestDraw_169 (by omega) ?_
              have bs9 := bdS_s (p := I0 67) (n := x1) (i := x6) (by omega)
              rw [← i2, ← i3, ← h2] at bs9
              rw [if_pos ⟨by omega, by omega, by omega⟩] at bs9
              refine ih I9 x6 ((((((wd (I0 67) x6 (I0 67 0 - 1))))))) (x6 + 1) (by omega) (by omega) ?_ ?_ (fun k hk => (f9 k hk).trans (i4 k hk)) (by omega)
              · rw [bs9]
              · rw [bs9]
            · refine b_P_bestDraw_145  (fun c6 => ?_) (fun c6 => ?_)
              · refine b_P_bestDraw_169 (by omega) ?_
                have bs9 := bdS_s (p := I0 67) (n := x1) (i := x6) (by omega)
                rw [← i2, ← i3, ← h2] at bs9
                rw [if_neg (fun q => by have q1 := q.1; have q2 := q.2.1; have q3 := q.2.2; omega)] at bs9
                refine ih I9 x3 x4 (x6 + 1) (by omega) (by omega) ?_ ?_ (fun k hk => (f9 k hk).trans (i4 k hk)) (by omega)
                · rw [bs9]
                  exact i2
                · rw [bs9]
                  exact i3
              · have bb := bdS_bd (p := I0 67) (n := x1) x6.toNat
                rw [← i2] at bb
                refine b_P_bestDraw_152  (s_P_isFresher (by omega) (fun t7 => ?_) (fun t7 => ?_))
                · refine b_P_bestDraw_159  (fun c8 => absurd c8 (by decide)) (fun c8 => ?_)
                  refine b_P_bestDraw_162  ?_
                  refine b_P_bestDraw_169 (by omega) ?_
                  have bs9 := bdS_s (p := I0 67) (n := x1) (i := x6) (by omega)
                  rw [← i2, ← i3, ← h2] at bs9
                  rw [if_pos ⟨by omega, by omega, Or.inr (Or.inr ⟨by omega, t7⟩)⟩] at bs9
                  refine ih I9 x6 (((((((((wd (I0 67) x6 (I0 67 0 - 1)))))))))) (x6 + 1) (by omega) (by omega) ?_ ?_ (fun k hk => (f9 k hk).trans (i4 k hk)) (by omega)
                  · rw [bs9]
                  · rw [bs9]
                · refine b_P_bestDraw_159  (fun c9 => ?_) (fun c9 => absurd c9 (by decide))
                  refine b_P_bestDraw_169 (by omega) ?_
                  have bs9 := bdS_s (p := I0 67) (n := x1) (i := x6) (by omega)
                  rw [← i2, ← i3, ← h2] at bs9
                  rw [if_neg (fun q => by have q1 := q.1; have q2 := q.2.1; have q3 := q.2.2; rcases q3 with q3 | q3 | q3; (· omega); (· omega); (· exact t7 q3.2))] at bs9
                  refine ih I9 x3 x4 (x6 + 1) (by omega) (by omega) ?_ ?_ (fun k hk => (f9 k hk).trans (i4 k hk)) (by omega)
                  · rw [bs9]
                    exact i2
                  · rw [bs9]
                    exact i3
theorem o_P_bestDraw {ro : Nat → Int × (Int → Int)} {d : Nat} {b : Bool} {I L : Nat → Int → Int} {Q : Option am_V → am_H → Prop} {x1 : Int} (hC : Cor I L) (H1 : x1 < 0 → Q (some (am_I (-4))) (sh b, rfC I (-4), L)) (H2 : 0 ≤ x1 ∧ (I 67 1 < x1 ∨ I 67 0 = 0) → Q (some (am_I (-7))) (sh b, rfC I (-7), L)) (H3 : 0 ≤ x1 ∧ x1 ≤ I 67 1 ∧ 1 ≤ I 67 0 → ∀ I' : Nat → Int → Int, (∀ k, k ≠ 5 → I' k = I k) → Q (some (am_I (bdS (I 67) x1 (am_shl 1 (I 67 1)).toNat).1)) (sh b, I', L)) : am_m ro (d + 3) 31 [am_R 0, am_I x1] (sh b, I, L) Q := by
  have ct := Cor_ct hC
  have yr := (hC.1.2.2.2.2.2.2.2.1.1 (I 67 0) (by omega) (by omega)).1
  have sb := shl1 ⟨(I 67 1).toNat, by omega⟩
  simp only [Int.toNat_of_nonneg ct.2.1.2.1] at sb
  have sp : (2 : Int) ^ (I 67 1).toNat = ((2 ^ (I 67 1).toNat : Nat) : Int) := by simp
  have sq : 2 ^ (I 67 1).toNat ≤ 2 ^ 12 := Nat.pow_le_pow_right (by omega) (by omega)
  have s0 : 0 < 2 ^ (I 67 1).toNat := Nat.pow_pos (by omega)
  refine am_in rfl rfl rfl rfl ?_
  refine b_P_bestDraw_0  (fun c1 => ?_) (fun c1 => ?_)
  · refine b_P_bestDraw_11  (fun c2 => ?_) (fun c2 => ?_)
    · refine b_P_bestDraw_35  (s_P_refuse (by omega) ?_)
      refine b_P_bestDraw_41  ?_
      first | exact H1 (by omega) | exact H2 (by omega)
    · refine b_P_bestDraw_25  (fun c3 => ?_) (fun c3 => ?_)
      · refine b_P_bestDraw_42 (by omega) (s_Libs_bitsOfAll hC ?_)
        refine b_P_bestDraw_76  ?_
        have e9 : am_shl 1 (I 67 1) - 1 + 1 = am_shl 1 (I 67 1) := by omega
        exact lp_P_bestDraw (d := d) (I0 := I) hC (by omega) (by rw [ct.1.1]; exact yr) (by rw [e9]; exact H3 (by omega)) (am_shl 1 (I 67 1) - 1 + 1).toNat.succ I (-1) (-1) 0 (by omega) (by omega) rfl rfl (fun _ _ => rfl) (by omega)
      · refine b_P_bestDraw_35  (s_P_refuse (by omega) ?_)
        refine b_P_bestDraw_41  ?_
        first | exact H1 (by omega) | exact H2 (by omega)
  · refine b_P_bestDraw_4  (s_P_refuse (by omega) ?_)
    refine b_P_bestDraw_10  ?_
    first | exact H1 (by omega) | exact H2 (by omega)
set_option maxHeartbeats 1000000 in
theorem lp_M_bestDraw {ro : Nat → Int × (Int → Int)} {d : Nat} {b : Bool} {I L : Nat → Int → Int} {Q : Option am_V → am_H → Prop} {bc bs : Nat} {x1 : Int} (hM : Mo I L) (hx : 1 ≤ I 67 0 ∧ 0 ≤ am_shl 1 (I 67 1) ∧ am_shl 1 (I 67 1) ≤ 4096) (H : Q (some (am_I (bdS (I 67) x1 (am_shl 1 (I 67 1)).toNat).1)) (sh b, I, L)) : ∀ (n : Nat) (x2 x3 x5 x6 : Int), (0 ≤ x6) → (x6 ≤ am_shl 1 (I 67 1)) → (x2 = (bdS (I 67) x1 x6.toNat).1) → (¬ x2 = -1 → x3 = (bdS (I 67) x1 x6.toNat).2 ∧ x5 = jb (am_and x2 (am_xor (I 67 (34 + I 67 0)) (-1)))) → am_shl 1 (I 67 1) - x6 < (n : Int) → am_ex (am_m ro (d + 1)) ro am_M237 Q (47, [some (am_R 66), some (am_I x1), some (am_I x2), some (am_L x3), none, some (am_I x5), some (am_I x6), none, none, none, none, none], [], (sh b, I, L), bc, bs) := by
  intro n
  induction n with
  | zero =>
    intro x2 x3 x5 x6 i0 i1 i2 i3 im
    exact absurd im (by omega)
  | succ n ih =>
    intro x2 x3 x5 x6 i0 i1 i2 i3 im
    have ct := Mo_ct hM
    refine b_M_bestDraw_47  (fun c1 => ?_) (fun c1 => ?_)
    · refine b_M_bestDraw_209  ?_
      have e9 : x6 = am_shl 1 (I 67 1) := by omega
      rw [e9] at i2
      rw [i2]
      exact H
    · have hj : sm (fun l => bt x6 l) 12 = jb x6 := (jb_sm (by omega)).symm
      have wb := wd_bd (s := x6) hM (by omega)
      have bb := bdS_bd (p := I 67) (n := x1) x6.toNat
      rw [← i2] at bb
      refine b_M_bestDraw_60  (s_M_many (by omega) ?_)
      refine b_M_bestDraw_66  (fun c2 => ?_) (fun c2 => ?_)
      · refine b_M_bestDraw_79  ?_
        refine b_M_bestDraw_82  (fun c3 => ?_) (fun c3 => absurd c3 (by decide))
        refine b_M_bestDraw_203 (by omega) ?_
        have bs9 := bdS_s (p := I 67) (n := x1) (i := x6) (by omega)
        rw [← i2] at bs9
        rw [if_neg (fun q => by have q1 := q.1; have q2 := q.2.1; have q3 := q.2.2; unfold Fr at q3; first | omega | (have i9 := i3 (by omega); omega))] at bs9
        refine ih x2 x3 x5 (x6 + 1) (by omega) (by omega) ?_ ?_ (by omega)
        · rw [bs9]
          exact i2
        · rw [bs9]
          exact i3
      · refine b_M_bestDraw_70  (s_M_width hM (by omega) ?_)
        refine b_M_bestDraw_76  ?_
        refine b_M_bestDraw_82  (fun c4 => ?_) (fun c4 => ?_)
        · refine b_M_bestDraw_203 (by omega) ?_
          have bs9 := bdS_s (p := I 67) (n := x1) (i := x6) (by omega)
          rw [← i2] at bs9
          rw [if_neg (fun q => by have q1 := q.1; have q2 := q.2.1; have q3 := q.2.2; unfold Fr at q3; first | omega | (have i9 := i3 (by omega); omega))] at bs9
          refine ih x2 x3 x5 (x6 + 1) (by omega) (by omega) ?_ ?_ (by omega)
          · rw [bs9]
            exact i2
          · rw [bs9]
            exact i3
        · have as9 := and_sm (a := x6) (c := am_xor (I 67 (34 + I 67 0)) (-1)) (by omega)
          have hj2 : sm (fun l => bt (am_and x6 (am_xor (I 67 (34 + I 67 0)) (-1))) l) 12 = jb (am_and x6 (am_xor (I 67 (34 + I 67 0)) (-1))) := (jb_sm as9).symm
          refine b_M_bestDraw_91 (by omega) (by omega) (s_M_many (by omega) ?_)
          refine b_M_bestDraw_114  (fun c5 => ?_) (fun c5 => ?_)
          · refine b_M_bestDraw_125  ?_
            refine b_M_bestDraw_129  (fun c6 => ?_) (fun c6 => ?_)
            · refine b_M_bestDraw_148  ?_
              refine b_M_bestDraw_153  (fun c7 => ?_) (fun c7 => ?_)
              · refine b_M_bestDraw_193  ?_
                refine b_M_bestDraw_203 (by omega) ?_
                have bs9 := bdS_s (p := I 67) (n := x1) (i := x6) (by omega)
                rw [← i2] at bs9
                rw [if_pos ⟨by omega, by omega, by unfold Fr; first | omega | (have i9 := i3 (by omega); omega)⟩] at bs9
                refine ih x6 (((((((((((wd (I 67) x6 (I 67 0 - 1)))))))))))) ((((((((sm (fun l => bt (am_and x6 (am_xor (I 67 (34 + (I 67 0))) ((-1)))) l) 12)))))))) (x6 + 1) (by omega) (by omega) ?_ ?_ (by omega)
                · rw [bs9]
                · intro _
                  rw [bs9]
                  exact ⟨rfl, hj2⟩
              · refine b_M_bestDraw_160  (fun c8 => ?_) (fun c8 => ?_)
                · refine b_M_bestDraw_193  ?_
                  refine b_M_bestDraw_203 (by omega) ?_
                  have bs9 := bdS_s (p := I 67) (n := x1) (i := x6) (by omega)
                  rw [← i2] at bs9
                  rw [if_pos ⟨by omega, by omega, by unfold Fr; first | omega | (have i9 := i3 (by omega); omega)⟩] at bs9
                  refine ih x6 ((((((((((((wd (I 67) x6 (I 67 0 - 1))))))))))))) (((((((((sm (fun l => bt (am_and x6 (am_xor (I 67 (34 + (I 67 0))) ((-1)))) l) 12))))))))) (x6 + 1) (by omega) (by omega) ?_ ?_ (by omega)
                  · rw [bs9]
                  · intro _
                    rw [bs9]
                    exact ⟨rfl, hj2⟩
                · refine b_M_bestDraw_167  (fun c9 => ?_) (fun c9 => ?_)
                  · refine b_M_bestDraw_203 (by omega) ?_
                    have bs9 := bdS_s (p := I 67) (n := x1) (i := x6) (by omega)
                    rw [← i2] at bs9
                    rw [if_neg (fun q => by have q1 := q.1; have q2 := q.2.1; have q3 := q.2.2; unfold Fr at q3; first | omega | (have i9 := i3 (by omega); omega))] at bs9
                    refine ih x2 x3 x5 (x6 + 1) (by omega) (by omega) ?_ ?_ (by omega)
                    · rw [bs9]
                      exact i2
                    · rw [bs9]
                      exact i3
                  · refine b_M_bestDraw_174  (fun c10 => ?_) (fun c10 => ?_)
                    · refine b_M_bestDraw_193  ?_
                      refine b_M_bestDraw_203 (by omega) ?_
                      have bs9 := bdS_s (p := I 67) (n := x1) (i := x6) (by omega)
                      rw [← i2] at bs9
                      rw [if_pos ⟨by omega, by omega, by unfold Fr; first | omega | (have i9 := i3 (by omega); omega)⟩] at bs9
                      refine ih x6 ((((((((((((((wd (I 67) x6 (I 67 0 - 1))))))))))))))) (((((((((((sm (fun l => bt (am_and x6 (am_xor (I 67 (34 + (I 67 0))) ((-1)))) l) 12))))))))))) (x6 + 1) (by omega) (by omega) ?_ ?_ (by omega)
                      · rw [bs9]
                      · intro _
                        rw [bs9]
                        exact ⟨rfl, hj2⟩
                    · refine b_M_bestDraw_181  (fun c11 => ?_) (fun c11 => ?_)
                      · refine b_M_bestDraw_203 (by omega) ?_
                        have bs9 := bdS_s (p := I 67) (n := x1) (i := x6) (by omega)
                        rw [← i2] at bs9
                        rw [if_neg (fun q => by have q1 := q.1; have q2 := q.2.1; have q3 := q.2.2; unfold Fr at q3; first | omega | (have i9 := i3 (by omega); omega))] at bs9
                        refine ih x2 x3 x5 (x6 + 1) (by omega) (by omega) ?_ ?_ (by omega)
                        · rw [bs9]
                          exact i2
                        · rw [bs9]
                          exact i3
                      · refine b_M_bestDraw_188  (fun c12 => absurd c12 (by decide)) (fun c12 => ?_)
                        refine b_M_bestDraw_193  ?_
                        refine b_M_bestDraw_203 (by omega) ?_
                        have bs9 := bdS_s (p := I 67) (n := x1) (i := x6) (by omega)
                        rw [← i2] at bs9
                        rw [if_pos ⟨by omega, by omega, by unfold Fr; first | omega | (have i9 := i3 (by omega); omega)⟩] at bs9
                        refine ih x6 ((((((((((((((((wd (I 67) x6 (I 67 0 - 1))))))))))))))))) (((((((((((((sm (fun l => bt (am_and x6 (am_xor (I 67 (34 + (I 67 0))) ((-1)))) l) 12))))))))))))) (x6 + 1) (by omega) (by omega) ?_ ?_ (by omega)
                        · rw [bs9]
                        · intro _
                          rw [bs9]
                          exact ⟨rfl, hj2⟩
            · have xs := xor_sm (a := x6) (c := x2) (by omega) (by omega)
              refine b_M_bestDraw_136 (by omega) (fun c13 => ?_) (fun c13 => ?_)
              · refine b_M_bestDraw_152  ?_
                refine b_M_bestDraw_153  (fun c14 => ?_) (fun c14 => ?_)
                · refine b_M_bestDraw_193  ?_
                  refine b_M_bestDraw_203 (by omega) ?_
                  have bs9 := bdS_s (p := I 67) (n := x1) (i := x6) (by omega)
                  rw [← i2] at bs9
                  rw [if_pos ⟨by omega, by omega, by unfold Fr; first | omega | (have i9 := i3 (by omega); omega)⟩] at bs9
                  refine ih x6 ((((((((((((wd (I 67) x6 (I 67 0 - 1))))))))))))) (((((((((sm (fun l => bt (am_and x6 (am_xor (I 67 (34 + (I 67 0))) ((-1)))) l) 12))))))))) (x6 + 1) (by omega) (by omega) ?_ ?_ (by omega)
                  · rw [bs9]
                  · intro _
                    rw [bs9]
                    exact ⟨rfl, hj2⟩
                · refine b_M_bestDraw_160  (fun c15 => ?_) (fun c15 => ?_)
                  · refine b_M_bestDraw_193  ?_
                    refine b_M_bestDraw_203 (by omega) ?_
                    have bs9 := bdS_s (p := I 67) (n := x1) (i := x6) (by omega)
                    rw [← i2] at bs9
                    rw [if_pos ⟨by omega, by omega, by unfold Fr; first | omega | (have i9 := i3 (by omega); omega)⟩] at bs9
                    refine ih x6 (((((((((((((wd (I 67) x6 (I 67 0 - 1)))))))))))))) ((((((((((sm (fun l => bt (am_and x6 (am_xor (I 67 (34 + (I 67 0))) ((-1)))) l) 12)))))))))) (x6 + 1) (by omega) (by omega) ?_ ?_ (by omega)
                    · rw [bs9]
                    · intro _
                      rw [bs9]
                      exact ⟨rfl, hj2⟩
                  · refine b_M_bestDraw_167  (fun c16 => ?_) (fun c16 => ?_)
                    · refine b_M_bestDraw_203 (by omega) ?_
                      have bs9 := bdS_s (p := I 67) (n := x1) (i := x6) (by omega)
                      rw [← i2] at bs9
                      rw [if_neg (fun q => by have q1 := q.1; have q2 := q.2.1; have q3 := q.2.2; unfold Fr at q3; first | omega | (have i9 := i3 (by omega); omega))] at bs9
                      refine ih x2 x3 x5 (x6 + 1) (by omega) (by omega) ?_ ?_ (by omega)
                      · rw [bs9]
                        exact i2
                      · rw [bs9]
                        exact i3
                    · refine b_M_bestDraw_174  (fun c17 => ?_) (fun c17 => ?_)
                      · refine b_M_bestDraw_193  ?_
                        refine b_M_bestDraw_203 (by omega) ?_
                        have bs9 := bdS_s (p := I 67) (n := x1) (i := x6) (by omega)
                        rw [← i2] at bs9
                        rw [if_pos ⟨by omega, by omega, by unfold Fr; first | omega | (have i9 := i3 (by omega); omega)⟩] at bs9
                        refine ih x6 (((((((((((((((wd (I 67) x6 (I 67 0 - 1)))))))))))))))) ((((((((((((sm (fun l => bt (am_and x6 (am_xor (I 67 (34 + (I 67 0))) ((-1)))) l) 12)))))))))))) (x6 + 1) (by omega) (by omega) ?_ ?_ (by omega)
                        · rw [bs9]
                        · intro _
                          rw [bs9]
                          exact ⟨rfl, hj2⟩
                      · refine b_M_bestDraw_181  (fun c18 => ?_) (fun c18 => ?_)
                        · refine b_M_bestDraw_203 (by omega) ?_
                          have bs9 := bdS_s (p := I 67) (n := x1) (i := x6) (by omega)
                          rw [← i2] at bs9
                          rw [if_neg (fun q => by have q1 := q.1; have q2 := q.2.1; have q3 := q.2.2; unfold Fr at q3; first | omega | (have i9 := i3 (by omega); omega))] at bs9
                          refine ih x2 x3 x5 (x6 + 1) (by omega) (by omega) ?_ ?_ (by omega)
                          · rw [bs9]
                            exact i2
                          · rw [bs9]
                            exact i3
                        · refine b_M_bestDraw_188  (fun c19 => ?_) (fun c19 => absurd c19 (by decide))
                          refine b_M_bestDraw_203 (by omega) ?_
                          have bs9 := bdS_s (p := I 67) (n := x1) (i := x6) (by omega)
                          rw [← i2] at bs9
                          rw [if_neg (fun q => by have q1 := q.1; have q2 := q.2.1; have q3 := q.2.2; unfold Fr at q3; first | omega | (have i9 := i3 (by omega); omega))] at bs9
                          refine ih x2 x3 x5 (x6 + 1) (by omega) (by omega) ?_ ?_ (by omega)
                          · rw [bs9]
                            exact i2
                          · rw [bs9]
                            exact i3
              · refine b_M_bestDraw_148  ?_
                refine b_M_bestDraw_153  (fun c20 => ?_) (fun c20 => ?_)
                · refine b_M_bestDraw_193  ?_
                  refine b_M_bestDraw_203 (by omega) ?_
                  have bs9 := bdS_s (p := I 67) (n := x1) (i := x6) (by omega)
                  rw [← i2] at bs9
                  rw [if_pos ⟨by omega, by omega, by unfold Fr; first | omega | (have i9 := i3 (by omega); omega)⟩] at bs9
                  refine ih x6 ((((((((((((wd (I 67) x6 (I 67 0 - 1))))))))))))) (((((((((sm (fun l => bt (am_and x6 (am_xor (I 67 (34 + (I 67 0))) ((-1)))) l) 12))))))))) (x6 + 1) (by omega) (by omega) ?_ ?_ (by omega)
                  · rw [bs9]
                  · intro _
                    rw [bs9]
                    exact ⟨rfl, hj2⟩
                · refine b_M_bestDraw_160  (fun c21 => ?_) (fun c21 => ?_)
                  · refine b_M_bestDraw_193  ?_
                    refine b_M_bestDraw_203 (by omega) ?_
                    have bs9 := bdS_s (p := I 67) (n := x1) (i := x6) (by omega)
                    rw [← i2] at bs9
                    rw [if_pos ⟨by omega, by omega, by unfold Fr; first | omega | (have i9 := i3 (by omega); omega)⟩] at bs9
                    refine ih x6 (((((((((((((wd (I 67) x6 (I 67 0 - 1)))))))))))))) ((((((((((sm (fun l => bt (am_and x6 (am_xor (I 67 (34 + (I 67 0))) ((-1)))) l) 12)))))))))) (x6 + 1) (by omega) (by omega) ?_ ?_ (by omega)
                    · rw [bs9]
                    · intro _
                      rw [bs9]
                      exact ⟨rfl, hj2⟩
                  · refine b_M_bestDraw_167  (fun c22 => ?_) (fun c22 => ?_)
                    · refine b_M_bestDraw_203 (by omega) ?_
                      have bs9 := bdS_s (p := I 67) (n := x1) (i := x6) (by omega)
                      rw [← i2] at bs9
                      rw [if_neg (fun q => by have q1 := q.1; have q2 := q.2.1; have q3 := q.2.2; unfold Fr at q3; first | omega | (have i9 := i3 (by omega); omega))] at bs9
                      refine ih x2 x3 x5 (x6 + 1) (by omega) (by omega) ?_ ?_ (by omega)
                      · rw [bs9]
                        exact i2
                      · rw [bs9]
                        exact i3
                    · refine b_M_bestDraw_174  (fun c23 => ?_) (fun c23 => ?_)
                      · refine b_M_bestDraw_193  ?_
                        refine b_M_bestDraw_203 (by omega) ?_
                        have bs9 := bdS_s (p := I 67) (n := x1) (i := x6) (by omega)
                        rw [← i2] at bs9
                        rw [if_pos ⟨by omega, by omega, by unfold Fr; first | omega | (have i9 := i3 (by omega); omega)⟩] at bs9
                        refine ih x6 (((((((((((((((wd (I 67) x6 (I 67 0 - 1)))))))))))))))) ((((((((((((sm (fun l => bt (am_and x6 (am_xor (I 67 (34 + (I 67 0))) ((-1)))) l) 12)))))))))))) (x6 + 1) (by omega) (by omega) ?_ ?_ (by omega)
                        · rw [bs9]
                        · intro _
                          rw [bs9]
                          exact ⟨rfl, hj2⟩
                      · refine b_M_bestDraw_181  (fun c24 => ?_) (fun c24 => ?_)
                        · refine b_M_bestDraw_203 (by omega) ?_
                          have bs9 := bdS_s (p := I 67) (n := x1) (i := x6) (by omega)
                          rw [← i2] at bs9
                          rw [if_neg (fun q => by have q1 := q.1; have q2 := q.2.1; have q3 := q.2.2; unfold Fr at q3; first | omega | (have i9 := i3 (by omega); omega))] at bs9
                          refine ih x2 x3 x5 (x6 + 1) (by omega) (by omega) ?_ ?_ (by omega)
                          · rw [bs9]
                            exact i2
                          · rw [bs9]
                            exact i3
                        · refine b_M_bestDraw_188  (fun c25 => absurd c25 (by decide)) (fun c25 => ?_)
                          refine b_M_bestDraw_193  ?_
                          refine b_M_bestDraw_203 (by omega) ?_
                          have bs9 := bdS_s (p := I 67) (n := x1) (i := x6) (by omega)
                          rw [← i2] at bs9
                          rw [if_pos ⟨by omega, by omega, by unfold Fr; first | omega | (have i9 := i3 (by omega); omega)⟩] at bs9
                          refine ih x6 (((((((((((((((((wd (I 67) x6 (I 67 0 - 1)))))))))))))))))) ((((((((((((((sm (fun l => bt (am_and x6 (am_xor (I 67 (34 + (I 67 0))) ((-1)))) l) 12)))))))))))))) (x6 + 1) (by omega) (by omega) ?_ ?_ (by omega)
                          · rw [bs9]
                          · intro _
                            rw [bs9]
                            exact ⟨rfl, hj2⟩
          · refine b_M_bestDraw_121  ?_
            refine b_M_bestDraw_129  (fun c26 => ?_) (fun c26 => ?_)
            · refine b_M_bestDraw_148  ?_
              refine b_M_bestDraw_153  (fun c27 => ?_) (fun c27 => ?_)
              · refine b_M_bestDraw_193  ?_
                refine b_M_bestDraw_203 (by omega) ?_
                have bs9 := bdS_s (p := I 67) (n := x1) (i := x6) (by omega)
                rw [← i2] at bs9
                rw [if_pos ⟨by omega, by omega, by unfold Fr; first | omega | (have i9 := i3 (by omega); omega)⟩] at bs9
                refine ih x6 (((((((((((wd (I 67) x6 (I 67 0 - 1)))))))))))) ((((((((sm (fun l => bt (am_and x6 (am_xor (I 67 (34 + (I 67 0))) ((-1)))) l) 12)))))))) (x6 + 1) (by omega) (by omega) ?_ ?_ (by omega)
                · rw [bs9]
                · intro _
                  rw [bs9]
                  exact ⟨rfl, hj2⟩
              · refine b_M_bestDraw_160  (fun c28 => ?_) (fun c28 => ?_)
                · refine b_M_bestDraw_193  ?_
                  refine b_M_bestDraw_203 (by omega) ?_
                  have bs9 := bdS_s (p := I 67) (n := x1) (i := x6) (by omega)
                  rw [← i2] at bs9
                  rw [if_pos ⟨by omega, by omega, by unfold Fr; first | omega | (have i9 := i3 (by omega); omega)⟩] at bs9
                  refine ih x6 ((((((((((((wd (I 67) x6 (I 67 0 - 1))))))))))))) (((((((((sm (fun l => bt (am_and x6 (am_xor (I 67 (34 + (I 67 0))) ((-1)))) l) 12))))))))) (x6 + 1) (by omega) (by omega) ?_ ?_ (by omega)
                  · rw [bs9]
                  · intro _
                    rw [bs9]
                    exact ⟨rfl, hj2⟩
                · refine b_M_bestDraw_167  (fun c29 => ?_) (fun c29 => ?_)
                  · refine b_M_bestDraw_203 (by omega) ?_
                    have bs9 := bdS_s (p := I 67) (n := x1) (i := x6) (by omega)
                    rw [← i2] at bs9
                    rw [if_neg (fun q => by have q1 := q.1; have q2 := q.2.1; have q3 := q.2.2; unfold Fr at q3; first | omega | (have i9 := i3 (by omega); omega))] at bs9
                    refine ih x2 x3 x5 (x6 + 1) (by omega) (by omega) ?_ ?_ (by omega)
                    · rw [bs9]
                      exact i2
                    · rw [bs9]
                      exact i3
                  · refine b_M_bestDraw_174  (fun c30 => ?_) (fun c30 => ?_)
                    · refine b_M_bestDraw_193  ?_
                      refine b_M_bestDraw_203 (by omega) ?_
                      have bs9 := bdS_s (p := I 67) (n := x1) (i := x6) (by omega)
                      rw [← i2] at bs9
                      rw [if_pos ⟨by omega, by omega, by unfold Fr; first | omega | (have i9 := i3 (by omega); omega)⟩] at bs9
                      refine ih x6 ((((((((((((((wd (I 67) x6 (I 67 0 - 1))))))))))))))) (((((((((((sm (fun l => bt (am_and x6 (am_xor (I 67 (34 + (I 67 0))) ((-1)))) l) 12))))))))))) (x6 + 1) (by omega) (by omega) ?_ ?_ (by omega)
                      · rw [bs9]
                      · intro _
                        rw [bs9]
                        exact ⟨rfl, hj2⟩
                    · refine b_M_bestDraw_181  (fun c31 => ?_) (fun c31 => ?_)
                      · refine b_M_bestDraw_203 (by omega) ?_
                        have bs9 := bdS_s (p := I 67) (n := x1) (i := x6) (by omega)
                        rw [← i2] at bs9
                        rw [if_neg (fun q => by have q1 := q.1; have q2 := q.2.1; have q3 := q.2.2; unfold Fr at q3; first | omega | (have i9 := i3 (by omega); omega))] at bs9
                        refine ih x2 x3 x5 (x6 + 1) (by omega) (by omega) ?_ ?_ (by omega)
                        · rw [bs9]
                          exact i2
                        · rw [bs9]
                          exact i3
                      · refine b_M_bestDraw_188  (fun c32 => absurd c32 (by decide)) (fun c32 => ?_)
                        refine b_M_bestDraw_193  ?_
                        refine b_M_bestDraw_203 (by omega) ?_
                        have bs9 := bdS_s (p := I 67) (n := x1) (i := x6) (by omega)
                        rw [← i2] at bs9
                        rw [if_pos ⟨by omega, by omega, by unfold Fr; first | omega | (have i9 := i3 (by omega); omega)⟩] at bs9
                        refine ih x6 ((((((((((((((((wd (I 67) x6 (I 67 0 - 1))))))))))))))))) (((((((((((((sm (fun l => bt (am_and x6 (am_xor (I 67 (34 + (I 67 0))) ((-1)))) l) 12))))))))))))) (x6 + 1) (by omega) (by omega) ?_ ?_ (by omega)
                        · rw [bs9]
                        · intro _
                          rw [bs9]
                          exact ⟨rfl, hj2⟩
            · have xs := xor_sm (a := x6) (c := x2) (by omega) (by omega)
              refine b_M_bestDraw_136 (by omega) (fun c33 => ?_) (fun c33 => ?_)
              · refine b_M_bestDraw_152  ?_
                refine b_M_bestDraw_153  (fun c34 => ?_) (fun c34 => ?_)
                · refine b_M_bestDraw_193  ?_
                  refine b_M_bestDraw_203 (by omega) ?_
                  have bs9 := bdS_s (p := I 67) (n := x1) (i := x6) (by omega)
                  rw [← i2] at bs9
                  rw [if_pos ⟨by omega, by omega, by unfold Fr; first | omega | (have i9 := i3 (by omega); omega)⟩] at bs9
                  refine ih x6 ((((((((((((wd (I 67) x6 (I 67 0 - 1))))))))))))) (((((((((sm (fun l => bt (am_and x6 (am_xor (I 67 (34 + (I 67 0))) ((-1)))) l) 12))))))))) (x6 + 1) (by omega) (by omega) ?_ ?_ (by omega)
                  · rw [bs9]
                  · intro _
                    rw [bs9]
                    exact ⟨rfl, hj2⟩
                · refine b_M_bestDraw_160  (fun c35 => ?_) (fun c35 => ?_)
                  · refine b_M_bestDraw_193  ?_
                    refine b_M_bestDraw_203 (by omega) ?_
                    have bs9 := bdS_s (p := I 67) (n := x1) (i := x6) (by omega)
                    rw [← i2] at bs9
                    rw [if_pos ⟨by omega, by omega, by unfold Fr; first | omega | (have i9 := i3 (by omega); omega)⟩] at bs9
                    refine ih x6 (((((((((((((wd (I 67) x6 (I 67 0 - 1)))))))))))))) ((((((((((sm (fun l => bt (am_and x6 (am_xor (I 67 (34 + (I 67 0))) ((-1)))) l) 12)))))))))) (x6 + 1) (by omega) (by omega) ?_ ?_ (by omega)
                    · rw [bs9]
                    · intro _
                      rw [bs9]
                      exact ⟨rfl, hj2⟩
                  · refine b_M_bestDraw_167  (fun c36 => ?_) (fun c36 => ?_)
                    · refine b_M_bestDraw_203 (by omega) ?_
                      have bs9 := bdS_s (p := I 67) (n := x1) (i := x6) (by omega)
                      rw [← i2] at bs9
                      rw [if_neg (fun q => by have q1 := q.1; have q2 := q.2.1; have q3 := q.2.2; unfold Fr at q3; first | omega | (have i9 := i3 (by omega); omega))] at bs9
                      refine ih x2 x3 x5 (x6 + 1) (by omega) (by omega) ?_ ?_ (by omega)
                      · rw [bs9]
                        exact i2
                      · rw [bs9]
                        exact i3
                    · refine b_M_bestDraw_174  (fun c37 => ?_) (fun c37 => ?_)
                      · refine b_M_bestDraw_193  ?_
                        refine b_M_bestDraw_203 (by omega) ?_
                        have bs9 := bdS_s (p := I 67) (n := x1) (i := x6) (by omega)
                        rw [← i2] at bs9
                        rw [if_pos ⟨by omega, by omega, by unfold Fr; first | omega | (have i9 := i3 (by omega); omega)⟩] at bs9
                        refine ih x6 (((((((((((((((wd (I 67) x6 (I 67 0 - 1)))))))))))))))) ((((((((((((sm (fun l => bt (am_and x6 (am_xor (I 67 (34 + (I 67 0))) ((-1)))) l) 12)))))))))))) (x6 + 1) (by omega) (by omega) ?_ ?_ (by omega)
                        · rw [bs9]
                        · intro _
                          rw [bs9]
                          exact ⟨rfl, hj2⟩
                      · refine b_M_bestDraw_181  (fun c38 => ?_) (fun c38 => ?_)
                        · refine b_M_bestDraw_203 (by omega) ?_
                          have bs9 := bdS_s (p := I 67) (n := x1) (i := x6) (by omega)
                          rw [← i2] at bs9
                          rw [if_neg (fun q => by have q1 := q.1; have q2 := q.2.1; have q3 := q.2.2; unfold Fr at q3; first | omega | (have i9 := i3 (by omega); omega))] at bs9
                          refine ih x2 x3 x5 (x6 + 1) (by omega) (by omega) ?_ ?_ (by omega)
                          · rw [bs9]
                            exact i2
                          · rw [bs9]
                            exact i3
                        · refine b_M_bestDraw_188  (fun c39 => ?_) (fun c39 => absurd c39 (by decide))
                          refine b_M_bestDraw_203 (by omega) ?_
                          have bs9 := bdS_s (p := I 67) (n := x1) (i := x6) (by omega)
                          rw [← i2] at bs9
                          rw [if_neg (fun q => by have q1 := q.1; have q2 := q.2.1; have q3 := q.2.2; unfold Fr at q3; first | omega | (have i9 := i3 (by omega); omega))] at bs9
                          refine ih x2 x3 x5 (x6 + 1) (by omega) (by omega) ?_ ?_ (by omega)
                          · rw [bs9]
                            exact i2
                          · rw [bs9]
                            exact i3
              · refine b_M_bestDraw_148  ?_
                refine b_M_bestDraw_153  (fun c40 => ?_) (fun c40 => ?_)
                · refine b_M_bestDraw_193  ?_
                  refine b_M_bestDraw_203 (by omega) ?_
                  have bs9 := bdS_s (p := I 67) (n := x1) (i := x6) (by omega)
                  rw [← i2] at bs9
                  rw [if_pos ⟨by omega, by omega, by unfold Fr; first | omega | (have i9 := i3 (by omega); omega)⟩] at bs9
                  refine ih x6 ((((((((((((wd (I 67) x6 (I 67 0 - 1))))))))))))) (((((((((sm (fun l => bt (am_and x6 (am_xor (I 67 (34 + (I 67 0))) ((-1)))) l) 12))))))))) (x6 + 1) (by omega) (by omega) ?_ ?_ (by omega)
                  · rw [bs9]
                  · intro _
                    rw [bs9]
                    exact ⟨rfl, hj2⟩
                · refine b_M_bestDraw_160  (fun c41 => ?_) (fun c41 => ?_)
                  · refine b_M_bestDraw_193  ?_
                    refine b_M_bestDraw_203 (by omega) ?_
                    have bs9 := bdS_s (p := I 67) (n := x1) (i := x6) (by omega)
                    rw [← i2] at bs9
                    rw [if_pos ⟨by omega, by omega, by unfold Fr; first | omega | (have i9 := i3 (by omega); omega)⟩] at bs9
                    refine ih x6 (((((((((((((wd (I 67) x6 (I 67 0 - 1)))))))))))))) ((((((((((sm (fun l => bt (am_and x6 (am_xor (I 67 (34 + (I 67 0))) ((-1)))) l) 12)))))))))) (x6 + 1) (by omega) (by omega) ?_ ?_ (by omega)
                    · rw [bs9]
                    · intro _
                      rw [bs9]
                      exact ⟨rfl, hj2⟩
                  · refine b_M_bestDraw_167  (fun c42 => ?_) (fun c42 => ?_)
                    · refine b_M_bestDraw_203 (by omega) ?_
                      have bs9 := bdS_s (p := I 67) (n := x1) (i := x6) (by omega)
                      rw [← i2] at bs9
                      rw [if_neg (fun q => by have q1 := q.1; have q2 := q.2.1; have q3 := q.2.2; unfold Fr at q3; first | omega | (have i9 := i3 (by omega); omega))] at bs9
                      refine ih x2 x3 x5 (x6 + 1) (by omega) (by omega) ?_ ?_ (by omega)
                      · rw [bs9]
                        exact i2
                      · rw [bs9]
                        exact i3
                    · refine b_M_bestDraw_174  (fun c43 => ?_) (fun c43 => ?_)
                      · refine b_M_bestDraw_193  ?_
                        refine b_M_bestDraw_203 (by omega) ?_
                        have bs9 := bdS_s (p := I 67) (n := x1) (i := x6) (by omega)
                        rw [← i2] at bs9
                        rw [if_pos ⟨by omega, by omega, by unfold Fr; first | omega | (have i9 := i3 (by omega); omega)⟩] at bs9
                        refine ih x6 (((((((((((((((wd (I 67) x6 (I 67 0 - 1)))))))))))))))) ((((((((((((sm (fun l => bt (am_and x6 (am_xor (I 67 (34 + (I 67 0))) ((-1)))) l) 12)))))))))))) (x6 + 1) (by omega) (by omega) ?_ ?_ (by omega)
                        · rw [bs9]
                        · intro _
                          rw [bs9]
                          exact ⟨rfl, hj2⟩
                      · refine b_M_bestDraw_181  (fun c44 => ?_) (fun c44 => ?_)
                        · refine b_M_bestDraw_203 (by omega) ?_
                          have bs9 := bdS_s (p := I 67) (n := x1) (i := x6) (by omega)
                          rw [← i2] at bs9
                          rw [if_neg (fun q => by have q1 := q.1; have q2 := q.2.1; have q3 := q.2.2; unfold Fr at q3; first | omega | (have i9 := i3 (by omega); omega))] at bs9
                          refine ih x2 x3 x5 (x6 + 1) (by omega) (by omega) ?_ ?_ (by omega)
                          · rw [bs9]
                            exact i2
                          · rw [bs9]
                            exact i3
                        · refine b_M_bestDraw_188  (fun c45 => absurd c45 (by decide)) (fun c45 => ?_)
                          refine b_M_bestDraw_193  ?_
                          refine b_M_bestDraw_203 (by omega) ?_
                          have bs9 := bdS_s (p := I 67) (n := x1) (i := x6) (by omega)
                          rw [← i2] at bs9
                          rw [if_pos ⟨by omega, by omega, by unfold Fr; first | omega | (have i9 := i3 (by omega); omega)⟩] at bs9
                          refine ih x6 (((((((((((((((((wd (I 67) x6 (I 67 0 - 1)))))))))))))))))) ((((((((((((((sm (fun l => bt (am_and x6 (am_xor (I 67 (34 + (I 67 0))) ((-1)))) l) 12)))))))))))))) (x6 + 1) (by omega) (by omega) ?_ ?_ (by omega)
                          · rw [bs9]
                          · intro _
                            rw [bs9]
                            exact ⟨rfl, hj2⟩
theorem o_M_bestDraw {ro : Nat → Int × (Int → Int)} {d : Nat} {b : Bool} {I L : Nat → Int → Int} {Q : Option am_V → am_H → Prop} {x1 : Int} (hM : Mo I L) (H1 : x1 < 0 → Q (some (am_I (-4))) (sh b, rfM I (-4), L)) (H2 : 0 ≤ x1 ∧ (I 67 1 < x1 ∨ I 67 0 = 0) → Q (some (am_I (-7))) (sh b, rfM I (-7), L)) (H3 : 0 ≤ x1 ∧ x1 ≤ I 67 1 ∧ 1 ≤ I 67 0 → Q (some (am_I (bdS (I 67) x1 (am_shl 1 (I 67 1)).toNat).1)) (sh b, I, L)) : am_m ro (d + 2) 237 [am_R 66, am_I x1] (sh b, I, L) Q := by
  have ct := Mo_ct hM
  have sb := shl1 ⟨(I 67 1).toNat, by omega⟩
  simp only [Int.toNat_of_nonneg ct.2.1.1] at sb
  have sp : (2 : Int) ^ (I 67 1).toNat = ((2 ^ (I 67 1).toNat : Nat) : Int) := by simp
  have sq : 2 ^ (I 67 1).toNat ≤ 2 ^ 12 := Nat.pow_le_pow_right (by omega) (by omega)
  have s0 : 0 < 2 ^ (I 67 1).toNat := Nat.pow_pos (by omega)
  refine am_in rfl rfl rfl rfl ?_
  refine b_M_bestDraw_0  (fun c1 => ?_) (fun c1 => ?_)
  · refine b_M_bestDraw_11  (fun c2 => ?_) (fun c2 => ?_)
    · refine b_M_bestDraw_30  (s_M_refuse (by omega) ?_)
      refine b_M_bestDraw_36  ?_
      first | exact H1 (by omega) | exact H2 (by omega)
    · refine b_M_bestDraw_21  (fun c3 => ?_) (fun c3 => ?_)
      · refine b_M_bestDraw_37  ?_
        exact lp_M_bestDraw (d := d) hM (by omega) (H3 (by omega)) (am_shl 1 (I 67 1)).toNat.succ (-1) 0 0 0 (by omega) (by omega) rfl (fun q => absurd rfl q) (by omega)
      · refine b_M_bestDraw_30  (s_M_refuse (by omega) ?_)
        refine b_M_bestDraw_36  ?_
        first | exact H1 (by omega) | exact H2 (by omega)
  · refine b_M_bestDraw_4  (s_M_refuse (by omega) ?_)
    refine b_M_bestDraw_10  ?_
    first | exact H1 (by omega) | exact H2 (by omega)
theorem A_bestDraw {ro : Nat → Int × (Int → Int)} {d : Nat} {b : Bool} {I L : Nat → Int → Int} {x1 : Int} (hI : Inv b I L) : am_m ro (d + 3) 31 [am_R 0, am_I x1] (sh b, I, L) (fun r h => am_m ro (d + 3) 237 [am_R 66, am_I x1] h (fun r2 h2 => Pair r r2 h2)) := by
  have hC := Cor_of hI
  have ct := Cor_ct hC
  refine o_P_bestDraw hC (fun a => ?_) (fun a => ?_) (fun a I1 f1 => ?_)
  · refine o_M_bestDraw (d := d + 1) (by repeat (first | exact Mo_of hC | refine Mo_rf ?_ | refine Mo_up ?_ (by decide))) (fun a2 => ?_) (fun a2 => by (try simp (disch := omega) only [rfm, rfn] at a2); omega) (fun a2 => by (try simp (disch := omega) only [rfm, rfn] at a2); omega)
    exact Pair_rf hI
  · refine o_M_bestDraw (d := d + 1) (by repeat (first | exact Mo_of hC | refine Mo_rf ?_ | refine Mo_up ?_ (by decide))) (fun a2 => by (try simp (disch := omega) only [rfm, rfn] at a2); omega) (fun a2 => ?_) (fun a2 => by (try simp (disch := omega) only [rfm, rfn] at a2); omega)
    exact Pair_rf hI
  · have s1 := Sc_5 (L := L) f1
    have f67 := f1 67 (by omega)
    refine o_M_bestDraw (d := d + 1) (Mo_sc (Mo_of hC) s1) (fun a2 => by omega) (fun a2 => by rw [f67] at a2; omega) (fun a2 => ?_)
    rw [f67]
    exact ⟨_, b, I1, L, rfl, rfl, rfl, Inv_sc hI s1⟩
