theorem vj_stq {y b j : Int} {q v : Int → Int} (hb : 0 ≤ b ∧ b ≤ 40) (hy : 0 ≤ y) : stq y b q v j = q j + (if 123 + 20 * b ≤ j ∧ j < 123 + 20 * b + 20 then v (j - (123 + 20 * b)) else 0) + (if 943 + 20 * y ≤ j ∧ j < 943 + 20 * y + 20 then v (j - (943 + 20 * y)) else 0) := by
  unfold stq
  by_cases c : 123 + 20 * b ≤ j ∧ j < 143 + 20 * b
  · rw [if_pos c, if_pos (by omega), if_neg (by omega)]
    omega
  · have d1 : ¬ (123 + 20 * b ≤ j ∧ j < 123 + 20 * b + 20) := by omega
    rw [if_neg c, if_neg d1]
    by_cases c2 : 943 + 20 * y ≤ j ∧ j < 963 + 20 * y
    · rw [if_pos c2, if_pos (by omega)]
      omega
    · rw [if_neg c2, if_neg (by omega)]
      omega
def Sm (I L I' L' : Nat → Int → Int) : Prop := (∀ k, k ≠ 5 → k ≠ 35 → k ≠ 51 → k ≠ 52 → k ≠ 59 → k ≠ 63 → k ≠ 66 → k ≠ 76 → k ≠ 77 → k ≠ 78 → k ≠ 80 → k ≠ 83 → I' k = I k) ∧ (∀ j, j ≠ 23 → I' 66 j = I 66 j) ∧ (∀ k, k ≠ 69 → k ≤ 50 ∨ (63 ≤ k ∧ k ≤ 65) ∨ (67 ≤ k ∧ k ≤ 75) ∨ 85 ≤ k → L' k = L k)
theorem Sm_sc {I L I' L' : Nat → Int → Int} (h : Sc I L I' L') : Sm I L I' L' := ⟨h.1, h.2.1, fun k _ a => h.2.2 k a⟩
theorem Sm_tr {I L I1 L1 I2 L2 : Nat → Int → Int} (h : Sm I L I1 L1) (g : Sm I1 L1 I2 L2) : Sm I L I2 L2 := ⟨fun k a1 a2 a3 a4 a5 a6 a7 a8 a9 a10 a11 a12 => (g.1 k a1 a2 a3 a4 a5 a6 a7 a8 a9 a10 a11 a12).trans (h.1 k a1 a2 a3 a4 a5 a6 a7 a8 a9 a10 a11 a12), fun j a => (g.2.1 j a).trans (h.2.1 j a), fun k a1 a => (g.2.2 k a1 a).trans (h.2.2 k a1 a)⟩
theorem Sm_67 {I L I' L' : Nat → Int → Int} (s : Sm I L I' L') : I' 67 = I 67 := s.1 67 (by omega) (by omega) (by omega) (by omega) (by omega) (by omega) (by omega) (by omega) (by omega) (by omega) (by omega) (by omega)
theorem Sm_72 {I L I' L' : Nat → Int → Int} (s : Sm I L I' L') : I' 72 = I 72 := s.1 72 (by omega) (by omega) (by omega) (by omega) (by omega) (by omega) (by omega) (by omega) (by omega) (by omega) (by omega) (by omega)
theorem Mo_sm {I L I' L' : Nat → Int → Int} (h : Mo I L) (s : Sm I L I' L') : Mo I' L' := Mo_cg (L := L) (L' := L) h (Sm_67 s) rfl (Sm_72 s)
/-- who is no head is nobody's -/
theorem nh {I L : Nat → Int → Int} {n : Int} (h : Mo I L) (hn : I 67 3 ≤ n ∨ ¬ I 67 (480 + n) = n) (h0 : 0 ≤ n) : ∀ k, 0 ≤ k → k < I 67 3 → ¬ I 67 (480 + k) = n := by
  intro k k1 k2 e
  obtain ⟨C, CL, hM0⟩ := id h
  have p5 := hM0.1.2.2.2.2.1.2.2.2.2.1 k k1 k2
  rw [e] at p5
  omega
set_option maxHeartbeats 1000000 in
theorem l1_M_paysBack {ro : Nat → Int × (Int → Int)} {d : Nat} {b : Bool} {I : Nat → Int → Int} {Q : Option am_V → am_H → Prop} {bc bs : Nat} {x1 x2 : Int} {G q : Int → Int} {L0 : Nat → Int → Int} (hM : Mo I L0) (hx : 0 ≤ x1 ∧ x1 ≤ 40) (h82 : ∀ n, 0 ≤ n → n < 20 → L0 82 n = G n ∧ 0 ≤ G n ∧ G n ≤ 3000000000) (hq : ∀ k, 0 ≤ k → k < 820 → L0 69 (123 + k) = q (123 + k) ∧ 0 ≤ q (123 + k) ∧ q (123 + k) ≤ 50000000000) (hn : ∀ n, 0 ≤ n → I 67 3 ≤ n ∨ ¬ I 67 (480 + n) = n → G n = 0) (HX : ∀ L : Nat → Int → Int, (∀ k, k ≠ 84 → L k = L0 k) → (∀ n, 0 ≤ n → n < 20 → L 84 n = lkN (I 67) G q x1 n) → am_ex (am_m ro (d + 8)) ro am_M227 Q (124, [some (am_R 66), some (am_I x1), some (am_L x2), none, some (am_L ((lsN (I 67) G q x1))), none, some (am_L x2), none, some (am_I 0), none, none], [], (sh b, I, L), bc, bs)) : ∀ (n : Nat) (L : Nat → Int → Int) (x4 x6 : Int), (0 ≤ x6) → (x6 ≤ 20) → (∀ k, k ≠ 84 → L k = L0 k) → (∀ n, 0 ≤ n → n < x6 → L 84 n = lkN (I 67) G q x1 n) → (x4 = sm (fun n => lkN (I 67) G q x1 n) x6.toNat) → (0 ≤ x4 ∧ x4 ≤ 3000000000 * x6) → 20 - x6 < (n : Int) → am_ex (am_m ro (d + 8)) ro am_M227 Q (25, [some (am_R 66), some (am_I x1), some (am_L x2), none, some (am_L x4), none, some (am_I x6), none, none, none, none], [], (sh b, I, L), bc, bs) := by
  intro n
  induction n with
  | zero =>
    intro L x4 x6 i0 i1 i2 i3 i4 i5 im
    exact absurd im (by omega)
  | succ n ih =>
    intro L x4 x6 i0 i1 i2 i3 i4 i5 im
    have ct := Mo_ct hM
    refine b_M_paysBack_25  (fun c1 => ?_) (fun c1 => ?_)
    · refine b_M_paysBack_118  ?_
      have e9 : x6 = 20 := by omega
      rw [e9] at i4
      rw [i4]
      exact HX L i2 (fun n n1 n2 => i3 n n1 (by omega))
    · have g6 := h82 x6 (by omega) (by omega)
      have e82 : L 82 x6 = G x6 := by rw [i2 82 (by omega)]; exact g6.1
      have hn6 := hn x6 (by omega)
      have s0 : 0 ≤ sm (fun k => if I 67 (480 + k) = x6 then q (123 + 20 * x1 + k) else 0) (I 67 3).toNat ∧ sm (fun k => if I 67 (480 + k) = x6 then q (123 + 20 * x1 + k) else 0) (I 67 3).toNat ≤ 50000000000 * 20 := by
        have w := sm_bd (f := fun k => if I 67 (480 + k) = x6 then q (123 + 20 * x1 + k) else 0) (B := 50000000000) (I 67 3).toNat (fun k k1 k2 => by
          have := (hq (20 * x1 + k) (by omega) (by omega)).2
          rw [← Int.add_assoc] at this
          show 0 ≤ (if I 67 (480 + k) = x6 then q (123 + 20 * x1 + k) else 0) ∧ (if I 67 (480 + k) = x6 then q (123 + 20 * x1 + k) else 0) ≤ 50000000000
          split <;> omega)
        omega
      have lkv : lkN (I 67) G q x1 x6 = max 0 (G x6 - sm (fun k => if I 67 (480 + k) = x6 then q (123 + 20 * x1 + k) else 0) (I 67 3).toNat) := rfl
      refine b_M_paysBack_32  (fun c2 => ?_) (fun c2 => ?_)
      · refine b_M_paysBack_77  ?_
        refine b_M_paysBack_78  (fun c3 => ?_) (fun c3 => absurd c3 (by decide))
        refine b_M_paysBack_98  ?_
        refine b_M_paysBack_99 (by first | omega | (simp (disch := omega) only [upo, upm, ups]; omega)) (by first | omega | (simp (disch := omega) only [upo, upm, ups]; omega)) (by first | omega | (simp (disch := omega) only [upo, upm, ups]; omega)) (by first | omega | (simp (disch := omega) only [upo, upm, ups]; omega)) ?_
        refine ih (am_up L 84 x6 0) (x4 + ((am_up L 84 x6 0) 84 x6)) (x6 + 1) (by omega) (by omega) (fun k hk => by rw [upn hk]; exact i2 k hk) (fun n n1 n2 => ?_) ?_ (by rw [ups]; omega) (by omega)
        · by_cases en : n = x6
          · rw [en, ups, lkv]
            first | omega | (have h9 := hn6 (by omega); omega)
          · rw [upo en]
            exact i3 n n1 (by omega)
        · rw [sm_step (by omega), ups, lkv, i4]
          first | omega | (have h9 := hn6 (by omega); omega)
      · refine b_M_paysBack_43 (by first | omega | (simp (disch := omega) only [upo, upm, ups]; omega)) (by first | omega | (simp (disch := omega) only [upo, upm, ups]; omega)) (fun c4 => ?_) (fun c4 => ?_)
        · refine b_M_paysBack_77  ?_
          refine b_M_paysBack_78  (fun c5 => ?_) (fun c5 => absurd c5 (by decide))
          refine b_M_paysBack_98  ?_
          refine b_M_paysBack_99 (by first | omega | (simp (disch := omega) only [upo, upm, ups]; omega)) (by first | omega | (simp (disch := omega) only [upo, upm, ups]; omega)) (by first | omega | (simp (disch := omega) only [upo, upm, ups]; omega)) (by first | omega | (simp (disch := omega) only [upo, upm, ups]; omega)) ?_
          refine ih (am_up L 84 x6 0) (x4 + ((am_up L 84 x6 0) 84 x6)) (x6 + 1) (by omega) (by omega) (fun k hk => by rw [upn hk]; exact i2 k hk) (fun n n1 n2 => ?_) ?_ (by rw [ups]; omega) (by omega)
          · by_cases en : n = x6
            · rw [en, ups, lkv]
              first | omega | (have h9 := hn6 (by omega); omega)
            · rw [upo en]
              exact i3 n n1 (by omega)
          · rw [sm_step (by omega), ups, lkv, i4]
            first | omega | (have h9 := hn6 (by omega); omega)
        · refine b_M_paysBack_59 (by first | omega | (simp (disch := omega) only [upo, upm, ups]; omega)) (s_M_paidOf (q := q) hM hx (fun k k1 k2 => by rw [i2 69 (by omega)]; exact hq k k1 k2) ?_)
          refine b_M_paysBack_73 (by first | omega | (simp (disch := omega) only [upo, upm, ups]; omega)) ?_
          refine b_M_paysBack_78  (fun c6 => ?_) (fun c6 => ?_)
          · refine b_M_paysBack_98  ?_
            refine b_M_paysBack_99 (by first | omega | (simp (disch := omega) only [upo, upm, ups]; omega)) (by first | omega | (simp (disch := omega) only [upo, upm, ups]; omega)) (by first | omega | (simp (disch := omega) only [upo, upm, ups]; omega)) (by first | omega | (simp (disch := omega) only [upo, upm, ups]; omega)) ?_
            refine ih (am_up L 84 x6 0) (x4 + ((am_up L 84 x6 0) 84 x6)) (x6 + 1) (by omega) (by omega) (fun k hk => by rw [upn hk]; exact i2 k hk) (fun n n1 n2 => ?_) ?_ (by rw [ups]; omega) (by omega)
            · by_cases en : n = x6
              · rw [en, ups, lkv]
                first | omega | (have h9 := hn6 (by omega); omega)
              · rw [upo en]
                exact i3 n n1 (by omega)
            · rw [sm_step (by omega), ups, lkv, i4]
              first | omega | (have h9 := hn6 (by omega); omega)
          · refine b_M_paysBack_93  ?_
            refine b_M_paysBack_99 (by first | omega | (simp (disch := omega) only [upo, upm, ups]; omega)) (by first | omega | (simp (disch := omega) only [upo, upm, ups]; omega)) (by first | omega | (simp (disch := omega) only [upo, upm, ups]; omega)) (by first | omega | (simp (disch := omega) only [upo, upm, ups]; omega)) ?_
            refine ih (am_up L 84 x6 ((((L 82 x6) - (sm (fun k => if I 67 (480 + k) = x6 then q (123 + 20 * x1 + k) else 0) (I 67 3).toNat))))) (x4 + ((am_up L 84 x6 ((((L 82 x6) - (sm (fun k => if I 67 (480 + k) = x6 then q (123 + 20 * x1 + k) else 0) (I 67 3).toNat))))) 84 x6)) (x6 + 1) (by omega) (by omega) (fun k hk => by rw [upn hk]; exact i2 k hk) (fun n n1 n2 => ?_) ?_ (by rw [ups]; omega) (by omega)
            · by_cases en : n = x6
              · rw [en, ups, lkv]
                first | omega | (have h9 := hn6 (by omega); omega)
              · rw [upo en]
                exact i3 n n1 (by omega)
            · rw [sm_step (by omega), ups, lkv, i4]
              first | omega | (have h9 := hn6 (by omega); omega)
set_option maxHeartbeats 1000000 in
theorem s_M_paysBack {ro : Nat → Int × (Int → Int)} {d : Nat} {b : Bool} {I L : Nat → Int → Int} {Q : Option am_V → am_H → Prop} {x1 x2 : Int} (hM : Mo I L) (hw : I 66 22 = -1) (hq : ∀ k, 0 ≤ k → k < 820 → (0 ≤ L 69 (123 + k) ∧ L 69 (123 + k) ≤ 50000000000) ∧ 0 ≤ L 69 (943 + k) ∧ L 69 (943 + k) ≤ 50000000000) (hx : (0 ≤ x1 ∧ x1 ≤ 40) ∧ (0 ≤ x2 ∧ x2 ≤ 1000000000) ∧ 0 ≤ L 69 x1 ∧ L 69 x1 ≤ 1000000000) (H : ∀ I' L' : Nat → Int → Int, Sm I L I' L' → (∀ j, L' 69 j = stq (I 67 0) x1 (L 69) (fun n => pvN (I 67) (fun m => wg (I 67) (L 69) x1 m (I 67 0) (-1)) (L 69) x1 x2 n) j) → Q (some (am_L (x2 - sm (fun n => pvN (I 67) (fun m => wg (I 67) (L 69) x1 m (I 67 0) (-1)) (L 69) x1 x2 n) 20))) (sh b, I', L')) : am_m ro (d + 9) 227 [am_R 66, am_I x1, am_L x2] (sh b, I, L) Q := by
  have ct := Mo_ct hM
  refine am_in rfl rfl rfl rfl ?_
  refine b_M_paysBack_0 (by omega) (by omega) (s_M_parted hM (by rw [Int.zero_add]; omega) (fun I9 L9 s9 r9 r8 => ?_))
  refine b_M_paysBack_19  ?_
  have f67 := Sc_67 s9
  have f69 := Sc_69 s9
  have gg : ∀ n, 0 ≤ n → n < 20 → L9 82 n = wg (I 67) (L 69) x1 n (I 67 0) (-1) := fun n n1 n2 => by rw [r9 n n1 n2, hw, Int.zero_add]; rfl
  have gb : ∀ n, 0 ≤ n → n < 20 → 0 ≤ wg (I 67) (L 69) x1 n (I 67 0) (-1) ∧ wg (I 67) (L 69) x1 n (I 67 0) (-1) ≤ 3000000000 := fun n n1 n2 => fG_bd (pp_of hM (by omega)) hx.2.2 ⟨n1, n2⟩ (sy_r hM (nmN_r (by omega)))
  refine l1_M_paysBack (d := d) (G := (fun m => wg (I 67) (L 69) x1 m (I 67 0) (-1))) (q := L 69) (L0 := L9) (Mo_sc hM s9) (by omega) (fun n n1 n2 => ⟨gg n n1 n2, gb n n1 n2⟩) (fun k k1 k2 => ⟨by rw [f69], (hq k k1 k2).1⟩) (fun n n1 hn => wg_nh hM hx.2.2 (by omega) (by rw [f67] at hn; exact nh hM hn n1)) (fun L8 f1 f2 => ?_) 21 L9 0 0 (by omega) (by omega) (fun _ _ => rfl) (fun n n1 n2 => by omega) rfl (by omega) (by omega)
  rw [f67] at f2 ⊢
  have lb : ∀ n, 0 ≤ n → n < 20 → 0 ≤ lkN (I 67) (fun m => wg (I 67) (L 69) x1 m (I 67 0) (-1)) (L 69) x1 n ∧ lkN (I 67) (fun m => wg (I 67) (L 69) x1 m (I 67 0) (-1)) (L 69) x1 n ≤ lsN (I 67) (fun m => wg (I 67) (L 69) x1 m (I 67 0) (-1)) (L 69) x1 ∧ lkN (I 67) (fun m => wg (I 67) (L 69) x1 m (I 67 0) (-1)) (L 69) x1 n ≤ 3000000000 := fun n n1 n2 => by
    have w := lkN_le (p := I 67) (G := (fun m => wg (I 67) (L 69) x1 m (I 67 0) (-1))) (q := L 69) (b := x1) ⟨n1, n2⟩
    have w2 := gb n n1 n2
    have s0 : 0 ≤ sm (fun k => if I 67 (480 + k) = n then L 69 (123 + 20 * x1 + k) else 0) (I 67 3).toNat := sm_nn _ (fun k k1 k2 => by
      have := (hq (20 * x1 + k) (by omega) (by omega)).1.1
      rw [← Int.add_assoc] at this
      show 0 ≤ (if I 67 (480 + k) = n then L 69 (123 + 20 * x1 + k) else 0)
      split <;> omega)
    have w3 : lkN (I 67) (fun m => wg (I 67) (L 69) x1 m (I 67 0) (-1)) (L 69) x1 n ≤ wg (I 67) (L 69) x1 n (I 67 0) (-1) := lkN_g (G := (fun m => wg (I 67) (L 69) x1 m (I 67 0) (-1))) s0 w2.1
    exact ⟨w.1, w.2, by omega⟩
  refine l2_M_paysBack (d := d + 7) (x1 := x1) (x2 := x2) (x4 := lsN (I 67) (fun m => wg (I 67) (L 69) x1 m (I 67 0) (-1)) (L 69) x1) (q := L 69) (v := (fun n => pvN (I 67) (fun m => wg (I 67) (L 69) x1 m (I 67 0) (-1)) (L 69) x1 x2 n)) (lk := fun n => lkN (I 67) (fun m => wg (I 67) (L 69) x1 m (I 67 0) (-1)) (L 69) x1 n) (y9 := I 67 0) (L0 := L8) ⟨hx.1, by omega, hx.2.1, by rw [f67]⟩ hq (fun n n1 n2 => ⟨pvN_def, ?_, (lb n n1 n2).1, (lb n n1 n2).2.1, (lb n n1 n2).2.2⟩) f2 (fun L7 u1 u2 => H I9 L7 ⟨s9.1, s9.2.1, fun k k1 hk => ?_⟩ (fun j => ?_)) 21 L8 x2 0 (by omega) (by omega) (fun _ _ => rfl) (fun j => ?_) (by show x2 = x2 - 0; omega) (by omega) (by omega)
  · have := pvN_bd (p := I 67) (G := (fun m => wg (I 67) (L 69) x1 m (I 67 0) (-1))) (q := L 69) (b := x1) (l := x2) hx.2.1.1 ⟨n1, n2⟩
    show 0 ≤ pvN (I 67) (fun m => wg (I 67) (L 69) x1 m (I 67 0) (-1)) (L 69) x1 x2 n ∧ pvN (I 67) (fun m => wg (I 67) (L 69) x1 m (I 67 0) (-1)) (L 69) x1 x2 n ≤ 1000000000
    omega
  · rw [u1 k k1, f1 k (by omega)]
    exact s9.2.2 k hk
  · rw [u2 j, vj_stq hx.1 (by omega)]
  · rw [f1 69 (by omega), f69, if_neg (by omega), if_neg (by omega)]
    omega
