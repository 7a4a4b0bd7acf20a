theorem gt_le {r : Int → Int} {m : Nat} {e : Int} : ∀ k : Nat, gt r m k e ≤ k
  | 0 => Int.le_refl _
  | k + 1 => by
    have := gt_le (r := r) (m := m) (e := e) k
    show gt r m k e + (if e = amx (rs r m k) m then 1 else 0) ≤ ((k + 1 : Nat) : Int)
    split <;> omega
theorem rs_s {r : Int → Int} {m : Nat} {i e : Int} (h : 0 ≤ i) : rs r m (i + 1).toNat e = (if e = amx (rs r m i.toNat) m then -1 else rs r m i.toNat e) ∧ gt r m (i + 1).toNat e = gt r m i.toNat e + if e = amx (rs r m i.toNat) m then 1 else 0 := by
  have e : (i + 1).toNat = i.toNat + 1 := by omega
  rw [e]
  exact ⟨rfl, rfl⟩
theorem lq_P_giveLeft_56_57 {ro : Nat → Int × (Int → Int)} {d : Nat} {b : Bool} {I L : Nat → Int → Int} {Q : Option am_V → am_H → Prop} {bc bs : Nat} {x0 x4 x5 : Int} (hx : 1 ≤ x4 ∧ x4 ≤ 30 ∧ 0 ≤ x5 ∧ x5 ≤ 100) (hp : 0 < L 56 (amx (L 56) x4.toNat)) (hb : ∀ e, 0 ≤ e → e < x4 → -1000000000000000000 ≤ L 57 e ∧ L 57 e ≤ 1000000000000000000) (HX : ∀ z : Int, z = amx (L 56) x4.toNat → am_ex (am_m ro (d + 0)) ro am_M57 Q (3, [some (am_L x0), none, some (am_R 56), some (am_R 57), some (am_I x4), some (am_I ((x5 + 1))), none, none], [], (sh b, I, am_up (am_up L 57 z (L 57 z + 1)) 56 z (-1)), bc, bs)) : ∀ (n : Nat) (x6 x7 : Int), (1 ≤ x7) → (x7 ≤ x4) → (x6 = amx (L 56) x7.toNat) → x4 - x7 < (n : Int) → am_ex (am_m ro (d + 0)) ro am_M57 Q (24, [some (am_L x0), none, some (am_R 56), some (am_R 57), some (am_I x4), some (am_I x5), some (am_I x6), some (am_I x7)], [], (sh b, I, L), bc, bs) := by
  intro n
  induction n with
  | zero =>
    intro x6 x7 i0 i1 i2 im
    exact absurd im (by omega)
  | succ n ih =>
    intro x6 x7 i0 i1 i2 im
    have ab := amx_bd (f := L 56) x7.toNat (by omega)
    refine b_P_giveLeft_56_57_24  (fun c1 => ?_) (fun c1 => ?_)
    · have e9 : x7 = x4 := by omega
      rw [e9] at i2 ab
      rw [← i2] at hp ab
      have hb9 := hb x6 (by omega) (by omega)
      refine b_P_giveLeft_56_57_53 (by omega) (fun c2 => ?_) (fun c2 => ?_)
      · refine b_P_giveLeft_56_57_77 (by omega) ?_
        first | (exfalso; omega) | exact HX x6 i2
      · refine b_P_giveLeft_56_57_62 (by omega) (by omega) (by omega) (by omega) ?_
        refine b_P_giveLeft_56_57_77 (by omega) ?_
        first | (exfalso; omega) | exact HX x6 i2
    · refine b_P_giveLeft_56_57_31 (by omega) (by omega) (fun c3 => ?_) (fun c3 => ?_)
      · refine b_P_giveLeft_56_57_47 (by omega) ?_
        exact ih x6 (x7 + 1) (by omega) (by omega) (by rw [amx_s (by omega), ← i2]; first | rw [if_pos (by omega)] | rw [if_neg (by omega)]; try omega) (by omega)
      · refine b_P_giveLeft_56_57_43  ?_
        refine b_P_giveLeft_56_57_47 (by omega) ?_
        exact ih x7 (x7 + 1) (by omega) (by omega) (by rw [amx_s (by omega), ← i2]; first | rw [if_pos (by omega)] | rw [if_neg (by omega)]; try omega) (by omega)
theorem lp_P_giveLeft_56_57 {ro : Nat → Int × (Int → Int)} {d : Nat} {b : Bool} {I : Nat → Int → Int} {Q : Option am_V → am_H → Prop} {bc bs : Nat} {x0 x4 : Int} {r t : Int → Int} {S : Int} {L0 : Nat → Int → Int} (hx : 0 ≤ x4 ∧ x4 ≤ 30) (hl : Lr r x4.toNat S x0) (ht : ∀ e, 0 ≤ e → e < x4 → -100000000000000000 ≤ t e ∧ t e ≤ 100000000000000000) (H : ∀ L : Nat → Int → Int, (∀ k, k ≠ 56 → k ≠ 57 → L k = L0 k) → (∀ e, 0 ≤ e → e < x4 → L 57 e = t e + gt r x4.toNat x0.toNat e) → (∀ e, ¬ (0 ≤ e ∧ e < x4) → L 57 e = L0 57 e) → Q none (sh b, I, L)) : ∀ (n : Nat) (L : Nat → Int → Int) (x5 : Int), (0 ≤ x5) → (x5 ≤ x0) → (∀ k, k ≠ 56 → k ≠ 57 → L k = L0 k) → (∀ e, 0 ≤ e → e < x4 → L 56 e = rs r x4.toNat x5.toNat e) → (∀ e, 0 ≤ e → e < x4 → L 57 e = t e + gt r x4.toNat x5.toNat e) → (∀ e, ¬ (0 ≤ e ∧ e < x4) → L 57 e = L0 57 e) → x0 - x5 < (n : Int) → am_ex (am_m ro (d + 0)) ro am_M57 Q (3, [some (am_L x0), none, some (am_R 56), some (am_R 57), some (am_I x4), some (am_I x5), none, none], [], (sh b, I, L), bc, bs) := by
  intro n
  induction n with
  | zero =>
    intro L x5 i0 i1 i2 i3 i4 i5 im
    exact absurd im (by omega)
  | succ n ih =>
    intro L x5 i0 i1 i2 i3 i4 i5 im
    have lm := lr_m hl
    refine b_P_giveLeft_56_57_3  (fun c1 => ?_) (fun c1 => ?_)
    · refine b_P_giveLeft_56_57_83  ?_
      have e9 : x5 = x0 := by omega
      rw [e9] at i4
      exact H L i2 i4 i5
    · refine b_P_giveLeft_56_57_11  (fun c2 => ?_) (fun c2 => ?_)
      · refine b_P_giveLeft_56_57_83  ?_
        exfalso
        omega
      · refine b_P_giveLeft_56_57_18  ?_
        have lp := lr_pos (k := x5.toNat) hl (by omega)
        have ca : amx (L 56) x4.toNat = amx (rs r x4.toNat x5.toNat) x4.toNat := amx_cg _ (fun e a1 a2 => i3 e a1 (by omega))
        have ab := amx_bd (f := rs r x4.toNat x5.toNat) x4.toNat lp.1
        have cv := i3 (amx (L 56) x4.toNat) (by omega) (by omega)
        refine lq_P_giveLeft_56_57 (d := d) (by omega) (by rw [cv, ca]; exact lp.2) (fun e a1 a2 => ?_) (fun z hz => ih _ (x5 + 1) (by omega) (by omega) ?_ ?_ ?_ ?_ (by omega)) (x4.toNat + 1) 0 1 (by omega) (by omega) (by show (0 : Int) = if L 56 0 < L 56 0 then 0 else 0; split <;> rfl) (by omega)
        · have g1 := gt_le (r := r) (m := x4.toNat) (e := e) x5.toNat
          have g2 := gt_nn (r := r) (m := x4.toNat) (e := e) x5.toNat
          have g3 := ht e a1 a2
          rw [i4 e a1 a2]
          omega
        · intro k k1 k2
          rw [upn k1, upn k2]
          exact i2 k k1 k2
        · intro e a1 a2
          rw [(rs_s (by omega)).1, ← ca, ← hz]
          by_cases ee : e = z
          · rw [ee, ups, if_pos rfl]
          · rw [upo ee, if_neg ee, upm (by omega)]
            exact i3 e a1 a2
        · intro e a1 a2
          rw [upm (by omega), (rs_s (by omega)).2, ← ca, ← hz]
          by_cases ee : e = z
          · rw [ee, ups, if_pos rfl, i4 z (by omega) (by omega)]
            omega
          · rw [upo ee, if_neg ee, i4 e a1 a2]
            omega
        · intro e a1
          rw [upm (by omega), upo (by omega)]
          exact i5 e a1
theorem s_P_giveLeft_56_57 {ro : Nat → Int × (Int → Int)} {d : Nat} {b : Bool} {I L : Nat → Int → Int} {Q : Option am_V → am_H → Prop} {x0 x4 : Int} {r : Int → Int} {S : Int} (hx : 0 ≤ x4 ∧ x4 ≤ 30) (hr : ∀ e, 0 ≤ e → e < x4 → L 56 e = r e) (hl : Lr r x4.toNat S x0) (ht : ∀ e, 0 ≤ e → e < x4 → -100000000000000000 ≤ L 57 e ∧ L 57 e ≤ 100000000000000000) (H : ∀ L' : Nat → Int → Int, (∀ k, k ≠ 56 → k ≠ 57 → L' k = L k) → (∀ e, 0 ≤ e → e < x4 → L' 57 e = L 57 e + gt r x4.toNat x0.toNat e) → (∀ e, ¬ (0 ≤ e ∧ e < x4) → L' 57 e = L 57 e) → Q none (sh b, I, L')) : am_m ro (d + 1) 57 [am_L x0, am_R 56, am_R 57, am_I x4] (sh b, I, L) Q := by
  refine am_in rfl rfl rfl rfl ?_
  refine b_P_giveLeft_56_57_0  ?_
  exact lp_P_giveLeft_56_57 (d := d) (t := L 57) hx hl ht H (x0.toNat + 1) L 0 (by omega) (by have := hl.2.1; omega) (fun _ _ _ => rfl) hr (fun e a1 a2 => by show _ = _ + 0; omega) (fun _ _ => rfl) (by have := hl.2.1; omega)
theorem lq_P_giveLeft_62_61 {ro : Nat → Int × (Int → Int)} {d : Nat} {b : Bool} {I L : Nat → Int → Int} {Q : Option am_V → am_H → Prop} {bc bs : Nat} {x0 x4 x5 : Int} (hx : 1 ≤ x4 ∧ x4 ≤ 20 ∧ 0 ≤ x5 ∧ x5 ≤ 100) (hp : 0 < L 62 (amx (L 62) x4.toNat)) (hb : ∀ e, 0 ≤ e → e < x4 → -1000000000000000000 ≤ L 61 e ∧ L 61 e ≤ 1000000000000000000) (HX : ∀ z : Int, z = amx (L 62) x4.toNat → am_ex (am_m ro (d + 0)) ro am_M57 Q (3, [some (am_L x0), none, some (am_R 62), some (am_R 61), some (am_I x4), some (am_I ((x5 + 1))), none, none], [], (sh b, I, am_up (am_up L 61 z (L 61 z + 1)) 62 z (-1)), bc, bs)) : ∀ (n : Nat) (x6 x7 : Int), (1 ≤ x7) → (x7 ≤ x4) → (x6 = amx (L 62) x7.toNat) → x4 - x7 < (n : Int) → am_ex (am_m ro (d + 0)) ro am_M57 Q (24, [some (am_L x0), none, some (am_R 62), some (am_R 61), some (am_I x4), some (am_I x5), some (am_I x6), some (am_I x7)], [], (sh b, I, L), bc, bs) := by
  intro n
  induction n with
  | zero =>
    intro x6 x7 i0 i1 i2 im
    exact absurd im (by omega)
  | succ n ih =>
    intro x6 x7 i0 i1 i2 im
    have ab := amx_bd (f := L 62) x7.toNat (by omega)
    refine b_P_giveLeft_62_61_24  (fun c1 => ?_) (fun c1 => ?_)
    · have e9 : x7 = x4 := by omega
      rw [e9] at i2 ab
      rw [← i2] at hp ab
      have hb9 := hb x6 (by omega) (by omega)
      refine b_P_giveLeft_62_61_53 (by omega) (fun c2 => ?_) (fun c2 => ?_)
      · refine b_P_giveLeft_62_61_77 (by omega) ?_
        first | (exfalso; omega) | exact HX x6 i2
      · refine b_P_giveLeft_62_61_62 (by omega) (by omega) (by omega) (by omega) ?_
        refine b_P_giveLeft_62_61_77 (by omega) ?_
        first | (exfalso; omega) | exact HX x6 i2
    · refine b_P_giveLeft_62_61_31 (by omega) (by omega) (fun c3 => ?_) (fun c3 => ?_)
      · refine b_P_giveLeft_62_61_47 (by omega) ?_
        exact ih x6 (x7 + 1) (by omega) (by omega) (by rw [amx_s (by omega), ← i2]; first | rw [if_pos (by omega)] | rw [if_neg (by omega)]; try omega) (by omega)
      · refine b_P_giveLeft_62_61_43  ?_
        refine b_P_giveLeft_62_61_47 (by omega) ?_
        exact ih x7 (x7 + 1) (by omega) (by omega) (by rw [amx_s (by omega), ← i2]; first | rw [if_pos (by omega)] | rw [if_neg (by omega)]; try omega) (by omega)
theorem lp_P_giveLeft_62_61 {ro : Nat → Int × (Int → Int)} {d : Nat} {b : Bool} {I : Nat → Int → Int} {Q : Option am_V → am_H → Prop} {bc bs : Nat} {x0 x4 : Int} {r t : Int → Int} {S : Int} {L0 : Nat → Int → Int} (hx : 0 ≤ x4 ∧ x4 ≤ 20) (hl : Lr r x4.toNat S x0) (ht : ∀ e, 0 ≤ e → e < x4 → -100000000000000000 ≤ t e ∧ t e ≤ 100000000000000000) (H : ∀ L : Nat → Int → Int, (∀ k, k ≠ 62 → k ≠ 61 → L k = L0 k) → (∀ e, 0 ≤ e → e < x4 → L 61 e = t e + gt r x4.toNat x0.toNat e) → (∀ e, ¬ (0 ≤ e ∧ e < x4) → L 61 e = L0 61 e) → Q none (sh b, I, L)) : ∀ (n : Nat) (L : Nat → Int → Int) (x5 : Int), (0 ≤ x5) → (x5 ≤ x0) → (∀ k, k ≠ 62 → k ≠ 61 → L k = L0 k) → (∀ e, 0 ≤ e → e < x4 → L 62 e = rs r x4.toNat x5.toNat e) → (∀ e, 0 ≤ e → e < x4 → L 61 e = t e + gt r x4.toNat x5.toNat e) → (∀ e, ¬ (0 ≤ e ∧ e < x4) → L 61 e = L0 61 e) → x0 - x5 < (n : Int) → am_ex (am_m ro (d + 0)) ro am_M57 Q (3, [some (am_L x0), none, some (am_R 62), some (am_R 61), some (am_I x4), some (am_I x5), none, none], [], (sh b, I, L), bc, bs) := by
  intro n
  induction n with
  | zero =>
    intro L x5 i0 i1 i2 i3 i4 i5 im
    exact absurd im (by omega)
  | succ n ih =>
    intro L x5 i0 i1 i2 i3 i4 i5 im
    have lm := lr_m hl
    refine b_P_giveLeft_62_61_3  (fun c1 => ?_) (fun c1 => ?_)
    · refine b_P_giveLeft_62_61_83  ?_
      have e9 : x5 = x0 := by omega
      rw [e9] at i4
      exact H L i2 i4 i5
    · refine b_P_giveLeft_62_61_11  (fun c2 => ?_) (fun c2 => ?_)
      · refine b_P_giveLeft_62_61_83  ?_
        exfalso
        omega
      · refine b_P_giveLeft_62_61_18  ?_
        have lp := lr_pos (k := x5.toNat) hl (by omega)
        have ca : amx (L 62) x4.toNat = amx (rs r x4.toNat x5.toNat) x4.toNat := amx_cg _ (fun e a1 a2 => i3 e a1 (by omega))
        have ab := amx_bd (f := rs r x4.toNat x5.toNat) x4.toNat lp.1
        have cv := i3 (amx (L 62) x4.toNat) (by omega) (by omega)
        refine lq_P_giveLeft_62_61 (d := d) (by omega) (by rw [cv, ca]; exact lp.2) (fun e a1 a2 => ?_) (fun z hz => ih _ (x5 + 1) (by omega) (by omega) ?_ ?_ ?_ ?_ (by omega)) (x4.toNat + 1) 0 1 (by omega) (by omega) (by show (0 : Int) = if L 62 0 < L 62 0 then 0 else 0; split <;> rfl) (by omega)
        · have g1 := gt_le (r := r) (m := x4.toNat) (e := e) x5.toNat
          have g2 := gt_nn (r := r) (m := x4.toNat) (e := e) x5.toNat
          have g3 := ht e a1 a2
          rw [i4 e a1 a2]
          omega
        · intro k k1 k2
          rw [upn k1, upn k2]
          exact i2 k k1 k2
        · intro e a1 a2
          rw [(rs_s (by omega)).1, ← ca, ← hz]
          by_cases ee : e = z
          · rw [ee, ups, if_pos rfl]
          · rw [upo ee, if_neg ee, upm (by omega)]
            exact i3 e a1 a2
        · intro e a1 a2
          rw [upm (by omega), (rs_s (by omega)).2, ← ca, ← hz]
          by_cases ee : e = z
          · rw [ee, ups, if_pos rfl, i4 z (by omega) (by omega)]
            omega
          · rw [upo ee, if_neg ee, i4 e a1 a2]
            omega
        · intro e a1
          rw [upm (by omega), upo (by omega)]
          exact i5 e a1
theorem s_P_giveLeft_62_61 {ro : Nat → Int × (Int → Int)} {d : Nat} {b : Bool} {I L : Nat → Int → Int} {Q : Option am_V → am_H → Prop} {x0 x4 : Int} {r : Int → Int} {S : Int} (hx : 0 ≤ x4 ∧ x4 ≤ 20) (hr : ∀ e, 0 ≤ e → e < x4 → L 62 e = r e) (hl : Lr r x4.toNat S x0) (ht : ∀ e, 0 ≤ e → e < x4 → -100000000000000000 ≤ L 61 e ∧ L 61 e ≤ 100000000000000000) (H : ∀ L' : Nat → Int → Int, (∀ k, k ≠ 62 → k ≠ 61 → L' k = L k) → (∀ e, 0 ≤ e → e < x4 → L' 61 e = L 61 e + gt r x4.toNat x0.toNat e) → (∀ e, ¬ (0 ≤ e ∧ e < x4) → L' 61 e = L 61 e) → Q none (sh b, I, L')) : am_m ro (d + 1) 57 [am_L x0, am_R 62, am_R 61, am_I x4] (sh b, I, L) Q := by
  refine am_in rfl rfl rfl rfl ?_
  refine b_P_giveLeft_62_61_0  ?_
  exact lp_P_giveLeft_62_61 (d := d) (t := L 61) hx hl ht H (x0.toNat + 1) L 0 (by omega) (by have := hl.2.1; omega) (fun _ _ _ => rfl) hr (fun e a1 a2 => by show _ = _ + 0; omega) (fun _ _ => rfl) (by have := hl.2.1; omega)
theorem qb {c h s : Int} (hc : 0 ≤ c ∧ c ≤ 9999999) (hh : 0 ≤ h ∧ h ≤ 119999988) (hs : 0 < s) (hl : h ≤ s) : (0 ≤ c * h ∧ c * h ≤ 1199999760000012) ∧ 0 ≤ c * h / s ∧ c * h / s ≤ c := by
  have m := mulb hc hh
  have m2 := mulb (a := c) (c := h) (A := c) (C := s) ⟨hc.1, Int.le_refl _⟩ ⟨hh.1, hl⟩
  refine ⟨by omega, Int.ediv_nonneg m.1 (by omega), ?_⟩
  have := Int.ediv_le_ediv hs m2.2
  rw [Int.mul_ediv_cancel _ (show s ≠ 0 by omega)] at this
  exact this
theorem hle {h : Int → Int} {m : Nat} {s e : Int} (hh : ∀ e : Int, 0 ≤ e → e < m → 0 ≤ h e) (hs : sm h m = s) (h1 : 0 ≤ e) (h2 : e < m) : h e ≤ s := by
  rw [← hs]
  exact sm_one (f := h) m hh h1 h2
theorem lp_Cnt_weighUp {ro : Nat → Int × (Int → Int)} {d : Nat} {b : Bool} {I : Nat → Int → Int} {Q : Option am_V → am_H → Prop} {bc bs : Nat} {x1 x3 x7 : Int} {h : Int → Int} {m9 : Int} (hm : m9 = I 10 0 ∧ 0 ≤ m9 ∧ m9 ≤ 30) (hc : (0 ≤ x1 ∧ x1 ≤ 9999999) ∧ 0 < x3 ∧ x3 ≤ 3599999640) (hh : ∀ e, 0 ≤ e → e < m9 → 0 ≤ h e ∧ h e ≤ 119999988) (hs : sm h m9.toNat = x3) {t : Int → Int} {L0 : Nat → Int → Int} (h5 : ∀ e, 0 ≤ e → e < m9 → L0 55 e = h e) (ht : ∀ e, 0 ≤ e → e < m9 → 0 ≤ t e ∧ t e ≤ 50000000) (H : ∀ L : Nat → Int → Int, (∀ k, k ≠ 56 → k ≠ 57 → L k = L0 k) → (∀ e, 0 ≤ e → e < m9 → L 57 e = t e + prt h m9.toNat x1 x3 e) → Q none (sh b, I, L)) (h7 : x7 = m9) : ∀ (n : Nat) (L : Nat → Int → Int) (x5 x8 : Int), (0 ≤ x8) → (x8 ≤ m9) → (x5 = x1 - sm (fun e => x1 * h e / x3) x8.toNat) → (∀ k, k ≠ 56 → k ≠ 57 → L k = L0 k) → (∀ e, 0 ≤ e → e < x8 → L 56 e = x1 * h e % x3 ∧ L 57 e = t e + x1 * h e / x3) → (∀ e, x8 ≤ e → e < m9 → L 57 e = t e) → (x1 - 9999999 * x8 ≤ x5 ∧ x5 ≤ x1) → m9 - x8 < (n : Int) → am_ex (am_m ro (d + 1)) ro am_M135 Q (25, [some (am_R 51), some (am_L x1), none, some (am_L x3), none, some (am_L x5), none, some (am_I x7), some (am_I x8), none, none], [], (sh b, I, L), bc, bs) := by
  intro n
  induction n with
  | zero =>
    intro L x5 x8 i0 i1 i2 i3 i4 i5 i6 im
    exact absurd im (by omega)
  | succ n ih =>
    intro L x5 x8 i0 i1 i2 i3 i4 i5 i6 im
    refine b_Cnt_weighUp_25  (fun c1 => ?_) (fun c1 => ?_)
    · have e9 : x8 = m9 := by omega
      have hl := lr_of (h := h) (c := x1) (s := x3) (m := m9.toNat) (by omega) (by omega) (fun e a1 a2 => (hh e a1 (by omega)).1) hs
      rw [e9] at i2
      rw [← i2] at hl
      refine b_Cnt_weighUp_83  (s_P_giveLeft_56_57 (r := fun e => x1 * h e % x3) (S := x3) (by omega) (fun e a1 a2 => (i4 e a1 (by omega)).1) (by rw [h7]; exact hl) (fun e a1 a2 => by have w := (i4 e a1 (by omega)).2; have w2 := ht e a1 (by omega); have q9 := qb (c := x1) (h := h e) (s := x3) hc.1 (hh e a1 (by omega)) hc.2.1 (hle (fun e a1 a2 => (hh e a1 (by omega)).1) hs a1 (by omega)); omega) (fun L9 f1 f2 f3 => ?_))
      refine b_Cnt_weighUp_98  ?_
      refine H L9 (fun k k1 k2 => (f1 k k1 k2).trans (i3 k k1 k2)) (fun e a1 a2 => ?_)
      rw [f2 e a1 (by omega), (i4 e a1 (by omega)).2, h7, i2]
      unfold prt
      omega
    · have h9 := hh x8 (by omega) (by omega)
      have q9 := qb (c := x1) (h := h x8) (s := x3) hc.1 h9 hc.2.1 (hle (fun e a1 a2 => (hh e a1 (by omega)).1) hs (by omega) (by omega))
      have e5 : L 55 x8 = h x8 := by rw [i3 55 (by omega) (by omega)]; exact h5 x8 (by omega) (by omega)
      have e7 := i5 x8 (by omega) (by omega)
      have t9 := ht x8 (by omega) (by omega)
      have e6 : x1 * L 55 x8 = x1 * h x8 := by rw [e5]
      have e8 : x1 * L 55 x8 / x3 = x1 * h x8 / x3 := by rw [e5]
      have e4 : x1 * L 55 x8 % x3 = x1 * h x8 % x3 := by rw [e5]
      refine b_Cnt_weighUp_32 (by omega) (by omega) (by omega) (by omega) (by omega) (by omega) (by omega) (by omega) (by omega) (by omega) (by omega) ?_
      refine ih (am_up (am_up L 57 x8 ((L 57 x8) + ((x1 * (L 55 x8)) / x3))) 56 x8 ((x1 * (L 55 x8)) % x3)) (x5 - ((x1 * (L 55 x8)) / x3)) (x8 + 1) (by omega) (by omega) ?_ (fun k k1 k2 => by rw [upn k1, upn k2]; exact i3 k k1 k2) (fun e a1 a2 => ?_) (fun e a1 a2 => ?_) (by omega) (by omega)
      · rw [sm_step (by omega), e8, i2]
        omega
      · by_cases ee : e = x8
        · subst ee
          rw [ups, upm (by omega), ups]
          omega
        · rw [upo ee, upm (by omega), upm (by omega), upo ee]
          exact i4 e a1 (by omega)
      · rw [upm (by omega), upo (by omega)]
        exact i5 e (by omega) a2
theorem s_Cnt_weighUp {ro : Nat → Int × (Int → Int)} {d : Nat} {b : Bool} {I L : Nat → Int → Int} {Q : Option am_V → am_H → Prop} {x1 x3 : Int} {h : Int → Int} {m9 : Int} (hm : m9 = I 10 0 ∧ 0 ≤ m9 ∧ m9 ≤ 30) (hc : (0 ≤ x1 ∧ x1 ≤ 9999999) ∧ 0 < x3 ∧ x3 ≤ 3599999640) (hh : ∀ e, 0 ≤ e → e < m9 → 0 ≤ h e ∧ h e ≤ 119999988) (hs : sm h m9.toNat = x3) (h5 : ∀ e, 0 ≤ e → e < m9 → L 55 e = h e) (ht : ∀ e, 0 ≤ e → e < m9 → 0 ≤ L 57 e ∧ L 57 e ≤ 50000000) (H : ∀ L' : Nat → Int → Int, (∀ k, k ≠ 56 → k ≠ 57 → L' k = L k) → (∀ e, 0 ≤ e → e < m9 → L' 57 e = L 57 e + prt h m9.toNat x1 x3 e) → Q none (sh b, I, L')) : am_m ro (d + 2) 135 [am_R 51, am_L x1, am_L x3] (sh b, I, L) Q := by
  refine am_in rfl rfl rfl rfl ?_
  refine b_Cnt_weighUp_0  (fun c1 => ?_) (fun c1 => ?_)
  · refine b_Cnt_weighUp_7  ?_
    exact lp_Cnt_weighUp (d := d) (t := L 57) hm hc hh hs h5 ht H (by omega) 31 L x1 0 (by omega) (by omega) (by show x1 = x1 - 0; omega) (fun _ _ _ => rfl) (fun e a1 a2 => by omega) (fun _ _ _ => rfl) (by omega) (by omega)
  · refine b_Cnt_weighUp_6  ?_
    exfalso
    omega
