theorem ix_sn {ro : Nat → Int × (Int → Int)} (hw : RoW ro) {c : Int} (h : ¬ am_ix (ro 4).2 c (ro 4).1.toNat 0 < 0) : sgn c := by
  have w := (ix_sg hw (c := c)).2
  unfold sgn at w ⊢
  omega
theorem s_Rdr_tokenAt {ro : Nat → Int × (Int → Int)} {d : Nat} {b : Bool} {I L : Nat → Int → Int} {Q : Option am_V → am_H → Prop} {x1 x2 : Int} (hw : RoW ro) (hx : 0 ≤ x1 ∧ x2 ≤ 120) (hT : ∀ k, 0 ≤ k → k < 120 → 0 ≤ I 46 k ∧ I 46 k ≤ 255) (H0 : x2 ≤ x1 → Q (some (am_I 0)) (sh b, I, L)) (H1 : x1 < x2 → isL (I 46 x1) → ∀ t, ((∃ k, 0 ≤ k ∧ k < 20 ∧ Mt (I 46) x1 x2 k ∧ (∀ k', 0 ≤ k' → k' < k → ¬ Mt (I 46) x1 x2 k') ∧ t = 1000 + k) ∨ ((∀ k, 0 ≤ k → k < 20 → ¬ Mt (I 46) x1 x2 k) ∧ t = 1)) → Q (some (am_I t)) (sh b, I, L)) (H2 : x1 < x2 → isD (I 46 x1) → ∀ t, ((x2 - x1 ≤ 7 ∧ t = 2) ∨ (7 < x2 - x1 ∧ t = 1)) → Q (some (am_I t)) (sh b, I, L)) (H3 : x1 < x2 → ¬ isL (I 46 x1) → ¬ isD (I 46 x1) → ∀ t, ((sgn (I 46 x1) ∧ t = I 46 x1) ∨ (¬ sgn (I 46 x1) ∧ t = 1)) → Q (some (am_I t)) (sh b, I, L)) : am_m ro (d + 3) 115 [am_R 45, am_I x1, am_I x2] (sh b, I, L) Q := by
  refine am_in rfl rfl rfl rfl ?_
  refine b_Rdr_tokenAt_0  (fun c1 => ?_) (fun c1 => ?_)
  · refine b_Rdr_tokenAt_7 (by omega) (s_Rdr_isLetter (fun c2 => ?_) (fun c2 => ?_))
    · refine b_Rdr_tokenAt_18  (fun c3 => absurd c3 (by decide)) (fun c3 => ?_)
      refine b_Rdr_tokenAt_21  (s_Rdr_wordAt hw (by omega) (fun k k1 k2 k3 k4 => ?_) (fun k3 => ?_))
      · refine b_Rdr_tokenAt_27  ?_
        exact H1 (by omega) (by assumption) _ (Or.inl ⟨k, k1, k2, k3, k4, rfl⟩)
      · refine b_Rdr_tokenAt_27  ?_
        first
          | exact H0 (by omega)
          | exact H2 (by omega) (by assumption) _ (by omega)
          | exact H1 (by omega) (by assumption) _ (Or.inr ⟨k3, rfl⟩)
          | exact H3 (by omega) (by assumption) (by assumption) _ (Or.inl ⟨ix_sn hw (by assumption), rfl⟩)
          | exact H3 (by omega) (by assumption) (by assumption) _ (Or.inr ⟨(ix_sg hw).1 (by assumption), rfl⟩)
    · refine b_Rdr_tokenAt_18  (fun c4 => ?_) (fun c4 => absurd c4 (by decide))
      refine b_Rdr_tokenAt_28  (s_Rdr_isDigit (fun c5 => ?_) (fun c5 => ?_))
      · refine b_Rdr_tokenAt_32  (fun c6 => absurd c6 (by decide)) (fun c6 => ?_)
        refine b_Rdr_tokenAt_35 (by omega) (fun c7 => ?_) (fun c7 => ?_)
        · refine b_Rdr_tokenAt_47  ?_
          refine b_Rdr_tokenAt_48  ?_
          first
            | exact H0 (by omega)
            | exact H2 (by omega) (by assumption) _ (by omega)
            | exact H1 (by omega) (by assumption) _ (Or.inr ⟨k3, rfl⟩)
            | exact H3 (by omega) (by assumption) (by assumption) _ (Or.inl ⟨ix_sn hw (by assumption), rfl⟩)
            | exact H3 (by omega) (by assumption) (by assumption) _ (Or.inr ⟨(ix_sg hw).1 (by assumption), rfl⟩)
        · refine b_Rdr_tokenAt_43  ?_
          refine b_Rdr_tokenAt_48  ?_
          first
            | exact H0 (by omega)
            | exact H2 (by omega) (by assumption) _ (by omega)
            | exact H1 (by omega) (by assumption) _ (Or.inr ⟨k3, rfl⟩)
            | exact H3 (by omega) (by assumption) (by assumption) _ (Or.inl ⟨ix_sn hw (by assumption), rfl⟩)
            | exact H3 (by omega) (by assumption) (by assumption) _ (Or.inr ⟨(ix_sg hw).1 (by assumption), rfl⟩)
      · refine b_Rdr_tokenAt_32  (fun c8 => ?_) (fun c8 => absurd c8 (by decide))
        refine b_Rdr_tokenAt_49 (by have q := hT x1 (by omega) (by omega); omega) (fun c9 => ?_) (fun c9 => ?_)
        · refine b_Rdr_tokenAt_63  ?_
          refine b_Rdr_tokenAt_64  ?_
          first
            | exact H0 (by omega)
            | exact H2 (by omega) (by assumption) _ (by omega)
            | exact H1 (by omega) (by assumption) _ (Or.inr ⟨k3, rfl⟩)
            | exact H3 (by omega) (by assumption) (by assumption) _ (Or.inl ⟨ix_sn hw (by assumption), rfl⟩)
            | exact H3 (by omega) (by assumption) (by assumption) _ (Or.inr ⟨(ix_sg hw).1 (by assumption), rfl⟩)
        · refine b_Rdr_tokenAt_59  ?_
          refine b_Rdr_tokenAt_64  ?_
          first
            | exact H0 (by omega)
            | exact H2 (by omega) (by assumption) _ (by omega)
            | exact H1 (by omega) (by assumption) _ (Or.inr ⟨k3, rfl⟩)
            | exact H3 (by omega) (by assumption) (by assumption) _ (Or.inl ⟨ix_sn hw (by assumption), rfl⟩)
            | exact H3 (by omega) (by assumption) (by assumption) _ (Or.inr ⟨(ix_sg hw).1 (by assumption), rfl⟩)
  · refine b_Rdr_tokenAt_5  ?_
    first
      | exact H0 (by omega)
      | exact H2 (by omega) (by assumption) _ (by omega)
      | exact H1 (by omega) (by assumption) _ (Or.inr ⟨k3, rfl⟩)
      | exact H3 (by omega) (by assumption) (by assumption) _ (Or.inl ⟨ix_sn hw (by assumption), rfl⟩)
      | exact H3 (by omega) (by assumption) (by assumption) _ (Or.inr ⟨(ix_sg hw).1 (by assumption), rfl⟩)
theorem num_bd {T : Int → Int} {p : Int} : ∀ (m : Nat), (∀ j, p ≤ j → j < p + m → isD (T j)) → 0 ≤ num T p m ∧ num T p m < (10 : Int) ^ m
  | 0, _ => by simp [num]
  | m + 1, h => by
    have w := num_bd m (fun j j1 j2 => h j j1 (by omega))
    have q := h (p + m) (by omega) (by omega)
    unfold isD at q
    have e : (10 : Int) ^ (m + 1) = 10 * (10 : Int) ^ m := by rw [Int.pow_succ, Int.mul_comm]
    rw [e]
    unfold num
    omega
theorem pw_le {m n : Nat} (h : m ≤ n) : (10 : Int) ^ m ≤ (10 : Int) ^ n := by
  have w := Nat.pow_le_pow_right (n := 10) (by omega) h
  have e1 : ((10 ^ m : Nat) : Int) = (10 : Int) ^ m := by simp
  have e2 : ((10 ^ n : Nat) : Int) = (10 : Int) ^ n := by simp
  omega
theorem num_le {T : Int → Int} {p : Int} {m : Nat} (h : ∀ j, p ≤ j → j < p + m → isD (T j)) : (m ≤ 6 → 0 ≤ num T p m ∧ num T p m < 1000000) ∧ (m ≤ 7 → 0 ≤ num T p m ∧ num T p m < 10000000) := by
  have w := num_bd m h
  refine ⟨fun a => ?_, fun a => ?_⟩
  · have q := pw_le a
    rw [show (10 : Int) ^ 6 = 1000000 by decide] at q
    omega
  · have q := pw_le a
    rw [show (10 : Int) ^ 7 = 10000000 by decide] at q
    omega
theorem num_s {T : Int → Int} {p : Int} {m : Nat} : num T p (m + 1) = num T p m * 10 + T (p + m) - 48 := rfl
theorem num_st {T : Int → Int} {p x : Int} (h : p ≤ x) : num T p (x + 1 - p).toNat = num T p (x - p).toNat * 10 + T x - 48 := by
  have e : (x + 1 - p).toNat = (x - p).toNat + 1 := by omega
  rw [e, num_s]
  have e2 : p + ((x - p).toNat : Int) = x := by omega
  rw [e2]
theorem lp_Rdr_numberAt {ro : Nat → Int × (Int → Int)} {d : Nat} {b : Bool} {I L : Nat → Int → Int} {Q : Option am_V → am_H → Prop} {bc bs : Nat} {x2 x1 : Int} (hx : 0 ≤ x1 ∧ x1 ≤ x2 ∧ x2 ≤ 120 ∧ x2 - x1 ≤ 7) (hd : ∀ j, x1 ≤ j → j < x2 → isD (I 46 j)) (H : Q (some (am_I (num (I 46) x1 (x2 - x1).toNat))) (sh b, I, L)) : ∀ (n : Nat) (x3 x4 : Int), (x1 ≤ x4) → (x4 ≤ x2) → (x3 = num (I 46) x1 (x4 - x1).toNat) → x2 - x4 < (n : Int) → am_ex (am_m ro (d + 0)) ro am_M116 Q (5, [some (am_R 45), none, some (am_I x2), some (am_I x3), some (am_I x4)], [], (sh b, I, L), bc, bs) := by
  intro n
  induction n with
  | zero =>
    intro x3 x4 i0 i1 i2 im
    exact absurd im (by omega)
  | succ n ih =>
    intro x3 x4 i0 i1 i2 im
    refine b_Rdr_numberAt_5  (fun c1 => ?_) (fun c1 => ?_)
    · refine b_Rdr_numberAt_33  ?_
      have e : x4 = x2 := by omega
      subst e
      rw [i2]
      exact H
    · have q := (num_le (T := I 46) (p := x1) (m := (x4 - x1).toNat) (fun j j1 j2 => hd j j1 (by omega))).1 (by omega)
      rw [← i2] at q
      have q2 := hd x4 (by omega) (by omega)
      unfold isD at q2
      refine b_Rdr_numberAt_11 (by omega) (by omega) (by omega) (by omega) (by omega) ?_
      exact ih (((x3 * 10) + (I 46 x4)) - 48) (x4 + 1) (by omega) (by omega) (by rw [num_st (by omega), i2]) (by omega)
theorem s_Rdr_numberAt {ro : Nat → Int × (Int → Int)} {d : Nat} {b : Bool} {I L : Nat → Int → Int} {Q : Option am_V → am_H → Prop} {x1 x2 : Int} (hx : 0 ≤ x1 ∧ x1 ≤ x2 ∧ x2 ≤ 120 ∧ x2 - x1 ≤ 7) (hd : ∀ j, x1 ≤ j → j < x2 → isD (I 46 j)) (H : Q (some (am_I (num (I 46) x1 (x2 - x1).toNat))) (sh b, I, L)) : am_m ro (d + 1) 116 [am_R 45, am_I x1, am_I x2] (sh b, I, L) Q := by
  refine am_in rfl rfl rfl rfl ?_
  refine b_Rdr_numberAt_0  ?_
  exact lp_Rdr_numberAt (d := d) hx hd H 8 0 x1 (by omega) (by omega) (by simp [num]) (by omega)
def TKs (T : Int → Int) (n : Int) (tk pl wv en : Int → Int) (m : Int) : Prop := (∀ k, 0 ≤ k → k < m → Tok T n (if k = 0 then 0 else en (k - 1)) (pl k) (en k) (tk k) (wv k)) ∧ (∀ k, 0 ≤ k → k + 1 < m → tk k ≠ 0 ∧ tk k ≠ 1)
theorem TKs_add {T : Int → Int} {n : Int} {tk pl wv en tk' pl' wv' : Int → Int} {m s p e t v : Int} (hm : 0 ≤ m) (h : TKs T n tk pl wv en m) (hs : s = if m = 0 then 0 else en (m - 1)) (hk : Tok T n s p e t v) (ht : 0 < m → tk (m - 1) ≠ 0 ∧ tk (m - 1) ≠ 1) (f1 : ∀ k, k ≠ m → tk' k = tk k) (f2 : ∀ k, k ≠ m → pl' k = pl k) (f3 : ∀ k, k ≠ m → wv' k = wv k) (g1 : tk' m = t) (g2 : pl' m = p) (g3 : wv' m = v) : TKs T n tk' pl' wv' (fun j => if j = m then e else en j) (m + 1) := by
  refine ⟨fun k k1 k2 => ?_, fun k k1 k2 => ?_⟩
  · by_cases e9 : k = m
    · subst e9
      rw [g1, g2, g3]
      dsimp only
      rw [if_pos (show k = k from rfl)]
      have e8 : (if k = 0 then (0 : Int) else if k - 1 = k then e else en (k - 1)) = s := by
        rw [hs, if_neg (show ¬ k - 1 = k by omega)]
      rw [e8]
      exact hk
    · rw [f1 k e9, f2 k e9, f3 k e9]
      dsimp only
      rw [if_neg e9, if_neg (show ¬ k - 1 = m by omega)]
      exact h.1 k k1 (by omega)
  · rw [f1 k (by omega)]
    by_cases e9 : k = m - 1
    · subst e9
      exact ht (by omega)
    · exact h.2 k k1 (by omega)
theorem lp_Rdr_readTokens_21 {ro : Nat → Int × (Int → Int)} {d : Nat} {b : Bool} {I L : Nat → Int → Int} {Q : Option am_V → am_H → Prop} {bc bs : Nat} {x1 : Int} (hn : 0 ≤ I 45 1 ∧ I 45 1 ≤ 120) {x0 : Int} (K : ∀ p, x0 ≤ p → p ≤ I 45 1 → (∀ j, x0 ≤ j → j < p → I 46 j = 32) → (p < I 45 1 → I 46 p ≠ 32) → am_ex (am_m ro (d + 3)) ro am_M113 Q (46, [some (am_R 45), some (am_I x1), some (am_I p), none, none], [], (sh b, I, L), bc, bs)) : ∀ (n : Nat) (x2 : Int), (x0 ≤ x2) → (0 ≤ x2) → (x2 ≤ I 45 1) → (∀ j, x0 ≤ j → j < x2 → I 46 j = 32) → I 45 1 - x2 < (n : Int) → am_ex (am_m ro (d + 3)) ro am_M113 Q (21, [some (am_R 45), some (am_I x1), some (am_I x2), none, none], [], (sh b, I, L), bc, bs) := by
  intro n
  induction n with
  | zero =>
    intro x2 i0 i1 i2 i3 im
    exact absurd im (by omega)
  | succ n ih =>
    intro x2 i0 i1 i2 i3 im
    refine b_Rdr_readTokens_21  (fun c1 => ?_) (fun c1 => ?_)
    · exact K x2 i0 i2 i3 (by first | (intro z; omega) | (intro z; assumption))
    · refine b_Rdr_readTokens_29 (by omega) (fun c2 => ?_) (fun c2 => ?_)
      · exact K x2 i0 i2 i3 (by first | (intro z; omega) | (intro z; assumption))
      · refine b_Rdr_readTokens_40 (by omega) ?_
        exact ih (x2 + 1) (by omega) (by omega) (by omega) (fun j j1 j2 => by by_cases e : j = x2; (· rw [e]; omega); (· exact i3 j j1 (by omega))) (by omega)
def TE (T : Int → Int) (n x1 e : Int) : Prop := (x1 = n ∧ e = n) ∨ (x1 < n ∧ x1 < e ∧ e ≤ n ∧ (isL (T x1) → (∀ j, x1 ≤ j → j < e → isL (T j)) ∧ (e < n → ¬ isL (T e))) ∧ (isD (T x1) → (∀ j, x1 ≤ j → j < e → isD (T j)) ∧ (e < n → ¬ isD (T e))) ∧ (¬ isL (T x1) → ¬ isD (T x1) → e = x1 + 1))
def TA (T : Int → Int) (x1 x2 t : Int) : Prop := (x2 ≤ x1 ∧ t = 0) ∨ (x1 < x2 ∧ isL (T x1) ∧ ((∃ k, 0 ≤ k ∧ k < 20 ∧ Mt T x1 x2 k ∧ (∀ k', 0 ≤ k' → k' < k → ¬ Mt T x1 x2 k') ∧ t = 1000 + k) ∨ ((∀ k, 0 ≤ k → k < 20 → ¬ Mt T x1 x2 k) ∧ t = 1))) ∨ (x1 < x2 ∧ isD (T x1) ∧ ((x2 - x1 ≤ 7 ∧ t = 2) ∨ (7 < x2 - x1 ∧ t = 1))) ∨ (x1 < x2 ∧ ¬ isL (T x1) ∧ ¬ isD (T x1) ∧ ((sgn (T x1) ∧ t = T x1) ∨ (¬ sgn (T x1) ∧ t = 1)))
theorem s2_Rdr_tokenEnd {ro : Nat → Int × (Int → Int)} {d : Nat} {b : Bool} {I L : Nat → Int → Int} {Q : Option am_V → am_H → Prop} {x1 n : Int} {T : Int → Int} (h1 : I 46 = T) (h2 : I 45 1 = n) (hn : 0 ≤ n ∧ n ≤ 120) (hx : 0 ≤ x1 ∧ x1 ≤ n) (H : ∀ e, TE T n x1 e → Q (some (am_I e)) (sh b, I, L)) : am_m ro (d + 3) 114 [am_R 45, am_I x1] (sh b, I, L) Q := by
  subst h1 h2
  exact s_Rdr_tokenEnd hn hx (fun a => H _ (Or.inl ⟨a, rfl⟩)) (fun a e e1 e2 e3 e4 e5 => H e (Or.inr ⟨a, e1, e2, e3, e4, e5⟩))
theorem s2_Rdr_tokenAt {ro : Nat → Int × (Int → Int)} {d : Nat} {b : Bool} {I L : Nat → Int → Int} {Q : Option am_V → am_H → Prop} {x1 x2 : Int} {T : Int → Int} (h1 : I 46 = T) (hw : RoW ro) (hx : 0 ≤ x1 ∧ x2 ≤ 120) (hT : ∀ k, 0 ≤ k → k < 120 → 0 ≤ T k ∧ T k ≤ 255) (H : ∀ t, TA T x1 x2 t → Q (some (am_I t)) (sh b, I, L)) : am_m ro (d + 3) 115 [am_R 45, am_I x1, am_I x2] (sh b, I, L) Q := by
  subst h1
  exact s_Rdr_tokenAt hw hx hT (fun a => H 0 (Or.inl ⟨a, rfl⟩)) (fun a a1 t h => H t (Or.inr (Or.inl ⟨a, a1, h⟩))) (fun a a1 t h => H t (Or.inr (Or.inr (Or.inl ⟨a, a1, h⟩)))) (fun a a1 a2 t h => H t (Or.inr (Or.inr (Or.inr ⟨a, a1, a2, h⟩))))
theorem s2_Rdr_numberAt {ro : Nat → Int × (Int → Int)} {d : Nat} {b : Bool} {I L : Nat → Int → Int} {Q : Option am_V → am_H → Prop} {x1 x2 : Int} {T : Int → Int} (h1 : I 46 = T) (hx : 0 ≤ x1 ∧ x1 ≤ x2 ∧ x2 ≤ 120 ∧ x2 - x1 ≤ 7) (hd : ∀ j, x1 ≤ j → j < x2 → isD (T j)) (H : Q (some (am_I (num T x1 (x2 - x1).toNat))) (sh b, I, L)) : am_m ro (d + 1) 116 [am_R 45, am_I x1, am_I x2] (sh b, I, L) Q := by
  subst h1
  exact s_Rdr_numberAt hx hd H
theorem TA_2 {T : Int → Int} {n x1 x2 t : Int} (h : TA T x1 x2 t) (g : TE T n x1 x2) (e : t = 2) : (x1 < x2 ∧ x2 - x1 ≤ 7 ∧ x2 ≤ n) ∧ ∀ j, x1 ≤ j → j < x2 → isD (T j) := by
  rcases h with ⟨a, a1⟩ | ⟨a, a1, a2⟩ | ⟨a, a1, a2⟩ | ⟨a, a1, a2, a3⟩
  · omega
  · rcases a2 with ⟨k, k1, k2, k3, k4, k5⟩ | ⟨k1, k2⟩
    · omega
    · omega
  · rcases g with ⟨g1, g2⟩ | ⟨g1, g2, g3, g4, g5, g6⟩
    · omega
    · exact ⟨by omega, (g5 a1).1⟩
  · rcases a3 with ⟨k, k1⟩ | ⟨k, k1⟩
    · unfold sgn at k
      omega
    · omega
theorem Tok_of {T : Int → Int} {n s p e t v : Int} (h1 : s ≤ p) (h2 : p ≤ n) (h3 : ∀ j, s ≤ j → j < p → T j = 32) (h4 : p < n → T p ≠ 32) (g : TE T n p e) (h : TA T p e t) (hv : t = 2 → v = num T p (e - p).toNat) : Tok T n s p e t v := by
  refine ⟨h1, h2, h3, h4, ?_⟩
  rcases g with ⟨g1, g2⟩ | ⟨g1, g2, g3, g4, g5, g6⟩
  · rcases h with ⟨a, a1⟩ | ⟨a, a1, a2⟩ | ⟨a, a1, a2⟩ | ⟨a, a1, a2, a3⟩
    · exact Or.inl ⟨g1, g2, a1⟩
    · omega
    · omega
    · omega
  · refine Or.inr ⟨g1, g2, g3, ?_⟩
    rcases h with ⟨a, a1⟩ | ⟨a, a1, a2⟩ | ⟨a, a1, a2⟩ | ⟨a, a1, a2, a3⟩
    · omega
    · exact Or.inl ⟨a1, (g4 a1).1, (g4 a1).2, a2⟩
    · refine Or.inr (Or.inl ⟨a1, (g5 a1).1, (g5 a1).2, ?_⟩)
      rcases a2 with ⟨b1, b2⟩ | ⟨b1, b2⟩
      · exact Or.inl ⟨b1, b2, hv b2⟩
      · exact Or.inr ⟨b1, b2⟩
    · exact Or.inr (Or.inr ⟨a1, a2, g6 a1 a2, a3⟩)
theorem Tok_e {T : Int → Int} {n s p e t v : Int} (h : Tok T n s p e t v) : s ≤ p ∧ p ≤ n ∧ e ≤ n ∧ s ≤ e ∧ (t ≠ 0 → t ≠ 1 → p < e) := by
  obtain ⟨h1, h2, h3, h4, h5⟩ := h
  rcases h5 with ⟨a, a1, a2⟩ | ⟨a, a1, a2, a3⟩
  · exact ⟨h1, h2, by omega, by omega, fun z => absurd a2 z⟩
  · exact ⟨h1, h2, a2, by omega, fun _ _ => a1⟩
theorem lp_Rdr_readTokens_46 {ro : Nat → Int × (Int → Int)} {d : Nat} {b : Bool} {I L : Nat → Int → Int} {Q : Option am_V → am_H → Prop} {bc bs : Nat} {x1 x2 : Int} (hw : RoW ro) (hn : 0 ≤ I 45 1 ∧ I 45 1 ≤ 120) (hx : 0 ≤ x1 ∧ x1 ≤ 120 ∧ 0 ≤ x2 ∧ x2 ≤ I 45 1) (hT : ∀ k, 0 ≤ k → k < 120 → 0 ≤ I 46 k ∧ I 46 k ≤ 255) (K : ∀ (I2 : Nat → Int → Int) (e t v : Int), TE (I 46) (I 45 1) x2 e → TA (I 46) x2 e t → (t = 2 → v = num (I 46) x2 (e - x2).toNat) → (∀ k, k ≠ 47 → k ≠ 48 → k ≠ 49 → I2 k = I k) → (∀ j, j ≠ x1 → I2 47 j = I 47 j ∧ I2 48 j = I 48 j ∧ I2 49 j = I 49 j) → I2 47 x1 = t → I2 48 x1 = x2 → I2 49 x1 = v → am_ex (am_m ro (d + 3)) ro am_M113 Q (6, [some (am_R 45), some (am_I (x1 + 1)), some (am_I e), some (am_I t), none], [], (sh b, I2, L), bc, bs)) : am_ex (am_m ro (d + 3)) ro am_M113 Q (46, [some (am_R 45), some (am_I x1), some (am_I x2), none, none], [], (sh b, I, L), bc, bs) := by
  refine b_Rdr_readTokens_46 (by omega) (s2_Rdr_tokenEnd (T := I 46) (n := I 45 1) (upn (by omega)) (upm (by omega)) hn (by omega) (fun e he => ?_))
  refine b_Rdr_readTokens_58  (s2_Rdr_tokenAt (T := I 46) (upn (by omega)) hw (by rcases he with ⟨e1, e2⟩ | ⟨e1, e2, e3, e4⟩ <;> omega) hT (fun t ht => ?_))
  refine b_Rdr_readTokens_72 (by omega) (by omega) (fun c1 => ?_) (fun c1 => ?_)
  · rw [ups] at c1
    refine b_Rdr_readTokens_98  ?_
    refine b_Rdr_readTokens_99 (by omega) (by omega) (by omega) ?_
    have e9 : (am_up (am_up (am_up I 48 x1 x2) 47 x1 t) 49 x1 0) 47 x1 = t := by (try simp (disch := omega) only [upo, upm, ups, upn])
    rw [e9]
    refine K _ e t 0 he ht (fun z => absurd z (by assumption)) (fun k k1 k2 k3 => ?_) (fun j j1 => ⟨?_, ?_, ?_⟩) ?_ ?_ ?_
    · rw [upn k3, upn k1, upn k2]
    all_goals (try simp (disch := omega) only [upo, upm, ups, upn])
  · rw [ups] at c1
    have q2 := TA_2 ht he (by omega)
    refine b_Rdr_readTokens_88  (s2_Rdr_numberAt (T := I 46) ((upn (by omega)).trans (upn (by omega))) (by omega) q2.2 ?_)
    refine b_Rdr_readTokens_95  ?_
    refine b_Rdr_readTokens_99 (by omega) (by omega) (by omega) ?_
    have e9 : (am_up (am_up (am_up I 48 x1 x2) 47 x1 t) 49 x1 (num (I 46) x2 (e - x2).toNat)) 47 x1 = t := by (try simp (disch := omega) only [upo, upm, ups, upn])
    rw [e9]
    refine K _ e t (num (I 46) x2 (e - x2).toNat) he ht (fun _ => rfl) (fun k k1 k2 k3 => ?_) (fun j j1 => ⟨?_, ?_, ?_⟩) ?_ ?_ ?_
    · rw [upn k3, upn k1, upn k2]
    all_goals (try simp (disch := omega) only [upo, upm, ups, upn])
theorem lp_Rdr_readTokens_6 {ro : Nat → Int × (Int → Int)} {d : Nat} {b : Bool} {L : Nat → Int → Int} {Q : Option am_V → am_H → Prop} {bc bs : Nat} {I0 : Nat → Int → Int} (hw : RoW ro) (hn : 0 ≤ I0 45 1 ∧ I0 45 1 ≤ 120) (hT : ∀ k, 0 ≤ k → k < 120 → 0 ≤ I0 46 k ∧ I0 46 k ≤ 255) (H : ∀ I' : Nat → Int → Int, (∀ k, k ≠ 47 → k ≠ 48 → k ≠ 49 → I' k = I0 k) → ∀ (en : Int → Int) (m : Int), 0 ≤ m → m ≤ 120 → TKs (I0 46) (I0 45 1) (I' 47) (I' 48) (I' 49) en (m + 1) → (I' 47 m = 0 ∨ I' 47 m = 1) → Q none (sh b, I', L)) : ∀ (n : Nat) (I : Nat → Int → Int) (x1 x2 x3 : Int), (0 ≤ x1 ∧ x1 ≤ 121) → (∀ k, k ≠ 47 → k ≠ 48 → k ≠ 49 → I k = I0 k) → (∃ en, TKs (I0 46) (I0 45 1) (I 47) (I 48) (I 49) en x1 ∧ (x2 = if x1 = 0 then 0 else en (x1 - 1)) ∧ (x1 = 0 ∨ x3 = I 47 (x1 - 1))) → (0 ≤ x2 ∧ x2 ≤ I0 45 1) → (x1 = 0 → x3 = -1) → (x3 ≠ 0 → x3 ≠ 1 → x1 ≤ x2) → 121 - x1 < (n : Int) → am_ex (am_m ro (d + 3)) ro am_M113 Q (6, [some (am_R 45), some (am_I x1), some (am_I x2), some (am_I x3), none], [], (sh b, I, L), bc, bs) := by
  intro n
  induction n with
  | zero =>
    intro I x1 x2 x3 i0 i1 i2 i3 i4 i5 im
    exact absurd im (by omega)
  | succ n ih =>
    intro I x1 x2 x3 i0 i1 i2 i3 i4 i5 im
    refine b_Rdr_readTokens_6  (fun c1 => ?_) (fun c1 => ?_)
    · refine b_Rdr_readTokens_116  ?_
      obtain ⟨en, t1, t2, t3⟩ := i2
      by_cases e0 : x3 = 0 ∨ x3 = 1
      · have e1 : 0 < x1 := by
          refine Decidable.byContradiction (fun z => ?_)
          have e2 := i4 (by omega)
          omega
        have e3 : x3 = I 47 (x1 - 1) := by omega
        refine H I i1 en (x1 - 1) (by omega) (by omega) ?_ ?_
        · rw [show x1 - 1 + 1 = x1 by omega]
          exact t1
        · rw [← e3]
          exact e0
      · have e1 := i5 (by omega) (by omega)
        omega
    · refine b_Rdr_readTokens_12  (fun c2 => ?_) (fun c2 => ?_)
      · refine b_Rdr_readTokens_116  ?_
        obtain ⟨en, t1, t2, t3⟩ := i2
        by_cases e0 : x3 = 0 ∨ x3 = 1
        · have e1 : 0 < x1 := by
            refine Decidable.byContradiction (fun z => ?_)
            have e2 := i4 (by omega)
            omega
          have e3 : x3 = I 47 (x1 - 1) := by omega
          refine H I i1 en (x1 - 1) (by omega) (by omega) ?_ ?_
          · rw [show x1 - 1 + 1 = x1 by omega]
            exact t1
          · rw [← e3]
            exact e0
        · have e1 := i5 (by omega) (by omega)
          omega
      · refine b_Rdr_readTokens_16  (fun c3 => ?_) (fun c3 => ?_)
        · refine b_Rdr_readTokens_116  ?_
          obtain ⟨en, t1, t2, t3⟩ := i2
          by_cases e0 : x3 = 0 ∨ x3 = 1
          · have e1 : 0 < x1 := by
              refine Decidable.byContradiction (fun z => ?_)
              have e2 := i4 (by omega)
              omega
            have e3 : x3 = I 47 (x1 - 1) := by omega
            refine H I i1 en (x1 - 1) (by omega) (by omega) ?_ ?_
            · rw [show x1 - 1 + 1 = x1 by omega]
              exact t1
            · rw [← e3]
              exact e0
          · have e1 := i5 (by omega) (by omega)
            omega
        · obtain ⟨en, t1, t2, t3⟩ := i2
          have j45 : I 45 = I0 45 := i1 45 (by omega) (by omega) (by omega)
          have j46 : I 46 = I0 46 := i1 46 (by omega) (by omega) (by omega)
          refine lp_Rdr_readTokens_21 (d := d) (x0 := x2) (by rw [j45]; exact hn) (fun p p1 p2 p3 p4 => ?_) 121 x2 (by omega) (by omega) (by rw [j45]; omega) (fun j j1 j2 => by omega) (by rw [j45]; omega)
          rw [j45] at p2 p4
          rw [j46] at p3 p4
          refine lp_Rdr_readTokens_46 (d := d) hw (by rw [j45]; exact hn) (by rw [j45]; omega) (by rw [j46]; exact hT) (fun I2 e t v k1 k2 k3 k4 k5 k6 k7 k8 => ?_)
          rw [j45, j46] at k1
          rw [j46] at k2 k3
          have tk := Tok_of p1 p2 p3 p4 k1 k2 k3
          have te := Tok_e tk
          refine ih I2 (x1 + 1) e t (by omega) (fun k a1 a2 a3 => (k4 k a1 a2 a3).trans (i1 k a1 a2 a3)) ⟨_, TKs_add (by omega) t1 t2 tk (fun z => ?_) (fun k z => (k5 k z).1) (fun k z => (k5 k z).2.1) (fun k z => (k5 k z).2.2) k6 k7 k8, ?_, ?_⟩ (by omega) (by omega) (by omega) (by omega)
          · have e3 : x3 = I 47 (x1 - 1) := by omega
            rw [← e3]
            omega
          · rw [if_neg (show ¬ x1 + 1 = 0 by omega), if_pos (show x1 + 1 - 1 = x1 by omega)]
          · rw [show x1 + 1 - 1 = x1 by omega, k6]
            exact Or.inr rfl
theorem s_Rdr_readTokens {ro : Nat → Int × (Int → Int)} {d : Nat} {b : Bool} {I L : Nat → Int → Int} {Q : Option am_V → am_H → Prop} (hw : RoW ro) (hn : 0 ≤ I 45 1 ∧ I 45 1 ≤ 120) (hT : ∀ k, 0 ≤ k → k < 120 → 0 ≤ I 46 k ∧ I 46 k ≤ 255) (H : ∀ I' : Nat → Int → Int, (∀ k, k ≠ 47 → k ≠ 48 → k ≠ 49 → I' k = I k) → ∀ (en : Int → Int) (m : Int), 0 ≤ m → m ≤ 120 → TKs (I 46) (I 45 1) (I' 47) (I' 48) (I' 49) en (m + 1) → (I' 47 m = 0 ∨ I' 47 m = 1) → Q none (sh b, I', L)) : am_m ro (d + 4) 113 [am_R 45] (sh b, I, L) Q := by
  refine am_in rfl rfl rfl rfl ?_
  refine b_Rdr_readTokens_0  ?_
  exact lp_Rdr_readTokens_6 (d := d) hw hn hT H 122 I 0 0 (-1) (by omega) (fun _ _ _ _ => rfl) ⟨fun _ => 0, ⟨fun k k1 k2 => by omega, fun k k1 k2 => by omega⟩, by rw [if_pos rfl], Or.inl rfl⟩ (by omega) (by omega) (by omega) (by omega)
