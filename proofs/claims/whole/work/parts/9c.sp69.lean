def TR (t : Int) : Prop := t = 0 ∨ t = 1 ∨ t = 2 ∨ sgn t ∨ (1000 ≤ t ∧ t ≤ 1019)
def CX (X : Nat → Int → Int) : Prop := (0 ≤ X 5 2 ∧ X 5 2 ≤ 120 ∧ X 5 0 ≤ 120 ∧ 2860 ≤ X 5 1 ∧ X 5 1 ≤ 4290) ∧ TKs (X 0) (X 5 0) (X 1) (X 2) (X 3) (X 4) (X 5 2 + 1) ∧ (X 1 (X 5 2) = 0 ∨ X 1 (X 5 2) = 1)
theorem TK_nn {T : Int → Int} {n : Int} {tk pl wv en : Int → Int} {m : Int} (h : TKs T n tk pl wv en m) : ∀ k : Nat, (k : Int) < m → 0 ≤ pl k ∧ 0 ≤ en k
  | 0, hk => by
    have q := Tok_e (h.1 0 (by omega) hk)
    rw [if_pos rfl] at q
    simp only [Int.natCast_zero] at *
    omega
  | k + 1, hk => by
    have w := TK_nn h k (by omega)
    have q := Tok_e (h.1 ((k + 1 : Nat) : Int) (by omega) hk)
    rw [if_neg (by omega), show ((k + 1 : Nat) : Int) - 1 = (k : Int) by omega] at q
    omega
theorem CX_nn {X : Nat → Int → Int} (h : CX X) {a : Int} (h1 : 0 ≤ a) (h2 : a ≤ X 5 2) : 0 ≤ X 2 a ∧ 0 ≤ X 4 a := by
  obtain ⟨k, rfl⟩ := Int.eq_ofNat_of_zero_le h1
  exact TK_nn h.2.1 k (by omega)
theorem CX_lt {X : Nat → Int → Int} (h : CX X) {a : Int} (h2 : a ≤ X 5 2) (h3 : ¬ X 1 a = 0) (h4 : ¬ X 1 a = 1) : a < X 5 2 := by
  refine Decidable.byContradiction (fun z => ?_)
  have e : a = X 5 2 := by omega
  have q := h.2.2
  rw [← e] at q
  omega
theorem Tok_tr {T : Int → Int} {n s p e t v : Int} (h : Tok T n s p e t v) : TR t ∧ (t = 2 → 0 ≤ v ∧ v ≤ 9999999) := by
  obtain ⟨h1, h2, h3, h4, h5⟩ := h
  rcases h5 with ⟨a, a1, a2⟩ | ⟨a, a1, a2, a3⟩
  · exact ⟨Or.inl a2, fun z => by omega⟩
  · rcases a3 with a3 | a3 | a3
    · rcases a3.2.2.2 with ⟨k, b1, b2, b3, b4, b5⟩ | ⟨b1, b2⟩
      · exact ⟨Or.inr (Or.inr (Or.inr (Or.inr (by omega)))), fun z => by omega⟩
      · exact ⟨Or.inr (Or.inl b2), fun z => by omega⟩
    · rcases a3.2.2.2 with ⟨b1, b2, b3⟩ | ⟨b1, b2⟩
      · refine ⟨Or.inr (Or.inr (Or.inl b2)), fun z => ?_⟩
        have q := (num_le (T := T) (p := p) (m := (e - p).toNat) (fun j j1 j2 => a3.2.1 j j1 (by omega))).2 (by omega)
        rw [b3]
        omega
      · exact ⟨Or.inr (Or.inl b2), fun z => by omega⟩
    · rcases a3.2.2.2 with ⟨b1, b2⟩ | ⟨b1, b2⟩
      · rw [← b2] at b1
        refine ⟨Or.inr (Or.inr (Or.inr (Or.inl b1))), fun z => ?_⟩
        unfold sgn at b1
        omega
      · exact ⟨Or.inr (Or.inl b2), fun z => by omega⟩
theorem CX_tr {X : Nat → Int → Int} (h : CX X) {a : Int} (h1 : 0 ≤ a) (h2 : a ≤ X 5 2) : TR (X 1 a) ∧ (X 1 a = 2 → 0 ≤ X 3 a ∧ X 3 a ≤ 9999999) := Tok_tr (h.2.1.1 a h1 (by omega))
theorem CX_nx {X : Nat → Int → Int} (h : CX X) {a : Int} (h1 : 0 ≤ a) (h2 : a < X 5 2) : Tok (X 0) (X 5 0) (X 4 a) (X 2 (a + 1)) (X 4 (a + 1)) (X 1 (a + 1)) (X 3 (a + 1)) := by
  have q := h.2.1.1 (a + 1) (by omega) (by omega)
  rw [if_neg (by omega), show a + 1 - 1 = a by omega] at q
  exact q
theorem tm_or {t : Int} (h : TR t) : tm t = 5 ↔ t = 1017 := by
  unfold TR sgn at h
  unfold tm
  (repeat' split) <;> omega
theorem tm_and {t : Int} (h : TR t) : tm t = 6 ↔ t = 1018 := by
  unfold TR sgn at h
  unfold tm
  (repeat' split) <;> omega
theorem tm_not {t : Int} (h : TR t) : tm t = 7 ↔ t = 1019 := by
  unfold TR sgn at h
  unfold tm
  (repeat' split) <;> omega
theorem tm_if {t : Int} (h : TR t) : tm t = 4 ↔ t = 1016 := by
  unfold TR sgn at h
  unfold tm
  (repeat' split) <;> omega
theorem tm_num {t : Int} (h : TR t) : tm t = 1 ↔ t = 2 := by
  unfold TR sgn at h
  unfold tm
  (repeat' split) <;> omega
theorem tm_end {t : Int} (h : TR t) : tm t = 0 ↔ t = 0 := by
  unfold TR sgn at h
  unfold tm
  (repeat' split) <;> omega
theorem tm_s40 {t : Int} (h : TR t) : tm t = 40 ↔ t = 40 := by
  unfold TR sgn at h
  unfold tm
  (repeat' split) <;> omega
theorem tm_s41 {t : Int} (h : TR t) : tm t = 41 ↔ t = 41 := by
  unfold TR sgn at h
  unfold tm
  (repeat' split) <;> omega
theorem tm_s43 {t : Int} (h : TR t) : tm t = 43 ↔ t = 43 := by
  unfold TR sgn at h
  unfold tm
  (repeat' split) <;> omega
theorem tm_s45 {t : Int} (h : TR t) : tm t = 45 ↔ t = 45 := by
  unfold TR sgn at h
  unfold tm
  (repeat' split) <;> omega
theorem tm_s42 {t : Int} (h : TR t) : tm t = 42 ↔ t = 42 := by
  unfold TR sgn at h
  unfold tm
  (repeat' split) <;> omega
theorem tm_s47 {t : Int} (h : TR t) : tm t = 47 ↔ t = 47 := by
  unfold TR sgn at h
  unfold tm
  (repeat' split) <;> omega
theorem tm_s37 {t : Int} (h : TR t) : tm t = 37 ↔ t = 37 := by
  unfold TR sgn at h
  unfold tm
  (repeat' split) <;> omega
theorem tm_s61 {t : Int} (h : TR t) : tm t = 61 ↔ t = 61 := by
  unfold TR sgn at h
  unfold tm
  (repeat' split) <;> omega
theorem tm_s60 {t : Int} (h : TR t) : tm t = 60 ↔ t = 60 := by
  unfold TR sgn at h
  unfold tm
  (repeat' split) <;> omega
theorem tm_s62 {t : Int} (h : TR t) : tm t = 62 ↔ t = 62 := by
  unfold TR sgn at h
  unfold tm
  (repeat' split) <;> omega
theorem tm_nam {t : Int} (h : TR t) : tm t = 2 ↔ (1006 ≤ t ∧ t ≤ 1015) := by
  unfold TR sgn at h
  unfold tm
  (repeat' split) <;> omega
theorem tm_key {t : Int} (h : TR t) : tm t = 3 ↔ (1000 ≤ t ∧ t ≤ 1005) := by
  unfold TR sgn at h
  unfold tm
  (repeat' split) <;> omega
def CB (X I : Nat → Int → Int) : Prop := I 47 = X 1 ∧ I 48 = X 2 ∧ I 49 = X 3
def Cfr (I I' : Nat → Int → Int) : Prop := ∀ k i, ¬ (k = 45 ∧ (i = 5 ∨ i = 6 ∨ i = 9)) → k ≠ 50 → I' k i = I k i
def Pre (X I : Nat → Int → Int) : Prop := CB X I ∧ 1 ≤ I 45 5 ∧ I 45 5 ≤ X 5 2 ∧ 0 ≤ I 45 9 ∧ I 45 9 < I 45 5
def CP (X I I' : Nat → Int → Int) : Prop := Cfr I I' ∧ (∀ k, 0 ≤ k → k < I 45 9 → I' 50 k = I 50 k) ∧ I 45 5 ≤ I' 45 5 ∧ I' 45 5 ≤ X 5 2 ∧ I 45 9 ≤ I' 45 9 ∧ I' 45 9 - I 45 9 ≤ I' 45 5 - I 45 5 ∧ (I' 45 6 = -1 ∨ I' 45 6 = X 2 (I' 45 5))
def nC (I : Nat → Int → Int) : Nat → Int → Int := am_up I 45 5 (I 45 5 + 1)
def fC (I : Nat → Int → Int) : Nat → Int → Int := am_up I 45 6 (I 48 (I 45 5))
def eC (I : Nat → Int → Int) (c : Int) : Nat → Int → Int := am_up (am_up I 50 (I 45 9) c) 45 9 (I 45 9 + 1)
theorem nC_def {I : Nat → Int → Int} : am_up I 45 5 (I 45 5 + 1) = nC I := rfl
theorem fC_def {I : Nat → Int → Int} : am_up I 45 6 (I 48 (I 45 5)) = fC I := rfl
theorem nC_f {I : Nat → Int → Int} : nC I 45 5 = I 45 5 + 1 ∧ nC I 45 6 = I 45 6 ∧ nC I 45 9 = I 45 9 ∧ nC I 50 = I 50 := ⟨ups, upo (by omega), upo (by omega), upn (by omega)⟩
theorem fC_f {I : Nat → Int → Int} : fC I 45 5 = I 45 5 ∧ fC I 45 6 = I 48 (I 45 5) ∧ fC I 45 9 = I 45 9 ∧ fC I 50 = I 50 := ⟨upo (by omega), ups, upo (by omega), upn (by omega)⟩
theorem eC_f {I : Nat → Int → Int} {c : Int} : eC I c 45 5 = I 45 5 ∧ eC I c 45 6 = I 45 6 ∧ eC I c 45 9 = I 45 9 + 1 ∧ eC I c 50 (I 45 9) = c ∧ (∀ k, k ≠ I 45 9 → eC I c 50 k = I 50 k) := by
  unfold eC
  refine ⟨?_, ?_, ups, ?_, fun k hk => ?_⟩
  · rw [upo (by omega), upm (by omega)]
  · rw [upo (by omega), upm (by omega)]
  · rw [upm (by omega), ups]
  · rw [upm (by omega), upo hk]
theorem Cfr_rf {I : Nat → Int → Int} : Cfr I I := fun _ _ _ _ => rfl
theorem Cfr_tr {I I1 I2 : Nat → Int → Int} (h : Cfr I I1) (g : Cfr I1 I2) : Cfr I I2 := fun k i a c => (g k i a c).trans (h k i a c)
theorem Cfr_up {I I1 : Nat → Int → Int} {i v : Int} (h : Cfr I I1) (hi : i = 5 ∨ i = 6 ∨ i = 9) : Cfr I (am_up I1 45 i v) := by
  intro k j a c
  by_cases e : k = 45
  · subst e
    rw [upo (by omega)]
    exact h 45 j a c
  · rw [upm e]
    exact h k j a c
theorem Cfr_50 {I I1 : Nat → Int → Int} {i v : Int} (h : Cfr I I1) : Cfr I (am_up I1 50 i v) := by
  intro k j a c
  rw [upm c]
  exact h k j a c
theorem CB_fr {X I I' : Nat → Int → Int} (h : CB X I) (f : Cfr I I') : CB X I' := by
  have q : ∀ k, k = 47 ∨ k = 48 ∨ k = 49 → I' k = I k := fun k hk => funext (fun i => f k i (by omega) (by omega))
  unfold CB
  rw [q 47 (by omega), q 48 (by omega), q 49 (by omega)]
  exact h
theorem CP_rf {X I : Nat → Int → Int} (h : Pre X I) (h2 : I 45 6 = -1 ∨ I 45 6 = X 2 (I 45 5)) : CP X I I := ⟨Cfr_rf, fun _ _ _ => rfl, by omega, h.2.2.1, by omega, by omega, h2⟩
theorem Pre_n {X I : Nat → Int → Int} (h : Pre X I) (h2 : I 45 5 < X 5 2) : Pre X (nC I) := by
  have f := nC_f (I := I)
  obtain ⟨h3, h4, h5, h6, h7⟩ := h
  exact ⟨CB_fr h3 (Cfr_up Cfr_rf (by omega)), by omega, by omega, by omega, by omega⟩
theorem CP_n {X I I' : Nat → Int → Int} (h : CP X (nC I) I') : CP X I I' ∧ I' 45 9 - I 45 9 + 1 ≤ I' 45 5 - I 45 5 := by
  have f := nC_f (I := I)
  obtain ⟨h1, h2, h3, h4, h5, h6, h7⟩ := h
  refine ⟨⟨Cfr_tr (Cfr_up Cfr_rf (by omega)) h1, fun k k1 k2 => ?_, by omega, h4, by omega, by omega, h7⟩, by omega⟩
  rw [h2 k k1 (by omega), f.2.2.2]
theorem CP_e {X I I' : Nat → Int → Int} {c : Int} (h : CP X I I') (h2 : I' 45 9 - I 45 9 + 1 ≤ I' 45 5 - I 45 5) : CP X I (eC I' c) := by
  have f := eC_f (I := I') (c := c)
  obtain ⟨h1, g2, h3, h4, h5, h6, h7⟩ := h
  refine ⟨Cfr_up (Cfr_50 h1) (by omega), fun k k1 k2 => ?_, by omega, by omega, by omega, by omega, ?_⟩
  · rw [f.2.2.2.2 k (by omega)]
    exact g2 k k1 k2
  · rw [f.2.1, f.1]
    exact h7
theorem CP_f {X I I' : Nat → Int → Int} (hB : CB X I) (h : CP X I I') : CP X I (fC I') := by
  have f := fC_f (I := I')
  have g := CB_fr hB h.1
  obtain ⟨h1, g2, h3, h4, h5, h6, h7⟩ := h
  refine ⟨Cfr_up h1 (by omega), fun k k1 k2 => ?_, by omega, by omega, by omega, by omega, Or.inr ?_⟩
  · rw [f.2.2.2]
    exact g2 k k1 k2
  · rw [f.2.1, f.1, g.2.1]
theorem CP_tr {X I I1 I2 : Nat → Int → Int} (h : CP X I I1) (g : CP X I1 I2) : CP X I I2 := by
  obtain ⟨h1, h2, h3, h4, h5, h6, h7⟩ := h
  obtain ⟨g1, g2, g3, g4, g5, g6, g7⟩ := g
  exact ⟨Cfr_tr h1 g1, fun k k1 k2 => (g2 k k1 (by omega)).trans (h2 k k1 k2), by omega, g4, by omega, by omega, g7⟩
theorem Pre_c {X I I' : Nat → Int → Int} (h : Pre X I) (g : CP X I I') : Pre X I' := by
  obtain ⟨h1, h2, h3, h4, h5⟩ := h
  exact ⟨CB_fr h1 g.1, by have q := g.2.2.1; omega, g.2.2.2.1, by have q := g.2.2.2.2.1; omega, by have q := g.2.2.1; have q2 := g.2.2.2.2.2.1; omega⟩
theorem s_Rdr_stands {ro : Nat → Int × (Int → Int)} {d : Nat} {b : Bool} {I L : Nat → Int → Int} {Q : Option am_V → am_H → Prop} {x1 : Int} (hx : 0 ≤ I 45 5 ∧ I 45 5 ≤ 120) (H1 : I 45 6 = -1 ∧ I 47 (I 45 5) = x1 → Q (some (am_I 1)) (sh b, I, L)) (H0 : ¬ (I 45 6 = -1 ∧ I 47 (I 45 5) = x1) → Q (some (am_I 0)) (sh b, I, L)) : am_m ro (d + 1) 121 [am_R 45, am_I x1] (sh b, I, L) Q := by
  refine am_in rfl rfl rfl rfl ?_
  refine b_Rdr_stands_0  (fun c1 => ?_) (fun c1 => ?_)
  · refine b_Rdr_stands_25  ?_
    refine b_Rdr_stands_26 (by omega) ?_
    exact H0 (by omega)
  · refine b_Rdr_stands_8 (by omega) (fun c2 => ?_) (fun c2 => ?_)
    · refine b_Rdr_stands_25  ?_
      refine b_Rdr_stands_26 (by omega) ?_
      exact H0 (by omega)
    · refine b_Rdr_stands_21  ?_
      refine b_Rdr_stands_26 (by omega) ?_
      exact H1 (by omega)
theorem s_Rdr_fail {ro : Nat → Int × (Int → Int)} {d : Nat} {b : Bool} {I L : Nat → Int → Int} {Q : Option am_V → am_H → Prop} (hx : 0 ≤ I 45 5 ∧ I 45 5 ≤ 120) (H1 : I 45 6 = -1 → Q none (sh b, fC I, L)) (H0 : ¬ I 45 6 = -1 → Q none (sh b, I, L)) : am_m ro (d + 1) 122 [am_R 45] (sh b, I, L) Q := by
  refine am_in rfl rfl rfl rfl ?_
  refine b_Rdr_fail_0  (fun c1 => ?_) (fun c1 => ?_)
  · refine b_Rdr_fail_21  ?_
    exact H0 (by assumption)
  · refine b_Rdr_fail_8 (by omega) ?_
    refine b_Rdr_fail_21  ?_
    exact H1 (by omega)
theorem s_Rdr_emit {ro : Nat → Int × (Int → Int)} {d : Nat} {b : Bool} {I L : Nat → Int → Int} {Q : Option am_V → am_H → Prop} {x1 : Int} (hx : 0 ≤ I 45 9 ∧ I 45 9 < 120) (H : Q none (sh b, eC I x1, L)) : am_m ro (d + 1) 123 [am_R 45, am_I x1] (sh b, I, L) Q := by
  refine am_in rfl rfl rfl rfl ?_
  refine b_Rdr_emit_0  (fun c1 => ?_) (fun c1 => ?_)
  · refine b_Rdr_emit_29  ?_
    exfalso
    omega
  · refine b_Rdr_emit_9 (by omega) (by rw [upm (by omega)]; omega) ?_
    refine b_Rdr_emit_29  ?_
    have e : (am_up I 50 (I 45 9) x1) 45 9 = I 45 9 := upm (by omega)
    rw [e]
    exact H
