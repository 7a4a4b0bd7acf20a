/-- the entry that a telling in the open year finds -/
def tlk (p : Int → Int) (y f : Int) : Int := lst p y f (p 0) (p 6).toNat
def tlo (p : Int → Int) (y f : Int) : Prop := ¬ tlk p y f = -1 ∧ p (2400 + tlk p y f) = p 0
theorem lst_ge {p : Int → Int} {y f a i : Int} : ∀ n : Nat, 0 ≤ i → i < n → p (1200 + i) = y → p (1600 + i) = f → p (2400 + i) ≤ a → i ≤ lst p y f a n
  | 0, h1, h2, _, _, _ => by omega
  | n + 1, h1, h2, h3, h4, h5 => by
    show i ≤ (if p (1200 + n) = y ∧ p (1600 + n) = f ∧ p (2400 + n) ≤ a then (n : Int) else lst p y f a n)
    split
    · omega
    · rename_i hn
      by_cases e : i = n
      · subst e
        exact absurd ⟨h3, h4, h5⟩ hn
      · exact lst_ge n h1 (by omega) h3 h4 h5
theorem tlk_eq {C : Nat → Int → Int} {p : Int → Int} {y f i : Int} (h : lEnt C p) (h1 : 0 ≤ i) (h2 : i < p 6) (h3 : p (1200 + i) = y) (h4 : p (1600 + i) = f) (h5 : p (2400 + i) = p 0) : tlk p y f = i := by
  have w1 := lst_ge (p := p) (y := y) (f := f) (a := p 0) (p 6).toNat h1 (by omega) h3 h4 (by omega)
  have w2 := lst_bd (p := p) (y := y) (f := f) (a := p 0) (p 6).toNat
  have w3 := lst_ok (p := p) (y := y) (f := f) (a := p 0) (p 6).toNat (by omega)
  by_cases e : lst p y f (p 0) (p 6).toNat = i
  · exact e
  · have w4 := h.2.2.2.2.2.2.1 i _ h1 (show i < lst p y f (p 0) (p 6).toNat by omega) (by omega) (by rw [w3.1, h3]) (by rw [w3.2.1, h4])
    omega
theorem tlo_of {C : Nat → Int → Int} {p : Int → Int} {y f i : Int} (h : lEnt C p) (h1 : 0 ≤ i) (h2 : i < p 6) (h3 : p (1200 + i) = y) (h4 : p (1600 + i) = f) (h5 : p (2400 + i) = p 0) : tlo p y f := by
  have e := tlk_eq h h1 h2 h3 h4 h5
  unfold tlo
  rw [e]
  exact ⟨by omega, h5⟩
theorem lEnt_upd {C C' : Nat → Int → Int} {p p' : Int → Int} {k v : Int} (h : lEnt C p) (h0 : 0 ≤ p 0 ∧ p 0 ≤ 40) (hk : 0 ≤ k ∧ k < p 6) (hv : 0 ≤ v ∧ v ≤ 9999999) (hC : C' 6 = C 6 ∧ C' 7 = C 7 ∧ C' 9 = C 9) (h8 : C' 8 k = v) (h8n : ∀ j, ¬ j = k → C' 8 j = C 8 j) (hw : p' (2000 + k) = v) (hp : ∀ j, ¬ j = 2000 + k → p' j = p j) : lEnt C' p' := by
  obtain ⟨g1, g2, g3, g4, g5, g6, g7, g8⟩ := h
  have e0 := hp 0 (by omega)
  have e1 := hp 1 (by omega)
  have e2 := hp 2 (by omega)
  have e6 := hp 6 (by omega)
  refine ⟨by rw [hC.1, e6]; exact g1, by omega, by omega, fun j a1 a2 => ?_, fun j a1 a2 => ?_, fun i j a1 a2 a3 => ?_, fun i j a1 a2 a3 => ?_, fun j a1 a2 => ?_⟩
  · have w := g4 j a1 (by omega)
    rw [hp (1200 + j) (by omega), hp (1600 + j) (by omega), hp (2400 + j) (by omega), hC.2.1, hC.2.2]
    refine ⟨w.1, ?_, w.2.2⟩
    by_cases e : j = k
    · rw [e, h8, hw]
    · rw [h8n j e, hp _ (by omega)]
      exact w.2.1
  · have w := g5 j a1 (by omega)
    rw [hp (1200 + j) (by omega), hp (1600 + j) (by omega), hp (2400 + j) (by omega), e0, e1, e2]
    by_cases e : j = k
    · rw [e] at w ⊢
      rw [hw]
      omega
    · rw [hp (2000 + j) (by omega)]
      exact w
  · rw [hp (2400 + i) (by omega), hp (2400 + j) (by omega)]
    exact g6 i j a1 a2 (by omega)
  · rw [hp (2400 + i) (by omega), hp (2400 + j) (by omega), hp (1200 + i) (by omega), hp (1200 + j) (by omega), hp (1600 + i) (by omega), hp (1600 + j) (by omega)]
    exact g7 i j a1 a2 (by omega)
  · have w := g5 j a1 (by omega)
    rw [hp (1200 + j) (by omega), hp (1600 + j) (by omega), hp (34 + p (1200 + j)) (by omega)]
    exact g8 j a1 (by omega)
theorem lEnt_app {C C' : Nat → Int → Int} {p p' : Int → Int} {y l e v : Int} (h : lEnt C p) (h0 : 0 ≤ p 0 ∧ p 0 ≤ 40) (hd : p 1 ≤ 12 ∧ p 2 ≤ 30) (hk : p 6 < 400) (hy : 0 ≤ y ∧ y ≤ p 0) (hl : 0 ≤ l ∧ l < p 1) (he : 0 ≤ e ∧ e < p 2) (hv : 0 ≤ v ∧ v ≤ 9999999) (hn : ¬ tlo p y (100 * l + e)) (hdr : am_and (am_shr (p (34 + y)) l) 1 = 1) (hC : C' 6 0 = p 6 + 1 ∧ C' 7 (p 6) = y * 360 + l * 30 + e ∧ C' 8 (p 6) = v ∧ C' 9 (p 6) = p 0) (hCn : ∀ j, ¬ j = p 6 → C' 7 j = C 7 j ∧ C' 8 j = C 8 j ∧ C' 9 j = C 9 j) (hw : p' 6 = p 6 + 1 ∧ p' (1200 + p 6) = y ∧ p' (1600 + p 6) = 100 * l + e ∧ p' (2000 + p 6) = v ∧ p' (2400 + p 6) = p 0) (hp : ∀ j, ¬ j = 6 → ¬ j = 1200 + p 6 → ¬ j = 1600 + p 6 → ¬ j = 2000 + p 6 → ¬ j = 2400 + p 6 → p' j = p j) : lEnt C' p' := by
  have hne := fun i a1 a2 a3 a4 => fun a5 => hn (tlo_of (i := i) h a1 a2 a3 a4 a5)
  obtain ⟨g1, g2, g3, g4, g5, g6, g7, g8⟩ := h
  have e0 := hp 0 (by omega) (by omega) (by omega) (by omega) (by omega)
  have e1 := hp 1 (by omega) (by omega) (by omega) (by omega) (by omega)
  have e2 := hp 2 (by omega) (by omega) (by omega) (by omega) (by omega)
  have r : ∀ j, 0 ≤ j → j < p 6 → p' (1200 + j) = p (1200 + j) ∧ p' (1600 + j) = p (1600 + j) ∧ p' (2000 + j) = p (2000 + j) ∧ p' (2400 + j) = p (2400 + j) := fun j a1 a2 => ⟨hp _ (by omega) (by omega) (by omega) (by omega) (by omega), hp _ (by omega) (by omega) (by omega) (by omega) (by omega), hp _ (by omega) (by omega) (by omega) (by omega) (by omega), hp _ (by omega) (by omega) (by omega) (by omega) (by omega)⟩
  refine ⟨by rw [hC.1, hw.1], by omega, by omega, fun j a1 a2 => ?_, fun j a1 a2 => ?_, fun i j a1 a2 a3 => ?_, fun i j a1 a2 a3 => ?_, fun j a1 a2 => ?_⟩
  · by_cases ee : j = p 6
    · rw [ee, hw.2.1, hw.2.2.1, hw.2.2.2.1, hw.2.2.2.2, hC.2.1, hC.2.2.1, hC.2.2.2]
      omega
    · have w := g4 j a1 (by omega)
      have q := r j a1 (by omega)
      have c := hCn j ee
      rw [q.1, q.2.1, q.2.2.1, q.2.2.2, c.1, c.2.1, c.2.2]
      exact w
  · rw [e0, e1, e2]
    by_cases ee : j = p 6
    · rw [ee, hw.2.1, hw.2.2.1, hw.2.2.2.1, hw.2.2.2.2]
      omega
    · have w := g5 j a1 (by omega)
      have q := r j a1 (by omega)
      rw [q.1, q.2.1, q.2.2.1, q.2.2.2]
      exact w
  · have q := r i a1 (by omega)
    rw [q.2.2.2]
    by_cases ee : j = p 6
    · rw [ee, hw.2.2.2.2]
      have w := g5 i a1 (by omega)
      omega
    · rw [(r j (by omega) (by omega)).2.2.2]
      exact g6 i j a1 a2 (by omega)
  · have q := r i a1 (by omega)
    rw [q.1, q.2.1, q.2.2.2]
    by_cases ee : j = p 6
    · rw [ee, hw.2.2.2.2, hw.2.1, hw.2.2.1]
      intro b1 b2
      have w := g5 i a1 (by omega)
      have w2 : ¬ p (2400 + i) = p 0 := hne i a1 (by omega) b1 b2
      omega
    · have q2 := r j (by omega) (by omega)
      rw [q2.1, q2.2.1, q2.2.2.2]
      exact g7 i j a1 a2 (by omega)
  · by_cases ee : j = p 6
    · rw [ee, hw.2.1, hw.2.2.1, hp (34 + y) (by omega) (by omega) (by omega) (by omega) (by omega)]
      have : (100 * l + e) / 100 = l := by omega
      rw [this]
      exact hdr
    · have w := g5 j a1 (by omega)
      have q := r j a1 (by omega)
      rw [q.1, q.2.1, hp (34 + p (1200 + j)) (by omega) (by omega) (by omega) (by omega) (by omega)]
      exact g8 j a1 (by omega)
theorem lp_Ents_tell {ro : Nat → Int × (Int → Int)} {d : Nat} {b : Bool} {I L : Nat → Int → Int} {Q : Option am_V → am_H → Prop} {bc bs : Nat} {x1 x2 x3 : Int} (hC : Cor I L) {y l e : Int} (hx : x1 = y * 360 + l * 30 + e) (hl : 0 ≤ l ∧ l < 12) (he : 0 ≤ e ∧ e < 30) (ho : x2 = I 67 0) (H1 : tlo (I 67) y (100 * l + e) → Q (some (am_I 1)) (sh b, am_up I 8 (tlk (I 67) y (100 * l + e)) x3, L)) (H2 : ¬ tlo (I 67) y (100 * l + e) ∧ I 6 0 = 400 → Q (some (am_I 0)) (sh b, I, L)) (H3 : ¬ tlo (I 67) y (100 * l + e) ∧ I 6 0 < 400 → Q (some (am_I 1)) (sh b, am_up (am_up (am_up (am_up I 7 (I 6 0) x1) 8 (I 6 0) x3) 9 (I 6 0) x2) 6 0 (I 6 0 + 1), L)) : ∀ (n : Nat) (x4 : Int), (0 ≤ x4) → (x4 ≤ I 67 6) → (∀ j, 0 ≤ j → j < x4 → ¬ (I 67 (1200 + j) = y ∧ I 67 (1600 + j) = 100 * l + e ∧ I 67 (2400 + j) = I 67 0)) → I 67 6 - x4 < (n : Int) → am_ex (am_m ro (d + 0)) ro am_M76 Q (3, [some (am_R 6), some (am_I x1), some (am_I x2), some (am_I x3), some (am_I x4)], [], (sh b, I, L), bc, bs) := by
  intro n
  induction n with
  | zero =>
    intro x4 i0 i1 i2 im
    exact absurd im (by omega)
  | succ n ih =>
    intro x4 i0 i1 i2 im
    obtain ⟨g1, g2, g3, g4, g5, -⟩ := hC.1.2.2.1
    have ct := Cor_ct hC
    refine b_Ents_tell_3  (fun c1 => ?_) (fun c1 => ?_)
    · refine b_Ents_tell_50  (fun c2 => ?_) (fun c2 => ?_)
      · refine b_Ents_tell_62 (by (try simp (disch := omega) only [upo, upm, ups, Int.add_sub_cancel]); omega) (by (try simp (disch := omega) only [upo, upm, ups, Int.add_sub_cancel]); omega) (by (try simp (disch := omega) only [upo, upm, ups, Int.add_sub_cancel]); omega) (by (try simp (disch := omega) only [upo, upm, ups, Int.add_sub_cancel]); omega) ?_
        have e8 : ¬ tlo (I 67) y (100 * l + e) := by
          intro e9
          have w2 := lst_bd (p := I 67) (y := y) (f := 100 * l + e) (a := I 67 0) (I 67 6).toNat
          have w3 := lst_ok (p := I 67) (y := y) (f := 100 * l + e) (a := I 67 0) (I 67 6).toNat e9.1
          have w4 := e9.2
          have w5 := e9.1
          unfold tlk at w4 w5
          exact i2 _ (by omega) (by omega) ⟨w3.1, w3.2.1, w4⟩
        have k9 := H3 ⟨e8, by omega⟩
        (try simp (disch := omega) only [upo, upm, ups])
        exact k9
      · refine b_Ents_tell_60  ?_
        have e8 : ¬ tlo (I 67) y (100 * l + e) := by
          intro e9
          have w2 := lst_bd (p := I 67) (y := y) (f := 100 * l + e) (a := I 67 0) (I 67 6).toNat
          have w3 := lst_ok (p := I 67) (y := y) (f := 100 * l + e) (a := I 67 0) (I 67 6).toNat e9.1
          have w4 := e9.2
          have w5 := e9.1
          unfold tlk at w4 w5
          exact i2 _ (by omega) (by omega) ⟨w3.1, w3.2.1, w4⟩
        exact H2 ⟨e8, by omega⟩
    · have w := g4 x4 (by omega) (by omega)
      have w5 := g5 x4 (by omega) (by omega)
      refine b_Ents_tell_12 (by (try simp (disch := omega) only [upo, upm, ups, Int.add_sub_cancel]); omega) (fun c3 => ?_) (fun c3 => ?_)
      · refine b_Ents_tell_44 (by (try simp (disch := omega) only [upo, upm, ups, Int.add_sub_cancel]); omega) ?_
        exact ih (x4 + 1) (by omega) (by omega) (by intro j b1 b2 b3; by_cases ej : j = x4; (· subst ej; omega); exact i2 j b1 (by omega) b3) (by omega)
      · refine b_Ents_tell_23 (by (try simp (disch := omega) only [upo, upm, ups, Int.add_sub_cancel]); omega) (fun c4 => ?_) (fun c4 => ?_)
        · refine b_Ents_tell_44 (by (try simp (disch := omega) only [upo, upm, ups, Int.add_sub_cancel]); omega) ?_
          exact ih (x4 + 1) (by omega) (by omega) (by intro j b1 b2 b3; by_cases ej : j = x4; (· subst ej; omega); exact i2 j b1 (by omega) b3) (by omega)
        · refine b_Ents_tell_34 (by (try simp (disch := omega) only [upo, upm, ups, Int.add_sub_cancel]); omega) ?_
          have e7 := tlk_eq (y := y) (f := 100 * l + e) hC.1.2.2.1 (show 0 ≤ x4 by omega) (by omega) (by omega) (by omega) (by omega)
          have e8 := tlo_of (y := y) (f := 100 * l + e) hC.1.2.2.1 (show 0 ≤ x4 by omega) (by omega) (by omega) (by omega) (by omega)
          rw [← e7]
          exact H1 e8
theorem s_Ents_tell {ro : Nat → Int × (Int → Int)} {d : Nat} {b : Bool} {I L : Nat → Int → Int} {Q : Option am_V → am_H → Prop} {x1 x2 x3 : Int} (hC : Cor I L) {y l e : Int} (hx : x1 = y * 360 + l * 30 + e) (hl : 0 ≤ l ∧ l < 12) (he : 0 ≤ e ∧ e < 30) (ho : x2 = I 67 0) (H1 : tlo (I 67) y (100 * l + e) → Q (some (am_I 1)) (sh b, am_up I 8 (tlk (I 67) y (100 * l + e)) x3, L)) (H2 : ¬ tlo (I 67) y (100 * l + e) ∧ I 6 0 = 400 → Q (some (am_I 0)) (sh b, I, L)) (H3 : ¬ tlo (I 67) y (100 * l + e) ∧ I 6 0 < 400 → Q (some (am_I 1)) (sh b, am_up (am_up (am_up (am_up I 7 (I 6 0) x1) 8 (I 6 0) x3) 9 (I 6 0) x2) 6 0 (I 6 0 + 1), L)) : am_m ro (d + 1) 76 [am_R 6, am_I x1, am_I x2, am_I x3] (sh b, I, L) Q := by
  have ct := Cor_ct hC
  refine am_in rfl rfl rfl rfl ?_
  refine b_Ents_tell_0  ?_
  exact lp_Ents_tell (d := d) hC hx hl he ho H1 H2 H3 ((I 67 6).toNat + 1) _ (by omega) (by omega) (by intro j b1 b2; omega) (by omega)
theorem s_M_tells {ro : Nat → Int × (Int → Int)} {d : Nat} {b : Bool} {I L : Nat → Int → Int} {Q : Option am_V → am_H → Prop} {x1 x2 x3 : Int} (hM : Mo I L) (H1 : tlo (I 67) x1 x2 → Q (some (am_I 1)) (sh b, am_up I 67 (2000 + tlk (I 67) x1 x2) x3, L)) (H2 : ¬ tlo (I 67) x1 x2 ∧ I 67 6 = 400 → Q (some (am_I 0)) (sh b, I, L)) (H3 : ¬ tlo (I 67) x1 x2 ∧ I 67 6 < 400 → Q (some (am_I 1)) (sh b, am_up (am_up (am_up (am_up (am_up I 67 6 (I 67 6 + 1)) 67 (1200 + I 67 6) x1) 67 (1600 + I 67 6) x2) 67 (2400 + I 67 6) (I 67 0)) 67 (2000 + I 67 6) x3, L)) : am_m ro (d + 2) 169 [am_R 66, am_I x1, am_I x2, am_I x3] (sh b, I, L) Q := by
  have ct := Mo_ct hM
  have w2 := lst_bd (p := I 67) (y := x1) (f := x2) (a := I 67 0) (I 67 6).toNat
  refine am_in rfl rfl rfl rfl ?_
  refine b_M_tells_0  (s_M_entry hM ?_)
  refine b_M_tells_12  (fun c1 => ?_) (fun c1 => ?_)
  · refine b_M_tells_40  (fun c2 => ?_) (fun c2 => ?_)
    · refine b_M_tells_55 (by (try simp (disch := omega) only [upo, upm, ups, Int.add_sub_cancel]); omega) (by (try simp (disch := omega) only [upo, upm, ups, Int.add_sub_cancel]); omega) (by (try simp (disch := omega) only [upo, upm, ups, Int.add_sub_cancel]); omega) (by (try simp (disch := omega) only [upo, upm, ups, Int.add_sub_cancel]); omega) (by (try simp (disch := omega) only [upo, upm, ups, Int.add_sub_cancel]); omega) (by (try simp (disch := omega) only [upo, upm, ups, Int.add_sub_cancel]); omega) (by (try simp (disch := omega) only [upo, upm, ups, Int.add_sub_cancel]); omega) ?_
      refine b_M_tells_116 (by (try simp (disch := omega) only [upo, upm, ups, Int.add_sub_cancel]); omega) (by (try simp (disch := omega) only [upo, upm, ups, Int.add_sub_cancel]); omega) ?_
      have k9 := H3 ⟨by show ¬ (¬ lst (I 67) x1 x2 (I 67 0) (I 67 6).toNat = -1 ∧ _); unfold tlk; omega, by omega⟩
      (try simp (disch := omega) only [upo, upm, ups])
      exact k9
    · refine b_M_tells_53  ?_
      exact H2 ⟨by show ¬ (¬ lst (I 67) x1 x2 (I 67 0) (I 67 6).toNat = -1 ∧ _); unfold tlk; omega, by omega⟩
  · refine b_M_tells_20 (by (try simp (disch := omega) only [upo, upm, ups, Int.add_sub_cancel]); omega) (by (try simp (disch := omega) only [upo, upm, ups, Int.add_sub_cancel]); omega) (fun c3 => ?_) (fun c3 => ?_)
    · refine b_M_tells_116 (by (try simp (disch := omega) only [upo, upm, ups, Int.add_sub_cancel]); omega) (by (try simp (disch := omega) only [upo, upm, ups, Int.add_sub_cancel]); omega) ?_
      exact H1 ⟨by unfold tlk; omega, by unfold tlk; omega⟩
    · refine b_M_tells_40  (fun c4 => ?_) (fun c4 => ?_)
      · refine b_M_tells_55 (by (try simp (disch := omega) only [upo, upm, ups, Int.add_sub_cancel]); omega) (by (try simp (disch := omega) only [upo, upm, ups, Int.add_sub_cancel]); omega) (by (try simp (disch := omega) only [upo, upm, ups, Int.add_sub_cancel]); omega) (by (try simp (disch := omega) only [upo, upm, ups, Int.add_sub_cancel]); omega) (by (try simp (disch := omega) only [upo, upm, ups, Int.add_sub_cancel]); omega) (by (try simp (disch := omega) only [upo, upm, ups, Int.add_sub_cancel]); omega) (by (try simp (disch := omega) only [upo, upm, ups, Int.add_sub_cancel]); omega) ?_
        refine b_M_tells_116 (by (try simp (disch := omega) only [upo, upm, ups, Int.add_sub_cancel]); omega) (by (try simp (disch := omega) only [upo, upm, ups, Int.add_sub_cancel]); omega) ?_
        have k9 := H3 ⟨by show ¬ (¬ lst (I 67) x1 x2 (I 67 0) (I 67 6).toNat = -1 ∧ _); unfold tlk; omega, by omega⟩
        (try simp (disch := omega) only [upo, upm, ups])
        exact k9
      · refine b_M_tells_53  ?_
        exact H2 ⟨by show ¬ (¬ lst (I 67) x1 x2 (I 67 0) (I 67 6).toNat = -1 ∧ _); unfold tlk; omega, by omega⟩
