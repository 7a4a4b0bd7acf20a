def fr (p : Int → Int) (r : Int) : Int → Int := fun k => p (2860 + 130 * r + k)
def vl (p nm : Int → Int) (r : Int) : Int := stk (fr p r) nm 0 (p (2836 + r)).toNat 0
def cdn (p nm : Int → Int) (r : Int) : Int := if p (2836 + r) = p (2848 + r) then 1 else stk (fr p r) nm (p (2836 + r)) (p (2848 + r) - p (2836 + r)).toNat 0
def rl (p nm : Int → Int) (key y w : Int) : Nat → Int
  | 0 => -1
  | n + 1 => if p (2800 + n) = key ∧ ¬ (n : Int) = w ∧ p (2812 + n) ≤ y ∧ y < p (2824 + n) ∧ ¬ cdn p nm n = 0 then n else rl p nm key y w n
theorem rl_s {p nm : Int → Int} {key y w i : Int} (h : 0 ≤ i) : rl p nm key y w (i + 1).toNat = if p (2800 + i) = key ∧ ¬ i = w ∧ p (2812 + i) ≤ y ∧ y < p (2824 + i) ∧ ¬ cdn p nm i = 0 then i else rl p nm key y w i.toNat := by
  have e : (i + 1).toNat = i.toNat + 1 := by omega
  have e2 : ((i.toNat : Nat) : Int) = i := Int.toNat_of_nonneg h
  rw [e]
  show (if p (2800 + (i.toNat : Int)) = key ∧ ¬ (i.toNat : Int) = w ∧ p (2812 + (i.toNat : Int)) ≤ y ∧ y < p (2824 + (i.toNat : Int)) ∧ ¬ cdn p nm (i.toNat : Int) = 0 then (i.toNat : Int) else rl p nm key y w i.toNat) = _
  rw [e2]
theorem rl_bd {p nm : Int → Int} {key y w : Int} : ∀ n : Nat, -1 ≤ rl p nm key y w n ∧ rl p nm key y w n < n
  | 0 => by simp [rl]
  | n + 1 => by
    have h := rl_bd (p := p) (nm := nm) (key := key) (y := y) (w := w) n
    show -1 ≤ (if p (2800 + n) = key ∧ ¬ (n : Int) = w ∧ p (2812 + n) ≤ y ∧ y < p (2824 + n) ∧ ¬ cdn p nm n = 0 then (n : Int) else rl p nm key y w n) ∧ (if p (2800 + n) = key ∧ ¬ (n : Int) = w ∧ p (2812 + n) ≤ y ∧ y < p (2824 + n) ∧ ¬ cdn p nm n = 0 then (n : Int) else rl p nm key y w n) < ((n + 1 : Nat) : Int)
    split <;> omega
def df (key : Int) : Int := if key = 0 then 1 else if key ≤ 2 then 100 else 0
def sy (p nm : Int → Int) (key y w : Int) : Int := if rl p nm key y w (p 5).toNat = -1 then df key else vl p nm (rl p nm key y w (p 5).toNat)
def RoK (ro : Nat → Int × (Int → Int)) : Prop := ((ro 1).1 = 6 ∧ (ro 1).2 0 = 1 ∧ (ro 1).2 1 = 100 ∧ (ro 1).2 2 = 100 ∧ (ro 1).2 3 = 0 ∧ (ro 1).2 4 = 0 ∧ (ro 1).2 5 = 0) ∧ ((ro 2).1 = 6 ∧ (ro 2).2 0 = 12 ∧ (ro 2).2 1 = 12 ∧ (ro 2).2 2 = 6 ∧ (ro 2).2 3 = 7 ∧ (ro 2).2 4 = 4 ∧ (ro 2).2 5 = 6)
theorem RoK_df {ro : Nat → Int × (Int → Int)} {k : Int} (h : RoK ro) (hk : 0 ≤ k ∧ k ≤ 5) : (ro 1).2 k = df k := by
  obtain ⟨⟨h0, h1, h2, h3, h4, h5, h6⟩, -⟩ := h
  have e : k = 0 ∨ k = 1 ∨ k = 2 ∨ k = 3 ∨ k = 4 ∨ k = 5 := by omega
  rcases e with e | e | e | e | e | e <;> subst e <;> simp [df, *]
set_option maxHeartbeats 1000000 in
theorem lp_Ruls_ruling {ro : Nat → Int × (Int → Int)} {d : Nat} {b : Bool} {L : Nat → Int → Int} {Q : Option am_V → am_H → Prop} {bc bs : Nat} {x1 x2 x3 : Int} {nm : Int → Int} {I0 : Nat → Int → Int} (hC : Cor I0 L) (hnm : ∀ c, 0 ≤ c → c < 10 → I0 59 c = nm c) (H : ∀ I : Nat → Int → Int, (∀ k, k ≠ 35 → I k = I0 k) → Q (some (am_I (rl (I0 67) nm x1 x2 x3 (I0 67 5).toNat))) (sh b, I, L)) : ∀ (n : Nat) (I : Nat → Int → Int) (x5 : Int), (-1 ≤ x5) → (x5 < I0 67 5) → (rl (I0 67) nm x1 x2 x3 (I0 67 5).toNat = rl (I0 67) nm x1 x2 x3 (x5 + 1).toNat) → (∀ k, k ≠ 35 → I k = I0 k) → x5 + 1 < (n : Int) → am_ex (am_m ro (d + 2)) ro am_M101 Q (8, [some (am_R 28), some (am_I x1), some (am_I x2), some (am_I x3), some (am_R 59), some (am_I x5)], [], (sh b, I, L), bc, bs) := by
  intro n
  induction n with
  | zero =>
    intro I x5 i0 i1 i2 i3 im
    exact absurd im (by omega)
  | succ n ih =>
    intro I x5 i0 i1 i2 i3 im
    have ct := Cor_ct hC
    obtain ⟨g1, g2, g3, g4, g5, g6⟩ := hC.1.2.2.2.2.2.2.1
    refine b_Ruls_ruling_8  (fun c1 => ?_) (fun c1 => ?_)
    · refine b_Ruls_ruling_101  ?_
      have e9 : x5 = -1 := by omega
      rw [e9] at i2
      have k9 := H I i3
      rw [i2] at k9
      exact k9
    · have w := g4 x5 (by omega) (by omega)
      have w5 := g5 x5
      have w6 := g6 x5 (by omega) (by omega)
      have e29 : I 29 x5 = I0 67 (2800 + x5) := by rw [i3 29 (by omega)]; exact w.1
      have e30 : I 30 x5 = I0 67 (2812 + x5) := by rw [i3 30 (by omega)]; exact w.2.1
      have e31 : I 31 x5 = I0 67 (2824 + x5) := by rw [i3 31 (by omega)]; exact w.2.2.1
      have e32 : I 32 x5 = 120 * x5 + I0 67 (2836 + x5) := by rw [i3 32 (by omega)]; exact w.2.2.2.1
      have e33 : I 33 x5 = 120 * x5 + I0 67 (2848 + x5) := by rw [i3 33 (by omega)]; exact w.2.2.2.2.1
      have wq := w.2.2.2.2.2
      clear w g4 g5 g6
      refine b_Ruls_ruling_13 (by omega) (fun c2 => ?_) (fun c2 => ?_)
      · refine b_Ruls_ruling_95 (by omega) ?_
        refine ih I (x5 + -1) (by omega) (by omega) ?_ i3 (by omega)
        have e9 : x5 + -1 + 1 = x5 := by omega
        rw [i2, rl_s (by omega), if_neg (fun q => by omega), e9]
      · refine b_Ruls_ruling_24  (fun c3 => ?_) (fun c3 => ?_)
        · refine b_Ruls_ruling_95 (by omega) ?_
          refine ih I (x5 + -1) (by omega) (by omega) ?_ i3 (by omega)
          have e9 : x5 + -1 + 1 = x5 := by omega
          rw [i2, rl_s (by omega), if_neg (fun q => by omega), e9]
        · refine b_Ruls_ruling_30 (by omega) (fun c4 => ?_) (fun c4 => ?_)
          · refine b_Ruls_ruling_95 (by omega) ?_
            refine ih I (x5 + -1) (by omega) (by omega) ?_ i3 (by omega)
            have e9 : x5 + -1 + 1 = x5 := by omega
            rw [i2, rl_s (by omega), if_neg (fun q => by omega), e9]
          · refine b_Ruls_ruling_41 (by omega) (fun c5 => ?_) (fun c5 => ?_)
            · refine b_Ruls_ruling_95 (by omega) ?_
              refine ih I (x5 + -1) (by omega) (by omega) ?_ i3 (by omega)
              have e9 : x5 + -1 + 1 = x5 := by omega
              rw [i2, rl_s (by omega), if_neg (fun q => by omega), e9]
            · refine b_Ruls_ruling_52 (by omega) (by omega) (fun c6 => ?_) (fun c6 => ?_)
              · refine b_Ruls_ruling_92  ?_
                have cdv : cdn (I0 67) nm x5 = 1 := by
                  unfold cdn
                  rw [if_pos (by omega)]
                have k9 := H I i3
                rw [i2, rl_s (by omega), if_pos ⟨by omega, by omega, by omega, by omega, by omega⟩] at k9
                exact k9
              · refine b_Ruls_ruling_69 (by omega) (by omega) (s_Ruls_run (f := fr (I0 67) x5) (nm := nm) (a := I0 67 (2836 + x5)) (by omega) (fun k k1 k2 => by rw [i3 34 (by omega), e32, Int.add_assoc]; exact w5 (I0 67 (2836 + x5) + k) (by omega) (by omega) (by omega) (by omega)) (fun c c1 c2 => by rw [i3 59 (by omega)]; exact hnm c c1 c2) (by have e9 : I 33 x5 - I 32 x5 = I0 67 (2848 + x5) - I0 67 (2836 + x5) := (by omega); rw [e9]; exact w6.2 (by omega)) (fun I9 f9 => ?_))
                have cdv : cdn (I0 67) nm x5 = stk (fr (I0 67) x5) nm (I0 67 (2836 + x5)) (I 33 x5 - I 32 x5).toNat 0 := by
                  have e9 : I 33 x5 - I 32 x5 = I0 67 (2848 + x5) - I0 67 (2836 + x5) := by omega
                  unfold cdn
                  rw [if_neg (by omega), e9]
                refine b_Ruls_ruling_89  (fun c7 => ?_) (fun c7 => ?_)
                · refine b_Ruls_ruling_95 (by omega) ?_
                  refine ih I9 (x5 + -1) (by omega) (by omega) ?_ (fun k hk => (f9 k hk).trans (i3 k hk)) (by omega)
                  have e9 : x5 + -1 + 1 = x5 := by omega
                  rw [i2, rl_s (by omega), if_neg (fun q => by omega), e9]
                · refine b_Ruls_ruling_92  ?_
                  have k9 := H I9 (fun k hk => (f9 k hk).trans (i3 k hk))
                  rw [i2, rl_s (by omega), if_pos ⟨by omega, by omega, by omega, by omega, by omega⟩] at k9
                  exact k9
theorem s_Ruls_ruling {ro : Nat → Int × (Int → Int)} {d : Nat} {b : Bool} {I L : Nat → Int → Int} {Q : Option am_V → am_H → Prop} {x1 x2 x3 : Int} {nm : Int → Int} (hC : Cor I L) (hnm : ∀ c, 0 ≤ c → c < 10 → I 59 c = nm c) (H : ∀ I' : Nat → Int → Int, (∀ k, k ≠ 35 → I' k = I k) → Q (some (am_I (rl (I 67) nm x1 x2 x3 (I 67 5).toNat))) (sh b, I', L)) : am_m ro (d + 3) 101 [am_R 28, am_I x1, am_I x2, am_I x3, am_R 59] (sh b, I, L) Q := by
  have ct := Cor_ct hC
  refine am_in rfl rfl rfl rfl ?_
  refine b_Ruls_ruling_0 (by omega) ?_
  exact lp_Ruls_ruling (d := d) (I0 := I) hC hnm H ((I 67 5).toNat + 1) I _ (by omega) (by omega) (by congr 1; omega) (fun _ _ => rfl) (by omega)
set_option maxHeartbeats 1000000 in
theorem s_Ruls_worth {ro : Nat → Int × (Int → Int)} {d : Nat} {b : Bool} {I L : Nat → Int → Int} {Q : Option am_V → am_H → Prop} {x1 x2 x3 : Int} {nm : Int → Int} (hro : RoK ro) (hC : Cor I L) (hnm : ∀ c, 0 ≤ c → c < 10 → I 59 c = nm c) (hx : 0 ≤ x1 ∧ x1 ≤ 5) (H : ∀ I' : Nat → Int → Int, (∀ k, k ≠ 35 → I' k = I k) → Q (some (am_I (sy (I 67) nm x1 x2 x3))) (sh b, I', L)) : am_m ro (d + 4) 100 [am_R 28, am_I x1, am_I x2, am_I x3, am_R 59] (sh b, I, L) Q := by
  have ct := Cor_ct hC
  obtain ⟨g1, g2, g3, g4, g5, g6⟩ := hC.1.2.2.2.2.2.2.1
  have rb := rl_bd (p := I 67) (nm := nm) (key := x1) (y := x2) (w := x3) (I 67 5).toNat
  have r6 := hro.1.1
  refine am_in rfl rfl rfl rfl ?_
  refine b_Ruls_worth_0  (s_Ruls_ruling (nm := nm) hC hnm (fun I9 f9 => ?_))
  refine b_Ruls_worth_9  (fun c1 => ?_) (fun c1 => ?_)
  · have w := g4 (rl (I 67) nm x1 x2 x3 (I 67 5).toNat) (by omega) (by omega)
    have w5 := g5 (rl (I 67) nm x1 x2 x3 (I 67 5).toNat)
    have w6 := g6 (rl (I 67) nm x1 x2 x3 (I 67 5).toNat) (by omega) (by omega)
    have e32 : I9 32 (rl (I 67) nm x1 x2 x3 (I 67 5).toNat) = 120 * (rl (I 67) nm x1 x2 x3 (I 67 5).toNat) + I 67 (2836 + (rl (I 67) nm x1 x2 x3 (I 67 5).toNat)) := by rw [f9 32 (by omega)]; exact w.2.2.2.1
    have wq := w.2.2.2.2.2
    have e9 : I9 32 (rl (I 67) nm x1 x2 x3 (I 67 5).toNat) - (rl (I 67) nm x1 x2 x3 (I 67 5).toNat) * 120 = I 67 (2836 + (rl (I 67) nm x1 x2 x3 (I 67 5).toNat)) := by omega
    refine b_Ruls_worth_25 (by omega) (by omega) (s_Ruls_run (f := fr (I 67) (rl (I 67) nm x1 x2 x3 (I 67 5).toNat)) (nm := nm) (a := 0) (by omega) (fun k k1 k2 => by rw [f9 34 (by omega), Int.zero_add, Int.mul_comm]; exact w5 k (by omega) (by omega) (by omega) (by omega)) (fun c c1 c2 => by rw [f9 59 (by omega)]; exact hnm c c1 c2) (by rw [e9]; exact w6.1) (fun I8 f8 => ?_))
    refine b_Ruls_worth_43  ?_
    have k9 := H I8 (fun k hk => (f8 k hk).trans (f9 k hk))
    have e8 : sy (I 67) nm x1 x2 x3 = stk (fr (I 67) (rl (I 67) nm x1 x2 x3 (I 67 5).toNat)) nm 0 (I9 32 (rl (I 67) nm x1 x2 x3 (I 67 5).toNat) - (rl (I 67) nm x1 x2 x3 (I 67 5).toNat) * 120).toNat 0 := by
      unfold sy vl
      rw [if_neg (by omega), e9]
    rw [e8] at k9
    exact k9
  · refine b_Ruls_worth_17 (by omega) ?_
    refine b_Ruls_worth_43  ?_
    have k9 := H I9 f9
    have e8 : sy (I 67) nm x1 x2 x3 = (ro 1).2 x1 := by
      unfold sy
      rw [if_pos (by omega), RoK_df hro hx]
    rw [e8] at k9
    exact k9
