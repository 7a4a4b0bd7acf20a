theorem cm_push {c : Int} (h : cOK c) (g : 1000 ≤ cm c) : (100 ≤ c ∨ c < 10) ∧ (2000 ≤ cm c → ¬ c < 10 ∧ cm c - 2000 = c - 100 ∧ cm c ≤ 10001999) ∧ (cm c < 2000 → 0 ≤ c ∧ c < 10 ∧ cm c - 1000 = c) := by
  rcases cm_cs h with q | q | q | q | q
  · refine ⟨by omega, fun _ => by omega, fun _ => by omega⟩
  · refine ⟨by omega, fun _ => by omega, fun _ => by omega⟩
  · omega
  · omega
  · omega
theorem cm_un {c h : Int} (hc : cOK c) (hn : cNd c ≤ h) (g : cm c = 110 ∨ cm c = 109) : 1 ≤ h ∧ (cm c = 110 → c = 22) ∧ (cm c = 109 → c = 31) := by
  have v := (cNd_v (c := c)).2.1
  have e : (cm c = 110 ∧ c = 22) ∨ (cm c = 109 ∧ c = 31) := by
    rcases cm_cs hc with q | q | q | q | q
    · omega
    · omega
    · omega
    · omega
    · omega
  clear hc
  rcases e with e | e
  · have := v (Or.inl e.2)
    omega
  · have := v (Or.inr e.2)
    omega
theorem cm_two {c h : Int} (hc : cOK c) (hn : cNd c ≤ h) (g1 : cm c < 1000) (g2 : ¬ cm c = 110) (g3 : ¬ cm c = 109) : 2 ≤ h ∧ (20 ≤ c ∧ c ≤ 30 ∧ ¬ c = 22) ∧ ((c = 20 ∧ cm c = 111) ∨ (c = 21 ∧ cm c = 97) ∨ (c = 23 ∧ cm c = 61) ∨ (c = 24 ∧ cm c = 60) ∨ (c = 25 ∧ cm c = 62) ∨ (c = 26 ∧ cm c = 43) ∨ (c = 27 ∧ cm c = 45) ∨ (c = 28 ∧ cm c = 42) ∨ (c = 29 ∧ cm c = 47) ∨ (c = 30 ∧ cm c = 37)) := by
  rcases cm_cs hc with q | q | q | q | q
  · omega
  · omega
  · omega
  · omega
  · have v := (cNd_v (c := c)).2.2 (by omega)
    exact ⟨by omega, by omega, q⟩
theorem cDp_nn {f : Int → Int} {a i : Int} {n : Nat} (h : cWf f a n) (h1 : 0 ≤ i) (h2 : i < n) : 0 ≤ cDp f a i.toNat ∧ cDp f a i.toNat ≤ i := by
  have w := cWf_at h h1 h2
  have l := cDp_le (f := f) (a := a) i.toNat
  have : 0 ≤ cNd (f (a + i)) := by unfold cNd; split <;> (try split) <;> omega
  omega
theorem cd_push {f : Int → Int} {a i h : Int} (hi : 0 ≤ i) (hh : h = cDp f a i.toNat) (hk : 100 ≤ f (a + i) ∨ f (a + i) < 10) : h + 1 = cDp f a (i + 1).toNat := by
  have := cDp_s (f := f) (a := a) hi
  have := (cNd_v (c := f (a + i))).1 hk
  omega
theorem cd_un {f : Int → Int} {a i h : Int} (hi : 0 ≤ i) (hh : h = cDp f a i.toNat) (hk : f (a + i) = 22 ∨ f (a + i) = 31) : h = cDp f a (i + 1).toNat := by
  have := cDp_s (f := f) (a := a) hi
  have := (cNd_v (c := f (a + i))).2.1 hk
  omega
theorem cd_two {f : Int → Int} {a i h : Int} (hi : 0 ≤ i) (hh : h = cDp f a i.toNat) (hk : 20 ≤ f (a + i) ∧ f (a + i) ≤ 30 ∧ ¬ f (a + i) = 22) : h - 1 = cDp f a (i + 1).toNat := by
  have := cDp_s (f := f) (a := a) hi
  have := (cNd_v (c := f (a + i))).2.2 hk
  omega
set_option maxHeartbeats 1000000 in
theorem lp_Ruls_run {ro : Nat → Int × (Int → Int)} {d : Nat} {b : Bool} {L : Nat → Int → Int} {Q : Option am_V → am_H → Prop} {bc bs : Nat} {x2 : Int} {f nm : Int → Int} {a s0 : Int} {I0 : Nat → Int → Int} (hb : 0 ≤ s0 ∧ s0 ≤ x2 ∧ x2 ≤ 1440 ∧ x2 - s0 ≤ 120) (hcode : ∀ k, 0 ≤ k → k < x2 - s0 → I0 34 (s0 + k) = cm (f (a + k))) (hnm : ∀ c, 0 ≤ c → c < 10 → I0 59 c = nm c) (hw : cWf f a (x2 - s0).toNat) (H : ∀ I : Nat → Int → Int, (∀ k, k ≠ 35 → I k = I0 k) → Q (some (am_I (stk f nm a (x2 - s0).toNat 0))) (sh b, I, L)) : ∀ (n : Nat) (I : Nat → Int → Int) (x4 x5 : Int), (s0 ≤ x5) → (x5 ≤ x2) → (∀ k, k ≠ 35 → I k = I0 k) → (x4 = cDp f a (x5 - s0).toNat) → (∀ j, 0 ≤ j → j < x4 → I 35 j = stk f nm a (x5 - s0).toNat j) → x2 - x5 < (n : Int) → am_ex (am_m ro (d + 1)) ro am_M102 Q (6, [some (am_R 28), none, some (am_I x2), some (am_R 59), some (am_I x4), some (am_I x5), none, none], [], (sh b, I, L), bc, bs) := by
  intro n
  induction n with
  | zero =>
    intro I x4 x5 i0 i1 i2 i3 i4 im
    exact absurd im (by omega)
  | succ n ih =>
    intro I x4 x5 i0 i1 i2 i3 i4 im
    have hf34 : I 34 = I0 34 := i2 34 (by omega)
    have hf59 : I 59 = I0 59 := i2 59 (by omega)
    refine b_Ruls_run_6  (fun c1 => ?_) (fun c1 => ?_)
    · refine b_Ruls_run_188  ?_
      have e9 : x5 = x2 := by omega
      rw [e9] at i3 i4
      rw [i4 0 (by omega) (by have := hw.2; omega)]
      exact H I i2
    · have hx6 := hcode (x5 - s0) (by omega) (by omega)
      have e55 : s0 + (x5 - s0) = x5 := by omega
      rw [e55, ← hf34] at hx6
      have ew5 : am_w (x5 + 1) = x5 + 1 := am_w_id (by constructor <;> omega)
      have cw := cWf_at (i := x5 - s0) hw (by omega) (by omega)
      have b4 := cDp_nn (i := x5 - s0) hw (by omega) (by omega)
      rw [← i3] at b4 cw
      have es : x5 + 1 - s0 = x5 - s0 + 1 := by omega
      refine b_Ruls_run_12 (by omega) (fun c2 => ?_) (fun c2 => ?_)
      · refine b_Ruls_run_77  (fun c3 => ?_) (fun c3 => ?_)
        · have ku := cm_un cw.1 cw.2 (by omega)
          rw [← hx6] at ku
          have ew2 : am_w (x4 - 1) = x4 - 1 := am_w_id (by constructor <;> omega)
          refine b_Ruls_run_91  (fun c4 => ?_) (fun c4 => ?_)
          · refine b_Ruls_run_182  ?_
            exfalso
            omega
          · refine b_Ruls_run_97 (by omega) (fun c5 => ?_) (fun c5 => ?_)
            · refine b_Ruls_run_129  (fun c6 => ?_) (fun c6 => ?_)
              · refine b_Ruls_run_138  ?_
                refine b_Ruls_run_139 (by omega) ?_
                refine b_Ruls_run_182  ?_
                refine ih ((am_up I 35 (((am_w (x4 - 1)))) 0)) x4 (am_w (x5 + 1)) (by omega) (by omega) ?_ ?_ ?_ (by omega)
                · intro k hk
                  rw [upn hk]
                  exact i2 k hk
                · rw [ew5, es]
                  exact cd_un (by omega) i3 (Or.inl (ku.2.1 (by omega)))
                · intro j j1 j2
                  rw [ew5, es]
                  exact (st_not (nm := nm) (by omega) i4 i3 (ku.2.1 (by omega)) ku.1 ew2 (by first | (exfalso; omega) | rw [if_pos (by omega)] | rw [if_neg (by omega)])) j j1 j2
              · refine b_Ruls_run_134  ?_
                refine b_Ruls_run_139 (by omega) ?_
                refine b_Ruls_run_182  ?_
                refine ih ((am_up I 35 (((am_w (x4 - 1)))) 1)) x4 (am_w (x5 + 1)) (by omega) (by omega) ?_ ?_ ?_ (by omega)
                · intro k hk
                  rw [upn hk]
                  exact i2 k hk
                · rw [ew5, es]
                  exact cd_un (by omega) i3 (Or.inl (ku.2.1 (by omega)))
                · intro j j1 j2
                  rw [ew5, es]
                  exact (st_not (nm := nm) (by omega) i4 i3 (ku.2.1 (by omega)) ku.1 ew2 (by first | (exfalso; omega) | rw [if_pos (by omega)] | rw [if_neg (by omega)])) j j1 j2
            · refine b_Ruls_run_123  ?_
              refine b_Ruls_run_139 (by omega) ?_
              refine b_Ruls_run_182  ?_
              refine ih ((am_up I 35 ((am_w (x4 - 1))) (am_w (-(I 35 (am_w (x4 - 1))))))) x4 (am_w (x5 + 1)) (by omega) (by omega) ?_ ?_ ?_ (by omega)
              · intro k hk
                rw [upn hk]
                exact i2 k hk
              · rw [ew5, es]
                exact cd_un (by omega) i3 (Or.inr (ku.2.2 (by omega)))
              · intro j j1 j2
                rw [ew5, es]
                exact (st_neg (nm := nm) (by omega) i4 i3 (ku.2.2 (by omega)) ku.1 ew2 rfl) j j1 j2
        · refine b_Ruls_run_84  (fun c7 => ?_) (fun c7 => ?_)
          · have kt := cm_two cw.1 cw.2 (by omega) (by omega) (by omega)
            rw [← hx6] at kt
            have ew3 : am_w (x4 + -1) = x4 - 1 := am_w_id' (by constructor <;> omega) (by omega)
            have ew4 : am_w (am_w (x4 + -1) - 1) = x4 - 2 := am_w_id' (by constructor <;> omega) (by omega)
            refine b_Ruls_run_143  (fun c8 => ?_) (fun c8 => ?_)
            · refine b_Ruls_run_182  ?_
              exfalso
              omega
            · refine b_Ruls_run_149 (by omega) (by omega) (s_Ruls_ofTwo (c := f (a + (x5 - s0))) kt.2.2 ?_)
              refine b_Ruls_run_181 (by omega) ?_
              refine b_Ruls_run_182  ?_
              refine ih ((am_up I 35 (am_w ((am_w (x4 + (-1))) - 1)) (opr (f (a + (x5 - s0))) (I 35 (am_w ((am_w (x4 + (-1))) - 1))) (I 35 (am_w (x4 + (-1))))))) (((am_w (x4 + (-1))))) (am_w (x5 + 1)) (by omega) (by omega) ?_ ?_ ?_ (by omega)
              · intro k hk
                rw [upn hk]
                exact i2 k hk
              · rw [ew5, es]
                rw [ew3]
                exact cd_two (by omega) i3 kt.2.1
              · intro j j1 j2
                rw [ew5, es]
                rw [ew3] at j2
                exact (st_two (nm := nm) (u := am_w (x4 + -1)) (by omega) i4 i3 kt.2.1 kt.1 ew4 ew3 rfl) j j1 j2
          · have ku := cm_un cw.1 cw.2 (by omega)
            rw [← hx6] at ku
            have ew2 : am_w (x4 - 1) = x4 - 1 := am_w_id (by constructor <;> omega)
            refine b_Ruls_run_91  (fun c9 => ?_) (fun c9 => ?_)
            · refine b_Ruls_run_182  ?_
              exfalso
              omega
            · refine b_Ruls_run_97 (by omega) (fun c10 => ?_) (fun c10 => ?_)
              · refine b_Ruls_run_129  (fun c11 => ?_) (fun c11 => ?_)
                · refine b_Ruls_run_138  ?_
                  refine b_Ruls_run_139 (by omega) ?_
                  refine b_Ruls_run_182  ?_
                  refine ih ((am_up I 35 (((am_w (x4 - 1)))) 0)) x4 (am_w (x5 + 1)) (by omega) (by omega) ?_ ?_ ?_ (by omega)
                  · intro k hk
                    rw [upn hk]
                    exact i2 k hk
                  · rw [ew5, es]
                    exact cd_un (by omega) i3 (Or.inl (ku.2.1 (by omega)))
                  · intro j j1 j2
                    rw [ew5, es]
                    exact (st_not (nm := nm) (by omega) i4 i3 (ku.2.1 (by omega)) ku.1 ew2 (by first | (exfalso; omega) | rw [if_pos (by omega)] | rw [if_neg (by omega)])) j j1 j2
                · refine b_Ruls_run_134  ?_
                  refine b_Ruls_run_139 (by omega) ?_
                  refine b_Ruls_run_182  ?_
                  refine ih ((am_up I 35 (((am_w (x4 - 1)))) 1)) x4 (am_w (x5 + 1)) (by omega) (by omega) ?_ ?_ ?_ (by omega)
                  · intro k hk
                    rw [upn hk]
                    exact i2 k hk
                  · rw [ew5, es]
                    exact cd_un (by omega) i3 (Or.inl (ku.2.1 (by omega)))
                  · intro j j1 j2
                    rw [ew5, es]
                    exact (st_not (nm := nm) (by omega) i4 i3 (ku.2.1 (by omega)) ku.1 ew2 (by first | (exfalso; omega) | rw [if_pos (by omega)] | rw [if_neg (by omega)])) j j1 j2
              · refine b_Ruls_run_123  ?_
                refine b_Ruls_run_139 (by omega) ?_
                refine b_Ruls_run_182  ?_
                refine ih ((am_up I 35 ((am_w (x4 - 1))) (am_w (-(I 35 (am_w (x4 - 1))))))) x4 (am_w (x5 + 1)) (by omega) (by omega) ?_ ?_ ?_ (by omega)
                · intro k hk
                  rw [upn hk]
                  exact i2 k hk
                · rw [ew5, es]
                  exact cd_un (by omega) i3 (Or.inr (ku.2.2 (by omega)))
                · intro j j1 j2
                  rw [ew5, es]
                  exact (st_neg (nm := nm) (by omega) i4 i3 (ku.2.2 (by omega)) ku.1 ew2 rfl) j j1 j2
      · have kp := cm_push cw.1 (by omega)
        rw [← hx6] at kp
        have ew1 : am_w (x4 + 1) = x4 + 1 := am_w_id (by constructor <;> omega)
        refine b_Ruls_run_29  (fun c12 => ?_) (fun c12 => ?_)
        · refine b_Ruls_run_182  ?_
          exfalso
          omega
        · refine b_Ruls_run_39  (fun c13 => ?_) (fun c13 => ?_)
          · have kq := kp.2.2 (by omega)
            have ew7 : am_w (I 34 x5 - 1000) = f (a + (x5 - s0)) := am_w_id' (by constructor <;> omega) kq.2.2
            refine b_Ruls_run_62 (by rw [ew7]; exact ⟨kq.1, kq.2.1⟩) ?_
            refine b_Ruls_run_70 (by omega) ?_
            refine b_Ruls_run_182  ?_
            refine ih ((am_up I 35 x4 (I 59 (am_w ((((I 34 x5))) - 1000))))) ((am_w (x4 + 1))) (am_w (x5 + 1)) (by omega) (by omega) ?_ ?_ ?_ (by omega)
            · intro k hk
              rw [upn hk]
              exact i2 k hk
            · rw [ew5, es]
              rw [ew1]
              exact cd_push (by omega) i3 kp.1
            · intro j j1 j2
              rw [ew5, es]
              rw [ew1] at j2
              exact (st_push (nm := nm) (by omega) i4 i3 kp.1 (by rw [if_pos kq.2.1, ew7, hf59]; exact hnm _ kq.1 kq.2.1)) j j1 j2
          · have kq := kp.2.1 (by omega)
            have ew6 : am_w (I 34 x5 - 2000) = f (a + (x5 - s0)) - 100 := am_w_id' (by constructor <;> omega) kq.2.1
            refine b_Ruls_run_53  ?_
            refine b_Ruls_run_70 (by omega) ?_
            refine b_Ruls_run_182  ?_
            refine ih ((am_up I 35 x4 (am_w ((((I 34 x5))) - 2000)))) ((am_w (x4 + 1))) (am_w (x5 + 1)) (by omega) (by omega) ?_ ?_ ?_ (by omega)
            · intro k hk
              rw [upn hk]
              exact i2 k hk
            · rw [ew5, es]
              rw [ew1]
              exact cd_push (by omega) i3 kp.1
            · intro j j1 j2
              rw [ew5, es]
              rw [ew1] at j2
              exact (st_push (nm := nm) (by omega) i4 i3 kp.1 (by rw [if_neg kq.1]; exact ew6)) j j1 j2
theorem s_Ruls_run {ro : Nat → Int × (Int → Int)} {d : Nat} {b : Bool} {I L : Nat → Int → Int} {Q : Option am_V → am_H → Prop} {x1 x2 : Int} {f nm : Int → Int} {a : Int} (hb : 0 ≤ x1 ∧ x1 ≤ x2 ∧ x2 ≤ 1440 ∧ x2 - x1 ≤ 120) (hcode : ∀ k, 0 ≤ k → k < x2 - x1 → I 34 (x1 + k) = cm (f (a + k))) (hnm : ∀ c, 0 ≤ c → c < 10 → I 59 c = nm c) (hw : cWf f a (x2 - x1).toNat) (H : ∀ I' : Nat → Int → Int, (∀ k, k ≠ 35 → I' k = I k) → Q (some (am_I (stk f nm a (x2 - x1).toNat 0))) (sh b, I', L)) : am_m ro (d + 2) 102 [am_R 28, am_I x1, am_I x2, am_R 59] (sh b, I, L) Q := by
  refine am_in rfl rfl rfl rfl ?_
  refine b_Ruls_run_0  ?_
  exact lp_Ruls_run (d := d) (s0 := x1) (I0 := I) hb hcode hnm hw H (x2 - x1 + 1).toNat I 0 x1 (by omega) (by omega) (fun _ _ => rfl) (by have e9 : (x1 - x1).toNat = 0 := (by omega); rw [e9]; rfl) (fun j j1 j2 => by omega) (by omega)
