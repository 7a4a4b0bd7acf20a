theorem cw_un {c h : Int} (hn : cNd c ≤ h) (g : c = 22 ∨ c = 31) : 1 ≤ h := by
  have v := (cNd_v (c := c)).2.1 g
  omega
theorem cw_two {c h : Int} (hc : cOK c) (hn : cNd c ≤ h) (g1 : ¬ 100 ≤ c) (g2 : ¬ c < 10) (g3 : ¬ c = 22) (g4 : ¬ c = 31) : 2 ≤ h ∧ (20 ≤ c ∧ c ≤ 30 ∧ ¬ c = 22) := by
  have e : 20 ≤ c ∧ c ≤ 30 ∧ ¬ c = 22 := by
    unfold cOK at hc
    omega
  have v := (cNd_v (c := c)).2.2 e
  omega
set_option maxHeartbeats 1000000 in
theorem lp_M_worth {ro : Nat → Int × (Int → Int)} {d : Nat} {b : Bool} {L : Nat → Int → Int} {Q : Option am_V → am_H → Prop} {bc bs : Nat} {x1 x3 : Int} {f nm : Int → Int} {s0 : Int} {I0 : Nat → Int → Int} (hb : 0 ≤ s0 ∧ s0 ≤ x3 ∧ x3 ≤ 120 ∧ 0 ≤ x1 ∧ x1 < 12) (hcode : ∀ k, I0 67 (2860 + 130 * x1 + k) = f k) (hnm : ∀ c, 0 ≤ c → c < 10 → I0 76 c = nm c) (hw : cWf f s0 (x3 - s0).toNat) (H : ∀ I : Nat → Int → Int, (∀ k, k ≠ 77 → I k = I0 k) → Q (some (am_I (stk f nm s0 (x3 - s0).toNat 0))) (sh b, I, L)) : ∀ (n : Nat) (I : Nat → Int → Int) (x4 x5 : Int), (s0 ≤ x5) → (x5 ≤ x3) → (∀ k, k ≠ 77 → I k = I0 k) → (x4 = cDp f s0 (x5 - s0).toNat) → (∀ j, 0 ≤ j → j < x4 → I 77 j = stk f nm s0 (x5 - s0).toNat j) → x3 - x5 < (n : Int) → am_ex (am_m ro (d + 1)) ro am_M209 Q (6, [some (am_R 66), some (am_I x1), none, some (am_I x3), some (am_I x4), some (am_I x5), none], [], (sh b, I, L), bc, bs) := by
  intro n
  induction n with
  | zero =>
    intro I x4 x5 i0 i1 i2 i3 i4 im
    exact absurd im (by omega)
  | succ n ih =>
    intro I x4 x5 i0 i1 i2 i3 i4 im
    have hf67 : I 67 = I0 67 := i2 67 (by omega)
    have hf76 : I 76 = I0 76 := i2 76 (by omega)
    refine b_M_worth_6  (fun c1 => ?_) (fun c1 => ?_)
    · refine b_M_worth_184  ?_
      have e9 : x5 = x3 := by omega
      rw [e9] at i3 i4
      rw [i4 0 (by omega) (by have := hw.2; omega)]
      exact H I i2
    · have ei : am_w ((am_w (2860 + (am_w (130 * x1)))) + x5) = 2860 + 130 * x1 + x5 := by
        have w1 : am_w (130 * x1) = 130 * x1 := am_w_id (by constructor <;> omega)
        have w2 : am_w (2860 + am_w (130 * x1)) = 2860 + 130 * x1 := am_w_id' (by constructor <;> omega) (by omega)
        exact am_w_id' (by constructor <;> omega) (by omega)
      have e55 : s0 + (x5 - s0) = x5 := by omega
      have hx6 : I 67 (am_w ((am_w (2860 + (am_w (130 * x1)))) + x5)) = f (s0 + (x5 - s0)) := by rw [ei, hf67, e55]; exact hcode x5
      have ew5 : am_w (x5 + 1) = x5 + 1 := am_w_id (by constructor <;> omega)
      have cw := cWf_at (i := x5 - s0) hw (by omega) (by omega)
      have b4 := cDp_nn (i := x5 - s0) hw (by omega) (by omega)
      rw [← i3] at b4 cw
      have es : x5 + 1 - s0 = x5 - s0 + 1 := by omega
      have c10 : cOK (f (s0 + (x5 - s0))) := cw.1
      unfold cOK at c10
      refine b_M_worth_12 (by omega) (fun c2 => ?_) (fun c2 => ?_)
      · have kp : 100 ≤ f (s0 + (x5 - s0)) ∨ f (s0 + (x5 - s0)) < 10 := by omega
        have ew1 : am_w (x4 + 1) = x4 + 1 := am_w_id (by constructor <;> omega)
        refine b_M_worth_45  (fun c3 => ?_) (fun c3 => ?_)
        · have kq : ¬ f (s0 + (x5 - s0)) < 10 := by omega
          have ew6 : am_w (I 67 (am_w ((am_w (2860 + (am_w (130 * x1)))) + x5)) - 100) = f (s0 + (x5 - s0)) - 100 := am_w_id' (by constructor <;> omega) (by omega)
          refine b_M_worth_68  ?_
          refine b_M_worth_73 (by omega) ?_
          refine b_M_worth_178  ?_
          by_cases cx : (100 ≤ f (s0 + (x5 - s0)) ∧ f (s0 + (x5 - s0)) < 10)
          · exfalso
            omega
          refine ih ((am_up I 77 x4 (am_w (((I 67 (am_w ((am_w (2860 + (am_w (130 * x1)))) + x5)))) - 100)))) ((am_w (x4 + 1))) (am_w (x5 + 1)) (by omega) (by omega) ?_ ?_ ?_ (by omega)
          · intro k hk
            rw [upn hk]
            exact i2 k hk
          · rw [ew5, es]
            rw [ew1]
            exact cd_push (by omega) i3 kp
          · intro j j1 j2
            rw [ew5, es]
            rw [ew1] at j2
            exact (st_push (nm := nm) (by omega) i4 i3 kp (by rw [if_neg kq]; exact ew6)) j j1 j2
        · have kq : 0 ≤ f (s0 + (x5 - s0)) ∧ f (s0 + (x5 - s0)) < 10 := by omega
          refine b_M_worth_58 (by omega) ?_
          refine b_M_worth_73 (by omega) ?_
          refine b_M_worth_178  ?_
          by_cases cx : (100 ≤ f (s0 + (x5 - s0)) ∧ f (s0 + (x5 - s0)) < 10)
          · exfalso
            omega
          refine ih ((am_up I 77 x4 (I 76 ((I 67 (am_w ((am_w (2860 + (am_w (130 * x1)))) + x5))))))) ((am_w (x4 + 1))) (am_w (x5 + 1)) (by omega) (by omega) ?_ ?_ ?_ (by omega)
          · intro k hk
            rw [upn hk]
            exact i2 k hk
          · rw [ew5, es]
            rw [ew1]
            exact cd_push (by omega) i3 kp
          · intro j j1 j2
            rw [ew5, es]
            rw [ew1] at j2
            exact (st_push (nm := nm) (by omega) i4 i3 kp (by rw [if_pos kq.2, hx6, hf76]; exact hnm _ kq.1 kq.2)) j j1 j2
      · refine b_M_worth_38  (fun c4 => ?_) (fun c4 => ?_)
        · refine b_M_worth_80  (fun c5 => ?_) (fun c5 => ?_)
          · refine b_M_worth_116  (fun c6 => ?_) (fun c6 => ?_)
            · have kt := cw_two cw.1 cw.2 (by omega) (by omega) (by omega) (by omega)
              have ew3 : am_w (x4 + -1) = x4 - 1 := am_w_id' (by constructor <;> omega) (by omega)
              have ew4 : am_w (am_w (x4 + -1) - 1) = x4 - 2 := am_w_id' (by constructor <;> omega) (by omega)
              refine b_M_worth_145 (by omega) (by omega) (s_M_two (by rw [hx6]; exact kt.2) ?_)
              refine b_M_worth_177 (by omega) ?_
              refine b_M_worth_178  ?_
              refine ih ((am_up I 77 (am_w ((am_w (x4 + (-1))) - 1)) (opr (I 67 (am_w ((am_w (2860 + (am_w (130 * x1)))) + x5))) (I 77 (am_w ((am_w (x4 + (-1))) - 1))) (I 77 (am_w (x4 + (-1))))))) (((am_w (x4 + (-1))))) (am_w (x5 + 1)) (by omega) (by omega) ?_ ?_ ?_ (by omega)
              · intro k hk
                rw [upn hk]
                exact i2 k hk
              · rw [ew5, es]
                rw [ew3]
                exact cd_two (by omega) i3 kt.2
              · intro j j1 j2
                rw [ew5, es]
                rw [ew3] at j2
                exact (st_two (nm := nm) (u := am_w (x4 + -1)) (by omega) i4 i3 kt.2 kt.1 ew4 ew3 (by rw [hx6])) j j1 j2
            · have ku : 1 ≤ x4 := cw_un cw.2 (by omega)
              have ew2 : am_w (x4 - 1) = x4 - 1 := am_w_id (by constructor <;> omega)
              refine b_M_worth_123 (by omega) (by omega) ?_
              refine b_M_worth_178  ?_
              refine ih ((am_up I 77 (am_w (x4 - 1)) (am_w (-(I 77 (am_w (x4 - 1))))))) x4 (am_w (x5 + 1)) (by omega) (by omega) ?_ ?_ ?_ (by omega)
              · intro k hk
                rw [upn hk]
                exact i2 k hk
              · rw [ew5, es]
                exact cd_un (by omega) i3 (by omega)
              · intro j j1 j2
                rw [ew5, es]
                exact (st_neg (nm := nm) (by omega) i4 i3 (by omega) ku ew2 rfl) j j1 j2
          · have ku : 1 ≤ x4 := cw_un cw.2 (by omega)
            have ew2 : am_w (x4 - 1) = x4 - 1 := am_w_id (by constructor <;> omega)
            refine b_M_worth_87 (by omega) (fun c7 => ?_) (fun c7 => ?_)
            · refine b_M_worth_111  ?_
              refine b_M_worth_112 (by omega) ?_
              refine b_M_worth_178  ?_
              refine ih ((am_up I 77 ((am_w (x4 - 1))) 0)) x4 (am_w (x5 + 1)) (by omega) (by omega) ?_ ?_ ?_ (by omega)
              · intro k hk
                rw [upn hk]
                exact i2 k hk
              · rw [ew5, es]
                exact cd_un (by omega) i3 (by omega)
              · intro j j1 j2
                rw [ew5, es]
                exact (st_not (nm := nm) (by omega) i4 i3 (by omega) ku ew2 (by first | rw [if_pos (by omega)] | rw [if_neg (by omega)])) j j1 j2
            · refine b_M_worth_107  ?_
              refine b_M_worth_112 (by omega) ?_
              refine b_M_worth_178  ?_
              refine ih ((am_up I 77 ((am_w (x4 - 1))) 1)) x4 (am_w (x5 + 1)) (by omega) (by omega) ?_ ?_ ?_ (by omega)
              · intro k hk
                rw [upn hk]
                exact i2 k hk
              · rw [ew5, es]
                exact cd_un (by omega) i3 (by omega)
              · intro j j1 j2
                rw [ew5, es]
                exact (st_not (nm := nm) (by omega) i4 i3 (by omega) ku ew2 (by first | rw [if_pos (by omega)] | rw [if_neg (by omega)])) j j1 j2
        · have kp : 100 ≤ f (s0 + (x5 - s0)) ∨ f (s0 + (x5 - s0)) < 10 := by omega
          have ew1 : am_w (x4 + 1) = x4 + 1 := am_w_id (by constructor <;> omega)
          refine b_M_worth_45  (fun c8 => ?_) (fun c8 => ?_)
          · have kq : ¬ f (s0 + (x5 - s0)) < 10 := by omega
            have ew6 : am_w (I 67 (am_w ((am_w (2860 + (am_w (130 * x1)))) + x5)) - 100) = f (s0 + (x5 - s0)) - 100 := am_w_id' (by constructor <;> omega) (by omega)
            refine b_M_worth_68  ?_
            refine b_M_worth_73 (by omega) ?_
            refine b_M_worth_178  ?_
            by_cases cx : (100 ≤ f (s0 + (x5 - s0)) ∧ f (s0 + (x5 - s0)) < 10)
            · exfalso
              omega
            refine ih ((am_up I 77 x4 (am_w ((((I 67 (am_w ((am_w (2860 + (am_w (130 * x1)))) + x5))))) - 100)))) ((am_w (x4 + 1))) (am_w (x5 + 1)) (by omega) (by omega) ?_ ?_ ?_ (by omega)
            · intro k hk
              rw [upn hk]
              exact i2 k hk
            · rw [ew5, es]
              rw [ew1]
              exact cd_push (by omega) i3 kp
            · intro j j1 j2
              rw [ew5, es]
              rw [ew1] at j2
              exact (st_push (nm := nm) (by omega) i4 i3 kp (by rw [if_neg kq]; exact ew6)) j j1 j2
          · have kq : 0 ≤ f (s0 + (x5 - s0)) ∧ f (s0 + (x5 - s0)) < 10 := by omega
            refine b_M_worth_58 (by omega) ?_
            refine b_M_worth_73 (by omega) ?_
            refine b_M_worth_178  ?_
            by_cases cx : (100 ≤ f (s0 + (x5 - s0)) ∧ f (s0 + (x5 - s0)) < 10)
            · exfalso
              omega
            refine ih ((am_up I 77 x4 (I 76 (((I 67 (am_w ((am_w (2860 + (am_w (130 * x1)))) + x5)))))))) ((am_w (x4 + 1))) (am_w (x5 + 1)) (by omega) (by omega) ?_ ?_ ?_ (by omega)
            · intro k hk
              rw [upn hk]
              exact i2 k hk
            · rw [ew5, es]
              rw [ew1]
              exact cd_push (by omega) i3 kp
            · intro j j1 j2
              rw [ew5, es]
              rw [ew1] at j2
              exact (st_push (nm := nm) (by omega) i4 i3 kp (by rw [if_pos kq.2, hx6, hf76]; exact hnm _ kq.1 kq.2)) j j1 j2
theorem s_M_worth {ro : Nat → Int × (Int → Int)} {d : Nat} {b : Bool} {I L : Nat → Int → Int} {Q : Option am_V → am_H → Prop} {x1 x2 x3 : Int} {f nm : Int → Int} (hb : 0 ≤ x2 ∧ x2 ≤ x3 ∧ x3 ≤ 120 ∧ 0 ≤ x1 ∧ x1 < 12) (hcode : ∀ k, I 67 (2860 + 130 * x1 + k) = f k) (hnm : ∀ c, 0 ≤ c → c < 10 → I 76 c = nm c) (hw : cWf f x2 (x3 - x2).toNat) (H : ∀ I' : Nat → Int → Int, (∀ k, k ≠ 77 → I' k = I k) → Q (some (am_I (stk f nm x2 (x3 - x2).toNat 0))) (sh b, I', L)) : am_m ro (d + 2) 209 [am_R 66, am_I x1, am_I x2, am_I x3] (sh b, I, L) Q := by
  refine am_in rfl rfl rfl rfl ?_
  refine b_M_worth_0  ?_
  exact lp_M_worth (d := d) (s0 := x2) (I0 := I) hb hcode hnm hw H (x3 - x2 + 1).toNat I 0 x2 (by omega) (by omega) (fun _ _ => rfl) (by have e9 : (x2 - x2).toNat = 0 := (by omega); rw [e9]; rfl) (fun j j1 j2 => by omega) (by omega)
