theorem o_Shs_add {ro : Nat → Int × (Int → Int)} {d : Nat} {b : Bool} {I L : Nat → Int → Int} {Q : Option am_V → am_H → Prop} {x1 x2 x3 x4 : Int} (hp : 0 ≤ I 22 0 ∧ I 22 0 < 60) (H1 : True → Q (some (am_I (I 22 0))) (sh b, am_up (am_up (am_up (am_up (am_up I 23 (I 22 0) x1) 24 (I 22 0) x2) 25 (I 22 0) x3) 26 (I 22 0) x4) 22 0 (I 22 0 + 1), L)) : am_m ro (d + 1) 92 [am_R 22, am_I x1, am_I x2, am_I x3, am_I x4] (sh b, I, L) Q := by
  refine am_in rfl rfl rfl rfl ?_
  refine b_Shs_add_0 (by (try simp (disch := omega) only [upo, upm, ups, Int.add_sub_cancel]); omega) (by (try simp (disch := omega) only [upo, upm, ups, Int.add_sub_cancel]); omega) (by (try simp (disch := omega) only [upo, upm, ups, Int.add_sub_cancel]); omega) (by (try simp (disch := omega) only [upo, upm, ups, Int.add_sub_cancel]); omega) (by (try simp (disch := omega) only [upo, upm, ups, Int.add_sub_cancel]); omega) ?_
  try simp (disch := omega) only [upo, upm, ups, Int.add_sub_cancel]
  first | exact H1 trivial
theorem o_P_share {ro : Nat → Int × (Int → Int)} {d : Nat} {b : Bool} {I L : Nat → Int → Int} {Q : Option am_V → am_H → Prop} {x1 x2 x3 : Int} (hC : Cor I L) (hx : am_r x2) (H1 : ¬ ((0 ≤ x1 ∧ x1 < I 67 2) ∧ 0 ≤ x2 ∧ x2 / 10 < I 67 3) → Q (some (am_I (-3))) (sh b, rfC I (-3), L)) (H2 : ((0 ≤ x1 ∧ x1 < I 67 2) ∧ 0 ≤ x2 ∧ x2 / 10 < I 67 3) ∧ ¬ (x2 % 10 ≤ 4 ∧ 1 ≤ x3 ∧ x3 ≤ 100) → Q (some (am_I (-7))) (sh b, rfC I (-7), L)) (H3 : ((0 ≤ x1 ∧ x1 < I 67 2) ∧ 0 ≤ x2 ∧ x2 / 10 < I 67 3) ∧ (x2 % 10 ≤ 4 ∧ 1 ≤ x3 ∧ x3 ≤ 100) ∧ ¬ (I 67 4 < 60 ∧ sm (fun k => if I 67 (900 + k) = x1 then I 67 (1080 + k) else 0) (I 67 4).toNat + x3 ≤ 100) → Q (some (am_I (-8))) (sh b, rfC I (-8), L)) (H4 : ((0 ≤ x1 ∧ x1 < I 67 2) ∧ 0 ≤ x2 ∧ x2 / 10 < I 67 3) ∧ (x2 % 10 ≤ 4 ∧ 1 ≤ x3 ∧ x3 ≤ 100) ∧ (I 67 4 < 60 ∧ sm (fun k => if I 67 (900 + k) = x1 then I 67 (1080 + k) else 0) (I 67 4).toNat + x3 ≤ 100) → Q (some (am_I (I 22 0))) (sh b, am_up (am_up (am_up (am_up (am_up (am_up I 23 (I 22 0) x1) 24 (I 22 0) (x2 / 10)) 25 (I 22 0) (x2 % 10)) 26 (I 22 0) x3) 22 0 (I 22 0 + 1)) 27 (I 22 0) (I 1 0), L)) : am_m ro (d + 3) 13 [am_R 0, am_I x1, am_I x2, am_I x3] (sh b, I, L) Q := by
  have ct := Cor_ct hC
  have ls := hC.1.2.2.2.2.2.1
  have ls1 := ls.1
  have hbM : ∀ k, 0 ≤ k → k < I 67 4 → 0 ≤ I 67 (1080 + k) ∧ I 67 (1080 + k) ≤ 100 := fun k a1 a2 => by have w := ls.2.2.2.2 k a1 a2; omega
  have hbC : ∀ k, 0 ≤ k → k < I 22 0 → 0 ≤ I 26 k ∧ I 26 k ≤ 100 := fun k a1 a2 => by have w := ls.2.2.2.2 k a1 (by omega); have w2 := ls.2.2.2.1 k a1 (by omega); omega
  have es : sm (fun k => if I 23 k = x1 then I 26 k else 0) (I 22 0).toNat = sm (fun k => if I 67 (900 + k) = x1 then I 67 (1080 + k) else 0) (I 67 4).toNat := by
    rw [ls1]
    refine sm_congr _ (fun k b1 b2 => ?_)
    have w2 := ls.2.2.2.1 k b1 (by omega)
    show (if I 23 k = x1 then I 26 k else 0) = (if I 67 (900 + k) = x1 then I 67 (1080 + k) else 0)
    rw [w2.1, w2.2.2.2.1]
  have sbd : 0 ≤ sm (fun k => if I 67 (900 + k) = x1 then I 67 (1080 + k) else 0) (I 67 4).toNat ∧ sm (fun k => if I 67 (900 + k) = x1 then I 67 (1080 + k) else 0) (I 67 4).toNat ≤ 6000 := by
    have w := sm_bd (f := fun k => if I 67 (900 + k) = x1 then I 67 (1080 + k) else 0) (B := 100) (I 67 4).toNat (fun k a1 a2 => by
      have w := hbM k a1 (by omega)
      show 0 ≤ (if I 67 (900 + k) = x1 then I 67 (1080 + k) else 0) ∧ (if I 67 (900 + k) = x1 then I 67 (1080 + k) else 0) ≤ 100
      split <;> omega)
    omega
  have td := tdm (x := x2) (c := 10) (by omega)
  have tw : am_w (Int.tdiv x2 10) = Int.tdiv x2 10 := am_w_id (by rcases Int.lt_or_le x2 0 with h | h; (· have := td.2 h; constructor <;> omega); (· have := td.1 h; constructor <;> omega))
  have aw : 1 ≤ x3 → x3 ≤ 100 → am_w (sm (fun k => if I 23 k = x1 then I 26 k else 0) (I 22 0).toNat + x3) = sm (fun k => if I 23 k = x1 then I 26 k else 0) (I 22 0).toNat + x3 := fun a1 a2 => am_w_id ⟨by omega, by omega⟩
  refine am_in rfl rfl rfl rfl ?_
  refine b_P_share_0  (s_Eds_has (by omega) (fun c1 => ?_) (fun c1 => ?_))
  · refine b_P_share_23  (fun c2 => absurd c2 (by decide)) (fun c2 => ?_)
    refine b_P_share_26  (fun c3 => ?_) (fun c3 => ?_)
    · refine b_P_share_45  (s_P_refuse (by omega) ?_)
      refine b_P_share_51  ?_
      try (have h8 := td.1 (by omega)
           rw [tw, h8.1, h8.2])
      try simp (disch := omega) only [upo, upm, ups, Int.add_sub_cancel]
      first | exact H1 (by rcases Int.lt_or_le x2 0 with h9 | h9; (· have h8 := td.2 h9; omega); (· have h8 := td.1 h9; first | omega | (have h7 := aw (by omega) (by omega); omega))) | exact H2 (by rcases Int.lt_or_le x2 0 with h9 | h9; (· have h8 := td.2 h9; omega); (· have h8 := td.1 h9; first | omega | (have h7 := aw (by omega) (by omega); omega))) | exact H3 (by rcases Int.lt_or_le x2 0 with h9 | h9; (· have h8 := td.2 h9; omega); (· have h8 := td.1 h9; first | omega | (have h7 := aw (by omega) (by omega); omega))) | exact H4 (by rcases Int.lt_or_le x2 0 with h9 | h9; (· have h8 := td.2 h9; omega); (· have h8 := td.1 h9; first | omega | (have h7 := aw (by omega) (by omega); omega)))
    · refine b_P_share_30  (s_Peo_has (by omega) (fun c4 => ?_) (fun c4 => ?_))
      · refine b_P_share_42  (fun c5 => ?_) (fun c5 => absurd c5 (by decide))
        refine b_P_share_52  (s_P_within (fun c6 => ?_) (fun c6 => ?_))
        · refine b_P_share_59  (fun c7 => absurd c7 (by decide)) (fun c7 => ?_)
          refine b_P_share_62  (s_P_within (fun c8 => ?_) (fun c8 => ?_))
          · refine b_P_share_69  (fun c9 => ?_) (fun c9 => absurd c9 (by decide))
            refine b_P_share_79  (fun c10 => ?_) (fun c10 => ?_)
            · refine b_P_share_112  (s_P_refuse (by omega) ?_)
              refine b_P_share_118  ?_
              try (have h8 := td.1 (by omega)
                   rw [tw, h8.1, h8.2])
              try simp (disch := omega) only [upo, upm, ups, Int.add_sub_cancel]
              first | exact H1 (by rcases Int.lt_or_le x2 0 with h9 | h9; (· have h8 := td.2 h9; omega); (· have h8 := td.1 h9; first | omega | (have h7 := aw (by omega) (by omega); omega))) | exact H2 (by rcases Int.lt_or_le x2 0 with h9 | h9; (· have h8 := td.2 h9; omega); (· have h8 := td.1 h9; first | omega | (have h7 := aw (by omega) (by omega); omega))) | exact H3 (by rcases Int.lt_or_le x2 0 with h9 | h9; (· have h8 := td.2 h9; omega); (· have h8 := td.1 h9; first | omega | (have h7 := aw (by omega) (by omega); omega))) | exact H4 (by rcases Int.lt_or_le x2 0 with h9 | h9; (· have h8 := td.2 h9; omega); (· have h8 := td.1 h9; first | omega | (have h7 := aw (by omega) (by omega); omega)))
            · refine b_P_share_94  (s_Shs_partsOf (by omega) hbC ?_)
              refine b_P_share_105  (fun c11 => ?_) (fun c11 => ?_)
              · refine b_P_share_119  (o_Shs_add (by omega) (fun _ => ?_))
                refine b_P_share_135 (by omega) ?_
                try (have h8 := td.1 (by omega)
                     rw [tw, h8.1, h8.2])
                try simp (disch := omega) only [upo, upm, ups, Int.add_sub_cancel]
                first | exact H1 (by rcases Int.lt_or_le x2 0 with h9 | h9; (· have h8 := td.2 h9; omega); (· have h8 := td.1 h9; first | omega | (have h7 := aw (by omega) (by omega); omega))) | exact H2 (by rcases Int.lt_or_le x2 0 with h9 | h9; (· have h8 := td.2 h9; omega); (· have h8 := td.1 h9; first | omega | (have h7 := aw (by omega) (by omega); omega))) | exact H3 (by rcases Int.lt_or_le x2 0 with h9 | h9; (· have h8 := td.2 h9; omega); (· have h8 := td.1 h9; first | omega | (have h7 := aw (by omega) (by omega); omega))) | exact H4 (by rcases Int.lt_or_le x2 0 with h9 | h9; (· have h8 := td.2 h9; omega); (· have h8 := td.1 h9; first | omega | (have h7 := aw (by omega) (by omega); omega)))
              · refine b_P_share_112  (s_P_refuse (by omega) ?_)
                refine b_P_share_118  ?_
                try (have h8 := td.1 (by omega)
                     rw [tw, h8.1, h8.2])
                try simp (disch := omega) only [upo, upm, ups, Int.add_sub_cancel]
                first | exact H1 (by rcases Int.lt_or_le x2 0 with h9 | h9; (· have h8 := td.2 h9; omega); (· have h8 := td.1 h9; first | omega | (have h7 := aw (by omega) (by omega); omega))) | exact H2 (by rcases Int.lt_or_le x2 0 with h9 | h9; (· have h8 := td.2 h9; omega); (· have h8 := td.1 h9; first | omega | (have h7 := aw (by omega) (by omega); omega))) | exact H3 (by rcases Int.lt_or_le x2 0 with h9 | h9; (· have h8 := td.2 h9; omega); (· have h8 := td.1 h9; first | omega | (have h7 := aw (by omega) (by omega); omega))) | exact H4 (by rcases Int.lt_or_le x2 0 with h9 | h9; (· have h8 := td.2 h9; omega); (· have h8 := td.1 h9; first | omega | (have h7 := aw (by omega) (by omega); omega)))
          · refine b_P_share_69  (fun c12 => absurd c12 (by decide)) (fun c12 => ?_)
            refine b_P_share_72  (s_P_refuse (by omega) ?_)
            refine b_P_share_78  ?_
            try (have h8 := td.1 (by omega)
                 rw [tw, h8.1, h8.2])
            try simp (disch := omega) only [upo, upm, ups, Int.add_sub_cancel]
            first | exact H1 (by rcases Int.lt_or_le x2 0 with h9 | h9; (· have h8 := td.2 h9; omega); (· have h8 := td.1 h9; first | omega | (have h7 := aw (by omega) (by omega); omega))) | exact H2 (by rcases Int.lt_or_le x2 0 with h9 | h9; (· have h8 := td.2 h9; omega); (· have h8 := td.1 h9; first | omega | (have h7 := aw (by omega) (by omega); omega))) | exact H3 (by rcases Int.lt_or_le x2 0 with h9 | h9; (· have h8 := td.2 h9; omega); (· have h8 := td.1 h9; first | omega | (have h7 := aw (by omega) (by omega); omega))) | exact H4 (by rcases Int.lt_or_le x2 0 with h9 | h9; (· have h8 := td.2 h9; omega); (· have h8 := td.1 h9; first | omega | (have h7 := aw (by omega) (by omega); omega)))
        · refine b_P_share_59  (fun c13 => ?_) (fun c13 => absurd c13 (by decide))
          refine b_P_share_72  (s_P_refuse (by omega) ?_)
          refine b_P_share_78  ?_
          try (have h8 := td.1 (by omega)
               rw [tw, h8.1, h8.2])
          try simp (disch := omega) only [upo, upm, ups, Int.add_sub_cancel]
          first | exact H1 (by rcases Int.lt_or_le x2 0 with h9 | h9; (· have h8 := td.2 h9; omega); (· have h8 := td.1 h9; first | omega | (have h7 := aw (by omega) (by omega); omega))) | exact H2 (by rcases Int.lt_or_le x2 0 with h9 | h9; (· have h8 := td.2 h9; omega); (· have h8 := td.1 h9; first | omega | (have h7 := aw (by omega) (by omega); omega))) | exact H3 (by rcases Int.lt_or_le x2 0 with h9 | h9; (· have h8 := td.2 h9; omega); (· have h8 := td.1 h9; first | omega | (have h7 := aw (by omega) (by omega); omega))) | exact H4 (by rcases Int.lt_or_le x2 0 with h9 | h9; (· have h8 := td.2 h9; omega); (· have h8 := td.1 h9; first | omega | (have h7 := aw (by omega) (by omega); omega)))
      · refine b_P_share_42  (fun c14 => absurd c14 (by decide)) (fun c14 => ?_)
        refine b_P_share_45  (s_P_refuse (by omega) ?_)
        refine b_P_share_51  ?_
        try (have h8 := td.1 (by omega)
             rw [tw, h8.1, h8.2])
        try simp (disch := omega) only [upo, upm, ups, Int.add_sub_cancel]
        first | exact H1 (by rcases Int.lt_or_le x2 0 with h9 | h9; (· have h8 := td.2 h9; omega); (· have h8 := td.1 h9; first | omega | (have h7 := aw (by omega) (by omega); omega))) | exact H2 (by rcases Int.lt_or_le x2 0 with h9 | h9; (· have h8 := td.2 h9; omega); (· have h8 := td.1 h9; first | omega | (have h7 := aw (by omega) (by omega); omega))) | exact H3 (by rcases Int.lt_or_le x2 0 with h9 | h9; (· have h8 := td.2 h9; omega); (· have h8 := td.1 h9; first | omega | (have h7 := aw (by omega) (by omega); omega))) | exact H4 (by rcases Int.lt_or_le x2 0 with h9 | h9; (· have h8 := td.2 h9; omega); (· have h8 := td.1 h9; first | omega | (have h7 := aw (by omega) (by omega); omega)))
  · refine b_P_share_23  (fun c15 => ?_) (fun c15 => absurd c15 (by decide))
    refine b_P_share_45  (s_P_refuse (by omega) ?_)
    refine b_P_share_51  ?_
    try (have h8 := td.1 (by omega)
         rw [tw, h8.1, h8.2])
    try simp (disch := omega) only [upo, upm, ups, Int.add_sub_cancel]
    first | exact H1 (by rcases Int.lt_or_le x2 0 with h9 | h9; (· have h8 := td.2 h9; omega); (· have h8 := td.1 h9; first | omega | (have h7 := aw (by omega) (by omega); omega))) | exact H2 (by rcases Int.lt_or_le x2 0 with h9 | h9; (· have h8 := td.2 h9; omega); (· have h8 := td.1 h9; first | omega | (have h7 := aw (by omega) (by omega); omega))) | exact H3 (by rcases Int.lt_or_le x2 0 with h9 | h9; (· have h8 := td.2 h9; omega); (· have h8 := td.1 h9; first | omega | (have h7 := aw (by omega) (by omega); omega))) | exact H4 (by rcases Int.lt_or_le x2 0 with h9 | h9; (· have h8 := td.2 h9; omega); (· have h8 := td.1 h9; first | omega | (have h7 := aw (by omega) (by omega); omega)))
theorem o_M_share {ro : Nat → Int × (Int → Int)} {d : Nat} {b : Bool} {I L : Nat → Int → Int} {Q : Option am_V → am_H → Prop} {x1 x2 x3 : Int} (hM : Mo I L) (H1 : ¬ ((0 ≤ x1 ∧ x1 < I 67 2) ∧ 0 ≤ x2 ∧ x2 / 10 < I 67 3) → Q (some (am_I (-3))) (sh b, rfM I (-3), L)) (H2 : ((0 ≤ x1 ∧ x1 < I 67 2) ∧ 0 ≤ x2 ∧ x2 / 10 < I 67 3) ∧ ¬ (x2 % 10 ≤ 4 ∧ 1 ≤ x3 ∧ x3 ≤ 100) → Q (some (am_I (-7))) (sh b, rfM I (-7), L)) (H3 : ((0 ≤ x1 ∧ x1 < I 67 2) ∧ 0 ≤ x2 ∧ x2 / 10 < I 67 3) ∧ (x2 % 10 ≤ 4 ∧ 1 ≤ x3 ∧ x3 ≤ 100) ∧ ¬ (I 67 4 < 60 ∧ sm (fun k => if I 67 (900 + k) = x1 then I 67 (1080 + k) else 0) (I 67 4).toNat + x3 ≤ 100) → Q (some (am_I (-8))) (sh b, rfM I (-8), L)) (H4 : ((0 ≤ x1 ∧ x1 < I 67 2) ∧ 0 ≤ x2 ∧ x2 / 10 < I 67 3) ∧ (x2 % 10 ≤ 4 ∧ 1 ≤ x3 ∧ x3 ≤ 100) ∧ (I 67 4 < 60 ∧ sm (fun k => if I 67 (900 + k) = x1 then I 67 (1080 + k) else 0) (I 67 4).toNat + x3 ≤ 100) → Q (some (am_I (I 67 4))) (sh b, am_up (am_up (am_up (am_up (am_up (am_up I 67 (900 + I 67 4) x1) 67 (960 + I 67 4) (x2 / 10)) 67 (1020 + I 67 4) (x2 % 10)) 67 (1080 + I 67 4) x3) 67 (1140 + I 67 4) (I 67 0)) 67 4 (I 67 4 + 1), L)) : am_m ro (d + 3) 181 [am_R 66, am_I x1, am_I x2, am_I x3] (sh b, I, L) Q := by
  have ct := Mo_ct hM
  obtain ⟨C, CL, hM0⟩ := id hM
  have ls := hM0.1.2.2.2.2.2.1
  have hbM : ∀ k, 0 ≤ k → k < I 67 4 → 0 ≤ I 67 (1080 + k) ∧ I 67 (1080 + k) ≤ 100 := fun k a1 a2 => by have w := ls.2.2.2.2 k a1 a2; omega
  have sbd : 0 ≤ sm (fun k => if I 67 (900 + k) = x1 then I 67 (1080 + k) else 0) (I 67 4).toNat ∧ sm (fun k => if I 67 (900 + k) = x1 then I 67 (1080 + k) else 0) (I 67 4).toNat ≤ 6000 := by
    have w := sm_bd (f := fun k => if I 67 (900 + k) = x1 then I 67 (1080 + k) else 0) (B := 100) (I 67 4).toNat (fun k a1 a2 => by
      have w := hbM k a1 (by omega)
      show 0 ≤ (if I 67 (900 + k) = x1 then I 67 (1080 + k) else 0) ∧ (if I 67 (900 + k) = x1 then I 67 (1080 + k) else 0) ≤ 100
      split <;> omega)
    omega
  refine am_in rfl rfl rfl rfl ?_
  refine b_M_share_0  (s_M_isEdition (by omega) (fun c1 => ?_) (fun c1 => ?_))
  · refine b_M_share_5  (fun c2 => absurd c2 (by decide)) (fun c2 => ?_)
    refine b_M_share_8  (fun c3 => ?_) (fun c3 => ?_)
    · refine b_M_share_23  (s_M_refuse (by omega) ?_)
      refine b_M_share_29  ?_
      try simp (disch := omega) only [upo, upm, ups, Int.add_sub_cancel]
      first | exact H1 (by omega) | exact H2 (by omega) | exact H3 (by omega) | exact H4 (by omega)
    · refine b_M_share_12 (by (try simp (disch := omega) only [upo, upm, ups, Int.add_sub_cancel]); omega) (s_M_isPerson (by omega) (fun c4 => ?_) (fun c4 => ?_))
      · refine b_M_share_20  (fun c5 => ?_) (fun c5 => absurd c5 (by decide))
        refine b_M_share_30 (by (try simp (disch := omega) only [upo, upm, ups, Int.add_sub_cancel]); omega) (fun c6 => ?_) (fun c6 => ?_)
        · refine b_M_share_48  (s_M_refuse (by omega) ?_)
          refine b_M_share_54  ?_
          try simp (disch := omega) only [upo, upm, ups, Int.add_sub_cancel]
          first | exact H1 (by omega) | exact H2 (by omega) | exact H3 (by omega) | exact H4 (by omega)
        · refine b_M_share_38  (s_M_in (fun c7 => ?_) (fun c7 => ?_))
          · refine b_M_share_45  (fun c8 => ?_) (fun c8 => absurd c8 (by decide))
            refine b_M_share_55  (fun c9 => ?_) (fun c9 => ?_)
            · refine b_M_share_78  (s_M_refuse (by omega) ?_)
              refine b_M_share_84  ?_
              try simp (disch := omega) only [upo, upm, ups, Int.add_sub_cancel]
              first | exact H1 (by omega) | exact H2 (by omega) | exact H3 (by omega) | exact H4 (by omega)
            · refine b_M_share_66  (s_M_partsOf (by omega) hbM ?_)
              refine b_M_share_71 (by (try simp (disch := omega) only [upo, upm, ups, Int.add_sub_cancel]); omega) (fun c10 => ?_) (fun c10 => ?_)
              · refine b_M_share_85 (by (try simp (disch := omega) only [upo, upm, ups, Int.add_sub_cancel]); omega) (by (try simp (disch := omega) only [upo, upm, ups, Int.add_sub_cancel]); omega) (by (try simp (disch := omega) only [upo, upm, ups, Int.add_sub_cancel]); omega) (by (try simp (disch := omega) only [upo, upm, ups, Int.add_sub_cancel]); omega) (by (try simp (disch := omega) only [upo, upm, ups, Int.add_sub_cancel]); omega) (by (try simp (disch := omega) only [upo, upm, ups, Int.add_sub_cancel]); omega) (by (try simp (disch := omega) only [upo, upm, ups, Int.add_sub_cancel]); omega) (by (try simp (disch := omega) only [upo, upm, ups, Int.add_sub_cancel]); omega) (by (try simp (disch := omega) only [upo, upm, ups, Int.add_sub_cancel]); omega) (by (try simp (disch := omega) only [upo, upm, ups, Int.add_sub_cancel]); omega) (by (try simp (disch := omega) only [upo, upm, ups, Int.add_sub_cancel]); omega) (by (try simp (disch := omega) only [upo, upm, ups, Int.add_sub_cancel]); omega) (by (try simp (disch := omega) only [upo, upm, ups, Int.add_sub_cancel]); omega) ?_
                try simp (disch := omega) only [upo, upm, ups, Int.add_sub_cancel]
                first | exact H1 (by omega) | exact H2 (by omega) | exact H3 (by omega) | exact H4 (by omega)
              · refine b_M_share_78  (s_M_refuse (by omega) ?_)
                refine b_M_share_84  ?_
                try simp (disch := omega) only [upo, upm, ups, Int.add_sub_cancel]
                first | exact H1 (by omega) | exact H2 (by omega) | exact H3 (by omega) | exact H4 (by omega)
          · refine b_M_share_45  (fun c11 => absurd c11 (by decide)) (fun c11 => ?_)
            refine b_M_share_48  (s_M_refuse (by omega) ?_)
            refine b_M_share_54  ?_
            try simp (disch := omega) only [upo, upm, ups, Int.add_sub_cancel]
            first | exact H1 (by omega) | exact H2 (by omega) | exact H3 (by omega) | exact H4 (by omega)
      · refine b_M_share_20  (fun c12 => absurd c12 (by decide)) (fun c12 => ?_)
        refine b_M_share_23  (s_M_refuse (by omega) ?_)
        refine b_M_share_29  ?_
        try simp (disch := omega) only [upo, upm, ups, Int.add_sub_cancel]
        first | exact H1 (by omega) | exact H2 (by omega) | exact H3 (by omega) | exact H4 (by omega)
  · refine b_M_share_5  (fun c13 => ?_) (fun c13 => absurd c13 (by decide))
    refine b_M_share_23  (s_M_refuse (by omega) ?_)
    refine b_M_share_29  ?_
    try simp (disch := omega) only [upo, upm, ups, Int.add_sub_cancel]
    first | exact H1 (by omega) | exact H2 (by omega) | exact H3 (by omega) | exact H4 (by omega)
set_option maxHeartbeats 400000 in
theorem A_share {ro : Nat → Int × (Int → Int)} {d : Nat} {b : Bool} {I L : Nat → Int → Int} {x1 x2 x3 : Int} (hI : Inv b I L) (hx : am_r x2) : am_m ro (d + 3) 13 [am_R 0, am_I x1, am_I x2, am_I x3] (sh b, I, L) (fun r h => am_m ro (d + 3) 181 [am_R 66, am_I x1, am_I x2, am_I x3] h (fun r2 h2 => Pair r r2 h2)) := by
  obtain ⟨⟨lo, ll, le, ld, lp, ls, lr, ly, lu, lq⟩, hk, hr, ht, hf, hcn⟩ := id hI
  have hr1 := hr.1
  have hr2 := hr.2.1
  have hr3 := hr.2.2.1
  have lo1 := lo.1
  have lo2 := lo.2
  have ll1 := ll.1
  have ll2 := ll.2.1
  have ll3 := ll.2.2.1
  have ld1 := ld.1
  have ld2 := ld.2.1
  have ld3 := ld.2.2.1
  have lp1 := lp.1
  have lp2 := lp.2.1
  have lp3 := lp.2.2.1
  have ls1 := ls.1
  have ls2 := ls.2.1
  have ls3 := ls.2.2.1
  have hC := Cor_of hI
  have ct := Cor_ct hC
  refine o_P_share hC hx (fun a => ?_) (fun a => ?_) (fun a => ?_) (fun a => ?_)
  all_goals refine o_M_share (by repeat (first | exact Mo_of hC | refine Mo_rf ?_ | refine Mo_up ?_ (by decide))) (fun a2 => ?_) (fun a2 => ?_) (fun a2 => ?_) (fun a2 => ?_)
  all_goals (try simp (disch := omega) only [upo, upm, ups, upn, rfm, rfn] at a2 ⊢)
  all_goals first
    | (exfalso; omega)
    | exact absurd a.2 a2.2
    | exact absurd a2.2 a.2
    | exact Pair_rf hI
    | exact ⟨_, b, _, L, rfl, by rw [ls1], rfl, Inv_ld hI ⟨lOp_fr lo (by (clear hI lo ll le ld lp ls lr ly lu lq hk hr ht hf hcn hC; (try simp (disch := omega) only [upo, upm, ups, upn]) <;> grind (gen := 16) (splits := 16) [am_up])) (by (clear hI lo ll le ld lp ls lr ly lu lq hk hr ht hf hcn hC; (try simp (disch := omega) only [upo, upm, ups, upn]) <;> grind (gen := 16) (splits := 16) [am_up])), lLib_fr ll ⟨by (clear hI lo ll le ld lp ls lr ly lu lq hk hr ht hf hcn hC; (try simp (disch := omega) only [upo, upm, ups, upn]) <;> grind (gen := 16) (splits := 16) [am_up]), by (clear hI lo ll le ld lp ls lr ly lu lq hk hr ht hf hcn hC; (try simp (disch := omega) only [upo, upm, ups, upn]) <;> grind (gen := 16) (splits := 16) [am_up]), by (clear hI lo ll le ld lp ls lr ly lu lq hk hr ht hf hcn hC; (try simp (disch := omega) only [upo, upm, ups, upn]) <;> grind (gen := 16) (splits := 16) [am_up])⟩ (by intro j hj; (clear hI lo ll le ld lp ls lr ly lu lq hk hr ht hf hcn hC; (try simp (disch := omega) only [upo, upm, ups, upn]) <;> grind (gen := 16) (splits := 16) [am_up])), lEnt_fr le ⟨by (clear hI lo ll le ld lp ls lr ly lu lq hk hr ht hf hcn hC; (try simp (disch := omega) only [upo, upm, ups, upn]) <;> grind (gen := 16) (splits := 16) [am_up]), by (clear hI lo ll le ld lp ls lr ly lu lq hk hr ht hf hcn hC; (try simp (disch := omega) only [upo, upm, ups, upn]) <;> grind (gen := 16) (splits := 16) [am_up]), by (clear hI lo ll le ld lp ls lr ly lu lq hk hr ht hf hcn hC; (try simp (disch := omega) only [upo, upm, ups, upn]) <;> grind (gen := 16) (splits := 16) [am_up]), by (clear hI lo ll le ld lp ls lr ly lu lq hk hr ht hf hcn hC; (try simp (disch := omega) only [upo, upm, ups, upn]) <;> grind (gen := 16) (splits := 16) [am_up])⟩ (by intro j hj; (clear hI lo ll le ld lp ls lr ly lu lq hk hr ht hf hcn hC; (try simp (disch := omega) only [upo, upm, ups, upn]) <;> grind (gen := 16) (splits := 16) [am_up])) (by omega) (by (clear hI lo ll le ld lp ls lr ly lu lq hk hr ht hf hcn hC; (try simp (disch := omega) only [upo, upm, ups, upn]) <;> grind (gen := 16) (splits := 16) [am_up])) (by (clear hI lo ll le ld lp ls lr ly lu lq hk hr ht hf hcn hC; (try simp (disch := omega) only [upo, upm, ups, upn]) <;> grind (gen := 16) (splits := 16) [am_up])) (by (clear hI lo ll le ld lp ls lr ly lu lq hk hr ht hf hcn hC; (try simp (disch := omega) only [upo, upm, ups, upn]) <;> grind (gen := 16) (splits := 16) [am_up])), lEd_fr ld ⟨by (clear hI lo ll le ld lp ls lr ly lu lq hk hr ht hf hcn hC; (try simp (disch := omega) only [upo, upm, ups, upn]) <;> grind (gen := 16) (splits := 16) [am_up]), by (clear hI lo ll le ld lp ls lr ly lu lq hk hr ht hf hcn hC; (try simp (disch := omega) only [upo, upm, ups, upn]) <;> grind (gen := 16) (splits := 16) [am_up]), by (clear hI lo ll le ld lp ls lr ly lu lq hk hr ht hf hcn hC; (try simp (disch := omega) only [upo, upm, ups, upn]) <;> grind (gen := 16) (splits := 16) [am_up]), by (clear hI lo ll le ld lp ls lr ly lu lq hk hr ht hf hcn hC; (try simp (disch := omega) only [upo, upm, ups, upn]) <;> grind (gen := 16) (splits := 16) [am_up]), by (clear hI lo ll le ld lp ls lr ly lu lq hk hr ht hf hcn hC; (try simp (disch := omega) only [upo, upm, ups, upn]) <;> grind (gen := 16) (splits := 16) [am_up])⟩ (by intro j hj; (clear hI lo ll le ld lp ls lr ly lu lq hk hr ht hf hcn hC; (try simp (disch := omega) only [upo, upm, ups, upn]) <;> grind (gen := 16) (splits := 16) [am_up])), lPeo_fr lp ⟨by (clear hI lo ll le ld lp ls lr ly lu lq hk hr ht hf hcn hC; (try simp (disch := omega) only [upo, upm, ups, upn]) <;> grind (gen := 16) (splits := 16) [am_up]), by (clear hI lo ll le ld lp ls lr ly lu lq hk hr ht hf hcn hC; (try simp (disch := omega) only [upo, upm, ups, upn]) <;> grind (gen := 16) (splits := 16) [am_up]), by (clear hI lo ll le ld lp ls lr ly lu lq hk hr ht hf hcn hC; (try simp (disch := omega) only [upo, upm, ups, upn]) <;> grind (gen := 16) (splits := 16) [am_up]), by (clear hI lo ll le ld lp ls lr ly lu lq hk hr ht hf hcn hC; (try simp (disch := omega) only [upo, upm, ups, upn]) <;> grind (gen := 16) (splits := 16) [am_up]), by (clear hI lo ll le ld lp ls lr ly lu lq hk hr ht hf hcn hC; (try simp (disch := omega) only [upo, upm, ups, upn]) <;> grind (gen := 16) (splits := 16) [am_up]), by (clear hI lo ll le ld lp ls lr ly lu lq hk hr ht hf hcn hC; (try simp (disch := omega) only [upo, upm, ups, upn]) <;> grind (gen := 16) (splits := 16) [am_up]), by (clear hI lo ll le ld lp ls lr ly lu lq hk hr ht hf hcn hC; (try simp (disch := omega) only [upo, upm, ups, upn]) <;> grind (gen := 16) (splits := 16) [am_up])⟩ (by intro j hj; (clear hI lo ll le ld lp ls lr ly lu lq hk hr ht hf hcn hC; (try simp (disch := omega) only [upo, upm, ups, upn]) <;> grind (gen := 16) (splits := 16) [am_up])), (by clear hI lo ll le ld lp lr ly lu lq hk hr ht hf hcn; obtain ⟨g1, g2, g3, g4, g5⟩ := ls; exact ⟨(by skip; clear g4 g5; (try simp (disch := omega) only [upo, upm, ups, upn]) <;> grind (gen := 16) (splits := 16) [am_up]), (by skip; clear g4 g5; (try simp (disch := omega) only [upo, upm, ups, upn]) <;> grind (gen := 16) (splits := 16) [am_up]), (by skip; clear g4 g5; (try simp (disch := omega) only [upo, upm, ups, upn]) <;> grind (gen := 16) (splits := 16) [am_up]), fun s a1 a2 => (by have w := g4 s a1 a2; clear g4 g5; (try simp (disch := omega) only [upo, upm, ups, upn]) <;> grind (gen := 16) (splits := 16) [am_up]), fun s a1 a2 => (by have a3 := a2; simp (disch := omega) only [upo, upm, ups] at a3; exact (if hE : s = I 67 4 then (by clear g4 g5; rw [hE]; simp (disch := omega) only [upo, upm, ups, and_true]; omega) else (by have w := g5 s a1 (by omega); clear g4 g5; simp (disch := omega) only [upo, upm, ups, and_true]; omega)))⟩), lRul_fr lr ⟨by (clear hI lo ll le ld lp ls lr ly lu lq hk hr ht hf hcn hC; (try simp (disch := omega) only [upo, upm, ups, upn]) <;> grind (gen := 16) (splits := 16) [am_up]), by (clear hI lo ll le ld lp ls lr ly lu lq hk hr ht hf hcn hC; (try simp (disch := omega) only [upo, upm, ups, upn]) <;> grind (gen := 16) (splits := 16) [am_up]), by (clear hI lo ll le ld lp ls lr ly lu lq hk hr ht hf hcn hC; (try simp (disch := omega) only [upo, upm, ups, upn]) <;> grind (gen := 16) (splits := 16) [am_up]), by (clear hI lo ll le ld lp ls lr ly lu lq hk hr ht hf hcn hC; (try simp (disch := omega) only [upo, upm, ups, upn]) <;> grind (gen := 16) (splits := 16) [am_up]), by (clear hI lo ll le ld lp ls lr ly lu lq hk hr ht hf hcn hC; (try simp (disch := omega) only [upo, upm, ups, upn]) <;> grind (gen := 16) (splits := 16) [am_up]), by (clear hI lo ll le ld lp ls lr ly lu lq hk hr ht hf hcn hC; (try simp (disch := omega) only [upo, upm, ups, upn]) <;> grind (gen := 16) (splits := 16) [am_up]), by (clear hI lo ll le ld lp ls lr ly lu lq hk hr ht hf hcn hC; (try simp (disch := omega) only [upo, upm, ups, upn]) <;> grind (gen := 16) (splits := 16) [am_up])⟩ (by intro j hj; (clear hI lo ll le ld lp ls lr ly lu lq hk hr ht hf hcn hC; (try simp (disch := omega) only [upo, upm, ups, upn]) <;> grind (gen := 16) (splits := 16) [am_up])) (by intro r k h1 h2 h3 h4; have lr8 := lr.2.1; have lr9 := lr.2.2.1; (clear hI lo ll le ld lp ls lr ly lu lq hk hr ht hf hcn hC; (try simp (disch := omega) only [upo, upm, ups, upn]) <;> grind (gen := 16) (splits := 16) [am_up])), lYr_fr ly ⟨by (clear hI lo ll le ld lp ls lr ly lu lq hk hr ht hf hcn hC; (try simp (disch := omega) only [upo, upm, ups, upn]) <;> grind (gen := 16) (splits := 16) [am_up]), by (clear hI lo ll le ld lp ls lr ly lu lq hk hr ht hf hcn hC; (try simp (disch := omega) only [upo, upm, ups, upn]) <;> grind (gen := 16) (splits := 16) [am_up]), by (clear hI lo ll le ld lp ls lr ly lu lq hk hr ht hf hcn hC; (try simp (disch := omega) only [upo, upm, ups, upn]) <;> grind (gen := 16) (splits := 16) [am_up])⟩ ⟨by (clear hI lo ll le ld lp ls lr ly lu lq hk hr ht hf hcn hC; (try simp (disch := omega) only [upo, upm, ups, upn]) <;> grind (gen := 16) (splits := 16) [am_up]), by (clear hI lo ll le ld lp ls lr ly lu lq hk hr ht hf hcn hC; (try simp (disch := omega) only [upo, upm, ups, upn]) <;> grind (gen := 16) (splits := 16) [am_up]), by (clear hI lo ll le ld lp ls lr ly lu lq hk hr ht hf hcn hC; (try simp (disch := omega) only [upo, upm, ups, upn]) <;> grind (gen := 16) (splits := 16) [am_up]), by (clear hI lo ll le ld lp ls lr ly lu lq hk hr ht hf hcn hC; (try simp (disch := omega) only [upo, upm, ups, upn]) <;> grind (gen := 16) (splits := 16) [am_up]), by (clear hI lo ll le ld lp ls lr ly lu lq hk hr ht hf hcn hC; (try simp (disch := omega) only [upo, upm, ups, upn]) <;> grind (gen := 16) (splits := 16) [am_up])⟩ (by intro j hj; (clear hI lo ll le ld lp ls lr ly lu lq hk hr ht hf hcn hC; (try simp (disch := omega) only [upo, upm, ups, upn]) <;> grind (gen := 16) (splits := 16) [am_up])) (by intro j hj; (clear hI lo ll le ld lp ls lr ly lu lq hk hr ht hf hcn hC; (try simp (disch := omega) only [upo, upm, ups, upn]) <;> grind (gen := 16) (splits := 16) [am_up])), lSum_sh (a := x1) (v := x3) lu (by omega) (by omega) (by (clear hI lo ll le ld lp ls lr ly lu lq hk hr ht hf hcn hC; (try simp (disch := omega) only [upo, upm, ups, upn]) <;> grind (gen := 16) (splits := 16) [am_up])) (by (clear hI lo ll le ld lp ls lr ly lu lq hk hr ht hf hcn hC; (try simp (disch := omega) only [upo, upm, ups, upn]) <;> grind (gen := 16) (splits := 16) [am_up])) (by (clear hI lo ll le ld lp ls lr ly lu lq hk hr ht hf hcn hC; (try simp (disch := omega) only [upo, upm, ups, upn]) <;> grind (gen := 16) (splits := 16) [am_up])) (by (clear hI lo ll le ld lp ls lr ly lu lq hk hr ht hf hcn hC; (try simp (disch := omega) only [upo, upm, ups, upn]) <;> grind (gen := 16) (splits := 16) [am_up])) (by (clear hI lo ll le ld lp ls lr ly lu lq hk hr ht hf hcn hC; (try simp (disch := omega) only [upo, upm, ups, upn]) <;> grind (gen := 16) (splits := 16) [am_up])) (by intro j hj hj2 hj3; (clear hI lo ll le ld lp ls lr ly lu lq hk hr ht hf hcn hC; (try simp (disch := omega) only [upo, upm, ups, upn]) <;> grind (gen := 16) (splits := 16) [am_up])), lQ_fr lq (by omega) (by (clear hI lo ll le ld lp ls lr ly lu lq hk hr ht hf hcn hC; (try simp (disch := omega) only [upo, upm, ups, upn]) <;> grind (gen := 16) (splits := 16) [am_up])) (by intro j hj; (clear hI lo ll le ld lp ls lr ly lu lq hk hr ht hf hcn hC; (try simp (disch := omega) only [upo, upm, ups, upn]) <;> grind (gen := 16) (splits := 16) [am_up]))⟩ (by (clear hI lo ll le ld lp ls lr ly lu lq hk hr ht hf hcn hC; (try simp (disch := omega) only [upo, upm, ups, upn]) <;> grind (gen := 16) (splits := 16) [am_up])) (by (clear hI lo ll le ld lp ls lr ly lu lq hk hr ht hf hcn hC; (try simp (disch := omega) only [upo, upm, ups, upn]) <;> grind (gen := 16) (splits := 16) [am_up])) (by intro k hz; (clear hI lo ll le ld lp ls lr ly lu lq hk hr ht hf hcn hC; (try simp (disch := omega) only [upo, upm, ups, upn]) <;> grind (gen := 16) (splits := 16) [am_up])) (by intro j hz; (clear hI lo ll le ld lp ls lr ly lu lq hk hr ht hf hcn hC; (try simp (disch := omega) only [upo, upm, ups, upn]) <;> grind (gen := 16) (splits := 16) [am_up])) (by intro k hz; (clear hI lo ll le ld lp ls lr ly lu lq hk hr ht hf hcn hC; (try simp (disch := omega) only [upo, upm, ups, upn]) <;> grind (gen := 16) (splits := 16) [am_up]))⟩
