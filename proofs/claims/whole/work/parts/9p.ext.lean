/-! WHAT A RUN KEEPS: the classes of the cells; and of what kind an answer is -/
def am_xt (S S2 : List am_K) : Prop := ∀ (k ci : Nat) (fs : List am_F), am_nth S k = some (.inr (ci, fs)) → ∃ fs2 : List am_F, am_nth S2 k = some (.inr (ci, fs2))
theorem am_xt_rf {S : List am_K} : am_xt S S := fun _ _ fs h => ⟨fs, h⟩
theorem am_xt_tr {S S2 S3 : List am_K} (h : am_xt S S2) (h2 : am_xt S2 S3) : am_xt S S3 := fun k ci fs q => by
  obtain ⟨f2, q2⟩ := h k ci fs q
  exact h2 k ci f2 q2
theorem am_xt_app {S S0 : List am_K} {c : am_K} (h : am_xt S0 S) : am_xt S0 (S ++ [c]) := am_xt_tr h (fun k ci fs q => ⟨fs, by
  rw [am_nth_eq] at q ⊢
  rw [List.getElem?_append_left (by
    rcases Nat.lt_or_ge k S.length with h | h
    · exact h
    · rw [List.getElem?_eq_none h] at q
      cases q)]
  exact q⟩)
theorem am_xt_set {S S0 : List am_K} {a ci : Nat} {fs f2 : List am_F} (h : am_xt S0 S) (ha : am_nth S a = some (.inr (ci, fs))) : am_xt S0 (S.set a (.inr (ci, f2))) := am_xt_tr h (fun k cj gs q => by
  rw [am_nth_eq] at q ha
  by_cases e : a = k
  · subst e
    rw [ha] at q
    cases q
    refine ⟨f2, ?_⟩
    rw [am_nth_eq, List.getElem?_set_self (by
      rcases Nat.lt_or_ge a S.length with h | h
      · exact h
      · rw [List.getElem?_eq_none h] at ha
        cases ha)]
  · refine ⟨gs, ?_⟩
    rw [am_nth_eq, List.getElem?_set_ne e]
    exact q)
def am_kx (cal : Nat → List am_V → am_H → (Option am_V → am_H → Prop) → Prop) : Prop := ∀ (n : Nat) (a : List am_V) (h : am_H) (Q : Option am_V → am_H → Prop), cal n a h Q → cal n a h (fun r h2 => Q r h2 ∧ am_xt h.1 h2.1)
set_option maxHeartbeats 4000000 in
theorem am_step_ext {cal : Nat → List am_V → am_H → (Option am_V → am_H → Prop) → Prop} {ro : Nat → Int × (Int → Int)} {wr bz : Bool} {Q Q2 : Option am_V → am_H → Prop} {P P2 : am_S → Prop} {o : am_E} {pc : Nat} {lv : List (Option am_V)} {st : List am_V} {h : am_H} {bc bs : Nat} {S0 : List am_K} (hcal : am_mono cal) (hext : am_kx cal) (hQI : o.1 = .ireturn → ∀ x h2, Q (some (am_I x)) h2 → am_xt S0 h2.1 → Q2 (some (am_I x)) h2) (hQL : o.1 = .lreturn → ∀ x h2, Q (some (am_L x)) h2 → am_xt S0 h2.1 → Q2 (some (am_L x)) h2) (hQV : o.1 = .return_ → ∀ h2, Q none h2 → am_xt S0 h2.1 → Q2 none h2) (hP : ∀ (pc : Nat) (lv : List (Option am_V)) (st : List am_V) (h : am_H) (bc bs : Nat), P (pc, lv, st, h, bc, bs) → am_xt S0 h.1 → P2 (pc, lv, st, h, bc, bs)) (hE : am_xt S0 h.1) (k : am_step cal ro wr bz Q P o (pc, lv, st, h, bc, bs)) : am_step cal ro wr bz Q2 P2 o (pc, lv, st, h, bc, bs) := by
  obtain ⟨i, len, n1, n2, n3, n4, z, sw⟩ := o
  cases i with
  | iconst x =>
    exact hP _ _ _ _ _ _ k hE
  | bipush x =>
    exact hP _ _ _ _ _ _ k hE
  | sipush x =>
    exact hP _ _ _ _ _ _ k hE
  | lconst x =>
    exact hP _ _ _ _ _ _ k hE
  | ldc_w x =>
    exact hP _ _ _ _ _ _ k hE
  | ldc2_w x =>
    exact hP _ _ _ _ _ _ k hE
  | aconst_null =>
    exact hP _ _ _ _ _ _ k hE
  | goto x =>
    exact hP _ _ _ _ _ _ k hE
  | getstatic x =>
    exact hP _ _ _ _ _ _ k hE
  | ldc x =>
    cases n1 <;> exact hP _ _ _ _ _ _ k hE
  | iload x =>
    simp only [am_step] at k ⊢
    split at k
    · rename_i hx
      try rw [hx]
      exact hP _ _ _ _ _ _ k hE
    · exact k.elim
  | iload_n x =>
    simp only [am_step] at k ⊢
    split at k
    · rename_i hx
      try rw [hx]
      exact hP _ _ _ _ _ _ k hE
    · exact k.elim
  | lload x =>
    simp only [am_step] at k ⊢
    split at k
    · rename_i hx
      try rw [hx]
      exact hP _ _ _ _ _ _ k hE
    · exact k.elim
  | lload_n x =>
    simp only [am_step] at k ⊢
    split at k
    · rename_i hx
      try rw [hx]
      exact hP _ _ _ _ _ _ k hE
    · exact k.elim
  | aload x =>
    simp only [am_step] at k ⊢
    split at k
    · rename_i hx
      try rw [hx]
      exact hP _ _ _ _ _ _ k hE
    · rename_i hx
      try rw [hx]
      exact hP _ _ _ _ _ _ k hE
    · exact k.elim
  | aload_n x =>
    simp only [am_step] at k ⊢
    split at k
    · rename_i hx
      try rw [hx]
      exact hP _ _ _ _ _ _ k hE
    · rename_i hx
      try rw [hx]
      exact hP _ _ _ _ _ _ k hE
    · exact k.elim
  | istore x =>
    simp only [am_step] at k ⊢
    split at k
    · exact hP _ _ _ _ _ _ k hE
    · exact k.elim
  | istore_n x =>
    simp only [am_step] at k ⊢
    split at k
    · exact hP _ _ _ _ _ _ k hE
    · exact k.elim
  | astore x =>
    simp only [am_step] at k ⊢
    split at k
    · exact hP _ _ _ _ _ _ k hE
    · exact k.elim
  | astore_n x =>
    simp only [am_step] at k ⊢
    split at k
    · exact hP _ _ _ _ _ _ k hE
    · exact k.elim
  | lstore x =>
    simp only [am_step] at k ⊢
    split at k
    · exact hP _ _ _ _ _ _ k hE
    · exact k.elim
  | lstore_n x =>
    simp only [am_step] at k ⊢
    split at k
    · exact hP _ _ _ _ _ _ k hE
    · exact k.elim
  | iinc x n =>
    simp only [am_step] at k ⊢
    split at k
    · rename_i hx
      try rw [hx]
      cases wr
      · exact ⟨k.1, hP _ _ _ _ _ _ k.2 hE⟩
      · exact hP _ _ _ _ _ _ k hE
    · exact k.elim
  | iadd =>
    simp only [am_step] at k ⊢
    split at k
    · cases wr
      · exact ⟨k.1, hP _ _ _ _ _ _ k.2 hE⟩
      · exact hP _ _ _ _ _ _ k hE
    · exact k.elim
  | isub =>
    simp only [am_step] at k ⊢
    split at k
    · cases wr
      · exact ⟨k.1, hP _ _ _ _ _ _ k.2 hE⟩
      · exact hP _ _ _ _ _ _ k hE
    · exact k.elim
  | imul =>
    simp only [am_step] at k ⊢
    split at k
    · cases wr
      · exact ⟨k.1, hP _ _ _ _ _ _ k.2 hE⟩
      · exact hP _ _ _ _ _ _ k hE
    · exact k.elim
  | ineg =>
    simp only [am_step] at k ⊢
    split at k
    · cases wr
      · exact ⟨k.1, hP _ _ _ _ _ _ k.2 hE⟩
      · exact hP _ _ _ _ _ _ k hE
    · exact k.elim
  | ladd =>
    simp only [am_step] at k ⊢
    split at k
    · cases wr
      · exact ⟨k.1, hP _ _ _ _ _ _ k.2 hE⟩
      · exact hP _ _ _ _ _ _ k hE
    · exact k.elim
  | lsub =>
    simp only [am_step] at k ⊢
    split at k
    · cases wr
      · exact ⟨k.1, hP _ _ _ _ _ _ k.2 hE⟩
      · exact hP _ _ _ _ _ _ k hE
    · exact k.elim
  | lmul =>
    simp only [am_step] at k ⊢
    split at k
    · cases wr
      · exact ⟨k.1, hP _ _ _ _ _ _ k.2 hE⟩
      · exact hP _ _ _ _ _ _ k hE
    · exact k.elim
  | l2i =>
    simp only [am_step] at k ⊢
    split at k
    · cases wr
      · exact ⟨k.1, hP _ _ _ _ _ _ k.2 hE⟩
      · exact hP _ _ _ _ _ _ k hE
    · exact k.elim
  | idiv =>
    simp only [am_step] at k ⊢
    split at k
    · cases wr <;> exact ⟨k.1, hP _ _ _ _ _ _ k.2 hE⟩
    · exact k.elim
  | irem =>
    simp only [am_step] at k ⊢
    split at k
    · cases wr <;> exact ⟨k.1, hP _ _ _ _ _ _ k.2 hE⟩
    · exact k.elim
  | iand =>
    simp only [am_step] at k ⊢
    split at k
    · exact hP _ _ _ _ _ _ k hE
    · exact k.elim
  | ior =>
    simp only [am_step] at k ⊢
    split at k
    · exact hP _ _ _ _ _ _ k hE
    · exact k.elim
  | ixor =>
    simp only [am_step] at k ⊢
    split at k
    · exact hP _ _ _ _ _ _ k hE
    · exact k.elim
  | ishl =>
    simp only [am_step] at k ⊢
    split at k
    · exact hP _ _ _ _ _ _ k hE
    · exact k.elim
  | ishr =>
    simp only [am_step] at k ⊢
    split at k
    · exact hP _ _ _ _ _ _ k hE
    · exact k.elim
  | iushr =>
    simp only [am_step] at k ⊢
    split at k
    · exact hP _ _ _ _ _ _ k hE
    · exact k.elim
  | lor =>
    simp only [am_step] at k ⊢
    split at k
    · exact hP _ _ _ _ _ _ k hE
    · exact k.elim
  | lshl =>
    simp only [am_step] at k ⊢
    split at k
    · exact hP _ _ _ _ _ _ k hE
    · exact k.elim
  | i2l =>
    simp only [am_step] at k ⊢
    split at k
    · exact hP _ _ _ _ _ _ k hE
    · exact k.elim
  | lcmp =>
    simp only [am_step] at k ⊢
    split at k
    · exact hP _ _ _ _ _ _ k hE
    · exact k.elim
  | dup2 =>
    simp only [am_step] at k ⊢
    split at k
    · exact hP _ _ _ _ _ _ k hE
    · exact k.elim
  | pop =>
    simp only [am_step] at k ⊢
    split at k
    · exact hP _ _ _ _ _ _ k hE
    · exact k.elim
  | pop2 =>
    simp only [am_step] at k ⊢
    split at k
    · exact hP _ _ _ _ _ _ k hE
    · exact k.elim
  | ldiv =>
    simp only [am_step] at k ⊢
    split at k
    · exact ⟨k.1, hP _ _ _ _ _ _ k.2 hE⟩
    · exact k.elim
  | lrem =>
    simp only [am_step] at k ⊢
    split at k
    · exact ⟨k.1, hP _ _ _ _ _ _ k.2 hE⟩
    · exact k.elim
  | i2c =>
    simp only [am_step] at k ⊢
    split at k
    · exact ⟨k.1, hP _ _ _ _ _ _ k.2 hE⟩
    · exact k.elim
  | dup =>
    simp only [am_step] at k ⊢
    split at k
    · exact hP _ _ _ _ _ _ k hE
    · exact hP _ _ _ _ _ _ k hE
    · exact k.elim
  | if_icmp c x =>
    simp only [am_step] at k ⊢
    split at k
    · exact ⟨fun q => hP _ _ _ _ _ _ (k.1 q) hE, fun q => hP _ _ _ _ _ _ (k.2 q) hE⟩
    · exact k.elim
  | ifCond c x =>
    simp only [am_step] at k ⊢
    split at k
    · exact ⟨fun q => hP _ _ _ _ _ _ (k.1 q) hE, fun q => hP _ _ _ _ _ _ (k.2 q) hE⟩
    · exact ⟨fun q => hP _ _ _ _ _ _ (k.1 q) hE, fun q => hP _ _ _ _ _ _ (k.2 q) hE⟩
    · exact k.elim
  | ifnonnull x =>
    simp only [am_step] at k ⊢
    split at k
    · exact hP _ _ _ _ _ _ k hE
    · exact hP _ _ _ _ _ _ k hE
    · exact k.elim
  | tableswitch a b c d =>
    simp only [am_step] at k ⊢
    split at k
    · exact am_sw_to (fun t ht => hP _ _ _ _ _ _ ht hE) _ k
    · exact k.elim
  | lookupswitch a b =>
    simp only [am_step] at k ⊢
    split at k
    · exact am_sw_to (fun t ht => hP _ _ _ _ _ _ ht hE) _ k
    · exact k.elim
  | ireturn =>
    simp only [am_step] at k ⊢
    split at k
    · cases bz
      · exact hQI rfl _ _ k hE
      · exact ⟨k.1, hQI rfl _ _ k.2 hE⟩
    · exact k.elim
  | lreturn =>
    simp only [am_step] at k ⊢
    split at k
    · exact hQL rfl _ _ k hE
    · exact k.elim
  | return_ =>
    simp only [am_step] at k ⊢
    split at k
    · exact hQV rfl _ k hE
    · exact k.elim
  | getfield x =>
    simp only [am_step] at k ⊢
    repeat' split at k
    all_goals first | exact k.elim | exact hP _ _ _ _ _ _ k hE | exact ⟨k.1, hP _ _ _ _ _ _ k.2 hE⟩ | exact ⟨k.1, k.2.1, hP _ _ _ _ _ _ k.2.2 hE⟩ | (simp only [*]; exact hP _ _ _ _ _ _ k hE) | (simp only [*]; exact ⟨k.1, hP _ _ _ _ _ _ k.2 hE⟩) | (simp only [*]; exact ⟨k.1, k.2.1, hP _ _ _ _ _ _ k.2.2 hE⟩)
  | iaload =>
    simp only [am_step] at k ⊢
    repeat' split at k
    all_goals first | exact k.elim | exact hP _ _ _ _ _ _ k hE | exact ⟨k.1, hP _ _ _ _ _ _ k.2 hE⟩ | exact ⟨k.1, k.2.1, hP _ _ _ _ _ _ k.2.2 hE⟩ | (simp only [*]; exact hP _ _ _ _ _ _ k hE) | (simp only [*]; exact ⟨k.1, hP _ _ _ _ _ _ k.2 hE⟩) | (simp only [*]; exact ⟨k.1, k.2.1, hP _ _ _ _ _ _ k.2.2 hE⟩)
  | baload =>
    simp only [am_step] at k ⊢
    repeat' split at k
    all_goals first | exact k.elim | exact hP _ _ _ _ _ _ k hE | exact ⟨k.1, hP _ _ _ _ _ _ k.2 hE⟩ | exact ⟨k.1, k.2.1, hP _ _ _ _ _ _ k.2.2 hE⟩ | (simp only [*]; exact hP _ _ _ _ _ _ k hE) | (simp only [*]; exact ⟨k.1, hP _ _ _ _ _ _ k.2 hE⟩) | (simp only [*]; exact ⟨k.1, k.2.1, hP _ _ _ _ _ _ k.2.2 hE⟩)
  | laload =>
    simp only [am_step] at k ⊢
    repeat' split at k
    all_goals first | exact k.elim | exact hP _ _ _ _ _ _ k hE | exact ⟨k.1, hP _ _ _ _ _ _ k.2 hE⟩ | exact ⟨k.1, k.2.1, hP _ _ _ _ _ _ k.2.2 hE⟩ | (simp only [*]; exact hP _ _ _ _ _ _ k hE) | (simp only [*]; exact ⟨k.1, hP _ _ _ _ _ _ k.2 hE⟩) | (simp only [*]; exact ⟨k.1, k.2.1, hP _ _ _ _ _ _ k.2.2 hE⟩)
  | iastore =>
    simp only [am_step] at k ⊢
    repeat' split at k
    all_goals first | exact k.elim | exact hP _ _ _ _ _ _ k hE | exact ⟨k.1, hP _ _ _ _ _ _ k.2 hE⟩ | exact ⟨k.1, k.2.1, hP _ _ _ _ _ _ k.2.2 hE⟩ | (simp only [*]; exact hP _ _ _ _ _ _ k hE) | (simp only [*]; exact ⟨k.1, hP _ _ _ _ _ _ k.2 hE⟩) | (simp only [*]; exact ⟨k.1, k.2.1, hP _ _ _ _ _ _ k.2.2 hE⟩)
  | bastore =>
    simp only [am_step] at k ⊢
    repeat' split at k
    all_goals first | exact k.elim | exact hP _ _ _ _ _ _ k hE | exact ⟨k.1, hP _ _ _ _ _ _ k.2 hE⟩ | exact ⟨k.1, k.2.1, hP _ _ _ _ _ _ k.2.2 hE⟩ | (simp only [*]; exact hP _ _ _ _ _ _ k hE) | (simp only [*]; exact ⟨k.1, hP _ _ _ _ _ _ k.2 hE⟩) | (simp only [*]; exact ⟨k.1, k.2.1, hP _ _ _ _ _ _ k.2.2 hE⟩)
  | lastore =>
    simp only [am_step] at k ⊢
    repeat' split at k
    all_goals first | exact k.elim | exact hP _ _ _ _ _ _ k hE | exact ⟨k.1, hP _ _ _ _ _ _ k.2 hE⟩ | exact ⟨k.1, k.2.1, hP _ _ _ _ _ _ k.2.2 hE⟩ | (simp only [*]; exact hP _ _ _ _ _ _ k hE) | (simp only [*]; exact ⟨k.1, hP _ _ _ _ _ _ k.2 hE⟩) | (simp only [*]; exact ⟨k.1, k.2.1, hP _ _ _ _ _ _ k.2.2 hE⟩)
  | arraylength =>
    simp only [am_step] at k ⊢
    repeat' split at k
    all_goals first | exact k.elim | exact hP _ _ _ _ _ _ k hE | exact ⟨k.1, hP _ _ _ _ _ _ k.2 hE⟩ | exact ⟨k.1, k.2.1, hP _ _ _ _ _ _ k.2.2 hE⟩ | (simp only [*]; exact hP _ _ _ _ _ _ k hE) | (simp only [*]; exact ⟨k.1, hP _ _ _ _ _ _ k.2 hE⟩) | (simp only [*]; exact ⟨k.1, k.2.1, hP _ _ _ _ _ _ k.2.2 hE⟩)
  | putfield x =>
    simp only [am_step] at k ⊢
    repeat' split at k
    all_goals first | exact k.elim | exact hP _ _ _ _ _ _ k hE | exact ⟨k.1, hP _ _ _ _ _ _ k.2 hE⟩ | exact ⟨k.1, k.2.1, hP _ _ _ _ _ _ k.2.2 hE⟩ | (simp only [*]; exact hP _ _ _ _ _ _ k hE) | (simp only [*]; exact ⟨k.1, hP _ _ _ _ _ _ k.2 hE⟩) | (simp only [*]; exact ⟨k.1, k.2.1, hP _ _ _ _ _ _ k.2.2 hE⟩) | (exact hP _ _ _ _ _ _ k (am_xt_set hE (by assumption))) | (refine hP _ _ _ _ _ _ k (am_xt_set hE ?_); assumption) | (simp only [*]; rename_i e1 _ _ _ _ _ _; exact hP _ _ _ _ _ _ k (am_xt_set hE e1)) | (simp only [*]; refine hP _ _ _ _ _ _ k (am_xt_set hE ?_); assumption) | (simp only [*]; refine hP _ _ _ _ _ _ k (am_xt_set (fs := _) hE (by assumption)))
  | newarray x =>
    simp only [am_step] at k ⊢
    repeat' split at k
    all_goals first | exact k.elim | exact ⟨k.1, hP _ _ _ _ _ _ k.2 (am_xt_app hE)⟩ | (simp only [*]; exact ⟨k.1, hP _ _ _ _ _ _ k.2 (am_xt_app hE)⟩)
  | new x =>
    simp only [am_step] at k ⊢
    repeat' split at k
    all_goals first | exact k.elim | exact ⟨k.1, hP _ _ _ _ _ _ k.2 (am_xt_app hE)⟩ | (simp only [*]; exact ⟨k.1, hP _ _ _ _ _ _ k.2 (am_xt_app hE)⟩)
  | invokevirtual x =>
    simp only [am_step] at k ⊢
    repeat' split at k
    all_goals first | exact k.elim | exact hP _ _ _ _ _ _ k hE | exact ⟨k.1, hP _ _ _ _ _ _ k.2 hE⟩ | exact hcal _ _ _ _ _ (fun r h q => hP _ _ _ _ _ _ q.1 (am_xt_tr hE q.2)) (hext _ _ _ _ k) | exact ⟨k.1, hcal _ _ _ _ _ (fun r h q => hP _ _ _ _ _ _ q.1 (am_xt_tr hE q.2)) (hext _ _ _ _ k.2)⟩ | (simp only [*]; exact hP _ _ _ _ _ _ k hE) | (simp only [*]; exact ⟨k.1, hP _ _ _ _ _ _ k.2 hE⟩) | (simp only [*]; exact hcal _ _ _ _ _ (fun r h q => hP _ _ _ _ _ _ q.1 (am_xt_tr hE q.2)) (hext _ _ _ _ k)) | (simp only [*]; exact ⟨k.1, hcal _ _ _ _ _ (fun r h q => hP _ _ _ _ _ _ q.1 (am_xt_tr hE q.2)) (hext _ _ _ _ k.2)⟩)
  | invokestatic x =>
    simp only [am_step] at k ⊢
    repeat' split at k
    all_goals first | exact k.elim | exact hP _ _ _ _ _ _ k hE | exact ⟨k.1, hP _ _ _ _ _ _ k.2 hE⟩ | exact hcal _ _ _ _ _ (fun r h q => hP _ _ _ _ _ _ q.1 (am_xt_tr hE q.2)) (hext _ _ _ _ k) | exact ⟨k.1, hcal _ _ _ _ _ (fun r h q => hP _ _ _ _ _ _ q.1 (am_xt_tr hE q.2)) (hext _ _ _ _ k.2)⟩ | (simp only [*]; exact hP _ _ _ _ _ _ k hE) | (simp only [*]; exact ⟨k.1, hP _ _ _ _ _ _ k.2 hE⟩) | (simp only [*]; exact hcal _ _ _ _ _ (fun r h q => hP _ _ _ _ _ _ q.1 (am_xt_tr hE q.2)) (hext _ _ _ _ k)) | (simp only [*]; exact ⟨k.1, hcal _ _ _ _ _ (fun r h q => hP _ _ _ _ _ _ q.1 (am_xt_tr hE q.2)) (hext _ _ _ _ k.2)⟩)
  | invokespecial x =>
    simp only [am_step] at k ⊢
    repeat' split at k
    all_goals first | exact k.elim | exact hP _ _ _ _ _ _ k hE | exact ⟨k.1, hP _ _ _ _ _ _ k.2 hE⟩ | exact hcal _ _ _ _ _ (fun r h q => hP _ _ _ _ _ _ q.1 (am_xt_tr hE q.2)) (hext _ _ _ _ k) | exact ⟨k.1, hcal _ _ _ _ _ (fun r h q => hP _ _ _ _ _ _ q.1 (am_xt_tr hE q.2)) (hext _ _ _ _ k.2)⟩ | (simp only [*]; exact hP _ _ _ _ _ _ k hE) | (simp only [*]; exact ⟨k.1, hP _ _ _ _ _ _ k.2 hE⟩) | (simp only [*]; exact hcal _ _ _ _ _ (fun r h q => hP _ _ _ _ _ _ q.1 (am_xt_tr hE q.2)) (hext _ _ _ _ k)) | (simp only [*]; exact ⟨k.1, hcal _ _ _ _ _ (fun r h q => hP _ _ _ _ _ _ q.1 (am_xt_tr hE q.2)) (hext _ _ _ _ k.2)⟩)
  | _ => exact False.elim k
/-- of what kind a method's answers are -/
def am_rtI (l : List (Nat × am_E)) : Bool := l.all (fun q => match q.2.1 with
  | .lreturn => false
  | .return_ => false
  | _ => true)
def am_rtL (l : List (Nat × am_E)) : Bool := l.all (fun q => match q.2.1 with
  | .ireturn => false
  | .return_ => false
  | _ => true)
theorem am_at_mem {pc : Nat} {o : am_E} : ∀ (l : List (Nat × am_E)), am_at l pc = some o → (pc, o) ∈ l
  | [], h => by simp [am_at] at h
  | (q, e) :: r, h => by
    simp only [am_at] at h
    split at h
    · rename_i hq
      have : q = pc := Nat.eq_of_beq_eq_true hq
      subst this
      cases h
      exact List.mem_cons_self
    · exact List.mem_cons_of_mem _ (am_at_mem r h)
theorem am_ex_ext {cal : Nat → List am_V → am_H → (Option am_V → am_H → Prop) → Prop} {ro : Nat → Int × (Int → Int)} {M : am_M} {Q Q2 : Option am_V → am_H → Prop} {S0 : List am_K} (hcal : am_mono cal) (hext : am_kx cal) (hQI : ∀ pc o, am_at M.1 pc = some o → o.1 = .ireturn → ∀ x h2, Q (some (am_I x)) h2 → am_xt S0 h2.1 → Q2 (some (am_I x)) h2) (hQL : ∀ pc o, am_at M.1 pc = some o → o.1 = .lreturn → ∀ x h2, Q (some (am_L x)) h2 → am_xt S0 h2.1 → Q2 (some (am_L x)) h2) (hQV : ∀ pc o, am_at M.1 pc = some o → o.1 = .return_ → ∀ h2, Q none h2 → am_xt S0 h2.1 → Q2 none h2) {s : am_S} (hE : am_xt S0 s.2.2.2.1.1) (hx : am_ex cal ro M Q s) : am_ex cal ro M Q2 s := by
  refine hx (fun t => am_xt S0 t.2.2.2.1.1 → am_ex cal ro M Q2 t) ?_ hE
  intro t P' hP hst hE2
  obtain ⟨pc, lv, st, h, bc, bs⟩ := t
  refine am_one ?_
  unfold am_st at hst ⊢
  split at hst
  · rename_i o ho
    have ho : am_at M.1 pc = some o := ho
    exact am_step_ext hcal hext (hQI pc o ho) (hQL pc o ho) (hQV pc o ho) (fun pc lv st h bc bs k e => hP (pc, lv, st, h, bc, bs) k e) hE2 hst
  · exact False.elim hst
theorem am_m_ext (ro : Nat → Int × (Int → Int)) : ∀ d : Nat, am_kx (am_m ro d)
  | 0 => fun _ _ _ _ h => h
  | d + 1 => by
    intro n a h Q hm
    have hm : (match am_nth am_Ms n, Nat.ble (am_la a).length (am_mx n) with
      | some M, true => am_ex (am_m ro d) ro M Q (0, am_lv (am_mx n) a, [], h, (am_al n).1, (am_al n).2)
      | _, _ => False) := hm
    show (match am_nth am_Ms n, Nat.ble (am_la a).length (am_mx n) with
      | some M, true => am_ex (am_m ro d) ro M (fun r h2 => Q r h2 ∧ am_xt h.1 h2.1) (0, am_lv (am_mx n) a, [], h, (am_al n).1, (am_al n).2)
      | _, _ => False)
    split at hm
    · exact am_ex_ext (S0 := h.1) (am_m_mono ro d) (am_m_ext ro d) (fun _ _ _ _ _ _ q e => ⟨q, e⟩) (fun _ _ _ _ _ _ q e => ⟨q, e⟩) (fun _ _ _ _ _ q e => ⟨q, e⟩) am_xt_rf hm
    · exact False.elim hm
theorem am_mI {ro : Nat → Int × (Int → Int)} {d n : Nat} {a : List am_V} {h : am_H} {Q : Option am_V → am_H → Prop} {M : am_M} (hM : am_nth am_Ms n = some M) (ht : am_rtI M.1 = true) (hm : am_m ro (d + 1) n a h Q) : am_m ro (d + 1) n a h (fun r h2 => Q r h2 ∧ am_xt h.1 h2.1 ∧ ∃ x, r = some (am_I x)) := by
  have hm : (match am_nth am_Ms n, Nat.ble (am_la a).length (am_mx n) with
      | some M, true => am_ex (am_m ro d) ro M Q (0, am_lv (am_mx n) a, [], h, (am_al n).1, (am_al n).2)
      | _, _ => False) := hm
  show (match am_nth am_Ms n, Nat.ble (am_la a).length (am_mx n) with
      | some M, true => am_ex (am_m ro d) ro M (fun r h2 => Q r h2 ∧ am_xt h.1 h2.1 ∧ ∃ x, r = some (am_I x)) (0, am_lv (am_mx n) a, [], h, (am_al n).1, (am_al n).2)
      | _, _ => False)
  rw [hM] at hm ⊢
  split at hm
  · rename_i M2 hM2 hb
    cases hM2
    have ha := List.all_eq_true.mp ht
    refine am_ex_ext (S0 := h.1) (am_m_mono ro d) (am_m_ext ro d) (fun _ _ _ _ x _ q e => ⟨q, e, x, rfl⟩) (fun pc o ho hi => ?_) (fun pc o ho hi => ?_) am_xt_rf hm
    · have w := ha _ (am_at_mem _ ho)
      simp only [hi] at w
      cases w
    · have w := ha _ (am_at_mem _ ho)
      simp only [hi] at w
      cases w
  · exact False.elim hm
theorem am_mL {ro : Nat → Int × (Int → Int)} {d n : Nat} {a : List am_V} {h : am_H} {Q : Option am_V → am_H → Prop} {M : am_M} (hM : am_nth am_Ms n = some M) (ht : am_rtL M.1 = true) (hm : am_m ro (d + 1) n a h Q) : am_m ro (d + 1) n a h (fun r h2 => Q r h2 ∧ am_xt h.1 h2.1 ∧ ∃ x, r = some (am_L x)) := by
  have hm : (match am_nth am_Ms n, Nat.ble (am_la a).length (am_mx n) with
      | some M, true => am_ex (am_m ro d) ro M Q (0, am_lv (am_mx n) a, [], h, (am_al n).1, (am_al n).2)
      | _, _ => False) := hm
  show (match am_nth am_Ms n, Nat.ble (am_la a).length (am_mx n) with
      | some M, true => am_ex (am_m ro d) ro M (fun r h2 => Q r h2 ∧ am_xt h.1 h2.1 ∧ ∃ x, r = some (am_L x)) (0, am_lv (am_mx n) a, [], h, (am_al n).1, (am_al n).2)
      | _, _ => False)
  rw [hM] at hm ⊢
  split at hm
  · rename_i M2 hM2 hb
    cases hM2
    have ha := List.all_eq_true.mp ht
    refine am_ex_ext (S0 := h.1) (am_m_mono ro d) (am_m_ext ro d) (fun pc o ho hi => ?_) (fun _ _ _ _ x _ q e => ⟨q, e, x, rfl⟩) (fun pc o ho hi => ?_) am_xt_rf hm
    · have w := ha _ (am_at_mem _ ho)
      simp only [hi] at w
      cases w
    · have w := ha _ (am_at_mem _ ho)
      simp only [hi] at w
      cases w
  · exact False.elim hm
/-- a call whose receiver's cell is known by its class alone -/
theorem am_inv0 {cal : Nat → List am_V → am_H → (Option am_V → am_H → Prop) → Prop} {ro : Nat → Int × (Int → Int)} {M : am_M} {Q : Option am_V → am_H → Prop} {pc idx len n1 n2 n3 a : Nat} {z : Int} {sw : List (Int × Nat)} {lv : List (Option am_V)} {st : List am_V} {S : List am_K} {I L : Nat → Int → Int} {bc bs : Nat} {fs : List am_F} (ho : am_at M.1 pc = some (.invokevirtual idx, len, n1, n2, n3, 0, z, sw)) (h1 : am_nth st (n2 - 1) = some (am_R a)) (h2 : am_nth S a = some (.inr (n3, fs))) (h3 : Nat.ble (am_wd (st.drop n2)) 8 = true) (k : cal n1 (st.take n2).reverse (S, I, L) (fun r h1 => am_ex cal ro M Q (pc + 3, lv, am_push r (st.drop n2), h1, bc, bs))) : am_ex cal ro M Q (pc, lv, st, (S, I, L), bc, bs) := by
  refine am_one ?_
  unfold am_st
  show (match am_at M.1 pc with
    | some o => am_step cal ro M.2.1 M.2.2 Q (am_ex cal ro M Q) o (pc, lv, st, (S, I, L), bc, bs)
    | none => False)
  rw [ho]
  simp only [am_step, h1, h2, h3, show Nat.beq n3 n3 = true from by simp]
  exact k
