/-! WEAKENING: what is known of locals may be forgotten; ends may be widened -/
def am_ll : List (Option am_V) → List (Option am_V) → Prop
  | [], [] => True
  | none :: a, _ :: b => am_ll a b
  | some v :: a, some w :: b => v = w ∧ am_ll a b
  | _, _ => False
theorem am_ll_rf : ∀ a : List (Option am_V), am_ll a a
  | [] => trivial
  | none :: a => am_ll_rf a
  | some _ :: a => ⟨rfl, am_ll_rf a⟩
theorem am_ll_nth : ∀ {a b : List (Option am_V)} {n : Nat} {v : am_V}, am_ll a b → am_nth a n = some (some v) → am_nth b n = some (some v)
  | [], _, _, _, _, h => by simp [am_nth] at h
  | none :: a, [], _, _, hl, _ => False.elim hl
  | none :: a, _ :: b, 0, _, _, h => by simp [am_nth] at h
  | none :: a, _ :: b, n + 1, _, hl, h => am_ll_nth (a := a) (b := b) (n := n) hl h
  | some u :: a, [], _, _, hl, _ => False.elim hl
  | some u :: a, none :: b, _, _, hl, _ => False.elim hl
  | some u :: a, some w :: b, 0, _, hl, h => by
    have e : u = w := hl.1
    subst e
    exact h
  | some u :: a, some w :: b, n + 1, _, hl, h => am_ll_nth (a := a) (b := b) (n := n) hl.2 h
theorem am_ll_set : ∀ {a b : List (Option am_V)} (n : Nat) (o : Option am_V), am_ll a b → am_ll (a.set n o) (b.set n o)
  | [], [], _, _, _ => trivial
  | [], _ :: _, _, _, h => False.elim h
  | none :: a, [], _, _, h => False.elim h
  | some _ :: a, [], _, _, h => False.elim h
  | none :: a, w :: b, 0, o, h => by cases o with
    | none => exact h
    | some v => exact ⟨rfl, h⟩
  | none :: a, _ :: b, n + 1, o, h => am_ll_set (a := a) (b := b) n o h
  | some u :: a, none :: b, _, _, h => False.elim h
  | some u :: a, some w :: b, 0, o, h => by cases o with
    | none => exact h.2
    | some v => exact ⟨rfl, h.2⟩
  | some u :: a, some w :: b, n + 1, o, h => ⟨h.1, am_ll_set (a := a) (b := b) n o h.2⟩
theorem am_ll_setN : ∀ {a b : List (Option am_V)} (n : Nat), am_ll a b → (∀ v, am_nth a n = some (some v) → False) → am_ll a (b.set n none)
  | [], [], _, _, _ => trivial
  | [], _ :: _, _, h, _ => False.elim h
  | none :: a, [], _, h, _ => False.elim h
  | some _ :: a, [], _, h, _ => False.elim h
  | none :: a, w :: b, 0, h, _ => h
  | none :: a, _ :: b, n + 1, h, q => am_ll_setN (a := a) (b := b) n h q
  | some u :: a, none :: b, _, h, _ => False.elim h
  | some u :: a, some w :: b, 0, h, q => (q u rfl).elim
  | some u :: a, some w :: b, n + 1, h, q => ⟨h.1, am_ll_setN (a := a) (b := b) n h.2 q⟩
theorem am_ll_kill {a b : List (Option am_V)} (i : Nat) (h : am_ll a b) : am_ll (am_kill a i) (am_kill b i) := by
  cases i with
  | zero => exact h
  | succ j =>
    simp only [am_kill]
    split
    · rename_i x hx
      rw [am_ll_nth h hx]
      exact am_ll_set j none h
    · rename_i hx
      split
      · rename_i x hx2
        refine am_ll_setN j h (fun v hv => ?_)
        have hv2 := am_ll_nth h hv
        rw [hx2] at hv2
        cases hv2
        exact hx _ hv
      · exact h
theorem am_ll_st1 {a b : List (Option am_V)} (i : Nat) (v : am_V) (h : am_ll a b) : am_ll (am_st1 a i v) (am_st1 b i v) := am_ll_set i _ (am_ll_kill i h)
theorem am_ll_st2 {a b : List (Option am_V)} (i : Nat) (v : am_V) (h : am_ll a b) : am_ll (am_st2 a i v) (am_st2 b i v) := am_ll_set (i + 1) _ (am_ll_set i _ (am_ll_kill i h))
def am_mono (cal : Nat → List am_V → am_H → (Option am_V → am_H → Prop) → Prop) : Prop := ∀ (n : Nat) (a : List am_V) (h : am_H) (Q Q2 : Option am_V → am_H → Prop), (∀ r h, Q r h → Q2 r h) → cal n a h Q → cal n a h Q2
theorem am_sw_to {P P2 : Nat → Prop} {x : Int} {d : Nat} (h : ∀ t, P t → P2 t) : ∀ sw : List (Int × Nat), am_sw P x d sw → am_sw P2 x d sw
  | [], k => h _ k
  | (_, _) :: r, k => ⟨fun e => h _ (k.1 e), fun e => am_sw_to h r (k.2 e)⟩
set_option maxHeartbeats 4000000 in
theorem am_step_mono {cal : Nat → List am_V → am_H → (Option am_V → am_H → Prop) → Prop} {ro : Nat → Int × (Int → Int)} {wr bz : Bool} {Q Q2 : Option am_V → am_H → Prop} {P P2 : am_S → Prop} {o : am_E} {pc : Nat} {lv lv2 : List (Option am_V)} {st : List am_V} {h : am_H} {bc bs : Nat} (hcal : am_mono cal) (hQ : ∀ r h, Q r h → Q2 r h) (hP : ∀ (pc : Nat) (lv : List (Option am_V)) (r : List am_V × am_H × Nat × Nat), P (pc, lv, r) → ∀ lv2, am_ll lv lv2 → P2 (pc, lv2, r)) (hle : am_ll lv lv2) (k : am_step cal ro wr bz Q P o (pc, lv, st, h, bc, bs)) : am_step cal ro wr bz Q2 P2 o (pc, lv2, st, h, bc, bs) := by
  obtain ⟨i, len, n1, n2, n3, n4, z, sw⟩ := o
  cases i with
  | iconst x =>
    exact hP _ _ _ k _ hle
  | bipush x =>
    exact hP _ _ _ k _ hle
  | sipush x =>
    exact hP _ _ _ k _ hle
  | lconst x =>
    exact hP _ _ _ k _ hle
  | ldc_w x =>
    exact hP _ _ _ k _ hle
  | ldc2_w x =>
    exact hP _ _ _ k _ hle
  | aconst_null =>
    exact hP _ _ _ k _ hle
  | goto x =>
    exact hP _ _ _ k _ hle
  | getstatic x =>
    exact hP _ _ _ k _ hle
  | ldc x =>
    cases n1 <;> exact hP _ _ _ k _ hle
  | iload x =>
    simp only [am_step] at k ⊢
    split at k
    · rename_i hx
      rw [am_ll_nth hle hx]
      exact hP _ _ _ k _ hle
    · exact k.elim
  | iload_n x =>
    simp only [am_step] at k ⊢
    split at k
    · rename_i hx
      rw [am_ll_nth hle hx]
      exact hP _ _ _ k _ hle
    · exact k.elim
  | lload x =>
    simp only [am_step] at k ⊢
    split at k
    · rename_i hx
      rw [am_ll_nth hle hx]
      exact hP _ _ _ k _ hle
    · exact k.elim
  | lload_n x =>
    simp only [am_step] at k ⊢
    split at k
    · rename_i hx
      rw [am_ll_nth hle hx]
      exact hP _ _ _ k _ hle
    · exact k.elim
  | aload x =>
    simp only [am_step] at k ⊢
    split at k
    · rename_i hx
      rw [am_ll_nth hle hx]
      exact hP _ _ _ k _ hle
    · rename_i hx
      rw [am_ll_nth hle hx]
      exact hP _ _ _ k _ hle
    · exact k.elim
  | aload_n x =>
    simp only [am_step] at k ⊢
    split at k
    · rename_i hx
      rw [am_ll_nth hle hx]
      exact hP _ _ _ k _ hle
    · rename_i hx
      rw [am_ll_nth hle hx]
      exact hP _ _ _ k _ hle
    · exact k.elim
  | istore x =>
    simp only [am_step] at k ⊢
    split at k
    · exact hP _ _ _ k _ (am_ll_st1 _ _ hle)
    · exact k.elim
  | istore_n x =>
    simp only [am_step] at k ⊢
    split at k
    · exact hP _ _ _ k _ (am_ll_st1 _ _ hle)
    · exact k.elim
  | astore x =>
    simp only [am_step] at k ⊢
    split at k
    · exact hP _ _ _ k _ (am_ll_st1 _ _ hle)
    · exact k.elim
  | astore_n x =>
    simp only [am_step] at k ⊢
    split at k
    · exact hP _ _ _ k _ (am_ll_st1 _ _ hle)
    · exact k.elim
  | lstore x =>
    simp only [am_step] at k ⊢
    split at k
    · exact hP _ _ _ k _ (am_ll_st2 _ _ hle)
    · exact k.elim
  | lstore_n x =>
    simp only [am_step] at k ⊢
    split at k
    · exact hP _ _ _ k _ (am_ll_st2 _ _ hle)
    · exact k.elim
  | iinc x n =>
    simp only [am_step] at k ⊢
    split at k
    · rename_i hx
      rw [am_ll_nth hle hx]
      cases wr
      · exact ⟨k.1, hP _ _ _ k.2 _ (am_ll_st1 _ _ hle)⟩
      · exact hP _ _ _ k _ (am_ll_st1 _ _ hle)
    · exact k.elim
  | iadd =>
    simp only [am_step] at k ⊢
    split at k
    · cases wr
      · exact ⟨k.1, hP _ _ _ k.2 _ hle⟩
      · exact hP _ _ _ k _ hle
    · exact k.elim
  | isub =>
    simp only [am_step] at k ⊢
    split at k
    · cases wr
      · exact ⟨k.1, hP _ _ _ k.2 _ hle⟩
      · exact hP _ _ _ k _ hle
    · exact k.elim
  | imul =>
    simp only [am_step] at k ⊢
    split at k
    · cases wr
      · exact ⟨k.1, hP _ _ _ k.2 _ hle⟩
      · exact hP _ _ _ k _ hle
    · exact k.elim
  | ineg =>
    simp only [am_step] at k ⊢
    split at k
    · cases wr
      · exact ⟨k.1, hP _ _ _ k.2 _ hle⟩
      · exact hP _ _ _ k _ hle
    · exact k.elim
  | ladd =>
    simp only [am_step] at k ⊢
    split at k
    · cases wr
      · exact ⟨k.1, hP _ _ _ k.2 _ hle⟩
      · exact hP _ _ _ k _ hle
    · exact k.elim
  | lsub =>
    simp only [am_step] at k ⊢
    split at k
    · cases wr
      · exact ⟨k.1, hP _ _ _ k.2 _ hle⟩
      · exact hP _ _ _ k _ hle
    · exact k.elim
  | lmul =>
    simp only [am_step] at k ⊢
    split at k
    · cases wr
      · exact ⟨k.1, hP _ _ _ k.2 _ hle⟩
      · exact hP _ _ _ k _ hle
    · exact k.elim
  | l2i =>
    simp only [am_step] at k ⊢
    split at k
    · cases wr
      · exact ⟨k.1, hP _ _ _ k.2 _ hle⟩
      · exact hP _ _ _ k _ hle
    · exact k.elim
  | idiv =>
    simp only [am_step] at k ⊢
    split at k
    · cases wr <;> exact ⟨k.1, hP _ _ _ k.2 _ hle⟩
    · exact k.elim
  | irem =>
    simp only [am_step] at k ⊢
    split at k
    · cases wr <;> exact ⟨k.1, hP _ _ _ k.2 _ hle⟩
    · exact k.elim
  | iand =>
    simp only [am_step] at k ⊢
    split at k
    · exact hP _ _ _ k _ hle
    · exact k.elim
  | ior =>
    simp only [am_step] at k ⊢
    split at k
    · exact hP _ _ _ k _ hle
    · exact k.elim
  | ixor =>
    simp only [am_step] at k ⊢
    split at k
    · exact hP _ _ _ k _ hle
    · exact k.elim
  | ishl =>
    simp only [am_step] at k ⊢
    split at k
    · exact hP _ _ _ k _ hle
    · exact k.elim
  | ishr =>
    simp only [am_step] at k ⊢
    split at k
    · exact hP _ _ _ k _ hle
    · exact k.elim
  | iushr =>
    simp only [am_step] at k ⊢
    split at k
    · exact hP _ _ _ k _ hle
    · exact k.elim
  | lor =>
    simp only [am_step] at k ⊢
    split at k
    · exact hP _ _ _ k _ hle
    · exact k.elim
  | lshl =>
    simp only [am_step] at k ⊢
    split at k
    · exact hP _ _ _ k _ hle
    · exact k.elim
  | i2l =>
    simp only [am_step] at k ⊢
    split at k
    · exact hP _ _ _ k _ hle
    · exact k.elim
  | lcmp =>
    simp only [am_step] at k ⊢
    split at k
    · exact hP _ _ _ k _ hle
    · exact k.elim
  | dup2 =>
    simp only [am_step] at k ⊢
    split at k
    · exact hP _ _ _ k _ hle
    · exact k.elim
  | pop =>
    simp only [am_step] at k ⊢
    split at k
    · exact hP _ _ _ k _ hle
    · exact k.elim
  | pop2 =>
    simp only [am_step] at k ⊢
    split at k
    · exact hP _ _ _ k _ hle
    · exact k.elim
  | ldiv =>
    simp only [am_step] at k ⊢
    split at k
    · exact ⟨k.1, hP _ _ _ k.2 _ hle⟩
    · exact k.elim
  | lrem =>
    simp only [am_step] at k ⊢
    split at k
    · exact ⟨k.1, hP _ _ _ k.2 _ hle⟩
    · exact k.elim
  | i2c =>
    simp only [am_step] at k ⊢
    split at k
    · exact ⟨k.1, hP _ _ _ k.2 _ hle⟩
    · exact k.elim
  | dup =>
    simp only [am_step] at k ⊢
    split at k
    · exact hP _ _ _ k _ hle
    · exact hP _ _ _ k _ hle
    · exact k.elim
  | if_icmp c x =>
    simp only [am_step] at k ⊢
    split at k
    · exact ⟨fun q => hP _ _ _ (k.1 q) _ hle, fun q => hP _ _ _ (k.2 q) _ hle⟩
    · exact k.elim
  | ifCond c x =>
    simp only [am_step] at k ⊢
    split at k
    · exact ⟨fun q => hP _ _ _ (k.1 q) _ hle, fun q => hP _ _ _ (k.2 q) _ hle⟩
    · exact ⟨fun q => hP _ _ _ (k.1 q) _ hle, fun q => hP _ _ _ (k.2 q) _ hle⟩
    · exact k.elim
  | ifnonnull x =>
    simp only [am_step] at k ⊢
    split at k
    · exact hP _ _ _ k _ hle
    · exact hP _ _ _ k _ hle
    · exact k.elim
  | tableswitch a b c d =>
    simp only [am_step] at k ⊢
    split at k
    · exact am_sw_to (fun t ht => hP _ _ _ ht _ hle) _ k
    · exact k.elim
  | lookupswitch a b =>
    simp only [am_step] at k ⊢
    split at k
    · exact am_sw_to (fun t ht => hP _ _ _ ht _ hle) _ k
    · exact k.elim
  | ireturn =>
    simp only [am_step] at k ⊢
    split at k
    · cases bz
      · exact hQ _ _ k
      · exact ⟨k.1, hQ _ _ k.2⟩
    · exact k.elim
  | lreturn =>
    simp only [am_step] at k ⊢
    split at k
    · exact hQ _ _ k
    · exact k.elim
  | return_ =>
    simp only [am_step] at k ⊢
    split at k
    · exact hQ _ _ k
    · exact k.elim
  | getfield x =>
    simp only [am_step] at k ⊢
    repeat' split at k
    all_goals first | exact k.elim | exact hP _ _ _ k _ hle | exact ⟨k.1, hP _ _ _ k.2 _ hle⟩ | exact ⟨k.1, k.2.1, hP _ _ _ k.2.2 _ hle⟩ | (simp only [*]; exact hP _ _ _ k _ hle) | (simp only [*]; exact ⟨k.1, hP _ _ _ k.2 _ hle⟩) | (simp only [*]; exact ⟨k.1, k.2.1, hP _ _ _ k.2.2 _ hle⟩)
  | putfield x =>
    simp only [am_step] at k ⊢
    repeat' split at k
    all_goals first | exact k.elim | exact hP _ _ _ k _ hle | exact ⟨k.1, hP _ _ _ k.2 _ hle⟩ | exact ⟨k.1, k.2.1, hP _ _ _ k.2.2 _ hle⟩ | (simp only [*]; exact hP _ _ _ k _ hle) | (simp only [*]; exact ⟨k.1, hP _ _ _ k.2 _ hle⟩) | (simp only [*]; exact ⟨k.1, k.2.1, hP _ _ _ k.2.2 _ hle⟩)
  | iaload =>
    simp only [am_step] at k ⊢
    repeat' split at k
    all_goals first | exact k.elim | exact hP _ _ _ k _ hle | exact ⟨k.1, hP _ _ _ k.2 _ hle⟩ | exact ⟨k.1, k.2.1, hP _ _ _ k.2.2 _ hle⟩ | (simp only [*]; exact hP _ _ _ k _ hle) | (simp only [*]; exact ⟨k.1, hP _ _ _ k.2 _ hle⟩) | (simp only [*]; exact ⟨k.1, k.2.1, hP _ _ _ k.2.2 _ hle⟩)
  | baload =>
    simp only [am_step] at k ⊢
    repeat' split at k
    all_goals first | exact k.elim | exact hP _ _ _ k _ hle | exact ⟨k.1, hP _ _ _ k.2 _ hle⟩ | exact ⟨k.1, k.2.1, hP _ _ _ k.2.2 _ hle⟩ | (simp only [*]; exact hP _ _ _ k _ hle) | (simp only [*]; exact ⟨k.1, hP _ _ _ k.2 _ hle⟩) | (simp only [*]; exact ⟨k.1, k.2.1, hP _ _ _ k.2.2 _ hle⟩)
  | laload =>
    simp only [am_step] at k ⊢
    repeat' split at k
    all_goals first | exact k.elim | exact hP _ _ _ k _ hle | exact ⟨k.1, hP _ _ _ k.2 _ hle⟩ | exact ⟨k.1, k.2.1, hP _ _ _ k.2.2 _ hle⟩ | (simp only [*]; exact hP _ _ _ k _ hle) | (simp only [*]; exact ⟨k.1, hP _ _ _ k.2 _ hle⟩) | (simp only [*]; exact ⟨k.1, k.2.1, hP _ _ _ k.2.2 _ hle⟩)
  | iastore =>
    simp only [am_step] at k ⊢
    repeat' split at k
    all_goals first | exact k.elim | exact hP _ _ _ k _ hle | exact ⟨k.1, hP _ _ _ k.2 _ hle⟩ | exact ⟨k.1, k.2.1, hP _ _ _ k.2.2 _ hle⟩ | (simp only [*]; exact hP _ _ _ k _ hle) | (simp only [*]; exact ⟨k.1, hP _ _ _ k.2 _ hle⟩) | (simp only [*]; exact ⟨k.1, k.2.1, hP _ _ _ k.2.2 _ hle⟩)
  | bastore =>
    simp only [am_step] at k ⊢
    repeat' split at k
    all_goals first | exact k.elim | exact hP _ _ _ k _ hle | exact ⟨k.1, hP _ _ _ k.2 _ hle⟩ | exact ⟨k.1, k.2.1, hP _ _ _ k.2.2 _ hle⟩ | (simp only [*]; exact hP _ _ _ k _ hle) | (simp only [*]; exact ⟨k.1, hP _ _ _ k.2 _ hle⟩) | (simp only [*]; exact ⟨k.1, k.2.1, hP _ _ _ k.2.2 _ hle⟩)
  | lastore =>
    simp only [am_step] at k ⊢
    repeat' split at k
    all_goals first | exact k.elim | exact hP _ _ _ k _ hle | exact ⟨k.1, hP _ _ _ k.2 _ hle⟩ | exact ⟨k.1, k.2.1, hP _ _ _ k.2.2 _ hle⟩ | (simp only [*]; exact hP _ _ _ k _ hle) | (simp only [*]; exact ⟨k.1, hP _ _ _ k.2 _ hle⟩) | (simp only [*]; exact ⟨k.1, k.2.1, hP _ _ _ k.2.2 _ hle⟩)
  | arraylength =>
    simp only [am_step] at k ⊢
    repeat' split at k
    all_goals first | exact k.elim | exact hP _ _ _ k _ hle | exact ⟨k.1, hP _ _ _ k.2 _ hle⟩ | exact ⟨k.1, k.2.1, hP _ _ _ k.2.2 _ hle⟩ | (simp only [*]; exact hP _ _ _ k _ hle) | (simp only [*]; exact ⟨k.1, hP _ _ _ k.2 _ hle⟩) | (simp only [*]; exact ⟨k.1, k.2.1, hP _ _ _ k.2.2 _ hle⟩)
  | newarray x =>
    simp only [am_step] at k ⊢
    repeat' split at k
    all_goals first | exact k.elim | exact hP _ _ _ k _ hle | exact ⟨k.1, hP _ _ _ k.2 _ hle⟩ | exact ⟨k.1, k.2.1, hP _ _ _ k.2.2 _ hle⟩ | (simp only [*]; exact hP _ _ _ k _ hle) | (simp only [*]; exact ⟨k.1, hP _ _ _ k.2 _ hle⟩) | (simp only [*]; exact ⟨k.1, k.2.1, hP _ _ _ k.2.2 _ hle⟩)
  | new x =>
    simp only [am_step] at k ⊢
    repeat' split at k
    all_goals first | exact k.elim | exact hP _ _ _ k _ hle | exact ⟨k.1, hP _ _ _ k.2 _ hle⟩ | exact ⟨k.1, k.2.1, hP _ _ _ k.2.2 _ hle⟩ | (simp only [*]; exact hP _ _ _ k _ hle) | (simp only [*]; exact ⟨k.1, hP _ _ _ k.2 _ hle⟩) | (simp only [*]; exact ⟨k.1, k.2.1, hP _ _ _ k.2.2 _ hle⟩)
  | invokevirtual x =>
    simp only [am_step] at k ⊢
    repeat' split at k
    all_goals first | exact k.elim | exact hP _ _ _ k _ hle | exact ⟨k.1, hP _ _ _ k.2 _ hle⟩ | exact hcal _ _ _ _ _ (fun r h q => hP _ _ _ q _ hle) k | exact ⟨k.1, hcal _ _ _ _ _ (fun r h q => hP _ _ _ q _ hle) k.2⟩ | (simp only [*]; exact hP _ _ _ k _ hle) | (simp only [*]; exact ⟨k.1, hP _ _ _ k.2 _ hle⟩) | (simp only [*]; exact hcal _ _ _ _ _ (fun r h q => hP _ _ _ q _ hle) k) | (simp only [*]; exact ⟨k.1, hcal _ _ _ _ _ (fun r h q => hP _ _ _ q _ hle) k.2⟩)
  | invokestatic x =>
    simp only [am_step] at k ⊢
    repeat' split at k
    all_goals first | exact k.elim | exact hP _ _ _ k _ hle | exact ⟨k.1, hP _ _ _ k.2 _ hle⟩ | exact hcal _ _ _ _ _ (fun r h q => hP _ _ _ q _ hle) k | exact ⟨k.1, hcal _ _ _ _ _ (fun r h q => hP _ _ _ q _ hle) k.2⟩ | (simp only [*]; exact hP _ _ _ k _ hle) | (simp only [*]; exact ⟨k.1, hP _ _ _ k.2 _ hle⟩) | (simp only [*]; exact hcal _ _ _ _ _ (fun r h q => hP _ _ _ q _ hle) k) | (simp only [*]; exact ⟨k.1, hcal _ _ _ _ _ (fun r h q => hP _ _ _ q _ hle) k.2⟩)
  | invokespecial x =>
    simp only [am_step] at k ⊢
    repeat' split at k
    all_goals first | exact k.elim | exact hP _ _ _ k _ hle | exact ⟨k.1, hP _ _ _ k.2 _ hle⟩ | exact hcal _ _ _ _ _ (fun r h q => hP _ _ _ q _ hle) k | exact ⟨k.1, hcal _ _ _ _ _ (fun r h q => hP _ _ _ q _ hle) k.2⟩ | (simp only [*]; exact hP _ _ _ k _ hle) | (simp only [*]; exact ⟨k.1, hP _ _ _ k.2 _ hle⟩) | (simp only [*]; exact hcal _ _ _ _ _ (fun r h q => hP _ _ _ q _ hle) k) | (simp only [*]; exact ⟨k.1, hcal _ _ _ _ _ (fun r h q => hP _ _ _ q _ hle) k.2⟩)
  | _ => exact False.elim k
section AMW
variable {cal : Nat → List am_V → am_H → (Option am_V → am_H → Prop) → Prop} {ro : Nat → Int × (Int → Int)} {M : am_M} {Q Q2 : Option am_V → am_H → Prop} {pc : Nat} {lv lv2 : List (Option am_V)} {r : List am_V × am_H × Nat × Nat}
theorem am_weakQ (hcal : am_mono cal) (hQ : ∀ r h, Q r h → Q2 r h) (hle : am_ll lv lv2) (hx : am_ex cal ro M Q (pc, lv, r)) : am_ex cal ro M Q2 (pc, lv2, r) := by
  refine hx (fun t => ∀ lv2, am_ll t.2.1 lv2 → am_ex cal ro M Q2 (t.1, lv2, t.2.2)) ?_ lv2 hle
  intro t P' hP hst lv3 hle3
  obtain ⟨pc, lv, st, h, bc, bs⟩ := t
  refine am_one ?_
  unfold am_st at hst ⊢
  split at hst
  · rename_i o ho
    have ho : am_at M.1 pc = some o := ho
    show (match am_at M.1 pc with
      | some o => am_step cal ro M.2.1 M.2.2 Q2 (am_ex cal ro M Q2) o (pc, lv3, st, h, bc, bs)
      | none => False)
    rw [ho]
    exact am_step_mono hcal hQ (fun pc lv r k lv2 hle => hP (pc, lv, r) k lv2 hle) hle3 hst
  · exact False.elim hst
end AMW
theorem am_m_mono (ro : Nat → Int × (Int → Int)) : ∀ d : Nat, am_mono (am_m ro d)
  | 0 => fun _ _ _ _ _ _ h => h
  | d + 1 => by
    intro n a h Q Q2 hQ hm
    have hm : (match am_nth am_Ms n, Nat.ble (am_la a).length (am_mx n) with
      | some M, true => am_ex (am_m ro d) ro M Q (0, am_lv (am_mx n) a, [], h, (am_al n).1, (am_al n).2)
      | _, _ => False) := hm
    show (match am_nth am_Ms n, Nat.ble (am_la a).length (am_mx n) with
      | some M, true => am_ex (am_m ro d) ro M Q2 (0, am_lv (am_mx n) a, [], h, (am_al n).1, (am_al n).2)
      | _, _ => False)
    split at hm
    · exact am_weakQ (am_m_mono ro d) hQ (am_ll_rf _) hm
    · exact False.elim hm
theorem am_weak {ro : Nat → Int × (Int → Int)} {d : Nat} {M : am_M} {Q : Option am_V → am_H → Prop} {pc : Nat} {lv lv2 : List (Option am_V)} {r : List am_V × am_H × Nat × Nat} (hle : am_ll lv lv2) (hx : am_ex (am_m ro d) ro M Q (pc, lv, r)) : am_ex (am_m ro d) ro M Q (pc, lv2, r) := am_weakQ (am_m_mono ro d) (fun _ _ q => q) hle hx
theorem am_wk {ro : Nat → Int × (Int → Int)} {d : Nat} {M : am_M} {Q : Option am_V → am_H → Prop} {pc : Nat} {lv lv2 : List (Option am_V)} {r : List am_V × am_H × Nat × Nat} (hx : am_ex (am_m ro d) ro M Q (pc, lv, r)) (hle : am_ll lv lv2) : am_ex (am_m ro d) ro M Q (pc, lv2, r) := am_weak hle hx
theorem am_call {ro : Nat → Int × (Int → Int)} {d n : Nat} {a : List am_V} {h : am_H} {Q Q2 : Option am_V → am_H → Prop} (hm : am_m ro d n a h Q) (hQ : ∀ r h, Q r h → Q2 r h) : am_m ro d n a h Q2 := am_m_mono ro d n a h Q Q2 hQ hm
