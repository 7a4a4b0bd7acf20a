theorem am_okl_at {mid pc : Nat} {o : am_E} : ∀ (l : List (Nat × am_E)) (ps : List Nat), am_okl mid l ps = true → am_at l pc = some o → ∃ pl, am_okb mid pc o pl = true
  | [], _, _, h => by simp [am_at] at h
  | _ :: _, [], h, _ => by simp [am_okl] at h
  | (q, e) :: r, pl :: ps, h, hat => by
    simp only [am_okl, Bool.and_eq_true] at h
    simp only [am_at] at hat
    split at hat
    · rename_i hq
      have : q = pc := Nat.eq_of_beq_eq_true hq
      subst this
      cases hat
      exact ⟨pl, h.1⟩
    · exact am_okl_at r ps h.2 hat
theorem am_beq {a b : Nat} (h : Nat.beq a b = true) : a = b := Nat.eq_of_beq_eq_true h
/-- an instruction that asks for a text -/
def am_isS : am_E → Bool
  | (.ldc _, _, n1, _, _, _, _, _) => match n1 with
    | 0 => false
    | _ => true
  | (.invokevirtual _, _, _, _, _, n4, _, _) => match n4 with
    | 0 => false
    | 1 => false
    | _ => true
  | _ => false
theorem am_sw_mono {P P2 : Nat → Prop} {x : Int} {d : Nat} (h : ∀ t, P t → P2 t) : ∀ sw : List (Int × Nat), am_sw P x d sw → am_sw P2 x d sw
  | [], k => h _ k
  | (_, _) :: r, k => ⟨fun e => h _ (k.1 e), fun e => am_sw_mono h r (k.2 e)⟩
section SO7
variable {p : Program} {l : Launch} {e : Env} {R : Room} {s : State} {m : MethodId} {args : Array Value} {below : List Frame} {meth : Method} {c : Code} {D : va_G} {A : Nat → Prop} {ro : Nat → Int × (Int → Int)} {ra ad0 : Nat → Nat} {n0 mid d mc ms : Nat} {QF : State → Prop}
variable {cal : Nat → List am_V → am_H → (Option am_V → am_H → Prop) → Prop} {M : am_M} {Q : Option am_V → am_H → Prop}
set_option maxHeartbeats 4000000 in
theorem am_closeI (X : am_Ctx p R s m args meth c A ro ra mid d mc ms) (hY : ∀ n, n < 258 → am_Yk n)
    (hcal : ∀ (n : Nat) (a : List am_V) (h : am_H) (Q' : Option am_V → am_H → Prop), n < 258 → cal n a h Q' → am_Sd l ro d n a h Q')
    (hRI : ∀ (pc : Nat) (lv : List (Option am_V)) (x : Int) (h : am_H) (bc bs : Nat), decode (am_by mid) pc = .ok (.ireturn, 1) → (am_rt mid = some .int ∨ am_rt mid = some .boolean) → am_bo M.2.2 x (Q (some (am_I x)) h) → am_Wp p l e R s m args below meth c D A ra ad0 n0 mid mc ms QF (pc, lv, [am_I x], h, bc, bs))
    (hRL : ∀ (pc : Nat) (lv : List (Option am_V)) (x : Int) (h : am_H) (bc bs : Nat), decode (am_by mid) pc = .ok (.lreturn, 1) → am_rt mid = some .long → Q (some (am_L x)) h → am_Wp p l e R s m args below meth c D A ra ad0 n0 mid mc ms QF (pc, lv, [am_L x], h, bc, bs))
    (hRV : ∀ (pc : Nat) (lv : List (Option am_V)) (h : am_H) (bc bs : Nat), decode (am_by mid) pc = .ok (.return_, 1) → am_rt mid = none → Q none h → am_Wp p l e R s m args below meth c D A ra ad0 n0 mid mc ms QF (pc, lv, [], h, bc, bs))
    (hStr : ∀ (pc pl : Nat) (o : am_E) (lv : List (Option am_V)) (st : List am_V) (h : am_H) (bc bs : Nat) (P' : am_S → Prop), am_isS o = true → am_okb mid pc o pl = true → (∀ u, P' u → am_Wp p l e R s m args below meth c D A ra ad0 n0 mid mc ms QF u) → am_step cal ro M.2.1 M.2.2 Q P' o (pc, lv, st, h, bc, bs) → am_Wp p l e R s m args below meth c D A ra ad0 n0 mid mc ms QF (pc, lv, st, h, bc, bs))
    {pc pl : Nat} {o : am_E} {lv : List (Option am_V)} {st : List am_V} {S : List am_K} {I L : Nat → Int → Int} {bc bs : Nat} {P' : am_S → Prop} (hok : am_okb mid pc o pl = true) (hP : ∀ u, P' u → am_Wp p l e R s m args below meth c D A ra ad0 n0 mid mc ms QF u) (h : am_step cal ro M.2.1 M.2.2 Q P' o (pc, lv, st, (S, I, L), bc, bs)) : am_Wp p l e R s m args below meth c D A ra ad0 n0 mid mc ms QF (pc, lv, st, (S, I, L), bc, bs) := by
  have hok0 := hok
  have h00 := h
  obtain ⟨i, len, n1, n2, n3, n4, z, sw⟩ := o
  cases i with
  | iconst x =>
    simp only [am_okb, Bool.and_eq_true, decide_eq_true_eq] at hok
    obtain ⟨hd, rfl, hr⟩ := hok
    exact am_s_iconst X hd hr (hP _ h)
  | bipush x =>
    simp only [am_okb, Bool.and_eq_true, decide_eq_true_eq] at hok
    obtain ⟨hd, ⟨rfl, hr⟩, hv⟩ := hok
    exact am_s_bipush X hd hr hv (hP _ h)
  | sipush x =>
    simp only [am_okb, Bool.and_eq_true, decide_eq_true_eq] at hok
    obtain ⟨hd, ⟨rfl, hr⟩, hv⟩ := hok
    exact am_s_sipush X hd hr hv (hP _ h)
  | lconst x =>
    simp only [am_okb, Bool.and_eq_true, decide_eq_true_eq] at hok
    obtain ⟨hd, ⟨rfl, hr⟩, hv⟩ := hok
    exact am_s_lconst X hd hr hv (hP _ h)
  | ldc idx =>
    cases n1 with
    | succ n => exact hStr pc pl _ lv st (S, I, L) bc bs P' rfl hok0 hP h00
    | zero =>
      simp only [am_okb, Bool.and_eq_true, decide_eq_true_eq] at hok
      obtain ⟨hd, rfl, hr, hw⟩ := hok
      exact am_s_ldc X hd hr (X.2.2.2.2.1 _ (am_tb (List.mem_of_getElem? hw))) (hP _ h)
  | ldc_w idx =>
    simp only [am_okb, Bool.and_eq_true, decide_eq_true_eq] at hok
    obtain ⟨hd, ⟨rfl, hr⟩, hw⟩ := hok
    exact am_s_ldcw X hd hr (X.2.2.2.2.1 _ (am_tb (List.mem_of_getElem? hw))) (hP _ h)
  | ldc2_w idx =>
    simp only [am_okb, Bool.and_eq_true, decide_eq_true_eq] at hok
    obtain ⟨hd, ⟨rfl, hr⟩, hw⟩ := hok
    exact am_s_ldc2 X hd hr (X.2.2.2.2.1 _ (am_tb (List.mem_of_getElem? hw))) (hP _ h)
  | aconst_null =>
    simp only [am_okb, Bool.and_eq_true, decide_eq_true_eq] at hok
    obtain ⟨hd, rfl⟩ := hok
    exact am_s_null X hd (hP _ h)
  | iload k =>
    simp only [am_okb, Bool.and_eq_true, decide_eq_true_eq] at hok
    obtain ⟨hd, rfl, rfl⟩ := hok
    simp only [am_step] at h
    split at h
    · rename_i y x hx
      rw [am_nth_eq] at hx
      exact am_s_iload X hd hx (hP _ h)
    · exact h.elim
  | iload_n k =>
    simp only [am_okb, Bool.and_eq_true, decide_eq_true_eq] at hok
    obtain ⟨hd, rfl, rfl⟩ := hok
    simp only [am_step] at h
    split at h
    · rename_i y x hx
      rw [am_nth_eq] at hx
      exact am_s_iload_n X hd hx (hP _ h)
    · exact h.elim
  | lload k =>
    simp only [am_okb, Bool.and_eq_true, decide_eq_true_eq] at hok
    obtain ⟨hd, rfl, rfl⟩ := hok
    simp only [am_step] at h
    split at h
    · rename_i y x hx
      rw [am_nth_eq] at hx
      exact am_s_lload X hd hx (hP _ h)
    · exact h.elim
  | lload_n k =>
    simp only [am_okb, Bool.and_eq_true, decide_eq_true_eq] at hok
    obtain ⟨hd, rfl, rfl⟩ := hok
    simp only [am_step] at h
    split at h
    · rename_i y x hx
      rw [am_nth_eq] at hx
      exact am_s_lload_n X hd hx (hP _ h)
    · exact h.elim
  | aload k =>
    simp only [am_okb, Bool.and_eq_true, decide_eq_true_eq] at hok
    obtain ⟨hd, rfl, rfl⟩ := hok
    simp only [am_step] at h
    split at h
    · rename_i y x hx
      rw [am_nth_eq] at hx
      exact am_s_aload X hd hx (hP _ h)
    · rename_i y x hx
      rw [am_nth_eq] at hx
      exact am_s_aloadO X hd hx (hP _ h)
    · exact h.elim
  | aload_n k =>
    simp only [am_okb, Bool.and_eq_true, decide_eq_true_eq] at hok
    obtain ⟨hd, rfl, rfl⟩ := hok
    simp only [am_step] at h
    split at h
    · rename_i y x hx
      rw [am_nth_eq] at hx
      exact am_s_aload_n X hd hx (hP _ h)
    · rename_i y x hx
      rw [am_nth_eq] at hx
      exact am_s_aload_nO X hd hx (hP _ h)
    · exact h.elim
  | istore k =>
    simp only [am_okb, Bool.and_eq_true, decide_eq_true_eq] at hok
    obtain ⟨hd, ⟨rfl, rfl⟩, hi⟩ := hok
    simp only [am_step] at h
    split at h
    · exact am_s_istore X hd hi (hP _ h)
    · exact h.elim
  | istore_n k =>
    simp only [am_okb, Bool.and_eq_true, decide_eq_true_eq] at hok
    obtain ⟨hd, ⟨rfl, rfl⟩, hi⟩ := hok
    simp only [am_step] at h
    split at h
    · exact am_s_istore_n X hd hi (hP _ h)
    · exact h.elim
  | lstore k =>
    simp only [am_okb, Bool.and_eq_true, decide_eq_true_eq] at hok
    obtain ⟨hd, ⟨rfl, rfl⟩, hi⟩ := hok
    simp only [am_step] at h
    split at h
    · exact am_s_lstore X hd hi (hP _ h)
    · exact h.elim
  | lstore_n k =>
    simp only [am_okb, Bool.and_eq_true, decide_eq_true_eq] at hok
    obtain ⟨hd, ⟨rfl, rfl⟩, hi⟩ := hok
    simp only [am_step] at h
    split at h
    · exact am_s_lstore_n X hd hi (hP _ h)
    · exact h.elim
  | astore k =>
    simp only [am_okb, Bool.and_eq_true, decide_eq_true_eq] at hok
    obtain ⟨hd, ⟨rfl, rfl⟩, hi⟩ := hok
    simp only [am_step] at h
    split at h
    · exact am_s_astore X hd hi (hP _ h)
    · exact h.elim
  | astore_n k =>
    simp only [am_okb, Bool.and_eq_true, decide_eq_true_eq] at hok
    obtain ⟨hd, ⟨rfl, rfl⟩, hi⟩ := hok
    simp only [am_step] at h
    split at h
    · exact am_s_astore_n X hd hi (hP _ h)
    · exact h.elim
  | iinc k n =>
    simp only [am_okb, Bool.and_eq_true, decide_eq_true_eq] at hok
    obtain ⟨hd, ⟨rfl, rfl⟩, hi⟩ := hok
    simp only [am_step] at h
    split at h
    · rename_i y x hx
      rw [am_nth_eq] at hx
      cases hw : M.2.1 <;> rw [hw] at h
      · exact am_s_iinc X hd hi hx rfl h.1 (hP _ h.2)
      · exact am_s_iinc X hd hi hx (am_w_of _) (am_w_r _) (hP _ h)
    · exact h.elim
  | iadd =>
    simp only [am_okb, Bool.and_eq_true, decide_eq_true_eq] at hok
    obtain ⟨hd, rfl⟩ := hok
    simp only [am_step] at h
    split at h
    · rename_i b a st
      cases hw : M.2.1 <;> rw [hw] at h
      · exact am_s_iadd X hd (fun _ _ => Int32.ofInt_add a b) (fun _ _ => h.1) (hP _ h.2)
      · exact am_s_iadd X hd (fun _ _ => (am_w_of _).trans (Int32.ofInt_add a b)) (fun _ _ => am_w_r _) (hP _ h)
    · exact h.elim
  | isub =>
    simp only [am_okb, Bool.and_eq_true, decide_eq_true_eq] at hok
    obtain ⟨hd, rfl⟩ := hok
    simp only [am_step] at h
    split at h
    · rename_i b a st
      cases hw : M.2.1 <;> rw [hw] at h
      · exact am_s_isub X hd (fun _ _ => Int32.ofInt_sub a b) (fun _ _ => h.1) (hP _ h.2)
      · exact am_s_isub X hd (fun _ _ => (am_w_of _).trans (Int32.ofInt_sub a b)) (fun _ _ => am_w_r _) (hP _ h)
    · exact h.elim
  | imul =>
    simp only [am_okb, Bool.and_eq_true, decide_eq_true_eq] at hok
    obtain ⟨hd, rfl⟩ := hok
    simp only [am_step] at h
    split at h
    · rename_i b a st
      cases hw : M.2.1 <;> rw [hw] at h
      · exact am_s_imul X hd (fun _ _ => Int32.ofInt_mul a b) (fun _ _ => h.1) (hP _ h.2)
      · exact am_s_imul X hd (fun _ _ => (am_w_of _).trans (Int32.ofInt_mul a b)) (fun _ _ => am_w_r _) (hP _ h)
    · exact h.elim
  | ineg =>
    simp only [am_okb, Bool.and_eq_true, decide_eq_true_eq] at hok
    obtain ⟨hd, rfl⟩ := hok
    simp only [am_step] at h
    split at h
    · rename_i a st
      cases hw : M.2.1 <;> rw [hw] at h
      · exact am_s_ineg X hd rfl h.1 (hP _ h.2)
      · exact am_s_ineg X hd (am_w_of _) (am_w_r _) (hP _ h)
    · exact h.elim
  | idiv =>
    simp only [am_okb, Bool.and_eq_true, decide_eq_true_eq] at hok
    obtain ⟨hd, rfl⟩ := hok
    simp only [am_step] at h
    split at h
    · rename_i b a st
      cases hw : M.2.1 <;> rw [hw] at h
      · exact am_s_idiv X hd (by have := h.1.2; omega) (fun ha hb => by rw [am_divI ha hb, am_tdiv h.1.1]) (fun ha _ => am_div_r h.1 ha) (hP _ h.2)
      · exact am_s_idiv X hd h.1 (fun ha hb => by rw [am_divI ha hb, am_w_of]) (fun _ _ => am_w_r _) (hP _ h.2)
    · exact h.elim
  | irem =>
    simp only [am_okb, Bool.and_eq_true, decide_eq_true_eq] at hok
    obtain ⟨hd, rfl⟩ := hok
    simp only [am_step] at h
    split at h
    · rename_i b a st
      cases hw : M.2.1 <;> rw [hw] at h
      · have hb0 : ¬ b = 0 := by have := h.1.2; omega
        exact am_s_irem X hd hb0 (fun ha hb => by rw [am_remI ha hb hb0, am_tmod h.1.1]) (fun _ hb => am_mod_r h.1 hb) (hP _ h.2)
      · exact am_s_irem X hd h.1 (fun ha hb => by rw [am_remI ha hb h.1]) (fun ha _ => am_tmod_r h.1 ha) (hP _ h.2)
    · exact h.elim
  | iand =>
    simp only [am_okb, Bool.and_eq_true, decide_eq_true_eq] at hok
    obtain ⟨hd, rfl⟩ := hok
    simp only [am_step] at h
    split at h
    · exact am_s_iand X hd (fun _ _ => Int32.ofInt_toInt _) (fun _ _ => am_t_r _) (hP _ h)
    · exact h.elim
  | ior =>
    simp only [am_okb, Bool.and_eq_true, decide_eq_true_eq] at hok
    obtain ⟨hd, rfl⟩ := hok
    simp only [am_step] at h
    split at h
    · exact am_s_ior X hd (fun _ _ => Int32.ofInt_toInt _) (fun _ _ => am_t_r _) (hP _ h)
    · exact h.elim
  | ixor =>
    simp only [am_okb, Bool.and_eq_true, decide_eq_true_eq] at hok
    obtain ⟨hd, rfl⟩ := hok
    simp only [am_step] at h
    split at h
    · exact am_s_ixor X hd (fun _ _ => Int32.ofInt_toInt _) (fun _ _ => am_t_r _) (hP _ h)
    · exact h.elim
  | ishl =>
    simp only [am_okb, Bool.and_eq_true, decide_eq_true_eq] at hok
    obtain ⟨hd, rfl⟩ := hok
    simp only [am_step] at h
    split at h
    · exact am_s_ishl X hd (fun _ _ => Int32.ofInt_toInt _) (fun _ _ => am_t_r _) (hP _ h)
    · exact h.elim
  | ishr =>
    simp only [am_okb, Bool.and_eq_true, decide_eq_true_eq] at hok
    obtain ⟨hd, rfl⟩ := hok
    simp only [am_step] at h
    split at h
    · exact am_s_ishr X hd (fun _ _ => Int32.ofInt_toInt _) (fun _ _ => am_t_r _) (hP _ h)
    · exact h.elim
  | iushr =>
    simp only [am_okb, Bool.and_eq_true, decide_eq_true_eq] at hok
    obtain ⟨hd, rfl⟩ := hok
    simp only [am_step] at h
    split at h
    · exact am_s_iushr X hd (hP _ h)
    · exact h.elim
  | ladd =>
    simp only [am_okb, Bool.and_eq_true, decide_eq_true_eq] at hok
    obtain ⟨hd, rfl⟩ := hok
    simp only [am_step] at h
    split at h
    · rename_i b a st
      cases hw : M.2.1 <;> rw [hw] at h
      · exact am_s_ladd X hd (fun _ _ => Int64.ofInt_add a b) (fun _ _ => h.1) (hP _ h.2)
      · exact am_s_ladd X hd (fun _ _ => (am_wl_of _).trans (Int64.ofInt_add a b)) (fun _ _ => am_t_rl _) (hP _ h)
    · exact h.elim
  | lsub =>
    simp only [am_okb, Bool.and_eq_true, decide_eq_true_eq] at hok
    obtain ⟨hd, rfl⟩ := hok
    simp only [am_step] at h
    split at h
    · rename_i b a st
      cases hw : M.2.1 <;> rw [hw] at h
      · exact am_s_lsub X hd (fun _ _ => Int64.ofInt_sub a b) (fun _ _ => h.1) (hP _ h.2)
      · exact am_s_lsub X hd (fun _ _ => (am_wl_of _).trans (Int64.ofInt_sub a b)) (fun _ _ => am_t_rl _) (hP _ h)
    · exact h.elim
  | lmul =>
    simp only [am_okb, Bool.and_eq_true, decide_eq_true_eq] at hok
    obtain ⟨hd, rfl⟩ := hok
    simp only [am_step] at h
    split at h
    · rename_i b a st
      cases hw : M.2.1 <;> rw [hw] at h
      · exact am_s_lmul X hd (fun _ _ => Int64.ofInt_mul a b) (fun _ _ => h.1) (hP _ h.2)
      · exact am_s_lmul X hd (fun _ _ => (am_wl_of _).trans (Int64.ofInt_mul a b)) (fun _ _ => am_t_rl _) (hP _ h)
    · exact h.elim
  | ldiv =>
    simp only [am_okb, Bool.and_eq_true, decide_eq_true_eq] at hok
    obtain ⟨hd, rfl⟩ := hok
    simp only [am_step] at h
    split at h
    · exact am_s_ldiv X hd (by have := h.1.2; omega) (fun ha hb => by rw [am_divL ha hb, am_tdiv h.1.1]) (fun ha _ => am_div_rl h.1 ha) (hP _ h.2)
    · exact h.elim
  | lrem =>
    simp only [am_okb, Bool.and_eq_true, decide_eq_true_eq] at hok
    obtain ⟨hd, rfl⟩ := hok
    simp only [am_step] at h
    split at h
    · exact am_s_lrem X hd (by have := h.1.2; omega) (fun ha hb => by rw [am_remL ha hb, am_tmod h.1.1]) (fun _ hb => am_mod_rl h.1 hb) (hP _ h.2)
    · exact h.elim
  | lor =>
    simp only [am_okb, Bool.and_eq_true, decide_eq_true_eq] at hok
    obtain ⟨hd, rfl⟩ := hok
    simp only [am_step] at h
    split at h
    · exact am_s_lor X hd (fun _ _ => Int64.ofInt_toInt _) (fun _ _ => am_t_rl _) (hP _ h)
    · exact h.elim
  | lshl =>
    simp only [am_okb, Bool.and_eq_true, decide_eq_true_eq] at hok
    obtain ⟨hd, rfl⟩ := hok
    simp only [am_step] at h
    split at h
    · exact am_s_lshl X hd (hP _ h)
    · exact h.elim
  | i2l =>
    simp only [am_okb, Bool.and_eq_true, decide_eq_true_eq] at hok
    obtain ⟨hd, rfl⟩ := hok
    simp only [am_step] at h
    split at h
    · exact am_s_i2l X hd (hP _ h)
    · exact h.elim
  | lcmp =>
    simp only [am_okb, Bool.and_eq_true, decide_eq_true_eq] at hok
    obtain ⟨hd, rfl⟩ := hok
    simp only [am_step] at h
    split at h
    · exact am_s_lcmp X hd (hP _ h)
    · exact h.elim
  | pop =>
    simp only [am_okb, Bool.and_eq_true, decide_eq_true_eq] at hok
    obtain ⟨hd, rfl⟩ := hok
    simp only [am_step] at h
    split at h
    · exact am_s_pop X hd (hP _ h)
    · exact h.elim
  | pop2 =>
    simp only [am_okb, Bool.and_eq_true, decide_eq_true_eq] at hok
    obtain ⟨hd, rfl⟩ := hok
    simp only [am_step] at h
    split at h
    · exact am_s_pop2 X hd (hP _ h)
    · exact h.elim
  | l2i =>
    simp only [am_okb, Bool.and_eq_true, decide_eq_true_eq] at hok
    obtain ⟨hd, rfl⟩ := hok
    simp only [am_step] at h
    split at h
    · cases hw : M.2.1 <;> rw [hw] at h
      · exact am_s_l2i X hd rfl h.1 (hP _ h.2)
      · exact am_s_l2i X hd (am_w_of _) (am_w_r _) (hP _ h)
    · exact h.elim
  | i2c =>
    simp only [am_okb, Bool.and_eq_true, decide_eq_true_eq] at hok
    obtain ⟨hd, rfl⟩ := hok
    simp only [am_step] at h
    split at h
    · exact am_s_i2c X hd h.1 (hP _ h.2)
    · exact h.elim
  | dup =>
    simp only [am_okb, Bool.and_eq_true, decide_eq_true_eq] at hok
    obtain ⟨hd, rfl⟩ := hok
    simp only [am_step] at h
    split at h
    · exact am_s_dupI X hd (hP _ h)
    · exact am_s_dupR X hd (hP _ h)
    · exact h.elim
  | dup2 =>
    simp only [am_okb, Bool.and_eq_true, decide_eq_true_eq] at hok
    obtain ⟨hd, rfl⟩ := hok
    simp only [am_step] at h
    split at h
    · exact am_s_dup2 X hd (hP _ h)
    · exact h.elim
  | if_icmp cd off =>
    simp only [am_okb, Bool.and_eq_true, decide_eq_true_eq] at hok
    obtain ⟨hd, rfl, ht⟩ := hok
    simp only [am_step] at h
    split at h
    · exact am_s_icmp X hd ht (fun q => hP _ (h.1 q)) (fun q => hP _ (h.2 q))
    · exact h.elim
  | ifCond cd off =>
    simp only [am_okb, Bool.and_eq_true, decide_eq_true_eq] at hok
    obtain ⟨hd, rfl, ht⟩ := hok
    simp only [am_step] at h
    split at h
    · exact am_s_if X hd ht (fun q => hP _ (h.1 q)) (fun q => hP _ (h.2 q))
    · exact am_s_ifc X hd ht (fun q => hP _ (h.1 q)) (fun q => hP _ (h.2 q))
    · exact h.elim
  | ifnonnull off =>
    simp only [am_okb, Bool.and_eq_true, decide_eq_true_eq] at hok
    obtain ⟨hd, rfl, ht⟩ := hok
    simp only [am_step] at h
    split at h
    · exact am_s_nnN X hd (hP _ h)
    · exact am_s_nnR X hd ht (hP _ h)
    · exact h.elim
  | goto off =>
    simp only [am_okb, Bool.and_eq_true, decide_eq_true_eq] at hok
    obtain ⟨hd, rfl, ht⟩ := hok
    exact am_s_goto X hd ht (hP _ h)
  | tableswitch dflt lo hi offs =>
    simp only [am_okb, Bool.and_eq_true, decide_eq_true_eq] at hok
    obtain ⟨hd, ⟨⟨⟨hn, -⟩, hsw⟩, hsz⟩, ho⟩ := hok
    simp only [am_step] at h
    split at h
    · exact am_s_tsw X hd hn hsw hsz (fun x hx => of_decide_eq_true (List.all_eq_true.mp ho x hx)) (am_sw_mono (fun t ht => hP _ ht) _ h)
    · exact h.elim
  | lookupswitch dflt ps =>
    simp only [am_okb, Bool.and_eq_true, decide_eq_true_eq] at hok
    obtain ⟨hd, ⟨⟨hn, hsw⟩, hp⟩, ho⟩ := hok
    simp only [am_step] at h
    split at h
    · exact am_s_lsw X hd hn hsw hp (fun q hq => of_decide_eq_true (List.all_eq_true.mp ho q hq)) (am_sw_mono (fun t ht => hP _ ht) _ h)
    · exact h.elim
  | ireturn =>
    simp only [am_okb, Bool.and_eq_true, decide_eq_true_eq] at hok
    obtain ⟨hd, rfl, hrt⟩ := hok
    simp only [am_step] at h
    split at h
    · exact hRI _ _ _ _ _ _ hd hrt h
    · exact h.elim
  | lreturn =>
    simp only [am_okb, Bool.and_eq_true, decide_eq_true_eq] at hok
    obtain ⟨hd, rfl, hrt⟩ := hok
    simp only [am_step] at h
    split at h
    · exact hRL _ _ _ _ _ _ hd hrt h
    · exact h.elim
  | return_ =>
    simp only [am_okb, Bool.and_eq_true, decide_eq_true_eq] at hok
    obtain ⟨hd, rfl, hrt⟩ := hok
    simp only [am_step] at h
    split at h
    · exact hRV _ _ _ _ _ hd hrt h
    · exact h.elim
  | getfield idx =>
    simp only [am_okb, Bool.and_eq_true, decide_eq_true_eq] at hok
    obtain ⟨hd, ⟨rfl, hz⟩, hok⟩ := hok
    split at hok
    · rename_i q C T N hc
      rw [am_nth_eq] at hc
      simp only [Bool.and_eq_true, decide_eq_true_eq] at hok
      obtain ⟨⟨hj, hdc⟩, hw⟩ := hok
      have hw := List.mem_of_getElem? hw
      simp only [am_step] at h
      split at h
      · rename_i a st
        split at h
        · rename_i y ci fs hS
          rw [am_nth_eq] at hS
          split at h
          · rename_i hb
            have hb := am_beq hb
            subst hb
            split at h
            · rename_i y2 hf
              rw [am_nth_eq] at hf
              exact am_s_getL X hd hz hc hj hdc hw hS hf (hP _ h)
            · rename_i y2 hf
              rw [am_nth_eq] at hf
              exact am_s_getI X hd hz hc hj hdc hw hS hf (hP _ h)
            · rename_i y2 hf
              rw [am_nth_eq] at hf
              exact am_s_getZ X hd hz hc hj hdc hw hS hf (hP _ h)
            · rename_i y2 r hf
              rw [am_nth_eq] at hf
              cases r with
              | none => exact am_s_getN X hd hz hc hj hdc hw hS hf (hP _ h)
              | some r => exact am_s_getR X hd hz hc hj hdc hw hS hf (hP _ h)
            · exact h.elim
          · exact h.elim
        · exact h.elim
      · exact h.elim
    · cases hok
  | putfield idx =>
    simp only [am_okb, Bool.and_eq_true, decide_eq_true_eq] at hok
    obtain ⟨hd, ⟨rfl, hz⟩, hok⟩ := hok
    split at hok
    · rename_i q C T N hc
      rw [am_nth_eq] at hc
      simp only [Bool.and_eq_true, decide_eq_true_eq, Bool.or_eq_true] at hok
      obtain ⟨⟨⟨hj, hdc⟩, hw⟩, hfin⟩ := hok
      have hw := List.mem_of_getElem? hw
      simp only [am_step] at h
      split at h
      · rename_i v a st
        split at h
        · rename_i y ci fs hS
          rw [am_nth_eq] at hS
          split at h
          · rename_i hb
            have hb := am_beq hb
            subst hb
            split at h
            · rename_i y2 y3 x hf
              rw [am_nth_eq] at hf
              exact am_s_putL X hd hz hc hj hdc hw hfin hS hf (hP _ h)
            · rename_i y2 y3 x hf
              rw [am_nth_eq] at hf
              exact am_s_putI X hd hz hc hj hdc hw hfin hS hf (hP _ h)
            · rename_i y2 y3 x hf
              rw [am_nth_eq] at hf
              exact am_s_putZ X hd hz hc hj hdc hw hfin hS hf h.1 (hP _ h.2)
            · rename_i y2 y3 r0 r hf
              rw [am_nth_eq] at hf
              cases r with
              | none => exact am_s_putN X hd hc hj hdc hw hfin hS hf (hP _ h)
              | some r => exact am_s_putR X hd hc hj hdc hw hfin hS hf (hP _ h)
            · exact h.elim
          · exact h.elim
        · exact h.elim
      · exact h.elim
    · cases hok
  | getstatic idx =>
    simp only [am_okb, Bool.and_eq_true, decide_eq_true_eq] at hok
    obtain ⟨hd, rfl, hw⟩ := hok
    rcases hw with ⟨rfl, hw⟩ | ⟨rfl, hw⟩
    · exact am_s_gs1 X hd (List.mem_of_getElem? hw) (hP _ h)
    · exact am_s_gs2 X hd (List.mem_of_getElem? hw) (hP _ h)
  | iaload =>
    simp only [am_okb, Bool.and_eq_true, decide_eq_true_eq] at hok
    obtain ⟨hd, rfl⟩ := hok
    simp only [am_step] at h
    split at h
    · split at h
      · rename_i hS
        rw [am_nth_eq] at hS
        exact am_s_iaload X hd hS h.1 (hP _ h.2)
      · exact h.elim
    · split at h
      · rename_i hj
        exact am_s_ialoadO X (Nat.lt_succ_of_le (Nat.le_of_ble_eq_true hj)) hd h.1 (hP _ h.2)
      · exact h.elim
    · exact h.elim
  | baload =>
    simp only [am_okb, Bool.and_eq_true, decide_eq_true_eq] at hok
    obtain ⟨hd, rfl⟩ := hok
    simp only [am_step] at h
    split at h
    · split at h
      · rename_i hS
        rw [am_nth_eq] at hS
        exact am_s_baload X hd hS h.1 (hP _ h.2)
      · exact h.elim
    · exact h.elim
  | laload =>
    simp only [am_okb, Bool.and_eq_true, decide_eq_true_eq] at hok
    obtain ⟨hd, rfl⟩ := hok
    simp only [am_step] at h
    split at h
    · split at h
      · rename_i hS
        rw [am_nth_eq] at hS
        exact am_s_laload X hd hS h.1 (hP _ h.2)
      · exact h.elim
    · exact h.elim
  | iastore =>
    simp only [am_okb, Bool.and_eq_true, decide_eq_true_eq] at hok
    obtain ⟨hd, rfl⟩ := hok
    simp only [am_step] at h
    split at h
    · split at h
      · rename_i hS
        rw [am_nth_eq] at hS
        exact am_s_iastore X hd hS h.1 (hP _ h.2)
      · exact h.elim
    · exact h.elim
  | lastore =>
    simp only [am_okb, Bool.and_eq_true, decide_eq_true_eq] at hok
    obtain ⟨hd, rfl⟩ := hok
    simp only [am_step] at h
    split at h
    · split at h
      · rename_i hS
        rw [am_nth_eq] at hS
        exact am_s_lastore X hd hS h.1 (hP _ h.2)
      · exact h.elim
    · exact h.elim
  | bastore =>
    simp only [am_okb, Bool.and_eq_true, decide_eq_true_eq] at hok
    obtain ⟨hd, rfl⟩ := hok
    simp only [am_step] at h
    split at h
    · split at h
      · rename_i hS
        rw [am_nth_eq] at hS
        exact am_s_bastore X hd hS h.1 h.2.1 (hP _ h.2.2)
      · exact h.elim
    · exact h.elim
  | arraylength =>
    simp only [am_okb, Bool.and_eq_true, decide_eq_true_eq] at hok
    obtain ⟨hd, rfl⟩ := hok
    simp only [am_step] at h
    split at h
    · split at h
      · rename_i hS
        rw [am_nth_eq] at hS
        exact am_s_alen X hd hS (hP _ h)
      · exact h.elim
    · split at h
      · rename_i hj
        exact am_s_alenO X (Nat.lt_succ_of_le (Nat.le_of_ble_eq_true hj)) hd (hP _ h)
      · exact h.elim
    · exact h.elim
  | newarray t =>
    simp only [am_okb, Bool.and_eq_true, decide_eq_true_eq] at hok
    obtain ⟨hd, ⟨rfl, hz⟩, hn⟩ := hok
    simp only [am_step] at h
    split at h
    · split at h
      · exact am_s_naI X hd hz hn h.1.1 h.1.2 (hP _ h.2)
      · exact am_s_naL X hd hz hn h.1.1 h.1.2 (hP _ h.2)
      · exact am_s_naZ X hd hz hn h.1.1 h.1.2 (hP _ h.2)
      · exact h.elim
    · exact h.elim
  | new idx =>
    simp only [am_okb, Bool.and_eq_true, decide_eq_true_eq] at hok
    obtain ⟨hd, rfl, hok⟩ := hok
    split at hok
    · rename_i q C T N hc
      rw [am_nth_eq] at hc
      simp only [Bool.and_eq_true, decide_eq_true_eq] at hok
      simp only [am_step] at h
      split at h
      · exact am_s_new X hd hc hok.1 (List.mem_of_getElem? hok.2) h.1 (hP _ h.2)
      · exact h.elim
    · cases hok
  | invokevirtual idx =>
    clear h00
    match n4, hok, h, hok0 with
    | 0, hok, hh, _ =>
      simp only [am_okb, Bool.and_eq_true, decide_eq_true_eq] at hok
      clear h
      obtain ⟨hd, rfl, ⟨⟨⟨⟨⟨⟨hw, hcl⟩, hst⟩, hpd⟩, h1⟩, hal⟩, hlt⟩, hni⟩ := hok
      have hlt : n1 < 258 := hlt
      simp only [am_step] at hh
      split at hh
      · rename_i y a hrc
        rw [am_nth_eq] at hrc
        split at hh
        · rename_i y2 ci fs hS
          rw [am_nth_eq] at hS
          split at hh
          · rename_i y3 y4 hb hb8
            have hb := am_beq hb
            subst hb
            obtain ⟨⟨C, T, N⟩, hc, hC⟩ := Option.map_eq_some_iff.mp hcl
            rw [am_nth_eq] at hc
            refine am_s_invV (Q := fun r h1 => P' (pc + 3, lv, am_push r (List.drop n2 st), h1, bc, bs)) X hd (List.mem_of_getElem? hw) (hY n1 hlt) (by simpa using hst) hni h1 hrc hS hc hC hpd hb8 (by rw [hal]; exact ⟨Nat.zero_le _, Nat.zero_le _⟩) (hcal _ _ _ _ hlt hh) (fun r h1 q => ?_)
            rw [hal]
            exact hP _ q
          · exact hh.elim
        · exact hh.elim
      · exact hh.elim
    | 1, hok, hh, _ =>
      simp only [am_okb, Bool.and_eq_true, decide_eq_true_eq] at hok
      clear h
      obtain ⟨hd, rfl, ⟨⟨⟨⟨⟨hw, hcl⟩, hst⟩, hpd⟩, h1⟩, hlt⟩, hni⟩ := hok
      have hlt : n1 < 258 := hlt
      simp only [am_step] at hh
      split at hh
      · rename_i y a hrc
        rw [am_nth_eq] at hrc
        split at hh
        · rename_i y2 ci fs hS
          rw [am_nth_eq] at hS
          split at hh
          · rename_i y3 y4 hb hb8
            have hb := am_beq hb
            subst hb
            obtain ⟨⟨C, T, N⟩, hc, hC⟩ := Option.map_eq_some_iff.mp hcl
            rw [am_nth_eq] at hc
            exact am_s_invV (Q := fun r h1 => P' (pc + 3, lv, am_push r (List.drop n2 st), h1, bc - (am_al n1).1, bs - (am_al n1).2)) X hd (List.mem_of_getElem? hw) (hY n1 hlt) (by simpa using hst) hni h1 hrc hS hc hC hpd hb8 hh.1 (hcal _ _ _ _ hlt hh.2) (fun r h1 q => hP _ q)
          · exact hh.elim
        · exact hh.elim
      · exact hh.elim
    | n + 2, _, hh, hok0 => exact hStr pc pl _ lv st (S, I, L) bc bs P' rfl hok0 hP hh
  | invokestatic idx =>
    match n3, hok, h with
    | 0, hok, h =>
      simp only [am_okb, Bool.and_eq_true, decide_eq_true_eq, Bool.or_eq_true] at hok
      obtain ⟨hd, rfl, ⟨⟨⟨hw, hst⟩, hpd⟩, hal⟩, hlt⟩ := hok
      simp only [am_step] at h
      split at h
      · rename_i y1 y2 hb8 hln
        have hln := Nat.le_of_ble_eq_true hln
        rcases hw with hw | hw
        · refine am_s_invS (Q := fun r h1 => P' (pc + 3, lv, am_push r (List.drop n2 st), h1, bc, bs)) X hd (List.mem_of_getElem? hw) (hY n1 hlt) hst hln hpd hb8 (by rw [hal]; exact ⟨Nat.zero_le _, Nat.zero_le _⟩) (hcal _ _ _ _ hlt h) (fun r h1 q => ?_)
          rw [hal]
          exact hP _ q
        · refine am_s_invSN (Q := fun r h1 => P' (pc + 3, lv, am_push r (List.drop n2 st), h1, bc, bs)) X hd (List.mem_of_getElem? hw) (hY n1 hlt) hst hln hpd hb8 (by rw [hal]; exact ⟨Nat.zero_le _, Nat.zero_le _⟩) (hcal _ _ _ _ hlt h) (fun r h1 q => ?_)
          rw [hal]
          exact hP _ q
      · exact h.elim
    | 1, hok, h =>
      simp only [am_okb, Bool.and_eq_true, decide_eq_true_eq] at hok
      obtain ⟨hd, rfl, hw⟩ := hok
      simp only [am_step] at h
      split at h
      · split at h
        · rename_i hS0 hS hb8
          rw [am_nth_eq] at hS0 hS
          exact am_s_cpI X hd (List.mem_of_getElem? hw) hS0 hS hb8 h.1 (hP _ h.2)
        · rename_i hS0 hS hb8
          rw [am_nth_eq] at hS0 hS
          exact am_s_cpL X hd (List.mem_of_getElem? hw) hS0 hS hb8 h.1 (hP _ h.2)
        · exact h.elim
      · exact h.elim
    | 2, hok, h =>
      simp only [am_okb, Bool.and_eq_true, decide_eq_true_eq] at hok
      obtain ⟨hd, rfl, hw⟩ := hok
      simp only [am_step] at h
      split at h
      · split at h
        · rename_i hb8
          exact am_s_mx X hd (List.mem_of_getElem? hw) hb8 (hP _ h)
        · exact h.elim
      · exact h.elim
    | 3, hok, h =>
      simp only [am_okb, Bool.and_eq_true, decide_eq_true_eq] at hok
      obtain ⟨hd, rfl, hw⟩ := hok
      simp only [am_step] at h
      split at h
      · split at h
        · rename_i hb8
          exact am_s_mn X hd (List.mem_of_getElem? hw) hb8 (hP _ h)
        · exact h.elim
      · exact h.elim
    | n + 4, hok, h =>
      simp only [am_okb, Bool.and_eq_true, decide_eq_true_eq] at hok
      obtain ⟨hd, rfl, hw⟩ := hok
      simp only [am_step] at h
      split at h
      · split at h
        · rename_i hb8
          exact am_s_ml X hd (List.mem_of_getElem? hw) hb8 (hP _ h)
        · exact h.elim
      · exact h.elim
  | invokespecial idx =>
    match n3, hok, h with
    | 0, hok, h =>
      simp only [am_okb, Bool.and_eq_true, decide_eq_true_eq, Bool.or_eq_true] at hok
      obtain ⟨hd, rfl, ⟨⟨⟨⟨⟨hw, hst⟩, hin⟩, hrt⟩, hpd⟩, h1⟩, hlt⟩ := hok
      simp only [am_step] at h
      split at h
      · rename_i y1 y2 b hrc hb8
        rw [am_nth_eq] at hrc
        rcases hw with hw | hw
        · exact am_s_invI (Q := fun r h1 => P' (pc + 3, lv, am_push r (List.drop n2 st), h1, bc - (am_al n1).1, bs - (am_al n1).2)) X hd (List.mem_of_getElem? hw) (hY n1 hlt) (by simpa using hst) hin hrt h1 hrc hpd hb8 h.1 (hcal _ _ _ _ hlt h.2) (fun r h1 q => hP _ q)
        · exact am_s_invIN (Q := fun r h1 => P' (pc + 3, lv, am_push r (List.drop n2 st), h1, bc - (am_al n1).1, bs - (am_al n1).2)) X hd (List.mem_of_getElem? hw) (hY n1 hlt) (by simpa using hst) hin hrt h1 hrc hpd hb8 h.1 (hcal _ _ _ _ hlt h.2) (fun r h1 q => hP _ q)
      · exact h.elim
    | n + 1, hok, h =>
      simp only [am_okb, Bool.and_eq_true, decide_eq_true_eq] at hok
      obtain ⟨hd, rfl, hw⟩ := hok
      simp only [am_step] at h
      split at h
      · split at h
        · rename_i hb8
          exact am_s_obj X hd (List.mem_of_getElem? hw) hb8 (hP _ h)
        · exact h.elim
      · exact h.elim
  | _ => exact False.elim h
end SO7
