theorem am_la_len {ad ra : Nat → Nat} : ∀ a : List am_V, (lg_sl (a.map (am_c ad ra))).length = (am_la a).length
  | [] => rfl
  | v :: r => by
    have ih := am_la_len (ad := ad) (ra := ra) r
    unfold lg_sl at ih ⊢
    rw [List.map_cons, List.flatMap_cons, List.length_append, ih]
    rcases v with x | x | ⟨x, y⟩ | (_ | k) | j <;> simp [am_c, Value.category, am_la] <;> omega
theorem am_la_at {ad ra : Nat → Nat} : ∀ (a : List am_V) (k i : Nat) (v : am_V), (am_la a)[i]? = some (some v) → (k + i, am_c ad ra v) ∈ lv_args k (a.map (am_c ad ra))
  | [], k, i, v, h => by simp [am_la] at h
  | u :: r, k, i, v, h => by
    rw [List.map_cons]
    show _ ∈ (k, am_c ad ra u) :: lv_args (if (am_c ad ra u).category = 2 then k + 2 else k + 1) (r.map (am_c ad ra))
    have one : ∀ w : Option am_V, am_la (u :: r) = some u :: am_la r → (am_c ad ra u).category ≠ 2 → (k + i, am_c ad ra v) ∈ (k, am_c ad ra u) :: lv_args (if (am_c ad ra u).category = 2 then k + 2 else k + 1) (r.map (am_c ad ra)) := by
      intro w e1 e2
      rw [e1] at h
      rw [if_neg e2]
      cases i with
      | zero =>
        simp at h
        subst h
        exact List.mem_cons_self
      | succ j =>
        have h : (am_la r)[j]? = some (some v) := by simpa using h
        have := am_la_at (ad := ad) (ra := ra) r (k + 1) j v h
        rw [show k + 1 + j = k + (j + 1) by omega] at this
        exact List.mem_cons_of_mem _ this
    rcases u with x | x | ⟨x, y⟩ | (_ | q) | j
    · exact one none rfl (by simp [am_c, Value.category])
    · have e1 : am_la ((.inr (.inl x) : am_V) :: r) = some (.inr (.inl x)) :: none :: am_la r := rfl
      rw [e1] at h
      rw [if_pos (by rfl)]
      match i, h with
      | 0, h =>
        simp at h
        subst h
        exact List.mem_cons_self
      | 1, h => simp at h
      | j + 2, h =>
        have h : (am_la r)[j]? = some (some v) := by simpa using h
        have := am_la_at (ad := ad) (ra := ra) r (k + 2) j v h
        rw [show k + 2 + j = k + (j + 2) by omega] at this
        exact List.mem_cons_of_mem _ this
    · exact one none rfl (by simp [am_c, Value.category])
    · exact one none rfl (by simp [am_c, Value.category])
    · exact one none rfl (by simp [am_c, Value.category])
    · exact one none rfl (by simp [am_c, Value.category])
theorem am_lv_at {n i : Nat} {a : List am_V} {v : am_V} (h : (am_lv n a)[i]? = some (some v)) : (am_la a)[i]? = some (some v) := by
  unfold am_lv at h
  by_cases hl : i < (am_la a).length
  · rw [List.getElem?_append_left hl] at h
    exact h
  · rw [List.getElem?_append_right (by omega)] at h
    have := List.mem_of_getElem? h
    rw [List.mem_replicate] at this
    cases this.2
theorem am_la_mem {i : Nat} {v : am_V} : ∀ (a : List am_V), (am_la a)[i]? = some (some v) → v ∈ a := by
  intro a h
  have hm := List.mem_of_getElem? h
  clear h
  induction a with
  | nil => simp [am_la] at hm
  | cons u r ih =>
    rcases u with x | x | ⟨x, y⟩ | (_ | q) | j <;> simp only [am_la, List.mem_cons, Option.some.injEq] at hm
    · rcases hm with rfl | hm
      · exact List.mem_cons_self
      · exact List.mem_cons_of_mem _ (ih hm)
    · rcases hm with rfl | hm | hm
      · exact List.mem_cons_self
      · cases hm
      · exact List.mem_cons_of_mem _ (ih hm)
    all_goals
      rcases hm with rfl | hm
      · exact List.mem_cons_self
      · exact List.mem_cons_of_mem _ (ih hm)
/-- what the two texts must keep to -/
def am_StrP (l : Launch) : Prop := ∀ (p : Program) (e : Env) (R : Room) (s : State) (m : MethodId) (args : Array Value) (below : List Frame) (meth : Method) (c : Code) (D : va_G) (A : Nat → Prop) (ro : Nat → Int × (Int → Int)) (ra ad0 : Nat → Nat) (n0 mid d mc ms : Nat) (QF : State → Prop) (cal : Nat → List am_V → am_H → (Option am_V → am_H → Prop) → Prop) (M : am_M) (Q : Option am_V → am_H → Prop), am_Ctx p R s m args meth c A ro ra mid (d + 5) mc ms → ∀ (pc pl : Nat) (o : am_E) (lv : List (Option am_V)) (st : List am_V) (h : am_H) (bc bs : Nat) (P' : am_S → Prop), am_isS o = true → am_okb mid pc o pl = true → (∀ u, P' u → am_Wp p l e R s m args below meth c D A ra ad0 n0 mid mc ms QF u) → am_step cal ro M.2.1 M.2.2 Q P' o (pc, lv, st, h, bc, bs) → am_Wp p l e R s m args below meth c D A ra ad0 n0 mid mc ms QF (pc, lv, st, h, bc, bs)
theorem am_okm_of {n : Nat} (h : am_okm n = true) : ∃ (M : am_M) (ps : List Nat), am_nth am_Ms n = some M ∧ am_okl n M.1 ps = true ∧ (n = 258 ∨ am_yok n = true) ∧ (M.2.2 = true ↔ am_rt n = some .boolean) := by
  unfold am_okm at h
  split at h
  · rename_i M ps h1 h2
    simp only [Bool.and_eq_true, decide_eq_true_eq, Bool.or_eq_true] at h
    exact ⟨M, ps, h1, h.1.1, h.1.2, h.2⟩
  · cases h
set_option maxHeartbeats 4000000 in
/-- what the abstract machine shows, the machine does -/
theorem am_sound_open {l : Launch} {ro : Nat → Int × (Int → Int)} (hck : ∀ n, n < 258 → am_okm n = true) (hStr : am_StrP l) : ∀ (d n : Nat) (a : List am_V) (h : am_H) (Q : Option am_V → am_H → Prop), n < 258 → am_m ro d n a h Q → am_Sd l ro (d + 5) n a h Q := by
  have hY : ∀ n, n < 258 → am_Yk n := by
    intro n hn
    obtain ⟨M, ps, -, -, hy, -⟩ := am_okm_of (hck n hn)
    exact am_Yk_of (hy.resolve_left (by omega))
  intro d
  induction d with
  | zero => intro n a h Q _ hm; exact False.elim hm
  | succ d ih =>
    intro n a h Q hn hm D ra ad cA sz
    obtain ⟨M, ps, hM, hokl, -, hbz⟩ := am_okm_of (hck n hn)
    have hm : (match am_nth am_Ms n, Nat.ble (am_la a).length (am_mx n) with
      | some M, true => am_ex (am_m ro d) ro M Q (0, am_lv (am_mx n) a, [], h, (am_al n).1, (am_al n).2)
      | _, _ => False) := hm
    rw [hM] at hm
    cases hbl : Nat.ble (am_la a).length (am_mx n) with
    | false => rw [hbl] at hm; exact False.elim hm
    | true =>
    rw [hbl] at hm
    have hm : am_ex (am_m ro d) ro M Q (0, am_lv (am_mx n) a, [], h, (am_al n).1, (am_al n).2) := hm
    have hlen := Nat.le_of_ble_eq_true hbl
    refine Met.ofW (cc := am_by n) (maxL := am_mx n) (ret := am_rt n) (hY n hn).2.2.2.1 rfl ?_
    intro p e s m args below meth c s₁ B hml hv
    obtain ⟨rfl, hsz, hwd, hro, hok, hnw⟩ := hv
    subst hsz
    have hts : ∀ w ∈ am_T, w.before _ s = true := fun w hw => atoms_spec (ws := am_wo n) B.pre w (List.mem_cons_of_mem _ hw)
    have hwd2 : am_Wd D (va_A (am_ws ad cA h) s.heap.size) s s.heap ad cA h := ⟨hwd.1, hwd.2.1.self, hwd.2.2⟩
    have X : am_Ctx p (headSpec (am_wo n) (am_room (d + 1 + 5) n)).room s m ((a.map (am_c ad ra)).toArray) meth c (va_A (am_ws ad cA h) s.heap.size) ro ra n (d + 5) (am_al n).1 (am_al n).2 := ⟨B.exec, B.bytes, hml, findClass_of_methodNamed B.named, hts, fun q hq => Or.inr hq, hro, ⟨(by show d + 5 + 1 ≤ d + 1 + 5; omega), (by show 64 * (d + 5 + 1) ≤ 64 * (d + 1 + 5); omega)⟩, ⟨Nat.le_refl _, Nat.le_refl _⟩, (name_of_methodNamed B.named B.method).1, hnw⟩
    have hlk := B.notSynchronized
    have hrt := B.returns
    have fin : ∀ (r : Option am_V) (h' : am_H) (ad' : Nat → Nat) (cA' : Nat → ClassId) (H : Heap) (locs : List Loc) (t : State), Q r h' → (∀ v, r = some v → am_ok h'.1.length v) → h.1.length ≤ h'.1.length → (∀ k, k < h.1.length → ad' k = ad k) → am_Wd D (va_A (am_ws ad cA h) s.heap.size) s H ad' cA' h' → va_S (va_A (am_ws ad cA h) s.heap.size) s.heap H locs → t.heap = H → s.WarmedH t.vm → am_Q D ra ad cA h s.heap.size Q ((a.map (am_c ad ra)).toArray) s (.returned (r.map (am_c ad' ra))) t := by
      intro r h' ad' cA' H locs t hQ hrk hln had hw hS ht hW
      refine ⟨⟨r, h', ad', cA', rfl, hQ, hrk, hln, had, ?_⟩, hS.F ht⟩
      rw [ht]
      exact hw.moved hW.alike
    have K := hm (am_Wp p l e (headSpec (am_wo n) (am_room (d + 1 + 5) n)).room s m ((a.map (am_c ad ra)).toArray) below meth c D (va_A (am_ws ad cA h) s.heap.size) ra ad h.1.length n (am_al n).1 (am_al n).2 (MQ below (am_Q D ra ad cA h s.heap.size Q) ((a.map (am_c ad ra)).toArray) s (am_al n).1 (am_al n).2 (va_A (am_ws ad cA h) s.heap.size))) (fun t P' hP hst => by
      obtain ⟨pc, lv, st, ⟨S, I, L⟩, bc, bs⟩ := t
      unfold am_st at hst
      split at hst
      · rename_i o ho
        obtain ⟨pl, hokb⟩ := am_okl_at M.1 ps hokl ho
        refine am_closeI (ro := ro) (d := d + 5) (cal := am_m ro d) (M := M) (Q := Q) X hY (fun n a h Q' hn2 => ih n a h Q' hn2) ?_ ?_ ?_ (fun pc pl o lv st h bc bs P' q1 q2 q3 q4 => hStr p e _ s m _ below meth c D _ ro ra ad _ n d _ _ _ (am_m ro d) M Q X pc pl o lv st h bc bs P' q1 q2 q3 q4) hokb hP hst
        · intro pc lv x h' bc bs hd hrr hb ad' cA' H locs ls cells slots hr
          obtain ⟨hcl, hsl⟩ := hr.2.2.2.2.2
          refine W.widen (k := (am_al n).1) (n := (am_al n).2) (Nat.le_trans (Nat.le_add_right _ _) hcl) (Nat.le_trans (Nat.le_add_right _ _) hsl) ?_
          rcases hrr with hrr | hrr
          · have hb2 : Q (some (am_I x)) h' := by
              cases hz : M.2.2 with
              | true => exact absurd (hbz.mp hz) (by rw [hrr]; decide)
              | false => rw [hz] at hb; exact hb
            exact W.iret (v := Int32.ofInt x) B.exec B.bytes (hrt.trans hrr) (fun t ht hW => fin (some (am_I x)) h' ad' cA' H locs t hb2 (fun v hv => by cases hv; exact am_hd hr.sk) hr.2.2.1.1 hr.2.2.1.2 hr.1 hr.2.1 ht hW) hr.2.1.2.2 hd hlk
          · have hz : M.2.2 = true := hbz.mpr hrr
            rw [hz] at hb
            exact W.zret (v := Int32.ofInt x) B.exec B.bytes (hrt.trans hrr) (am_nb hb.1) (fun t ht hW => fin (some (am_I x)) h' ad' cA' H locs t hb.2 (fun v hv => by cases hv; exact am_hd hr.sk) hr.2.2.1.1 hr.2.2.1.2 hr.1 hr.2.1 ht hW) hr.2.1.2.2 hd hlk
        · intro pc lv x h' bc bs hd hrr hb ad' cA' H locs ls cells slots hr
          obtain ⟨hcl, hsl⟩ := hr.2.2.2.2.2
          refine W.widen (k := (am_al n).1) (n := (am_al n).2) (Nat.le_trans (Nat.le_add_right _ _) hcl) (Nat.le_trans (Nat.le_add_right _ _) hsl) ?_
          exact W.lret (v := Int64.ofInt x) B.exec B.bytes (hrt.trans hrr) (fun t ht hW => fin (some (am_L x)) h' ad' cA' H locs t hb (fun v hv => by cases hv; exact am_hd hr.sk) hr.2.2.1.1 hr.2.2.1.2 hr.1 hr.2.1 ht hW) hr.2.1.2.2 hd hlk
        · intro pc lv h' bc bs hd hrr hb ad' cA' H locs ls cells slots hr
          obtain ⟨hcl, hsl⟩ := hr.2.2.2.2.2
          refine W.widen (k := (am_al n).1) (n := (am_al n).2) (Nat.le_trans (Nat.le_add_right _ _) hcl) (Nat.le_trans (Nat.le_add_right _ _) hsl) ?_
          exact W.vret B.exec B.bytes (hrt.trans hrr) (fun t ht hW => fin none h' ad' cA' H locs t hb (fun v hv => by cases hv) hr.2.2.1.1 hr.2.2.1.2 hr.1 hr.2.1 ht hW) hr.2.1.2.2 hd hlk
      · exact False.elim hst)
    have hl := lv_entry (a.map (am_c ad ra)) (n := am_mx n) (by rw [am_la_len]; exact hlen)
    rw [lg_entry_eq]
    refine K ad cA s.heap [] _ 0 0 ⟨hwd2, va_S.rf, ⟨Nat.le_refl _, fun _ _ => rfl⟩, ⟨hl.1, hl.2.1, ?_, fun i v hv => ?_⟩, (fun v hv => by cases hv), Nat.le_of_eq (Nat.zero_add _), Nat.le_of_eq (Nat.zero_add _)⟩
    · show (am_lv (am_mx n) a).length = am_mx n
      unfold am_lv
      rw [List.length_append, List.length_replicate]
      omega
    · have h1 := am_lv_at hv
      refine ⟨hok v (am_la_mem a h1), ?_⟩
      have h2 := am_la_at (ad := ad) (ra := ra) a 0 i v h1
      rw [Nat.zero_add] at h2
      exact hl.2.2 _ h2
