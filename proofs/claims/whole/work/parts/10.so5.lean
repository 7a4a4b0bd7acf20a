theorem am_goodW {w : Cond} (h : w ∈ am_T) : (w.onTables && w.keeps) = true ∨ ∃ ty, w = .arrayClass ty := good_of_word (List.mem_filter.mp h).2
/-- what the tables say of a method that is called -/
def am_Yk (n : Nat) : Prop := Cond.code (am_nm n) (am_by n) (am_mx n) (am_rt n) ∈ tables_1 ∧ Cond.initialized (am_nm n).cls ∈ tables_1 ∧ ((am_nm n).cls ≠ "java/lang/invoke/MethodHandle" ∧ (am_nm n).cls ≠ "java/lang/invoke/VarHandle") ∧ plainName (am_nm n).cls = true ∧ am_mx n ≤ 40 ∧ (am_iss n = true → Cond.static (am_nm n) ∈ tables_1) ∧ (am_iss n = false → Cond.instanceMethod (am_nm n) ∈ tables_1 ∧ ((am_nm n).name ≠ "<init>" → Cond.selects (am_nm n).cls (am_nm n) (am_nm n) ∈ am_T))
theorem am_Yk_of {n : Nat} (h : am_yok n = true) : am_Yk n := by
  unfold am_yok at h
  split at h
  · rename_i a b c d hq
    simp only [Bool.and_eq_true, decide_eq_true_eq] at h
    obtain ⟨⟨⟨⟨⟨h1, h2⟩, h3⟩, h4⟩, h5⟩, h6⟩ := h
    refine ⟨List.mem_of_getElem? h1, List.mem_of_getElem? h2, h3, h4, h5, fun e => ?_, fun e => ?_⟩
    · rw [e] at h6
      exact List.mem_of_getElem? (of_decide_eq_true h6)
    · rw [e] at h6
      simp only [Bool.and_eq_true, decide_eq_true_eq, Bool.or_eq_true] at h6
      refine ⟨List.mem_of_getElem? h6.1, fun hn => ?_⟩
      rcases h6.2 with h7 | h7
      · exact absurd h7 hn
      · exact am_tl1 (List.mem_of_getElem? h7) rfl
  · cases h
theorem am_goodIn {n : Nat} (hy : am_Yk n) : GoodIn am_T (am_wo n) := by
  intro w hw
  rcases List.mem_cons.mp hw with rfl | hw
  · exact ⟨am_tb hy.1, am_goodW (am_tb hy.1)⟩
  · exact ⟨hw, am_goodW hw⟩
theorem am_take {st : List am_V} {n : Nat} {v : am_V} (h1 : 1 ≤ n) (h : st[n - 1]? = some v) : (st.take n).reverse = v :: (st.take (n - 1)).reverse ∧ (st.take (n - 1)).length = n - 1 := by
  have hl := (List.getElem?_eq_some_iff.mp h).1
  refine ⟨?_, by rw [List.length_take]; omega⟩
  have e : n = (n - 1) + 1 := by omega
  rw [e, List.take_succ, Nat.add_sub_cancel, h]
  simp
theorem am_lists {ad ra : Nat → Nat} {st : List am_V} {n : Nat} : st.map (am_c ad ra) = (((st.take n).reverse).map (am_c ad ra)).reverse ++ (st.drop n).map (am_c ad ra) := by
  rw [List.map_reverse, List.reverse_reverse, ← List.map_append, List.take_append_drop]
section SO6
variable {p : Program} {l : Launch} {e : Env} {R : Room} {s : State} {m : MethodId} {args : Array Value} {below : List Frame} {meth : Method} {c : Code} {D : va_G} {A : Nat → Prop} {ro : Nat → Int × (Int → Int)} {ra ad0 : Nat → Nat} {n0 mid d mc ms : Nat} {QF : State → Prop}
variable {pc : Nat} {lv : List (Option am_V)} {st : List am_V} {h : am_H} {bc bs n1 n2 idx : Nat} {Q : Option am_V → am_H → Prop}
theorem am_s_invS (X : am_Ctx p R s m args meth c A ro ra mid d mc ms) (hd : decode (am_by mid) pc = .ok (.invokestatic idx, 3)) (hw : Cond.methodLink (am_nm mid).cls idx (am_nm n1) ∈ tables_1) (hy : am_Yk n1) (hst : am_iss n1 = true) (hlen : n2 ≤ st.length) (hpd : (parseMethodDescriptor (am_nm n1).desc).map (fun d => d.parameters.length) = some n2) (hb : Nat.ble (am_wd (st.drop n2)) 8 = true) (hal : (am_al n1).1 ≤ bc ∧ (am_al n1).2 ≤ bs) (hS : am_Sd l ro d n1 (st.take n2).reverse h Q) (k : ∀ (r : Option am_V) (h1 : am_H), Q r h1 → am_Wp p l e R s m args below meth c D A ra ad0 n0 mid mc ms QF (pc + 3, lv, am_push r (st.drop n2), h1, bc - (am_al n1).1, bs - (am_al n1).2)) : am_Wp p l e R s m args below meth c D A ra ad0 n0 mid mc ms QF (pc, lv, st, h, bc, bs) := by
  intro ad cA H locs ls cells slots hr
  have hR := X.2.2.2.2.2.2.2.1
  have hC := X.2.2.2.2.2.2.2.2.1
  obtain ⟨hcl, hsl⟩ := hr.2.2.2.2.2
  have hcl : cells + bc ≤ mc := hcl
  have hsl : slots + bs ≤ ms := hsl
  have hw8 := am_wd8 (ad := ad) (ra := ra) hb
  have hok : ∀ v ∈ (st.take n2).reverse, am_ok h.1.length v := fun v hv => hr.sk v (List.mem_of_mem_take (List.mem_reverse.mp hv))
  have hrest : ∀ v ∈ st.drop n2, am_ok h.1.length v := fun v hv => hr.sk v (List.mem_of_mem_drop hv)
  have hM := hS D ra ad cA H.size
  have hR2 : (am_room d n1).frames + 1 ≤ R.frames ∧ 8 + (am_mx n1 + 11) + (am_room d n1).locals ≤ R.locals := by
    have h40 := hy.2.2.2.2.1
    constructor
    · show d + 1 ≤ R.frames
      omega
    · show 8 + (am_mx n1 + 11) + 64 * d ≤ R.locals
      omega
  have hpre := am_preB (a := (st.take n2).reverse) X hr.1 hr.2.1 hok
  have hts := X.2.2.2.2.1
  have cw := callB_of (own := (am_nm mid).cls) (index := idx) (rm := am_room d n1) (R := R) n2 hts (am_goodIn hy) rfl rfl rfl (hts _ (am_tb hy.2.1)) (hts _ (am_tb hw)) ⟨hy.2.2.1.1, hy.2.2.1.2, hpd⟩ hR2
  have hlen2 : ((st.take n2).reverse.map (am_c ad ra)).length = n2 := by simp; omega
  have hrun := va_runS (l := l) (e := e) (below := below) (meth := meth) (H := H) (locs := locs) (cells := cells) (slots := slots) (As := (st.take n2).reverse.map (am_c ad ra)) (rest := (st.drop n2).map (am_c ad ra)) (g := F0 m pc ls (st.map (am_c ad ra))) ⟨X.1, X.2.1, X.2.2.1, X.2.2.2.1, hts⟩ hM ⟨cw, hts _ (am_tb (hy.2.2.2.2.2.1 hst))⟩ ⟨am_blind, fun U hU hW => ⟨rfl, hpre U hU hW⟩⟩ rfl hlen2 hr.2.2.2.1.1 am_lists (lv_room hw8) hd ⟨by omega, by omega⟩
  exact am_callX X hr hrest hal.1 hal.2 hrun k
theorem am_s_invSN (X : am_Ctx p R s m args meth c A ro ra mid d mc ms) (hd : decode (am_by mid) pc = .ok (.invokestatic idx, 3)) (hw : Cond.methodLinkNest (am_nm mid).cls idx (am_nm n1) "LoanPence" ∈ tables_1) (hy : am_Yk n1) (hst : am_iss n1 = true) (hlen : n2 ≤ st.length) (hpd : (parseMethodDescriptor (am_nm n1).desc).map (fun d => d.parameters.length) = some n2) (hb : Nat.ble (am_wd (st.drop n2)) 8 = true) (hal : (am_al n1).1 ≤ bc ∧ (am_al n1).2 ≤ bs) (hS : am_Sd l ro d n1 (st.take n2).reverse h Q) (k : ∀ (r : Option am_V) (h1 : am_H), Q r h1 → am_Wp p l e R s m args below meth c D A ra ad0 n0 mid mc ms QF (pc + 3, lv, am_push r (st.drop n2), h1, bc - (am_al n1).1, bs - (am_al n1).2)) : am_Wp p l e R s m args below meth c D A ra ad0 n0 mid mc ms QF (pc, lv, st, h, bc, bs) := by
  intro ad cA H locs ls cells slots hr
  have hR := X.2.2.2.2.2.2.2.1
  have hC := X.2.2.2.2.2.2.2.2.1
  obtain ⟨hcl, hsl⟩ := hr.2.2.2.2.2
  have hcl : cells + bc ≤ mc := hcl
  have hsl : slots + bs ≤ ms := hsl
  have hw8 := am_wd8 (ad := ad) (ra := ra) hb
  have hok : ∀ v ∈ (st.take n2).reverse, am_ok h.1.length v := fun v hv => hr.sk v (List.mem_of_mem_take (List.mem_reverse.mp hv))
  have hrest : ∀ v ∈ st.drop n2, am_ok h.1.length v := fun v hv => hr.sk v (List.mem_of_mem_drop hv)
  have hM := hS D ra ad cA H.size
  have hR2 : (am_room d n1).frames + 1 ≤ R.frames ∧ 8 + (am_mx n1 + 11) + (am_room d n1).locals ≤ R.locals := by
    have h40 := hy.2.2.2.2.1
    constructor
    · show d + 1 ≤ R.frames
      omega
    · show 8 + (am_mx n1 + 11) + 64 * d ≤ R.locals
      omega
  have hpre := am_preB (a := (st.take n2).reverse) X hr.1 hr.2.1 hok
  have hts := X.2.2.2.2.1
  have cw := va_cnB (host := "LoanPence") (rm := am_room d n1) (R := R) n2 hts (am_goodIn hy) rfl rfl rfl (show va_Nw (Cond.methodLinkNest (am_nm mid).cls idx (am_nm n1) "LoanPence") s from X.2.2.2.2.2.2.2.2.2.2.1 _ hw rfl) (hts _ (am_tb hy.2.1)) ⟨hy.2.2.1.1, hy.2.2.1.2, hpd⟩ hR2
  have hlen2 : ((st.take n2).reverse.map (am_c ad ra)).length = n2 := by simp; omega
  have hrun := va_runSN (l := l) (e := e) (below := below) (meth := meth) (H := H) (locs := locs) (cells := cells) (slots := slots) (As := (st.take n2).reverse.map (am_c ad ra)) (rest := (st.drop n2).map (am_c ad ra)) (g := F0 m pc ls (st.map (am_c ad ra))) ⟨X.1, X.2.1, X.2.2.1, X.2.2.2.1, hts⟩ hM ⟨cw, hts _ (am_tb (hy.2.2.2.2.2.1 hst)), trivial⟩ ⟨am_blind, fun U hU hW => ⟨rfl, hpre U hU hW⟩⟩ rfl hlen2 hr.2.2.2.1.1 am_lists (lv_room hw8) hd ⟨by omega, by omega⟩
  exact am_callX X hr hrest hal.1 hal.2 hrun k
theorem am_s_invI (X : am_Ctx p R s m args meth c A ro ra mid d mc ms) (hd : decode (am_by mid) pc = .ok (.invokespecial idx, 3)) (hw : Cond.methodLink (am_nm mid).cls idx (am_nm n1) ∈ tables_1) (hy : am_Yk n1) {b : Nat} (hst : am_iss n1 = false) (hin : (am_nm n1).name = "<init>") (hrt : am_rt n1 = none) (h1 : 1 ≤ n2) (hrc : st[n2 - 1]? = some (am_R b)) (hpd : (parseMethodDescriptor (am_nm n1).desc).map (fun d => d.parameters.length) = some (n2 - 1)) (hb : Nat.ble (am_wd (st.drop n2)) 8 = true) (hal : (am_al n1).1 ≤ bc ∧ (am_al n1).2 ≤ bs) (hS : am_Sd l ro d n1 (st.take n2).reverse h Q) (k : ∀ (r : Option am_V) (h1 : am_H), Q r h1 → am_Wp p l e R s m args below meth c D A ra ad0 n0 mid mc ms QF (pc + 3, lv, am_push r (st.drop n2), h1, bc - (am_al n1).1, bs - (am_al n1).2)) : am_Wp p l e R s m args below meth c D A ra ad0 n0 mid mc ms QF (pc, lv, st, h, bc, bs) := by
  intro ad cA H locs ls cells slots hr
  have hR := X.2.2.2.2.2.2.2.1
  have hC := X.2.2.2.2.2.2.2.2.1
  obtain ⟨hcl, hsl⟩ := hr.2.2.2.2.2
  have hcl : cells + bc ≤ mc := hcl
  have hsl : slots + bs ≤ ms := hsl
  have hw8 := am_wd8 (ad := ad) (ra := ra) hb
  have hok : ∀ v ∈ (st.take n2).reverse, am_ok h.1.length v := fun v hv => hr.sk v (List.mem_of_mem_take (List.mem_reverse.mp hv))
  have hrest : ∀ v ∈ st.drop n2, am_ok h.1.length v := fun v hv => hr.sk v (List.mem_of_mem_drop hv)
  have hM := hS D ra ad cA H.size
  have hR2 : (am_room d n1).frames + 1 ≤ R.frames ∧ 8 + (am_mx n1 + 11) + (am_room d n1).locals ≤ R.locals := by
    have h40 := hy.2.2.2.2.1
    constructor
    · show d + 1 ≤ R.frames
      omega
    · show 8 + (am_mx n1 + 11) + 64 * d ≤ R.locals
      omega
  have hpre := am_preB (a := (st.take n2).reverse) X hr.1 hr.2.1 hok
  have hts := X.2.2.2.2.1
  have cw := callB_of (own := (am_nm mid).cls) (index := idx) (rm := am_room d n1) (R := R) (n2 - 1) hts (am_goodIn hy) rfl rfl rfl (hts _ (am_tb hy.2.1)) (hts _ (am_tb hw)) ⟨hy.2.2.1.1, hy.2.2.1.2, hpd⟩ hR2
  obtain ⟨etk, eln⟩ := am_take h1 hrc
  rw [etk] at hM hpre
  have est : st.map (am_c ad ra) = ((st.take (n2 - 1)).reverse.map (am_c ad ra)).reverse ++ .ref (ad b) :: (st.drop n2).map (am_c ad ra) := by
    have e1 := am_lists (ad := ad) (ra := ra) (st := st) (n := n2)
    rw [etk] at e1
    rw [e1]
    simp [am_c]
  have hlen2 : ((st.take (n2 - 1)).reverse.map (am_c ad ra)).length = n2 - 1 := by rw [List.length_map, List.length_reverse, eln]
  rw [hrt] at cw
  have hrun := va_runI (l := l) (e := e) (below := below) (meth := meth) (H := H) (locs := locs) (cells := cells) (slots := slots) (b := ad b) (As := (st.take (n2 - 1)).reverse.map (am_c ad ra)) (rest := (st.drop n2).map (am_c ad ra)) (g := F0 m pc ls (st.map (am_c ad ra))) ⟨X.1, X.2.1, X.2.2.1, X.2.2.2.1, hts⟩ hM ⟨cw, hin, hts _ (am_tb (hy.2.2.2.2.2.2 hst).1)⟩ ⟨am_blind, fun U hU hW => ⟨rfl, hpre U hU hW⟩⟩ rfl hlen2 hr.2.2.2.1.1 est (lv_room hw8) hd ⟨by omega, by omega⟩
  exact am_callX X hr hrest hal.1 hal.2 hrun k
theorem am_s_invIN (X : am_Ctx p R s m args meth c A ro ra mid d mc ms) (hd : decode (am_by mid) pc = .ok (.invokespecial idx, 3)) (hw : Cond.methodLinkNest (am_nm mid).cls idx (am_nm n1) "LoanPence" ∈ tables_1) (hy : am_Yk n1) {b : Nat} (hst : am_iss n1 = false) (hin : (am_nm n1).name = "<init>") (hrt : am_rt n1 = none) (h1 : 1 ≤ n2) (hrc : st[n2 - 1]? = some (am_R b)) (hpd : (parseMethodDescriptor (am_nm n1).desc).map (fun d => d.parameters.length) = some (n2 - 1)) (hb : Nat.ble (am_wd (st.drop n2)) 8 = true) (hal : (am_al n1).1 ≤ bc ∧ (am_al n1).2 ≤ bs) (hS : am_Sd l ro d n1 (st.take n2).reverse h Q) (k : ∀ (r : Option am_V) (h1 : am_H), Q r h1 → am_Wp p l e R s m args below meth c D A ra ad0 n0 mid mc ms QF (pc + 3, lv, am_push r (st.drop n2), h1, bc - (am_al n1).1, bs - (am_al n1).2)) : am_Wp p l e R s m args below meth c D A ra ad0 n0 mid mc ms QF (pc, lv, st, h, bc, bs) := by
  intro ad cA H locs ls cells slots hr
  have hR := X.2.2.2.2.2.2.2.1
  have hC := X.2.2.2.2.2.2.2.2.1
  obtain ⟨hcl, hsl⟩ := hr.2.2.2.2.2
  have hcl : cells + bc ≤ mc := hcl
  have hsl : slots + bs ≤ ms := hsl
  have hw8 := am_wd8 (ad := ad) (ra := ra) hb
  have hok : ∀ v ∈ (st.take n2).reverse, am_ok h.1.length v := fun v hv => hr.sk v (List.mem_of_mem_take (List.mem_reverse.mp hv))
  have hrest : ∀ v ∈ st.drop n2, am_ok h.1.length v := fun v hv => hr.sk v (List.mem_of_mem_drop hv)
  have hM := hS D ra ad cA H.size
  have hR2 : (am_room d n1).frames + 1 ≤ R.frames ∧ 8 + (am_mx n1 + 11) + (am_room d n1).locals ≤ R.locals := by
    have h40 := hy.2.2.2.2.1
    constructor
    · show d + 1 ≤ R.frames
      omega
    · show 8 + (am_mx n1 + 11) + 64 * d ≤ R.locals
      omega
  have hpre := am_preB (a := (st.take n2).reverse) X hr.1 hr.2.1 hok
  have hts := X.2.2.2.2.1
  have cw := va_cnB (host := "LoanPence") (rm := am_room d n1) (R := R) (n2 - 1) hts (am_goodIn hy) rfl rfl rfl (show va_Nw (Cond.methodLinkNest (am_nm mid).cls idx (am_nm n1) "LoanPence") s from X.2.2.2.2.2.2.2.2.2.2.1 _ hw rfl) (hts _ (am_tb hy.2.1)) ⟨hy.2.2.1.1, hy.2.2.1.2, hpd⟩ hR2
  obtain ⟨etk, eln⟩ := am_take h1 hrc
  rw [etk] at hM hpre
  have est : st.map (am_c ad ra) = ((st.take (n2 - 1)).reverse.map (am_c ad ra)).reverse ++ .ref (ad b) :: (st.drop n2).map (am_c ad ra) := by
    have e1 := am_lists (ad := ad) (ra := ra) (st := st) (n := n2)
    rw [etk] at e1
    rw [e1]
    simp [am_c]
  have hlen2 : ((st.take (n2 - 1)).reverse.map (am_c ad ra)).length = n2 - 1 := by rw [List.length_map, List.length_reverse, eln]
  rw [hrt] at cw
  have hrun := va_runIN (l := l) (e := e) (below := below) (meth := meth) (H := H) (locs := locs) (cells := cells) (slots := slots) (b := ad b) (As := (st.take (n2 - 1)).reverse.map (am_c ad ra)) (rest := (st.drop n2).map (am_c ad ra)) (g := F0 m pc ls (st.map (am_c ad ra))) ⟨X.1, X.2.1, X.2.2.1, X.2.2.2.1, hts⟩ hM ⟨cw, hin, hts _ (am_tb (hy.2.2.2.2.2.2 hst).1)⟩ ⟨am_blind, fun U hU hW => ⟨rfl, hpre U hU hW⟩⟩ rfl hlen2 hr.2.2.2.1.1 est (lv_room hw8) hd ⟨by omega, by omega⟩
  exact am_callX X hr hrest hal.1 hal.2 hrun k
theorem am_s_invV (X : am_Ctx p R s m args meth c A ro ra mid d mc ms) (hd : decode (am_by mid) pc = .ok (.invokevirtual idx, 3)) (hw : Cond.methodLink (am_nm mid).cls idx (am_nm n1) ∈ tables_1) (hy : am_Yk n1) {b ci : Nat} {fs : List am_F} {C : String} {T : u_T} {N : Nat} (hst : am_iss n1 = false) (hni : (am_nm n1).name ≠ "<init>") (h1 : 1 ≤ n2) (hrc : st[n2 - 1]? = some (am_R b)) (hSb : h.1[b]? = some (.inr (ci, fs))) (hcc : am_cl[ci]? = some (C, T, N)) (hC1 : C = (am_nm n1).cls) (hpd : (parseMethodDescriptor (am_nm n1).desc).map (fun d => d.parameters.length) = some (n2 - 1)) (hb : Nat.ble (am_wd (st.drop n2)) 8 = true) (hal : (am_al n1).1 ≤ bc ∧ (am_al n1).2 ≤ bs) (hS : am_Sd l ro d n1 (st.take n2).reverse h Q) (k : ∀ (r : Option am_V) (h1 : am_H), Q r h1 → am_Wp p l e R s m args below meth c D A ra ad0 n0 mid mc ms QF (pc + 3, lv, am_push r (st.drop n2), h1, bc - (am_al n1).1, bs - (am_al n1).2)) : am_Wp p l e R s m args below meth c D A ra ad0 n0 mid mc ms QF (pc, lv, st, h, bc, bs) := by
  intro ad cA H locs ls cells slots hr
  have hR := X.2.2.2.2.2.2.2.1
  have hC := X.2.2.2.2.2.2.2.2.1
  obtain ⟨hcl, hsl⟩ := hr.2.2.2.2.2
  have hcl : cells + bc ≤ mc := hcl
  have hsl : slots + bs ≤ ms := hsl
  have hw8 := am_wd8 (ad := ad) (ra := ra) hb
  have hok : ∀ v ∈ (st.take n2).reverse, am_ok h.1.length v := fun v hv => hr.sk v (List.mem_of_mem_take (List.mem_reverse.mp hv))
  have hrest : ∀ v ∈ st.drop n2, am_ok h.1.length v := fun v hv => hr.sk v (List.mem_of_mem_drop hv)
  have hM := hS D ra ad cA H.size
  have hR2 : (am_room d n1).frames + 1 ≤ R.frames ∧ 8 + (am_mx n1 + 11) + (am_room d n1).locals ≤ R.locals := by
    have h40 := hy.2.2.2.2.1
    constructor
    · show d + 1 ≤ R.frames
      omega
    · show 8 + (am_mx n1 + 11) + 64 * d ≤ R.locals
      omega
  have hpre := am_preB (a := (st.take n2).reverse) X hr.1 hr.2.1 hok
  have hts := X.2.2.2.2.1
  have cw := callB_of (own := (am_nm mid).cls) (index := idx) (rm := am_room d n1) (R := R) (n2 - 1) hts (am_goodIn hy) rfl rfl rfl (hts _ (am_tb hy.2.1)) (hts _ (am_tb hw)) ⟨hy.2.2.1.1, hy.2.2.1.2, hpd⟩ hR2
  obtain ⟨etk, eln⟩ := am_take h1 hrc
  rw [etk] at hM hpre
  have est : st.map (am_c ad ra) = ((st.take (n2 - 1)).reverse.map (am_c ad ra)).reverse ++ .ref (ad b) :: (st.drop n2).map (am_c ad ra) := by
    have e1 := am_lists (ad := ad) (ra := ra) (st := st) (n := n2)
    rw [etk] at e1
    rw [e1]
    simp [am_c]
  have hlen2 : ((st.take (n2 - 1)).reverse.map (am_c ad ra)).length = n2 - 1 := by rw [List.length_map, List.length_reverse, eln]
  have hrv := va_recv hr.1.2.2.1 hr.1.1 hcc (am_ws_at (h := h) hSb)
  rw [hC1] at hrv
  have hrun := va_runV (l := l) (e := e) (below := below) (meth := meth) (H := H) (locs := locs) (cells := cells) (slots := slots) (b := ad b) (C := (am_nm n1).cls) (As := (st.take (n2 - 1)).reverse.map (am_c ad ra)) (rest := (st.drop n2).map (am_c ad ra)) (g := F0 m pc ls (st.map (am_c ad ra))) ⟨X.1, X.2.1, X.2.2.1, X.2.2.2.1, hts⟩ hM ⟨cw, hts _ (am_tb (hy.2.2.2.2.2.2 hst).1), hts _ ((hy.2.2.2.2.2.2 hst).2 hni)⟩ ⟨am_blind, hrv, fun U hU hW => ⟨rfl, hpre U hU hW⟩⟩ rfl hlen2 hr.2.2.2.1.1 est (lv_room hw8) hd ⟨by omega, by omega⟩
  exact am_callX X hr hrest hal.1 hal.2 hrun k
end SO6
