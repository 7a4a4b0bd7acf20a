theorem am_sw_out {P : Nat → Prop} {x : Int} {d : Nat} : ∀ (sw : List (Int × Nat)), (∀ q ∈ sw, ¬ x = q.1) → am_sw P x d sw → P d
  | [], _, h => h
  | (v, t) :: r, hq, h => am_sw_out r (fun q hm => hq q (List.mem_cons_of_mem _ hm)) (h.2 (hq (v, t) List.mem_cons_self))
theorem am_sw_at {P : Nat → Prop} {x : Int} {d t : Nat} : ∀ (sw : List (Int × Nat)) (k : Nat), sw[k]? = some (x, t) → (∀ (j : Nat) (q : Int × Nat), j < k → sw[j]? = some q → ¬ x = q.1) → am_sw P x d sw → P t
  | [], _, hk, _, _ => by simp at hk
  | (v, u) :: r, 0, hk, _, h => by
    simp at hk
    obtain ⟨rfl, rfl⟩ := hk
    exact h.1 rfl
  | (v, u) :: r, k + 1, hk, hj, h => am_sw_at r k (by simpa using hk) (fun j q hjk hq => hj (j + 1) q (by omega) (by simpa using hq)) (h.2 (hj 0 (v, u) (by omega) rfl))
theorem am_sw_lk {P : Nat → Prop} {x : Int} {d pc : Nat} {dflt : Int} (hd : (pc : Int) + dflt = (d : Int)) : ∀ ps : List (Int × Int), (∀ q ∈ ps, 0 ≤ (pc : Int) + q.2) → am_sw P x d (ps.map (fun q => (q.1, ((pc : Int) + q.2).toNat))) → ∃ t : Nat, (pc : Int) + Op.lookupswitch.offset ps dflt x = (t : Int) ∧ P t
  | [], _, h => ⟨d, hd, h⟩
  | (v, u) :: r, hq, h => by
    by_cases e : x = v
    · refine ⟨((pc : Int) + u).toNat, ?_, h.1 e⟩
      rw [Op.lookupswitch.offset_cons, if_pos e.symm]
      exact (Int.toNat_of_nonneg (hq (v, u) List.mem_cons_self)).symm
    · obtain ⟨t, h1, h2⟩ := am_sw_lk hd r (fun q hm => hq q (List.mem_cons_of_mem _ hm)) (h.2 e)
      refine ⟨t, ?_, h2⟩
      rw [Op.lookupswitch.offset_cons, if_neg (Ne.symm e)]
      exact h1
section SO4
variable {p : Program} {l : Launch} {e : Env} {R : Room} {s : State} {m : MethodId} {args : Array Value} {below : List Frame} {meth : Method} {c : Code} {D : va_G} {A : Nat → Prop} {ro : Nat → Int × (Int → Int)} {ra ad0 : Nat → Nat} {n0 mid d mc ms : Nat} {QF : State → Prop}
variable {pc : Nat} {lv : List (Option am_V)} {st : List am_V} {h : am_H} {bc bs : Nat}
theorem am_s_tsw {x dflt lo hi : Int} {offs : Array Int} {len n1 : Nat} {sw : List (Int × Nat)} (X : am_Ctx p R s m args meth c A ro ra mid d mc ms) (hd : decode (am_by mid) pc = .ok (.tableswitch dflt lo hi offs, len)) (hn : (pc : Int) + dflt = (n1 : Int)) (hsw : sw = (offs.toList.zipIdx.map (fun q => (lo + (q.2 : Int), ((pc : Int) + q.1).toNat)))) (hsz : (offs.size : Int) = hi - lo + 1) (ho : ∀ x ∈ offs.toList, 0 ≤ (pc : Int) + x) (k : am_sw (fun t => am_Wp p l e R s m args below meth c D A ra ad0 n0 mid mc ms QF (t, lv, st, h, bc, bs)) x n1 sw) : am_Wp p l e R s m args below meth c D A ra ad0 n0 mid mc ms QF (pc, lv, am_I x :: st, h, bc, bs) := by
  intro ad cA H locs ls cells slots hr
  have hxr : am_r x := am_hd hr.sk
  have hs := am_tail hr.sk
  by_cases hq : x < lo ∨ hi < x
  · have k1 := am_sw_out (P := fun t => am_Wp p l e R s m args below meth c D A ra ad0 n0 mid mc ms QF (t, lv, st, h, bc, bs)) sw (fun q hm e1 => by
      rw [hsw] at hm
      obtain ⟨⟨y, i⟩, h1, h2⟩ := List.mem_map.mp hm
      have h3 := (List.mk_mem_zipIdx_iff_getElem?.mp h1)
      have h4 : i < offs.size := by
        have := (List.getElem?_eq_some_iff.mp h3).1
        simpa using this
      rw [← h2] at e1
      have e1 : x = lo + (i : Int) := e1
      omega) k
    exact lv_tableOut X.1 X.2.1 hd (by rw [am_t hxr]; exact hq) hn (k1 ad cA H locs ls cells slots (am_Rel.st hr hs))
  · have hb : (x - lo).toNat < offs.size := by omega
    have hoff : offs[(x - lo).toNat]? = some offs[(x - lo).toNat] := Array.getElem?_eq_getElem hb
    have hnn := ho offs[(x - lo).toNat] (Array.getElem_mem_toList hb)
    have k1 := am_sw_at (P := fun t => am_Wp p l e R s m args below meth c D A ra ad0 n0 mid mc ms QF (t, lv, st, h, bc, bs)) (t := ((pc : Int) + offs[(x - lo).toNat]).toNat) sw (x - lo).toNat (by
      rw [hsw, List.getElem?_map, List.getElem?_zipIdx]
      simp only [Array.getElem?_toList, hoff, Option.map_some, Nat.zero_add]
      congr 2
      omega) (fun j q hj hq2 e1 => by
      rw [hsw, List.getElem?_map, List.getElem?_zipIdx] at hq2
      cases hz : offs.toList[j]? with
      | none => rw [hz] at hq2; cases hq2
      | some y =>
        rw [hz] at hq2
        simp only [Option.map_some, Nat.zero_add, Option.some.injEq] at hq2
        rw [← hq2] at e1
        have e1 : x = lo + (j : Int) := e1
        omega) k
    refine lv_tableIn (off := offs[(x - lo).toNat]) (tgt := ((pc : Int) + offs[(x - lo).toNat]).toNat) X.1 X.2.1 hd (by rw [am_t hxr]; omega) (by rw [am_t hxr]; omega) (by rw [am_t hxr]; exact hoff) (Int.toNat_of_nonneg hnn).symm ?_
    exact k1 ad cA H locs ls cells slots (am_Rel.st hr hs)
theorem am_s_lsw {x dflt : Int} {ps : Array (Int × Int)} {len n1 : Nat} {sw : List (Int × Nat)} (X : am_Ctx p R s m args meth c A ro ra mid d mc ms) (hd : decode (am_by mid) pc = .ok (.lookupswitch dflt ps, len)) (hn : (pc : Int) + dflt = (n1 : Int)) (hsw : sw = ps.toList.map (fun q => (q.1, ((pc : Int) + q.2).toNat))) (hp : (ps.toList.zip (ps.toList.drop 1)).all (fun (a, next) => a.1 < next.1) = true) (ho : ∀ q ∈ ps.toList, 0 ≤ (pc : Int) + q.2) (k : am_sw (fun t => am_Wp p l e R s m args below meth c D A ra ad0 n0 mid mc ms QF (t, lv, st, h, bc, bs)) x n1 sw) : am_Wp p l e R s m args below meth c D A ra ad0 n0 mid mc ms QF (pc, lv, am_I x :: st, h, bc, bs) := by
  intro ad cA H locs ls cells slots hr
  have hxr : am_r x := am_hd hr.sk
  have hs := am_tail hr.sk
  subst hsw
  obtain ⟨t, h1, h2⟩ := am_sw_lk hn ps.toList ho k
  refine lv_lookup (tgt := t) X.1 X.2.1 hd hp (by rw [am_t hxr]) h1 ?_
  exact h2 ad cA H locs ls cells slots (am_Rel.st hr hs)
end SO4
/-! CALLS -/
def am_wo (mid : Nat) : List Cond := .code (am_nm mid) (am_by mid) (am_mx mid) (am_rt mid) :: am_T
def am_room (d mid : Nat) : Room := { frames := d, cells := (am_al mid).1, slots := (am_al mid).2, locals := 64 * d }
def am_B (D : va_G) (ro : Nat → Int × (Int → Int)) (ra ad : Nat → Nat) (cA : Nat → ClassId) (a : List am_V) (h : am_H) (sz : Nat) (U : State) : Prop := U.heap.size = sz ∧ am_Wd D (fun _ => True) U U.heap ad cA h ∧ am_Ro ro ra (va_A (am_ws ad cA h) sz) U U.heap ∧ (∀ v ∈ a, am_ok h.1.length v) ∧ am_Nw ra U
def am_Q (D : va_G) (ra ad : Nat → Nat) (cA : Nat → ClassId) (h : am_H) (sz : Nat) (Q : Option am_V → am_H → Prop) : Array Value → State → Outcome → State → Prop := fun _ st oc t => (∃ (r : Option am_V) (h' : am_H) (ad' : Nat → Nat) (cA' : Nat → ClassId), oc = .returned (r.map (am_c ad' ra)) ∧ Q r h' ∧ (∀ v, r = some v → am_ok h'.1.length v) ∧ h.1.length ≤ h'.1.length ∧ (∀ k, k < h.1.length → ad' k = ad k) ∧ am_Wd D (va_A (am_ws ad cA h) sz) t t.heap ad' cA' h') ∧ va_F (va_A (am_ws ad cA h) sz) st t
/-- the contract that a run of the abstract machine stands for -/
def am_Sd (l : Launch) (ro : Nat → Int × (Int → Int)) (d mid : Nat) (a : List am_V) (h : am_H) (Q : Option am_V → am_H → Prop) : Prop := ∀ (D : va_G) (ra ad : Nat → Nat) (cA : Nat → ClassId) (sz : Nat), Met l (am_nm mid) (am_wo mid) (am_room d mid) (va_Pc (a.map (am_c ad ra)) (am_B D ro ra ad cA a h sz)) (am_Q D ra ad cA h sz Q) (am_al mid).1 (am_al mid).2 (va_A (am_ws ad cA h) sz)
theorem am_Wd.moved {D : va_G} {A : Nat → Prop} {u U : State} {H : Heap} {ad : Nat → Nat} {cA : Nat → ClassId} {h : am_H} (hvm : u.vm.Alike U.vm) (w : am_Wd D A u H ad cA h) : am_Wd D A U H ad cA h := ⟨w.1, w.2.1, va_K.moved hvm w.2.2.1, fun k ty n hk => va_K.moved hvm (w.2.2.2.1 k ty n hk), w.2.2.2.2⟩
theorem am_Wd.weak {D : va_G} {A B : Nat → Prop} {U : State} {H : Heap} {ad : Nat → Nat} {cA : Nat → ClassId} {h : am_H} (hAB : ∀ q, A q → B q) (w : am_Wd D A U H ad cA h) : am_Wd D B U H ad cA h := ⟨w.1, w.2.1.weaken (fun _ q _ z => hAB q.1 z), w.2.2⟩
theorem am_Ro.moved {ro : Nat → Int × (Int → Int)} {ra : Nat → Nat} {A : Nat → Prop} {u U : State} {H : Heap} (hvm : u.vm.Alike U.vm) (w : am_Ro ro ra A u H) : am_Ro ro ra A U H := ⟨fun j hj => ⟨(w.1 j hj).1.moved hvm, (w.1 j hj).2⟩, w.2.1, w.2.2.1.moved hvm, w.2.2.2.1.moved hvm, (let ⟨a, q⟩ := w.2.2.2.2.1; ⟨a, q.moved hvm⟩), w.2.2.2.2.2.1.moved hvm, w.2.2.2.2.2.2.1.moved hvm, w.2.2.2.2.2.2.2⟩
theorem am_Ro.kept {ro : Nat → Int × (Int → Int)} {ra : Nat → Nat} {A : Nat → Prop} {U : State} {H H1 : Heap} (hq : ∀ a : Nat, a < H.size → ¬ A a → H1[a]? = H[a]?) (w : am_Ro ro ra A U H) : am_Ro ro ra A U H1 := by
  refine ⟨fun j hj => ⟨?_, (w.1 j hj).2⟩, w.2.1, w.2.2.1.kept hq, w.2.2.2.1.kept hq, (let ⟨a, q⟩ := w.2.2.2.2.1; ⟨a, q.kept hq⟩), w.2.2.2.2.2.1.kept hq, w.2.2.2.2.2.2.1.kept hq, w.2.2.2.2.2.2.2⟩
  obtain ⟨h1, h2, -⟩ := w.1 j hj
  refine h1.kept (hq _ ?_ h2)
  obtain ⟨scr, h3, -⟩ := h1
  exact (Array.getElem?_eq_some_iff.mp h3).1
theorem am_Ro.narrow {ro : Nat → Int × (Int → Int)} {ra : Nat → Nat} {A B : Nat → Prop} {U : State} {H : Heap} (hAB : ∀ q, B q → A q) (w : am_Ro ro ra A U H) : am_Ro ro ra B U H := ⟨fun j hj => ⟨(w.1 j hj).1, fun z => (w.1 j hj).2.1 (hAB _ z), (w.1 j hj).2.2⟩, w.2.1, w.2.2.1.narrow hAB, w.2.2.2.1.narrow hAB, (let ⟨a, q⟩ := w.2.2.2.2.1; ⟨a, q.narrow hAB⟩), w.2.2.2.2.2.1.narrow hAB, w.2.2.2.2.2.2.1.narrow hAB, w.2.2.2.2.2.2.2⟩
theorem am_blind {D : va_G} {ro : Nat → Int × (Int → Int)} {ra ad : Nat → Nat} {cA : Nat → ClassId} {a : List am_V} {h : am_H} {sz : Nat} {av : List Value} : FrameBlind (va_Pc av (am_B D ro ra ad cA a h sz)) := by
  intro b U g mk q
  exact ⟨q.1, q.2.1, am_Wd.moved (u := U) (U := U.calling g mk b) (Vm.Alike.refl U.vm) q.2.2.1, am_Ro.moved (u := U) (U := U.calling g mk b) (Vm.Alike.refl U.vm) q.2.2.2.1, q.2.2.2.2.1, am_Nw.same (s := U) (U := U.calling g mk b) rfl q.2.2.2.2.2⟩
section SO5
variable {p : Program} {l : Launch} {e : Env} {R : Room} {s : State} {m : MethodId} {args : Array Value} {below : List Frame} {meth : Method} {c : Code} {D : va_G} {A : Nat → Prop} {ro : Nat → Int × (Int → Int)} {ra ad0 : Nat → Nat} {n0 mid d mc ms : Nat} {QF : State → Prop}
variable {pc : Nat} {lv : List (Option am_V)} {st rest : List am_V} {h : am_H} {bc bs : Nat}
theorem am_freeA {ad : Nat → Nat} {cA : Nat → ClassId} {H : Heap} {locs : List Loc} (X : am_Ctx p R s m args meth c A ro ra mid d mc ms) (w : am_Wd D A s H ad cA h) (hS : va_S A s.heap H locs) : ∀ q, va_A (am_ws ad cA h) H.size q → A q := by
  intro q hq
  rcases hq with ⟨k, e1, hk⟩ | hq
  · exact w.2.1.2 k _ hk
  · exact X.2.2.2.2.2.1 q (Nat.le_trans hS.1 hq)
/-- what a call needs of the caller's state -/
theorem am_preB {ad : Nat → Nat} {cA : Nat → ClassId} {H : Heap} {locs : List Loc} {a : List am_V} (X : am_Ctx p R s m args meth c A ro ra mid d mc ms) (w : am_Wd D A s H ad cA h) (hS : va_S A s.heap H locs) (ha : ∀ v ∈ a, am_ok h.1.length v) : ∀ U : State, U.heap = H → s.WarmedH U.vm → am_B D ro ra ad cA a h H.size U := by
  intro U hU hW
  have hf := am_freeA X w hS
  refine ⟨by rw [hU], ?_, ?_, ha, X.2.2.2.2.2.2.2.2.2.2.warm hW⟩
  · rw [hU]
    exact am_Wd.moved hW.alike (am_Wd.weak (fun _ _ => trivial) w)
  · rw [hU]
    exact am_Ro.moved hW.alike (am_Ro.narrow hf (am_Ro.kept hS.2.1 X.2.2.2.2.2.2.1))
/-- behind a call -/
theorem am_callX {ad : Nat → Nat} {cA : Nat → ClassId} {H : Heap} {locs : List Loc} {ls : Array Slot} {cells slots mc1 ms1 : Nat} {Q : Option am_V → am_H → Prop} {aa : Array Value} {st0 : List Value} (X : am_Ctx p R s m args meth c A ro ra mid d mc ms) (hr : am_Rel D A s ra ad0 n0 (am_mx mid) mc ms (pc, lv, st, h, bc, bs) ad cA H locs ls cells slots) (hrest : ∀ v ∈ rest, am_ok h.1.length v) (h1 : mc1 ≤ bc) (h2 : ms1 ≤ bs)
    (hrun : va_Run p l e R s m args below meth c H locs cells slots mc1 ms1 (F0 m pc ls st0) (rest.map (am_c ad ra)) (am_Q D ra ad cA h H.size Q aa) (va_A (am_ws ad cA h) H.size))
    (k : ∀ (r : Option am_V) (h' : am_H), Q r h' → am_Wp p l e R s m args below meth c D A ra ad0 n0 mid mc ms QF (pc + 3, lv, am_push r rest, h', bc - mc1, bs - ms1)) : W p l e R s m args below meth c H locs cells slots QF (F0 m pc ls st0) := by
  intro T hT XT
  obtain ⟨v, st₀, t, T', L, e0, X', hL, e1, e2, ⟨⟨r, h', ad', cA', hv, hQ, hrok, hlen, had, hwd⟩, hz, hk⟩, stp⟩ := hrun T hT XT
  cases hv
  rw [e0] at hz hk
  have hf := am_freeA X hr.1 hr.2.1
  have hal : t.vm.Alike s.vm := by rw [← e2]; exact X'.warmed.alike.symm
  obtain ⟨hcl, hsl⟩ := hr.2.2.2.2.2
  have hcl : cells + bc ≤ mc := hcl
  have hsl : slots + bs ≤ ms := hsl
  have hS' : va_S A s.heap T'.heap (locs ++ L) := ⟨Nat.le_trans hr.2.1.1 (by rw [e1]; exact hz), fun q g1 g2 => by rw [e1, hk q (Nat.lt_of_lt_of_le g1 hr.2.1.1) (fun z => g2 (hf q z))]; exact hr.2.1.2.1 q g1 g2, fun q hq => by
      rcases List.mem_append.mp hq with h | h
      · exact hr.2.1.2.2 q h
      · exact hf _ (hL q h)⟩
  have k1 := k r h' hQ ad' cA' T'.heap (locs ++ L) ls (cells + mc1) (slots + ms1) ⟨by rw [e1]; exact am_Wd.moved hal (am_Wd.weak hf hwd), hS', ⟨Nat.le_trans hr.2.2.1.1 hlen, fun k hk2 => (had k (Nat.lt_of_lt_of_le hk2 hr.2.2.1.1)).trans (hr.2.2.1.2 k hk2)⟩, am_Lo.ad hr.2.2.2.1 hlen had, ?_, ?_, ?_⟩
  · have e3 : ((r.map (am_c ad' ra)).toList ++ rest.map (am_c ad ra)) = (am_push r rest).map (am_c ad' ra) := by
      rw [← am_map_ad (ra := ra) hrest had]
      cases r <;> rfl
    obtain ⟨t2, a1, b1⟩ := k1 T' rfl X'
    refine ⟨t2, stp t2 ?_, b1⟩
    show Steps p.tables e below (T'.setTop (F0 m (pc + 3) ls ((r.map (am_c ad' ra)).toList ++ rest.map (am_c ad ra)))) t2
    rw [e3]
    exact a1
  · intro v hv2
    show am_ok h'.1.length v
    cases r with
    | none => exact am_ok_le hlen (hrest v hv2)
    | some u =>
      rcases List.mem_cons.mp hv2 with rfl | hv3
      · exact hrok v rfl
      · exact am_ok_le hlen (hrest v hv3)
  · show cells + mc1 + (bc - mc1) ≤ mc
    omega
  · show slots + ms1 + (bs - ms1) ≤ ms
    omega
end SO5
