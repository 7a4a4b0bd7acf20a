/-! THE CLAIM OUT OF ONE WALK OF THE LAW'S BODY. Your part is whole_start (and what it stands on); all else here is the same for every law, but numbers. -/
def R_law : String := "LoanPenceLaw"
def lw_P (b : Addr) (xs : List Int32) (args : Array Value) (s : State) : Prop := args = #[.ref b] ∧ s.IntsAt b xs ∧ xs.length ≤ 2560 ∧ (Jvm.Cond.and given_1 narrow_1).before args s = true
def lw_Q (_ : Array Value) (s : State) (o : Outcome) (t : State) : Prop := o = .returned (some (.int 1)) ∧ Framed s o t [] 258120 8327888
def lw_Z (below : List Frame) (a : Array Value) (s : State) : State → Prop := fun t => ∃ o, t.status = .running ∧ Ended t below o ∧ lw_Q a s o t
/-- the law's own end, with 1 on the stack, nothing written that was there before, its room as the claim has it -/
theorem lw_ret {p : Program} {l : Launch} {e : Env} {s : State} {m : MethodId} {below : List Frame} {meth : Method} {c : Code} {b : Nat} (hx : p.tables.exec = Jvm.exec) (hb : c.code = code) (hr : meth.sig.returnType = ret) (hlocks : meth.locks = false) {pc : Nat} {H : Heap} {ls : Array Slot} (hdg : decode code pc = .ok (.ireturn, 1)) : W p l e room_1 s m #[Value.ref b] below meth c H [] 258120 8327888 (lw_Z below #[Value.ref b] s) (F0 m pc ls [.int 1]) := by
  intro T hT X
  obtain ⟨fs, hret, hrun, hended, hW, hframe⟩ := X.leave (v := some (.int 1)) (hlocks := hlocks) (fun h => by rw [hr] at h; cases h)
  have hmeth' : T.vm.method? m = some meth := X.method'
  refine ⟨T.setFrames fs, ?_, .returned (some (.int 1)), hrun, hended, rfl, ⟨_, rfl⟩, hW, hframe⟩
  jvm_step X.here [X.here.top, hx, hb, hdg, hmeth', hr, ret, narrow_b1]
  (try refine ⟨rfl, ?_⟩); (try refine ⟨rfl, ?_⟩)
  first | (intro acts; rw [hret _ acts rfl rfl rfl]) | rw [hret _ _ rfl rfl rfl]
  exact Steps.refl _
/-- what holds at the law's entry: the machine, the code, the tables' words (any of lw_tbl by 'hts w (by decide +kernel)'), the script of L ints xs at the cell b, what the Statement gives of the start (any of its parts by flat_of_before) -/
def lw_At (p : Program) (s : State) (m : MethodId) (meth : Method) (c : Code) (b L : Nat) (xs : Nat → Int32) : Prop :=
  p.tables.exec = Jvm.exec ∧ c.code = code ∧ meth.sig.returnType = ret ∧ c.maxLocals = 4 ∧ s.vm.findClass R_law = some m.cls ∧ (∀ w ∈ lw_tbl, w.before #[Value.ref b] s = true) ∧ va_X b L xs s s.heap ∧ b < s.heap.size ∧ meth.locks = false ∧ (Jvm.Cond.and given_1 narrow_1).before #[Value.ref b] s = true ∧ meth.name = x.name
set_option maxRecDepth 20000 in
theorem wh_by : am_by 258 = code := by
  show (am_nth am_bys 258).getD _ = code
  rw [show am_nth am_bys 258 = some code from rfl]
  rfl
set_option maxRecDepth 20000 in
theorem wh_mx : am_mx 258 = 4 := by decide +kernel
set_option maxRecDepth 20000 in
theorem wh_nm : am_nm 258 = x := by decide +kernel
set_option maxRecDepth 20000 in
theorem wh_rt : am_rt 258 = some .boolean := by decide +kernel
theorem wh_Y : ∀ n, n < 258 → am_Yk n := by
  intro n hn
  obtain ⟨M, ps, -, -, hy, -⟩ := am_okm_of (wh_ck n hn)
  exact am_Yk_of (hy.resolve_left (by omega))
set_option maxHeartbeats 4000000 in
theorem whole_start {p : Program} {e : Env} {s : State} {m : MethodId} {below : List Frame} {meth : Method} {c : Code} (l : Launch) (hflags : l.flags = flags0) {b L : Nat} {xs : Nat → Int32} (hL : L ≤ 2560) (C0 : lw_At p s m meth c b L xs) : W p l e room_1 s m #[Value.ref b] below meth c s.heap [] 0 0 (lw_Z below #[Value.ref b] s) (entryFrame m ([Value.ref b] : List Value).toArray 4) := by
  obtain ⟨hx, hb, hr, hml, hown, hts, hX, hbl, hlocks, hgv, hnm⟩ := id C0
  obtain ⟨ra, hRo, hNw, hra⟩ := wh_ro hts hgv hX hbl hL
  have htT : ∀ w ∈ am_T, w.before #[Value.ref b] s = true := fun w hw => hts w (List.mem_filter.mp hw).1
  obtain ⟨D, hK⟩ := wh_K htT
  have X : am_Ctx p room_1 s m #[Value.ref b] meth c (fun q => s.heap.size ≤ q) (wh_r L xs) ra 258 (47 + 5) 258120 8327888 := ⟨hx, hb.trans wh_by.symm, hml.trans wh_mx.symm, by rw [wh_nm]; exact hown, htT, fun _ h => h, hRo, ⟨by decide, by decide⟩, ⟨Nat.le_refl _, Nat.le_refl _⟩, by rw [wh_nm]; exact hnm, hNw⟩
  have hm : am_ex (am_m (wh_r L xs) 47) (wh_r L xs) am_M258 (fun r _ => r = some (am_I 1)) (0, [some (am_O 0), none, none, none], [], ([], fun _ _ => 0, fun _ _ => 0), 258120, 8327888) := lx_all (d := 0) wh_RoK wh_RoW (fun j => wh_rr 0 j) ⟨(by show (0 : Int) ≤ ((L : Nat) : Int); omega), by show ((L : Nat) : Int) ≤ 2560; omega⟩ (fun _ => rfl)
  have K := hm (am_Wp p l e room_1 s m #[Value.ref b] below meth c D (fun q => s.heap.size ≤ q) ra (fun _ => 0) 0 258 258120 8327888 (lw_Z below #[Value.ref b] s)) (fun t P' hP hst => by
    obtain ⟨pc, lv, st, ⟨S, I, J⟩, bc, bs⟩ := t
    unfold am_st at hst
    split at hst
    · rename_i o ho
      obtain ⟨pl, hokb⟩ := am_okl_at am_M258.1 am_pl258 wh_okl ho
      refine am_closeI (ro := wh_r L xs) (d := 47 + 5) (cal := am_m (wh_r L xs) 47) (M := am_M258) (Q := fun r _ => r = some (am_I 1)) X wh_Y (fun n a h Q' hn2 => am_sound_open wh_ck sb_StrP 47 n a h Q' hn2) ?_ ?_ ?_ (fun pc pl o lv st h bc bs P' q1 q2 q3 q4 => sb_StrP p e _ s m _ below meth c D _ (wh_r L xs) ra _ _ 258 47 _ _ _ (am_m (wh_r L xs) 47) am_M258 _ X pc pl o lv st h bc bs P' q1 q2 q3 q4) hokb hP hst
      · intro pc lv x h' bc bs hd hrr hb2 ad' cA' H locs ls cells slots hr2
        obtain ⟨hcl, hsl⟩ := hr2.2.2.2.2.2
        have hb3 : (x = 0 ∨ x = 1) ∧ some (am_I x) = some (am_I 1) := hb2
        have hx1 : x = 1 := by
          have := hb3.2
          simpa using this
        subst hx1
        refine W.widen (k := 258120) (n := 8327888) (Nat.le_trans (Nat.le_add_right _ _) hcl) (Nat.le_trans (Nat.le_add_right _ _) hsl) ?_
        refine va_forget (fun q hq => hr2.2.1.2.2 q hq) ?_
        rw [wh_by] at hd
        have e1 : Int32.ofInt 1 = 1 := by decide
        show W p l e room_1 s m #[Value.ref b] below meth c H [] 258120 8327888 (lw_Z below #[Value.ref b] s) (F0 m pc ls [.int (Int32.ofInt 1)])
        rw [e1]
        exact lw_ret hx hb hr hlocks hd
      · intro pc lv x h' bc bs hd hrr
        rw [wh_rt] at hrr
        cases hrr
      · intro pc lv h' bc bs hd hrr
        rw [wh_rt] at hrr
        cases hrr
    · exact False.elim hst)
  have hl : lv_has _ 4 [(0, .ref b)] := lv_entry ([Value.ref b]) (n := 4) (Nat.le_of_ble_eq_true rfl)
  rw [lg_entry_eq]
  refine K (fun _ => 0) (fun _ => 0) s.heap [] _ 0 0 ⟨⟨fun k q h => by simp [am_ws] at h, ⟨fun i j p q h => by simp [am_ws] at h, fun k q h => by simp [am_ws] at h⟩, hK, fun k ty n h => by simp at h, ⟨fun _ _ => (by decide : am_r 0), fun _ _ => (by decide : am_rl 0), fun k ci fs h => by simp at h, fun k ty n h => by simp at h⟩⟩, va_S.rf, ⟨Nat.le_refl _, fun _ _ => rfl⟩, ⟨hl.1.trans wh_mx.symm, hl.2.1, wh_mx.symm, fun i v hv => ?_⟩, (fun v hv => by cases hv), Nat.le_of_eq (Nat.zero_add _), Nat.le_of_eq (Nat.zero_add _)⟩
  match i, hv with
  | 0, hv =>
    have e : v = am_O 0 := by simpa using hv.symm
    subst e
    refine ⟨trivial, ?_⟩
    show _ = some (Slot.val (Value.ref (ra 0)))
    rw [hra]
    exact hl.2.2 (0, .ref b) List.mem_cons_self
  | 1, hv => simp at hv
  | 2, hv => simp at hv
  | 3, hv => simp at hv
  | i + 4, hv => simp at hv
set_option maxHeartbeats 4000000 in
theorem lw_walk (l : Launch) (hflags : l.flags = flags0) (b : Addr) (xs : List Int32) : MetFree l x (headSpec (Jvm.Cond.code x code maxLocals ret :: tables_1) room_1) (lw_P b xs) (fun _ _ _ _ _ => True) lw_Q := by
  refine MetFree.of_bodyS (code := code) (maxLocals := maxLocals) (ret := ret) (by decide) ?_ ?_
  · intro args s m h hn
    obtain ⟨meth, c, h1, h2, h3, h4, h5, h6, -, -⟩ := Cond.code_spec hn (atoms_spec (ws := Jvm.Cond.code x code maxLocals ret :: tables_1) h _ List.mem_cons_self)
    exact ⟨meth, c, h1, h2, h3, h4, h5, h6⟩
  · intro p e s m args below meth c s₁ B hml0 hP _
    obtain ⟨rfl, hx, hbd, hgv⟩ := hP
    obtain ⟨scr, harrAt, hlist, hof, hsmall⟩ := hx
    obtain ⟨hcb, hkn, -, -⟩ := State.arrayAt?_spec harrAt
    have hown : s.vm.findClass R_law = some m.cls := findClass_of_methodNamed B.named
    have hts0 : ∀ c ∈ (Jvm.Cond.code x code maxLocals ret :: tables_1), c.before #[Value.ref b] s = true := atoms_spec (ws := Jvm.Cond.code x code maxLocals ret :: tables_1) B.pre
    have hts : ∀ w ∈ lw_tbl, w.before #[Value.ref b] s = true := k2_hts_sels lw_privs (fun w hw => hts0 w (List.mem_cons_of_mem _ hw)) lw_privs_ok
    have hml : c.maxLocals = 4 := B.maxLocals_eq (hts0 _ List.mem_cons_self)
    have X₀ : Stand p l e room_1 s m #[Value.ref b] below meth c s₁ [] 0 0 := Stand.of_body B
    have hh0 : s₁.heap = s.heap := by rw [B.state]; rfl
    have hsz : scr.slots.size = xs.length := by rw [← Array.length_toList, hlist, List.length_map]
    have hval : ∀ j : Nat, j < xs.length → scr.slots[j]? = some (.int (xs.getD j 0)) := fun j hj => by
      rw [← Array.getElem?_toList, hlist]
      simp [hj]
    have hbl : b < s.heap.size := (Array.getElem?_eq_some_iff.mp hcb).1
    have hX : va_X b xs.length (fun j => xs.getD j 0) s s.heap := ⟨scr, hcb, hof, hkn, hsz, hval⟩
    have K : W p l e room_1 s m #[Value.ref b] below meth c s₁.heap [] 0 0 (lw_Z below #[Value.ref b] s) (entryFrame m ([Value.ref b] : List Value).toArray 4) := by
      rw [hh0]
      exact whole_start l hflags hbd ⟨B.exec, B.bytes, B.returns, hml, hown, hts, hX, hbl, B.notSynchronized, hgv, (name_of_methodNamed B.named B.method).1⟩
    obtain ⟨t, a1, o, b1, b2, b3⟩ := K s₁ rfl X₀
    exact ⟨t, o, a1, b1, b2, b3⟩
theorem lw_pre_spec {args : Array Value} {s : State} (h : (Jvm.Cond.and given_1 narrow_1).before args s = true) (hr : rest_1_c.before args s = true) : ∃ (b : Addr) (xs : List Int32), lw_P b xs args s := by
  have hs := flat_of_before _ h
  have hq := flat_of_before _ hr
  have hc : (Cond.count 1).before args s = true := hs _ (by decide +kernel)
  have harr : (Cond.arrayOf (.arg 0) .int).before args s = true := hs _ (by decide +kernel)
  have hle : (Cond.le (.length (.arg 0)) (.int 2560)).before args s = true := hs _ (by decide +kernel)
  have hlen : (Cond.isInt (.length (.arg 0))).before args s = true := hq _ (by decide +kernel)
  have hall : (Cond.all (.arg 0) (.isInt (.elem (.arg 0) (.index 0)))).before args s = true := hq _ (by decide +kernel)
  obtain ⟨b, xs, hb, hx⟩ := State.ints_of_pre rfl harr hlen hall
  have hsm : xs.length < 2 ^ 31 := hx.choose_spec.2.2.2
  have hev : (Term.length (.arg 0)).eval args s none [] s = some (.int xs.length.toInt32) := hx.length_eval hb
  have hv := Cond.le_ints hev (show (Term.int 2560).eval args s none [] s = some (.int 2560) from rfl)
  have hd : xs.length.toInt32 ≤ 2560 := by
    simpa [Cond.before, Cond.holds, hv] using hle
  have hN : xs.length ≤ 2560 := (Int32.ofNat_le_ofNat hsm (by decide)).mp (show Int32.ofNat xs.length ≤ Int32.ofNat 2560 from hd)
  exact ⟨b, xs, Cond.one_arg hc (show args[0]? = some (.ref b) from hb), hx, hN, h⟩
theorem lw_comes (l : Launch) (hflags : l.flags = flags0) : Comes l x (Jvm.Cond.code x code maxLocals ret :: tables_1) room_1 (fun tb e args s => Calls_1 tb e args s ∧ rest_1 tb e args s ∧ Pre_1 tb e args s)
    (fun _ _ args s o t => lw_Q args s o t) := by
  intro p e ha hc hk s m args below hf hfit hheap happ hpre
  obtain ⟨b, xs, hP⟩ := lw_pre_spec hpre.2.2 hpre.2.1
  obtain ⟨k, o, h1, h2, h3, hQ⟩ := lw_walk l hflags b xs p e ha hc hk s m args below hf ((Spec.applies_iff_loose hf).mp happ).1 hP trivial
  exact ⟨k, o, h1, h2, h3, hQ⟩
theorem lw_frame {s t : State} {o : Outcome} {args : Array Value} (h : Framed s o t [] 258120 8327888) :
    Framed s o t (fieldLocs frame_1_writes args s ++ arrayLocs frame_1_arrays args s ++ staticLocs frame_1_statics s) 258120 8327888 := h
theorem lw_limb (L : Cond) (hL : ∀ (args : Array Value) (s t : State), L.after args s (.returned (some (.int 1))) t = true) :
    ArmFor flags0 classFile x code maxLocals ret World_1 tables_1 room_1 Calls_1 rest_1 Pre_1
      (fun tb e a s o t => postC L tb e a s o t ∧ Framed s o t (fieldLocs frame_1_writes a s ++ arrayLocs frame_1_arrays a s ++ staticLocs frame_1_statics s) 258120 8327888) := by
  intro l hflags _ _ p e ha hc hk s m args below hf hfit hheap happ hpre
  obtain ⟨k, o, h1, h2, h3, rfl, hF⟩ := lw_comes l hflags p e ha hc hk s m args below hf hfit hheap happ hpre
  exact ⟨k, _, h1, h2, h3, hL args s _, lw_frame hF⟩
theorem i_vc : Claimed_1_1 ∧ Claimed_1_2 := ⟨lw_limb limb_1_1 (fun args s t => by simp [limb_1_1, Cond.after, Cond.holds, Cond.value]), lw_limb limb_1_2 (fun args s t => Cond.after_iff.mpr (by
  first | (rw [show limb_1_2 = Cond.eq .result (.int 1) from rfl, Cond.eq_ints (x := 1) (y := 1) rfl rfl]; simp; done) | (simp [limb_1_2, Cond.value, Term.eval]; done)))⟩
