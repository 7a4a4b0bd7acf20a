/-! THE TWO TEXTS: String's own methods over them -/
abbrev sb_A (sz : Nat) : Nat → Prop := fun q => sz ≤ q
def sb_W (adK adV : Nat → Nat) (sz : Nat) (U : State) : Prop := U.heap.size = sz ∧ vk_S 2 [102, 10] [am_wb, am_sb] adK adV (sb_A sz) U U.heap ∧ va_Z "java/lang/String" "COMPACT_STRINGS" "Z" (.int 1) (sb_A sz) U U.heap ∧ va_Zq "jdk/internal/util/Preconditions" "SIOOBE_FORMATTER" "Ljava/util/function/BiFunction;" (sb_A sz) U U.heap
def sb_rm (k : Nat) : Room := { frames := k, cells := 0, slots := 0, locals := 40 * k }
theorem sb_blind {adK adV : Nat → Nat} {sz : Nat} {av : List Value} : FrameBlind (va_Pc av (sb_W adK adV sz)) := by
  intro b U g mk q
  exact ⟨q.1, q.2.1, vk_S.moved (u := U) (U := U.calling g mk b) (Vm.Alike.refl U.vm) q.2.2.1, va_Z.moved (u := U) (U := U.calling g mk b) (Vm.Alike.refl U.vm) q.2.2.2.1, va_Zq.moved (u := U) (U := U.calling g mk b) (Vm.Alike.refl U.vm) q.2.2.2.2⟩
theorem sb_to {adK adV : Nat → Nat} {s U : State} {H : Heap} {locs : List Loc} (w : sb_W adK adV s.heap.size s) (hS : va_S (sb_A s.heap.size) s.heap H locs) (hU : U.heap = H) (hW : s.WarmedH U.vm) : sb_W adK adV H.size U := by
  have hn : ∀ q, sb_A H.size q → sb_A s.heap.size q := fun q hq => Nat.le_trans hS.1 hq
  refine ⟨by rw [hU], ?_, ?_, ?_⟩
  · rw [hU]
    exact vk_S.narrow (vk_S.moved hW.alike (vk_S.kept w.2.1 hS.2.1)) hn
  · rw [hU]
    exact va_Z.narrow (va_Z.moved hW.alike (va_Z.kept w.2.2.1 hS.2.1)) hn
  · rw [hU]
    exact va_Zq.narrow (va_Zq.moved hW.alike (va_Zq.kept w.2.2.2 hS.2.1)) hn
def sb_M (l : Launch) (y : MethodName) (cc : ByteArray) (mx : Nat) (rt : Option FieldType) (k : Nat) (adK adV : Nat → Nat) (av : List Value) (post : Int32 → Prop) : Prop := ∀ sz, Met l y (.code y cc mx rt :: am_T) (sb_rm k) (va_Pc av (sb_W adK adV sz)) (va_Qi (fun r (_ : Unit) => post r) (fun _ _ => True) (sb_A sz)) 0 0 (sb_A sz)
def sb_V (l : Launch) (y : MethodName) (cc : ByteArray) (mx : Nat) (k : Nat) (adK adV : Nat → Nat) (av : List Value) : Prop := ∀ sz, Met l y (.code y cc mx none :: am_T) (sb_rm k) (va_Pc av (sb_W adK adV sz)) (va_Qv (fun (_ : Unit) => True) (fun _ _ => True) (sb_A sz)) 0 0 (sb_A sz)
theorem sb_good {y : MethodName} {cc : ByteArray} {mx : Nat} {rt : Option FieldType} (h1 : Cond.code y cc mx rt ∈ tables_1) : GoodIn am_T (Cond.code y cc mx rt :: am_T) := by
  intro w hw
  rcases List.mem_cons.mp hw with rfl | hw
  · exact ⟨am_tb h1, am_goodW (am_tb h1)⟩
  · exact ⟨hw, am_goodW hw⟩
section SB1
variable {p : Program} {l : Launch} {e : Env} {R : Room} {s : State} {m : MethodId} {args : Array Value} {below : List Frame} {meth : Method} {c : Code} {H : Heap} {locs : List Loc} {cells slots : Nat} {Q : State → Prop} {adK adV : Nat → Nat} {cc : ByteArray} {nL pc : Nat} {own : String} {ls : Array Slot} {rest : List Value}
theorem sb_cS (hx : p.tables.exec = Jvm.exec) (hb : c.code = cc) (hml : c.maxLocals = nL) (ho : s.vm.findClass own = some m.cls) (hts : ∀ w ∈ am_T, w.before args s = true) (hw : sb_W adK adV s.heap.size s) (hS : va_S (sb_A s.heap.size) s.heap H locs) {y : MethodName} {c2 : ByteArray} {mx k n idx : Nat} {rt : Option FieldType} {av : List Value} {post : Int32 → Prop} (hM : sb_M l y c2 mx rt k adK adV av post) (h1 : Cond.code y c2 mx rt ∈ tables_1) (h2 : Cond.initialized y.cls ∈ tables_1) (h3 : Cond.methodLink own idx y ∈ tables_1) (h4 : Cond.static y ∈ tables_1) (h5 : y.cls ≠ "java/lang/invoke/MethodHandle" ∧ y.cls ≠ "java/lang/invoke/VarHandle" ∧ (parseMethodDescriptor y.desc).map (fun d => d.parameters.length) = some n) (hR : k + 1 ≤ R.frames ∧ 8 + (mx + 11) + 40 * k ≤ R.locals) (hn : av.length = n) (hls : ls.size = nL) (hr8 : (rest.map fun v => v.category).sum ≤ 8) (hf : cells ≤ R.cells ∧ slots ≤ R.slots) (hd : decode cc pc = .ok (.invokestatic idx, 3)) (kk : ∀ (r : Int32) (H1 : Heap) (locs1 : List Loc), post r → va_S (sb_A s.heap.size) s.heap H1 locs1 → W p l e R s m args below meth c H1 locs1 cells slots Q (F0 m (pc + 3) ls (.int r :: rest))) : W p l e R s m args below meth c H locs cells slots Q (F0 m pc ls (av.reverse ++ rest)) := by
  have cw := callB_of (own := own) (index := idx) (rm := sb_rm k) (R := R) n hts (sb_good h1) rfl rfl rfl (hts _ (am_tb h2)) (hts _ (am_tb h3)) h5 hR
  have hrun := va_runS (l := l) (e := e) (below := below) (meth := meth) (H := H) (locs := locs) (cells := cells) (slots := slots) (As := av) (rest := rest) (g := F0 m pc ls (av.reverse ++ rest)) ⟨hx, hb, hml, ho, hts⟩ (hM H.size) ⟨cw, hts _ (am_tb h4)⟩ ⟨sb_blind, fun U hU hW => ⟨rfl, sb_to hw hS hU hW⟩⟩ rfl hn hls rfl (lv_room hr8) hd ⟨hf.1, hf.2⟩
  exact va_calli hrun hS (fun q _ hq => Nat.le_trans hS.1 hq) (fun q hq => Nat.le_trans hS.1 hq) (fun r u t H1 locs1 _ _ hp _ _ _ hS1 => kk r H1 locs1 hp hS1)
theorem sb_cSv (hx : p.tables.exec = Jvm.exec) (hb : c.code = cc) (hml : c.maxLocals = nL) (ho : s.vm.findClass own = some m.cls) (hts : ∀ w ∈ am_T, w.before args s = true) (hw : sb_W adK adV s.heap.size s) (hS : va_S (sb_A s.heap.size) s.heap H locs) {y : MethodName} {c2 : ByteArray} {mx k n idx : Nat} {av : List Value} (hM : sb_V l y c2 mx k adK adV av) (h1 : Cond.code y c2 mx none ∈ tables_1) (h2 : Cond.initialized y.cls ∈ tables_1) (h3 : Cond.methodLink own idx y ∈ tables_1) (h4 : Cond.static y ∈ tables_1) (h5 : y.cls ≠ "java/lang/invoke/MethodHandle" ∧ y.cls ≠ "java/lang/invoke/VarHandle" ∧ (parseMethodDescriptor y.desc).map (fun d => d.parameters.length) = some n) (hR : k + 1 ≤ R.frames ∧ 8 + (mx + 11) + 40 * k ≤ R.locals) (hn : av.length = n) (hls : ls.size = nL) (hr8 : (rest.map fun v => v.category).sum ≤ 8) (hf : cells ≤ R.cells ∧ slots ≤ R.slots) (hd : decode cc pc = .ok (.invokestatic idx, 3)) (kk : ∀ (H1 : Heap) (locs1 : List Loc), va_S (sb_A s.heap.size) s.heap H1 locs1 → W p l e R s m args below meth c H1 locs1 cells slots Q (F0 m (pc + 3) ls rest)) : W p l e R s m args below meth c H locs cells slots Q (F0 m pc ls (av.reverse ++ rest)) := by
  have cw := callB_of (own := own) (index := idx) (rm := sb_rm k) (R := R) n hts (sb_good h1) rfl rfl rfl (hts _ (am_tb h2)) (hts _ (am_tb h3)) h5 hR
  have hrun := va_runS (l := l) (e := e) (below := below) (meth := meth) (H := H) (locs := locs) (cells := cells) (slots := slots) (As := av) (rest := rest) (g := F0 m pc ls (av.reverse ++ rest)) ⟨hx, hb, hml, ho, hts⟩ (hM H.size) ⟨cw, hts _ (am_tb h4)⟩ ⟨sb_blind, fun U hU hW => ⟨rfl, sb_to hw hS hU hW⟩⟩ rfl hn hls rfl (lv_room hr8) hd ⟨hf.1, hf.2⟩
  exact va_callv hrun hS (fun q _ hq => Nat.le_trans hS.1 hq) (fun q hq => Nat.le_trans hS.1 hq) (fun u t H1 locs1 _ _ hp _ _ _ hS1 => kk H1 locs1 hS1)
theorem sb_cV (hx : p.tables.exec = Jvm.exec) (hb : c.code = cc) (hml : c.maxLocals = nL) (ho : s.vm.findClass own = some m.cls) (hts : ∀ w ∈ am_T, w.before args s = true) (hw : sb_W adK adV s.heap.size s) (hS : va_S (sb_A s.heap.size) s.heap H locs) {i : Nat} (hi : i < 2) {y : MethodName} {c2 : ByteArray} {mx k n idx : Nat} {rt : Option FieldType} {av : List Value} {post : Int32 → Prop} (hM : sb_M l y c2 mx rt k adK adV (.ref (adK i) :: av) post) (h1 : Cond.code y c2 mx rt ∈ tables_1) (h2 : Cond.initialized y.cls ∈ tables_1) (h3 : Cond.methodLink own idx y ∈ tables_1) (h4 : Cond.instanceMethod y ∈ tables_1) (h4b : Cond.selects "java/lang/String" y y ∈ tables_1) (h5 : y.cls ≠ "java/lang/invoke/MethodHandle" ∧ y.cls ≠ "java/lang/invoke/VarHandle" ∧ (parseMethodDescriptor y.desc).map (fun d => d.parameters.length) = some n) (hR : k + 1 ≤ R.frames ∧ 8 + (mx + 11) + 40 * k ≤ R.locals) (hn : av.length = n) (hls : ls.size = nL) (hr8 : (rest.map fun v => v.category).sum ≤ 8) (hf : cells ≤ R.cells ∧ slots ≤ R.slots) (hd : decode cc pc = .ok (.invokevirtual idx, 3)) (kk : ∀ (r : Int32) (H1 : Heap) (locs1 : List Loc), post r → va_S (sb_A s.heap.size) s.heap H1 locs1 → W p l e R s m args below meth c H1 locs1 cells slots Q (F0 m (pc + 3) ls (.int r :: rest))) : W p l e R s m args below meth c H locs cells slots Q (F0 m pc ls (av.reverse ++ .ref (adK i) :: rest)) := by
  have cw := callB_of (own := own) (index := idx) (rm := sb_rm k) (R := R) n hts (sb_good h1) rfl rfl rfl (hts _ (am_tb h2)) (hts _ (am_tb h3)) h5 hR
  have hrun := va_runV (l := l) (e := e) (below := below) (meth := meth) (H := H) (locs := locs) (cells := cells) (slots := slots) (b := adK i) (C := "java/lang/String") (As := av) (rest := rest) (g := F0 m pc ls (av.reverse ++ .ref (adK i) :: rest)) ⟨hx, hb, hml, ho, hts⟩ (hM H.size) ⟨cw, hts _ (am_tb h4), hts _ (am_tb h4b)⟩ ⟨sb_blind, vk_recv hw.2.1 hi hS, fun U hU hW => ⟨rfl, sb_to hw hS hU hW⟩⟩ rfl hn hls rfl (lv_room hr8) hd ⟨hf.1, hf.2⟩
  exact va_calli hrun hS (fun q _ hq => Nat.le_trans hS.1 hq) (fun q hq => Nat.le_trans hS.1 hq) (fun r u t H1 locs1 _ _ hp _ _ _ hS1 => kk r H1 locs1 hp hS1)
end SB1
def sb_y_can : MethodName := ⟨"java/lang/StringLatin1", "canEncode", "(I)Z"⟩
theorem sb_k_can : Cond.code sb_y_can prog_19_method_4_code 1 (some .boolean) ∈ tables_1 := List.mem_of_getElem? (i := 798) (by decide +kernel)
def sb_y_lat : MethodName := ⟨"java/lang/String", "isLatin1", "()Z"⟩
theorem sb_k_lat : Cond.code sb_y_lat prog_18_method_154_code 1 (some .boolean) ∈ tables_1 := List.mem_of_getElem? (i := 748) (by decide +kernel)
def sb_y_cod : MethodName := ⟨"java/lang/String", "coder", "()B"⟩
theorem sb_k_cod : Cond.code sb_y_cod prog_18_method_152_code 1 (some .byte) ∈ tables_1 := List.mem_of_getElem? (i := 738) (by decide +kernel)
def sb_y_len : MethodName := ⟨"java/lang/String", "length", "()I"⟩
theorem sb_k_len : Cond.code sb_y_len prog_18_method_54_code 1 (some .int) ∈ tables_1 := List.mem_of_getElem? (i := 734) (by decide +kernel)
def sb_y_pci : MethodName := ⟨"jdk/internal/util/Preconditions", "checkIndex", "(IILjava/util/function/BiFunction;)I"⟩
theorem sb_k_pci : Cond.code sb_y_pci prog_23_method_11_code 3 (some .int) ∈ tables_1 := List.mem_of_getElem? (i := 759) (by decide +kernel)
def sb_y_sci : MethodName := ⟨"java/lang/String", "checkIndex", "(II)V"⟩
theorem sb_k_sci : Cond.code sb_y_sci prog_18_method_155_code 2 none ∈ tables_1 := List.mem_of_getElem? (i := 754) (by decide +kernel)
def sb_y_lca : MethodName := ⟨"java/lang/StringLatin1", "charAt", "([BI)C"⟩
theorem sb_k_lca : Cond.code sb_y_lca prog_19_method_2_code 2 (some .char) ∈ tables_1 := List.mem_of_getElem? (i := 751) (by decide +kernel)
def sb_y_sca : MethodName := ⟨"java/lang/String", "charAt", "(I)C"⟩
theorem sb_k_sca : Cond.code sb_y_sca prog_18_method_56_code 2 (some .char) ∈ tables_1 := List.mem_of_getElem? (i := 744) (by decide +kernel)
def sb_y_ioc : MethodName := ⟨"java/lang/StringLatin1", "indexOfChar", "([BIII)I"⟩
theorem sb_k_ioc : Cond.code sb_y_ioc prog_19_method_23_code 6 (some .int) ∈ tables_1 := List.mem_of_getElem? (i := 803) (by decide +kernel)
def sb_y_lio : MethodName := ⟨"java/lang/StringLatin1", "indexOf", "([BIII)I"⟩
theorem sb_k_lio : Cond.code sb_y_lio prog_19_method_22_code 4 (some .int) ∈ tables_1 := List.mem_of_getElem? (i := 795) (by decide +kernel)
def sb_y_io2 : MethodName := ⟨"java/lang/String", "indexOf", "(II)I"⟩
theorem sb_k_io2 : Cond.code sb_y_io2 prog_18_method_80_code 3 (some .int) ∈ tables_1 := List.mem_of_getElem? (i := 791) (by decide +kernel)
def sb_y_io1 : MethodName := ⟨"java/lang/String", "indexOf", "(I)I"⟩
theorem sb_k_io1 : Cond.code sb_y_io1 prog_18_method_79_code 2 (some .int) ∈ tables_1 := List.mem_of_getElem? (i := 787) (by decide +kernel)
theorem sb_can {l : Launch} {adK adV : Nat → Nat} {x : Int32} : sb_M l sb_y_can prog_19_method_4_code 1 (some .boolean) 0 adK adV [.int x] (fun r => r = if 0 ≤ x ∧ x ≤ 255 then 1 else 0) := by
  intro sz
  refine Met.ofW (cc := prog_19_method_4_code) (maxL := 1) (ret := (some .boolean)) (by decide) rfl ?_
  intro p e s m args below meth c s₁ B hml hv
  obtain ⟨rfl, hsz, hw⟩ := hv
  subst hsz
  have hw : sb_W adK adV s.heap.size s := ⟨rfl, hw⟩
  have hx := B.exec
  have hb := B.bytes
  have hr := B.returns
  have hlk := B.notSynchronized
  have ho := findClass_of_methodNamed B.named
  have hts : ∀ w ∈ am_T, w.before _ s = true := fun w hw => atoms_spec (ws := .code sb_y_can prog_19_method_4_code 1 (some .boolean) :: am_T) B.pre w (List.mem_cons_of_mem _ hw)
  have hS : va_S (sb_A s.heap.size) s.heap s.heap [] := va_S.rf
  have hl := lv_entry [.int x] (n := 1) (by first | decide | (simp [lg_sl, Value.category]))
  rw [lg_entry_eq]
  generalize ((lg_sl [.int x] ++ List.replicate (1 - (lg_sl [.int x]).length) Slot.unset).toArray) = ls at hl ⊢
  refine lv_iload_n (k := 0) hx hb (by decide +kernel) rfl (lv_at hl 0 rfl) ?_
  refine lv_if_lt (off := 14) hx hb (by decide +kernel) (tgt := 15) (by decide) (fun c1 => ?_) (fun c1 => ?_)
  · refine lv_iconst (n := 0) (v := 0) hx hb (by decide +kernel) (by decide) ?_
    exact W.zret (v := 0) hx hb hr rfl (fun t ht hW => ⟨⟨_, (), rfl, by rw [if_neg (fun h => absurd c1 (Int32.not_lt.mpr h.1))], trivial⟩, hS.F ht⟩) hS.2.2 (by decide +kernel) hlk
  · refine lv_iload_n (k := 0) hx hb (by decide +kernel) rfl (lv_at hl 0 rfl) ?_
    refine lv_sipush (n := 255) (v := 255) hx hb (by decide +kernel) (by decide) ?_
    refine lv_icmp_gt (off := 7) hx hb (by decide +kernel) (tgt := 15) (by decide) (fun c2 => ?_) (fun c2 => ?_)
    · refine lv_iconst (n := 0) (v := 0) hx hb (by decide +kernel) (by decide) ?_
      exact W.zret (v := 0) hx hb hr rfl (fun t ht hW => ⟨⟨_, (), rfl, by rw [if_neg (fun h => absurd c2 (Int32.not_lt.mpr h.2))], trivial⟩, hS.F ht⟩) hS.2.2 (by decide +kernel) hlk
    · refine lv_iconst (n := 1) (v := 1) hx hb (by decide +kernel) (by decide) ?_
      refine lv_goto (off := 4) hx hb (by decide +kernel) (tgt := 16) (by decide) ?_
      exact W.zret (v := 1) hx hb hr rfl (fun t ht hW => ⟨⟨_, (), rfl, by rw [if_pos ⟨Int32.not_lt.mp c1, Int32.not_lt.mp c2⟩], trivial⟩, hS.F ht⟩) hS.2.2 (by decide +kernel) hlk
theorem sb_w739 : (Jvm.Cond.fieldLink "java/lang/String" (38 : Nat) "java/lang/String" "COMPACT_STRINGS" "Z") ∈ tables_1 := List.mem_of_getElem? (i := 739) (by decide +kernel)
theorem sb_w1709 : (Jvm.Cond.fieldLink "java/lang/String" (15 : Nat) "java/lang/String" "coder" "B") ∈ tables_1 := List.mem_of_getElem? (i := 1709) (by decide +kernel)
theorem sb_lat {l : Launch} {adK adV : Nat → Nat} {i : Nat} (hi : i < 2) : sb_M l sb_y_lat prog_18_method_154_code 1 (some .boolean) 0 adK adV [.ref (adK i)] (fun r => r = 1) := by
  intro sz
  refine Met.ofW (cc := prog_18_method_154_code) (maxL := 1) (ret := (some .boolean)) (by decide) rfl ?_
  intro p e s m args below meth c s₁ B hml hv
  obtain ⟨rfl, hsz, hw⟩ := hv
  subst hsz
  have hw : sb_W adK adV s.heap.size s := ⟨rfl, hw⟩
  have hx := B.exec
  have hb := B.bytes
  have hr := B.returns
  have hlk := B.notSynchronized
  have ho := findClass_of_methodNamed B.named
  have hts : ∀ w ∈ am_T, w.before _ s = true := fun w hw => atoms_spec (ws := .code sb_y_lat prog_18_method_154_code 1 (some .boolean) :: am_T) B.pre w (List.mem_cons_of_mem _ hw)
  have hS : va_S (sb_A s.heap.size) s.heap s.heap [] := va_S.rf
  have hl := lv_entry [.ref (adK i)] (n := 1) (by first | decide | (simp [lg_sl, Value.category]))
  rw [lg_entry_eq]
  generalize ((lg_sl [.ref (adK i)] ++ List.replicate (1 - (lg_sl [.ref (adK i)]).length) Slot.unset).toArray) = ls at hl ⊢
  refine va_gets hx hb hw.2.2.1 hS ho (hts _ (am_tb sb_w739)) (fun _ h => h) (by decide +kernel) ?_
  refine lv_if_eq (off := 14) hx hb (by decide +kernel) (tgt := 17) (by decide) (fun c => absurd c (by decide)) (fun _ => ?_)
  refine lv_aload_n (k := 0) hx hb (by decide +kernel) rfl (lv_at hl 0 rfl) ?_
  refine vk_getf hx hb (hw.2.1.1 i hi).2.1 hS ho (hts _ (am_tb sb_w1709)) (fun _ h => h) (by decide +kernel) ?_
  refine lv_if_ne (off := 7) hx hb (by decide +kernel) (tgt := 17) (by decide) (fun c => absurd rfl c) (fun _ => ?_)
  refine lv_iconst (n := 1) (v := 1) hx hb (by decide +kernel) (by decide) ?_
  refine lv_goto (off := 4) hx hb (by decide +kernel) (tgt := 18) (by decide) ?_
  exact W.zret (v := 1) hx hb hr rfl (fun t ht hW => ⟨⟨_, (), rfl, rfl, trivial⟩, hS.F ht⟩) hS.2.2 (by decide +kernel) hlk
theorem sb_cod {l : Launch} {adK adV : Nat → Nat} {i : Nat} (hi : i < 2) : sb_M l sb_y_cod prog_18_method_152_code 1 (some .byte) 0 adK adV [.ref (adK i)] (fun r => r = 0) := by
  intro sz
  refine Met.ofW (cc := prog_18_method_152_code) (maxL := 1) (ret := (some .byte)) (by decide) rfl ?_
  intro p e s m args below meth c s₁ B hml hv
  obtain ⟨rfl, hsz, hw⟩ := hv
  subst hsz
  have hw : sb_W adK adV s.heap.size s := ⟨rfl, hw⟩
  have hx := B.exec
  have hb := B.bytes
  have hr := B.returns
  have hlk := B.notSynchronized
  have ho := findClass_of_methodNamed B.named
  have hts : ∀ w ∈ am_T, w.before _ s = true := fun w hw => atoms_spec (ws := .code sb_y_cod prog_18_method_152_code 1 (some .byte) :: am_T) B.pre w (List.mem_cons_of_mem _ hw)
  have hS : va_S (sb_A s.heap.size) s.heap s.heap [] := va_S.rf
  have hl := lv_entry [.ref (adK i)] (n := 1) (by first | decide | (simp [lg_sl, Value.category]))
  rw [lg_entry_eq]
  generalize ((lg_sl [.ref (adK i)] ++ List.replicate (1 - (lg_sl [.ref (adK i)]).length) Slot.unset).toArray) = ls at hl ⊢
  refine va_gets hx hb hw.2.2.1 hS ho (hts _ (am_tb sb_w739)) (fun _ h => h) (by decide +kernel) ?_
  refine lv_if_eq (off := 10) hx hb (by decide +kernel) (tgt := 13) (by decide) (fun c => absurd c (by decide)) (fun _ => ?_)
  refine lv_aload_n (k := 0) hx hb (by decide +kernel) rfl (lv_at hl 0 rfl) ?_
  refine vk_getf hx hb (hw.2.1.1 i hi).2.1 hS ho (hts _ (am_tb sb_w1709)) (fun _ h => h) (by decide +kernel) ?_
  refine lv_goto (off := 4) hx hb (by decide +kernel) (tgt := 14) (by decide) ?_
  exact W.zret (v := 0) hx hb hr rfl (fun t ht hW => ⟨⟨_, (), rfl, rfl, trivial⟩, hS.F ht⟩) hS.2.2 (by decide +kernel) hlk
theorem sb_w1708 : (Jvm.Cond.fieldLink "java/lang/String" (9 : Nat) "java/lang/String" "value" "[B") ∈ tables_1 := List.mem_of_getElem? (i := 1708) (by decide +kernel)
theorem sb_shr {i : Nat} (hi : i < 2) : Int32.ofNat (([102, 10] : List Nat).getD i 0) >>> ((0 : Int32) &&& 31) = Int32.ofNat (([102, 10] : List Nat).getD i 0) := by
  match i, hi with
  | 0, _ => decide
  | 1, _ => decide
theorem sb_w17 : (Jvm.Cond.initialized "java/lang/String") ∈ tables_1 := List.mem_of_getElem? (i := 17) (by decide +kernel)
theorem sb_w735 : (Jvm.Cond.methodLink "java/lang/String" (335 : Nat) ({ cls := "java/lang/String", name := "coder", desc := "()B" } : Jvm.MethodName)) ∈ tables_1 := List.mem_of_getElem? (i := 735) (by decide +kernel)
theorem sb_w736 : (Jvm.Cond.instanceMethod ({ cls := "java/lang/String", name := "coder", desc := "()B" } : Jvm.MethodName)) ∈ tables_1 := List.mem_of_getElem? (i := 736) (by decide +kernel)
theorem sb_w737 : (Jvm.Cond.selects "java/lang/String" ({ cls := "java/lang/String", name := "coder", desc := "()B" } : Jvm.MethodName) ({ cls := "java/lang/String", name := "coder", desc := "()B" } : Jvm.MethodName)) ∈ tables_1 := List.mem_of_getElem? (i := 737) (by decide +kernel)
theorem sb_len {l : Launch} {adK adV : Nat → Nat} {i : Nat} (hi : i < 2) : sb_M l sb_y_len prog_18_method_54_code 1 (some .int) 1 adK adV [.ref (adK i)] (fun r => r = Int32.ofNat (([102, 10] : List Nat).getD i 0)) := by
  intro sz
  refine Met.ofW (cc := prog_18_method_54_code) (maxL := 1) (ret := (some .int)) (by decide) rfl ?_
  intro p e s m args below meth c s₁ B hml hv
  obtain ⟨rfl, hsz, hw⟩ := hv
  subst hsz
  have hw : sb_W adK adV s.heap.size s := ⟨rfl, hw⟩
  have hx := B.exec
  have hb := B.bytes
  have hr := B.returns
  have hlk := B.notSynchronized
  have ho := findClass_of_methodNamed B.named
  have hts : ∀ w ∈ am_T, w.before _ s = true := fun w hw => atoms_spec (ws := .code sb_y_len prog_18_method_54_code 1 (some .int) :: am_T) B.pre w (List.mem_cons_of_mem _ hw)
  have hS : va_S (sb_A s.heap.size) s.heap s.heap [] := va_S.rf
  have hl := lv_entry [.ref (adK i)] (n := 1) (by first | decide | (simp [lg_sl, Value.category]))
  rw [lg_entry_eq]
  generalize ((lg_sl [.ref (adK i)] ++ List.replicate (1 - (lg_sl [.ref (adK i)]).length) Slot.unset).toArray) = ls at hl ⊢
  refine lv_aload_n (k := 0) hx hb (by decide +kernel) rfl (lv_at hl 0 rfl) ?_
  refine vk_getf hx hb (hw.2.1.1 i hi).2.2.1 hS ho (hts _ (am_tb sb_w1708)) (fun _ h => h) (by decide +kernel) ?_
  refine va_tlen hx hb (hw.2.1.1 i hi).2.2.2 hS rfl (by decide +kernel) ?_
  refine lv_aload_n (k := 0) hx hb (by decide +kernel) rfl (lv_at hl 0 rfl) ?_
  refine sb_cV hx hb hml ho hts hw hS hi (n := 0) (sb_cod hi) sb_k_cod sb_w17 sb_w735 sb_w736 sb_w737 ⟨by decide, by decide, by decide +kernel⟩ ⟨by decide, by decide⟩ rfl hl.1 (by first | decide | (simp [Value.category])) ⟨Nat.zero_le _, Nat.zero_le _⟩ (by decide +kernel) (fun r H1 locs1 hp hS => ?_)
  subst hp
  refine lv_ishr hx hb (by decide +kernel) ?_
  rw [sb_shr hi]
  exact W.iret (v := _) hx hb hr (fun t ht hW => ⟨⟨_, (), rfl, rfl, trivial⟩, hS.F ht⟩) hS.2.2 (by decide +kernel) hlk
theorem sb_pci_n {l : Launch} {adK adV : Nat → Nat} {x n : Int32} (h0 : ¬ x < 0) (h1 : x < n) : sb_M l sb_y_pci prog_23_method_11_code 3 (some .int) 0 adK adV [.int x, .int n, .null] (fun r => r = x) := by
  intro sz
  refine Met.ofW (cc := prog_23_method_11_code) (maxL := 3) (ret := (some .int)) (by decide) rfl ?_
  intro p e s m args below meth c s₁ B hml hv
  obtain ⟨rfl, hsz, hw⟩ := hv
  subst hsz
  have hw : sb_W adK adV s.heap.size s := ⟨rfl, hw⟩
  have hx := B.exec
  have hb := B.bytes
  have hr := B.returns
  have hlk := B.notSynchronized
  have ho := findClass_of_methodNamed B.named
  have hts : ∀ w ∈ am_T, w.before _ s = true := fun w hw => atoms_spec (ws := .code sb_y_pci prog_23_method_11_code 3 (some .int) :: am_T) B.pre w (List.mem_cons_of_mem _ hw)
  have hS : va_S (sb_A s.heap.size) s.heap s.heap [] := va_S.rf
  have hl := lv_entry [.int x, .int n, .null] (n := 3) (by first | decide | (simp [lg_sl, Value.category]))
  rw [lg_entry_eq]
  generalize ((lg_sl [.int x, .int n, .null] ++ List.replicate (3 - (lg_sl [.int x, .int n, .null]).length) Slot.unset).toArray) = ls at hl ⊢
  refine lv_iload_n (k := 0) hx hb (by decide +kernel) rfl (lv_at hl 0 rfl) ?_
  refine lv_if_lt (off := 8) hx hb (by decide +kernel) (tgt := 9) (by decide) (fun c => absurd c h0) (fun _ => ?_)
  refine lv_iload_n (k := 0) hx hb (by decide +kernel) rfl (lv_at hl 0 rfl) ?_
  refine lv_iload_n (k := 1) hx hb (by decide +kernel) rfl (lv_at hl 1 rfl) ?_
  refine lv_icmp_lt (off := 10) hx hb (by decide +kernel) (tgt := 16) (by decide) (fun _ => ?_) (fun c => absurd h1 c)
  refine lv_iload_n (k := 0) hx hb (by decide +kernel) rfl (lv_at hl 0 rfl) ?_
  exact W.iret (v := x) hx hb hr (fun t ht hW => ⟨⟨_, (), rfl, rfl, trivial⟩, hS.F ht⟩) hS.2.2 (by decide +kernel) hlk
theorem sb_pci_r {l : Launch} {adK adV : Nat → Nat} {t : Nat} {x n : Int32} (h0 : ¬ x < 0) (h1 : x < n) : sb_M l sb_y_pci prog_23_method_11_code 3 (some .int) 0 adK adV [.int x, .int n, .ref t] (fun r => r = x) := by
  intro sz
  refine Met.ofW (cc := prog_23_method_11_code) (maxL := 3) (ret := (some .int)) (by decide) rfl ?_
  intro p e s m args below meth c s₁ B hml hv
  obtain ⟨rfl, hsz, hw⟩ := hv
  subst hsz
  have hw : sb_W adK adV s.heap.size s := ⟨rfl, hw⟩
  have hx := B.exec
  have hb := B.bytes
  have hr := B.returns
  have hlk := B.notSynchronized
  have ho := findClass_of_methodNamed B.named
  have hts : ∀ w ∈ am_T, w.before _ s = true := fun w hw => atoms_spec (ws := .code sb_y_pci prog_23_method_11_code 3 (some .int) :: am_T) B.pre w (List.mem_cons_of_mem _ hw)
  have hS : va_S (sb_A s.heap.size) s.heap s.heap [] := va_S.rf
  have hl := lv_entry [.int x, .int n, .ref t] (n := 3) (by first | decide | (simp [lg_sl, Value.category]))
  rw [lg_entry_eq]
  generalize ((lg_sl [.int x, .int n, .ref t] ++ List.replicate (3 - (lg_sl [.int x, .int n, .ref t]).length) Slot.unset).toArray) = ls at hl ⊢
  refine lv_iload_n (k := 0) hx hb (by decide +kernel) rfl (lv_at hl 0 rfl) ?_
  refine lv_if_lt (off := 8) hx hb (by decide +kernel) (tgt := 9) (by decide) (fun c => absurd c h0) (fun _ => ?_)
  refine lv_iload_n (k := 0) hx hb (by decide +kernel) rfl (lv_at hl 0 rfl) ?_
  refine lv_iload_n (k := 1) hx hb (by decide +kernel) rfl (lv_at hl 1 rfl) ?_
  refine lv_icmp_lt (off := 10) hx hb (by decide +kernel) (tgt := 16) (by decide) (fun _ => ?_) (fun c => absurd h1 c)
  refine lv_iload_n (k := 0) hx hb (by decide +kernel) rfl (lv_at hl 0 rfl) ?_
  exact W.iret (v := x) hx hb hr (fun t ht hW => ⟨⟨_, (), rfl, rfl, trivial⟩, hS.F ht⟩) hS.2.2 (by decide +kernel) hlk
theorem sb_w755 : (Jvm.Cond.fieldLink "java/lang/String" (1053 : Nat) "jdk/internal/util/Preconditions" "SIOOBE_FORMATTER" "Ljava/util/function/BiFunction;") ∈ tables_1 := List.mem_of_getElem? (i := 755) (by decide +kernel)
theorem sb_w19 : (Jvm.Cond.initialized "jdk/internal/util/Preconditions") ∈ tables_1 := List.mem_of_getElem? (i := 19) (by decide +kernel)
theorem sb_w757 : (Jvm.Cond.methodLink "java/lang/String" (1059 : Nat) ({ cls := "jdk/internal/util/Preconditions", name := "checkIndex", desc := "(IILjava/util/function/BiFunction;)I" } : Jvm.MethodName)) ∈ tables_1 := List.mem_of_getElem? (i := 757) (by decide +kernel)
theorem sb_w758 : (Jvm.Cond.static ({ cls := "jdk/internal/util/Preconditions", name := "checkIndex", desc := "(IILjava/util/function/BiFunction;)I" } : Jvm.MethodName)) ∈ tables_1 := List.mem_of_getElem? (i := 758) (by decide +kernel)
theorem sb_sci {l : Launch} {adK adV : Nat → Nat} {x n : Int32} (h0 : ¬ x < 0) (h1 : x < n) : sb_V l sb_y_sci prog_18_method_155_code 2 1 adK adV [.int x, .int n] := by
  intro sz
  refine Met.ofW (cc := prog_18_method_155_code) (maxL := 2) (ret := none) (by decide) rfl ?_
  intro p e s m args below meth c s₁ B hml hv
  obtain ⟨rfl, hsz, hw⟩ := hv
  subst hsz
  have hw : sb_W adK adV s.heap.size s := ⟨rfl, hw⟩
  have hx := B.exec
  have hb := B.bytes
  have hr := B.returns
  have hlk := B.notSynchronized
  have ho := findClass_of_methodNamed B.named
  have hts : ∀ w ∈ am_T, w.before _ s = true := fun w hw => atoms_spec (ws := .code sb_y_sci prog_18_method_155_code 2 none :: am_T) B.pre w (List.mem_cons_of_mem _ hw)
  have hS : va_S (sb_A s.heap.size) s.heap s.heap [] := va_S.rf
  have hl := lv_entry [.int x, .int n] (n := 2) (by first | decide | (simp [lg_sl, Value.category]))
  rw [lg_entry_eq]
  generalize ((lg_sl [.int x, .int n] ++ List.replicate (2 - (lg_sl [.int x, .int n]).length) Slot.unset).toArray) = ls at hl ⊢
  refine lv_iload_n (k := 0) hx hb (by decide +kernel) rfl (lv_at hl 0 rfl) ?_
  refine lv_iload_n (k := 1) hx hb (by decide +kernel) rfl (lv_at hl 1 rfl) ?_
  rcases hw.2.2.2 with hz | ⟨t, hz⟩
  · refine va_gets hx hb hz hS ho (hts _ (am_tb sb_w755)) (fun _ h => h) (by decide +kernel) ?_
    refine sb_cS hx hb hml ho hts hw hS (n := 3) (sb_pci_n h0 h1) sb_k_pci sb_w19 sb_w757 sb_w758 ⟨by decide, by decide, by decide +kernel⟩ ⟨by decide, by decide⟩ rfl hl.1 (by first | decide | (simp [Value.category])) ⟨Nat.zero_le _, Nat.zero_le _⟩ (by decide +kernel) (fun r H1 locs1 hp hS => ?_)
    refine lv_pop hx hb (by decide +kernel) rfl ?_
    exact W.vret hx hb hr (fun t ht hW => ⟨⟨(), rfl, trivial, trivial⟩, hS.F ht⟩) hS.2.2 (by decide +kernel) hlk
  · refine va_gets hx hb hz hS ho (hts _ (am_tb sb_w755)) (fun _ h => h) (by decide +kernel) ?_
    refine sb_cS hx hb hml ho hts hw hS (n := 3) (sb_pci_r h0 h1) sb_k_pci sb_w19 sb_w757 sb_w758 ⟨by decide, by decide, by decide +kernel⟩ ⟨by decide, by decide⟩ rfl hl.1 (by first | decide | (simp [Value.category])) ⟨Nat.zero_le _, Nat.zero_le _⟩ (by decide +kernel) (fun r H1 locs1 hp hS => ?_)
    refine lv_pop hx hb (by decide +kernel) rfl ?_
    exact W.vret hx hb hr (fun t ht hW => ⟨⟨(), rfl, trivial, trivial⟩, hS.F ht⟩) hS.2.2 (by decide +kernel) hlk
def sb_bb (i k : Nat) : Int32 := (([am_wb, am_sb] : List (List Int32)).getD i []).getD k 0
theorem sb_bt : ∀ (i : Fin 2) (k : Fin 102), (((sb_bb i.val k.val &&& 255).toUInt32 % 65536).toInt32 = sb_bb i.val k.val ∧ narrow .char (.int (sb_bb i.val k.val)) = .int (sb_bb i.val k.val)) ∧ 0 ≤ (sb_bb i.val k.val).toInt ∧ (sb_bb i.val k.val).toInt < 128 := by decide +kernel
theorem sb_bl {i : Nat} (hi : i < 2) {k : Nat} (hk : k < ([102, 10] : List Nat).getD i 0) : k < 102 := by
  match i, hi with
  | 0, _ => exact hk
  | 1, _ => exact Nat.lt_of_lt_of_le hk (by decide)
theorem sb_nl {i : Nat} (hi : i < 2) : ([102, 10] : List Nat).getD i 0 < 2147483648 := by
  match i, hi with
  | 0, _ => exact Nat.le_of_ble_eq_true rfl
  | 1, _ => exact Nat.le_of_ble_eq_true rfl
theorem sb_in {x : Int32} {n : Nat} (h : vp_in x n) (hn : n < 2147483648) : ¬ x < 0 ∧ x < Int32.ofNat n := by
  have h0 : ¬ x < 0 := fun q => h (Or.inl q)
  have h1 : ¬ n ≤ x.toNatClampNeg := fun q => h (Or.inr q)
  refine ⟨h0, ?_⟩
  rw [Int32.lt_iff_toInt_lt] at h0 ⊢
  have e : (Int32.ofNat n).toInt = n := by
    rw [Int32.toInt_ofNat_of_lt hn]
  rw [e]
  have e2 : x.toNatClampNeg = x.toInt.toNat := rfl
  have e3 : (0 : Int32).toInt = 0 := rfl
  rw [e3] at h0
  rw [e2] at h1
  omega
theorem sb_w752 : (Jvm.Cond.methodLink "java/lang/StringLatin1" (9 : Nat) ({ cls := "java/lang/String", name := "checkIndex", desc := "(II)V" } : Jvm.MethodName)) ∈ tables_1 := List.mem_of_getElem? (i := 752) (by decide +kernel)
theorem sb_w753 : (Jvm.Cond.static ({ cls := "java/lang/String", name := "checkIndex", desc := "(II)V" } : Jvm.MethodName)) ∈ tables_1 := List.mem_of_getElem? (i := 753) (by decide +kernel)
theorem sb_lca {l : Launch} {adK adV : Nat → Nat} {i : Nat} (hi : i < 2) {x : Int32} (hin : vp_in x (([102, 10] : List Nat).getD i 0)) : sb_M l sb_y_lca prog_19_method_2_code 2 (some .char) 2 adK adV [.ref (adV i), .int x] (fun r => r = sb_bb i x.toNatClampNeg) := by
  intro sz
  refine Met.ofW (cc := prog_19_method_2_code) (maxL := 2) (ret := (some .char)) (by decide) rfl ?_
  intro p e s m args below meth c s₁ B hml hv
  obtain ⟨rfl, hsz, hw⟩ := hv
  subst hsz
  have hw : sb_W adK adV s.heap.size s := ⟨rfl, hw⟩
  have hx := B.exec
  have hb := B.bytes
  have hr := B.returns
  have hlk := B.notSynchronized
  have ho := findClass_of_methodNamed B.named
  have hts : ∀ w ∈ am_T, w.before _ s = true := fun w hw => atoms_spec (ws := .code sb_y_lca prog_19_method_2_code 2 (some .char) :: am_T) B.pre w (List.mem_cons_of_mem _ hw)
  have hS : va_S (sb_A s.heap.size) s.heap s.heap [] := va_S.rf
  have hl := lv_entry [.ref (adV i), .int x] (n := 2) (by first | decide | (simp [lg_sl, Value.category]))
  rw [lg_entry_eq]
  generalize ((lg_sl [.ref (adV i), .int x] ++ List.replicate (2 - (lg_sl [.ref (adV i), .int x]).length) Slot.unset).toArray) = ls at hl ⊢
  have hk := sb_bl hi (Nat.not_le.mp fun q => hin (Or.inr q))
  have hq := (sb_bt ⟨i, hi⟩ ⟨x.toNatClampNeg, hk⟩).1
  have hn := sb_in hin (sb_nl hi)
  refine lv_iload_n (k := 1) hx hb (by decide +kernel) rfl (lv_at hl 1 rfl) ?_
  refine lv_aload_n (k := 0) hx hb (by decide +kernel) rfl (lv_at hl 0 rfl) ?_
  refine va_tlen hx hb (hw.2.1.1 i hi).2.2.2 hS rfl (by decide +kernel) ?_
  refine sb_cSv hx hb hml ho hts hw hS (n := 2) (sb_sci hn.1 hn.2) sb_k_sci sb_w17 sb_w752 sb_w753 ⟨by decide, by decide, by decide +kernel⟩ ⟨by decide, by decide⟩ rfl hl.1 (by first | decide | (simp [Value.category])) ⟨Nat.zero_le _, Nat.zero_le _⟩ (by decide +kernel) (fun H1 locs1 hS => ?_)
  refine lv_aload_n (k := 0) hx hb (by decide +kernel) rfl (lv_at hl 0 rfl) ?_
  refine lv_iload_n (k := 1) hx hb (by decide +kernel) rfl (lv_at hl 1 rfl) ?_
  refine va_tb hx hb (hw.2.1.1 i hi).2.2.2 hS hin (v := .int (sb_bb i x.toNatClampNeg)) rfl (by decide +kernel) ?_
  refine lv_sipush (n := 255) (v := 255) hx hb (by decide +kernel) (by decide) ?_
  refine lv_iand hx hb (by decide +kernel) ?_
  refine lv_i2c hx hb (by decide +kernel) hq.1 ?_
  exact W.zret (v := sb_bb i x.toNatClampNeg) hx hb hr hq.2 (fun t ht hW => ⟨⟨_, (), rfl, rfl, trivial⟩, hS.F ht⟩) hS.2.2 (by decide +kernel) hlk
theorem sb_w745 : (Jvm.Cond.methodLink "java/lang/String" (492 : Nat) ({ cls := "java/lang/String", name := "isLatin1", desc := "()Z" } : Jvm.MethodName)) ∈ tables_1 := List.mem_of_getElem? (i := 745) (by decide +kernel)
theorem sb_w746 : (Jvm.Cond.instanceMethod ({ cls := "java/lang/String", name := "isLatin1", desc := "()Z" } : Jvm.MethodName)) ∈ tables_1 := List.mem_of_getElem? (i := 746) (by decide +kernel)
theorem sb_w747 : (Jvm.Cond.selects "java/lang/String" ({ cls := "java/lang/String", name := "isLatin1", desc := "()Z" } : Jvm.MethodName) ({ cls := "java/lang/String", name := "isLatin1", desc := "()Z" } : Jvm.MethodName)) ∈ tables_1 := List.mem_of_getElem? (i := 747) (by decide +kernel)
theorem sb_w18 : (Jvm.Cond.initialized "java/lang/StringLatin1") ∈ tables_1 := List.mem_of_getElem? (i := 18) (by decide +kernel)
theorem sb_w749 : (Jvm.Cond.methodLink "java/lang/String" (495 : Nat) ({ cls := "java/lang/StringLatin1", name := "charAt", desc := "([BI)C" } : Jvm.MethodName)) ∈ tables_1 := List.mem_of_getElem? (i := 749) (by decide +kernel)
theorem sb_w750 : (Jvm.Cond.static ({ cls := "java/lang/StringLatin1", name := "charAt", desc := "([BI)C" } : Jvm.MethodName)) ∈ tables_1 := List.mem_of_getElem? (i := 750) (by decide +kernel)
theorem sb_sca {l : Launch} {adK adV : Nat → Nat} {i : Nat} (hi : i < 2) {x : Int32} (hin : vp_in x (([102, 10] : List Nat).getD i 0)) : sb_M l sb_y_sca prog_18_method_56_code 2 (some .char) 3 adK adV [.ref (adK i), .int x] (fun r => r = sb_bb i x.toNatClampNeg) := by
  intro sz
  refine Met.ofW (cc := prog_18_method_56_code) (maxL := 2) (ret := (some .char)) (by decide) rfl ?_
  intro p e s m args below meth c s₁ B hml hv
  obtain ⟨rfl, hsz, hw⟩ := hv
  subst hsz
  have hw : sb_W adK adV s.heap.size s := ⟨rfl, hw⟩
  have hx := B.exec
  have hb := B.bytes
  have hr := B.returns
  have hlk := B.notSynchronized
  have ho := findClass_of_methodNamed B.named
  have hts : ∀ w ∈ am_T, w.before _ s = true := fun w hw => atoms_spec (ws := .code sb_y_sca prog_18_method_56_code 2 (some .char) :: am_T) B.pre w (List.mem_cons_of_mem _ hw)
  have hS : va_S (sb_A s.heap.size) s.heap s.heap [] := va_S.rf
  have hl := lv_entry [.ref (adK i), .int x] (n := 2) (by first | decide | (simp [lg_sl, Value.category]))
  rw [lg_entry_eq]
  generalize ((lg_sl [.ref (adK i), .int x] ++ List.replicate (2 - (lg_sl [.ref (adK i), .int x]).length) Slot.unset).toArray) = ls at hl ⊢
  have hk := sb_bl hi (Nat.not_le.mp fun q => hin (Or.inr q))
  have hq := (sb_bt ⟨i, hi⟩ ⟨x.toNatClampNeg, hk⟩).1
  refine lv_aload_n (k := 0) hx hb (by decide +kernel) rfl (lv_at hl 0 rfl) ?_
  refine sb_cV hx hb hml ho hts hw hS hi (n := 0) (sb_lat hi) sb_k_lat sb_w17 sb_w745 sb_w746 sb_w747 ⟨by decide, by decide, by decide +kernel⟩ ⟨by decide, by decide⟩ rfl hl.1 (by first | decide | (simp [Value.category])) ⟨Nat.zero_le _, Nat.zero_le _⟩ (by decide +kernel) (fun r H1 locs1 hp hS => ?_)
  subst hp
  refine lv_if_eq (off := 12) hx hb (by decide +kernel) (tgt := 16) (by decide) (fun c => absurd c (by decide)) (fun _ => ?_)
  refine lv_aload_n (k := 0) hx hb (by decide +kernel) rfl (lv_at hl 0 rfl) ?_
  refine vk_getf hx hb (hw.2.1.1 i hi).2.2.1 hS ho (hts _ (am_tb sb_w1708)) (fun _ h => h) (by decide +kernel) ?_
  refine lv_iload_n (k := 1) hx hb (by decide +kernel) rfl (lv_at hl 1 rfl) ?_
  refine sb_cS hx hb hml ho hts hw hS (n := 2) (sb_lca hi hin) sb_k_lca sb_w18 sb_w749 sb_w750 ⟨by decide, by decide, by decide +kernel⟩ ⟨by decide, by decide⟩ rfl hl.1 (by first | decide | (simp [Value.category])) ⟨Nat.zero_le _, Nat.zero_le _⟩ (by decide +kernel) (fun r H1 locs1 hp hS => ?_)
  subst hp
  exact W.zret (v := sb_bb i x.toNatClampNeg) hx hb hr hq.2 (fun t ht hW => ⟨⟨_, (), rfl, rfl, trivial⟩, hS.F ht⟩) hS.2.2 (by decide +kernel) hlk
def sb_g (i : Nat) : Int → Int := fun k => (sb_bb i k.toNat).toInt
theorem sb_tc : ∀ c : Fin 256, ((Int32.ofInt (c.val : Int)).toInt8.toInt32).toInt = if (c.val : Int) < 128 then (c.val : Int) else (c.val : Int) - 256 := by decide +kernel
theorem sb_on {k : Nat} (h : k < 2147483648) : (Int32.ofNat k).toInt = k := Int32.toInt_ofNat_of_lt h
theorem sb_cl {k : Nat} (h : k < 2147483648) : (Int32.ofNat k).toNatClampNeg = k := by
  show (Int32.ofNat k).toInt.toNat = k
  rw [sb_on h]
  rfl
theorem sb_ni {k : Nat} (h : k < 2147483648) : Int32.ofNat k = Int32.ofInt (k : Int) := by
  rw [← Int32.toInt_inj, sb_on h, am_t ⟨by omega, by omega⟩]
theorem sb_vp {k n : Nat} (hk : k < n) (hn : n < 2147483648) : vp_in (Int32.ofNat k) n := by
  have h : k < 2147483648 := by omega
  rintro (q | q)
  · rw [Int32.lt_iff_toInt_lt, sb_on h] at q
    have e : (0 : Int32).toInt = 0 := rfl
    rw [e] at q
    omega
  · rw [sb_cl h] at q
    omega
theorem sb_gk {i k : Nat} : sb_g i (k : Int) = (sb_bb i k).toInt := rfl
theorem sb_cmq {i k : Nat} (hi : i < 2) (hk : k < 102) {c : Int} (hc : 0 ≤ c ∧ c < 256) : (sb_bb i k = (Int32.ofInt c).toInt8.toInt32) ↔ sb_g i k = c := by
  obtain ⟨m, rfl⟩ := Int.eq_ofNat_of_zero_le hc.1
  have T := sb_tc ⟨m, by omega⟩
  have B := (sb_bt ⟨i, hi⟩ ⟨k, hk⟩).2
  rw [← Int32.toInt_inj, sb_gk]
  dsimp only at T B
  rw [T]
  split <;> omega
theorem sb_ixs {f : Int → Int} {c k : Int} {n : Nat} : am_ix f c (n + 1) k = if f k = c then k else am_ix f c n (k + 1) := rfl
theorem sb_ixn {f : Int → Int} {c : Int} : ∀ (n : Nat) (k : Int), (∀ j, k ≤ j → j < k + n → f j ≠ c) → am_ix f c n k = -1
  | 0, _, _ => rfl
  | n + 1, k, h => by
    rw [sb_ixs, if_neg (h k (by omega) (by omega))]
    exact sb_ixn n (k + 1) (fun j h1 h2 => h j (by omega) (by omega))
theorem sb_gb {i : Nat} (hi : i < 2) {j : Int} (h0 : 0 ≤ j) (h1 : j < (([102, 10] : List Nat).getD i 0 : Nat)) : 0 ≤ sb_g i j ∧ sb_g i j < 128 := by
  obtain ⟨m, rfl⟩ := Int.eq_ofNat_of_zero_le h0
  rw [sb_gk]
  exact (sb_bt ⟨i, hi⟩ ⟨m, sb_bl hi (by omega)⟩).2
theorem sb_ce {k0 : Int} (hk : am_r k0) : (0 ≤ Int32.ofInt k0 ∧ Int32.ofInt k0 ≤ 255) ↔ (0 ≤ k0 ∧ k0 < 256) := by
  rw [Int32.le_iff_toInt_le, Int32.le_iff_toInt_le, am_t hk]
  have e : (0 : Int32).toInt = 0 := rfl
  have e2 : (255 : Int32).toInt = 255 := rfl
  rw [e, e2]
  omega
section SB2
variable {p : Program} {l : Launch} {e : Env} {R : Room} {s : State} {m : MethodId} {args : Array Value} {below : List Frame} {meth : Method} {c : Code} {H : Heap} {locs : List Loc} {cells slots : Nat} {Q : State → Prop} {adK adV : Nat → Nat}
theorem sb_iocL (hx : p.tables.exec = Jvm.exec) (hb : c.code = prog_19_method_23_code) (hw : sb_W adK adV s.heap.size s) (hS : va_S (sb_A s.heap.size) s.heap H locs) {i : Nat} (hi : i < 2) {k0 : Int} (hc : 0 ≤ k0 ∧ k0 < 256) (K1 : ∀ (ls : Array Slot) (k : Nat), k < ([102, 10] : List Nat).getD i 0 → am_ix (sb_g i) k0 (([102, 10] : List Nat).getD i 0) 0 = (k : Int) → W p l e R s m args below meth c H locs cells slots Q (F0 m 24 ls [.int (Int32.ofNat k)])) (K2 : ∀ ls : Array Slot, am_ix (sb_g i) k0 (([102, 10] : List Nat).getD i 0) 0 = -1 → W p l e R s m args below meth c H locs cells slots Q (F0 m 31 ls [])) : ∀ (n k : Nat) (ls : Array Slot), k + n = ([102, 10] : List Nat).getD i 0 → lv_has ls 6 [(5, .int (Int32.ofNat k)), (4, .int (Int32.ofInt k0).toInt8.toInt32), (0, .ref (adV i)), (1, .int (Int32.ofInt k0)), (2, .int 0), (3, .int (Int32.ofNat (([102, 10] : List Nat).getD i 0)))] → am_ix (sb_g i) k0 (([102, 10] : List Nat).getD i 0) 0 = am_ix (sb_g i) k0 n (k : Int) → W p l e R s m args below meth c H locs cells slots Q (F0 m 7 ls []) := by
  have hN := sb_nl hi
  intro n
  induction n with
  | zero =>
    intro k ls hk hl he
    refine lv_iload (i := 5) hx hb (by decide +kernel) (lv_at hl 0 rfl) ?_
    refine lv_iload_n (k := 3) hx hb (by decide +kernel) rfl (lv_at hl 5 rfl) ?_
    refine lv_icmp_ge (off := 21) hx hb (by decide +kernel) (tgt := 31) (by decide) (fun _ => K2 ls (by rw [he]; rfl)) (fun c1 => absurd ?_ c1)
    rw [Int32.le_iff_toInt_le, sb_on hN, sb_on (by omega)]
    omega
  | succ n ih =>
    intro k ls hk hl he
    have hkN : k < ([102, 10] : List Nat).getD i 0 := by omega
    have h102 := sb_bl hi hkN
    refine lv_iload (i := 5) hx hb (by decide +kernel) (lv_at hl 0 rfl) ?_
    refine lv_iload_n (k := 3) hx hb (by decide +kernel) rfl (lv_at hl 5 rfl) ?_
    refine lv_icmp_ge (off := 21) hx hb (by decide +kernel) (tgt := 31) (by decide) (fun c1 => absurd c1 ?_) (fun _ => ?_)
    · rw [Int32.le_iff_toInt_le, sb_on hN, sb_on (by omega)]
      omega
    · refine lv_aload_n (k := 0) hx hb (by decide +kernel) rfl (lv_at hl 2 rfl) ?_
      refine lv_iload (i := 5) hx hb (by decide +kernel) (lv_at hl 0 rfl) ?_
      refine va_tb hx hb (hw.2.1.1 i hi).2.2.2 hS (sb_vp hkN hN) (v := .int (sb_bb i k)) (by rw [sb_cl (by omega)]; rfl) (by decide +kernel) ?_
      refine lv_iload (i := 4) hx hb (by decide +kernel) (lv_at hl 1 rfl) ?_
      refine lv_icmp_ne (off := 6) hx hb (by decide +kernel) (tgt := 25) (by decide) (fun c2 => ?_) (fun c2 => ?_)
      · refine lv_iinc (i := 5) (k := 0) (n := 1) (v := Int32.ofNat (k + 1)) hx hb (by decide +kernel) hl rfl ?_ (by decide) rfl (fun ls hl => ?_)
        · first
            | (rw [Int32.ofNat_add]; rfl)
            | (rw [← Int32.toInt_inj]; simp)
        · refine lv_goto (off := -21) hx hb (by decide +kernel) (tgt := 7) (by decide) ?_
          refine ih (k + 1) ls (by omega) hl ?_
          rw [he, sb_ixs, if_neg (fun q => c2 ((sb_cmq hi h102 hc).mpr q))]
          rfl
      · refine lv_iload (i := 5) hx hb (by decide +kernel) (lv_at hl 0 rfl) ?_
        refine K1 ls k hkN ?_
        rw [he, sb_ixs, if_pos ((sb_cmq hi h102 hc).mp c2)]
end SB2
theorem sb_ioc {l : Launch} {adK adV : Nat → Nat} {i : Nat} (hi : i < 2) {k0 : Int} (hc : 0 ≤ k0 ∧ k0 < 256) : sb_M l sb_y_ioc prog_19_method_23_code 6 (some .int) 0 adK adV [.ref (adV i), .int (Int32.ofInt k0), .int 0, .int (Int32.ofNat (([102, 10] : List Nat).getD i 0))] (fun r => r = Int32.ofInt (am_ix (sb_g i) k0 (([102, 10] : List Nat).getD i 0) 0)) := by
  intro sz
  refine Met.ofW (cc := prog_19_method_23_code) (maxL := 6) (ret := (some .int)) (by decide) rfl ?_
  intro p e s m args below meth c s₁ B hml hv
  obtain ⟨rfl, hsz, hw⟩ := hv
  subst hsz
  have hw : sb_W adK adV s.heap.size s := ⟨rfl, hw⟩
  have hx := B.exec
  have hb := B.bytes
  have hr := B.returns
  have hlk := B.notSynchronized
  have ho := findClass_of_methodNamed B.named
  have hts : ∀ w ∈ am_T, w.before _ s = true := fun w hw => atoms_spec (ws := .code sb_y_ioc prog_19_method_23_code 6 (some .int) :: am_T) B.pre w (List.mem_cons_of_mem _ hw)
  have hS : va_S (sb_A s.heap.size) s.heap s.heap [] := va_S.rf
  have hl := lv_entry [.ref (adV i), .int (Int32.ofInt k0), .int 0, .int (Int32.ofNat (([102, 10] : List Nat).getD i 0))] (n := 6) (by first | decide | (simp [lg_sl, Value.category]))
  rw [lg_entry_eq]
  generalize ((lg_sl [.ref (adV i), .int (Int32.ofInt k0), .int 0, .int (Int32.ofNat (([102, 10] : List Nat).getD i 0))] ++ List.replicate (6 - (lg_sl [.ref (adV i), .int (Int32.ofInt k0), .int 0, .int (Int32.ofNat (([102, 10] : List Nat).getD i 0))]).length) Slot.unset).toArray) = ls at hl ⊢
  have hN := sb_nl hi
  refine lv_iload_n (k := 1) hx hb (by decide +kernel) rfl (lv_at hl 1 rfl) ?_
  refine lv_i2b hx hb (by decide +kernel) rfl ?_
  refine lv_istore (i := 4) hx hb (by decide +kernel) hl (by decide) rfl (fun ls hl => ?_)
  refine lv_iload_n (k := 2) hx hb (by decide +kernel) rfl (lv_at hl 3 rfl) ?_
  refine lv_istore (i := 5) hx hb (by decide +kernel) hl (by decide) rfl (fun ls hl => ?_)
  refine sb_iocL hx hb hw hS hi hc (fun ls k hk he => ?_) (fun ls he => ?_) (([102, 10] : List Nat).getD i 0) 0 ls (by omega) hl rfl
  · exact W.iret (v := Int32.ofNat k) hx hb hr (fun t ht hW => ⟨⟨_, (), rfl, by rw [he]; exact sb_ni (by omega), trivial⟩, hS.F ht⟩) hS.2.2 (by decide +kernel) hlk
  · refine lv_iconst (n := (-1)) (v := (-1)) hx hb (by decide +kernel) (by decide) ?_
    exact W.iret (v := -1) hx hb hr (fun t ht hW => ⟨⟨_, (), rfl, by rw [he]; rfl, trivial⟩, hS.F ht⟩) hS.2.2 (by decide +kernel) hlk
theorem sb_w796 : (Jvm.Cond.methodLink "java/lang/StringLatin1" (88 : Nat) ({ cls := "java/lang/StringLatin1", name := "canEncode", desc := "(I)Z" } : Jvm.MethodName)) ∈ tables_1 := List.mem_of_getElem? (i := 796) (by decide +kernel)
theorem sb_w797 : (Jvm.Cond.static ({ cls := "java/lang/StringLatin1", name := "canEncode", desc := "(I)Z" } : Jvm.MethodName)) ∈ tables_1 := List.mem_of_getElem? (i := 797) (by decide +kernel)
theorem sb_w799 : (Jvm.Cond.methodLink "java/lang/StringLatin1" (92 : Nat) ({ cls := "java/lang/Math", name := "max", desc := "(II)I" } : Jvm.MethodName)) ∈ tables_1 := List.mem_of_getElem? (i := 799) (by decide +kernel)
theorem sb_w601 : (Jvm.Cond.static ({ cls := "java/lang/Math", name := "max", desc := "(II)I" } : Jvm.MethodName)) ∈ tables_1 := List.mem_of_getElem? (i := 601) (by decide +kernel)
theorem sb_w16 : (Jvm.Cond.initialized "java/lang/Math") ∈ tables_1 := List.mem_of_getElem? (i := 16) (by decide +kernel)
theorem sb_w602 : (Jvm.Cond.code ({ cls := "java/lang/Math", name := "max", desc := "(II)I" } : Jvm.MethodName) prog_17_method_65_code (2 : Nat) (Option.some Jvm.ClassFile.FieldType.int)) ∈ tables_1 := List.mem_of_getElem? (i := 602) (by decide +kernel)
theorem sb_w800 : (Jvm.Cond.methodLink "java/lang/StringLatin1" (38 : Nat) ({ cls := "java/lang/Math", name := "min", desc := "(II)I" } : Jvm.MethodName)) ∈ tables_1 := List.mem_of_getElem? (i := 800) (by decide +kernel)
theorem sb_w685 : (Jvm.Cond.static ({ cls := "java/lang/Math", name := "min", desc := "(II)I" } : Jvm.MethodName)) ∈ tables_1 := List.mem_of_getElem? (i := 685) (by decide +kernel)
theorem sb_w686 : (Jvm.Cond.code ({ cls := "java/lang/Math", name := "min", desc := "(II)I" } : Jvm.MethodName) prog_17_method_69_code (2 : Nat) (Option.some Jvm.ClassFile.FieldType.int)) ∈ tables_1 := List.mem_of_getElem? (i := 686) (by decide +kernel)
theorem sb_w801 : (Jvm.Cond.methodLink "java/lang/StringLatin1" (95 : Nat) ({ cls := "java/lang/StringLatin1", name := "indexOfChar", desc := "([BIII)I" } : Jvm.MethodName)) ∈ tables_1 := List.mem_of_getElem? (i := 801) (by decide +kernel)
theorem sb_w802 : (Jvm.Cond.static ({ cls := "java/lang/StringLatin1", name := "indexOfChar", desc := "([BIII)I" } : Jvm.MethodName)) ∈ tables_1 := List.mem_of_getElem? (i := 802) (by decide +kernel)
theorem sb_0n {i : Nat} (hi : i < 2) : (0 : Int32) < Int32.ofNat (([102, 10] : List Nat).getD i 0) := by
  match i, hi with
  | 0, _ => decide
  | 1, _ => decide
theorem sb_lio {l : Launch} {adK adV : Nat → Nat} {i : Nat} (hi : i < 2) {k0 : Int} (hk : am_r k0) : sb_M l sb_y_lio prog_19_method_22_code 4 (some .int) 1 adK adV [.ref (adV i), .int (Int32.ofInt k0), .int 0, .int (Int32.ofNat (([102, 10] : List Nat).getD i 0))] (fun r => r = Int32.ofInt (am_ix (sb_g i) k0 (([102, 10] : List Nat).getD i 0) 0)) := by
  intro sz
  refine Met.ofW (cc := prog_19_method_22_code) (maxL := 4) (ret := (some .int)) (by decide) rfl ?_
  intro p e s m args below meth c s₁ B hml hv
  obtain ⟨rfl, hsz, hw⟩ := hv
  subst hsz
  have hw : sb_W adK adV s.heap.size s := ⟨rfl, hw⟩
  have hx := B.exec
  have hb := B.bytes
  have hr := B.returns
  have hlk := B.notSynchronized
  have ho := findClass_of_methodNamed B.named
  have hts : ∀ w ∈ am_T, w.before _ s = true := fun w hw => atoms_spec (ws := .code sb_y_lio prog_19_method_22_code 4 (some .int) :: am_T) B.pre w (List.mem_cons_of_mem _ hw)
  have hS : va_S (sb_A s.heap.size) s.heap s.heap [] := va_S.rf
  have hl := lv_entry [.ref (adV i), .int (Int32.ofInt k0), .int 0, .int (Int32.ofNat (([102, 10] : List Nat).getD i 0))] (n := 4) (by first | decide | (simp [lg_sl, Value.category]))
  rw [lg_entry_eq]
  generalize ((lg_sl [.ref (adV i), .int (Int32.ofInt k0), .int 0, .int (Int32.ofNat (([102, 10] : List Nat).getD i 0))] ++ List.replicate (4 - (lg_sl [.ref (adV i), .int (Int32.ofInt k0), .int 0, .int (Int32.ofNat (([102, 10] : List Nat).getD i 0))]).length) Slot.unset).toArray) = ls at hl ⊢
  have hN := sb_nl hi
  refine lv_iload_n (k := 1) hx hb (by decide +kernel) rfl (lv_at hl 1 rfl) ?_
  refine sb_cS hx hb hml ho hts hw hS (n := 1) sb_can sb_k_can sb_w18 sb_w796 sb_w797 ⟨by decide, by decide, by decide +kernel⟩ ⟨by decide, by decide⟩ rfl hl.1 (by first | decide | (simp [Value.category])) ⟨Nat.zero_le _, Nat.zero_le _⟩ (by decide +kernel) (fun r H1 locs1 hp hS => ?_)
  by_cases h : 0 ≤ k0 ∧ k0 < 256
  · rw [if_pos ((sb_ce hk).mpr h)] at hp
    subst hp
    refine lv_if_ne (off := 5) hx hb (by decide +kernel) (tgt := 9) (by decide) (fun _ => ?_) (fun c => absurd c (by decide))
    refine lv_iload_n (k := 2) hx hb (by decide +kernel) rfl (lv_at hl 2 rfl) ?_
    refine lv_iconst (n := 0) (v := 0) hx hb (by decide +kernel) (by decide) ?_
    refine va_mmax hx hb (hml.trans hl.1.symm) ho (hts _ (am_tb sb_w799)) (hts _ (am_tb sb_w601)) (hts _ (am_tb sb_w16)) (hts _ (am_tb sb_w602)) (by decide) (by first | decide | (simp [Value.category]; decide) | (simp [Value.category])) (Nat.zero_le _) (Nat.zero_le _) (by decide +kernel) ?_
    simp only [ite_self]
    refine lv_istore_n (k := 2) hx hb (by decide +kernel) rfl hl (by decide) rfl (fun ls hl => ?_)
    refine lv_iload_n (k := 3) hx hb (by decide +kernel) rfl (lv_at hl 3 rfl) ?_
    refine lv_aload_n (k := 0) hx hb (by decide +kernel) rfl (lv_at hl 1 rfl) ?_
    refine va_tlen hx hb (hw.2.1.1 i hi).2.2.2 hS rfl (by decide +kernel) ?_
    refine va_mmin hx hb (hml.trans hl.1.symm) ho (hts _ (am_tb sb_w800)) (hts _ (am_tb sb_w685)) (hts _ (am_tb sb_w16)) (hts _ (am_tb sb_w686)) (by decide) (by first | decide | (simp [Value.category]; decide) | (simp [Value.category])) (Nat.zero_le _) (Nat.zero_le _) (by decide +kernel) ?_
    simp only [ite_self]
    refine lv_istore_n (k := 3) hx hb (by decide +kernel) rfl hl (by decide) rfl (fun ls hl => ?_)
    refine lv_iload_n (k := 2) hx hb (by decide +kernel) rfl (lv_at hl 1 rfl) ?_
    refine lv_iload_n (k := 3) hx hb (by decide +kernel) rfl (lv_at hl 0 rfl) ?_
    refine lv_icmp_lt (off := 5) hx hb (by decide +kernel) (tgt := 29) (by decide) (fun _ => ?_) (fun c => absurd (sb_0n hi) c)
    refine lv_aload_n (k := 0) hx hb (by decide +kernel) rfl (lv_at hl 2 rfl) ?_
    refine lv_iload_n (k := 1) hx hb (by decide +kernel) rfl (lv_at hl 3 rfl) ?_
    refine lv_iload_n (k := 2) hx hb (by decide +kernel) rfl (lv_at hl 1 rfl) ?_
    refine lv_iload_n (k := 3) hx hb (by decide +kernel) rfl (lv_at hl 0 rfl) ?_
    refine sb_cS hx hb hml ho hts hw hS (n := 4) (sb_ioc hi h) sb_k_ioc sb_w18 sb_w801 sb_w802 ⟨by decide, by decide, by decide +kernel⟩ ⟨by decide, by decide⟩ rfl hl.1 (by first | decide | (simp [Value.category])) ⟨Nat.zero_le _, Nat.zero_le _⟩ (by decide +kernel) (fun r H1 locs1 hp hS => ?_)
    subst hp
    exact W.iret (v := _) hx hb hr (fun t ht hW => ⟨⟨_, (), rfl, rfl, trivial⟩, hS.F ht⟩) hS.2.2 (by decide +kernel) hlk
  · rw [if_neg (fun q => h ((sb_ce hk).mp q))] at hp
    subst hp
    refine lv_if_ne (off := 5) hx hb (by decide +kernel) (tgt := 9) (by decide) (fun c => absurd rfl c) (fun _ => ?_)
    refine lv_iconst (n := (-1)) (v := (-1)) hx hb (by decide +kernel) (by decide) ?_
    exact W.iret (v := -1) hx hb hr (fun t ht hW => ⟨⟨_, (), rfl, by rw [sb_ixn _ 0 (fun j h1 h2 => by have w := sb_gb hi h1 (by omega); omega)]; rfl, trivial⟩, hS.F ht⟩) hS.2.2 (by decide +kernel) hlk
theorem sb_w792 : (Jvm.Cond.methodLink "java/lang/String" (505 : Nat) ({ cls := "java/lang/String", name := "length", desc := "()I" } : Jvm.MethodName)) ∈ tables_1 := List.mem_of_getElem? (i := 792) (by decide +kernel)
theorem sb_w732 : (Jvm.Cond.instanceMethod ({ cls := "java/lang/String", name := "length", desc := "()I" } : Jvm.MethodName)) ∈ tables_1 := List.mem_of_getElem? (i := 732) (by decide +kernel)
theorem sb_w733 : (Jvm.Cond.selects "java/lang/String" ({ cls := "java/lang/String", name := "length", desc := "()I" } : Jvm.MethodName) ({ cls := "java/lang/String", name := "length", desc := "()I" } : Jvm.MethodName)) ∈ tables_1 := List.mem_of_getElem? (i := 733) (by decide +kernel)
theorem sb_w793 : (Jvm.Cond.methodLink "java/lang/String" (637 : Nat) ({ cls := "java/lang/StringLatin1", name := "indexOf", desc := "([BIII)I" } : Jvm.MethodName)) ∈ tables_1 := List.mem_of_getElem? (i := 793) (by decide +kernel)
theorem sb_w794 : (Jvm.Cond.static ({ cls := "java/lang/StringLatin1", name := "indexOf", desc := "([BIII)I" } : Jvm.MethodName)) ∈ tables_1 := List.mem_of_getElem? (i := 794) (by decide +kernel)
theorem sb_io2 {l : Launch} {adK adV : Nat → Nat} {i : Nat} (hi : i < 2) {k0 : Int} (hk : am_r k0) : sb_M l sb_y_io2 prog_18_method_80_code 3 (some .int) 2 adK adV [.ref (adK i), .int (Int32.ofInt k0), .int 0] (fun r => r = Int32.ofInt (am_ix (sb_g i) k0 (([102, 10] : List Nat).getD i 0) 0)) := by
  intro sz
  refine Met.ofW (cc := prog_18_method_80_code) (maxL := 3) (ret := (some .int)) (by decide) rfl ?_
  intro p e s m args below meth c s₁ B hml hv
  obtain ⟨rfl, hsz, hw⟩ := hv
  subst hsz
  have hw : sb_W adK adV s.heap.size s := ⟨rfl, hw⟩
  have hx := B.exec
  have hb := B.bytes
  have hr := B.returns
  have hlk := B.notSynchronized
  have ho := findClass_of_methodNamed B.named
  have hts : ∀ w ∈ am_T, w.before _ s = true := fun w hw => atoms_spec (ws := .code sb_y_io2 prog_18_method_80_code 3 (some .int) :: am_T) B.pre w (List.mem_cons_of_mem _ hw)
  have hS : va_S (sb_A s.heap.size) s.heap s.heap [] := va_S.rf
  have hl := lv_entry [.ref (adK i), .int (Int32.ofInt k0), .int 0] (n := 3) (by first | decide | (simp [lg_sl, Value.category]))
  rw [lg_entry_eq]
  generalize ((lg_sl [.ref (adK i), .int (Int32.ofInt k0), .int 0] ++ List.replicate (3 - (lg_sl [.ref (adK i), .int (Int32.ofInt k0), .int 0]).length) Slot.unset).toArray) = ls at hl ⊢
  refine lv_aload_n (k := 0) hx hb (by decide +kernel) rfl (lv_at hl 0 rfl) ?_
  refine sb_cV hx hb hml ho hts hw hS hi (n := 0) (sb_lat hi) sb_k_lat sb_w17 sb_w745 sb_w746 sb_w747 ⟨by decide, by decide, by decide +kernel⟩ ⟨by decide, by decide⟩ rfl hl.1 (by first | decide | (simp [Value.category])) ⟨Nat.zero_le _, Nat.zero_le _⟩ (by decide +kernel) (fun r H1 locs1 hp hS => ?_)
  subst hp
  refine lv_if_eq (off := 19) hx hb (by decide +kernel) (tgt := 23) (by decide) (fun c => absurd c (by decide)) (fun _ => ?_)
  refine lv_aload_n (k := 0) hx hb (by decide +kernel) rfl (lv_at hl 0 rfl) ?_
  refine vk_getf hx hb (hw.2.1.1 i hi).2.2.1 hS ho (hts _ (am_tb sb_w1708)) (fun _ h => h) (by decide +kernel) ?_
  refine lv_iload_n (k := 1) hx hb (by decide +kernel) rfl (lv_at hl 1 rfl) ?_
  refine lv_iload_n (k := 2) hx hb (by decide +kernel) rfl (lv_at hl 2 rfl) ?_
  refine lv_aload_n (k := 0) hx hb (by decide +kernel) rfl (lv_at hl 0 rfl) ?_
  refine sb_cV hx hb hml ho hts hw hS hi (n := 0) (sb_len hi) sb_k_len sb_w17 sb_w792 sb_w732 sb_w733 ⟨by decide, by decide, by decide +kernel⟩ ⟨by decide, by decide⟩ rfl hl.1 (by first | decide | (simp [Value.category])) ⟨Nat.zero_le _, Nat.zero_le _⟩ (by decide +kernel) (fun r H1 locs1 hp hS => ?_)
  subst hp
  refine sb_cS hx hb hml ho hts hw hS (n := 4) (sb_lio hi hk) sb_k_lio sb_w18 sb_w793 sb_w794 ⟨by decide, by decide, by decide +kernel⟩ ⟨by decide, by decide⟩ rfl hl.1 (by first | decide | (simp [Value.category])) ⟨Nat.zero_le _, Nat.zero_le _⟩ (by decide +kernel) (fun r H1 locs1 hp hS => ?_)
  subst hp
  refine lv_goto (off := 16) hx hb (by decide +kernel) (tgt := 36) (by decide) ?_
  exact W.iret (v := _) hx hb hr (fun t ht hW => ⟨⟨_, (), rfl, rfl, trivial⟩, hS.F ht⟩) hS.2.2 (by decide +kernel) hlk
theorem sb_w788 : (Jvm.Cond.methodLink "java/lang/String" (633 : Nat) ({ cls := "java/lang/String", name := "indexOf", desc := "(II)I" } : Jvm.MethodName)) ∈ tables_1 := List.mem_of_getElem? (i := 788) (by decide +kernel)
theorem sb_w789 : (Jvm.Cond.instanceMethod ({ cls := "java/lang/String", name := "indexOf", desc := "(II)I" } : Jvm.MethodName)) ∈ tables_1 := List.mem_of_getElem? (i := 789) (by decide +kernel)
theorem sb_w790 : (Jvm.Cond.selects "java/lang/String" ({ cls := "java/lang/String", name := "indexOf", desc := "(II)I" } : Jvm.MethodName) ({ cls := "java/lang/String", name := "indexOf", desc := "(II)I" } : Jvm.MethodName)) ∈ tables_1 := List.mem_of_getElem? (i := 790) (by decide +kernel)
theorem sb_io1 {l : Launch} {adK adV : Nat → Nat} {i : Nat} (hi : i < 2) {k0 : Int} (hk : am_r k0) : sb_M l sb_y_io1 prog_18_method_79_code 2 (some .int) 3 adK adV [.ref (adK i), .int (Int32.ofInt k0)] (fun r => r = Int32.ofInt (am_ix (sb_g i) k0 (([102, 10] : List Nat).getD i 0) 0)) := by
  intro sz
  refine Met.ofW (cc := prog_18_method_79_code) (maxL := 2) (ret := (some .int)) (by decide) rfl ?_
  intro p e s m args below meth c s₁ B hml hv
  obtain ⟨rfl, hsz, hw⟩ := hv
  subst hsz
  have hw : sb_W adK adV s.heap.size s := ⟨rfl, hw⟩
  have hx := B.exec
  have hb := B.bytes
  have hr := B.returns
  have hlk := B.notSynchronized
  have ho := findClass_of_methodNamed B.named
  have hts : ∀ w ∈ am_T, w.before _ s = true := fun w hw => atoms_spec (ws := .code sb_y_io1 prog_18_method_79_code 2 (some .int) :: am_T) B.pre w (List.mem_cons_of_mem _ hw)
  have hS : va_S (sb_A s.heap.size) s.heap s.heap [] := va_S.rf
  have hl := lv_entry [.ref (adK i), .int (Int32.ofInt k0)] (n := 2) (by first | decide | (simp [lg_sl, Value.category]))
  rw [lg_entry_eq]
  generalize ((lg_sl [.ref (adK i), .int (Int32.ofInt k0)] ++ List.replicate (2 - (lg_sl [.ref (adK i), .int (Int32.ofInt k0)]).length) Slot.unset).toArray) = ls at hl ⊢
  refine lv_aload_n (k := 0) hx hb (by decide +kernel) rfl (lv_at hl 0 rfl) ?_
  refine lv_iload_n (k := 1) hx hb (by decide +kernel) rfl (lv_at hl 1 rfl) ?_
  refine lv_iconst (n := 0) (v := 0) hx hb (by decide +kernel) (by decide) ?_
  refine sb_cV hx hb hml ho hts hw hS hi (n := 2) (sb_io2 hi hk) sb_k_io2 sb_w17 sb_w788 sb_w789 sb_w790 ⟨by decide, by decide, by decide +kernel⟩ ⟨by decide, by decide⟩ rfl hl.1 (by first | decide | (simp [Value.category])) ⟨Nat.zero_le _, Nat.zero_le _⟩ (by decide +kernel) (fun r H1 locs1 hp hS => ?_)
  subst hp
  exact W.iret (v := _) hx hb hr (fun t ht hW => ⟨⟨_, (), rfl, rfl, trivial⟩, hS.F ht⟩) hS.2.2 (by decide +kernel) hlk
