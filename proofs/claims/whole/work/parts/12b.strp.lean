/-! what the abstract machine says of the two texts, the machine does -/
theorem sb_toA {adK adV : Nat → Nat} {A : Nat → Prop} {s U : State} {H : Heap} {locs : List Loc} (hA : ∀ q, s.heap.size ≤ q → A q) (w1 : vk_S 2 [102, 10] [am_wb, am_sb] adK adV A s s.heap) (w2 : va_Z "java/lang/String" "COMPACT_STRINGS" "Z" (.int 1) A s s.heap) (w3 : va_Zq "jdk/internal/util/Preconditions" "SIOOBE_FORMATTER" "Ljava/util/function/BiFunction;" A s s.heap) (hS : va_S A s.heap H locs) (hU : U.heap = H) (hW : s.WarmedH U.vm) : sb_W adK adV H.size U := by
  have hn : ∀ q, sb_A H.size q → A q := fun q hq => hA q (Nat.le_trans hS.1 hq)
  refine ⟨by rw [hU], ?_, ?_, ?_⟩
  · rw [hU]
    exact vk_S.narrow (vk_S.moved hW.alike (vk_S.kept w1 hS.2.1)) hn
  · rw [hU]
    exact va_Z.narrow (va_Z.moved hW.alike (va_Z.kept w2 hS.2.1)) hn
  · rw [hU]
    exact va_Zq.narrow (va_Zq.moved hW.alike (va_Zq.kept w3 hS.2.1)) hn
section SB3
variable {p : Program} {l : Launch} {e : Env} {R : Room} {s : State} {m : MethodId} {args : Array Value} {below : List Frame} {meth : Method} {c : Code} {D : va_G} {A : Nat → Prop} {ro : Nat → Int × (Int → Int)} {ra ad0 : Nat → Nat} {n0 mid d mc ms : Nat} {QF : State → Prop}
theorem sb_am (X : am_Ctx p R s m args meth c A ro ra mid (d + 5) mc ms) {pc idx n k mx i : Nat} {y : MethodName} {c2 : ByteArray} {rt : Option FieldType} (hi : i < 2) {as : List Value} {post : Int32 → Prop} (hcls : (am_nm mid).cls = "LoanPence$Reader") (hd : decode (am_by mid) pc = .ok (.invokevirtual idx, 3)) (hM : ∀ adV : Nat → Nat, sb_M l y c2 mx rt k (fun i => ra (3 + i)) adV (.ref (ra (3 + i)) :: as) post) (h1 : Cond.code y c2 mx rt ∈ tables_1) (h2 : Cond.initialized y.cls ∈ tables_1) (h3 : Cond.methodLink "LoanPence$Reader" idx y ∈ tables_1) (h4 : Cond.instanceMethod y ∈ tables_1) (h4b : Cond.selects "java/lang/String" y y ∈ tables_1) (h5 : y.cls ≠ "java/lang/invoke/MethodHandle" ∧ y.cls ≠ "java/lang/invoke/VarHandle" ∧ (parseMethodDescriptor y.desc).map (fun d => d.parameters.length) = some n) (hk : k ≤ 3) (hmx : mx ≤ 20) (hn : as.length = n)
    {ad : Nat → Nat} {cA : Nat → ClassId} {H : Heap} {locs : List Loc} {ls : Array Slot} {cells slots bc bs : Nat} {lv : List (Option am_V)} {st rest : List am_V} {h : am_H} (hr : am_Rel D A s ra ad0 n0 (am_mx mid) mc ms (pc, lv, st, h, bc, bs) ad cA H locs ls cells slots) (hrest : ∀ v ∈ rest, am_ok h.1.length v) (hw8 : Nat.ble (am_wd rest) 8 = true) (kk : ∀ r : Int32, post r → am_Wp p l e R s m args below meth c D A ra ad0 n0 mid mc ms QF (pc + 3, lv, am_I r.toInt :: rest, h, bc, bs)) : W p l e R s m args below meth c H locs cells slots QF (F0 m pc ls (as.reverse ++ .ref (ra (3 + i)) :: rest.map (am_c ad ra))) := by
  have hR := X.2.2.2.2.2.2.2.1
  have hC := X.2.2.2.2.2.2.2.2.1
  have hA := X.2.2.2.2.2.1
  obtain ⟨hcl, hsl⟩ := hr.2.2.2.2.2
  have hcl : cells + bc ≤ mc := hcl
  have hsl : slots + bs ≤ ms := hsl
  have hro := X.2.2.2.2.2.2.1
  obtain ⟨adV, hv⟩ := hro.2.2.2.2.1
  have hts := X.2.2.2.2.1
  have ho : s.vm.findClass "LoanPence$Reader" = some m.cls := hcls ▸ X.2.2.2.1
  have cw := callB_of (own := "LoanPence$Reader") (index := idx) (rm := sb_rm k) (R := R) n hts (sb_good h1) rfl rfl rfl (hts _ (am_tb h2)) (hts _ (am_tb h3)) h5 ⟨by show k + 1 ≤ R.frames; omega, by show 8 + (mx + 11) + 40 * k ≤ R.locals; omega⟩
  have hrv := vk_recv hv hi hr.2.1
  have hrun := va_runV (l := l) (e := e) (below := below) (meth := meth) (H := H) (locs := locs) (cells := cells) (slots := slots) (b := ra (3 + i)) (C := "java/lang/String") (As := as) (rest := rest.map (am_c ad ra)) (g := F0 m pc ls (as.reverse ++ .ref (ra (3 + i)) :: rest.map (am_c ad ra))) ⟨X.1, X.2.1, X.2.2.1, ho, hts⟩ (hM adV H.size) ⟨cw, hts _ (am_tb h4), hts _ (am_tb h4b)⟩ ⟨sb_blind, hrv, fun U hU hW => ⟨rfl, sb_toA hA hv hro.2.2.2.2.2.1 hro.2.2.2.2.2.2.1 hr.2.1 hU hW⟩⟩ rfl hn hr.2.2.2.1.1 rfl (lv_room (am_wd8 hw8)) hd ⟨by omega, by omega⟩
  refine va_calli hrun hr.2.1 (fun q _ hq => hA q (Nat.le_trans hr.2.1.1 hq)) (fun q hq => hA q (Nat.le_trans hr.2.1.1 hq)) (fun r u t H1 locs1 _ _ hp _ _ hkp hS1 => ?_)
  have K := kk r hp ad cA H1 locs1 ls cells slots ⟨⟨va_P.kept hr.1.1 (fun k q hq => hkp q.1 (hr.1.1 k q hq).lt (Nat.not_le.mpr (hr.1.1 k q hq).lt)), hr.1.2⟩, hS1, hr.2.2.1, hr.2.2.2.1, am_cons ⟨Int32.le_toInt r, Int32.toInt_lt r⟩ hrest, hr.2.2.2.2.2⟩
  have e : (am_I r.toInt :: rest).map (am_c ad ra) = .int r :: rest.map (am_c ad ra) := by
    show Value.int (Int32.ofInt r.toInt) :: _ = _
    rw [Int32.ofInt_toInt]
  rw [e] at K
  exact K
end SB3
theorem sb_roj {ro : Nat → Int × (Int → Int)} {j : Nat} (hj : (Nat.ble 3 j && Nat.ble j 4) = true) (h3 : ro 3 = am_ro3) (h4 : ro 4 = am_ro4) : ∃ i, i < 2 ∧ j = 3 + i ∧ (ro j).1 = ((([102, 10] : List Nat).getD i 0 : Nat) : Int) ∧ (ro j).2 = sb_g i := by
  rw [Bool.and_eq_true] at hj
  have a := Nat.le_of_ble_eq_true hj.1
  have b := Nat.le_of_ble_eq_true hj.2
  have h : j = 3 ∨ j = 4 := by omega
  rcases h with rfl | rfl
  · exact ⟨0, by omega, rfl, by rw [h3]; rfl, by rw [h3]; rfl⟩
  · exact ⟨1, by omega, rfl, by rw [h4]; rfl, by rw [h4]; rfl⟩
theorem sb_vpI {x : Int} {n : Nat} (h : 0 ≤ x ∧ x < (n : Int)) (hn : n < 2147483648) : vp_in (Int32.ofInt x) n ∧ (Int32.ofInt x).toNatClampNeg = x.toNat := by
  obtain ⟨m, rfl⟩ := Int.eq_ofNat_of_zero_le h.1
  rw [← sb_ni (by omega)]
  exact ⟨sb_vp (by omega) hn, sb_cl (by omega)⟩
theorem sb_ixb {f : Int → Int} {c : Int} : ∀ (n : Nat) (k : Int), am_ix f c n k = -1 ∨ (k ≤ am_ix f c n k ∧ am_ix f c n k < k + n)
  | 0, _ => Or.inl rfl
  | n + 1, k => by
    rw [sb_ixs]
    split
    · exact Or.inr ⟨by omega, by omega⟩
    · rcases sb_ixb (f := f) (c := c) n (k + 1) with h | h
      · exact Or.inl h
      · exact Or.inr ⟨by omega, by omega⟩
theorem sb_ixr {f : Int → Int} {c : Int} {n : Nat} (h : n < 2147483648) : am_r (am_ix f c n 0) := by
  rcases sb_ixb (f := f) (c := c) n 0 with q | q
  · rw [q]
    exact ⟨by omega, by omega⟩
  · exact ⟨by omega, by omega⟩
set_option maxHeartbeats 1000000 in
theorem sb_StrP {l : Launch} : am_StrP l := by
  intro p e R s m args below meth c D A ro ra ad0 n0 mid d mc ms QF cal M Q X pc pl o lv st h bc bs P' hs hok hP hst ad cA H locs ls cells slots hr
  obtain ⟨i, len, n1, n2, n3, n4, z, sw⟩ := o
  have hro := X.2.2.2.2.2.2.1
  obtain ⟨hr3, hr4⟩ := hro.2.2.2.2.2.2.2
  cases i with
  | ldc idx =>
    cases n1 with
    | zero => cases hs
    | succ n1 =>
      simp only [am_okb, Bool.and_eq_true, decide_eq_true_eq] at hok
      obtain ⟨hd, rfl, hid, hcls⟩ := hok
      have hst : P' (pc + 2, lv, am_O n2 :: st, h, bc, bs) := hst
      have ho : s.vm.findClass "LoanPence$Reader" = some m.cls := hcls ▸ X.2.2.2.1
      have nw := X.2.2.2.2.2.2.2.2.2.2
      have k := hP _ hst ad cA H locs ls cells slots (am_Rel.st hr (am_cons trivial hr.sk))
      rcases hid with ⟨rfl, rfl⟩ | ⟨rfl, rfl⟩
      · exact va_ldcS X.1 X.2.1 ho nw.2.1 hd k
      · exact va_ldcS X.1 X.2.1 ho nw.2.2 hd k
  | invokevirtual idx =>
    match n4, hs, hok, hst with
    | 0, hs, _, _ => cases hs
    | 1, hs, _, _ => cases hs
    | n4 + 2, _, hok, hst =>
      simp only [am_okb, Bool.and_eq_true, decide_eq_true_eq] at hok
      obtain ⟨hd, rfl, hcls, hid⟩ := hok
      rcases hid with ⟨e4, rfl⟩ | ⟨e4, rfl⟩ | ⟨e4, rfl⟩
      · have e0 : n4 = 0 := by omega
        subst e0
        simp only [am_step] at hst
        split at hst
        · rename_i x j st2 _
          split at hst
          · rename_i hj h8
            obtain ⟨i, hi, rfl, q1, q2⟩ := sb_roj hj hr3 hr4
            rw [q1, q2] at hst
            have hv := sb_vpI hst.1 (sb_nl hi)
            have hok := hr.sk
            have hrest : ∀ v ∈ st2, am_ok h.1.length v := am_tail (am_tail hok)
            exact sb_am X hi hcls hd (as := [.int (Int32.ofInt x)]) (n := 1) (fun adV => sb_sca hi hv.1) sb_k_sca sb_w17 (List.mem_of_getElem? (i := 741) (by decide +kernel)) (List.mem_of_getElem? (i := 742) (by decide +kernel)) (List.mem_of_getElem? (i := 743) (by decide +kernel)) ⟨by decide, by decide, by decide +kernel⟩ (by omega) (by omega) rfl hr hrest h8 (fun r hp => by
              have e9 : r.toInt = sb_g i x := by
                rw [hp, hv.2]
                rfl
              rw [e9]
              exact hP _ hst.2)
          · exact hst.elim
        · exact hst.elim
      · have e0 : n4 = 1 := by omega
        subst e0
        simp only [am_step] at hst
        split at hst
        · rename_i x j st2 _
          split at hst
          · rename_i hj h8
            obtain ⟨i, hi, rfl, q1, q2⟩ := sb_roj hj hr3 hr4
            rw [q1, q2] at hst
            have hok := hr.sk
            have hx : am_r x := am_hd hok
            have hrest : ∀ v ∈ st2, am_ok h.1.length v := am_tail (am_tail hok)
            exact sb_am X hi hcls hd (as := [.int (Int32.ofInt x)]) (n := 1) (fun adV => sb_io1 hi hx) sb_k_io1 sb_w17 (List.mem_of_getElem? (i := 784) (by decide +kernel)) (List.mem_of_getElem? (i := 785) (by decide +kernel)) (List.mem_of_getElem? (i := 786) (by decide +kernel)) ⟨by decide, by decide, by decide +kernel⟩ (by omega) (by omega) rfl hr hrest h8 (fun r hp => by
              have e9 : r.toInt = am_ix (sb_g i) x (([102, 10] : List Nat).getD i 0) 0 := by
                rw [hp]
                exact am_t (sb_ixr (sb_nl hi))
              rw [e9]
              exact hP _ hst)
          · exact hst.elim
        · exact hst.elim
      · have e0 : n4 = 2 := by omega
        subst e0
        simp only [am_step] at hst
        split at hst
        · rename_i j st2 _
          split at hst
          · rename_i hj h8
            obtain ⟨i, hi, rfl, q1, q2⟩ := sb_roj hj hr3 hr4
            rw [q1] at hst
            have hok := hr.sk
            have hrest : ∀ v ∈ st2, am_ok h.1.length v := am_tail hok
            exact sb_am X hi hcls hd (as := []) (n := 0) (fun adV => sb_len hi) sb_k_len sb_w17 (List.mem_of_getElem? (i := 731) (by decide +kernel)) (List.mem_of_getElem? (i := 732) (by decide +kernel)) (List.mem_of_getElem? (i := 733) (by decide +kernel)) ⟨by decide, by decide, by decide +kernel⟩ (by omega) (by omega) rfl hr hrest h8 (fun r hp => by
              have e9 : r.toInt = ((([102, 10] : List Nat).getD i 0 : Nat) : Int) := by
                rw [hp]
                exact sb_on (sb_nl hi)
              rw [e9]
              exact hP _ hst)
          · exact hst.elim
        · exact hst.elim
  | _ => cases hs
