theorem am_w_aI : Cond.arrayClass .int ∈ tables_1 := List.mem_of_getElem? (i := 61) (by decide +kernel)
theorem am_w_aL : Cond.arrayClass .long ∈ tables_1 := List.mem_of_getElem? (i := 276) (by decide +kernel)
theorem am_w_aZ : Cond.arrayClass .boolean ∈ tables_1 := List.mem_of_getElem? (i := 433) (by decide +kernel)
theorem am_w_cpS : Cond.static arraycopyName ∈ tables_1 := List.mem_of_getElem? (i := 884) (by decide +kernel)
theorem am_w_cpN : Cond.native arraycopyName ∈ tables_1 := List.mem_of_getElem? (i := 885) (by decide +kernel)
theorem am_w_cpI : Cond.initialized "java/lang/System" ∈ tables_1 := List.mem_of_getElem? (i := 22) (by decide +kernel)
theorem am_w_obI : Cond.instanceMethod Lib.objectInit ∈ tables_1 := List.mem_of_getElem? (i := 29) (by decide +kernel)
theorem am_w_obC : Cond.code Lib.objectInit ⟨#[0xb1]⟩ 1 none ∈ tables_1 := List.mem_of_getElem? (i := 30) (by decide +kernel)
theorem am_w_mi : Cond.initialized "java/lang/Math" ∈ tables_1 := List.mem_of_getElem? (i := 16) (by decide +kernel)
theorem am_w_mxS : Cond.static Lib.Math.max.name ∈ tables_1 := List.mem_of_getElem? (i := 601) (by decide +kernel)
theorem am_w_mxC : Cond.code Lib.Math.max.name Lib.Math.max.code 2 (some .int) ∈ tables_1 := List.mem_of_getElem? (i := 602) (by decide +kernel)
theorem am_w_mnS : Cond.static Lib.Math.min.name ∈ tables_1 := List.mem_of_getElem? (i := 685) (by decide +kernel)
theorem am_w_mnC : Cond.code Lib.Math.min.name Lib.Math.min.code 2 (some .int) ∈ tables_1 := List.mem_of_getElem? (i := 686) (by decide +kernel)
theorem am_w_mlS : Cond.static Lib.MathLoose.max_long.x ∈ tables_1 := List.mem_of_getElem? (i := 1015) (by decide +kernel)
theorem am_w_mlC : Cond.code Lib.MathLoose.max_long.x Lib.MathLoose.max_long.code 4 (some .long) ∈ tables_1 := List.mem_of_getElem? (i := 1016) (by decide +kernel)
def am_ext {α : Type} (f : Nat → α) (n : Nat) (x : α) : Nat → α := fun k => if k = n then x else f k
theorem am_ext_lt {α : Type} {f : Nat → α} {n k : Nat} {x : α} (h : k < n) : am_ext f n x k = f k := if_neg (Nat.ne_of_lt h)
theorem am_ext_eq {α : Type} (f : Nat → α) (n : Nat) (x : α) : am_ext f n x n = x := if_pos rfl
theorem am_c_ad {ad ad' ra : Nat → Nat} {n : Nat} {v : am_V} (h : am_ok n v) (he : ∀ k, k < n → ad' k = ad k) : am_c ad' ra v = am_c ad ra v := by
  rcases v with x | x | ⟨x, y⟩ | (_ | k) | j
  · rfl
  · rfl
  · rfl
  · rfl
  · exact congrArg Value.ref (he k h)
  · rfl
theorem am_map_ad {ad ad' ra : Nat → Nat} {n : Nat} {st : List am_V} (h : ∀ v ∈ st, am_ok n v) (he : ∀ k, k < n → ad' k = ad k) : st.map (am_c ad' ra) = st.map (am_c ad ra) := List.map_congr_left (fun v hv => am_c_ad (h v hv) he)
theorem am_ok_le {n n' : Nat} {v : am_V} (hn : n ≤ n') (h : am_ok n v) : am_ok n' v := by
  rcases v with x | x | ⟨x, y⟩ | (_ | k) | j
  · exact h
  · exact h
  · exact h
  · exact h
  · exact Nat.lt_of_lt_of_le h hn
  · exact h
theorem am_Lo.ad {ad ad' ra : Nat → Nat} {n n' nL : Nat} {lv : List (Option am_V)} {ls : Array Slot} (h : am_Lo ad ra n nL lv ls) (hn : n ≤ n') (he : ∀ k, k < n → ad' k = ad k) : am_Lo ad' ra n' nL lv ls :=
  ⟨h.1, h.2.1, h.2.2.1, fun i v hv => ⟨am_ok_le hn (h.2.2.2 i v hv).1, by rw [am_c_ad (h.2.2.2 i v hv).1 he]; exact (h.2.2.2 i v hv).2⟩⟩
theorem am_ce_ad {ad ad' : Nat → Nat} {cA cA' : Nat → ClassId} {I L I' L' : Nat → Int → Int} {k n : Nat} (c : am_K) (hI : I' k = I k) (hL : L' k = L k) (hcA : cA' k = cA k) (hr : ∀ (ci : Nat) (fs : List am_F), c = .inr (ci, fs) → ∀ j r : Nat, fs[j]? = some (.inr (some r)) → ad' r = ad r) : am_ce ad' cA' I' L' k c = am_ce ad cA I L k c := by
  rcases c with ⟨ty, m⟩ | ⟨ci, fs⟩
  · cases ty <;> simp only [am_ce, hI, hL, hcA]
  · simp only [am_ce]
    congr 2
    apply List.ext_getElem?
    intro j
    simp only [List.getElem?_mapIdx]
    cases hf : fs[j]? with
    | none => rfl
    | some f =>
      simp only [Option.map_some]
      rcases f with t | (_ | r)
      · cases t <;> simp only [am_fv, hI, hL]
      · rfl
      · simp only [am_fv, hr ci fs rfl j r hf]
theorem am_z_ne {I : Nat → Int → Int} {n k : Nat} (h : k ≠ n) : am_z I n k = I k := by
  funext i
  simp [am_z, h]
theorem am_z_eq (I : Nat → Int → Int) (n : Nat) (i : Int) : am_z I n n i = 0 := by simp [am_z]
theorem am_ws_push {ad : Nat → Nat} {cA : Nat → ClassId} {S : List am_K} {I L : Nat → Int → Int} {q : Nat} {cq : ClassId} {c1 : am_K} (hg : am_g (S, I, L)) : am_ws (am_ext ad S.length q) (am_ext cA S.length cq) (S ++ [c1], am_z I S.length, am_z L S.length) = am_ws ad cA (S, I, L) ++ [(q, am_ce (am_ext ad S.length q) (am_ext cA S.length cq) (am_z I S.length) (am_z L S.length) S.length c1)] := by
  unfold am_ws
  rw [List.mapIdx_append]
  congr 1
  · apply List.ext_getElem?
    intro k
    rw [List.getElem?_mapIdx, List.getElem?_mapIdx]
    cases hk : S[k]? with
    | none => rfl
    | some c0 =>
      have hl : k < S.length := (List.getElem?_eq_some_iff.mp hk).1
      simp only [Option.map_some]
      rw [am_ext_lt hl, am_ce_ad (n := 0) c0 (am_z_ne (Nat.ne_of_lt hl)) (am_z_ne (Nat.ne_of_lt hl)) (am_ext_lt hl) (fun ci fs e j r hf => am_ext_lt ((hg.2.2.1 k ci fs (by rw [← e]; exact hk)).2 j r hf))]
  · simp [am_ext_eq]
theorem am_push_at {S : List am_K} {c1 x : am_K} {k : Nat} (h : (S ++ [c1])[k]? = some x) : S[k]? = some x ∨ (k = S.length ∧ x = c1) := by
  by_cases hl : k < S.length
  · rw [List.getElem?_append_left hl] at h
    exact Or.inl h
  · rw [List.getElem?_append_right (by omega)] at h
    have hz : k - S.length < 1 := (List.getElem?_eq_some_iff.mp h).1
    have e : k = S.length := by omega
    subst e
    rw [Nat.sub_self] at h
    cases h
    exact Or.inr ⟨rfl, rfl⟩
theorem am_z_r {I : Nat → Int → Int} {n : Nat} (h : ∀ k i, am_r (I k i)) : ∀ k i, am_r (am_z I n k i) := by
  intro k i
  unfold am_z
  split
  · exact am_r0
  · exact h k i
theorem am_z_rl {I : Nat → Int → Int} {n : Nat} (h : ∀ k i, am_rl (I k i)) : ∀ k i, am_rl (am_z I n k i) := by
  intro k i
  unfold am_z
  split
  · unfold am_rl; omega
  · exact h k i
theorem am_wd_le {ad ra : Nat → Nat} : ∀ st : List am_V, ((st.map (am_c ad ra)).map fun v => v.category).sum = am_wd st
  | [] => rfl
  | v :: r => by
    rw [List.map_cons, List.map_cons, List.sum_cons, am_wd_le (ad := ad) (ra := ra) r]
    rcases v with x | x | ⟨x, y⟩ | (_ | k) | j <;> first | exact Nat.add_comm 1 _ | exact Nat.add_comm 2 _
theorem am_wd8 {ad ra : Nat → Nat} {st : List am_V} (h : Nat.ble (am_wd st) 8 = true) : ((st.map (am_c ad ra)).map fun v => v.category).sum ≤ 8 := by
  rw [am_wd_le]
  exact Nat.le_of_ble_eq_true h
def am_dk : am_F → Bool
  | .inl .int => true
  | .inl .long => true
  | .inl .boolean => true
  | .inr none => true
  | _ => false
theorem am_dfK0 : am_fs0.all am_dk = true := by decide
theorem am_dfK1 : am_fs1.all am_dk = true := by decide
theorem am_dfK2 : am_fs2.all am_dk = true := by decide
theorem am_dfK3 : am_fs3.all am_dk = true := by decide
theorem am_dfK4 : am_fs4.all am_dk = true := by decide
theorem am_dfK5 : am_fs5.all am_dk = true := by decide
theorem am_dfK6 : am_fs6.all am_dk = true := by decide
theorem am_dfK7 : am_fs7.all am_dk = true := by decide
theorem am_dfK8 : am_fs8.all am_dk = true := by decide
theorem am_dfK9 : am_fs9.all am_dk = true := by decide
theorem am_dfK10 : am_fs10.all am_dk = true := by decide
theorem am_dfK11 : am_fs11.all am_dk = true := by decide
theorem am_dfK12 : am_fs12.all am_dk = true := by decide
theorem am_dfs : ∀ (ci : Nat) (C : String) (T : u_T) (N : Nat), am_cl[ci]? = some (C, T, N) → ∀ (j : Nat) (f : am_F), (am_fs ci)[j]? = some f → f = .inl .int ∨ f = .inl .long ∨ f = .inl .boolean ∨ f = .inr none := by
  intro ci C T N hq j f hj
  have key : (am_fs ci).all am_dk = true := by
    match ci, hq with
    | 0, _ => exact am_dfK0
    | 1, _ => exact am_dfK1
    | 2, _ => exact am_dfK2
    | 3, _ => exact am_dfK3
    | 4, _ => exact am_dfK4
    | 5, _ => exact am_dfK5
    | 6, _ => exact am_dfK6
    | 7, _ => exact am_dfK7
    | 8, _ => exact am_dfK8
    | 9, _ => exact am_dfK9
    | 10, _ => exact am_dfK10
    | 11, _ => exact am_dfK11
    | 12, _ => exact am_dfK12
    | k + 13, hq => simp [am_cl] at hq
  have h1 := List.all_eq_true.mp key _ (List.mem_of_getElem? hj)
  rcases f with t | (_ | r)
  · cases t <;> first | (left; rfl) | (right; left; rfl) | (right; right; left; rfl) | (simp [am_dk] at h1; done)
  · exact Or.inr (Or.inr (Or.inr rfl))
  · simp [am_dk] at h1
section SO3
variable {p : Program} {l : Launch} {e : Env} {R : Room} {s : State} {m : MethodId} {args : Array Value} {below : List Frame} {meth : Method} {c : Code} {D : va_G} {A : Nat → Prop} {ro : Nat → Int × (Int → Int)} {ra ad0 : Nat → Nat} {n0 mid d mc ms : Nat} {QF : State → Prop}
variable {pc : Nat} {lv : List (Option am_V)} {st : List am_V} {S : List am_K} {I L : Nat → Int → Int} {bc bs : Nat}
theorem am_s_gs1 {idx : Nat} (X : am_Ctx p R s m args meth c A ro ra mid d mc ms) (hd : decode (am_by mid) pc = .ok (.getstatic idx, 3)) (hw : Cond.fieldLinkNest (am_nm mid).cls idx "LoanPence" "UNRULED" "[I" "LoanPence" ∈ tables_1) (k : am_Wp p l e R s m args below meth c D A ra ad0 n0 mid mc ms QF (pc + 3, lv, am_O 1 :: st, (S, I, L), bc, bs)) : am_Wp p l e R s m args below meth c D A ra ad0 n0 mid mc ms QF (pc, lv, st, (S, I, L), bc, bs) := by
  intro ad cA H locs ls cells slots hr
  obtain ⟨hP, hD, hK, hKs, hg⟩ := hr.1
  have k1 := k ad cA H locs ls cells slots (am_Rel.st hr (am_cons (show am_ok _ (am_O 1) from trivial) hr.sk))
  exact va_getsN X.1 X.2.1 X.2.2.2.2.2.2.1.2.2.1 hr.2.1 X.2.2.2.1 (va_Nw.use rfl (X.2.2.2.2.2.2.2.2.2.2.1 _ hw rfl)) (fun _ q => q) hd k1
theorem am_s_gs2 {idx : Nat} (X : am_Ctx p R s m args meth c A ro ra mid d mc ms) (hd : decode (am_by mid) pc = .ok (.getstatic idx, 3)) (hw : Cond.fieldLinkNest (am_nm mid).cls idx "LoanPence" "KIND_POINTS" "[I" "LoanPence" ∈ tables_1) (k : am_Wp p l e R s m args below meth c D A ra ad0 n0 mid mc ms QF (pc + 3, lv, am_O 2 :: st, (S, I, L), bc, bs)) : am_Wp p l e R s m args below meth c D A ra ad0 n0 mid mc ms QF (pc, lv, st, (S, I, L), bc, bs) := by
  intro ad cA H locs ls cells slots hr
  obtain ⟨hP, hD, hK, hKs, hg⟩ := hr.1
  have k1 := k ad cA H locs ls cells slots (am_Rel.st hr (am_cons (show am_ok _ (am_O 2) from trivial) hr.sk))
  exact va_getsN X.1 X.2.1 X.2.2.2.2.2.2.1.2.2.2.1 hr.2.1 X.2.2.2.1 (va_Nw.use rfl (X.2.2.2.2.2.2.2.2.2.2.1 _ hw rfl)) (fun _ q => q) hd k1
theorem am_s_naI {n1 : Nat} {z x : Int} (X : am_Ctx p R s m args meth c A ro ra mid d mc ms) (hd : decode (am_by mid) pc = .ok (.newarray .int, 2)) (hz : z = (n1 : Int)) (hn : n1 ≤ 65536) (hx : x = z) (hb : n1 ≤ bs) (k : am_Wp p l e R s m args below meth c D A ra ad0 n0 mid mc ms QF (pc + 2, lv, am_R S.length :: st, (S ++ [.inl (.int, z)], am_z I S.length, am_z L S.length), bc, bs - n1)) : am_Wp p l e R s m args below meth c D A ra ad0 n0 mid mc ms QF (pc, lv, am_I x :: st, (S, I, L), bc + 1, bs) := by
  intro ad cA H locs ls cells slots hr
  obtain ⟨hP, hD, hK, hKs, hg⟩ := hr.1
  subst hx
  subst hz
  obtain ⟨hcl, hsl⟩ := hr.2.2.2.2.2
  have hcl : cells + (bc + 1) ≤ mc := hcl
  have hsl : slots + bs ≤ ms := hsl
  have hC := X.2.2.2.2.2.2.2.2.1
  have hxr : am_r (n1 : Int) := am_hd hr.sk
  have e0 : (Int32.ofInt (n1 : Int)).toNatClampNeg = n1 := by rw [← Int32.toNat_toInt, am_t hxr]; rfl
  refine va_newa (atype := .int) (ty := .int) (a0 := (n1, .inl (fun _ => 0))) X.1 X.2.1 (X.2.2.2.2.1 _ (am_tb am_w_aI)) rfl hK hP hD hr.2.1 X.2.2.2.2.2.1 (fun _ => rfl) (fun q => by rw [← am_0, am_lt hxr am_r0] at q; omega) e0 (by simp only [componentBytes]; omega) (by omega) (by omega) hd (fun q cq H1 hK1 hP1 hD1 hS1 => ?_)
  have ece : am_ce (am_ext ad S.length q) (am_ext cA S.length cq) (am_z I S.length) (am_z L S.length) S.length (.inl (.int, (n1 : Int))) = .inl (cq, n1, .inl (fun _ => 0)) := by
    simp only [am_ce, am_ext_eq, am_z_eq, Int.toNat_natCast]
    rfl
  rw [← ece] at hP1 hD1
  have hP1 : va_P D am_cl (am_ws ad cA (S, I, L) ++ [(q, am_ce (am_ext ad S.length q) (am_ext cA S.length cq) (am_z I S.length) (am_z L S.length) S.length (.inl (.int, (n1 : Int))))]) H1 := hP1
  have hD1 : va_D A (am_ws ad cA (S, I, L) ++ [(q, am_ce (am_ext ad S.length q) (am_ext cA S.length cq) (am_z I S.length) (am_z L S.length) S.length (.inl (.int, (n1 : Int))))]) := hD1
  rw [← am_ws_push hg] at hP1 hD1
  have hlen : (S ++ [.inl (.int, (n1 : Int))] : List am_K).length = S.length + 1 := by simp
  have k1 := k (am_ext ad S.length q) (am_ext cA S.length cq) H1 locs ls (cells + 1) (slots + n1) ⟨⟨hP1, hD1, hK, ?_, ?_⟩, hS1, ⟨?_, ?_⟩, ?_, ?_, ?_, ?_⟩
  · have e1 : (am_R S.length :: st).map (am_c (am_ext ad S.length q) ra) = .ref q :: st.map (am_c ad ra) := by
      rw [List.map_cons, am_map_ad (am_tail hr.sk) (fun k hk => am_ext_lt hk)]
      show Value.ref (am_ext ad S.length q S.length) :: _ = _
      rw [am_ext_eq]
    have k2 : W p l e R s m args below meth c H1 locs (cells + 1) (slots + n1) QF (F0 m (pc + 2) ls ((am_R S.length :: st).map (am_c (am_ext ad S.length q) ra))) := k1
    rw [e1] at k2
    exact k2
  · intro k2 t2 m2 h2
    rcases am_push_at h2 with h3 | ⟨h3, h4⟩
    · have hl : k2 < S.length := (List.getElem?_eq_some_iff.mp h3).1
      rw [am_ext_lt hl]
      exact hKs k2 t2 m2 h3
    · subst h3
      cases h4
      rw [am_ext_eq]
      exact hK1
  · refine ⟨am_z_r hg.1, am_z_rl hg.2.1, fun k2 c2 f2 h2 => ?_, fun k2 t2 m2 h2 => ?_⟩
    · rcases am_push_at h2 with h3 | ⟨h3, h4⟩
      · refine ⟨(hg.2.2.1 k2 c2 f2 h3).1, fun j r hj => ?_⟩
        show r < (S ++ [_]).length
        rw [hlen]
        exact Nat.lt_succ_of_lt ((hg.2.2.1 k2 c2 f2 h3).2 j r hj)
      · cases h4
    · rcases am_push_at h2 with h3 | ⟨h3, h4⟩
      · exact hg.2.2.2 k2 t2 m2 h3
      · cases h4
        exact ⟨by omega, by decide⟩
  · show n0 ≤ (S ++ [_]).length
    rw [hlen]
    exact Nat.le_succ_of_le hr.2.2.1.1
  · intro k2 h2
    rw [am_ext_lt (Nat.lt_of_lt_of_le h2 hr.2.2.1.1)]
    exact hr.2.2.1.2 k2 h2
  · show am_Lo _ ra (S ++ [_]).length _ _ _
    rw [hlen]
    exact am_Lo.ad hr.2.2.2.1 (Nat.le_succ _) (fun k hk => am_ext_lt hk)
  · intro v hv
    have hv : v ∈ am_R S.length :: st := hv
    show am_ok (S ++ [_]).length v
    rw [hlen]
    exact am_cons (show am_ok (S.length + 1) (am_R S.length) from Nat.lt_succ_self _) (fun v hv => am_ok_le (Nat.le_succ _) (am_tail hr.sk v hv)) v hv
  · show cells + 1 + bc ≤ mc
    omega
  · show slots + n1 + (bs - n1) ≤ ms
    omega
theorem am_s_naL {n1 : Nat} {z x : Int} (X : am_Ctx p R s m args meth c A ro ra mid d mc ms) (hd : decode (am_by mid) pc = .ok (.newarray .long, 2)) (hz : z = (n1 : Int)) (hn : n1 ≤ 65536) (hx : x = z) (hb : n1 ≤ bs) (k : am_Wp p l e R s m args below meth c D A ra ad0 n0 mid mc ms QF (pc + 2, lv, am_R S.length :: st, (S ++ [.inl (.long, z)], am_z I S.length, am_z L S.length), bc, bs - n1)) : am_Wp p l e R s m args below meth c D A ra ad0 n0 mid mc ms QF (pc, lv, am_I x :: st, (S, I, L), bc + 1, bs) := by
  intro ad cA H locs ls cells slots hr
  obtain ⟨hP, hD, hK, hKs, hg⟩ := hr.1
  subst hx
  subst hz
  obtain ⟨hcl, hsl⟩ := hr.2.2.2.2.2
  have hcl : cells + (bc + 1) ≤ mc := hcl
  have hsl : slots + bs ≤ ms := hsl
  have hC := X.2.2.2.2.2.2.2.2.1
  have hxr : am_r (n1 : Int) := am_hd hr.sk
  have e0 : (Int32.ofInt (n1 : Int)).toNatClampNeg = n1 := by rw [← Int32.toNat_toInt, am_t hxr]; rfl
  refine va_newa (atype := .long) (ty := .long) (a0 := (n1, .inr (.inl (fun _ => 0)))) X.1 X.2.1 (X.2.2.2.2.1 _ (am_tb am_w_aL)) rfl hK hP hD hr.2.1 X.2.2.2.2.2.1 (fun _ => rfl) (fun q => by rw [← am_0, am_lt hxr am_r0] at q; omega) e0 (by simp only [componentBytes]; omega) (by omega) (by omega) hd (fun q cq H1 hK1 hP1 hD1 hS1 => ?_)
  have ece : am_ce (am_ext ad S.length q) (am_ext cA S.length cq) (am_z I S.length) (am_z L S.length) S.length (.inl (.long, (n1 : Int))) = .inl (cq, n1, .inr (.inl (fun _ => 0))) := by
    simp only [am_ce, am_ext_eq, am_z_eq, Int.toNat_natCast]
    rfl
  rw [← ece] at hP1 hD1
  have hP1 : va_P D am_cl (am_ws ad cA (S, I, L) ++ [(q, am_ce (am_ext ad S.length q) (am_ext cA S.length cq) (am_z I S.length) (am_z L S.length) S.length (.inl (.long, (n1 : Int))))]) H1 := hP1
  have hD1 : va_D A (am_ws ad cA (S, I, L) ++ [(q, am_ce (am_ext ad S.length q) (am_ext cA S.length cq) (am_z I S.length) (am_z L S.length) S.length (.inl (.long, (n1 : Int))))]) := hD1
  rw [← am_ws_push hg] at hP1 hD1
  have hlen : (S ++ [.inl (.long, (n1 : Int))] : List am_K).length = S.length + 1 := by simp
  have k1 := k (am_ext ad S.length q) (am_ext cA S.length cq) H1 locs ls (cells + 1) (slots + n1) ⟨⟨hP1, hD1, hK, ?_, ?_⟩, hS1, ⟨?_, ?_⟩, ?_, ?_, ?_, ?_⟩
  · have e1 : (am_R S.length :: st).map (am_c (am_ext ad S.length q) ra) = .ref q :: st.map (am_c ad ra) := by
      rw [List.map_cons, am_map_ad (am_tail hr.sk) (fun k hk => am_ext_lt hk)]
      show Value.ref (am_ext ad S.length q S.length) :: _ = _
      rw [am_ext_eq]
    have k2 : W p l e R s m args below meth c H1 locs (cells + 1) (slots + n1) QF (F0 m (pc + 2) ls ((am_R S.length :: st).map (am_c (am_ext ad S.length q) ra))) := k1
    rw [e1] at k2
    exact k2
  · intro k2 t2 m2 h2
    rcases am_push_at h2 with h3 | ⟨h3, h4⟩
    · have hl : k2 < S.length := (List.getElem?_eq_some_iff.mp h3).1
      rw [am_ext_lt hl]
      exact hKs k2 t2 m2 h3
    · subst h3
      cases h4
      rw [am_ext_eq]
      exact hK1
  · refine ⟨am_z_r hg.1, am_z_rl hg.2.1, fun k2 c2 f2 h2 => ?_, fun k2 t2 m2 h2 => ?_⟩
    · rcases am_push_at h2 with h3 | ⟨h3, h4⟩
      · refine ⟨(hg.2.2.1 k2 c2 f2 h3).1, fun j r hj => ?_⟩
        show r < (S ++ [_]).length
        rw [hlen]
        exact Nat.lt_succ_of_lt ((hg.2.2.1 k2 c2 f2 h3).2 j r hj)
      · cases h4
    · rcases am_push_at h2 with h3 | ⟨h3, h4⟩
      · exact hg.2.2.2 k2 t2 m2 h3
      · cases h4
        exact ⟨by omega, by decide⟩
  · show n0 ≤ (S ++ [_]).length
    rw [hlen]
    exact Nat.le_succ_of_le hr.2.2.1.1
  · intro k2 h2
    rw [am_ext_lt (Nat.lt_of_lt_of_le h2 hr.2.2.1.1)]
    exact hr.2.2.1.2 k2 h2
  · show am_Lo _ ra (S ++ [_]).length _ _ _
    rw [hlen]
    exact am_Lo.ad hr.2.2.2.1 (Nat.le_succ _) (fun k hk => am_ext_lt hk)
  · intro v hv
    have hv : v ∈ am_R S.length :: st := hv
    show am_ok (S ++ [_]).length v
    rw [hlen]
    exact am_cons (show am_ok (S.length + 1) (am_R S.length) from Nat.lt_succ_self _) (fun v hv => am_ok_le (Nat.le_succ _) (am_tail hr.sk v hv)) v hv
  · show cells + 1 + bc ≤ mc
    omega
  · show slots + n1 + (bs - n1) ≤ ms
    omega
theorem am_s_naZ {n1 : Nat} {z x : Int} (X : am_Ctx p R s m args meth c A ro ra mid d mc ms) (hd : decode (am_by mid) pc = .ok (.newarray .boolean, 2)) (hz : z = (n1 : Int)) (hn : n1 ≤ 65536) (hx : x = z) (hb : n1 ≤ bs) (k : am_Wp p l e R s m args below meth c D A ra ad0 n0 mid mc ms QF (pc + 2, lv, am_R S.length :: st, (S ++ [.inl (.boolean, z)], am_z I S.length, am_z L S.length), bc, bs - n1)) : am_Wp p l e R s m args below meth c D A ra ad0 n0 mid mc ms QF (pc, lv, am_I x :: st, (S, I, L), bc + 1, bs) := by
  intro ad cA H locs ls cells slots hr
  obtain ⟨hP, hD, hK, hKs, hg⟩ := hr.1
  subst hx
  subst hz
  obtain ⟨hcl, hsl⟩ := hr.2.2.2.2.2
  have hcl : cells + (bc + 1) ≤ mc := hcl
  have hsl : slots + bs ≤ ms := hsl
  have hC := X.2.2.2.2.2.2.2.2.1
  have hxr : am_r (n1 : Int) := am_hd hr.sk
  have e0 : (Int32.ofInt (n1 : Int)).toNatClampNeg = n1 := by rw [← Int32.toNat_toInt, am_t hxr]; rfl
  refine va_newa (atype := .boolean) (ty := .boolean) (a0 := (n1, .inl (fun _ => 0))) X.1 X.2.1 (X.2.2.2.2.1 _ (am_tb am_w_aZ)) rfl hK hP hD hr.2.1 X.2.2.2.2.2.1 (fun _ => rfl) (fun q => by rw [← am_0, am_lt hxr am_r0] at q; omega) e0 (by simp only [componentBytes]; omega) (by omega) (by omega) hd (fun q cq H1 hK1 hP1 hD1 hS1 => ?_)
  have ece : am_ce (am_ext ad S.length q) (am_ext cA S.length cq) (am_z I S.length) (am_z L S.length) S.length (.inl (.boolean, (n1 : Int))) = .inl (cq, n1, .inl (fun _ => 0)) := by
    simp only [am_ce, am_ext_eq, am_z_eq, Int.toNat_natCast]
    rfl
  rw [← ece] at hP1 hD1
  have hP1 : va_P D am_cl (am_ws ad cA (S, I, L) ++ [(q, am_ce (am_ext ad S.length q) (am_ext cA S.length cq) (am_z I S.length) (am_z L S.length) S.length (.inl (.boolean, (n1 : Int))))]) H1 := hP1
  have hD1 : va_D A (am_ws ad cA (S, I, L) ++ [(q, am_ce (am_ext ad S.length q) (am_ext cA S.length cq) (am_z I S.length) (am_z L S.length) S.length (.inl (.boolean, (n1 : Int))))]) := hD1
  rw [← am_ws_push hg] at hP1 hD1
  have hlen : (S ++ [.inl (.boolean, (n1 : Int))] : List am_K).length = S.length + 1 := by simp
  have k1 := k (am_ext ad S.length q) (am_ext cA S.length cq) H1 locs ls (cells + 1) (slots + n1) ⟨⟨hP1, hD1, hK, ?_, ?_⟩, hS1, ⟨?_, ?_⟩, ?_, ?_, ?_, ?_⟩
  · have e1 : (am_R S.length :: st).map (am_c (am_ext ad S.length q) ra) = .ref q :: st.map (am_c ad ra) := by
      rw [List.map_cons, am_map_ad (am_tail hr.sk) (fun k hk => am_ext_lt hk)]
      show Value.ref (am_ext ad S.length q S.length) :: _ = _
      rw [am_ext_eq]
    have k2 : W p l e R s m args below meth c H1 locs (cells + 1) (slots + n1) QF (F0 m (pc + 2) ls ((am_R S.length :: st).map (am_c (am_ext ad S.length q) ra))) := k1
    rw [e1] at k2
    exact k2
  · intro k2 t2 m2 h2
    rcases am_push_at h2 with h3 | ⟨h3, h4⟩
    · have hl : k2 < S.length := (List.getElem?_eq_some_iff.mp h3).1
      rw [am_ext_lt hl]
      exact hKs k2 t2 m2 h3
    · subst h3
      cases h4
      rw [am_ext_eq]
      exact hK1
  · refine ⟨am_z_r hg.1, am_z_rl hg.2.1, fun k2 c2 f2 h2 => ?_, fun k2 t2 m2 h2 => ?_⟩
    · rcases am_push_at h2 with h3 | ⟨h3, h4⟩
      · refine ⟨(hg.2.2.1 k2 c2 f2 h3).1, fun j r hj => ?_⟩
        show r < (S ++ [_]).length
        rw [hlen]
        exact Nat.lt_succ_of_lt ((hg.2.2.1 k2 c2 f2 h3).2 j r hj)
      · cases h4
    · rcases am_push_at h2 with h3 | ⟨h3, h4⟩
      · exact hg.2.2.2 k2 t2 m2 h3
      · cases h4
        exact ⟨by omega, by decide⟩
  · show n0 ≤ (S ++ [_]).length
    rw [hlen]
    exact Nat.le_succ_of_le hr.2.2.1.1
  · intro k2 h2
    rw [am_ext_lt (Nat.lt_of_lt_of_le h2 hr.2.2.1.1)]
    exact hr.2.2.1.2 k2 h2
  · show am_Lo _ ra (S ++ [_]).length _ _ _
    rw [hlen]
    exact am_Lo.ad hr.2.2.2.1 (Nat.le_succ _) (fun k hk => am_ext_lt hk)
  · intro v hv
    have hv : v ∈ am_R S.length :: st := hv
    show am_ok (S ++ [_]).length v
    rw [hlen]
    exact am_cons (show am_ok (S.length + 1) (am_R S.length) from Nat.lt_succ_self _) (fun v hv => am_ok_le (Nat.le_succ _) (am_tail hr.sk v hv)) v hv
  · show cells + 1 + bc ≤ mc
    omega
  · show slots + n1 + (bs - n1) ≤ ms
    omega
theorem am_s_new {n1 n2 idx : Nat} {C : String} {T : u_T} {N : Nat} (X : am_Ctx p R s m args meth c A ro ra mid d mc ms) (hd : decode (am_by mid) pc = .ok (.new idx, 3)) (hc : am_cl[n1]? = some (C, T, N)) (hn : n2 = N) (hw : Cond.classLink (am_nm mid).cls idx C ∈ tables_1) (hb : n2 ≤ bs) (k : am_Wp p l e R s m args below meth c D A ra ad0 n0 mid mc ms QF (pc + 3, lv, am_R S.length :: st, (S ++ [.inr (n1, am_fs n1)], am_z I S.length, am_z L S.length), bc, bs - n2)) : am_Wp p l e R s m args below meth c D A ra ad0 n0 mid mc ms QF (pc, lv, st, (S, I, L), bc + 1, bs) := by
  intro ad cA H locs ls cells slots hr
  obtain ⟨hP, hD, hK, hKs, hg⟩ := hr.1
  subst hn
  obtain ⟨hcl, hsl⟩ := hr.2.2.2.2.2
  have hcl : cells + (bc + 1) ≤ mc := hcl
  have hsl : slots + bs ≤ ms := hsl
  have hC := X.2.2.2.2.2.2.2.2.1
  obtain ⟨hin, ⟨ty0, hty, hkd⟩, hnm, hfl, hinst, hini⟩ := am_cls n1 C T n2 hc
  have hdf := am_dfs n1 C T n2 hc
  refine va_new (ci := n1) (fs := (am_fs n1).mapIdx (am_fv ad (am_z I S.length) (am_z L S.length) S.length)) X.1 X.2.1 X.2.2.2.2.1 hin ty0 hty X.2.2.2.1 (X.2.2.2.2.1 _ (am_tb hw)) (X.2.2.2.2.1 _ (am_tb hinst)) (X.2.2.2.2.1 _ (am_tb hini)) hK hP hD hr.2.1 X.2.2.2.2.2.1 hc (fun j hj => ?_) (by omega) (by omega) hd (fun q H1 hP1 hD1 hS1 => ?_)
  · have h1 := hkd j hj
    unfold vp_V
    rw [List.getD_eq_getElem?_getD, List.getElem?_mapIdx]
    cases hf : (am_fs n1)[j]? with
    | none => rw [hf] at h1; cases h1
    | some f =>
      rw [hf] at h1
      have h2 : am_kd f = am_tk (ty0 j) := Option.some.inj h1
      rcases hdf j f hf with rfl | rfl | rfl | rfl
      · rw [am_tk_int h2.symm]
        show Value.int 0 = Value.int (Int32.ofInt (am_z I S.length S.length (j : Int)))
        rw [am_z_eq, am_0]
      · rw [am_tk_long h2.symm]
        show Value.long 0 = Value.long (Int64.ofInt (am_z L S.length S.length (j : Int)))
        rw [am_z_eq]
        rfl
      · rw [am_tk_bool h2.symm]
        show Value.int 0 = Value.int (Int32.ofInt (am_z I S.length S.length (j : Int)))
        rw [am_z_eq, am_0]
      · have h3 : am_tk (ty0 j) = none := h2.symm
        cases hq : ty0 j <;> rw [hq] at h3 <;> simp only [am_tk] at h3 <;> first | (cases h3; done) | rfl
  · have ece : am_ce (am_ext ad S.length q) (am_ext cA S.length (cA 0)) (am_z I S.length) (am_z L S.length) S.length (.inr (n1, am_fs n1)) = .inr (n1, (am_fs n1).mapIdx (am_fv ad (am_z I S.length) (am_z L S.length) S.length)) := by
      simp only [am_ce]
      congr 2
      apply List.ext_getElem?
      intro j
      rw [List.getElem?_mapIdx, List.getElem?_mapIdx]
      cases hf : (am_fs n1)[j]? with
      | none => rfl
      | some f =>
        simp only [Option.map_some]
        rcases hdf j f hf with rfl | rfl | rfl | rfl <;> rfl
    have hP1 : va_P D am_cl (am_ws ad cA (S, I, L) ++ [(q, .inr (n1, (am_fs n1).mapIdx (am_fv ad (am_z I S.length) (am_z L S.length) S.length)))]) H1 := hP1
    have hD1 : va_D A (am_ws ad cA (S, I, L) ++ [(q, .inr (n1, (am_fs n1).mapIdx (am_fv ad (am_z I S.length) (am_z L S.length) S.length)))]) := hD1
    rw [← ece] at hP1 hD1
    rw [← am_ws_push hg] at hP1 hD1
    have hlen : (S ++ [.inr (n1, am_fs n1)] : List am_K).length = S.length + 1 := by simp
    have k1 := k (am_ext ad S.length q) (am_ext cA S.length (cA 0)) H1 locs ls (cells + 1) (slots + n2) ⟨⟨hP1, hD1, hK, ?_, ?_⟩, hS1, ⟨?_, ?_⟩, ?_, ?_, ?_, ?_⟩
    · have e1 : (am_R S.length :: st).map (am_c (am_ext ad S.length q) ra) = .ref q :: st.map (am_c ad ra) := by
        rw [List.map_cons, am_map_ad hr.sk (fun k hk => am_ext_lt hk)]
        show Value.ref (am_ext ad S.length q S.length) :: _ = _
        rw [am_ext_eq]
      have k2 : W p l e R s m args below meth c H1 locs (cells + 1) (slots + n2) QF (F0 m (pc + 3) ls ((am_R S.length :: st).map (am_c (am_ext ad S.length q) ra))) := k1
      rw [e1] at k2
      exact k2
    · intro k2 t2 m2 h2
      rcases am_push_at h2 with h3 | ⟨h3, h4⟩
      · have hl : k2 < S.length := (List.getElem?_eq_some_iff.mp h3).1
        rw [am_ext_lt hl]
        exact hKs k2 t2 m2 h3
      · cases h4
    · refine ⟨am_z_r hg.1, am_z_rl hg.2.1, fun k2 c2 f2 h2 => ?_, fun k2 t2 m2 h2 => ?_⟩
      · rcases am_push_at h2 with h3 | ⟨h3, h4⟩
        · refine ⟨(hg.2.2.1 k2 c2 f2 h3).1, fun j r hj => ?_⟩
          show r < (S ++ [_]).length
          rw [hlen]
          exact Nat.lt_succ_of_lt ((hg.2.2.1 k2 c2 f2 h3).2 j r hj)
        · cases h4
          exact ⟨rfl, fun j r hj => by rcases hdf j _ hj with q | q | q | q <;> cases q⟩
      · rcases am_push_at h2 with h3 | ⟨h3, h4⟩
        · exact hg.2.2.2 k2 t2 m2 h3
        · cases h4
    · show n0 ≤ (S ++ [_]).length
      rw [hlen]
      exact Nat.le_succ_of_le hr.2.2.1.1
    · intro k2 h2
      rw [am_ext_lt (Nat.lt_of_lt_of_le h2 hr.2.2.1.1)]
      exact hr.2.2.1.2 k2 h2
    · show am_Lo _ ra (S ++ [_]).length _ _ _
      rw [hlen]
      exact am_Lo.ad hr.2.2.2.1 (Nat.le_succ _) (fun k hk => am_ext_lt hk)
    · intro v hv
      have hv : v ∈ am_R S.length :: st := hv
      show am_ok (S ++ [_]).length v
      rw [hlen]
      exact am_cons (show am_ok (S.length + 1) (am_R S.length) from Nat.lt_succ_self _) (fun v hv => am_ok_le (Nat.le_succ _) (hr.sk v hv)) v hv
    · show cells + 1 + bc ≤ mc
      omega
    · show slots + n2 + (bs - n2) ≤ ms
      omega
theorem am_cpI_eq {F : Nat → Int → Int} {a0 a : Nat} {sp dp n : Int} (h : 0 ≤ sp ∧ 0 ≤ dp ∧ 0 ≤ n) : va_cpy (fun j : Nat => Int32.ofInt (F a0 j)) (fun j : Nat => Int32.ofInt (F a j)) sp.toNat dp.toNat n.toNat = fun j : Nat => Int32.ofInt (am_cp F a0 a sp dp n a j) := by
  funext j
  unfold va_cpy am_cp
  rw [if_pos rfl]
  by_cases hq : dp.toNat ≤ j ∧ j < dp.toNat + n.toNat
  · have e0 : ((sp.toNat + (j - dp.toNat) : Nat) : Int) = sp + ((j : Int) - dp) := by omega
    rw [if_pos hq, if_pos (by omega)]
    show Int32.ofInt (F a0 ((sp.toNat + (j - dp.toNat) : Nat) : Int)) = _
    rw [e0]
  · rw [if_neg hq, if_neg (by omega)]
theorem am_s_cpI {a0 a idx : Nat} {sp dp n m0 m1 : Int} (X : am_Ctx p R s m args meth c A ro ra mid d mc ms) (hd : decode (am_by mid) pc = .ok (.invokestatic idx, 3)) (hw : Cond.methodLink (am_nm mid).cls idx arraycopyName ∈ tables_1) (hS0 : S[a0]? = some (.inl (.int, m0))) (hS : S[a]? = some (.inl (.int, m1))) (hb : Nat.ble (am_wd st) 8 = true) (hq : 0 ≤ sp ∧ 0 ≤ dp ∧ 0 ≤ n ∧ sp + n ≤ m0 ∧ dp + n ≤ m1) (k : am_Wp p l e R s m args below meth c D A ra ad0 n0 mid mc ms QF (pc + 3, lv, st, (S, am_cp I a0 a sp dp n, L), bc, bs)) : am_Wp p l e R s m args below meth c D A ra ad0 n0 mid mc ms QF (pc, lv, am_I n :: am_I dp :: am_R a :: am_I sp :: am_R a0 :: st, (S, I, L), bc, bs) := by
  intro ad cA H locs ls cells slots hr
  obtain ⟨hP, hD, hK, hKs, hg⟩ := hr.1
  have hnr : am_r n := am_hd hr.sk
  have hdr : am_r dp := am_hd (am_tail hr.sk)
  have hsr : am_r sp := am_hd (am_tail (am_tail (am_tail hr.sk)))
  obtain ⟨q1, q2, q3, q4, q5⟩ := hq
  have cv : ∀ {x : Int}, am_r x → (Int32.ofInt x).toNatClampNeg = x.toNat := fun hx => by rw [← Int32.toNat_toInt, am_t hx]
  have hnf : nativeFrameWords "java/lang/System" "arraycopy" 5 ≤ 40 := by decide
  have ng : ∀ {x : Int}, am_r x → 0 ≤ x → ¬ Int32.ofInt x < 0 := fun hx h0 z => by rw [← am_0, am_lt hx am_r0] at z; omega
  have hR := X.2.2.2.2.2.2.2.1
  have hw8 := am_wd8 (ad := ad) (ra := ra) hb
  refine va_copyi X.1 X.2.1 (X.2.2.1.trans hr.2.2.2.1.1.symm) X.2.2.2.1 (X.2.2.2.2.1 _ (am_tb hw)) (X.2.2.2.2.1 _ (am_tb am_w_cpN)) (X.2.2.2.2.1 _ (am_tb am_w_cpS)) (X.2.2.2.2.1 _ (am_tb am_w_cpI)) ((hKs a0 _ m0 hS0).app (hKs a _ m1 hS)) hP hD hr.2.1 a0 a 0 1 (f := (fun j : Nat => Int32.ofInt (I a0 j))) (g := (fun j : Nat => Int32.ofInt (I a j))) (am_ws_at (h := (S, I, L)) hS0) (am_ws_at (h := (S, I, L)) hS) rfl rfl rfl (ng hsr q1) (ng hdr q2) (ng hnr q3) (by rw [cv hsr, cv hnr]; omega) (by rw [cv hdr, cv hnr]; omega) (fun _ _ => rfl) (by omega) (by omega) hd (fun H1 locs1 hP1 hD1 hS1 => ?_)
  rw [cv hsr, cv hdr, cv hnr, am_cpI_eq ⟨q1, q2, q3⟩] at hP1 hD1
  have hP1 : va_P D am_cl ((am_ws ad cA (S, I, L)).set a (ad a, am_ce ad cA (am_cp I a0 a sp dp n) L a (.inl (.int, m1)))) H1 := hP1
  have hD1 : va_D A ((am_ws ad cA (S, I, L)).set a (ad a, am_ce ad cA (am_cp I a0 a sp dp n) L a (.inl (.int, m1)))) := hD1
  have hne : ∀ j, j ≠ a → am_cp I a0 a sp dp n j = I j := fun j hj => by funext x; simp [am_cp, hj]
  rw [am_ws_set (c1 := .inl (.int, m1)) hS hne (fun _ _ => rfl), am_set_same hS] at hP1 hD1
  refine k ad cA H1 locs1 ls cells slots ⟨⟨hP1, hD1, hK, hKs, ?_⟩, hS1, hr.2.2.1, hr.2.2.2.1, am_tail (am_tail (am_tail (am_tail (am_tail hr.sk)))), hr.2.2.2.2.2⟩
  refine ⟨fun k2 i2 => ?_, hg.2.1, hg.2.2.1, hg.2.2.2⟩
  show am_r (am_cp I a0 a sp dp n k2 i2)
  unfold am_cp
  split
  · split
    · exact hg.1 _ _
    · exact hg.1 _ _
  · exact hg.1 _ _
theorem am_cpL_eq {F : Nat → Int → Int} {a0 a : Nat} {sp dp n : Int} (h : 0 ≤ sp ∧ 0 ≤ dp ∧ 0 ≤ n) : va_cpy (fun j : Nat => Int64.ofInt (F a0 j)) (fun j : Nat => Int64.ofInt (F a j)) sp.toNat dp.toNat n.toNat = fun j : Nat => Int64.ofInt (am_cp F a0 a sp dp n a j) := by
  funext j
  unfold va_cpy am_cp
  rw [if_pos rfl]
  by_cases hq : dp.toNat ≤ j ∧ j < dp.toNat + n.toNat
  · have e0 : ((sp.toNat + (j - dp.toNat) : Nat) : Int) = sp + ((j : Int) - dp) := by omega
    rw [if_pos hq, if_pos (by omega)]
    show Int64.ofInt (F a0 ((sp.toNat + (j - dp.toNat) : Nat) : Int)) = _
    rw [e0]
  · rw [if_neg hq, if_neg (by omega)]
theorem am_s_cpL {a0 a idx : Nat} {sp dp n m0 m1 : Int} (X : am_Ctx p R s m args meth c A ro ra mid d mc ms) (hd : decode (am_by mid) pc = .ok (.invokestatic idx, 3)) (hw : Cond.methodLink (am_nm mid).cls idx arraycopyName ∈ tables_1) (hS0 : S[a0]? = some (.inl (.long, m0))) (hS : S[a]? = some (.inl (.long, m1))) (hb : Nat.ble (am_wd st) 8 = true) (hq : 0 ≤ sp ∧ 0 ≤ dp ∧ 0 ≤ n ∧ sp + n ≤ m0 ∧ dp + n ≤ m1) (k : am_Wp p l e R s m args below meth c D A ra ad0 n0 mid mc ms QF (pc + 3, lv, st, (S, I, am_cp L a0 a sp dp n), bc, bs)) : am_Wp p l e R s m args below meth c D A ra ad0 n0 mid mc ms QF (pc, lv, am_I n :: am_I dp :: am_R a :: am_I sp :: am_R a0 :: st, (S, I, L), bc, bs) := by
  intro ad cA H locs ls cells slots hr
  obtain ⟨hP, hD, hK, hKs, hg⟩ := hr.1
  have hnr : am_r n := am_hd hr.sk
  have hdr : am_r dp := am_hd (am_tail hr.sk)
  have hsr : am_r sp := am_hd (am_tail (am_tail (am_tail hr.sk)))
  obtain ⟨q1, q2, q3, q4, q5⟩ := hq
  have cv : ∀ {x : Int}, am_r x → (Int32.ofInt x).toNatClampNeg = x.toNat := fun hx => by rw [← Int32.toNat_toInt, am_t hx]
  have hnf : nativeFrameWords "java/lang/System" "arraycopy" 5 ≤ 40 := by decide
  have ng : ∀ {x : Int}, am_r x → 0 ≤ x → ¬ Int32.ofInt x < 0 := fun hx h0 z => by rw [← am_0, am_lt hx am_r0] at z; omega
  have hR := X.2.2.2.2.2.2.2.1
  have hw8 := am_wd8 (ad := ad) (ra := ra) hb
  refine va_copyl X.1 X.2.1 (X.2.2.1.trans hr.2.2.2.1.1.symm) X.2.2.2.1 (X.2.2.2.2.1 _ (am_tb hw)) (X.2.2.2.2.1 _ (am_tb am_w_cpN)) (X.2.2.2.2.1 _ (am_tb am_w_cpS)) (X.2.2.2.2.1 _ (am_tb am_w_cpI)) ((hKs a0 _ m0 hS0).app (hKs a _ m1 hS)) hP hD hr.2.1 a0 a 0 1 (f := (fun j : Nat => Int64.ofInt (L a0 j))) (g := (fun j : Nat => Int64.ofInt (L a j))) (am_ws_at (h := (S, I, L)) hS0) (am_ws_at (h := (S, I, L)) hS) rfl rfl rfl (ng hsr q1) (ng hdr q2) (ng hnr q3) (by rw [cv hsr, cv hnr]; omega) (by rw [cv hdr, cv hnr]; omega) (fun _ _ => rfl) (by omega) (by omega) hd (fun H1 locs1 hP1 hD1 hS1 => ?_)
  rw [cv hsr, cv hdr, cv hnr, am_cpL_eq ⟨q1, q2, q3⟩] at hP1 hD1
  have hP1 : va_P D am_cl ((am_ws ad cA (S, I, L)).set a (ad a, am_ce ad cA I (am_cp L a0 a sp dp n) a (.inl (.long, m1)))) H1 := hP1
  have hD1 : va_D A ((am_ws ad cA (S, I, L)).set a (ad a, am_ce ad cA I (am_cp L a0 a sp dp n) a (.inl (.long, m1)))) := hD1
  have hne : ∀ j, j ≠ a → am_cp L a0 a sp dp n j = L j := fun j hj => by funext x; simp [am_cp, hj]
  rw [am_ws_set (c1 := .inl (.long, m1)) hS (fun _ _ => rfl) hne, am_set_same hS] at hP1 hD1
  refine k ad cA H1 locs1 ls cells slots ⟨⟨hP1, hD1, hK, hKs, ?_⟩, hS1, hr.2.2.1, hr.2.2.2.1, am_tail (am_tail (am_tail (am_tail (am_tail hr.sk)))), hr.2.2.2.2.2⟩
  refine ⟨hg.1, fun k2 i2 => ?_, hg.2.2.1, hg.2.2.2⟩
  show am_rl (am_cp L a0 a sp dp n k2 i2)
  unfold am_cp
  split
  · split
    · exact hg.2.1 _ _
    · exact hg.2.1 _ _
  · exact hg.2.1 _ _
theorem am_s_obj {a idx : Nat} (X : am_Ctx p R s m args meth c A ro ra mid d mc ms) (hd : decode (am_by mid) pc = .ok (.invokespecial idx, 3)) (hw : Cond.methodLink (am_nm mid).cls idx Lib.objectInit ∈ tables_1) (hb : Nat.ble (am_wd st) 8 = true) (k : am_Wp p l e R s m args below meth c D A ra ad0 n0 mid mc ms QF (pc + 3, lv, st, (S, I, L), bc, bs)) : am_Wp p l e R s m args below meth c D A ra ad0 n0 mid mc ms QF (pc, lv, am_R a :: st, (S, I, L), bc, bs) := by
  intro ad cA H locs ls cells slots hr
  obtain ⟨hP, hD, hK, hKs, hg⟩ := hr.1
  have hR := X.2.2.2.2.2.2.2.1
  have hw8 := am_wd8 (ad := ad) (ra := ra) hb
  have hrm := lv_room (m := m) (pc := pc) (ls := ls) (rest := .ref (ad a) :: st.map (am_c ad ra)) hw8
  show W p l e R s m args below meth c H locs cells slots QF (F0 m pc ls (.ref (ad a) :: st.map (am_c ad ra)))
  refine W.objInit (rest := st.map (am_c ad ra)) (a := ad a) X.1 X.2.1 X.2.2.2.1 (X.2.2.2.2.1 _ (am_tb hw)) (X.2.2.2.2.1 _ (am_tb am_w_obI)) (X.2.2.2.2.1 _ (am_tb am_w_obC)) rfl (hr.2.2.2.1.1.trans X.2.2.1.symm) rfl hd (by omega) (by omega) ?_
  exact k ad cA H locs ls cells slots (am_Rel.st hr (am_tail hr.sk))
theorem am_s_mx {a b : Int} {idx : Nat} (X : am_Ctx p R s m args meth c A ro ra mid d mc ms) (hd : decode (am_by mid) pc = .ok (.invokestatic idx, 3)) (hw : Cond.methodLink (am_nm mid).cls idx Lib.Math.max.name ∈ tables_1) (hb8 : Nat.ble (am_wd st) 8 = true) (k : am_Wp p l e R s m args below meth c D A ra ad0 n0 mid mc ms QF (pc + 3, lv, am_I (max a b) :: st, (S, I, L), bc, bs)) : am_Wp p l e R s m args below meth c D A ra ad0 n0 mid mc ms QF (pc, lv, am_I b :: am_I a :: st, (S, I, L), bc, bs) := by
  intro ad cA H locs ls cells slots hr
  obtain ⟨hP, hD, hK, hKs, hg⟩ := hr.1
  have hb : am_r b := am_hd hr.sk
  have ha : am_r a := am_hd (am_tail hr.sk)
  have hR := X.2.2.2.2.2.2.2.1
  have hC := X.2.2.2.2.2.2.2.2.1
  have hw8 := am_wd8 (ad := ad) (ra := ra) hb8
  obtain ⟨hcl, hsl⟩ := hr.2.2.2.2.2
  have hcl : cells + bc ≤ mc := hcl
  have hsl : slots + bs ≤ ms := hsl
  have k1 := k ad cA H locs ls cells slots (am_Rel.st hr (am_cons (show am_r (max a b) by unfold am_r at *; omega) (am_tail (am_tail hr.sk))))
  refine va_mmax X.1 X.2.1 (X.2.2.1.trans hr.2.2.2.1.1.symm) X.2.2.2.1 (X.2.2.2.2.1 _ (am_tb hw)) (X.2.2.2.2.1 _ (am_tb am_w_mxS)) (X.2.2.2.2.1 _ (am_tb am_w_mi)) (X.2.2.2.2.1 _ (am_tb am_w_mxC)) (by omega) (by omega) (by omega) (by omega) hd ?_
  have e1 : (if Int32.ofInt a < Int32.ofInt b then Int32.ofInt b else Int32.ofInt a) = Int32.ofInt (max a b) := by
    by_cases q : Int32.ofInt a < Int32.ofInt b
    · rw [if_pos q]
      rw [Int.max_eq_right (Int.le_of_lt ((am_lt ha hb).mp q))]
    · rw [if_neg q]
      rw [Int.max_eq_left (Int.not_lt.mp (fun z => q ((am_lt ha hb).mpr z)))]
  rw [e1]
  exact k1
theorem am_s_mn {a b : Int} {idx : Nat} (X : am_Ctx p R s m args meth c A ro ra mid d mc ms) (hd : decode (am_by mid) pc = .ok (.invokestatic idx, 3)) (hw : Cond.methodLink (am_nm mid).cls idx Lib.Math.min.name ∈ tables_1) (hb8 : Nat.ble (am_wd st) 8 = true) (k : am_Wp p l e R s m args below meth c D A ra ad0 n0 mid mc ms QF (pc + 3, lv, am_I (min a b) :: st, (S, I, L), bc, bs)) : am_Wp p l e R s m args below meth c D A ra ad0 n0 mid mc ms QF (pc, lv, am_I b :: am_I a :: st, (S, I, L), bc, bs) := by
  intro ad cA H locs ls cells slots hr
  obtain ⟨hP, hD, hK, hKs, hg⟩ := hr.1
  have hb : am_r b := am_hd hr.sk
  have ha : am_r a := am_hd (am_tail hr.sk)
  have hR := X.2.2.2.2.2.2.2.1
  have hC := X.2.2.2.2.2.2.2.2.1
  have hw8 := am_wd8 (ad := ad) (ra := ra) hb8
  obtain ⟨hcl, hsl⟩ := hr.2.2.2.2.2
  have hcl : cells + bc ≤ mc := hcl
  have hsl : slots + bs ≤ ms := hsl
  have k1 := k ad cA H locs ls cells slots (am_Rel.st hr (am_cons (show am_r (min a b) by unfold am_r at *; omega) (am_tail (am_tail hr.sk))))
  refine va_mmin X.1 X.2.1 (X.2.2.1.trans hr.2.2.2.1.1.symm) X.2.2.2.1 (X.2.2.2.2.1 _ (am_tb hw)) (X.2.2.2.2.1 _ (am_tb am_w_mnS)) (X.2.2.2.2.1 _ (am_tb am_w_mi)) (X.2.2.2.2.1 _ (am_tb am_w_mnC)) (by omega) (by omega) (by omega) (by omega) hd ?_
  have e1 : (if Int32.ofInt b < Int32.ofInt a then Int32.ofInt b else Int32.ofInt a) = Int32.ofInt (min a b) := by
    by_cases q : Int32.ofInt b < Int32.ofInt a
    · rw [if_pos q]
      rw [Int.min_eq_right (Int.le_of_lt ((am_lt hb ha).mp q))]
    · rw [if_neg q]
      rw [Int.min_eq_left (Int.not_lt.mp (fun z => q ((am_lt hb ha).mpr z)))]
  rw [e1]
  exact k1
theorem am_s_ml {a b : Int} {idx : Nat} (X : am_Ctx p R s m args meth c A ro ra mid d mc ms) (hd : decode (am_by mid) pc = .ok (.invokestatic idx, 3)) (hw : Cond.methodLink (am_nm mid).cls idx Lib.MathLoose.max_long.x ∈ tables_1) (hb8 : Nat.ble (am_wd st) 8 = true) (k : am_Wp p l e R s m args below meth c D A ra ad0 n0 mid mc ms QF (pc + 3, lv, am_L (max a b) :: st, (S, I, L), bc, bs)) : am_Wp p l e R s m args below meth c D A ra ad0 n0 mid mc ms QF (pc, lv, am_L b :: am_L a :: st, (S, I, L), bc, bs) := by
  intro ad cA H locs ls cells slots hr
  obtain ⟨hP, hD, hK, hKs, hg⟩ := hr.1
  have hb : am_rl b := am_hd hr.sk
  have ha : am_rl a := am_hd (am_tail hr.sk)
  have hR := X.2.2.2.2.2.2.2.1
  have hC := X.2.2.2.2.2.2.2.2.1
  have hw8 := am_wd8 (ad := ad) (ra := ra) hb8
  obtain ⟨hcl, hsl⟩ := hr.2.2.2.2.2
  have hcl : cells + bc ≤ mc := hcl
  have hsl : slots + bs ≤ ms := hsl
  have k1 := k ad cA H locs ls cells slots (am_Rel.st hr (am_cons (show am_rl (max a b) by unfold am_rl at *; omega) (am_tail (am_tail hr.sk))))
  refine va_mmax_long X.1 X.2.1 (X.2.2.1.trans hr.2.2.2.1.1.symm) X.2.2.2.1 (X.2.2.2.2.1 _ (am_tb hw)) (X.2.2.2.2.1 _ (am_tb am_w_mlS)) (X.2.2.2.2.1 _ (am_tb am_w_mi)) (X.2.2.2.2.1 _ (am_tb am_w_mlC)) (by omega) (by omega) (by omega) (by omega) hd ?_
  have e1 : (if Int64.ofInt b < Int64.ofInt a then Int64.ofInt a else Int64.ofInt b) = Int64.ofInt (max a b) := by
    by_cases q : Int64.ofInt b < Int64.ofInt a
    · rw [if_pos q]
      rw [Int.max_eq_left (Int.le_of_lt ((am_ltl hb ha).mp q))]
    · rw [if_neg q]
      rw [Int.max_eq_right (Int.not_lt.mp (fun z => q ((am_ltl hb ha).mpr z)))]
  rw [e1]
  exact k1
end SO3
