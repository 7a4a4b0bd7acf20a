/-! NUMBERS -/
theorem am_t {x : Int} (h : am_r x) : (Int32.ofInt x).toInt = x := Int32.toInt_ofInt_of_le (by have := h.1; omega) (by have := h.2; omega)
theorem am_tl {x : Int} (h : am_rl x) : (Int64.ofInt x).toInt = x := Int64.toInt_ofInt_of_le (by have := h.1; omega) (by have := h.2; omega)
theorem am_w_r (x : Int) : am_r (am_w x) := by
  have h1 := Int32.le_toInt (Int32.ofInt x)
  have h2 := Int32.toInt_lt (Int32.ofInt x)
  unfold am_w am_r
  omega
theorem am_t_r (x : Int32) : am_r x.toInt := by
  have h1 := Int32.le_toInt x
  have h2 := Int32.toInt_lt x
  unfold am_r
  omega
theorem am_t_rl (x : Int64) : am_rl x.toInt := by
  have h1 := Int64.le_toInt x
  have h2 := Int64.toInt_lt x
  unfold am_rl
  omega
theorem am_w_of (x : Int) : Int32.ofInt (am_w x) = Int32.ofInt x := Int32.ofInt_toInt _
theorem am_wl_of (x : Int) : Int64.ofInt (am_wl x) = Int64.ofInt x := Int64.ofInt_toInt _
theorem am_w_id {x : Int} (h : am_r x) : am_w x = x := am_t h
theorem am_eq {a b : Int} (ha : am_r a) (hb : am_r b) : (Int32.ofInt a = Int32.ofInt b) ↔ a = b := by
  rw [← Int32.toInt_inj, am_t ha, am_t hb]
theorem am_lt {a b : Int} (ha : am_r a) (hb : am_r b) : (Int32.ofInt a < Int32.ofInt b) ↔ a < b := by
  rw [Int32.lt_iff_toInt_lt, am_t ha, am_t hb]
theorem am_le {a b : Int} (ha : am_r a) (hb : am_r b) : (Int32.ofInt a ≤ Int32.ofInt b) ↔ a ≤ b := by
  rw [Int32.le_iff_toInt_le, am_t ha, am_t hb]
theorem am_eql {a b : Int} (ha : am_rl a) (hb : am_rl b) : (Int64.ofInt a = Int64.ofInt b) ↔ a = b := by
  rw [← Int64.toInt_inj, am_tl ha, am_tl hb]
theorem am_ltl {a b : Int} (ha : am_rl a) (hb : am_rl b) : (Int64.ofInt a < Int64.ofInt b) ↔ a < b := by
  rw [Int64.lt_iff_toInt_lt, am_tl ha, am_tl hb]
theorem am_lel {a b : Int} (ha : am_rl a) (hb : am_rl b) : (Int64.ofInt a ≤ Int64.ofInt b) ↔ a ≤ b := by
  rw [Int64.le_iff_toInt_le, am_tl ha, am_tl hb]
theorem am_0 : Int32.ofInt 0 = 0 := by decide
theorem am_r0 : am_r 0 := by unfold am_r; omega
theorem am_divI {a b : Int} (ha : am_r a) (hb : am_r b) : Int32.ofInt a / Int32.ofInt b = Int32.ofInt (a.tdiv b) := by
  apply Int32.toInt_inj.mp
  rw [Int32.toInt_div, am_t ha, am_t hb, Int32.toInt_ofInt]
theorem am_remI {a b : Int} (ha : am_r a) (hb : am_r b) (h0 : ¬ b = 0) : Int32.ofInt a - Int32.ofInt a / Int32.ofInt b * Int32.ofInt b = Int32.ofInt (a.tmod b) := by
  rw [am_divI ha hb, ← Int32.ofInt_mul, ← Int32.ofInt_sub]
  congr 1
  have := Int.tmod_def a b
  rw [this, Int.mul_comm]
theorem am_divL {a b : Int} (ha : am_rl a) (hb : am_rl b) : Int64.ofInt a / Int64.ofInt b = Int64.ofInt (a.tdiv b) := by
  apply Int64.toInt_inj.mp
  rw [Int64.toInt_div, am_tl ha, am_tl hb, Int64.toInt_ofInt]
theorem am_remL {a b : Int} (ha : am_rl a) (hb : am_rl b) : Int64.ofInt a - Int64.ofInt a / Int64.ofInt b * Int64.ofInt b = Int64.ofInt (a.tmod b) := by
  rw [am_divL ha hb, ← Int64.ofInt_mul, ← Int64.ofInt_sub]
  congr 1
  have := Int.tmod_def a b
  rw [this, Int.mul_comm]
theorem am_tdiv {a b : Int} (ha : 0 ≤ a) : a.tdiv b = a / b := Int.tdiv_eq_ediv_of_nonneg ha
theorem am_tmod {a b : Int} (ha : 0 ≤ a) : a.tmod b = a % b := Int.tmod_eq_emod_of_nonneg ha
theorem am_div_r {a b : Int} (h : 0 ≤ a ∧ 0 < b) (ha : am_r a) : am_r (a / b) := by
  have h1 := Int.ediv_nonneg h.1 (Int.le_of_lt h.2)
  have h2 := Int.ediv_le_self b h.1
  unfold am_r at *
  omega
theorem am_div_rl {a b : Int} (h : 0 ≤ a ∧ 0 < b) (ha : am_rl a) : am_rl (a / b) := by
  have h1 := Int.ediv_nonneg h.1 (Int.le_of_lt h.2)
  have h2 := Int.ediv_le_self b h.1
  unfold am_rl at *
  omega
theorem am_mod_r {a b : Int} (h : 0 ≤ a ∧ 0 < b) (hb : am_r b) : am_r (a % b) := by
  have h1 := Int.emod_nonneg a (Int.ne_of_gt h.2)
  have h2 := Int.emod_lt_of_pos a h.2
  unfold am_r at *
  omega
theorem am_mod_rl {a b : Int} (h : 0 ≤ a ∧ 0 < b) (hb : am_rl b) : am_rl (a % b) := by
  have h1 := Int.emod_nonneg a (Int.ne_of_gt h.2)
  have h2 := Int.emod_lt_of_pos a h.2
  unfold am_rl at *
  omega
theorem am_tmod_r {a b : Int} (h : ¬ b = 0) (ha : am_r a) : am_r (a.tmod b) := by
  have h3 : (a.tmod b).natAbs ≤ a.natAbs := by
    rw [Int.natAbs_tmod]
    exact Nat.mod_le _ _
  have h4 : 0 ≤ a → 0 ≤ a.tmod b := fun z => Int.tmod_nonneg b z
  unfold am_r at *
  rcases Int.le_total 0 a with z | z
  · have := h4 z
    omega
  · by_cases e : a.tmod b ≤ 0
    · omega
    · exfalso
      have h5 : (-a).tmod b = -(a.tmod b) := Int.neg_tmod a b
      have h6 := Int.tmod_nonneg b (show 0 ≤ -a by omega)
      omega
/-! LISTS -/
theorem am_nth_eq {α : Type} : ∀ (l : List α) (n : Nat), am_nth l n = l[n]?
  | [], _ => by simp [am_nth]
  | _ :: _, 0 => by simp [am_nth]
  | _ :: l, n + 1 => by simp [am_nth, am_nth_eq l n]
/-! THE TIE -/
def am_c (ad ra : Nat → Nat) : am_V → Value
  | .inl x => .int (Int32.ofInt x)
  | .inr (.inl x) => .long (Int64.ofInt x)
  | .inr (.inr (.inl (x, y))) => .int (lg_cmp (Int64.ofInt x) (Int64.ofInt y))
  | .inr (.inr (.inr (.inl none))) => .null
  | .inr (.inr (.inr (.inl (some k)))) => .ref (ad k)
  | .inr (.inr (.inr (.inr j))) => .ref (ra j)
def am_ok (n : Nat) : am_V → Prop
  | .inl x => am_r x
  | .inr (.inl x) => am_rl x
  | .inr (.inr (.inl (x, y))) => am_rl x ∧ am_rl y
  | .inr (.inr (.inr (.inl none))) => True
  | .inr (.inr (.inr (.inl (some k)))) => k < n
  | .inr (.inr (.inr (.inr _))) => True
def am_fv (ad : Nat → Nat) (I L : Nat → Int → Int) (k j : Nat) : am_F → Value
  | .inl .long => .long (Int64.ofInt (L k j))
  | .inl _ => .int (Int32.ofInt (I k j))
  | .inr none => .null
  | .inr (some r) => .ref (ad r)
def am_ce (ad : Nat → Nat) (cA : Nat → ClassId) (I L : Nat → Int → Int) (k : Nat) : am_K → va_E
  | .inl (.long, n) => .inl (cA k, n.toNat, .inr (.inl (fun j => Int64.ofInt (L k j))))
  | .inl (_, n) => .inl (cA k, n.toNat, .inl (fun j => Int32.ofInt (I k j)))
  | .inr (ci, fs) => .inr (ci, fs.mapIdx (am_fv ad I L k))
def am_ws (ad : Nat → Nat) (cA : Nat → ClassId) (h : am_H) : va_W := h.1.mapIdx (fun k c => (ad k, am_ce ad cA h.2.1 h.2.2 k c))
def am_kd : am_F → Option FieldType
  | .inl t => some t
  | .inr _ => none
/-- the numbers are ints and longs, the cells that fields name are there, lengths are lengths, fields are as the tables have them -/
def am_g (h : am_H) : Prop := (∀ k i, am_r (h.2.1 k i)) ∧ (∀ k i, am_rl (h.2.2 k i)) ∧ (∀ (k ci : Nat) (fs : List am_F), h.1[k]? = some (.inr (ci, fs)) → fs.map am_kd = (am_fs ci).map am_kd ∧ ∀ j r : Nat, fs[j]? = some (.inr (some r)) → r < h.1.length) ∧ (∀ (k : Nat) (ty : FieldType) (n : Int), h.1[k]? = some (.inl (ty, n)) → (0 ≤ n ∧ n < 2147483648) ∧ (ty = .int ∨ ty = .long ∨ ty = .boolean))
def am_Wd (D : va_G) (A : Nat → Prop) (s : State) (H : Heap) (ad : Nat → Nat) (cA : Nat → ClassId) (h : am_H) : Prop :=
  va_P D am_cl (am_ws ad cA h) H ∧ va_D A (am_ws ad cA h) ∧ va_K D am_cl [] s ∧ (∀ (k : Nat) (ty : FieldType) (n : Int), h.1[k]? = some (.inl (ty, n)) → va_K D am_cl [(cA k, ty)] s) ∧ am_g h
def am_wb : List Int32 := [119, 104, 111, 32, 112, 97, 114, 116, 32, 97, 98, 114, 111, 97, 100, 32, 109, 111, 115, 116, 32, 108, 101, 97, 115, 116, 32, 108, 97, 116, 101, 32, 114, 111, 108, 101, 32, 107, 105, 110, 100, 32, 108, 97, 110, 100, 32, 121, 101, 97, 114, 32, 100, 101, 97, 100, 32, 99, 108, 97, 105, 109, 32, 112, 97, 114, 116, 115, 32, 112, 114, 105, 110, 116, 101, 100, 32, 116, 105, 116, 108, 101, 32, 108, 111, 97, 110, 115, 32, 105, 102, 32, 111, 114, 32, 97, 110, 100, 32, 110, 111, 116]
def am_sb : List Int32 := [40, 41, 43, 45, 42, 47, 37, 61, 60, 62]
def am_ro3 : Int × (Int → Int) := (102, fun i => (am_wb.getD i.toNat 0).toInt)
def am_ro4 : Int × (Int → Int) := (10, fun i => (am_sb.getD i.toNat 0).toInt)
def am_Ro (ro : Nat → Int × (Int → Int)) (ra : Nat → Nat) (A : Nat → Prop) (s : State) (H : Heap) : Prop :=
  (∀ j, j < 3 → va_X (ra j) (ro j).1.toNat (fun i => Int32.ofInt ((ro j).2 i)) s H ∧ ¬ A (ra j) ∧ 0 ≤ (ro j).1 ∧ (ro j).1 < 2147483648) ∧ (∀ j i, am_r ((ro j).2 i)) ∧ va_Z "LoanPence" "UNRULED" "[I" (.ref (ra 1)) A s H ∧ va_Z "LoanPence" "KIND_POINTS" "[I" (.ref (ra 2)) A s H ∧ (∃ adV : Nat → Nat, vk_S 2 [102, 10] [am_wb, am_sb] (fun i => ra (3 + i)) adV A s H) ∧ va_Z "java/lang/String" "COMPACT_STRINGS" "Z" (.int 1) A s H ∧ va_Zq "jdk/internal/util/Preconditions" "SIOOBE_FORMATTER" "Ljava/util/function/BiFunction;" A s H ∧ (ro 3 = am_ro3 ∧ ro 4 = am_ro4)
def am_isN : Cond → Bool
  | .fieldLinkNest _ _ _ _ _ _ => true
  | .methodLinkNest _ _ _ _ => true
  | _ => false
/-- what the tables say of nest mates and of the two texts -/
def am_Nw (ra : Nat → Nat) (s : State) : Prop := (∀ w ∈ tables_1, am_isN w = true → va_Nw w s) ∧ vk_R "LoanPence$Reader" 91 "who part abroad most least late role kind land year dead claim parts printed title loans if or and not" (ra 3) s ∧ vk_R "LoanPence$Reader" 84 "()+-*/%=<>" (ra 4) s
theorem am_Nw.warm {ra : Nat → Nat} {s U : State} (hW : s.WarmedH U.vm) (h : am_Nw ra s) : am_Nw ra U := by
  refine ⟨fun w hw hn => ?_, h.2.1.warm hW, h.2.2.warm hW⟩
  have h1 := h.1 w hw hn
  cases w <;> first | exact va_Nw.warmF hW h1 | exact va_Nw.warmM hW h1 | (simp [am_isN] at hn; done)
theorem am_Nw.same {ra : Nat → Nat} {s U : State} (hv : s.vm = U.vm) (h : am_Nw ra s) : am_Nw ra U := by
  refine ⟨fun w hw hn => ?_, vk_R.same hv.symm h.2.1, vk_R.same hv.symm h.2.2⟩
  have h1 := h.1 w hw hn
  cases w <;> first | exact va_Nw.same rfl hv h1 | (simp [am_isN] at hn; done)
def am_Lo (ad ra : Nat → Nat) (n nL : Nat) (lv : List (Option am_V)) (ls : Array Slot) : Prop := ls.size = nL ∧ lv_wf ls ∧ lv.length = nL ∧ ∀ (i : Nat) (v : am_V), lv[i]? = some (some v) → am_ok n v ∧ ls[i]? = some (.val (am_c ad ra v))
def am_Rel (D : va_G) (A : Nat → Prop) (s : State) (ra ad0 : Nat → Nat) (n0 nL mc ms : Nat) (t : am_S) (ad : Nat → Nat) (cA : Nat → ClassId) (H : Heap) (locs : List Loc) (ls : Array Slot) (cells slots : Nat) : Prop :=
  am_Wd D A s H ad cA t.2.2.2.1 ∧ va_S A s.heap H locs ∧ (n0 ≤ t.2.2.2.1.1.length ∧ ∀ k, k < n0 → ad k = ad0 k) ∧ am_Lo ad ra t.2.2.2.1.1.length nL t.2.1 ls ∧ (∀ v ∈ t.2.2.1, am_ok t.2.2.2.1.1.length v) ∧ cells + t.2.2.2.2.1 ≤ mc ∧ slots + t.2.2.2.2.2 ≤ ms
/-- the words of the tables that hold in every state -/
def am_T : List Cond := lw_tbl.filter goodWord
def am_Ctx (p : Program) (R : Room) (s : State) (m : MethodId) (args : Array Value) (meth : Method) (c : Code) (A : Nat → Prop) (ro : Nat → Int × (Int → Int)) (ra : Nat → Nat) (mid d mc ms : Nat) : Prop :=
  p.tables.exec = Jvm.exec ∧ c.code = am_by mid ∧ c.maxLocals = am_mx mid ∧ s.vm.findClass (am_nm mid).cls = some m.cls ∧ (∀ w ∈ am_T, w.before args s = true) ∧ (∀ q, s.heap.size ≤ q → A q) ∧ am_Ro ro ra A s s.heap ∧ (d + 1 ≤ R.frames ∧ 64 * (d + 1) ≤ R.locals) ∧ (mc ≤ R.cells ∧ ms ≤ R.slots) ∧ meth.name = (am_nm mid).name ∧ am_Nw ra s
def am_Wp (p : Program) (l : Launch) (e : Env) (R : Room) (s : State) (m : MethodId) (args : Array Value) (below : List Frame) (meth : Method) (c : Code) (D : va_G) (A : Nat → Prop) (ra ad0 : Nat → Nat) (n0 mid mc ms : Nat) (QF : State → Prop) (t : am_S) : Prop :=
  ∀ (ad : Nat → Nat) (cA : Nat → ClassId) (H : Heap) (locs : List Loc) (ls : Array Slot) (cells slots : Nat), am_Rel D A s ra ad0 n0 (am_mx mid) mc ms t ad cA H locs ls cells slots → W p l e R s m args below meth c H locs cells slots QF (F0 m t.1 ls (t.2.2.1.map (am_c ad ra)))
theorem am_cons {n : Nat} {v : am_V} {st : List am_V} (h1 : am_ok n v) (h2 : ∀ u ∈ st, am_ok n u) : ∀ u ∈ v :: st, am_ok n u := List.forall_mem_cons.mpr ⟨h1, h2⟩
theorem am_hd {n : Nat} {v : am_V} {st : List am_V} (h : ∀ u ∈ v :: st, am_ok n u) : am_ok n v := (List.forall_mem_cons.mp h).1
theorem am_tail {n : Nat} {v : am_V} {st : List am_V} (h : ∀ u ∈ v :: st, am_ok n u) : ∀ u ∈ st, am_ok n u := (List.forall_mem_cons.mp h).2
theorem am_Rel.st {D : va_G} {A : Nat → Prop} {s : State} {ra ad0 : Nat → Nat} {n0 nL mc ms pc pc' : Nat} {lv : List (Option am_V)} {st st' : List am_V} {h : am_H} {bc bs : Nat} {ad : Nat → Nat} {cA : Nat → ClassId} {H : Heap} {locs : List Loc} {ls : Array Slot} {cells slots : Nat}
    (hr : am_Rel D A s ra ad0 n0 nL mc ms (pc, lv, st, h, bc, bs) ad cA H locs ls cells slots) (hs : ∀ v ∈ st', am_ok h.1.length v) : am_Rel D A s ra ad0 n0 nL mc ms (pc', lv, st', h, bc, bs) ad cA H locs ls cells slots := ⟨hr.1, hr.2.1, hr.2.2.1, hr.2.2.2.1, hs, hr.2.2.2.2.2⟩
theorem am_Rel.sk {D : va_G} {A : Nat → Prop} {s : State} {ra ad0 : Nat → Nat} {n0 nL mc ms pc : Nat} {lv : List (Option am_V)} {st : List am_V} {h : am_H} {bc bs : Nat} {ad : Nat → Nat} {cA : Nat → ClassId} {H : Heap} {locs : List Loc} {ls : Array Slot} {cells slots : Nat}
    (hr : am_Rel D A s ra ad0 n0 nL mc ms (pc, lv, st, h, bc, bs) ad cA H locs ls cells slots) : ∀ v ∈ st, am_ok h.1.length v := hr.2.2.2.2.1
/-! LOCALS -/
def am_asc (ad ra : Nat → Nat) (lv : List (Option am_V)) : List (Nat × Value) := lv.zipIdx.filterMap (fun q => q.1.map (fun v => (q.2, am_c ad ra v)))
theorem am_asc_mem {ad ra : Nat → Nat} {lv : List (Option am_V)} {q : Nat × Value} : q ∈ am_asc ad ra lv ↔ ∃ v, lv[q.1]? = some (some v) ∧ q.2 = am_c ad ra v := by
  unfold am_asc
  rw [List.mem_filterMap]
  constructor
  · rintro ⟨⟨o, i⟩, h1, h2⟩
    rw [List.mk_mem_zipIdx_iff_getElem?] at h1
    cases o with
    | none => simp at h2
    | some v =>
      simp only [Option.map_some, Option.some.injEq] at h2
      subst h2
      exact ⟨v, h1, rfl⟩
  · rintro ⟨v, h1, h2⟩
    refine ⟨(some v, q.1), List.mk_mem_zipIdx_iff_getElem?.mpr h1, ?_⟩
    simp only [Option.map_some, Option.some.injEq]
    rw [← h2]
theorem am_Lo.has {ad ra : Nat → Nat} {n nL : Nat} {lv : List (Option am_V)} {ls : Array Slot} (h : am_Lo ad ra n nL lv ls) : lv_has ls nL (am_asc ad ra lv) := by
  refine ⟨h.1, h.2.1, fun q hq => ?_⟩
  obtain ⟨v, h1, h2⟩ := am_asc_mem.mp hq
  rw [h2]
  exact (h.2.2.2 q.1 v h1).2
theorem am_kill_len (lv : List (Option am_V)) (i : Nat) : (am_kill lv i).length = lv.length := by
  cases i with
  | zero => rfl
  | succ j =>
    simp only [am_kill]
    split
    · exact List.length_set
    · rfl
theorem am_c_cat {ad ra : Nat → Nat} {v : am_V} (h : ((am_c ad ra v).category == 2) = true) : ∃ x, v = .inr (.inl x) := by
  rcases v with x | x | ⟨x, y⟩ | (_ | x) | x <;> first | exact ⟨x, rfl⟩ | (simp [am_c, Value.category] at h)
theorem am_kill_at {lv : List (Option am_V)} {i j : Nat} {v : am_V} (h : (am_kill lv i)[j]? = some (some v)) : lv[j]? = some (some v) ∧ (j + 1 = i → ∀ x, v ≠ .inr (.inl x)) := by
  cases i with
  | zero => exact ⟨h, fun z => by omega⟩
  | succ k =>
    simp only [am_kill, am_nth_eq] at h
    split at h
    · rename_i x hx
      by_cases e : j = k
      · subst e
        rw [List.getElem?_set_self (List.getElem?_eq_some_iff.mp hx).1] at h
        cases h
      · rw [List.getElem?_set_ne (Ne.symm e)] at h
        exact ⟨h, fun z => by omega⟩
    · rename_i hx
      refine ⟨h, fun z x hv => ?_⟩
      have e : j = k := by omega
      subst e
      subst hv
      exact hx x h
theorem am_Lo.st1 {ad ra : Nat → Nat} {n nL i : Nat} {lv : List (Option am_V)} {ls ls' : Array Slot} {v : am_V} {w : Value} (h : am_Lo ad ra n nL lv ls) (hv : am_ok n v) (hw : w = am_c ad ra v)
    (h' : lv_has ls' nL ((i, w) :: (am_asc ad ra lv).filter (fun q => !(q.1 == i) && !(q.1 + 1 == i && q.2.category == 2)))) : am_Lo ad ra n nL (am_st1 lv i v) ls' := by
  refine ⟨h'.1, h'.2.1, by unfold am_st1; rw [List.length_set, am_kill_len]; exact h.2.2.1, fun j u hu => ?_⟩
  unfold am_st1 at hu
  by_cases e : j = i
  · subst e
    have hl : j < (am_kill lv j).length := by
      have := (List.getElem?_eq_some_iff.mp hu).1
      rwa [List.length_set] at this
    rw [List.getElem?_set_self hl] at hu
    cases hu
    refine ⟨hv, ?_⟩
    rw [← hw]
    exact h'.2.2 (j, w) List.mem_cons_self
  · rw [List.getElem?_set_ne (Ne.symm e)] at hu
    obtain ⟨h1, h2⟩ := am_kill_at hu
    refine ⟨(h.2.2.2 j u h1).1, ?_⟩
    refine h'.2.2 (j, am_c ad ra u) (List.mem_cons_of_mem _ (List.mem_filter.mpr ⟨am_asc_mem.mpr ⟨u, h1, rfl⟩, ?_⟩))
    simp only [Bool.and_eq_true, Bool.not_eq_true', beq_eq_false_iff_ne, Bool.and_eq_false_iff]
    refine ⟨e, ?_⟩
    by_cases e2 : j + 1 = i
    · right
      cases hc : ((am_c ad ra u).category == 2) with
      | false => simpa using hc
      | true =>
        obtain ⟨x, hx⟩ := am_c_cat hc
        exact absurd hx (h2 e2 x)
    · left; exact e2
theorem am_Lo.st2 {ad ra : Nat → Nat} {n nL i : Nat} {lv : List (Option am_V)} {ls ls' : Array Slot} {v : am_V} {w : Value} (h : am_Lo ad ra n nL lv ls) (hv : am_ok n v) (hw : w = am_c ad ra v)
    (h' : lv_has ls' nL ((i, w) :: (am_asc ad ra lv).filter (fun q => !(q.1 == i) && (!(q.1 == i + 1) && !(q.1 + 1 == i && q.2.category == 2))))) : am_Lo ad ra n nL (am_st2 lv i v) ls' := by
  refine ⟨h'.1, h'.2.1, by unfold am_st2; rw [List.length_set, List.length_set, am_kill_len]; exact h.2.2.1, fun j u hu => ?_⟩
  unfold am_st2 at hu
  by_cases e1 : j = i + 1
  · subst e1
    have hl : i + 1 < ((am_kill lv i).set i (some v)).length := by
      have := (List.getElem?_eq_some_iff.mp hu).1
      rwa [List.length_set] at this
    rw [List.getElem?_set_self hl] at hu
    cases hu
  · rw [List.getElem?_set_ne (Ne.symm e1)] at hu
    by_cases e : j = i
    · subst e
      have hl : j < (am_kill lv j).length := by
        have := (List.getElem?_eq_some_iff.mp hu).1
        rwa [List.length_set] at this
      rw [List.getElem?_set_self hl] at hu
      cases hu
      refine ⟨hv, ?_⟩
      rw [← hw]
      exact h'.2.2 (j, w) List.mem_cons_self
    · rw [List.getElem?_set_ne (Ne.symm e)] at hu
      obtain ⟨h1, h2⟩ := am_kill_at hu
      refine ⟨(h.2.2.2 j u h1).1, ?_⟩
      refine h'.2.2 (j, am_c ad ra u) (List.mem_cons_of_mem _ (List.mem_filter.mpr ⟨am_asc_mem.mpr ⟨u, h1, rfl⟩, ?_⟩))
      simp only [Bool.and_eq_true, Bool.not_eq_true', beq_eq_false_iff_ne, Bool.and_eq_false_iff]
      refine ⟨e, e1, ?_⟩
      by_cases e2 : j + 1 = i
      · right
        cases hc : ((am_c ad ra u).category == 2) with
        | false => simpa using hc
        | true =>
          obtain ⟨x, hx⟩ := am_c_cat hc
          exact absurd hx (h2 e2 x)
      · left; exact e2
section SO1
variable {p : Program} {l : Launch} {e : Env} {R : Room} {s : State} {m : MethodId} {args : Array Value} {below : List Frame} {meth : Method} {c : Code} {D : va_G} {A : Nat → Prop} {ro : Nat → Int × (Int → Int)} {ra ad0 : Nat → Nat} {n0 mid d mc ms : Nat} {QF : State → Prop}
variable {pc : Nat} {lv : List (Option am_V)} {st : List am_V} {h : am_H} {bc bs : Nat}
theorem am_s_iconst {x : Int} (X : am_Ctx p R s m args meth c A ro ra mid d mc ms) (hd : decode (am_by mid) pc = .ok (.iconst x, 1)) (hq : am_r x) (k : am_Wp p l e R s m args below meth c D A ra ad0 n0 mid mc ms QF (pc + 1, lv, am_I x :: st, h, bc, bs)) : am_Wp p l e R s m args below meth c D A ra ad0 n0 mid mc ms QF (pc, lv, st, h, bc, bs) := by
  intro ad cA H locs ls cells slots hr
  refine lv_iconst X.1 X.2.1 hd rfl ?_
  exact k ad cA H locs ls cells slots (am_Rel.st hr (am_cons hq hr.sk))
theorem am_s_bipush {x : Int} (X : am_Ctx p R s m args meth c A ro ra mid d mc ms) (hd : decode (am_by mid) pc = .ok (.bipush x, 2)) (hq : am_r x) (hv : (Int8.ofInt x).toInt32 = Int32.ofInt x) (k : am_Wp p l e R s m args below meth c D A ra ad0 n0 mid mc ms QF (pc + 2, lv, am_I x :: st, h, bc, bs)) : am_Wp p l e R s m args below meth c D A ra ad0 n0 mid mc ms QF (pc, lv, st, h, bc, bs) := by
  intro ad cA H locs ls cells slots hr
  refine lv_bipush X.1 X.2.1 hd hv ?_
  exact k ad cA H locs ls cells slots (am_Rel.st hr (am_cons hq hr.sk))
theorem am_s_sipush {x : Int} (X : am_Ctx p R s m args meth c A ro ra mid d mc ms) (hd : decode (am_by mid) pc = .ok (.sipush x, 3)) (hq : am_r x) (hv : (Int16.ofInt x).toInt32 = Int32.ofInt x) (k : am_Wp p l e R s m args below meth c D A ra ad0 n0 mid mc ms QF (pc + 3, lv, am_I x :: st, h, bc, bs)) : am_Wp p l e R s m args below meth c D A ra ad0 n0 mid mc ms QF (pc, lv, st, h, bc, bs) := by
  intro ad cA H locs ls cells slots hr
  refine lv_sipush X.1 X.2.1 hd hv ?_
  exact k ad cA H locs ls cells slots (am_Rel.st hr (am_cons hq hr.sk))
theorem am_s_lconst {x : Int} {y : Fin 2} (X : am_Ctx p R s m args meth c A ro ra mid d mc ms) (hd : decode (am_by mid) pc = .ok (.lconst y, 1)) (hq : am_rl x) (hv : Int64.ofNat y.val = Int64.ofInt x) (k : am_Wp p l e R s m args below meth c D A ra ad0 n0 mid mc ms QF (pc + 1, lv, am_L x :: st, h, bc, bs)) : am_Wp p l e R s m args below meth c D A ra ad0 n0 mid mc ms QF (pc, lv, st, h, bc, bs) := by
  intro ad cA H locs ls cells slots hr
  refine lv_lconst X.1 X.2.1 hd hv ?_
  exact k ad cA H locs ls cells slots (am_Rel.st hr (am_cons hq hr.sk))
theorem am_s_ldc {x : Int} {i : Nat} (X : am_Ctx p R s m args meth c A ro ra mid d mc ms) (hd : decode (am_by mid) pc = .ok (.ldc i, 2)) (hq : am_r x) (hw : (Jvm.Cond.constant (am_nm mid).cls i (Int32.ofInt x)).before args s = true) (k : am_Wp p l e R s m args below meth c D A ra ad0 n0 mid mc ms QF (pc + 2, lv, am_I x :: st, h, bc, bs)) : am_Wp p l e R s m args below meth c D A ra ad0 n0 mid mc ms QF (pc, lv, st, h, bc, bs) := by
  intro ad cA H locs ls cells slots hr
  refine lv_ldc X.1 X.2.1 X.2.2.2.1 hw hd ?_
  exact k ad cA H locs ls cells slots (am_Rel.st hr (am_cons hq hr.sk))
theorem am_s_ldcw {x : Int} {i : Nat} (X : am_Ctx p R s m args meth c A ro ra mid d mc ms) (hd : decode (am_by mid) pc = .ok (.ldc_w i, 3)) (hq : am_r x) (hw : (Jvm.Cond.constant (am_nm mid).cls i (Int32.ofInt x)).before args s = true) (k : am_Wp p l e R s m args below meth c D A ra ad0 n0 mid mc ms QF (pc + 3, lv, am_I x :: st, h, bc, bs)) : am_Wp p l e R s m args below meth c D A ra ad0 n0 mid mc ms QF (pc, lv, st, h, bc, bs) := by
  intro ad cA H locs ls cells slots hr
  refine lv_ldcw X.1 X.2.1 X.2.2.2.1 hw hd ?_
  exact k ad cA H locs ls cells slots (am_Rel.st hr (am_cons hq hr.sk))
theorem am_s_ldc2 {x : Int} {i : Nat} (X : am_Ctx p R s m args meth c A ro ra mid d mc ms) (hd : decode (am_by mid) pc = .ok (.ldc2_w i, 3)) (hq : am_rl x) (hw : (Jvm.Cond.constantLong (am_nm mid).cls i (Int64.ofInt x)).before args s = true) (k : am_Wp p l e R s m args below meth c D A ra ad0 n0 mid mc ms QF (pc + 3, lv, am_L x :: st, h, bc, bs)) : am_Wp p l e R s m args below meth c D A ra ad0 n0 mid mc ms QF (pc, lv, st, h, bc, bs) := by
  intro ad cA H locs ls cells slots hr
  refine lv_ldc2 X.1 X.2.1 X.2.2.2.1 hw hd ?_
  exact k ad cA H locs ls cells slots (am_Rel.st hr (am_cons hq hr.sk))
theorem am_s_null  (X : am_Ctx p R s m args meth c A ro ra mid d mc ms) (hd : decode (am_by mid) pc = .ok (.aconst_null, 1))  (k : am_Wp p l e R s m args below meth c D A ra ad0 n0 mid mc ms QF (pc + 1, lv, am_N :: st, h, bc, bs)) : am_Wp p l e R s m args below meth c D A ra ad0 n0 mid mc ms QF (pc, lv, st, h, bc, bs) := by
  intro ad cA H locs ls cells slots hr
  refine lv_null X.1 X.2.1 hd ?_
  exact k ad cA H locs ls cells slots (am_Rel.st hr (am_cons trivial hr.sk))
theorem am_s_iload {x : Int} {i : Nat} (X : am_Ctx p R s m args meth c A ro ra mid d mc ms) (hd : decode (am_by mid) pc = .ok (.iload i, 2)) (hq : lv[i]? = some (some (am_I x))) (k : am_Wp p l e R s m args below meth c D A ra ad0 n0 mid mc ms QF (pc + 2, lv, am_I x :: st, h, bc, bs)) : am_Wp p l e R s m args below meth c D A ra ad0 n0 mid mc ms QF (pc, lv, st, h, bc, bs) := by
  intro ad cA H locs ls cells slots hr
  refine lv_iload X.1 X.2.1 hd (hr.2.2.2.1.2.2.2 i _ hq).2 ?_
  exact k ad cA H locs ls cells slots (am_Rel.st hr (am_cons (hr.2.2.2.1.2.2.2 i _ hq).1 hr.sk))
theorem am_s_iload_n {x : Int} {i : Fin 4} (X : am_Ctx p R s m args meth c A ro ra mid d mc ms) (hd : decode (am_by mid) pc = .ok (.iload_n i, 1)) (hq : lv[i.val]? = some (some (am_I x))) (k : am_Wp p l e R s m args below meth c D A ra ad0 n0 mid mc ms QF (pc + 1, lv, am_I x :: st, h, bc, bs)) : am_Wp p l e R s m args below meth c D A ra ad0 n0 mid mc ms QF (pc, lv, st, h, bc, bs) := by
  intro ad cA H locs ls cells slots hr
  refine lv_iload_n X.1 X.2.1 hd rfl (hr.2.2.2.1.2.2.2 i.val _ hq).2 ?_
  exact k ad cA H locs ls cells slots (am_Rel.st hr (am_cons (hr.2.2.2.1.2.2.2 i.val _ hq).1 hr.sk))
theorem am_s_lload {x : Int} {i : Nat} (X : am_Ctx p R s m args meth c A ro ra mid d mc ms) (hd : decode (am_by mid) pc = .ok (.lload i, 2)) (hq : lv[i]? = some (some (am_L x))) (k : am_Wp p l e R s m args below meth c D A ra ad0 n0 mid mc ms QF (pc + 2, lv, am_L x :: st, h, bc, bs)) : am_Wp p l e R s m args below meth c D A ra ad0 n0 mid mc ms QF (pc, lv, st, h, bc, bs) := by
  intro ad cA H locs ls cells slots hr
  refine lv_lload X.1 X.2.1 hd (hr.2.2.2.1.2.2.2 i _ hq).2 ?_
  exact k ad cA H locs ls cells slots (am_Rel.st hr (am_cons (hr.2.2.2.1.2.2.2 i _ hq).1 hr.sk))
theorem am_s_lload_n {x : Int} {i : Fin 4} (X : am_Ctx p R s m args meth c A ro ra mid d mc ms) (hd : decode (am_by mid) pc = .ok (.lload_n i, 1)) (hq : lv[i.val]? = some (some (am_L x))) (k : am_Wp p l e R s m args below meth c D A ra ad0 n0 mid mc ms QF (pc + 1, lv, am_L x :: st, h, bc, bs)) : am_Wp p l e R s m args below meth c D A ra ad0 n0 mid mc ms QF (pc, lv, st, h, bc, bs) := by
  intro ad cA H locs ls cells slots hr
  refine lv_lload_n X.1 X.2.1 hd rfl (hr.2.2.2.1.2.2.2 i.val _ hq).2 ?_
  exact k ad cA H locs ls cells slots (am_Rel.st hr (am_cons (hr.2.2.2.1.2.2.2 i.val _ hq).1 hr.sk))
theorem am_s_aload {x : Nat} {i : Nat} (X : am_Ctx p R s m args meth c A ro ra mid d mc ms) (hd : decode (am_by mid) pc = .ok (.aload i, 2)) (hq : lv[i]? = some (some (am_R x))) (k : am_Wp p l e R s m args below meth c D A ra ad0 n0 mid mc ms QF (pc + 2, lv, am_R x :: st, h, bc, bs)) : am_Wp p l e R s m args below meth c D A ra ad0 n0 mid mc ms QF (pc, lv, st, h, bc, bs) := by
  intro ad cA H locs ls cells slots hr
  refine lv_aload X.1 X.2.1 hd (hr.2.2.2.1.2.2.2 i _ hq).2 ?_
  exact k ad cA H locs ls cells slots (am_Rel.st hr (am_cons (hr.2.2.2.1.2.2.2 i _ hq).1 hr.sk))
theorem am_s_aload_n {x : Nat} {i : Fin 4} (X : am_Ctx p R s m args meth c A ro ra mid d mc ms) (hd : decode (am_by mid) pc = .ok (.aload_n i, 1)) (hq : lv[i.val]? = some (some (am_R x))) (k : am_Wp p l e R s m args below meth c D A ra ad0 n0 mid mc ms QF (pc + 1, lv, am_R x :: st, h, bc, bs)) : am_Wp p l e R s m args below meth c D A ra ad0 n0 mid mc ms QF (pc, lv, st, h, bc, bs) := by
  intro ad cA H locs ls cells slots hr
  refine lv_aload_n X.1 X.2.1 hd rfl (hr.2.2.2.1.2.2.2 i.val _ hq).2 ?_
  exact k ad cA H locs ls cells slots (am_Rel.st hr (am_cons (hr.2.2.2.1.2.2.2 i.val _ hq).1 hr.sk))
theorem am_s_aloadO {x : Nat} {i : Nat} (X : am_Ctx p R s m args meth c A ro ra mid d mc ms) (hd : decode (am_by mid) pc = .ok (.aload i, 2)) (hq : lv[i]? = some (some (am_O x))) (k : am_Wp p l e R s m args below meth c D A ra ad0 n0 mid mc ms QF (pc + 2, lv, am_O x :: st, h, bc, bs)) : am_Wp p l e R s m args below meth c D A ra ad0 n0 mid mc ms QF (pc, lv, st, h, bc, bs) := by
  intro ad cA H locs ls cells slots hr
  refine lv_aload X.1 X.2.1 hd (hr.2.2.2.1.2.2.2 i _ hq).2 ?_
  exact k ad cA H locs ls cells slots (am_Rel.st hr (am_cons (hr.2.2.2.1.2.2.2 i _ hq).1 hr.sk))
theorem am_s_aload_nO {x : Nat} {i : Fin 4} (X : am_Ctx p R s m args meth c A ro ra mid d mc ms) (hd : decode (am_by mid) pc = .ok (.aload_n i, 1)) (hq : lv[i.val]? = some (some (am_O x))) (k : am_Wp p l e R s m args below meth c D A ra ad0 n0 mid mc ms QF (pc + 1, lv, am_O x :: st, h, bc, bs)) : am_Wp p l e R s m args below meth c D A ra ad0 n0 mid mc ms QF (pc, lv, st, h, bc, bs) := by
  intro ad cA H locs ls cells slots hr
  refine lv_aload_n X.1 X.2.1 hd rfl (hr.2.2.2.1.2.2.2 i.val _ hq).2 ?_
  exact k ad cA H locs ls cells slots (am_Rel.st hr (am_cons (hr.2.2.2.1.2.2.2 i.val _ hq).1 hr.sk))
theorem am_s_istore {x : Int} {i : Nat} (X : am_Ctx p R s m args meth c A ro ra mid d mc ms) (hd : decode (am_by mid) pc = .ok (.istore i, 2)) (hi : i < am_mx mid) (k : am_Wp p l e R s m args below meth c D A ra ad0 n0 mid mc ms QF (pc + 2, am_st1 lv i (am_I x), st, h, bc, bs)) : am_Wp p l e R s m args below meth c D A ra ad0 n0 mid mc ms QF (pc, lv, am_I x :: st, h, bc, bs) := by
  intro ad cA H locs ls cells slots hr
  refine lv_istore X.1 X.2.1 hd hr.2.2.2.1.has hi rfl (fun ls' hl => ?_)
  exact k ad cA H locs ls' cells slots ⟨hr.1, hr.2.1, hr.2.2.1, am_Lo.st1 hr.2.2.2.1 (am_hd hr.sk) rfl hl, am_tail hr.sk, hr.2.2.2.2.2⟩
theorem am_s_istore_n {x : Int} {i : Fin 4} (X : am_Ctx p R s m args meth c A ro ra mid d mc ms) (hd : decode (am_by mid) pc = .ok (.istore_n i, 1)) (hi : i.val < am_mx mid) (k : am_Wp p l e R s m args below meth c D A ra ad0 n0 mid mc ms QF (pc + 1, am_st1 lv i.val (am_I x), st, h, bc, bs)) : am_Wp p l e R s m args below meth c D A ra ad0 n0 mid mc ms QF (pc, lv, am_I x :: st, h, bc, bs) := by
  intro ad cA H locs ls cells slots hr
  refine lv_istore_n X.1 X.2.1 hd rfl hr.2.2.2.1.has hi rfl (fun ls' hl => ?_)
  exact k ad cA H locs ls' cells slots ⟨hr.1, hr.2.1, hr.2.2.1, am_Lo.st1 hr.2.2.2.1 (am_hd hr.sk) rfl hl, am_tail hr.sk, hr.2.2.2.2.2⟩
theorem am_s_lstore {x : Int} {i : Nat} (X : am_Ctx p R s m args meth c A ro ra mid d mc ms) (hd : decode (am_by mid) pc = .ok (.lstore i, 2)) (hi : i + 1 < am_mx mid) (k : am_Wp p l e R s m args below meth c D A ra ad0 n0 mid mc ms QF (pc + 2, am_st2 lv i (am_L x), st, h, bc, bs)) : am_Wp p l e R s m args below meth c D A ra ad0 n0 mid mc ms QF (pc, lv, am_L x :: st, h, bc, bs) := by
  intro ad cA H locs ls cells slots hr
  refine lv_lstore X.1 X.2.1 hd hr.2.2.2.1.has hi rfl (fun ls' hl => ?_)
  exact k ad cA H locs ls' cells slots ⟨hr.1, hr.2.1, hr.2.2.1, am_Lo.st2 hr.2.2.2.1 (am_hd hr.sk) rfl hl, am_tail hr.sk, hr.2.2.2.2.2⟩
theorem am_s_lstore_n {x : Int} {i : Fin 4} (X : am_Ctx p R s m args meth c A ro ra mid d mc ms) (hd : decode (am_by mid) pc = .ok (.lstore_n i, 1)) (hi : i.val + 1 < am_mx mid) (k : am_Wp p l e R s m args below meth c D A ra ad0 n0 mid mc ms QF (pc + 1, am_st2 lv i.val (am_L x), st, h, bc, bs)) : am_Wp p l e R s m args below meth c D A ra ad0 n0 mid mc ms QF (pc, lv, am_L x :: st, h, bc, bs) := by
  intro ad cA H locs ls cells slots hr
  refine lv_lstore_n X.1 X.2.1 hd rfl hr.2.2.2.1.has hi rfl (fun ls' hl => ?_)
  exact k ad cA H locs ls' cells slots ⟨hr.1, hr.2.1, hr.2.2.1, am_Lo.st2 hr.2.2.2.1 (am_hd hr.sk) rfl hl, am_tail hr.sk, hr.2.2.2.2.2⟩
theorem am_s_astore {x : Nat} {i : Nat} (X : am_Ctx p R s m args meth c A ro ra mid d mc ms) (hd : decode (am_by mid) pc = .ok (.astore i, 2)) (hi : i < am_mx mid) (k : am_Wp p l e R s m args below meth c D A ra ad0 n0 mid mc ms QF (pc + 2, am_st1 lv i (am_R x), st, h, bc, bs)) : am_Wp p l e R s m args below meth c D A ra ad0 n0 mid mc ms QF (pc, lv, am_R x :: st, h, bc, bs) := by
  intro ad cA H locs ls cells slots hr
  refine lv_astore X.1 X.2.1 hd hr.2.2.2.1.has hi rfl (fun ls' hl => ?_)
  exact k ad cA H locs ls' cells slots ⟨hr.1, hr.2.1, hr.2.2.1, am_Lo.st1 hr.2.2.2.1 (am_hd hr.sk) rfl hl, am_tail hr.sk, hr.2.2.2.2.2⟩
theorem am_s_astore_n {x : Nat} {i : Fin 4} (X : am_Ctx p R s m args meth c A ro ra mid d mc ms) (hd : decode (am_by mid) pc = .ok (.astore_n i, 1)) (hi : i.val < am_mx mid) (k : am_Wp p l e R s m args below meth c D A ra ad0 n0 mid mc ms QF (pc + 1, am_st1 lv i.val (am_R x), st, h, bc, bs)) : am_Wp p l e R s m args below meth c D A ra ad0 n0 mid mc ms QF (pc, lv, am_R x :: st, h, bc, bs) := by
  intro ad cA H locs ls cells slots hr
  refine lv_astore_n X.1 X.2.1 hd rfl hr.2.2.2.1.has hi rfl (fun ls' hl => ?_)
  exact k ad cA H locs ls' cells slots ⟨hr.1, hr.2.1, hr.2.2.1, am_Lo.st1 hr.2.2.2.1 (am_hd hr.sk) rfl hl, am_tail hr.sk, hr.2.2.2.2.2⟩
theorem am_s_iinc {x n v : Int} {i : Nat} (X : am_Ctx p R s m args meth c A ro ra mid d mc ms) (hd : decode (am_by mid) pc = .ok (.iinc i n, 3)) (hi : i < am_mx mid) (hq : lv[i]? = some (some (am_I x))) (hv : Int32.ofInt v = Int32.ofInt (x + n)) (hvr : am_r v) (k : am_Wp p l e R s m args below meth c D A ra ad0 n0 mid mc ms QF (pc + 3, am_st1 lv i (am_I v), st, h, bc, bs)) : am_Wp p l e R s m args below meth c D A ra ad0 n0 mid mc ms QF (pc, lv, st, h, bc, bs) := by
  intro ad cA H locs ls cells slots hr
  obtain ⟨j, hj⟩ := List.getElem?_of_mem (am_asc_mem.mpr ⟨am_I x, hq, rfl⟩ : (i, am_c ad ra (am_I x)) ∈ am_asc ad ra lv)
  refine lv_iinc (v := Int32.ofInt v) X.1 X.2.1 hd hr.2.2.2.1.has (k := j) hj (by rw [hv, Int32.ofInt_add]) hi rfl (fun ls' hl => ?_)
  exact k ad cA H locs ls' cells slots ⟨hr.1, hr.2.1, hr.2.2.1, am_Lo.st1 hr.2.2.2.1 hvr rfl hl, hr.sk, hr.2.2.2.2.2⟩
theorem am_s_iadd {a b v : Int} (X : am_Ctx p R s m args meth c A ro ra mid d mc ms) (hd : decode (am_by mid) pc = .ok (.iadd, 1)) (hv : am_r a → am_r b → Int32.ofInt v = Int32.ofInt a + Int32.ofInt b) (hvr : am_r a → am_r b → am_r v) (k : am_Wp p l e R s m args below meth c D A ra ad0 n0 mid mc ms QF (pc + 1, lv, am_I v :: st, h, bc, bs)) : am_Wp p l e R s m args below meth c D A ra ad0 n0 mid mc ms QF (pc, lv, am_I b :: am_I a :: st, h, bc, bs) := by
  intro ad cA H locs ls cells slots hr
  have hb : am_r b := am_hd hr.sk
  have ha : am_r a := am_hd (am_tail hr.sk)
  refine lv_iadd X.1 X.2.1 hd ?_
  have e1 := hv ha hb
  have k1 := k ad cA H locs ls cells slots (am_Rel.st hr (am_cons (hvr ha hb) (am_tail (am_tail hr.sk))))
  rw [← e1]
  exact k1
theorem am_s_isub {a b v : Int} (X : am_Ctx p R s m args meth c A ro ra mid d mc ms) (hd : decode (am_by mid) pc = .ok (.isub, 1)) (hv : am_r a → am_r b → Int32.ofInt v = Int32.ofInt a - Int32.ofInt b) (hvr : am_r a → am_r b → am_r v) (k : am_Wp p l e R s m args below meth c D A ra ad0 n0 mid mc ms QF (pc + 1, lv, am_I v :: st, h, bc, bs)) : am_Wp p l e R s m args below meth c D A ra ad0 n0 mid mc ms QF (pc, lv, am_I b :: am_I a :: st, h, bc, bs) := by
  intro ad cA H locs ls cells slots hr
  have hb : am_r b := am_hd hr.sk
  have ha : am_r a := am_hd (am_tail hr.sk)
  refine lv_isub X.1 X.2.1 hd ?_
  have e1 := hv ha hb
  have k1 := k ad cA H locs ls cells slots (am_Rel.st hr (am_cons (hvr ha hb) (am_tail (am_tail hr.sk))))
  rw [← e1]
  exact k1
theorem am_s_imul {a b v : Int} (X : am_Ctx p R s m args meth c A ro ra mid d mc ms) (hd : decode (am_by mid) pc = .ok (.imul, 1)) (hv : am_r a → am_r b → Int32.ofInt v = Int32.ofInt a * Int32.ofInt b) (hvr : am_r a → am_r b → am_r v) (k : am_Wp p l e R s m args below meth c D A ra ad0 n0 mid mc ms QF (pc + 1, lv, am_I v :: st, h, bc, bs)) : am_Wp p l e R s m args below meth c D A ra ad0 n0 mid mc ms QF (pc, lv, am_I b :: am_I a :: st, h, bc, bs) := by
  intro ad cA H locs ls cells slots hr
  have hb : am_r b := am_hd hr.sk
  have ha : am_r a := am_hd (am_tail hr.sk)
  refine lv_imul X.1 X.2.1 hd ?_
  have e1 := hv ha hb
  have k1 := k ad cA H locs ls cells slots (am_Rel.st hr (am_cons (hvr ha hb) (am_tail (am_tail hr.sk))))
  rw [← e1]
  exact k1
theorem am_s_idiv {a b v : Int} (X : am_Ctx p R s m args meth c A ro ra mid d mc ms) (hd : decode (am_by mid) pc = .ok (.idiv, 1)) (hne : ¬ b = 0) (hv : am_r a → am_r b → Int32.ofInt v = Int32.ofInt a / Int32.ofInt b) (hvr : am_r a → am_r b → am_r v) (k : am_Wp p l e R s m args below meth c D A ra ad0 n0 mid mc ms QF (pc + 1, lv, am_I v :: st, h, bc, bs)) : am_Wp p l e R s m args below meth c D A ra ad0 n0 mid mc ms QF (pc, lv, am_I b :: am_I a :: st, h, bc, bs) := by
  intro ad cA H locs ls cells slots hr
  have hb : am_r b := am_hd hr.sk
  have ha : am_r a := am_hd (am_tail hr.sk)
  have hz : ¬ Int32.ofInt b = 0 := fun z => hne ((am_eq hb (by decide)).mp (z.trans (by decide)))
  refine lv_idiv X.1 X.2.1 hd hz ?_
  have e1 := hv ha hb
  have k1 := k ad cA H locs ls cells slots (am_Rel.st hr (am_cons (hvr ha hb) (am_tail (am_tail hr.sk))))
  rw [← e1]
  exact k1
theorem am_s_irem {a b v : Int} (X : am_Ctx p R s m args meth c A ro ra mid d mc ms) (hd : decode (am_by mid) pc = .ok (.irem, 1)) (hne : ¬ b = 0) (hv : am_r a → am_r b → Int32.ofInt v = Int32.ofInt a - Int32.ofInt a / Int32.ofInt b * Int32.ofInt b) (hvr : am_r a → am_r b → am_r v) (k : am_Wp p l e R s m args below meth c D A ra ad0 n0 mid mc ms QF (pc + 1, lv, am_I v :: st, h, bc, bs)) : am_Wp p l e R s m args below meth c D A ra ad0 n0 mid mc ms QF (pc, lv, am_I b :: am_I a :: st, h, bc, bs) := by
  intro ad cA H locs ls cells slots hr
  have hb : am_r b := am_hd hr.sk
  have ha : am_r a := am_hd (am_tail hr.sk)
  have hz : ¬ Int32.ofInt b = 0 := fun z => hne ((am_eq hb (by decide)).mp (z.trans (by decide)))
  refine lv_irem X.1 X.2.1 hd hz ?_
  have e1 := hv ha hb
  have k1 := k ad cA H locs ls cells slots (am_Rel.st hr (am_cons (hvr ha hb) (am_tail (am_tail hr.sk))))
  rw [← e1]
  exact k1
theorem am_s_iand {a b v : Int} (X : am_Ctx p R s m args meth c A ro ra mid d mc ms) (hd : decode (am_by mid) pc = .ok (.iand, 1)) (hv : am_r a → am_r b → Int32.ofInt v = Int32.ofInt a &&& Int32.ofInt b) (hvr : am_r a → am_r b → am_r v) (k : am_Wp p l e R s m args below meth c D A ra ad0 n0 mid mc ms QF (pc + 1, lv, am_I v :: st, h, bc, bs)) : am_Wp p l e R s m args below meth c D A ra ad0 n0 mid mc ms QF (pc, lv, am_I b :: am_I a :: st, h, bc, bs) := by
  intro ad cA H locs ls cells slots hr
  have hb : am_r b := am_hd hr.sk
  have ha : am_r a := am_hd (am_tail hr.sk)
  refine lv_iand X.1 X.2.1 hd ?_
  have e1 := hv ha hb
  have k1 := k ad cA H locs ls cells slots (am_Rel.st hr (am_cons (hvr ha hb) (am_tail (am_tail hr.sk))))
  rw [← e1]
  exact k1
theorem am_s_ior {a b v : Int} (X : am_Ctx p R s m args meth c A ro ra mid d mc ms) (hd : decode (am_by mid) pc = .ok (.ior, 1)) (hv : am_r a → am_r b → Int32.ofInt v = Int32.ofInt a ||| Int32.ofInt b) (hvr : am_r a → am_r b → am_r v) (k : am_Wp p l e R s m args below meth c D A ra ad0 n0 mid mc ms QF (pc + 1, lv, am_I v :: st, h, bc, bs)) : am_Wp p l e R s m args below meth c D A ra ad0 n0 mid mc ms QF (pc, lv, am_I b :: am_I a :: st, h, bc, bs) := by
  intro ad cA H locs ls cells slots hr
  have hb : am_r b := am_hd hr.sk
  have ha : am_r a := am_hd (am_tail hr.sk)
  refine lv_ior X.1 X.2.1 hd ?_
  have e1 := hv ha hb
  have k1 := k ad cA H locs ls cells slots (am_Rel.st hr (am_cons (hvr ha hb) (am_tail (am_tail hr.sk))))
  rw [← e1]
  exact k1
theorem am_s_ixor {a b v : Int} (X : am_Ctx p R s m args meth c A ro ra mid d mc ms) (hd : decode (am_by mid) pc = .ok (.ixor, 1)) (hv : am_r a → am_r b → Int32.ofInt v = Int32.ofInt a ^^^ Int32.ofInt b) (hvr : am_r a → am_r b → am_r v) (k : am_Wp p l e R s m args below meth c D A ra ad0 n0 mid mc ms QF (pc + 1, lv, am_I v :: st, h, bc, bs)) : am_Wp p l e R s m args below meth c D A ra ad0 n0 mid mc ms QF (pc, lv, am_I b :: am_I a :: st, h, bc, bs) := by
  intro ad cA H locs ls cells slots hr
  have hb : am_r b := am_hd hr.sk
  have ha : am_r a := am_hd (am_tail hr.sk)
  refine lv_ixor X.1 X.2.1 hd ?_
  have e1 := hv ha hb
  have k1 := k ad cA H locs ls cells slots (am_Rel.st hr (am_cons (hvr ha hb) (am_tail (am_tail hr.sk))))
  rw [← e1]
  exact k1
theorem am_s_ishl {a b v : Int} (X : am_Ctx p R s m args meth c A ro ra mid d mc ms) (hd : decode (am_by mid) pc = .ok (.ishl, 1)) (hv : am_r a → am_r b → Int32.ofInt v = Int32.ofInt a <<< (Int32.ofInt b &&& 31)) (hvr : am_r a → am_r b → am_r v) (k : am_Wp p l e R s m args below meth c D A ra ad0 n0 mid mc ms QF (pc + 1, lv, am_I v :: st, h, bc, bs)) : am_Wp p l e R s m args below meth c D A ra ad0 n0 mid mc ms QF (pc, lv, am_I b :: am_I a :: st, h, bc, bs) := by
  intro ad cA H locs ls cells slots hr
  have hb : am_r b := am_hd hr.sk
  have ha : am_r a := am_hd (am_tail hr.sk)
  refine lv_ishl X.1 X.2.1 hd ?_
  have e1 := hv ha hb
  have k1 := k ad cA H locs ls cells slots (am_Rel.st hr (am_cons (hvr ha hb) (am_tail (am_tail hr.sk))))
  rw [← e1]
  exact k1
theorem am_s_ishr {a b v : Int} (X : am_Ctx p R s m args meth c A ro ra mid d mc ms) (hd : decode (am_by mid) pc = .ok (.ishr, 1)) (hv : am_r a → am_r b → Int32.ofInt v = Int32.ofInt a >>> (Int32.ofInt b &&& 31)) (hvr : am_r a → am_r b → am_r v) (k : am_Wp p l e R s m args below meth c D A ra ad0 n0 mid mc ms QF (pc + 1, lv, am_I v :: st, h, bc, bs)) : am_Wp p l e R s m args below meth c D A ra ad0 n0 mid mc ms QF (pc, lv, am_I b :: am_I a :: st, h, bc, bs) := by
  intro ad cA H locs ls cells slots hr
  have hb : am_r b := am_hd hr.sk
  have ha : am_r a := am_hd (am_tail hr.sk)
  refine lv_ishr X.1 X.2.1 hd ?_
  have e1 := hv ha hb
  have k1 := k ad cA H locs ls cells slots (am_Rel.st hr (am_cons (hvr ha hb) (am_tail (am_tail hr.sk))))
  rw [← e1]
  exact k1
theorem am_s_ladd {a b v : Int} (X : am_Ctx p R s m args meth c A ro ra mid d mc ms) (hd : decode (am_by mid) pc = .ok (.ladd, 1)) (hv : am_rl a → am_rl b → Int64.ofInt v = Int64.ofInt a + Int64.ofInt b) (hvr : am_rl a → am_rl b → am_rl v) (k : am_Wp p l e R s m args below meth c D A ra ad0 n0 mid mc ms QF (pc + 1, lv, am_L v :: st, h, bc, bs)) : am_Wp p l e R s m args below meth c D A ra ad0 n0 mid mc ms QF (pc, lv, am_L b :: am_L a :: st, h, bc, bs) := by
  intro ad cA H locs ls cells slots hr
  have hb : am_rl b := am_hd hr.sk
  have ha : am_rl a := am_hd (am_tail hr.sk)
  refine lv_ladd X.1 X.2.1 hd ?_
  have e1 := hv ha hb
  have k1 := k ad cA H locs ls cells slots (am_Rel.st hr (am_cons (hvr ha hb) (am_tail (am_tail hr.sk))))
  rw [← e1]
  exact k1
theorem am_s_lsub {a b v : Int} (X : am_Ctx p R s m args meth c A ro ra mid d mc ms) (hd : decode (am_by mid) pc = .ok (.lsub, 1)) (hv : am_rl a → am_rl b → Int64.ofInt v = Int64.ofInt a - Int64.ofInt b) (hvr : am_rl a → am_rl b → am_rl v) (k : am_Wp p l e R s m args below meth c D A ra ad0 n0 mid mc ms QF (pc + 1, lv, am_L v :: st, h, bc, bs)) : am_Wp p l e R s m args below meth c D A ra ad0 n0 mid mc ms QF (pc, lv, am_L b :: am_L a :: st, h, bc, bs) := by
  intro ad cA H locs ls cells slots hr
  have hb : am_rl b := am_hd hr.sk
  have ha : am_rl a := am_hd (am_tail hr.sk)
  refine lv_lsub X.1 X.2.1 hd ?_
  have e1 := hv ha hb
  have k1 := k ad cA H locs ls cells slots (am_Rel.st hr (am_cons (hvr ha hb) (am_tail (am_tail hr.sk))))
  rw [← e1]
  exact k1
theorem am_s_lmul {a b v : Int} (X : am_Ctx p R s m args meth c A ro ra mid d mc ms) (hd : decode (am_by mid) pc = .ok (.lmul, 1)) (hv : am_rl a → am_rl b → Int64.ofInt v = Int64.ofInt a * Int64.ofInt b) (hvr : am_rl a → am_rl b → am_rl v) (k : am_Wp p l e R s m args below meth c D A ra ad0 n0 mid mc ms QF (pc + 1, lv, am_L v :: st, h, bc, bs)) : am_Wp p l e R s m args below meth c D A ra ad0 n0 mid mc ms QF (pc, lv, am_L b :: am_L a :: st, h, bc, bs) := by
  intro ad cA H locs ls cells slots hr
  have hb : am_rl b := am_hd hr.sk
  have ha : am_rl a := am_hd (am_tail hr.sk)
  refine lv_lmul X.1 X.2.1 hd ?_
  have e1 := hv ha hb
  have k1 := k ad cA H locs ls cells slots (am_Rel.st hr (am_cons (hvr ha hb) (am_tail (am_tail hr.sk))))
  rw [← e1]
  exact k1
theorem am_s_ldiv {a b v : Int} (X : am_Ctx p R s m args meth c A ro ra mid d mc ms) (hd : decode (am_by mid) pc = .ok (.ldiv, 1)) (hne : ¬ b = 0) (hv : am_rl a → am_rl b → Int64.ofInt v = Int64.ofInt a / Int64.ofInt b) (hvr : am_rl a → am_rl b → am_rl v) (k : am_Wp p l e R s m args below meth c D A ra ad0 n0 mid mc ms QF (pc + 1, lv, am_L v :: st, h, bc, bs)) : am_Wp p l e R s m args below meth c D A ra ad0 n0 mid mc ms QF (pc, lv, am_L b :: am_L a :: st, h, bc, bs) := by
  intro ad cA H locs ls cells slots hr
  have hb : am_rl b := am_hd hr.sk
  have ha : am_rl a := am_hd (am_tail hr.sk)
  have hz : ¬ Int64.ofInt b = 0 := fun z => hne ((am_eql hb (by decide)).mp (z.trans (by decide)))
  refine lv_ldiv X.1 X.2.1 hd hz ?_
  have e1 := hv ha hb
  have k1 := k ad cA H locs ls cells slots (am_Rel.st hr (am_cons (hvr ha hb) (am_tail (am_tail hr.sk))))
  rw [← e1]
  exact k1
theorem am_s_lrem {a b v : Int} (X : am_Ctx p R s m args meth c A ro ra mid d mc ms) (hd : decode (am_by mid) pc = .ok (.lrem, 1)) (hne : ¬ b = 0) (hv : am_rl a → am_rl b → Int64.ofInt v = Int64.ofInt a - Int64.ofInt a / Int64.ofInt b * Int64.ofInt b) (hvr : am_rl a → am_rl b → am_rl v) (k : am_Wp p l e R s m args below meth c D A ra ad0 n0 mid mc ms QF (pc + 1, lv, am_L v :: st, h, bc, bs)) : am_Wp p l e R s m args below meth c D A ra ad0 n0 mid mc ms QF (pc, lv, am_L b :: am_L a :: st, h, bc, bs) := by
  intro ad cA H locs ls cells slots hr
  have hb : am_rl b := am_hd hr.sk
  have ha : am_rl a := am_hd (am_tail hr.sk)
  have hz : ¬ Int64.ofInt b = 0 := fun z => hne ((am_eql hb (by decide)).mp (z.trans (by decide)))
  refine lv_lrem X.1 X.2.1 hd hz ?_
  have e1 := hv ha hb
  have k1 := k ad cA H locs ls cells slots (am_Rel.st hr (am_cons (hvr ha hb) (am_tail (am_tail hr.sk))))
  rw [← e1]
  exact k1
theorem am_s_lor {a b v : Int} (X : am_Ctx p R s m args meth c A ro ra mid d mc ms) (hd : decode (am_by mid) pc = .ok (.lor, 1)) (hv : am_rl a → am_rl b → Int64.ofInt v = Int64.ofInt a ||| Int64.ofInt b) (hvr : am_rl a → am_rl b → am_rl v) (k : am_Wp p l e R s m args below meth c D A ra ad0 n0 mid mc ms QF (pc + 1, lv, am_L v :: st, h, bc, bs)) : am_Wp p l e R s m args below meth c D A ra ad0 n0 mid mc ms QF (pc, lv, am_L b :: am_L a :: st, h, bc, bs) := by
  intro ad cA H locs ls cells slots hr
  have hb : am_rl b := am_hd hr.sk
  have ha : am_rl a := am_hd (am_tail hr.sk)
  refine lv_lor X.1 X.2.1 hd ?_
  have e1 := hv ha hb
  have k1 := k ad cA H locs ls cells slots (am_Rel.st hr (am_cons (hvr ha hb) (am_tail (am_tail hr.sk))))
  rw [← e1]
  exact k1
theorem am_s_iushr {a b : Int} (X : am_Ctx p R s m args meth c A ro ra mid d mc ms) (hd : decode (am_by mid) pc = .ok (.iushr, 1)) (k : am_Wp p l e R s m args below meth c D A ra ad0 n0 mid mc ms QF (pc + 1, lv, am_I (am_ushr a b) :: st, h, bc, bs)) : am_Wp p l e R s m args below meth c D A ra ad0 n0 mid mc ms QF (pc, lv, am_I b :: am_I a :: st, h, bc, bs) := by
  intro ad cA H locs ls cells slots hr
  refine lv_iushr (v := Int32.ofInt (am_ushr a b)) X.1 X.2.1 hd (by unfold am_ushr; rw [Int32.ofInt_toInt]) ?_
  exact k ad cA H locs ls cells slots (am_Rel.st hr (am_cons (am_t_r _) (am_tail (am_tail hr.sk))))
theorem am_s_lshl {a b : Int} (X : am_Ctx p R s m args meth c A ro ra mid d mc ms) (hd : decode (am_by mid) pc = .ok (.lshl, 1)) (k : am_Wp p l e R s m args below meth c D A ra ad0 n0 mid mc ms QF (pc + 1, lv, am_L (am_lshl a b) :: st, h, bc, bs)) : am_Wp p l e R s m args below meth c D A ra ad0 n0 mid mc ms QF (pc, lv, am_I b :: am_L a :: st, h, bc, bs) := by
  intro ad cA H locs ls cells slots hr
  refine lv_lshl (v := Int64.ofInt (am_lshl a b)) X.1 X.2.1 hd (by unfold am_lshl; rw [Int64.ofInt_toInt]) ?_
  exact k ad cA H locs ls cells slots (am_Rel.st hr (am_cons (am_t_rl _) (am_tail (am_tail hr.sk))))
theorem am_s_ineg {a v : Int} (X : am_Ctx p R s m args meth c A ro ra mid d mc ms) (hd : decode (am_by mid) pc = .ok (.ineg, 1)) (hv : Int32.ofInt v = Int32.ofInt (-a)) (hvr : am_r v) (k : am_Wp p l e R s m args below meth c D A ra ad0 n0 mid mc ms QF (pc + 1, lv, am_I v :: st, h, bc, bs)) : am_Wp p l e R s m args below meth c D A ra ad0 n0 mid mc ms QF (pc, lv, am_I a :: st, h, bc, bs) := by
  intro ad cA H locs ls cells slots hr
  refine lv_ineg X.1 X.2.1 hd ?_
  have k1 := k ad cA H locs ls cells slots (am_Rel.st hr (am_cons hvr (am_tail hr.sk)))
  rw [← Int32.ofInt_neg, ← hv]
  exact k1
theorem am_s_i2l {a : Int} (X : am_Ctx p R s m args meth c A ro ra mid d mc ms) (hd : decode (am_by mid) pc = .ok (.i2l, 1)) (k : am_Wp p l e R s m args below meth c D A ra ad0 n0 mid mc ms QF (pc + 1, lv, am_L a :: st, h, bc, bs)) : am_Wp p l e R s m args below meth c D A ra ad0 n0 mid mc ms QF (pc, lv, am_I a :: st, h, bc, bs) := by
  intro ad cA H locs ls cells slots hr
  have ha : am_r a := am_hd hr.sk
  refine lv_i2l (v := Int64.ofInt a) X.1 X.2.1 hd (Int64.toInt_inj.mp (by rw [Int32.toInt_toInt64, am_t ha, am_tl (by unfold am_r at ha; unfold am_rl; omega)])) ?_
  exact k ad cA H locs ls cells slots (am_Rel.st hr (am_cons (show am_rl a by unfold am_r at ha; unfold am_rl; omega) (am_tail hr.sk)))
theorem am_s_l2i {a v : Int} (X : am_Ctx p R s m args meth c A ro ra mid d mc ms) (hd : decode (am_by mid) pc = .ok (.l2i, 1)) (hv : Int32.ofInt v = Int32.ofInt a) (hvr : am_r v) (k : am_Wp p l e R s m args below meth c D A ra ad0 n0 mid mc ms QF (pc + 1, lv, am_I v :: st, h, bc, bs)) : am_Wp p l e R s m args below meth c D A ra ad0 n0 mid mc ms QF (pc, lv, am_L a :: st, h, bc, bs) := by
  intro ad cA H locs ls cells slots hr
  refine lv_l2i (v := Int32.ofInt v) X.1 X.2.1 hd (by rw [Int64.toInt32_ofInt, hv]) ?_
  exact k ad cA H locs ls cells slots (am_Rel.st hr (am_cons hvr (am_tail hr.sk)))
theorem am_s_i2c {a : Int} (X : am_Ctx p R s m args meth c A ro ra mid d mc ms) (hd : decode (am_by mid) pc = .ok (.i2c, 1)) (hq : 0 ≤ a ∧ a < 65536) (k : am_Wp p l e R s m args below meth c D A ra ad0 n0 mid mc ms QF (pc + 1, lv, am_I a :: st, h, bc, bs)) : am_Wp p l e R s m args below meth c D A ra ad0 n0 mid mc ms QF (pc, lv, am_I a :: st, h, bc, bs) := by
  intro ad cA H locs ls cells slots hr
  have ha : am_r a := am_hd hr.sk
  refine lv_i2c (v := Int32.ofInt a) X.1 X.2.1 hd (by rw [lg_i2c_nf]; exact lg_i2c_small (by rw [am_t ha]; exact hq.1) (by rw [am_t ha]; exact hq.2)) ?_
  exact k ad cA H locs ls cells slots (am_Rel.st hr hr.sk)
theorem am_s_lcmp {a b : Int} (X : am_Ctx p R s m args meth c A ro ra mid d mc ms) (hd : decode (am_by mid) pc = .ok (.lcmp, 1)) (k : am_Wp p l e R s m args below meth c D A ra ad0 n0 mid mc ms QF (pc + 1, lv, am_C a b :: st, h, bc, bs)) : am_Wp p l e R s m args below meth c D A ra ad0 n0 mid mc ms QF (pc, lv, am_L b :: am_L a :: st, h, bc, bs) := by
  intro ad cA H locs ls cells slots hr
  refine W.lcmp X.1 X.2.1 hd ?_
  exact k ad cA H locs ls cells slots (am_Rel.st hr (am_cons ⟨am_hd (am_tail hr.sk), am_hd hr.sk⟩ (am_tail (am_tail hr.sk))))
theorem am_s_dupI {x : Int} (X : am_Ctx p R s m args meth c A ro ra mid d mc ms) (hd : decode (am_by mid) pc = .ok (.dup, 1)) (k : am_Wp p l e R s m args below meth c D A ra ad0 n0 mid mc ms QF (pc + 1, lv, am_I x :: am_I x :: st, h, bc, bs)) : am_Wp p l e R s m args below meth c D A ra ad0 n0 mid mc ms QF (pc, lv, am_I x :: st, h, bc, bs) := by
  intro ad cA H locs ls cells slots hr
  refine lv_dup X.1 X.2.1 hd rfl ?_
  exact k ad cA H locs ls cells slots (am_Rel.st hr (am_cons (am_hd hr.sk) hr.sk))
theorem am_s_dupR {x : Nat} (X : am_Ctx p R s m args meth c A ro ra mid d mc ms) (hd : decode (am_by mid) pc = .ok (.dup, 1)) (k : am_Wp p l e R s m args below meth c D A ra ad0 n0 mid mc ms QF (pc + 1, lv, am_R x :: am_R x :: st, h, bc, bs)) : am_Wp p l e R s m args below meth c D A ra ad0 n0 mid mc ms QF (pc, lv, am_R x :: st, h, bc, bs) := by
  intro ad cA H locs ls cells slots hr
  refine lv_dup X.1 X.2.1 hd rfl ?_
  exact k ad cA H locs ls cells slots (am_Rel.st hr (am_cons (am_hd hr.sk) hr.sk))
theorem am_s_dup2 {x : Int} {q : Nat} (X : am_Ctx p R s m args meth c A ro ra mid d mc ms) (hd : decode (am_by mid) pc = .ok (.dup2, 1)) (k : am_Wp p l e R s m args below meth c D A ra ad0 n0 mid mc ms QF (pc + 1, lv, am_I x :: am_R q :: am_I x :: am_R q :: st, h, bc, bs)) : am_Wp p l e R s m args below meth c D A ra ad0 n0 mid mc ms QF (pc, lv, am_I x :: am_R q :: st, h, bc, bs) := by
  intro ad cA H locs ls cells slots hr
  refine lv_dup2_11 X.1 X.2.1 hd rfl rfl ?_
  exact k ad cA H locs ls cells slots (am_Rel.st hr (am_cons (am_hd hr.sk) (am_cons (am_hd (am_tail hr.sk)) hr.sk)))
theorem am_s_pop {x : Int} (X : am_Ctx p R s m args meth c A ro ra mid d mc ms) (hd : decode (am_by mid) pc = .ok (.pop, 1)) (k : am_Wp p l e R s m args below meth c D A ra ad0 n0 mid mc ms QF (pc + 1, lv, st, h, bc, bs)) : am_Wp p l e R s m args below meth c D A ra ad0 n0 mid mc ms QF (pc, lv, am_I x :: st, h, bc, bs) := by
  intro ad cA H locs ls cells slots hr
  refine lv_pop X.1 X.2.1 hd rfl ?_
  exact k ad cA H locs ls cells slots (am_Rel.st hr (am_tail hr.sk))
theorem am_s_pop2 {x : Int} (X : am_Ctx p R s m args meth c A ro ra mid d mc ms) (hd : decode (am_by mid) pc = .ok (.pop2, 1)) (k : am_Wp p l e R s m args below meth c D A ra ad0 n0 mid mc ms QF (pc + 1, lv, st, h, bc, bs)) : am_Wp p l e R s m args below meth c D A ra ad0 n0 mid mc ms QF (pc, lv, am_L x :: st, h, bc, bs) := by
  intro ad cA H locs ls cells slots hr
  refine lv_pop2_2 X.1 X.2.1 hd rfl ?_
  exact k ad cA H locs ls cells slots (am_Rel.st hr (am_tail hr.sk))
theorem am_s_goto {off : Int} {t : Nat} (X : am_Ctx p R s m args meth c A ro ra mid d mc ms) (hd : decode (am_by mid) pc = .ok (.goto off, 3)) (ht : (pc : Int) + off = (t : Int)) (k : am_Wp p l e R s m args below meth c D A ra ad0 n0 mid mc ms QF (t, lv, st, h, bc, bs)) : am_Wp p l e R s m args below meth c D A ra ad0 n0 mid mc ms QF (pc, lv, st, h, bc, bs) := by
  intro ad cA H locs ls cells slots hr
  refine lv_goto X.1 X.2.1 hd ht ?_
  exact k ad cA H locs ls cells slots (am_Rel.st hr hr.sk)
theorem am_s_icmp {cd : Jvm.ClassFile.Cond} {a b off : Int} {t : Nat} (X : am_Ctx p R s m args meth c A ro ra mid d mc ms) (hd : decode (am_by mid) pc = .ok (.if_icmp cd off, 3)) (ht : (pc : Int) + off = (t : Int)) (kt : am_cmp cd a b → am_Wp p l e R s m args below meth c D A ra ad0 n0 mid mc ms QF (t, lv, st, h, bc, bs)) (kf : ¬ am_cmp cd a b → am_Wp p l e R s m args below meth c D A ra ad0 n0 mid mc ms QF (pc + 3, lv, st, h, bc, bs)) : am_Wp p l e R s m args below meth c D A ra ad0 n0 mid mc ms QF (pc, lv, am_I b :: am_I a :: st, h, bc, bs) := by
  intro ad cA H locs ls cells slots hr
  have hb : am_r b := am_hd hr.sk
  have ha : am_r a := am_hd (am_tail hr.sk)
  have hs := am_tail (am_tail hr.sk)
  cases cd with
  | eq => exact lv_icmp_eq X.1 X.2.1 hd ht (fun z => kt ((am_eq ha hb).mp z) ad cA H locs ls cells slots (am_Rel.st hr hs)) (fun z => kf (fun w => z ((am_eq ha hb).mpr w)) ad cA H locs ls cells slots (am_Rel.st hr hs))
  | ne => exact lv_icmp_ne X.1 X.2.1 hd ht (fun z => kt (fun w => z ((am_eq ha hb).mpr w)) ad cA H locs ls cells slots (am_Rel.st hr hs)) (fun z => kf (fun w => w ((am_eq ha hb).mp z)) ad cA H locs ls cells slots (am_Rel.st hr hs))
  | lt => exact lv_icmp_lt X.1 X.2.1 hd ht (fun z => kt ((am_lt ha hb).mp z) ad cA H locs ls cells slots (am_Rel.st hr hs)) (fun z => kf (fun w => z ((am_lt ha hb).mpr w)) ad cA H locs ls cells slots (am_Rel.st hr hs))
  | ge => exact lv_icmp_ge X.1 X.2.1 hd ht (fun z => kt ((am_le hb ha).mp z) ad cA H locs ls cells slots (am_Rel.st hr hs)) (fun z => kf (fun w => z ((am_le hb ha).mpr w)) ad cA H locs ls cells slots (am_Rel.st hr hs))
  | gt => exact lv_icmp_gt X.1 X.2.1 hd ht (fun z => kt ((am_lt hb ha).mp z) ad cA H locs ls cells slots (am_Rel.st hr hs)) (fun z => kf (fun w => z ((am_lt hb ha).mpr w)) ad cA H locs ls cells slots (am_Rel.st hr hs))
  | le => exact lv_icmp_le X.1 X.2.1 hd ht (fun z => kt ((am_le ha hb).mp z) ad cA H locs ls cells slots (am_Rel.st hr hs)) (fun z => kf (fun w => z ((am_le ha hb).mpr w)) ad cA H locs ls cells slots (am_Rel.st hr hs))
theorem am_s_if {cd : Jvm.ClassFile.Cond} {a off : Int} {t : Nat} (X : am_Ctx p R s m args meth c A ro ra mid d mc ms) (hd : decode (am_by mid) pc = .ok (.ifCond cd off, 3)) (ht : (pc : Int) + off = (t : Int)) (kt : am_cmp cd a 0 → am_Wp p l e R s m args below meth c D A ra ad0 n0 mid mc ms QF (t, lv, st, h, bc, bs)) (kf : ¬ am_cmp cd a 0 → am_Wp p l e R s m args below meth c D A ra ad0 n0 mid mc ms QF (pc + 3, lv, st, h, bc, bs)) : am_Wp p l e R s m args below meth c D A ra ad0 n0 mid mc ms QF (pc, lv, am_I a :: st, h, bc, bs) := by
  intro ad cA H locs ls cells slots hr
  have ha : am_r a := am_hd hr.sk
  have hs := am_tail hr.sk
  cases cd with
  | eq => exact lv_if_eq X.1 X.2.1 hd ht (fun z => kt ((am_eq ha am_r0).mp z) ad cA H locs ls cells slots (am_Rel.st hr hs)) (fun z => kf (fun w => z ((am_eq ha am_r0).mpr w)) ad cA H locs ls cells slots (am_Rel.st hr hs))
  | ne => exact lv_if_ne X.1 X.2.1 hd ht (fun z => kt (fun w => z ((am_eq ha am_r0).mpr w)) ad cA H locs ls cells slots (am_Rel.st hr hs)) (fun z => kf (fun w => w ((am_eq ha am_r0).mp z)) ad cA H locs ls cells slots (am_Rel.st hr hs))
  | lt => exact lv_if_lt X.1 X.2.1 hd ht (fun z => kt ((am_lt ha am_r0).mp z) ad cA H locs ls cells slots (am_Rel.st hr hs)) (fun z => kf (fun w => z ((am_lt ha am_r0).mpr w)) ad cA H locs ls cells slots (am_Rel.st hr hs))
  | ge => exact lv_if_ge X.1 X.2.1 hd ht (fun z => kt ((am_le am_r0 ha).mp z) ad cA H locs ls cells slots (am_Rel.st hr hs)) (fun z => kf (fun w => z ((am_le am_r0 ha).mpr w)) ad cA H locs ls cells slots (am_Rel.st hr hs))
  | gt => exact lv_if_gt X.1 X.2.1 hd ht (fun z => kt ((am_lt am_r0 ha).mp z) ad cA H locs ls cells slots (am_Rel.st hr hs)) (fun z => kf (fun w => z ((am_lt am_r0 ha).mpr w)) ad cA H locs ls cells slots (am_Rel.st hr hs))
  | le => exact lv_if_le X.1 X.2.1 hd ht (fun z => kt ((am_le ha am_r0).mp z) ad cA H locs ls cells slots (am_Rel.st hr hs)) (fun z => kf (fun w => z ((am_le ha am_r0).mpr w)) ad cA H locs ls cells slots (am_Rel.st hr hs))
theorem am_s_ifc {cd : Jvm.ClassFile.Cond} {a b off : Int} {t : Nat} (X : am_Ctx p R s m args meth c A ro ra mid d mc ms) (hd : decode (am_by mid) pc = .ok (.ifCond cd off, 3)) (ht : (pc : Int) + off = (t : Int)) (kt : am_cmp cd a b → am_Wp p l e R s m args below meth c D A ra ad0 n0 mid mc ms QF (t, lv, st, h, bc, bs)) (kf : ¬ am_cmp cd a b → am_Wp p l e R s m args below meth c D A ra ad0 n0 mid mc ms QF (pc + 3, lv, st, h, bc, bs)) : am_Wp p l e R s m args below meth c D A ra ad0 n0 mid mc ms QF (pc, lv, am_C a b :: st, h, bc, bs) := by
  intro ad cA H locs ls cells slots hr
  have hab : am_rl a ∧ am_rl b := am_hd hr.sk
  obtain ⟨ha, hb⟩ := hab
  have hs := am_tail hr.sk
  cases cd with
  | eq => exact lv_if_eq X.1 X.2.1 hd ht (fun z => kt (((lg_cmp_eq _ _).trans (am_eql ha hb)).mp z) ad cA H locs ls cells slots (am_Rel.st hr hs)) (fun z => kf (fun w => z (((lg_cmp_eq _ _).trans (am_eql ha hb)).mpr w)) ad cA H locs ls cells slots (am_Rel.st hr hs))
  | ne => exact lv_if_ne X.1 X.2.1 hd ht (fun z => kt (fun w => z (((lg_cmp_eq _ _).trans (am_eql ha hb)).mpr w)) ad cA H locs ls cells slots (am_Rel.st hr hs)) (fun z => kf (fun w => w (((lg_cmp_eq _ _).trans (am_eql ha hb)).mp z)) ad cA H locs ls cells slots (am_Rel.st hr hs))
  | lt => exact lv_if_lt X.1 X.2.1 hd ht (fun z => kt (((lg_cmp_lt _ _).trans (am_ltl ha hb)).mp z) ad cA H locs ls cells slots (am_Rel.st hr hs)) (fun z => kf (fun w => z (((lg_cmp_lt _ _).trans (am_ltl ha hb)).mpr w)) ad cA H locs ls cells slots (am_Rel.st hr hs))
  | ge => exact lv_if_ge X.1 X.2.1 hd ht (fun z => kt (((lg_cmp_ge _ _).trans (am_lel hb ha)).mp z) ad cA H locs ls cells slots (am_Rel.st hr hs)) (fun z => kf (fun w => z (((lg_cmp_ge _ _).trans (am_lel hb ha)).mpr w)) ad cA H locs ls cells slots (am_Rel.st hr hs))
  | gt => exact lv_if_gt X.1 X.2.1 hd ht (fun z => kt (((lg_cmp_gt _ _).trans (am_ltl hb ha)).mp z) ad cA H locs ls cells slots (am_Rel.st hr hs)) (fun z => kf (fun w => z (((lg_cmp_gt _ _).trans (am_ltl hb ha)).mpr w)) ad cA H locs ls cells slots (am_Rel.st hr hs))
  | le => exact lv_if_le X.1 X.2.1 hd ht (fun z => kt (((lg_cmp_le _ _).trans (am_lel ha hb)).mp z) ad cA H locs ls cells slots (am_Rel.st hr hs)) (fun z => kf (fun w => z (((lg_cmp_le _ _).trans (am_lel ha hb)).mpr w)) ad cA H locs ls cells slots (am_Rel.st hr hs))
theorem am_s_nnN {off : Int} (X : am_Ctx p R s m args meth c A ro ra mid d mc ms) (hd : decode (am_by mid) pc = .ok (.ifnonnull off, 3)) (k : am_Wp p l e R s m args below meth c D A ra ad0 n0 mid mc ms QF (pc + 3, lv, st, h, bc, bs)) : am_Wp p l e R s m args below meth c D A ra ad0 n0 mid mc ms QF (pc, lv, am_N :: st, h, bc, bs) := by
  intro ad cA H locs ls cells slots hr
  refine lv_ifnonnullN X.1 X.2.1 hd ?_
  exact k ad cA H locs ls cells slots (am_Rel.st hr (am_tail hr.sk))
theorem am_s_nnR {off : Int} {t q : Nat} (X : am_Ctx p R s m args meth c A ro ra mid d mc ms) (hd : decode (am_by mid) pc = .ok (.ifnonnull off, 3)) (ht : (pc : Int) + off = (t : Int)) (k : am_Wp p l e R s m args below meth c D A ra ad0 n0 mid mc ms QF (t, lv, st, h, bc, bs)) : am_Wp p l e R s m args below meth c D A ra ad0 n0 mid mc ms QF (pc, lv, am_R q :: st, h, bc, bs) := by
  intro ad cA H locs ls cells slots hr
  refine lv_ifnonnull X.1 X.2.1 hd ht ?_
  exact k ad cA H locs ls cells slots (am_Rel.st hr (am_tail hr.sk))
end SO1
