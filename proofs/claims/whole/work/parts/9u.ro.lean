/-! WHAT THE STATEMENT GIVES OF THE START: the script, the two tables, the two texts -/
def wh_F : List Jvm.Cond := flatC (Jvm.Cond.and given_1 narrow_1)
def wh_tm (i : Nat) : Jvm.Term := .string "LoanPence$Reader" (([91, 84] : List Nat).getD i 0)
def wh_u : List Int32 := [1, 100, 100, 0, 0, 0]
def wh_v : List Int32 := [12, 12, 6, 7, 4, 6]
abbrev wh_U : Jvm.Term := .static "LoanPence" "UNRULED" "[I"
abbrev wh_V : Jvm.Term := .static "LoanPence" "KIND_POINTS" "[I"
abbrev wh_B (i : Nat) : Jvm.Term := .field (wh_tm i) "java/lang/String" "value" "[B"
theorem wh_f1 : ∀ i : Fin 2, Jvm.Cond.exactly (wh_tm i.val) "java/lang/String" ∈ wh_F ∧ Jvm.Cond.eq (.field (wh_tm i.val) "java/lang/String" "coder" "B") (.int 0) ∈ wh_F ∧ Jvm.Cond.arrayOf (wh_B i.val) .byte ∈ wh_F ∧ Jvm.Cond.eq (.length (wh_B i.val)) (.int (Int32.ofNat (([102, 10] : List Nat).getD i.val 0))) ∈ wh_F := by decide +kernel
theorem wh_f2 : ∀ j : Fin 102, Jvm.Cond.eq (.elem (wh_B 0) (.int (Int32.ofNat j.val))) (.int (am_wb.getD j.val 0)) ∈ wh_F := by decide +kernel
theorem wh_f3 : ∀ j : Fin 10, Jvm.Cond.eq (.elem (wh_B 1) (.int (Int32.ofNat j.val))) (.int (am_sb.getD j.val 0)) ∈ wh_F := by decide +kernel
theorem wh_f4 : Jvm.Cond.not (Jvm.Cond.eq (wh_tm 0) (wh_tm 1)) ∈ wh_F := by decide +kernel
theorem wh_f5 : Jvm.Cond.arrayOf wh_U .int ∈ wh_F ∧ Jvm.Cond.eq (.length wh_U) (.int (Int32.ofNat 6)) ∈ wh_F ∧ ∀ j : Fin 6, Jvm.Cond.eq (.elem wh_U (.int (Int32.ofNat j.val))) (.int (wh_u.getD j.val 0)) ∈ wh_F := by decide +kernel
theorem wh_f6 : Jvm.Cond.arrayOf wh_V .int ∈ wh_F ∧ Jvm.Cond.eq (.length wh_V) (.int (Int32.ofNat 6)) ∈ wh_F ∧ ∀ j : Fin 6, Jvm.Cond.eq (.elem wh_V (.int (Int32.ofNat j.val))) (.int (wh_v.getD j.val 0)) ∈ wh_F := by decide +kernel
theorem wh_f7 : Jvm.Cond.eq (.static "java/lang/String" "COMPACT_STRINGS" "Z") (.int 1) ∈ wh_F ∧ Jvm.Cond.isRef (.static "jdk/internal/util/Preconditions" "SIOOBE_FORMATTER" "Ljava/util/function/BiFunction;") ∈ wh_F := by decide +kernel
theorem wh_uK : (wh_u.getD (0 : Int).toNat 0).toInt = 1 ∧ (wh_u.getD (1 : Int).toNat 0).toInt = 100 ∧ (wh_u.getD (2 : Int).toNat 0).toInt = 100 ∧ (wh_u.getD (3 : Int).toNat 0).toInt = 0 ∧ (wh_u.getD (4 : Int).toNat 0).toInt = 0 ∧ (wh_u.getD (5 : Int).toNat 0).toInt = 0 := by decide +kernel
theorem wh_vK : (wh_v.getD (0 : Int).toNat 0).toInt = 12 ∧ (wh_v.getD (1 : Int).toNat 0).toInt = 12 ∧ (wh_v.getD (2 : Int).toNat 0).toInt = 6 ∧ (wh_v.getD (3 : Int).toNat 0).toInt = 7 ∧ (wh_v.getD (4 : Int).toNat 0).toInt = 4 ∧ (wh_v.getD (5 : Int).toNat 0).toInt = 6 := by decide +kernel
theorem wh_w3 : ∀ j : Fin 102, (am_wb.getD j.val 0).toInt = wch (j.val : Int) := by decide +kernel
theorem wh_w4 : (am_sb.getD (0 : Int).toNat 0).toInt = 40 ∧ (am_sb.getD (1 : Int).toNat 0).toInt = 41 ∧ (am_sb.getD (2 : Int).toNat 0).toInt = 43 ∧ (am_sb.getD (3 : Int).toNat 0).toInt = 45 ∧ (am_sb.getD (4 : Int).toNat 0).toInt = 42 ∧ (am_sb.getD (5 : Int).toNat 0).toInt = 47 ∧ (am_sb.getD (6 : Int).toNat 0).toInt = 37 ∧ (am_sb.getD (7 : Int).toNat 0).toInt = 61 ∧ (am_sb.getD (8 : Int).toNat 0).toInt = 60 ∧ (am_sb.getD (9 : Int).toNat 0).toInt = 62 := by decide +kernel
theorem wh_sz {args : Array Value} {s : State} {t : Jvm.Term} {v : Value} {b : Nat} {cell : Cell} (h : (Jvm.Term.length t).eval args s none [] s = some v) (ht : t.eval args s none [] s = some (.ref b)) (ha : s.arrayAt? b = some cell) : cell.slots.size < 2147483648 := by
  by_cases hs : cell.slots.size < 2147483648
  · exact hs
  · simp [Term.eval, ht, ha, hs] at h
theorem wh_X {args : Array Value} {s : State} {tm : Jvm.Term} {N : Nat} {f : Nat → Int32} (hN : N < 2 ^ 31) (harr : (Jvm.Cond.arrayOf tm .int).before args s = true) (hlen : (Jvm.Term.length tm).eval args s none [] s = some (.int (Int32.ofNat N))) (hel : ∀ j : Nat, j < N → (Jvm.Term.elem tm (.int (Int32.ofNat j))).eval args s none [] s = some (.int (f j))) : ∃ t : Nat, tm.eval args s none [] s = some (.ref t) ∧ va_X t N f s s.heap ∧ t < s.heap.size := by
  obtain ⟨t, ht, cell, h1, h2, h3, h4, h5, h6, -⟩ := va_Tof (f := fun j => .int (f j)) (A := fun _ => False) hN harr hlen hel (fun _ _ h => h)
  obtain ⟨a, cell2, q1, q2, q3⟩ := Term.length_spec hlen
  have ea : a = t := by simpa using q1.symm.trans ht
  rw [ea] at q2
  have ec : cell2 = cell := Option.some.inj ((State.arrayAt?_spec q2).1.symm.trans h1)
  rw [ec] at q2
  have h8 := wh_sz hlen ht q2
  refine ⟨t, ht, ⟨cell, h1, h2, h3, ?_, h6⟩, (Array.getElem?_eq_some_iff.mp h1).1⟩
  have e : (Int32.ofNat cell.slots.size).toInt = (Int32.ofNat N).toInt := congrArg Int32.toInt h5
  rw [Int32.toInt_ofNat_of_lt h8, Int32.toInt_ofNat_of_lt hN] at e
  omega
theorem wh_Xe {b L : Nat} {xs : Nat → Int32} {s : State} {H : Heap} (h : va_X b L xs s H) : va_X b ((L : Nat) : Int).toNat (fun i : Nat => Int32.ofInt ((xs ((i : Nat) : Int).toNat).toInt)) s H := by
  obtain ⟨scr, h1, h2, h3, h4, h5⟩ := h
  refine ⟨scr, h1, h2, h3, by rw [Int.toNat_natCast]; exact h4, fun j hj => ?_⟩
  rw [Int.toNat_natCast] at hj
  show scr.slots[j]? = some (.int (Int32.ofInt ((xs ((j : Nat) : Int).toNat).toInt)))
  rw [h5 j hj, Int.toNat_natCast, Int32.ofInt_toInt]
def wh_r (L : Nat) (xs : Nat → Int32) : Nat → Int × (Int → Int)
  | 0 => ((L : Int), fun i => (xs i.toNat).toInt)
  | 1 => (((6 : Nat) : Int), fun i => (wh_u.getD i.toNat 0).toInt)
  | 2 => (((6 : Nat) : Int), fun i => (wh_v.getD i.toNat 0).toInt)
  | 3 => am_ro3
  | _ + 4 => am_ro4
def wh_a (b t1 t2 : Nat) (adK : Nat → Nat) : Nat → Nat
  | 0 => b
  | 1 => t1
  | 2 => t2
  | n + 3 => adK n
theorem wh_ak {b t1 t2 : Nat} {adK : Nat → Nat} : (fun i => wh_a b t1 t2 adK (3 + i)) = adK := by
  funext i
  rw [Nat.add_comm]
  rfl
theorem wh_ir (r : Int32) : am_r r.toInt := ⟨Int32.le_toInt r, Int32.toInt_lt r⟩
theorem wh_rr {L : Nat} {xs : Nat → Int32} : ∀ (j : Nat) (i : Int), am_r ((wh_r L xs j).2 i)
  | 0, _ => wh_ir _
  | 1, _ => wh_ir _
  | 2, _ => wh_ir _
  | 3, _ => wh_ir _
  | _ + 4, _ => wh_ir _
theorem wh_RoK {L : Nat} {xs : Nat → Int32} : RoK (wh_r L xs) := ⟨⟨rfl, wh_uK⟩, ⟨rfl, wh_vK⟩⟩
theorem wh_RoW {L : Nat} {xs : Nat → Int32} : RoW (wh_r L xs) := by
  refine ⟨rfl, fun i h1 h2 => ?_, rfl, wh_w4⟩
  obtain ⟨n, rfl⟩ := Int.eq_ofNat_of_zero_le h1
  exact wh_w3 ⟨n, by omega⟩
theorem wh_tb {w : Jvm.Cond} (h : w ∈ tables_1) : w ∈ lw_tbl := List.mem_append_right _ h
theorem wh_ro {args : Array Value} {s : State} {b L : Nat} {xs : Nat → Int32} (hts : ∀ w ∈ lw_tbl, w.before args s = true) (hgv : (Jvm.Cond.and given_1 narrow_1).before args s = true) (hX : va_X b L xs s s.heap) (hbl : b < s.heap.size) (hL : L ≤ 2560) : ∃ ra : Nat → Nat, am_Ro (wh_r L xs) ra (fun q => s.heap.size ≤ q) s s.heap ∧ am_Nw ra s ∧ ra 0 = b := by
  have hs : ∀ c ∈ wh_F, c.before args s = true := flat_of_before _ hgv
  have hA : ∀ a : Nat, a < s.heap.size → ¬ (fun q : Nat => s.heap.size ≤ q) a := fun a h => Nat.not_le.mpr h
  obtain ⟨t1, h1, X1, l1⟩ := wh_X (args := args) (s := s) (tm := wh_U) (N := 6) (f := fun j => wh_u.getD j 0) (by decide) (hs _ wh_f5.1) (va_eqt (hs _ wh_f5.2.1)) (fun j hj => va_eqt (hs _ (wh_f5.2.2 ⟨j, hj⟩)))
  obtain ⟨t2, h2, X2, l2⟩ := wh_X (args := args) (s := s) (tm := wh_V) (N := 6) (f := fun j => wh_v.getD j 0) (by decide) (hs _ wh_f6.1) (va_eqt (hs _ wh_f6.2.1)) (fun j hj => va_eqt (hs _ (wh_f6.2.2 ⟨j, hj⟩)))
  obtain ⟨adK, adV, hS, hev⟩ := vk_Sof (args := args) (s := s) (N := 2) (tm := wh_tm) (len := [102, 10]) (byt := [am_wb, am_sb]) (A := fun q => s.heap.size ≤ q)
    (fun i hi => by rcases (show i = 0 ∨ i = 1 by omega) with rfl | rfl <;> decide)
    (fun i hi => hs _ (wh_f1 ⟨i, hi⟩).1) (fun i hi => hs _ (wh_f1 ⟨i, hi⟩).2.1) (fun i hi => hs _ (wh_f1 ⟨i, hi⟩).2.2.1) (fun i hi => hs _ (wh_f1 ⟨i, hi⟩).2.2.2)
    (fun i hi j hj => by
      rcases (show i = 0 ∨ i = 1 by omega) with rfl | rfl
      · exact hs _ (wh_f2 ⟨j, hj⟩)
      · exact hs _ (wh_f3 ⟨j, hj⟩))
    (fun i j hi hj hij => by
      rcases (show (i = 0 ∧ j = 1) ∨ (i = 1 ∧ j = 0) by omega) with ⟨rfl, rfl⟩ | ⟨rfl, rfl⟩
      · exact Or.inl (hs _ wh_f4)
      · exact Or.inr (hs _ wh_f4)) hA
  have hi1 := hts _ (wh_tb (List.mem_of_getElem? (i := 1) (a := Jvm.Cond.initialized "LoanPence") (by decide +kernel)))
  have hi2 := hts _ (wh_tb (List.mem_of_getElem? (i := 17) (a := Jvm.Cond.initialized "java/lang/String") (by decide +kernel)))
  have hi3 := hts _ (wh_tb (List.mem_of_getElem? (i := 19) (a := Jvm.Cond.initialized "jdk/internal/util/Preconditions") (by decide +kernel)))
  have hl1 := hts _ (wh_tb (List.mem_of_getElem? (i := 946) (a := Jvm.Cond.laysStatic "LoanPence" "UNRULED" "[I") (by decide +kernel)))
  have hl2 := hts _ (wh_tb (List.mem_of_getElem? (i := 987) (a := Jvm.Cond.laysStatic "LoanPence" "KIND_POINTS" "[I") (by decide +kernel)))
  have hl3 := hts _ (wh_tb (List.mem_of_getElem? (i := 740) (a := Jvm.Cond.laysStatic "java/lang/String" "COMPACT_STRINGS" "Z") (by decide +kernel)))
  have hl4 := hts _ (wh_tb (List.mem_of_getElem? (i := 756) (a := Jvm.Cond.laysStatic "jdk/internal/util/Preconditions" "SIOOBE_FORMATTER" "Ljava/util/function/BiFunction;") (by decide +kernel)))
  have hr3 := hts _ (wh_tb (List.mem_of_getElem? (i := 730) (a := Jvm.Cond.stringRef "LoanPence$Reader" 91 "who part abroad most least late role kind land year dead claim parts printed title loans if or and not") (by decide +kernel)))
  have hr4 := hts _ (wh_tb (List.mem_of_getElem? (i := 783) (a := Jvm.Cond.stringRef "LoanPence$Reader" 84 "()+-*/%=<>") (by decide +kernel)))
  refine ⟨wh_a b t1 t2 adK, ⟨?_, wh_rr, va_Zref hl1 hi1 h1 hA, va_Zref hl2 hi1 h2 hA, ⟨adV, ?_⟩, va_Zof hl3 hi2 (va_eqt (hs _ wh_f7.1)) hA, va_Zqof hl4 hi3 (hs _ wh_f7.2) hA, rfl, rfl⟩, ⟨fun w hw hn => ?_, vk_R.of hr3 (hev 0 (by omega)), vk_R.of hr4 (hev 1 (by omega))⟩, rfl⟩
  · intro j hj
    rcases (show j = 0 ∨ j = 1 ∨ j = 2 by omega) with rfl | rfl | rfl
    · exact ⟨wh_Xe hX, hA _ hbl, (by show (0 : Int) ≤ ((L : Nat) : Int); omega), (by show ((L : Nat) : Int) < 2147483648; omega)⟩
    · exact ⟨wh_Xe X1, hA _ l1, (by show (0 : Int) ≤ ((6 : Nat) : Int); omega), (by show ((6 : Nat) : Int) < 2147483648; omega)⟩
    · exact ⟨wh_Xe X2, hA _ l2, (by show (0 : Int) ≤ ((6 : Nat) : Int); omega), (by show ((6 : Nat) : Int) < 2147483648; omega)⟩
  · rw [wh_ak]
    exact hS
  · have h := hts w (wh_tb hw)
    cases w <;> first | exact va_Nw.of rfl h | (simp [am_isN] at hn; done)
/-- the classes' numbers and slots -/
theorem wh_K {args : Array Value} {s : State} (hts : ∀ w ∈ am_T, w.before args s = true) : ∃ D : va_G, va_K D am_cl [] s := by
  have h0 : ∀ k : Nat, ∃ q : ClassId × (Nat → Nat), ∀ y : vw_C, am_cl[k]? = some y → u_Kn s y.1 y.2.1 y.2.2 q.1 q.2 := by
    intro k
    cases hk : am_cl[k]? with
    | none => exact ⟨(0, fun _ => 0), fun y hy => by cases hy⟩
    | some y =>
      obtain ⟨C, T, N⟩ := y
      have hf := am_cls k C T N hk
      obtain ⟨cC, iS, hq⟩ := u_known (C := C) (T := T) (N := N) (n := N) hts hf.1 (hts _ (am_tb hf.2.2.2.2.1))
      exact ⟨(cC, iS), fun y hy => by cases hy; exact hq⟩
  obtain ⟨f, hf⟩ := Classical.axiomOfChoice h0
  exact ⟨(fun k => (f k).1, fun k => (f k).2), fun c q hq => hf c q hq, fun k q h => by simp at h⟩
