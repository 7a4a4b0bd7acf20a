def am_tk (t : FieldType) : Option FieldType := match t with
  | .object _ => none
  | .array _ => none
  | t => some t
set_option maxRecDepth 100000 in
theorem am_inK0 : ∀ w ∈ u_ws am_R0 am_T0 8, w ∈ lw_tbl := by decide +kernel
theorem am_tyK0 : ∀ k, k < 8 → parseFieldDescriptor (am_T0 k).2.2.1 = some (am_ty0 k) := by decide +kernel
theorem am_nmK0 : ∀ a, a < 8 → ∀ b, b < 8 → a ≠ b → (am_T0 a).2.1 ≠ (am_T0 b).2.1 := by decide +kernel
theorem am_fsK0 : (am_fs0.length = 8) ∧ ∀ k, k < 8 → (am_fs0[k]?).map am_kd = some (am_tk (am_ty0 k)) := by decide +kernel
theorem am_isK0 : Cond.instantiable am_R0 8 ∈ tables_1 ∧ Cond.initialized am_R0 ∈ tables_1 := ⟨List.mem_of_getElem? (i := 24) (by decide +kernel), List.mem_of_getElem? (i := 1) (by decide +kernel)⟩
set_option maxRecDepth 100000 in
theorem am_inK1 : ∀ w ∈ u_ws am_R1 am_T1 8, w ∈ lw_tbl := by decide +kernel
theorem am_tyK1 : ∀ k, k < 8 → parseFieldDescriptor (am_T1 k).2.2.1 = some (am_ty1 k) := by decide +kernel
theorem am_nmK1 : ∀ a, a < 8 → ∀ b, b < 8 → a ≠ b → (am_T1 a).2.1 ≠ (am_T1 b).2.1 := by decide +kernel
theorem am_fsK1 : (am_fs1.length = 8) ∧ ∀ k, k < 8 → (am_fs1[k]?).map am_kd = some (am_tk (am_ty1 k)) := by decide +kernel
theorem am_isK1 : Cond.instantiable am_R1 8 ∈ tables_1 ∧ Cond.initialized am_R1 ∈ tables_1 := ⟨List.mem_of_getElem? (i := 32) (by decide +kernel), List.mem_of_getElem? (i := 2) (by decide +kernel)⟩
set_option maxRecDepth 100000 in
theorem am_inK2 : ∀ w ∈ u_ws am_R2 am_T2 4, w ∈ lw_tbl := by decide +kernel
theorem am_tyK2 : ∀ k, k < 4 → parseFieldDescriptor (am_T2 k).2.2.1 = some (am_ty2 k) := by decide +kernel
theorem am_nmK2 : ∀ a, a < 4 → ∀ b, b < 4 → a ≠ b → (am_T2 a).2.1 ≠ (am_T2 b).2.1 := by decide +kernel
theorem am_fsK2 : (am_fs2.length = 4) ∧ ∀ k, k < 4 → (am_fs2[k]?).map am_kd = some (am_tk (am_ty2 k)) := by decide +kernel
theorem am_isK2 : Cond.instantiable am_R2 4 ∈ tables_1 ∧ Cond.initialized am_R2 ∈ tables_1 := ⟨List.mem_of_getElem? (i := 38) (by decide +kernel), List.mem_of_getElem? (i := 3) (by decide +kernel)⟩
set_option maxRecDepth 100000 in
theorem am_inK3 : ∀ w ∈ u_ws am_R3 am_T3 4, w ∈ lw_tbl := by decide +kernel
theorem am_tyK3 : ∀ k, k < 4 → parseFieldDescriptor (am_T3 k).2.2.1 = some (am_ty3 k) := by decide +kernel
theorem am_nmK3 : ∀ a, a < 4 → ∀ b, b < 4 → a ≠ b → (am_T3 a).2.1 ≠ (am_T3 b).2.1 := by decide +kernel
theorem am_fsK3 : (am_fs3.length = 4) ∧ ∀ k, k < 4 → (am_fs3[k]?).map am_kd = some (am_tk (am_ty3 k)) := by decide +kernel
theorem am_isK3 : Cond.instantiable am_R3 4 ∈ tables_1 ∧ Cond.initialized am_R3 ∈ tables_1 := ⟨List.mem_of_getElem? (i := 63) (by decide +kernel), List.mem_of_getElem? (i := 4) (by decide +kernel)⟩
set_option maxRecDepth 100000 in
theorem am_inK4 : ∀ w ∈ u_ws am_R4 am_T4 5, w ∈ lw_tbl := by decide +kernel
theorem am_tyK4 : ∀ k, k < 5 → parseFieldDescriptor (am_T4 k).2.2.1 = some (am_ty4 k) := by decide +kernel
theorem am_nmK4 : ∀ a, a < 5 → ∀ b, b < 5 → a ≠ b → (am_T4 a).2.1 ≠ (am_T4 b).2.1 := by decide +kernel
theorem am_fsK4 : (am_fs4.length = 5) ∧ ∀ k, k < 5 → (am_fs4[k]?).map am_kd = some (am_tk (am_ty4 k)) := by decide +kernel
theorem am_isK4 : Cond.instantiable am_R4 5 ∈ tables_1 ∧ Cond.initialized am_R4 ∈ tables_1 := ⟨List.mem_of_getElem? (i := 87) (by decide +kernel), List.mem_of_getElem? (i := 5) (by decide +kernel)⟩
set_option maxRecDepth 100000 in
theorem am_inK5 : ∀ w ∈ u_ws am_R5 am_T5 7, w ∈ lw_tbl := by decide +kernel
theorem am_tyK5 : ∀ k, k < 7 → parseFieldDescriptor (am_T5 k).2.2.1 = some (am_ty5 k) := by decide +kernel
theorem am_nmK5 : ∀ a, a < 7 → ∀ b, b < 7 → a ≠ b → (am_T5 a).2.1 ≠ (am_T5 b).2.1 := by decide +kernel
theorem am_fsK5 : (am_fs5.length = 7) ∧ ∀ k, k < 7 → (am_fs5[k]?).map am_kd = some (am_tk (am_ty5 k)) := by decide +kernel
theorem am_isK5 : Cond.instantiable am_R5 7 ∈ tables_1 ∧ Cond.initialized am_R5 ∈ tables_1 := ⟨List.mem_of_getElem? (i := 120) (by decide +kernel), List.mem_of_getElem? (i := 6) (by decide +kernel)⟩
set_option maxRecDepth 100000 in
theorem am_inK6 : ∀ w ∈ u_ws am_R6 am_T6 6, w ∈ lw_tbl := by decide +kernel
theorem am_tyK6 : ∀ k, k < 6 → parseFieldDescriptor (am_T6 k).2.2.1 = some (am_ty6 k) := by decide +kernel
theorem am_nmK6 : ∀ a, a < 6 → ∀ b, b < 6 → a ≠ b → (am_T6 a).2.1 ≠ (am_T6 b).2.1 := by decide +kernel
theorem am_fsK6 : (am_fs6.length = 6) ∧ ∀ k, k < 6 → (am_fs6[k]?).map am_kd = some (am_tk (am_ty6 k)) := by decide +kernel
theorem am_isK6 : Cond.instantiable am_R6 6 ∈ tables_1 ∧ Cond.initialized am_R6 ∈ tables_1 := ⟨List.mem_of_getElem? (i := 161) (by decide +kernel), List.mem_of_getElem? (i := 7) (by decide +kernel)⟩
set_option maxRecDepth 100000 in
theorem am_inK7 : ∀ w ∈ u_ws am_R7 am_T7 8, w ∈ lw_tbl := by decide +kernel
theorem am_tyK7 : ∀ k, k < 8 → parseFieldDescriptor (am_T7 k).2.2.1 = some (am_ty7 k) := by decide +kernel
theorem am_nmK7 : ∀ a, a < 8 → ∀ b, b < 8 → a ≠ b → (am_T7 a).2.1 ≠ (am_T7 b).2.1 := by decide +kernel
theorem am_fsK7 : (am_fs7.length = 8) ∧ ∀ k, k < 8 → (am_fs7[k]?).map am_kd = some (am_tk (am_ty7 k)) := by decide +kernel
theorem am_isK7 : Cond.instantiable am_R7 8 ∈ tables_1 ∧ Cond.initialized am_R7 ∈ tables_1 := ⟨List.mem_of_getElem? (i := 200) (by decide +kernel), List.mem_of_getElem? (i := 8) (by decide +kernel)⟩
set_option maxRecDepth 100000 in
theorem am_inK8 : ∀ w ∈ u_ws am_R8 am_T8 8, w ∈ lw_tbl := by decide +kernel
theorem am_tyK8 : ∀ k, k < 8 → parseFieldDescriptor (am_T8 k).2.2.1 = some (am_ty8 k) := by decide +kernel
theorem am_nmK8 : ∀ a, a < 8 → ∀ b, b < 8 → a ≠ b → (am_T8 a).2.1 ≠ (am_T8 b).2.1 := by decide +kernel
theorem am_fsK8 : (am_fs8.length = 8) ∧ ∀ k, k < 8 → (am_fs8[k]?).map am_kd = some (am_tk (am_ty8 k)) := by decide +kernel
theorem am_isK8 : Cond.instantiable am_R8 8 ∈ tables_1 ∧ Cond.initialized am_R8 ∈ tables_1 := ⟨List.mem_of_getElem? (i := 232) (by decide +kernel), List.mem_of_getElem? (i := 9) (by decide +kernel)⟩
set_option maxRecDepth 100000 in
theorem am_inK9 : ∀ w ∈ u_ws am_R9 am_T9 11, w ∈ lw_tbl := by decide +kernel
theorem am_tyK9 : ∀ k, k < 11 → parseFieldDescriptor (am_T9 k).2.2.1 = some (am_ty9 k) := by decide +kernel
theorem am_nmK9 : ∀ a, a < 11 → ∀ b, b < 11 → a ≠ b → (am_T9 a).2.1 ≠ (am_T9 b).2.1 := by decide +kernel
theorem am_fsK9 : (am_fs9.length = 11) ∧ ∀ k, k < 11 → (am_fs9[k]?).map am_kd = some (am_tk (am_ty9 k)) := by decide +kernel
theorem am_isK9 : Cond.instantiable am_R9 11 ∈ tables_1 ∧ Cond.initialized am_R9 ∈ tables_1 := ⟨List.mem_of_getElem? (i := 321) (by decide +kernel), List.mem_of_getElem? (i := 10) (by decide +kernel)⟩
set_option maxRecDepth 100000 in
theorem am_inK10 : ∀ w ∈ u_ws am_R10 am_T10 9, w ∈ lw_tbl := by decide +kernel
theorem am_tyK10 : ∀ k, k < 9 → parseFieldDescriptor (am_T10 k).2.2.1 = some (am_ty10 k) := by decide +kernel
theorem am_nmK10 : ∀ a, a < 9 → ∀ b, b < 9 → a ≠ b → (am_T10 a).2.1 ≠ (am_T10 b).2.1 := by decide +kernel
theorem am_fsK10 : (am_fs10.length = 9) ∧ ∀ k, k < 9 → (am_fs10[k]?).map am_kd = some (am_tk (am_ty10 k)) := by decide +kernel
theorem am_isK10 : Cond.instantiable am_R10 9 ∈ tables_1 ∧ Cond.initialized am_R10 ∈ tables_1 := ⟨List.mem_of_getElem? (i := 367) (by decide +kernel), List.mem_of_getElem? (i := 11) (by decide +kernel)⟩
set_option maxRecDepth 100000 in
theorem am_inK11 : ∀ w ∈ u_ws am_R11 am_T11 7, w ∈ lw_tbl := by decide +kernel
theorem am_tyK11 : ∀ k, k < 7 → parseFieldDescriptor (am_T11 k).2.2.1 = some (am_ty11 k) := by decide +kernel
theorem am_nmK11 : ∀ a, a < 7 → ∀ b, b < 7 → a ≠ b → (am_T11 a).2.1 ≠ (am_T11 b).2.1 := by decide +kernel
theorem am_fsK11 : (am_fs11.length = 7) ∧ ∀ k, k < 7 → (am_fs11[k]?).map am_kd = some (am_tk (am_ty11 k)) := by decide +kernel
theorem am_isK11 : Cond.instantiable am_R11 7 ∈ tables_1 ∧ Cond.initialized am_R11 ∈ tables_1 := ⟨List.mem_of_getElem? (i := 404) (by decide +kernel), List.mem_of_getElem? (i := 12) (by decide +kernel)⟩
set_option maxRecDepth 100000 in
theorem am_inK12 : ∀ w ∈ u_ws am_R12 am_T12 32, w ∈ lw_tbl := by decide +kernel
theorem am_tyK12 : ∀ k, k < 32 → parseFieldDescriptor (am_T12 k).2.2.1 = some (am_ty12 k) := by decide +kernel
theorem am_nmK12 : ∀ a, a < 32 → ∀ b, b < 32 → a ≠ b → (am_T12 a).2.1 ≠ (am_T12 b).2.1 := by decide +kernel
theorem am_fsK12 : (am_fs12.length = 32) ∧ ∀ k, k < 32 → (am_fs12[k]?).map am_kd = some (am_tk (am_ty12 k)) := by decide +kernel
theorem am_isK12 : Cond.instantiable am_R12 32 ∈ tables_1 ∧ Cond.initialized am_R12 ∈ tables_1 := ⟨List.mem_of_getElem? (i := 1184) (by decide +kernel), List.mem_of_getElem? (i := 13) (by decide +kernel)⟩
/-- what the tables say of a class -/
theorem am_tl1 {w : Cond} (h : w ∈ lw_tbl) (hg : goodWord w = true) : w ∈ am_T := List.mem_filter.mpr ⟨h, hg⟩
theorem am_uwg {C : String} {T : u_T} {N : Nat} {w : Cond} (h : w ∈ u_ws C T N) : goodWord w = true := by
  unfold u_ws at h
  obtain ⟨k, -, rfl⟩ := List.mem_map.mp h
  unfold u_lay
  split <;> rfl
def am_Kf (ci : Nat) (C : String) (T : u_T) (N : Nat) : Prop := (∀ w ∈ u_ws C T N, w ∈ am_T) ∧ (∃ ty0 : Nat → FieldType, (∀ k, k < N → parseFieldDescriptor (T k).2.2.1 = some (ty0 k)) ∧ ∀ k, k < N → ((am_fs ci)[k]?).map am_kd = some (am_tk (ty0 k))) ∧ (∀ a, a < N → ∀ b, b < N → a ≠ b → (T a).2.1 ≠ (T b).2.1) ∧ (am_fs ci).length = N ∧ Cond.instantiable C N ∈ tables_1 ∧ Cond.initialized C ∈ tables_1

theorem am_KK0 : am_Kf 0 am_R0 am_T0 8 := ⟨fun w h => am_tl1 (am_inK0 w h) (am_uwg h), ⟨am_ty0, am_tyK0, am_fsK0.2⟩, am_nmK0, am_fsK0.1, am_isK0⟩
theorem am_KK1 : am_Kf 1 am_R1 am_T1 8 := ⟨fun w h => am_tl1 (am_inK1 w h) (am_uwg h), ⟨am_ty1, am_tyK1, am_fsK1.2⟩, am_nmK1, am_fsK1.1, am_isK1⟩
theorem am_KK2 : am_Kf 2 am_R2 am_T2 4 := ⟨fun w h => am_tl1 (am_inK2 w h) (am_uwg h), ⟨am_ty2, am_tyK2, am_fsK2.2⟩, am_nmK2, am_fsK2.1, am_isK2⟩
theorem am_KK3 : am_Kf 3 am_R3 am_T3 4 := ⟨fun w h => am_tl1 (am_inK3 w h) (am_uwg h), ⟨am_ty3, am_tyK3, am_fsK3.2⟩, am_nmK3, am_fsK3.1, am_isK3⟩
theorem am_KK4 : am_Kf 4 am_R4 am_T4 5 := ⟨fun w h => am_tl1 (am_inK4 w h) (am_uwg h), ⟨am_ty4, am_tyK4, am_fsK4.2⟩, am_nmK4, am_fsK4.1, am_isK4⟩
theorem am_KK5 : am_Kf 5 am_R5 am_T5 7 := ⟨fun w h => am_tl1 (am_inK5 w h) (am_uwg h), ⟨am_ty5, am_tyK5, am_fsK5.2⟩, am_nmK5, am_fsK5.1, am_isK5⟩
theorem am_KK6 : am_Kf 6 am_R6 am_T6 6 := ⟨fun w h => am_tl1 (am_inK6 w h) (am_uwg h), ⟨am_ty6, am_tyK6, am_fsK6.2⟩, am_nmK6, am_fsK6.1, am_isK6⟩
theorem am_KK7 : am_Kf 7 am_R7 am_T7 8 := ⟨fun w h => am_tl1 (am_inK7 w h) (am_uwg h), ⟨am_ty7, am_tyK7, am_fsK7.2⟩, am_nmK7, am_fsK7.1, am_isK7⟩
theorem am_KK8 : am_Kf 8 am_R8 am_T8 8 := ⟨fun w h => am_tl1 (am_inK8 w h) (am_uwg h), ⟨am_ty8, am_tyK8, am_fsK8.2⟩, am_nmK8, am_fsK8.1, am_isK8⟩
theorem am_KK9 : am_Kf 9 am_R9 am_T9 11 := ⟨fun w h => am_tl1 (am_inK9 w h) (am_uwg h), ⟨am_ty9, am_tyK9, am_fsK9.2⟩, am_nmK9, am_fsK9.1, am_isK9⟩
theorem am_KK10 : am_Kf 10 am_R10 am_T10 9 := ⟨fun w h => am_tl1 (am_inK10 w h) (am_uwg h), ⟨am_ty10, am_tyK10, am_fsK10.2⟩, am_nmK10, am_fsK10.1, am_isK10⟩
theorem am_KK11 : am_Kf 11 am_R11 am_T11 7 := ⟨fun w h => am_tl1 (am_inK11 w h) (am_uwg h), ⟨am_ty11, am_tyK11, am_fsK11.2⟩, am_nmK11, am_fsK11.1, am_isK11⟩
theorem am_KK12 : am_Kf 12 am_R12 am_T12 32 := ⟨fun w h => am_tl1 (am_inK12 w h) (am_uwg h), ⟨am_ty12, am_tyK12, am_fsK12.2⟩, am_nmK12, am_fsK12.1, am_isK12⟩
theorem am_cls : ∀ (ci : Nat) (C : String) (T : u_T) (N : Nat), am_cl[ci]? = some (C, T, N) → am_Kf ci C T N := by
  intro ci C T N hq
  match ci, hq with
  | 0, hq => cases hq; exact am_KK0
  | 1, hq => cases hq; exact am_KK1
  | 2, hq => cases hq; exact am_KK2
  | 3, hq => cases hq; exact am_KK3
  | 4, hq => cases hq; exact am_KK4
  | 5, hq => cases hq; exact am_KK5
  | 6, hq => cases hq; exact am_KK6
  | 7, hq => cases hq; exact am_KK7
  | 8, hq => cases hq; exact am_KK8
  | 9, hq => cases hq; exact am_KK9
  | 10, hq => cases hq; exact am_KK10
  | 11, hq => cases hq; exact am_KK11
  | 12, hq => cases hq; exact am_KK12
  | k + 13, hq => simp [am_cl] at hq
theorem am_tb {w : Cond} (h : w ∈ tables_1) (hg : goodWord w = true := by rfl) : w ∈ am_T := List.mem_filter.mpr ⟨List.mem_append_right _ h, hg⟩
/-! THE HEAP'S ROWS -/
theorem am_up_ne {I : Nat → Int → Int} {k j : Nat} {i v : Int} (h : j ≠ k) : am_up I k i v j = I j := by
  funext x
  simp [am_up, h]
theorem am_up_eq (I : Nat → Int → Int) (k : Nat) (i v x : Int) : am_up I k i v k x = if x = i then v else I k x := by simp [am_up]
theorem am_ce_congr {ad : Nat → Nat} {cA : Nat → ClassId} {I L I' L' : Nat → Int → Int} {k : Nat} (c : am_K) (hI : I' k = I k) (hL : L' k = L k) : am_ce ad cA I' L' k c = am_ce ad cA I L k c := by
  rcases c with ⟨ty, n⟩ | ⟨ci, fs⟩
  · cases ty <;> simp only [am_ce, hI, hL]
  · simp only [am_ce]
    congr 2
    apply List.ext_getElem?
    intro j
    simp only [List.getElem?_mapIdx]
    cases fs[j]? with
    | none => rfl
    | some f =>
      simp only [Option.map_some]
      rcases f with t | (_ | r)
      · cases t <;> simp only [am_fv, hI, hL]
      · rfl
      · rfl
theorem am_ws_at {ad : Nat → Nat} {cA : Nat → ClassId} {h : am_H} {k : Nat} {c : am_K} (hk : h.1[k]? = some c) : (am_ws ad cA h)[k]? = some (ad k, am_ce ad cA h.2.1 h.2.2 k c) := by
  unfold am_ws
  rw [List.getElem?_mapIdx, hk]
  rfl
theorem am_ws_set {ad : Nat → Nat} {cA : Nat → ClassId} {S : List am_K} {I L I' L' : Nat → Int → Int} {k : Nat} {c0 c1 : am_K} (hk : S[k]? = some c0) (hI : ∀ j, j ≠ k → I' j = I j) (hL : ∀ j, j ≠ k → L' j = L j) : (am_ws ad cA (S, I, L)).set k (ad k, am_ce ad cA I' L' k c1) = am_ws ad cA (S.set k c1, I', L') := by
  have hl : k < S.length := (List.getElem?_eq_some_iff.mp hk).1
  apply List.ext_getElem?
  intro j
  unfold am_ws
  by_cases e : j = k
  · subst e
    rw [List.getElem?_set_self (by rw [List.length_mapIdx]; exact hl), List.getElem?_mapIdx, List.getElem?_set_self hl]
    rfl
  · rw [List.getElem?_set_ne (Ne.symm e), List.getElem?_mapIdx, List.getElem?_mapIdx, List.getElem?_set_ne (Ne.symm e)]
    cases S[j]? with
    | none => rfl
    | some c => simp only [Option.map_some]; rw [am_ce_congr c (hI j e) (hL j e)]
theorem am_set_same {α : Type} {S : List α} {k : Nat} {c : α} (h : S[k]? = some c) : S.set k c = S := by
  apply List.ext_getElem?
  intro j
  by_cases e : j = k
  · subst e
    rw [List.getElem?_set_self (List.getElem?_eq_some_iff.mp h).1, h]
  · rw [List.getElem?_set_ne (Ne.symm e)]
theorem am_g_upI {S : List am_K} {I L : Nat → Int → Int} {k : Nat} {i v : Int} (h : am_g (S, I, L)) (hv : am_r v) : am_g (S, am_up I k i v, L) := by
  refine ⟨fun a x => ?_, h.2.1, h.2.2.1, h.2.2.2⟩
  show am_r (am_up I k i v a x)
  unfold am_up
  split
  · split
    · exact hv
    · exact h.1 _ _
  · exact h.1 _ _
theorem am_g_upL {S : List am_K} {I L : Nat → Int → Int} {k : Nat} {i v : Int} (h : am_g (S, I, L)) (hv : am_rl v) : am_g (S, I, am_up L k i v) := by
  refine ⟨h.1, fun a x => ?_, h.2.2.1, h.2.2.2⟩
  show am_rl (am_up L k i v a x)
  unfold am_up
  split
  · split
    · exact hv
    · exact h.2.1 _ _
  · exact h.2.1 _ _
theorem am_ib {i : Int} {n : Int} (hi : am_r i) (hn : 0 ≤ n) (h : 0 ≤ i ∧ i < n) : vp_in (Int32.ofInt i) n.toNat ∧ (Int32.ofInt i).toNatClampNeg = i.toNat := by
  have e : (Int32.ofInt i).toNatClampNeg = i.toNat := by rw [← Int32.toNat_toInt, am_t hi]
  refine ⟨fun z => ?_, e⟩
  rcases z with z | z
  · rw [← am_0, am_lt hi am_r0] at z
    omega
  · rw [e] at z
    omega
theorem am_toNat {i : Int} (h : 0 ≤ i) : ((i.toNat : Nat) : Int) = i := Int.toNat_of_nonneg h
theorem am_updI {I : Nat → Int → Int} {k : Nat} {i v : Int} (h : 0 ≤ i) : upd (fun j : Nat => Int32.ofInt (I k j)) i.toNat (Int32.ofInt v) = fun j : Nat => Int32.ofInt (am_up I k i v k j) := by
  funext j
  rw [am_up_eq]
  unfold upd
  by_cases e : j = i.toNat
  · rw [if_pos e, if_pos (by rw [e]; exact am_toNat h)]
  · rw [if_neg e, if_neg (by omega)]
theorem am_updL {L : Nat → Int → Int} {k : Nat} {i v : Int} (h : 0 ≤ i) : vp_updL (fun j : Nat => Int64.ofInt (L k j)) i.toNat (Int64.ofInt v) = fun j : Nat => Int64.ofInt (am_up L k i v k j) := by
  funext j
  rw [am_up_eq]
  unfold vp_updL
  by_cases e : j = i.toNat
  · rw [if_pos e, if_pos (by rw [e]; exact am_toNat h)]
  · rw [if_neg e, if_neg (by omega)]
section SO2
variable {p : Program} {l : Launch} {e : Env} {R : Room} {s : State} {m : MethodId} {args : Array Value} {below : List Frame} {meth : Method} {c : Code} {D : va_G} {A : Nat → Prop} {ro : Nat → Int × (Int → Int)} {ra ad0 : Nat → Nat} {n0 mid d mc ms : Nat} {QF : State → Prop}
variable {pc : Nat} {lv : List (Option am_V)} {st : List am_V} {S : List am_K} {I L : Nat → Int → Int} {bc bs : Nat}
theorem am_s_iaload {a : Nat} {i n : Int} (X : am_Ctx p R s m args meth c A ro ra mid d mc ms) (hd : decode (am_by mid) pc = .ok (.iaload, 1)) (hS : S[a]? = some (.inl (.int, n))) (hi : 0 ≤ i ∧ i < n) (k : am_Wp p l e R s m args below meth c D A ra ad0 n0 mid mc ms QF (pc + 1, lv, am_I (I a i) :: st, (S, I, L), bc, bs)) : am_Wp p l e R s m args below meth c D A ra ad0 n0 mid mc ms QF (pc, lv, am_I i :: am_R a :: st, (S, I, L), bc, bs) := by
  intro ad cA H locs ls cells slots hr
  obtain ⟨hP, hD, hK, hKs, hg⟩ := hr.1
  have hir : am_r i := am_hd hr.sk
  obtain ⟨h1, h2⟩ := am_ib hir ((hg.2.2.2 a _ n hS).1).1 hi
  have k1 := k ad cA H locs ls cells slots (am_Rel.st hr (am_cons (show am_ok _ (am_I (I a i)) from (hg.1 a i)) (am_tail (am_tail hr.sk))))
  refine va_iald X.1 X.2.1 (hKs a _ n hS) hP a 0 (f := (fun j : Nat => Int32.ofInt (I a j))) (am_ws_at (h := (S, I, L)) hS) rfl h1 hd ?_
  rw [h2]
  show W p l e R s m args below meth c H locs cells slots QF (F0 m (pc + 1) ls (.int (Int32.ofInt (I a (i.toNat : Int))) :: st.map (am_c ad ra)))
  rw [am_toNat hi.1]
  exact k1
theorem am_s_baload {a : Nat} {i n : Int} (X : am_Ctx p R s m args meth c A ro ra mid d mc ms) (hd : decode (am_by mid) pc = .ok (.baload, 1)) (hS : S[a]? = some (.inl (.boolean, n))) (hi : 0 ≤ i ∧ i < n) (k : am_Wp p l e R s m args below meth c D A ra ad0 n0 mid mc ms QF (pc + 1, lv, am_I (I a i) :: st, (S, I, L), bc, bs)) : am_Wp p l e R s m args below meth c D A ra ad0 n0 mid mc ms QF (pc, lv, am_I i :: am_R a :: st, (S, I, L), bc, bs) := by
  intro ad cA H locs ls cells slots hr
  obtain ⟨hP, hD, hK, hKs, hg⟩ := hr.1
  have hir : am_r i := am_hd hr.sk
  obtain ⟨h1, h2⟩ := am_ib hir ((hg.2.2.2 a _ n hS).1).1 hi
  have k1 := k ad cA H locs ls cells slots (am_Rel.st hr (am_cons (show am_ok _ (am_I (I a i)) from (hg.1 a i)) (am_tail (am_tail hr.sk))))
  refine va_zald X.1 X.2.1 (hKs a _ n hS) hP a 0 (f := (fun j : Nat => Int32.ofInt (I a j))) (am_ws_at (h := (S, I, L)) hS) rfl h1 hd ?_
  rw [h2]
  show W p l e R s m args below meth c H locs cells slots QF (F0 m (pc + 1) ls (.int (Int32.ofInt (I a (i.toNat : Int))) :: st.map (am_c ad ra)))
  rw [am_toNat hi.1]
  exact k1
theorem am_s_laload {a : Nat} {i n : Int} (X : am_Ctx p R s m args meth c A ro ra mid d mc ms) (hd : decode (am_by mid) pc = .ok (.laload, 1)) (hS : S[a]? = some (.inl (.long, n))) (hi : 0 ≤ i ∧ i < n) (k : am_Wp p l e R s m args below meth c D A ra ad0 n0 mid mc ms QF (pc + 1, lv, am_L (L a i) :: st, (S, I, L), bc, bs)) : am_Wp p l e R s m args below meth c D A ra ad0 n0 mid mc ms QF (pc, lv, am_I i :: am_R a :: st, (S, I, L), bc, bs) := by
  intro ad cA H locs ls cells slots hr
  obtain ⟨hP, hD, hK, hKs, hg⟩ := hr.1
  have hir : am_r i := am_hd hr.sk
  obtain ⟨h1, h2⟩ := am_ib hir ((hg.2.2.2 a _ n hS).1).1 hi
  have k1 := k ad cA H locs ls cells slots (am_Rel.st hr (am_cons (show am_ok _ (am_L (L a i)) from (hg.2.1 a i)) (am_tail (am_tail hr.sk))))
  refine va_lald X.1 X.2.1 (hKs a _ n hS) hP a 0 (f := (fun j : Nat => Int64.ofInt (L a j))) (am_ws_at (h := (S, I, L)) hS) rfl h1 hd ?_
  rw [h2]
  show W p l e R s m args below meth c H locs cells slots QF (F0 m (pc + 1) ls (.long (Int64.ofInt (L a (i.toNat : Int))) :: st.map (am_c ad ra)))
  rw [am_toNat hi.1]
  exact k1
theorem am_s_ialoadO {j : Nat} {i : Int} (X : am_Ctx p R s m args meth c A ro ra mid d mc ms) (hj : j < 3) (hd : decode (am_by mid) pc = .ok (.iaload, 1)) (hi : 0 ≤ i ∧ i < (ro j).1) (k : am_Wp p l e R s m args below meth c D A ra ad0 n0 mid mc ms QF (pc + 1, lv, am_I ((ro j).2 i) :: st, (S, I, L), bc, bs)) : am_Wp p l e R s m args below meth c D A ra ad0 n0 mid mc ms QF (pc, lv, am_I i :: am_O j :: st, (S, I, L), bc, bs) := by
  intro ad cA H locs ls cells slots hr
  obtain ⟨hP, hD, hK, hKs, hg⟩ := hr.1
  have hir : am_r i := am_hd hr.sk
  obtain ⟨hx, hnA, hn0, hn1⟩ := X.2.2.2.2.2.2.1.1 j hj
  obtain ⟨h1, h2⟩ := am_ib hir hn0 hi
  have k1 := k ad cA H locs ls cells slots (am_Rel.st hr (am_cons (show am_ok _ (am_I ((ro j).2 i)) from X.2.2.2.2.2.2.1.2.1 j i) (am_tail (am_tail hr.sk))))
  have hbl : ra j < s.heap.size := by
    obtain ⟨scr, h3, -⟩ := hx
    exact (Array.getElem?_eq_some_iff.mp h3).1
  refine va_sld X.1 X.2.1 hx hbl hnA hr.2.1 h1 hd ?_
  rw [h2]
  show W p l e R s m args below meth c H locs cells slots QF (F0 m (pc + 1) ls (.int (Int32.ofInt ((ro j).2 (i.toNat : Int))) :: st.map (am_c ad ra)))
  rw [am_toNat hi.1]
  exact k1
theorem am_s_iastore {a : Nat} {i n x : Int} (X : am_Ctx p R s m args meth c A ro ra mid d mc ms) (hd : decode (am_by mid) pc = .ok (.iastore, 1)) (hS : S[a]? = some (.inl (.int, n))) (hi : 0 ≤ i ∧ i < n) (k : am_Wp p l e R s m args below meth c D A ra ad0 n0 mid mc ms QF (pc + 1, lv, st, (S, am_up I a i x, L), bc, bs)) : am_Wp p l e R s m args below meth c D A ra ad0 n0 mid mc ms QF (pc, lv, am_I x :: am_I i :: am_R a :: st, (S, I, L), bc, bs) := by
  intro ad cA H locs ls cells slots hr
  obtain ⟨hP, hD, hK, hKs, hg⟩ := hr.1
  have hxr : am_r x := am_hd hr.sk
  have hir : am_r i := am_hd (am_tail hr.sk)
  obtain ⟨h1, h2⟩ := am_ib hir ((hg.2.2.2 a _ n hS).1).1 hi
  refine va_iast X.1 X.2.1 (hKs a _ n hS) hP hD hr.2.1 a 0 (f := (fun j : Nat => Int32.ofInt (I a j))) (am_ws_at (h := (S, I, L)) hS) rfl h1 hd (fun H1 locs1 hP1 hD1 hS1 => ?_)
  rw [h2, show (.inl (cA a, n.toNat, .inl (upd (fun j : Nat => Int32.ofInt (I a j)) i.toNat (Int32.ofInt x))) : va_E) = am_ce ad cA (am_up I a i x) L a (.inl (.int, n)) from by rw [am_updI hi.1]; rfl, am_ws_set (I' := am_up I a i x) (L' := L) (c1 := .inl (.int, n)) hS (fun _ q => am_up_ne q) (fun _ _ => rfl), am_set_same hS] at hP1 hD1
  exact k ad cA H1 locs1 ls cells slots ⟨⟨hP1, hD1, hK, hKs, am_g_upI hg hxr⟩, hS1, hr.2.2.1, hr.2.2.2.1, am_tail (am_tail (am_tail hr.sk)), hr.2.2.2.2.2⟩
theorem am_s_bastore {a : Nat} {i n x : Int} (X : am_Ctx p R s m args meth c A ro ra mid d mc ms) (hd : decode (am_by mid) pc = .ok (.bastore, 1)) (hS : S[a]? = some (.inl (.boolean, n))) (hz : x = 0 ∨ x = 1) (hi : 0 ≤ i ∧ i < n) (k : am_Wp p l e R s m args below meth c D A ra ad0 n0 mid mc ms QF (pc + 1, lv, st, (S, am_up I a i x, L), bc, bs)) : am_Wp p l e R s m args below meth c D A ra ad0 n0 mid mc ms QF (pc, lv, am_I x :: am_I i :: am_R a :: st, (S, I, L), bc, bs) := by
  intro ad cA H locs ls cells slots hr
  obtain ⟨hP, hD, hK, hKs, hg⟩ := hr.1
  have hxr : am_r x := am_hd hr.sk
  have hir : am_r i := am_hd (am_tail hr.sk)
  obtain ⟨h1, h2⟩ := am_ib hir ((hg.2.2.2 a _ n hS).1).1 hi
  refine va_zast X.1 X.2.1 (hKs a _ n hS) hP hD hr.2.1 a 0 (f := (fun j : Nat => Int32.ofInt (I a j))) (am_ws_at (h := (S, I, L)) hS) rfl h1 hd (fun H1 locs1 hP1 hD1 hS1 => ?_)
  have hnar : vp_nar .boolean (Int32.ofInt x) = Int32.ofInt x := by rcases hz with rfl | rfl <;> decide
  rw [hnar] at hP1 hD1
  rw [h2, show (.inl (cA a, n.toNat, .inl (upd (fun j : Nat => Int32.ofInt (I a j)) i.toNat (Int32.ofInt x))) : va_E) = am_ce ad cA (am_up I a i x) L a (.inl (.boolean, n)) from by rw [am_updI hi.1]; rfl, am_ws_set (I' := am_up I a i x) (L' := L) (c1 := .inl (.boolean, n)) hS (fun _ q => am_up_ne q) (fun _ _ => rfl), am_set_same hS] at hP1 hD1
  exact k ad cA H1 locs1 ls cells slots ⟨⟨hP1, hD1, hK, hKs, am_g_upI hg hxr⟩, hS1, hr.2.2.1, hr.2.2.2.1, am_tail (am_tail (am_tail hr.sk)), hr.2.2.2.2.2⟩
theorem am_s_lastore {a : Nat} {i n x : Int} (X : am_Ctx p R s m args meth c A ro ra mid d mc ms) (hd : decode (am_by mid) pc = .ok (.lastore, 1)) (hS : S[a]? = some (.inl (.long, n))) (hi : 0 ≤ i ∧ i < n) (k : am_Wp p l e R s m args below meth c D A ra ad0 n0 mid mc ms QF (pc + 1, lv, st, (S, I, am_up L a i x), bc, bs)) : am_Wp p l e R s m args below meth c D A ra ad0 n0 mid mc ms QF (pc, lv, am_L x :: am_I i :: am_R a :: st, (S, I, L), bc, bs) := by
  intro ad cA H locs ls cells slots hr
  obtain ⟨hP, hD, hK, hKs, hg⟩ := hr.1
  have hxr : am_rl x := am_hd hr.sk
  have hir : am_r i := am_hd (am_tail hr.sk)
  obtain ⟨h1, h2⟩ := am_ib hir ((hg.2.2.2 a _ n hS).1).1 hi
  refine va_last X.1 X.2.1 (hKs a _ n hS) hP hD hr.2.1 a 0 (f := (fun j : Nat => Int64.ofInt (L a j))) (am_ws_at (h := (S, I, L)) hS) rfl h1 hd (fun H1 locs1 hP1 hD1 hS1 => ?_)
  rw [h2, show (.inl (cA a, n.toNat, .inr (.inl (vp_updL (fun j : Nat => Int64.ofInt (L a j)) i.toNat (Int64.ofInt x)))) : va_E) = am_ce ad cA I (am_up L a i x) a (.inl (.long, n)) from by rw [am_updL hi.1]; rfl, am_ws_set (I' := I) (L' := am_up L a i x) (c1 := .inl (.long, n)) hS (fun _ _ => rfl) (fun _ q => am_up_ne q), am_set_same hS] at hP1 hD1
  exact k ad cA H1 locs1 ls cells slots ⟨⟨hP1, hD1, hK, hKs, am_g_upL hg hxr⟩, hS1, hr.2.2.1, hr.2.2.2.1, am_tail (am_tail (am_tail hr.sk)), hr.2.2.2.2.2⟩
theorem am_s_alen {a : Nat} {n : Int} {ty : FieldType} (X : am_Ctx p R s m args meth c A ro ra mid d mc ms) (hd : decode (am_by mid) pc = .ok (.arraylength, 1)) (hS : S[a]? = some (.inl (ty, n))) (k : am_Wp p l e R s m args below meth c D A ra ad0 n0 mid mc ms QF (pc + 1, lv, am_I n :: st, (S, I, L), bc, bs)) : am_Wp p l e R s m args below meth c D A ra ad0 n0 mid mc ms QF (pc, lv, am_R a :: st, (S, I, L), bc, bs) := by
  intro ad cA H locs ls cells slots hr
  obtain ⟨hP, hD, hK, hKs, hg⟩ := hr.1
  obtain ⟨⟨hn0, hn1⟩, hty⟩ := hg.2.2.2 a _ n hS
  have k1 := k ad cA H locs ls cells slots (am_Rel.st hr (am_cons (show am_ok _ (am_I n) from ⟨by omega, by omega⟩) (am_tail hr.sk)))
  have hv : Int32.ofNat n.toNat = Int32.ofInt n := by rw [← Int32.ofInt_eq_ofNat, am_toNat hn0]
  rcases hty with rfl | rfl | rfl
  · exact va_alen X.1 X.2.1 (hKs a _ n hS) hP a 0 (am_ws_at (h := (S, I, L)) hS) rfl hv hd k1
  · exact va_alen X.1 X.2.1 (hKs a _ n hS) hP a 0 (am_ws_at (h := (S, I, L)) hS) rfl hv hd k1
  · exact va_alen X.1 X.2.1 (hKs a _ n hS) hP a 0 (am_ws_at (h := (S, I, L)) hS) rfl hv hd k1
theorem am_s_alenO {j : Nat} (X : am_Ctx p R s m args meth c A ro ra mid d mc ms) (hj : j < 3) (hd : decode (am_by mid) pc = .ok (.arraylength, 1)) (k : am_Wp p l e R s m args below meth c D A ra ad0 n0 mid mc ms QF (pc + 1, lv, am_I (ro j).1 :: st, (S, I, L), bc, bs)) : am_Wp p l e R s m args below meth c D A ra ad0 n0 mid mc ms QF (pc, lv, am_O j :: st, (S, I, L), bc, bs) := by
  intro ad cA H locs ls cells slots hr
  obtain ⟨hP, hD, hK, hKs, hg⟩ := hr.1
  obtain ⟨hx, hnA, hn0, hn1⟩ := X.2.2.2.2.2.2.1.1 j hj
  have k1 := k ad cA H locs ls cells slots (am_Rel.st hr (am_cons (show am_ok _ (am_I (ro j).1) from ⟨by omega, by omega⟩) (am_tail hr.sk)))
  have hbl : ra j < s.heap.size := by
    obtain ⟨scr, h3, -⟩ := hx
    exact (Array.getElem?_eq_some_iff.mp h3).1
  refine va_slen X.1 X.2.1 hx hbl hnA hr.2.1 hd ?_
  have hv : Int32.ofNat (ro j).1.toNat = Int32.ofInt (ro j).1 := by rw [← Int32.ofInt_eq_ofNat, am_toNat hn0]
  rw [hv]
  exact k1
theorem am_fs_at {ad : Nat → Nat} {I L : Nat → Int → Int} {a j : Nat} {fs : List am_F} {f : am_F} (h : fs[j]? = some f) : (fs.mapIdx (am_fv ad I L a))[j]? = some (am_fv ad I L a j f) := by
  rw [List.getElem?_mapIdx, h]
  rfl
theorem am_s_getI {a ci j idx : Nat} {z : Int} {fs : List am_F} {C : String} {T : u_T} {N : Nat} (X : am_Ctx p R s m args meth c A ro ra mid d mc ms) (hd : decode (am_by mid) pc = .ok (.getfield idx, 3)) (hz : z = (j : Int)) (hc : am_cl[ci]? = some (C, T, N)) (hj : j < N) (hdc : (T j).1 = C) (hw : Cond.fieldLink (am_nm mid).cls idx C (T j).2.1 (T j).2.2.1 ∈ tables_1) (hS : S[a]? = some (.inr (ci, fs))) (hf : fs[j]? = some (.inl .int)) (k : am_Wp p l e R s m args below meth c D A ra ad0 n0 mid mc ms QF (pc + 3, lv, am_I (I a z) :: st, (S, I, L), bc, bs)) : am_Wp p l e R s m args below meth c D A ra ad0 n0 mid mc ms QF (pc, lv, am_R a :: st, (S, I, L), bc, bs) := by
  intro ad cA H locs ls cells slots hr
  obtain ⟨hP, hD, hK, hKs, hg⟩ := hr.1
  subst hz
  have k1 := k ad cA H locs ls cells slots (am_Rel.st hr (am_cons (show am_ok _ (am_I (I a (j : Int))) from hg.1 a (j : Int)) (am_tail hr.sk)))
  obtain ⟨hin, -⟩ := am_cls ci C T N hc
  exact va_get X.1 X.2.1 X.2.2.2.2.1 hin X.2.2.2.1 hK hP a (am_ws_at (h := (S, I, L)) hS) hc j hj (X.2.2.2.2.1 _ (am_tb hw)) (fun _ q => by rw [← hdc]; exact q) (am_fs_at hf) hd k1
theorem am_s_getZ {a ci j idx : Nat} {z : Int} {fs : List am_F} {C : String} {T : u_T} {N : Nat} (X : am_Ctx p R s m args meth c A ro ra mid d mc ms) (hd : decode (am_by mid) pc = .ok (.getfield idx, 3)) (hz : z = (j : Int)) (hc : am_cl[ci]? = some (C, T, N)) (hj : j < N) (hdc : (T j).1 = C) (hw : Cond.fieldLink (am_nm mid).cls idx C (T j).2.1 (T j).2.2.1 ∈ tables_1) (hS : S[a]? = some (.inr (ci, fs))) (hf : fs[j]? = some (.inl .boolean)) (k : am_Wp p l e R s m args below meth c D A ra ad0 n0 mid mc ms QF (pc + 3, lv, am_I (I a z) :: st, (S, I, L), bc, bs)) : am_Wp p l e R s m args below meth c D A ra ad0 n0 mid mc ms QF (pc, lv, am_R a :: st, (S, I, L), bc, bs) := by
  intro ad cA H locs ls cells slots hr
  obtain ⟨hP, hD, hK, hKs, hg⟩ := hr.1
  subst hz
  have k1 := k ad cA H locs ls cells slots (am_Rel.st hr (am_cons (show am_ok _ (am_I (I a (j : Int))) from hg.1 a (j : Int)) (am_tail hr.sk)))
  obtain ⟨hin, -⟩ := am_cls ci C T N hc
  exact va_get X.1 X.2.1 X.2.2.2.2.1 hin X.2.2.2.1 hK hP a (am_ws_at (h := (S, I, L)) hS) hc j hj (X.2.2.2.2.1 _ (am_tb hw)) (fun _ q => by rw [← hdc]; exact q) (am_fs_at hf) hd k1
theorem am_s_getL {a ci j idx : Nat} {z : Int} {fs : List am_F} {C : String} {T : u_T} {N : Nat} (X : am_Ctx p R s m args meth c A ro ra mid d mc ms) (hd : decode (am_by mid) pc = .ok (.getfield idx, 3)) (hz : z = (j : Int)) (hc : am_cl[ci]? = some (C, T, N)) (hj : j < N) (hdc : (T j).1 = C) (hw : Cond.fieldLink (am_nm mid).cls idx C (T j).2.1 (T j).2.2.1 ∈ tables_1) (hS : S[a]? = some (.inr (ci, fs))) (hf : fs[j]? = some (.inl .long)) (k : am_Wp p l e R s m args below meth c D A ra ad0 n0 mid mc ms QF (pc + 3, lv, am_L (L a z) :: st, (S, I, L), bc, bs)) : am_Wp p l e R s m args below meth c D A ra ad0 n0 mid mc ms QF (pc, lv, am_R a :: st, (S, I, L), bc, bs) := by
  intro ad cA H locs ls cells slots hr
  obtain ⟨hP, hD, hK, hKs, hg⟩ := hr.1
  subst hz
  have k1 := k ad cA H locs ls cells slots (am_Rel.st hr (am_cons (show am_ok _ (am_L (L a (j : Int))) from hg.2.1 a (j : Int)) (am_tail hr.sk)))
  obtain ⟨hin, -⟩ := am_cls ci C T N hc
  exact va_get X.1 X.2.1 X.2.2.2.2.1 hin X.2.2.2.1 hK hP a (am_ws_at (h := (S, I, L)) hS) hc j hj (X.2.2.2.2.1 _ (am_tb hw)) (fun _ q => by rw [← hdc]; exact q) (am_fs_at hf) hd k1
theorem am_s_getN {a ci j idx : Nat} {z : Int} {fs : List am_F} {C : String} {T : u_T} {N : Nat} (X : am_Ctx p R s m args meth c A ro ra mid d mc ms) (hd : decode (am_by mid) pc = .ok (.getfield idx, 3)) (hz : z = (j : Int)) (hc : am_cl[ci]? = some (C, T, N)) (hj : j < N) (hdc : (T j).1 = C) (hw : Cond.fieldLink (am_nm mid).cls idx C (T j).2.1 (T j).2.2.1 ∈ tables_1) (hS : S[a]? = some (.inr (ci, fs))) (hf : fs[j]? = some (.inr none)) (k : am_Wp p l e R s m args below meth c D A ra ad0 n0 mid mc ms QF (pc + 3, lv, am_N :: st, (S, I, L), bc, bs)) : am_Wp p l e R s m args below meth c D A ra ad0 n0 mid mc ms QF (pc, lv, am_R a :: st, (S, I, L), bc, bs) := by
  intro ad cA H locs ls cells slots hr
  obtain ⟨hP, hD, hK, hKs, hg⟩ := hr.1
  subst hz
  have k1 := k ad cA H locs ls cells slots (am_Rel.st hr (am_cons trivial (am_tail hr.sk)))
  obtain ⟨hin, -⟩ := am_cls ci C T N hc
  exact va_get X.1 X.2.1 X.2.2.2.2.1 hin X.2.2.2.1 hK hP a (am_ws_at (h := (S, I, L)) hS) hc j hj (X.2.2.2.2.1 _ (am_tb hw)) (fun _ q => by rw [← hdc]; exact q) (am_fs_at hf) hd k1
theorem am_s_getR {a ci j idx r : Nat} {z : Int} {fs : List am_F} {C : String} {T : u_T} {N : Nat} (X : am_Ctx p R s m args meth c A ro ra mid d mc ms) (hd : decode (am_by mid) pc = .ok (.getfield idx, 3)) (hz : z = (j : Int)) (hc : am_cl[ci]? = some (C, T, N)) (hj : j < N) (hdc : (T j).1 = C) (hw : Cond.fieldLink (am_nm mid).cls idx C (T j).2.1 (T j).2.2.1 ∈ tables_1) (hS : S[a]? = some (.inr (ci, fs))) (hf : fs[j]? = some (.inr (some r))) (k : am_Wp p l e R s m args below meth c D A ra ad0 n0 mid mc ms QF (pc + 3, lv, am_R r :: st, (S, I, L), bc, bs)) : am_Wp p l e R s m args below meth c D A ra ad0 n0 mid mc ms QF (pc, lv, am_R a :: st, (S, I, L), bc, bs) := by
  intro ad cA H locs ls cells slots hr
  obtain ⟨hP, hD, hK, hKs, hg⟩ := hr.1
  subst hz
  have k1 := k ad cA H locs ls cells slots (am_Rel.st hr (am_cons (show am_ok _ (am_R r) from (hg.2.2.1 a ci fs hS).2 j r hf) (am_tail hr.sk)))
  obtain ⟨hin, -⟩ := am_cls ci C T N hc
  exact va_get X.1 X.2.1 X.2.2.2.2.1 hin X.2.2.2.1 hK hP a (am_ws_at (h := (S, I, L)) hS) hc j hj (X.2.2.2.2.1 _ (am_tb hw)) (fun _ q => by rw [← hdc]; exact q) (am_fs_at hf) hd k1
theorem am_fs_setI {ad : Nat → Nat} {I L : Nat → Int → Int} {a j : Nat} {x : Int} {fs : List am_F} {t : FieldType} (h : fs[j]? = some (.inl t)) (ht : t ≠ .long) : (fs.mapIdx (am_fv ad I L a)).set j (.int (Int32.ofInt x)) = fs.mapIdx (am_fv ad (am_up I a (j : Int) x) L a) := by
  apply List.ext_getElem?
  intro q
  by_cases eq : q = j
  · subst eq
    rw [List.getElem?_set_self (by rw [List.length_mapIdx]; exact (List.getElem?_eq_some_iff.mp h).1), List.getElem?_mapIdx, h]
    cases t <;> first | exact absurd rfl ht | simp [am_fv, am_up_eq]
  · rw [List.getElem?_set_ne (Ne.symm eq), List.getElem?_mapIdx, List.getElem?_mapIdx]
    have e2 : am_up I a (j : Int) x a (q : Int) = I a (q : Int) := by
      rw [am_up_eq, if_neg (by omega)]
    cases fs[q]? with
    | none => rfl
    | some f =>
      simp only [Option.map_some]
      rcases f with t | (_ | r)
      · cases t <;> simp only [am_fv, e2]
      · rfl
      · rfl
theorem am_fs_setL {ad : Nat → Nat} {I L : Nat → Int → Int} {a j : Nat} {x : Int} {fs : List am_F} (h : fs[j]? = some (.inl .long)) : (fs.mapIdx (am_fv ad I L a)).set j (.long (Int64.ofInt x)) = fs.mapIdx (am_fv ad I (am_up L a (j : Int) x) a) := by
  apply List.ext_getElem?
  intro q
  by_cases eq : q = j
  · subst eq
    rw [List.getElem?_set_self (by rw [List.length_mapIdx]; exact (List.getElem?_eq_some_iff.mp h).1), List.getElem?_mapIdx, h]
    simp [am_fv, am_up_eq]
  · rw [List.getElem?_set_ne (Ne.symm eq), List.getElem?_mapIdx, List.getElem?_mapIdx]
    have e2 : am_up L a (j : Int) x a (q : Int) = L a (q : Int) := by
      rw [am_up_eq, if_neg (by omega)]
    cases fs[q]? with
    | none => rfl
    | some f =>
      simp only [Option.map_some]
      rcases f with t | (_ | r)
      · cases t <;> simp only [am_fv, e2]
      · rfl
      · rfl
theorem am_fs_setR {ad : Nat → Nat} {I L : Nat → Int → Int} {a j : Nat} {r : Option Nat} {fs : List am_F} {f0 : am_F} (h : fs[j]? = some f0) : (fs.mapIdx (am_fv ad I L a)).set j (am_fv ad I L a j (.inr r)) = (fs.set j (.inr r)).mapIdx (am_fv ad I L a) := by
  apply List.ext_getElem?
  intro q
  have hl := (List.getElem?_eq_some_iff.mp h).1
  by_cases eq : q = j
  · subst eq
    rw [List.getElem?_set_self (by rw [List.length_mapIdx]; exact hl), List.getElem?_mapIdx, List.getElem?_set_self hl]
    rfl
  · rw [List.getElem?_set_ne (Ne.symm eq), List.getElem?_mapIdx, List.getElem?_mapIdx, List.getElem?_set_ne (Ne.symm eq)]
theorem am_kd_at {ci j : Nat} {fs : List am_F} {f : am_F} (hm : fs.map am_kd = (am_fs ci).map am_kd) (h : fs[j]? = some f) : ((am_fs ci)[j]?).map am_kd = some (am_kd f) := by
  have h1 : (fs.map am_kd)[j]? = ((am_fs ci).map am_kd)[j]? := by rw [hm]
  rw [List.getElem?_map, List.getElem?_map, h] at h1
  exact h1.symm
theorem am_kd_set {ci j : Nat} {fs : List am_F} {r0 r : Option Nat} (hm : fs.map am_kd = (am_fs ci).map am_kd) (h : fs[j]? = some (.inr r0)) : (fs.set j (.inr r)).map am_kd = (am_fs ci).map am_kd := by
  rw [← hm]
  apply List.ext_getElem?
  intro q
  rw [List.getElem?_map, List.getElem?_map]
  by_cases eq : q = j
  · subst eq
    rw [List.getElem?_set_self (List.getElem?_eq_some_iff.mp h).1, h]
    rfl
  · rw [List.getElem?_set_ne (Ne.symm eq)]
theorem am_nb {x : Int} (h : x = 0 ∨ x = 1) : narrow .boolean (.int (Int32.ofInt x)) = .int (Int32.ofInt x) := by
  rcases h with rfl | rfl
  · decide
  · decide
theorem am_fb {x : Int} (h : x = 0 ∨ x = 1) : fits .boolean (.int (Int32.ofInt x)) = true := by
  rcases h with rfl | rfl
  · decide
  · decide
theorem am_tk_int {t : FieldType} (h : am_tk t = some .int) : t = .int := by cases t <;> simp [am_tk] at h ⊢
theorem am_tk_long {t : FieldType} (h : am_tk t = some .long) : t = .long := by cases t <;> simp [am_tk] at h ⊢
theorem am_tk_bool {t : FieldType} (h : am_tk t = some .boolean) : t = .boolean := by cases t <;> simp [am_tk] at h ⊢
theorem am_s_putI {a ci j idx : Nat} {z x : Int} {fs : List am_F} {C : String} {T : u_T} {N : Nat} (X : am_Ctx p R s m args meth c A ro ra mid d mc ms) (hd : decode (am_by mid) pc = .ok (.putfield idx, 3)) (hz : z = (j : Int)) (hc : am_cl[ci]? = some (C, T, N)) (hj : j < N) (hdc : (T j).1 = C) (hw : Cond.fieldLink (am_nm mid).cls idx C (T j).2.1 (T j).2.2.1 ∈ tables_1) (hfin : (T j).2.2.2 = false ∨ (am_nm mid).name = "<init>" ∧ C = (am_nm mid).cls) (hS : S[a]? = some (.inr (ci, fs))) (hf : fs[j]? = some (.inl .int)) (k : am_Wp p l e R s m args below meth c D A ra ad0 n0 mid mc ms QF (pc + 3, lv, st, (S, am_up I a z x, L), bc, bs)) : am_Wp p l e R s m args below meth c D A ra ad0 n0 mid mc ms QF (pc, lv, am_I x :: am_R a :: st, (S, I, L), bc, bs) := by
  intro ad cA H locs ls cells slots hr
  obtain ⟨hP, hD, hK, hKs, hg⟩ := hr.1
  subst hz
  have hxr : am_r x := am_hd hr.sk
  obtain ⟨hin, ⟨ty0, hty, hkd⟩, hnm, -⟩ := am_cls ci C T N hc
  have et : ty0 j = .int := am_tk_int (Option.some.inj ((hkd j hj).symm.trans (am_kd_at (hg.2.2.1 a ci fs hS).1 hf)))
  have hpd : parseFieldDescriptor (T j).2.2.1 = some .int := by rw [hty j hj, et]
  have hjl : j < (fs.mapIdx (am_fv ad I L a)).length := by rw [List.length_mapIdx]; exact (List.getElem?_eq_some_iff.mp hf).1
  cases hfb : (T j).2.2.2 with
  | false =>
    refine va_put X.1 X.2.1 X.2.2.2.2.1 hin ty0 hty hnm X.2.2.2.1 hK hP hD hr.2.1 a (am_ws_at (h := (S, I, L)) hS) hc j hj (X.2.2.2.2.1 _ (am_tb hw)) (fun _ q => by rw [← hdc]; exact q) hfb hpd (rfl) (rfl) hjl hd (fun H1 locs1 hP1 hD1 hS1 => ?_)
    have hP1 : va_P D am_cl ((am_ws ad cA (S, I, L)).set a (ad a, .inr (ci, (fs.mapIdx (am_fv ad I L a)).set j (.int (Int32.ofInt x))))) H1 := hP1
    have hD1 : va_D A ((am_ws ad cA (S, I, L)).set a (ad a, .inr (ci, (fs.mapIdx (am_fv ad I L a)).set j (.int (Int32.ofInt x))))) := hD1
    rw [show (.inr (ci, (fs.mapIdx (am_fv ad I L a)).set j (.int (Int32.ofInt x))) : va_E) = am_ce ad cA (am_up I a (j : Int) x) L a (.inr (ci, fs)) from by rw [am_fs_setI hf (by decide)]; rfl, am_ws_set (I' := am_up I a (j : Int) x) (L' := L) (c1 := .inr (ci, fs)) hS (fun _ q => am_up_ne q) (fun _ _ => rfl), am_set_same hS] at hP1 hD1
    exact k ad cA H1 locs1 ls cells slots ⟨⟨hP1, hD1, hK, hKs, am_g_upI hg hxr⟩, hS1, hr.2.2.1, hr.2.2.2.1, am_tail (am_tail hr.sk), hr.2.2.2.2.2⟩
  | true =>
    obtain ⟨hi1, hi2⟩ := hfin.resolve_left (by rw [hfb]; decide)
    refine va_putF X.1 X.2.1 X.2.2.2.2.1 hin ty0 hty hnm X.2.2.2.1 hK hP hD hr.2.1 a (am_ws_at (h := (S, I, L)) hS) hc j hj (X.2.2.2.2.1 _ (am_tb hw)) (fun _ q => by rw [← hdc]; exact q) hfb (X.2.2.2.2.2.2.2.2.2.1.trans hi1) (hdc.trans hi2) hpd (rfl) (rfl) hjl hd (fun H1 locs1 hP1 hD1 hS1 => ?_)
    have hP1 : va_P D am_cl ((am_ws ad cA (S, I, L)).set a (ad a, .inr (ci, (fs.mapIdx (am_fv ad I L a)).set j (.int (Int32.ofInt x))))) H1 := hP1
    have hD1 : va_D A ((am_ws ad cA (S, I, L)).set a (ad a, .inr (ci, (fs.mapIdx (am_fv ad I L a)).set j (.int (Int32.ofInt x))))) := hD1
    rw [show (.inr (ci, (fs.mapIdx (am_fv ad I L a)).set j (.int (Int32.ofInt x))) : va_E) = am_ce ad cA (am_up I a (j : Int) x) L a (.inr (ci, fs)) from by rw [am_fs_setI hf (by decide)]; rfl, am_ws_set (I' := am_up I a (j : Int) x) (L' := L) (c1 := .inr (ci, fs)) hS (fun _ q => am_up_ne q) (fun _ _ => rfl), am_set_same hS] at hP1 hD1
    exact k ad cA H1 locs1 ls cells slots ⟨⟨hP1, hD1, hK, hKs, am_g_upI hg hxr⟩, hS1, hr.2.2.1, hr.2.2.2.1, am_tail (am_tail hr.sk), hr.2.2.2.2.2⟩
theorem am_s_putZ {a ci j idx : Nat} {z x : Int} {fs : List am_F} {C : String} {T : u_T} {N : Nat} (X : am_Ctx p R s m args meth c A ro ra mid d mc ms) (hd : decode (am_by mid) pc = .ok (.putfield idx, 3)) (hz : z = (j : Int)) (hc : am_cl[ci]? = some (C, T, N)) (hj : j < N) (hdc : (T j).1 = C) (hw : Cond.fieldLink (am_nm mid).cls idx C (T j).2.1 (T j).2.2.1 ∈ tables_1) (hfin : (T j).2.2.2 = false ∨ (am_nm mid).name = "<init>" ∧ C = (am_nm mid).cls) (hS : S[a]? = some (.inr (ci, fs))) (hf : fs[j]? = some (.inl .boolean)) (hbz : x = 0 ∨ x = 1) (k : am_Wp p l e R s m args below meth c D A ra ad0 n0 mid mc ms QF (pc + 3, lv, st, (S, am_up I a z x, L), bc, bs)) : am_Wp p l e R s m args below meth c D A ra ad0 n0 mid mc ms QF (pc, lv, am_I x :: am_R a :: st, (S, I, L), bc, bs) := by
  intro ad cA H locs ls cells slots hr
  obtain ⟨hP, hD, hK, hKs, hg⟩ := hr.1
  subst hz
  have hxr : am_r x := am_hd hr.sk
  obtain ⟨hin, ⟨ty0, hty, hkd⟩, hnm, -⟩ := am_cls ci C T N hc
  have et : ty0 j = .boolean := am_tk_bool (Option.some.inj ((hkd j hj).symm.trans (am_kd_at (hg.2.2.1 a ci fs hS).1 hf)))
  have hpd : parseFieldDescriptor (T j).2.2.1 = some .boolean := by rw [hty j hj, et]
  have hjl : j < (fs.mapIdx (am_fv ad I L a)).length := by rw [List.length_mapIdx]; exact (List.getElem?_eq_some_iff.mp hf).1
  cases hfb : (T j).2.2.2 with
  | false =>
    refine va_put X.1 X.2.1 X.2.2.2.2.1 hin ty0 hty hnm X.2.2.2.1 hK hP hD hr.2.1 a (am_ws_at (h := (S, I, L)) hS) hc j hj (X.2.2.2.2.1 _ (am_tb hw)) (fun _ q => by rw [← hdc]; exact q) hfb hpd (am_nb hbz) (am_fb hbz) hjl hd (fun H1 locs1 hP1 hD1 hS1 => ?_)
    have hP1 : va_P D am_cl ((am_ws ad cA (S, I, L)).set a (ad a, .inr (ci, (fs.mapIdx (am_fv ad I L a)).set j (.int (Int32.ofInt x))))) H1 := hP1
    have hD1 : va_D A ((am_ws ad cA (S, I, L)).set a (ad a, .inr (ci, (fs.mapIdx (am_fv ad I L a)).set j (.int (Int32.ofInt x))))) := hD1
    rw [show (.inr (ci, (fs.mapIdx (am_fv ad I L a)).set j (.int (Int32.ofInt x))) : va_E) = am_ce ad cA (am_up I a (j : Int) x) L a (.inr (ci, fs)) from by rw [am_fs_setI hf (by decide)]; rfl, am_ws_set (I' := am_up I a (j : Int) x) (L' := L) (c1 := .inr (ci, fs)) hS (fun _ q => am_up_ne q) (fun _ _ => rfl), am_set_same hS] at hP1 hD1
    exact k ad cA H1 locs1 ls cells slots ⟨⟨hP1, hD1, hK, hKs, am_g_upI hg hxr⟩, hS1, hr.2.2.1, hr.2.2.2.1, am_tail (am_tail hr.sk), hr.2.2.2.2.2⟩
  | true =>
    obtain ⟨hi1, hi2⟩ := hfin.resolve_left (by rw [hfb]; decide)
    refine va_putF X.1 X.2.1 X.2.2.2.2.1 hin ty0 hty hnm X.2.2.2.1 hK hP hD hr.2.1 a (am_ws_at (h := (S, I, L)) hS) hc j hj (X.2.2.2.2.1 _ (am_tb hw)) (fun _ q => by rw [← hdc]; exact q) hfb (X.2.2.2.2.2.2.2.2.2.1.trans hi1) (hdc.trans hi2) hpd (am_nb hbz) (am_fb hbz) hjl hd (fun H1 locs1 hP1 hD1 hS1 => ?_)
    have hP1 : va_P D am_cl ((am_ws ad cA (S, I, L)).set a (ad a, .inr (ci, (fs.mapIdx (am_fv ad I L a)).set j (.int (Int32.ofInt x))))) H1 := hP1
    have hD1 : va_D A ((am_ws ad cA (S, I, L)).set a (ad a, .inr (ci, (fs.mapIdx (am_fv ad I L a)).set j (.int (Int32.ofInt x))))) := hD1
    rw [show (.inr (ci, (fs.mapIdx (am_fv ad I L a)).set j (.int (Int32.ofInt x))) : va_E) = am_ce ad cA (am_up I a (j : Int) x) L a (.inr (ci, fs)) from by rw [am_fs_setI hf (by decide)]; rfl, am_ws_set (I' := am_up I a (j : Int) x) (L' := L) (c1 := .inr (ci, fs)) hS (fun _ q => am_up_ne q) (fun _ _ => rfl), am_set_same hS] at hP1 hD1
    exact k ad cA H1 locs1 ls cells slots ⟨⟨hP1, hD1, hK, hKs, am_g_upI hg hxr⟩, hS1, hr.2.2.1, hr.2.2.2.1, am_tail (am_tail hr.sk), hr.2.2.2.2.2⟩
theorem am_s_putL {a ci j idx : Nat} {z x : Int} {fs : List am_F} {C : String} {T : u_T} {N : Nat} (X : am_Ctx p R s m args meth c A ro ra mid d mc ms) (hd : decode (am_by mid) pc = .ok (.putfield idx, 3)) (hz : z = (j : Int)) (hc : am_cl[ci]? = some (C, T, N)) (hj : j < N) (hdc : (T j).1 = C) (hw : Cond.fieldLink (am_nm mid).cls idx C (T j).2.1 (T j).2.2.1 ∈ tables_1) (hfin : (T j).2.2.2 = false ∨ (am_nm mid).name = "<init>" ∧ C = (am_nm mid).cls) (hS : S[a]? = some (.inr (ci, fs))) (hf : fs[j]? = some (.inl .long)) (k : am_Wp p l e R s m args below meth c D A ra ad0 n0 mid mc ms QF (pc + 3, lv, st, (S, I, am_up L a z x), bc, bs)) : am_Wp p l e R s m args below meth c D A ra ad0 n0 mid mc ms QF (pc, lv, am_L x :: am_R a :: st, (S, I, L), bc, bs) := by
  intro ad cA H locs ls cells slots hr
  obtain ⟨hP, hD, hK, hKs, hg⟩ := hr.1
  subst hz
  have hxr : am_rl x := am_hd hr.sk
  obtain ⟨hin, ⟨ty0, hty, hkd⟩, hnm, -⟩ := am_cls ci C T N hc
  have et : ty0 j = .long := am_tk_long (Option.some.inj ((hkd j hj).symm.trans (am_kd_at (hg.2.2.1 a ci fs hS).1 hf)))
  have hpd : parseFieldDescriptor (T j).2.2.1 = some .long := by rw [hty j hj, et]
  have hjl : j < (fs.mapIdx (am_fv ad I L a)).length := by rw [List.length_mapIdx]; exact (List.getElem?_eq_some_iff.mp hf).1
  cases hfb : (T j).2.2.2 with
  | false =>
    refine va_put X.1 X.2.1 X.2.2.2.2.1 hin ty0 hty hnm X.2.2.2.1 hK hP hD hr.2.1 a (am_ws_at (h := (S, I, L)) hS) hc j hj (X.2.2.2.2.1 _ (am_tb hw)) (fun _ q => by rw [← hdc]; exact q) hfb hpd (rfl) (rfl) hjl hd (fun H1 locs1 hP1 hD1 hS1 => ?_)
    have hP1 : va_P D am_cl ((am_ws ad cA (S, I, L)).set a (ad a, .inr (ci, (fs.mapIdx (am_fv ad I L a)).set j (.long (Int64.ofInt x))))) H1 := hP1
    have hD1 : va_D A ((am_ws ad cA (S, I, L)).set a (ad a, .inr (ci, (fs.mapIdx (am_fv ad I L a)).set j (.long (Int64.ofInt x))))) := hD1
    rw [show (.inr (ci, (fs.mapIdx (am_fv ad I L a)).set j (.long (Int64.ofInt x))) : va_E) = am_ce ad cA I (am_up L a (j : Int) x) a (.inr (ci, fs)) from by rw [am_fs_setL hf]; rfl, am_ws_set (I' := I) (L' := am_up L a (j : Int) x) (c1 := .inr (ci, fs)) hS (fun _ _ => rfl) (fun _ q => am_up_ne q), am_set_same hS] at hP1 hD1
    exact k ad cA H1 locs1 ls cells slots ⟨⟨hP1, hD1, hK, hKs, am_g_upL hg hxr⟩, hS1, hr.2.2.1, hr.2.2.2.1, am_tail (am_tail hr.sk), hr.2.2.2.2.2⟩
  | true =>
    obtain ⟨hi1, hi2⟩ := hfin.resolve_left (by rw [hfb]; decide)
    refine va_putF X.1 X.2.1 X.2.2.2.2.1 hin ty0 hty hnm X.2.2.2.1 hK hP hD hr.2.1 a (am_ws_at (h := (S, I, L)) hS) hc j hj (X.2.2.2.2.1 _ (am_tb hw)) (fun _ q => by rw [← hdc]; exact q) hfb (X.2.2.2.2.2.2.2.2.2.1.trans hi1) (hdc.trans hi2) hpd (rfl) (rfl) hjl hd (fun H1 locs1 hP1 hD1 hS1 => ?_)
    have hP1 : va_P D am_cl ((am_ws ad cA (S, I, L)).set a (ad a, .inr (ci, (fs.mapIdx (am_fv ad I L a)).set j (.long (Int64.ofInt x))))) H1 := hP1
    have hD1 : va_D A ((am_ws ad cA (S, I, L)).set a (ad a, .inr (ci, (fs.mapIdx (am_fv ad I L a)).set j (.long (Int64.ofInt x))))) := hD1
    rw [show (.inr (ci, (fs.mapIdx (am_fv ad I L a)).set j (.long (Int64.ofInt x))) : va_E) = am_ce ad cA I (am_up L a (j : Int) x) a (.inr (ci, fs)) from by rw [am_fs_setL hf]; rfl, am_ws_set (I' := I) (L' := am_up L a (j : Int) x) (c1 := .inr (ci, fs)) hS (fun _ _ => rfl) (fun _ q => am_up_ne q), am_set_same hS] at hP1 hD1
    exact k ad cA H1 locs1 ls cells slots ⟨⟨hP1, hD1, hK, hKs, am_g_upL hg hxr⟩, hS1, hr.2.2.1, hr.2.2.2.1, am_tail (am_tail hr.sk), hr.2.2.2.2.2⟩
theorem am_s_putR {a ci j idx r : Nat} {fs : List am_F} {r0 : Option Nat} {C : String} {T : u_T} {N : Nat} (X : am_Ctx p R s m args meth c A ro ra mid d mc ms) (hd : decode (am_by mid) pc = .ok (.putfield idx, 3)) (hc : am_cl[ci]? = some (C, T, N)) (hj : j < N) (hdc : (T j).1 = C) (hw : Cond.fieldLink (am_nm mid).cls idx C (T j).2.1 (T j).2.2.1 ∈ tables_1) (hfin : (T j).2.2.2 = false ∨ (am_nm mid).name = "<init>" ∧ C = (am_nm mid).cls) (hS : S[a]? = some (.inr (ci, fs))) (hf : fs[j]? = some (.inr r0)) (k : am_Wp p l e R s m args below meth c D A ra ad0 n0 mid mc ms QF (pc + 3, lv, st, (S.set a (.inr (ci, fs.set j (.inr (some r)))), I, L), bc, bs)) : am_Wp p l e R s m args below meth c D A ra ad0 n0 mid mc ms QF (pc, lv, am_R r :: am_R a :: st, (S, I, L), bc, bs) := by
  intro ad cA H locs ls cells slots hr
  obtain ⟨hP, hD, hK, hKs, hg⟩ := hr.1
  have hok : am_ok S.length (am_R r) := am_hd hr.sk
  obtain ⟨hin, ⟨ty0, hty, hkd⟩, hnm, -⟩ := am_cls ci C T N hc
  have et : am_tk (ty0 j) = none := Option.some.inj ((hkd j hj).symm.trans (am_kd_at (hg.2.2.1 a ci fs hS).1 hf))
  have hjl : j < (fs.mapIdx (am_fv ad I L a)).length := by rw [List.length_mapIdx]; exact (List.getElem?_eq_some_iff.mp hf).1
  have hfd := fs
  have hpd := hty j hj
  have hla : a < S.length := (List.getElem?_eq_some_iff.mp hS).1
  have gd : am_g (S.set a (.inr (ci, fs.set j (.inr (some r)))), I, L) := by
    refine ⟨hg.1, hg.2.1, fun k2 c2 f2 h2 => ?_, fun k2 t2 m2 h2 => ?_⟩
    · show f2.map am_kd = _ ∧ ∀ j2 r2 : Nat, _ → r2 < (S.set a _).length
      rw [List.length_set]
      by_cases eq : k2 = a
      · subst eq
        have h2' : (S.set k2 (.inr (ci, fs.set j (.inr (some r)))))[k2]? = some (.inr (c2, f2)) := h2
        rw [List.getElem?_set_self hla] at h2'
        cases h2'
        refine ⟨am_kd_set (hg.2.2.1 k2 ci fs hS).1 hf, fun j2 r2 h3 => ?_⟩
        by_cases ej : j2 = j
        · subst ej
          rw [List.getElem?_set_self (List.getElem?_eq_some_iff.mp hf).1] at h3
          cases h3
          exact hok
        · rw [List.getElem?_set_ne (Ne.symm ej)] at h3
          exact (hg.2.2.1 k2 ci fs hS).2 j2 r2 h3
      · have h2' : (S.set a (.inr (ci, fs.set j (.inr (some r)))))[k2]? = some (.inr (c2, f2)) := h2
        rw [List.getElem?_set_ne (Ne.symm eq)] at h2'
        exact hg.2.2.1 k2 c2 f2 h2'
    · by_cases eq : k2 = a
      · subst eq
        have h2' : (S.set k2 (.inr (ci, fs.set j (.inr (some r)))))[k2]? = some (.inl (t2, m2)) := h2
        rw [List.getElem?_set_self hla] at h2'
        cases h2'
      · have h2' : (S.set a (.inr (ci, fs.set j (.inr (some r)))))[k2]? = some (.inl (t2, m2)) := h2
        rw [List.getElem?_set_ne (Ne.symm eq)] at h2'
        exact hg.2.2.2 k2 t2 m2 h2'
  have hKs2 : ∀ (k2 : Nat) (ty : FieldType) (n : Int), (S.set a (.inr (ci, fs.set j (.inr (some r)))))[k2]? = some (.inl (ty, n)) → va_K D am_cl [(cA k2, ty)] s := by
    intro k2 t2 m2 h2
    by_cases eq : k2 = a
    · subst eq
      rw [List.getElem?_set_self hla] at h2
      cases h2
    · rw [List.getElem?_set_ne (Ne.symm eq)] at h2
      exact hKs k2 t2 m2 h2
  have hlen : (S.set a (.inr (ci, fs.set j (.inr (some r)))) : List am_K).length = S.length := List.length_set
  have key : ∀ (H1 : Heap) (locs1 : List Loc), va_P D am_cl ((am_ws ad cA (S, I, L)).set a (ad a, .inr (ci, (fs.mapIdx (am_fv ad I L a)).set j (am_fv ad I L a j (.inr (some r)))))) H1 → va_D A ((am_ws ad cA (S, I, L)).set a (ad a, .inr (ci, (fs.mapIdx (am_fv ad I L a)).set j (am_fv ad I L a j (.inr (some r)))))) → va_S A s.heap H1 locs1 → W p l e R s m args below meth c H1 locs1 cells slots QF (F0 m (pc + 3) ls (st.map (am_c ad ra))) := by
    intro H1 locs1 hP1 hD1 hS1
    rw [am_fs_setR hf, show (.inr (ci, (fs.set j (.inr (some r))).mapIdx (am_fv ad I L a)) : va_E) = am_ce ad cA I L a (.inr (ci, fs.set j (.inr (some r)))) from rfl, am_ws_set (I' := I) (L' := L) (c1 := .inr (ci, fs.set j (.inr (some r)))) hS (fun _ _ => rfl) (fun _ _ => rfl)] at hP1 hD1
    refine k ad cA H1 locs1 ls cells slots ⟨⟨hP1, hD1, hK, hKs2, gd⟩, hS1, ⟨?_, hr.2.2.1.2⟩, ?_, ?_, hr.2.2.2.2.2⟩
    · show n0 ≤ (S.set a _).length
      rw [hlen]; exact hr.2.2.1.1
    · show am_Lo ad ra (S.set a _).length _ _ _
      rw [hlen]; exact hr.2.2.2.1
    · show ∀ v ∈ st, am_ok (S.set a _).length v
      rw [hlen]; exact am_tail (am_tail hr.sk)
  have hnr : narrow (ty0 j) (am_fv ad I L a j (.inr (some r))) = am_fv ad I L a j (.inr (some r)) ∧ fits (ty0 j) (am_fv ad I L a j (.inr (some r))) = true := by
    cases hq : ty0 j <;> rw [hq] at et <;> first | (simp [am_tk] at et; done) | exact ⟨rfl, rfl⟩
  cases hfb : (T j).2.2.2 with
  | false =>
    exact va_put X.1 X.2.1 X.2.2.2.2.1 hin ty0 hty hnm X.2.2.2.1 hK hP hD hr.2.1 a (am_ws_at (h := (S, I, L)) hS) hc j hj (X.2.2.2.2.1 _ (am_tb hw)) (fun _ q => by rw [← hdc]; exact q) hfb hpd hnr.1 hnr.2 hjl hd key
  | true =>
    obtain ⟨hi1, hi2⟩ := hfin.resolve_left (by rw [hfb]; decide)
    exact va_putF X.1 X.2.1 X.2.2.2.2.1 hin ty0 hty hnm X.2.2.2.1 hK hP hD hr.2.1 a (am_ws_at (h := (S, I, L)) hS) hc j hj (X.2.2.2.2.1 _ (am_tb hw)) (fun _ q => by rw [← hdc]; exact q) hfb (X.2.2.2.2.2.2.2.2.2.1.trans hi1) (hdc.trans hi2) hpd hnr.1 hnr.2 hjl hd key
theorem am_s_putN {a ci j idx : Nat} {fs : List am_F} {r0 : Option Nat} {C : String} {T : u_T} {N : Nat} (X : am_Ctx p R s m args meth c A ro ra mid d mc ms) (hd : decode (am_by mid) pc = .ok (.putfield idx, 3)) (hc : am_cl[ci]? = some (C, T, N)) (hj : j < N) (hdc : (T j).1 = C) (hw : Cond.fieldLink (am_nm mid).cls idx C (T j).2.1 (T j).2.2.1 ∈ tables_1) (hfin : (T j).2.2.2 = false ∨ (am_nm mid).name = "<init>" ∧ C = (am_nm mid).cls) (hS : S[a]? = some (.inr (ci, fs))) (hf : fs[j]? = some (.inr r0)) (k : am_Wp p l e R s m args below meth c D A ra ad0 n0 mid mc ms QF (pc + 3, lv, st, (S.set a (.inr (ci, fs.set j (.inr (none)))), I, L), bc, bs)) : am_Wp p l e R s m args below meth c D A ra ad0 n0 mid mc ms QF (pc, lv, am_N :: am_R a :: st, (S, I, L), bc, bs) := by
  intro ad cA H locs ls cells slots hr
  obtain ⟨hP, hD, hK, hKs, hg⟩ := hr.1
  have hok : am_ok S.length (am_N) := am_hd hr.sk
  obtain ⟨hin, ⟨ty0, hty, hkd⟩, hnm, -⟩ := am_cls ci C T N hc
  have et : am_tk (ty0 j) = none := Option.some.inj ((hkd j hj).symm.trans (am_kd_at (hg.2.2.1 a ci fs hS).1 hf))
  have hjl : j < (fs.mapIdx (am_fv ad I L a)).length := by rw [List.length_mapIdx]; exact (List.getElem?_eq_some_iff.mp hf).1
  have hfd := fs
  have hpd := hty j hj
  have hla : a < S.length := (List.getElem?_eq_some_iff.mp hS).1
  have gd : am_g (S.set a (.inr (ci, fs.set j (.inr (none)))), I, L) := by
    refine ⟨hg.1, hg.2.1, fun k2 c2 f2 h2 => ?_, fun k2 t2 m2 h2 => ?_⟩
    · show f2.map am_kd = _ ∧ ∀ j2 r2 : Nat, _ → r2 < (S.set a _).length
      rw [List.length_set]
      by_cases eq : k2 = a
      · subst eq
        have h2' : (S.set k2 (.inr (ci, fs.set j (.inr (none)))))[k2]? = some (.inr (c2, f2)) := h2
        rw [List.getElem?_set_self hla] at h2'
        cases h2'
        refine ⟨am_kd_set (hg.2.2.1 k2 ci fs hS).1 hf, fun j2 r2 h3 => ?_⟩
        by_cases ej : j2 = j
        · subst ej
          rw [List.getElem?_set_self (List.getElem?_eq_some_iff.mp hf).1] at h3
          cases h3
          skip
        · rw [List.getElem?_set_ne (Ne.symm ej)] at h3
          exact (hg.2.2.1 k2 ci fs hS).2 j2 r2 h3
      · have h2' : (S.set a (.inr (ci, fs.set j (.inr (none)))))[k2]? = some (.inr (c2, f2)) := h2
        rw [List.getElem?_set_ne (Ne.symm eq)] at h2'
        exact hg.2.2.1 k2 c2 f2 h2'
    · by_cases eq : k2 = a
      · subst eq
        have h2' : (S.set k2 (.inr (ci, fs.set j (.inr (none)))))[k2]? = some (.inl (t2, m2)) := h2
        rw [List.getElem?_set_self hla] at h2'
        cases h2'
      · have h2' : (S.set a (.inr (ci, fs.set j (.inr (none)))))[k2]? = some (.inl (t2, m2)) := h2
        rw [List.getElem?_set_ne (Ne.symm eq)] at h2'
        exact hg.2.2.2 k2 t2 m2 h2'
  have hKs2 : ∀ (k2 : Nat) (ty : FieldType) (n : Int), (S.set a (.inr (ci, fs.set j (.inr (none)))))[k2]? = some (.inl (ty, n)) → va_K D am_cl [(cA k2, ty)] s := by
    intro k2 t2 m2 h2
    by_cases eq : k2 = a
    · subst eq
      rw [List.getElem?_set_self hla] at h2
      cases h2
    · rw [List.getElem?_set_ne (Ne.symm eq)] at h2
      exact hKs k2 t2 m2 h2
  have hlen : (S.set a (.inr (ci, fs.set j (.inr (none)))) : List am_K).length = S.length := List.length_set
  have key : ∀ (H1 : Heap) (locs1 : List Loc), va_P D am_cl ((am_ws ad cA (S, I, L)).set a (ad a, .inr (ci, (fs.mapIdx (am_fv ad I L a)).set j (am_fv ad I L a j (.inr (none)))))) H1 → va_D A ((am_ws ad cA (S, I, L)).set a (ad a, .inr (ci, (fs.mapIdx (am_fv ad I L a)).set j (am_fv ad I L a j (.inr (none)))))) → va_S A s.heap H1 locs1 → W p l e R s m args below meth c H1 locs1 cells slots QF (F0 m (pc + 3) ls (st.map (am_c ad ra))) := by
    intro H1 locs1 hP1 hD1 hS1
    rw [am_fs_setR hf, show (.inr (ci, (fs.set j (.inr (none))).mapIdx (am_fv ad I L a)) : va_E) = am_ce ad cA I L a (.inr (ci, fs.set j (.inr (none)))) from rfl, am_ws_set (I' := I) (L' := L) (c1 := .inr (ci, fs.set j (.inr (none)))) hS (fun _ _ => rfl) (fun _ _ => rfl)] at hP1 hD1
    refine k ad cA H1 locs1 ls cells slots ⟨⟨hP1, hD1, hK, hKs2, gd⟩, hS1, ⟨?_, hr.2.2.1.2⟩, ?_, ?_, hr.2.2.2.2.2⟩
    · show n0 ≤ (S.set a _).length
      rw [hlen]; exact hr.2.2.1.1
    · show am_Lo ad ra (S.set a _).length _ _ _
      rw [hlen]; exact hr.2.2.2.1
    · show ∀ v ∈ st, am_ok (S.set a _).length v
      rw [hlen]; exact am_tail (am_tail hr.sk)
  have hnr : narrow (ty0 j) (am_fv ad I L a j (.inr (none))) = am_fv ad I L a j (.inr (none)) ∧ fits (ty0 j) (am_fv ad I L a j (.inr (none))) = true := by
    cases hq : ty0 j <;> rw [hq] at et <;> first | (simp [am_tk] at et; done) | exact ⟨rfl, rfl⟩
  cases hfb : (T j).2.2.2 with
  | false =>
    exact va_put X.1 X.2.1 X.2.2.2.2.1 hin ty0 hty hnm X.2.2.2.1 hK hP hD hr.2.1 a (am_ws_at (h := (S, I, L)) hS) hc j hj (X.2.2.2.2.1 _ (am_tb hw)) (fun _ q => by rw [← hdc]; exact q) hfb hpd hnr.1 hnr.2 hjl hd key
  | true =>
    obtain ⟨hi1, hi2⟩ := hfin.resolve_left (by rw [hfb]; decide)
    exact va_putF X.1 X.2.1 X.2.2.2.2.1 hin ty0 hty hnm X.2.2.2.1 hK hP hD hr.2.1 a (am_ws_at (h := (S, I, L)) hS) hc j hj (X.2.2.2.2.1 _ (am_tb hw)) (fun _ q => by rw [← hdc]; exact q) hfb (X.2.2.2.2.2.2.2.2.2.1.trans hi1) (hdc.trans hi2) hpd hnr.1 hnr.2 hjl hd key
end SO2
