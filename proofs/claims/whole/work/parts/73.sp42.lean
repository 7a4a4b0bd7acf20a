/-! WHAT CODES ARE WORTH IS AN INT -/
theorem eml {x d : Int} (hx : 0 ≤ x) (hd : 0 < d) : x % d ≤ x := by
  have w := Int.emod_add_mul_ediv x d
  have w2 := Int.mul_nonneg (show 0 ≤ d by omega) (Int.ediv_nonneg hx (show 0 ≤ d by omega))
  omega
theorem opr_r {c a d : Int} (ha : am_r a) (hd : am_r d) : am_r (opr c a d) := by
  have r1 : am_r 1 := ⟨by omega, by omega⟩
  have r0 : am_r 0 := ⟨by omega, by omega⟩
  have rm : ¬ d = 0 → am_r (Int.tmod a d) := fun h => by
    have t := @tdm a
    obtain ⟨l, u⟩ := ha
    rcases Int.lt_or_le a 0 with q | q
    · rcases Int.lt_or_le d 0 with s | s
      · have e : Int.tmod a d = Int.tmod a (-d) := (Int.tmod_neg a d).symm
        have w := ((@tdm a (-d) (by omega)).2 q).2
        have b1 := Int.emod_nonneg (-a) (show -d ≠ 0 by omega)
        have b2 := eml (d := -d) (show 0 ≤ -a by omega) (by omega)
        rw [e, w]
        constructor <;> omega
      · have w := ((@tdm a d (by omega)).2 q).2
        have b1 := Int.emod_nonneg (-a) (show d ≠ 0 by omega)
        have b2 := eml (d := d) (show 0 ≤ -a by omega) (by omega)
        rw [w]
        constructor <;> omega
    · rcases Int.lt_or_le d 0 with s | s
      · have e : Int.tmod a d = Int.tmod a (-d) := (Int.tmod_neg a d).symm
        have w := ((@tdm a (-d) (by omega)).1 q).2
        have b1 := Int.emod_nonneg a (show -d ≠ 0 by omega)
        have b2 := eml (d := -d) q (by omega)
        rw [e, w]
        constructor <;> omega
      · have w := ((@tdm a d (by omega)).1 q).2
        have b1 := Int.emod_nonneg a (show d ≠ 0 by omega)
        have b2 := eml (d := d) q (by omega)
        rw [w]
        constructor <;> omega
  unfold opr
  repeat' split
  all_goals first
    | exact r1
    | exact r0
    | exact am_w_r _
    | exact rm (by assumption)
theorem stk_r {f nm : Int → Int} {a : Int} {N : Nat} (hw : cWf f a N) (hn : ∀ c, 0 ≤ c → c < 10 → am_r (nm c)) : ∀ n : Nat, n ≤ N → ∀ j, 0 ≤ j → j < cDp f a n → am_r (stk f nm a n j)
  | 0, _ => fun j j1 j2 => by
    have : cDp f a 0 = 0 := rfl
    omega
  | n + 1, h => by
    have ih := stk_r hw hn n (by omega)
    have w := hw.1 n (by omega)
    have c := cNd_v (c := f (a + n))
    have e : cDp f a (n + 1) = cDp f a n + cDl (f (a + n)) := rfl
    have r1 : am_r 1 := ⟨by omega, by omega⟩
    have r0 : am_r 0 := ⟨by omega, by omega⟩
    have ok := w.1
    unfold cOK at ok
    have es : stk f nm a (n + 1) = if 100 ≤ f (a + n) ∨ f (a + n) < 10 then put1 (stk f nm a n) (cDp f a n) (if f (a + n) < 10 then nm (f (a + n)) else f (a + n) - 100) else if f (a + n) = 22 then put1 (stk f nm a n) (cDp f a n - 1) (if stk f nm a n (cDp f a n - 1) = 0 then 1 else 0) else if f (a + n) = 31 then put1 (stk f nm a n) (cDp f a n - 1) (am_w (-(stk f nm a n (cDp f a n - 1)))) else put1 (stk f nm a n) (cDp f a n - 2) (opr (f (a + n)) (stk f nm a n (cDp f a n - 2)) (stk f nm a n (cDp f a n - 1))) := rfl
    intro j j1 j2
    rw [es]
    by_cases k1 : 100 ≤ f (a + n) ∨ f (a + n) < 10
    · have d := c.1 k1
      rw [if_pos k1]
      unfold put1
      split
      · split
        · exact hn _ (by omega) (by omega)
        · constructor <;> omega
      · exact ih j j1 (by omega)
    · by_cases k2 : f (a + n) = 22
      · have d := c.2.1 (Or.inl k2)
        rw [if_neg k1, if_pos k2]
        unfold put1
        split
        · split
          · exact r1
          · exact r0
        · exact ih j j1 (by omega)
      · by_cases k3 : f (a + n) = 31
        · have d := c.2.1 (Or.inr k3)
          rw [if_neg k1, if_neg k2, if_pos k3]
          unfold put1
          split
          · exact am_w_r _
          · exact ih j j1 (by omega)
        · have d := c.2.2 (by omega)
          rw [if_neg k1, if_neg k2, if_neg k3]
          unfold put1
          split
          · exact opr_r (ih _ (by omega) (by omega)) (ih _ (by omega) (by omega))
          · exact ih j j1 (by omega)
theorem sy_r {I L : Nat → Int → Int} {nm : Int → Int} {key y w : Int} (h : Mo I L) (hn : ∀ c, 0 ≤ c → c < 10 → am_r (nm c)) : am_r (sy (I 67) nm key y w) := by
  have ct := Mo_ct h
  obtain ⟨C, CL, hM0⟩ := id h
  have g6 := hM0.1.2.2.2.2.2.2.1.2.2.2.2.2
  have rb := rl_bd (p := I 67) (nm := nm) (key := key) (y := y) (w := w) (I 67 5).toNat
  unfold sy
  split
  · unfold df
    split
    · constructor <;> omega
    · split <;> (constructor <;> omega)
  · have w6 := (g6 (rl (I 67) nm key y w (I 67 5).toNat) (by omega) (by omega)).1
    exact stk_r w6 hn _ (Nat.le_refl _) 0 (by omega) (by rw [w6.2]; omega)
theorem nmN_r {y : Int} (h : 0 ≤ y ∧ y ≤ 40) : ∀ c, 0 ≤ c → c < 10 → am_r (nmN y c) := by
  intro c _ _
  unfold nmN
  split <;> (constructor <;> omega)
/-! PENCE PARTED: rounds in which who would get more than the most is out -/
def ptsN (P N : Int → Int) : Int := sm (fun q => if N q = 0 then 0 else P q) 20
abbrev cnd (P : Int → Int) (M : Int) (N : Int → Int) (Z q : Int) : Prop := ¬ N q = 0 ∧ M * ptsN P N < Z * P q
def NZ (P : Int → Int) (M Z : Int) : Nat → (Int → Int) × Int
  | 0 => (fun q => if 0 < P q then 1 else 0, Z)
  | k + 1 => (fun q => if cnd P M (NZ P M Z k).1 (NZ P M Z k).2 q then 0 else (NZ P M Z k).1 q, (NZ P M Z k).2 - sm (fun q => if cnd P M (NZ P M Z k).1 (NZ P M Z k).2 q then M else 0) 20)
def Pp (P : Int → Int) : Prop := (∀ q, 0 ≤ q → q < 20 → 0 ≤ P q) ∧ sm P 20 ≤ 479999952
theorem NZ_01 {P : Int → Int} {M Z : Int} : ∀ (k : Nat) (q : Int), (NZ P M Z k).1 q = 0 ∨ ((NZ P M Z k).1 q = 1 ∧ 0 < P q)
  | 0, q => by
    show (if 0 < P q then 1 else 0) = (0 : Int) ∨ ((if 0 < P q then 1 else 0) = (1 : Int) ∧ 0 < P q)
    split
    · right
      exact ⟨rfl, by assumption⟩
    · left
      rfl
  | k + 1, q => by
    have h := NZ_01 (P := P) (M := M) (Z := Z) k q
    show (if cnd P M (NZ P M Z k).1 (NZ P M Z k).2 q then 0 else (NZ P M Z k).1 q) = 0 ∨ ((if cnd P M (NZ P M Z k).1 (NZ P M Z k).2 q then 0 else (NZ P M Z k).1 q) = 1 ∧ 0 < P q)
    split
    · left
      rfl
    · exact h
theorem pts_bd {P N : Int → Int} (h : Pp P) : 0 ≤ ptsN P N ∧ ptsN P N ≤ 479999952 := by
  have a : 0 ≤ ptsN P N := sm_nn _ (fun q a1 a2 => by
    have := h.1 q a1 (by omega)
    show 0 ≤ (if N q = 0 then 0 else P q)
    split <;> omega)
  have c : ptsN P N ≤ sm P 20 := sm_mono _ (fun q a1 a2 => by
    have := h.1 q a1 (by omega)
    show (if N q = 0 then 0 else P q) ≤ P q
    split <;> omega)
  have := h.2
  omega
theorem P_le {P : Int → Int} {q : Int} (h : Pp P) (hq : 0 ≤ q ∧ q < 20) : 0 ≤ P q ∧ P q ≤ 479999952 := by
  have := sm_one (f := P) (j := q) 20 (fun k a1 a2 => h.1 k a1 (by omega)) hq.1 (by omega)
  have := h.1 q hq.1 hq.2
  have := h.2
  omega
/-- a round leaves no debt -/
theorem rnd_nn {P N : Int → Int} {M Z : Int} (hP : Pp P) (hM : 0 < M) (hZ : 0 ≤ Z) : ∀ k : Nat, k ≤ 20 → 0 ≤ sm (fun q => if cnd P M N Z q then M else 0) k ∧ ptsN P N * sm (fun q => if cnd P M N Z q then M else 0) k ≤ Z * sm (fun q => if N q = 0 then 0 else P q) k
  | 0, _ => by simp [sm]
  | k + 1, h => by
    have ih := rnd_nn (N := N) hP hM hZ k (by omega)
    have pk := hP.1 (k : Int) (by omega) (by omega)
    have e1 : sm (fun q => if cnd P M N Z q then M else 0) (k + 1) = sm (fun q => if cnd P M N Z q then M else 0) k + (if cnd P M N Z k then M else 0) := rfl
    have e2 : sm (fun q => if N q = 0 then 0 else P q) (k + 1) = sm (fun q => if N q = 0 then 0 else P q) k + (if N k = 0 then 0 else P k) := rfl
    rw [e1, e2, Int.mul_add, Int.mul_add]
    by_cases c : cnd P M N Z k
    · rw [if_pos c, if_neg c.1, Int.mul_comm (ptsN P N) M]
      have := c.2
      omega
    · rw [if_neg c, Int.mul_zero]
      have : 0 ≤ Z * (if N k = 0 then 0 else P k) := Int.mul_nonneg hZ (by split <;> omega)
      omega
theorem rnd_z {P N : Int → Int} {M Z : Int} (hP : Pp P) (hM : 0 < M) (hZ : 0 ≤ Z) : 0 ≤ sm (fun q => if cnd P M N Z q then M else 0) 20 ∧ sm (fun q => if cnd P M N Z q then M else 0) 20 ≤ Z := by
  have w := rnd_nn (N := N) hP hM hZ 20 (by omega)
  refine ⟨w.1, ?_⟩
  have b := pts_bd (N := N) hP
  have e : sm (fun q => if N q = 0 then 0 else P q) 20 = ptsN P N := rfl
  by_cases z : ptsN P N = 0
  · have zz : sm (fun q => if cnd P M N Z q then M else 0) 20 = 0 := sm_zero _ (fun q a1 a2 => if_neg (fun c => by
      have o1 := sm_one (f := fun q => if N q = 0 then 0 else P q) (j := q) 20 (fun j b1 b2 => by
        have := hP.1 j b1 (by omega)
        show 0 ≤ (if N j = 0 then 0 else P j)
        split <;> omega) a1 a2
      rw [e, z] at o1
      have o2 : (if N q = 0 then 0 else P q) = P q := if_neg c.1
      have o3 : P q ≤ 0 := by
        have o4 : (if N q = 0 then 0 else P q) ≤ 0 := o1
        omega
      have o5 := hP.1 q a1 (by omega)
      have o6 : P q = 0 := by omega
      have c2 := c.2
      rw [z, o6, Int.mul_zero, Int.mul_zero] at c2
      omega))
    omega
  · have w2 := w.2
    rw [e, Int.mul_comm Z] at w2
    exact Int.le_of_mul_le_mul_left w2 (by omega)
theorem NZ_z {P : Int → Int} {M Z : Int} (hP : Pp P) (hM : 0 < M) (hZ : 0 ≤ Z) : ∀ k : Nat, 0 ≤ (NZ P M Z k).2 ∧ (NZ P M Z k).2 ≤ Z
  | 0 => ⟨hZ, Int.le_refl _⟩
  | k + 1 => by
    have h := NZ_z hP hM hZ k
    have r := rnd_z (N := (NZ P M Z k).1) hP hM h.1
    show 0 ≤ (NZ P M Z k).2 - sm (fun q => if cnd P M (NZ P M Z k).1 (NZ P M Z k).2 q then M else 0) 20 ∧ (NZ P M Z k).2 - sm (fun q => if cnd P M (NZ P M Z k).1 (NZ P M Z k).2 q then M else 0) 20 ≤ Z
    omega
/-- what the rows agree on up to 20 -/
theorem pts_cg {P N N' : Int → Int} (h : ∀ q, 0 ≤ q → q < 20 → N q = N' q) : ptsN P N = ptsN P N' := sm_congr _ (fun q a1 a2 => by
  show (if N q = 0 then 0 else P q) = (if N' q = 0 then 0 else P q)
  rw [h q a1 (by omega)])
theorem NZ_fx {P : Int → Int} {M Z : Int} {k : Nat} (h : ∀ q, 0 ≤ q → q < 20 → ¬ cnd P M (NZ P M Z k).1 (NZ P M Z k).2 q) : ∀ j : Nat, (∀ q, 0 ≤ q → q < 20 → (NZ P M Z (k + j)).1 q = (NZ P M Z k).1 q) ∧ (NZ P M Z (k + j)).2 = (NZ P M Z k).2
  | 0 => ⟨fun _ _ _ => rfl, rfl⟩
  | j + 1 => by
    have ih := NZ_fx h j
    have nc : ∀ q, 0 ≤ q → q < 20 → ¬ cnd P M (NZ P M Z (k + j)).1 (NZ P M Z (k + j)).2 q := fun q q1 q2 c => h q q1 q2 ⟨by rw [← ih.1 q q1 q2]; exact c.1, by rw [← pts_cg ih.1, ← ih.2]; exact c.2⟩
    refine ⟨fun q q1 q2 => ?_, ?_⟩
    · show (if cnd P M (NZ P M Z (k + j)).1 (NZ P M Z (k + j)).2 q then 0 else (NZ P M Z (k + j)).1 q) = _
      rw [if_neg (nc q q1 q2)]
      exact ih.1 q q1 q2
    · show (NZ P M Z (k + j)).2 - sm (fun q => if cnd P M (NZ P M Z (k + j)).1 (NZ P M Z (k + j)).2 q then M else 0) 20 = _
      rw [sm_zero 20 (fun q a1 a2 => if_neg (nc q a1 (by omega))), ih.2]
      omega
def cN (P : Int → Int) (M Z : Int) (k : Nat) : Int := sm (fun q => if (NZ P M Z k).1 q = 0 then 0 else 1) 20
theorem cN_bd {P : Int → Int} {M Z : Int} {k : Nat} : 0 ≤ cN P M Z k ∧ cN P M Z k ≤ 20 := by
  have := sm_bd (f := fun q => if (NZ P M Z k).1 q = 0 then 0 else 1) (B := 1) 20 (fun q _ _ => by show (0 : Int) ≤ (if (NZ P M Z k).1 q = 0 then 0 else 1) ∧ (if (NZ P M Z k).1 q = 0 then 0 else 1) ≤ (1 : Int); split <;> omega)
  unfold cN
  omega
theorem cN_lt {P : Int → Int} {M Z : Int} {k : Nat} {q : Int} (hq : 0 ≤ q ∧ q < 20) (h : cnd P M (NZ P M Z k).1 (NZ P M Z k).2 q) : cN P M Z (k + 1) + 1 ≤ cN P M Z k := by
  have w := sm_mono (f := fun j => (if (NZ P M Z (k + 1)).1 j = 0 then 0 else 1) + if j = q then 1 else 0) (g := fun j => if (NZ P M Z k).1 j = 0 then 0 else 1) 20 (fun j a1 a2 => by
    have e : (NZ P M Z (k + 1)).1 j = if cnd P M (NZ P M Z k).1 (NZ P M Z k).2 j then 0 else (NZ P M Z k).1 j := rfl
    show (if (NZ P M Z (k + 1)).1 j = 0 then 0 else 1) + (if j = q then 1 else 0) ≤ (if (NZ P M Z k).1 j = 0 then 0 else (1 : Int))
    rw [e]
    by_cases c : j = q
    · subst c
      rw [if_pos h, if_pos rfl, if_pos rfl, if_neg h.1]
      omega
    · rw [if_neg c]
      by_cases g2 : cnd P M (NZ P M Z k).1 (NZ P M Z k).2 j
      · rw [if_pos g2, if_pos rfl]
        split <;> omega
      · rw [if_neg g2]
        omega)
  have e2 := sm_add (f := fun j => if (NZ P M Z (k + 1)).1 j = 0 then 0 else 1) (g := fun j => if j = q then 1 else 0) 20
  rw [e2, sm_ind 20 hq.1 (by omega)] at w
  exact w
/-- the even parting among those who are in -/
def rN (P N : Int → Int) (Z : Int) : Int → Int := fun q => if N q = 0 then -1 else Z * P q % ptsN P N
def lfo (P N : Int → Int) (Z : Int) : Int := Z - sm (fun q => if N q = 0 then 0 else Z * P q / ptsN P N) 20
theorem lr_N {P N : Int → Int} {Z : Int} (hP : Pp P) (hZ : 0 ≤ Z) (hp : 0 < ptsN P N) : Lr (rN P N Z) 20 (ptsN P N) (lfo P N Z) := by
  have l := lr_of (h := fun q => if N q = 0 then 0 else P q) (c := Z) (s := ptsN P N) (m := 20) hp hZ (fun q a1 a2 => by
    have := hP.1 q a1 (by omega)
    show 0 ≤ (if N q = 0 then 0 else P q)
    split <;> omega) rfl
  have e1 : sm (fun q => Z * (if N q = 0 then 0 else P q) / ptsN P N) 20 = sm (fun q => if N q = 0 then 0 else Z * P q / ptsN P N) 20 := sm_congr _ (fun q _ _ => by
    show Z * (if N q = 0 then 0 else P q) / ptsN P N = if N q = 0 then 0 else Z * P q / ptsN P N
    split
    · rw [Int.mul_zero, Int.zero_ediv]
    · rfl)
  have l1 := l.1
  have l2 := l.2.1
  have l4 := l.2.2.2
  rw [e1] at l2 l4
  refine ⟨hp, l2, fun q a1 a2 => ?_, ?_⟩
  · unfold rN
    have b := Int.emod_nonneg (Z * P q) (show ptsN P N ≠ 0 by omega)
    have b2 := Int.emod_lt_of_pos (Z * P q) hp
    split <;> omega
  · have e2 : sm (fun q => max (rN P N Z q) 0) 20 = sm (fun q => max (Z * (if N q = 0 then 0 else P q) % ptsN P N) 0) 20 := sm_congr _ (fun q _ _ => by
      show max (rN P N Z q) 0 = max (Z * (if N q = 0 then 0 else P q) % ptsN P N) 0
      unfold rN
      split
      · rw [Int.mul_zero, Int.zero_emod]
        omega
      · rfl)
    rw [e2]
    exact l4
def gE (P N G : Int → Int) (Z q : Int) : Int := if 0 < ptsN P N then (if N q = 0 then G q else Z * P q / ptsN P N) + gt (rN P N Z) 20 (lfo P N Z).toNat q else G q
theorem gt_cg {r r' : Int → Int} {m : Nat} (h : ∀ e : Int, 0 ≤ e → e < m → r e = r' e) : ∀ k : Nat, (∀ e : Int, 0 ≤ e → e < m → rs r m k e = rs r' m k e) ∧ (∀ e : Int, gt r m k e = gt r' m k e)
  | 0 => ⟨h, fun _ => rfl⟩
  | k + 1 => by
    have ih := gt_cg h k
    have ea := amx_cg m ih.1
    refine ⟨fun e a1 a2 => ?_, fun e => ?_⟩
    · show (if e = amx (rs r m k) m then -1 else rs r m k e) = if e = amx (rs r' m k) m then -1 else rs r' m k e
      rw [ea, ih.1 e a1 a2]
    · show gt r m k e + (if e = amx (rs r m k) m then 1 else 0) = gt r' m k e + if e = amx (rs r' m k) m then 1 else 0
      rw [ea, ih.2 e]
theorem gE_cg {P N N' G G' : Int → Int} {Z q : Int} (h : ∀ q, 0 ≤ q → q < 20 → N q = N' q) (g : ∀ q, 0 ≤ q → q < 20 → G q = G' q) (hq : 0 ≤ q ∧ q < 20) : gE P N G Z q = gE P N' G' Z q := by
  have e1 := pts_cg (P := P) h
  have e2 : lfo P N Z = lfo P N' Z := by
    unfold lfo
    rw [e1]
    congr 1
    exact sm_congr _ (fun q a1 a2 => by
      show (if N q = 0 then 0 else Z * P q / ptsN P N') = if N' q = 0 then 0 else Z * P q / ptsN P N'
      rw [h q a1 (by omega)])
  have e3 := (gt_cg (r := rN P N Z) (r' := rN P N' Z) (m := 20) (fun e a1 a2 => by
    unfold rN
    rw [h e a1 (by omega), e1]) (lfo P N' Z).toNat).2 q
  unfold gE
  rw [e1, e2, e3, h q hq.1 hq.2, g q hq.1 hq.2]
def kk (M : Int) : Nat := if 0 < M then 21 else 0
def gM (P : Int → Int) (M Z : Int) (k : Nat) : Int → Int := fun q => if 0 < P q ∧ (NZ P M Z k).1 q = 0 then M else 0
/-- what each would get; what nobody gets -/
def oG (P : Int → Int) (M Z q : Int) : Int := gE P (NZ P M Z (kk M)).1 (gM P M Z (kk M)) (NZ P M Z (kk M)).2 q
def fG (P : Int → Int) (M T Z q : Int) : Int := if oG P M Z q < T then 0 else oG P M Z q
def fR (P : Int → Int) (M T Z : Int) : Int := Z - sm (fun q => fG P M T Z q) 20
