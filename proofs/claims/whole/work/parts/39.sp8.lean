/-! SCRATCH: rows that nothing between two calls speaks of -/
def Sc (I L I' L' : Nat → Int → Int) : Prop := (∀ k, k ≠ 5 → k ≠ 35 → k ≠ 51 → k ≠ 52 → k ≠ 59 → k ≠ 63 → k ≠ 66 → k ≠ 76 → k ≠ 77 → k ≠ 78 → k ≠ 80 → k ≠ 83 → I' k = I k) ∧ (∀ j, j ≠ 23 → I' 66 j = I 66 j) ∧ (∀ k, k ≤ 50 ∨ (63 ≤ k ∧ k ≤ 65) ∨ (67 ≤ k ∧ k ≤ 75) ∨ 85 ≤ k → L' k = L k)
theorem Sc_rf {I L : Nat → Int → Int} : Sc I L I L := ⟨fun _ _ _ _ _ _ _ _ _ _ _ _ _ => rfl, fun _ _ => rfl, fun _ _ => rfl⟩
theorem Sc_tr {I L I1 L1 I2 L2 : Nat → Int → Int} (h : Sc I L I1 L1) (g : Sc I1 L1 I2 L2) : Sc I L I2 L2 := ⟨fun k a1 a2 a3 a4 a5 a6 a7 a8 a9 a10 a11 a12 => (g.1 k a1 a2 a3 a4 a5 a6 a7 a8 a9 a10 a11 a12).trans (h.1 k a1 a2 a3 a4 a5 a6 a7 a8 a9 a10 a11 a12), fun j a => (g.2.1 j a).trans (h.2.1 j a), fun k a => (g.2.2 k a).trans (h.2.2 k a)⟩
theorem Sc_I {I L : Nat → Int → Int} {c : Nat} {i v : Int} (h : (c = 5 ∨ c = 35 ∨ c = 51 ∨ c = 52 ∨ c = 59 ∨ c = 63 ∨ c = 76 ∨ c = 77 ∨ c = 78 ∨ c = 80 ∨ c = 83) ∨ (c = 66 ∧ i = 23)) : Sc I L (am_up I c i v) L := by
  refine ⟨fun k a1 a2 a3 a4 a5 a6 a7 a8 a9 a10 a11 a12 => upn (by omega), fun j a => ?_, fun _ _ => rfl⟩
  rcases h with h | h
  · exact congrFun (upn (by omega)) j
  · rw [h.1, h.2]
    exact upo (by omega)
theorem Sc_fI {I L : Nat → Int → Int} {c : Nat} {n v : Int} (h : c = 5 ∨ c = 35 ∨ c = 51 ∨ c = 52 ∨ c = 59 ∨ c = 63 ∨ c = 76 ∨ c = 77 ∨ c = 78 ∨ c = 80 ∨ c = 83) : Sc I L (am_fl I c n v) L := by
  refine ⟨fun k a1 a2 a3 a4 a5 a6 a7 a8 a9 a10 a11 a12 => ?_, fun j a => ?_, fun _ _ => rfl⟩
  · funext i
    exact if_neg (by omega)
  · exact if_neg (by omega)
theorem Sc_L {I L : Nat → Int → Int} {c : Nat} {i v : Int} (h : (51 ≤ c ∧ c ≤ 62) ∨ c = 66 ∨ (76 ≤ c ∧ c ≤ 84)) : Sc I L I (am_up L c i v) := ⟨fun _ _ _ _ _ _ _ _ _ _ _ _ _ => rfl, fun _ _ => rfl, fun k a => upn (by omega)⟩
theorem Sc_fL {I L : Nat → Int → Int} {c : Nat} {n v : Int} (h : (51 ≤ c ∧ c ≤ 62) ∨ c = 66 ∨ (76 ≤ c ∧ c ≤ 84)) : Sc I L I (am_fl L c n v) := ⟨fun _ _ _ _ _ _ _ _ _ _ _ _ _ => rfl, fun _ _ => rfl, fun k a => by funext i; exact if_neg (by omega)⟩
/-- the ints of the two lands agree -/
def lYrI (C : Nat → Int → Int) (p : Int → Int) : Prop := (∀ y, 0 ≤ y → y < 41 → C 37 y = p (34 + y) ∧ C 39 y = p (239 + y)) ∧ (∀ y, 0 ≤ y → y < 41 → 0 ≤ p (34 + y) ∧ p (34 + y) < 4096 ∧ 0 ≤ p (239 + y) ∧ p (239 + y) ≤ 9999999) ∧ (∀ k, 0 ≤ k → k < 164 → C 38 k = p (75 + k) ∧ 0 ≤ p (75 + k) ∧ p (75 + k) ≤ 9999999) ∧ True
def iLandI (C : Nat → Int → Int) (p : Int → Int) : Prop := lOp C p ∧ lLib C p ∧ lEnt C p ∧ lEd C p ∧ lPeo C p ∧ lSh C p ∧ lRul C p ∧ lYrI C p ∧ lSum p ∧ True
theorem iLandI_of {C CL : Nat → Int → Int} {p q : Int → Int} (h : iLand C CL p q) : iLandI C p := by
  obtain ⟨h1, h2, h3, h4, h5, h6, h7, h8, h9, h10⟩ := h
  exact ⟨h1, h2, h3, h4, h5, h6, h7, ⟨fun y a1 a2 => ⟨(h8.1 y a1 a2).1, (h8.1 y a1 a2).2.1⟩, h8.2.1, h8.2.2.1, trivial⟩, h9, trivial⟩
theorem lYrI_fr {C C' : Nat → Int → Int} {p : Int → Int} (h : lYrI C p) (hc : C' 37 = C 37 ∧ C' 38 = C 38 ∧ C' 39 = C 39) : lYrI C' p := by
  unfold lYrI
  rw [hc.1, hc.2.1, hc.2.2]
  exact h
def Cor (I _L : Nat → Int → Int) : Prop := iLandI I (I 67) ∧ (I 72 0 = 12 ∧ I 72 1 = 12 ∧ I 72 2 = 6 ∧ I 72 3 = 7 ∧ I 72 4 = 4 ∧ I 72 5 = 6)
theorem Cor_cg {I L I' L' : Nat → Int → Int} (h : Cor I L) (hI : ∀ k, (1 ≤ k ∧ k ≤ 4) ∨ (6 ≤ k ∧ k ≤ 34) ∨ (36 ≤ k ∧ k ≤ 44) ∨ k = 67 ∨ k = 72 → I' k = I k) (_hL : ∀ k, (40 ≤ k ∧ k ≤ 44) ∨ k = 69 → L' k = L k) : Cor I' L' := by
  obtain ⟨⟨h1, h2, h3, h4, h5, h6, h7, h8, h9, h10⟩, hk⟩ := h
  refine ⟨?_, by rw [hI 72 (by omega)]; exact hk⟩
  rw [hI 67 (by omega)]
  exact ⟨lOp_fr h1 (hI 1 (by omega)) rfl, lLib_fr h2 ⟨hI _ (by omega), hI _ (by omega), hI _ (by omega)⟩ (fun _ _ => rfl), lEnt_fr h3 ⟨hI _ (by omega), hI _ (by omega), hI _ (by omega), hI _ (by omega)⟩ (fun _ _ => rfl) h1.2 (Int.le_refl _) (Int.le_refl _) (Int.le_refl _), lEd_fr h4 ⟨hI _ (by omega), hI _ (by omega), hI _ (by omega), hI _ (by omega), hI _ (by omega)⟩ (fun _ _ => rfl), lPeo_fr h5 ⟨hI _ (by omega), hI _ (by omega), hI _ (by omega), hI _ (by omega), hI _ (by omega), hI _ (by omega), hI _ (by omega)⟩ (fun _ _ => rfl), lSh_fr h6 ⟨hI _ (by omega), hI _ (by omega), hI _ (by omega), hI _ (by omega), hI _ (by omega), hI _ (by omega)⟩ (fun _ _ => rfl) (Int.le_refl _) (Int.le_refl _) (Int.le_refl _), lRul_fr h7 ⟨hI _ (by omega), hI _ (by omega), hI _ (by omega), hI _ (by omega), hI _ (by omega), hI _ (by omega), hI _ (by omega)⟩ (fun _ _ => rfl) (fun _ _ _ _ _ _ => rfl), lYrI_fr h8 ⟨hI _ (by omega), hI _ (by omega), hI _ (by omega)⟩, h9, h10⟩
theorem Cor_L {I L L' : Nat → Int → Int} (h : Cor I L) : Cor I L' := h
theorem Cor_sc {I L I' L' : Nat → Int → Int} (h : Cor I L) (s : Sc I L I' L') : Cor I' L' := Cor_cg h (fun k a => s.1 k (by omega) (by omega) (by omega) (by omega) (by omega) (by omega) (by omega) (by omega) (by omega) (by omega) (by omega) (by omega)) (fun k a => s.2.2 k (by omega))
def Mo (I _L : Nat → Int → Int) : Prop := ∃ C _CL : Nat → Int → Int, iLandI C (I 67) ∧ (I 72 0 = 12 ∧ I 72 1 = 12 ∧ I 72 2 = 6 ∧ I 72 3 = 7 ∧ I 72 4 = 4 ∧ I 72 5 = 6)
theorem Mo_of {I L : Nat → Int → Int} (h : Cor I L) : Mo I L := ⟨I, L, h.1, h.2⟩
theorem Mo_L {I L L' : Nat → Int → Int} (h : Mo I L) : Mo I L' := h
theorem Mo_cg {I L I' L' : Nat → Int → Int} (h : Mo I L) (h1 : I' 67 = I 67) (_h2 : L' 69 = L 69) (h3 : I' 72 = I 72) : Mo I' L' := by
  obtain ⟨C, CL, g1, g2⟩ := h
  refine ⟨C, CL, ?_, ?_⟩
  · rw [h1]
    exact g1
  · rw [h3]
    exact g2
theorem Mo_sc {I L I' L' : Nat → Int → Int} (h : Mo I L) (s : Sc I L I' L') : Mo I' L' := Mo_cg h (s.1 _ (by omega) (by omega) (by omega) (by omega) (by omega) (by omega) (by omega) (by omega) (by omega) (by omega) (by omega) (by omega)) (s.2.2 _ (by omega)) (s.1 _ (by omega) (by omega) (by omega) (by omega) (by omega) (by omega) (by omega) (by omega) (by omega) (by omega) (by omega) (by omega))
theorem Mo_rf {I L : Nat → Int → Int} {y : Int} (h : Mo I L) : Mo (rfC I y) L := Mo_cg h (by funext j; exact rfm (by omega)) rfl (by funext j; exact rfm (by omega))
theorem Mo_up {I L : Nat → Int → Int} {c : Nat} {i v : Int} (h : Mo I L) (h1 : c ≠ 67 ∧ c ≠ 72) : Mo (am_up I c i v) L := Mo_cg h (upn (by omega)) rfl (upn (by omega))
theorem Mo_ct {I L : Nat → Int → Int} (h : Mo I L) : (0 ≤ I 67 0 ∧ I 67 0 ≤ 40) ∧ (0 ≤ I 67 1 ∧ I 67 1 ≤ 12) ∧ (0 ≤ I 67 2 ∧ I 67 2 ≤ 30) ∧ (0 ≤ I 67 3 ∧ I 67 3 ≤ 20) ∧ (0 ≤ I 67 4 ∧ I 67 4 ≤ 60) ∧ (0 ≤ I 67 5 ∧ I 67 5 ≤ 12) ∧ (0 ≤ I 67 6 ∧ I 67 6 ≤ 400) := by
  obtain ⟨C, CL, ⟨h1, h2, h3, h4, h5, h6, h7, h8, h9, h10⟩, hk⟩ := h
  exact ⟨h1.2, ⟨h2.2.1, h2.2.2.1⟩, ⟨h4.2.1, h4.2.2.1⟩, ⟨h5.2.1, h5.2.2.1⟩, ⟨h6.2.1, h6.2.2.1⟩, ⟨h7.2.1, h7.2.2.1⟩, ⟨h3.2.1, h3.2.2.1⟩⟩
theorem Cor_of {b : Bool} {I L : Nat → Int → Int} (h : Inv b I L) : Cor I L := ⟨iLandI_of h.1, h.2.2.2.2.2.2.2.1⟩
theorem Inv_sc {b : Bool} {I L I' L' : Nat → Int → Int} (h : Inv b I L) (s : Sc I L I' L') : Inv b I' L' := by
  have hI : ∀ k, k = 0 ∨ k = 45 ∨ k = 46 ∨ k = 64 ∨ k = 65 ∨ (67 ≤ k ∧ k ≤ 74) ∨ 85 ≤ k → I' k = I k := fun k a => s.1 k (by omega) (by omega) (by omega) (by omega) (by omega) (by omega) (by omega) (by omega) (by omega) (by omega) (by omega) (by omega)
  have hC : iLand I' L' (I' 67) (L' 69) := by
    have h1 := h.1
    rw [hI 67 (by omega), s.2.2 69 (by omega)]
    obtain ⟨h1, h2, h3, h4, h5, h6, h7, h8, h9, h10⟩ := h1
    have hj : ∀ k, (1 ≤ k ∧ k ≤ 4) ∨ (6 ≤ k ∧ k ≤ 34) ∨ (36 ≤ k ∧ k ≤ 44) → I' k = I k := fun k a => s.1 k (by omega) (by omega) (by omega) (by omega) (by omega) (by omega) (by omega) (by omega) (by omega) (by omega) (by omega) (by omega)
    have hl : ∀ k, 40 ≤ k ∧ k ≤ 44 → L' k = L k := fun k a => s.2.2 k (by omega)
    exact ⟨lOp_fr h1 (hj 1 (by omega)) rfl, lLib_fr h2 ⟨hj _ (by omega), hj _ (by omega), hj _ (by omega)⟩ (fun _ _ => rfl), lEnt_fr h3 ⟨hj _ (by omega), hj _ (by omega), hj _ (by omega), hj _ (by omega)⟩ (fun _ _ => rfl) h1.2 (Int.le_refl _) (Int.le_refl _) (Int.le_refl _), lEd_fr h4 ⟨hj _ (by omega), hj _ (by omega), hj _ (by omega), hj _ (by omega), hj _ (by omega)⟩ (fun _ _ => rfl), lPeo_fr h5 ⟨hj _ (by omega), hj _ (by omega), hj _ (by omega), hj _ (by omega), hj _ (by omega), hj _ (by omega), hj _ (by omega)⟩ (fun _ _ => rfl), lSh_fr h6 ⟨hj _ (by omega), hj _ (by omega), hj _ (by omega), hj _ (by omega), hj _ (by omega), hj _ (by omega)⟩ (fun _ _ => rfl) (Int.le_refl _) (Int.le_refl _) (Int.le_refl _), lRul_fr h7 ⟨hj _ (by omega), hj _ (by omega), hj _ (by omega), hj _ (by omega), hj _ (by omega), hj _ (by omega), hj _ (by omega)⟩ (fun _ _ => rfl) (fun _ _ _ _ _ _ => rfl), lYr_fr h8 ⟨hj _ (by omega), hj _ (by omega), hj _ (by omega)⟩ ⟨hl _ (by omega), hl _ (by omega), hl _ (by omega), hl _ (by omega), hl _ (by omega)⟩ (fun _ _ => rfl) (fun _ _ => rfl), h9, h10⟩
  exact Inv_ld h hC (congrFun (hI 0 (by omega)) 6) (congrFun (hI 45 (by omega)) 1) (fun k a => hI k (by omega)) (fun j a => s.2.1 j (by omega)) (fun k a => s.2.2 k (by omega))
theorem Sc_67 {I L I' L' : Nat → Int → Int} (s : Sc I L I' L') : I' 67 = I 67 := s.1 67 (by omega) (by omega) (by omega) (by omega) (by omega) (by omega) (by omega) (by omega) (by omega) (by omega) (by omega) (by omega)
theorem Sc_69 {I L I' L' : Nat → Int → Int} (s : Sc I L I' L') : L' 69 = L 69 := s.2.2 69 (by omega)
/-- the counts, their bounds -/
theorem Cor_ct {I L : Nat → Int → Int} (h : Cor I L) : (I 1 0 = I 67 0 ∧ 0 ≤ I 67 0 ∧ I 67 0 ≤ 40) ∧ (I 2 0 = I 67 1 ∧ 0 ≤ I 67 1 ∧ I 67 1 ≤ 12) ∧ (I 10 0 = I 67 2 ∧ 0 ≤ I 67 2 ∧ I 67 2 ≤ 30) ∧ (I 15 0 = I 67 3 ∧ 0 ≤ I 67 3 ∧ I 67 3 ≤ 20) ∧ (I 22 0 = I 67 4 ∧ 0 ≤ I 67 4 ∧ I 67 4 ≤ 60) ∧ (I 28 0 = I 67 5 ∧ 0 ≤ I 67 5 ∧ I 67 5 ≤ 12) ∧ (I 6 0 = I 67 6 ∧ 0 ≤ I 67 6 ∧ I 67 6 ≤ 400) := by
  obtain ⟨⟨h1, h2, h3, h4, h5, h6, h7, h8, h9, h10⟩, hk⟩ := h
  exact ⟨h1, ⟨h2.1, h2.2.1, h2.2.2.1⟩, ⟨h4.1, h4.2.1, h4.2.2.1⟩, ⟨h5.1, h5.2.1, h5.2.2.1⟩, ⟨h6.1, h6.2.1, h6.2.2.1⟩, ⟨h7.1, h7.2.1, h7.2.2.1⟩, ⟨h3.1, h3.2.1, h3.2.2.1⟩⟩
/-- the last entry of loans among the first n, and what it says -/
def lst (p : Int → Int) (y f a : Int) : Nat → Int
  | 0 => -1
  | n + 1 => if p (1200 + n) = y ∧ p (1600 + n) = f ∧ p (2400 + n) ≤ a then n else lst p y f a n
def lnk (p : Int → Int) (y f a : Int) (n : Nat) : Int := if lst p y f a n = -1 then 0 else p (2000 + lst p y f a n)
def ln (p : Int → Int) (y f a : Int) : Int := lnk p y f a (p 6).toNat
theorem lst_bd {p : Int → Int} {y f a : Int} : ∀ n : Nat, -1 ≤ lst p y f a n ∧ lst p y f a n < n
  | 0 => by simp [lst]
  | n + 1 => by
    have h := lst_bd (p := p) (y := y) (f := f) (a := a) n
    show -1 ≤ (if p (1200 + n) = y ∧ p (1600 + n) = f ∧ p (2400 + n) ≤ a then (n : Int) else lst p y f a n) ∧ (if p (1200 + n) = y ∧ p (1600 + n) = f ∧ p (2400 + n) ≤ a then (n : Int) else lst p y f a n) < ((n + 1 : Nat) : Int)
    split <;> omega
theorem lst_ok {p : Int → Int} {y f a : Int} : ∀ n : Nat, ¬ lst p y f a n = -1 → p (1200 + lst p y f a n) = y ∧ p (1600 + lst p y f a n) = f ∧ p (2400 + lst p y f a n) ≤ a
  | 0 => fun h => absurd rfl h
  | n + 1 => by
    show ¬ (if p (1200 + n) = y ∧ p (1600 + n) = f ∧ p (2400 + n) ≤ a then (n : Int) else lst p y f a n) = -1 → p (1200 + (if p (1200 + n) = y ∧ p (1600 + n) = f ∧ p (2400 + n) ≤ a then (n : Int) else lst p y f a n)) = y ∧ p (1600 + (if p (1200 + n) = y ∧ p (1600 + n) = f ∧ p (2400 + n) ≤ a then (n : Int) else lst p y f a n)) = f ∧ p (2400 + (if p (1200 + n) = y ∧ p (1600 + n) = f ∧ p (2400 + n) ≤ a then (n : Int) else lst p y f a n)) ≤ a
    split
    · rename_i h
      exact fun _ => h
    · exact lst_ok n
theorem lst_s {p : Int → Int} {y f a i : Int} (h : 0 ≤ i) : lst p y f a (i + 1).toNat = if p (1200 + i) = y ∧ p (1600 + i) = f ∧ p (2400 + i) ≤ a then i else lst p y f a i.toNat := by
  have e : (i + 1).toNat = i.toNat + 1 := by omega
  rw [e]
  show (if p (1200 + (i.toNat : Int)) = y ∧ p (1600 + (i.toNat : Int)) = f ∧ p (2400 + (i.toNat : Int)) ≤ a then (i.toNat : Int) else lst p y f a i.toNat) = _
  rw [Int.toNat_of_nonneg h]
theorem ln_bd {I L : Nat → Int → Int} {y f a : Int} (h : Mo I L) : 0 ≤ ln (I 67) y f a ∧ ln (I 67) y f a ≤ 9999999 := by
  obtain ⟨C, CL, ⟨h1, h2, h3, h4, h5, h6, h7, h8, h9, h10⟩, hk⟩ := h
  unfold ln lnk
  have w := lst_bd (p := I 67) (y := y) (f := f) (a := a) (I 67 6).toNat
  split
  · omega
  · have g := h3.2.2.2.2.1 (lst (I 67) y f a (I 67 6).toNat) (by omega) (by omega)
    omega
theorem lp_Ents_latest {ro : Nat → Int × (Int → Int)} {d : Nat} {b : Bool} {I L : Nat → Int → Int} {Q : Option am_V → am_H → Prop} {bc bs : Nat} {x1 x2 : Int} (hC : Cor I L) {y l e : Int} (hx : x1 = y * 360 + l * 30 + e) (hl : 0 ≤ l ∧ l < 12) (he : 0 ≤ e ∧ e < 30) (H : Q (some (am_I (ln (I 67) y (100 * l + e) x2))) (sh b, I, L)) : ∀ (n : Nat) (x3 : Int), (-1 ≤ x3) → (x3 < I 67 6) → (lst (I 67) y (100 * l + e) x2 (I 67 6).toNat = lst (I 67) y (100 * l + e) x2 (x3 + 1).toNat) → x3 + 1 < (n : Int) → am_ex (am_m ro (d + 0)) ro am_M75 Q (7, [some (am_R 6), some (am_I x1), some (am_I x2), some (am_I x3)], [], (sh b, I, L), bc, bs) := by
  intro n
  induction n with
  | zero =>
    intro x3 i0 i1 i2 im
    exact absurd im (by omega)
  | succ n ih =>
    intro x3 i0 i1 i2 im
    obtain ⟨g1, g2, g3, g4, g5, -⟩ := hC.1.2.2.1
    have ct := Cor_ct hC
    refine b_Ents_latest_7  (fun c1 => ?_) (fun c1 => ?_)
    · refine b_Ents_latest_44  ?_
      have e9 : x3 = -1 := by omega
      have e8 : ln (I 67) y (100 * l + e) x2 = 0 := by
        unfold ln lnk
        rw [i2, e9]
        rfl
      rw [e8] at H
      exact H
    · have w := g4 x3 (by omega) (by omega)
      have w5 := g5 x3 (by omega) (by omega)
      refine b_Ents_latest_11 (by omega) (fun c2 => ?_) (fun c2 => ?_)
      · refine b_Ents_latest_38 (by omega) ?_
        exact ih (x3 + (-1)) (by omega) (by omega) (by rw [i2, lst_s (by omega), if_neg (by omega)]; congr 2; omega) (by omega)
      · refine b_Ents_latest_21 (by omega) (fun c3 => ?_) (fun c3 => ?_)
        · refine b_Ents_latest_38 (by omega) ?_
          exact ih (x3 + (-1)) (by omega) (by omega) (by rw [i2, lst_s (by omega), if_neg (by omega)]; congr 2; omega) (by omega)
        · refine b_Ents_latest_31 (by omega) ?_
          have e7 : lst (I 67) y (100 * l + e) x2 (I 67 6).toNat = x3 := by rw [i2, lst_s (by omega), if_pos (by omega)]
          have e8 : ln (I 67) y (100 * l + e) x2 = I 8 x3 := by
            unfold ln lnk
            rw [e7, if_neg (by omega)]
            exact w.2.1.symm
          rw [e8] at H
          exact H
theorem s_Ents_latest {ro : Nat → Int × (Int → Int)} {d : Nat} {b : Bool} {I L : Nat → Int → Int} {Q : Option am_V → am_H → Prop} {x1 x2 : Int} (hC : Cor I L) {y l e : Int} (hx : x1 = y * 360 + l * 30 + e) (hl : 0 ≤ l ∧ l < 12) (he : 0 ≤ e ∧ e < 30) (H : Q (some (am_I (ln (I 67) y (100 * l + e) x2))) (sh b, I, L)) : am_m ro (d + 1) 75 [am_R 6, am_I x1, am_I x2] (sh b, I, L) Q := by
  have ct := Cor_ct hC
  refine am_in rfl rfl rfl rfl ?_
  refine b_Ents_latest_0 (by omega) ?_
  exact lp_Ents_latest (d := d) hC hx hl he H ((I 67 6).toNat + 1) _ (by omega) (by omega) (by congr 2; omega) (by omega)
theorem lp_M_entry {ro : Nat → Int × (Int → Int)} {d : Nat} {b : Bool} {I L : Nat → Int → Int} {Q : Option am_V → am_H → Prop} {bc bs : Nat} {x1 x2 x3 : Int} (hM : Mo I L) (H : Q (some (am_I (lst (I 67) x1 x2 x3 (I 67 6).toNat))) (sh b, I, L)) : ∀ (n : Nat) (x4 x5 : Int), (0 ≤ x5) → (x5 ≤ I 67 6) → (x4 = lst (I 67) x1 x2 x3 x5.toNat) → I 67 6 - x5 < (n : Int) → am_ex (am_m ro (d + 0)) ro am_M167 Q (6, [some (am_R 66), some (am_I x1), some (am_I x2), some (am_I x3), some (am_I x4), some (am_I x5), none], [], (sh b, I, L), bc, bs) := by
  intro n
  induction n with
  | zero =>
    intro x4 x5 i0 i1 i2 im
    exact absurd im (by omega)
  | succ n ih =>
    intro x4 x5 i0 i1 i2 im
    obtain ⟨C, CL, hM0⟩ := id hM
    obtain ⟨g1, g2, g3, g4, g5, g6, g7, g8⟩ := hM0.1.2.2.1
    have ct := Mo_ct hM
    have w2 := lst_bd (p := I 67) (y := x1) (f := x2) (a := x3) x5.toNat
    refine b_M_entry_6  (fun c1 => ?_) (fun c1 => ?_)
    · refine b_M_entry_121  ?_
      have e9 : x5 = I 67 6 := by omega
      rw [i2, e9]
      exact H
    · refine b_M_entry_18 (by omega) (by omega) (fun c2 => ?_) (fun c2 => ?_)
      · refine b_M_entry_67  ?_
        refine b_M_entry_68  (fun c3 => ?_) (fun c3 => absurd c3 (by decide))
        refine b_M_entry_111  ?_
        refine b_M_entry_113 (by omega) ?_
        exact ih x4 (x5 + 1) (by omega) (by omega) (by rw [lst_s (by omega)]; first | (exfalso; omega) | (rw [if_pos (by omega)]) | (rw [if_neg (by omega)]; exact i2)) (by omega)
      · refine b_M_entry_33 (by omega) (by omega) (fun c4 => ?_) (fun c4 => ?_)
        · refine b_M_entry_67  ?_
          refine b_M_entry_68  (fun c5 => ?_) (fun c5 => absurd c5 (by decide))
          refine b_M_entry_111  ?_
          refine b_M_entry_113 (by omega) ?_
          exact ih x4 (x5 + 1) (by omega) (by omega) (by rw [lst_s (by omega)]; first | (exfalso; omega) | (rw [if_pos (by omega)]) | (rw [if_neg (by omega)]; exact i2)) (by omega)
        · refine b_M_entry_48 (by omega) (by omega) (fun c6 => ?_) (fun c6 => ?_)
          · refine b_M_entry_67  ?_
            refine b_M_entry_68  (fun c7 => ?_) (fun c7 => absurd c7 (by decide))
            refine b_M_entry_111  ?_
            refine b_M_entry_113 (by omega) ?_
            exact ih x4 (x5 + 1) (by omega) (by omega) (by rw [lst_s (by omega)]; first | (exfalso; omega) | (rw [if_pos (by omega)]) | (rw [if_neg (by omega)]; exact i2)) (by omega)
          · refine b_M_entry_63  ?_
            refine b_M_entry_68  (fun c8 => absurd c8 (by decide)) (fun c8 => ?_)
            refine b_M_entry_75  (fun c9 => ?_) (fun c9 => ?_)
            · refine b_M_entry_106  ?_
              refine b_M_entry_113 (by omega) ?_
              exact ih x5 (x5 + 1) (by omega) (by omega) (by rw [lst_s (by omega)]; first | (exfalso; omega) | (rw [if_pos (by omega)]) | (rw [if_neg (by omega)]; exact i2)) (by omega)
            · have w3 := lst_ok (p := I 67) (y := x1) (f := x2) (a := x3) x5.toNat (by omega)
              rw [← i2] at w3
              have w4 := g7 x4 x5 (by omega) (by omega) (by omega) (by omega) (by omega)
              refine b_M_entry_81 (by omega) (by omega) (by omega) (by omega) (fun c10 => ?_) (fun c10 => ?_)
              · refine b_M_entry_111  ?_
                refine b_M_entry_113 (by omega) ?_
                exact ih x4 (x5 + 1) (by omega) (by omega) (by rw [lst_s (by omega)]; first | (exfalso; omega) | (rw [if_pos (by omega)]) | (rw [if_neg (by omega)]; exact i2)) (by omega)
              · refine b_M_entry_106  ?_
                refine b_M_entry_113 (by omega) ?_
                exact ih x5 (x5 + 1) (by omega) (by omega) (by rw [lst_s (by omega)]; first | (exfalso; omega) | (rw [if_pos (by omega)]) | (rw [if_neg (by omega)]; exact i2)) (by omega)
theorem s_M_entry {ro : Nat → Int × (Int → Int)} {d : Nat} {b : Bool} {I L : Nat → Int → Int} {Q : Option am_V → am_H → Prop} {x1 x2 x3 : Int} (hM : Mo I L) (H : Q (some (am_I (lst (I 67) x1 x2 x3 (I 67 6).toNat))) (sh b, I, L)) : am_m ro (d + 1) 167 [am_R 66, am_I x1, am_I x2, am_I x3] (sh b, I, L) Q := by
  have ct := Mo_ct hM
  refine am_in rfl rfl rfl rfl ?_
  refine b_M_entry_0  ?_
  exact lp_M_entry (d := d) hM H ((I 67 6).toNat + 1) _ _ (by omega) (by omega) rfl (by omega)
theorem s_M_loans {ro : Nat → Int × (Int → Int)} {d : Nat} {b : Bool} {I L : Nat → Int → Int} {Q : Option am_V → am_H → Prop} {x1 x2 x3 : Int} (hM : Mo I L) (H : Q (some (am_I (ln (I 67) x1 x2 x3))) (sh b, I, L)) : am_m ro (d + 2) 168 [am_R 66, am_I x1, am_I x2, am_I x3] (sh b, I, L) Q := by
  have ct := Mo_ct hM
  have w2 := lst_bd (p := I 67) (y := x1) (f := x2) (a := x3) (I 67 6).toNat
  refine am_in rfl rfl rfl rfl ?_
  refine b_M_loans_0  (s_M_entry hM ?_)
  refine b_M_loans_7  (fun c1 => ?_) (fun c1 => ?_)
  · refine b_M_loans_19 (by omega) (by omega) ?_
    refine b_M_loans_30  ?_
    have e8 : ln (I 67) x1 x2 x3 = (I 67 (2000 + ((lst (I 67) x1 x2 x3 (I 67 6).toNat)))) := by
      unfold ln lnk
      first | rw [if_pos (by omega)] | rw [if_neg (by omega)]
    rw [e8] at H
    exact H
  · refine b_M_loans_15  ?_
    refine b_M_loans_30  ?_
    have e8 : ln (I 67) x1 x2 x3 = 0 := by
      unfold ln lnk
      first | rw [if_pos (by omega)] | rw [if_neg (by omega)]
    rw [e8] at H
    exact H
theorem s_Ents_latest2 {ro : Nat → Int × (Int → Int)} {d : Nat} {b : Bool} {I L : Nat → Int → Int} {Q : Option am_V → am_H → Prop} {x1 x2 : Int} (hC : Cor I L) {y l e a : Int} (hx : x1 = y * 360 + l * 30 + e) (ha : x2 = a) (hl : 0 ≤ l ∧ l < 12) (he : 0 ≤ e ∧ e < 30) (H : Q (some (am_I (ln (I 67) y (100 * l + e) a))) (sh b, I, L)) : am_m ro (d + 1) 75 [am_R 6, am_I x1, am_I x2] (sh b, I, L) Q := by
  subst ha
  exact s_Ents_latest hC hx hl he H
