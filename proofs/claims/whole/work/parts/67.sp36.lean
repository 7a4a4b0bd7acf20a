/-! POINTS THAT ARE PASSED ON -/
abbrev dead (p : Int → Int) (y n : Int) : Prop := ¬ p (460 + n) = -100 ∧ p (460 + n) < y
def ctb (p : Int → Int) (y : Int) : Nat → Int → Int → Int → Int
  | 0, n, v, q => if dead p y n then 0 else if q = p (480 + n) then v else 0
  | m + 1, n, v, q => if dead p y n then sm (fun h => if 0 < p (500 + 20 * n + h) then ctb p y m h (v * p (500 + 20 * n + h) / 100) q else 0) (p 3).toNat else if q = p (480 + n) then v else 0
def Pm (p : Int → Int) : Prop := (0 ≤ p 3 ∧ p 3 ≤ 20) ∧ (∀ n h, 0 ≤ n → n < p 3 → 0 ≤ h → h < p 3 → 0 ≤ p (500 + 20 * n + h) ∧ p (500 + 20 * n + h) ≤ 100) ∧ (∀ n, 0 ≤ n → n < p 3 → sm (fun h => p (500 + 20 * n + h)) (p 3).toNat ≤ 100) ∧ (∀ n, 0 ≤ n → n < p 3 → 0 ≤ p (480 + n) ∧ p (480 + n) ≤ n ∧ -100 ≤ p (460 + n) ∧ p (460 + n) ≤ 40)
theorem Pm_of {C : Nat → Int → Int} {p : Int → Int} (h : iLandI C p) : Pm p := by
  obtain ⟨h1, h2, h3, h4, h5, h6, h7, h8, h9, h10⟩ := h
  obtain ⟨g1, g2, g3, g4, g5, g6⟩ := h5
  refine ⟨⟨g2, g3⟩, fun n h a1 a2 a3 a4 => ?_, h9.1, fun n a1 a2 => ?_⟩
  · have w := (g6 (20 * n + h) (by omega) (by omega)).2
    rw [← Int.add_assoc] at w
    exact w
  · have w := g5 n a1 a2
    omega
theorem sm_nn {f : Int → Int} : ∀ n : Nat, (∀ k : Int, 0 ≤ k → k < n → 0 ≤ f k) → 0 ≤ sm f n
  | 0, _ => Int.le_refl _
  | n + 1, h => by
    have h1 := sm_nn n (fun k a1 a2 => h k a1 (by omega))
    have h2 := h n (by omega) (by omega)
    show 0 ≤ sm f n + f n
    omega
theorem ctb_0 {p : Int → Int} {y q : Int} : ∀ (m : Nat) (n : Int), ctb p y m n 0 q = 0
  | 0, n => by
    show (if dead p y n then 0 else if q = p (480 + n) then 0 else 0) = (0 : Int)
    split
    · rfl
    · split <;> rfl
  | m + 1, n => by
    show (if dead p y n then sm (fun h => if 0 < p (500 + 20 * n + h) then ctb p y m h (0 * p (500 + 20 * n + h) / 100) q else 0) (p 3).toNat else if q = p (480 + n) then 0 else 0) = (0 : Int)
    split
    · refine sm_zero _ (fun h _ _ => ?_)
      show (if 0 < p (500 + 20 * n + h) then ctb p y m h (0 * p (500 + 20 * n + h) / 100) q else 0) = 0
      rw [Int.zero_mul, Int.zero_ediv, ctb_0 m h]
      split <;> rfl
    · split <;> rfl
theorem sm_hun {a : Int → Int} {v : Int} (hv : 0 ≤ v) : ∀ k : Nat, (∀ h : Int, 0 ≤ h → h < k → 0 ≤ a h) → 100 * sm (fun h => v * a h / 100) k ≤ v * sm a k
  | 0, _ => by simp [sm]
  | k + 1, ha => by
    have h := sm_hun hv k (fun h a1 a2 => ha h a1 (by omega))
    have w := Int.mul_nonneg hv (ha k (by omega) (by omega))
    show 100 * (sm (fun h => v * a h / 100) k + v * a k / 100) ≤ v * (sm a k + a k)
    rw [Int.mul_add v]
    omega
theorem vs_le {a : Int → Int} {v : Int} (hv : 0 ≤ v) {k m : Nat} (hk : k ≤ m) (ha : ∀ h : Int, 0 ≤ h → h < m → 0 ≤ a h) (hs : sm a m ≤ 100) : 0 ≤ sm (fun h => v * a h / 100) k ∧ sm (fun h => v * a h / 100) k ≤ v := by
  have w := sm_hun hv k (fun h a1 a2 => ha h a1 (by omega))
  have mono : ∀ j : Nat, k + j ≤ m → sm a k ≤ sm a (k + j) := by
    intro j
    induction j with
    | zero => intro _; exact Int.le_refl _
    | succ j ih =>
      intro hj
      have i1 := ih (by omega)
      have i2 := ha ((k + j : Nat) : Int) (by omega) (by omega)
      show sm a k ≤ sm a (k + j) + a ((k + j : Nat) : Int)
      omega
  have w2 := mono (m - k) (by omega)
  have e : k + (m - k) = m := by omega
  rw [e] at w2
  have w3 := Int.mul_le_mul_of_nonneg_left (show sm a k ≤ 100 by omega) hv
  refine ⟨(sm_bd (f := fun h => v * a h / 100) (B := v * 100) k (fun h a1 a2 => ?_)).1, by omega⟩
  have q := Int.mul_nonneg hv (ha h a1 (by omega))
  have q2 := Int.mul_le_mul_of_nonneg_left (show a h ≤ 100 by have := sm_one (f := a) (j := h) m ha a1 (by omega); omega) hv
  show 0 ≤ v * a h / 100 ∧ v * a h / 100 ≤ v * 100
  omega
/-- what comes to all is not more than what is passed on -/
theorem ctb_sum {p : Int → Int} {y : Int} (hp : Pm p) : ∀ (m : Nat) (n v : Int), 0 ≤ n → n < p 3 → 0 ≤ v → (∀ q, 0 ≤ ctb p y m n v q) ∧ sm (fun q => ctb p y m n v q) 20 ≤ v
  | 0, n, v, h1, h2, h3 => by
    have hq := hp.2.2.2 n h1 h2
    have h0 := hp.1
    constructor
    · intro q
      show 0 ≤ (if dead p y n then 0 else if q = p (480 + n) then v else 0)
      split
      · omega
      · split <;> omega
    · by_cases d : dead p y n
      · have e : sm (fun q => ctb p y 0 n v q) 20 = 0 := sm_zero _ (fun q _ _ => if_pos d)
        omega
      · have e : sm (fun q => ctb p y 0 n v q) 20 = sm (fun q => v * (if q = p (480 + n) then 1 else 0)) 20 := sm_congr _ (fun q _ _ => by
          show (if dead p y n then 0 else if q = p (480 + n) then v else 0) = v * (if q = p (480 + n) then 1 else 0)
          rw [if_neg d]
          split <;> simp)
        rw [e, sm_mul, sm_ind 20 hq.1 (by omega)]
        omega
  | m + 1, n, v, h1, h2, h3 => by
    have hq := hp.2.2.2 n h1 h2
    have h0 := hp.1
    have ih := ctb_sum (y := y) hp m
    have ha := hp.2.1 n
    have pos : ∀ h, 0 ≤ h → h < p 3 → 0 ≤ v * p (500 + 20 * n + h) / 100 := fun h a1 a2 => Int.ediv_nonneg (Int.mul_nonneg h3 (ha h h1 h2 a1 a2).1) (by omega)
    by_cases d : dead p y n
    · have e : ∀ q, ctb p y (m + 1) n v q = sm (fun h => if 0 < p (500 + 20 * n + h) then ctb p y m h (v * p (500 + 20 * n + h) / 100) q else 0) (p 3).toNat := fun q => if_pos d
      constructor
      · intro q
        rw [e q]
        refine sm_nn _ (fun h a1 a2 => ?_)
        show 0 ≤ (if 0 < p (500 + 20 * n + h) then ctb p y m h (v * p (500 + 20 * n + h) / 100) q else 0)
        split
        · exact (ih h _ a1 (by omega) (pos h a1 (by omega))).1 q
        · omega
      · have e2 : sm (fun q => ctb p y (m + 1) n v q) 20 = sm (fun h => sm (fun q => if 0 < p (500 + 20 * n + h) then ctb p y m h (v * p (500 + 20 * n + h) / 100) q else 0) 20) (p 3).toNat := by
          rw [sm_swap (f := fun h q => if 0 < p (500 + 20 * n + h) then ctb p y m h (v * p (500 + 20 * n + h) / 100) q else 0) 20 (p 3).toNat]
          exact sm_congr _ (fun q _ _ => e q)
        have l1 := sm_mono (f := fun h => sm (fun q => if 0 < p (500 + 20 * n + h) then ctb p y m h (v * p (500 + 20 * n + h) / 100) q else 0) 20) (g := fun h => v * p (500 + 20 * n + h) / 100) (p 3).toNat (fun h a1 a2 => by
          show sm (fun q => if 0 < p (500 + 20 * n + h) then ctb p y m h (v * p (500 + 20 * n + h) / 100) q else 0) 20 ≤ v * p (500 + 20 * n + h) / 100
          by_cases g : 0 < p (500 + 20 * n + h)
          · have e3 : sm (fun q => if 0 < p (500 + 20 * n + h) then ctb p y m h (v * p (500 + 20 * n + h) / 100) q else 0) 20 = sm (fun q => ctb p y m h (v * p (500 + 20 * n + h) / 100) q) 20 := sm_congr _ (fun q _ _ => if_pos g)
            rw [e3]
            exact (ih h _ a1 (by omega) (pos h a1 (by omega))).2
          · have e3 : sm (fun q => if 0 < p (500 + 20 * n + h) then ctb p y m h (v * p (500 + 20 * n + h) / 100) q else 0) 20 = 0 := sm_zero _ (fun q _ _ => if_neg g)
            rw [e3]
            exact pos h a1 (by omega))
        have l2 := vs_le (a := fun h => p (500 + 20 * n + h)) h3 (k := (p 3).toNat) (m := (p 3).toNat) (Nat.le_refl _) (fun h a1 a2 => (ha h h1 h2 a1 (by omega)).1) (hp.2.2.1 n h1 h2)
        rw [e2]
        have l3 := l2.2
        omega
    · have e : ∀ q, ctb p y (m + 1) n v q = if q = p (480 + n) then v else 0 := fun q => if_neg d
      constructor
      · intro q
        rw [e q]
        split <;> omega
      · have e2 : sm (fun q => ctb p y (m + 1) n v q) 20 = sm (fun q => v * (if q = p (480 + n) then 1 else 0)) 20 := sm_congr _ (fun q _ _ => by
          rw [e q]
          split <;> simp)
        rw [e2, sm_mul, sm_ind 20 hq.1 (by omega)]
        omega
theorem ctb_bd {p : Int → Int} {y : Int} (hp : Pm p) {m : Nat} {n v q : Int} (h1 : 0 ≤ n) (h2 : n < p 3) (h3 : 0 ≤ v) (hq : 0 ≤ q ∧ q < 20) : 0 ≤ ctb p y m n v q ∧ ctb p y m n v q ≤ v := by
  have w := ctb_sum (y := y) hp m n v h1 h2 h3
  refine ⟨w.1 q, ?_⟩
  have := sm_one (f := fun q => ctb p y m n v q) (j := q) 20 (fun k _ _ => w.1 k) hq.1 (by omega)
  omega
/-- what has come to q behind k heirs -/
def ctk (p : Int → Int) (y : Int) (m : Nat) (n v q : Int) (k : Nat) : Int := sm (fun h => if 0 < p (500 + 20 * n + h) then ctb p y m h (v * p (500 + 20 * n + h) / 100) q else 0) k
theorem ctk_bd {p : Int → Int} {y : Int} (hp : Pm p) {m : Nat} {n v q i : Int} (h1 : 0 ≤ n) (h2 : n < p 3) (h3 : 0 ≤ v) (hq : 0 ≤ q ∧ q < 20) (hi : 0 ≤ i ∧ i < p 3) : 0 ≤ ctk p y m n v q i.toNat ∧ ctk p y m n v q i.toNat + v * p (500 + 20 * n + i) / 100 ≤ v ∧ 0 ≤ v * p (500 + 20 * n + i) / 100 := by
  have ha := hp.2.1 n
  have pos : ∀ h, 0 ≤ h → h < p 3 → 0 ≤ v * p (500 + 20 * n + h) / 100 := fun h a1 a2 => Int.ediv_nonneg (Int.mul_nonneg h3 (ha h h1 h2 a1 a2).1) (by omega)
  have l1 := sm_mono (f := fun h => if 0 < p (500 + 20 * n + h) then ctb p y m h (v * p (500 + 20 * n + h) / 100) q else 0) (g := fun h => v * p (500 + 20 * n + h) / 100) i.toNat (fun h a1 a2 => by
    show (if 0 < p (500 + 20 * n + h) then ctb p y m h (v * p (500 + 20 * n + h) / 100) q else 0) ≤ v * p (500 + 20 * n + h) / 100
    split
    · exact (ctb_bd hp a1 (by omega) (pos h a1 (by omega)) hq).2
    · exact pos h a1 (by omega))
  have l2 := vs_le (a := fun h => p (500 + 20 * n + h)) h3 (k := i.toNat + 1) (m := (p 3).toNat) (by omega) (fun h a1 a2 => (ha h h1 h2 a1 (by omega)).1) (hp.2.2.1 n h1 h2)
  have e : sm (fun h => v * p (500 + 20 * n + h) / 100) (i.toNat + 1) = sm (fun h => v * p (500 + 20 * n + h) / 100) i.toNat + v * p (500 + 20 * n + (i.toNat : Int)) / 100 := rfl
  rw [Int.toNat_of_nonneg hi.1] at e
  have n0 : 0 ≤ ctk p y m n v q i.toNat := sm_nn _ (fun h a1 a2 => by
    show 0 ≤ (if 0 < p (500 + 20 * n + h) then ctb p y m h (v * p (500 + 20 * n + h) / 100) q else 0)
    split
    · exact (ctb_bd hp a1 (by omega) (pos h a1 (by omega)) hq).1
    · omega)
  have l3 := l2.2
  have u : ctk p y m n v q i.toNat = sm (fun h => if 0 < p (500 + 20 * n + h) then ctb p y m h (v * p (500 + 20 * n + h) / 100) q else 0) i.toNat := rfl
  have l4 := pos i hi.1 hi.2
  omega
theorem ctk_s {p : Int → Int} {y : Int} {m : Nat} {n v q i : Int} (h : 0 ≤ i) : ctk p y m n v q (i + 1).toNat = ctk p y m n v q i.toNat + if 0 < p (500 + 20 * n + i) then ctb p y m i (v * p (500 + 20 * n + i) / 100) q else 0 := sm_step h
