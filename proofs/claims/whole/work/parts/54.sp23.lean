/-! WHAT CUTTING LEFT GOES TO THE GREATEST RESTS -/
def amx (f : Int → Int) : Nat → Int
  | 0 => 0
  | n + 1 => if f (amx f n) < f n then n else amx f n
def rs (r : Int → Int) (m : Nat) : Nat → Int → Int
  | 0 => r
  | k + 1 => fun e => if e = amx (rs r m k) m then -1 else rs r m k e
def gt (r : Int → Int) (m : Nat) : Nat → Int → Int
  | 0 => fun _ => 0
  | k + 1 => fun e => gt r m k e + if e = amx (rs r m k) m then 1 else 0
def bst (f : Int → Int) : Nat → Int
  | 0 => -1
  | n + 1 => if 0 < f n ∧ (bst f n = -1 ∨ f (bst f n) < f n) then n else bst f n
def Lr (r : Int → Int) (m : Nat) (S left : Int) : Prop := 0 < S ∧ 0 ≤ left ∧ (∀ e : Int, 0 ≤ e → e < m → -1 ≤ r e ∧ r e < S) ∧ sm (fun e => max (r e) 0) m = S * left
theorem amx_bd {f : Int → Int} : ∀ n : Nat, 0 < n → 0 ≤ amx f n ∧ amx f n < n
  | 0, h => by omega
  | 1, _ => by
    show 0 ≤ (if f (amx f 0) < f (0 : Nat) then ((0 : Nat) : Int) else amx f 0) ∧ (if f (amx f 0) < f (0 : Nat) then ((0 : Nat) : Int) else amx f 0) < ((1 : Nat) : Int)
    have : amx f 0 = 0 := rfl
    split <;> omega
  | n + 2, _ => by
    have h := amx_bd (f := f) (n + 1) (by omega)
    show 0 ≤ (if f (amx f (n + 1)) < f ((n + 1 : Nat) : Int) then ((n + 1 : Nat) : Int) else amx f (n + 1)) ∧ (if f (amx f (n + 1)) < f ((n + 1 : Nat) : Int) then ((n + 1 : Nat) : Int) else amx f (n + 1)) < ((n + 2 : Nat) : Int)
    split <;> omega
theorem amx_ge {f : Int → Int} : ∀ (n : Nat) (e : Int), 0 ≤ e → e < n → f e ≤ f (amx f n)
  | 0, e, h1, h2 => by omega
  | n + 1, e, h1, h2 => by
    show f e ≤ f (if f (amx f n) < f n then (n : Int) else amx f n)
    by_cases he : e = n
    · subst he
      split <;> omega
    · have := amx_ge (f := f) n e h1 (by omega)
      split <;> omega
theorem amx_cg {f g : Int → Int} : ∀ n : Nat, (∀ e : Int, 0 ≤ e → e < n → f e = g e) → amx f n = amx g n
  | 0, _ => rfl
  | 1, _ => by
    show (if f (amx f 0) < f (0 : Nat) then ((0 : Nat) : Int) else amx f 0) = (if g (amx g 0) < g (0 : Nat) then ((0 : Nat) : Int) else amx g 0)
    have e1 : amx f 0 = 0 := rfl
    have e2 : amx g 0 = 0 := rfl
    split <;> split <;> omega
  | n + 2, h => by
    have hi := amx_cg (f := f) (g := g) (n + 1) (fun e a1 a2 => h e a1 (by omega))
    have hb := amx_bd (f := g) (n + 1) (by omega)
    show (if f (amx f (n + 1)) < f ((n + 1 : Nat) : Int) then ((n + 1 : Nat) : Int) else amx f (n + 1)) = (if g (amx g (n + 1)) < g ((n + 1 : Nat) : Int) then ((n + 1 : Nat) : Int) else amx g (n + 1))
    rw [hi, h (amx g (n + 1)) hb.1 (by omega), h ((n + 1 : Nat) : Int) (by omega) (by omega)]
theorem amx_s {f : Int → Int} {i : Int} (h : 0 ≤ i) : amx f (i + 1).toNat = if f (amx f i.toNat) < f i then i else amx f i.toNat := by
  have e : (i + 1).toNat = i.toNat + 1 := by omega
  rw [e]
  show (if f (amx f i.toNat) < f (i.toNat : Int) then (i.toNat : Int) else amx f i.toNat) = _
  rw [Int.toNat_of_nonneg h]
theorem bs_s {f : Int → Int} {i : Int} (h : 0 ≤ i) : bst f (i + 1).toNat = if 0 < f i ∧ (bst f i.toNat = -1 ∨ f (bst f i.toNat) < f i) then i else bst f i.toNat := by
  have e : (i + 1).toNat = i.toNat + 1 := by omega
  rw [e]
  show (if 0 < f (i.toNat : Int) ∧ (bst f i.toNat = -1 ∨ f (bst f i.toNat) < f (i.toNat : Int)) then (i.toNat : Int) else bst f i.toNat) = _
  rw [Int.toNat_of_nonneg h]
theorem bs_bd {f : Int → Int} : ∀ n : Nat, -1 ≤ bst f n ∧ bst f n < n
  | 0 => by simp [bst]
  | n + 1 => by
    have h := bs_bd (f := f) n
    show -1 ≤ (if 0 < f n ∧ (bst f n = -1 ∨ f (bst f n) < f n) then (n : Int) else bst f n) ∧ (if 0 < f n ∧ (bst f n = -1 ∨ f (bst f n) < f n) then (n : Int) else bst f n) < ((n + 1 : Nat) : Int)
    split <;> omega
theorem bs_ok {f : Int → Int} : ∀ n : Nat, ¬ bst f n = -1 → 0 < f (bst f n)
  | 0, h => absurd rfl h
  | n + 1, h => by
    have e : bst f (n + 1) = if 0 < f n ∧ (bst f n = -1 ∨ f (bst f n) < f n) then (n : Int) else bst f n := rfl
    rw [e] at h ⊢
    split
    · rename_i g
      exact g.1
    · rename_i g
      rw [if_neg g] at h
      exact bs_ok n h
theorem bs_amx {f : Int → Int} : ∀ n : Nat, 0 < n → (bst f n = -1 ∧ f (amx f n) ≤ 0) ∨ (bst f n = amx f n ∧ 0 < f (amx f n))
  | 0, h => by omega
  | 1, _ => by
    have e1 : amx f 1 = if f 0 < f 0 then 0 else 0 := rfl
    have e2 : bst f 1 = if 0 < f 0 ∧ ((-1 : Int) = -1 ∨ f (-1) < f 0) then 0 else -1 := rfl
    rw [if_neg (by omega)] at e1
    rw [e1]
    by_cases g : 0 < f 0
    · rw [if_pos ⟨g, Or.inl rfl⟩] at e2
      exact Or.inr ⟨e2, g⟩
    · rw [if_neg (fun q => g q.1)] at e2
      exact Or.inl ⟨e2, by omega⟩
  | n + 2, _ => by
    have h := bs_amx (f := f) (n + 1) (by omega)
    have e1 : amx f (n + 2) = if f (amx f (n + 1)) < f ((n + 1 : Nat) : Int) then ((n + 1 : Nat) : Int) else amx f (n + 1) := rfl
    have e2 : bst f (n + 2) = if 0 < f ((n + 1 : Nat) : Int) ∧ (bst f (n + 1) = -1 ∨ f (bst f (n + 1)) < f ((n + 1 : Nat) : Int)) then ((n + 1 : Nat) : Int) else bst f (n + 1) := rfl
    rw [e1, e2]
    rcases h with h | h
    · by_cases g : f (amx f (n + 1)) < f ((n + 1 : Nat) : Int)
      · rw [if_pos g]
        by_cases g2 : 0 < f ((n + 1 : Nat) : Int)
        · rw [if_pos ⟨g2, Or.inl h.1⟩]
          exact Or.inr ⟨rfl, g2⟩
        · rw [if_neg (fun q => g2 q.1)]
          exact Or.inl ⟨h.1, by omega⟩
      · rw [if_neg g, if_neg (fun q => by omega)]
        exact Or.inl h
    · rw [h.1]
      by_cases g : f (amx f (n + 1)) < f ((n + 1 : Nat) : Int)
      · rw [if_pos g, if_pos ⟨by omega, Or.inr g⟩]
        exact Or.inr ⟨rfl, by omega⟩
      · rw [if_neg g, if_neg (fun q => by have := q.2; have := amx_bd (f := f) (n + 1) (by omega); omega)]
        exact Or.inr ⟨rfl, h.2⟩
theorem gt_nn {r : Int → Int} {m : Nat} {e : Int} : ∀ k : Nat, 0 ≤ gt r m k e
  | 0 => Int.le_refl _
  | k + 1 => by
    have := gt_nn (r := r) (m := m) (e := e) k
    show 0 ≤ gt r m k e + if e = amx (rs r m k) m then 1 else 0
    split <;> omega
theorem rs_gt {r : Int → Int} {m : Nat} {e : Int} : ∀ k : Nat, (rs r m k e = r e ∧ gt r m k e = 0) ∨ (rs r m k e = -1 ∧ 1 ≤ gt r m k e)
  | 0 => Or.inl ⟨rfl, rfl⟩
  | k + 1 => by
    have h := rs_gt (r := r) (m := m) (e := e) k
    have g := gt_nn (r := r) (m := m) (e := e) k
    have e1 : rs r m (k + 1) e = if e = amx (rs r m k) m then -1 else rs r m k e := rfl
    have e2 : gt r m (k + 1) e = gt r m k e + if e = amx (rs r m k) m then 1 else 0 := rfl
    rw [e1, e2]
    split <;> omega
theorem sm_ind {j : Int} : ∀ n : Nat, 0 ≤ j → j < n → sm (fun e => if e = j then 1 else 0) n = 1
  | 0, _, _ => by omega
  | n + 1, h1, h2 => by
    show sm (fun e => if e = j then 1 else 0) n + (if (n : Int) = j then 1 else 0) = 1
    by_cases h : (n : Int) = j
    · rw [if_pos h, sm_zero n (fun k a1 a2 => if_neg (by omega))]
      rfl
    · rw [if_neg h, sm_ind n h1 (by omega)]
      rfl
theorem gt_sum {r : Int → Int} {m : Nat} (hm : 0 < m) : ∀ k : Nat, sm (gt r m k) m = k
  | 0 => sm_zero m (fun _ _ _ => rfl)
  | k + 1 => by
    have e : sm (gt r m (k + 1)) m = sm (gt r m k) m + sm (fun e => if e = amx (rs r m k) m then 1 else 0) m := sm_add m
    have b := amx_bd (f := rs r m k) m hm
    rw [e, gt_sum hm k, sm_ind m b.1 b.2]
    omega
theorem sm_mul {f : Int → Int} {S : Int} : ∀ n : Nat, sm (fun e => S * f e) n = S * sm f n
  | 0 => by simp [sm]
  | n + 1 => by
    show sm (fun e => S * f e) n + S * f n = S * (sm f n + f n)
    rw [sm_mul n, Int.mul_add]
theorem lr_m {r : Int → Int} {m : Nat} {S left : Int} (h : Lr r m S left) : left ≤ m := by
  obtain ⟨h1, h2, h3, h4⟩ := h
  have w := sm_bd (f := fun e => max (r e) 0) (B := S) m (fun k a1 a2 => by have := h3 k a1 a2; show 0 ≤ max (r k) 0 ∧ max (r k) 0 ≤ S; omega)
  rw [h4] at w
  exact Int.le_of_mul_le_mul_left w.2 h1
theorem lr_pos {r : Int → Int} {m : Nat} {S left : Int} {k : Nat} (h : Lr r m S left) (hk : (k : Int) < left) : 0 < m ∧ 0 < rs r m k (amx (rs r m k) m) := by
  have hm := lr_m h
  obtain ⟨h1, h2, h3, h4⟩ := h
  have m0 : 0 < m := by omega
  refine ⟨m0, ?_⟩
  by_cases c : 0 < rs r m k (amx (rs r m k) m)
  · exact c
  · exfalso
    have w := sm_mono (f := fun e => max (r e) 0) (g := fun e => S * gt r m k e) m (fun e a1 a2 => by
      have g1 := amx_ge (f := rs r m k) m e a1 a2
      have g2 := h3 e a1 a2
      show max (r e) 0 ≤ S * gt r m k e
      rcases rs_gt (r := r) (m := m) (e := e) k with q | q
      · rw [q.2, Int.mul_zero]
        omega
      · have := Int.mul_le_mul_of_nonneg_left q.2 (show 0 ≤ S by omega)
        omega)
    rw [h4, sm_mul, gt_sum m0] at w
    have := Int.le_of_mul_le_mul_left w h1
    omega
theorem lr_of {h : Int → Int} {c s : Int} {m : Nat} (hs : 0 < s) (hc : 0 ≤ c) (hh : ∀ e : Int, 0 ≤ e → e < m → 0 ≤ h e) (hm : sm h m = s) : Lr (fun e => c * h e % s) m s (c - sm (fun e => c * h e / s) m) := by
  have h4 : sm (fun e => max (c * h e % s) 0) m = s * (c - sm (fun e => c * h e / s) m) := by
    have e1 : sm (fun e => c * h e) m = c * s := by rw [sm_mul, hm]
    have e2 : sm (fun e => max (c * h e % s) 0 + s * (c * h e / s)) m = sm (fun e => c * h e) m := sm_congr _ (fun e _ _ => by
      have b := Int.emod_nonneg (c * h e) (show s ≠ 0 by omega)
      have b2 := Int.emod_add_mul_ediv (c * h e) s
      show max (c * h e % s) 0 + s * (c * h e / s) = c * h e
      have e5 : max (c * h e % s) 0 = c * h e % s := by omega
      rw [e5]
      exact b2)
    have e3 := sm_add (f := fun e => max (c * h e % s) 0) (g := fun e => s * (c * h e / s)) m
    rw [e2, e1, sm_mul] at e3
    rw [Int.mul_sub, Int.mul_comm s c]
    omega
  refine ⟨hs, ?_, fun e _ _ => ?_, h4⟩
  · have w := sm_bd (f := fun e => max (c * h e % s) 0) (B := s) m (fun e _ _ => by
      have b := Int.emod_nonneg (c * h e) (show s ≠ 0 by omega)
      have b2 := Int.emod_lt_of_pos (c * h e) hs
      show 0 ≤ max (c * h e % s) 0 ∧ max (c * h e % s) 0 ≤ s
      omega)
    rw [h4] at w
    by_cases q : 0 ≤ c - sm (fun e => c * h e / s) m
    · exact q
    · exfalso
      have := Int.mul_neg_of_pos_of_neg hs (show c - sm (fun e => c * h e / s) m < 0 by omega)
      omega
  · have b := Int.emod_nonneg (c * h e) (show s ≠ 0 by omega)
    have b2 := Int.emod_lt_of_pos (c * h e) hs
    show -1 ≤ c * h e % s ∧ c * h e % s < s
    omega
/-- a sum c parted by h, whole -/
def prt (h : Int → Int) (m : Nat) (c s e : Int) : Int := c * h e / s + gt (fun e => c * h e % s) m (c - sm (fun e => c * h e / s) m).toNat e
theorem prt_sum {h : Int → Int} {c s : Int} {m : Nat} (hs : 0 < s) (hc : 0 ≤ c) (hh : ∀ e : Int, 0 ≤ e → e < m → 0 ≤ h e) (hm : sm h m = s) : sm (fun e => prt h m c s e) m = c := by
  have l := lr_of hs hc hh hm
  have m0 : 0 < m := by
    by_cases q : 0 < m
    · exact q
    · have : m = 0 := by omega
      subst this
      have : sm h 0 = 0 := rfl
      omega
  have e := sm_add (f := fun e => c * h e / s) (g := gt (fun e => c * h e % s) m (c - sm (fun e => c * h e / s) m).toNat) m
  have e2 := gt_sum (r := fun e => c * h e % s) m0 (c - sm (fun e => c * h e / s) m).toNat
  have l2 := l.2.1
  show sm (fun e => c * h e / s + gt (fun e => c * h e % s) m (c - sm (fun e => c * h e / s) m).toNat e) m = c
  rw [e, e2]
  omega
theorem prt_bd {h : Int → Int} {c s e : Int} {m : Nat} (hs : 0 < s) (hc : 0 ≤ c) (hh : ∀ e : Int, 0 ≤ e → e < m → 0 ≤ h e) (hm : sm h m = s) (he : 0 ≤ e ∧ e < m) : 0 ≤ prt h m c s e ∧ prt h m c s e ≤ c := by
  have nnp : ∀ k : Int, 0 ≤ k → k < m → 0 ≤ prt h m c s k := fun k a1 a2 => by
    have := Int.ediv_nonneg (Int.mul_nonneg hc (hh k a1 a2)) (show 0 ≤ s by omega)
    have g := gt_nn (r := fun e => c * h e % s) (m := m) (e := k) (c - sm (fun e => c * h e / s) m).toNat
    unfold prt
    omega
  refine ⟨nnp e he.1 he.2, ?_⟩
  have := sm_one (f := fun e => prt h m c s e) (j := e) m nnp he.1 he.2
  rw [prt_sum hs hc hh hm] at this
  exact this
def est1 (p : Int → Int) (y a g e : Int) : Int := if 0 < rA p y a g then prt (fun e => rE p y a g e) (p 2).toNat (p (75 + 4 * y + g)) (rA p y a g) e else 0
def est (p : Int → Int) (y a e : Int) : Int := sm (fun g => est1 p y a g e) 4
