/-- a code of the model as a step of the class -/
def cm (c : Int) : Int := if 100 ≤ c then c + 1900 else if c < 10 then 1000 + c else if c = 20 then 111 else if c = 21 then 97 else if c = 22 then 110 else if c = 23 then 61 else if c = 24 then 60 else if c = 25 then 62 else if c = 26 then 43 else if c = 27 then 45 else if c = 28 then 42 else if c = 29 then 47 else if c = 30 then 37 else 109
/-- is it a code; what it takes and leaves -/
def cOK (c : Int) : Prop := (100 ≤ c ∧ c ≤ 10000099) ∨ (0 ≤ c ∧ c < 10) ∨ (20 ≤ c ∧ c ≤ 31)
def cNd (c : Int) : Int := if 100 ≤ c ∨ c < 10 then 0 else if c = 22 ∨ c = 31 then 1 else 2
def cDl (c : Int) : Int := if 100 ≤ c ∨ c < 10 then 1 else if c = 22 ∨ c = 31 then 0 else -1
/-- how high the stack is behind n codes from a on -/
def cDp (f : Int → Int) (a : Int) : Nat → Int
  | 0 => 0
  | n + 1 => cDp f a n + cDl (f (a + n))
def cWf (f : Int → Int) (a : Int) (n : Nat) : Prop := (∀ k : Nat, k < n → cOK (f (a + k)) ∧ cNd (f (a + k)) ≤ cDp f a k) ∧ cDp f a n = 1
def lRul (C : Nat → Int → Int) (p : Int → Int) : Prop := C 28 0 = p 5 ∧ 0 ≤ p 5 ∧ p 5 ≤ 12 ∧ (∀ r, 0 ≤ r → r < p 5 → C 29 r = p (2800 + r) ∧ C 30 r = p (2812 + r) ∧ C 31 r = p (2824 + r) ∧ C 32 r = 120 * r + p (2836 + r) ∧ C 33 r = 120 * r + p (2848 + r) ∧ 0 ≤ p (2800 + r) ∧ p (2800 + r) ≤ 5 ∧ 0 ≤ p (2812 + r) ∧ p (2812 + r) < p (2824 + r) ∧ p (2824 + r) ≤ 100 ∧ 0 < p (2836 + r) ∧ p (2836 + r) ≤ p (2848 + r) ∧ p (2848 + r) ≤ 120) ∧ (∀ r k, 0 ≤ r → r < p 5 → 0 ≤ k → k < p (2848 + r) → C 34 (120 * r + k) = cm (p (2860 + 130 * r + k))) ∧ (∀ r, 0 ≤ r → r < p 5 → cWf (fun k => p (2860 + 130 * r + k)) 0 (p (2836 + r)).toNat ∧ (p (2836 + r) < p (2848 + r) → cWf (fun k => p (2860 + 130 * r + k)) (p (2836 + r)) (p (2848 + r) - p (2836 + r)).toNat))
/-- the sum of f at 0 .. n - 1 -/
def sm (f : Int → Int) : Nat → Int
  | 0 => 0
  | n + 1 => sm f n + f n
theorem sm_step {f : Int → Int} {i : Int} (h : 0 ≤ i) : sm f (i + 1).toNat = sm f i.toNat + f i := by
  have e : (i + 1).toNat = i.toNat + 1 := by omega
  rw [e]
  show sm f i.toNat + f (i.toNat : Int) = _
  rw [Int.toNat_of_nonneg h]
theorem sm_congr {f g : Int → Int} : ∀ n : Nat, (∀ k : Int, 0 ≤ k → k < n → f k = g k) → sm f n = sm g n
  | 0, _ => rfl
  | n + 1, h => by
    show sm f n + f n = sm g n + g n
    rw [sm_congr n (fun k a1 a2 => h k a1 (by omega)), h n (by omega) (by omega)]
theorem sm_bd {f : Int → Int} {B : Int} : ∀ n : Nat, (∀ k : Int, 0 ≤ k → k < n → 0 ≤ f k ∧ f k ≤ B) → 0 ≤ sm f n ∧ sm f n ≤ B * n
  | 0, _ => ⟨Int.le_refl _, by simp [sm]⟩
  | n + 1, h => by
    have h1 := sm_bd n (fun k a1 a2 => h k a1 (by omega))
    have h2 := h n (by omega) (by omega)
    have e : B * ((n + 1 : Nat) : Int) = B * n + B := by rw [Int.natCast_add, Int.mul_add]; simp
    show 0 ≤ sm f n + f n ∧ sm f n + f n ≤ B * ((n + 1 : Nat) : Int)
    rw [e]
    omega
theorem sm_zero {f : Int → Int} : ∀ n : Nat, (∀ k : Int, 0 ≤ k → k < n → f k = 0) → sm f n = 0
  | 0, _ => rfl
  | n + 1, h => by
    show sm f n + f n = 0
    rw [sm_zero n (fun k a1 a2 => h k a1 (by omega)), h n (by omega) (by omega)]
    rfl
/-- parts never sum up to more than a hundred -/
def lSum (p : Int → Int) : Prop := (∀ n, 0 ≤ n → n < p 3 → sm (fun h => p (500 + 20 * n + h)) (p 3).toNat ≤ 100) ∧ (∀ n h, 0 ≤ n → n < 20 → 0 ≤ h → h < 20 → p 3 ≤ n ∨ p 3 ≤ h → p (500 + 20 * n + h) = 0) ∧ (∀ e, 0 ≤ e → e < p 2 → sm (fun s => if p (900 + s) = e then p (1080 + s) else 0) (p 4).toNat ≤ 100)
/-- the pence stay small -/
def lQ (p q : Int → Int) : Prop := (∀ y, 0 ≤ y → y < 41 → 0 ≤ q y ∧ q y ≤ 10000000 * (y + 1) ∧ 0 ≤ q (41 + y) ∧ q (41 + y) ≤ 10000000 * (y + 1) ∧ 0 ≤ q (82 + y) ∧ q (82 + y) ≤ 10000000 * (y + 1)) ∧ (∀ k, 0 ≤ k → k < 820 → 0 ≤ q (123 + k) ∧ q (123 + k) ≤ 500000000 * p 0 ∧ 0 ≤ q (943 + k) ∧ q (943 + k) ≤ 50000000000) ∧ (∀ k, 20 * p 0 ≤ k → k < 820 → q (943 + k) = 0)
theorem lSum_fr {p p' : Int → Int} (h : lSum p) (h0 : 0 ≤ p 3 ∧ p 3 ≤ 20 ∧ 0 ≤ p 4 ∧ p 4 ≤ 60) (h2 : p' 2 = p 2) (h3 : p' 3 = p 3) (h4 : p' 4 = p 4) (hp : ∀ j, (500 ≤ j ∧ j < 960) ∨ (1080 ≤ j ∧ j < 1140) → p' j = p j) : lSum p' := by
  obtain ⟨g1, g2, g3⟩ := h
  refine ⟨fun n a1 a2 => ?_, fun n h a1 a2 a3 a4 a5 => ?_, fun e a1 a2 => ?_⟩
  · rw [h3, sm_congr (g := fun h => p (500 + 20 * n + h)) _ (fun k b1 b2 => hp _ (by omega))]
    exact g1 n a1 (by omega)
  · rw [hp _ (by omega)]
    exact g2 n h a1 a2 a3 a4 (by omega)
  · rw [h4, sm_congr (g := fun s => if p (900 + s) = e then p (1080 + s) else 0) _ (fun k b1 b2 => by show (if p' (900 + k) = e then p' (1080 + k) else 0) = _; rw [hp (900 + k) (by omega), hp (1080 + k) (by omega)])]
    exact g3 e a1 (by omega)
theorem lSum_ed {p p' : Int → Int} (h : lSum p) (h0 : 0 ≤ p 3 ∧ p 3 ≤ 20 ∧ 0 ≤ p 4 ∧ p 4 ≤ 60) (hs : ∀ s, 0 ≤ s → s < p 4 → p (900 + s) < p 2) (h2 : p' 2 = p 2 + 1) (h3 : p' 3 = p 3) (h4 : p' 4 = p 4) (hp : ∀ j, (500 ≤ j ∧ j < 960) ∨ (1080 ≤ j ∧ j < 1140) → p' j = p j) : lSum p' := by
  obtain ⟨g1, g2, g3⟩ := h
  refine ⟨fun n a1 a2 => ?_, fun n h a1 a2 a3 a4 a5 => ?_, fun e a1 a2 => ?_⟩
  · rw [h3, sm_congr (g := fun h => p (500 + 20 * n + h)) _ (fun k b1 b2 => hp _ (by omega))]
    exact g1 n a1 (by omega)
  · rw [hp _ (by omega)]
    exact g2 n h a1 a2 a3 a4 (by omega)
  · rw [h4, sm_congr (g := fun s => if p (900 + s) = e then p (1080 + s) else 0) _ (fun k b1 b2 => by show (if p' (900 + k) = e then p' (1080 + k) else 0) = _; rw [hp (900 + k) (by omega), hp (1080 + k) (by omega)])]
    by_cases hE : e < p 2
    · exact g3 e a1 hE
    · rw [sm_zero _ (fun k b1 b2 => if_neg (by have := hs k b1 (by omega); omega))]
      omega
theorem lSum_pe {p p' : Int → Int} (h : lSum p) (h0 : 0 ≤ p 3 ∧ p 3 < 20 ∧ 0 ≤ p 4 ∧ p 4 ≤ 60) (h2 : p' 2 = p 2) (h3 : p' 3 = p 3 + 1) (h4 : p' 4 = p 4) (hp : ∀ j, (500 ≤ j ∧ j < 960) ∨ (1080 ≤ j ∧ j < 1140) → p' j = p j) : lSum p' := by
  obtain ⟨g1, g2, g3⟩ := h
  refine ⟨fun n a1 a2 => ?_, fun n h a1 a2 a3 a4 a5 => ?_, fun e a1 a2 => ?_⟩
  · rw [h3, sm_congr (g := fun h => p (500 + 20 * n + h)) _ (fun k b1 b2 => hp _ (by omega)), sm_step (by omega)]
    have e1 := g2 n (p 3) a1 (by omega) (by omega) (by omega) (by omega)
    show sm (fun h => p (500 + 20 * n + h)) (p 3).toNat + p (500 + 20 * n + p 3) ≤ 100
    rw [e1]
    by_cases hE : n < p 3
    · have := g1 n a1 hE
      omega
    · rw [sm_zero _ (fun k b1 b2 => g2 n k a1 (by omega) b1 (by omega) (by omega))]
      omega
  · rw [hp _ (by omega)]
    exact g2 n h a1 a2 a3 a4 (by omega)
  · rw [h4, sm_congr (g := fun s => if p (900 + s) = e then p (1080 + s) else 0) _ (fun k b1 b2 => by show (if p' (900 + k) = e then p' (1080 + k) else 0) = _; rw [hp (900 + k) (by omega), hp (1080 + k) (by omega)])]
    exact g3 e a1 (by omega)
theorem lQ_fr {p p' q q' : Int → Int} (h : lQ p q) (h1 : 0 ≤ p 0) (h0 : p 0 ≤ p' 0) (hq : ∀ j, 0 ≤ j ∧ j < 1763 → q' j = q j) : lQ p' q' := by
  obtain ⟨g1, g2, g3⟩ := h
  refine ⟨fun y a1 a2 => ?_, fun k a1 a2 => ?_, fun k a1 a2 => ?_⟩
  · rw [hq y (by omega), hq (41 + y) (by omega), hq (82 + y) (by omega)]
    exact g1 y a1 a2
  · rw [hq (123 + k) (by omega), hq (943 + k) (by omega)]
    have := g2 k a1 a2
    omega
  · by_cases hk : 0 ≤ k
    · rw [hq (943 + k) (by omega)]
      exact g3 k (by omega) a2
    · exact absurd a1 (by have := h1; omega)
def iLand (C CL : Nat → Int → Int) (p q : Int → Int) : Prop := lOp C p ∧ lLib C p ∧ lEnt C p ∧ lEd C p ∧ lPeo C p ∧ lSh C p ∧ lRul C p ∧ lYr C CL p q ∧ lSum p ∧ lQ p q
def iKept (b : Bool) (I L : Nat → Int → Int) : Prop := b = true → iLand (fun k => I (84 + k)) (fun k => L (84 + k)) (I 68) (L 70)
def iCon (b : Bool) (I L : Nat → Int → Int) : Prop := I 66 22 = -1 ∧ I 66 4 = (if b = true then 1 else 0) ∧ (I 72 0 = 12 ∧ I 72 1 = 12 ∧ I 72 2 = 6 ∧ I 72 3 = 7 ∧ I 72 4 = 4 ∧ I 72 5 = 6) ∧ (L 75 0 = 7825519 ∧ L 75 1 = 1885434484 ∧ L 75 2 = 107075454591332 ∧ L 75 3 = 1836020596 ∧ L 75 4 = 465557353332 ∧ L 75 5 = 1818326117 ∧ L 75 6 = 1919904869 ∧ L 75 7 = 1802071652 ∧ L 75 8 = 1818324580 ∧ L 75 9 = 2036687218 ∧ L 75 10 = 1684365668 ∧ L 75 11 = 427020085613 ∧ L 75 12 = 482671228019 ∧ L 75 13 = 31650994541847908 ∧ L 75 14 = 499985443941 ∧ L 75 15 = 465725124211 ∧ L 75 16 = 26982 ∧ L 75 17 = 28530 ∧ L 75 18 = 6385252 ∧ L 75 19 = 7237492)
/-- what holds between two calls -/
def Inv (b : Bool) (I L : Nat → Int → Int) : Prop := iLand I L (I 67) (L 69) ∧ iKept b I L ∧ iRow I ∧ iTap I ∧ iRef I ∧ iCon b I L
theorem lOp_fr {C C' : Nat → Int → Int} {p p' : Int → Int} (h : lOp C p) (hc : C' 1 = C 1) (hp : p' 0 = p 0) : lOp C' p' := by
  unfold lOp at *
  rw [hc, hp]
  exact h
theorem lLib_fr {C C' : Nat → Int → Int} {p p' : Int → Int} (h : lLib C p) (hc : C' 2 = C 2 ∧ C' 3 = C 3 ∧ C' 4 = C 4) (hp : ∀ j, j = 1 ∨ (10 ≤ j ∧ j < 34) → p' j = p j) : lLib C' p' := by grind [lLib]
theorem lEd_fr {C C' : Nat → Int → Int} {p p' : Int → Int} (h : lEd C p) (hc : C' 10 = C 10 ∧ C' 11 = C 11 ∧ C' 12 = C 12 ∧ C' 13 = C 13 ∧ C' 14 = C 14) (hp : ∀ j, j = 2 ∨ (280 ≤ j ∧ j < 400) → p' j = p j) : lEd C' p' := by
  obtain ⟨h1, h2, h3, h4, h5⟩ := h
  have e2 := hp 2 (by omega)
  refine ⟨by rw [hc.1, e2]; exact h1, by omega, by omega, fun e a1 a2 => ?_, fun e a1 a2 => ?_⟩
  · have := h4 e a1 a2
    rw [hp _ (by omega), hp _ (by omega), hp _ (by omega), hp _ (by omega)]
    grind
  · have g := h5 e a1 (by omega)
    rw [hp (280 + e) (by omega), hp (310 + e) (by omega), hp (340 + e) (by omega), hp (370 + e) (by omega), hp (370 + p (370 + e)) (by omega)]
    exact g
theorem lPeo_fr {C C' : Nat → Int → Int} {p p' : Int → Int} (h : lPeo C p) (hc : C' 15 = C 15 ∧ C' 16 = C 16 ∧ C' 17 = C 17 ∧ C' 18 = C 18 ∧ C' 19 = C 19 ∧ C' 20 = C 20 ∧ C' 21 = C 21) (hp : ∀ j, j = 3 ∨ (400 ≤ j ∧ j < 900) → p' j = p j) : lPeo C' p' := by
  obtain ⟨h1, h2, h3, h4, h5, h6⟩ := h
  have e2 := hp 3 (by omega)
  refine ⟨by rw [hc.1, e2]; exact h1, by omega, by omega, fun e a1 a2 => ?_, fun e a1 a2 => ?_, fun k a1 a2 => ?_⟩
  · have := h4 e a1 a2
    rw [hp _ (by omega), hp _ (by omega), hp _ (by omega), hp _ (by omega), hp _ (by omega)]
    grind
  · have g := h5 e a1 (by omega)
    rw [hp (400 + e) (by omega), hp (420 + e) (by omega), hp (440 + e) (by omega), hp (460 + e) (by omega), hp (480 + e) (by omega), hp (480 + p (480 + e)) (by omega)]
    exact g
  · rw [hp _ (by omega), hc.2.2.2.2.2.2]
    exact h6 k a1 a2
theorem lSh_fr {C C' : Nat → Int → Int} {p p' : Int → Int} (h : lSh C p) (hc : C' 22 = C 22 ∧ C' 23 = C 23 ∧ C' 24 = C 24 ∧ C' 25 = C 25 ∧ C' 26 = C 26 ∧ C' 27 = C 27) (hp : ∀ j, j = 4 ∨ (900 ≤ j ∧ j < 1200) → p' j = p j) (h0 : p 0 ≤ p' 0) (h2 : p 2 ≤ p' 2) (h3 : p 3 ≤ p' 3) : lSh C' p' := by
  obtain ⟨g1, g2, g3, g4, g5⟩ := h
  have e2 := hp 4 (by omega)
  refine ⟨by rw [hc.1, e2]; exact g1, by omega, by omega, fun e a1 a2 => ?_, fun e a1 a2 => ?_⟩
  · have := g4 e a1 a2
    rw [hp _ (by omega), hp _ (by omega), hp _ (by omega), hp _ (by omega), hp _ (by omega)]
    grind
  · have g := g5 e a1 (by omega)
    rw [hp (900 + e) (by omega), hp (960 + e) (by omega), hp (1020 + e) (by omega), hp (1080 + e) (by omega), hp (1140 + e) (by omega)]
    omega
theorem lEnt_fr {C C' : Nat → Int → Int} {p p' : Int → Int} (h : lEnt C p) (hc : C' 6 = C 6 ∧ C' 7 = C 7 ∧ C' 8 = C 8 ∧ C' 9 = C 9) (hp : ∀ j, j = 6 ∨ (34 ≤ j ∧ j < 75) ∨ (1200 ≤ j ∧ j < 2800) → p' j = p j) (h4 : 0 ≤ p 0 ∧ p 0 ≤ 40) (h0 : p 0 ≤ p' 0) (h1 : p 1 ≤ p' 1) (h2 : p 2 ≤ p' 2) : lEnt C' p' := by
  obtain ⟨g1, g2, g3, g4, g5, g6, g7, g8⟩ := h
  have e2 := hp 6 (by omega)
  refine ⟨by rw [hc.1, e2]; exact g1, by omega, by omega, fun k a1 a2 => ?_, fun k a1 a2 => ?_, fun j k a1 a2 a3 => ?_, fun j k a1 a2 a3 a4 a5 => ?_, fun k a1 a2 => ?_⟩
  · have := g4 k a1 (by omega)
    rw [hp (1200 + k) (by omega), hp (1600 + k) (by omega), hp (2000 + k) (by omega), hp (2400 + k) (by omega), hc.2.1, hc.2.2.1, hc.2.2.2]
    exact this
  · have g := g5 k a1 (by omega)
    rw [hp (1200 + k) (by omega), hp (1600 + k) (by omega), hp (2000 + k) (by omega), hp (2400 + k) (by omega)]
    omega
  · rw [hp (2400 + j) (by omega), hp (2400 + k) (by omega)]
    exact g6 j k a1 a2 (by omega)
  · rw [hp (2400 + j) (by omega), hp (2400 + k) (by omega)]
    rw [hp (1200 + j) (by omega), hp (1200 + k) (by omega)] at a4
    rw [hp (1600 + j) (by omega), hp (1600 + k) (by omega)] at a5
    exact g7 j k a1 a2 (by omega) a4 a5
  · have g := g5 k a1 (by omega)
    have w := g8 k a1 (by omega)
    rw [hp (1200 + k) (by omega), hp (1600 + k) (by omega), hp (34 + p (1200 + k)) (by omega)]
    exact w
theorem lYr_fr {C CL C' CL' : Nat → Int → Int} {p p' q q' : Int → Int} (h : lYr C CL p q) (hc : C' 37 = C 37 ∧ C' 38 = C 38 ∧ C' 39 = C 39) (hl : CL' 40 = CL 40 ∧ CL' 41 = CL 41 ∧ CL' 42 = CL 42 ∧ CL' 43 = CL 43 ∧ CL' 44 = CL 44) (hp : ∀ j, 34 ≤ j ∧ j < 280 → p' j = p j) (hq : ∀ j, 0 ≤ j ∧ j < 1763 → q' j = q j) : lYr C' CL' p' q' := by
  obtain ⟨g1, g2, g3, g4⟩ := h
  refine ⟨fun y a1 a2 => ?_, fun y a1 a2 => ?_, fun k a1 a2 => ?_, fun k a1 a2 => ?_⟩
  · rw [hp (34 + y) (by omega), hp (239 + y) (by omega), hq y (by omega), hq (41 + y) (by omega), hq (82 + y) (by omega), hc.1, hc.2.2, hl.1, hl.2.1, hl.2.2.1]
    exact g1 y a1 a2
  · rw [hp (34 + y) (by omega), hp (239 + y) (by omega)]
    exact g2 y a1 a2
  · rw [hp (75 + k) (by omega), hc.2.1]
    exact g3 k a1 a2
  · rw [hq (123 + k) (by omega), hq (943 + k) (by omega), hl.2.2.2.1, hl.2.2.2.2]
    exact g4 k a1 a2
theorem cDp_congr {f g : Int → Int} {a : Int} : ∀ n : Nat, (∀ k : Nat, k < n → g (a + k) = f (a + k)) → cDp g a n = cDp f a n
  | 0, _ => rfl
  | n + 1, h => by
    show cDp g a n + cDl (g (a + n)) = cDp f a n + cDl (f (a + n))
    rw [cDp_congr n (fun k hk => h k (by omega)), h n (by omega)]
theorem cWf_congr {f g : Int → Int} {a : Int} {n : Nat} (h : ∀ k : Nat, k < n → g (a + k) = f (a + k)) (w : cWf f a n) : cWf g a n := by
  refine ⟨fun k hk => ?_, by rw [cDp_congr n h]; exact w.2⟩
  rw [h k hk, cDp_congr k (fun j hj => h j (by omega))]
  exact w.1 k hk
theorem lRul_fr {C C' : Nat → Int → Int} {p p' : Int → Int} (h : lRul C p) (hc : C' 28 = C 28 ∧ C' 29 = C 29 ∧ C' 30 = C 30 ∧ C' 31 = C 31 ∧ C' 32 = C 32 ∧ C' 33 = C 33 ∧ C' 34 = C 34) (hp : ∀ j, j = 5 ∨ (2800 ≤ j ∧ j < 2860) → p' j = p j) (hk : ∀ r k, 0 ≤ r → r < p 5 → 0 ≤ k → k < 130 → p' (2860 + 130 * r + k) = p (2860 + 130 * r + k)) : lRul C' p' := by
  obtain ⟨g1, g2, g3, g4, g5, g6⟩ := h
  have e2 := hp 5 (by omega)
  refine ⟨by rw [hc.1, e2]; exact g1, by omega, by omega, fun r a1 a2 => ?_, fun r k a1 a2 a3 a4 => ?_, fun r a1 a2 => ?_⟩
  · rw [hp (2800 + r) (by omega), hp (2812 + r) (by omega), hp (2824 + r) (by omega), hp (2836 + r) (by omega), hp (2848 + r) (by omega), hc.2.1, hc.2.2.1, hc.2.2.2.1, hc.2.2.2.2.1, hc.2.2.2.2.2.1]
    exact g4 r a1 (by omega)
  · rw [hp (2848 + r) (by omega)] at a4
    have := (g4 r a1 (by omega))
    rw [hk r k a1 (by omega) a3 (by omega), hc.2.2.2.2.2.2]
    exact g5 r k a1 (by omega) a3 a4
  · rw [hp (2836 + r) (by omega), hp (2848 + r) (by omega)]
    have w := g6 r a1 (by omega)
    have w4 := g4 r a1 (by omega)
    refine ⟨cWf_congr (fun k hk2 => ?_) w.1, fun z => cWf_congr (fun k hk2 => ?_) (w.2 z)⟩
    · exact hk r _ a1 (by omega) (by omega) (by omega)
    · exact hk r _ a1 (by omega) (by omega) (by omega)
theorem iLand_cg {C CL C' CL' : Nat → Int → Int} {p q : Int → Int} (h : iLand C CL p q) (hc : ∀ k, 1 ≤ k → k ≤ 44 → C' k = C k) (hl : ∀ k, 40 ≤ k → k ≤ 44 → CL' k = CL k) : iLand C' CL' p q := by
  obtain ⟨h1, h2, h3, h4, h5, h6, h7, h8, h9, h10⟩ := h
  refine ⟨lOp_fr h1 (hc 1 (by omega) (by omega)) rfl, lLib_fr h2 ⟨hc _ (by omega) (by omega), hc _ (by omega) (by omega), hc _ (by omega) (by omega)⟩ (fun _ _ => rfl), lEnt_fr h3 ⟨hc _ (by omega) (by omega), hc _ (by omega) (by omega), hc _ (by omega) (by omega), hc _ (by omega) (by omega)⟩ (fun _ _ => rfl) h1.2 (Int.le_refl _) (Int.le_refl _) (Int.le_refl _), lEd_fr h4 ⟨hc _ (by omega) (by omega), hc _ (by omega) (by omega), hc _ (by omega) (by omega), hc _ (by omega) (by omega), hc _ (by omega) (by omega)⟩ (fun _ _ => rfl), lPeo_fr h5 ⟨hc _ (by omega) (by omega), hc _ (by omega) (by omega), hc _ (by omega) (by omega), hc _ (by omega) (by omega), hc _ (by omega) (by omega), hc _ (by omega) (by omega), hc _ (by omega) (by omega)⟩ (fun _ _ => rfl), lSh_fr h6 ⟨hc _ (by omega) (by omega), hc _ (by omega) (by omega), hc _ (by omega) (by omega), hc _ (by omega) (by omega), hc _ (by omega) (by omega), hc _ (by omega) (by omega)⟩ (fun _ _ => rfl) (Int.le_refl _) (Int.le_refl _) (Int.le_refl _), lRul_fr h7 ⟨hc _ (by omega) (by omega), hc _ (by omega) (by omega), hc _ (by omega) (by omega), hc _ (by omega) (by omega), hc _ (by omega) (by omega), hc _ (by omega) (by omega), hc _ (by omega) (by omega)⟩ (fun _ _ => rfl) (fun _ _ _ _ _ _ => rfl), lYr_fr h8 ⟨hc _ (by omega) (by omega), hc _ (by omega) (by omega), hc _ (by omega) (by omega)⟩ ⟨hl _ (by omega) (by omega), hl _ (by omega) (by omega), hl _ (by omega) (by omega), hl _ (by omega) (by omega), hl _ (by omega) (by omega)⟩ (fun _ _ => rfl) (fun _ _ => rfl), h9, h10⟩
theorem iKept_fr {b : Bool} {I L I' L' : Nat → Int → Int} (h : iKept b I L) (hc : ∀ k, 85 ≤ k → I' k = I k) (hl : ∀ k, 85 ≤ k → L' k = L k) (hp : I' 68 = I 68) (hq : L' 70 = L 70) : iKept b I' L' := by
  intro hb
  rw [hp, hq]
  exact iLand_cg (h hb) (fun k a _ => hc _ (by omega)) (fun k a _ => hl _ (by omega))
/-- what no land touches -/
theorem Inv_fr {b : Bool} {I L I' L' : Nat → Int → Int} (h : Inv b I L) (hc : ∀ k, 1 ≤ k → k ≤ 44 → I' k = I k) (hl : ∀ k, 40 ≤ k → k ≤ 44 → L' k = L k) (hp : I' 67 = I 67 ∧ I' 68 = I 68 ∧ I' 72 = I 72) (hq : L' 69 = L 69 ∧ L' 70 = L 70 ∧ L' 75 = L 75) (hk : ∀ k, 85 ≤ k → I' k = I k) (hkl : ∀ k, 85 ≤ k → L' k = L k) (h66 : I' 66 22 = I 66 22 ∧ I' 66 4 = I 66 4) (hr : iRow I') (ht : iTap I') (hf : iRef I') : Inv b I' L' := by
  obtain ⟨h1, h2, -, -, -, h6⟩ := h
  refine ⟨?_, iKept_fr h2 hk hkl hp.2.1 hq.2.1, hr, ht, hf, ?_⟩
  · rw [hp.1, hq.1]
    exact iLand_cg h1 hc hl
  · unfold iCon at h6 ⊢
    rw [hp.2.2, hq.2.2, h66.1, h66.2]
    exact h6
theorem upn {I : Nat → Int → Int} {c : Nat} {i v : Int} {k : Nat} (h : k ≠ c) : am_up I c i v k = I k := am_up_ne h
theorem rf_ne {I : Nat → Int → Int} {y : Int} {k : Nat} (h : k ≠ 65) (h2 : k ≠ 71) : rfM (rfC I y) y k = I k := by
  funext j
  unfold rfM rfC
  rw [upn h2]
  show am_up I 65 (-y) _ k j = I k j
  rw [upn h]
theorem iRef_rf {I : Nat → Int → Int} {y : Int} (h : iRef I) : iRef (rfM (rfC I y) y) := by
  intro k a1 a2
  have := h k a1 a2
  unfold rfM rfC
  grind [am_up, iRef]
/-- behind a refusal -/
theorem Inv_rf {b : Bool} {I L : Nat → Int → Int} {y : Int} (h : Inv b I L) : Inv b (rfM (rfC I y) y) L := by
  obtain ⟨h1, h2, h3, h4, h5, h6⟩ := id h
  refine Inv_fr h (fun k a1 a2 => rf_ne (by omega) (by omega)) (fun _ _ _ => rfl) ⟨rf_ne (by omega) (by omega), rf_ne (by omega) (by omega), rf_ne (by omega) (by omega)⟩ ⟨rfl, rfl, rfl⟩ (fun k a1 => rf_ne (by omega) (by omega)) (fun _ _ => rfl) ⟨by rw [rf_ne (by omega) (by omega)], by rw [rf_ne (by omega) (by omega)]⟩ ?_ ?_ (iRef_rf h5)
  · unfold iRow at h3 ⊢
    rw [rf_ne (by omega) (by omega), rf_ne (by omega) (by omega), rf_ne (by omega) (by omega), rf_ne (by omega) (by omega)]
    exact h3
  · unfold iTap at h4 ⊢
    rw [rf_ne (by omega) (by omega), rf_ne (by omega) (by omega), rf_ne (by omega) (by omega), rf_ne (by omega) (by omega)]
    exact h4
/-- both sides answer alike, and all holds again -/
def Pair (r r2 : Option am_V) (h2 : am_H) : Prop := ∃ (v : am_V) (b : Bool) (I L : Nat → Int → Int), r = some v ∧ r2 = some v ∧ h2 = (sh b, I, L) ∧ Inv b I L
theorem Pair_rf {b : Bool} {I L : Nat → Int → Int} {y : Int} {v : am_V} (h : Inv b I L) : Pair (some v) (some v) (sh b, rfM (rfC I y) y, L) := ⟨v, b, _, L, rfl, rfl, rfl, Inv_rf h⟩
