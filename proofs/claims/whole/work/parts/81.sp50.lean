/-! CLOSING A YEAR -/
theorem gt_out {r : Int → Int} {m : Nat} {S left q : Int} (h : Lr r m S left) (hr : r q = -1) : ∀ k : Nat, (k : Int) ≤ left → gt r m k q = 0
  | 0, _ => rfl
  | k + 1, hk => by
    have ih := gt_out h hr k (by omega)
    have lp := lr_pos (k := k) h (by omega)
    have g := rs_gt (r := r) (m := m) (e := q) k
    show gt r m k q + (if q = amx (rs r m k) m then 1 else 0) = 0
    by_cases e : q = amx (rs r m k) m
    · exfalso
      rw [← e] at lp
      omega
    · rw [if_neg e, ih]
      rfl
theorem gE_out {P N G : Int → Int} {Z q : Int} (hP : Pp P) (hZ : 0 ≤ Z) (hn : N q = 0) : gE P N G Z q = G q := by
  unfold gE
  split
  · rename_i hp
    have l := lr_N (N := N) (Z := Z) hP hZ hp
    have l2 := l.2.1
    have hr : rN P N Z q = -1 := if_pos hn
    (try rw [if_pos hn])
    rw [gt_out l hr _ (by omega)]
    omega
  · rfl
theorem oG_P0 {P : Int → Int} {M Z q : Int} (hP : Pp P) (hZ : 0 ≤ Z ∧ Z ≤ 1000000000) (h : ¬ 0 < P q) : oG P M Z q = 0 := by
  have hn : (NZ P M Z (kk M)).1 q = 0 := by
    rcases NZ_01 (P := P) (M := M) (Z := Z) (kk M) q with w | w
    · exact w
    · exact absurd w.2 h
  have z : 0 ≤ (NZ P M Z (kk M)).2 := by
    by_cases m : 0 < M
    · exact (NZ_z hP m hZ.1 (kk M)).1
    · have e : kk M = 0 := if_neg m
      rw [e]
      exact hZ.1
  unfold oG
  rw [gE_out hP z hn]
  unfold gM
  exact if_neg (fun c => h c.1)
theorem gE_sum {P N G : Int → Int} {Z : Int} (hP : Pp P) (hZ : 0 ≤ Z) (hp : 0 < ptsN P N) : sm (fun q => gE P N G Z q) 20 = sm (fun q => if N q = 0 then G q else 0) 20 + Z := by
  have l := lr_N (N := N) (Z := Z) hP hZ hp
  have l2 := l.2.1
  have e1 : sm (fun q => gE P N G Z q) 20 = sm (fun q => (if N q = 0 then G q else 0) + ((if N q = 0 then 0 else Z * P q / ptsN P N) + gt (rN P N Z) 20 (lfo P N Z).toNat q)) 20 := sm_congr _ (fun q _ _ => by
    show gE P N G Z q = (if N q = 0 then G q else 0) + ((if N q = 0 then 0 else Z * P q / ptsN P N) + gt (rN P N Z) 20 (lfo P N Z).toNat q)
    unfold gE
    rw [if_pos hp]
    by_cases n : N q = 0
    · rw [if_pos n, if_pos n, if_pos n]
      omega
    · rw [if_neg n, if_neg n, if_neg n]
      omega)
  have e2 := sm_add (f := fun q => if N q = 0 then G q else 0) (g := fun q => (if N q = 0 then 0 else Z * P q / ptsN P N) + gt (rN P N Z) 20 (lfo P N Z).toNat q) 20
  have e3 := sm_add (f := fun q => if N q = 0 then 0 else Z * P q / ptsN P N) (g := gt (rN P N Z) 20 (lfo P N Z).toNat) 20
  have e4 := gt_sum (r := rN P N Z) (m := 20) (by omega) (lfo P N Z).toNat
  have e5 : lfo P N Z = Z - sm (fun q => if N q = 0 then 0 else Z * P q / ptsN P N) 20 := rfl
  have e6 : sm (fun q => (if N q = 0 then 0 else Z * P q / ptsN P N) + gt (rN P N Z) 20 (lfo P N Z).toNat q) 20 = sm (fun q => if N q = 0 then 0 else Z * P q / ptsN P N) 20 + sm (gt (rN P N Z) 20 (lfo P N Z).toNat) 20 := e3
  rw [e1, e2, e6, e4]
  omega
/-- what went to those who are out is what is gone -/
theorem gM_sum {P : Int → Int} {M Z : Int} : ∀ k : Nat, sm (fun q => gM P M Z k q) 20 + (NZ P M Z k).2 = Z
  | 0 => by
    have e : sm (fun q => gM P M Z 0 q) 20 = 0 := sm_zero _ (fun q _ _ => gM_0)
    rw [e]
    show 0 + Z = Z
    omega
  | k + 1 => by
    have ih := gM_sum (P := P) (M := M) (Z := Z) k
    have e : sm (fun q => gM P M Z (k + 1) q) 20 = sm (fun q => gM P M Z k q + if cnd P M (NZ P M Z k).1 (NZ P M Z k).2 q then M else 0) 20 := sm_congr _ (fun q _ _ => by
      show gM P M Z (k + 1) q = gM P M Z k q + if cnd P M (NZ P M Z k).1 (NZ P M Z k).2 q then M else 0
      have n1 := NZ_01 (P := P) (M := M) (Z := Z) k q
      have e1 : (NZ P M Z (k + 1)).1 q = if cnd P M (NZ P M Z k).1 (NZ P M Z k).2 q then 0 else (NZ P M Z k).1 q := rfl
      unfold gM
      rw [e1]
      by_cases c : cnd P M (NZ P M Z k).1 (NZ P M Z k).2 q
      · have c1 := c.1
        rw [if_pos c, if_pos c, if_pos ⟨by omega, rfl⟩, if_neg (fun g => c1 g.2)]
        omega
      · rw [if_neg c, if_neg c]
        omega)
    have e2 := sm_add (f := fun q => gM P M Z k q) (g := fun q => if cnd P M (NZ P M Z k).1 (NZ P M Z k).2 q then M else 0) 20
    have e3 : (NZ P M Z (k + 1)).2 = (NZ P M Z k).2 - sm (fun q => if cnd P M (NZ P M Z k).1 (NZ P M Z k).2 q then M else 0) 20 := rfl
    rw [e, e2, e3]
    omega
theorem oG_sum {P : Int → Int} {M Z : Int} (hP : Pp P) (hZ : 0 ≤ Z ∧ Z ≤ 1000000000) (hM : am_r M) : sm (fun q => oG P M Z q) 20 ≤ Z := by
  have z : 0 ≤ (NZ P M Z (kk M)).2 := by
    by_cases m : 0 < M
    · exact (NZ_z hP m hZ.1 (kk M)).1
    · have e : kk M = 0 := if_neg m
      rw [e]
      exact hZ.1
  have g := gM_sum (P := P) (M := M) (Z := Z) (kk M)
  by_cases hp : 0 < ptsN P (NZ P M Z (kk M)).1
  · have e := gE_sum (G := gM P M Z (kk M)) hP z hp
    have e2 : sm (fun q => if (NZ P M Z (kk M)).1 q = 0 then gM P M Z (kk M) q else 0) 20 ≤ sm (fun q => gM P M Z (kk M) q) 20 := sm_mono _ (fun q _ _ => by
      have gb := gM_bd (P := P) (M := M) (Z := Z) (k := kk M) (q := q) ⟨hM.1, by have := hM.2; omega⟩ rfl
      show (if (NZ P M Z (kk M)).1 q = 0 then gM P M Z (kk M) q else 0) ≤ gM P M Z (kk M) q
      split <;> omega)
    have e3 : sm (fun q => oG P M Z q) 20 = sm (fun q => gE P (NZ P M Z (kk M)).1 (gM P M Z (kk M)) (NZ P M Z (kk M)).2 q) 20 := rfl
    rw [e3, e]
    omega
  · have e : sm (fun q => oG P M Z q) 20 = sm (fun q => gM P M Z (kk M) q) 20 := sm_congr _ (fun q _ _ => if_neg hp)
    rw [e]
    omega
theorem fR_bd {P : Int → Int} {M T Z : Int} (hP : Pp P) (hZ : 0 ≤ Z ∧ Z ≤ 1000000000) (hM : am_r M) : 0 ≤ fR P M T Z ∧ fR P M T Z ≤ Z := by
  have w1 : sm (fun q => fG P M T Z q) 20 ≤ sm (fun q => oG P M Z q) 20 := sm_mono _ (fun q a1 a2 => by
    have := oG_bd (M := M) (q := q) hP hZ ⟨a1, by omega⟩ ⟨hM.1, by have := hM.2; omega⟩
    show (if oG P M Z q < T then 0 else oG P M Z q) ≤ oG P M Z q
    split <;> omega)
  have w2 := oG_sum hP hZ hM
  have w3 : 0 ≤ sm (fun q => fG P M T Z q) 20 := sm_nn _ (fun q a1 a2 => (fG_bd hP hZ ⟨a1, by omega⟩ hM).1)
  unfold fR
  omega
theorem fG_le {P : Int → Int} {M T Z q : Int} (hP : Pp P) (hZ : 0 ≤ Z ∧ Z ≤ 1000000000) (hM : am_r M) (hq : 0 ≤ q ∧ q < 20) : fG P M T Z q ≤ Z := by
  have w3 := sm_one (f := fun q => fG P M T Z q) (j := q) 20 (fun q a1 a2 => (fG_bd hP hZ ⟨a1, by omega⟩ hM).1) hq.1 (by omega)
  have w4 := fR_bd (T := T) hP hZ hM
  unfold fR at w4
  omega
theorem fG_P0 {P : Int → Int} {M T Z q : Int} (hP : Pp P) (hZ : 0 ≤ Z ∧ Z ≤ 1000000000) (h : ¬ 0 < P q) : fG P M T Z q = 0 := by
  unfold fG
  rw [oG_P0 hP hZ h]
  split <;> rfl
/-- only heads have points -/
theorem ctb_nh {p : Int → Int} {y q : Int} (hp : Pm p) (hh : ∀ n, 0 ≤ n → n < p 3 → ¬ p (480 + n) = q) : ∀ (m : Nat) (n v : Int), 0 ≤ n → n < p 3 → ctb p y m n v q = 0
  | 0, n, v, h1, h2 => by
    have e := hh n h1 h2
    show (if dead p y n then 0 else if q = p (480 + n) then v else 0) = 0
    split
    · rfl
    · exact if_neg (fun g => e g.symm)
  | m + 1, n, v, h1, h2 => by
    have e := hh n h1 h2
    show (if dead p y n then sm (fun h => if 0 < p (500 + 20 * n + h) then ctb p y m h (v * p (500 + 20 * n + h) / 100) q else 0) (p 3).toNat else if q = p (480 + n) then v else 0) = 0
    have h0 := hp.1
    split
    · refine sm_zero _ (fun h a1 a2 => ?_)
      show (if 0 < p (500 + 20 * n + h) then ctb p y m h (v * p (500 + 20 * n + h) / 100) q else 0) = 0
      split
      · exact ctb_nh hp hh m h _ a1 (by omega)
      · rfl
    · exact if_neg (fun g => e g.symm)
theorem pnt_nh {I L : Nat → Int → Int} {E : Int → Int} {y w q : Int} (h : Mo I L) (hh : ∀ n, 0 ≤ n → n < I 67 3 → ¬ I 67 (480 + n) = q) : pnt (I 67) E y w q = 0 := by
  have hP := Mo_Pm h
  have ct := Mo_ct h
  obtain ⟨C, CL, hM0⟩ := id h
  have s5 := hM0.1.2.2.2.2.2.1.2.2.2.2
  refine sm_zero _ (fun s a1 a2 => ?_)
  have w5 := s5 s a1 (by omega)
  exact ctb_nh hP hh 4 _ _ (by omega) (by omega)
theorem wg_nh {I L : Nat → Int → Int} {q : Int → Int} {y n a w : Int} (h : Mo I L) (hQ : 0 ≤ q y ∧ q y ≤ 1000000000) (hy : 0 ≤ y ∧ y ≤ 40) (hh : ∀ k, 0 ≤ k → k < I 67 3 → ¬ I 67 (480 + k) = n) : wg (I 67) q y n a w = 0 := by
  refine fG_P0 (pp_of h hy) hQ ?_
  rw [pnt_nh h hh]
  omega
/-! what is paid back of a year -/
def lkN (p : Int → Int) (G q : Int → Int) (b n : Int) : Int := max 0 (G n - sm (fun k => if p (480 + k) = n then q (123 + 20 * b + k) else 0) (p 3).toNat)
def lsN (p G q : Int → Int) (b : Int) : Int := sm (fun n => lkN p G q b n) 20
def pvN (p G q : Int → Int) (b l n : Int) : Int := if l < lsN p G q b then lkN p G q b n * l / lsN p G q b else lkN p G q b n
theorem lkN_le {p G q : Int → Int} {b n : Int} (hn : 0 ≤ n ∧ n < 20) : 0 ≤ lkN p G q b n ∧ lkN p G q b n ≤ lsN p G q b := by
  have a : ∀ k, 0 ≤ lkN p G q b k := fun k => by unfold lkN; omega
  exact ⟨a n, sm_one (f := fun n => lkN p G q b n) (j := n) 20 (fun k _ _ => a k) hn.1 (by omega)⟩
theorem pvN_bd {p G q : Int → Int} {b l n : Int} (hl : 0 ≤ l) (hn : 0 ≤ n ∧ n < 20) : 0 ≤ pvN p G q b l n ∧ pvN p G q b l n ≤ l ∧ (l < lsN p G q b → 0 ≤ lkN p G q b n * l) := by
  have w := lkN_le (p := p) (G := G) (q := q) (b := b) hn
  unfold pvN
  split
  · rename_i g
    have m1 := Int.mul_nonneg w.1 hl
    have m2 := mulb (a := lkN p G q b n) (c := l) (A := lsN p G q b) (C := l) w ⟨hl, Int.le_refl _⟩
    have d := Int.ediv_le_ediv (show 0 < lsN p G q b by omega) m2.2
    rw [Int.mul_ediv_cancel_left _ (show lsN p G q b ≠ 0 by omega)] at d
    exact ⟨Int.ediv_nonneg m1 (by omega), d, fun _ => m1⟩
  · exact ⟨w.1, by omega, fun _ => by omega⟩
theorem sm_div {f : Int → Int} {S : Int} (hS : 0 < S) : ∀ k : Nat, S * sm (fun n => f n / S) k ≤ sm f k
  | 0 => by simp [sm]
  | k + 1 => by
    have ih := sm_div (f := f) hS k
    have e := Int.mul_ediv_self_le (x := f k) (k := S) (by omega)
    show S * (sm (fun n => f n / S) k + f k / S) ≤ sm f k + f k
    rw [Int.mul_add]
    omega
theorem pvN_sum {p G q : Int → Int} {b l : Int} (hl : 0 ≤ l) : 0 ≤ sm (fun n => pvN p G q b l n) 20 ∧ sm (fun n => pvN p G q b l n) 20 ≤ l := by
  refine ⟨sm_nn _ (fun n a1 a2 => (pvN_bd hl ⟨a1, by omega⟩).1), ?_⟩
  by_cases g : l < lsN p G q b
  · have e : sm (fun n => pvN p G q b l n) 20 = sm (fun n => (lkN p G q b n * l) / lsN p G q b) 20 := sm_congr _ (fun n _ _ => if_pos g)
    have d := sm_div (f := fun n => lkN p G q b n * l) (S := lsN p G q b) (by omega) 20
    have e2 : sm (fun n => lkN p G q b n * l) 20 = lsN p G q b * l := by
      have e3 : sm (fun n => lkN p G q b n * l) 20 = sm (fun n => l * lkN p G q b n) 20 := sm_congr _ (fun n _ _ => Int.mul_comm _ _)
      rw [e3, sm_mul, Int.mul_comm]
      rfl
    rw [e2] at d
    rw [e]
    exact Int.le_of_mul_le_mul_left d (by omega)
  · have e : sm (fun n => pvN p G q b l n) 20 = lsN p G q b := sm_congr _ (fun n _ _ => if_neg g)
    omega
def stq (y b : Int) (q v : Int → Int) : Int → Int := fun j => if 123 + 20 * b ≤ j ∧ j < 143 + 20 * b then q j + v (j - (123 + 20 * b)) else if 943 + 20 * y ≤ j ∧ j < 963 + 20 * y then q j + v (j - (943 + 20 * y)) else q j
theorem stq_0 {y b : Int} {q v : Int → Int} (h : ∀ n, 0 ≤ n → n < 20 → v n = 0) (j : Int) : stq y b q v j = q j := by
  unfold stq
  split
  · rw [h _ (by omega) (by omega)]
    omega
  · split
    · rw [h _ (by omega) (by omega)]
      omega
    · rfl
/-- the years behind, from s on -/
def QL (p q0 : Int → Int) (f y s : Int) : Nat → (Int → Int) × Int
  | 0 => (q0, f)
  | i + 1 => (stq y (s + i) (QL p q0 f y s i).1 (fun n => pvN p (fun m => wg p q0 (s + i) m y (-1)) (QL p q0 f y s i).1 (s + i) (QL p q0 f y s i).2 n), (QL p q0 f y s i).2 - sm (fun n => pvN p (fun m => wg p q0 (s + i) m y (-1)) (QL p q0 f y s i).1 (s + i) (QL p q0 f y s i).2 n) 20)
