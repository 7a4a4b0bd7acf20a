def pk (T : Int → Int) (p : Int) : Nat → Int
  | 0 => 0
  | m + 1 => pk T p m * 256 + T (p + m)
def wdv (k : Int) : Int := ([7825519, 1885434484, 107075454591332, 1836020596, 465557353332, 1818326117, 1919904869, 1802071652, 1818324580, 2036687218, 1684365668, 427020085613, 482671228019, 31650994541847908, 499985443941, 465725124211, 26982, 28530, 6385252, 7237492] : List Int).getD k.toNat 0
theorem pk_s {T : Int → Int} {p : Int} {m : Nat} : pk T p (m + 1) = pk T p m * 256 + T (p + m) := rfl
theorem pk_bd {T : Int → Int} {p : Int} : ∀ (m : Nat), (∀ j : Nat, j < m → 0 < T (p + j) ∧ T (p + j) < 256) → 0 ≤ pk T p m ∧ pk T p m < (256 : Int) ^ m
  | 0, _ => by simp [pk]
  | m + 1, h => by
    have w := pk_bd m (fun j j1 => h j (by omega))
    have q := h m (by omega)
    have e : (256 : Int) ^ (m + 1) = 256 * (256 : Int) ^ m := by rw [Int.pow_succ, Int.mul_comm]
    rw [e, pk_s]
    omega
theorem pw6_le {m n : Nat} (h : m ≤ n) : (256 : Int) ^ m ≤ (256 : Int) ^ n := by
  have w := Nat.pow_le_pow_right (n := 256) (by omega) h
  have e1 : ((256 ^ m : Nat) : Int) = (256 : Int) ^ m := by simp
  have e2 : ((256 ^ n : Nat) : Int) = (256 : Int) ^ n := by simp
  omega
theorem pk_cg {T U : Int → Int} {p r : Int} : ∀ (m : Nat), (∀ j : Nat, j < m → T (p + j) = U (r + j)) → pk T p m = pk U r m
  | 0, _ => rfl
  | m + 1, h => by rw [pk_s, pk_s, pk_cg m (fun j j1 => h j (by omega)), h m (by omega)]
theorem pk_inj {T U : Int → Int} {p r : Int} : ∀ (m n : Nat), (∀ j : Nat, j < m → 0 < T (p + j) ∧ T (p + j) < 256) → (∀ j : Nat, j < n → 0 < U (r + j) ∧ U (r + j) < 256) → pk T p m = pk U r n → m = n ∧ ∀ j : Nat, j < m → T (p + j) = U (r + j)
  | 0, 0, _, _, _ => ⟨rfl, fun j h => absurd h (by omega)⟩
  | 0, n + 1, _, h2, h => by
    have w := pk_bd n (fun j j1 => h2 j (by omega))
    have q := h2 n (by omega)
    rw [pk_s] at h
    have z : pk T p 0 = 0 := rfl
    omega
  | m + 1, 0, h1, _, h => by
    have w := pk_bd m (fun j j1 => h1 j (by omega))
    have q := h1 m (by omega)
    rw [pk_s] at h
    have z : pk U r 0 = 0 := rfl
    omega
  | m + 1, n + 1, h1, h2, h => by
    have q1 := h1 m (by omega)
    have q2 := h2 n (by omega)
    rw [pk_s, pk_s] at h
    have w := pk_inj m n (fun j j1 => h1 j (by omega)) (fun j j1 => h2 j (by omega)) (by omega)
    have e := w.1
    subst e
    refine ⟨rfl, fun j hj => ?_⟩
    by_cases e9 : j = m
    · subst e9
      omega
    · exact w.2 j (by omega)
theorem wd_tab : ∀ k : Fin 20, wdv k.val = pk wch (wst k.val) (wln k.val).toNat ∧ ∀ j : Fin 7, (j.val : Int) < wln k.val → 97 ≤ wch (wst k.val + j.val) ∧ wch (wst k.val + j.val) ≤ 122 := by decide +kernel
theorem wd_f {k : Int} (h : 0 ≤ k) (h2 : k < 20) : wdv k = pk wch (wst k) (wln k).toNat ∧ ∀ j : Nat, (j : Int) < wln k → 97 ≤ wch (wst k + j) ∧ wch (wst k + j) ≤ 122 := by
  obtain ⟨m, rfl⟩ := Int.eq_ofNat_of_zero_le h
  have w := wd_tab ⟨m, by omega⟩
  have f := (w_f h h2).1
  refine ⟨w.1, fun j j1 => w.2 ⟨j, by omega⟩ j1⟩
theorem Mt_pk {T : Int → Int} {p e k : Int} (h : 0 ≤ k) (h2 : k < 20) (hp : p < e) (hl : ∀ j, p ≤ j → j < e → isL (T j)) : Mt T p e k ↔ (e - p ≤ 7 ∧ wdv k = pk T p (e - p).toNat) := by
  have f := (w_f h h2).1
  have g := wd_f h h2
  constructor
  · intro m
    refine ⟨by have q := m.1; omega, ?_⟩
    rw [g.1, m.1]
    refine (pk_cg _ (fun j hj => ?_)).symm
    exact m.2 j (by omega) (by omega)
  · intro ⟨m1, m2⟩
    rw [g.1] at m2
    have q := pk_inj _ _ (fun j hj => ?_) (fun j hj => ?_) m2
    · refine ⟨by omega, fun j j1 j2 => ?_⟩
      obtain ⟨i, rfl⟩ := Int.eq_ofNat_of_zero_le j1
      exact (q.2 i (by omega)).symm
    · have w := g.2 j (by omega)
      omega
    · have w := hl (p + j) (by omega) (by omega)
      unfold isL at w
      omega
theorem lor8 {a c : Int} (h1 : 0 ≤ a) (h2 : a < 281474976710656) (h3 : 0 ≤ c) (h4 : c < 256) : am_lor (am_lshl a 8) c = a * 256 + c := by
  obtain ⟨m, rfl⟩ := Int.eq_ofNat_of_zero_le h1
  obtain ⟨r, rfl⟩ := Int.eq_ofNat_of_zero_le h3
  unfold am_lor am_lshl
  rw [Int64.ofInt_toInt]
  have e8 : ((Int32.ofInt 8).toInt64 &&& 63) = 8 := by decide
  rw [e8]
  have t : (Int64.ofInt (m : Int) <<< (8 : Int64) ||| Int64.ofInt (r : Int)).toBitVec.toNat = m * 256 + r := by
    rw [Int64.toBitVec_or, Int64.toBitVec_shiftLeft, BitVec.toNat_or]
    have s1 : (Int64.ofInt (m : Int)).toBitVec.toNat = m := by
      show (BitVec.ofInt 64 (m : Int)).toNat = m
      rw [BitVec.toNat_ofInt]
      omega
    have s2 : (Int64.ofInt (r : Int)).toBitVec.toNat = r := by
      show (BitVec.ofInt 64 (r : Int)).toNat = r
      rw [BitVec.toNat_ofInt]
      omega
    have s3 : ((Int64.ofInt (m : Int)).toBitVec <<< ((8 : Int64).toBitVec.smod 64)).toNat = m * 256 := by
      have s4 : ((8 : Int64).toBitVec.smod 64) = 8#64 := by decide
      rw [s4, BitVec.shiftLeft_eq', BitVec.toNat_shiftLeft, s1, Nat.shiftLeft_eq]
      have s5 : (8#64).toNat = 8 := by decide
      rw [s5]
      omega
    rw [s3, s2]
    have s6 := Nat.shiftLeft_add_eq_or_of_lt (i := 8) (b := r) (by omega) m
    rw [Nat.shiftLeft_eq] at s6
    rw [← s6]
  have e : (Int64.ofInt (m : Int) <<< (8 : Int64) ||| Int64.ofInt (r : Int)).toInt = (Int64.ofInt (m : Int) <<< (8 : Int64) ||| Int64.ofInt (r : Int)).toBitVec.toInt := rfl
  rw [e, BitVec.toInt_eq_toNat_of_lt (by rw [t]; omega), t]
  omega
