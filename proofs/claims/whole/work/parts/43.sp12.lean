/-! BITS of small numbers -/
def jb (x0 : Int) : Int := (am_and (am_w ((am_w ((am_and (am_w ((am_w ((am_and (am_w (x0 - (am_and (am_ushr x0 1) 1431655765))) 858993459) + (am_and (am_ushr (am_w (x0 - (am_and (am_ushr x0 1) 1431655765))) 2) 858993459))) + (am_ushr (am_w ((am_and (am_w (x0 - (am_and (am_ushr x0 1) 1431655765))) 858993459) + (am_and (am_ushr (am_w (x0 - (am_and (am_ushr x0 1) 1431655765))) 2) 858993459))) 4))) 252645135) + (am_ushr (am_and (am_w ((am_w ((am_and (am_w (x0 - (am_and (am_ushr x0 1) 1431655765))) 858993459) + (am_and (am_ushr (am_w (x0 - (am_and (am_ushr x0 1) 1431655765))) 2) 858993459))) + (am_ushr (am_w ((am_and (am_w (x0 - (am_and (am_ushr x0 1) 1431655765))) 858993459) + (am_and (am_ushr (am_w (x0 - (am_and (am_ushr x0 1) 1431655765))) 2) 858993459))) 4))) 252645135) 8))) + (am_ushr (am_w ((am_and (am_w ((am_w ((am_and (am_w (x0 - (am_and (am_ushr x0 1) 1431655765))) 858993459) + (am_and (am_ushr (am_w (x0 - (am_and (am_ushr x0 1) 1431655765))) 2) 858993459))) + (am_ushr (am_w ((am_and (am_w (x0 - (am_and (am_ushr x0 1) 1431655765))) 858993459) + (am_and (am_ushr (am_w (x0 - (am_and (am_ushr x0 1) 1431655765))) 2) 858993459))) 4))) 252645135) + (am_ushr (am_and (am_w ((am_w ((am_and (am_w (x0 - (am_and (am_ushr x0 1) 1431655765))) 858993459) + (am_and (am_ushr (am_w (x0 - (am_and (am_ushr x0 1) 1431655765))) 2) 858993459))) + (am_ushr (am_w ((am_and (am_w (x0 - (am_and (am_ushr x0 1) 1431655765))) 858993459) + (am_and (am_ushr (am_w (x0 - (am_and (am_ushr x0 1) 1431655765))) 2) 858993459))) 4))) 252645135) 8))) 16))) 63)
def bt (x l : Int) : Int := am_and (am_shr x l) 1
theorem bt_tab : ∀ y : Fin 64, ∀ x : Fin 64, ∀ l : Fin 12, bt ((64 * y.val + x.val : Nat) : Int) (l.val : Int) = (((64 * y.val + x.val) / 2 ^ l.val % 2 : Nat) : Int) := by decide +kernel
def btN (x : Nat) : Nat → Nat
  | 0 => 0
  | n + 1 => btN x n + x / 2 ^ n % 2
theorem jb_tab : ∀ y : Fin 64, ∀ x : Fin 64, jb ((64 * y.val + x.val : Nat) : Int) = ((btN (64 * y.val + x.val) 12 : Nat) : Int) := by decide +kernel
theorem bt_eq {x l : Int} (h : 0 ≤ x ∧ x < 4096) (h2 : 0 ≤ l ∧ l < 12) : bt x l = ((x.toNat / 2 ^ l.toNat % 2 : Nat) : Int) := by
  have := bt_tab ⟨x.toNat / 64, by omega⟩ ⟨x.toNat % 64, by omega⟩ ⟨l.toNat, by omega⟩
  have e : 64 * (x.toNat / 64) + x.toNat % 64 = x.toNat := by omega
  simp only [e, Int.toNat_of_nonneg h.1, Int.toNat_of_nonneg h2.1] at this
  exact this
theorem bt_01 {x l : Int} (h : 0 ≤ x ∧ x < 4096) (h2 : 0 ≤ l ∧ l < 12) : bt x l = 0 ∨ bt x l = 1 := by
  rw [bt_eq h h2]
  omega
theorem btN_sm {x : Int} (h : 0 ≤ x ∧ x < 4096) : ∀ n : Nat, n ≤ 12 → sm (fun l => bt x l) n = ((btN x.toNat n : Nat) : Int)
  | 0, _ => rfl
  | n + 1, hn => by
    show sm (fun l => bt x l) n + bt x n = ((btN x.toNat n + x.toNat / 2 ^ n % 2 : Nat) : Int)
    rw [btN_sm h n (by omega), bt_eq h (by omega)]
    simp
theorem btN_hi {x n : Nat} (h : x < 2 ^ n) : ∀ k : Nat, btN x (n + k) = btN x n
  | 0 => rfl
  | k + 1 => by
    show btN x (n + k) + x / 2 ^ (n + k) % 2 = btN x n
    have : x < 2 ^ (n + k) := Nat.lt_of_lt_of_le h (Nat.pow_le_pow_right (by omega) (by omega))
    rw [btN_hi h k, Nat.div_eq_of_lt this]
    rfl
theorem jb_sm {x : Int} (h : 0 ≤ x ∧ x < 4096) : jb x = sm (fun l => bt x l) 12 := by
  rw [btN_sm h 12 (by omega)]
  have := jb_tab ⟨x.toNat / 64, by omega⟩ ⟨x.toNat % 64, by omega⟩
  have e : 64 * (x.toNat / 64) + x.toNat % 64 = x.toNat := by omega
  simp only [e, Int.toNat_of_nonneg h.1] at this
  exact this
theorem jb_smn {x : Int} {n : Nat} (h : 0 ≤ x ∧ x < 2 ^ n) (hn : n ≤ 12) : jb x = sm (fun l => bt x l) n := by
  have h1 : 2 ^ n ≤ 2 ^ 12 := Nat.pow_le_pow_right (by omega) hn
  have h0 : ((2 ^ n : Nat) : Int) = (2 : Int) ^ n := by simp
  have h2 : x < 4096 := by omega
  rw [jb_sm ⟨h.1, h2⟩, btN_sm ⟨h.1, h2⟩ 12 (by omega), btN_sm ⟨h.1, h2⟩ n hn]
  have h3 : x.toNat < 2 ^ n := by
    have : ((2 ^ n : Nat) : Int) = (2 : Int) ^ n := by simp
    omega
  have e : 12 = n + (12 - n) := by omega
  rw [e, btN_hi h3]
theorem shl1 : ∀ n : Fin 13, am_shl 1 (n.val : Int) = (2 : Int) ^ n.val ∧ am_xor (am_shl 1 (n.val : Int) - 1) (-1) = -((2 : Int) ^ n.val) := by decide +kernel
theorem maskb : ∀ n : Fin 13, (Int32.ofInt (-((2 : Int) ^ n.val))).toBitVec = ~~~(BitVec.ofNat 32 (2 ^ n.val - 1)) := by decide +kernel
theorem and_mask {x : Int} {n : Nat} (hn : n ≤ 12) (hx : am_r x) : am_and x (-((2 : Int) ^ n)) = 0 ↔ 0 ≤ x ∧ x < (2 : Int) ^ n := by
  have hm := maskb ⟨n, by omega⟩
  simp only at hm
  have hp : (2 : Int) ^ n = ((2 ^ n : Nat) : Int) := by simp
  have hle : 2 ^ n ≤ 2 ^ 12 := Nat.pow_le_pow_right (by omega) hn
  have hv : (BitVec.ofInt 32 x).toNat = (x % 4294967296).toNat := by simp [BitVec.toNat_ofInt]
  have key : am_and x (-((2 : Int) ^ n)) = 0 ↔ (BitVec.ofInt 32 x) &&& ~~~(BitVec.ofNat 32 (2 ^ n - 1)) = 0#32 := by
    unfold am_and
    rw [← Int32.toInt_toBitVec, Int32.toBitVec_and, hm]
    constructor
    · intro h
      exact BitVec.eq_of_toInt_eq (by rw [show (0#32).toInt = 0 from by decide]; exact h)
    · intro h
      show ((BitVec.ofInt 32 x) &&& ~~~(BitVec.ofNat 32 (2 ^ n - 1))).toInt = 0
      rw [h]
      decide
  rw [key]
  constructor
  · intro h
    have h2 : (BitVec.ofInt 32 x).toNat < 2 ^ n := by
      apply Nat.lt_pow_two_of_testBit
      intro i hi
      by_cases h32 : i < 32
      · have := congrArg (fun v : BitVec 32 => v.getLsbD i) h
        rw [BitVec.getLsbD_and, BitVec.getLsbD_not, BitVec.getLsbD_ofNat, Nat.testBit_two_pow_sub_one, decide_eq_true h32, decide_eq_false (by omega : ¬ i < n)] at this
        have t2 : (BitVec.ofInt 32 x).getLsbD i = false := by simpa using this
        exact t2
      · exact Nat.testBit_lt_two_pow (Nat.lt_of_lt_of_le (BitVec.isLt _) (Nat.pow_le_pow_right (by omega) (by omega)))
    rw [hv] at h2
    omega
  · intro h
    have h2 : (BitVec.ofInt 32 x).toNat < 2 ^ n := by rw [hv]; omega
    apply BitVec.eq_of_getLsbD_eq
    intro i hi
    rw [BitVec.getLsbD_and, BitVec.getLsbD_not]
    by_cases h3 : i < n
    · rw [BitVec.getLsbD_ofNat, Nat.testBit_two_pow_sub_one, decide_eq_true hi, decide_eq_true h3]
      simp
    · have h4 : (BitVec.ofInt 32 x).getLsbD i = false := Nat.testBit_lt_two_pow (Nat.lt_of_lt_of_le h2 (Nat.pow_le_pow_right (by omega) (by omega)))
      rw [h4]
      simp
