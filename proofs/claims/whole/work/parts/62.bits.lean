/-! how many bits: the library's count and the reference's -/
theorem i32_nat {n : Nat} (h : n < 2147483648) : (Int32.ofInt (n : Int)).toBitVec.toNat = n := by
  rw [Int32.toBitVec_ofInt, BitVec.toNat_ofInt]
  omega
theorem i32_back {x : Int32} (h : x.toBitVec.toNat < 2147483648) : x.toInt = (x.toBitVec.toNat : Int) := by
  rw [← Int32.toInt_toBitVec]
  exact BitVec.toInt_eq_toNat_of_lt (by omega)
theorem iAnd_nat {a b : Nat} (ha : a < 2147483648) (hb : b < 2147483648) : iAnd (a : Int) (b : Int) = ((a &&& b : Nat) : Int) := by
  have hn : (Int32.ofInt (a : Int) &&& Int32.ofInt (b : Int)).toBitVec.toNat = a &&& b := by
    rw [Int32.toBitVec_and, BitVec.toNat_and, i32_nat ha, i32_nat hb]
  have hl : a &&& b < 2147483648 := Nat.lt_of_le_of_lt Nat.and_le_left ha
  unfold iAnd
  rw [i32_back (by rw [hn]; exact hl), hn]
theorem iOr_nat {a b : Nat} (ha : a < 2147483648) (hb : b < 2147483648) : iOr (a : Int) (b : Int) = ((a ||| b : Nat) : Int) := by
  have hn : (Int32.ofInt (a : Int) ||| Int32.ofInt (b : Int)).toBitVec.toNat = a ||| b := by
    rw [Int32.toBitVec_or, BitVec.toNat_or, i32_nat ha, i32_nat hb]
  have hl : a ||| b < 2147483648 := @Nat.or_lt_two_pow a b 31 ha hb
  unfold iOr
  rw [i32_back (by rw [hn]; exact hl), hn]
theorem iUshr_nat {a k : Nat} (ha : a < 2147483648) (hk : k < 32) : iUshr (a : Int) (k : Int) = ((a / 2 ^ k : Nat) : Int) := by
  have h1 : (Int32.ofInt (a : Int)).toUInt32.toNat = a := i32_nat ha
  have h2 : (Int32.ofInt (k : Int)).toUInt32.toNat = k := i32_nat (by omega)
  have h3 : ((Int32.ofInt (k : Int)).toUInt32 &&& Int32.toUInt32 31).toNat = k := by
    rw [UInt32.toNat_and, h2]
    show k &&& 31 = k
    exact (Nat.and_two_pow_sub_one_eq_mod k 5).trans (Nat.mod_eq_of_lt hk)
  have h4 : ((Int32.ofInt (a : Int)).toUInt32 >>> ((Int32.ofInt (k : Int)).toUInt32 &&& Int32.toUInt32 31)).toNat = a / 2 ^ k := by
    rw [UInt32.toNat_shiftRight, h3, h1, Nat.mod_eq_of_lt hk, Nat.shiftRight_eq_div_pow]
  have h5 : a / 2 ^ k < 2147483648 := Nat.lt_of_le_of_lt (Nat.div_le_self _ _) ha
  unfold iUshr
  have h6 : ((Int32.ofInt (a : Int)).toUInt32 >>> ((Int32.ofInt (k : Int)).toUInt32 &&& Int32.toUInt32 31)).toInt32.toBitVec.toNat = a / 2 ^ k := h4
  rw [i32_back (by rw [h6]; exact h5), h6]
theorem shl_nat {m : Nat} (h : m < 26) : iShl 1 (m : Int) = ((2 ^ m : Nat) : Int) := by
  have : m = 0 ∨ m = 1 ∨ m = 2 ∨ m = 3 ∨ m = 4 ∨ m = 5 ∨ m = 6 ∨ m = 7 ∨ m = 8 ∨ m = 9 ∨ m = 10 ∨ m = 11 ∨ m = 12 ∨ m = 13 ∨ m = 14 ∨ m = 15 ∨ m = 16 ∨ m = 17 ∨ m = 18 ∨ m = 19 ∨ m = 20 ∨ m = 21 ∨ m = 22 ∨ m = 23 ∨ m = 24 ∨ m = 25 := by omega
  rcases this with rfl | rfl | rfl | rfl | rfl | rfl | rfl | rfl | rfl | rfl | rfl | rfl | rfl | rfl | rfl | rfl | rfl | rfl | rfl | rfl | rfl | rfl | rfl | rfl | rfl | rfl <;> decide +kernel
theorem orN_nat {f : Int → Int} : ∀ {m : Nat}, m ≤ 25 → ∃ n : Nat, orN f m = (n : Int) ∧ n < 2 ^ m := by
  intro m
  induction m with
  | zero => intro _; exact ⟨0, rfl, by decide⟩
  | succ m ih =>
    intro h
    obtain ⟨n, h1, h2⟩ := ih (by omega)
    have h25 : (2 : Nat) ^ m ≤ 2 ^ 24 := Nat.pow_le_pow_right (by decide) (by omega)
    have hp : (2 : Nat) ^ (m + 1) = 2 * 2 ^ m := by rw [Nat.pow_succ]; omega
    have h24 : (2 : Nat) ^ 24 = 16777216 := by decide
    unfold orN
    rw [h1]
    by_cases hf : f m = 1
    · rw [if_pos hf, shl_nat (by omega), iOr_nat (by omega) (by omega)]
      exact ⟨_, rfl, Nat.or_lt_two_pow (by omega) (by omega)⟩
    · rw [if_neg hf, show (0 : Int) = ((0 : Nat) : Int) from rfl, iOr_nat (by omega) (by decide), Nat.or_zero]
      exact ⟨n, rfl, by omega⟩
/-- ones of a number -/
def pop : Nat → Nat → Nat
  | 0, _ => 0
  | k + 1, x => x % 2 + pop k (x / 2)
theorem pop_zero : ∀ k : Nat, pop k 0 = 0 := by
  intro k
  induction k with
  | zero => rfl
  | succ k ih => unfold pop; rw [show 0 / 2 = 0 from rfl, ih]
theorem and_two (a b p q : Nat) (hp : p < 2) (hq : q < 2) : (2 * a + p) &&& (2 * b + q) = 2 * (a &&& b) + (p &&& q) := by
  have hl : p &&& q < 2 := Nat.lt_of_le_of_lt Nat.and_le_left hp
  apply Nat.eq_of_testBit_eq
  intro i
  have e1 := @Nat.testBit_two_pow_mul_add a p 1 (by omega) i
  have e2 := @Nat.testBit_two_pow_mul_add b q 1 (by omega) i
  have e3 := @Nat.testBit_two_pow_mul_add (a &&& b) (p &&& q) 1 (by omega) i
  rw [show (2 : Nat) ^ 1 = 2 from rfl] at e1 e2 e3
  rw [Nat.testBit_and, e1, e2, e3]
  split
  · rw [Nat.testBit_and]
  · rw [Nat.testBit_and]
theorem kern : ∀ (k x : Nat), x < 2 ^ k → x ≠ 0 → pop k (x &&& (x - 1)) + 1 = pop k x ∧ x &&& (x - 1) < x := by
  intro k
  induction k with
  | zero => intro x h h0; exact absurd (show x = 0 by have : (2 : Nat) ^ 0 = 1 := rfl; omega) h0
  | succ k ih =>
    intro x h h0
    have hp : (2 : Nat) ^ (k + 1) = 2 * 2 ^ k := by rw [Nat.pow_succ]; omega
    have hd : x = 2 * (x / 2) + x % 2 := by omega
    by_cases hm : x % 2 = 1
    · have h1 : x &&& (x - 1) = 2 * (x / 2) := by
        have := and_two (x / 2) (x / 2) 1 0 (by decide) (by decide)
        rw [show 2 * (x / 2) + 1 = x by omega, show 2 * (x / 2) + 0 = x - 1 by omega, Nat.and_self] at this
        exact this
      rw [h1]
      unfold pop
      rw [show 2 * (x / 2) % 2 = 0 by omega, show 2 * (x / 2) / 2 = x / 2 by omega, hm]
      omega
    · have hy : x / 2 ≠ 0 := by omega
      have h1 : x &&& (x - 1) = 2 * (x / 2 &&& (x / 2 - 1)) := by
        have := and_two (x / 2) (x / 2 - 1) 0 1 (by decide) (by decide)
        rw [show 2 * (x / 2) + 0 = x by omega, show 2 * (x / 2 - 1) + 1 = x - 1 by omega] at this
        exact this
      obtain ⟨i1, i2⟩ := ih (x / 2) (by omega) hy
      rw [h1]
      unfold pop
      rw [show 2 * (x / 2 &&& (x / 2 - 1)) % 2 = 0 by omega, show 2 * (x / 2 &&& (x / 2 - 1)) / 2 = x / 2 &&& (x / 2 - 1) by omega]
      omega
theorem pop_add : ∀ (k j b c : Nat), b < 2 ^ k → pop (k + j) (2 ^ k * c + b) = pop k b + pop j c := by
  intro k
  induction k with
  | zero => intro j b c h; obtain rfl : b = 0 := by have : (2 : Nat) ^ 0 = 1 := rfl; omega
            rw [Nat.zero_add]; show pop j (1 * c + 0) = 0 + pop j c; rw [Nat.one_mul, Nat.add_zero, Nat.zero_add]
  | succ k ih =>
    intro j b c h
    have hp : (2 : Nat) ^ (k + 1) = 2 * 2 ^ k := by rw [Nat.pow_succ]; omega
    rw [show k + 1 + j = (k + j) + 1 by omega]
    show (2 ^ (k + 1) * c + b) % 2 + pop (k + j) ((2 ^ (k + 1) * c + b) / 2) = (b % 2 + pop k (b / 2)) + pop j c
    have hm : 2 ^ (k + 1) * c = 2 * (2 ^ k * c) := by rw [hp, Nat.mul_assoc]
    rw [show (2 ^ (k + 1) * c + b) % 2 = b % 2 by omega, show (2 ^ (k + 1) * c + b) / 2 = 2 ^ k * c + b / 2 by omega, ih j (b / 2) c (by omega)]
    omega
theorem and_byte (a b c e : Nat) (hb : b < 256) (he : e < 256) : (256 * a + b) &&& (256 * c + e) = 256 * (a &&& c) + (b &&& e) := by
  have hl : b &&& e < 256 := Nat.lt_of_le_of_lt Nat.and_le_left hb
  apply Nat.eq_of_testBit_eq
  intro i
  have e1 := @Nat.testBit_two_pow_mul_add a b 8 (by omega) i
  have e2 := @Nat.testBit_two_pow_mul_add c e 8 (by omega) i
  have e3 := @Nat.testBit_two_pow_mul_add (a &&& c) (b &&& e) 8 (by omega) i
  rw [show (2 : Nat) ^ 8 = 256 from rfl] at e1 e2 e3
  rw [Nat.testBit_and, e1, e2, e3]
  split
  · rw [Nat.testBit_and]
  · rw [Nat.testBit_and]
theorem and4 (a0 a1 a2 a3 m : Nat) (h0 : a0 < 256) (h1 : a1 < 256) (h2 : a2 < 256) (hm : m < 256) : (a0 + 256 * a1 + 65536 * a2 + 16777216 * a3) &&& (m + 256 * m + 65536 * m + 16777216 * m) = (a0 &&& m) + 256 * (a1 &&& m) + 65536 * (a2 &&& m) + 16777216 * (a3 &&& m) := by
  have e1 := and_byte (a1 + 256 * a2 + 65536 * a3) a0 (m + 256 * m + 65536 * m) m h0 hm
  have e2 := and_byte (a2 + 256 * a3) a1 (m + 256 * m) m h1 hm
  have e3 := and_byte a3 a2 m m h2 hm
  rw [show 256 * (a1 + 256 * a2 + 65536 * a3) + a0 = a0 + 256 * a1 + 65536 * a2 + 16777216 * a3 by omega, show 256 * (m + 256 * m + 65536 * m) + m = m + 256 * m + 65536 * m + 16777216 * m by omega] at e1
  rw [show 256 * (a2 + 256 * a3) + a1 = a1 + 256 * a2 + 65536 * a3 by omega, show 256 * (m + 256 * m) + m = m + 256 * m + 65536 * m by omega] at e2
  rw [show 256 * a3 + a2 = a2 + 256 * a3 by omega, show 256 * m + m = m + 256 * m by omega] at e3
  rw [e1, e2, e3]
  omega
def by1 (b : Nat) : Nat := b - ((b / 2) &&& 85)
def by2 (b : Nat) : Nat := (b &&& 51) + ((b / 4) &&& 51)
def by3 (b : Nat) : Nat := (b + b / 16) &&& 15
theorem tb1 : ∀ b : Fin 256, (b.val / 2 + 128 &&& 85) = (b.val / 2 &&& 85) ∧ (b.val / 2 &&& 85) ≤ b.val ∧ by1 b.val ≤ 170 ∧ by2 (by1 b.val) ≤ 68 ∧ by2 (by1 b.val) % 16 ≤ 4 ∧ by3 (by2 (by1 b.val)) = pop 8 b.val ∧ pop 8 b.val ≤ 8 := by decide +kernel
theorem tb2 : ∀ b : Fin 171, ∀ p : Fin 4, (b.val / 4 + 64 * p.val &&& 51) = (b.val / 4 &&& 51) := by decide +kernel
theorem tb3 : ∀ b : Fin 69, ∀ p : Fin 5, (b.val + b.val / 16 + 16 * p.val) &&& 15 = by3 b.val := by decide +kernel
theorem tb1' {b : Nat} (h : b < 256) (p : Nat) (hp : p < 2) : (b / 2 + 128 * p &&& 85) = (b / 2 &&& 85) ∧ (b / 2 &&& 85) ≤ b ∧ by1 b ≤ 170 ∧ by2 (by1 b) ≤ 68 ∧ by2 (by1 b) % 16 ≤ 4 ∧ by3 (by2 (by1 b)) = pop 8 b ∧ pop 8 b ≤ 8 := by
  obtain ⟨h1, h2⟩ := tb1 ⟨b, h⟩
  have : p = 0 ∨ p = 1 := by omega
  rcases this with rfl | rfl
  · exact ⟨rfl, h2⟩
  · exact ⟨h1, h2⟩
theorem swar {x : Nat} (hx : x < 33554432) : ∃ t u v : Nat, x - (x / 2 &&& 1431655765) = t ∧ (x / 2 &&& 1431655765) ≤ x ∧ t < 33554432 ∧ (t &&& 858993459) + (t / 4 &&& 858993459) = u ∧ u < 2147483648 ∧ (u + u / 16 &&& 252645135) = v ∧ v < 2147483648 ∧ u + u / 16 < 2147483648 ∧ v + v / 256 < 2147483648 ∧ v + v / 256 + (v + v / 256) / 65536 < 2147483648 ∧ (v + v / 256 + (v + v / 256) / 65536) % 64 = pop 32 x := by
  obtain ⟨a0, h0⟩ : ∃ a, a = x % 256 := ⟨_, rfl⟩
  obtain ⟨a1, h1⟩ : ∃ a, a = x / 256 % 256 := ⟨_, rfl⟩
  obtain ⟨a2, h2⟩ : ∃ a, a = x / 65536 % 256 := ⟨_, rfl⟩
  obtain ⟨a3, h3⟩ : ∃ a, a = x / 16777216 := ⟨_, rfl⟩
  have l0 : a0 < 256 := by omega
  have l1 : a1 < 256 := by omega
  have l2 : a2 < 256 := by omega
  have l3 : a3 < 2 := by omega
  have hxe : x = a0 + 256 * a1 + 65536 * a2 + 16777216 * a3 := by omega
  have c0 := tb1' l0 (a1 % 2) (by omega)
  have c1 := tb1' l1 (a2 % 2) (by omega)
  have c2 := tb1' l2 (a3 % 2) (by omega)
  have c3 := tb1' (b := a3) (by omega) 0 (by omega)
  have hh : x / 2 = (a0 / 2 + 128 * (a1 % 2)) + 256 * (a1 / 2 + 128 * (a2 % 2)) + 65536 * (a2 / 2 + 128 * (a3 % 2)) + 16777216 * (a3 / 2 + 128 * 0) := by omega
  have hA : x / 2 &&& 1431655765 = (a0 / 2 &&& 85) + 256 * (a1 / 2 &&& 85) + 65536 * (a2 / 2 &&& 85) + 16777216 * (a3 / 2 &&& 85) := by
    rw [hh, show (1431655765 : Nat) = 85 + 256 * 85 + 65536 * 85 + 16777216 * 85 from rfl, and4 _ _ _ _ _ (by omega) (by omega) (by omega) (by decide), c0.1, c1.1, c2.1, c3.1]
  have d0 : by1 a0 = a0 - (a0 / 2 &&& 85) := rfl
  have d1 : by1 a1 = a1 - (a1 / 2 &&& 85) := rfl
  have d2 : by1 a2 = a2 - (a2 / 2 &&& 85) := rfl
  have d3 : by1 a3 = a3 - (a3 / 2 &&& 85) := rfl
  obtain ⟨-, k0, k0b, k0c, k0d, k0e, k0f⟩ := c0
  obtain ⟨-, k1, k1b, k1c, k1d, k1e, k1f⟩ := c1
  obtain ⟨-, k2, k2b, k2c, k2d, k2e, k2f⟩ := c2
  obtain ⟨-, k3, k3b, k3c, k3d, k3e, k3f⟩ := c3
  have hle : x / 2 &&& 1431655765 ≤ x := by rw [hA]; omega
  have ht : x - (x / 2 &&& 1431655765) = by1 a0 + 256 * by1 a1 + 65536 * by1 a2 + 16777216 * by1 a3 := by rw [hA, d0, d1, d2, d3]; omega
  have m3 : by1 a3 < 2 := by rw [d3]; omega
  clear d0 d1 d2 d3 hh
  have hu1 : (by1 a0 + 256 * by1 a1 + 65536 * by1 a2 + 16777216 * by1 a3) &&& 858993459 = (by1 a0 &&& 51) + 256 * (by1 a1 &&& 51) + 65536 * (by1 a2 &&& 51) + 16777216 * (by1 a3 &&& 51) := by
    rw [show (858993459 : Nat) = 51 + 256 * 51 + 65536 * 51 + 16777216 * 51 from rfl]
    exact and4 _ _ _ _ _ (by omega) (by omega) (by omega) (by decide)
  have f0 := tb2 ⟨by1 a0, by omega⟩ ⟨by1 a1 % 4, by omega⟩
  have f1 := tb2 ⟨by1 a1, by omega⟩ ⟨by1 a2 % 4, by omega⟩
  have f2 := tb2 ⟨by1 a2, by omega⟩ ⟨by1 a3 % 4, by omega⟩
  dsimp only at f0 f1 f2
  have hu2 : (by1 a0 + 256 * by1 a1 + 65536 * by1 a2 + 16777216 * by1 a3) / 4 &&& 858993459 = (by1 a0 / 4 &&& 51) + 256 * (by1 a1 / 4 &&& 51) + 65536 * (by1 a2 / 4 &&& 51) + 16777216 * (by1 a3 / 4 &&& 51) := by
    rw [show (by1 a0 + 256 * by1 a1 + 65536 * by1 a2 + 16777216 * by1 a3) / 4 = (by1 a0 / 4 + 64 * (by1 a1 % 4)) + 256 * (by1 a1 / 4 + 64 * (by1 a2 % 4)) + 65536 * (by1 a2 / 4 + 64 * (by1 a3 % 4)) + 16777216 * (by1 a3 / 4) by omega, show (858993459 : Nat) = 51 + 256 * 51 + 65536 * 51 + 16777216 * 51 from rfl, and4 _ _ _ _ _ (by omega) (by omega) (by omega) (by decide), f0, f1, f2]
  have hu : ((by1 a0 + 256 * by1 a1 + 65536 * by1 a2 + 16777216 * by1 a3) &&& 858993459) + ((by1 a0 + 256 * by1 a1 + 65536 * by1 a2 + 16777216 * by1 a3) / 4 &&& 858993459) = by2 (by1 a0) + 256 * by2 (by1 a1) + 65536 * by2 (by1 a2) + 16777216 * by2 (by1 a3) := by
    rw [hu1, hu2]
    unfold by2
    omega
  clear f0 f1 f2 hu1 hu2
  have g0 := tb3 ⟨by2 (by1 a0), by omega⟩ ⟨by2 (by1 a1) % 16, by omega⟩
  have g1 := tb3 ⟨by2 (by1 a1), by omega⟩ ⟨by2 (by1 a2) % 16, by omega⟩
  have g2 := tb3 ⟨by2 (by1 a2), by omega⟩ ⟨by2 (by1 a3) % 16, by omega⟩
  have g3 := tb3 ⟨by2 (by1 a3), by omega⟩ ⟨0, by omega⟩
  dsimp only at g0 g1 g2 g3
  obtain ⟨b0, hb0⟩ : ∃ b, b = by2 (by1 a0) := ⟨_, rfl⟩
  obtain ⟨b1, hb1⟩ : ∃ b, b = by2 (by1 a1) := ⟨_, rfl⟩
  obtain ⟨b2, hb2⟩ : ∃ b, b = by2 (by1 a2) := ⟨_, rfl⟩
  obtain ⟨b3, hb3⟩ : ∃ b, b = by2 (by1 a3) := ⟨_, rfl⟩
  rw [← hb0] at g0 k0c k0d k0e hu
  rw [← hb1] at g0 g1 k1c k1d k1e hu
  rw [← hb2] at g1 g2 k2c k2d k2e hu
  rw [← hb3] at g2 g3 k3c k3d k3e hu
  have hv : (b0 + 256 * b1 + 65536 * b2 + 16777216 * b3) + (b0 + 256 * b1 + 65536 * b2 + 16777216 * b3) / 16 &&& 252645135 = pop 8 a0 + 256 * pop 8 a1 + 65536 * pop 8 a2 + 16777216 * pop 8 a3 := by
    rw [show (b0 + 256 * b1 + 65536 * b2 + 16777216 * b3) + (b0 + 256 * b1 + 65536 * b2 + 16777216 * b3) / 16 = (b0 + b0 / 16 + 16 * (b1 % 16)) + 256 * (b1 + b1 / 16 + 16 * (b2 % 16)) + 65536 * (b2 + b2 / 16 + 16 * (b3 % 16)) + 16777216 * (b3 + b3 / 16 + 16 * 0) by omega, show (252645135 : Nat) = 15 + 256 * 15 + 65536 * 15 + 16777216 * 15 from rfl, and4 _ _ _ _ _ (by omega) (by omega) (by omega) (by decide), g0, g1, g2, g3, k0e, k1e, k2e, k3e]
  have hp : pop 32 x = pop 8 a0 + (pop 8 a1 + (pop 8 a2 + pop 8 a3)) := by
    have p1 := pop_add 8 24 a0 (a1 + 256 * a2 + 65536 * a3) l0
    have p2 := pop_add 8 16 a1 (a2 + 256 * a3) l1
    have p3 := pop_add 8 8 a2 a3 l2
    rw [show (8 : Nat) + 24 = 32 from rfl, show (2 : Nat) ^ 8 * (a1 + 256 * a2 + 65536 * a3) + a0 = x by rw [show (2 : Nat) ^ 8 = 256 from rfl]; omega] at p1
    rw [show (8 : Nat) + 16 = 24 from rfl, show (2 : Nat) ^ 8 * (a2 + 256 * a3) + a1 = a1 + 256 * a2 + 65536 * a3 by rw [show (2 : Nat) ^ 8 = 256 from rfl]; omega] at p2
    rw [show (8 : Nat) + 8 = 16 from rfl, show (2 : Nat) ^ 8 * a3 + a2 = a2 + 256 * a3 by rw [show (2 : Nat) ^ 8 = 256 from rfl]; omega] at p3
    rw [p1, p2, p3]
  refine ⟨_, _, _, ht, hle, by omega, hu, by omega, hv, by omega, by omega, by omega, by omega, ?_⟩
  rw [hp]
  clear hu hv hp ht hle hA hxe
  generalize pop 8 a0 = p0 at *
  generalize pop 8 a1 = p1 at *
  generalize pop 8 a2 = p2 at *
  generalize pop 8 a3 = p3 at *
  have v1 : (p0 + 256 * p1 + 65536 * p2 + 16777216 * p3) / 256 = p1 + 256 * p2 + 65536 * p3 := by omega
  rw [v1]
  have v2 : (p0 + 256 * p1 + 65536 * p2 + 16777216 * p3 + (p1 + 256 * p2 + 65536 * p3)) / 65536 = (p2 + p3) + 256 * p3 := by omega
  rw [v2]
  omega
set_option maxRecDepth 20000 in
set_option maxHeartbeats 4000000 in
theorem c_bitCount {w : Hp} {d : Nat} {x : Nat} (hx : x < 33554432) : WP SH (d + 0) 229 0 [some (vI (x : Int))] [] w (fun v w' => v = some (vI ((pop 32 x : Nat) : Int)) ∧ w' = w) := by
  obtain ⟨t, u, v0, h1, h2, h3, h4, h5, h6, h7, h8, h9, h10, h11⟩ := swar hx
  refine wp_iload_n (pc' := 1) rfl rfl rfl ?_
  refine wp_iload_n (pc' := 2) rfl rfl rfl ?_
  refine wp_iconst (a := 1) (pc' := 3) rfl rfl rfl ?_
  refine wp_iushr (pc' := 4) rfl rfl rfl ?_
  rw [show iUshr (x : Int) 1 = ((x / 2 : Nat) : Int) from iUshr_nat (k := 1) (by omega) (by decide)]
  refine wp_ldc_w (a := 1431655765) (pc' := 7) rfl rfl rfl ?_
  refine wp_iand (pc' := 8) rfl rfl rfl ?_
  rw [show iAnd ((x / 2 : Nat) : Int) 1431655765 = ((x / 2 &&& 1431655765 : Nat) : Int) from iAnd_nat (b := 1431655765) (by omega) (by decide)]
  refine wp_isub (pc' := 9) rfl rfl (by first | exact w32_id (by omega) (by omega) | rfl) ?_
  rw [show (x : Int) - ((x / 2 &&& 1431655765 : Nat) : Int) = (t : Int) by omega]
  refine wp_istore_n (pc' := 10) rfl rfl (Nat.le_of_ble_eq_true rfl) rfl ?_
  dsimp only [lset, lset2, List.set, List.getElem?_cons_zero, List.getElem?_cons_succ]
  refine wp_iload_n (pc' := 11) rfl rfl rfl ?_
  refine wp_ldc_w (a := 858993459) (pc' := 14) rfl rfl rfl ?_
  refine wp_iand (pc' := 15) rfl rfl rfl ?_
  rw [show iAnd (t : Int) 858993459 = ((t &&& 858993459 : Nat) : Int) from iAnd_nat (b := 858993459) (by omega) (by decide)]
  refine wp_iload_n (pc' := 16) rfl rfl rfl ?_
  refine wp_iconst (a := 2) (pc' := 17) rfl rfl rfl ?_
  refine wp_iushr (pc' := 18) rfl rfl rfl ?_
  rw [show iUshr (t : Int) 2 = ((t / 4 : Nat) : Int) from iUshr_nat (k := 2) (by omega) (by decide)]
  refine wp_ldc_w (a := 858993459) (pc' := 21) rfl rfl rfl ?_
  refine wp_iand (pc' := 22) rfl rfl rfl ?_
  rw [show iAnd ((t / 4 : Nat) : Int) 858993459 = ((t / 4 &&& 858993459 : Nat) : Int) from iAnd_nat (b := 858993459) (by omega) (by decide)]
  refine wp_iadd (pc' := 23) rfl rfl (by first | exact w32_id (by omega) (by omega) | rfl) ?_
  rw [show ((t &&& 858993459 : Nat) : Int) + ((t / 4 &&& 858993459 : Nat) : Int) = (u : Int) by omega]
  refine wp_istore_n (pc' := 24) rfl rfl (Nat.le_of_ble_eq_true rfl) rfl ?_
  dsimp only [lset, lset2, List.set, List.getElem?_cons_zero, List.getElem?_cons_succ]
  refine wp_iload_n (pc' := 25) rfl rfl rfl ?_
  refine wp_iload_n (pc' := 26) rfl rfl rfl ?_
  refine wp_iconst (a := 4) (pc' := 27) rfl rfl rfl ?_
  refine wp_iushr (pc' := 28) rfl rfl rfl ?_
  rw [show iUshr (u : Int) 4 = ((u / 16 : Nat) : Int) from iUshr_nat (k := 4) (by omega) (by decide)]
  refine wp_iadd (pc' := 29) rfl rfl (by first | exact w32_id (by omega) (by omega) | rfl) ?_
  rw [show (u : Int) + ((u / 16 : Nat) : Int) = ((u + u / 16 : Nat) : Int) by omega]
  refine wp_ldc_w (a := 252645135) (pc' := 32) rfl rfl rfl ?_
  refine wp_iand (pc' := 33) rfl rfl rfl ?_
  rw [show iAnd ((u + u / 16 : Nat) : Int) 252645135 = (v0 : Int) from by rw [show (252645135 : Int) = ((252645135 : Nat) : Int) from rfl, iAnd_nat (by omega) (by decide), h6]]
  refine wp_istore_n (pc' := 34) rfl rfl (Nat.le_of_ble_eq_true rfl) rfl ?_
  dsimp only [lset, lset2, List.set, List.getElem?_cons_zero, List.getElem?_cons_succ]
  refine wp_iload_n (pc' := 35) rfl rfl rfl ?_
  refine wp_iload_n (pc' := 36) rfl rfl rfl ?_
  refine wp_bipush (a := 8) (pc' := 38) rfl rfl rfl ?_
  refine wp_iushr (pc' := 39) rfl rfl rfl ?_
  rw [show iUshr (v0 : Int) 8 = ((v0 / 256 : Nat) : Int) from iUshr_nat (k := 8) (by omega) (by decide)]
  refine wp_iadd (pc' := 40) rfl rfl (by first | exact w32_id (by omega) (by omega) | rfl) ?_
  rw [show (v0 : Int) + ((v0 / 256 : Nat) : Int) = ((v0 + v0 / 256 : Nat) : Int) by omega]
  refine wp_istore_n (pc' := 41) rfl rfl (Nat.le_of_ble_eq_true rfl) rfl ?_
  dsimp only [lset, lset2, List.set, List.getElem?_cons_zero, List.getElem?_cons_succ]
  refine wp_iload_n (pc' := 42) rfl rfl rfl ?_
  refine wp_iload_n (pc' := 43) rfl rfl rfl ?_
  refine wp_bipush (a := 16) (pc' := 45) rfl rfl rfl ?_
  refine wp_iushr (pc' := 46) rfl rfl rfl ?_
  rw [show iUshr ((v0 + v0 / 256 : Nat) : Int) 16 = (((v0 + v0 / 256) / 65536 : Nat) : Int) from iUshr_nat (k := 16) (by omega) (by decide)]
  refine wp_iadd (pc' := 47) rfl rfl (by first | exact w32_id (by omega) (by omega) | rfl) ?_
  rw [show ((v0 + v0 / 256 : Nat) : Int) + (((v0 + v0 / 256) / 65536 : Nat) : Int) = ((v0 + v0 / 256 + (v0 + v0 / 256) / 65536 : Nat) : Int) by omega]
  refine wp_istore_n (pc' := 48) rfl rfl (Nat.le_of_ble_eq_true rfl) rfl ?_
  dsimp only [lset, lset2, List.set, List.getElem?_cons_zero, List.getElem?_cons_succ]
  refine wp_iload_n (pc' := 49) rfl rfl rfl ?_
  refine wp_bipush (a := 63) (pc' := 51) rfl rfl rfl ?_
  refine wp_iand (pc' := 52) rfl rfl rfl ?_
  rw [show iAnd ((v0 + v0 / 256 + (v0 + v0 / 256) / 65536 : Nat) : Int) 63 = ((pop 32 x : Nat) : Int) from by rw [show (63 : Int) = ((63 : Nat) : Int) from rfl, iAnd_nat (by omega) (by decide), show (63 : Nat) = 2 ^ 6 - 1 from rfl, Nat.and_two_pow_sub_one_eq_mod, show (2 : Nat) ^ 6 = 64 from rfl, h11]]
  refine wp_ret rfl rfl rfl ?_
  exact ⟨rfl, rfl⟩
set_option maxRecDepth 20000 in
set_option maxHeartbeats 4000000 in
theorem l_bits {w : Hp} {d : Nat} {x0 : Int} : ∀ (k x : Nat) (c : Int), x < 33554432 → pop 32 x = k → 0 ≤ c → c + k ≤ 100 → WP SH d 139 4 [some (vI x0), some (vI c), some (vI (x : Int))] [] w (fun v w' => v = some (vI (c + k)) ∧ w' = w) := by
  intro k
  induction k with
  | zero =>
    intro x c hx hpk hc hck
    have hx32 : x < 2 ^ 32 := Nat.lt_trans hx (by decide)
    have hkn := kern 32 x hx32
    refine wp_iload_n (pc' := 5) rfl rfl rfl ?_
    refine wp_if_eq (pc' := 8) (pt := 20) rfl rfl rfl (fun q_1 => ?_) (fun q_1 => ?_)
    · skip
      refine wp_iload_n (pc' := 21) rfl rfl rfl ?_
      refine wp_ret rfl rfl rfl ?_
      exact ⟨by rw [show ((0 : Nat) : Int) = 0 from rfl, Int.add_zero], rfl⟩
    · skip
      exfalso
      have := (hkn (by omega)).1
      omega
  | succ k ih =>
    intro x c hx hpk hc hck
    have hx32 : x < 2 ^ 32 := Nat.lt_trans hx (by decide)
    have hkn := kern 32 x hx32
    refine wp_iload_n (pc' := 5) rfl rfl rfl ?_
    refine wp_if_eq (pc' := 8) (pt := 20) rfl rfl rfl (fun q_1 => ?_) (fun q_1 => ?_)
    · skip
      exfalso
      obtain rfl : x = 0 := by omega
      rw [pop_zero] at hpk
      omega
    · skip
      refine wp_iinc (pc' := 11) rfl rfl rfl (inc_id (by omega) (by omega)) rfl ?_
      dsimp only [lset, lset2, List.set, List.getElem?_cons_zero, List.getElem?_cons_succ]
      refine wp_iload_n (pc' := 12) rfl rfl rfl ?_
      refine wp_iload_n (pc' := 13) rfl rfl rfl ?_
      refine wp_iconst (a := 1) (pc' := 14) rfl rfl rfl ?_
      refine wp_isub (pc' := 15) rfl rfl (by first | exact w32_id (by omega) (by omega) | rfl) ?_
      refine wp_iand (pc' := 16) rfl rfl rfl ?_
      rw [show (x : Int) - 1 = ((x - 1 : Nat) : Int) by omega, iAnd_nat (by omega) (by omega)]
      refine wp_istore_n (pc' := 17) rfl rfl (Nat.le_of_ble_eq_true rfl) rfl ?_
      dsimp only [lset, lset2, List.set, List.getElem?_cons_zero, List.getElem?_cons_succ]
      refine wp_goto (pc' := 4) rfl rfl ?_
      refine (ih (x &&& (x - 1)) (c + 1) (by have := (hkn (by omega)).2; omega) (by have := (hkn (by omega)).1; omega) (by omega) (by omega)).mono (fun v w' hq => ⟨?_, hq.2⟩)
      rw [hq.1, show c + 1 + (k : Int) = c + ((k + 1 : Nat) : Int) by omega]
theorem pop_le : ∀ k x : Nat, pop k x ≤ k := by
  intro k
  induction k with
  | zero => intro x; exact Nat.le_refl 0
  | succ k ih => intro x; have := ih (x / 2); show x % 2 + pop k (x / 2) ≤ k + 1; omega
set_option maxRecDepth 20000 in
set_option maxHeartbeats 4000000 in
theorem c_Mod_bits {w : Hp} {d : Nat} {x : Nat} (hx : x < 33554432) : WP SH (d + 0) 139 0 [some (vI (x : Int)), none, none] [] w (fun v w' => v = some (vI ((pop 32 x : Nat) : Int)) ∧ w' = w) := by
  refine wp_iconst (a := 0) (pc' := 1) rfl rfl rfl ?_
  refine wp_istore_n (pc' := 2) rfl rfl (Nat.le_of_ble_eq_true rfl) rfl ?_
  dsimp only [lset, lset2, List.set, List.getElem?_cons_zero, List.getElem?_cons_succ]
  refine wp_iload_n (pc' := 3) rfl rfl rfl ?_
  refine wp_istore_n (pc' := 4) rfl rfl (Nat.le_of_ble_eq_true rfl) rfl ?_
  dsimp only [lset, lset2, List.set, List.getElem?_cons_zero, List.getElem?_cons_succ]
  have hpl := pop_le 32 x
  refine (l_bits (pop 32 x) x 0 hx rfl (by decide) (by omega)).mono (fun v w' hq => ⟨?_, hq.2⟩)
  rw [hq.1, Int.zero_add]
