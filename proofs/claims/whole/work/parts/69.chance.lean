/-! chances: the sums on both sides -/
theorem win_ok {c l n cell : Int} {V G : Int → Int} (hx : Cel c l cell) (hV : ∀ j : Int, 0 ≤ j → j < n → V j = -9 ∨ sBeside c l cell (V j) ≠ -1) (hg : ∀ j : Int, 0 ≤ j → j < n → 1 ≤ G j ∧ G j ≤ 9) : sBeside c l cell (sWin (fun j => sumI (fHeap V G j) n)) ≠ -1 := by
  obtain ⟨F, hF⟩ : ∃ F : Int → Int, F = fun j => sumI (fHeap V G j) n := ⟨_, rfl⟩
  rw [← hF]
  have hz : sBeside c l cell 0 ≠ -1 := by rw [beside0]; have := hx.1; omega
  have h2 := wSt_pos F 4
  have h3 := wSt_ok F 4
  unfold sWin
  split
  · by_cases h0 : (wSt F 4).1 = 0
    · rw [h0]
      exact hz
    · have h4 := h2.2 h0
      have hnn : ∀ way : Int, ∀ j : Int, 0 ≤ j → j < (n.toNat : Int) → 0 ≤ fHeap V G way j := fun way j a b => by
        have := hg j a (by omega)
        unfold fHeap
        split <;> omega
      have h5 : 0 ≤ F 0 := by rw [hF]; exact sumN_nn (hnn 0)
      have h6 : 0 < sumN (fHeap V G (wSt F 4).1) n.toNat := by
        have : F (wSt F 4).1 = sumN (fHeap V G (wSt F 4).1) n.toNat := by rw [hF]; rfl
        omega
      obtain ⟨j, a, b, hj⟩ := sumN_pos (hnn _) h6
      unfold fHeap at hj
      split at hj
      · rename_i hv
        rcases hV j a (by omega) with h7 | h7
        · omega
        · rw [hv] at h7
          exact h7
      · omega
  · exact hz
theorem sumN_split (f : Int → Int) (a : Nat) : ∀ b : Nat, sumN f (a + b) = sumN f a + sumN (fun x => f (a + x)) b := by
  intro b
  induction b with
  | zero => show _ = sumN f a + 0; rw [Int.add_zero]; rfl
  | succ b ih =>
    show sumN f (a + b) + f ((a + b : Nat) : Int) = sumN f a + (sumN (fun x => f (a + x)) b + f (a + b))
    rw [ih, show ((a + b : Nat) : Int) = (a : Int) + b by omega]
    omega
theorem sumN_rev (f : Int → Int) : ∀ m : Nat, sumN f (m + 1) = sumN (fun x => f (m - x)) (m + 1) := by
  intro m
  induction m generalizing f with
  | zero => show (0 : Int) + f ((0 : Nat) : Int) = 0 + f (((0 : Nat) : Int) - ((0 : Nat) : Int)); rfl
  | succ m ih =>
    have h1 := sumN_split f 1 (m + 1)
    rw [show 1 + (m + 1) = m + 1 + 1 by omega] at h1
    rw [h1, ih]
    show (0 : Int) + f ((0 : Nat) : Int) + _ = sumN (fun x => f (((m + 1 : Nat) : Int) - x)) (m + 1) + f (((m + 1 : Nat) : Int) - ((m + 1 : Nat) : Int))
    rw [show ((m + 1 : Nat) : Int) - ((m + 1 : Nat) : Int) = ((0 : Nat) : Int) by omega, sumN_congr (f := fun x => f (((m + 1 : Nat) : Int) - x)) (g := fun x => f (((1 : Nat) : Int) + ((m : Int) - x))) (fun j a b => congrArg f (by omega))]
    omega
def prodN (f : Int → Int) : Nat → Int
  | 0 => 1
  | m + 1 => prodN f m * f m
theorem prodN_congr {f g : Int → Int} : ∀ {m : Nat}, (∀ j : Int, 0 ≤ j → j < m → f j = g j) → prodN f m = prodN g m := by
  intro m
  induction m with
  | zero => intro _; rfl
  | succ m ih =>
    intro h
    unfold prodN
    rw [ih (fun j a b => h j a (by omega)), h m (by omega) (by omega)]
theorem prodN_bd {f : Int → Int} : ∀ {m : Nat}, (∀ j : Int, 0 ≤ j → j < m → 0 ≤ f j ∧ f j ≤ 12) → 0 ≤ prodN f m ∧ prodN f m ≤ ((12 ^ m : Nat) : Int) := by
  intro m
  induction m with
  | zero => intro _; exact ⟨(by decide : (0 : Int) ≤ 1), (by decide : (1 : Int) ≤ ((12 ^ 0 : Nat) : Int))⟩
  | succ m ih =>
    intro h
    have h1 := ih (fun j a b => h j a (by omega))
    have h2 := h m (by omega) (by omega)
    have h3 := mul_bd h1.1 h1.2 h2.1 h2.2
    unfold prodN
    rw [Nat.pow_succ]
    omega
theorem prodN_zero {f : Int → Int} : ∀ {m : Nat} (j : Int), 0 ≤ j → j < m → f j = 0 → prodN f m = 0 := by
  intro m
  induction m with
  | zero => intro j a b; exact absurd b (by omega)
  | succ m ih =>
    intro j a b h
    unfold prodN
    by_cases hj : j = m
    · rw [← hj, h, Int.mul_zero]
    · rw [ih j a (by omega) h, Int.zero_mul]
theorem pow12 {m : Nat} (h : m ≤ 6) : ((12 ^ m : Nat) : Int) ≤ 2985984 := by
  have : (12 : Nat) ^ m ≤ 12 ^ 6 := Nat.pow_le_pow_right (by decide) h
  have h6 : (12 : Nat) ^ 6 = 2985984 := by decide
  omega
/-- bits of numbers -/
theorem iShr_nat {a k : Nat} (ha : a < 2147483648) (hk : k < 32) : iShr (a : Int) (k : Int) = ((a / 2 ^ k : Nat) : Int) := by
  have h1 : (Int32.ofInt (a : Int)).toInt = a := Int32.toInt_ofInt_of_le (by omega) (by omega)
  have h2 : (Int32.ofInt (k : Int) &&& 31).toBitVec.toNat = k := by
    rw [Int32.toBitVec_and, BitVec.toNat_and, i32_nat (by omega)]
    show k &&& 31 = k
    exact (Nat.and_two_pow_sub_one_eq_mod k 5).trans (Nat.mod_eq_of_lt hk)
  unfold iShr
  rw [← Int32.toInt_toBitVec, Int32.toBitVec_shiftRight, BitVec.sshiftRight_eq', BitVec.toInt_sshiftRight]
  have h3 : ((Int32.ofInt (k : Int) &&& 31).toBitVec.smod 32).toNat = k := by
    have hb : (Int32.ofInt (k : Int) &&& 31).toBitVec = BitVec.ofNat 32 k := BitVec.eq_of_toNat_eq (by rw [h2, BitVec.toNat_ofNat]; omega)
    rw [hb]
    have : k = 0 ∨ k = 1 ∨ k = 2 ∨ k = 3 ∨ k = 4 ∨ k = 5 ∨ k = 6 ∨ k = 7 ∨ k = 8 ∨ k = 9 ∨ k = 10 ∨ k = 11 ∨ k = 12 ∨ k = 13 ∨ k = 14 ∨ k = 15 ∨ k = 16 ∨ k = 17 ∨ k = 18 ∨ k = 19 ∨ k = 20 ∨ k = 21 ∨ k = 22 ∨ k = 23 ∨ k = 24 ∨ k = 25 ∨ k = 26 ∨ k = 27 ∨ k = 28 ∨ k = 29 ∨ k = 30 ∨ k = 31 := by omega
    rcases this with rfl | rfl | rfl | rfl | rfl | rfl | rfl | rfl | rfl | rfl | rfl | rfl | rfl | rfl | rfl | rfl | rfl | rfl | rfl | rfl | rfl | rfl | rfl | rfl | rfl | rfl | rfl | rfl | rfl | rfl | rfl | rfl <;> decide +kernel
  rw [h3, Int32.toInt_toBitVec, h1, Int.shiftRight_eq_div_pow]
  norm_cast
def bN (s i : Nat) : Int := if s.testBit i then 1 else 0
theorem bit_nat {s i : Nat} (hs : s < 2147483648) (hi : i < 31) : bit (s : Int) (i : Int) = bN s i := by
  unfold bit bN
  rw [iShr_nat hs (by omega), show (1 : Int) = ((1 : Nat) : Int) from rfl, iAnd_nat (Nat.lt_of_le_of_lt (Nat.div_le_self _ _) hs) (by decide), Nat.testBit_eq_decide_div_mod_eq, show (1 : Nat) = 2 ^ 1 - 1 from rfl, Nat.and_two_pow_sub_one_eq_mod]
  have : s / 2 ^ i % 2 = 0 ∨ s / 2 ^ i % 2 = 1 := by omega
  rcases this with h | h <;> rw [show (2 : Nat) ^ 1 = 2 from rfl, h] <;> rfl
theorem sub_bits : ∀ V x : Fin 64, x.val &&& V.val = x.val → (x.val ≤ V.val ∧ (V.val - x.val) &&& V.val = V.val - x.val) ∧ ∀ i : Fin 6, (V.val - x.val).testBit i.val = (V.val.testBit i.val && !x.val.testBit i.val) := by decide +kernel
theorem sub_cond : ∀ x V : Fin 64, iAnd (x.val : Int) (iXor (V.val : Int) (-1)) = 0 ↔ x.val &&& V.val = x.val := by decide +kernel
theorem sub_not : ∀ x V : Fin 64, x.val &&& V.val ≠ x.val → ∃ i : Fin 6, x.val.testBit i.val = true ∧ V.val.testBit i.val = false := by decide +kernel
theorem orN_bit {f : Int → Int} : ∀ {m : Nat}, m ≤ 6 → ∃ v : Nat, orN f m = (v : Int) ∧ v < 2 ^ m ∧ ∀ i : Nat, i < m → (v.testBit i = true ↔ f i = 1) := by
  intro m
  induction m with
  | zero => intro _; exact ⟨0, rfl, by decide, fun i hi => absurd hi (by omega)⟩
  | succ m ih =>
    intro h
    obtain ⟨v, h1, h2, h3⟩ := ih (by omega)
    have h25 : (2 : Nat) ^ m ≤ 2 ^ 5 := Nat.pow_le_pow_right (by decide) (by omega)
    have hp : (2 : Nat) ^ (m + 1) = 2 * 2 ^ m := by rw [Nat.pow_succ]; omega
    have h24 : (2 : Nat) ^ 5 = 32 := by decide
    have hvm : v.testBit m = false := Nat.testBit_lt_two_pow h2
    unfold orN
    rw [h1]
    by_cases hf : f m = 1
    · rw [if_pos hf, shl_nat (by omega), iOr_nat (by omega) (by omega)]
      refine ⟨_, rfl, Nat.or_lt_two_pow (by omega) (by omega), fun i hi => ?_⟩
      rw [Nat.testBit_or, Nat.testBit_two_pow]
      by_cases hm : i = m
      · subst hm
        rw [hvm]
        simp [hf]
      · have := h3 i (by omega)
        rw [show (decide (m = i)) = false from decide_eq_false (fun z => hm z.symm), Bool.or_false]
        exact this
    · rw [if_neg hf, show (0 : Int) = ((0 : Nat) : Int) from rfl, iOr_nat (by omega) (by decide), Nat.or_zero]
      refine ⟨v, rfl, by omega, fun i hi => ?_⟩
      by_cases hm : i = m
      · subst hm
        rw [hvm]
        simp [hf]
      · exact h3 i (by omega)
/-- one's factor while a set abstains; of the reference, while some vote -/
def fA (C : Int → Int) (p s : Int) : Int → Int := fun i => if C i = -9 then (if bit s i = 0 then 1 else 0) else (if bit s i = 0 then 12 - p else p)
def fB (V p x : Int) : Int → Int := fun i => if bit V i = 1 then (if bit x i = 1 then 12 - p else p) else 1
def fVt (C : Int → Int) : Int → Int := fun i => if C i = -9 then 0 else 1
def fWh (C : Int → Int) : Int → Int := fun i => if C i = -9 then 1 else 12
def wnA (n : Int) (C G : Int → Int) (s : Int) : Int := sWin (fun j => sumI (fHeap (vOf s (-9) C) G j) n)
def wnB (n : Int) (C G : Int → Int) (x : Int) : Int := sWin (fun j => sumI (fHeap (vOfM x 0 0 C) G j) n)
theorem fA_in {C : Int → Int} {p s i : Int} (hp : 0 ≤ p ∧ p ≤ 12) : 0 ≤ fA C p s i ∧ fA C p s i ≤ 12 := by
  unfold fA
  (repeat' split) <;> omega
theorem fB_in {V p x i : Int} (hp : 0 ≤ p ∧ p ≤ 12) : 0 ≤ fB V p x i ∧ fB V p x i ≤ 12 := by
  unfold fB
  (repeat' split) <;> omega
theorem wtA_in {C : Int → Int} {p s : Int} {n : Nat} (hp : 0 ≤ p ∧ p ≤ 12) (hn : n ≤ 6) : 0 ≤ prodN (fA C p s) n ∧ prodN (fA C p s) n ≤ 2985984 := by
  have h1 := prodN_bd (m := n) (fun j _ _ => @fA_in C p s j hp)
  have h2 := pow12 hn
  omega
theorem wtB_in {V p x : Int} {n : Nat} (hp : 0 ≤ p ∧ p ≤ 12) (hn : n ≤ 6) : 0 ≤ prodN (fB V p x) n ∧ prodN (fB V p x) n ≤ 2985984 := by
  have h1 := prodN_bd (m := n) (fun j _ _ => @fB_in V p x j hp)
  have h2 := pow12 hn
  omega
/-- a sum over sets by who abstains is the sum over sets by who votes -/
theorem sum_sets {n : Int} {C G : Int → Int} {p : Int} (hn : 1 ≤ n ∧ n ≤ 6) (F : Int → Int → Int) (hF : ∀ a : Int, F 0 a = 0) : sumI (fun s => F (prodN (fA C p s) n.toNat) (wnA n C G s)) (iShl 1 n) = sumI (fun x => if iAnd x (iXor (orN (fVt C) n.toNat) (-1)) = 0 then F (prodN (fB (orN (fVt C) n.toNat) p x) n.toNat) (wnB n C G x) else 0) (orN (fVt C) n.toNat + 1) := by
  obtain ⟨v, hv, hvl, hvb⟩ := orN_bit (f := fVt C) (m := n.toNat) (by omega)
  rw [hv]
  have hsh : iShl 1 n = ((2 ^ n.toNat : Nat) : Int) := by
    have := @shl_nat n.toNat (by omega)
    rw [show ((n.toNat : Nat) : Int) = n by omega] at this
    exact this
  have h64 : (2 : Nat) ^ n.toNat ≤ 2 ^ 6 := Nat.pow_le_pow_right (by decide) (by omega)
  rw [show (2 : Nat) ^ 6 = 64 from rfl] at h64
  have hvC : ∀ i : Int, 0 ≤ i → i < n → (bit (v : Int) i = 1 ↔ C i ≠ -9) := fun i a b => by
    have h1 := hvb i.toNat (by omega)
    have h2 := @bit_nat v i.toNat (by omega) (by omega)
    rw [show ((i.toNat : Nat) : Int) = i by omega] at h1 h2
    rw [h2]
    unfold bN
    unfold fVt at h1
    by_cases hc : C i = -9
    · rw [if_pos hc] at h1
      have : ¬ v.testBit i.toNat = true := fun z => absurd (h1.1 z) (by decide)
      rw [if_neg this]
      simp [hc]
    · rw [if_neg hc] at h1
      rw [if_pos (h1.2 rfl)]
      simp [hc]
  -- the term of a set
  obtain ⟨T, hT⟩ : ∃ T : Int → Int, T = fun s => F (prodN (fA C p s) n.toNat) (wnA n C G s) := ⟨_, rfl⟩
  have hT0 : ∀ x : Nat, x < 64 → x &&& v ≠ x → x < 2 ^ n.toNat → T x = 0 := fun x hx hne hxn => by
    obtain ⟨i, hi1, hi2⟩ := sub_not ⟨x, hx⟩ ⟨v, by omega⟩ hne
    have hin : i.val < n.toNat := by
      apply Classical.byContradiction
      intro hc
      have : x < 2 ^ i.val := Nat.lt_of_lt_of_le hxn (Nat.pow_le_pow_right (by decide) (by omega))
      rw [Nat.testBit_lt_two_pow this] at hi1
      exact absurd hi1 (by decide)
    have hz : prodN (fA C p (x : Int)) n.toNat = 0 := prodN_zero (i.val : Int) (by omega) (by omega) (by
      have h2 := @bit_nat x i.val (by omega) (by omega)
      have h3 : C (i.val : Int) = -9 := by
        apply Classical.byContradiction
        intro hc
        have h4 := (hvC i.val (by omega) (by omega)).2 hc
        rw [@bit_nat v i.val (by omega) (by omega)] at h4
        unfold bN at h4
        dsimp only at hi2
        rw [hi2] at h4
        exact absurd h4 (by decide)
      unfold fA
      rw [if_pos h3, h2, if_neg]
      unfold bN
      dsimp only at hi1
      rw [if_pos hi1]
      decide)
    rw [hT]
    dsimp only
    rw [hz, hF]
  rw [← hT, hsh]
  unfold sumI
  rw [show (((2 ^ n.toNat : Nat) : Int)).toNat = (v + 1) + (2 ^ n.toNat - (v + 1)) by omega, sumN_split]
  have hz2 : sumN (fun x => T (((v + 1 : Nat) : Int) + x)) (2 ^ n.toNat - (v + 1)) = 0 := by
    have h1 : sumN (fun x => T (((v + 1 : Nat) : Int) + x)) (2 ^ n.toNat - (v + 1)) = sumN (fun _ => 0) (2 ^ n.toNat - (v + 1)) := sumN_congr (fun j a b => by
      have h2 : ((v + 1 : Nat) : Int) + j = ((v + 1 + j.toNat : Nat) : Int) := by omega
      rw [h2]
      refine hT0 _ (by omega) (fun hc => ?_) (by omega)
      have h3 := ((sub_bits ⟨v, by omega⟩ ⟨v + 1 + j.toNat, by omega⟩) hc).1.1
      dsimp only at h3
      omega)
    rw [h1]
    exact sum0 (n := ((2 ^ n.toNat - (v + 1) : Nat) : Int)) (f := fun _ => 0) (fun _ _ _ => rfl)
  rw [hz2, Int.add_zero, sumN_rev, show ((v : Int) + 1).toNat = v + 1 by omega]
  refine sumN_congr (fun j a b => ?_)
  have hj : j = (j.toNat : Int) := by omega
  rw [hj]
  have hc := sub_cond ⟨j.toNat, by omega⟩ ⟨v, by omega⟩
  dsimp only at hc
  by_cases hs : j.toNat &&& v = j.toNat
  · rw [if_pos (hc.2 hs)]
    have hb := sub_bits ⟨v, by omega⟩ ⟨j.toNat, by omega⟩ hs
    dsimp only at hb
    have hd : (v : Int) - (j.toNat : Int) = ((v - j.toNat : Nat) : Int) := by omega
    rw [hT]
    dsimp only
    rw [hd]
    have hbb : ∀ i : Int, 0 ≤ i → i < n → (bit ((v - j.toNat : Nat) : Int) i = 0 ↔ ¬ (bit (v : Int) i = 1 ∧ bit ((j.toNat : Nat) : Int) i ≠ 1)) := fun i a b => by
      have h1 := hb.2 ⟨i.toNat, by omega⟩
      dsimp only at h1
      have e1 := @bit_nat (v - j.toNat) i.toNat (by omega) (by omega)
      have e2 := @bit_nat v i.toNat (by omega) (by omega)
      have e3 := @bit_nat j.toNat i.toNat (by omega) (by omega)
      rw [show ((i.toNat : Nat) : Int) = i by omega] at e1 e2 e3
      rw [e1, e2, e3]
      unfold bN
      rw [h1]
      cases v.testBit i.toNat <;> cases j.toNat.testBit i.toNat <;> decide
    have hw : prodN (fA C p ((v - j.toNat : Nat) : Int)) n.toNat = prodN (fB (v : Int) p ((j.toNat : Nat) : Int)) n.toNat := prodN_congr (fun i a b => by
      have h1 := hvC i a (by omega)
      have h2 := hbb i a (by omega)
      unfold fA fB
      by_cases hC : C i = -9
      · have h3 : ¬ bit (v : Int) i = 1 := fun z => h1.1 z hC
        rw [if_pos hC, if_neg h3, if_pos (h2.2 (fun z => h3 z.1))]
      · have h3 := h1.2 hC
        rw [if_neg hC, if_pos h3]
        by_cases h4 : bit ((j.toNat : Nat) : Int) i = 1
        · rw [if_pos h4, if_pos (h2.2 (fun z => z.2 h4))]
        · rw [if_neg h4, if_neg (fun z => (h2.1 z) ⟨h3, h4⟩)])
    have hg : wnA n C G ((v - j.toNat : Nat) : Int) = wnB n C G ((j.toNat : Nat) : Int) := by
      unfold wnA wnB
      congr 1
      funext q
      refine sumI_congr (fun i a b => ?_)
      have h1 := hvC i a (by omega)
      have h2 := hbb i a (by omega)
      have hq : vOf ((v - j.toNat : Nat) : Int) (-9) C i = vOfM ((j.toNat : Nat) : Int) 0 0 C i := by
        unfold vOf vOfM
        rw [bit0 (i := i) ⟨a, by omega⟩, if_neg (show ¬ (0 : Int) = 1 by decide)]
        by_cases hC : C i = -9
        · rw [hC]
          (repeat' split) <;> rfl
        · have h3 := h1.2 hC
          by_cases h4 : bit ((j.toNat : Nat) : Int) i = 1
          · rw [if_pos h4, if_pos (h2.2 (fun z => z.2 h4))]
          · rw [if_neg h4, if_neg (fun z => (h2.1 z) ⟨h3, h4⟩)]
      unfold fHeap
      rw [hq]
    rw [hw, hg]
  · rw [if_neg (fun z => hs (hc.1 z))]
    have hd : (v : Int) - (j.toNat : Int) = ((v - j.toNat : Nat) : Int) := by omega
    rw [hd]
    refine hT0 _ (by omega) (fun hc2 => hs ?_) (by omega)
    have h5 := (sub_bits ⟨v, by omega⟩ ⟨v - j.toNat, by omega⟩ hc2).1.2
    dsimp only at h5
    rw [show v - (v - j.toNat) = j.toNat by omega] at h5
    exact h5
theorem sumN_mul (f : Int → Int) (c : Int) : ∀ m : Nat, sumN (fun x => f x * c) m = sumN f m * c := by
  intro m
  induction m with
  | zero => show (0 : Int) = 0 * c; rw [Int.zero_mul]
  | succ m ih =>
    show sumN (fun x => f x * c) m + f m * c = (sumN f m + f m) * c
    rw [ih, Int.add_mul]
theorem sum_prod (C : Int → Int) (p : Int) : ∀ m : Nat, m ≤ 6 → sumN (fun s => prodN (fA C p s) m) (2 ^ m) = prodN (fWh C) m := by
  intro m
  induction m with
  | zero => intro _; show (0 : Int) + 1 = 1; rfl
  | succ m ih =>
    intro hm
    have h25 : (2 : Nat) ^ m ≤ 2 ^ 5 := Nat.pow_le_pow_right (by decide) (by omega)
    rw [show (2 : Nat) ^ 5 = 32 from rfl] at h25
    rw [Nat.pow_succ, Nat.mul_two, sumN_split]
    have hb : ∀ (s i : Nat), s < 64 → i < 6 → bit (s : Int) (i : Int) = bN s i := fun s i a b => bit_nat (by omega) (by omega)
    have h1 : sumN (fun s => prodN (fA C p s) (m + 1)) (2 ^ m) = sumN (fun s => prodN (fA C p s) m * (if C m = -9 then 1 else 12 - p)) (2 ^ m) := sumN_congr (fun j a b => by
      have hj : j = (j.toNat : Int) := by omega
      have h2 : bit j (m : Int) = 0 := by
        rw [hj, hb j.toNat m (by omega) (by omega)]
        unfold bN
        rw [Nat.testBit_lt_two_pow (show j.toNat < 2 ^ m by omega)]
        rfl
      show prodN (fA C p j) m * fA C p j m = _
      congr 1
      unfold fA
      rw [h2]
      simp)
    have h2 : sumN (fun x => prodN (fA C p (((2 ^ m : Nat) : Int) + x)) (m + 1)) (2 ^ m) = sumN (fun s => prodN (fA C p s) m * (if C m = -9 then 0 else p)) (2 ^ m) := sumN_congr (fun j a b => by
      have hj : j = (j.toNat : Int) := by omega
      have hs : ((2 ^ m : Nat) : Int) + j = ((2 ^ m + j.toNat : Nat) : Int) := by omega
      have h3 : bit (((2 ^ m : Nat) : Int) + j) (m : Int) = 1 := by
        rw [hs, hb _ m (by omega) (by omega)]
        unfold bN
        rw [Nat.testBit_two_pow_add_eq, Nat.testBit_lt_two_pow (show j.toNat < 2 ^ m by omega)]
        rfl
      have h4 : prodN (fA C p (((2 ^ m : Nat) : Int) + j)) m = prodN (fA C p j) m := prodN_congr (fun i a b => by
        have h5 : bit (((2 ^ m : Nat) : Int) + j) i = bit j i := by
          have e1 := hb (2 ^ m + j.toNat) i.toNat (by omega) (by omega)
          have e2 := hb j.toNat i.toNat (by omega) (by omega)
          rw [show ((i.toNat : Nat) : Int) = i by omega] at e1 e2
          rw [hs, e1, hj, e2]
          unfold bN
          rw [← hj, Nat.testBit_two_pow_add_gt (show i.toNat < m by omega)]
        unfold fA
        rw [h5])
      show prodN (fA C p (((2 ^ m : Nat) : Int) + j)) m * fA C p (((2 ^ m : Nat) : Int) + j) m = _
      rw [h4]
      congr 1
      unfold fA
      rw [h3]
      simp)
    rw [h1, h2, sumN_mul, sumN_mul, ih (by omega)]
    show _ = prodN (fWh C) m * fWh C m
    unfold fWh
    by_cases hC : C m = -9
    · rw [if_pos hC, if_pos hC, if_pos hC]
      omega
    · rw [if_neg hC, if_neg hC, if_neg hC, ← Int.mul_add]
      congr 1
      omega
theorem sum_all {n : Int} {C : Int → Int} {p : Int} (hn : 1 ≤ n ∧ n ≤ 6) : sumI (fun s => prodN (fA C p s) n.toNat) (iShl 1 n) = prodN (fWh C) n.toNat := by
  have hsh : iShl 1 n = ((2 ^ n.toNat : Nat) : Int) := by
    have := @shl_nat n.toNat (by omega)
    rw [show ((n.toNat : Nat) : Int) = n by omega] at this
    exact this
  rw [hsh]
  unfold sumI
  rw [Int.toNat_natCast]
  exact sum_prod C p n.toNat (by omega)
/-- Euclid -/
def eu : Nat → Int → Int → Int
  | 0, a, _ => a
  | k + 1, a, b => if b = 0 then a else eu k b (a % b)
theorem eu_step {k : Nat} {a b : Int} (h : 0 < b ∧ b ≤ a) (hm : a * b < ((2 ^ (k + 1) : Nat) : Int)) : b * (a % b) < ((2 ^ k : Nat) : Int) ∧ 0 ≤ a % b ∧ a % b < b := by
  have h1 := Int.emod_nonneg a (show b ≠ 0 by omega)
  have h2 := Int.emod_lt_of_pos a h.1
  have h3 : 2 * (a % b) ≤ a := by
    have h4 := Int.emod_add_mul_ediv a b
    have h5 : 1 ≤ a / b := Int.le_ediv_of_mul_le h.1 (by omega)
    have h6 : b * 1 ≤ b * (a / b) := Int.mul_le_mul_of_nonneg_left h5 (by omega)
    omega
  have h7 : b * (2 * (a % b)) ≤ b * a := Int.mul_le_mul_of_nonneg_left h3 (by omega)
  rw [Nat.pow_succ] at hm
  have h8 : b * (2 * (a % b)) = 2 * (b * (a % b)) := by rw [Int.mul_left_comm]
  have h9 : b * a = a * b := Int.mul_comm b a
  refine ⟨by omega, h1, h2⟩
theorem eu_pos : ∀ (k : Nat) (a b : Int), 0 ≤ b → 0 ≤ a → (0 < a ∨ 0 < b) → (k = 0 → 0 < a) → 0 < eu k a b := by
  intro k
  induction k with
  | zero => intro a b _ _ _ h; exact h rfl
  | succ k ih =>
    intro a b hb ha hab _
    unfold eu
    by_cases h : b = 0
    · rw [if_pos h]
      omega
    · rw [if_neg h]
      exact ih b (a % b) (Int.emod_nonneg a h) hb (Or.inl (by omega)) (fun _ => by omega)
