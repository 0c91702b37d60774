/-! course: the first best code -/
abbrev cgo (c l cell back way : Int) : Prop := way = 0 ∨ (way ≠ back ∧ sBeside c l cell way ≠ -1)
def bwS (c l : Int) (V : Int → Int) (cell back : Int) : Nat → Int × Int
  | 0 => (0, V 0)
  | m + 1 => if cgo c l cell back ((m : Int) + 1) then (if (bwS c l V cell back m).2 < V ((m : Int) + 1) then ((m : Int) + 1, V ((m : Int) + 1)) else bwS c l V cell back m) else bwS c l V cell back m
theorem bwS_ok {c l : Int} {V : Int → Int} {cell back : Int} : ∀ m : Nat, (0 ≤ (bwS c l V cell back m).1 ∧ (bwS c l V cell back m).1 ≤ m) ∧ cgo c l cell back (bwS c l V cell back m).1 ∧ (bwS c l V cell back m).2 = V (bwS c l V cell back m).1 ∧ ∀ e : Int, 0 ≤ e → e ≤ m → cgo c l cell back e → V e ≤ (bwS c l V cell back m).2 ∧ (e < (bwS c l V cell back m).1 → V e < (bwS c l V cell back m).2) := by
  intro m
  induction m with
  | zero =>
    refine ⟨⟨Int.le_refl _, Int.le_refl _⟩, Or.inl rfl, rfl, fun e h0 h1 _ => ?_⟩
    obtain rfl : e = 0 := by omega
    exact ⟨Int.le_refl _, fun h => absurd h (Int.lt_irrefl _)⟩
  | succ m ih =>
    obtain ⟨i1, i2, i3, i4⟩ := ih
    unfold bwS
    by_cases hg : cgo c l cell back ((m : Int) + 1)
    · rw [if_pos hg]
      by_cases hv : (bwS c l V cell back m).2 < V ((m : Int) + 1)
      · rw [if_pos hv]
        refine ⟨⟨by dsimp only; omega, by dsimp only; omega⟩, hg, rfl, fun e h0 h1 h2 => ?_⟩
        dsimp only
        by_cases he : e = (m : Int) + 1
        · rw [he]
          exact ⟨Int.le_refl _, fun h => absurd h (Int.lt_irrefl _)⟩
        · have := (i4 e h0 (by omega) h2).1
          exact ⟨by omega, fun _ => by omega⟩
      · rw [if_neg hv]
        refine ⟨⟨i1.1, by omega⟩, i2, i3, fun e h0 h1 h2 => ?_⟩
        by_cases he : e = (m : Int) + 1
        · rw [he]
          exact ⟨by omega, fun h => absurd h (by omega)⟩
        · exact i4 e h0 (by omega) h2
    · rw [if_neg hg]
      refine ⟨⟨i1.1, by omega⟩, i2, i3, fun e h0 h1 h2 => ?_⟩
      by_cases he : e = (m : Int) + 1
      · rw [he] at h2
        exact absurd h2 hg
      · exact i4 e h0 (by omega) h2
def bst (c l : Int) (W : Int → Int) : Nat → Int → Int → Int
  | 0 => fun _ _ => 0
  | k + 1 => fun cell back => (bwS c l (fun way => W (sBeside c l cell way) + bst c l W k (sBeside c l cell way) (sAgainst way)) cell back 4).2
def bvl (c l : Int) (W : Int → Int) (k : Nat) (cell : Int) : Int → Int := fun way => W (sBeside c l cell way) + bst c l W k (sBeside c l cell way) (sAgainst way)
def bwy (c l : Int) (W : Int → Int) (k : Nat) (cell back : Int) : Int := (bwS c l (bvl c l W k cell) cell back 4).1
theorem bst_s {c l : Int} {W : Int → Int} {k : Nat} {cell back : Int} : bst c l W (k + 1) cell back = (bwS c l (bvl c l W k cell) cell back 4).2 := rfl
theorem bwy_ok {c l : Int} {W : Int → Int} {k : Nat} {cell back : Int} : (0 ≤ bwy c l W k cell back ∧ bwy c l W k cell back ≤ 4) ∧ cgo c l cell back (bwy c l W k cell back) ∧ bst c l W (k + 1) cell back = bvl c l W k cell (bwy c l W k cell back) ∧ ∀ e : Int, 0 ≤ e → e ≤ 4 → cgo c l cell back e → bvl c l W k cell e ≤ bst c l W (k + 1) cell back ∧ (e < bwy c l W k cell back → bvl c l W k cell e < bst c l W (k + 1) cell back) := by
  obtain ⟨h1, h2, h3, h4⟩ := @bwS_ok c l (bvl c l W k cell) cell back 4
  exact ⟨⟨h1.1, h1.2⟩, h2, h3, h4⟩
theorem cgo_cel {c l cell back way : Int} (hc : CL c l) (hx : Cel c l cell) (h : cgo c l cell back way) : Cel c l (sBeside c l cell way) := by
  rcases h with h | h
  · rw [h, beside0]; exact hx
  · exact beside_cel hc hx h.2
theorem bst_ge {c l A : Int} {W : Int → Int} (hc : CL c l) (hW : ∀ x : Int, Cel c l x → 0 ≤ W x ∧ W x ≤ A) : ∀ (k : Nat) (cell back : Int), Cel c l cell → 0 ≤ bst c l W k cell back ∧ bst c l W k cell back ≤ A * k := by
  intro k
  induction k with
  | zero => intro cell back _; exact ⟨Int.le_refl _, by rw [Int.natCast_zero, Int.mul_zero]; exact Int.le_refl _⟩
  | succ k ih =>
    intro cell back hx
    obtain ⟨-, h2, h3, -⟩ := @bwy_ok c l W k cell back
    rw [h3]
    have h4 := cgo_cel hc hx h2
    have h5 := hW _ h4
    have h6 := ih _ (sAgainst (bwy c l W k cell back)) h4
    unfold bvl
    rw [Int.natCast_succ, Int.mul_add, Int.mul_one]
    omega
/-- the figures of a code -/
def dg (code : Nat) (k : Nat) : Int := ((code / 5 ^ k % 5 : Nat) : Int)
theorem dg_in (code k : Nat) : 0 ≤ dg code k ∧ dg code k ≤ 4 := by unfold dg; omega
theorem dg_split (code k : Nat) : ((code % 5 ^ (k + 1) : Nat) : Int) = dg code k * (5 ^ k : Nat) + (code % 5 ^ k : Nat) := by
  have h : code % 5 ^ (k + 1) = code % 5 ^ k + 5 ^ k * (code / 5 ^ k % 5) := by rw [Nat.pow_succ, Nat.mod_mul]
  rw [h]
  unfold dg
  rw [Int.natCast_add, Int.natCast_mul, Int.mul_comm, Int.add_comm]
theorem two_fig {P a b x y : Int} (hx : 0 ≤ x ∧ x < P) (hy : 0 ≤ y ∧ y < P) : (a * P + x = b * P + y → a = b ∧ x = y) ∧ (a * P + x < b * P + y → a < b ∨ (a = b ∧ x < y)) := by
  have hk : ∀ a b : Int, a < b → a * P + P ≤ b * P := fun a b h => by
    have := Int.mul_le_mul_of_nonneg_right (show a + 1 ≤ b by omega) (show 0 ≤ P by omega)
    rw [Int.add_mul, Int.one_mul] at this
    exact this
  constructor
  · intro h
    rcases Int.lt_trichotomy a b with h1 | h1 | h1
    · have := hk a b h1; omega
    · subst h1; exact ⟨rfl, by omega⟩
    · have := hk b a h1; omega
  · intro h
    rcases Int.lt_trichotomy a b with h1 | h1 | h1
    · exact Or.inl h1
    · subst h1; exact Or.inr ⟨rfl, by omega⟩
    · have := hk b a h1; omega
def gv (c l : Int) (W : Int → Int) (code : Nat) : Nat → Int → Int → Int → Int
  | 0 => fun _ _ s => s
  | k + 1 => fun cell back s => if cgo c l cell back (dg code k) then gv c l W code k (sBeside c l cell (dg code k)) (sAgainst (dg code k)) (s + W (sBeside c l cell (dg code k))) else -1
def bcd (c l : Int) (W : Int → Int) : Nat → Int → Int → Nat
  | 0 => fun _ _ => 0
  | k + 1 => fun cell back => (bwy c l W k cell back).toNat * 5 ^ k + bcd c l W k (sBeside c l cell (bwy c l W k cell back)) (sAgainst (bwy c l W k cell back))
theorem bcd_s {c l : Int} {W : Int → Int} {k : Nat} {cell back : Int} : ((bcd c l W (k + 1) cell back : Nat) : Int) = bwy c l W k cell back * (5 ^ k : Nat) + (bcd c l W k (sBeside c l cell (bwy c l W k cell back)) (sAgainst (bwy c l W k cell back)) : Nat) := by
  have h := (@bwy_ok c l W k cell back).1
  rw [show bcd c l W (k + 1) cell back = (bwy c l W k cell back).toNat * 5 ^ k + bcd c l W k (sBeside c l cell (bwy c l W k cell back)) (sAgainst (bwy c l W k cell back)) from rfl, Int.natCast_add, Int.natCast_mul, Int.toNat_of_nonneg h.1]
theorem bcd_lt {c l : Int} {W : Int → Int} : ∀ (k : Nat) (cell back : Int), bcd c l W k cell back < 5 ^ k := by
  intro k
  induction k with
  | zero => intro _ _; exact Nat.one_pos
  | succ k ih =>
    intro cell back
    have h := (@bwy_ok c l W k cell back).1
    have h1 := ih (sBeside c l cell (bwy c l W k cell back)) (sAgainst (bwy c l W k cell back))
    rw [show bcd c l W (k + 1) cell back = (bwy c l W k cell back).toNat * 5 ^ k + bcd c l W k (sBeside c l cell (bwy c l W k cell back)) (sAgainst (bwy c l W k cell back)) from rfl]
    have h2 : (bwy c l W k cell back).toNat * 5 ^ k ≤ 4 * 5 ^ k := Nat.mul_le_mul_right _ (by omega)
    rw [Nat.pow_succ]
    omega
theorem gv_best {c l A : Int} {W : Int → Int} (hc : CL c l) (hW : ∀ x : Int, Cel c l x → 0 ≤ W x ∧ W x ≤ A) (code : Nat) : ∀ (k : Nat) (cell back s : Int), Cel c l cell → 0 ≤ s → gv c l W code k cell back s ≤ s + bst c l W k cell back ∧ (code % 5 ^ k = bcd c l W k cell back → gv c l W code k cell back s = s + bst c l W k cell back) ∧ (code % 5 ^ k < bcd c l W k cell back → gv c l W code k cell back s < s + bst c l W k cell back) := by
  intro k
  induction k with
  | zero =>
    intro cell back s _ _
    have h1 : gv c l W code 0 cell back s = s := rfl
    have h2 : bst c l W 0 cell back = 0 := rfl
    have h3 : bcd c l W 0 cell back = 0 := rfl
    rw [h1, h2, h3]
    exact ⟨by omega, fun _ => by omega, fun h => absurd h (by omega)⟩
  | succ k ih =>
    intro cell back s hx hs
    obtain ⟨b1, b2, b3, b4⟩ := @bwy_ok c l W k cell back
    have hg := bst_ge hc hW (k + 1) cell back hx
    have hsp := dg_split code k
    have hbs := @bcd_s c l W k cell back
    have hlt : code % 5 ^ k < 5 ^ k := Nat.mod_lt _ (Nat.pos_of_ne_zero (by
      have := Nat.pow_pos (n := k) (show 0 < 5 by decide)
      omega))
    have hbl := @bcd_lt c l W k (sBeside c l cell (bwy c l W k cell back)) (sAgainst (bwy c l W k cell back))
    have ht := @two_fig ((5 ^ k : Nat) : Int) (dg code k) (bwy c l W k cell back) ((code % 5 ^ k : Nat) : Int) ((bcd c l W k (sBeside c l cell (bwy c l W k cell back)) (sAgainst (bwy c l W k cell back)) : Nat) : Int) ⟨by omega, by omega⟩ ⟨by omega, by omega⟩
    rw [← hsp, ← hbs] at ht
    have hdi := dg_in code k
    have hgv : gv c l W code (k + 1) cell back s = if cgo c l cell back (dg code k) then gv c l W code k (sBeside c l cell (dg code k)) (sAgainst (dg code k)) (s + W (sBeside c l cell (dg code k))) else -1 := rfl
    rw [hgv]
    by_cases hcg : cgo c l cell back (dg code k)
    · rw [if_pos hcg]
      have hx2 := cgo_cel hc hx hcg
      have hw2 := hW _ hx2
      obtain ⟨i1, i2, i3⟩ := ih (sBeside c l cell (dg code k)) (sAgainst (dg code k)) (s + W (sBeside c l cell (dg code k))) hx2 (by omega)
      have h4 := b4 (dg code k) hdi.1 hdi.2 hcg
      have hv : bvl c l W k cell (dg code k) = W (sBeside c l cell (dg code k)) + bst c l W k (sBeside c l cell (dg code k)) (sAgainst (dg code k)) := rfl
      refine ⟨by omega, fun he => ?_, fun he => ?_⟩
      · obtain ⟨h5, h6⟩ := ht.1 (by rw [he])
        rw [← h5] at h6 b3
        rw [i2 (by omega), b3, hv]
        omega
      · rcases ht.2 (by omega) with h5 | ⟨h5, h6⟩
        · have := h4.2 h5
          omega
        · rw [← h5] at h6 b3
          have := i3 (by omega)
          rw [b3, hv]
          omega
    · rw [if_neg hcg]
      refine ⟨by omega, fun he => ?_, fun _ => by omega⟩
      have h5 := ht.1 (by rw [he])
      rw [← h5.1] at b2
      exact absurd b2 hcg
/-- the best code's figures are the best ways -/
theorem bcd_fig {c l : Int} {W : Int → Int} {C k : Nat} {cell back : Int} (h : C % 5 ^ (k + 1) = bcd c l W (k + 1) cell back) : dg C k = bwy c l W k cell back ∧ C % 5 ^ k = bcd c l W k (sBeside c l cell (bwy c l W k cell back)) (sAgainst (bwy c l W k cell back)) := by
  have hsp := dg_split C k
  have hbs := @bcd_s c l W k cell back
  have hlt : C % 5 ^ k < 5 ^ k := Nat.mod_lt _ (Nat.pow_pos (n := k) (show 0 < 5 by decide))
  have hbl := @bcd_lt c l W k (sBeside c l cell (bwy c l W k cell back)) (sAgainst (bwy c l W k cell back))
  have ht := @two_fig ((5 ^ k : Nat) : Int) (dg C k) (bwy c l W k cell back) ((C % 5 ^ k : Nat) : Int) ((bcd c l W k (sBeside c l cell (bwy c l W k cell back)) (sAgainst (bwy c l W k cell back)) : Nat) : Int) ⟨by omega, by omega⟩ ⟨by omega, by omega⟩
  rw [← hsp, ← hbs, h] at ht
  have h5 := ht.1 rfl
  exact ⟨h5.1, by omega⟩
theorem bwS_congr {c l : Int} {V V' : Int → Int} {cell back : Int} (h : ∀ e : Int, cgo c l cell back e → V e = V' e) : ∀ m : Nat, bwS c l V cell back m = bwS c l V' cell back m := by
  intro m
  induction m with
  | zero => unfold bwS; rw [h 0 (Or.inl rfl)]
  | succ m ih =>
    unfold bwS
    rw [ih]
    by_cases hg : cgo c l cell back ((m : Int) + 1)
    · rw [if_pos hg, if_pos hg, h _ hg]
    · rw [if_neg hg, if_neg hg]
theorem bst_congr {c l : Int} {W W' : Int → Int} (hc : CL c l) (h : ∀ x : Int, Cel c l x → W x = W' x) : ∀ (k : Nat) (cell back : Int), Cel c l cell → bst c l W k cell back = bst c l W' k cell back := by
  intro k
  induction k with
  | zero => intro _ _ _; rfl
  | succ k ih =>
    intro cell back hx
    show (bwS _ _ _ _ _ 4).2 = (bwS _ _ _ _ _ 4).2
    refine congrArg Prod.snd (bwS_congr (fun e he => ?_) 4)
    have hx2 := cgo_cel hc hx he
    rw [h _ hx2, ih _ _ hx2]
theorem bwy_congr {c l : Int} {W W' : Int → Int} (hc : CL c l) (h : ∀ x : Int, Cel c l x → W x = W' x) {k : Nat} {cell back : Int} (hx : Cel c l cell) : bwy c l W k cell back = bwy c l W' k cell back := by
  refine congrArg Prod.fst (bwS_congr (fun e he => ?_) 4)
  have hx2 := cgo_cel hc hx he
  unfold bvl
  rw [h _ hx2, bst_congr hc h _ _ _ hx2]
theorem bcd_congr {c l : Int} {W W' : Int → Int} (hc : CL c l) (h : ∀ x : Int, Cel c l x → W x = W' x) : ∀ (k : Nat) (cell back : Int), Cel c l cell → bcd c l W k cell back = bcd c l W' k cell back := by
  intro k
  induction k with
  | zero => intro _ _ _; rfl
  | succ k ih =>
    intro cell back hx
    show (bwy c l W k cell back).toNat * 5 ^ k + bcd c l W k (sBeside c l cell (bwy c l W k cell back)) (sAgainst (bwy c l W k cell back)) = (bwy c l W' k cell back).toNat * 5 ^ k + bcd c l W' k (sBeside c l cell (bwy c l W' k cell back)) (sAgainst (bwy c l W' k cell back))
    rw [bwy_congr hc h hx, ih _ _ (cgo_cel hc hx bwy_ok.2.1)]
def BU : List Int := [29, 32, 33, 34, 35, 36]
theorem best_at {w : Hp} (hT : Stc w) {k : Int} (h0 : 0 ≤ k) (h5 : k ≤ 5) : w 30 k = 31 + k ∧ shAt SH (31 + k) = some (1, 125) := by
  have : k = 0 ∨ k = 1 ∨ k = 2 ∨ k = 3 ∨ k = 4 ∨ k = 5 := by omega
  rcases this with rfl | rfl | rfl | rfl | rfl | rfl
  · exact ⟨hT.get 48 rfl, rfl⟩
  · exact ⟨hT.get 49 rfl, rfl⟩
  · exact ⟨hT.get 50 rfl, rfl⟩
  · exact ⟨hT.get 51 rfl, rfl⟩
  · exact ⟨hT.get 52 rfl, rfl⟩
  · exact ⟨hT.get 53 rfl, rfl⟩
theorem bu_mem {k : Int} (h0 : 1 ≤ k) (h5 : k ≤ 5) : 31 + k ∈ BU := by simp [BU]; omega
/-- the table of k years left, as far as P -/
def Tb (w : Hp) (c l : Int) (W : Int → Int) (k : Nat) (P : Int) : Prop := ∀ z : Int, 0 ≤ z → z < P → w (31 + (k : Int)) z = bst c l W k (z / 5) (z % 5)
def PB (w w1 : Hp) (c l : Int) (W : Int → Int) (k : Nat) (P : Int) : Prop := Same w w1 BU ∧ (∀ x : Int, Cel c l x → w1 29 x = W x) ∧ (∀ j : Nat, j ≤ k → Tb w1 c l W j (5 * (c * l))) ∧ Tb w1 c l W (k + 1) P
theorem PB.step {w w1 : Hp} {c l : Int} {W : Int → Int} {k : Nat} {P cell y : Int} (h : PB w w1 c l W k P) (hk : k ≤ 4) (hP : P = cell * 5 + y) (hy : 0 ≤ y ∧ y < 5) : PB w (up w1 (31 + ((k : Int) + 1)) (cell * 5 + y) (bst c l W (k + 1) cell y)) c l W k (P + 1) := by
  obtain ⟨h1, h2, h3, h4⟩ := h
  refine ⟨h1.put (bu_mem (by omega) (by omega)), fun x hx => by rw [up_ne (by omega)]; exact h2 x hx, fun j hj z z0 z1 => by rw [up_ne (by omega)]; exact h3 j hj z z0 z1, fun z z0 z1 => ?_⟩
  rw [Int.natCast_succ]
  by_cases hz : z = cell * 5 + y
  · rw [hz, up_eq, show (cell * 5 + y) / 5 = cell by omega, show (cell * 5 + y) % 5 = y by omega]
  · rw [up_at hz]
    have := h4 z z0 (by omega)
    rw [Int.natCast_succ] at this
    exact this
theorem PB.next {w w1 : Hp} {c l : Int} {W : Int → Int} {k : Nat} (h : PB w w1 c l W k (5 * (c * l))) : PB w w1 c l W (k + 1) 0 := by
  obtain ⟨h1, h2, h3, h4⟩ := h
  refine ⟨h1, h2, fun j hj => ?_, fun z z0 z1 => absurd z1 (by omega)⟩
  by_cases hj2 : j = k + 1
  · rw [hj2]; exact h4
  · exact h3 j (by omega)
theorem Tb.at {w : Hp} {c l : Int} {W : Int → Int} {k : Nat} {x b : Int} (h : Tb w c l W k (5 * (c * l))) (hx : Cel c l x) (hb : 0 ≤ b ∧ b ≤ 4) : w (31 + (k : Int)) (x * 5 + b) = bst c l W k x b := by
  have h9 := hx.1
  have h8 := hx.2
  have := h (x * 5 + b) (by omega) (by omega)
  rw [show (x * 5 + b) / 5 = x by omega, show (x * 5 + b) % 5 = b by omega] at this
  exact this
theorem ag_in {way : Int} (h : 0 ≤ way ∧ way ≤ 4) : 0 ≤ sAgainst way ∧ sAgainst way ≤ 4 := by
  unfold sAgainst
  split
  · omega
  · split <;> omega
set_option maxRecDepth 20000 in
set_option maxHeartbeats 4000000 in
theorem c_Plans_gainedBy {w : Hp} {d : Nat} {left cell way : Int} {k : Nat} {W : Int → Int} (hT : Stc w) (hr : ROw w) (hl : CL (w 3 0) (w 3 1)) (hx : Cel (w 3 0) (w 3 1) cell) (hk : k ≤ 4) (hlf : left = (k : Int) + 1) (hW : ∀ x : Int, Cel (w 3 0) (w 3 1) x → w 29 x = W x) (hWb : ∀ x : Int, Cel (w 3 0) (w 3 1) x → 0 ≤ W x ∧ W x ≤ 972) (hTb : Tb w (w 3 0) (w 3 1) W k (5 * (w 3 0 * w 3 1))) (hw : 0 ≤ way ∧ way ≤ 4) (hne : sBeside (w 3 0) (w 3 1) cell way ≠ -1) : WP SH (d + 1) 57 0 [some (vR 28), some (vR 3), some (vI left), some (vI cell), some (vI way), none] [] w (fun v w' => v = some (vI (bvl (w 3 0) (w 3 1) W k cell way)) ∧ w' = w) := by
  have hb := best_at hT (k := left - 1) (by omega) (by omega)
  have hsh := hb.2
  have hx2 := beside_cel hl hx hne
  have hcd := hx2.dm hl
  have hag := ag_in hw
  have h29 := hW _ hx2
  have h30 := hWb _ hx2
  have h31 := hTb.at hx2 hag
  have h32 := bst_ge hl hWb k _ (sAgainst way) hx2
  rw [show (31 : Int) + (k : Int) = 31 + (left - 1) by omega] at h31
  have h33 : 972 * (k : Int) ≤ 4000 := by omega
  refine wp_aload_n (pc' := 1) rfl rfl rfl (by decide) ?_
  refine wp_iload_n (pc' := 2) rfl rfl rfl ?_
  refine wp_iload (pc' := 4) rfl rfl rfl ?_
  refine wp_call (pc' := 7) rfl rfl rfl rfl rfl ⟨Nat.le_of_ble_eq_true rfl, Nat.le_of_ble_eq_true rfl, Nat.le_of_ble_eq_true rfl, Nat.le_of_ble_eq_true rfl, Nat.le_of_ble_eq_true rfl⟩ rfl (c_Land_beside hl hx) ?_
  intro v1 w9 hq1
  rw [hq1.1, hq1.2]
  clear hq1 v1 w9
  dsimp only [Option.toList, List.cons_append, List.nil_append, List.append_nil]
  refine wp_istore (pc' := 9) rfl rfl (Nat.le_of_ble_eq_true rfl) rfl ?_
  dsimp only [lset, lset2, List.set, List.getElem?_cons_zero, List.getElem?_cons_succ]
  refine wp_iload (pc' := 11) rfl rfl rfl ?_
  refine wp_iconst (a := -1) (pc' := 12) rfl rfl rfl ?_
  refine wp_icmp_eq (pc' := 15) (pt := 20) rfl rfl rfl (fun q_1 => ?_) (fun q_1 => ?_)
  · skip
    refine wp_iconst (a := 0) (pc' := 21) rfl rfl rfl ?_
    refine wp_ret rfl rfl rfl ?_
    first
    | (exfalso; omega)
    | exact ⟨by rw [h29, h31]; rfl, rfl⟩
  · skip
    refine wp_iload_n (pc' := 16) rfl rfl rfl ?_
    refine wp_iconst (a := 1) (pc' := 17) rfl rfl rfl ?_
    refine wp_icmp_ge (pc' := 20) (pt := 22) rfl rfl rfl (fun q_2 => ?_) (fun q_2 => ?_)
    · skip
      refine wp_aload_n (pc' := 23) rfl rfl rfl (by decide) ?_
      refine wp_getR (r' := 29) (ci := 5) (k0 := 0) (pc' := 26) rfl rfl (by decide) (by first | assumption | rfl) (hT.get 45 rfl) ?_
      refine wp_iload (pc' := 28) rfl rfl rfl ?_
      refine wp_iaload (pc' := 29) rfl rfl (by first | assumption | rfl) (by omega) ?_
      refine wp_aload_n (pc' := 30) rfl rfl rfl (by decide) ?_
      refine wp_getR (r' := 30) (ci := 5) (k0 := 1) (pc' := 33) rfl rfl (by decide) (by first | assumption | rfl) (hT.get 46 rfl) ?_
      refine wp_iload_n (pc' := 34) rfl rfl rfl ?_
      refine wp_iconst (a := 1) (pc' := 35) rfl rfl rfl ?_
      refine wp_isub (pc' := 36) rfl rfl (by first | exact w32_id (by omega) (by omega) | rfl) ?_
      refine wp_aaload (r' := 31 + (left - 1)) (pc' := 37) rfl rfl (by first | assumption | rfl) rfl (by omega) (hb.1) ?_
      refine wp_iload (pc' := 39) rfl rfl rfl ?_
      refine wp_iconst (a := 5) (pc' := 40) rfl rfl rfl ?_
      refine wp_imul (pc' := 41) rfl rfl (by first | exact w32_id (by omega) (by omega) | rfl) ?_
      refine wp_iload (pc' := 43) rfl rfl rfl ?_
      refine wp_call (pc' := 46) rfl rfl rfl rfl rfl ⟨Nat.le_of_ble_eq_true rfl, Nat.le_of_ble_eq_true rfl, Nat.le_of_ble_eq_true rfl, Nat.le_of_ble_eq_true rfl, Nat.le_of_ble_eq_true rfl⟩ rfl (c_Land_against hr hw) ?_
      intro v1 w9 hq1
      rw [hq1.1, hq1.2]
      clear hq1 v1 w9
      dsimp only [Option.toList, List.cons_append, List.nil_append, List.append_nil]
      refine wp_iadd (pc' := 47) rfl rfl (by first | exact w32_id (by omega) (by omega) | rfl) ?_
      refine wp_iaload (pc' := 48) rfl rfl (by first | assumption | rfl) (by omega) ?_
      refine wp_iadd (pc' := 49) rfl rfl (by first | exact w32_id (by omega) (by omega) | rfl) ?_
      refine wp_ret rfl rfl rfl ?_
      first
      | (exfalso; omega)
      | exact ⟨by rw [h29, h31]; rfl, rfl⟩
    · skip
      refine wp_iconst (a := 0) (pc' := 21) rfl rfl rfl ?_
      refine wp_ret rfl rfl rfl ?_
      first
      | (exfalso; omega)
      | exact ⟨by rw [h29, h31]; rfl, rfl⟩
set_option maxRecDepth 20000 in
set_option maxHeartbeats 4000000 in
theorem l_bestWay {w : Hp} {d : Nat} {left cell back : Int} {k : Nat} {W : Int → Int} (hT : Stc w) (hr : ROw w) (hl : CL (w 3 0) (w 3 1)) (hx : Cel (w 3 0) (w 3 1) cell) (hk : k ≤ 4) (hlf : left = (k : Int) + 1) (hW : ∀ x : Int, Cel (w 3 0) (w 3 1) x → w 29 x = W x) (hWb : ∀ x : Int, Cel (w 3 0) (w 3 1) x → 0 ≤ W x ∧ W x ≤ 972) (hTb : Tb w (w 3 0) (w 3 1) W k (5 * (w 3 0 * w 3 1))) : ∀ (j m : Nat) (b mo y : Int) (x8 : Option PV), y = (m : Int) + 1 → m + j = 4 → (b, mo) = bwS (w 3 0) (w 3 1) (bvl (w 3 0) (w 3 1) W k cell) cell back m → WP SH (d + 2) 56 16 [some (vR 28), some (vR 3), some (vI left), some (vI cell), some (vI back), some (vI b), some (vI mo), some (vI y), x8] [] w (fun v w' => v = some (vI (bwy (w 3 0) (w 3 1) W k cell back)) ∧ w' = w) := by
  intro k
  induction k with
  | zero =>
    intro m b mo y x8 hy hmj hb
    refine wp_iload (pc' := 18) rfl rfl rfl ?_
    refine wp_iconst (a := 4) (pc' := 19) rfl rfl rfl ?_
    refine wp_icmp_gt (pc' := 22) (pt := 69) rfl rfl rfl (fun q_1 => ?_) (fun q_1 => ?_)
    · skip
      refine wp_iload (pc' := 71) rfl rfl rfl ?_
      refine wp_ret rfl rfl rfl ?_
      obtain rfl : m = 4 := by omega
      exact ⟨by unfold bwy; rw [← hb], rfl⟩
    · skip
      exfalso; omega
  | succ k ih =>
    intro m b mo y x8 hy hmj hb
    refine wp_iload (pc' := 18) rfl rfl rfl ?_
    refine wp_iconst (a := 4) (pc' := 19) rfl rfl rfl ?_
    refine wp_icmp_gt (pc' := 22) (pt := 69) rfl rfl rfl (fun q_1 => ?_) (fun q_1 => ?_)
    · skip
      exfalso; omega
    · skip
      refine wp_aload_n (pc' := 23) rfl rfl rfl (by decide) ?_
      refine wp_iload_n (pc' := 24) rfl rfl rfl ?_
      refine wp_iload (pc' := 26) rfl rfl rfl ?_
      refine wp_iload (pc' := 28) rfl rfl rfl ?_
      refine wp_call (pc' := 31) rfl rfl rfl rfl rfl ⟨Nat.le_of_ble_eq_true rfl, Nat.le_of_ble_eq_true rfl, Nat.le_of_ble_eq_true rfl, Nat.le_of_ble_eq_true rfl, Nat.le_of_ble_eq_true rfl⟩ rfl (c_Land_canGo hl hx) ?_
      rintro v1 w9 ⟨hw9, ⟨hv1, hcg⟩ | ⟨hv1, hcg⟩⟩
      · skip
        rw [hv1, hw9]
        clear hv1 hw9 v1 w9
        dsimp only [Option.toList, List.cons_append, List.nil_append, List.append_nil]
        refine wp_if_ne (pc' := 34) (pt := 37) rfl rfl rfl (fun q_2 => ?_) (fun q_2 => absurd (by decide) q_2)
        refine wp_aload_n (pc' := 38) rfl rfl rfl (by decide) ?_
        refine wp_aload_n (pc' := 39) rfl rfl rfl (by decide) ?_
        refine wp_iload_n (pc' := 40) rfl rfl rfl ?_
        refine wp_iload_n (pc' := 41) rfl rfl rfl ?_
        refine wp_iload (pc' := 43) rfl rfl rfl ?_
        refine wp_call (pc' := 46) rfl rfl rfl rfl rfl ⟨Nat.le_of_ble_eq_true rfl, Nat.le_of_ble_eq_true rfl, Nat.le_of_ble_eq_true rfl, Nat.le_of_ble_eq_true rfl, Nat.le_of_ble_eq_true rfl⟩ rfl (c_Plans_gainedBy hT hr hl hx hk hlf hW hWb hTb (by omega) (by omega)) ?_
        intro v1 w9 hq1
        rw [hq1.1, hq1.2]
        clear hq1 v1 w9
        dsimp only [Option.toList, List.cons_append, List.nil_append, List.append_nil]
        refine wp_istore (pc' := 48) rfl rfl (Nat.le_of_ble_eq_true rfl) rfl ?_
        dsimp only [lset, lset2, List.set, List.getElem?_cons_zero, List.getElem?_cons_succ]
        refine wp_iload (pc' := 50) rfl rfl rfl ?_
        refine wp_iload (pc' := 52) rfl rfl rfl ?_
        refine wp_icmp_le (pc' := 55) (pt := 63) rfl rfl rfl (fun q_3 => ?_) (fun q_3 => ?_)
        · skip
          refine wp_iinc (pc' := 66) rfl rfl rfl (inc_id (by omega) (by omega)) rfl ?_
          dsimp only [lset, lset2, List.set, List.getElem?_cons_zero, List.getElem?_cons_succ]
          refine wp_goto (pc' := 16) rfl rfl ?_
          refine ih (m + 1) _ _ _ _ (by omega) (by omega) ?_
          rw [bwS, ← hb]
          dsimp only
          subst hy
          first
          | (rw [if_pos hcg, if_pos (by omega)])
          | (rw [if_pos hcg, if_neg (by omega)])
          | (rw [if_neg hcg])
        · skip
          refine wp_iload (pc' := 57) rfl rfl rfl ?_
          refine wp_istore (pc' := 59) rfl rfl (Nat.le_of_ble_eq_true rfl) rfl ?_
          dsimp only [lset, lset2, List.set, List.getElem?_cons_zero, List.getElem?_cons_succ]
          refine wp_iload (pc' := 61) rfl rfl rfl ?_
          refine wp_istore (pc' := 63) rfl rfl (Nat.le_of_ble_eq_true rfl) rfl ?_
          dsimp only [lset, lset2, List.set, List.getElem?_cons_zero, List.getElem?_cons_succ]
          refine wp_iinc (pc' := 66) rfl rfl rfl (inc_id (by omega) (by omega)) rfl ?_
          dsimp only [lset, lset2, List.set, List.getElem?_cons_zero, List.getElem?_cons_succ]
          refine wp_goto (pc' := 16) rfl rfl ?_
          refine ih (m + 1) _ _ _ _ (by omega) (by omega) ?_
          rw [bwS, ← hb]
          dsimp only
          subst hy
          first
          | (rw [if_pos hcg, if_pos (by omega)])
          | (rw [if_pos hcg, if_neg (by omega)])
          | (rw [if_neg hcg])
      · skip
        rw [hv1, hw9]
        clear hv1 hw9 v1 w9
        dsimp only [Option.toList, List.cons_append, List.nil_append, List.append_nil]
        refine wp_if_ne (pc' := 34) (pt := 37) rfl rfl rfl (fun q_4 => absurd q_4 (by decide)) (fun q_4 => ?_)
        refine wp_goto (pc' := 63) rfl rfl ?_
        refine wp_iinc (pc' := 66) rfl rfl rfl (inc_id (by omega) (by omega)) rfl ?_
        dsimp only [lset, lset2, List.set, List.getElem?_cons_zero, List.getElem?_cons_succ]
        refine wp_goto (pc' := 16) rfl rfl ?_
        refine ih (m + 1) _ _ _ _ (by omega) (by omega) ?_
        rw [bwS, ← hb]
        dsimp only
        subst hy
        first
        | (rw [if_pos hcg, if_pos (by omega)])
        | (rw [if_pos hcg, if_neg (by omega)])
        | (rw [if_neg hcg])
set_option maxRecDepth 20000 in
set_option maxHeartbeats 4000000 in
theorem c_Plans_bestWay {w : Hp} {d : Nat} {left cell back : Int} {k : Nat} {W : Int → Int} (hT : Stc w) (hr : ROw w) (hl : CL (w 3 0) (w 3 1)) (hx : Cel (w 3 0) (w 3 1) cell) (hk : k ≤ 4) (hlf : left = (k : Int) + 1) (hW : ∀ x : Int, Cel (w 3 0) (w 3 1) x → w 29 x = W x) (hWb : ∀ x : Int, Cel (w 3 0) (w 3 1) x → 0 ≤ W x ∧ W x ≤ 972) (hTb : Tb w (w 3 0) (w 3 1) W k (5 * (w 3 0 * w 3 1))) : WP SH (d + 2) 56 0 [some (vR 28), some (vR 3), some (vI left), some (vI cell), some (vI back), none, none, none, none] [] w (fun v w' => v = some (vI (bwy (w 3 0) (w 3 1) W k cell back)) ∧ w' = w) := by
  refine wp_iconst (a := 0) (pc' := 1) rfl rfl rfl ?_
  refine wp_istore (pc' := 3) rfl rfl (Nat.le_of_ble_eq_true rfl) rfl ?_
  dsimp only [lset, lset2, List.set, List.getElem?_cons_zero, List.getElem?_cons_succ]
  refine wp_aload_n (pc' := 4) rfl rfl rfl (by decide) ?_
  refine wp_aload_n (pc' := 5) rfl rfl rfl (by decide) ?_
  refine wp_iload_n (pc' := 6) rfl rfl rfl ?_
  refine wp_iload_n (pc' := 7) rfl rfl rfl ?_
  refine wp_iconst (a := 0) (pc' := 8) rfl rfl rfl ?_
  refine wp_call (pc' := 11) rfl rfl rfl rfl rfl ⟨Nat.le_of_ble_eq_true rfl, Nat.le_of_ble_eq_true rfl, Nat.le_of_ble_eq_true rfl, Nat.le_of_ble_eq_true rfl, Nat.le_of_ble_eq_true rfl⟩ rfl (c_Plans_gainedBy hT hr hl hx hk hlf hW hWb hTb (by omega) (by rw [beside0]; have := hx.1; omega)) ?_
  intro v1 w9 hq1
  rw [hq1.1, hq1.2]
  clear hq1 v1 w9
  dsimp only [Option.toList, List.cons_append, List.nil_append, List.append_nil]
  refine wp_istore (pc' := 13) rfl rfl (Nat.le_of_ble_eq_true rfl) rfl ?_
  dsimp only [lset, lset2, List.set, List.getElem?_cons_zero, List.getElem?_cons_succ]
  refine wp_iconst (a := 1) (pc' := 14) rfl rfl rfl ?_
  refine wp_istore (pc' := 16) rfl rfl (Nat.le_of_ble_eq_true rfl) rfl ?_
  dsimp only [lset, lset2, List.set, List.getElem?_cons_zero, List.getElem?_cons_succ]
  exact l_bestWay hT hr hl hx hk hlf hW hWb hTb 4 0 _ _ _ _ rfl rfl rfl
set_option maxRecDepth 20000 in
set_option maxHeartbeats 4000000 in
theorem l_weigh {w : Hp} {d : Nat} (hT0 : Stc w) (hl : LnOK w) : ∀ (k : Nat) (y : Int) (w1 : Hp), 0 ≤ y → y + k = w 3 0 * w 3 1 → Same w w1 [29] → (∀ j : Int, 0 ≤ j → j < y → w1 29 j = (fun x => sumI (fWorth (w 3 0) (w 4) (w 5) (w 6) x) (w 3 2)) j) → WP SH (d + 3) 55 2 [some (vR 28), some (vR 3), some (vI y)] [] w1 (fun v w' => v = none ∧ Same w w' [29] ∧ ∀ j : Int, Cel (w 3 0) (w 3 1) j → w' 29 j = (fun x => sumI (fWorth (w 3 0) (w 4) (w 5) (w 6) x) (w 3 2)) j) := by
  intro k
  induction k with
  | zero =>
    intro y w1 h0 hyk hS hz
    have hT := hT0.same hS (by decide)
    have e3 : w1 3 = w 3 := hS 3 (by decide)
    have e4 : w1 4 = w 4 := hS 4 (by decide)
    have e5 : w1 5 = w 5 := hS 5 (by decide)
    have e6 : w1 6 = w 6 := hS 6 (by decide)
    have hl1 : LnOK w1 := hl.same hS (by decide)
    have hml := hl.1.mul
    have hml0 : w1 3 0 * w1 3 1 = w 3 0 * w 3 1 := by rw [e3]
    refine wp_iload_n (pc' := 3) rfl rfl rfl ?_
    refine wp_aload_n (pc' := 4) rfl rfl rfl (by decide) ?_
    refine wp_call (pc' := 7) rfl rfl rfl rfl rfl ⟨Nat.le_of_ble_eq_true rfl, Nat.le_of_ble_eq_true rfl, Nat.le_of_ble_eq_true rfl, Nat.le_of_ble_eq_true rfl, Nat.le_of_ble_eq_true rfl⟩ rfl (c_Land_cells (by omega)) ?_
    intro v1 w9 hq1
    rw [hq1.1, hq1.2]
    clear hq1 v1 w9
    dsimp only [Option.toList, List.cons_append, List.nil_append, List.append_nil]
    refine wp_icmp_ge (pc' := 10) (pt := 27) rfl rfl rfl (fun q_1 => ?_) (fun q_1 => ?_)
    · skip
      refine wp_ret rfl rfl rfl ?_
      exact ⟨rfl, hS, fun j hj => hz j hj.1 (by have := hj.2; omega)⟩
    · skip
      exfalso; omega
  | succ k ih =>
    intro y w1 h0 hyk hS hz
    have hT := hT0.same hS (by decide)
    have e3 : w1 3 = w 3 := hS 3 (by decide)
    have e4 : w1 4 = w 4 := hS 4 (by decide)
    have e5 : w1 5 = w 5 := hS 5 (by decide)
    have e6 : w1 6 = w 6 := hS 6 (by decide)
    have hl1 : LnOK w1 := hl.same hS (by decide)
    have hml := hl.1.mul
    have hml0 : w1 3 0 * w1 3 1 = w 3 0 * w 3 1 := by rw [e3]
    refine wp_iload_n (pc' := 3) rfl rfl rfl ?_
    refine wp_aload_n (pc' := 4) rfl rfl rfl (by decide) ?_
    refine wp_call (pc' := 7) rfl rfl rfl rfl rfl ⟨Nat.le_of_ble_eq_true rfl, Nat.le_of_ble_eq_true rfl, Nat.le_of_ble_eq_true rfl, Nat.le_of_ble_eq_true rfl, Nat.le_of_ble_eq_true rfl⟩ rfl (c_Land_cells (by omega)) ?_
    intro v1 w9 hq1
    rw [hq1.1, hq1.2]
    clear hq1 v1 w9
    dsimp only [Option.toList, List.cons_append, List.nil_append, List.append_nil]
    refine wp_icmp_ge (pc' := 10) (pt := 27) rfl rfl rfl (fun q_1 => ?_) (fun q_1 => ?_)
    · skip
      exfalso; omega
    · skip
      refine wp_aload_n (pc' := 11) rfl rfl rfl (by decide) ?_
      refine wp_getR (r' := 29) (ci := 5) (k0 := 0) (pc' := 14) rfl rfl (by decide) (by first | assumption | rfl) (hT.get 45 rfl) ?_
      refine wp_iload_n (pc' := 15) rfl rfl rfl ?_
      refine wp_aload_n (pc' := 16) rfl rfl rfl (by decide) ?_
      refine wp_iload_n (pc' := 17) rfl rfl rfl ?_
      refine wp_call (pc' := 20) rfl rfl rfl rfl rfl ⟨Nat.le_of_ble_eq_true rfl, Nat.le_of_ble_eq_true rfl, Nat.le_of_ble_eq_true rfl, Nat.le_of_ble_eq_true rfl, Nat.le_of_ble_eq_true rfl⟩ rfl (c_Land_worth hl1 hT ⟨h0, by omega⟩) ?_
      intro v1 w9 hq1
      rw [hq1.1, hq1.2]
      clear hq1 v1 w9
      dsimp only [Option.toList, List.cons_append, List.nil_append, List.append_nil]
      refine wp_iastore (pc' := 21) rfl rfl (by first | assumption | rfl) (by omega) ?_
      refine wp_iinc (pc' := 24) rfl rfl rfl (inc_id (by omega) (by omega)) rfl ?_
      dsimp only [lset, lset2, List.set, List.getElem?_cons_zero, List.getElem?_cons_succ]
      refine wp_goto (pc' := 2) rfl rfl ?_
      refine ih (y + 1) _ (by omega) (by omega) (hS.put (by decide)) (fun j j0 j1 => ?_)
      by_cases hj : j = y
      · rw [hj, up_eq, e3, e4, e5, e6]
      · rw [up_at hj]
        exact hz j j0 (by omega)
set_option maxRecDepth 20000 in
set_option maxHeartbeats 4000000 in
theorem c_Plans_weighCells {w : Hp} {d : Nat} (hT : Stc w) (hl : LnOK w) : WP SH (d + 3) 55 0 [some (vR 28), some (vR 3), none] [] w (fun v w' => v = none ∧ Same w w' [29] ∧ ∀ j : Int, Cel (w 3 0) (w 3 1) j → w' 29 j = (fun x => sumI (fWorth (w 3 0) (w 4) (w 5) (w 6) x) (w 3 2)) j) := by
  refine wp_iconst (a := 0) (pc' := 1) rfl rfl rfl ?_
  refine wp_istore_n (pc' := 2) rfl rfl (Nat.le_of_ble_eq_true rfl) rfl ?_
  dsimp only [lset, lset2, List.set, List.getElem?_cons_zero, List.getElem?_cons_succ]
  have hml := hl.1.mul
  exact l_weigh hT hl (w 3 0 * w 3 1).toNat 0 w (by decide) (by omega) (Same.rf _ _) (fun j a b => absurd b (by omega))
