/-! fault -/
theorem bA_congr {T T' : Int → Int} {z p : Int} (h0 : 0 ≤ p) (h : ∀ j : Int, 0 ≤ j → j < z → T j = T' j) : bA T z p = bA T' z p := by
  unfold bA
  split
  · exact h p h0 (by assumption)
  · rfl
theorem hE_congr {T T' : Int → Int} {z q : Int} (h0 : 0 ≤ q) (h : ∀ j : Int, 0 ≤ j → j < z → T j = T' j) : hE T z q = hE T' z q := by
  unfold hE
  rw [bA_congr h0 h, fg_congr (p := q + 1) (by omega) h, fg_congr (p := q + 2) (by omega) h, fg_congr (p := q + 3) (by omega) h, fg_congr (p := q + 4) (by omega) h]
theorem oE_congr {T T' : Int → Int} {z c l p : Int} (h0 : 0 ≤ p) (h : ∀ j : Int, 0 ≤ j → j < z → T j = T' j) : oE T z c l p = oE T' z c l p := by
  unfold oE
  rw [bA_congr h0 h, fg_congr (p := p + 1) (by omega) h, fg_congr (p := p + 2) (by omega) h, fg_congr (p := p + 3) (by omega) h]
theorem rn_congr {T T' : Int → Int} {z c l : Int} (h : ∀ j : Int, 0 ≤ j → j < z → T j = T' j) : ∀ (k : Nat) (p n : Int) (D : Int → Int × Int × Int × Int), 0 ≤ p → rn T z c l k p n D = rn T' z c l k p n D := by
  intro k
  induction k with
  | zero => intro p n D _; rfl
  | succ k ih =>
    intro p n D h0
    unfold rn
    rw [bA_congr h0 h, oE_congr h0 h, ih (p + 1) n D (by omega), ih (p + 4) (n + 1) _ (by omega), fg_congr (p := p + 1) (by omega) h, fg_congr (p := p + 2) (by omega) h, fg_congr (p := p + 3) (by omega) h]
theorem SkP.congr {T T' : Int → Int} {z p q : Int} (h0 : 0 ≤ p) (h : ∀ j : Int, 0 ≤ j → j < z → T j = T' j) (hs : SkP T z p q) : SkP T' z p q := by
  obtain ⟨a, b, c, e⟩ := hs
  refine ⟨a, b, fun i i0 i1 => by rw [← h i (by omega) (by omega)]; exact c i i0 i1, ?_⟩
  rcases e with e | e
  · exact Or.inl e
  · exact Or.inr ⟨e.1, by rw [← h q (by omega) e.1]; exact e.2⟩
