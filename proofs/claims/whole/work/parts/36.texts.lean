/-! texts -/
/-- what the rows' calls change -/
theorem Inv.texts {w w' : Hp} (h : Inv w) {r : Int} (h0 : 0 ≤ r) (h6 : r < 4) (hs : SameF w w' [66 + 2 * r, 105, 106] [(65 + 2 * r, 1)]) (hr : w' (65 + 2 * r) 1 = w' 105 r ∧ (-1 ≤ w' 105 r ∧ w' 105 r ≤ 60) ∧ ∀ j : Int, 0 ≤ j → j < w' 105 r → w' (66 + 2 * r) j = w' 106 (60 * r + j) ∧ (-128 ≤ w' 106 (60 * r + j) ∧ w' 106 (60 * r + j) ≤ 127)) (ho : ∀ q : Int, 0 ≤ q → q < 4 → q ≠ r → w' 105 q = w 105 q ∧ ∀ j : Int, 0 ≤ j → j < 60 → w' 106 (60 * q + j) = w 106 (60 * q + j)) : Inv w' := by
  obtain ⟨h1, h2, h3, h4, h5, h6', h7, h8⟩ := h
  have hc : ∀ q : Int, q ≠ 65 + 2 * r → q ≠ 66 + 2 * r → q ≠ 105 → q ≠ 106 → w' q = w q := fun q a b c e => hs.cell q (by simp; omega) (fun z hz => by simp at hz; subst hz; dsimp only; omega)
  have hls : LandSame w w' := ⟨fun q a b => hc q (by omega) (by omega) (by omega) (by omega), fun q a b => hc q (by omega) (by omega) (by omega) (by omega), by rw [hc 100 (by omega) (by omega) (by omega) (by omega)]; exact ⟨rfl, rfl, rfl⟩, by rw [hc 100 (by omega) (by omega) (by omega) (by omega)], hc 107 (by omega) (by omega) (by omega) (by omega), hc 108 (by omega) (by omega) (by omega) (by omega), hc 109 (by omega) (by omega) (by omega) (by omega), hc 114 (by omega) (by omega) (by omega) (by omega), hc 115 (by omega) (by omega) (by omega) (by omega), hc 116 (by omega) (by omega) (by omega) (by omega), hc 117 (by omega) (by omega) (by omega) (by omega), hc 118 (by omega) (by omega) (by omega) (by omega)⟩
  refine ⟨fun q hq => ?_, ?_, ?_, ?_, ?_, ?_, h7.ls hls, h8.ls hls⟩
  · have hq1 := h1 q hq
    have hz : refTab.all (fun q => decide (((q.1 < 65 ∨ 72 < q.1) ∨ q.2.1 = 0) ∧ q.1 ≠ 105 ∧ q.1 ≠ 106 ∧ (q.1 < 65 ∨ 72 < q.1 ∨ q.1 % 2 = 1))) = true := by decide
    have h9 := of_decide_eq_true (List.all_eq_true.mp hz q hq)
    rw [hs q.1 q.2.1 (by simp; omega) (by simp [Prod.ext_iff]; omega)]
    exact hq1
  · unfold ROw at h2 ⊢
    rw [hc (-3) (by omega) (by omega) (by omega) (by omega), hc (-4) (by omega) (by omega) (by omega) (by omega), hc (-5) (by omega) (by omega) (by omega) (by omega)]
    exact h2
  · unfold IFd at h3 ⊢
    rw [hc 0 (by omega) (by omega) (by omega) (by omega), hc 100 (by omega) (by omega) (by omega) (by omega), hc 52 (by omega) (by omega) (by omega) (by omega), hc 101 (by omega) (by omega) (by omega) (by omega), hc 50 (by omega) (by omega) (by omega) (by omega), hc 31 (by omega) (by omega) (by omega) (by omega)]
    exact h3
  · unfold ITo at h4 ⊢
    rw [hc 0 (by omega) (by omega) (by omega) (by omega), hc 100 (by omega) (by omega) (by omega) (by omega)]
    exact h4
  · intro q hq0 hq6
    rw [hc (53 + 2 * q) (by omega) (by omega) (by omega) (by omega), hc (54 + 2 * q) (by omega) (by omega) (by omega) (by omega), hc 102 (by omega) (by omega) (by omega) (by omega), hc 103 (by omega) (by omega) (by omega) (by omega)]
    exact h5 q hq0 hq6
  · intro q hq0 hq6
    by_cases hq : q = r
    · subst hq
      exact hr
    · obtain ⟨a1, a2⟩ := ho q hq0 hq6 hq
      obtain ⟨b1, b2, b3⟩ := h6' q hq0 hq6
      rw [hc (65 + 2 * q) (by omega) (by omega) (by omega) (by omega), hc (66 + 2 * q) (by omega) (by omega) (by omega) (by omega), a1]
      exact ⟨b1, b2, fun j x y => by rw [a2 j x (by omega)]; exact b3 j x y⟩
theorem Stc.text {w w' : Hp} {r : Int} (h : Stc w) (h0 : 0 ≤ r) (h6 : r < 4) (hs : SameF w w' [66 + 2 * r] [(65 + 2 * r, 1)]) : Stc w' := by
  have : r = 0 ∨ r = 1 ∨ r = 2 ∨ r = 3 := by omega
  rcases this with rfl | rfl | rfl | rfl <;> exact h.sameF hs (by decide)
theorem iB_in (x : Int) : -128 ≤ iB x ∧ iB x ≤ 127 := by
  unfold iB
  have h1 := Int.le_bmod (x := x) (m := 256) (by decide)
  have h2 := Int.bmod_lt (x := x) (m := 256) (by decide)
  omega
theorem iB_iB (x : Int) : iB (iB x) = iB x := by
  unfold iB
  exact Int.bmod_bmod
