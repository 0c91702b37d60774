/-! a deed that moves the mountain, on both sides: the invariant behind it -/
def DF (m : Int) : List (Int × Int) := [(7, m), (8, m), (9, m), (10, m), (11, m), (3, 3), (3, 4), (3, 5), (3, 6), (100, 23), (109, 0), (109, 1), (109, 2)]
def DL : List Int := [24, 25, 113, 114]
theorem Inv.deed {w w' : Hp} (h : Inv w) (hn : w 3 2 ≠ 0) (hm : w 3 6 < 40) (hs : SameF w w' DL (DF (w 3 6)))
    (hx : w' 7 (w 3 6) = w 3 3 ∧ w' 8 (w 3 6) = w 3 4 ∧ w' 9 (w 3 6) = w 3 5 ∧ w' 10 (w 3 6) = -1 ∧ w' 3 6 = w 3 6 + 1)
    (hg : (∀ j : Int, 0 ≤ j → j < 9 → w' 114 (9 * w 3 6 + j) = w 109 j) ∧ (∀ z : Int, z < 9 * w 3 6 → w' 114 z = w 114 z) ∧ w' 100 23 = w 3 6 + 1)
    (he : w' 3 3 = w' 109 0 ∧ w' 3 4 = w' 109 1 ∧ w' 3 5 = w' 109 2) (hv : Cel (w 3 0) (w 3 1) (w' 109 0) ∧ (0 ≤ w' 109 1 ∧ w' 109 1 ≤ 4) ∧ (0 ≤ w' 109 2 ∧ w' 109 2 ≤ w 3 6 + 1)) : Inv w' := by
  obtain ⟨hn25, b11, b12, b10, hn6, hem, m0, m1, m2, m23, hyr, hdd, hpre⟩ := h.base
  have hpr := hpre hn
  obtain ⟨h1, h2, h3, h4, h5, h6, h7, h8⟩ := h
  have hc : ∀ q : Int, q ∉ ([24, 25, 113, 114, 7, 8, 9, 10, 11, 3, 100, 109] : List Int) → w' q = w q := fun q hq => hs.cell q (by simp [DL]; simp at hq; omega) (fun z hz => by
    simp [DF] at hz
    simp at hq
    rcases hz with rfl | rfl | rfl | rfl | rfl | rfl | rfl | rfl | rfl | rfl | rfl | rfl | rfl <;> (dsimp only; omega))
  have hf : ∀ k : Int, k ≠ 23 → w' 100 k = w 100 k := fun k hk => hs 100 k (by decide) (by simp [DF]; omega)
  have hk : ∀ k : Int, 3 ≤ k → w' 109 k = w 109 k := fun k hk => hs 109 k (by decide) (by simp [DF]; omega)
  have h3f : ∀ k : Int, k < 3 → w' 3 k = w 3 k := fun k hk => hs 3 k (by decide) (by simp [DF]; omega)
  have hM' : MdOK w' := by
    obtain ⟨q1, q2, q3⟩ := hpr.2.1
    unfold MdOK
    rw [hf 10 (by decide), hf 11 (by decide), hf 12 (by decide), hc 107 (by simp), hc 108 (by simp)]
    exact ⟨q1, q2, fun i a b => by rw [hk _ (by omega)]; exact q3 i a b⟩
  have hLR : LR w 3 (w 109) (w 114) (w 100 23) := by
    rcases h7 with hE | hE
    · exact absurd hE.2.2.1 hn
    · exact hE.2
  have hold : ∀ q : Int, 3 + 4 ≤ q → q ≤ 3 + 8 → ∀ e : Int, 0 ≤ e → e < w 100 23 → w' q e = w q e := fun q a b e c d => hs q e (by simp [DL]; omega) (by simp [DF]; omega)
  have hLR' : LR w' 3 (w' 109) (w' 114) (w 100 23 + 1) := by
    refine hLR.deed (by omega) ⟨hf 10 (by decide), hf 11 (by decide), hf 12 (by decide), hc 107 (by simp), hc 108 (by simp)⟩ ⟨h3f 0 (by decide), h3f 1 (by decide), h3f 2 (by decide), he.1, he.2.1, he.2.2, by rw [m23]; exact hx.2.2.2.2⟩ (by rw [b11, b12, m23]; exact hv) (fun i a b => ?_) hold ?_ (fun i a b => ?_) ?_ (by omega)
    · have hi := hpr.2.2.2.2 i a (by omega)
      have hi2 := hpr.2.1.2.2 i a b
      refine ⟨by rw [show (3 : Int) + 1 = 4 from rfl, hc 4 (by simp)], by rw [show (3 : Int) + 2 = 5 from rfl, hc 5 (by simp), hk _ (by omega)]; exact hi.2.1.symm, by rw [show (3 : Int) + 3 = 6 from rfl, hc 6 (by simp)], by rw [hk _ (by omega)]; exact hi2.2.1⟩
    · rw [m23, m0, m1, m2]
      exact ⟨hx.1, hx.2.1, hx.2.2.1⟩
    · rw [m23, show (3 : Int) + 7 = 10 from rfl, hx.2.2.2.1, if_neg (by omega), hk _ (by omega)]
    · rw [m23]
      exact ⟨hg.2.1, hg.1⟩
  refine ⟨fun q hq => ?_, ?_, ?_, ?_, ?_, ?_, Or.inr ⟨hM', ?_⟩, fun k a b => ?_⟩
  · have hq1 := h1 q hq
    have hz : refTab.all (fun q => decide (q.1 ∉ DL ∧ q.1 ≠ 7 ∧ q.1 ≠ 8 ∧ q.1 ≠ 9 ∧ q.1 ≠ 10 ∧ q.1 ≠ 11 ∧ q.1 ≠ 109 ∧ (q.1 = 3 → 7 ≤ q.2.1) ∧ (q.1 = 100 → q.2.1 ≠ 23))) = true := by decide
    have h9 := of_decide_eq_true (List.all_eq_true.mp hz q hq)
    rw [hs q.1 q.2.1 h9.1 (by simp [DF, Prod.ext_iff]; omega)]
    exact hq1
  · unfold ROw at h2 ⊢
    rw [hc (-3) (by simp), hc (-4) (by simp), hc (-5) (by simp)]
    exact h2
  · unfold IFd at h3 ⊢
    rw [hc 0 (by simp), hf 0 (by decide), hf 3 (by decide), hf 4 (by decide), hc 52 (by simp), hc 101 (by simp), hc 50 (by simp), hc 31 (by simp)]
    exact h3
  · unfold ITo at h4 ⊢
    rw [hc 0 (by simp), hf 2 (by decide)]
    exact h4
  · intro q a b
    rw [hc (53 + 2 * q) (by simp; omega), hc (54 + 2 * q) (by simp; omega), hc 102 (by simp), hc 103 (by simp)]
    exact h5 q a b
  · intro q a b
    rw [hc (65 + 2 * q) (by simp; omega), hc (66 + 2 * q) (by simp; omega), hc 105 (by simp), hc 106 (by simp)]
    exact h6 q a b
  · rw [hg.2.2, ← m23]
    exact hLR'
  · rw [hc 115 (by simp), hc 116 (by simp), hc 117 (by simp), hc 118 (by simp), hc (73 + 9 * k) (by simp; omega)]
    rcases h8 k a b with z | ⟨z1, z2, z3⟩
    · exact Or.inl z
    · exact Or.inr ⟨z1, hM', z3.congr (fun q c d => hc q (by simp; omega)) ⟨hf 10 (by decide), hf 11 (by decide), hf 12 (by decide)⟩ (hc 107 (by simp)) (hc 108 (by simp))⟩
