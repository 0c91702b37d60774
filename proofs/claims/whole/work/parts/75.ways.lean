/-! ways round: what both sides' steps are -/
theorem beside_sym_tab : ∀ c l : Fin 3, ∀ x : Fin 25, ∀ w : Fin 4, (x.val : Int) < ((c.val : Int) + 3) * ((l.val : Int) + 3) → sBeside ((c.val : Int) + 3) ((l.val : Int) + 3) (x.val : Int) ((w.val : Int) + 1) ≠ -1 → sBeside ((c.val : Int) + 3) ((l.val : Int) + 3) (sBeside ((c.val : Int) + 3) ((l.val : Int) + 3) (x.val : Int) ((w.val : Int) + 1)) (sAgainst ((w.val : Int) + 1)) = (x.val : Int) ∧ sBeside ((c.val : Int) + 3) ((l.val : Int) + 3) (x.val : Int) ((w.val : Int) + 1) ≠ (x.val : Int) := by decide +kernel
theorem beside_sym {c l x w : Int} (hc : CL c l) (hx : Cel c l x) (hw : 1 ≤ w ∧ w ≤ 4) (h : sBeside c l x w ≠ -1) : sBeside c l (sBeside c l x w) (sAgainst w) = x ∧ sBeside c l x w ≠ x := by
  have hm := hc.mul
  obtain ⟨h1, h2, h3, h4⟩ := hc
  obtain ⟨h5, h6⟩ := hx
  have hh := beside_sym_tab ⟨(c - 3).toNat, by omega⟩ ⟨(l - 3).toNat, by omega⟩ ⟨x.toNat, by omega⟩ ⟨(w - 1).toNat, by omega⟩
  dsimp only at hh
  rw [show (((c - 3).toNat : Nat) : Int) + 3 = c by omega, show (((l - 3).toNat : Nat) : Int) + 3 = l by omega, show ((x.toNat : Nat) : Int) = x by omega, show (((w - 1).toNat : Nat) : Int) + 1 = w by omega] at hh
  exact hh h6 h
theorem against_14 {w : Int} (h : 1 ≤ w ∧ w ≤ 4) : 1 ≤ sAgainst w ∧ sAgainst w ≤ 4 := by
  unfold sAgainst
  (repeat' split) <;> omega
/-- a cell that may be gone on: mt the mountain, cl the closed one -/
def Opn (mt cl x : Int) : Prop := x ≠ mt ∧ x ≠ cl
/-- y lies beside x -/
def Nb (c l x y : Int) : Prop := ∃ w : Int, 1 ≤ w ∧ w ≤ 4 ∧ y = sBeside c l x w ∧ y ≠ -1
theorem Nb.sym {c l x y : Int} (hc : CL c l) (hx : Cel c l x) (h : Nb c l x y) : Nb c l y x ∧ Cel c l y ∧ y ≠ x := by
  obtain ⟨w, h1, h2, h3, h4⟩ := h
  subst h3
  have hs := beside_sym hc hx ⟨h1, h2⟩ h4
  have ha := against_14 ⟨h1, h2⟩
  have := hx.1
  exact ⟨⟨sAgainst w, ha.1, ha.2, hs.1.symm, by omega⟩, beside_cel hc hx h4, hs.2⟩
/-- steps to `to`, -1 where none lead there -/
def SP (c l mt cl to : Int) (A : Int → Int) : Prop := (∀ x : Int, Cel c l x → -1 ≤ A x) ∧ A to = 0 ∧ (∀ x : Int, Cel c l x → A x = 0 → x = to) ∧ (∀ x y : Int, Cel c l x → Opn mt cl x → Nb c l x y → 0 ≤ A y → 0 ≤ A x ∧ A x ≤ A y + 1) ∧ (∀ x : Int, Cel c l x → 0 < A x → Opn mt cl x ∧ ∃ y : Int, Nb c l x y ∧ 0 ≤ A y ∧ A y < A x)
theorem sp_le {c l mt cl to : Int} {A B : Int → Int} (hc : CL c l) (hA : SP c l mt cl to A) (hB : SP c l mt cl to B) : ∀ (n : Nat) (x : Int), Cel c l x → 0 ≤ A x → A x ≤ n → 0 ≤ B x ∧ B x ≤ A x := by
  intro n
  induction n with
  | zero =>
    intro x hx h0 h1
    have := hA.2.2.1 x hx (by omega)
    subst this
    rw [hB.2.1]
    omega
  | succ n ih =>
    intro x hx h0 h1
    by_cases hz : A x = 0
    · have := hA.2.2.1 x hx hz
      subst this
      rw [hB.2.1]
      omega
    · obtain ⟨ho, y, hy, hy0, hy1⟩ := hA.2.2.2.2 x hx (by omega)
      have hyc := (hy.sym hc hx).2.1
      have h2 := ih y hyc hy0 (by omega)
      have h3 := hB.2.2.2.1 x y hx ho hy h2.1
      omega
theorem sp_eq {c l mt cl to : Int} {A B : Int → Int} (hc : CL c l) (hA : SP c l mt cl to A) (hB : SP c l mt cl to B) {x : Int} (hx : Cel c l x) : A x = B x := by
  have ha := hA.1 x hx
  have hb := hB.1 x hx
  by_cases h : 0 ≤ A x
  · have h1 := sp_le hc hA hB (A x).toNat x hx h (by omega)
    have h2 := sp_le hc hB hA (B x).toNat x hx h1.1 (by omega)
    omega
  · by_cases h2 : 0 ≤ B x
    · have h3 := sp_le hc hB hA (B x).toNat x hx h2 (by omega)
      omega
    · omega
/-- the search in breadth: head h, tail t, ways 1 .. m of the head done -/
def BI (c l mt cl to : Int) (A Q : Int → Int) (h t : Int) (m : Nat) : Prop :=
  ((∀ x : Int, Cel c l x → -1 ≤ A x) ∧ A to = 0 ∧ (∀ x : Int, Cel c l x → A x = 0 → x = to) ∧ (∀ x : Int, Cel c l x → 0 < A x → Opn mt cl x ∧ ∃ y : Int, Nb c l x y ∧ 0 ≤ A y ∧ A y < A x))
  ∧ (0 ≤ h ∧ h ≤ t ∧ t + cntN A (c * l).toNat = c * l) ∧ (∀ i : Int, 0 ≤ i → i < t → Cel c l (Q i) ∧ 0 ≤ A (Q i) ∧ (h < t → A (Q i) ≤ A (Q h) + 1) ∧ (∀ j : Int, i ≤ j → j < t → A (Q i) ≤ A (Q j)))
  ∧ (∀ x : Int, Cel c l x → 0 ≤ A x → ∃ i : Int, 0 ≤ i ∧ i < t ∧ Q i = x)
  ∧ (∀ i w : Int, 0 ≤ i → (i < h ∨ (i = h ∧ h < t ∧ w ≤ m)) → 1 ≤ w → w ≤ 4 → sBeside c l (Q i) w ≠ -1 → Opn mt cl (sBeside c l (Q i) w) → 0 ≤ A (sBeside c l (Q i) w) ∧ A (sBeside c l (Q i) w) ≤ A (Q i) + 1)
theorem BI.done {c l mt cl to : Int} {A Q : Int → Int} {h t : Int} {m : Nat} (hc : CL c l) (hB : BI c l mt cl to A Q h t m) (hht : h = t) : SP c l mt cl to A := by
  obtain ⟨⟨a1, a2, a3, a4⟩, -, b3, b4, b5⟩ := hB
  refine ⟨a1, a2, a3, fun x y hx ho hn hy => ?_, a4⟩
  obtain ⟨hn2, hyc, -⟩ := hn.sym hc hx
  obtain ⟨i, i0, i1, hi⟩ := b4 y hyc hy
  obtain ⟨w, w1, w4, hw, hw1⟩ := hn2
  subst hi
  have := b5 i w i0 (Or.inl (by omega)) w1 w4 (by rw [← hw]; exact hw1) (by rw [← hw]; exact ho)
  rw [← hw] at this
  exact this
theorem BI.next {c l mt cl to : Int} {A Q : Int → Int} {h t : Int} (hB : BI c l mt cl to A Q h t 4) (hht : h < t) : BI c l mt cl to A Q (h + 1) t 0 := by
  obtain ⟨a, ⟨b1, b2, b2c⟩, b3, b4, b5⟩ := hB
  refine ⟨a, ⟨by omega, by omega, b2c⟩, fun i i0 i1 => ?_, b4, fun i w i0 hi w1 w4 => ?_⟩
  · obtain ⟨q1, q2, q3, q4⟩ := b3 i i0 i1
    refine ⟨q1, q2, fun hlt => ?_, q4⟩
    have h1 := q3 hht
    have h2 := (b3 h b1 hht).2.2.2 (h + 1) (by omega) hlt
    omega
  · rcases hi with hi | ⟨hi, -, hw⟩
    · by_cases hih : i = h
      · exact b5 i w i0 (Or.inr ⟨hih, hht, by omega⟩) w1 w4
      · exact b5 i w i0 (Or.inl (by omega)) w1 w4
    · exact absurd w1 (by omega)
theorem BI.skip {c l mt cl to : Int} {A Q : Int → Int} {h t : Int} {m : Nat} (hc : CL c l) (hB : BI c l mt cl to A Q h t m) (hht : h < t) (hx : sBeside c l (Q h) ((m : Int) + 1) = -1 ∨ ¬ Opn mt cl (sBeside c l (Q h) ((m : Int) + 1)) ∨ A (sBeside c l (Q h) ((m : Int) + 1)) ≠ -1) : BI c l mt cl to A Q h t (m + 1) := by
  obtain ⟨a, b2, b3, b4, b5⟩ := hB
  refine ⟨a, b2, b3, b4, fun i w i0 hi w1 w4 hb ho => ?_⟩
  by_cases hw : i = h ∧ w = (m : Int) + 1
  · obtain ⟨rfl, rfl⟩ := hw
    rcases hx with hx | hx | hx
    · exact absurd hx hb
    · exact absurd ho hx
    · have hq := b3 i i0 hht
      have hcx := beside_cel hc hq.1 hb
      have h1 := a.1 _ hcx
      obtain ⟨j, j0, j1, hj⟩ := b4 _ hcx (by omega)
      have h2 := (b3 j j0 j1).2.2.1 hht
      rw [hj] at h2
      exact ⟨by omega, h2⟩
  · refine b5 i w i0 ?_ w1 w4 hb ho
    rcases hi with hi | ⟨h1, h2, h3⟩
    · exact Or.inl hi
    · exact Or.inr ⟨h1, h2, by omega⟩
theorem BI.room {c l mt cl to : Int} {A Q : Int → Int} {h t : Int} {m : Nat} (hc : CL c l) (hB : BI c l mt cl to A Q h t m) {x : Int} (hx : Cel c l x) (ha : A x = -1) : t < c * l := by
  have hm := hc.mul
  have h2 := hB.2.1.2.2
  have : cntN A (c * l).toNat ≠ 0 := fun hz => cnt_zero hz x hx.1 (by have := hx.2; omega) ha
  omega
theorem BI.add {c l mt cl to : Int} {A Q : Int → Int} {h t : Int} {m : Nat} (hc : CL c l) (hB : BI c l mt cl to A Q h t m) (hm4 : m < 4) (hht : h < t) {x : Int} (hxe : x = sBeside c l (Q h) ((m : Int) + 1)) (hx1 : x ≠ -1) (ho : Opn mt cl x) (ha : A x = -1) : BI c l mt cl to (updA A x (A (Q h) + 1)) (updA Q t x) h (t + 1) (m + 1) := by
  have hroom := hB.room hc (x := x) (by rw [hxe]; exact beside_cel hc (hB.2.2.1 h hB.2.1.1 hht).1 (by rw [← hxe]; exact hx1)) ha
  obtain ⟨⟨a1, a2, a3, a4⟩, ⟨b1, b2, b2c⟩, b3, b4, b5⟩ := hB
  have hq := b3 h b1 hht
  have hcx : Cel c l x := by rw [hxe]; exact beside_cel hc hq.1 (by rw [← hxe]; exact hx1)
  have hQ : ∀ i : Int, i < t → updA Q t x i = Q i := fun i hi => if_neg (by omega)
  have hQt : updA Q t x t = x := if_pos rfl
  have hA : ∀ z : Int, z ≠ x → updA A x (A (Q h) + 1) z = A z := fun z hz => if_neg hz
  have hAx : updA A x (A (Q h) + 1) x = A (Q h) + 1 := if_pos rfl
  have hne : ∀ z : Int, 0 ≤ A z → z ≠ x := fun z hz he => by rw [he, ha] at hz; exact absurd hz (by decide)
  have hAQ : ∀ i : Int, 0 ≤ i → i < t → updA A x (A (Q h) + 1) (Q i) = A (Q i) := fun i i0 i1 => hA _ (hne _ (b3 i i0 i1).2.1)
  have hgt : ∀ z : Int, Cel c l z → A z ≤ updA A x (A (Q h) + 1) z := fun z hz => by
    by_cases he : z = x
    · rw [he, hAx, ha]
      omega
    · rw [hA z he]
      exact Int.le_refl _
  have hmul := hc.mul
  have hcu := cnt_upd (a := A) (s := x) (x := A (Q h) + 1) hcx.1 ha (by omega) (c * l).toNat
  rw [if_pos (show x < ((c * l).toNat : Int) by have := hcx.2; omega)] at hcu
  refine ⟨⟨fun z hz => ?_, ?_, fun z hz hz0 => ?_, fun z hz hz0 => ?_⟩, ⟨b1, by omega, by omega⟩, fun i i0 i1 => ?_, fun z hz hz0 => ?_, fun i w i0 hi w1 w4 hb hop => ?_⟩
  · have := a1 z hz
    have := hgt z hz
    omega
  · rw [hA to (hne to (by rw [a2]; decide))]
    exact a2
  · by_cases he : z = x
    · rw [he, hAx] at hz0
      omega
    · rw [hA z he] at hz0
      exact a3 z hz hz0
  · by_cases he : z = x
    · subst he
      refine ⟨ho, Q h, ?_, ?_, ?_⟩
      · exact ((Nb.sym hc hq.1 ⟨(m : Int) + 1, by omega, by omega, hxe, hx1⟩).1)
      · rw [hAQ h b1 hht]; exact hq.2.1
      · rw [hAQ h b1 hht, hAx]; omega
    · rw [hA z he] at hz0
      obtain ⟨o1, y, y1, y2, y3⟩ := a4 z hz hz0
      refine ⟨o1, y, y1, ?_, ?_⟩
      · rw [hA y (hne y y2)]; exact y2
      · rw [hA y (hne y y2), hA z he]; exact y3
  · by_cases hit : i = t
    · subst hit
      rw [hQt, hAx]
      refine ⟨hcx, by omega, fun _ => ?_, fun j hj1 hj2 => ?_⟩
      · rw [hQ h hht, hAQ h b1 hht]
        exact Int.le_refl _
      · obtain rfl : j = i := by omega
        rw [hQt, hAx]
        exact Int.le_refl _
    · have q := b3 i i0 (by omega)
      rw [hQ i (by omega), hAQ i i0 (by omega)]
      refine ⟨q.1, q.2.1, fun _ => ?_, fun j hj1 hj2 => ?_⟩
      · rw [hQ h hht, hAQ h b1 hht]
        exact q.2.2.1 hht
      · by_cases hjt : j = t
        · rw [hjt, hQt, hAx]
          exact q.2.2.1 hht
        · rw [hQ j (by omega), hAQ j (by omega) (by omega)]
          exact q.2.2.2 j hj1 (by omega)
  · by_cases he : z = x
    · exact ⟨t, by omega, by omega, by rw [hQt, he]⟩
    · rw [hA z he] at hz0
      obtain ⟨i, i0, i1, hi⟩ := b4 z hz hz0
      exact ⟨i, i0, by omega, by rw [hQ i i1, hi]⟩
  · have hih : i ≤ h := by rcases hi with hi | hi <;> omega
    rw [hQ i (by omega)] at hb hop ⊢
    rw [hAQ i i0 (by omega)]
    by_cases hw : i = h ∧ w = (m : Int) + 1
    · obtain ⟨rfl, rfl⟩ := hw
      rw [← hxe, hAx]
      exact ⟨by omega, Int.le_refl _⟩
    · have h5 := b5 i w i0 (by rcases hi with hi | ⟨h1, h2, h3⟩
                               · exact Or.inl hi
                               · exact Or.inr ⟨h1, hht, by omega⟩) w1 w4 hb hop
      rw [hA _ (hne _ h5.1)]
      exact h5
theorem BI.start {c l mt cl to : Int} {A Q : Int → Int} (hc : CL c l) (ht : Cel c l to) (hA : ∀ x : Int, Cel c l x → A x = if x = to then 0 else -1) (hQ : Q 0 = to) : BI c l mt cl to A Q 0 1 0 := by
  have hm := hc.mul
  have hto : A to = 0 := by rw [hA to ht, if_pos rfl]
  have hcn : cntN A (c * l).toNat + 1 = (c * l).toNat := by
    have h1 := cnt_upd (a := fun _ => -1) (s := to) (x := 0) ht.1 rfl (by decide) (c * l).toNat
    rw [if_pos (show to < ((c * l).toNat : Int) by have := ht.2; omega), cnt_all] at h1
    have h2 : ∀ n : Nat, (n : Int) ≤ c * l → cntN A n = cntN (updA (fun _ => -1) to 0) n := by
      intro n
      induction n with
      | zero => intro _; rfl
      | succ n ih =>
        intro hn
        unfold cntN
        rw [ih (by omega), hA n ⟨by omega, by omega⟩]
        rfl
    rw [h2 _ (by omega)]
    exact h1
  refine ⟨⟨fun x hx => ?_, hto, fun x hx h0 => ?_, fun x hx h0 => ?_⟩, ⟨by decide, by decide, by omega⟩, fun i i0 i1 => ?_, fun x hx h0 => ?_, fun i w i0 hi w1 w4 => ?_⟩
  · rw [hA x hx]; split <;> omega
  · rw [hA x hx] at h0
    split at h0
    · assumption
    · exact absurd h0 (by decide)
  · rw [hA x hx] at h0
    split at h0 <;> omega
  · obtain rfl : i = 0 := by omega
    rw [hQ, hto]
    refine ⟨ht, by decide, fun _ => by decide, fun j hj1 hj2 => ?_⟩
    obtain rfl : j = 0 := by omega
    rw [hQ, hto]
    decide
  · rw [hA x hx] at h0
    split at h0
    · rename_i he
      exact ⟨0, by decide, by decide, by rw [hQ, he]⟩
    · omega
  · rcases hi with hi | ⟨-, -, hw⟩
    · omega
    · omega
