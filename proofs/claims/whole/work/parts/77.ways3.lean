/-! ways round, the reference's side -/
def bv (A : Int → Int) : Int → Int := fun x => if A x = -1 then 100 else A x
theorem sum_upd {f : Int → Int} {x v : Int} (h0 : 0 ≤ x) : ∀ n : Nat, sumN (updA f x v) n = sumN f n + (if x < n then v - f x else 0) := by
  intro n
  induction n with
  | zero => rw [if_neg (by omega)]; rfl
  | succ n ih =>
    show sumN (updA f x v) n + updA f x v n = sumN f n + f n + _
    rw [ih]
    by_cases h1 : x < n
    · rw [if_pos h1, if_pos (show x < ((n + 1 : Nat) : Int) by omega), show updA f x v (n : Int) = f n from if_neg (by omega)]
      omega
    · rw [if_neg h1]
      by_cases h2 : (n : Int) = x
      · rw [if_pos (show x < ((n + 1 : Nat) : Int) by omega), show updA f x v (n : Int) = v from if_pos h2, h2]
        omega
      · rw [if_neg (show ¬ x < ((n + 1 : Nat) : Int) by omega), show updA f x v (n : Int) = f n from if_neg h2]
        omega
def PhiA (c l : Int) (A : Int → Int) : Int := sumN (bv A) (c * l).toNat
def KI (c l mt cl to : Int) (A : Int → Int) : Prop := (∀ x : Int, Cel c l x → -1 ≤ A x ∧ (0 ≤ A x → A x + cntN A (c * l).toNat < c * l)) ∧ (to ≠ mt → A to = 0) ∧ (∀ x : Int, Cel c l x → A x = 0 → x = to) ∧ (∀ x : Int, Cel c l x → 0 < A x → Opn mt cl x ∧ ∃ y : Int, Nb c l x y ∧ 0 ≤ A y ∧ A y < A x) ∧ (to = mt → ∀ x : Int, Cel c l x → A x = -1)
def Up (c l mt cl : Int) (A : Int → Int) (x w : Int) : Prop := sBeside c l x w ≠ -1 ∧ Opn mt cl x ∧ 0 ≤ A (sBeside c l x w) ∧ (A x = -1 ∨ A (sBeside c l x w) + 1 < A x)
theorem KI.done {c l mt cl to : Int} {A : Int → Int} (h : KI c l mt cl to A) (ht : to ≠ mt) (hn : ∀ x w : Int, Cel c l x → 1 ≤ w → w ≤ 4 → ¬ Up c l mt cl A x w) : SP c l mt cl to A := by
  obtain ⟨k1, k2, k3, k4, k5⟩ := h
  refine ⟨fun x hx => (k1 x hx).1, k2 ht, k3, fun x y hx ho hy hy0 => ?_, k4⟩
  obtain ⟨w, w1, w4, hw, hw1⟩ := hy
  have h1 := hn x w hx w1 w4
  have h2 := (k1 x hx).1
  subst hw
  have h3 : ¬ (A x = -1 ∨ A (sBeside c l x w) + 1 < A x) := fun z => h1 ⟨hw1, ho, hy0, z⟩
  omega
theorem KI.upd {c l mt cl to : Int} {A : Int → Int} {x w : Int} (hc : CL c l) (h : KI c l mt cl to A) (hx : Cel c l x) (hw : 1 ≤ w ∧ w ≤ 4) (hu : Up c l mt cl A x w) : KI c l mt cl to (updA A x (A (sBeside c l x w) + 1)) ∧ PhiA c l (updA A x (A (sBeside c l x w) + 1)) < PhiA c l A := by
  have hmul := hc.mul
  obtain ⟨k1, k2, k3, k4, k5⟩ := h
  obtain ⟨u1, u2, u3, u4⟩ := hu
  have hcy := beside_cel hc hx u1
  have hsy := beside_sym hc hx hw u1
  generalize hy : sBeside c l x w = y at *
  have hAx : updA A x (A y + 1) x = A y + 1 := if_pos rfl
  have hAz : ∀ z : Int, z ≠ x → updA A x (A y + 1) z = A z := fun z hz => if_neg hz
  have hyb := (k1 y hcy).2 u3
  have hxN : x < ((c * l).toNat : Int) := by have := hx.2; omega
  have hcn : cntN (updA A x (A y + 1)) (c * l).toNat ≤ cntN A (c * l).toNat ∧ (A x = -1 → cntN (updA A x (A y + 1)) (c * l).toNat + 1 = cntN A (c * l).toNat) := by
    by_cases ha : A x = -1
    · have h1 := cnt_upd (a := A) (s := x) (x := A y + 1) hx.1 ha (by omega) (c * l).toNat
      rw [if_pos hxN] at h1
      exact ⟨by omega, fun _ => h1⟩
    · refine ⟨?_, fun z => absurd z ha⟩
      have h2 : ∀ n : Nat, cntN (updA A x (A y + 1)) n ≤ cntN A n := by
        intro n
        induction n with
        | zero => exact Nat.le_refl 0
        | succ n ih =>
          unfold cntN
          by_cases hn : (n : Int) = x
          · rw [show updA A x (A y + 1) (n : Int) = A y + 1 from if_pos hn, if_neg (by omega)]
            omega
          · rw [hAz _ hn]
            omega
      exact h2 _
  have htx : A x ≠ 0 := fun hz => by
    rcases u4 with u4 | u4 <;> omega
  refine ⟨⟨fun z hz => ?_, fun ht => ?_, fun z hz hz0 => ?_, fun z hz hz0 => ?_, fun ht => ?_⟩, ?_⟩
  · by_cases he : z = x
    · rw [he, hAx]
      refine ⟨by omega, fun _ => ?_⟩
      by_cases ha : A x = -1
      · have := hcn.2 ha
        omega
      · have h5 := (k1 x hx).2 (by have := (k1 x hx).1; omega)
        have h6 := hcn.1
        rcases u4 with u4 | u4
        · exact absurd u4 ha
        · omega
    · rw [hAz z he]
      refine ⟨(k1 z hz).1, fun h0 => ?_⟩
      have := (k1 z hz).2 h0
      have := hcn.1
      omega
  · rw [hAz to (fun he => htx (by rw [← he]; exact k2 ht))]
    exact k2 ht
  · by_cases he : z = x
    · rw [he, hAx] at hz0
      omega
    · rw [hAz z he] at hz0
      exact k3 z hz hz0
  · by_cases he : z = x
    · rw [he]
      refine ⟨u2, y, ⟨w, hw.1, hw.2, hy.symm, by have := hcy.1; omega⟩, ?_, ?_⟩
      · rw [hAz y hsy.2]; exact u3
      · rw [hAz y hsy.2, hAx]; omega
    · rw [hAz z he] at hz0
      obtain ⟨o1, q, q1, q2, q3⟩ := k4 z hz hz0
      refine ⟨o1, q, q1, ?_, ?_⟩
      · by_cases hq : q = x
        · rw [hq, hAx]; omega
        · rw [hAz q hq]; exact q2
      · rw [hAz z he]
        by_cases hq : q = x
        · rw [hq, hAx]
          rw [hq] at q2 q3
          rcases u4 with u4 | u4 <;> omega
        · rw [hAz q hq]; exact q3
  · have := k5 ht y hcy
    omega
  · unfold PhiA
    have h1 : bv (updA A x (A y + 1)) = updA (bv A) x (A y + 1) := by
      funext z
      unfold bv updA
      by_cases he : z = x
      · rw [if_pos he, if_pos he, if_neg (by omega)]
      · rw [if_neg he, if_neg he]
    rw [h1, sum_upd hx.1, if_pos hxN]
    unfold bv
    rcases u4 with u4 | u4
    · rw [if_pos u4]
      omega
    · rw [if_neg (by omega)]
      omega
theorem KI.start {c l mt cl to : Int} {A : Int → Int} (hc : CL c l) (ht : Cel c l to) (hA : ∀ x : Int, Cel c l x → A x = if x = to ∧ to ≠ mt then 0 else -1) : KI c l mt cl to A ∧ PhiA c l A ≤ 2500 := by
  have hm := hc.mul
  have hcl : ∀ n : Nat, cntN A n ≤ n := fun n => by
    induction n with
    | zero => exact Nat.le_refl 0
    | succ n ih => unfold cntN; split <;> omega
  refine ⟨⟨fun x hx => ?_, fun h => by rw [hA to ht, if_pos ⟨rfl, h⟩], fun x hx h0 => ?_, fun x hx h0 => ?_, fun h x hx => ?_⟩, ?_⟩
  · rw [hA x hx]
    by_cases hz : x = to ∧ to ≠ mt
    · rw [if_pos hz]
      refine ⟨by decide, fun _ => ?_⟩
      have h1 : ∀ n : Nat, to < n → (n : Int) ≤ c * l → cntN A n < n := fun n => by
        induction n with
        | zero => intro a; exact absurd a (by have := ht.1; omega)
        | succ n ih =>
          intro a b
          unfold cntN
          by_cases hn : to = n
          · have hAn : A n = 0 := by rw [hA n ⟨by omega, by omega⟩, if_pos ⟨hn.symm, hz.2⟩]
            rw [hAn, if_neg (by decide)]
            have := hcl n
            omega
          · have := ih (by omega) (by omega)
            split <;> omega
      have := h1 (c * l).toNat (by have := ht.2; omega) (by omega)
      omega
    · rw [if_neg hz]
      exact ⟨by decide, fun h => absurd h (by decide)⟩
  · rw [hA x hx] at h0
    split at h0
    · rename_i hz
      exact hz.1
    · exact absurd h0 (by decide)
  · rw [hA x hx] at h0
    split at h0 <;> omega
  · rw [hA x hx, if_neg (fun z => z.2 h)]
  · unfold PhiA
    have := @sumN_bd (bv A) 0 100 (c * l).toNat (fun j a b => by
      unfold bv
      rw [hA j ⟨a, by omega⟩]
      (repeat' split) <;> omega)
    omega
/-- where a pass stands: nothing changed so far, or less than at its start -/
def PSt (c l mt cl : Int) (A0 A : Int → Int) (more x : Int) (m : Nat) : Prop := (more = 0 ∧ A = A0 ∧ ∀ z w : Int, Cel c l z → 1 ≤ w → w ≤ 4 → (z < x ∨ (z = x ∧ w ≤ m)) → ¬ Up c l mt cl A0 z w) ∨ (more = 1 ∧ PhiA c l A < PhiA c l A0)
def Rel (c l : Int) (B A : Int → Int) : Prop := ∀ x : Int, Cel c l x → B x = if A x = -1 then 1000000 else A x
theorem PSt.skip {c l mt cl : Int} {A0 A : Int → Int} {more x : Int} {m : Nat} (h : PSt c l mt cl A0 A more x m) (hn : ¬ Up c l mt cl A x ((m : Int) + 1)) : PSt c l mt cl A0 A more x (m + 1) := by
  rcases h with ⟨h1, h2, h3⟩ | h
  · refine Or.inl ⟨h1, h2, fun z w hz w1 w4 hzw => ?_⟩
    by_cases he : z = x ∧ w = (m : Int) + 1
    · rw [he.1, he.2, ← h2]
      exact hn
    · exact h3 z w hz w1 w4 (by omega)
  · exact Or.inr h
theorem PSt.row {c l mt cl : Int} {A0 A : Int → Int} {more x : Int} (h : PSt c l mt cl A0 A more x 4) : PSt c l mt cl A0 A more (x + 1) 0 := by
  rcases h with ⟨h1, h2, h3⟩ | h
  · exact Or.inl ⟨h1, h2, fun z w hz w1 w4 hzw => h3 z w hz w1 w4 (by omega)⟩
  · exact Or.inr h
theorem PSt.upd {c l mt cl : Int} {A0 A A' : Int → Int} {more x : Int} {m : Nat} (h : PSt c l mt cl A0 A more x m) (hl : PhiA c l A' < PhiA c l A) : PSt c l mt cl A0 A' 1 x (m + 1) := by
  rcases h with ⟨h1, h2, h3⟩ | h
  · rw [h2] at hl
    exact Or.inr ⟨rfl, hl⟩
  · exact Or.inr ⟨rfl, by omega⟩
set_option maxRecDepth 20000 in
set_option maxHeartbeats 4000000 in
theorem l_lay1s {w : Hp} {d : Nat} {to cl : Int} {Q : Option PV → Hp → Prop} (hT0 : Stc w) (hc : CL (w 100 11) (w 100 12)) (hto : Cel (w 100 11) (w 100 12) to) (K : ∀ w1 : Hp, Same w w1 [121] → (∀ x : Int, Cel (w 100 11) (w 100 12) x → w1 121 x = if x = to ∧ to ≠ w 109 0 then 0 else 1000000) → WP SH (d + 1) 216 48 [some (vR 100), some (vI to), some (vI cl), some (vI (w 100 11 * w 100 12)), none, none, none, none] [] w1 Q) : ∀ (k : Nat) (y : Int) (w1 : Hp), 0 ≤ y → y + k = w 100 11 * w 100 12 → Same w w1 [121] → (∀ j : Int, 0 ≤ j → j < y → w1 121 j = if j = to ∧ to ≠ w 109 0 then 0 else 1000000) → WP SH (d + 1) 216 2 [some (vR 100), some (vI to), some (vI cl), some (vI y), none, none, none, none] [] w1 Q := by
  intro k
  induction k with
  | zero =>
    intro y w1 h0 hyk hS hz
    have hT := hT0.same hS (by decide)
    have e1 : w1 100 = w 100 := hS 100 (by decide)
    have e9 : w1 109 = w 109 := hS 109 (by decide)
    have hml := hc.mul
    have hml0 : w1 100 11 * w1 100 12 = w 100 11 * w 100 12 := by rw [e1]
    have e90 : w1 109 0 = w 109 0 := by rw [e9]
    refine wp_iload_n (pc' := 3) rfl rfl rfl ?_
    refine wp_aload_n (pc' := 4) rfl rfl rfl (by decide) ?_
    refine wp_getI (ci := 10) (k0 := 11) (pc' := 7) rfl rfl (by decide) (by first | assumption | rfl) ?_
    refine wp_aload_n (pc' := 8) rfl rfl rfl (by decide) ?_
    refine wp_getI (ci := 10) (k0 := 12) (pc' := 11) rfl rfl (by decide) (by first | assumption | rfl) ?_
    refine wp_imul (pc' := 12) rfl rfl (by first | exact w32_id (by omega) (by omega) | rfl) ?_
    refine wp_icmp_ge (pc' := 15) (pt := 48) rfl rfl rfl (fun q_1 => ?_) (fun q_1 => ?_)
    · skip
      obtain rfl : y = w 100 11 * w 100 12 := by omega
      exact K w1 hS (fun x hx => hz x hx.1 hx.2)
    · skip
      exfalso; omega
  | succ k ih =>
    intro y w1 h0 hyk hS hz
    have hT := hT0.same hS (by decide)
    have e1 : w1 100 = w 100 := hS 100 (by decide)
    have e9 : w1 109 = w 109 := hS 109 (by decide)
    have hml := hc.mul
    have hml0 : w1 100 11 * w1 100 12 = w 100 11 * w 100 12 := by rw [e1]
    have e90 : w1 109 0 = w 109 0 := by rw [e9]
    refine wp_iload_n (pc' := 3) rfl rfl rfl ?_
    refine wp_aload_n (pc' := 4) rfl rfl rfl (by decide) ?_
    refine wp_getI (ci := 10) (k0 := 11) (pc' := 7) rfl rfl (by decide) (by first | assumption | rfl) ?_
    refine wp_aload_n (pc' := 8) rfl rfl rfl (by decide) ?_
    refine wp_getI (ci := 10) (k0 := 12) (pc' := 11) rfl rfl (by decide) (by first | assumption | rfl) ?_
    refine wp_imul (pc' := 12) rfl rfl (by first | exact w32_id (by omega) (by omega) | rfl) ?_
    refine wp_icmp_ge (pc' := 15) (pt := 48) rfl rfl rfl (fun q_1 => ?_) (fun q_1 => ?_)
    · skip
      exfalso; omega
    · skip
      refine wp_aload_n (pc' := 16) rfl rfl rfl (by decide) ?_
      refine wp_getR (r' := 121) (ci := 10) (k0 := 31) (pc' := 19) rfl rfl (by decide) (by first | assumption | rfl) (hT.get 119 rfl) ?_
      refine wp_iload_n (pc' := 20) rfl rfl rfl ?_
      refine wp_iload_n (pc' := 21) rfl rfl rfl ?_
      refine wp_iload_n (pc' := 22) rfl rfl rfl ?_
      refine wp_icmp_ne (pc' := 25) (pt := 39) rfl rfl rfl (fun q_2 => ?_) (fun q_2 => ?_)
      · skip
        refine wp_ldc (a := 1000000) (pc' := 41) rfl rfl rfl ?_
        refine wp_iastore (pc' := 42) rfl rfl (by first | assumption | rfl) (by omega) ?_
        refine wp_iinc (pc' := 45) rfl rfl rfl (inc_id (by omega) (by omega)) rfl ?_
        dsimp only [lset, lset2, List.set, List.getElem?_cons_zero, List.getElem?_cons_succ]
        refine wp_goto (pc' := 2) rfl rfl ?_
        refine ih (y + 1) _ (by omega) (by omega) (hS.put (by decide)) (fun j j0 j1 => ?_)
        by_cases hj : j = y
        · rw [hj, up_eq]
          first
          | (rw [if_pos (by omega)])
          | (rw [if_neg (by omega)])
        · rw [up_at hj]
          exact hz j j0 (by omega)
      · skip
        refine wp_iload_n (pc' := 26) rfl rfl rfl ?_
        refine wp_aload_n (pc' := 27) rfl rfl rfl (by decide) ?_
        refine wp_getR (r' := 109) (ci := 10) (k0 := 15) (pc' := 30) rfl rfl (by decide) (by first | assumption | rfl) (hT.get 107 rfl) ?_
        refine wp_iconst (a := 0) (pc' := 31) rfl rfl rfl ?_
        refine wp_iaload (pc' := 32) rfl rfl (by first | assumption | rfl) (by omega) ?_
        refine wp_icmp_eq (pc' := 35) (pt := 39) rfl rfl rfl (fun q_3 => ?_) (fun q_3 => ?_)
        · skip
          refine wp_ldc (a := 1000000) (pc' := 41) rfl rfl rfl ?_
          refine wp_iastore (pc' := 42) rfl rfl (by first | assumption | rfl) (by omega) ?_
          refine wp_iinc (pc' := 45) rfl rfl rfl (inc_id (by omega) (by omega)) rfl ?_
          dsimp only [lset, lset2, List.set, List.getElem?_cons_zero, List.getElem?_cons_succ]
          refine wp_goto (pc' := 2) rfl rfl ?_
          refine ih (y + 1) _ (by omega) (by omega) (hS.put (by decide)) (fun j j0 j1 => ?_)
          by_cases hj : j = y
          · rw [hj, up_eq]
            first
            | (rw [if_pos (by omega)])
            | (rw [if_neg (by omega)])
          · rw [up_at hj]
            exact hz j j0 (by omega)
        · skip
          refine wp_iconst (a := 0) (pc' := 36) rfl rfl rfl ?_
          refine wp_goto (pc' := 41) rfl rfl ?_
          refine wp_iastore (pc' := 42) rfl rfl (by first | assumption | rfl) (by omega) ?_
          refine wp_iinc (pc' := 45) rfl rfl rfl (inc_id (by omega) (by omega)) rfl ?_
          dsimp only [lset, lset2, List.set, List.getElem?_cons_zero, List.getElem?_cons_succ]
          refine wp_goto (pc' := 2) rfl rfl ?_
          refine ih (y + 1) _ (by omega) (by omega) (hS.put (by decide)) (fun j j0 j1 => ?_)
          by_cases hj : j = y
          · rw [hj, up_eq]
            first
            | (rw [if_pos (by omega)])
            | (rw [if_neg (by omega)])
          · rw [up_at hj]
            exact hz j j0 (by omega)
set_option maxRecDepth 20000 in
set_option maxHeartbeats 4000000 in
theorem l_relax {w : Hp} {d : Nat} {to cl : Int} {Q : Option PV → Hp → Prop} (hT0 : Stc w) (hc : CL (w 100 11) (w 100 12)) (hto : Cel (w 100 11) (w 100 12) to) {A0 : Int → Int} {cell : Int} (hx : Cel (w 100 11) (w 100 12) cell) (K : ∀ (w1 : Hp) (A : Int → Int) (more y : Int) (x6 x7 : Option PV), Same w w1 [121] → Rel (w 100 11) (w 100 12) (w1 121) A → KI (w 100 11) (w 100 12) (w 109 0) cl to A → PSt (w 100 11) (w 100 12) (w 109 0) cl A0 A more cell 4 → WP SH (d + 1) 216 169 [some (vR 100), some (vI to), some (vI cl), some (vI more), some (vI cell), some (vI y), x6, x7] [] w1 Q) : ∀ (k m : Nat) (y more : Int) (A : Int → Int) (w1 : Hp) (x6 x7 : Option PV), y = (m : Int) + 1 → m + k = 4 → Same w w1 [121] → Rel (w 100 11) (w 100 12) (w1 121) A → KI (w 100 11) (w 100 12) (w 109 0) cl to A → PSt (w 100 11) (w 100 12) (w 109 0) cl A0 A more cell m → WP SH (d + 1) 216 76 [some (vR 100), some (vI to), some (vI cl), some (vI more), some (vI cell), some (vI y), x6, x7] [] w1 Q := by
  intro k
  induction k with
  | zero =>
    intro m y more A w1 x6 x7 hy hmk hS hR hK hP
    have hT := hT0.same hS (by decide)
    have e1 : w1 100 = w 100 := hS 100 (by decide)
    have e9 : w1 109 = w 109 := hS 109 (by decide)
    have hml := hc.mul
    have hml0 : w1 100 11 * w1 100 12 = w 100 11 * w 100 12 := by rw [e1]
    have e90 : w1 109 0 = w 109 0 := by rw [e9]
    have hxd := hx.dm hc
    have hc1 : CL (w1 100 11) (w1 100 12) := by rw [e1]; exact hc
    have hx1 : Cel (w1 100 11) (w1 100 12) cell := by rw [e1]; exact hx
    have hkx := hK.1 cell hx
    have hrx := hR cell hx
    refine wp_iload (pc' := 78) rfl rfl rfl ?_
    refine wp_iconst (a := 4) (pc' := 79) rfl rfl rfl ?_
    refine wp_icmp_gt (pc' := 82) (pt := 169) rfl rfl rfl (fun q_1 => ?_) (fun q_1 => ?_)
    · skip
      obtain rfl : m = 4 := by omega
      exact K w1 A more y x6 x7 hS hR hK hP
    · skip
      exfalso; omega
  | succ k ih =>
    intro m y more A w1 x6 x7 hy hmk hS hR hK hP
    have hT := hT0.same hS (by decide)
    have e1 : w1 100 = w 100 := hS 100 (by decide)
    have e9 : w1 109 = w 109 := hS 109 (by decide)
    have hml := hc.mul
    have hml0 : w1 100 11 * w1 100 12 = w 100 11 * w 100 12 := by rw [e1]
    have e90 : w1 109 0 = w 109 0 := by rw [e9]
    have hxd := hx.dm hc
    have hc1 : CL (w1 100 11) (w1 100 12) := by rw [e1]; exact hc
    have hx1 : Cel (w1 100 11) (w1 100 12) cell := by rw [e1]; exact hx
    have hkx := hK.1 cell hx
    have hrx := hR cell hx
    refine wp_iload (pc' := 78) rfl rfl rfl ?_
    refine wp_iconst (a := 4) (pc' := 79) rfl rfl rfl ?_
    refine wp_icmp_gt (pc' := 82) (pt := 169) rfl rfl rfl (fun q_1 => ?_) (fun q_1 => ?_)
    · skip
      exfalso; omega
    · skip
      refine wp_aload_n (pc' := 83) rfl rfl rfl (by decide) ?_
      refine wp_iload (pc' := 85) rfl rfl rfl ?_
      refine wp_iload (pc' := 87) rfl rfl rfl ?_
      refine wp_call (pc' := 90) rfl rfl rfl rfl rfl ⟨Nat.le_of_ble_eq_true rfl, Nat.le_of_ble_eq_true rfl, Nat.le_of_ble_eq_true rfl, Nat.le_of_ble_eq_true rfl, Nat.le_of_ble_eq_true rfl⟩ rfl (c_Mod_beside hc1 (by omega) hx1) ?_
      intro v1 w9 hq1
      rw [hq1.1, hq1.2]
      clear hq1 v1 w9
      rw [e1]
      have hbg := beside_ge (way := y) hc hx
      have hry : sBeside (w 100 11) (w 100 12) cell y ≠ -1 → w1 121 (sBeside (w 100 11) (w 100 12) cell y) = (if A (sBeside (w 100 11) (w 100 12) cell y) = -1 then 1000000 else A (sBeside (w 100 11) (w 100 12) cell y)) ∧ -1 ≤ A (sBeside (w 100 11) (w 100 12) cell y) ∧ A (sBeside (w 100 11) (w 100 12) cell y) ≤ 25 := fun hne => by
        have hcy := beside_cel hc hx hne
        have h1 := hK.1 _ hcy
        refine ⟨hR _ hcy, h1.1, ?_⟩
        by_cases hz : 0 ≤ A (sBeside (w 100 11) (w 100 12) cell y)
        · have := h1.2 hz
          omega
        · omega
      dsimp only [Option.toList, List.cons_append, List.nil_append, List.append_nil]
      refine wp_istore (pc' := 92) rfl rfl (Nat.le_of_ble_eq_true rfl) rfl ?_
      dsimp only [lset, lset2, List.set, List.getElem?_cons_zero, List.getElem?_cons_succ]
      refine wp_iload (pc' := 94) rfl rfl rfl ?_
      refine wp_if_lt (pc' := 97) (pt := 118) rfl rfl rfl (fun q_2 => ?_) (fun q_2 => ?_)
      · skip
        refine wp_iconst (a := 0) (pc' := 119) rfl rfl rfl ?_
        refine wp_istore (pc' := 121) rfl rfl (Nat.le_of_ble_eq_true rfl) rfl ?_
        dsimp only [lset, lset2, List.set, List.getElem?_cons_zero, List.getElem?_cons_succ]
        refine wp_iload (pc' := 123) rfl rfl rfl ?_
        refine wp_if_eq (pc' := 126) (pt := 163) rfl rfl rfl (fun q_3 => ?_) (fun q_3 => absurd (by decide) q_3)
        refine wp_iinc (pc' := 166) rfl rfl rfl (inc_id (by omega) (by omega)) rfl ?_
        dsimp only [lset, lset2, List.set, List.getElem?_cons_zero, List.getElem?_cons_succ]
        refine wp_goto (pc' := 76) rfl rfl ?_
        refine ih (m + 1) _ _ _ _ _ _ (by omega) (by omega) hS hR hK (hP.skip (fun hup => ?_))
        rw [← hy] at hup
        obtain ⟨u1, u2, u3, u4⟩ := hup
        have hr2 := hry u1
        have u21 := u2.1
        have u22 := u2.2
        rw [if_neg (show ¬ A (sBeside (w 100 11) (w 100 12) cell y) = -1 by omega)] at hr2
        split at hrx <;> omega
      · skip
        refine wp_iload (pc' := 99) rfl rfl rfl ?_
        refine wp_aload_n (pc' := 100) rfl rfl rfl (by decide) ?_
        refine wp_getR (r' := 109) (ci := 10) (k0 := 15) (pc' := 103) rfl rfl (by decide) (by first | assumption | rfl) (hT.get 107 rfl) ?_
        refine wp_iconst (a := 0) (pc' := 104) rfl rfl rfl ?_
        refine wp_iaload (pc' := 105) rfl rfl (by first | assumption | rfl) (by omega) ?_
        refine wp_icmp_eq (pc' := 108) (pt := 118) rfl rfl rfl (fun q_4 => ?_) (fun q_4 => ?_)
        · skip
          refine wp_iconst (a := 0) (pc' := 119) rfl rfl rfl ?_
          refine wp_istore (pc' := 121) rfl rfl (Nat.le_of_ble_eq_true rfl) rfl ?_
          dsimp only [lset, lset2, List.set, List.getElem?_cons_zero, List.getElem?_cons_succ]
          refine wp_iload (pc' := 123) rfl rfl rfl ?_
          refine wp_if_eq (pc' := 126) (pt := 163) rfl rfl rfl (fun q_5 => ?_) (fun q_5 => absurd (by decide) q_5)
          refine wp_iinc (pc' := 166) rfl rfl rfl (inc_id (by omega) (by omega)) rfl ?_
          dsimp only [lset, lset2, List.set, List.getElem?_cons_zero, List.getElem?_cons_succ]
          refine wp_goto (pc' := 76) rfl rfl ?_
          refine ih (m + 1) _ _ _ _ _ _ (by omega) (by omega) hS hR hK (hP.skip (fun hup => ?_))
          rw [← hy] at hup
          obtain ⟨u1, u2, u3, u4⟩ := hup
          have hr2 := hry u1
          have u21 := u2.1
          have u22 := u2.2
          rw [if_neg (show ¬ A (sBeside (w 100 11) (w 100 12) cell y) = -1 by omega)] at hr2
          split at hrx <;> omega
        · skip
          refine wp_iload (pc' := 110) rfl rfl rfl ?_
          refine wp_iload_n (pc' := 111) rfl rfl rfl ?_
          refine wp_icmp_eq (pc' := 114) (pt := 118) rfl rfl rfl (fun q_6 => ?_) (fun q_6 => ?_)
          · skip
            refine wp_iconst (a := 0) (pc' := 119) rfl rfl rfl ?_
            refine wp_istore (pc' := 121) rfl rfl (Nat.le_of_ble_eq_true rfl) rfl ?_
            dsimp only [lset, lset2, List.set, List.getElem?_cons_zero, List.getElem?_cons_succ]
            refine wp_iload (pc' := 123) rfl rfl rfl ?_
            refine wp_if_eq (pc' := 126) (pt := 163) rfl rfl rfl (fun q_7 => ?_) (fun q_7 => absurd (by decide) q_7)
            refine wp_iinc (pc' := 166) rfl rfl rfl (inc_id (by omega) (by omega)) rfl ?_
            dsimp only [lset, lset2, List.set, List.getElem?_cons_zero, List.getElem?_cons_succ]
            refine wp_goto (pc' := 76) rfl rfl ?_
            refine ih (m + 1) _ _ _ _ _ _ (by omega) (by omega) hS hR hK (hP.skip (fun hup => ?_))
            rw [← hy] at hup
            obtain ⟨u1, u2, u3, u4⟩ := hup
            have hr2 := hry u1
            have u21 := u2.1
            have u22 := u2.2
            rw [if_neg (show ¬ A (sBeside (w 100 11) (w 100 12) cell y) = -1 by omega)] at hr2
            split at hrx <;> omega
          · skip
            refine wp_iconst (a := 1) (pc' := 115) rfl rfl rfl ?_
            refine wp_goto (pc' := 119) rfl rfl ?_
            refine wp_istore (pc' := 121) rfl rfl (Nat.le_of_ble_eq_true rfl) rfl ?_
            dsimp only [lset, lset2, List.set, List.getElem?_cons_zero, List.getElem?_cons_succ]
            refine wp_iload (pc' := 123) rfl rfl rfl ?_
            refine wp_if_eq (pc' := 126) (pt := 163) rfl rfl rfl (fun q_8 => absurd q_8 (by decide)) (fun q_8 => ?_)
            refine wp_aload_n (pc' := 127) rfl rfl rfl (by decide) ?_
            refine wp_getR (r' := 121) (ci := 10) (k0 := 31) (pc' := 130) rfl rfl (by decide) (by first | assumption | rfl) (hT.get 119 rfl) ?_
            refine wp_iload (pc' := 132) rfl rfl rfl ?_
            refine wp_iaload (pc' := 133) rfl rfl (by first | assumption | rfl) (by omega) ?_
            refine wp_iconst (a := 1) (pc' := 134) rfl rfl rfl ?_
            refine wp_iadd (pc' := 135) rfl rfl (by first | exact w32_id (by omega) (by omega) | rfl) ?_
            refine wp_aload_n (pc' := 136) rfl rfl rfl (by decide) ?_
            refine wp_getR (r' := 121) (ci := 10) (k0 := 31) (pc' := 139) rfl rfl (by decide) (by first | assumption | rfl) (hT.get 119 rfl) ?_
            refine wp_iload (pc' := 141) rfl rfl rfl ?_
            refine wp_iaload (pc' := 142) rfl rfl (by first | assumption | rfl) (by omega) ?_
            refine wp_icmp_ge (pc' := 145) (pt := 163) rfl rfl rfl (fun q_9 => ?_) (fun q_9 => ?_)
            · skip
              refine wp_iinc (pc' := 166) rfl rfl rfl (inc_id (by omega) (by omega)) rfl ?_
              dsimp only [lset, lset2, List.set, List.getElem?_cons_zero, List.getElem?_cons_succ]
              refine wp_goto (pc' := 76) rfl rfl ?_
              refine ih (m + 1) _ _ _ _ _ _ (by omega) (by omega) hS hR hK (hP.skip (fun hup => ?_))
              rw [← hy] at hup
              obtain ⟨u1, u2, u3, u4⟩ := hup
              have hr2 := hry u1
              have u21 := u2.1
              have u22 := u2.2
              rw [if_neg (show ¬ A (sBeside (w 100 11) (w 100 12) cell y) = -1 by omega)] at hr2
              split at hrx <;> omega
            · skip
              refine wp_aload_n (pc' := 146) rfl rfl rfl (by decide) ?_
              refine wp_getR (r' := 121) (ci := 10) (k0 := 31) (pc' := 149) rfl rfl (by decide) (by first | assumption | rfl) (hT.get 119 rfl) ?_
              refine wp_iload (pc' := 151) rfl rfl rfl ?_
              refine wp_aload_n (pc' := 152) rfl rfl rfl (by decide) ?_
              refine wp_getR (r' := 121) (ci := 10) (k0 := 31) (pc' := 155) rfl rfl (by decide) (by first | assumption | rfl) (hT.get 119 rfl) ?_
              refine wp_iload (pc' := 157) rfl rfl rfl ?_
              refine wp_iaload (pc' := 158) rfl rfl (by first | assumption | rfl) (by omega) ?_
              refine wp_iconst (a := 1) (pc' := 159) rfl rfl rfl ?_
              refine wp_iadd (pc' := 160) rfl rfl (by first | exact w32_id (by omega) (by omega) | rfl) ?_
              refine wp_iastore (pc' := 161) rfl rfl (by first | assumption | rfl) (by omega) ?_
              refine wp_iconst (a := 1) (pc' := 162) rfl rfl rfl ?_
              refine wp_istore_n (pc' := 163) rfl rfl (Nat.le_of_ble_eq_true rfl) rfl ?_
              dsimp only [lset, lset2, List.set, List.getElem?_cons_zero, List.getElem?_cons_succ]
              refine wp_iinc (pc' := 166) rfl rfl rfl (inc_id (by omega) (by omega)) rfl ?_
              dsimp only [lset, lset2, List.set, List.getElem?_cons_zero, List.getElem?_cons_succ]
              refine wp_goto (pc' := 76) rfl rfl ?_
              have hne : sBeside (w 100 11) (w 100 12) cell y ≠ -1 := by omega
              have hr2 := hry hne
              have hup : Up (w 100 11) (w 100 12) (w 109 0) cl A cell y := by
                refine ⟨hne, ⟨by omega, by omega⟩, ?_, ?_⟩
                · by_cases hz : A (sBeside (w 100 11) (w 100 12) cell y) = -1
                  · rw [if_pos hz] at hr2
                    split at hrx <;> omega
                  · omega
                · by_cases hz : A (sBeside (w 100 11) (w 100 12) cell y) = -1
                  · rw [if_pos hz] at hr2
                    split at hrx <;> omega
                  · rw [if_neg hz] at hr2
                    by_cases ha : A cell = -1
                    · exact Or.inl ha
                    · rw [if_neg ha] at hrx
                      exact Or.inr (by omega)
              have hku := hK.upd hc hx ⟨by omega, by omega⟩ hup
              refine ih (m + 1) _ _ _ _ _ _ (by omega) (by omega) (hS.put (by decide)) (fun z hz => ?_) hku.1 (hP.upd hku.2)
              unfold updA
              by_cases hzc : z = cell
              · rw [if_pos hzc, hzc, up_eq]
                have hu3 := hup.2.2.1
                rw [if_neg (by omega), hr2.1, if_neg (by omega)]
              · rw [if_neg hzc, up_at hzc]
                exact hR z hz
set_option maxRecDepth 20000 in
set_option maxHeartbeats 4000000 in
theorem l_pass {w : Hp} {d : Nat} {to cl : Int} {Q : Option PV → Hp → Prop} (hT0 : Stc w) (hc : CL (w 100 11) (w 100 12)) (hto : Cel (w 100 11) (w 100 12) to) {A0 : Int → Int} (K : ∀ (w1 : Hp) (A : Int → Int) (more y : Int) (x5 x6 x7 : Option PV), Same w w1 [121] → Rel (w 100 11) (w 100 12) (w1 121) A → KI (w 100 11) (w 100 12) (w 109 0) cl to A → PSt (w 100 11) (w 100 12) (w 109 0) cl A0 A more (w 100 11 * w 100 12) 0 → WP SH (d + 1) 216 175 [some (vR 100), some (vI to), some (vI cl), some (vI more), some (vI y), x5, x6, x7] [] w1 Q) : ∀ (k : Nat) (y more : Int) (A : Int → Int) (w1 : Hp) (x5 x6 x7 : Option PV), 0 ≤ y → y + k = w 100 11 * w 100 12 → Same w w1 [121] → Rel (w 100 11) (w 100 12) (w1 121) A → KI (w 100 11) (w 100 12) (w 109 0) cl to A → PSt (w 100 11) (w 100 12) (w 109 0) cl A0 A more y 0 → WP SH (d + 1) 216 59 [some (vR 100), some (vI to), some (vI cl), some (vI more), some (vI y), x5, x6, x7] [] w1 Q := by
  intro k
  induction k with
  | zero =>
    intro y more A w1 x5 x6 x7 h0 hyk hS hR hK hP
    have hT := hT0.same hS (by decide)
    have e1 : w1 100 = w 100 := hS 100 (by decide)
    have e9 : w1 109 = w 109 := hS 109 (by decide)
    have hml := hc.mul
    have hml0 : w1 100 11 * w1 100 12 = w 100 11 * w 100 12 := by rw [e1]
    have e90 : w1 109 0 = w 109 0 := by rw [e9]
    refine wp_iload (pc' := 61) rfl rfl rfl ?_
    refine wp_aload_n (pc' := 62) rfl rfl rfl (by decide) ?_
    refine wp_getI (ci := 10) (k0 := 11) (pc' := 65) rfl rfl (by decide) (by first | assumption | rfl) ?_
    refine wp_aload_n (pc' := 66) rfl rfl rfl (by decide) ?_
    refine wp_getI (ci := 10) (k0 := 12) (pc' := 69) rfl rfl (by decide) (by first | assumption | rfl) ?_
    refine wp_imul (pc' := 70) rfl rfl (by first | exact w32_id (by omega) (by omega) | rfl) ?_
    refine wp_icmp_ge (pc' := 73) (pt := 175) rfl rfl rfl (fun q_1 => ?_) (fun q_1 => ?_)
    · skip
      obtain rfl : y = w 100 11 * w 100 12 := by omega
      exact K w1 A more _ x5 x6 x7 hS hR hK hP
    · skip
      exfalso; omega
  | succ k ih =>
    intro y more A w1 x5 x6 x7 h0 hyk hS hR hK hP
    have hT := hT0.same hS (by decide)
    have e1 : w1 100 = w 100 := hS 100 (by decide)
    have e9 : w1 109 = w 109 := hS 109 (by decide)
    have hml := hc.mul
    have hml0 : w1 100 11 * w1 100 12 = w 100 11 * w 100 12 := by rw [e1]
    have e90 : w1 109 0 = w 109 0 := by rw [e9]
    refine wp_iload (pc' := 61) rfl rfl rfl ?_
    refine wp_aload_n (pc' := 62) rfl rfl rfl (by decide) ?_
    refine wp_getI (ci := 10) (k0 := 11) (pc' := 65) rfl rfl (by decide) (by first | assumption | rfl) ?_
    refine wp_aload_n (pc' := 66) rfl rfl rfl (by decide) ?_
    refine wp_getI (ci := 10) (k0 := 12) (pc' := 69) rfl rfl (by decide) (by first | assumption | rfl) ?_
    refine wp_imul (pc' := 70) rfl rfl (by first | exact w32_id (by omega) (by omega) | rfl) ?_
    refine wp_icmp_ge (pc' := 73) (pt := 175) rfl rfl rfl (fun q_1 => ?_) (fun q_1 => ?_)
    · skip
      exfalso; omega
    · skip
      refine wp_iconst (a := 1) (pc' := 74) rfl rfl rfl ?_
      refine wp_istore (pc' := 76) rfl rfl (Nat.le_of_ble_eq_true rfl) rfl ?_
      dsimp only [lset, lset2, List.set, List.getElem?_cons_zero, List.getElem?_cons_succ]
      refine l_relax (w := w1) (A0 := A0) hT (by rw [e1]; exact hc) (by rw [e1]; exact hto) (cell := y) (by rw [e1]; exact ⟨h0, by omega⟩) (fun w2 A2 more2 y2 x62 x72 hS2 hR2 hK2 hP2 => ?_) 4 0 _ more A w1 _ _ rfl rfl (Same.rf _ _) (by rw [e1]; exact hR) (by rw [e1, e9]; exact hK) (by rw [e1, e9]; exact hP)
      rw [e1] at hR2
      rw [e1, e9] at hK2 hP2
      refine wp_iinc (pc' := 172) rfl rfl rfl (inc_id (by omega) (by omega)) rfl ?_
      dsimp only [lset, lset2, List.set, List.getElem?_cons_zero, List.getElem?_cons_succ]
      refine wp_goto (pc' := 59) rfl rfl ?_
      exact ih (y + 1) _ A2 w2 _ _ _ (by omega) (by omega) (hS.tr hS2) hR2 hK2 hP2.row
theorem phi_nn {c l mt cl to : Int} {A : Int → Int} (h : KI c l mt cl to A) (hc : CL c l) : 0 ≤ PhiA c l A := by
  have hm := hc.mul
  exact sumN_nn (fun j a b => by
    have := (h.1 j ⟨a, by omega⟩).1
    unfold bv
    split <;> omega)
set_option maxRecDepth 20000 in
set_option maxHeartbeats 4000000 in
theorem l_passes {w : Hp} {d : Nat} {to cl : Int} (hT0 : Stc w) (hc : CL (w 100 11) (w 100 12)) (hto : Cel (w 100 11) (w 100 12) to) : ∀ (k : Nat) (A : Int → Int) (w1 : Hp) (x4 x5 x6 x7 : Option PV), PhiA (w 100 11) (w 100 12) A ≤ k → 0 ≤ PhiA (w 100 11) (w 100 12) A → Same w w1 [121] → Rel (w 100 11) (w 100 12) (w1 121) A → KI (w 100 11) (w 100 12) (w 109 0) cl to A → WP SH (d + 1) 216 50 [some (vR 100), some (vI to), some (vI cl), some (vI 1), x4, x5, x6, x7] [] w1 (fun v w' => v = none ∧ Same w w' [121] ∧ ∃ A : Int → Int, Rel (w 100 11) (w 100 12) (w' 121) A ∧ KI (w 100 11) (w 100 12) (w 109 0) cl to A ∧ (to ≠ w 109 0 → SP (w 100 11) (w 100 12) (w 109 0) cl to A)) := by
  intro k
  induction k with
  | zero =>
    intro A w1 x4 x5 x6 x7 hph hp0 hS hR hK
    have hT := hT0.same hS (by decide)
    have e1 : w1 100 = w 100 := hS 100 (by decide)
    have e9 : w1 109 = w 109 := hS 109 (by decide)
    have hml := hc.mul
    have hml0 : w1 100 11 * w1 100 12 = w 100 11 * w 100 12 := by rw [e1]
    have e90 : w1 109 0 = w 109 0 := by rw [e9]
    refine wp_iload_n (pc' := 51) rfl rfl rfl ?_
    refine wp_if_eq (pc' := 54) (pt := 178) rfl rfl rfl (fun q_1 => absurd q_1 (by decide)) (fun q_1 => ?_)
    refine wp_iconst (a := 0) (pc' := 55) rfl rfl rfl ?_
    refine wp_istore_n (pc' := 56) rfl rfl (Nat.le_of_ble_eq_true rfl) rfl ?_
    dsimp only [lset, lset2, List.set, List.getElem?_cons_zero, List.getElem?_cons_succ]
    refine wp_iconst (a := 0) (pc' := 57) rfl rfl rfl ?_
    refine wp_istore (pc' := 59) rfl rfl (Nat.le_of_ble_eq_true rfl) rfl ?_
    dsimp only [lset, lset2, List.set, List.getElem?_cons_zero, List.getElem?_cons_succ]
    refine l_pass (w := w1) (A0 := A) hT (by rw [e1]; exact hc) (by rw [e1]; exact hto) (fun w2 A2 more2 y2 x52 x62 x72 hS2 hR2 hK2 hP2 => ?_) (w1 100 11 * w1 100 12).toNat 0 0 A w1 _ _ _ (by decide) (by omega) (Same.rf _ _) (by rw [e1]; exact hR) (by rw [e1, e9]; exact hK) (Or.inl ⟨rfl, rfl, fun z w9 hz _ _ hzw => by have := hz.1; omega⟩)
    rw [e1] at hR2
    rw [e1, e9] at hK2 hP2
    refine wp_goto (pc' := 50) rfl rfl ?_
    rcases hP2 with ⟨hm0, hA2, hno⟩ | ⟨hm1, hlt⟩
    · subst hm0
      refine wp_iload_n (pc' := 51) rfl rfl rfl ?_
      refine wp_if_eq (pc' := 54) (pt := 178) rfl rfl rfl (fun q_42 => ?_) (fun q_42 => absurd (by decide) q_42)
      refine wp_ret rfl rfl rfl ?_
      refine ⟨rfl, hS.tr hS2, A2, hR2, hK2, fun ht => hK2.done ht (fun x z hx z1 z4 => ?_)⟩
      rw [hA2]
      exact hno x z hx z1 z4 (Or.inl hx.2)
    · exfalso
      have := phi_nn hK2 hc
      omega
  | succ k ih =>
    intro A w1 x4 x5 x6 x7 hph hp0 hS hR hK
    have hT := hT0.same hS (by decide)
    have e1 : w1 100 = w 100 := hS 100 (by decide)
    have e9 : w1 109 = w 109 := hS 109 (by decide)
    have hml := hc.mul
    have hml0 : w1 100 11 * w1 100 12 = w 100 11 * w 100 12 := by rw [e1]
    have e90 : w1 109 0 = w 109 0 := by rw [e9]
    refine wp_iload_n (pc' := 51) rfl rfl rfl ?_
    refine wp_if_eq (pc' := 54) (pt := 178) rfl rfl rfl (fun q_1 => absurd q_1 (by decide)) (fun q_1 => ?_)
    refine wp_iconst (a := 0) (pc' := 55) rfl rfl rfl ?_
    refine wp_istore_n (pc' := 56) rfl rfl (Nat.le_of_ble_eq_true rfl) rfl ?_
    dsimp only [lset, lset2, List.set, List.getElem?_cons_zero, List.getElem?_cons_succ]
    refine wp_iconst (a := 0) (pc' := 57) rfl rfl rfl ?_
    refine wp_istore (pc' := 59) rfl rfl (Nat.le_of_ble_eq_true rfl) rfl ?_
    dsimp only [lset, lset2, List.set, List.getElem?_cons_zero, List.getElem?_cons_succ]
    refine l_pass (w := w1) (A0 := A) hT (by rw [e1]; exact hc) (by rw [e1]; exact hto) (fun w2 A2 more2 y2 x52 x62 x72 hS2 hR2 hK2 hP2 => ?_) (w1 100 11 * w1 100 12).toNat 0 0 A w1 _ _ _ (by decide) (by omega) (Same.rf _ _) (by rw [e1]; exact hR) (by rw [e1, e9]; exact hK) (Or.inl ⟨rfl, rfl, fun z w9 hz _ _ hzw => by have := hz.1; omega⟩)
    rw [e1] at hR2
    rw [e1, e9] at hK2 hP2
    refine wp_goto (pc' := 50) rfl rfl ?_
    rcases hP2 with ⟨hm0, hA2, hno⟩ | ⟨hm1, hlt⟩
    · subst hm0
      refine wp_iload_n (pc' := 51) rfl rfl rfl ?_
      refine wp_if_eq (pc' := 54) (pt := 178) rfl rfl rfl (fun q_42 => ?_) (fun q_42 => absurd (by decide) q_42)
      refine wp_ret rfl rfl rfl ?_
      refine ⟨rfl, hS.tr hS2, A2, hR2, hK2, fun ht => hK2.done ht (fun x z hx z1 z4 => ?_)⟩
      rw [hA2]
      exact hno x z hx z1 z4 (Or.inl hx.2)
    · subst hm1
      exact ih A2 w2 _ _ _ _ (by omega) (phi_nn hK2 hc) (hS.tr hS2) hR2 hK2
set_option maxRecDepth 20000 in
set_option maxHeartbeats 4000000 in
theorem c_Mod_laySteps {w : Hp} {d : Nat} {to cl : Int} (hT0 : Stc w) (hc : CL (w 100 11) (w 100 12)) (hto : Cel (w 100 11) (w 100 12) to) : WP SH (d + 1) 216 0 [some (vR 100), some (vI to), some (vI cl), none, none, none, none, none] [] w (fun v w' => v = none ∧ Same w w' [121] ∧ ∃ A : Int → Int, Rel (w 100 11) (w 100 12) (w' 121) A ∧ KI (w 100 11) (w 100 12) (w 109 0) cl to A ∧ (to ≠ w 109 0 → SP (w 100 11) (w 100 12) (w 109 0) cl to A)) := by
  refine wp_iconst (a := 0) (pc' := 1) rfl rfl rfl ?_
  refine wp_istore_n (pc' := 2) rfl rfl (Nat.le_of_ble_eq_true rfl) rfl ?_
  dsimp only [lset, lset2, List.set, List.getElem?_cons_zero, List.getElem?_cons_succ]
  have hml := hc.mul
  refine l_lay1s hT0 hc hto (fun w1 hS1 hz1 => ?_) (w 100 11 * w 100 12).toNat 0 w (by decide) (by omega) (Same.rf _ _) (fun j a b => absurd b (by omega))
  refine wp_iconst (a := 1) (pc' := 49) rfl rfl rfl ?_
  refine wp_istore_n (pc' := 50) rfl rfl (Nat.le_of_ble_eq_true rfl) rfl ?_
  dsimp only [lset, lset2, List.set, List.getElem?_cons_zero, List.getElem?_cons_succ]
  obtain ⟨A, hA⟩ : ∃ A : Int → Int, A = fun x => if x = to ∧ to ≠ w 109 0 then 0 else -1 := ⟨_, rfl⟩
  have hst := KI.start (cl := cl) (mt := w 109 0) (A := A) hc hto (fun x _ => by rw [hA])
  exact l_passes hT0 hc hto 2500 A w1 _ _ _ _ hst.2 (phi_nn hst.1 hc) hS1 (fun x hx => by
    rw [hz1 x hx, hA]
    dsimp only
    split <;> rfl) hst.1
set_option maxRecDepth 20000 in
set_option maxHeartbeats 4000000 in
theorem c_Paths_steps {w : Hp} {d : Nat} {fr to cl : Int} (hT0 : Stc w) (hc : CL (w 3 0) (w 3 1)) (hto : Cel (w 3 0) (w 3 1) to) (hfr : Cel (w 3 0) (w 3 1) fr) : WP SH (d + 2) 50 0 [some (vR 47), some (vR 3), some (vI fr), some (vI to), some (vI cl), none, none] [] w (fun v w' => Same w w' WQ ∧ ((v = some (vI (-1)) ∧ (fr = w 3 3 ∨ to = w 3 3)) ∨ (fr ≠ w 3 3 ∧ to ≠ w 3 3 ∧ SP (w 3 0) (w 3 1) (w 3 3) cl to (w' 48) ∧ (∀ x : Int, Cel (w 3 0) (w 3 1) x → w' 48 x ≤ 25) ∧ v = some (vI (w' 48 fr))))) := by
  refine wp_iconst (a := 0) (pc' := 1) rfl rfl rfl ?_
  refine wp_istore (pc' := 3) rfl rfl (Nat.le_of_ble_eq_true rfl) rfl ?_
  dsimp only [lset, lset2, List.set, List.getElem?_cons_zero, List.getElem?_cons_succ]
  have hml := hc.mul
  have htd := hto.dm hc
  refine l_steps1 hT0 hc (fun w1 hS1 hz1 => ?_) (w 3 0 * w 3 1).toNat 0 w (by decide) (by omega) (Same.rf _ _) (fun j a b => absurd b (by omega))
  have hT1 := hT0.same hS1 (by decide)
  have e33 : w1 3 3 = w 3 3 := by rw [hS1 3 (by decide)]
  refine wp_iload_n (pc' := 27) rfl rfl rfl ?_
  refine wp_aload_n (pc' := 28) rfl rfl rfl (by decide) ?_
  refine wp_getI (ci := 3) (k0 := 3) (pc' := 31) rfl rfl (by decide) (by first | assumption | rfl) ?_
  refine wp_icmp_eq (pc' := 34) (pt := 42) rfl rfl rfl (fun q_21 => ?_) (fun q_21 => ?_)
  · skip
    refine wp_iconst (a := -1) (pc' := 43) rfl rfl rfl ?_
    refine wp_ret rfl rfl rfl ?_
    exact ⟨hS1, Or.inl ⟨rfl, by omega⟩⟩
  · skip
    refine wp_iload_n (pc' := 35) rfl rfl rfl ?_
    refine wp_aload_n (pc' := 36) rfl rfl rfl (by decide) ?_
    refine wp_getI (ci := 3) (k0 := 3) (pc' := 39) rfl rfl (by decide) (by first | assumption | rfl) ?_
    refine wp_icmp_ne (pc' := 42) (pt := 44) rfl rfl rfl (fun q_22 => ?_) (fun q_22 => ?_)
    · skip
      refine wp_aload_n (pc' := 45) rfl rfl rfl (by decide) ?_
      refine wp_getR (r' := 48) (ci := 4) (k0 := 0) (pc' := 48) rfl rfl (by decide) (by first | assumption | rfl) (hT1.get 62 rfl) ?_
      refine wp_iload_n (pc' := 49) rfl rfl rfl ?_
      refine wp_iconst (a := 0) (pc' := 50) rfl rfl rfl ?_
      refine wp_iastore (pc' := 51) rfl rfl (by first | assumption | rfl) (by omega) ?_
      refine wp_stc (hT1.putA (by decide)) (fun hT => ?_)
      refine wp_aload_n (pc' := 52) rfl rfl rfl (by decide) ?_
      refine wp_getR (r' := 49) (ci := 4) (k0 := 1) (pc' := 55) rfl rfl (by decide) (by first | assumption | rfl) (hT.get 63 rfl) ?_
      refine wp_iconst (a := 0) (pc' := 56) rfl rfl rfl ?_
      refine wp_iload_n (pc' := 57) rfl rfl rfl ?_
      refine wp_iastore (pc' := 58) rfl rfl (by first | assumption | rfl) (by omega) ?_
      refine wp_iconst (a := 1) (pc' := 59) rfl rfl rfl ?_
      refine wp_istore (pc' := 61) rfl rfl (Nat.le_of_ble_eq_true rfl) rfl ?_
      dsimp only [lset, lset2, List.set, List.getElem?_cons_zero, List.getElem?_cons_succ]
      refine wp_iconst (a := 0) (pc' := 62) rfl rfl rfl ?_
      refine wp_istore (pc' := 64) rfl rfl (Nat.le_of_ble_eq_true rfl) rfl ?_
      dsimp only [lset, lset2, List.set, List.getElem?_cons_zero, List.getElem?_cons_succ]
      have hSu : Same w (up (up w1 48 to 0) 49 0 to) WQ := (hS1.put (by decide)).put (by decide)
      refine (l_steps2 (w := w) (fr := fr) hT0 hc hto hfr 25 0 1 _ (by decide) (by decide) hSu ?_ (fun x hx => ?_)).mono (fun v w' hq => ⟨hq.1, Or.inr ⟨by omega, by omega, hq.2.1, hq.2.2.1, hq.2.2.2⟩⟩)
      · refine BI.start hc hto (fun x hx => ?_) (up_eq _ _ _ _)
        rw [up_ne (by decide)]
        by_cases hxt : x = to
        · rw [if_pos hxt, hxt, up_eq]
        · rw [if_neg hxt, up_at hxt]
          exact hz1 x hx.1 hx.2
      · rw [up_ne (by decide)]
        by_cases hxt : x = to
        · rw [hxt, up_eq]; decide
        · rw [up_at hxt, hz1 x hx.1 hx.2]; decide
    · skip
      refine wp_iconst (a := -1) (pc' := 43) rfl rfl rfl ?_
      refine wp_ret rfl rfl rfl ?_
      exact ⟨hS1, Or.inl ⟨rfl, by omega⟩⟩
