/-! the cells after both constructors: shapes, what each reference holds; arithmetic that does not wrap -/
def SH : Shp := [(0, 9), (5, 6), (5, 4), (0, 3), (1, 6), (1, 6), (1, 6), (1, 40), (1, 40), (1, 40), (1, 40), (1, 40), (0, 3), (1, 6), (1, 6), (1, 6), (1, 40), (1, 40), (1, 40), (1, 40), (1, 40), (6, 3), (0, 6), (0, 0), (1, 6), (1, 5), (0, 8), (1, 125), (0, 5), (1, 25), (7, 6), (1, 125), (1, 125), (1, 125), (1, 125), (1, 125), (1, 125), (7, 7), (1, 25), (1, 25), (1, 25), (1, 25), (1, 25), (1, 25), (1, 25), (0, 2), (1, 31), (0, 4), (1, 25), (1, 25), (0, 1), (2, 5), (1, 6), (0, 7), (1, 40), (0, 7), (1, 40), (0, 7), (1, 40), (0, 7), (1, 40), (0, 7), (1, 40), (0, 7), (1, 40), (0, 7), (1, 60), (0, 7), (1, 60), (0, 7), (1, 60), (0, 7), (1, 60), (0, 3), (1, 6), (1, 6), (1, 6), (1, 40), (1, 40), (1, 40), (1, 40), (1, 40), (0, 3), (1, 6), (1, 6), (1, 6), (1, 40), (1, 40), (1, 40), (1, 40), (1, 40), (0, 3), (1, 6), (1, 6), (1, 6), (1, 40), (1, 40), (1, 40), (1, 40), (1, 40), (0, 10), (1, 6), (1, 6), (1, 240), (1, 40), (1, 4), (3, 240), (1, 6), (1, 6), (1, 9), (1, 9), (1, 4), (1, 24), (1, 5), (1, 360), (4, 3), (1, 3), (1, 27), (1, 1080), (1, 125), (1, 5), (1, 25), (1, 25), (1, 25)]
def refTab : List (Int × Int × Int) := [(0, 0, 1), (0, 1, 2), (0, 2, 3), (0, 3, 12), (0, 4, 21), (0, 5, 22), (0, 6, 23), (0, 7, 26), (0, 8, 28), (0, 9, 45), (0, 10, 47), (0, 11, 50), (0, 12, 52), (1, 0, 53), (1, 1, 55), (1, 2, 57), (1, 3, 59), (1, 4, 61), (1, 5, 63), (2, 0, 65), (2, 1, 67), (2, 2, 69), (2, 3, 71), (3, 7, 4), (3, 8, 5), (3, 9, 6), (3, 10, 7), (3, 11, 8), (3, 12, 9), (3, 13, 10), (3, 14, 11), (12, 7, 13), (12, 8, 14), (12, 9, 15), (12, 10, 16), (12, 11, 17), (12, 12, 18), (12, 13, 19), (12, 14, 20), (21, 0, 73), (21, 1, 82), (21, 2, 91), (23, 0, 24), (23, 1, 25), (26, 3, 27), (28, 0, 29), (28, 1, 30), (28, 2, 37), (30, 0, 31), (30, 1, 32), (30, 2, 33), (30, 3, 34), (30, 4, 35), (30, 5, 36), (37, 0, 38), (37, 1, 39), (37, 2, 40), (37, 3, 41), (37, 4, 42), (37, 5, 43), (37, 6, 44), (45, 1, 46), (47, 0, 48), (47, 1, 49), (50, 2, 51), (53, 0, 54), (55, 0, 56), (57, 0, 58), (59, 0, 60), (61, 0, 62), (63, 0, 64), (65, 0, 66), (67, 0, 68), (69, 0, 70), (71, 0, 72), (73, 7, 74), (73, 8, 75), (73, 9, 76), (73, 10, 77), (73, 11, 78), (73, 12, 79), (73, 13, 80), (73, 14, 81), (82, 7, 83), (82, 8, 84), (82, 9, 85), (82, 10, 86), (82, 11, 87), (82, 12, 88), (82, 13, 89), (82, 14, 90), (91, 7, 92), (91, 8, 93), (91, 9, 94), (91, 10, 95), (91, 11, 96), (91, 12, 97), (91, 13, 98), (91, 14, 99), (100, 1, 101), (100, 5, 102), (100, 6, 103), (100, 7, 104), (100, 8, 105), (100, 9, 106), (100, 13, 107), (100, 14, 108), (100, 15, 109), (100, 16, 110), (100, 20, 111), (100, 21, 112), (100, 22, 113), (100, 24, 114), (100, 25, 115), (100, 26, 116), (100, 27, 117), (100, 28, 118), (100, 29, 119), (100, 30, 120), (100, 31, 121), (100, 32, 122), (100, 33, 123)]
/-- the references that never change (all but Reader.source) -/
def Stc (w : Hp) : Prop := ∀ q ∈ refTab, w q.1 q.2.1 = q.2.2
theorem Stc.get {w : Hp} (h : Stc w) (i : Nat) {r k v : Int} (hi : refTab[i]? = some (r, k, v)) : w r k = v := h (r, k, v) (List.mem_of_getElem? hi)
theorem Stc.putA {w : Hp} (h : Stc w) {r i x : Int} (hr : refTab.all (fun q => decide (q.1 ≠ r)) = true) : Stc (up w r i x) := by
  intro q hq
  have h1 := of_decide_eq_true (List.all_eq_true.mp hr q hq)
  unfold up
  rw [if_neg (fun z => h1 z.1)]
  exact h q hq
theorem Stc.putF {w : Hp} (h : Stc w) {r i x : Int} (hr : refTab.all (fun q => decide (q.1 ≠ r ∨ q.2.1 ≠ i)) = true) : Stc (up w r i x) := by
  intro q hq
  have h1 := of_decide_eq_true (List.all_eq_true.mp hr q hq)
  unfold up
  rw [if_neg (fun z => h1.elim (fun y => y z.1) (fun y => y z.2))]
  exact h q hq
theorem w32_id {z : Int} (h1 : -2147483648 ≤ z) (h2 : z < 2147483648) : w32 z = z := by
  unfold w32
  rw [Int.bmod_eq_of_le] <;> omega
theorem w64_id {z : Int} (h1 : -9223372036854775808 ≤ z) (h2 : z < 9223372036854775808) : w64 z = z := by
  unfold w64
  rw [Int.bmod_eq_of_le] <;> omega
theorem div_lt {a b : Int} (h0 : 0 ≤ a) (hb : 0 < b) : 0 ≤ a / b ∧ a / b ≤ a := ⟨Int.ediv_nonneg h0 (Int.le_of_lt hb), Int.ediv_le_self b h0⟩
theorem iDiv_pos {a b : Int} (h0 : 0 ≤ a) (h1 : a < 2147483648) (hb : 0 < b) : iDiv a b = a / b := by
  unfold iDiv
  rw [Int.tdiv_eq_ediv_of_nonneg h0]
  have := div_lt h0 hb
  exact w32_id (by omega) (by omega)
theorem mod_eq {a b : Int} : a - a / b * b = a % b := by
  have h := Int.emod_add_mul_ediv a b
  rw [Int.mul_comm] at h
  omega
theorem iRem_pos {a b : Int} (h0 : 0 ≤ a) (h1 : a < 2147483648) (hb : 0 < b) : iRem a b = a % b := by
  unfold iRem
  rw [iDiv_pos h0 h1 hb]
  have h2 := Int.emod_nonneg a (by omega : b ≠ 0)
  have h3 := @mod_eq a b
  have h4 := div_lt h0 hb
  have h5 : 0 ≤ a / b * b := Int.mul_nonneg h4.1 (Int.le_of_lt hb)
  rw [w32_id (z := a / b * b) (by omega) (by omega), w32_id (by omega) (by omega)]
  exact h3
theorem lDiv_pos {a b : Int} (h0 : 0 ≤ a) (h1 : a < 9223372036854775808) (hb : 0 < b) : lDiv a b = a / b := by
  unfold lDiv
  rw [Int.tdiv_eq_ediv_of_nonneg h0]
  have := div_lt h0 hb
  exact w64_id (by omega) (by omega)
theorem lRem_pos {a b : Int} (h0 : 0 ≤ a) (h1 : a < 9223372036854775808) (hb : 0 < b) : lRem a b = a % b := by
  unfold lRem
  rw [lDiv_pos h0 h1 hb]
  have h2 := Int.emod_nonneg a (by omega : b ≠ 0)
  have h3 := @mod_eq a b
  have h4 := div_lt h0 hb
  have h5 : 0 ≤ a / b * b := Int.mul_nonneg h4.1 (Int.le_of_lt hb)
  rw [w64_id (z := a / b * b) (by omega) (by omega), w64_id (by omega) (by omega)]
  exact h3
theorem wp_swE {sh : Shp} {d mi pc pt pc0 len pos : Nat} {x : Int} {ls : PL} {st : List PV} {w : Hp} {Q : Option PV → Hp → Prop} {a dflt lo hi o : Int} {offs : Array Int} (k0 : Int) (h : rowOf mi pc = some (pc0, .tableswitch dflt lo hi offs, len, x, pos)) (hk : ¬ (k0 < lo ∨ hi < k0)) (ho : offs[(k0 - lo).toNat]? = some o) (hp : ((pc : Int) + o).toNat = pt) (kin : a = k0 → WP sh d mi pt ls st w Q) (kel : a ≠ k0 → WP sh d mi pc ls (vI a :: st) w Q) : WP sh d mi pc ls (vI a :: st) w Q := by
  by_cases hc : a = k0
  · have k1 := kin hc
    subst hc
    exact wp_swIn h hk ho hp k1
  · exact kel hc
