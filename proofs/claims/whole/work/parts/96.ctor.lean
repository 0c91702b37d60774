/-! the constructors: the kernel runs them over a closed heap -/
def chkTab : List (Int × Int × Int) := [(0, 13, 0), (100, 0, 0), (52, 1, 0), (52, 2, 0), (52, 3, 0), (52, 4, 0), (52, 5, 0), (101, 1, 0), (101, 2, 0), (101, 3, 0), (101, 4, 0), (101, 5, 0), (50, 0, 0), (100, 3, 0), (50, 1, 1), (100, 4, 1), (0, 14, 0), (100, 2, 0), (53, 1, -1), (55, 1, -1), (57, 1, -1), (59, 1, -1), (61, 1, -1), (63, 1, -1), (102, 0, -1), (102, 1, -1), (102, 2, -1), (102, 3, -1), (102, 4, -1), (102, 5, -1), (65, 1, -1), (67, 1, -1), (69, 1, -1), (71, 1, -1), (105, 0, -1), (105, 1, -1), (105, 2, -1), (105, 3, -1), (3, 0, 0), (3, 1, 0), (3, 2, 0), (3, 3, 0), (3, 4, 0), (3, 5, 0), (3, 6, 0), (100, 10, 0), (100, 11, 0), (100, 12, 0), (100, 23, 0), (109, 0, 0), (109, 1, 0), (109, 2, 0), (115, 0, 0), (115, 1, 0), (115, 2, 0), (73, 0, 0), (82, 0, 0), (91, 0, 0), (31, 0, 0), (31, 1, 0), (31, 2, 0), (31, 3, 0), (31, 4, 0), (31, 5, 0), (31, 6, 0), (31, 7, 0), (31, 8, 0), (31, 9, 0), (31, 10, 0), (31, 11, 0), (31, 12, 0), (31, 13, 0), (31, 14, 0), (31, 15, 0), (31, 16, 0), (31, 17, 0), (31, 18, 0), (31, 19, 0), (31, 20, 0), (31, 21, 0), (31, 22, 0), (31, 23, 0), (31, 24, 0), (31, 25, 0), (31, 26, 0), (31, 27, 0), (31, 28, 0), (31, 29, 0), (31, 30, 0), (31, 31, 0), (31, 32, 0), (31, 33, 0), (31, 34, 0), (31, 35, 0), (31, 36, 0), (31, 37, 0), (31, 38, 0), (31, 39, 0), (31, 40, 0), (31, 41, 0), (31, 42, 0), (31, 43, 0), (31, 44, 0), (31, 45, 0), (31, 46, 0), (31, 47, 0), (31, 48, 0), (31, 49, 0), (31, 50, 0), (31, 51, 0), (31, 52, 0), (31, 53, 0), (31, 54, 0), (31, 55, 0), (31, 56, 0), (31, 57, 0), (31, 58, 0), (31, 59, 0), (31, 60, 0), (31, 61, 0), (31, 62, 0), (31, 63, 0), (31, 64, 0), (31, 65, 0), (31, 66, 0), (31, 67, 0), (31, 68, 0), (31, 69, 0), (31, 70, 0), (31, 71, 0), (31, 72, 0), (31, 73, 0), (31, 74, 0), (31, 75, 0), (31, 76, 0), (31, 77, 0), (31, 78, 0), (31, 79, 0), (31, 80, 0), (31, 81, 0), (31, 82, 0), (31, 83, 0), (31, 84, 0), (31, 85, 0), (31, 86, 0), (31, 87, 0), (31, 88, 0), (31, 89, 0), (31, 90, 0), (31, 91, 0), (31, 92, 0), (31, 93, 0), (31, 94, 0), (31, 95, 0), (31, 96, 0), (31, 97, 0), (31, 98, 0), (31, 99, 0), (31, 100, 0), (31, 101, 0), (31, 102, 0), (31, 103, 0), (31, 104, 0), (31, 105, 0), (31, 106, 0), (31, 107, 0), (31, 108, 0), (31, 109, 0), (31, 110, 0), (31, 111, 0), (31, 112, 0), (31, 113, 0), (31, 114, 0), (31, 115, 0), (31, 116, 0), (31, 117, 0), (31, 118, 0), (31, 119, 0), (31, 120, 0), (31, 121, 0), (31, 122, 0), (31, 123, 0), (31, 124, 0)]
def nw (x : Nat) (w : Hp) (r : Int) : Hp := fill w r (fun j => if fk x j.toNat = 2 then -1 else 0)
def zz : Hp := fun r _ => if r < 0 then -1 else 0
def zA : Hp := nw 9 zz 0
def SHA : Shp := SH.take 100
def ctX : Option (Option PV × Shp × Hp) := ev 2000 9 79 0 (entryLs 79 [vR 0]) [] [(0, 9)] zA
def ctM (z : Hp) : Option (Option PV × Shp × Hp) := ev 2000 9 136 0 (entryLs 136 [vR 100]) [] (SHA ++ [(0, 10)]) (nw 10 z 100)
def isNone (v : Option PV) : Bool := match v with | none => true | some _ => false
def ctOk : Bool := match ctX with
  | some (v, sh, z) => isNone v && decide (sh = SHA) && (match ctM z with
    | some (v2, sh2, z2) => isNone v2 && decide (sh2 = SH) && (refTab ++ chkTab).all (fun q => decide (z2 q.1 q.2.1 = q.2.2))
    | none => false)
  | none => false
set_option maxRecDepth 100000 in
theorem ctOk_t : ctOk = true := by decide +kernel
theorem nw_ag {w z : Hp} {g : Int → Int → Int} (h : Ag w z g) {x : Nat} {r : Int} (hr : 0 ≤ r) : Ag (nw x w r) (nw x z r) g := by
  refine ⟨fun q hq => ?_, fun q hq => ?_, fun q hq => ?_⟩
  · funext j
    unfold nw fill
    rw [h.1 q hq]
  · unfold nw fill
    rw [if_neg (by omega)]; exact h.2.1 q hq
  · funext j
    unfold nw fill
    rw [if_neg (by omega), h.2.2 q hq]
theorem isNone_t {v : Option PV} (h : isNone v = true) : v = none := by
  cases v with
  | none => rfl
  | some _ => cases h
theorem ct_run (L : Nat) (xs : Nat → Int32) : ∃ wX wM : Hp, ev 2000 9 79 0 (entryLs 79 [vR 0]) [] [(0, 9)] (nw 9 (w0 L xs) 0) = some (none, SHA, wX) ∧ ev 2000 9 136 0 (entryLs 136 [vR 100]) [] (SHA ++ [(0, 10)]) (nw 10 wX 100) = some (none, SH, wM) ∧ (∀ q ∈ refTab ++ chkTab, wM q.1 q.2.1 = q.2.2) ∧ ∀ r : Int, r < 0 → wM r = w0 L xs r := by
  have hA0 : Ag (w0 L xs) zz (w0 L xs) := by
    refine ⟨fun r hr => ?_, fun r hr => ?_, fun r _ => rfl⟩
    · funext j
      unfold w0 zz
      rw [if_neg (by omega), if_neg (by omega), if_neg (by omega), if_neg (by omega), if_neg (by omega)]
    · unfold zz
      rw [if_pos hr]
  have h := ctOk_t
  unfold ctOk at h
  cases hX : ctX with
  | none => rw [hX] at h; cases h
  | some q =>
    obtain ⟨v, sh, z⟩ := q
    rw [hX] at h
    simp only [Bool.and_eq_true] at h
    obtain ⟨⟨h1, h2⟩, h3⟩ := h
    obtain rfl := isNone_t h1
    obtain rfl := of_decide_eq_true h2
    obtain ⟨wX, e1, hA1⟩ := ev_agree _ _ _ _ _ _ _ _ _ _ _ _ _ (nw_ag hA0 (x := 9) (Int.le_refl 0)) hX
    cases hM : ctM z with
    | none => rw [hM] at h3; cases h3
    | some q2 =>
      obtain ⟨v2, sh2, z2⟩ := q2
      rw [hM] at h3
      simp only [Bool.and_eq_true] at h3
      obtain ⟨⟨k1, k2⟩, k3⟩ := h3
      obtain rfl := isNone_t k1
      obtain rfl := of_decide_eq_true k2
      obtain ⟨wM, e2, hA2⟩ := ev_agree _ _ _ _ _ _ _ _ _ _ _ _ _ (nw_ag hA1 (x := 10) (show (0 : Int) ≤ 100 by decide)) hM
      have hpos : (refTab ++ chkTab).all (fun q => decide (0 ≤ q.1)) = true := by decide +kernel
      refine ⟨wX, wM, e1, e2, fun q hq => ?_, hA2.2.2⟩
      rw [hA2.1 _ (of_decide_eq_true (List.all_eq_true.mp hpos q hq))]
      exact of_decide_eq_true (List.all_eq_true.mp k3 q hq)
def Chk (w : Hp) : Prop := ∀ q ∈ chkTab, w q.1 q.2.1 = q.2.2
theorem Chk.get {w : Hp} (h : Chk w) (i : Nat) {r k v : Int} (hi : chkTab[i]? = some (r, k, v)) : w r k = v := h (r, k, v) (List.mem_of_getElem? hi)
theorem ct_inv {w : Hp} (hT : Stc w) (hr : ROw w) (hc : Chk w) : Inv w := by
  refine ⟨hT, hr, ⟨?_, fun f f1 f5 => ?_, ?_, ?_, fun j j0 j1 => ?_⟩, ?_, fun r r0 r6 => ?_, fun t t0 t4 => ?_, Or.inl ?_, fun k k0 k3 => Or.inl ?_⟩
  · rw [hc.get 0 rfl, hc.get 1 rfl]
  · have : f = 1 ∨ f = 2 ∨ f = 3 ∨ f = 4 ∨ f = 5 := by omega
    rcases this with rfl | rfl | rfl | rfl | rfl
    · rw [hc.get 2 rfl, hc.get 7 rfl]
    · rw [hc.get 3 rfl, hc.get 8 rfl]
    · rw [hc.get 4 rfl, hc.get 9 rfl]
    · rw [hc.get 5 rfl, hc.get 10 rfl]
    · rw [hc.get 6 rfl, hc.get 11 rfl]
  · rw [hc.get 12 rfl, hc.get 13 rfl]
  · rw [hc.get 14 rfl, hc.get 15 rfl]
  · have hz : (List.range 125).all (fun i => decide (chkTab[58 + i]? = some (31, (i : Int), 0))) = true := by decide +kernel
    have h9 := of_decide_eq_true (List.all_eq_true.mp hz j.toNat (List.mem_range.mpr (by omega)))
    rw [Int.toNat_of_nonneg j0] at h9
    exact hc.get _ h9
  · unfold ITo
    rw [hc.get 16 rfl, hc.get 17 rfl]
  · have hb : w 102 r = -1 ∧ w (53 + 2 * r) 1 = -1 := by
      have : r = 0 ∨ r = 1 ∨ r = 2 ∨ r = 3 ∨ r = 4 ∨ r = 5 := by omega
      rcases this with rfl | rfl | rfl | rfl | rfl | rfl
      · exact ⟨hc.get 24 rfl, hc.get 18 rfl⟩
      · exact ⟨hc.get 25 rfl, hc.get 19 rfl⟩
      · exact ⟨hc.get 26 rfl, hc.get 20 rfl⟩
      · exact ⟨hc.get 27 rfl, hc.get 21 rfl⟩
      · exact ⟨hc.get 28 rfl, hc.get 22 rfl⟩
      · exact ⟨hc.get 29 rfl, hc.get 23 rfl⟩
    rw [hb.1, hb.2]
    exact ⟨rfl, by omega, fun j a b => absurd b (by omega)⟩
  · have hb : w 105 t = -1 ∧ w (65 + 2 * t) 1 = -1 := by
      have : t = 0 ∨ t = 1 ∨ t = 2 ∨ t = 3 := by omega
      rcases this with rfl | rfl | rfl | rfl
      · exact ⟨hc.get 34 rfl, hc.get 30 rfl⟩
      · exact ⟨hc.get 35 rfl, hc.get 31 rfl⟩
      · exact ⟨hc.get 36 rfl, hc.get 32 rfl⟩
      · exact ⟨hc.get 37 rfl, hc.get 33 rfl⟩
    rw [hb.1, hb.2]
    exact ⟨rfl, by omega, fun j a b => absurd b (by omega)⟩
  · exact ⟨hc.get 38 rfl, hc.get 39 rfl, hc.get 40 rfl, hc.get 41 rfl, hc.get 42 rfl, hc.get 43 rfl, hc.get 44 rfl, hc.get 45 rfl, hc.get 46 rfl, hc.get 47 rfl, hc.get 49 rfl, hc.get 50 rfl, hc.get 51 rfl, hc.get 48 rfl⟩
  · have : k = 0 ∨ k = 1 ∨ k = 2 := by omega
    rcases this with rfl | rfl | rfl
    · exact ⟨hc.get 52 rfl, hc.get 55 rfl⟩
    · exact ⟨hc.get 53 rfl, hc.get 56 rfl⟩
    · exact ⟨hc.get 54 rfl, hc.get 57 rfl⟩
/-- from here the machine answers 1; cells may be made -/
def EX (d mi pc : Nat) (ls : PL) (st : List PV) (sh : Shp) (w : Hp) : Prop := ∃ (n : Nat) (sh1 : Shp) (w1 : Hp), ev n d mi pc ls st sh w = some (some (vI 1), sh1, w1) ∧ sh1.length ≤ 600000 ∧ slotsOf sh1 ≤ 7302250
theorem ex_wp {d mi pc : Nat} {ls : PL} {st : List PV} {w : Hp} (h : WP SH d mi pc ls st w (fun v _ => v = some (vI 1))) : EX d mi pc ls st SH w := by
  obtain ⟨n, v, w', h1, h2⟩ := h
  subst h2
  exact ⟨n, SH, w', h1, by decide +kernel, by decide +kernel⟩
theorem ex_step {d mi pc pc0 len pos : Nat} {x : Int} {ins : Instr} {ls ls' : PL} {st st' : List PV} {sh : Shp} {w w' : Hp} {pc' : Nat} (h : rowOf mi pc = some (pc0, ins, len, x, pos)) (h1 : callOf ins x = none) (h2 : retOf mi ins st = none) (h3 : allocOf sh ins x st w = none) (h4 : step1 sh ins len x pc ls st w = some (pc', ls', st', w')) (k : EX d mi pc' ls' st' sh w') : EX d mi pc ls st sh w := by
  obtain ⟨n, sh1, w1, e1, e2⟩ := k
  refine ⟨n + 1, sh1, w1, ?_, e2⟩
  unfold ev
  simp only [h, h1, h2, h3, h4]
  exact e1
theorem ex_alloc {d mi pc pc0 len pos : Nat} {x : Int} {ins : Instr} {ls : PL} {st st' : List PV} {sh sh' : Shp} {w w' : Hp} {pc' : Nat} (h : rowOf mi pc = some (pc0, ins, len, x, pos)) (h1 : callOf ins x = none) (h2 : retOf mi ins st = none) (h3 : allocOf sh ins x st w = some (st', sh', w')) (hp : pc + len = pc') (k : EX d mi pc' ls st' sh' w') : EX d mi pc ls st sh w := by
  obtain ⟨n, sh1, w1, e1, e2⟩ := k
  subst hp
  refine ⟨n + 1, sh1, w1, ?_, e2⟩
  unfold ev
  simp only [h, h1, h2, h3]
  exact e1
theorem ex_call {d mi pc pc0 len pos j n1 : Nat} {x : Int} {ins : Instr} {ls : PL} {st as rest : List PV} {sh sh' : Shp} {w w' : Hp} {pc' : Nat} {v : Option PV} (h : rowOf mi pc = some (pc0, ins, len, x, pos)) (h1 : callOf ins x = some j) (hp : pc + len = pc') (ha : (st.take (mPop j)).reverse = as) (hr : st.drop (mPop j) = rest) (hc : mPop j ≤ st.length ∧ rest.length ≤ 4 ∧ j < 230 ∧ 0 < j ∧ (spread as).length ≤ mLoc j) (hv : recvOk sh j as = true) (hm : ev n1 d j 0 (entryLs j as) [] sh w = some (v, sh', w')) (k : EX (d + 1) mi pc' ls (v.toList ++ rest) sh' w') : EX (d + 1) mi pc ls st sh w := by
  subst ha hr hp
  obtain ⟨n2, sh2, w2, e2, q2⟩ := k
  refine ⟨max n1 n2 + 1, sh2, w2, ?_, q2⟩
  unfold ev
  simp only [h, h1]
  rw [if_pos ⟨hc.1, hc.2.1, hv, hc.2.2.1, hc.2.2.2.1, hc.2.2.2.2⟩, ev_le (Nat.le_max_left n1 n2) hm]
  exact ev_le (Nat.le_max_right n1 n2) e2
theorem pure_of (hloop : ∀ (L : Nat) (xs : Nat → Int32) (w : Hp), L ≤ 384 → Inv w → w (-2) = w0 L xs (-2) → WP SH 10 0 18 [some (vR (-2)), some (vR 0), some (vR 100), some (vI 0)] [] w (fun v _ => v = some (vI 1))) : PureMain := by
  intro L xs hL
  obtain ⟨wX, wM, e1, e2, hq, hneg⟩ := ct_run L xs
  have hr : ROw wM := by
    unfold ROw
    rw [hneg (-3) (by decide), hneg (-4) (by decide), hneg (-5) (by decide)]
    exact ⟨⟨rfl, rfl, rfl, rfl, rfl, rfl, rfl⟩, ⟨rfl, rfl, rfl, rfl, rfl, rfl, rfl⟩, ⟨rfl, rfl, rfl, rfl, rfl, rfl⟩⟩
  have hI := ct_inv (fun q h => hq q (List.mem_append_left _ h)) hr (fun q h => hq q (List.mem_append_right _ h))
  have hW := ex_wp (hloop L xs wM hL hI (hneg (-2) (by decide)))
  refine ex_alloc (pc' := 3) rfl rfl rfl rfl rfl ?_
  refine ex_step (pc' := 4) rfl rfl rfl rfl rfl ?_
  refine ex_call (pc' := 7) rfl rfl rfl rfl rfl ⟨Nat.le_of_ble_eq_true rfl, Nat.le_of_ble_eq_true rfl, Nat.le_of_ble_eq_true rfl, Nat.le_of_ble_eq_true rfl, Nat.le_of_ble_eq_true rfl⟩ rfl e1 ?_
  refine ex_step (pc' := 8) rfl rfl rfl rfl rfl ?_
  refine ex_alloc (pc' := 11) rfl rfl rfl rfl rfl ?_
  refine ex_step (pc' := 12) rfl rfl rfl rfl rfl ?_
  refine ex_call (pc' := 15) rfl rfl rfl rfl rfl ⟨Nat.le_of_ble_eq_true rfl, Nat.le_of_ble_eq_true rfl, Nat.le_of_ble_eq_true rfl, Nat.le_of_ble_eq_true rfl, Nat.le_of_ble_eq_true rfl⟩ rfl e2 ?_
  refine ex_step (pc' := 16) rfl rfl rfl rfl rfl ?_
  refine ex_step (pc' := 17) rfl rfl rfl rfl rfl ?_
  refine ex_step (pc' := 18) rfl rfl rfl rfl rfl ?_
  exact hW
