/-! THE CLAIM OUT OF ONE WALK OF THE LAW'S BODY. Your part is whole_start (and what it stands on); all else here is the same for every law, but numbers. -/
def R_law : String := "VotedHillLaw"
def lw_P (b : Addr) (xs : List Int32) (args : Array Value) (s : State) : Prop := args = #[.ref b] ∧ s.IntsAt b xs ∧ xs.length ≤ 384 ∧ (Jvm.Cond.and given_1 narrow_1).before args s = true
def lw_Q (_ : Array Value) (s : State) (o : Outcome) (t : State) : Prop := o = .returned (some (.int 1)) ∧ Framed s o t [] 600000 7302250
def lw_Z (below : List Frame) (a : Array Value) (s : State) : State → Prop := fun t => ∃ o, t.status = .running ∧ Ended t below o ∧ lw_Q a s o t
/-- the law's own end, with 1 on the stack, nothing written that was there before, its room as the claim has it -/
theorem lw_ret {p : Program} {l : Launch} {e : Env} {s : State} {m : MethodId} {below : List Frame} {meth : Method} {c : Code} {b : Nat} (hx : p.tables.exec = Jvm.exec) (hb : c.code = code) (hr : meth.sig.returnType = ret) (hlocks : meth.locks = false) {pc : Nat} {H : Heap} {ls : Array Slot} (hdg : decode code pc = .ok (.ireturn, 1)) : W p l e room_1 s m #[Value.ref b] below meth c H [] 600000 7302250 (lw_Z below #[Value.ref b] s) (F0 m pc ls [.int 1]) := by
  intro T hT X
  obtain ⟨fs, hret, hrun, hended, hW, hframe⟩ := X.leave (v := some (.int 1)) (hlocks := hlocks) (fun h => by rw [hr] at h; cases h)
  have hmeth' : T.vm.method? m = some meth := X.method'
  refine ⟨T.setFrames fs, ?_, .returned (some (.int 1)), hrun, hended, rfl, ⟨_, rfl⟩, hW, hframe⟩
  jvm_step X.here [X.here.top, hx, hb, hdg, hmeth', hr, ret, narrow_b1]
  (try refine ⟨rfl, ?_⟩); (try refine ⟨rfl, ?_⟩)
  first | (intro acts; rw [hret _ acts rfl rfl rfl]) | rw [hret _ _ rfl rfl rfl]
  exact Steps.refl _
/-- what holds at the law's entry: the machine, the code, the tables' words (any of lw_tbl by 'hts w (by decide +kernel)'), the script of L ints xs at the cell b, what the Statement gives of the start (any of its parts by flat_of_before) -/
def lw_At (p : Program) (s : State) (m : MethodId) (meth : Method) (c : Code) (b L : Nat) (xs : Nat → Int32) : Prop :=
  p.tables.exec = Jvm.exec ∧ c.code = code ∧ meth.sig.returnType = ret ∧ c.maxLocals = 4 ∧ s.vm.findClass R_law = some m.cls ∧ (∀ w ∈ lw_tbl, w.before #[Value.ref b] s = true) ∧ va_X b L xs s s.heap ∧ b < s.heap.size ∧ meth.locks = false ∧ (Jvm.Cond.and given_1 narrow_1).before #[Value.ref b] s = true
theorem nr3_0 : Cond.eq (.elem (Term.static "VotedHill$Reader" "KIND_LETTERS" "[C") (.int 0)) (.int 102) ∈ flatC (Jvm.Cond.and given_1 narrow_1) := by decide +kernel
theorem nr3_1 : Cond.eq (.elem (Term.static "VotedHill$Reader" "KIND_LETTERS" "[C") (.int 1)) (.int 118) ∈ flatC (Jvm.Cond.and given_1 narrow_1) := by decide +kernel
theorem nr3_2 : Cond.eq (.elem (Term.static "VotedHill$Reader" "KIND_LETTERS" "[C") (.int 2)) (.int 119) ∈ flatC (Jvm.Cond.and given_1 narrow_1) := by decide +kernel
theorem nr3_3 : Cond.eq (.elem (Term.static "VotedHill$Reader" "KIND_LETTERS" "[C") (.int 3)) (.int 103) ∈ flatC (Jvm.Cond.and given_1 narrow_1) := by decide +kernel
theorem nr3_4 : Cond.eq (.elem (Term.static "VotedHill$Reader" "KIND_LETTERS" "[C") (.int 4)) (.int 109) ∈ flatC (Jvm.Cond.and given_1 narrow_1) := by decide +kernel
theorem nr3_5 : Cond.eq (.elem (Term.static "VotedHill$Reader" "KIND_LETTERS" "[C") (.int 5)) (.int 104) ∈ flatC (Jvm.Cond.and given_1 narrow_1) := by decide +kernel
theorem nr3_a : Cond.arrayOf (Term.static "VotedHill$Reader" "KIND_LETTERS" "[C") .char ∈ flatC (Jvm.Cond.and given_1 narrow_1) := by decide +kernel
theorem nr3_l : Cond.eq (.length (Term.static "VotedHill$Reader" "KIND_LETTERS" "[C")) (.int 6) ∈ flatC (Jvm.Cond.and given_1 narrow_1) := by decide +kernel
theorem nr3_s : tb 457 (.laysStatic "VotedHill$Reader" "KIND_LETTERS" "[C") = true := by decide +kernel
theorem nr3_i : tb 68 (.initialized "VotedHill$Reader") = true := by decide +kernel
theorem ro_3 {s : State} {args : Array Value} (hts : ∀ w ∈ lw_tbl, w.before args s = true) (hg : (Jvm.Cond.and given_1 narrow_1).before args s = true) : ∃ t, stO s.heap.size "VotedHill$Reader" "KIND_LETTERS" "[C" .char 6 K3 (some t) s s.heap := by
  have hs := flat_of_before _ hg
  have hA : ∀ a : Nat, a < s.heap.size → ¬ (fun q : Nat => s.heap.size ≤ q) a := fun a h => Nat.not_le.mpr h
  obtain ⟨t, h1, h2⟩ := va_Tof (tm := (Term.static "VotedHill$Reader" "KIND_LETTERS" "[C")) (ty := .char) (N := 6) (f := fun j => .int (Int32.ofInt (K3 j))) (by decide) (hs _ nr3_a) (va_eqt (hs _ nr3_l)) (fun j hj => by
    match j, hj with
    | 0, _ => exact va_eqt (hs _ nr3_0)
    | 1, _ => exact va_eqt (hs _ nr3_1)
    | 2, _ => exact va_eqt (hs _ nr3_2)
    | 3, _ => exact va_eqt (hs _ nr3_3)
    | 4, _ => exact va_eqt (hs _ nr3_4)
    | 5, _ => exact va_eqt (hs _ nr3_5)
    | j + 6, hj => omega) hA
  exact ⟨t, t, rfl, va_Zof (hts _ (List.mem_of_getElem? (of_decide_eq_true nr3_s))) (hts _ (List.mem_of_getElem? (of_decide_eq_true nr3_i))) h1 hA, h2⟩
theorem nr4_0 : Cond.eq (.elem (Term.static "VotedHill$Land" "WIDER_KIND" "[I") (.int 0)) (.int 0) ∈ flatC (Jvm.Cond.and given_1 narrow_1) := by decide +kernel
theorem nr4_1 : Cond.eq (.elem (Term.static "VotedHill$Land" "WIDER_KIND" "[I") (.int 1)) (.int 0) ∈ flatC (Jvm.Cond.and given_1 narrow_1) := by decide +kernel
theorem nr4_2 : Cond.eq (.elem (Term.static "VotedHill$Land" "WIDER_KIND" "[I") (.int 2)) (.int 0) ∈ flatC (Jvm.Cond.and given_1 narrow_1) := by decide +kernel
theorem nr4_3 : Cond.eq (.elem (Term.static "VotedHill$Land" "WIDER_KIND" "[I") (.int 3)) (.int 0) ∈ flatC (Jvm.Cond.and given_1 narrow_1) := by decide +kernel
theorem nr4_4 : Cond.eq (.elem (Term.static "VotedHill$Land" "WIDER_KIND" "[I") (.int 4)) (.int 2) ∈ flatC (Jvm.Cond.and given_1 narrow_1) := by decide +kernel
theorem nr4_5 : Cond.eq (.elem (Term.static "VotedHill$Land" "WIDER_KIND" "[I") (.int 5)) (.int 3) ∈ flatC (Jvm.Cond.and given_1 narrow_1) := by decide +kernel
theorem nr4_a : Cond.arrayOf (Term.static "VotedHill$Land" "WIDER_KIND" "[I") .int ∈ flatC (Jvm.Cond.and given_1 narrow_1) := by decide +kernel
theorem nr4_l : Cond.eq (.length (Term.static "VotedHill$Land" "WIDER_KIND" "[I")) (.int 6) ∈ flatC (Jvm.Cond.and given_1 narrow_1) := by decide +kernel
theorem nr4_s : tb 520 (.laysStatic "VotedHill$Land" "WIDER_KIND" "[I") = true := by decide +kernel
theorem nr4_i : tb 67 (.initialized "VotedHill$Land") = true := by decide +kernel
theorem ro_4 {s : State} {args : Array Value} (hts : ∀ w ∈ lw_tbl, w.before args s = true) (hg : (Jvm.Cond.and given_1 narrow_1).before args s = true) : ∃ t, stO s.heap.size "VotedHill$Land" "WIDER_KIND" "[I" .int 6 K4 (some t) s s.heap := by
  have hs := flat_of_before _ hg
  have hA : ∀ a : Nat, a < s.heap.size → ¬ (fun q : Nat => s.heap.size ≤ q) a := fun a h => Nat.not_le.mpr h
  obtain ⟨t, h1, h2⟩ := va_Tof (tm := (Term.static "VotedHill$Land" "WIDER_KIND" "[I")) (ty := .int) (N := 6) (f := fun j => .int (Int32.ofInt (K4 j))) (by decide) (hs _ nr4_a) (va_eqt (hs _ nr4_l)) (fun j hj => by
    match j, hj with
    | 0, _ => exact va_eqt (hs _ nr4_0)
    | 1, _ => exact va_eqt (hs _ nr4_1)
    | 2, _ => exact va_eqt (hs _ nr4_2)
    | 3, _ => exact va_eqt (hs _ nr4_3)
    | 4, _ => exact va_eqt (hs _ nr4_4)
    | 5, _ => exact va_eqt (hs _ nr4_5)
    | j + 6, hj => omega) hA
  exact ⟨t, t, rfl, va_Zof (hts _ (List.mem_of_getElem? (of_decide_eq_true nr4_s))) (hts _ (List.mem_of_getElem? (of_decide_eq_true nr4_i))) h1 hA, h2⟩
theorem nr5_0 : Cond.eq (.elem (Term.static "VotedHill$Land" "AGAINST" "[I") (.int 0)) (.int 0) ∈ flatC (Jvm.Cond.and given_1 narrow_1) := by decide +kernel
theorem nr5_1 : Cond.eq (.elem (Term.static "VotedHill$Land" "AGAINST" "[I") (.int 1)) (.int 3) ∈ flatC (Jvm.Cond.and given_1 narrow_1) := by decide +kernel
theorem nr5_2 : Cond.eq (.elem (Term.static "VotedHill$Land" "AGAINST" "[I") (.int 2)) (.int 4) ∈ flatC (Jvm.Cond.and given_1 narrow_1) := by decide +kernel
theorem nr5_3 : Cond.eq (.elem (Term.static "VotedHill$Land" "AGAINST" "[I") (.int 3)) (.int 1) ∈ flatC (Jvm.Cond.and given_1 narrow_1) := by decide +kernel
theorem nr5_4 : Cond.eq (.elem (Term.static "VotedHill$Land" "AGAINST" "[I") (.int 4)) (.int 2) ∈ flatC (Jvm.Cond.and given_1 narrow_1) := by decide +kernel
theorem nr5_a : Cond.arrayOf (Term.static "VotedHill$Land" "AGAINST" "[I") .int ∈ flatC (Jvm.Cond.and given_1 narrow_1) := by decide +kernel
theorem nr5_l : Cond.eq (.length (Term.static "VotedHill$Land" "AGAINST" "[I")) (.int 5) ∈ flatC (Jvm.Cond.and given_1 narrow_1) := by decide +kernel
theorem nr5_s : tb 592 (.laysStatic "VotedHill$Land" "AGAINST" "[I") = true := by decide +kernel
theorem nr5_i : tb 67 (.initialized "VotedHill$Land") = true := by decide +kernel
theorem ro_5 {s : State} {args : Array Value} (hts : ∀ w ∈ lw_tbl, w.before args s = true) (hg : (Jvm.Cond.and given_1 narrow_1).before args s = true) : ∃ t, stO s.heap.size "VotedHill$Land" "AGAINST" "[I" .int 5 K5 (some t) s s.heap := by
  have hs := flat_of_before _ hg
  have hA : ∀ a : Nat, a < s.heap.size → ¬ (fun q : Nat => s.heap.size ≤ q) a := fun a h => Nat.not_le.mpr h
  obtain ⟨t, h1, h2⟩ := va_Tof (tm := (Term.static "VotedHill$Land" "AGAINST" "[I")) (ty := .int) (N := 5) (f := fun j => .int (Int32.ofInt (K5 j))) (by decide) (hs _ nr5_a) (va_eqt (hs _ nr5_l)) (fun j hj => by
    match j, hj with
    | 0, _ => exact va_eqt (hs _ nr5_0)
    | 1, _ => exact va_eqt (hs _ nr5_1)
    | 2, _ => exact va_eqt (hs _ nr5_2)
    | 3, _ => exact va_eqt (hs _ nr5_3)
    | 4, _ => exact va_eqt (hs _ nr5_4)
    | j + 5, hj => omega) hA
  exact ⟨t, t, rfl, va_Zof (hts _ (List.mem_of_getElem? (of_decide_eq_true nr5_s))) (hts _ (List.mem_of_getElem? (of_decide_eq_true nr5_i))) h1 hA, h2⟩

/-- the pure heap at the start: what is read only -/
def w0 (L : Nat) (xs : Nat → Int32) : Hp := fun a j => if a = -2 then (if j = -1 then L else (xs j.toNat).toInt) else if a = -3 then (if j = -1 then 6 else K3 j.toNat) else if a = -4 then (if j = -1 then 6 else K4 j.toNat) else if a = -5 then (if j = -1 then 5 else K5 j.toNat) else 0
theorem w0_RW (L : Nat) (xs : Nat → Int32) : RW L xs (w0 L xs) := by
  refine ⟨⟨rfl, fun j hj => ?_⟩, ⟨rfl, fun j hj => ?_⟩, ⟨rfl, fun j hj => ?_⟩, ⟨rfl, fun j hj => ?_⟩⟩
  · unfold w0
    rw [if_pos rfl, if_neg (by omega), Int.toNat_natCast]
  · unfold w0
    rw [if_neg (by decide), if_pos rfl, if_neg (by omega), Int.toNat_natCast]
  · unfold w0
    rw [if_neg (by decide), if_neg (by decide), if_pos rfl, if_neg (by omega), Int.toNat_natCast]
  · unfold w0
    rw [if_neg (by decide), if_neg (by decide), if_neg (by decide), if_pos rfl, if_neg (by omega), Int.toNat_natCast]
/-- WHAT IS LEFT: the pure machine answers 1 on every script -/
def PureMain : Prop := ∀ (L : Nat) (xs : Nat → Int32), L ≤ 384 → ∃ (n : Nat) (sh1 : Shp) (w1 : Hp), ev n 10 0 0 (entryLs 0 [vR (-2)]) [] [] (w0 L xs) = some (some (vI 1), sh1, w1) ∧ sh1.length ≤ 600000 ∧ slotsOf sh1 ≤ 7302250
theorem ao_S : tb 89 (.arrayOver (.object "VotedHill$Strip")) = true := by decide +kernel
theorem ao_L : tb 164 (.arrayOver (.object "VotedHill$Land")) = true := by decide +kernel
theorem ao_I : tb 221 (.arrayOver (.array .int)) = true := by decide +kernel
theorem start_of_pure (hpure : PureMain) {p : Program} {e : Env} {s : State} {m : MethodId} {below : List Frame} {meth : Method} {c : Code} (l : Launch) {b L : Nat} {xs : Nat → Int32} (hL : L ≤ 384) (C0 : lw_At p s m meth c b L xs) : W p l e room_1 s m #[Value.ref b] below meth c s.heap [] 0 0 (lw_Z below #[Value.ref b] s) (entryFrame m ([Value.ref b] : List Value).toArray 4) := by
  obtain ⟨hx, hb, hr, hml, hown, hts, hX, hbl, hlocks, hgv⟩ := id C0
  obtain ⟨n, sh1, w1, hev, hc1, hs1⟩ := hpure L xs hL
  have htw : ∀ w ∈ WT, w.before #[Value.ref b] s = true := fun w hw => hts w (WT_good w hw).1
  have hcl : ∀ ci, ∃ (cC : ClassId) (iS : Nat → Nat), ci < 11 → ∀ q : vw_C, vwCl[ci]? = some q → u_Kn s q.1 q.2.1 q.2.2 cC iS := by
    intro ci
    by_cases hci : ci < 11
    · obtain ⟨T, ty, hq, hT, hin, hty, hnm, hi1, hi2, hkd⟩ := cls_all _ hci
      obtain ⟨cC, iS, h⟩ := u_known htw hin (htw _ hi1)
      refine ⟨cC, iS, fun _ q hq' => ?_⟩
      rw [hq] at hq'
      cases hq'
      exact h
    · exact ⟨m.cls, fun _ => 0, fun h => absurd h hci⟩
  obtain ⟨dC, hdC⟩ := Classical.axiomOfChoice hcl
  obtain ⟨dI, hdI⟩ := Classical.axiomOfChoice hdC
  have hK : va_K (dC, dI) vwCl [] s := ⟨fun ci q hq => hdI ci (List.getElem?_eq_some_iff.mp hq).1 q hq, fun k q h => by simp at h⟩
  have hP : va_P (dC, dI) vwCl [] s.heap := fun k q h => by simp at h
  have hD : va_D (fun q : Nat => s.heap.size ≤ q) [] := ⟨fun i j p q h => by simp at h, fun k q h => by simp at h⟩
  obtain ⟨t3, h3⟩ := ro_3 hts hgv
  obtain ⟨t4, h4⟩ := ro_4 hts hgv
  obtain ⟨t5, h5⟩ := ro_5 hts hgv
  obtain ⟨ro, r2, r3, r4, r5⟩ : ∃ ro : Int → Option Nat, ro (-2) = some b ∧ ro (-3) = some t3 ∧ ro (-4) = some t4 ∧ ro (-5) = some t5 := ⟨fun r => if r = -2 then some b else if r = -3 then some t3 else if r = -4 then some t4 else some t5, rfl, rfl, rfl, rfl⟩
  have hE : Env0 s.heap.size L xs ro s s.heap := ⟨⟨b, r2, hbl, hX⟩, by rw [r3]; exact h3, by rw [r4]; exact h4, by rw [r5]; exact h5, fun a i y h hm => va_Nw.of rfl (hts _ hm), va_AO.of (hts _ (List.mem_of_getElem? (of_decide_eq_true ao_S))), va_AO.of (hts _ (List.mem_of_getElem? (of_decide_eq_true ao_L))), (hts _ (List.mem_of_getElem? (of_decide_eq_true ao_I)) : (Cond.arrayOver (.array .int)).before _ s = true)⟩
  have hE : Env0 s.heap.size L xs ro s s.heap := hE
  have C : Cx p s m #[Value.ref b] meth c s.heap.size L xs ro 0 := ⟨hx, hb, hml, hown, htw, fun h => absurd h (by decide), Nat.le_refl _, by omega, hE⟩
  have ha : srel ro [] [Value.ref b] [vR (-2)] := ⟨Or.inr ⟨by decide, b, rfl, r2⟩, trivial⟩
  rw [lg_entry_eq]
  refine sim l (dC, dI) s.heap.size L xs ro n 10 0 0 _ [] [] _ _ _ _ hev (by decide) p e room_1 s m _ below meth c _ [] 0 0 sh1.length (slotsOf sh1) C ⟨by decide, by decide⟩ (by simp) (by simp [slotsOf]) ⟨hc1, hs1⟩ ?_ s.heap [] _ [] [] [] (ext_rf _) hK hP hD va_S.rf (w0_RW L xs) ⟨rfl, fun k s' x h => by simp at h⟩ (entry_rel ha (by decide)) trivial
  intro H locs ls st ws tys pc ins len pst hd hlen hret hxt hK1 hP1 hD1 hS1 hRW1 hw1 hs
  unfold retOf at hret
  split at hret
  · obtain rfl : len = 1 := hlen
    split at hret
    · split at hret
      · cases hret
        obtain ⟨v1, st', rfl, ⟨c1, rfl, h1⟩, hs'⟩ := srel_cons hs
        cases srel_nil hs'
        have hc : c1 = 1 := eq32.mpr (by rw [h1]; rfl)
        subst hc
        refine va_forget (fun q hq => hS1.2.2 q hq) ?_
        refine W.widen (k := 600000) (n := 7302250) hc1 hs1 ?_
        exact lw_ret hx hb hr hlocks hd
      · cases hret
    · cases hret
  · split at hret
    · split at hret
      · rename_i hm
        exact absurd hm (by decide)
      · cases hret
    · cases hret
  · split at hret
    · split at hret
      · rename_i hm
        exact absurd hm (by decide)
      · cases hret
    · cases hret
  · cases hret
