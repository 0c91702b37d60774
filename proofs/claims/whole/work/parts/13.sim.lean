/-! the theorem: what the pure machine answers, the machine answers -/
section SIM
variable {p : Program} {l : Launch} {e : Env} {R : Room} {s : State} {m : MethodId} {args : Array Value} {below : List Frame} {meth : Method} {c : Code} {Q : State → Prop} {D : va_G} {base L : Nat} {xs : Nat → Int32} {ro : Int → Option Nat} {mi : Nat} {ws0 : va_W} {cells slots : Nat} {pc : Nat} {pls : PL} {pst : List PV} {sh : Shp} {w : Hp}
/-- what is done at a return -/
def RETS (p : Program) (l : Launch) (e : Env) (R : Room) (s : State) (m : MethodId) (args : Array Value) (below : List Frame) (meth : Method) (c : Code) (Q : State → Prop) (D : va_G) (base L : Nat) (xs : Nat → Int32) (ro : Int → Option Nat) (mi : Nat) (ws0 : va_W) (cf sf : Nat) (v : Option PV) (sh1 : Shp) (w1 : Hp) : Prop :=
  ∀ (H : Heap) (locs : List Loc) (ls : Array Slot) (st : List Value) (ws : va_W) (tys : List (ClassId × FieldType)) (pc : Nat) (ins : Instr) (len : Nat) (pst : List PV), decode (cOf mi) pc = .ok (ins, len) → len = lenOf ins len → retOf mi ins pst = some v → ext ws0 ws → va_K D vwCl tys s → va_P D vwCl ws H → va_D (fun q => base ≤ q) ws → va_S (fun q => base ≤ q) s.heap H locs → RW L xs w1 → wrel ro tys ws sh1 w1 → srel ro ws st pst → W p l e R s m args below meth c H locs cf sf Q (F0 m pc ls st)
/-- what is claimed of so much fuel -/
def SimN (l : Launch) (D : va_G) (base L : Nat) (xs : Nat → Int32) (ro : Int → Option Nat) (n : Nat) : Prop :=
  ∀ (d mi pc : Nat) (pls : PL) (pst : List PV) (sh : Shp) (w : Hp) (v : Option PV) (sh1 : Shp) (w1 : Hp), ev n d mi pc pls pst sh w = some (v, sh1, w1) → mi < 230 →
  ∀ (p : Program) (e : Env) (R : Room) (s : State) (m : MethodId) (args : Array Value) (below : List Frame) (meth : Method) (c : Code) (Q : State → Prop) (ws0 : va_W) (cells slots cf sf : Nat), Cx p s m args meth c base L xs ro mi → (d + 1 ≤ R.frames ∧ 40 + 31 * d ≤ R.locals) → cells + sh1.length = cf + sh.length → slots + slotsOf sh1 = sf + slotsOf sh → (cf ≤ R.cells ∧ sf ≤ R.slots) → RETS p l e R s m args below meth c Q D base L xs ro mi ws0 cf sf v sh1 w1 → Sm p l e R s m args below meth c Q D base L xs ro mi ws0 cells slots pc pls pst sh w
theorem OKM_of {j : Nat} (h1 : j < 230) (h0 : 0 < j) : OKM j := okM_229 j h1 h0
/-- a method's contract out of its pure run -/
theorem met_of {n d j : Nat} {as : List PV} {v : Option PV} {sh1 : Shp} {w1 : Hp} {ws : va_W} {tys : List (ClassId × FieldType)} {avs : List Value} (IH : SimN l D base L xs ro n) (hj : j < 230) (hj0 : 0 < j) (hL : L < 2 ^ 31) (hev : ev n d j 0 (entryLs j as) [] sh w = some (v, sh1, w1)) (hsp : (spread as).length ≤ mLoc j) (hRW : RW L xs w) (hw : wrel ro tys ws sh w) (ha : srel ro ws avs as) :
    Met l (yOf j) (Cond.code (yOf j) (cOf j) (mLoc j) (retTy (mRet j)) :: WT) ({ frames := d + 1, cells := sh1.length - sh.length, slots := slotsOf sh1 - slotsOf sh, locals := 40 + 31 * d }) (PcS base L xs ro D ws tys avs) (QcS base L xs ro D ws v sh1 w1) (sh1.length - sh.length) (slotsOf sh1 - slotsOf sh) (fun q => base ≤ q) := by
  obtain ⟨⟨pz, hokm⟩, hcw⟩ := OKM_of hj hj0
  unfold okM at hokm
  simp only [Bool.and_eq_true, decide_eq_true_eq] at hokm
  obtain ⟨⟨⟨⟨⟨⟨hi, hkd⟩, hpar⟩, hpl⟩, hnn⟩, hml0⟩, hcls⟩ := hokm
  obtain ⟨t, ht⟩ := ev_mono _ _ _ _ _ _ _ _ _ _ _ hev
  have hl1 : sh.length ≤ sh1.length := by rw [ht, List.length_append]; omega
  have hl2 : slotsOf sh ≤ slotsOf sh1 := by rw [ht, slots_app]; omega
  refine Met.ofW (cc := cOf j) (maxL := mLoc j) (ret := retTy (mRet j)) hpl rfl ?_
  intro p e s m args below meth c s₁ B hml hv
  obtain ⟨rfl, hsz, hP, hK, hD, hE⟩ := hv
  have hts := atoms_spec (ws := Cond.code (yOf j) (cOf j) (mLoc j) (retTy (mRet j)) :: WT) B.pre
  have hown : s.vm.findClass (oOf j) = some m.cls := by rw [← hcls]; exact findClass_of_methodNamed B.named
  have hini : mKind j = 2 → meth.name = "<init>" := fun hk => by
    rw [hk] at hkd
    simp only [Bool.and_eq_true, decide_eq_true_eq] at hkd
    rw [(name_of_methodNamed B.named B.method).1]
    exact hkd.1.1.2
  have C : Cx p s m avs.toArray meth c base L xs ro j := ⟨B.exec, B.bytes, hml, hown, fun w hw => hts w (List.mem_cons_of_mem _ hw), hini, hsz, hL, hE⟩
  rw [lg_entry_eq]
  have hlocks := B.notSynchronized
  have hr := B.returns
  refine IH d j 0 (entryLs j as) [] sh w v sh1 w1 hev hj p e _ s m avs.toArray below meth c _ ws 0 0 (sh1.length - sh.length) (slotsOf sh1 - slotsOf sh) C ⟨Nat.le_refl _, Nat.le_refl _⟩ (by omega) (by omega) ⟨Nat.le_refl _, Nat.le_refl _⟩ ?_ s.heap [] _ [] ws tys (ext_rf ws) hK hP hD va_S.rf hRW hw (entry_rel ha hsp) trivial
  intro H locs ls st ws1 tys1 pc ins len pst hd hlen hret hx hK1 hP1 hD1 hS1 hRW1 hw1 hs
  have fin : ∀ (cv : Option Value), srel ro ws1 cv.toList v.toList → ∀ t : State, t.heap = H → s.WarmedH t.vm → QcS base L xs ro D ws v sh1 w1 avs.toArray s (.returned cv) t := fun cv hcv t ht hW => ⟨⟨cv, ws1, tys1, rfl, hcv, hx, va_K.moved hW.alike hK1, by rw [ht]; exact hP1, hD1, hw1, hRW1⟩, hS1.F ht⟩
  unfold retOf at hret
  split at hret
  · obtain rfl : len = 1 := hlen
    split at hret
    · split at hret
      · rename_i a hm
        cases hret
        obtain ⟨v1, st', rfl, ⟨c1, rfl, h1⟩, hs'⟩ := srel_cons hs
        cases srel_nil hs'
        rcases hm with hm | ⟨hm, hz⟩
        · exact W.iret B.exec B.bytes (by rw [hr, hm]; rfl) (fin (some (.int c1)) ⟨⟨c1, rfl, h1⟩, trivial⟩) hS1.2.2 hd
        · refine W.zret B.exec B.bytes (ty := .boolean) (by rw [hr, hm]; rfl) ?_ (fin (some (.int c1)) ⟨⟨c1, rfl, h1⟩, trivial⟩) hS1.2.2 hd
          rcases hz with hz | hz
          · have : c1 = 0 := eq32.mpr (by rw [h1, hz]; rfl)
            subst this
            rfl
          · have : c1 = 1 := eq32.mpr (by rw [h1, hz]; rfl)
            subst this
            rfl
      · cases hret
    · cases hret
  · obtain rfl : len = 1 := hlen
    split at hret
    · split at hret
      · rename_i a hm
        cases hret
        obtain ⟨v1, st', rfl, ⟨c1, rfl, h1⟩, hs'⟩ := srel_cons hs
        cases srel_nil hs'
        exact W.lret B.exec B.bytes (by rw [hr, hm]; rfl) (fin (some (.long c1)) ⟨⟨c1, rfl, h1⟩, trivial⟩) hS1.2.2 hd
      · cases hret
    · cases hret
  · obtain rfl : len = 1 := hlen
    split at hret
    · split at hret
      · rename_i hm
        cases hret
        cases srel_nil hs
        exact W.vret B.exec B.bytes (by rw [hr, hm]; rfl) (fin none trivial) hS1.2.2 hd
      · cases hret
    · cases hret
  · cases hret
/-- behind a call: the callee's world, the answer on the stack -/
theorem sm_back {mc ms : Nat} {H : Heap} {locs : List Loc} {ls : Array Slot} {st0 rest : List Value} {ws : va_W} {av : Array Value} {v : Option PV} {sh1 : Shp} {w1 : Hp} {rst : List PV} (hr : va_Run p l e R s m args below meth c H locs cells slots mc ms (F0 m pc ls st0) rest (QcS base L xs ro D ws v sh1 w1 av) (fun q => base ≤ q))
    (hx : ext ws0 ws) (hS : va_S (fun q => base ≤ q) s.heap H locs) (hl : lrel ro ws (mLoc mi) ls pls) (hs : srel ro ws rest rst) (k : Sm p l e R s m args below meth c Q D base L xs ro mi ws0 (cells + mc) (slots + ms) (pc + 3) pls (v.toList ++ rst) sh1 w1) : W p l e R s m args below meth c H locs cells slots Q (F0 m pc ls st0) := by
  intro T hT X
  obtain ⟨v', st₀, t, T', LL, h0, X', hL, e1, e2, ⟨⟨cv, ws1, tys1, hcv, ho, hx1, hK1, hP1, hD1, hw1, hRW1⟩, hz, hk⟩, stp⟩ := hr T hT X
  cases hcv
  rw [h0] at hz hk
  have hal : s.vm.Alike t.vm := by rw [← e2]; exact X'.warmed.alike
  obtain ⟨t2, a1, b1⟩ := k T'.heap (locs ++ LL) ls (v'.toList ++ rest) ws1 tys1 (ext_tr hx hx1) (va_K.moved hal.symm hK1) (by rw [e1]; exact hP1) hD1
    ⟨Nat.le_trans hS.1 (by rw [e1]; exact hz), fun q h1 h2 => by rw [e1, hk q (Nat.lt_of_lt_of_le h1 hS.1) h2]; exact hS.2.1 q h1 h2, fun q hq => by
      rcases List.mem_append.mp hq with h | h
      · exact hS.2.2 q h
      · exact hL q h⟩ hRW1 hw1 (lrel_ext hx1 hl) (srel_app ho (srel_ext hx1 hs)) T' rfl X'
  exact ⟨t2, stp t2 a1, b1⟩
theorem GoodCode {j : Nat} (hcw : Cond.code (yOf j) (cOf j) (mLoc j) (retTy (mRet j)) ∈ WT) : GoodIn WT (Cond.code (yOf j) (cOf j) (mLoc j) (retTy (mRet j)) :: WT) := fun w hw => by
  rcases List.mem_cons.mp hw with rfl | hw
  · exact WT_self _ hcw
  · exact WT_self _ hw
set_option maxHeartbeats 4000000 in
theorem sm_call {n d j cells1 slots1 : Nat} {ins : Instr} {x : Int} {pos : Nat} {v : Option PV} {sh1 : Shp} {w1 : Hp} (IH : SimN l D base L xs ro n) (C : Cx p s m args meth c base L xs ro mi) (hd : decode (cOf mi) pc = .ok (ins, 3)) (hok : okWord mi (oOf mi) pc ins x pos = true) (hcall : callOf ins x = some j) (hj : j < 230) (hj0 : 0 < j) (hR : d + 1 + 1 ≤ R.frames ∧ 40 + 31 * (d + 1) ≤ R.locals)
    (hpop : mPop j ≤ pst.length) (hrest : (pst.drop (mPop j)).length ≤ 4) (hrecv : recvOk sh j (pst.take (mPop j)).reverse = true) (hsp : (spread (pst.take (mPop j)).reverse).length ≤ mLoc j) (hev : ev n d j 0 (entryLs j (pst.take (mPop j)).reverse) [] sh w = some (v, sh1, w1)) (hc1 : cells1 = cells + (sh1.length - sh.length)) (hs1 : slots1 = slots + (slotsOf sh1 - slotsOf sh)) (hRc : cells1 ≤ R.cells ∧ slots1 ≤ R.slots)
    (k : Sm p l e R s m args below meth c Q D base L xs ro mi ws0 cells1 slots1 (pc + 3) pls (v.toList ++ pst.drop (mPop j)) sh1 w1) : Sm p l e R s m args below meth c Q D base L xs ro mi ws0 cells slots pc pls pst sh w := by
  subst hc1 hs1
  intro H locs ls st ws tys he hK hP hD hS hRW hw hl hs
  obtain ⟨hx, hb, hml, hown, hts, hini, hbs, hL, hE⟩ := id C
  obtain ⟨⟨pz, hokm⟩, hcw⟩ := OKM_of hj hj0
  unfold okM at hokm
  simp only [Bool.and_eq_true, decide_eq_true_eq] at hokm
  obtain ⟨⟨⟨⟨⟨⟨hi, hkd⟩, hpar⟩, hpl⟩, hnn⟩, hml0⟩, hcls⟩ := hokm
  obtain ⟨hta, hdr⟩ := srel_take (mPop j) hs
  have hav := srel_rev hta
  have hM := met_of (tys := tys) IH hj hj0 hL hev hsp hRW hw hav
  have hst : st = ((st.take (mPop j)).reverse).reverse ++ st.drop (mPop j) := by rw [List.reverse_reverse, List.take_append_drop]
  have hlen : ((st.take (mPop j)).reverse).length = mPop j := by
    rw [List.length_reverse, List.length_take, srel_len hs]
    omega
  have hcat : ((st.drop (mPop j)).map fun v => v.category).sum ≤ 8 := by
    have h1 := cat_sum (st.drop (mPop j))
    have h2 := srel_len hdr
    omega
  have hpc : ∀ U : State, U.heap = H → s.WarmedH U.vm → PcS base L xs ro D ws tys (st.take (mPop j)).reverse ((st.take (mPop j)).reverse).toArray U := fun U hU hW =>
    ⟨rfl, by rw [hU]; exact Nat.le_trans hbs hS.1, by rw [hU]; exact hP, va_K.moved hW.alike hK, hD, by rw [hU]; exact hE.at hbs hW (fun q h1 h2 => hS.2.1 q h1 h2)⟩
  have hpay : ∀ w ∈ (Cond.code (yOf j) (cOf j) (mLoc j) (retTy (mRet j)) :: WT), ∀ (a' : Array Value) (U : State), s.WarmedH U.vm → w.before a' U = true := pay_in hts (GoodCode hcw)
  have hsig : ∀ sig, parseMethodDescriptor (yOf j).desc = some sig → mPar j = sig.parameters.length := fun sig h => by
    rw [h] at hpar
    exact (Option.some.inj hpar).symm
  have hrf : d + 1 + 1 ≤ R.frames ∧ 8 + (mLoc j + 11) + (40 + 31 * d) ≤ R.locals := by omega
  obtain ⟨lv, hlv, -⟩ := id hl
  generalize hAV : (st.take (mPop j)).reverse = avs at hM hst hlen hav hpc
  generalize hRS : st.drop (mPop j) = rest at hst hcat hdr
  subst hst
  have hfix : CallFix p m c (cOf mi) (mLoc mi) s args WT (oOf mi) := ⟨hx, hb, hml, hown, hts⟩
  have hroom : 2 * (F0 m pc ls (avs.reverse ++ rest)).monitorRoom + (rest.map fun v => v.category).sum ≤ 8 := by
    show 2 * 0 + _ ≤ 8
    omega
  have cb : ∀ {idx : Nat}, (Cond.methodLink (oOf mi) idx (yOf j)).before args s = true → CallB R s args (oOf mi) idx (yOf j) (cOf j) (mLoc j) (retTy (mRet j)) (Cond.code (yOf j) (cOf j) (mLoc j) (retTy (mRet j)) :: WT) ({ frames := d + 1, cells := sh1.length - sh.length, slots := slotsOf sh1 - slotsOf sh, locals := 40 + 31 * d }) (sh1.length - sh.length) (slotsOf sh1 - slotsOf sh) (mPar j) := fun {idx} hlk =>
    ⟨rfl, rfl, hrf.1, hrf.2, hpay, List.mem_cons_self, hts _ hcw, hts _ (WT_in hi rfl), hnn, hsig, hlk⟩
  unfold callOf at hcall
  split at hcall
  · split at hcall
    · rename_i idx h0
      cases hcall
      rw [okWord, Bool.and_eq_true, decide_eq_true_eq] at hok
      have hk1 := hok.1.2
      rw [hk1] at hkd
      simp only [Bool.and_eq_true, decide_eq_true_eq] at hkd
      unfold recvOk at hrecv
      rw [hk1] at hrecv
      generalize hPT : (pst.take (mPop x.toNat)).reverse = pas at hrecv hav
      match pas, hrecv, hav with
      | Sum.inr (Sum.inr r) :: pas', hrecv, hav =>
        obtain ⟨b0, As, rfl, hb0, hAs⟩ := srel_cons hav
        have hsr := of_decide_eq_true hrecv
        obtain ⟨b, e0, rfl, -, -, hwr, fs, rfl, hci, -⟩ := cell_at hw hsr hb0
        obtain ⟨Tt, ty, hcl, -⟩ := cls_all _ hci
        have hrv := va_recv hK hP hcl hwr
        have hlA : As.length = mPar x.toNat := by
          have : mPop x.toNat = mPar x.toNat + 1 := by unfold mPop; rw [hk1]; rfl
          simp only [List.length_cons] at hlen
          omega
        exact sm_back (va_runV (C := CN (mCls x.toNat)) (As := As) (rest := rest) hfix hM ⟨cb (hts _ (WT_in hok.2 rfl)), hts _ (WT_in hkd.1.1.1 rfl), hts _ (WT_in hkd.1.1.2 rfl)⟩ ⟨PcS_blind, hrv, hpc⟩ rfl hlA hlv.1 (by show _ = _; simp) hroom hd hRc) he hS hl hdr k
    · cases hcall
  · split at hcall
    · rename_i idx h0
      cases hcall
      rw [okWord, if_neg (by omega), if_neg (by omega), if_neg (by omega), if_neg (by omega), Bool.and_eq_true, decide_eq_true_eq] at hok
      have hk1 := hok.1.2
      rw [hk1] at hkd
      have hlA : avs.length = mPar x.toNat := by
        have : mPop x.toNat = mPar x.toNat := by unfold mPop; rw [hk1]; rfl
        omega
      exact sm_back (va_runS (As := avs) (rest := rest) hfix hM ⟨cb (hts _ (WT_in hok.2 rfl)), hts _ (WT_in hkd rfl)⟩ ⟨PcS_blind, hpc⟩ rfl hlA hlv.1 rfl hroom hd hRc) he hS hl hdr k
    · cases hcall
  · split at hcall
    · rename_i idx h0
      cases hcall
      rw [okWord, if_neg (by omega), Bool.and_eq_true, decide_eq_true_eq, Bool.or_eq_true] at hok
      have hk1 := hok.1.2
      rw [hk1] at hkd
      simp only [Bool.and_eq_true, decide_eq_true_eq] at hkd
      unfold recvOk at hrecv
      rw [hk1] at hrecv
      generalize hPT : (pst.take (mPop x.toNat)).reverse = pas at hrecv hav
      match pas, hrecv, hav with
      | Sum.inr (Sum.inr r) :: pas', hrecv, hav =>
        obtain ⟨b0, As, rfl, hb0, hAs⟩ := srel_cons hav
        have hsr := of_decide_eq_true hrecv
        obtain ⟨b, e0, rfl, -, -, hwr, fs, rfl, hci, -⟩ := cell_at hw hsr hb0
        have hlA : As.length = mPar x.toNat := by
          have : mPop x.toNat = mPar x.toNat + 1 := by unfold mPop; rw [hk1]; rfl
          simp only [List.length_cons] at hlen
          omega
        have hrt : retTy (mRet x.toNat) = none := by rw [hkd.2]; rfl
        rcases hok.2 with hlk | hlk
        · have cb' := cb (hts _ (WT_in hlk rfl))
          rw [hrt] at cb' hM
          exact sm_back (va_runI (As := As) (rest := rest) hfix hM ⟨cb', hkd.1.1.2, hts _ (WT_in hkd.1.1.1 rfl)⟩ ⟨PcS_blind, hpc⟩ rfl hlA hlv.1 (by show _ = _; simp) hroom hd hRc) he hS hl hdr k
        · have hnw := hE.2.2.2.2.1 _ _ _ _ (List.mem_of_getElem? (of_decide_eq_true hlk))
          rw [hrt] at hM hpay hcw
          have hcn : va_CN R s args (oOf mi) idx (yOf x.toNat) "VotedHill" (cOf x.toNat) (mLoc x.toNat) none (Cond.code (yOf x.toNat) (cOf x.toNat) (mLoc x.toNat) none :: WT) ({ frames := d + 1, cells := sh1.length - sh.length, slots := slotsOf sh1 - slotsOf sh, locals := 40 + 31 * d }) (sh1.length - sh.length) (slotsOf sh1 - slotsOf sh) (mPar x.toNat) :=
            ⟨⟨rfl, rfl, hrf.1, hrf.2, hpay, List.mem_cons_self⟩, hts _ hcw, hts _ (WT_in hi rfl), hnn, hsig, va_Nw.use rfl hnw⟩
          exact sm_back (va_runIN (As := As) (rest := rest) hfix hM ⟨hcn, hkd.1.1.2, hts _ (WT_in hkd.1.1.1 rfl)⟩ ⟨PcS_blind, hpc⟩ rfl hlA hlv.1 (by show _ = _; simp) hroom hd hRc) he hS hl hdr k
    · cases hcall
  · cases hcall
end SIM
set_option maxHeartbeats 4000000 in
/-- THE SIMULATION -/
theorem sim (l : Launch) (D : va_G) (base L : Nat) (xs : Nat → Int32) (ro : Int → Option Nat) : ∀ n, SimN l D base L xs ro n := by
  intro n
  induction n with
  | zero => intro d mi pc pls pst sh w v sh1 w1 h; cases h
  | succ n ih =>
    intro d mi pc pls pst sh w v sh1 w1 h hmi p e R s m args below meth c Q ws0 cells slots cf sf C hR hcf hsf hRc hret
    unfold ev at h
    split at h
    · cases h
    · rename_i pc0 ins len x pos hrow
      obtain ⟨rfl, hrk⟩ := row_ok hmi hrow
      unfold okRow at hrk
      simp only [Bool.and_eq_true, decide_eq_true_eq] at hrk
      obtain ⟨⟨hd, hlen⟩, hok⟩ := hrk
      split at h
      · rename_i j hcall
        have hlen3 : len = 3 := by
          unfold callOf at hcall
          split at hcall
          · exact hlen
          · exact hlen
          · exact hlen
          · cases hcall
        subst hlen3
        split at h
        · cases h
        · rename_i d'
          split at h
          · rename_i hcond
            obtain ⟨hpop, hrest, hrecv, hj, hj0, hsp⟩ := hcond
            split at h
            · cases h
            · rename_i v2 sh2 w2 hev
              obtain ⟨t1, ht1⟩ := ev_mono _ _ _ _ _ _ _ _ _ _ _ hev
              obtain ⟨t2, ht2⟩ := ev_mono _ _ _ _ _ _ _ _ _ _ _ h
              have e1 : sh2.length = sh.length + t1.length := by rw [ht1, List.length_append]
              have e2 : sh1.length = sh2.length + t2.length := by rw [ht2, List.length_append]
              have e3 : slotsOf sh2 = slotsOf sh + slotsOf t1 := by rw [ht1, slots_app]
              have e4 : slotsOf sh1 = slotsOf sh2 + slotsOf t2 := by rw [ht2, slots_app]
              refine sm_call ih C hd hok hcall hj hj0 hR hpop hrest hrecv hsp hev rfl rfl ⟨by omega, by omega⟩ ?_
              exact ih _ _ _ _ _ _ _ _ _ _ h hmi p e R s m args below meth c Q ws0 _ _ cf sf C hR (by omega) (by omega) hRc hret
          · cases h
      · split at h
        · rename_i v0 hr0
          cases h
          intro H locs ls st ws tys he hK hP hD hS hRW hw hl hs
          obtain rfl : cells = cf := by omega
          obtain rfl : slots = sf := by omega
          exact hret H locs ls st ws tys _ ins len pst hd hlen hr0 he hK hP hD hS hRW hw hs
        · split at h
          · rename_i st' sh' w' ha
            obtain ⟨t1, ht1⟩ := alloc_mono ha
            obtain ⟨t2, ht2⟩ := ev_mono _ _ _ _ _ _ _ _ _ _ _ h
            have e1 : sh'.length = sh.length + t1.length := by rw [ht1, List.length_append]
            have e2 : sh1.length = sh'.length + t2.length := by rw [ht2, List.length_append]
            have e3 : slotsOf sh' = slotsOf sh + slotsOf t1 := by rw [ht1, slots_app]
            have e4 : slotsOf sh1 = slotsOf sh' + slotsOf t2 := by rw [ht2, slots_app]
            refine sm_alloc (cells' := cells + t1.length) (slots' := slots + slotsOf t1) C hd hlen hok ha (by omega) (by omega) ⟨by omega, by omega⟩ ?_
            exact ih _ _ _ _ _ _ _ _ _ _ h hmi p e R s m args below meth c Q ws0 _ _ cf sf C hR (by omega) (by omega) hRc hret
          · split at h
            · rename_i pc' ls' st' w' hst
              obtain ⟨t2, ht2⟩ := ev_mono _ _ _ _ _ _ _ _ _ _ _ h
              have e2 : sh1.length = sh.length + t2.length := by rw [ht2, List.length_append]
              have e4 : slotsOf sh1 = slotsOf sh + slotsOf t2 := by rw [ht2, slots_app]
              refine sm_step C ⟨by omega, by omega⟩ ⟨by omega, by omega⟩ hd hlen hok hst ?_
              exact ih _ _ _ _ _ _ _ _ _ _ h hmi p e R s m args below meth c Q ws0 _ _ cf sf C hR hcf hsf hRc hret
            · cases h
