/-! arrays, statics, what the library does in one step -/
theorem K3_i : ∀ j, j < 6 → (Int32.ofInt (K3 j)).toInt = K3 j := by decide
theorem K4_i : ∀ j, j < 6 → (Int32.ofInt (K4 j)).toInt = K4 j := by decide
theorem K5_i : ∀ j, j < 5 → (Int32.ofInt (K5 j)).toInt = K5 j := by decide
theorem ro_adr {ro : Int → Option Nat} {ws : va_W} {v : Value} {r : Int} {t : Nat} (hr : r < -1) (ht : ro r = some t) (h : rrel ro ws v r) : v = .ref t := by
  rcases h with ⟨z, -⟩ | ⟨-, a, rfl, ha⟩
  · omega
  · unfold adr at ha
    rw [if_neg (by omega), ht] at ha
    cases ha
    rfl
theorem shAt_of {sh : Shp} {r : Int} {sp : Nat × Nat} (h0 : 0 ≤ r) (h : sh[r.toNat]? = some sp) : shAt sh r = some sp := by
  unfold shAt
  rw [if_pos h0]
  exact h
theorem ldArr_spec {sh : Shp} {ks : List Nat} {rs : List Int} {r i : Int} {w : Hp} {v : Int} (h : ldArr sh ks rs r i w = some v) : v = w r i ∧ 0 ≤ i ∧ ((0 ≤ r ∧ ∃ k n : Nat, shAt sh r = some (k, n) ∧ k ∈ ks ∧ i < n) ∨ (r < 0 ∧ r ∈ rs ∧ i < w r (-1))) := by
  unfold ldArr at h
  split at h
  · rename_i h0
    split at h
    · rename_i k n hsr
      split at h
      · rename_i hc
        cases h
        refine ⟨rfl, hc.2.1, Or.inl ⟨h0, k, n, shAt_of h0 hsr, ?_, hc.2.2⟩⟩
        simpa using hc.1
      · cases h
    · cases h
  · rename_i h0
    split at h
    · rename_i hc
      cases h
      refine ⟨rfl, hc.2.1, Or.inr ⟨by omega, ?_, hc.2.2⟩⟩
      simpa using hc.1
    · cases h
theorem stArr_spec {sh : Shp} {ks : List Nat} {r i : Int} (h : stArr sh ks r i = true) : ∃ k n : Nat, shAt sh r = some (k, n) ∧ k ∈ ks ∧ 0 ≤ i ∧ i < n := by
  unfold stArr at h
  split at h
  · rename_i k n hs
    simp only [Bool.and_eq_true, decide_eq_true_eq, List.contains_iff_mem] at h
    exact ⟨k, n, hs, h.1, h.2.1, h.2.2⟩
  · cases h
theorem upd_rel {g : Nat → Int32} {f : Int → Int} {n : Nat} {i : Int} {x : Int32} (hi : 0 ≤ i) (h : ∀ j : Nat, j < n → (g j).toInt = f j) : ∀ j : Nat, j < n → (upd g i.toNat x j).toInt = (if (j : Int) = i then x.toInt else f j) := by
  intro j hj
  by_cases hji : (j : Int) = i
  · rw [if_pos hji, show i.toNat = j by omega, pk_us]
  · rw [if_neg hji, pk_un (by omega), h j hj]
section SIM
variable {p : Program} {l : Launch} {e : Env} {R : Room} {s : State} {m : MethodId} {args : Array Value} {below : List Frame} {meth : Method} {c : Code} {Q : State → Prop} {D : va_G} {base L : Nat} {xs : Nat → Int32} {ro : Int → Option Nat} {mi : Nat} {ws0 : va_W} {cells slots : Nat} {pc : Nat} {pls : PL} {pst : List PV} {sh : Shp} {w : Hp}
theorem sm_iaload (C : Cx p s m args meth c base L xs ro mi) {r i v : Int} (hg : ldArr sh [1] [-2, -4, -5] r i w = some v) (hd : decode (cOf mi) pc = .ok (.iaload, 1)) (k : Sm p l e R s m args below meth c Q D base L xs ro mi ws0 cells slots (pc + 1) pls (vI v :: pst) sh w) : Sm p l e R s m args below meth c Q D base L xs ro mi ws0 cells slots pc pls (vI i :: vR r :: pst) sh w := by
  intro H locs ls st ws tys he hK hP hD hS hRW hw hl hs
  obtain ⟨hx, hb, hml, hown, hts, hini, hbs, hL, hE⟩ := C
  have hs' := srel_cons hs
  clear hs
  obtain ⟨v1, st, rfl, ⟨c1, rfl, h1⟩, hs⟩ := hs'
  have hs' := srel_cons hs
  clear hs
  obtain ⟨v2, st, rfl, h2, hs⟩ := hs'
  obtain ⟨rfl, hi0, hcase⟩ := ldArr_spec hg
  subst h1
  rcases hcase with ⟨h0, k0, n, hsx, hk0, hi1⟩ | ⟨h0, hr, hlt⟩
  · obtain rfl : k0 = 1 := by simpa using hk0
    obtain ⟨a, e0, rfl, -, -, hwr, cA, g, t0, rfl, ht, hgg⟩ := cell_at hw hsx h2
    have hin : vp_in c1 n := vp_in_iff.mpr ⟨hi0, hi1⟩
    refine va_iald hx hb hK hP r.toNat t0 hwr ht hin hd ?_
    exact k H locs ls _ ws tys he hK hP hD hS hRW hw hl ⟨⟨_, rfl, by rw [tnc, hgg _ (by omega)]; congr 1; omega⟩, hs⟩
  · simp only [List.mem_cons, List.not_mem_nil, or_false] at hr
    rcases hr with hr | hr | hr
    · subst hr
      obtain ⟨b, hb0, hbl, hX⟩ := hE.1
      cases ro_adr (by decide) hb0 h2
      have hi1 : c1.toInt < L := by rw [hRW.1.1] at hlt; exact hlt
      have hin : vp_in c1 L := vp_in_iff.mpr ⟨hi0, hi1⟩
      refine va_sld hx hb hX (by omega) (fun z => by omega) hS hin hd ?_
      exact k H locs ls _ ws tys he hK hP hD hS hRW hw hl ⟨⟨_, rfl, by rw [tnc, ← hRW.1.2 _ (by omega)]; congr 1; omega⟩, hs⟩
    · subst hr
      obtain ⟨t, ht, -, hT⟩ := hE.2.2.1
      cases ro_adr (by decide) ht h2
      have hi1 : c1.toInt < 6 := by rw [hRW.2.2.1.1] at hlt; exact hlt
      have hin : vp_in c1 6 := vp_in_iff.mpr ⟨hi0, hi1⟩
      refine va_ti hx hb hT hS hin rfl hd ?_
      exact k H locs ls _ ws tys he hK hP hD hS hRW hw hl ⟨⟨_, rfl, by rw [tnc, K4_i _ (by omega), ← hRW.2.2.1.2 _ (by omega)]; congr 1; omega⟩, hs⟩
    · subst hr
      obtain ⟨t, ht, -, hT⟩ := hE.2.2.2.1
      cases ro_adr (by decide) ht h2
      have hi1 : c1.toInt < 5 := by rw [hRW.2.2.2.1] at hlt; exact hlt
      have hin : vp_in c1 5 := vp_in_iff.mpr ⟨hi0, hi1⟩
      refine va_ti hx hb hT hS hin rfl hd ?_
      exact k H locs ls _ ws tys he hK hP hD hS hRW hw hl ⟨⟨_, rfl, by rw [tnc, K5_i _ (by omega), ← hRW.2.2.2.2 _ (by omega)]; congr 1; omega⟩, hs⟩

theorem sm_caload (C : Cx p s m args meth c base L xs ro mi) {r i v : Int} (hg : ldArr sh [] [-3] r i w = some v) (hd : decode (cOf mi) pc = .ok (.caload, 1)) (k : Sm p l e R s m args below meth c Q D base L xs ro mi ws0 cells slots (pc + 1) pls (vI v :: pst) sh w) : Sm p l e R s m args below meth c Q D base L xs ro mi ws0 cells slots pc pls (vI i :: vR r :: pst) sh w := by
  intro H locs ls st ws tys he hK hP hD hS hRW hw hl hs
  obtain ⟨hx, hb, hml, hown, hts, hini, hbs, hL, hE⟩ := C
  have hs' := srel_cons hs
  clear hs
  obtain ⟨v1, st, rfl, ⟨c1, rfl, h1⟩, hs⟩ := hs'
  have hs' := srel_cons hs
  clear hs
  obtain ⟨v2, st, rfl, h2, hs⟩ := hs'
  obtain ⟨rfl, hi0, hcase⟩ := ldArr_spec hg
  subst h1
  rcases hcase with ⟨h0, k0, n, hsx, hk0, hi1⟩ | ⟨h0, hr, hlt⟩
  · cases hk0
  · simp only [List.mem_cons, List.not_mem_nil, or_false] at hr
    · subst hr
      obtain ⟨t, ht, -, hT⟩ := hE.2.1
      cases ro_adr (by decide) ht h2
      have hi1 : c1.toInt < 6 := by rw [hRW.2.1.1] at hlt; exact hlt
      have hin : vp_in c1 6 := vp_in_iff.mpr ⟨hi0, hi1⟩
      refine va_tc hx hb hT hS hin rfl hd ?_
      exact k H locs ls _ ws tys he hK hP hD hS hRW hw hl ⟨⟨_, rfl, by rw [tnc, K3_i _ (by omega), ← hRW.2.1.2 _ (by omega)]; congr 1; omega⟩, hs⟩

theorem sm_baload (C : Cx p s m args meth c base L xs ro mi) {r i v : Int} (hg : ldArr sh [3, 4] [] r i w = some v) (hd : decode (cOf mi) pc = .ok (.baload, 1)) (k : Sm p l e R s m args below meth c Q D base L xs ro mi ws0 cells slots (pc + 1) pls (vI v :: pst) sh w) : Sm p l e R s m args below meth c Q D base L xs ro mi ws0 cells slots pc pls (vI i :: vR r :: pst) sh w := by
  intro H locs ls st ws tys he hK hP hD hS hRW hw hl hs
  obtain ⟨hx, hb, hml, hown, hts, hini, hbs, hL, hE⟩ := C
  have hs' := srel_cons hs
  clear hs
  obtain ⟨v1, st, rfl, ⟨c1, rfl, h1⟩, hs⟩ := hs'
  have hs' := srel_cons hs
  clear hs
  obtain ⟨v2, st, rfl, h2, hs⟩ := hs'
  obtain ⟨rfl, hi0, hcase⟩ := ldArr_spec hg
  subst h1
  rcases hcase with ⟨h0, k0, n, hsx, hk0, hi1⟩ | ⟨h0, hr, hlt⟩
  · simp only [List.mem_cons, List.not_mem_nil, or_false] at hk0
    rcases hk0 with rfl | rfl
    · obtain ⟨a, e0, rfl, -, -, hwr, cA, g, t0, rfl, ht, hgg⟩ := cell_at hw hsx h2
      have hin : vp_in c1 n := vp_in_iff.mpr ⟨hi0, hi1⟩
      refine va_bald hx hb hK hP r.toNat t0 hwr ht hin hd ?_
      exact k H locs ls _ ws tys he hK hP hD hS hRW hw hl ⟨⟨_, rfl, by rw [tnc, hgg _ (by omega)]; congr 1; omega⟩, hs⟩

    · obtain ⟨a, e0, rfl, -, -, hwr, cA, g, t0, rfl, ht, hgg⟩ := cell_at hw hsx h2
      have hin : vp_in c1 n := vp_in_iff.mpr ⟨hi0, hi1⟩
      refine va_zald hx hb hK hP r.toNat t0 hwr ht hin hd ?_
      exact k H locs ls _ ws tys he hK hP hD hS hRW hw hl ⟨⟨_, rfl, by rw [tnc, hgg _ (by omega)]; congr 1; omega⟩, hs⟩

  · cases hr
theorem sm_laload (C : Cx p s m args meth c base L xs ro mi) {r i v : Int} (hg : ldArr sh [2] [] r i w = some v) (hd : decode (cOf mi) pc = .ok (.laload, 1)) (k : Sm p l e R s m args below meth c Q D base L xs ro mi ws0 cells slots (pc + 1) pls (vL v :: pst) sh w) : Sm p l e R s m args below meth c Q D base L xs ro mi ws0 cells slots pc pls (vI i :: vR r :: pst) sh w := by
  intro H locs ls st ws tys he hK hP hD hS hRW hw hl hs
  obtain ⟨hx, hb, hml, hown, hts, hini, hbs, hL, hE⟩ := C
  have hs' := srel_cons hs
  clear hs
  obtain ⟨v1, st, rfl, ⟨c1, rfl, h1⟩, hs⟩ := hs'
  have hs' := srel_cons hs
  clear hs
  obtain ⟨v2, st, rfl, h2, hs⟩ := hs'
  obtain ⟨rfl, hi0, hcase⟩ := ldArr_spec hg
  subst h1
  rcases hcase with ⟨h0, k0, n, hsx, hk0, hi1⟩ | ⟨h0, hr, hlt⟩
  · obtain rfl : k0 = 2 := by simpa using hk0
    obtain ⟨a, e0, rfl, -, -, hwr, cA, g, t0, rfl, ht, hgg⟩ := cell_at hw hsx h2
    have hin : vp_in c1 n := vp_in_iff.mpr ⟨hi0, hi1⟩
    refine va_lald hx hb hK hP r.toNat t0 hwr ht hin hd ?_
    exact k H locs ls _ ws tys he hK hP hD hS hRW hw hl ⟨⟨_, rfl, by rw [tnc, hgg _ (by omega)]; congr 1; omega⟩, hs⟩
  · cases hr
theorem sm_aaload (C : Cx p s m args meth c base L xs ro mi) {r i v : Int} (hg : ldArr sh [5, 6, 7] [] r i w = some v) (hd : decode (cOf mi) pc = .ok (.aaload, 1)) (k : Sm p l e R s m args below meth c Q D base L xs ro mi ws0 cells slots (pc + 1) pls (vR v :: pst) sh w) : Sm p l e R s m args below meth c Q D base L xs ro mi ws0 cells slots pc pls (vI i :: vR r :: pst) sh w := by
  intro H locs ls st ws tys he hK hP hD hS hRW hw hl hs
  obtain ⟨hx, hb, hml, hown, hts, hini, hbs, hL, hE⟩ := C
  have hs' := srel_cons hs
  clear hs
  obtain ⟨v1, st, rfl, ⟨c1, rfl, h1⟩, hs⟩ := hs'
  have hs' := srel_cons hs
  clear hs
  obtain ⟨v2, st, rfl, h2, hs⟩ := hs'
  obtain ⟨rfl, hi0, hcase⟩ := ldArr_spec hg
  subst h1
  rcases hcase with ⟨h0, k0, n, hsx, hk0, hi1⟩ | ⟨h0, hr, hlt⟩
  · simp only [List.mem_cons, List.not_mem_nil, or_false] at hk0
    rcases hk0 with rfl | rfl | rfl
    · obtain ⟨a, e0, rfl, -, -, hwr, cA, g, t0, rfl, ht, hgg⟩ := cell_at hw hsx h2
      have hin : vp_in c1 n := vp_in_iff.mpr ⟨hi0, hi1⟩
      have hlt : c1.toNatClampNeg < n := by rw [tnc]; omega
      have hq := hgg _ hlt
      rw [show ((c1.toNatClampNeg : Nat) : Int) = c1.toInt by rw [tnc]; omega] at hq
      refine W.aald (v := va_rf (g c1.toNatClampNeg)) (ty := .object "VotedHill$Strip") hx hb (hP r.toNat _ hwr) ((hK.2 t0 _ ht).1 n (fun j => va_rf (g j))) rfl (fun q => by cases q) (by show ¬ (c1 < 0 ∨ (arrV _ _ _).slots.size ≤ _); rw [arrV_size]; exact hin) (by show (arrV _ _ _).slots[_]? = _; rw [arrV_read _ _ hlt]) rfl rfl hd ?_
      exact k H locs ls _ ws tys he hK hP hD hS hRW hw hl ⟨hq, hs⟩
    · obtain ⟨a, e0, rfl, -, -, hwr, cA, g, t0, rfl, ht, hgg⟩ := cell_at hw hsx h2
      have hin : vp_in c1 n := vp_in_iff.mpr ⟨hi0, hi1⟩
      have hlt : c1.toNatClampNeg < n := by rw [tnc]; omega
      have hq := hgg _ hlt
      rw [show ((c1.toNatClampNeg : Nat) : Int) = c1.toInt by rw [tnc]; omega] at hq
      refine W.aald (v := va_rf (g c1.toNatClampNeg)) (ty := .object "VotedHill$Land") hx hb (hP r.toNat _ hwr) ((hK.2 t0 _ ht).1 n (fun j => va_rf (g j))) rfl (fun q => by cases q) (by show ¬ (c1 < 0 ∨ (arrV _ _ _).slots.size ≤ _); rw [arrV_size]; exact hin) (by show (arrV _ _ _).slots[_]? = _; rw [arrV_read _ _ hlt]) rfl rfl hd ?_
      exact k H locs ls _ ws tys he hK hP hD hS hRW hw hl ⟨hq, hs⟩
    · obtain ⟨a, e0, rfl, -, -, hwr, cA, g, t0, rfl, ht, hgg⟩ := cell_at hw hsx h2
      have hin : vp_in c1 n := vp_in_iff.mpr ⟨hi0, hi1⟩
      have hlt : c1.toNatClampNeg < n := by rw [tnc]; omega
      have hq := hgg _ hlt
      rw [show ((c1.toNatClampNeg : Nat) : Int) = c1.toInt by rw [tnc]; omega] at hq
      refine W.aald (v := va_rf (g c1.toNatClampNeg)) (ty := .array .int) hx hb (hP r.toNat _ hwr) ((hK.2 t0 _ ht).1 n (fun j => va_rf (g j))) rfl (fun q => by cases q) (by show ¬ (c1 < 0 ∨ (arrV _ _ _).slots.size ≤ _); rw [arrV_size]; exact hin) (by show (arrV _ _ _).slots[_]? = _; rw [arrV_read _ _ hlt]) rfl rfl hd ?_
      exact k H locs ls _ ws tys he hK hP hD hS hRW hw hl ⟨hq, hs⟩
  · cases hr
theorem sm_alenH (C : Cx p s m args meth c base L xs ro mi) {r : Int} {k0 n : Nat} (hsx : shAt sh r = some (k0 + 1, n)) (hn : n < 2147483648) (hd : decode (cOf mi) pc = .ok (.arraylength, 1)) (k : Sm p l e R s m args below meth c Q D base L xs ro mi ws0 cells slots (pc + 1) pls (vI n :: pst) sh w) : Sm p l e R s m args below meth c Q D base L xs ro mi ws0 cells slots pc pls (vR r :: pst) sh w := by
  intro H locs ls st ws tys he hK hP hD hS hRW hw hl hs
  obtain ⟨hx, hb, hml, hown, hts, hini, hbs, hL, hE⟩ := C
  have hs' := srel_cons hs
  clear hs
  obtain ⟨v2, st, rfl, h2, hs⟩ := hs'
  obtain ⟨a, e0, rfl, -, -, hwr, hc⟩ := cell_at hw hsx h2
  have hv : (Int32.ofNat n).toInt = n := Int32.toInt_ofNat_of_lt hn
  have fin : ∀ {cA : ClassId} {x : vp_A} {ty : FieldType} {t0 : Nat}, e0 = .inl (cA, x) → tys[t0]? = some (cA, ty) → x.1 = n → W p l e R s m args below meth c H locs cells slots Q (F0 m pc ls (.ref a :: st)) := by
    intro cA x ty t0 he0 ht hxn
    subst he0
    refine va_alen hx hb hK hP r.toNat t0 hwr ht (v := Int32.ofNat n) (by rw [hxn]) hd ?_
    exact k H locs ls _ ws tys he hK hP hD hS hRW hw hl ⟨⟨_, rfl, hv⟩, hs⟩
  match k0, hc with
  | 0, ⟨cA, g, t0, h1, h2, _⟩ => exact fin h1 h2 rfl
  | 1, ⟨cA, g, t0, h1, h2, _⟩ => exact fin h1 h2 rfl
  | 2, ⟨cA, g, t0, h1, h2, _⟩ => exact fin h1 h2 rfl
  | 3, ⟨cA, g, t0, h1, h2, _⟩ => exact fin h1 h2 rfl
  | 4, ⟨cA, g, t0, h1, h2, _⟩ => exact fin h1 h2 rfl
  | 5, ⟨cA, g, t0, h1, h2, _⟩ => exact fin h1 h2 rfl
  | 6, ⟨cA, g, t0, h1, h2, _⟩ => exact fin h1 h2 rfl
theorem sm_alenO (C : Cx p s m args meth c base L xs ro mi) {r : Int} (hr : r = -2 ∨ r = -3 ∨ r = -4 ∨ r = -5) (hd : decode (cOf mi) pc = .ok (.arraylength, 1)) (k : Sm p l e R s m args below meth c Q D base L xs ro mi ws0 cells slots (pc + 1) pls (vI (w r (-1)) :: pst) sh w) : Sm p l e R s m args below meth c Q D base L xs ro mi ws0 cells slots pc pls (vR r :: pst) sh w := by
  intro H locs ls st ws tys he hK hP hD hS hRW hw hl hs
  obtain ⟨hx, hb, hml, hown, hts, hini, hbs, hL, hE⟩ := C
  have hs' := srel_cons hs
  clear hs
  obtain ⟨v2, st, rfl, h2, hs⟩ := hs'
  rcases hr with rfl | rfl | rfl | rfl
  · obtain ⟨b, hb0, hbl, hX⟩ := hE.1
    cases ro_adr (by decide) hb0 h2
    refine va_slen hx hb hX (by omega) (fun z => by omega) hS hd ?_
    exact k H locs ls _ ws tys he hK hP hD hS hRW hw hl ⟨⟨_, rfl, by rw [hRW.1.1]; exact Int32.toInt_ofNat_of_lt hL⟩, hs⟩
  · obtain ⟨t, ht, -, hT⟩ := hE.2.1
    cases ro_adr (by decide) ht h2
    refine va_tlen hx hb hT hS rfl hd ?_
    exact k H locs ls _ ws tys he hK hP hD hS hRW hw hl ⟨⟨_, rfl, by rw [hRW.2.1.1]; rfl⟩, hs⟩
  · obtain ⟨t, ht, -, hT⟩ := hE.2.2.1
    cases ro_adr (by decide) ht h2
    refine va_tlen hx hb hT hS rfl hd ?_
    exact k H locs ls _ ws tys he hK hP hD hS hRW hw hl ⟨⟨_, rfl, by rw [hRW.2.2.1.1]; rfl⟩, hs⟩
  · obtain ⟨t, ht, -, hT⟩ := hE.2.2.2.1
    cases ro_adr (by decide) ht h2
    refine va_tlen hx hb hT hS rfl hd ?_
    exact k H locs ls _ ws tys he hK hP hD hS hRW hw hl ⟨⟨_, rfl, by rw [hRW.2.2.2.1]; rfl⟩, hs⟩

theorem sm_getstatic (C : Cx p s m args meth c base L xs ro mi) {x : Int} {idx : Nat} (hxx : x = -3 ∨ x = -4 ∨ x = -5) (hm : Cond.fieldLink (oOf mi) idx (rnF x).1 (rnF x).2.1 (rnF x).2.2.1 ∈ WT) (hd : decode (cOf mi) pc = .ok (.getstatic idx, 3)) (k : Sm p l e R s m args below meth c Q D base L xs ro mi ws0 cells slots (pc + 3) pls (vR x :: pst) sh w) : Sm p l e R s m args below meth c Q D base L xs ro mi ws0 cells slots pc pls (pst) sh w := by
  intro H locs ls st ws tys he hK hP hD hS hRW hw hl hs
  obtain ⟨hx, hb, hml, hown, hts, hini, hbs, hL, hE⟩ := C
  rcases hxx with rfl | rfl | rfl
  · obtain ⟨t, ht, hZ, -⟩ := hE.2.1
    refine va_gets hx hb hZ hS hown (hts _ hm) (fun _ h => h) hd ?_
    exact k H locs ls _ ws tys he hK hP hD hS hRW hw hl ⟨Or.inr ⟨by decide, t, rfl, by unfold adr; rw [if_neg (by decide)]; exact ht⟩, hs⟩
  · obtain ⟨t, ht, hZ, -⟩ := hE.2.2.1
    refine va_gets hx hb hZ hS hown (hts _ hm) (fun _ h => h) hd ?_
    exact k H locs ls _ ws tys he hK hP hD hS hRW hw hl ⟨Or.inr ⟨by decide, t, rfl, by unfold adr; rw [if_neg (by decide)]; exact ht⟩, hs⟩
  · obtain ⟨t, ht, hZ, -⟩ := hE.2.2.2.1
    refine va_gets hx hb hZ hS hown (hts _ hm) (fun _ h => h) hd ?_
    exact k H locs ls _ ws tys he hK hP hD hS hRW hw hl ⟨Or.inr ⟨by decide, t, rfl, by unfold adr; rw [if_neg (by decide)]; exact ht⟩, hs⟩

theorem sm_iastore (C : Cx p s m args meth c base L xs ro mi) {r i v : Int} (hg : stArr sh [1] r i = true) (hd : decode (cOf mi) pc = .ok (.iastore, 1)) (k : Sm p l e R s m args below meth c Q D base L xs ro mi ws0 cells slots (pc + 1) pls pst sh (up w r i (v))) : Sm p l e R s m args below meth c Q D base L xs ro mi ws0 cells slots pc pls (vI v :: vI i :: vR r :: pst) sh w := by
  intro H locs ls st ws tys he hK hP hD hS hRW hw hl hs
  obtain ⟨hx, hb, hml, hown, hts, hini, hbs, hL, hE⟩ := C
  have hs' := srel_cons hs
  clear hs
  obtain ⟨v0, st, rfl, ⟨c0, rfl, hv0⟩, hs⟩ := hs'
  have hs' := srel_cons hs
  clear hs
  obtain ⟨v1, st, rfl, ⟨c1, rfl, h1⟩, hs⟩ := hs'
  have hs' := srel_cons hs
  clear hs
  obtain ⟨v2, st, rfl, h2, hs⟩ := hs'
  subst h1 hv0
  obtain ⟨k0, n, hsx, hk0, hi0, hi1⟩ := stArr_spec hg
  obtain rfl : k0 = 1 := by simpa using hk0
  obtain ⟨a, e0, rfl, h0, hsr, hwr, cA, g, t0, rfl, ht, hgg⟩ := cell_at hw hsx h2
  have hin : vp_in c1 n := vp_in_iff.mpr ⟨hi0, hi1⟩
  refine va_iast hx hb hK hP hD hS r.toNat t0 hwr ht hin hd (fun H1 locs1 hP1 hD1 hS1 => ?_)
  have hxt := ext_set (e := .inl (cA, n, .inl (upd g c1.toNatClampNeg c0))) hwr
  refine k H1 locs1 ls st _ tys (ext_tr he hxt) hK hP1 hD1 hS1 (hRW.of (up_neg h0)) (wrel_set hw hwr hsr ?_ (fun k hk => up_ne (by omega))) (lrel_ext hxt hl) (srel_ext hxt hs)
  refine ⟨cA, _, t0, rfl, ht, fun j hj => ?_⟩
  rw [show ((r.toNat : Nat) : Int) = r by omega]
  unfold up
  by_cases hji : (j : Int) = c1.toInt
  · rw [if_pos ⟨rfl, hji⟩]
    have : c1.toNatClampNeg = j := by rw [tnc]; omega
    rw [this]
    rw [pk_us]
  · rw [if_neg (fun z => hji z.2)]
    have : j ≠ c1.toNatClampNeg := by rw [tnc]; omega
    rw [pk_un this]; exact hgg j hj
theorem sm_lastore (C : Cx p s m args meth c base L xs ro mi) {r i v : Int} (hg : stArr sh [2] r i = true) (hd : decode (cOf mi) pc = .ok (.lastore, 1)) (k : Sm p l e R s m args below meth c Q D base L xs ro mi ws0 cells slots (pc + 1) pls pst sh (up w r i (v))) : Sm p l e R s m args below meth c Q D base L xs ro mi ws0 cells slots pc pls (vL v :: vI i :: vR r :: pst) sh w := by
  intro H locs ls st ws tys he hK hP hD hS hRW hw hl hs
  obtain ⟨hx, hb, hml, hown, hts, hini, hbs, hL, hE⟩ := C
  have hs' := srel_cons hs
  clear hs
  obtain ⟨v0, st, rfl, ⟨c0, rfl, hv0⟩, hs⟩ := hs'
  have hs' := srel_cons hs
  clear hs
  obtain ⟨v1, st, rfl, ⟨c1, rfl, h1⟩, hs⟩ := hs'
  have hs' := srel_cons hs
  clear hs
  obtain ⟨v2, st, rfl, h2, hs⟩ := hs'
  subst h1 hv0
  obtain ⟨k0, n, hsx, hk0, hi0, hi1⟩ := stArr_spec hg
  obtain rfl : k0 = 2 := by simpa using hk0
  obtain ⟨a, e0, rfl, h0, hsr, hwr, cA, g, t0, rfl, ht, hgg⟩ := cell_at hw hsx h2
  have hin : vp_in c1 n := vp_in_iff.mpr ⟨hi0, hi1⟩
  refine va_last hx hb hK hP hD hS r.toNat t0 hwr ht hin hd (fun H1 locs1 hP1 hD1 hS1 => ?_)
  have hxt := ext_set (e := .inl (cA, n, .inr (.inl (vp_updL g c1.toNatClampNeg c0)))) hwr
  refine k H1 locs1 ls st _ tys (ext_tr he hxt) hK hP1 hD1 hS1 (hRW.of (up_neg h0)) (wrel_set hw hwr hsr ?_ (fun k hk => up_ne (by omega))) (lrel_ext hxt hl) (srel_ext hxt hs)
  refine ⟨cA, _, t0, rfl, ht, fun j hj => ?_⟩
  rw [show ((r.toNat : Nat) : Int) = r by omega]
  unfold up
  by_cases hji : (j : Int) = c1.toInt
  · rw [if_pos ⟨rfl, hji⟩]
    have : c1.toNatClampNeg = j := by rw [tnc]; omega
    rw [this]
    rw [pk_uLs]
  · rw [if_neg (fun z => hji z.2)]
    have : j ≠ c1.toNatClampNeg := by rw [tnc]; omega
    rw [pk_uLn this]; exact hgg j hj
theorem sm_bastoreB (C : Cx p s m args meth c base L xs ro mi) {r i v : Int} (hg : stArr sh [3] r i = true) (hd : decode (cOf mi) pc = .ok (.bastore, 1)) (k : Sm p l e R s m args below meth c Q D base L xs ro mi ws0 cells slots (pc + 1) pls pst sh (up w r i (iB v))) : Sm p l e R s m args below meth c Q D base L xs ro mi ws0 cells slots pc pls (vI v :: vI i :: vR r :: pst) sh w := by
  intro H locs ls st ws tys he hK hP hD hS hRW hw hl hs
  obtain ⟨hx, hb, hml, hown, hts, hini, hbs, hL, hE⟩ := C
  have hs' := srel_cons hs
  clear hs
  obtain ⟨v0, st, rfl, ⟨c0, rfl, hv0⟩, hs⟩ := hs'
  have hs' := srel_cons hs
  clear hs
  obtain ⟨v1, st, rfl, ⟨c1, rfl, h1⟩, hs⟩ := hs'
  have hs' := srel_cons hs
  clear hs
  obtain ⟨v2, st, rfl, h2, hs⟩ := hs'
  subst h1 hv0
  obtain ⟨k0, n, hsx, hk0, hi0, hi1⟩ := stArr_spec hg
  obtain rfl : k0 = 3 := by simpa using hk0
  obtain ⟨a, e0, rfl, h0, hsr, hwr, cA, g, t0, rfl, ht, hgg⟩ := cell_at hw hsx h2
  have hin : vp_in c1 n := vp_in_iff.mpr ⟨hi0, hi1⟩
  refine va_bast hx hb hK hP hD hS r.toNat t0 hwr ht hin hd (fun H1 locs1 hP1 hD1 hS1 => ?_)
  have hxt := ext_set (e := .inl (cA, n, .inl (upd g c1.toNatClampNeg (vp_nar .byte c0)))) hwr
  refine k H1 locs1 ls st _ tys (ext_tr he hxt) hK hP1 hD1 hS1 (hRW.of (up_neg h0)) (wrel_set hw hwr hsr ?_ (fun k hk => up_ne (by omega))) (lrel_ext hxt hl) (srel_ext hxt hs)
  refine ⟨cA, _, t0, rfl, ht, fun j hj => ?_⟩
  rw [show ((r.toNat : Nat) : Int) = r by omega]
  unfold up
  by_cases hji : (j : Int) = c1.toInt
  · rw [if_pos ⟨rfl, hji⟩]
    have : c1.toNatClampNeg = j := by rw [tnc]; omega
    rw [this]
    rw [pk_us, vp_nar_byte, Int8.toInt_toInt32, Int32.toInt_toInt8]; rfl
  · rw [if_neg (fun z => hji z.2)]
    have : j ≠ c1.toNatClampNeg := by rw [tnc]; omega
    rw [pk_un this]; exact hgg j hj
theorem sm_bastoreZ (C : Cx p s m args meth c base L xs ro mi) {r i v : Int} (hg : stArr sh [4] r i = true) (hz : v = 0 ∨ v = 1) (hd : decode (cOf mi) pc = .ok (.bastore, 1)) (k : Sm p l e R s m args below meth c Q D base L xs ro mi ws0 cells slots (pc + 1) pls pst sh (up w r i (v))) : Sm p l e R s m args below meth c Q D base L xs ro mi ws0 cells slots pc pls (vI v :: vI i :: vR r :: pst) sh w := by
  intro H locs ls st ws tys he hK hP hD hS hRW hw hl hs
  obtain ⟨hx, hb, hml, hown, hts, hini, hbs, hL, hE⟩ := C
  have hs' := srel_cons hs
  clear hs
  obtain ⟨v0, st, rfl, ⟨c0, rfl, hv0⟩, hs⟩ := hs'
  have hs' := srel_cons hs
  clear hs
  obtain ⟨v1, st, rfl, ⟨c1, rfl, h1⟩, hs⟩ := hs'
  have hs' := srel_cons hs
  clear hs
  obtain ⟨v2, st, rfl, h2, hs⟩ := hs'
  subst h1 hv0
  obtain ⟨k0, n, hsx, hk0, hi0, hi1⟩ := stArr_spec hg
  obtain rfl : k0 = 4 := by simpa using hk0
  obtain ⟨a, e0, rfl, h0, hsr, hwr, cA, g, t0, rfl, ht, hgg⟩ := cell_at hw hsx h2
  have hin : vp_in c1 n := vp_in_iff.mpr ⟨hi0, hi1⟩
  refine va_zast hx hb hK hP hD hS r.toNat t0 hwr ht hin hd (fun H1 locs1 hP1 hD1 hS1 => ?_)
  have hxt := ext_set (e := .inl (cA, n, .inl (upd g c1.toNatClampNeg (vp_nar .boolean c0)))) hwr
  refine k H1 locs1 ls st _ tys (ext_tr he hxt) hK hP1 hD1 hS1 (hRW.of (up_neg h0)) (wrel_set hw hwr hsr ?_ (fun k hk => up_ne (by omega))) (lrel_ext hxt hl) (srel_ext hxt hs)
  refine ⟨cA, _, t0, rfl, ht, fun j hj => ?_⟩
  rw [show ((r.toNat : Nat) : Int) = r by omega]
  unfold up
  by_cases hji : (j : Int) = c1.toInt
  · rw [if_pos ⟨rfl, hji⟩]
    have : c1.toNatClampNeg = j := by rw [tnc]; omega
    rw [this]
    rw [pk_us]
    rcases hz with hz | hz
    · have : c0 = 0 := eq32.mpr (by rw [hz]; rfl)
      subst this
      rfl
    · have : c0 = 1 := eq32.mpr (by rw [hz]; rfl)
      subst this
      rfl
  · rw [if_neg (fun z => hji z.2)]
    have : j ≠ c1.toNatClampNeg := by rw [tnc]; omega
    rw [pk_un this]; exact hgg j hj
theorem sm_aastoreS (C : Cx p s m args meth c base L xs ro mi) {r i v : Int} (hg : stArr sh [5] r i = true) (hvs : shAt sh v = some (0, 7)) (hd : decode (cOf mi) pc = .ok (.aastore, 1)) (k : Sm p l e R s m args below meth c Q D base L xs ro mi ws0 cells slots (pc + 1) pls pst sh (up w r i v)) : Sm p l e R s m args below meth c Q D base L xs ro mi ws0 cells slots pc pls (vR v :: vI i :: vR r :: pst) sh w := by
  intro H locs ls st ws tys he hK hP hD hS hRW hw hl hs
  obtain ⟨hx, hb, hml, hown, hts, hini, hbs, hL, hE⟩ := C
  have hs' := srel_cons hs
  clear hs
  obtain ⟨v0, st, rfl, hv0, hs⟩ := hs'
  have hs' := srel_cons hs
  clear hs
  obtain ⟨v1, st, rfl, ⟨c1, rfl, h1⟩, hs⟩ := hs'
  have hs' := srel_cons hs
  clear hs
  obtain ⟨v2, st, rfl, h2, hs⟩ := hs'
  subst h1
  obtain ⟨k0, n, hsx, hk0, hi0, hi1⟩ := stArr_spec hg
  obtain rfl : k0 = 5 := by simpa using hk0
  obtain ⟨a, e0, rfl, h0, hsr, hwr, cA, g, t0, rfl, ht, hgg⟩ := cell_at hw hsx h2
  have hv0' := hv0
  obtain ⟨av, ev, rfl, hv0n, hvsr, hvwr, fs, rfl, -⟩ := cell_at hw hvs hv0
  have hin : vp_in c1 n := vp_in_iff.mpr ⟨hi0, hi1⟩
  obtain ⟨T, ty, hcl, -⟩ := cls_7
  refine va_astq (r := (CN 7, T, NT 7)) hx hb hK hP hD hS r.toNat t0 v.toNat 7 hwr ht hvwr hcl hin hd (fun H1 locs1 hP1 hD1 hS1 => ?_)
  have hxt := ext_set (e := .inl (cA, n, .inr (.inr (.inr (.inr (va_up g c1.toNatClampNeg (some av))))))) hwr
  refine k H1 locs1 ls st _ tys (ext_tr he hxt) hK hP1 hD1 hS1 (hRW.of (up_neg h0)) (wrel_set hw hwr hsr ?_ (fun k hk => up_ne (by omega))) (lrel_ext hxt hl) (srel_ext hxt hs)
  refine ⟨cA, _, t0, rfl, ht, fun j hj => ?_⟩
  rw [show ((r.toNat : Nat) : Int) = r by omega]
  unfold up va_up
  by_cases hji : (j : Int) = c1.toInt
  · rw [if_pos (by rw [tnc]; omega), if_pos ⟨rfl, hji⟩]
    exact hv0'
  · rw [if_neg (by rw [tnc]; omega), if_neg (fun z => hji z.2)]
    exact hgg j hj
theorem sm_aastoreL (C : Cx p s m args meth c base L xs ro mi) {r i v : Int} (hg : stArr sh [6] r i = true) (hvs : shAt sh v = some (0, 3)) (hd : decode (cOf mi) pc = .ok (.aastore, 1)) (k : Sm p l e R s m args below meth c Q D base L xs ro mi ws0 cells slots (pc + 1) pls pst sh (up w r i v)) : Sm p l e R s m args below meth c Q D base L xs ro mi ws0 cells slots pc pls (vR v :: vI i :: vR r :: pst) sh w := by
  intro H locs ls st ws tys he hK hP hD hS hRW hw hl hs
  obtain ⟨hx, hb, hml, hown, hts, hini, hbs, hL, hE⟩ := C
  have hs' := srel_cons hs
  clear hs
  obtain ⟨v0, st, rfl, hv0, hs⟩ := hs'
  have hs' := srel_cons hs
  clear hs
  obtain ⟨v1, st, rfl, ⟨c1, rfl, h1⟩, hs⟩ := hs'
  have hs' := srel_cons hs
  clear hs
  obtain ⟨v2, st, rfl, h2, hs⟩ := hs'
  subst h1
  obtain ⟨k0, n, hsx, hk0, hi0, hi1⟩ := stArr_spec hg
  obtain rfl : k0 = 6 := by simpa using hk0
  obtain ⟨a, e0, rfl, h0, hsr, hwr, cA, g, t0, rfl, ht, hgg⟩ := cell_at hw hsx h2
  have hv0' := hv0
  obtain ⟨av, ev, rfl, hv0n, hvsr, hvwr, fs, rfl, -⟩ := cell_at hw hvs hv0
  have hin : vp_in c1 n := vp_in_iff.mpr ⟨hi0, hi1⟩
  obtain ⟨T, ty, hcl, -⟩ := cls_3
  refine va_astq (r := (CN 3, T, NT 3)) hx hb hK hP hD hS r.toNat t0 v.toNat 3 hwr ht hvwr hcl hin hd (fun H1 locs1 hP1 hD1 hS1 => ?_)
  have hxt := ext_set (e := .inl (cA, n, .inr (.inr (.inr (.inr (va_up g c1.toNatClampNeg (some av))))))) hwr
  refine k H1 locs1 ls st _ tys (ext_tr he hxt) hK hP1 hD1 hS1 (hRW.of (up_neg h0)) (wrel_set hw hwr hsr ?_ (fun k hk => up_ne (by omega))) (lrel_ext hxt hl) (srel_ext hxt hs)
  refine ⟨cA, _, t0, rfl, ht, fun j hj => ?_⟩
  rw [show ((r.toNat : Nat) : Int) = r by omega]
  unfold up va_up
  by_cases hji : (j : Int) = c1.toInt
  · rw [if_pos (by rw [tnc]; omega), if_pos ⟨rfl, hji⟩]
    exact hv0'
  · rw [if_neg (by rw [tnc]; omega), if_neg (fun z => hji z.2)]
    exact hgg j hj
theorem sm_objInit (C : Cx p s m args meth c base L xs ro mi) {r : Int} {idx : Nat} (hr : r ≠ -1) (hst : pst.length ≤ 4) (hR : 1 ≤ R.frames ∧ 40 ≤ R.locals) (hm : Cond.methodLink (oOf mi) idx Lib.objectInit ∈ WT) (hd : decode (cOf mi) pc = .ok (.invokespecial idx, 3)) (k : Sm p l e R s m args below meth c Q D base L xs ro mi ws0 cells slots (pc + 3) pls pst sh w) : Sm p l e R s m args below meth c Q D base L xs ro mi ws0 cells slots pc pls (vR r :: pst) sh w := by
  intro H locs ls st ws tys he hK hP hD hS hRW hw hl hs
  obtain ⟨hx, hb, hml, hown, hts, hini, hbs, hL, hE⟩ := C
  have hs' := srel_cons hs
  clear hs
  obtain ⟨v2, st, rfl, h2, hs⟩ := hs'
  rcases h2 with ⟨z, -⟩ | ⟨h0, a, rfl, ha⟩
  · exact absurd z hr
  have hsl := srel_len hs
  have hcs := cat_sum st
  obtain ⟨lv, g1, -⟩ := id hl
  refine W.objInit hx hb hown (hts _ hm) (hts _ (WT_in (p := 86) (by decide +kernel) rfl)) (hts _ (tk_1 22 rfl rfl)) (g := F0 m pc ls (.ref a :: st)) rfl (g1.1.trans hml.symm) rfl hd hR.1 (by show 2 * 0 + _ + 12 ≤ _; omega) ?_
  exact k H locs ls _ ws tys he hK hP hD hS hRW hw hl hs
theorem sm_mmax (C : Cx p s m args meth c base L xs ro mi) {a b : Int} {idx : Nat} (hst : pst.length ≤ 4) (hR : 1 ≤ R.frames ∧ 40 ≤ R.locals) (hcs : cells ≤ R.cells ∧ slots ≤ R.slots) (hm : Cond.methodLink (oOf mi) idx Lib.Math.max.name ∈ WT) (hd : decode (cOf mi) pc = .ok (.invokestatic idx, 3)) (k : Sm p l e R s m args below meth c Q D base L xs ro mi ws0 cells slots (pc + 3) pls (vI (if a < b then b else a) :: pst) sh w) : Sm p l e R s m args below meth c Q D base L xs ro mi ws0 cells slots pc pls (vI b :: vI a :: pst) sh w := by
  intro H locs ls st ws tys he hK hP hD hS hRW hw hl hs
  obtain ⟨hx, hb, hml, hown, hts, hini, hbs, hL, hE⟩ := C
  have hs' := srel_cons hs
  clear hs
  obtain ⟨v1, st, rfl, ⟨c1, rfl, h1⟩, hs⟩ := hs'
  have hs' := srel_cons hs
  clear hs
  obtain ⟨v2, st, rfl, ⟨c2, rfl, h2⟩, hs⟩ := hs'
  subst h1 h2
  have hsl := srel_len hs
  have hcs2 := cat_sum st
  obtain ⟨lv, g1, -⟩ := id hl
  refine va_mmax hx hb (hml.trans g1.1.symm) hown (hts _ hm) (hts _ (WT_in (p := 288) (by decide +kernel) rfl)) (hts _ (WT_in (p := 76) (by decide +kernel) rfl)) (hts _ (tk_1 224 rfl rfl)) hR.1 (by omega) hcs.1 hcs.2 hd ?_
  exact k H locs ls _ ws tys he hK hP hD hS hRW hw hl ⟨⟨_, rfl, by rw [apply_ite Int32.toInt]; simp only [lt32]⟩, hs⟩
theorem sm_mmin (C : Cx p s m args meth c base L xs ro mi) {a b : Int} {idx : Nat} (hst : pst.length ≤ 4) (hR : 1 ≤ R.frames ∧ 40 ≤ R.locals) (hcs : cells ≤ R.cells ∧ slots ≤ R.slots) (hm : Cond.methodLink (oOf mi) idx Lib.Math.min.name ∈ WT) (hd : decode (cOf mi) pc = .ok (.invokestatic idx, 3)) (k : Sm p l e R s m args below meth c Q D base L xs ro mi ws0 cells slots (pc + 3) pls (vI (if b < a then b else a) :: pst) sh w) : Sm p l e R s m args below meth c Q D base L xs ro mi ws0 cells slots pc pls (vI b :: vI a :: pst) sh w := by
  intro H locs ls st ws tys he hK hP hD hS hRW hw hl hs
  obtain ⟨hx, hb, hml, hown, hts, hini, hbs, hL, hE⟩ := C
  have hs' := srel_cons hs
  clear hs
  obtain ⟨v1, st, rfl, ⟨c1, rfl, h1⟩, hs⟩ := hs'
  have hs' := srel_cons hs
  clear hs
  obtain ⟨v2, st, rfl, ⟨c2, rfl, h2⟩, hs⟩ := hs'
  subst h1 h2
  have hsl := srel_len hs
  have hcs2 := cat_sum st
  obtain ⟨lv, g1, -⟩ := id hl
  refine va_mmin hx hb (hml.trans g1.1.symm) hown (hts _ hm) (hts _ (WT_in (p := 365) (by decide +kernel) rfl)) (hts _ (WT_in (p := 76) (by decide +kernel) rfl)) (hts _ (tk_2 61 rfl rfl)) hR.1 (by omega) hcs.1 hcs.2 hd ?_
  exact k H locs ls _ ws tys he hK hP hD hS hRW hw hl ⟨⟨_, rfl, by rw [apply_ite Int32.toInt]; simp only [lt32]⟩, hs⟩
theorem sm_mabs (C : Cx p s m args meth c base L xs ro mi) {a : Int} {idx : Nat} (hst : pst.length ≤ 4) (hR : 1 ≤ R.frames ∧ 40 ≤ R.locals) (hcs : cells ≤ R.cells ∧ slots ≤ R.slots) (hm : Cond.methodLink (oOf mi) idx Lib.Math.abs.name ∈ WT) (hd : decode (cOf mi) pc = .ok (.invokestatic idx, 3)) (k : Sm p l e R s m args below meth c Q D base L xs ro mi ws0 cells slots (pc + 3) pls (vI (if 0 ≤ a then a else w32 (0 - a)) :: pst) sh w) : Sm p l e R s m args below meth c Q D base L xs ro mi ws0 cells slots pc pls (vI a :: pst) sh w := by
  intro H locs ls st ws tys he hK hP hD hS hRW hw hl hs
  obtain ⟨hx, hb, hml, hown, hts, hini, hbs, hL, hE⟩ := C
  have hs' := srel_cons hs
  clear hs
  obtain ⟨v1, st, rfl, ⟨c1, rfl, h1⟩, hs⟩ := hs'
  subst h1
  have hsl := srel_len hs
  have hcs2 := cat_sum st
  obtain ⟨lv, g1, -⟩ := id hl
  refine va_mabs hx hb (hml.trans g1.1.symm) hown (hts _ hm) (hts _ (WT_in (p := 493) (by decide +kernel) rfl)) (hts _ (WT_in (p := 76) (by decide +kernel) rfl)) (hts _ (tk_2 189 rfl rfl)) hR.1 (by omega) hcs.1 hcs.2 hd ?_
  exact k H locs ls _ ws tys he hK hP hD hS hRW hw hl ⟨⟨_, rfl, by rw [apply_ite Int32.toInt]; simp only [le32, Int32.toInt_sub]; rfl⟩, hs⟩
theorem sm_copy (C : Cx p s m args meth c base L xs ro mi) {sr d n sp dp : Int} {n0 n1 idx : Nat} (hs1 : shAt sh sr = some (1, n0)) (hd1 : shAt sh d = some (1, n1)) (hc : 0 ≤ n ∧ 0 ≤ sp ∧ 0 ≤ dp ∧ sp + n ≤ n0 ∧ dp + n ≤ n1 ∧ pst.length ≤ 4) (hR : 1 ≤ R.frames ∧ 40 ≤ R.locals) (hm : Cond.methodLink (oOf mi) idx arraycopyName ∈ WT) (hd : decode (cOf mi) pc = .ok (.invokestatic idx, 3)) (k : Sm p l e R s m args below meth c Q D base L xs ro mi ws0 cells slots (pc + 3) pls pst sh (fun a j => if a = d ∧ dp ≤ j ∧ j < dp + n then w sr (sp + (j - dp)) else w a j)) : Sm p l e R s m args below meth c Q D base L xs ro mi ws0 cells slots pc pls (vI n :: vI dp :: vR d :: vI sp :: vR sr :: pst) sh w := by
  intro H locs ls st ws tys he hK hP hD hS hRW hw hl hs
  obtain ⟨hx, hb, hml, hown, hts, hini, hbs, hL, hE⟩ := C
  have hs' := srel_cons hs
  clear hs
  obtain ⟨v1, st, rfl, ⟨c1, rfl, h1⟩, hs⟩ := hs'
  have hs' := srel_cons hs
  clear hs
  obtain ⟨v2, st, rfl, ⟨c2, rfl, h2⟩, hs⟩ := hs'
  have hs' := srel_cons hs
  clear hs
  obtain ⟨v3, st, rfl, h3, hs⟩ := hs'
  have hs' := srel_cons hs
  clear hs
  obtain ⟨v4, st, rfl, ⟨c4, rfl, h4⟩, hs⟩ := hs'
  have hs' := srel_cons hs
  clear hs
  obtain ⟨v5, st, rfl, h5, hs⟩ := hs'
  subst h1 h2 h4
  have hsl := srel_len hs
  have hcs2 := cat_sum st
  obtain ⟨lv, g1, -⟩ := id hl
  obtain ⟨ad, ed, rfl, hd0, hdsr, hdwr, cD, gD, tD, rfl, htD, hgD⟩ := cell_at hw hd1 h3
  obtain ⟨as, es, rfl, hs0, hssr, hswr, cS, gS, tS, rfl, htS, hgS⟩ := cell_at hw hs1 h5
  obtain ⟨hc1, hc2, hc3, hc4, hc5, hc6⟩ := hc
  refine va_copyi hx hb (hml.trans g1.1.symm) hown (hts _ hm) (hts _ (WT_in (p := 401) (by decide +kernel) rfl)) (hts _ (WT_in (p := 400) (by decide +kernel) rfl)) (hts _ (WT_in (p := 78) (by decide +kernel) rfl)) hK hP hD hS sr.toNat d.toNat tS tD hswr hdwr htS htD rfl (fun z => by rw [lt32] at z; have : (0 : Int32).toInt = 0 := rfl; omega) (fun z => by rw [lt32] at z; have : (0 : Int32).toInt = 0 := rfl; omega) (fun z => by rw [lt32] at z; have : (0 : Int32).toInt = 0 := rfl; omega) (by rw [tnc, tnc]; omega) (by rw [tnc, tnc]; omega) (fun i _ => rfl) hR.1 (by rw [show nativeFrameWords "java/lang/System" "arraycopy" 5 = 7 by decide]; omega) hd (fun H1 locs1 hP1 hD1 hS1 => ?_)
  have hxt := ext_set (e := .inl (cD, n1, .inl (va_cpy gS gD c4.toNatClampNeg c2.toNatClampNeg c1.toNatClampNeg))) hdwr
  refine k H1 locs1 ls st _ tys (ext_tr he hxt) hK hP1 hD1 hS1 (hRW.of (fun a ha => by funext j; rw [if_neg (fun z => by omega)])) (wrel_set hw hdwr hdsr ?_ (fun k hk => by funext j; rw [if_neg (fun z => by omega)])) (lrel_ext hxt hl) (srel_ext hxt hs)
  refine ⟨cD, _, tD, rfl, htD, fun j hj => ?_⟩
  rw [show ((d.toNat : Nat) : Int) = d by omega]
  unfold va_cpy
  rw [tnc, tnc, tnc]
  dsimp only
  by_cases hji : c2.toInt ≤ (j : Int) ∧ (j : Int) < c2.toInt + c1.toInt
  · rw [if_pos (by omega), if_pos ⟨rfl, hji⟩, hgS _ (by omega)]
    congr 1
    omega
  · rw [if_neg (by omega), if_neg (fun z => hji z.2)]
    exact hgD j hj
end SIM
